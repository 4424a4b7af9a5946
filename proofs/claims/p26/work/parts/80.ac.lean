/-! contracts (written by gen95.py) -/
theorem x6_143 : f60c xTc xTys xm_143 = true := by decide +kernel
theorem x6_144 : f60c xTc xTys xm_144 = true := by decide +kernel
theorem x6_147 : f60c xTc xTys xm_147 = true := by decide +kernel
abbrev wz_8a11b : List Nat := [207, 208, 209]
theorem x6_146 : f60c xTc xTys xm_146 = true := by decide +kernel
theorem rS_209_209_0_23_1_0 : frS gJ bsJ znJ [209] 100 ((209, 209), (0, 23), (1, 0), ((-2147483648), 2147483647)) := frS_dflt (by decide) (by decide +kernel)
theorem rL_209_209_0_23_1_0 : frL gJ bsJ 100 ((209, 209), (0, 23), (1, 0), ((-2147483648), 2147483647)) := frL_hull (by decide) (by decide +kernel)
theorem x6_145 : f60c xTc xTys xm_145 = true := by decide +kernel
abbrev wz_3d14b : List Nat := [210]
theorem x6_152 : f60c xTc xTys xm_152 = true := by decide +kernel
theorem rS_210_210_0_23_1_0 : frS gJ bsJ znJ [210] 100 ((210, 210), (0, 23), (1, 0), ((-2147483648), 2147483647)) := frS_dflt (by decide) (by decide +kernel)
theorem rL_210_210_0_23_1_0 : frL gJ bsJ 100 ((210, 210), (0, 23), (1, 0), ((-2147483648), 2147483647)) := frL_hull (by decide) (by decide +kernel)
theorem x6_151 : f60c xTc xTys xm_151 = true := by decide +kernel
theorem x6_150 : f60c xTc xTys xm_150 = true := by decide +kernel
abbrev wz_b4fc8 : List Nat := [207, 208, 210]
theorem x6_149 : f60c xTc xTys xm_149 = true := by decide +kernel
theorem x6_148 : f60c xTc xTys xm_148 = true := by decide +kernel
abbrev wz_a5b5b : List Nat := [26, 172, 174]
theorem x6_154 : f60c xTc xTys xm_154 = true := by decide +kernel
abbrev wz_9b72b : List Nat := [26, 172, 174, 207, 208, 210]
theorem x6_153 : f60c xTc xTys xm_153 = true := by decide +kernel
theorem x6_155 : f60c xTc xTys xm_155 = true := by decide +kernel
abbrev wz_65950 : List Nat := [706]
theorem rS_707_726_0_29_1_0 : frS gJ bsJ znJ [706] 100 ((707, 726), (0, 29), (1, 0), ((-2147483648), 2147483647)) := frS_dflt (by decide) (by decide +kernel)
theorem rgG_707_726 {o : Nat} (h1 : 707 ≤ o) (h2 : o ≤ 726) : gJ.1 o = some (100, 30) ∧ ∀ j, j < 30 → gJ.2 o j = none := frG_of (a0 := 707) (a1 := 726) (by decide +kernel) h1 h2
abbrev wz_12c7f : List Nat := [704, 705, 706]
theorem x6_157 : f60c xTc xTys xm_157 = true := by decide +kernel
theorem x6_156 : f60c xTc xTys xm_156 = true := by decide +kernel
abbrev wz_c0410 : List Nat := [744, 745, 746]
theorem x6_438 : f60c xTc xTys xm_438 = true := by decide +kernel
theorem rS_744_744_0_19_1_0 : frS gJ bsJ znJ [744] 100 ((744, 744), (0, 19), (1, 0), ((-2147483648), 2147483647)) := frS_dflt (by decide) (by decide +kernel)
theorem rS_745_745_0_19_1_0 : frS gJ bsJ znJ [745] 100 ((745, 745), (0, 19), (1, 0), (0, 30)) := frS_of (by decide +kernel)
theorem rL_745_745_0_19_1_0 : frL gJ bsJ 100 ((745, 745), (0, 19), (1, 0), (0, 30)) := frL_of (by decide +kernel)
theorem rS_746_746_0_599_1_0 : frS gJ bsJ znJ [746] 100 ((746, 746), (0, 599), (1, 0), ((-2147483648), 2147483647)) := frS_dflt (by decide) (by decide +kernel)
theorem x6_160 : f60c xTc xTys xm_160 = true := by decide +kernel
theorem rL_705_705_0_19_1_0 : frL gJ bsJ 100 ((705, 705), (0, 19), (1, 0), (0, 30)) := frL_of (by decide +kernel)
theorem x6_159 : f60c xTc xTys xm_159 = true := by decide +kernel
theorem rL_704_704_0_19_1_0 : frL gJ bsJ 100 ((704, 704), (0, 19), (1, 0), ((-2147483648), 2147483647)) := frL_hull (by decide) (by decide +kernel)
theorem x6_158 : f60c xTc xTys xm_158 = true := by decide +kernel
abbrev wz_efa23 : List Nat := [746]
theorem x6_439 : f60c xTc xTys xm_439 = true := by decide +kernel
theorem rL_744_744_0_19_1_0 : frL gJ bsJ 100 ((744, 744), (0, 19), (1, 0), ((-2147483648), 2147483647)) := frL_hull (by decide) (by decide +kernel)
theorem x6_163 : f60c xTc xTys xm_163 = true := by decide +kernel
theorem rL_707_726_0_29_1_0 : frL gJ bsJ 100 ((707, 726), (0, 29), (1, 0), ((-2147483648), 2147483647)) := frL_hull (by decide) (by decide +kernel)
theorem x6_162 : f60c xTc xTys xm_162 = true := by decide +kernel
theorem x6_161 : f60c xTc xTys xm_161 = true := by decide +kernel
theorem x6_442 : f60c xTc xTys xm_442 = true := by decide +kernel
theorem rL_746_746_0_599_1_0 : frL gJ bsJ 100 ((746, 746), (0, 599), (1, 0), ((-2147483648), 2147483647)) := frL_hull (by decide) (by decide +kernel)
theorem x6_441 : f60c xTc xTys xm_441 = true := by decide +kernel
theorem x6_440 : f60c xTc xTys xm_440 = true := by decide +kernel
theorem x6_165 : f60c xTc xTys xm_165 = true := by decide +kernel
theorem x6_164 : f60c xTc xTys xm_164 = true := by decide +kernel
theorem x6_443 : f60c xTc xTys xm_443 = true := by decide +kernel
theorem x6_168 : f60c xTc xTys xm_168 = true := by decide +kernel
theorem x6_167 : f60c xTc xTys xm_167 = true := by decide +kernel
theorem x6_166 : f60c xTc xTys xm_166 = true := by decide +kernel
abbrev wz_25294 : List Nat := [746, 753]
theorem x6_444 : f60c xTc xTys xm_444 = true := by decide +kernel
theorem rS_753_753_0_29_1_0 : frS gJ bsJ znJ [753] 100 ((753, 753), (0, 29), (1, 0), ((-2147483648), 2147483647)) := frS_dflt (by decide) (by decide +kernel)
theorem rL_753_753_0_29_1_0 : frL gJ bsJ 100 ((753, 753), (0, 29), (1, 0), ((-2147483648), 2147483647)) := frL_hull (by decide) (by decide +kernel)
abbrev wz_9f933 : List Nat := [212]
theorem rL_213_220_0_11_1_0 : frL gJ bsJ 100 ((213, 220), (0, 11), (1, 0), ((-2147483648), 2147483647)) := frL_hull (by decide) (by decide +kernel)
theorem rS_213_220_0_11_1_0 : frS gJ bsJ znJ [212] 100 ((213, 220), (0, 11), (1, 0), ((-2147483648), 2147483647)) := frS_dflt (by decide) (by decide +kernel)
theorem x6_169 : f60c xTc xTys xm_169 = true := by decide +kernel
abbrev wz_663b8 : List Nat := [20830]
theorem rL_741_741_4400_4495_12_11 : frL gJ bsJ 100 ((741, 741), (4400, 4495), (12, 11), ((-2147483648), 2147483647)) := frL_hull (by decide) (by decide +kernel)
theorem rS_741_741_4400_4495_12_11 : frS gJ bsJ znJ [20830] 100 ((741, 741), (4400, 4495), (12, 11), ((-2147483648), 2147483647)) := frS_of (by decide +kernel)
theorem x6_447 : f60c xTc xTys xm_447 = true := by decide +kernel
theorem x6_446 : f60c xTc xTys xm_446 = true := by decide +kernel
theorem x6_445 : f60c xTc xTys xm_445 = true := by decide +kernel
theorem x6_172 : f60c xTc xTys xm_172 = true := by decide +kernel
theorem rL_221_221_0_7_1_0 : frL gJ bsJ 100 ((221, 221), (0, 7), (1, 0), ((-2147483648), 2147483647)) := frL_hull (by decide) (by decide +kernel)
theorem x6_171 : f60c xTc xTys xm_171 = true := by decide +kernel
theorem x6_499 : f60c xTc xTys xm_499 = true := by decide +kernel
abbrev wz_ae6a8 : List Nat := [221]
theorem x6_170 : f60c xTc xTys xm_170 = true := by decide +kernel
theorem rS_221_221_0_7_1_0 : frS gJ bsJ znJ [221] 100 ((221, 221), (0, 7), (1, 0), ((-2147483648), 2147483647)) := frS_dflt (by decide) (by decide +kernel)
theorem x6_449 : f60c xTc xTys xm_449 = true := by decide +kernel
theorem rL_741_741_4500_4507_1_0 : frL gJ bsJ 100 ((741, 741), (4500, 4507), (1, 0), ((-2147483648), 2147483647)) := frL_hull (by decide) (by decide +kernel)
theorem x6_450 : f60c xTc xTys xm_450 = true := by decide +kernel
abbrev wz_1ea73 : List Nat := [20831]
theorem x6_448 : f60c xTc xTys xm_448 = true := by decide +kernel
theorem rS_741_741_4500_4507_1_0 : frS gJ bsJ znJ [20831] 100 ((741, 741), (4500, 4507), (1, 0), ((-2147483648), 2147483647)) := frS_of (by decide +kernel)
theorem x6_175 : f60c xTc xTys xm_175 = true := by decide +kernel
theorem x6_174 : f60c xTc xTys xm_174 = true := by decide +kernel
theorem x6_173 : f60c xTc xTys xm_173 = true := by decide +kernel
theorem x6_452 : f60c xTc xTys xm_452 = true := by decide +kernel
theorem x6_451 : f60c xTc xTys xm_451 = true := by decide +kernel
abbrev wz_0e223 : List Nat := [222]
theorem rL_222_222_0_47_1_0 : frL gJ bsJ 100 ((222, 222), (0, 47), (1, 0), ((-2147483648), 2147483647)) := frL_hull (by decide) (by decide +kernel)
theorem rS_222_222_0_47_1_0 : frS gJ bsJ znJ [222] 100 ((222, 222), (0, 47), (1, 0), ((-2147483648), 2147483647)) := frS_dflt (by decide) (by decide +kernel)
theorem x6_176 : f60c xTc xTys xm_176 = true := by decide +kernel
abbrev wz_c7e2d : List Nat := [20832]
theorem rL_741_741_4510_4557_1_0 : frL gJ bsJ 100 ((741, 741), (4510, 4557), (1, 0), ((-2147483648), 2147483647)) := frL_hull (by decide) (by decide +kernel)
theorem rS_741_741_4510_4557_1_0 : frS gJ bsJ znJ [20832] 100 ((741, 741), (4510, 4557), (1, 0), ((-2147483648), 2147483647)) := frS_of (by decide +kernel)
theorem x6_453 : f60c xTc xTys xm_453 = true := by decide +kernel
theorem x6_180 : f60c xTc xTys xm_180 = true := by decide +kernel
abbrev wz_2d739 : List Nat := [728, 729, 11900]
theorem x6_184 : f60c xTc xTys xm_184 = true := by decide +kernel
theorem rL_729_729_0_23_1_0 : frL gJ bsJ 100 ((729, 729), (0, 23), (1, 0), ((-2147483648), 2147483647)) := frL_hull (by decide) (by decide +kernel)
theorem rL_731_731_0_48_1_0 : frL gJ bsJ 100 ((731, 731), (0, 48), (1, 0), ((-2147483648), 2147483647)) := frL_hull (by decide) (by decide +kernel)
theorem rL_728_728_0_23_1_0 : frL gJ bsJ 100 ((728, 728), (0, 23), (1, 0), ((-2147483648), 2147483647)) := frL_hull (by decide) (by decide +kernel)
theorem rS_728_728_0_23_1_0 : frS gJ bsJ znJ [728] 100 ((728, 728), (0, 23), (1, 0), ((-2147483648), 2147483647)) := frS_dflt (by decide) (by decide +kernel)
theorem rS_729_729_0_23_1_0 : frS gJ bsJ znJ [729] 100 ((729, 729), (0, 23), (1, 0), ((-2147483648), 2147483647)) := frS_dflt (by decide) (by decide +kernel)
theorem fb_727_7 : bsJ 727 7 = ((-2147483648), 2147483647) := by decide +kernel
theorem fb_727_0 : bsJ 727 0 = ((-2147483648), 2147483647) := by decide +kernel
abbrev wz_06305 : List Nat := [728, 729, 731]
theorem x6_179 : f60c xTc xTys xm_179 = true := by decide +kernel
theorem fb_727_6 : bsJ 727 6 = (0, 48) := by decide +kernel
theorem rS_731_731_0_48_1_0 : frS gJ bsJ znJ [731] 100 ((731, 731), (0, 48), (1, 0), ((-2147483648), 2147483647)) := frS_dflt (by decide) (by decide +kernel)
theorem x6_182 : f60c xTc xTys xm_182 = true := by decide +kernel
abbrev wz_01654 : List Nat := [730]
theorem x6_181 : f60c xTc xTys xm_181 = true := by decide +kernel
theorem rS_730_730_0_23_1_0 : frS gJ bsJ znJ [730] 100 ((730, 730), (0, 23), (1, 0), ((-2147483648), 2147483647)) := frS_dflt (by decide) (by decide +kernel)
abbrev wz_f185d : List Nat := [728, 730]
theorem x6_183 : f60c xTc xTys xm_183 = true := by decide +kernel
theorem rL_730_730_0_23_1_0 : frL gJ bsJ 100 ((730, 730), (0, 23), (1, 0), ((-2147483648), 2147483647)) := frL_hull (by decide) (by decide +kernel)
abbrev wz_81562 : List Nat := [728, 729, 730, 731, 11900, 11901, 11906, 11907]
theorem x6_178 : f60c xTc xTys xm_178 = true := by decide +kernel
theorem fb_727_1 : bsJ 727 1 = ((-2147483648), 2147483647) := by decide +kernel
theorem x6_177 : f60c xTc xTys xm_177 = true := by decide +kernel
theorem x6_458 : f60c xTc xTys xm_458 = true := by decide +kernel
theorem x6_456 : f60c xTc xTys xm_456 = true := by decide +kernel
theorem x6_185 : f60c xTc xTys xm_185 = true := by decide +kernel
abbrev wz_2a2bc : List Nat := [223]
theorem rL_223_223_0_3_1_0 : frL gJ bsJ 100 ((223, 223), (0, 3), (1, 0), (0, 99)) := frL_of (by decide +kernel)
theorem rS_223_223_0_3_1_0 : frS gJ bsJ znJ [223] 100 ((223, 223), (0, 3), (1, 0), (0, 99)) := frS_of (by decide +kernel)
theorem x6_186 : f60c xTc xTys xm_186 = true := by decide +kernel
abbrev wz_0a5ca : List Nat := [20833]
theorem rL_741_741_4560_4563_1_0 : frL gJ bsJ 100 ((741, 741), (4560, 4563), (1, 0), (0, 99)) := frL_of (by decide +kernel)
theorem rS_741_741_4560_4563_1_0 : frS gJ bsJ znJ [20833] 100 ((741, 741), (4560, 4563), (1, 0), (0, 99)) := frS_of (by decide +kernel)
theorem x6_462 : f60c xTc xTys xm_462 = true := by decide +kernel
abbrev wz_e3030 : List Nat := [224]
theorem rL_225_248_0_3_1_0 : frL gJ bsJ 100 ((225, 248), (0, 3), (1, 0), ((-2147483648), 2147483647)) := frL_hull (by decide) (by decide +kernel)
theorem rS_225_248_0_3_1_0 : frS gJ bsJ znJ [224] 100 ((225, 248), (0, 3), (1, 0), ((-2147483648), 2147483647)) := frS_dflt (by decide) (by decide +kernel)
theorem x6_187 : f60c xTc xTys xm_187 = true := by decide +kernel
abbrev wz_ad4fa : List Nat := [20834]
theorem rL_741_741_4570_4665_4_3 : frL gJ bsJ 100 ((741, 741), (4570, 4665), (4, 3), (0, 999)) := frL_of (by decide +kernel)
theorem rS_741_741_4570_4665_4_3 : frS gJ bsJ znJ [20834] 100 ((741, 741), (4570, 4665), (4, 3), (0, 999)) := frS_of (by decide +kernel)
theorem x6_463 : f60c xTc xTys xm_463 = true := by decide +kernel
abbrev wz_61c55 : List Nat := [733, 734]
theorem x6_190 : f60c xTc xTys xm_190 = true := by decide +kernel
theorem rS_733_733_0_300_1_0 : frS gJ bsJ znJ [733] 100 ((733, 733), (0, 300), (1, 0), ((-2147483648), 2147483647)) := frS_dflt (by decide) (by decide +kernel)
theorem rS_734_734_0_300_1_0 : frS gJ bsJ znJ [734] 101 ((734, 734), (0, 300), (1, 0), ((-9223372036854775808), 9223372036854775807)) := frS_of (by decide +kernel)
theorem rL_733_733_0_300_1_0 : frL gJ bsJ 100 ((733, 733), (0, 300), (1, 0), ((-2147483648), 2147483647)) := frL_hull (by decide) (by decide +kernel)
theorem rL_734_734_0_300_1_0 : frL gJ bsJ 101 ((734, 734), (0, 300), (1, 0), ((-9223372036854775808), 9223372036854775807)) := frL_hull (by decide) (by decide +kernel)
theorem x6_189 : f60c xTc xTys xm_189 = true := by decide +kernel
theorem x6_188 : f60c xTc xTys xm_188 = true := by decide +kernel
theorem x6_465 : f60c xTc xTys xm_465 = true := by decide +kernel
theorem x6_192 : f60c xTc xTys xm_192 = true := by decide +kernel
theorem x6_191 : f60c xTc xTys xm_191 = true := by decide +kernel
theorem x6_193 : f60c xTc xTys xm_193 = true := by decide +kernel
theorem x6_470 : f60c xTc xTys xm_470 = true := by decide +kernel
theorem rL_741_741_42_427_20_5 : frL gJ bsJ 100 ((741, 741), (42, 427), (20, 5), ((-2147483648), 2147483647)) := frL_hull (by decide) (by decide +kernel)
abbrev wz_f0603 : List Nat := [249, 250, 251, 10608]
theorem x6_195 : f60c xTc xTys xm_195 = true := by decide +kernel
theorem fb_211_8 : bsJ 211 8 = (0, 6) := by decide +kernel
theorem rS_249_249_0_5_1_0 : frS gJ bsJ znJ [249] 100 ((249, 249), (0, 5), (1, 0), ((-2147483648), 2147483647)) := frS_dflt (by decide) (by decide +kernel)
theorem rS_250_250_0_5_1_0 : frS gJ bsJ znJ [250] 100 ((250, 250), (0, 5), (1, 0), ((-2147483648), 2147483647)) := frS_dflt (by decide) (by decide +kernel)
theorem rS_251_251_0_5_1_0 : frS gJ bsJ znJ [251] 100 ((251, 251), (0, 5), (1, 0), ((-2147483648), 2147483647)) := frS_dflt (by decide) (by decide +kernel)
theorem x6_194 : f60c xTc xTys xm_194 = true := by decide +kernel
abbrev wz_ac3fb : List Nat := [20010, 20800, 20801, 20802]
theorem x6_471 : f60c xTc xTys xm_471 = true := by decide +kernel
theorem rL_741_741_10_10_1_0 : frL gJ bsJ 100 ((741, 741), (10, 10), (1, 0), (0, 6)) := frL_of (by decide +kernel)
theorem rS_741_741_4330_4345_3_0 : frS gJ bsJ znJ [20800] 100 ((741, 741), (4330, 4345), (3, 0), ((-2147483648), 2147483647)) := frS_of (by decide +kernel)
theorem rS_741_741_4331_4346_3_0 : frS gJ bsJ znJ [20801] 100 ((741, 741), (4331, 4346), (3, 0), ((-2147483648), 2147483647)) := frS_of (by decide +kernel)
theorem rS_741_741_4332_4347_3_0 : frS gJ bsJ znJ [20802] 100 ((741, 741), (4332, 4347), (3, 0), ((-2147483648), 2147483647)) := frS_of (by decide +kernel)
theorem rS_741_741_10_10_1_0 : frS gJ bsJ znJ [20010] 100 ((741, 741), (10, 10), (1, 0), (0, 6)) := frS_of (by decide +kernel)
theorem x6_500 : f60c xTc xTys xm_500 = true := by decide +kernel
theorem x6_197 : f60c xTc xTys xm_197 = true := by decide +kernel
theorem rL_250_250_0_5_1_0 : frL gJ bsJ 100 ((250, 250), (0, 5), (1, 0), ((-2147483648), 2147483647)) := frL_hull (by decide) (by decide +kernel)
theorem rL_251_251_0_5_1_0 : frL gJ bsJ 100 ((251, 251), (0, 5), (1, 0), ((-2147483648), 2147483647)) := frL_hull (by decide) (by decide +kernel)
theorem rL_249_249_0_5_1_0 : frL gJ bsJ 100 ((249, 249), (0, 5), (1, 0), ((-2147483648), 2147483647)) := frL_hull (by decide) (by decide +kernel)
theorem x6_196 : f60c xTc xTys xm_196 = true := by decide +kernel
theorem x6_472 : f60c xTc xTys xm_472 = true := by decide +kernel
theorem rL_741_741_4331_4346_3_0 : frL gJ bsJ 100 ((741, 741), (4331, 4346), (3, 0), ((-2147483648), 2147483647)) := frL_hull (by decide) (by decide +kernel)
theorem rL_741_741_4332_4347_3_0 : frL gJ bsJ 100 ((741, 741), (4332, 4347), (3, 0), ((-2147483648), 2147483647)) := frL_hull (by decide) (by decide +kernel)
theorem rL_741_741_4330_4345_3_0 : frL gJ bsJ 100 ((741, 741), (4330, 4345), (3, 0), ((-2147483648), 2147483647)) := frL_hull (by decide) (by decide +kernel)
abbrev wz_8f79a : List Nat := [252, 253, 10611]
theorem x6_199 : f60c xTc xTys xm_199 = true := by decide +kernel
theorem fb_211_11 : bsJ 211 11 = (0, 10) := by decide +kernel
theorem rS_252_252_0_9_1_0 : frS gJ bsJ znJ [252] 100 ((252, 252), (0, 9), (1, 0), ((-2147483648), 2147483647)) := frS_dflt (by decide) (by decide +kernel)
theorem rS_253_253_0_9_1_0 : frS gJ bsJ znJ [253] 100 ((253, 253), (0, 9), (1, 0), ((-2147483648), 2147483647)) := frS_dflt (by decide) (by decide +kernel)
theorem x6_198 : f60c xTc xTys xm_198 = true := by decide +kernel
abbrev wz_78ec0 : List Nat := [20011, 20810, 20811]
theorem x6_473 : f60c xTc xTys xm_473 = true := by decide +kernel
theorem rL_741_741_11_11_1_0 : frL gJ bsJ 100 ((741, 741), (11, 11), (1, 0), (0, 10)) := frL_of (by decide +kernel)
theorem rS_741_741_4350_4368_2_0 : frS gJ bsJ znJ [20810] 100 ((741, 741), (4350, 4368), (2, 0), ((-2147483648), 2147483647)) := frS_of (by decide +kernel)
theorem rS_741_741_4351_4369_2_0 : frS gJ bsJ znJ [20811] 100 ((741, 741), (4351, 4369), (2, 0), ((-2147483648), 2147483647)) := frS_of (by decide +kernel)
theorem rS_741_741_11_11_1_0 : frS gJ bsJ znJ [20011] 100 ((741, 741), (11, 11), (1, 0), (0, 10)) := frS_of (by decide +kernel)
theorem x6_202 : f60c xTc xTys xm_202 = true := by decide +kernel
theorem rL_252_252_0_9_1_0 : frL gJ bsJ 100 ((252, 252), (0, 9), (1, 0), ((-2147483648), 2147483647)) := frL_hull (by decide) (by decide +kernel)
theorem rL_253_253_0_9_1_0 : frL gJ bsJ 100 ((253, 253), (0, 9), (1, 0), ((-2147483648), 2147483647)) := frL_hull (by decide) (by decide +kernel)
theorem x6_201 : f60c xTc xTys xm_201 = true := by decide +kernel
theorem x6_200 : f60c xTc xTys xm_200 = true := by decide +kernel
theorem x6_474 : f60c xTc xTys xm_474 = true := by decide +kernel
theorem rL_741_741_4350_4368_2_0 : frL gJ bsJ 100 ((741, 741), (4350, 4368), (2, 0), ((-2147483648), 2147483647)) := frL_hull (by decide) (by decide +kernel)
theorem rL_741_741_4351_4369_2_0 : frL gJ bsJ 100 ((741, 741), (4351, 4369), (2, 0), ((-2147483648), 2147483647)) := frL_hull (by decide) (by decide +kernel)
abbrev wz_84712 : List Nat := [254, 255, 256, 10615]
theorem x6_204 : f60c xTc xTys xm_204 = true := by decide +kernel
theorem fb_211_15 : bsJ 211 15 = (0, 7) := by decide +kernel
theorem rS_254_254_0_6_1_0 : frS gJ bsJ znJ [254] 100 ((254, 254), (0, 6), (1, 0), ((-2147483648), 2147483647)) := frS_dflt (by decide) (by decide +kernel)
theorem rS_255_255_0_6_1_0 : frS gJ bsJ znJ [255] 100 ((255, 255), (0, 6), (1, 0), ((-2147483648), 2147483647)) := frS_dflt (by decide) (by decide +kernel)
theorem rS_256_256_0_6_1_0 : frS gJ bsJ znJ [256] 100 ((256, 256), (0, 6), (1, 0), ((-2147483648), 2147483647)) := frS_dflt (by decide) (by decide +kernel)
theorem x6_203 : f60c xTc xTys xm_203 = true := by decide +kernel
abbrev wz_526cb : List Nat := [20012, 20820, 20821, 20822]
theorem x6_475 : f60c xTc xTys xm_475 = true := by decide +kernel
theorem rL_741_741_12_12_1_0 : frL gJ bsJ 100 ((741, 741), (12, 12), (1, 0), (0, 7)) := frL_of (by decide +kernel)
theorem rS_741_741_4370_4388_3_0 : frS gJ bsJ znJ [20820] 100 ((741, 741), (4370, 4388), (3, 0), ((-2147483648), 2147483647)) := frS_of (by decide +kernel)
theorem rS_741_741_4371_4389_3_0 : frS gJ bsJ znJ [20821] 100 ((741, 741), (4371, 4389), (3, 0), ((-2147483648), 2147483647)) := frS_of (by decide +kernel)
theorem rS_741_741_4372_4390_3_0 : frS gJ bsJ znJ [20822] 100 ((741, 741), (4372, 4390), (3, 0), ((-2147483648), 2147483647)) := frS_of (by decide +kernel)
theorem rS_741_741_12_12_1_0 : frS gJ bsJ znJ [20012] 100 ((741, 741), (12, 12), (1, 0), (0, 7)) := frS_of (by decide +kernel)
abbrev wz_c325e : List Nat := [736, 12104]
theorem x6_215 : f60c xTc xTys xm_215 = true := by decide +kernel
theorem fb_735_4 : bsJ 735 4 = ((-2147483648), 2147483647) := by decide +kernel
theorem x6_207 : f60c xTc xTys xm_207 = true := by decide +kernel
abbrev wz_7628e : List Nat := [736, 737, 12103, 12104]
theorem x6_208 : f60c xTc xTys xm_208 = true := by decide +kernel
theorem fb_735_3 : bsJ 735 3 = ((-2147483648), 2147483647) := by decide +kernel
theorem rL_256_256_0_6_1_0 : frL gJ bsJ 100 ((256, 256), (0, 6), (1, 0), ((-2147483648), 2147483647)) := frL_hull (by decide) (by decide +kernel)
theorem rS_737_737_0_6_1_0 : frS gJ bsJ znJ [737] 100 ((737, 737), (0, 6), (1, 0), (0, 6)) := frS_of (by decide +kernel)
theorem rL_254_254_0_6_1_0 : frL gJ bsJ 100 ((254, 254), (0, 6), (1, 0), ((-2147483648), 2147483647)) := frL_hull (by decide) (by decide +kernel)
theorem rL_255_255_0_6_1_0 : frL gJ bsJ 100 ((255, 255), (0, 6), (1, 0), ((-2147483648), 2147483647)) := frL_hull (by decide) (by decide +kernel)
theorem fb_735_2 : bsJ 735 2 = ((-2147483648), 2147483647) := by decide +kernel
theorem x6_209 : f60c xTc xTys xm_209 = true := by decide +kernel
theorem x6_210 : f60c xTc xTys xm_210 = true := by decide +kernel
theorem x6_211 : f60c xTc xTys xm_211 = true := by decide +kernel
theorem x6_212 : f60c xTc xTys xm_212 = true := by decide +kernel
section CT
variable {ρ : Nat → Int32} {base n : Nat} {F : Nat → Prop} {D : va_G} {dA : Nat → ClassId} {la : Launch}
set_option maxRecDepth 8000 in
theorem ct_X_may_176e4 {I : fH} {x1 : Int} {x2 : Int} {x3 : Int} (h0 : fB bsJ I) (ha1 : ((-2147483648) ≤ x1 ∧ x1 ≤ 2147483647)) (ha2 : ((-2147483648) ≤ x2 ∧ x2 ≤ 2147483647)) (ha3 : ((-2147483648) ≤ x3 ∧ x3 ≤ 2147483647)) : fC ρ base n F xTc vwCl xTys D dA la gJ (fbz bsJ znJ (fKc wz_7d09b) I) xm_143 [.inr (.inr (some 0)), .inl x1, .inl x2, .inl x3] I (fun _ r => ∃ z, r = some (.inl z) ∧ ((0 ≤ z ∧ z ≤ 1) ∨ z = (-1000000001))) := by
  have hW : fzs wz_7d09b (fKc wz_7d09b) := fKc_ok _
  refine f_meth (rb := rbJ) (J := []) 1 400 xG xin_143 x6_143 okJ (fB_self h0) ?_ ?_
  · exact fun q h => absurd h List.not_mem_nil
  · have hB0 := fB_self (zn := znJ) (K := fKc wz_7d09b) h0
    refine And.intro (by omega) (And.intro ?_ ?_)
    · intro c1
      refine Exists.intro xm_13 (And.intro mi_13 (And.intro ⟨rfl, rfl, rfl, rfl⟩ (And.intro True.intro ?_)))
      refine fcallp hB0 (ct_X_within_c27b1 (fBz h0 hB0) (by omega) (by omega) (by omega)) ?_
      rintro _ ⟨z2, rfl, hz2⟩
      refine And.intro (by omega) (And.intro ?_ ?_)
      · intro c3
        refine And.intro (True.intro) ?_
        exact ⟨_, rfl, by omega⟩
      · intro c4
        refine And.intro ⟨rfl, by decide, by decide⟩ ?_
        refine Exists.intro xm_27 (And.intro mi_27 (And.intro ⟨rfl, rfl, rfl, rfl⟩ (And.intro rfl ?_)))
        refine fcallp hB0 (ct_City_isPerson_ff059 (fBz h0 hB0) (by omega)) ?_
        rintro _ ⟨z5, rfl, hz5⟩
        refine And.intro (by omega) (And.intro ?_ ?_)
        · intro c6
          refine And.intro (True.intro) ?_
          exact ⟨_, rfl, by omega⟩
        · intro c7
          refine And.intro ⟨rfl, by decide, by decide⟩ ?_
          refine And.intro ⟨rfl, by decide, by decide⟩ ?_
          refine Exists.intro xm_21 (And.intro mi_21 (And.intro ⟨rfl, rfl, rfl, rfl⟩ (And.intro rfl ?_)))
          refine fcallp hB0 (ct_People_isDead_edb17 (fBz h0 hB0) (by omega)) ?_
          rintro _ ⟨z8, rfl, hz8⟩
          refine And.intro (by omega) (And.intro ?_ ?_)
          · intro c9
            refine And.intro (by omega) (And.intro ?_ ?_)
            · intro c10
              refine And.intro ⟨rfl, by decide, by decide⟩ ?_
              refine Exists.intro xm_26 (And.intro mi_26 (And.intro ⟨rfl, rfl, rfl, rfl⟩ (And.intro rfl ?_)))
              refine fcallp hB0 (ct_City_isLock_bc0fd (fBz h0 hB0) (by omega)) ?_
              rintro _ ⟨z11, rfl, hz11⟩
              refine And.intro (by omega) (And.intro ?_ ?_)
              · intro c12
                refine And.intro ⟨rfl, by decide, by decide⟩ ?_
                refine And.intro ⟨rfl, by decide, by decide⟩ ?_
                refine Exists.intro xm_28 (And.intro mi_28 (And.intro ⟨rfl, rfl, rfl, rfl⟩ (And.intro rfl ?_)))
                refine fcall _ h0 (fzs_sub (by decide +kernel) hW) hB0 (ct_Charter_mayOpen_c7558 (fBz h0 hB0) (by omega) (by omega)) ?_
                rintro IhB14 _ hB14 fhB14 ⟨z13, rfl, hz13⟩
                refine And.intro (by omega) (And.intro ?_ ?_)
                · intro c15
                  refine And.intro (True.intro) ?_
                  exact ⟨_, rfl, by omega⟩
                · intro c16
                  refine And.intro (True.intro) ?_
                  exact ⟨_, rfl, by omega⟩
              · intro c17
                refine And.intro (True.intro) ?_
                exact ⟨_, rfl, by omega⟩
            · intro c18
              refine And.intro ⟨rfl, by decide, by decide⟩ ?_
              refine And.intro ⟨rfl, by decide, by decide⟩ ?_
              refine Exists.intro xm_137 (And.intro mi_137 (And.intro ⟨rfl, rfl, rfl, rfl⟩ (And.intro rfl ?_)))
              refine fcall _ h0 (fzs_sub (by decide +kernel) hW) hB0 (ct_Charter_mayVote_6ee33 (fBz h0 hB0) (by omega)) ?_
              rintro IhB20 _ hB20 fhB20 ⟨z19, rfl, hz19⟩
              refine And.intro (by omega) (And.intro ?_ ?_)
              · intro c21
                refine And.intro (True.intro) ?_
                exact ⟨_, rfl, by omega⟩
              · intro c22
                refine And.intro (True.intro) ?_
                exact ⟨_, rfl, by omega⟩
          · intro c23
            refine And.intro (True.intro) ?_
            exact ⟨_, rfl, by omega⟩
    · intro c24
      refine And.intro ⟨rfl, by decide, by decide⟩ ?_
      refine And.intro ⟨rfl, by decide, by decide⟩ ?_
      refine Exists.intro xm_104 (And.intro mi_104 (And.intro ⟨rfl, rfl, rfl, rfl⟩ (And.intro rfl ?_)))
      refine fcall _ h0 (fzs_sub (by decide +kernel) hW) hB0 (ct_Charter_mayBeBorn_dcbbd (fBz h0 hB0)) ?_
      rintro IhB26 _ hB26 fhB26 ⟨z25, rfl, hz25⟩
      refine And.intro (by omega) (And.intro ?_ ?_)
      · intro c27
        refine And.intro (True.intro) ?_
        exact ⟨_, rfl, by omega⟩
      · intro c28
        refine And.intro (True.intro) ?_
        exact ⟨_, rfl, by omega⟩
set_option maxRecDepth 8000 in
theorem ct_X_why_3ef58 {I : fH} {x1 : Int} (h0 : fB bsJ I) (ha1 : ((-2147483648) ≤ x1 ∧ x1 ≤ 2147483647)) : fC ρ base n F xTc vwCl xTys D dA la gJ (fbz bsJ znJ (fKc []) I) xm_144 [.inr (.inr (some 0)), .inl x1] I (fun _ r => ∃ z, r = some (.inl z) ∧ ((0 ≤ z ∧ z ≤ 11) ∨ z = (-1000000005) ∨ z = (-1000000001))) := by
  have hW : fzs [] (fKc []) := fKc_ok _
  refine f_meth (rb := rbJ) (J := []) 1 400 xG xin_144 x6_144 okJ (fB_self h0) ?_ ?_
  · exact fun q h => absurd h List.not_mem_nil
  · have hB0 := fB_self (zn := znJ) (K := fKc []) h0
    refine Exists.intro xm_13 (And.intro mi_13 (And.intro ⟨rfl, rfl, rfl, rfl⟩ (And.intro True.intro ?_)))
    refine fcallp hB0 (ct_X_within_c27b1 (fBz h0 hB0) (by omega) (by omega) (by omega)) ?_
    rintro _ ⟨z1, rfl, hz1⟩
    refine And.intro (by omega) (And.intro ?_ ?_)
    · intro c2
      refine And.intro (True.intro) ?_
      exact ⟨_, rfl, by omega⟩
    · intro c3
      refine And.intro ⟨rfl, by decide, by decide⟩ ?_
      refine And.intro ⟨rfl, by decide, by decide⟩ ?_
      refine Exists.intro xm_32 (And.intro mi_32 (And.intro ⟨rfl, rfl, rfl, rfl⟩ (And.intro rfl ?_)))
      refine fcallp hB0 (ct_City_hour_b7a7b (fBz h0 hB0)) ?_
      rintro _ ⟨z4, rfl, hz4⟩
      refine Exists.intro xm_34 (And.intro mi_34 (And.intro ⟨rfl, rfl, rfl, rfl⟩ (And.intro rfl ?_)))
      refine fcallp hB0 (ct_Charter_counting_8f92c (fBz h0 hB0) (by omega) (by omega)) ?_
      rintro _ ⟨z5, rfl, hz5⟩
      refine And.intro (True.intro) ?_
      exact ⟨_, rfl, by omega⟩
set_option maxRecDepth 8000 in
theorem ct_Charter_partOf_b35bf {I : fH} {x2 : Int} (h0 : fB bsJ I) (ha2 : (0 ≤ x2 ∧ x2 ≤ 23)) : fC ρ base n F xTc vwCl xTys D dA la gJ (fbz bsJ znJ (fKc wz_7d09b) I) xm_147 [.inr (.inr (some 187)), .inr (.inr (some 1)), .inl x2] I (fun _ r => ∃ z, r = some (.inl z) ∧ (0 ≤ z ∧ z ≤ 9999)) := by
  have hW : fzs wz_7d09b (fKc wz_7d09b) := fKc_ok _
  refine f_meth (rb := rbJ) (J := []) 1 400 xG xin_147 x6_147 okJ (fB_self h0) ?_ ?_
  · exact fun q h => absurd h List.not_mem_nil
  · have hB0 := fB_self (zn := znJ) (K := fKc wz_7d09b) h0
    refine And.intro ⟨rfl, by decide, by decide⟩ ?_
    refine Exists.intro xm_21 (And.intro mi_21 (And.intro ⟨rfl, rfl, rfl, rfl⟩ (And.intro rfl ?_)))
    refine fcallp hB0 (ct_People_isDead_edb17 (fBz h0 hB0) (by omega)) ?_
    rintro _ ⟨z1, rfl, hz1⟩
    refine And.intro (by omega) (And.intro ?_ ?_)
    · intro c2
      refine Exists.intro xm_32 (And.intro mi_32 (And.intro ⟨rfl, rfl, rfl, rfl⟩ (And.intro rfl ?_)))
      refine fcallp hB0 (ct_City_hour_b7a7b (fBz h0 hB0)) ?_
      rintro _ ⟨z3, rfl, hz3⟩
      refine Exists.intro xm_34 (And.intro mi_34 (And.intro ⟨rfl, rfl, rfl, rfl⟩ (And.intro rfl ?_)))
      refine fcallp hB0 (ct_Charter_counting_8f92c (fBz h0 hB0) (by omega) (by omega)) ?_
      rintro _ ⟨z4, rfl, hz4⟩
      refine And.intro (by omega) (And.intro ?_ ?_)
      · intro c5
        refine Exists.intro xm_29 (And.intro mi_29 (And.intro ⟨rfl, rfl, rfl, rfl⟩ (And.intro rfl ?_)))
        refine fcall _ h0 (fzs_sub (by decide +kernel) hW) hB0 (ct_Charter_putOne_99949 (fBz h0 hB0) (by omega)) ?_
        rintro IhB7 _ hB7 fhB7 rfl
        refine Exists.intro xm_36 (And.intro mi_36 (And.intro ⟨rfl, rfl, rfl, rfl⟩ (And.intro rfl ?_)))
        refine fcall _ h0 (fzs_sub (by decide +kernel) hW) hB7 (ct_Charter_worth_04d20 (fBz h0 hB7) (by omega)) ?_
        rintro IhB9 _ hB9 fhB9 ⟨z8, rfl, hz8⟩
        refine And.intro (And.intro (by omega) (And.intro (by omega) rfl)) ?_
        intro z10 hz10
        refine And.intro (And.intro (by omega) (And.intro (by omega) rfl)) ?_
        intro z11 hz11
        refine And.intro (True.intro) ?_
        exact ⟨_, rfl, by omega⟩
      · intro c12
        refine And.intro (True.intro) ?_
        exact ⟨_, rfl, by omega⟩
    · intro c13
      refine And.intro (True.intro) ?_
      exact ⟨_, rfl, by omega⟩
abbrev jc_Charter_shareOf_a5f6d_6 : Nat → fL → List fV → fH → Prop := fun m lv st I => ∃ (y2 : Int) (y3 : Int) (y4 : Int) (y6 : Int), lv = [(0, .inr (.inr (some 187))), (1, .inr (.inr (some 1))), (2, .inl y2), (3, .inl y3), (4, .inr (.inl y4)), (6, .inl y6)] ∧ st = [] ∧ (((0 ≤ y2 ∧ y2 ≤ 23) ∧ (0 ≤ y3 ∧ y3 ≤ 999999) ∧ (0 ≤ y4 ∧ y4 ≤ 240000) ∧ (0 ≤ y6 ∧ y6 ≤ 24) ∧ (y4 ≤ 9999 * y6))) ∧ m = (26 + 1 * (24 - y6) : Int).toNat
abbrev jc_Charter_shareOf_a5f6d_70 : Nat → fL → List fV → fH → Prop := fun m lv st I => ∃ (y2 : Int) (y3 : Int) (y4 : Int) (y6 : Int) (y8 : Int) (y9 : Int), lv = [(0, .inr (.inr (some 187))), (1, .inr (.inr (some 1))), (2, .inl y2), (3, .inl y3), (4, .inr (.inl y4)), (6, .inr (.inl y6)), (8, .inl y8), (9, .inl y9)] ∧ st = [] ∧ (((0 ≤ y2 ∧ y2 ≤ 23) ∧ (0 ≤ y3 ∧ y3 ≤ 999999) ∧ (1 ≤ y4 ∧ y4 ≤ 240000) ∧ ((-9223372036854775808) ≤ y6 ∧ y6 ≤ 9223372036854775807) ∧ ((-2147483648) ≤ y8 ∧ y8 ≤ 2147483647) ∧ (0 ≤ y9 ∧ y9 ≤ 24))) ∧ m = (1 + 1 * (24 - y9) : Int).toNat
set_option maxRecDepth 8000 in
theorem ct_Charter_shareOf_a5f6d {I : fH} {x2 : Int} {x3 : Int} (h0 : fB bsJ I) (ha2 : (0 ≤ x2 ∧ x2 ≤ 23)) (ha3 : (0 ≤ x3 ∧ x3 ≤ 999999)) : fC ρ base n F xTc vwCl xTys D dA la gJ (fbz bsJ znJ (fKc wz_8a11b) I) xm_146 [.inr (.inr (some 187)), .inr (.inr (some 1)), .inl x2, .inl x3] I (fun _ r => ∃ z, r = some (.inl z) ∧ ((-2147483648) ≤ z ∧ z ≤ 2147483647)) := by
  have hW : fzs wz_8a11b (fKc wz_8a11b) := fKc_ok _
  refine f_meth (rb := rbJ) (J := [(6, jc_Charter_shareOf_a5f6d_6), (70, jc_Charter_shareOf_a5f6d_70)]) 51 400 xG xin_146 x6_146 okJ (fB_self h0) ?_ ?_
  · refine List.forall_mem_cons.mpr ⟨?_, List.forall_mem_cons.mpr ⟨?_, fun q h => absurd h List.not_mem_nil⟩⟩
    · rintro m _ _ I1 hB1 ⟨y2, y3, y4, y6, rfl, rfl, hb, hm⟩
      refine And.intro ⟨rfl, by decide, by decide⟩ ?_
      refine And.intro ⟨rfl, by decide, by decide⟩ (fgetf fb_177_4 h0 hB1 ?_)
      intro z1 lz1 uz1 qz1
      refine And.intro (by omega) (And.intro ?_ ?_)
      · intro c2
        refine And.intro (And.intro (by omega) (by omega)) ?_
        intro z3 hz3
        refine And.intro (by omega) (And.intro ?_ ?_)
        · intro c4
          refine And.intro (by omega) ?_
          exact fcutJ (I := I1) (j := jc_Charter_shareOf_a5f6d_70) (lv' := [(0, .inr (.inr (some 187))), (1, .inr (.inr (some 1))), (2, .inl _), (3, .inl _), (4, .inr (.inl _)), (6, .inr (.inl _)), (8, .inl _), (9, .inl _)]) (And.intro rfl (And.intro rfl (And.intro rfl (And.intro rfl (And.intro rfl (And.intro rfl (And.intro rfl (And.intro rfl True.intro)))))))) ⟨_, _, _, _, _, _, rfl, rfl, by omega, rfl⟩ (by omega)
        · intro c5
          refine And.intro (True.intro) ?_
          exact ⟨_, rfl, by omega⟩
      · intro c6
        refine And.intro ⟨rfl, by decide, by decide⟩ ?_
        refine Exists.intro xm_147 (And.intro mi_147 (And.intro ⟨rfl, rfl, rfl, rfl⟩ (And.intro rfl ?_)))
        refine fcall _ h0 (fzs_sub (by decide +kernel) hW) hB1 (ct_Charter_partOf_b35bf (fBz h0 hB1) (by omega)) ?_
        rintro IhB8 _ hB8 fhB8 ⟨z7, rfl, hz7⟩
        have t9 := fhB8 177 4 (by decide +kernel)
        refine fstore rS_209_209_0_23_1_0 (fzs_sub (by decide +kernel) hW) (by omega) (by omega) ?_
        intro IhB10 ehB10 hB10
        have t11 := fup_self ehB10
        have t12 : IhB10 177 4 = IhB8 177 4 := (congrFun (congrFun ehB10 177) 4).trans (fup_ne (by omega))
        refine And.intro ⟨rfl, by decide, by decide⟩ ?_
        refine fload rL_209_209_0_23_1_0 h0 hB10 (by omega) ?_
        intro z13 lz13 uz13 qz13
        refine And.intro (by omega) ?_
        intro z14 hz14 ez14 bz14
        exact fcutJ (I := IhB10) (j := jc_Charter_shareOf_a5f6d_6) (lv' := [(0, .inr (.inr (some 187))), (1, .inr (.inr (some 1))), (2, .inl _), (3, .inl _), (4, .inr (.inl _)), (6, .inl _)]) (And.intro rfl (And.intro rfl (And.intro rfl (And.intro rfl (And.intro rfl (And.intro rfl True.intro)))))) ⟨_, _, _, _, rfl, rfl, by omega, rfl⟩ (by omega)
    · rintro m _ _ I1 hB1 ⟨y2, y3, y4, y6, y8, y9, rfl, rfl, hb, hm⟩
      refine And.intro ⟨rfl, by decide, by decide⟩ ?_
      refine And.intro ⟨rfl, by decide, by decide⟩ (fgetf fb_177_4 h0 hB1 ?_)
      intro z15 lz15 uz15 qz15
      refine And.intro (by omega) (And.intro ?_ ?_)
      · intro c16
        refine And.intro (by omega) ?_
        refine And.intro ⟨rfl, by decide, by decide⟩ ?_
        refine fload rL_209_209_0_23_1_0 h0 hB1 (by omega) ?_
        intro z17 lz17 uz17 qz17
        refine And.intro (by omega) ?_
        intro z18 hz18 ez18 bz18
        refine And.intro (And.intro (by omega) (by omega)) ?_
        intro z19 hz19 ez19
        intro z20 hz20 ez20 bz20
        refine And.intro ⟨rfl, by decide, by decide⟩ ?_
        refine fload rL_209_209_0_23_1_0 h0 hB1 (by omega) ?_
        intro z21 lz21 uz21 qz21
        refine And.intro (by omega) (And.intro ?_ ?_)
        · intro c22
          refine And.intro (True.intro) ?_
          exact ⟨_, rfl, by omega⟩
        · intro c23
          refine And.intro (by omega) ?_
          refine And.intro (And.intro (by omega) (by omega)) ?_
          intro z24 hz24
          refine And.intro (by omega) (And.intro ?_ ?_)
          · intro c25
            refine And.intro (True.intro) ?_
            exact ⟨_, rfl, by omega⟩
          · intro c26
            intro z27 hz27 ez27 bz27
            refine And.intro (True.intro) ?_
            exact ⟨_, rfl, by omega⟩
      · intro c28
        refine And.intro (by omega) ?_
        refine And.intro ⟨rfl, by decide, by decide⟩ ?_
        refine fload rL_209_209_0_23_1_0 h0 hB1 (by omega) ?_
        intro z29 lz29 uz29 qz29
        refine And.intro (by omega) ?_
        intro z30 hz30 ez30 bz30
        refine And.intro (And.intro (by omega) (by omega)) ?_
        intro z31 hz31 ez31
        intro z32 hz32 ez32 bz32
        refine And.intro (by omega) (And.intro ?_ ?_)
        · intro c33
          exact fcutJ (I := I1) (j := jc_Charter_shareOf_a5f6d_70) (lv' := [(0, .inr (.inr (some 187))), (1, .inr (.inr (some 1))), (2, .inl _), (3, .inl _), (4, .inr (.inl _)), (6, .inr (.inl _)), (8, .inl _), (9, .inl _)]) (And.intro rfl (And.intro rfl (And.intro rfl (And.intro rfl (And.intro rfl (And.intro rfl (And.intro rfl (And.intro rfl True.intro)))))))) ⟨_, _, _, _, _, _, rfl, rfl, by omega, rfl⟩ (by omega)
        · intro c34
          refine And.intro ⟨rfl, by decide, by decide⟩ ?_
          refine fload rL_209_209_0_23_1_0 h0 hB1 (by omega) ?_
          intro z35 lz35 uz35 qz35
          refine And.intro (by omega) (And.intro ?_ ?_)
          · intro c36
            exact fcutJ (I := I1) (j := jc_Charter_shareOf_a5f6d_70) (lv' := [(0, .inr (.inr (some 187))), (1, .inr (.inr (some 1))), (2, .inl _), (3, .inl _), (4, .inr (.inl _)), (6, .inr (.inl _)), (8, .inl _), (9, .inl _)]) (And.intro rfl (And.intro rfl (And.intro rfl (And.intro rfl (And.intro rfl (And.intro rfl (And.intro rfl (And.intro rfl True.intro)))))))) ⟨_, _, _, _, _, _, rfl, rfl, by omega, rfl⟩ (by omega)
          · intro c37
            intro z38 hz38 bz38
            exact fcutJ (I := I1) (j := jc_Charter_shareOf_a5f6d_70) (lv' := [(0, .inr (.inr (some 187))), (1, .inr (.inr (some 1))), (2, .inl _), (3, .inl _), (4, .inr (.inl _)), (6, .inr (.inl _)), (8, .inl _), (9, .inl _)]) (And.intro rfl (And.intro rfl (And.intro rfl (And.intro rfl (And.intro rfl (And.intro rfl (And.intro rfl (And.intro rfl True.intro)))))))) ⟨_, _, _, _, _, _, rfl, rfl, by omega, rfl⟩ (by omega)
  · have hB0 := fB_self (zn := znJ) (K := fKc wz_8a11b) h0
    exact fcutJ (I := I) (j := jc_Charter_shareOf_a5f6d_6) (lv' := [(0, .inr (.inr (some 187))), (1, .inr (.inr (some 1))), (2, .inl _), (3, .inl _), (4, .inr (.inl _)), (6, .inl _)]) (And.intro rfl (And.intro rfl (And.intro rfl (And.intro rfl (And.intro rfl (And.intro rfl True.intro)))))) ⟨_, _, _, _, rfl, rfl, by omega, rfl⟩ (by omega)
set_option maxRecDepth 8000 in
theorem ct_X_share_fd28f {I : fH} {x1 : Int} {x2 : Int} (h0 : fB bsJ I) (ha1 : ((-2147483648) ≤ x1 ∧ x1 ≤ 2147483647)) (ha2 : ((-2147483648) ≤ x2 ∧ x2 ≤ 2147483647)) : fC ρ base n F xTc vwCl xTys D dA la gJ (fbz bsJ znJ (fKc wz_8a11b) I) xm_145 [.inr (.inr (some 0)), .inl x1, .inl x2] I (fun _ r => ∃ z, r = some (.inl z) ∧ ((-2147483648) ≤ z ∧ z ≤ 2147483647)) := by
  have hW : fzs wz_8a11b (fKc wz_8a11b) := fKc_ok _
  refine f_meth (rb := rbJ) (J := []) 1 400 xG xin_145 x6_145 okJ (fB_self h0) ?_ ?_
  · exact fun q h => absurd h List.not_mem_nil
  · have hB0 := fB_self (zn := znJ) (K := fKc wz_8a11b) h0
    refine And.intro ⟨rfl, by decide, by decide⟩ ?_
    refine Exists.intro xm_27 (And.intro mi_27 (And.intro ⟨rfl, rfl, rfl, rfl⟩ (And.intro rfl ?_)))
    refine fcallp hB0 (ct_City_isPerson_ff059 (fBz h0 hB0) (by omega)) ?_
    rintro _ ⟨z1, rfl, hz1⟩
    refine And.intro (by omega) (And.intro ?_ ?_)
    · intro c2
      refine And.intro (True.intro) ?_
      exact ⟨_, rfl, by omega⟩
    · intro c3
      refine Exists.intro xm_13 (And.intro mi_13 (And.intro ⟨rfl, rfl, rfl, rfl⟩ (And.intro True.intro ?_)))
      refine fcallp hB0 (ct_X_within_c27b1 (fBz h0 hB0) (by omega) (by omega) (by omega)) ?_
      rintro _ ⟨z4, rfl, hz4⟩
      refine And.intro (by omega) (And.intro ?_ ?_)
      · intro c5
        refine And.intro ⟨rfl, by decide, by decide⟩ ?_
        refine And.intro ⟨rfl, by decide, by decide⟩ ?_
        refine Exists.intro xm_21 (And.intro mi_21 (And.intro ⟨rfl, rfl, rfl, rfl⟩ (And.intro rfl ?_)))
        refine fcallp hB0 (ct_People_isDead_edb17 (fBz h0 hB0) (by omega)) ?_
        rintro _ ⟨z6, rfl, hz6⟩
        refine And.intro (by omega) (And.intro ?_ ?_)
        · intro c7
          refine And.intro ⟨rfl, by decide, by decide⟩ ?_
          refine And.intro ⟨rfl, by decide, by decide⟩ ?_
          refine Exists.intro xm_146 (And.intro mi_146 (And.intro ⟨rfl, rfl, rfl, rfl⟩ (And.intro rfl ?_)))
          refine fcall _ h0 (fzs_sub (by decide +kernel) hW) hB0 (ct_Charter_shareOf_a5f6d (fBz h0 hB0) (by omega) (by omega)) ?_
          rintro IhB9 _ hB9 fhB9 ⟨z8, rfl, hz8⟩
          refine And.intro (True.intro) ?_
          exact ⟨_, rfl, by omega⟩
        · intro c10
          refine And.intro (True.intro) ?_
          exact ⟨_, rfl, by omega⟩
      · intro c11
        refine And.intro (True.intro) ?_
        exact ⟨_, rfl, by omega⟩
abbrev jc_Charter_nextShed_baa16_8 : Nat → fL → List fV → fH → Prop := fun m lv st I => ∃ (y2 : Int) (y3 : Int) (y4 : Int), lv = [(0, .inr (.inr (some 187))), (1, .inr (.inr (some 1))), (2, .inl y2), (3, .inl y3), (4, .inl y4)] ∧ st = [] ∧ ((((0 ≤ y2 ∧ y2 ≤ 23) ∨ y2 = (-1000000005)) ∧ ((-2147483648) ≤ y3 ∧ y3 ≤ 2147483647) ∧ (0 ≤ y4 ∧ y4 ≤ 24))) ∧ m = (1 + 1 * (24 - y4) : Int).toNat
set_option maxRecDepth 8000 in
theorem ct_Charter_nextShed_baa16 {I : fH}  (h0 : fB bsJ I)  : fC ρ base n F xTc vwCl xTys D dA la gJ (fbz bsJ znJ (fKc wz_3d14b) I) xm_152 [.inr (.inr (some 187)), .inr (.inr (some 1))] I (fun _ r => ∃ z, r = some (.inl z) ∧ ((0 ≤ z ∧ z ≤ 23) ∨ z = (-1000000005))) := by
  have hW : fzs wz_3d14b (fKc wz_3d14b) := fKc_ok _
  refine f_meth (rb := rbJ) (J := [(8, jc_Charter_nextShed_baa16_8)]) 26 400 xG xin_152 x6_152 okJ (fB_self h0) ?_ ?_
  · refine List.forall_mem_cons.mpr ⟨?_, fun q h => absurd h List.not_mem_nil⟩
    · rintro m _ _ I1 hB1 ⟨y2, y3, y4, rfl, rfl, hb, hm⟩
      refine And.intro ⟨rfl, by decide, by decide⟩ ?_
      refine And.intro ⟨rfl, by decide, by decide⟩ (fgetf fb_163_13 h0 hB1 ?_)
      intro z1 lz1 uz1 qz1
      refine And.intro (by omega) (And.intro ?_ ?_)
      · intro c2
        refine And.intro (by omega) (And.intro ?_ ?_)
        · intro c3
          refine And.intro (True.intro) ?_
          exact ⟨_, rfl, by omega⟩
        · intro c4
          refine And.intro ⟨rfl, by decide, by decide⟩ ?_
          refine fstore rS_210_210_0_23_1_0 (fzs_sub (by decide +kernel) hW) (by omega) (by omega) ?_
          intro IhB5 ehB5 hB5
          have t6 := fup_self ehB5
          have t7 : IhB5 163 13 = I1 163 13 := (congrFun (congrFun ehB5 163) 13).trans (fup_ne (by omega))
          refine And.intro (True.intro) ?_
          exact ⟨_, rfl, by omega⟩
      · intro c8
        refine And.intro ⟨rfl, by decide, by decide⟩ ?_
        refine fload rL_210_210_0_23_1_0 h0 hB1 (by omega) ?_
        intro z9 lz9 uz9 qz9
        refine And.intro (by omega) (And.intro ?_ ?_)
        · intro c10
          exact fcutJ (I := I1) (j := jc_Charter_nextShed_baa16_8) (lv' := [(0, .inr (.inr (some 187))), (1, .inr (.inr (some 1))), (2, .inl _), (3, .inl _), (4, .inl _)]) (And.intro rfl (And.intro rfl (And.intro rfl (And.intro rfl (And.intro rfl True.intro))))) ⟨_, _, _, rfl, rfl, by omega, rfl⟩ (by omega)
        · intro c11
          refine And.intro ⟨rfl, by decide, by decide⟩ ?_
          refine fload rL_210_210_0_23_1_0 h0 hB1 (by omega) ?_
          intro z12 lz12 uz12 qz12
          exact fcutJ (I := I1) (j := jc_Charter_nextShed_baa16_8) (lv' := [(0, .inr (.inr (some 187))), (1, .inr (.inr (some 1))), (2, .inl _), (3, .inl _), (4, .inl _)]) (And.intro rfl (And.intro rfl (And.intro rfl (And.intro rfl (And.intro rfl True.intro))))) ⟨_, _, _, rfl, rfl, by omega, rfl⟩ (by omega)
  · have hB0 := fB_self (zn := znJ) (K := fKc wz_3d14b) h0
    exact fcutJ (I := I) (j := jc_Charter_nextShed_baa16_8) (lv' := [(0, .inr (.inr (some 187))), (1, .inr (.inr (some 1))), (2, .inl _), (3, .inl _), (4, .inl _)]) (And.intro rfl (And.intro rfl (And.intro rfl (And.intro rfl (And.intro rfl True.intro))))) ⟨_, _, _, rfl, rfl, by omega, rfl⟩ (by omega)
set_option maxRecDepth 8000 in
theorem ct_Charter_putWork_fb8e9 {I : fH} {x2 : Int} (h0 : fB bsJ I) (ha2 : (0 ≤ x2 ∧ x2 ≤ 23)) : fC ρ base n F xTc vwCl xTys D dA la gJ (fbz bsJ znJ (fKc wz_56c9a) I) xm_151 [.inr (.inr (some 187)), .inr (.inr (some 1)), .inl x2] I (fun _ r => r = none) := by
  have hW : fzs wz_56c9a (fKc wz_56c9a) := fKc_ok _
  refine f_meth (rb := rbJ) (J := []) 1 400 xG xin_151 x6_151 okJ (fB_self h0) ?_ ?_
  · exact fun q h => absurd h List.not_mem_nil
  · have hB0 := fB_self (zn := znJ) (K := fKc wz_56c9a) h0
    refine And.intro ⟨rfl, by decide, by decide⟩ ?_
    refine And.intro ⟨rfl, by decide, by decide⟩ ?_
    refine fload rL_164_164_0_23_1_0 h0 hB0 (by omega) ?_
    intro z1 lz1 uz1 qz1
    refine And.intro (by omega) (And.intro ?_ ?_)
    · intro c2
      refine And.intro ⟨rfl, by decide, by decide⟩ ?_
      refine fload rL_164_164_0_23_1_0 h0 hB0 (by omega) ?_
      intro z3 lz3 uz3 qz3
      refine Exists.intro xm_30 (And.intro mi_30 (And.intro ⟨rfl, rfl, rfl, rfl⟩ (And.intro rfl ?_)))
      refine fcall _ h0 (fzs_sub (by decide +kernel) hW) hB0 (ct_Charter_put_c2709 (fBz h0 hB0) (by omega) (by omega)) ?_
      rintro IhB5 _ hB5 fhB5 rfl
      refine And.intro ⟨rfl, by decide, by decide⟩ ?_
      refine fload rL_166_166_0_23_1_0 h0 hB5 (by omega) ?_
      intro z6 lz6 uz6 qz6
      refine Exists.intro xm_30 (And.intro mi_30 (And.intro ⟨rfl, rfl, rfl, rfl⟩ (And.intro rfl ?_)))
      refine fcall _ h0 (fzs_sub (by decide +kernel) hW) hB5 (ct_Charter_put_c2709 (fBz h0 hB5) (by omega) (by omega)) ?_
      rintro IhB8 _ hB8 fhB8 rfl
      refine And.intro (by omega) (And.intro ?_ ?_)
      · intro c9
        refine Exists.intro xm_30 (And.intro mi_30 (And.intro ⟨rfl, rfl, rfl, rfl⟩ (And.intro rfl ?_)))
        refine fcall _ h0 (fzs_sub (by decide +kernel) hW) hB8 (ct_Charter_put_c2709 (fBz h0 hB8) (by omega) (by omega)) ?_
        rintro IhB11 _ hB11 fhB11 rfl
        refine And.intro (by omega) (And.intro ?_ ?_)
        · intro c12
          refine Exists.intro xm_30 (And.intro mi_30 (And.intro ⟨rfl, rfl, rfl, rfl⟩ (And.intro rfl ?_)))
          refine fcall _ h0 (fzs_sub (by decide +kernel) hW) hB11 (ct_Charter_put_c2709 (fBz h0 hB11) (by omega) (by omega)) ?_
          rintro IhB14 _ hB14 fhB14 rfl
          refine And.intro ⟨rfl, by decide, by decide⟩ ?_
          refine fload rL_168_168_0_23_1_0 h0 hB14 (by omega) ?_
          intro z15 lz15 uz15 qz15
          refine Exists.intro xm_30 (And.intro mi_30 (And.intro ⟨rfl, rfl, rfl, rfl⟩ (And.intro rfl ?_)))
          refine fcall _ h0 (fzs_sub (by decide +kernel) hW) hB14 (ct_Charter_put_c2709 (fBz h0 hB14) (by omega) (by omega)) ?_
          rintro IhB17 _ hB17 fhB17 rfl
          refine And.intro ⟨rfl, by decide, by decide⟩ ?_
          refine And.intro ⟨rfl, by decide, by decide⟩ ?_
          refine fload rL_165_165_0_23_1_0 h0 hB17 (by omega) ?_
          intro z18 lz18 uz18 qz18
          refine Exists.intro xm_20 (And.intro mi_20 (And.intro ⟨rfl, rfl, rfl, rfl⟩ (And.intro rfl ?_)))
          refine fcallp hB17 (ct_People_livingIn_ff6d0 (fBz h0 hB17) (by omega)) ?_
          rintro _ ⟨z19, rfl, hz19⟩
          refine Exists.intro xm_30 (And.intro mi_30 (And.intro ⟨rfl, rfl, rfl, rfl⟩ (And.intro rfl ?_)))
          refine fcall _ h0 (fzs_sub (by decide +kernel) hW) hB17 (ct_Charter_put_c2709 (fBz h0 hB17) (by omega) (by omega)) ?_
          rintro IhB21 _ hB21 fhB21 rfl
          refine Exists.intro xm_31 (And.intro mi_31 (And.intro ⟨rfl, rfl, rfl, rfl⟩ (And.intro rfl ?_)))
          refine fcallp hB21 (ct_City_level_61deb (fBz h0 hB21)) ?_
          rintro _ ⟨z22, rfl, hz22⟩
          refine Exists.intro xm_30 (And.intro mi_30 (And.intro ⟨rfl, rfl, rfl, rfl⟩ (And.intro rfl ?_)))
          refine fcall _ h0 (fzs_sub (by decide +kernel) hW) hB21 (ct_Charter_put_c2709 (fBz h0 hB21) (by omega) (by omega)) ?_
          rintro IhB24 _ hB24 fhB24 rfl
          exact rfl
        · intro c25
          refine And.intro ⟨rfl, by decide, by decide⟩ ?_
          refine fload rL_171_171_0_23_1_0 h0 hB11 (by omega) ?_
          intro z26 lz26 uz26 qz26
          refine Exists.intro xm_30 (And.intro mi_30 (And.intro ⟨rfl, rfl, rfl, rfl⟩ (And.intro rfl ?_)))
          refine fcall _ h0 (fzs_sub (by decide +kernel) hW) hB11 (ct_Charter_put_c2709 (fBz h0 hB11) (by omega) (by omega)) ?_
          rintro IhB28 _ hB28 fhB28 rfl
          refine And.intro ⟨rfl, by decide, by decide⟩ ?_
          refine fload rL_168_168_0_23_1_0 h0 hB28 (by omega) ?_
          intro z29 lz29 uz29 qz29
          refine Exists.intro xm_30 (And.intro mi_30 (And.intro ⟨rfl, rfl, rfl, rfl⟩ (And.intro rfl ?_)))
          refine fcall _ h0 (fzs_sub (by decide +kernel) hW) hB28 (ct_Charter_put_c2709 (fBz h0 hB28) (by omega) (by omega)) ?_
          rintro IhB31 _ hB31 fhB31 rfl
          refine And.intro ⟨rfl, by decide, by decide⟩ ?_
          refine And.intro ⟨rfl, by decide, by decide⟩ ?_
          refine fload rL_165_165_0_23_1_0 h0 hB31 (by omega) ?_
          intro z32 lz32 uz32 qz32
          refine Exists.intro xm_20 (And.intro mi_20 (And.intro ⟨rfl, rfl, rfl, rfl⟩ (And.intro rfl ?_)))
          refine fcallp hB31 (ct_People_livingIn_ff6d0 (fBz h0 hB31) (by omega)) ?_
          rintro _ ⟨z33, rfl, hz33⟩
          refine Exists.intro xm_30 (And.intro mi_30 (And.intro ⟨rfl, rfl, rfl, rfl⟩ (And.intro rfl ?_)))
          refine fcall _ h0 (fzs_sub (by decide +kernel) hW) hB31 (ct_Charter_put_c2709 (fBz h0 hB31) (by omega) (by omega)) ?_
          rintro IhB35 _ hB35 fhB35 rfl
          refine Exists.intro xm_31 (And.intro mi_31 (And.intro ⟨rfl, rfl, rfl, rfl⟩ (And.intro rfl ?_)))
          refine fcallp hB35 (ct_City_level_61deb (fBz h0 hB35)) ?_
          rintro _ ⟨z36, rfl, hz36⟩
          refine Exists.intro xm_30 (And.intro mi_30 (And.intro ⟨rfl, rfl, rfl, rfl⟩ (And.intro rfl ?_)))
          refine fcall _ h0 (fzs_sub (by decide +kernel) hW) hB35 (ct_Charter_put_c2709 (fBz h0 hB35) (by omega) (by omega)) ?_
          rintro IhB38 _ hB38 fhB38 rfl
          exact rfl
      · intro c39
        refine And.intro ⟨rfl, by decide, by decide⟩ ?_
        refine fload rL_172_172_0_23_1_0 h0 hB8 (by omega) ?_
        intro z40 lz40 uz40 qz40
        refine Exists.intro xm_30 (And.intro mi_30 (And.intro ⟨rfl, rfl, rfl, rfl⟩ (And.intro rfl ?_)))
        refine fcall _ h0 (fzs_sub (by decide +kernel) hW) hB8 (ct_Charter_put_c2709 (fBz h0 hB8) (by omega) (by omega)) ?_
        rintro IhB42 _ hB42 fhB42 rfl
        refine And.intro (by omega) (And.intro ?_ ?_)
        · intro c43
          refine Exists.intro xm_30 (And.intro mi_30 (And.intro ⟨rfl, rfl, rfl, rfl⟩ (And.intro rfl ?_)))
          refine fcall _ h0 (fzs_sub (by decide +kernel) hW) hB42 (ct_Charter_put_c2709 (fBz h0 hB42) (by omega) (by omega)) ?_
          rintro IhB45 _ hB45 fhB45 rfl
          refine And.intro ⟨rfl, by decide, by decide⟩ ?_
          refine fload rL_168_168_0_23_1_0 h0 hB45 (by omega) ?_
          intro z46 lz46 uz46 qz46
          refine Exists.intro xm_30 (And.intro mi_30 (And.intro ⟨rfl, rfl, rfl, rfl⟩ (And.intro rfl ?_)))
          refine fcall _ h0 (fzs_sub (by decide +kernel) hW) hB45 (ct_Charter_put_c2709 (fBz h0 hB45) (by omega) (by omega)) ?_
          rintro IhB48 _ hB48 fhB48 rfl
          refine And.intro ⟨rfl, by decide, by decide⟩ ?_
          refine And.intro ⟨rfl, by decide, by decide⟩ ?_
          refine fload rL_165_165_0_23_1_0 h0 hB48 (by omega) ?_
          intro z49 lz49 uz49 qz49
          refine Exists.intro xm_20 (And.intro mi_20 (And.intro ⟨rfl, rfl, rfl, rfl⟩ (And.intro rfl ?_)))
          refine fcallp hB48 (ct_People_livingIn_ff6d0 (fBz h0 hB48) (by omega)) ?_
          rintro _ ⟨z50, rfl, hz50⟩
          refine Exists.intro xm_30 (And.intro mi_30 (And.intro ⟨rfl, rfl, rfl, rfl⟩ (And.intro rfl ?_)))
          refine fcall _ h0 (fzs_sub (by decide +kernel) hW) hB48 (ct_Charter_put_c2709 (fBz h0 hB48) (by omega) (by omega)) ?_
          rintro IhB52 _ hB52 fhB52 rfl
          refine Exists.intro xm_31 (And.intro mi_31 (And.intro ⟨rfl, rfl, rfl, rfl⟩ (And.intro rfl ?_)))
          refine fcallp hB52 (ct_City_level_61deb (fBz h0 hB52)) ?_
          rintro _ ⟨z53, rfl, hz53⟩
          refine Exists.intro xm_30 (And.intro mi_30 (And.intro ⟨rfl, rfl, rfl, rfl⟩ (And.intro rfl ?_)))
          refine fcall _ h0 (fzs_sub (by decide +kernel) hW) hB52 (ct_Charter_put_c2709 (fBz h0 hB52) (by omega) (by omega)) ?_
          rintro IhB55 _ hB55 fhB55 rfl
          exact rfl
        · intro c56
          refine And.intro ⟨rfl, by decide, by decide⟩ ?_
          refine fload rL_171_171_0_23_1_0 h0 hB42 (by omega) ?_
          intro z57 lz57 uz57 qz57
          refine Exists.intro xm_30 (And.intro mi_30 (And.intro ⟨rfl, rfl, rfl, rfl⟩ (And.intro rfl ?_)))
          refine fcall _ h0 (fzs_sub (by decide +kernel) hW) hB42 (ct_Charter_put_c2709 (fBz h0 hB42) (by omega) (by omega)) ?_
          rintro IhB59 _ hB59 fhB59 rfl
          refine And.intro ⟨rfl, by decide, by decide⟩ ?_
          refine fload rL_168_168_0_23_1_0 h0 hB59 (by omega) ?_
          intro z60 lz60 uz60 qz60
          refine Exists.intro xm_30 (And.intro mi_30 (And.intro ⟨rfl, rfl, rfl, rfl⟩ (And.intro rfl ?_)))
          refine fcall _ h0 (fzs_sub (by decide +kernel) hW) hB59 (ct_Charter_put_c2709 (fBz h0 hB59) (by omega) (by omega)) ?_
          rintro IhB62 _ hB62 fhB62 rfl
          refine And.intro ⟨rfl, by decide, by decide⟩ ?_
          refine And.intro ⟨rfl, by decide, by decide⟩ ?_
          refine fload rL_165_165_0_23_1_0 h0 hB62 (by omega) ?_
          intro z63 lz63 uz63 qz63
          refine Exists.intro xm_20 (And.intro mi_20 (And.intro ⟨rfl, rfl, rfl, rfl⟩ (And.intro rfl ?_)))
          refine fcallp hB62 (ct_People_livingIn_ff6d0 (fBz h0 hB62) (by omega)) ?_
          rintro _ ⟨z64, rfl, hz64⟩
          refine Exists.intro xm_30 (And.intro mi_30 (And.intro ⟨rfl, rfl, rfl, rfl⟩ (And.intro rfl ?_)))
          refine fcall _ h0 (fzs_sub (by decide +kernel) hW) hB62 (ct_Charter_put_c2709 (fBz h0 hB62) (by omega) (by omega)) ?_
          rintro IhB66 _ hB66 fhB66 rfl
          refine Exists.intro xm_31 (And.intro mi_31 (And.intro ⟨rfl, rfl, rfl, rfl⟩ (And.intro rfl ?_)))
          refine fcallp hB66 (ct_City_level_61deb (fBz h0 hB66)) ?_
          rintro _ ⟨z67, rfl, hz67⟩
          refine Exists.intro xm_30 (And.intro mi_30 (And.intro ⟨rfl, rfl, rfl, rfl⟩ (And.intro rfl ?_)))
          refine fcall _ h0 (fzs_sub (by decide +kernel) hW) hB66 (ct_Charter_put_c2709 (fBz h0 hB66) (by omega) (by omega)) ?_
          rintro IhB69 _ hB69 fhB69 rfl
          exact rfl
    · intro c70
      refine And.intro ⟨rfl, by decide, by decide⟩ ?_
      refine fload rL_164_164_0_23_1_0 h0 hB0 (by omega) ?_
      intro z71 lz71 uz71 qz71
      refine Exists.intro xm_30 (And.intro mi_30 (And.intro ⟨rfl, rfl, rfl, rfl⟩ (And.intro rfl ?_)))
      refine fcall _ h0 (fzs_sub (by decide +kernel) hW) hB0 (ct_Charter_put_c2709 (fBz h0 hB0) (by omega) (by omega)) ?_
      rintro IhB73 _ hB73 fhB73 rfl
      refine And.intro ⟨rfl, by decide, by decide⟩ ?_
      refine fload rL_166_166_0_23_1_0 h0 hB73 (by omega) ?_
      intro z74 lz74 uz74 qz74
      refine Exists.intro xm_30 (And.intro mi_30 (And.intro ⟨rfl, rfl, rfl, rfl⟩ (And.intro rfl ?_)))
      refine fcall _ h0 (fzs_sub (by decide +kernel) hW) hB73 (ct_Charter_put_c2709 (fBz h0 hB73) (by omega) (by omega)) ?_
      rintro IhB76 _ hB76 fhB76 rfl
      refine And.intro (by omega) (And.intro ?_ ?_)
      · intro c77
        refine Exists.intro xm_30 (And.intro mi_30 (And.intro ⟨rfl, rfl, rfl, rfl⟩ (And.intro rfl ?_)))
        refine fcall _ h0 (fzs_sub (by decide +kernel) hW) hB76 (ct_Charter_put_c2709 (fBz h0 hB76) (by omega) (by omega)) ?_
        rintro IhB79 _ hB79 fhB79 rfl
        refine And.intro (by omega) (And.intro ?_ ?_)
        · intro c80
          refine Exists.intro xm_30 (And.intro mi_30 (And.intro ⟨rfl, rfl, rfl, rfl⟩ (And.intro rfl ?_)))
          refine fcall _ h0 (fzs_sub (by decide +kernel) hW) hB79 (ct_Charter_put_c2709 (fBz h0 hB79) (by omega) (by omega)) ?_
          rintro IhB82 _ hB82 fhB82 rfl
          refine And.intro ⟨rfl, by decide, by decide⟩ ?_
          refine fload rL_168_168_0_23_1_0 h0 hB82 (by omega) ?_
          intro z83 lz83 uz83 qz83
          refine Exists.intro xm_30 (And.intro mi_30 (And.intro ⟨rfl, rfl, rfl, rfl⟩ (And.intro rfl ?_)))
          refine fcall _ h0 (fzs_sub (by decide +kernel) hW) hB82 (ct_Charter_put_c2709 (fBz h0 hB82) (by omega) (by omega)) ?_
          rintro IhB85 _ hB85 fhB85 rfl
          refine And.intro ⟨rfl, by decide, by decide⟩ ?_
          refine And.intro ⟨rfl, by decide, by decide⟩ ?_
          refine fload rL_165_165_0_23_1_0 h0 hB85 (by omega) ?_
          intro z86 lz86 uz86 qz86
          refine Exists.intro xm_20 (And.intro mi_20 (And.intro ⟨rfl, rfl, rfl, rfl⟩ (And.intro rfl ?_)))
          refine fcallp hB85 (ct_People_livingIn_ff6d0 (fBz h0 hB85) (by omega)) ?_
          rintro _ ⟨z87, rfl, hz87⟩
          refine Exists.intro xm_30 (And.intro mi_30 (And.intro ⟨rfl, rfl, rfl, rfl⟩ (And.intro rfl ?_)))
          refine fcall _ h0 (fzs_sub (by decide +kernel) hW) hB85 (ct_Charter_put_c2709 (fBz h0 hB85) (by omega) (by omega)) ?_
          rintro IhB89 _ hB89 fhB89 rfl
          refine Exists.intro xm_31 (And.intro mi_31 (And.intro ⟨rfl, rfl, rfl, rfl⟩ (And.intro rfl ?_)))
          refine fcallp hB89 (ct_City_level_61deb (fBz h0 hB89)) ?_
          rintro _ ⟨z90, rfl, hz90⟩
          refine Exists.intro xm_30 (And.intro mi_30 (And.intro ⟨rfl, rfl, rfl, rfl⟩ (And.intro rfl ?_)))
          refine fcall _ h0 (fzs_sub (by decide +kernel) hW) hB89 (ct_Charter_put_c2709 (fBz h0 hB89) (by omega) (by omega)) ?_
          rintro IhB92 _ hB92 fhB92 rfl
          exact rfl
        · intro c93
          refine And.intro ⟨rfl, by decide, by decide⟩ ?_
          refine fload rL_171_171_0_23_1_0 h0 hB79 (by omega) ?_
          intro z94 lz94 uz94 qz94
          refine Exists.intro xm_30 (And.intro mi_30 (And.intro ⟨rfl, rfl, rfl, rfl⟩ (And.intro rfl ?_)))
          refine fcall _ h0 (fzs_sub (by decide +kernel) hW) hB79 (ct_Charter_put_c2709 (fBz h0 hB79) (by omega) (by omega)) ?_
          rintro IhB96 _ hB96 fhB96 rfl
          refine And.intro ⟨rfl, by decide, by decide⟩ ?_
          refine fload rL_168_168_0_23_1_0 h0 hB96 (by omega) ?_
          intro z97 lz97 uz97 qz97
          refine Exists.intro xm_30 (And.intro mi_30 (And.intro ⟨rfl, rfl, rfl, rfl⟩ (And.intro rfl ?_)))
          refine fcall _ h0 (fzs_sub (by decide +kernel) hW) hB96 (ct_Charter_put_c2709 (fBz h0 hB96) (by omega) (by omega)) ?_
          rintro IhB99 _ hB99 fhB99 rfl
          refine And.intro ⟨rfl, by decide, by decide⟩ ?_
          refine And.intro ⟨rfl, by decide, by decide⟩ ?_
          refine fload rL_165_165_0_23_1_0 h0 hB99 (by omega) ?_
          intro z100 lz100 uz100 qz100
          refine Exists.intro xm_20 (And.intro mi_20 (And.intro ⟨rfl, rfl, rfl, rfl⟩ (And.intro rfl ?_)))
          refine fcallp hB99 (ct_People_livingIn_ff6d0 (fBz h0 hB99) (by omega)) ?_
          rintro _ ⟨z101, rfl, hz101⟩
          refine Exists.intro xm_30 (And.intro mi_30 (And.intro ⟨rfl, rfl, rfl, rfl⟩ (And.intro rfl ?_)))
          refine fcall _ h0 (fzs_sub (by decide +kernel) hW) hB99 (ct_Charter_put_c2709 (fBz h0 hB99) (by omega) (by omega)) ?_
          rintro IhB103 _ hB103 fhB103 rfl
          refine Exists.intro xm_31 (And.intro mi_31 (And.intro ⟨rfl, rfl, rfl, rfl⟩ (And.intro rfl ?_)))
          refine fcallp hB103 (ct_City_level_61deb (fBz h0 hB103)) ?_
          rintro _ ⟨z104, rfl, hz104⟩
          refine Exists.intro xm_30 (And.intro mi_30 (And.intro ⟨rfl, rfl, rfl, rfl⟩ (And.intro rfl ?_)))
          refine fcall _ h0 (fzs_sub (by decide +kernel) hW) hB103 (ct_Charter_put_c2709 (fBz h0 hB103) (by omega) (by omega)) ?_
          rintro IhB106 _ hB106 fhB106 rfl
          exact rfl
      · intro c107
        refine And.intro ⟨rfl, by decide, by decide⟩ ?_
        refine fload rL_172_172_0_23_1_0 h0 hB76 (by omega) ?_
        intro z108 lz108 uz108 qz108
        refine Exists.intro xm_30 (And.intro mi_30 (And.intro ⟨rfl, rfl, rfl, rfl⟩ (And.intro rfl ?_)))
        refine fcall _ h0 (fzs_sub (by decide +kernel) hW) hB76 (ct_Charter_put_c2709 (fBz h0 hB76) (by omega) (by omega)) ?_
        rintro IhB110 _ hB110 fhB110 rfl
        refine And.intro (by omega) (And.intro ?_ ?_)
        · intro c111
          refine Exists.intro xm_30 (And.intro mi_30 (And.intro ⟨rfl, rfl, rfl, rfl⟩ (And.intro rfl ?_)))
          refine fcall _ h0 (fzs_sub (by decide +kernel) hW) hB110 (ct_Charter_put_c2709 (fBz h0 hB110) (by omega) (by omega)) ?_
          rintro IhB113 _ hB113 fhB113 rfl
          refine And.intro ⟨rfl, by decide, by decide⟩ ?_
          refine fload rL_168_168_0_23_1_0 h0 hB113 (by omega) ?_
          intro z114 lz114 uz114 qz114
          refine Exists.intro xm_30 (And.intro mi_30 (And.intro ⟨rfl, rfl, rfl, rfl⟩ (And.intro rfl ?_)))
          refine fcall _ h0 (fzs_sub (by decide +kernel) hW) hB113 (ct_Charter_put_c2709 (fBz h0 hB113) (by omega) (by omega)) ?_
          rintro IhB116 _ hB116 fhB116 rfl
          refine And.intro ⟨rfl, by decide, by decide⟩ ?_
          refine And.intro ⟨rfl, by decide, by decide⟩ ?_
          refine fload rL_165_165_0_23_1_0 h0 hB116 (by omega) ?_
          intro z117 lz117 uz117 qz117
          refine Exists.intro xm_20 (And.intro mi_20 (And.intro ⟨rfl, rfl, rfl, rfl⟩ (And.intro rfl ?_)))
          refine fcallp hB116 (ct_People_livingIn_ff6d0 (fBz h0 hB116) (by omega)) ?_
          rintro _ ⟨z118, rfl, hz118⟩
          refine Exists.intro xm_30 (And.intro mi_30 (And.intro ⟨rfl, rfl, rfl, rfl⟩ (And.intro rfl ?_)))
          refine fcall _ h0 (fzs_sub (by decide +kernel) hW) hB116 (ct_Charter_put_c2709 (fBz h0 hB116) (by omega) (by omega)) ?_
          rintro IhB120 _ hB120 fhB120 rfl
          refine Exists.intro xm_31 (And.intro mi_31 (And.intro ⟨rfl, rfl, rfl, rfl⟩ (And.intro rfl ?_)))
          refine fcallp hB120 (ct_City_level_61deb (fBz h0 hB120)) ?_
          rintro _ ⟨z121, rfl, hz121⟩
          refine Exists.intro xm_30 (And.intro mi_30 (And.intro ⟨rfl, rfl, rfl, rfl⟩ (And.intro rfl ?_)))
          refine fcall _ h0 (fzs_sub (by decide +kernel) hW) hB120 (ct_Charter_put_c2709 (fBz h0 hB120) (by omega) (by omega)) ?_
          rintro IhB123 _ hB123 fhB123 rfl
          exact rfl
        · intro c124
          refine And.intro ⟨rfl, by decide, by decide⟩ ?_
          refine fload rL_171_171_0_23_1_0 h0 hB110 (by omega) ?_
          intro z125 lz125 uz125 qz125
          refine Exists.intro xm_30 (And.intro mi_30 (And.intro ⟨rfl, rfl, rfl, rfl⟩ (And.intro rfl ?_)))
          refine fcall _ h0 (fzs_sub (by decide +kernel) hW) hB110 (ct_Charter_put_c2709 (fBz h0 hB110) (by omega) (by omega)) ?_
          rintro IhB127 _ hB127 fhB127 rfl
          refine And.intro ⟨rfl, by decide, by decide⟩ ?_
          refine fload rL_168_168_0_23_1_0 h0 hB127 (by omega) ?_
          intro z128 lz128 uz128 qz128
          refine Exists.intro xm_30 (And.intro mi_30 (And.intro ⟨rfl, rfl, rfl, rfl⟩ (And.intro rfl ?_)))
          refine fcall _ h0 (fzs_sub (by decide +kernel) hW) hB127 (ct_Charter_put_c2709 (fBz h0 hB127) (by omega) (by omega)) ?_
          rintro IhB130 _ hB130 fhB130 rfl
          refine And.intro ⟨rfl, by decide, by decide⟩ ?_
          refine And.intro ⟨rfl, by decide, by decide⟩ ?_
          refine fload rL_165_165_0_23_1_0 h0 hB130 (by omega) ?_
          intro z131 lz131 uz131 qz131
          refine Exists.intro xm_20 (And.intro mi_20 (And.intro ⟨rfl, rfl, rfl, rfl⟩ (And.intro rfl ?_)))
          refine fcallp hB130 (ct_People_livingIn_ff6d0 (fBz h0 hB130) (by omega)) ?_
          rintro _ ⟨z132, rfl, hz132⟩
          refine Exists.intro xm_30 (And.intro mi_30 (And.intro ⟨rfl, rfl, rfl, rfl⟩ (And.intro rfl ?_)))
          refine fcall _ h0 (fzs_sub (by decide +kernel) hW) hB130 (ct_Charter_put_c2709 (fBz h0 hB130) (by omega) (by omega)) ?_
          rintro IhB134 _ hB134 fhB134 rfl
          refine Exists.intro xm_31 (And.intro mi_31 (And.intro ⟨rfl, rfl, rfl, rfl⟩ (And.intro rfl ?_)))
          refine fcallp hB134 (ct_City_level_61deb (fBz h0 hB134)) ?_
          rintro _ ⟨z135, rfl, hz135⟩
          refine Exists.intro xm_30 (And.intro mi_30 (And.intro ⟨rfl, rfl, rfl, rfl⟩ (And.intro rfl ?_)))
          refine fcall _ h0 (fzs_sub (by decide +kernel) hW) hB134 (ct_Charter_put_c2709 (fBz h0 hB134) (by omega) (by omega)) ?_
          rintro IhB137 _ hB137 fhB137 rfl
          exact rfl
set_option maxRecDepth 8000 in
theorem ct_Charter_shedWorth_7321f {I : fH} {x2 : Int} (h0 : fB bsJ I) (ha2 : (0 ≤ x2 ∧ x2 ≤ 23)) : fC ρ base n F xTc vwCl xTys D dA la gJ (fbz bsJ znJ (fKc wz_7d09b) I) xm_150 [.inr (.inr (some 187)), .inr (.inr (some 1)), .inl x2] I (fun _ r => ∃ z, r = some (.inl z) ∧ ((-2147483648) ≤ z ∧ z ≤ 2147483647)) := by
  have hW : fzs wz_7d09b (fKc wz_7d09b) := fKc_ok _
  refine f_meth (rb := rbJ) (J := []) 1 400 xG xin_150 x6_150 okJ (fB_self h0) ?_ ?_
  · exact fun q h => absurd h List.not_mem_nil
  · have hB0 := fB_self (zn := znJ) (K := fKc wz_7d09b) h0
    refine And.intro ⟨rfl, by decide, by decide⟩ ?_
    refine Exists.intro xm_50 (And.intro mi_50 (And.intro ⟨rfl, rfl, rfl, rfl⟩ (And.intro rfl ?_)))
    refine fcallp hB0 (ct_Works_isGone_6681e (fBz h0 hB0) (by omega)) ?_
    rintro _ ⟨z1, rfl, hz1⟩
    refine And.intro (by omega) (And.intro ?_ ?_)
    · intro c2
      refine Exists.intro xm_32 (And.intro mi_32 (And.intro ⟨rfl, rfl, rfl, rfl⟩ (And.intro rfl ?_)))
      refine fcallp hB0 (ct_City_hour_b7a7b (fBz h0 hB0)) ?_
      rintro _ ⟨z3, rfl, hz3⟩
      refine Exists.intro xm_34 (And.intro mi_34 (And.intro ⟨rfl, rfl, rfl, rfl⟩ (And.intro rfl ?_)))
      refine fcallp hB0 (ct_Charter_counting_8f92c (fBz h0 hB0) (by omega) (by omega)) ?_
      rintro _ ⟨z4, rfl, hz4⟩
      refine And.intro (by omega) (And.intro ?_ ?_)
      · intro c5
        refine Exists.intro xm_151 (And.intro mi_151 (And.intro ⟨rfl, rfl, rfl, rfl⟩ (And.intro rfl ?_)))
        refine fcall _ h0 (fzs_sub (by decide +kernel) hW) hB0 (ct_Charter_putWork_fb8e9 (fBz h0 hB0) (by omega)) ?_
        rintro IhB7 _ hB7 fhB7 rfl
        refine Exists.intro xm_36 (And.intro mi_36 (And.intro ⟨rfl, rfl, rfl, rfl⟩ (And.intro rfl ?_)))
        refine fcall _ h0 (fzs_sub (by decide +kernel) hW) hB7 (ct_Charter_worth_04d20 (fBz h0 hB7) (by omega)) ?_
        rintro IhB9 _ hB9 fhB9 ⟨z8, rfl, hz8⟩
        refine And.intro (True.intro) ?_
        exact ⟨_, rfl, by omega⟩
      · intro c10
        refine And.intro ⟨rfl, by decide, by decide⟩ ?_
        refine And.intro ⟨rfl, by decide, by decide⟩ ?_
        refine fload rL_166_166_0_23_1_0 h0 hB0 (by omega) ?_
        intro z11 lz11 uz11 qz11
        refine And.intro (True.intro) ?_
        exact ⟨_, rfl, by omega⟩
    · intro c12
      refine And.intro (True.intro) ?_
      exact ⟨_, rfl, by omega⟩
abbrev jc_Charter_rankSheds_09e4d_2 : Nat → fL → List fV → fH → Prop := fun m lv st I => ∃ (y2 : Int), lv = [(0, .inr (.inr (some 187))), (1, .inr (.inr (some 1))), (2, .inl y2)] ∧ st = [] ∧ (((0 ≤ y2 ∧ y2 ≤ 24))) ∧ m = (1 + 1 * (24 - y2) : Int).toNat
set_option maxRecDepth 8000 in
theorem ct_Charter_rankSheds_09e4d {I : fH}  (h0 : fB bsJ I)  : fC ρ base n F xTc vwCl xTys D dA la gJ (fbz bsJ znJ (fKc wz_b4fc8) I) xm_149 [.inr (.inr (some 187)), .inr (.inr (some 1))] I (fun _ r => r = none) := by
  have hW : fzs wz_b4fc8 (fKc wz_b4fc8) := fKc_ok _
  refine f_meth (rb := rbJ) (J := [(2, jc_Charter_rankSheds_09e4d_2)]) 26 400 xG xin_149 x6_149 okJ (fB_self h0) ?_ ?_
  · refine List.forall_mem_cons.mpr ⟨?_, fun q h => absurd h List.not_mem_nil⟩
    · rintro m _ _ I1 hB1 ⟨y2, rfl, rfl, hb, hm⟩
      refine And.intro ⟨rfl, by decide, by decide⟩ ?_
      refine And.intro ⟨rfl, by decide, by decide⟩ (fgetf fb_163_13 h0 hB1 ?_)
      intro z1 lz1 uz1 qz1
      refine And.intro (by omega) (And.intro ?_ ?_)
      · intro c2
        exact rfl
      · intro c3
        refine And.intro ⟨rfl, by decide, by decide⟩ ?_
        refine Exists.intro xm_150 (And.intro mi_150 (And.intro ⟨rfl, rfl, rfl, rfl⟩ (And.intro rfl ?_)))
        refine fcall _ h0 (fzs_sub (by decide +kernel) hW) hB1 (ct_Charter_shedWorth_7321f (fBz h0 hB1) (by omega)) ?_
        rintro IhB5 _ hB5 fhB5 ⟨z4, rfl, hz4⟩
        have t6 := fhB5 163 13 (by decide +kernel)
        refine fstore rS_210_210_0_23_1_0 (fzs_sub (by decide +kernel) hW) (by omega) (by omega) ?_
        intro IhB7 ehB7 hB7
        have t8 := fup_self ehB7
        have t9 : IhB7 163 13 = IhB5 163 13 := (congrFun (congrFun ehB7 163) 13).trans (fup_ne (by omega))
        exact fcutJ (I := IhB7) (j := jc_Charter_rankSheds_09e4d_2) (lv' := [(0, .inr (.inr (some 187))), (1, .inr (.inr (some 1))), (2, .inl _)]) (And.intro rfl (And.intro rfl (And.intro rfl True.intro))) ⟨_, rfl, rfl, by omega, rfl⟩ (by omega)
  · have hB0 := fB_self (zn := znJ) (K := fKc wz_b4fc8) h0
    exact fcutJ (I := I) (j := jc_Charter_rankSheds_09e4d_2) (lv' := [(0, .inr (.inr (some 187))), (1, .inr (.inr (some 1))), (2, .inl _)]) (And.intro rfl (And.intro rfl (And.intro rfl True.intro))) ⟨_, rfl, rfl, by omega, rfl⟩ (by omega)
abbrev jc_X_order_a16c4_32 : Nat → fL → List fV → fH → Prop := fun m lv st I => ∃ (y1 : Int) (y2 : Int) (y3 : Int), lv = [(0, .inr (.inr (some 0))), (1, .inl y1), (2, .inl y2), (3, .inl y3)] ∧ st = [] ∧ (((0 ≤ y1 ∧ y1 ≤ 2147483647) ∧ ((0 ≤ y2 ∧ y2 ≤ 23) ∨ y2 = (-1000000005)) ∧ (0 ≤ y3 ∧ y3 ≤ 2147483647))) ∧ m = (1 + 1 * (2147483647 - y3) : Int).toNat
set_option maxRecDepth 8000 in
theorem ct_X_order_a16c4 {I : fH} {x1 : Int} (h0 : fB bsJ I) (ha1 : ((-2147483648) ≤ x1 ∧ x1 ≤ 2147483647)) : fC ρ base n F xTc vwCl xTys D dA la gJ (fbz bsJ znJ (fKc wz_b4fc8) I) xm_148 [.inr (.inr (some 0)), .inl x1] I (fun _ r => ∃ z, r = some (.inl z) ∧ ((0 ≤ z ∧ z ≤ 23) ∨ z = (-1000000005) ∨ z = (-1000000001))) := by
  have hW : fzs wz_b4fc8 (fKc wz_b4fc8) := fKc_ok _
  refine f_meth (rb := rbJ) (J := [(32, jc_X_order_a16c4_32)]) 2147483649 400 xG xin_148 x6_148 okJ (fB_self h0) ?_ ?_
  · refine List.forall_mem_cons.mpr ⟨?_, fun q h => absurd h List.not_mem_nil⟩
    · rintro m _ _ I1 hB1 ⟨y1, y2, y3, rfl, rfl, hb, hm⟩
      refine And.intro (by omega) (And.intro ?_ ?_)
      · intro c1
        refine And.intro (True.intro) ?_
        exact ⟨_, rfl, by omega⟩
      · intro c2
        refine And.intro (by omega) (And.intro ?_ ?_)
        · intro c3
          refine And.intro (True.intro) ?_
          exact ⟨_, rfl, by omega⟩
        · intro c4
          refine And.intro ⟨rfl, by decide, by decide⟩ ?_
          refine And.intro ⟨rfl, by decide, by decide⟩ ?_
          refine Exists.intro xm_152 (And.intro mi_152 (And.intro ⟨rfl, rfl, rfl, rfl⟩ (And.intro rfl ?_)))
          refine fcall _ h0 (fzs_sub (by decide +kernel) hW) hB1 (ct_Charter_nextShed_baa16 (fBz h0 hB1)) ?_
          rintro IhB6 _ hB6 fhB6 ⟨z5, rfl, hz5⟩
          exact fcutJ (I := IhB6) (j := jc_X_order_a16c4_32) (lv' := [(0, .inr (.inr (some 0))), (1, .inl _), (2, .inl _), (3, .inl _)]) (And.intro rfl (And.intro rfl (And.intro rfl (And.intro rfl True.intro)))) ⟨_, _, _, rfl, rfl, by omega, rfl⟩ (by omega)
  · have hB0 := fB_self (zn := znJ) (K := fKc wz_b4fc8) h0
    refine And.intro (by omega) (And.intro ?_ ?_)
    · intro c7
      refine And.intro ⟨rfl, by decide, by decide⟩ ?_
      refine And.intro ⟨rfl, by decide, by decide⟩ ?_
      refine Exists.intro xm_149 (And.intro mi_149 (And.intro ⟨rfl, rfl, rfl, rfl⟩ (And.intro rfl ?_)))
      refine fcall _ h0 (fzs_sub (by decide +kernel) hW) hB0 (ct_Charter_rankSheds_09e4d (fBz h0 hB0)) ?_
      rintro IhB9 _ hB9 fhB9 rfl
      refine And.intro ⟨rfl, by decide, by decide⟩ ?_
      refine And.intro ⟨rfl, by decide, by decide⟩ ?_
      refine Exists.intro xm_152 (And.intro mi_152 (And.intro ⟨rfl, rfl, rfl, rfl⟩ (And.intro rfl ?_)))
      refine fcall _ h0 (fzs_sub (by decide +kernel) hW) hB9 (ct_Charter_nextShed_baa16 (fBz h0 hB9)) ?_
      rintro IhB11 _ hB11 fhB11 ⟨z10, rfl, hz10⟩
      exact fcutJ (I := IhB11) (j := jc_X_order_a16c4_32) (lv' := [(0, .inr (.inr (some 0))), (1, .inl _), (2, .inl _), (3, .inl _)]) (And.intro rfl (And.intro rfl (And.intro rfl (And.intro rfl True.intro)))) ⟨_, _, _, rfl, rfl, by omega, rfl⟩ (by omega)
    · intro c12
      refine And.intro (True.intro) ?_
      exact ⟨_, rfl, by omega⟩
set_option maxRecDepth 8000 in
theorem ct_City_shedWork_42a03 {I : fH} {x1 : Int} (h0 : fB bsJ I) (ha1 : (0 ≤ x1 ∧ x1 ≤ 23)) : fC ρ base n F xTc vwCl xTys D dA la gJ (fbz bsJ znJ (fKc wz_a5b5b) I) xm_154 [.inr (.inr (some 1)), .inl x1] I (fun _ r => r = none) := by
  have hW : fzs wz_a5b5b (fKc wz_a5b5b) := fKc_ok _
  refine f_meth (rb := rbJ) (J := []) 1 400 xG xin_154 x6_154 okJ (fB_self h0) ?_ ?_
  · exact fun q h => absurd h List.not_mem_nil
  · have hB0 := fB_self (zn := znJ) (K := fKc wz_a5b5b) h0
    refine And.intro ⟨rfl, by decide, by decide⟩ ?_
    refine Exists.intro xm_64 (And.intro mi_64 (And.intro ⟨rfl, rfl, rfl, rfl⟩ (And.intro rfl ?_)))
    refine fcallp hB0 (ct_Works_isSkin_801f8 (fBz h0 hB0) (by omega)) ?_
    rintro _ ⟨z1, rfl, hz1⟩
    refine And.intro (by omega) (And.intro ?_ ?_)
    · intro c2
      refine And.intro ⟨rfl, by decide, by decide⟩ ?_
      refine And.intro ⟨rfl, by decide, by decide⟩ ?_
      refine fstore rS_174_174_0_23_1_0 (fzs_sub (by decide +kernel) hW) (by omega) (by omega) ?_
      intro IhB3 ehB3 hB3
      have t4 := fup_self ehB3
      exact rfl
    · intro c5
      refine And.intro ⟨rfl, by decide, by decide⟩ ?_
      refine And.intro ⟨rfl, by decide, by decide⟩ ?_
      refine fload rL_172_172_0_23_1_0 h0 hB0 (by omega) ?_
      intro z6 lz6 uz6 qz6
      refine Exists.intro xm_81 (And.intro mi_81 (And.intro ⟨rfl, rfl, rfl, rfl⟩ (And.intro rfl ?_)))
      refine fcall _ h0 (fzs_sub (by decide +kernel) hW) hB0 (ct_City_loseGas_68982 (fBz h0 hB0) (by omega) (by omega)) ?_
      rintro IhB8 _ hB8 fhB8 rfl
      refine And.intro ⟨rfl, by decide, by decide⟩ ?_
      refine And.intro ⟨rfl, by decide, by decide⟩ ?_
      refine fstore rS_174_174_0_23_1_0 (fzs_sub (by decide +kernel) hW) (by omega) (by omega) ?_
      intro IhB9 ehB9 hB9
      have t10 := fup_self ehB9
      exact rfl
set_option maxRecDepth 8000 in
theorem ct_X_shed_66828 {I : fH}  (h0 : fB bsJ I)  : fC ρ base n F xTc vwCl xTys D dA la gJ (fbz bsJ znJ (fKc wz_9b72b) I) xm_153 [.inr (.inr (some 0))] I (fun _ r => ∃ z, r = some (.inl z) ∧ ((0 ≤ z ∧ z ≤ 23) ∨ z = (-1000000002))) := by
  have hW : fzs wz_9b72b (fKc wz_9b72b) := fKc_ok _
  refine f_meth (rb := rbJ) (J := []) 1 400 xG xin_153 x6_153 okJ (fB_self h0) ?_ ?_
  · exact fun q h => absurd h List.not_mem_nil
  · have hB0 := fB_self (zn := znJ) (K := fKc wz_9b72b) h0
    refine And.intro ⟨rfl, by decide, by decide⟩ ?_
    refine And.intro ⟨rfl, by decide, by decide⟩ ?_
    refine Exists.intro xm_149 (And.intro mi_149 (And.intro ⟨rfl, rfl, rfl, rfl⟩ (And.intro rfl ?_)))
    refine fcall _ h0 (fzs_sub (by decide +kernel) hW) hB0 (ct_Charter_rankSheds_09e4d (fBz h0 hB0)) ?_
    rintro IhB2 _ hB2 fhB2 rfl
    refine And.intro ⟨rfl, by decide, by decide⟩ ?_
    refine And.intro ⟨rfl, by decide, by decide⟩ ?_
    refine Exists.intro xm_152 (And.intro mi_152 (And.intro ⟨rfl, rfl, rfl, rfl⟩ (And.intro rfl ?_)))
    refine fcall _ h0 (fzs_sub (by decide +kernel) hW) hB2 (ct_Charter_nextShed_baa16 (fBz h0 hB2)) ?_
    rintro IhB4 _ hB4 fhB4 ⟨z3, rfl, hz3⟩
    refine And.intro (by omega) (And.intro ?_ ?_)
    · intro c5
      refine And.intro ⟨rfl, by decide, by decide⟩ ?_
      refine Exists.intro xm_154 (And.intro mi_154 (And.intro ⟨rfl, rfl, rfl, rfl⟩ (And.intro rfl ?_)))
      refine fcall _ h0 (fzs_sub (by decide +kernel) hW) hB4 (ct_City_shedWork_42a03 (fBz h0 hB4) (by omega)) ?_
      rintro IhB7 _ hB7 fhB7 rfl
      refine And.intro (True.intro) ?_
      exact ⟨_, rfl, by omega⟩
    · intro c8
      refine And.intro (True.intro) ?_
      exact ⟨_, rfl, by omega⟩
abbrev jc_X_enough_1540b_29 : Nat → fL → List fV → fH → Prop := fun m lv st I => ∃ (y1 : Int) (y2 : Int) (y3 : Int), lv = [(0, .inr (.inr (some 0))), (1, .inl y1), (2, .inl y2), (3, .inl y3)] ∧ st = [] ∧ ((((-2147483648) ≤ y1 ∧ y1 ≤ 2147483647) ∧ ((-2147483648) ≤ y2 ∧ y2 ≤ 2147483647) ∧ (0 ≤ y3 ∧ y3 ≤ 25))) ∧ m = (1 + 1 * (25 - y3) : Int).toNat
set_option maxRecDepth 8000 in
theorem ct_X_enough_1540b {I : fH}  (h0 : fB bsJ I)  : fC ρ base n F xTc vwCl xTys D dA la gJ (fbz bsJ znJ (fKc wz_b4fc8) I) xm_155 [.inr (.inr (some 0))] I (fun _ r => ∃ z, r = some (.inl z) ∧ ((0 ≤ z ∧ z ≤ 24) ∨ z = (-1000000002))) := by
  have hW : fzs wz_b4fc8 (fKc wz_b4fc8) := fKc_ok _
  refine f_meth (rb := rbJ) (J := [(29, jc_X_enough_1540b_29)]) 27 400 xG xin_155 x6_155 okJ (fB_self h0) ?_ ?_
  · refine List.forall_mem_cons.mpr ⟨?_, fun q h => absurd h List.not_mem_nil⟩
    · rintro m _ _ I1 hB1 ⟨y1, y2, y3, rfl, rfl, hb, hm⟩
      refine And.intro (by omega) (And.intro ?_ ?_)
      · intro c1
        refine And.intro (True.intro) ?_
        exact ⟨_, rfl, by omega⟩
      · intro c2
        refine And.intro (by omega) (And.intro ?_ ?_)
        · intro c3
          refine And.intro ⟨rfl, by decide, by decide⟩ ?_
          refine And.intro ⟨rfl, by decide, by decide⟩ ?_
          refine Exists.intro xm_152 (And.intro mi_152 (And.intro ⟨rfl, rfl, rfl, rfl⟩ (And.intro rfl ?_)))
          refine fcall _ h0 (fzs_sub (by decide +kernel) hW) hB1 (ct_Charter_nextShed_baa16 (fBz h0 hB1)) ?_
          rintro IhB5 _ hB5 fhB5 ⟨z4, rfl, hz4⟩
          refine And.intro (by omega) (And.intro ?_ ?_)
          · intro c6
            refine And.intro ⟨rfl, by decide, by decide⟩ ?_
            refine Exists.intro xm_63 (And.intro mi_63 (And.intro ⟨rfl, rfl, rfl, rfl⟩ (And.intro rfl ?_)))
            refine fcallp hB5 (ct_City_liftOf_26d0e (fBz h0 hB5) (by omega)) ?_
            rintro _ ⟨z7, rfl, hz7⟩
            intro z8 hz8 ez8 bz8
            refine And.intro ⟨rfl, by decide, by decide⟩ ?_
            refine And.intro ⟨rfl, by decide, by decide⟩ ?_
            refine Exists.intro xm_68 (And.intro mi_68 (And.intro ⟨rfl, rfl, rfl, rfl⟩ (And.intro rfl ?_)))
            refine fcallp hB5 (ct_Works_weightOf_e689a (fBz h0 hB5) (by omega)) ?_
            rintro _ ⟨z9, rfl, hz9⟩
            intro z10 hz10 ez10 bz10
            exact fcutJ (I := IhB5) (j := jc_X_enough_1540b_29) (lv' := [(0, .inr (.inr (some 0))), (1, .inl _), (2, .inl _), (3, .inl _)]) (And.intro rfl (And.intro rfl (And.intro rfl (And.intro rfl True.intro)))) ⟨_, _, _, rfl, rfl, by omega, rfl⟩ (by omega)
          · intro c11
            refine And.intro (True.intro) ?_
            exact ⟨_, rfl, by omega⟩
        · intro c12
          refine And.intro (True.intro) ?_
          exact ⟨_, rfl, by omega⟩
  · have hB0 := fB_self (zn := znJ) (K := fKc wz_b4fc8) h0
    refine And.intro ⟨rfl, by decide, by decide⟩ ?_
    refine And.intro ⟨rfl, by decide, by decide⟩ ?_
    refine Exists.intro xm_149 (And.intro mi_149 (And.intro ⟨rfl, rfl, rfl, rfl⟩ (And.intro rfl ?_)))
    refine fcall _ h0 (fzs_sub (by decide +kernel) hW) hB0 (ct_Charter_rankSheds_09e4d (fBz h0 hB0)) ?_
    rintro IhB14 _ hB14 fhB14 rfl
    refine And.intro ⟨rfl, by decide, by decide⟩ ?_
    refine Exists.intro xm_62 (And.intro mi_62 (And.intro ⟨rfl, rfl, rfl, rfl⟩ (And.intro rfl ?_)))
    refine fcallp hB14 (ct_City_lift_641ac (fBz h0 hB14)) ?_
    rintro _ ⟨z15, rfl, hz15⟩
    refine And.intro ⟨rfl, by decide, by decide⟩ ?_
    refine Exists.intro xm_65 (And.intro mi_65 (And.intro ⟨rfl, rfl, rfl, rfl⟩ (And.intro rfl ?_)))
    refine fcallp hB14 (ct_City_weight_75fdd (fBz h0 hB14)) ?_
    rintro _ ⟨z16, rfl, hz16⟩
    exact fcutJ (I := IhB14) (j := jc_X_enough_1540b_29) (lv' := [(0, .inr (.inr (some 0))), (1, .inl _), (2, .inl _), (3, .inl _)]) (And.intro rfl (And.intro rfl (And.intro rfl (And.intro rfl True.intro)))) ⟨_, _, _, rfl, rfl, by omega, rfl⟩ (by omega)
abbrev jc_Arrays_fill_8f13d_5 : Nat → fL → List fV → fH → Prop := fun m lv st I => ∃ (y0 : Nat) (y1 : Int) (y2 : Int) (y3 : Int), lv = [(0, .inr (.inr (some y0))), (1, .inl y1), (2, .inl y2), (3, .inl y3)] ∧ st = [] ∧ (((707 ≤ y0 ∧ y0 ≤ 726) ∧ (0 ≤ y1 ∧ y1 ≤ 0) ∧ (0 ≤ y2 ∧ y2 ≤ 30) ∧ (30 ≤ y3 ∧ y3 ≤ 30))) ∧ m = (1 + 1 * (30 - y2) : Int).toNat
set_option maxRecDepth 8000 in
theorem ct_Arrays_fill_8f13d {I : fH} {x0 : Nat} {x1 : Int} (h0 : fB bsJ I) (ha0 : (707 ≤ x0 ∧ x0 ≤ 726)) (ha1 : (0 ≤ x1 ∧ x1 ≤ 0)) : fC ρ base n F xTc vwCl xTys D dA la gJ (fbz bsJ znJ (fKc wz_65950) I) xm_498 [.inr (.inr (some x0)), .inl x1] I (fun _ r => r = none) := by
  have hW : fzs wz_65950 (fKc wz_65950) := fKc_ok _
  refine f_meth (rb := rbJ) (J := [(5, jc_Arrays_fill_8f13d_5)]) 32 400 xG xin_498 x6_498 okJ (fB_self h0) ?_ ?_
  · refine List.forall_mem_cons.mpr ⟨?_, fun q h => absurd h List.not_mem_nil⟩
    · rintro m _ _ I1 hB1 ⟨y0, y1, y2, y3, rfl, rfl, hb, hm⟩
      refine And.intro (by omega) (And.intro ?_ ?_)
      · intro c1
        exact rfl
      · intro c2
        refine fstore rS_707_726_0_29_1_0 (fzs_sub (by decide +kernel) hW) (by omega) (by omega) ?_
        intro IhB3 ehB3 hB3
        have t4 := fup_self ehB3
        exact fcutJ (I := IhB3) (j := jc_Arrays_fill_8f13d_5) (lv' := [(0, .inr (.inr (some _))), (1, .inl _), (2, .inl _), (3, .inl _)]) (And.intro rfl (And.intro rfl (And.intro rfl (And.intro rfl True.intro)))) ⟨_, _, _, _, rfl, rfl, by omega, rfl⟩ (by omega)
  · have hB0 := fB_self (zn := znJ) (K := fKc wz_65950) h0
    refine Exists.intro 100 (Exists.intro 30 (And.intro (rgG_707_726 (by omega) (by omega)).1 (And.intro ⟨by decide, by decide, by decide⟩ ?_)))
    exact fcutJ (I := I) (j := jc_Arrays_fill_8f13d_5) (lv' := [(0, .inr (.inr (some _))), (1, .inl _), (2, .inl _), (3, .inl _)]) (And.intro rfl (And.intro rfl (And.intro rfl (And.intro rfl True.intro)))) ⟨_, _, _, _, rfl, rfl, by omega, rfl⟩ (by omega)
set_option maxRecDepth 8000 in
theorem ct_Gauges_begin_09be5 {I : fH} {x1 : Int} {x2 : Int} {x3 : Int} (h0 : fB bsJ I) (ha1 : (0 ≤ x1 ∧ x1 ≤ 19)) (ha2 : (0 ≤ x2 ∧ x2 ≤ 1)) (ha3 : (0 ≤ x3 ∧ x3 ≤ 30)) : fC ρ base n F xTc vwCl xTys D dA la gJ (fbz bsJ znJ (fKc wz_12c7f) I) xm_157 [.inr (.inr (some 703)), .inl x1, .inl x2, .inl x3] I (fun _ r => ∃ z, r = some (.inl z) ∧ (0 ≤ z ∧ z ≤ 30)) := by
  have hW : fzs wz_12c7f (fKc wz_12c7f) := fKc_ok _
  refine f_meth (rb := rbJ) (J := []) 1 400 xG xin_157 x6_157 okJ (fB_self h0) ?_ ?_
  · exact fun q h => absurd h List.not_mem_nil
  · have hB0 := fB_self (zn := znJ) (K := fKc wz_12c7f) h0
    refine And.intro ⟨rfl, by decide, by decide⟩ ?_
    refine fstore rS_704_704_0_19_1_0 (fzs_sub (by decide +kernel) hW) (by omega) (by omega) ?_
    intro IhB1 ehB1 hB1
    have t2 := fup_self ehB1
    refine And.intro ⟨rfl, by decide, by decide⟩ ?_
    refine fstore rS_705_705_0_19_1_0 (fzs_sub (by decide +kernel) hW) (by omega) (by omega) ?_
    intro IhB3 ehB3 hB3
    have t4 := fup_self ehB3
    refine And.intro ⟨rfl, by decide, by decide⟩ ?_
    refine And.intro ⟨rfl, by decide⟩ (And.intro (by omega) ?_)
    refine Exists.intro xm_498 (And.intro mi_498 (And.intro ⟨rfl, rfl, rfl, rfl⟩ (And.intro True.intro ?_)))
    refine fcall _ h0 (fzs_sub (by decide +kernel) hW) hB3 (ct_Arrays_fill_8f13d (fBz h0 hB3) (by omega) (by omega)) ?_
    rintro IhB6 _ hB6 fhB6 rfl
    refine And.intro (True.intro) ?_
    exact ⟨_, rfl, by omega⟩
set_option maxRecDepth 8000 in
theorem ct_X_gauge_a2643 {I : fH} {x1 : Int} {x2 : Int} {x3 : Int} (h0 : fB bsJ I) (ha1 : ((-2147483648) ≤ x1 ∧ x1 ≤ 2147483647)) (ha2 : ((-2147483648) ≤ x2 ∧ x2 ≤ 2147483647)) (ha3 : ((-2147483648) ≤ x3 ∧ x3 ≤ 2147483647)) : fC ρ base n F xTc vwCl xTys D dA la gJ (fbz bsJ znJ (fKc wz_12c7f) I) xm_156 [.inr (.inr (some 0)), .inl x1, .inl x2, .inl x3] I (fun _ r => ∃ z, r = some (.inl z) ∧ ((0 ≤ z ∧ z ≤ 30) ∨ z = (-1000000014) ∨ z = (-1000000001))) := by
  have hW : fzs wz_12c7f (fKc wz_12c7f) := fKc_ok _
  refine f_meth (rb := rbJ) (J := []) 1 400 xG xin_156 x6_156 okJ (fB_self h0) ?_ ?_
  · exact fun q h => absurd h List.not_mem_nil
  · have hB0 := fB_self (zn := znJ) (K := fKc wz_12c7f) h0
    refine And.intro ⟨rfl, by decide, by decide⟩ ?_
    refine Exists.intro xm_17 (And.intro mi_17 (And.intro ⟨rfl, rfl, rfl, rfl⟩ (And.intro rfl ?_)))
    refine fcallp hB0 (ct_City_isCell_46f02 (fBz h0 hB0) (by omega)) ?_
    rintro _ ⟨z1, rfl, hz1⟩
    refine And.intro (by omega) (And.intro ?_ ?_)
    · intro c2
      refine And.intro (True.intro) ?_
      exact ⟨_, rfl, by omega⟩
    · intro c3
      refine Exists.intro xm_13 (And.intro mi_13 (And.intro ⟨rfl, rfl, rfl, rfl⟩ (And.intro True.intro ?_)))
      refine fcallp hB0 (ct_X_within_c27b1 (fBz h0 hB0) (by omega) (by omega) (by omega)) ?_
      rintro _ ⟨z4, rfl, hz4⟩
      refine And.intro (by omega) (And.intro ?_ ?_)
      · intro c5
        refine And.intro (by omega) (And.intro ?_ ?_)
        · intro c6
          refine And.intro (by omega) (And.intro ?_ ?_)
          · intro c7
            refine And.intro (by omega) (And.intro ?_ ?_)
            · intro c8
              refine And.intro ⟨rfl, by decide, by decide⟩ ?_
              refine Exists.intro xm_157 (And.intro mi_157 (And.intro ⟨rfl, rfl, rfl, rfl⟩ (And.intro rfl ?_)))
              refine fcall _ h0 (fzs_sub (by decide +kernel) hW) hB0 (ct_Gauges_begin_09be5 (fBz h0 hB0) (by omega) (by omega) (by omega)) ?_
              rintro IhB10 _ hB10 fhB10 ⟨z9, rfl, hz9⟩
              refine And.intro (True.intro) ?_
              exact ⟨_, rfl, by omega⟩
            · intro c11
              refine And.intro (True.intro) ?_
              exact ⟨_, rfl, by omega⟩
          · intro c12
            refine And.intro (True.intro) ?_
            exact ⟨_, rfl, by omega⟩
        · intro c13
          refine And.intro ⟨rfl, by decide, by decide⟩ ?_
          refine Exists.intro xm_15 (And.intro mi_15 (And.intro ⟨rfl, rfl, rfl, rfl⟩ (And.intro rfl ?_)))
          refine fcall _ h0 (fzs_sub (by decide +kernel) hW) hB0 (ct_Gauges_forget_a5150 (fBz h0 hB0) (by omega)) ?_
          rintro IhB15 _ hB15 fhB15 rfl
          refine And.intro (True.intro) ?_
          exact ⟨_, rfl, by omega⟩
      · intro c16
        refine And.intro (True.intro) ?_
        exact ⟨_, rfl, by omega⟩
abbrev jc_M_gauge_31c2d_30 : Nat → fL → List fV → fH → Prop := fun m lv st I => lv = [] ∧ st = [] ∧ (True) ∧ m = (1 : Int).toNat
abbrev jc_M_gauge_31c2d_33 : Nat → fL → List fV → fH → Prop := fun m lv st I => ∃ (y1 : Int) (y2 : Int) (y3 : Int), lv = [(0, .inr (.inr (some 740))), (1, .inl y1), (2, .inl y2), (3, .inl y3)] ∧ st = [] ∧ (((0 ≤ y1 ∧ y1 ≤ 19) ∧ ((-1) ≤ y2 ∧ y2 ≤ 1) ∧ ((-2147483648) ≤ y3 ∧ y3 ≤ 2147483647) ∧ (0 ≤ y2 → y3 ≤ 30))) ∧ m = (34 : Int).toNat
abbrev jc_M_gauge_31c2d_45 : Nat → fL → List fV → fH → Prop := fun m lv st I => ∃ (y1 : Int) (y2 : Int) (y3 : Int), lv = [(0, .inr (.inr (some 740))), (1, .inl y1), (2, .inl y2), (3, .inl y3)] ∧ st = [] ∧ (((0 ≤ y1 ∧ y1 ≤ 19) ∧ ((-1) ≤ y2 ∧ y2 ≤ 1) ∧ ((-2147483648) ≤ y3 ∧ y3 ≤ 2147483647) ∧ (0 ≤ y2 → 0 ≤ y3 ∧ y3 ≤ 30))) ∧ m = (33 : Int).toNat
abbrev jc_M_gauge_31c2d_70 : Nat → fL → List fV → fH → Prop := fun m lv st I => ∃ (y1 : Int) (y4 : Int), lv = [(0, .inr (.inr (some 740))), (1, .inl y1), (4, .inl y4)] ∧ st = [] ∧ (((0 ≤ y1 ∧ y1 ≤ 19) ∧ (0 ≤ y4 ∧ y4 ≤ 30))) ∧ m = (2 + 1 * (30 - y4) : Int).toNat
set_option maxRecDepth 8000 in
theorem ct_M_gauge_31c2d {I : fH} {x1 : Int} {x2 : Int} {x3 : Int} (h0 : fB bsJ I) (ha1 : ((-2147483648) ≤ x1 ∧ x1 ≤ 2147483647)) (ha2 : ((-2147483648) ≤ x2 ∧ x2 ≤ 2147483647)) (ha3 : ((-2147483648) ≤ x3 ∧ x3 ≤ 2147483647)) : fC ρ base n F xTc vwCl xTys D dA la gJ (fbz bsJ znJ (fKc wz_c0410) I) xm_438 [.inr (.inr (some 740)), .inl x1, .inl x2, .inl x3] I (fun _ r => ∃ z, r = some (.inl z) ∧ ((0 ≤ z ∧ z ≤ 30) ∨ z = (-1000000014) ∨ z = (-1000000001))) := by
  have hW : fzs wz_c0410 (fKc wz_c0410) := fKc_ok _
  refine f_meth (rb := rbJ) (J := [(30, jc_M_gauge_31c2d_30), (33, jc_M_gauge_31c2d_33), (45, jc_M_gauge_31c2d_45), (70, jc_M_gauge_31c2d_70)]) 35 400 xG xin_438 x6_438 okJ (fB_self h0) ?_ ?_
  · refine List.forall_mem_cons.mpr ⟨?_, List.forall_mem_cons.mpr ⟨?_, List.forall_mem_cons.mpr ⟨?_, List.forall_mem_cons.mpr ⟨?_, fun q h => absurd h List.not_mem_nil⟩⟩⟩⟩
    · rintro m _ _ I1 hB1 ⟨rfl, rfl, hb, hm⟩
      refine And.intro (True.intro) ?_
      exact ⟨_, rfl, by omega⟩
    · rintro m _ _ I1 hB1 ⟨y1, y2, y3, rfl, rfl, hb, hm⟩
      refine And.intro (by omega) (And.intro ?_ ?_)
      · intro c1
        exact fcutJ (I := I1) (j := jc_M_gauge_31c2d_45) (lv' := [(0, .inr (.inr (some 740))), (1, .inl _), (2, .inl _), (3, .inl _)]) (And.intro rfl (And.intro rfl (And.intro rfl (And.intro rfl True.intro)))) ⟨_, _, _, rfl, rfl, by omega, rfl⟩ (by omega)
      · intro c2
        refine And.intro (by omega) (And.intro ?_ ?_)
        · intro c3
          exact fcutJ (I := I1) (j := jc_M_gauge_31c2d_45) (lv' := [(0, .inr (.inr (some 740))), (1, .inl _), (2, .inl _), (3, .inl _)]) (And.intro rfl (And.intro rfl (And.intro rfl (And.intro rfl True.intro)))) ⟨_, _, _, rfl, rfl, by omega, rfl⟩ (by omega)
        · intro c4
          refine And.intro (True.intro) ?_
          exact ⟨_, rfl, by omega⟩
    · rintro m _ _ I1 hB1 ⟨y1, y2, y3, rfl, rfl, hb, hm⟩
      refine And.intro ⟨rfl, by decide, by decide⟩ ?_
      refine fstore rS_744_744_0_19_1_0 (fzs_sub (by decide +kernel) hW) (by omega) (by omega) ?_
      intro IhB5 ehB5 hB5
      have t6 := fup_self ehB5
      refine And.intro ⟨rfl, by decide, by decide⟩ ?_
      refine And.intro (by omega) (And.intro ?_ ?_)
      · intro c7
        refine fstore rS_745_745_0_19_1_0 (fzs_sub (by decide +kernel) hW) (by omega) (by omega) ?_
        intro IhB8 ehB8 hB8
        have t9 := fup_self ehB8
        exact fcutJ (I := IhB8) (j := jc_M_gauge_31c2d_70) (lv' := [(0, .inr (.inr (some 740))), (1, .inl _), (4, .inl _)]) (And.intro rfl (And.intro rfl (And.intro rfl True.intro))) ⟨_, _, rfl, rfl, by omega, rfl⟩ (by omega)
      · intro c10
        refine fstore rS_745_745_0_19_1_0 (fzs_sub (by decide +kernel) hW) (by omega) (by omega) ?_
        intro IhB11 ehB11 hB11
        have t12 := fup_self ehB11
        exact fcutJ (I := IhB11) (j := jc_M_gauge_31c2d_70) (lv' := [(0, .inr (.inr (some 740))), (1, .inl _), (4, .inl _)]) (And.intro rfl (And.intro rfl (And.intro rfl True.intro))) ⟨_, _, rfl, rfl, by omega, rfl⟩ (by omega)
    · rintro m _ _ I1 hB1 ⟨y1, y4, rfl, rfl, hb, hm⟩
      refine And.intro (by omega) (And.intro ?_ ?_)
      · intro c13
        refine And.intro ⟨rfl, by decide, by decide⟩ ?_
        refine fload rL_745_745_0_19_1_0 h0 hB1 (by omega) ?_
        intro z14 lz14 uz14 qz14
        refine And.intro (True.intro) ?_
        exact ⟨_, rfl, by omega⟩
      · intro c15
        refine And.intro ⟨rfl, by decide, by decide⟩ ?_
        refine fstore rS_746_746_0_599_1_0 (fzs_sub (by decide +kernel) hW) (by omega) (by omega) ?_
        intro IhB16 ehB16 hB16
        have t17 := fup_self ehB16
        exact fcutJ (I := IhB16) (j := jc_M_gauge_31c2d_70) (lv' := [(0, .inr (.inr (some 740))), (1, .inl _), (4, .inl _)]) (And.intro rfl (And.intro rfl (And.intro rfl True.intro))) ⟨_, _, rfl, rfl, by omega, rfl⟩ (by omega)
  · have hB0 := fB_self (zn := znJ) (K := fKc wz_c0410) h0
    refine Exists.intro xm_241 (And.intro mi_241 (And.intro ⟨rfl, rfl, rfl, rfl⟩ (And.intro rfl ?_)))
    refine fcallp hB0 (ct_M_isCell_45859 (fBz h0 hB0) (by omega)) ?_
    rintro _ ⟨z18, rfl, hz18⟩
    refine And.intro (by omega) (And.intro ?_ ?_)
    · intro c19
      exact fcutJ (I := I) (j := jc_M_gauge_31c2d_30) (lv' := []) (True.intro) ⟨rfl, rfl, True.intro, rfl⟩ (by omega)
    · intro c20
      refine And.intro (by omega) ?_
      refine Exists.intro xm_238 (And.intro mi_238 (And.intro ⟨rfl, rfl, rfl, rfl⟩ (And.intro True.intro ?_)))
      refine fcallp hB0 (ct_M_isIn_27230 (fBz h0 hB0) (by omega) (by omega) (by omega)) ?_
      rintro _ ⟨z21, rfl, hz21⟩
      refine And.intro (by omega) (And.intro ?_ ?_)
      · intro c22
        exact fcutJ (I := I) (j := jc_M_gauge_31c2d_30) (lv' := []) (True.intro) ⟨rfl, rfl, True.intro, rfl⟩ (by omega)
      · intro c23
        refine And.intro (by omega) (And.intro ?_ ?_)
        · intro c24
          exact fcutJ (I := I) (j := jc_M_gauge_31c2d_33) (lv' := [(0, .inr (.inr (some 740))), (1, .inl _), (2, .inl _), (3, .inl _)]) (And.intro rfl (And.intro rfl (And.intro rfl (And.intro rfl True.intro)))) ⟨_, _, _, rfl, rfl, by omega, rfl⟩ (by omega)
        · intro c25
          refine And.intro (by omega) (And.intro ?_ ?_)
          · intro c26
            exact fcutJ (I := I) (j := jc_M_gauge_31c2d_33) (lv' := [(0, .inr (.inr (some 740))), (1, .inl _), (2, .inl _), (3, .inl _)]) (And.intro rfl (And.intro rfl (And.intro rfl (And.intro rfl True.intro)))) ⟨_, _, _, rfl, rfl, by omega, rfl⟩ (by omega)
          · intro c27
            exact fcutJ (I := I) (j := jc_M_gauge_31c2d_30) (lv' := []) (True.intro) ⟨rfl, rfl, True.intro, rfl⟩ (by omega)
set_option maxRecDepth 8000 in
theorem ct_Gauges_hasPlace_f9c97 {I : fH} {x1 : Int} {x2 : Int} (h0 : fB bsJ I) (ha1 : (0 ≤ x1 ∧ x1 ≤ 19)) (ha2 : ((-2147483648) ≤ x2 ∧ x2 ≤ 2147483647)) : fC ρ base n F xTc vwCl xTys D dA la gJ (fbz bsJ znJ (fKc []) I) xm_160 [.inr (.inr (some 703)), .inl x1, .inl x2] I (fun _ r => ∃ z, r = some (.inl z) ∧ ((z = 1 ∧ 0 ≤ x2 ∧ x2 ≤ 29) ∨ z = 0)) := by
  have hW : fzs [] (fKc []) := fKc_ok _
  refine f_meth (rb := rbJ) (J := []) 1 400 xG xin_160 x6_160 okJ (fB_self h0) ?_ ?_
  · exact fun q h => absurd h List.not_mem_nil
  · have hB0 := fB_self (zn := znJ) (K := fKc []) h0
    refine And.intro ⟨rfl, by decide, by decide⟩ ?_
    refine fload rL_705_705_0_19_1_0 h0 hB0 (by omega) ?_
    intro z1 lz1 uz1 qz1
    refine Exists.intro xm_13 (And.intro mi_13 (And.intro ⟨rfl, rfl, rfl, rfl⟩ (And.intro True.intro ?_)))
    refine fcallp hB0 (ct_X_within_c27b1 (fBz h0 hB0) (by omega) (by omega) (by omega)) ?_
    rintro _ ⟨z2, rfl, hz2⟩
    refine And.intro (⟨by omega, by omega⟩) ?_
    exact ⟨_, rfl, by omega⟩
abbrev jc_Gauges_put_3b243_43 : Nat → fL → List fV → fH → Prop := fun m lv st I => ∃ (y1 : Int) (y2 : Int) (y3 : Int), lv = [(0, .inr (.inr (some 703))), (1, .inl y1), (2, .inl y2), (3, .inl y3)] ∧ st = [] ∧ (((0 ≤ y1 ∧ y1 ≤ 19) ∧ (0 ≤ y2 ∧ y2 ≤ 29) ∧ ((-2147483648) ≤ y3 ∧ y3 ≤ 2147483647))) ∧ m = (2 : Int).toNat
abbrev jc_Gauges_put_3b243_73 : Nat → fL → List fV → fH → Prop := fun m lv st I => ∃ (y1 : Int) (y2 : Int) (y3 : Int), lv = [(0, .inr (.inr (some 703))), (1, .inl y1), (2, .inl y2), (3, .inl y3)] ∧ st = [] ∧ (((0 ≤ y1 ∧ y1 ≤ 19) ∧ (0 ≤ y2 ∧ y2 ≤ 29) ∧ ((-2147483648) ≤ y3 ∧ y3 ≤ 2147483647))) ∧ m = (1 : Int).toNat
set_option maxRecDepth 8000 in
theorem ct_Gauges_put_3b243 {I : fH} {x1 : Int} {x2 : Int} {x3 : Int} (h0 : fB bsJ I) (ha1 : (0 ≤ x1 ∧ x1 ≤ 19)) (ha2 : ((-2147483648) ≤ x2 ∧ x2 ≤ 2147483647)) (ha3 : ((-2147483648) ≤ x3 ∧ x3 ≤ 2147483647)) : fC ρ base n F xTc vwCl xTys D dA la gJ (fbz bsJ znJ (fKc wz_65950) I) xm_159 [.inr (.inr (some 703)), .inl x1, .inl x2, .inl x3] I (fun _ r => ∃ z, r = some (.inl z) ∧ ((1 ≤ z ∧ z ≤ 1) ∨ z = (-1000000013) ∨ z = (-1000000012) ∨ z = (-1000000011) ∨ z = (-1000000001))) := by
  have hW : fzs wz_65950 (fKc wz_65950) := fKc_ok _
  refine f_meth (rb := rbJ) (J := [(43, jc_Gauges_put_3b243_43), (73, jc_Gauges_put_3b243_73)]) 3 400 xG xin_159 x6_159 okJ (fB_self h0) ?_ ?_
  · refine List.forall_mem_cons.mpr ⟨?_, List.forall_mem_cons.mpr ⟨?_, fun q h => absurd h List.not_mem_nil⟩⟩
    · rintro m _ _ I1 hB1 ⟨y1, y2, y3, rfl, rfl, hb, hm⟩
      refine And.intro ⟨rfl, by decide, by decide⟩ ?_
      refine fload rL_704_704_0_19_1_0 h0 hB1 (by omega) ?_
      intro z1 lz1 uz1 qz1
      refine And.intro (by omega) (And.intro ?_ ?_)
      · intro c2
        exact fcutJ (I := I1) (j := jc_Gauges_put_3b243_73) (lv' := [(0, .inr (.inr (some 703))), (1, .inl _), (2, .inl _), (3, .inl _)]) (And.intro rfl (And.intro rfl (And.intro rfl (And.intro rfl True.intro)))) ⟨_, _, _, rfl, rfl, by omega, rfl⟩ (by omega)
      · intro c3
        refine And.intro (by omega) (And.intro ?_ ?_)
        · intro c4
          exact fcutJ (I := I1) (j := jc_Gauges_put_3b243_73) (lv' := [(0, .inr (.inr (some 703))), (1, .inl _), (2, .inl _), (3, .inl _)]) (And.intro rfl (And.intro rfl (And.intro rfl (And.intro rfl True.intro)))) ⟨_, _, _, rfl, rfl, by omega, rfl⟩ (by omega)
        · intro c5
          refine Exists.intro xm_13 (And.intro mi_13 (And.intro ⟨rfl, rfl, rfl, rfl⟩ (And.intro True.intro ?_)))
          refine fcallp hB1 (ct_X_within_c27b1 (fBz h0 hB1) (by omega) (by omega) (by omega)) ?_
          rintro _ ⟨z6, rfl, hz6⟩
          refine And.intro (by omega) (And.intro ?_ ?_)
          · intro c7
            exact fcutJ (I := I1) (j := jc_Gauges_put_3b243_73) (lv' := [(0, .inr (.inr (some 703))), (1, .inl _), (2, .inl _), (3, .inl _)]) (And.intro rfl (And.intro rfl (And.intro rfl (And.intro rfl True.intro)))) ⟨_, _, _, rfl, rfl, by omega, rfl⟩ (by omega)
          · intro c8
            refine And.intro (True.intro) ?_
            exact ⟨_, rfl, by omega⟩
    · rintro m _ _ I1 hB1 ⟨y1, y2, y3, rfl, rfl, hb, hm⟩
      refine And.intro ⟨rfl, by decide, by decide⟩ ?_
      refine And.intro ⟨rfl, by decide⟩ (And.intro (by omega) ?_)
      refine And.intro ⟨rfl, by decide, by decide⟩ ?_
      refine fload rL_704_704_0_19_1_0 h0 hB1 (by omega) ?_
      intro z9 lz9 uz9 qz9
      refine And.intro (by omega) (And.intro ?_ ?_)
      · intro c10
        refine fstore rS_707_726_0_29_1_0 (fzs_sub (by decide +kernel) hW) (by omega) (by omega) ?_
        intro IhB11 ehB11 hB11
        have t12 := fup_self ehB11
        refine And.intro (True.intro) ?_
        exact ⟨_, rfl, by omega⟩
      · intro c13
        intro z14 hz14 ez14 bz14
        refine fstore rS_707_726_0_29_1_0 (fzs_sub (by decide +kernel) hW) (by omega) (by omega) ?_
        intro IhB15 ehB15 hB15
        have t16 := fup_self ehB15
        refine And.intro (True.intro) ?_
        exact ⟨_, rfl, by omega⟩
  · have hB0 := fB_self (zn := znJ) (K := fKc wz_65950) h0
    refine And.intro ⟨rfl, by decide, by decide⟩ ?_
    refine fload rL_704_704_0_19_1_0 h0 hB0 (by omega) ?_
    intro z17 lz17 uz17 qz17
    refine And.intro (by omega) (And.intro ?_ ?_)
    · intro c18
      refine Exists.intro xm_160 (And.intro mi_160 (And.intro ⟨rfl, rfl, rfl, rfl⟩ (And.intro rfl ?_)))
      refine fcallp hB0 (ct_Gauges_hasPlace_f9c97 (fBz h0 hB0) (by omega) (by omega)) ?_
      rintro _ ⟨z19, rfl, hz19⟩
      refine And.intro (by omega) (And.intro ?_ ?_)
      · intro c20
        refine And.intro ⟨rfl, by decide, by decide⟩ ?_
        refine fload rL_704_704_0_19_1_0 h0 hB0 (by omega) ?_
        intro z21 lz21 uz21 qz21
        refine And.intro (by omega) (And.intro ?_ ?_)
        · intro c22
          exact fcutJ (I := I) (j := jc_Gauges_put_3b243_43) (lv' := [(0, .inr (.inr (some 703))), (1, .inl _), (2, .inl _), (3, .inl _)]) (And.intro rfl (And.intro rfl (And.intro rfl (And.intro rfl True.intro)))) ⟨_, _, _, rfl, rfl, by omega, rfl⟩ (by omega)
        · intro c23
          refine And.intro (by omega) (And.intro ?_ ?_)
          · intro c24
            exact fcutJ (I := I) (j := jc_Gauges_put_3b243_43) (lv' := [(0, .inr (.inr (some 703))), (1, .inl _), (2, .inl _), (3, .inl _)]) (And.intro rfl (And.intro rfl (And.intro rfl (And.intro rfl True.intro)))) ⟨_, _, _, rfl, rfl, by omega, rfl⟩ (by omega)
          · intro c25
            refine And.intro (True.intro) ?_
            exact ⟨_, rfl, by omega⟩
      · intro c26
        refine And.intro (True.intro) ?_
        exact ⟨_, rfl, by omega⟩
    · intro c27
      refine And.intro (True.intro) ?_
      exact ⟨_, rfl, by omega⟩
set_option maxRecDepth 8000 in
theorem ct_X_point_52a9b {I : fH} {x1 : Int} {x2 : Int} {x3 : Int} (h0 : fB bsJ I) (ha1 : ((-2147483648) ≤ x1 ∧ x1 ≤ 2147483647)) (ha2 : ((-2147483648) ≤ x2 ∧ x2 ≤ 2147483647)) (ha3 : ((-2147483648) ≤ x3 ∧ x3 ≤ 2147483647)) : fC ρ base n F xTc vwCl xTys D dA la gJ (fbz bsJ znJ (fKc wz_65950) I) xm_158 [.inr (.inr (some 0)), .inl x1, .inl x2, .inl x3] I (fun _ r => ∃ z, r = some (.inl z) ∧ ((1 ≤ z ∧ z ≤ 1) ∨ z = (-1000000013) ∨ z = (-1000000012) ∨ z = (-1000000011) ∨ z = (-1000000001))) := by
  have hW : fzs wz_65950 (fKc wz_65950) := fKc_ok _
  refine f_meth (rb := rbJ) (J := []) 1 400 xG xin_158 x6_158 okJ (fB_self h0) ?_ ?_
  · exact fun q h => absurd h List.not_mem_nil
  · have hB0 := fB_self (zn := znJ) (K := fKc wz_65950) h0
    refine And.intro ⟨rfl, by decide, by decide⟩ ?_
    refine Exists.intro xm_17 (And.intro mi_17 (And.intro ⟨rfl, rfl, rfl, rfl⟩ (And.intro rfl ?_)))
    refine fcallp hB0 (ct_City_isCell_46f02 (fBz h0 hB0) (by omega)) ?_
    rintro _ ⟨z1, rfl, hz1⟩
    refine And.intro (by omega) (And.intro ?_ ?_)
    · intro c2
      refine And.intro (True.intro) ?_
      exact ⟨_, rfl, by omega⟩
    · intro c3
      refine And.intro ⟨rfl, by decide, by decide⟩ ?_
      refine Exists.intro xm_159 (And.intro mi_159 (And.intro ⟨rfl, rfl, rfl, rfl⟩ (And.intro rfl ?_)))
      refine fcall _ h0 (fzs_sub (by decide +kernel) hW) hB0 (ct_Gauges_put_3b243 (fBz h0 hB0) (by omega) (by omega) (by omega)) ?_
      rintro IhB5 _ hB5 fhB5 ⟨z4, rfl, hz4⟩
      refine And.intro (True.intro) ?_
      exact ⟨_, rfl, by omega⟩
abbrev jc_M_point_4c325_64 : Nat → fL → List fV → fH → Prop := fun m lv st I => ∃ (y1 : Int) (y2 : Int) (y3 : Int), lv = [(0, .inr (.inr (some 740))), (1, .inl y1), (2, .inl y2), (3, .inl y3)] ∧ st = [] ∧ (((0 ≤ y1 ∧ y1 ≤ 19) ∧ (0 ≤ y2 ∧ y2 ≤ 29) ∧ ((-2147483648) ≤ y3 ∧ y3 ≤ 2147483647))) ∧ m = (2 : Int).toNat
abbrev jc_M_point_4c325_97 : Nat → fL → List fV → fH → Prop := fun m lv st I => ∃ (y1 : Int) (y2 : Int) (y3 : Int), lv = [(0, .inr (.inr (some 740))), (1, .inl y1), (2, .inl y2), (3, .inl y3)] ∧ st = [] ∧ (((0 ≤ y1 ∧ y1 ≤ 19) ∧ (0 ≤ y2 ∧ y2 ≤ 29) ∧ ((-2147483648) ≤ y3 ∧ y3 ≤ 2147483647))) ∧ m = (1 : Int).toNat
set_option maxRecDepth 8000 in
theorem ct_M_point_4c325 {I : fH} {x1 : Int} {x2 : Int} {x3 : Int} (h0 : fB bsJ I) (ha1 : ((-2147483648) ≤ x1 ∧ x1 ≤ 2147483647)) (ha2 : ((-2147483648) ≤ x2 ∧ x2 ≤ 2147483647)) (ha3 : ((-2147483648) ≤ x3 ∧ x3 ≤ 2147483647)) : fC ρ base n F xTc vwCl xTys D dA la gJ (fbz bsJ znJ (fKc wz_efa23) I) xm_439 [.inr (.inr (some 740)), .inl x1, .inl x2, .inl x3] I (fun _ r => ∃ z, r = some (.inl z) ∧ ((1 ≤ z ∧ z ≤ 1) ∨ z = (-1000000013) ∨ z = (-1000000012) ∨ z = (-1000000011) ∨ z = (-1000000001))) := by
  have hW : fzs wz_efa23 (fKc wz_efa23) := fKc_ok _
  refine f_meth (rb := rbJ) (J := [(64, jc_M_point_4c325_64), (97, jc_M_point_4c325_97)]) 3 400 xG xin_439 x6_439 okJ (fB_self h0) ?_ ?_
  · refine List.forall_mem_cons.mpr ⟨?_, List.forall_mem_cons.mpr ⟨?_, fun q h => absurd h List.not_mem_nil⟩⟩
    · rintro m _ _ I1 hB1 ⟨y1, y2, y3, rfl, rfl, hb, hm⟩
      refine And.intro ⟨rfl, by decide, by decide⟩ ?_
      refine fload rL_744_744_0_19_1_0 h0 hB1 (by omega) ?_
      intro z1 lz1 uz1 qz1
      refine And.intro (by omega) (And.intro ?_ ?_)
      · intro c2
        exact fcutJ (I := I1) (j := jc_M_point_4c325_97) (lv' := [(0, .inr (.inr (some 740))), (1, .inl _), (2, .inl _), (3, .inl _)]) (And.intro rfl (And.intro rfl (And.intro rfl (And.intro rfl True.intro)))) ⟨_, _, _, rfl, rfl, by omega, rfl⟩ (by omega)
      · intro c3
        refine And.intro (by omega) (And.intro ?_ ?_)
        · intro c4
          exact fcutJ (I := I1) (j := jc_M_point_4c325_97) (lv' := [(0, .inr (.inr (some 740))), (1, .inl _), (2, .inl _), (3, .inl _)]) (And.intro rfl (And.intro rfl (And.intro rfl (And.intro rfl True.intro)))) ⟨_, _, _, rfl, rfl, by omega, rfl⟩ (by omega)
        · intro c5
          refine And.intro (by omega) ?_
          refine Exists.intro xm_238 (And.intro mi_238 (And.intro ⟨rfl, rfl, rfl, rfl⟩ (And.intro True.intro ?_)))
          refine fcallp hB1 (ct_M_isIn_27230 (fBz h0 hB1) (by omega) (by omega) (by omega)) ?_
          rintro _ ⟨z6, rfl, hz6⟩
          refine And.intro (by omega) (And.intro ?_ ?_)
          · intro c7
            exact fcutJ (I := I1) (j := jc_M_point_4c325_97) (lv' := [(0, .inr (.inr (some 740))), (1, .inl _), (2, .inl _), (3, .inl _)]) (And.intro rfl (And.intro rfl (And.intro rfl (And.intro rfl True.intro)))) ⟨_, _, _, rfl, rfl, by omega, rfl⟩ (by omega)
          · intro c8
            refine And.intro (True.intro) ?_
            exact ⟨_, rfl, by omega⟩
    · rintro m _ _ I1 hB1 ⟨y1, y2, y3, rfl, rfl, hb, hm⟩
      refine And.intro ⟨rfl, by decide, by decide⟩ ?_
      refine And.intro ⟨rfl, by decide, by decide⟩ ?_
      refine fload rL_744_744_0_19_1_0 h0 hB1 (by omega) ?_
      intro z9 lz9 uz9 qz9
      refine And.intro (by omega) (And.intro ?_ ?_)
      · intro c10
        refine fstore rS_746_746_0_599_1_0 (fzs_sub (by decide +kernel) hW) (by omega) (by omega) ?_
        intro IhB11 ehB11 hB11
        have t12 := fup_self ehB11
        refine And.intro (True.intro) ?_
        exact ⟨_, rfl, by omega⟩
      · intro c13
        intro z14 hz14 ez14
        intro z15 hz15 ez15
        refine fstore rS_746_746_0_599_1_0 (fzs_sub (by decide +kernel) hW) (by omega) (by omega) ?_
        intro IhB16 ehB16 hB16
        have t17 := fup_self ehB16
        refine And.intro (True.intro) ?_
        exact ⟨_, rfl, by omega⟩
  · have hB0 := fB_self (zn := znJ) (K := fKc wz_efa23) h0
    refine Exists.intro xm_241 (And.intro mi_241 (And.intro ⟨rfl, rfl, rfl, rfl⟩ (And.intro rfl ?_)))
    refine fcallp hB0 (ct_M_isCell_45859 (fBz h0 hB0) (by omega)) ?_
    rintro _ ⟨z18, rfl, hz18⟩
    refine And.intro (by omega) (And.intro ?_ ?_)
    · intro c19
      refine And.intro ⟨rfl, by decide, by decide⟩ ?_
      refine fload rL_744_744_0_19_1_0 h0 hB0 (by omega) ?_
      intro z20 lz20 uz20 qz20
      refine And.intro (by omega) (And.intro ?_ ?_)
      · intro c21
        refine And.intro (by omega) ?_
        refine And.intro ⟨rfl, by decide, by decide⟩ ?_
        refine fload rL_745_745_0_19_1_0 h0 hB0 (by omega) ?_
        intro z22 lz22 uz22 qz22
        refine And.intro (by omega) ?_
        refine Exists.intro xm_238 (And.intro mi_238 (And.intro ⟨rfl, rfl, rfl, rfl⟩ (And.intro True.intro ?_)))
        refine fcallp hB0 (ct_M_isIn_27230 (fBz h0 hB0) (by omega) (by omega) (by omega)) ?_
        rintro _ ⟨z23, rfl, hz23⟩
        refine And.intro (by omega) (And.intro ?_ ?_)
        · intro c24
          refine And.intro ⟨rfl, by decide, by decide⟩ ?_
          refine fload rL_744_744_0_19_1_0 h0 hB0 (by omega) ?_
          intro z25 lz25 uz25 qz25
          refine And.intro (by omega) (And.intro ?_ ?_)
          · intro c26
            exact fcutJ (I := I) (j := jc_M_point_4c325_64) (lv' := [(0, .inr (.inr (some 740))), (1, .inl _), (2, .inl _), (3, .inl _)]) (And.intro rfl (And.intro rfl (And.intro rfl (And.intro rfl True.intro)))) ⟨_, _, _, rfl, rfl, by omega, rfl⟩ (by omega)
          · intro c27
            refine And.intro (by omega) (And.intro ?_ ?_)
            · intro c28
              exact fcutJ (I := I) (j := jc_M_point_4c325_64) (lv' := [(0, .inr (.inr (some 740))), (1, .inl _), (2, .inl _), (3, .inl _)]) (And.intro rfl (And.intro rfl (And.intro rfl (And.intro rfl True.intro)))) ⟨_, _, _, rfl, rfl, by omega, rfl⟩ (by omega)
            · intro c29
              refine And.intro (True.intro) ?_
              exact ⟨_, rfl, by omega⟩
        · intro c30
          refine And.intro (True.intro) ?_
          exact ⟨_, rfl, by omega⟩
      · intro c31
        refine And.intro (True.intro) ?_
        exact ⟨_, rfl, by omega⟩
    · intro c32
      refine And.intro (True.intro) ?_
      exact ⟨_, rfl, by omega⟩
set_option maxRecDepth 8000 in
theorem ct_Gauges_middleAt_65db5 {I : fH} {x1 : Int} {x2 : Int} (h0 : fB bsJ I) (ha1 : (0 ≤ x1 ∧ x1 ≤ 19)) (ha2 : (0 ≤ x2 ∧ x2 ≤ 29)) : fC ρ base n F xTc vwCl xTys D dA la gJ (fbz bsJ znJ (fKc []) I) xm_163 [.inr (.inr (some 703)), .inl x1, .inl x2] I (fun _ r => ∃ z, r = some (.inl z) ∧ ((-2147483648) ≤ z ∧ z ≤ 2147483647)) := by
  have hW : fzs [] (fKc []) := fKc_ok _
  refine f_meth (rb := rbJ) (J := []) 1 400 xG xin_163 x6_163 okJ (fB_self h0) ?_ ?_
  · exact fun q h => absurd h List.not_mem_nil
  · have hB0 := fB_self (zn := znJ) (K := fKc []) h0
    refine Exists.intro xm_160 (And.intro mi_160 (And.intro ⟨rfl, rfl, rfl, rfl⟩ (And.intro rfl ?_)))
    refine fcallp hB0 (ct_Gauges_hasPlace_f9c97 (fBz h0 hB0) (by omega) (by omega)) ?_
    rintro _ ⟨z1, rfl, hz1⟩
    refine And.intro (by omega) (And.intro ?_ ?_)
    · intro c2
      refine And.intro (True.intro) ?_
      exact ⟨_, rfl, by omega⟩
    · intro c3
      refine Exists.intro xm_160 (And.intro mi_160 (And.intro ⟨rfl, rfl, rfl, rfl⟩ (And.intro rfl ?_)))
      refine fcallp hB0 (ct_Gauges_hasPlace_f9c97 (fBz h0 hB0) (by omega) (by omega)) ?_
      rintro _ ⟨z4, rfl, hz4⟩
      refine And.intro (by omega) (And.intro ?_ ?_)
      · intro c5
        refine And.intro ⟨rfl, by decide, by decide⟩ ?_
        refine And.intro ⟨rfl, by decide⟩ (And.intro (by omega) ?_)
        refine fload rL_707_726_0_29_1_0 h0 hB0 (by omega) ?_
        intro z6 lz6 uz6 qz6
        refine And.intro ⟨rfl, by decide, by decide⟩ ?_
        refine And.intro ⟨rfl, by decide⟩ (And.intro (by omega) ?_)
        refine fload rL_707_726_0_29_1_0 h0 hB0 (by omega) ?_
        intro z7 lz7 uz7 qz7
        refine And.intro (by omega) (And.intro ?_ ?_)
        · intro c8
          refine And.intro (True.intro) ?_
          exact ⟨_, rfl, by omega⟩
        · intro c9
          refine And.intro (by omega) (And.intro ?_ ?_)
          · intro c10
            intro z11 hz11 ez11 bz11
            refine And.intro (And.intro (by omega) (And.intro (by omega) (And.intro (by omega) rfl))) ?_
            intro z12 hz12 ez12 dz12
            refine And.intro (True.intro) ?_
            exact ⟨_, rfl, by omega⟩
          · intro c13
            refine And.intro (True.intro) ?_
            exact ⟨_, rfl, by omega⟩
      · intro c14
        refine And.intro (True.intro) ?_
        exact ⟨_, rfl, by omega⟩
set_option maxRecDepth 8000 in
theorem ct_Gauges_numberAt_b205d {I : fH} {x1 : Int} {x2 : Int} (h0 : fB bsJ I) (ha1 : (0 ≤ x1 ∧ x1 ≤ 19)) (ha2 : ((-2147483648) ≤ x2 ∧ x2 ≤ 2147483647)) : fC ρ base n F xTc vwCl xTys D dA la gJ (fbz bsJ znJ (fKc []) I) xm_162 [.inr (.inr (some 703)), .inl x1, .inl x2] I (fun _ r => ∃ z, r = some (.inl z) ∧ ((-2147483648) ≤ z ∧ z ≤ 2147483647)) := by
  have hW : fzs [] (fKc []) := fKc_ok _
  refine f_meth (rb := rbJ) (J := []) 1 400 xG xin_162 x6_162 okJ (fB_self h0) ?_ ?_
  · exact fun q h => absurd h List.not_mem_nil
  · have hB0 := fB_self (zn := znJ) (K := fKc []) h0
    refine And.intro ⟨rfl, by decide, by decide⟩ ?_
    refine fload rL_704_704_0_19_1_0 h0 hB0 (by omega) ?_
    intro z1 lz1 uz1 qz1
    refine And.intro (by omega) (And.intro ?_ ?_)
    · intro c2
      refine Exists.intro xm_160 (And.intro mi_160 (And.intro ⟨rfl, rfl, rfl, rfl⟩ (And.intro rfl ?_)))
      refine fcallp hB0 (ct_Gauges_hasPlace_f9c97 (fBz h0 hB0) (by omega) (by omega)) ?_
      rintro _ ⟨z3, rfl, hz3⟩
      refine And.intro (by omega) (And.intro ?_ ?_)
      · intro c4
        refine And.intro ⟨rfl, by decide, by decide⟩ ?_
        refine And.intro ⟨rfl, by decide⟩ (And.intro (by omega) ?_)
        refine fload rL_707_726_0_29_1_0 h0 hB0 (by omega) ?_
        intro z5 lz5 uz5 qz5
        refine And.intro (by omega) (And.intro ?_ ?_)
        · intro c6
          refine And.intro (True.intro) ?_
          exact ⟨_, rfl, by omega⟩
        · intro c7
          refine Exists.intro xm_163 (And.intro mi_163 (And.intro ⟨rfl, rfl, rfl, rfl⟩ (And.intro rfl ?_)))
          refine fcallp hB0 (ct_Gauges_middleAt_65db5 (fBz h0 hB0) (by omega) (by omega)) ?_
          rintro _ ⟨z8, rfl, hz8⟩
          refine And.intro (True.intro) ?_
          exact ⟨_, rfl, by omega⟩
      · intro c9
        refine And.intro (True.intro) ?_
        exact ⟨_, rfl, by omega⟩
    · intro c10
      refine And.intro (True.intro) ?_
      exact ⟨_, rfl, by omega⟩
set_option maxRecDepth 8000 in
theorem ct_X_read_09c2a {I : fH} {x1 : Int} {x2 : Int} (h0 : fB bsJ I) (ha1 : ((-2147483648) ≤ x1 ∧ x1 ≤ 2147483647)) (ha2 : ((-2147483648) ≤ x2 ∧ x2 ≤ 2147483647)) : fC ρ base n F xTc vwCl xTys D dA la gJ (fbz bsJ znJ (fKc []) I) xm_161 [.inr (.inr (some 0)), .inl x1, .inl x2] I (fun _ r => ∃ z, r = some (.inl z) ∧ ((-2147483648) ≤ z ∧ z ≤ 2147483647)) := by
  have hW : fzs [] (fKc []) := fKc_ok _
  refine f_meth (rb := rbJ) (J := []) 1 400 xG xin_161 x6_161 okJ (fB_self h0) ?_ ?_
  · exact fun q h => absurd h List.not_mem_nil
  · have hB0 := fB_self (zn := znJ) (K := fKc []) h0
    refine And.intro ⟨rfl, by decide, by decide⟩ ?_
    refine Exists.intro xm_17 (And.intro mi_17 (And.intro ⟨rfl, rfl, rfl, rfl⟩ (And.intro rfl ?_)))
    refine fcallp hB0 (ct_City_isCell_46f02 (fBz h0 hB0) (by omega)) ?_
    rintro _ ⟨z1, rfl, hz1⟩
    refine And.intro (by omega) (And.intro ?_ ?_)
    · intro c2
      refine And.intro (True.intro) ?_
      exact ⟨_, rfl, by omega⟩
    · intro c3
      refine And.intro ⟨rfl, by decide, by decide⟩ ?_
      refine Exists.intro xm_162 (And.intro mi_162 (And.intro ⟨rfl, rfl, rfl, rfl⟩ (And.intro rfl ?_)))
      refine fcallp hB0 (ct_Gauges_numberAt_b205d (fBz h0 hB0) (by omega) (by omega)) ?_
      rintro _ ⟨z4, rfl, hz4⟩
      refine And.intro (True.intro) ?_
      exact ⟨_, rfl, by omega⟩
set_option maxRecDepth 8000 in
theorem ct_M_isNumber_be74d {I : fH} {x1 : Int} {x2 : Int} (h0 : fB bsJ I) (ha1 : (0 ≤ x1 ∧ x1 ≤ 19)) (ha2 : ((-1) ≤ x2 ∧ x2 ≤ 30)) : fC ρ base n F xTc vwCl xTys D dA la gJ (fbz bsJ znJ (fKc []) I) xm_442 [.inr (.inr (some 740)), .inl x1, .inl x2] I (fun _ r => ∃ z, r = some (.inl z) ∧ ((z = 1 ∧ 0 ≤ x2 ∧ x2 ≤ 29) ∨ z = 0)) := by
  have hW : fzs [] (fKc []) := fKc_ok _
  refine f_meth (rb := rbJ) (J := []) 1 400 xG xin_442 x6_442 okJ (fB_self h0) ?_ ?_
  · exact fun q h => absurd h List.not_mem_nil
  · have hB0 := fB_self (zn := znJ) (K := fKc []) h0
    refine And.intro (by omega) ?_
    refine And.intro ⟨rfl, by decide, by decide⟩ ?_
    refine fload rL_745_745_0_19_1_0 h0 hB0 (by omega) ?_
    intro z1 lz1 uz1 qz1
    refine And.intro (by omega) ?_
    refine Exists.intro xm_238 (And.intro mi_238 (And.intro ⟨rfl, rfl, rfl, rfl⟩ (And.intro True.intro ?_)))
    refine fcallp hB0 (ct_M_isIn_27230 (fBz h0 hB0) (by omega) (by omega) (by omega)) ?_
    rintro _ ⟨z2, rfl, hz2⟩
    refine And.intro (by omega) (And.intro ?_ ?_)
    · intro c3
      refine And.intro (⟨by omega, by omega⟩) ?_
      exact ⟨_, rfl, by omega⟩
    · intro c4
      refine And.intro ⟨rfl, by decide, by decide⟩ ?_
      refine fload rL_746_746_0_599_1_0 h0 hB0 (by omega) ?_
      intro z5 lz5 uz5 qz5
      refine And.intro (by omega) (And.intro ?_ ?_)
      · intro c6
        refine And.intro (⟨by omega, by omega⟩) ?_
        exact ⟨_, rfl, by omega⟩
      · intro c7
        refine And.intro (⟨by omega, by omega⟩) ?_
        exact ⟨_, rfl, by omega⟩
set_option maxRecDepth 8000 in
theorem ct_M_readOf_c48db {I : fH} {x1 : Int} {x2 : Int} (h0 : fB bsJ I) (ha1 : (0 ≤ x1 ∧ x1 ≤ 19)) (ha2 : ((-2147483648) ≤ x2 ∧ x2 ≤ 2147483647)) : fC ρ base n F xTc vwCl xTys D dA la gJ (fbz bsJ znJ (fKc []) I) xm_441 [.inr (.inr (some 740)), .inl x1, .inl x2] I (fun _ r => ∃ z, r = some (.inl z) ∧ ((-2147483648) ≤ z ∧ z ≤ 2147483647)) := by
  have hW : fzs [] (fKc []) := fKc_ok _
  refine f_meth (rb := rbJ) (J := []) 1 400 xG xin_441 x6_441 okJ (fB_self h0) ?_ ?_
  · exact fun q h => absurd h List.not_mem_nil
  · have hB0 := fB_self (zn := znJ) (K := fKc []) h0
    refine And.intro ⟨rfl, by decide, by decide⟩ ?_
    refine fload rL_744_744_0_19_1_0 h0 hB0 (by omega) ?_
    intro z1 lz1 uz1 qz1
    refine And.intro (by omega) (And.intro ?_ ?_)
    · intro c2
      refine And.intro (by omega) ?_
      refine And.intro ⟨rfl, by decide, by decide⟩ ?_
      refine fload rL_745_745_0_19_1_0 h0 hB0 (by omega) ?_
      intro z3 lz3 uz3 qz3
      refine And.intro (by omega) ?_
      refine Exists.intro xm_238 (And.intro mi_238 (And.intro ⟨rfl, rfl, rfl, rfl⟩ (And.intro True.intro ?_)))
      refine fcallp hB0 (ct_M_isIn_27230 (fBz h0 hB0) (by omega) (by omega) (by omega)) ?_
      rintro _ ⟨z4, rfl, hz4⟩
      refine And.intro (by omega) (And.intro ?_ ?_)
      · intro c5
        refine And.intro ⟨rfl, by decide, by decide⟩ ?_
        refine fload rL_746_746_0_599_1_0 h0 hB0 (by omega) ?_
        intro z6 lz6 uz6 qz6
        refine And.intro (by omega) (And.intro ?_ ?_)
        · intro c7
          refine Exists.intro xm_442 (And.intro mi_442 (And.intro ⟨rfl, rfl, rfl, rfl⟩ (And.intro rfl ?_)))
          refine fcallp hB0 (ct_M_isNumber_be74d (fBz h0 hB0) (by omega) (by omega)) ?_
          rintro _ ⟨z8, rfl, hz8⟩
          refine And.intro (by omega) (And.intro ?_ ?_)
          · intro c9
            refine And.intro (True.intro) ?_
            exact ⟨_, rfl, by omega⟩
          · intro c10
            refine Exists.intro xm_442 (And.intro mi_442 (And.intro ⟨rfl, rfl, rfl, rfl⟩ (And.intro rfl ?_)))
            refine fcallp hB0 (ct_M_isNumber_be74d (fBz h0 hB0) (by omega) (by omega)) ?_
            rintro _ ⟨z11, rfl, hz11⟩
            refine And.intro (by omega) (And.intro ?_ ?_)
            · intro c12
              refine And.intro (True.intro) ?_
              exact ⟨_, rfl, by omega⟩
            · intro c13
              refine And.intro ⟨rfl, by decide, by decide⟩ ?_
              refine fload rL_746_746_0_599_1_0 h0 hB0 (by omega) ?_
              intro z14 lz14 uz14 qz14
              refine And.intro ⟨rfl, by decide, by decide⟩ ?_
              refine fload rL_746_746_0_599_1_0 h0 hB0 (by omega) ?_
              intro z15 lz15 uz15 qz15
              intro z16 hz16 ez16 bz16
              refine And.intro (And.intro (by omega) (And.intro (by omega) (And.intro (by omega) rfl))) ?_
              intro z17 hz17 ez17 dz17
              refine And.intro (True.intro) ?_
              exact ⟨_, rfl, by omega⟩
        · intro c18
          refine And.intro ⟨rfl, by decide, by decide⟩ ?_
          refine fload rL_746_746_0_599_1_0 h0 hB0 (by omega) ?_
          intro z19 lz19 uz19 qz19
          refine And.intro (True.intro) ?_
          exact ⟨_, rfl, by omega⟩
      · intro c20
        refine And.intro (True.intro) ?_
        exact ⟨_, rfl, by omega⟩
    · intro c21
      refine And.intro (True.intro) ?_
      exact ⟨_, rfl, by omega⟩
set_option maxRecDepth 8000 in
theorem ct_M_read_fd62e {I : fH} {x1 : Int} {x2 : Int} (h0 : fB bsJ I) (ha1 : ((-2147483648) ≤ x1 ∧ x1 ≤ 2147483647)) (ha2 : ((-2147483648) ≤ x2 ∧ x2 ≤ 2147483647)) : fC ρ base n F xTc vwCl xTys D dA la gJ (fbz bsJ znJ (fKc []) I) xm_440 [.inr (.inr (some 740)), .inl x1, .inl x2] I (fun _ r => ∃ z, r = some (.inl z) ∧ ((-2147483648) ≤ z ∧ z ≤ 2147483647)) := by
  have hW : fzs [] (fKc []) := fKc_ok _
  refine f_meth (rb := rbJ) (J := []) 1 400 xG xin_440 x6_440 okJ (fB_self h0) ?_ ?_
  · exact fun q h => absurd h List.not_mem_nil
  · have hB0 := fB_self (zn := znJ) (K := fKc []) h0
    refine Exists.intro xm_241 (And.intro mi_241 (And.intro ⟨rfl, rfl, rfl, rfl⟩ (And.intro rfl ?_)))
    refine fcallp hB0 (ct_M_isCell_45859 (fBz h0 hB0) (by omega)) ?_
    rintro _ ⟨z1, rfl, hz1⟩
    refine And.intro (by omega) (And.intro ?_ ?_)
    · intro c2
      refine And.intro (True.intro) ?_
      exact ⟨_, rfl, by omega⟩
    · intro c3
      refine Exists.intro xm_441 (And.intro mi_441 (And.intro ⟨rfl, rfl, rfl, rfl⟩ (And.intro rfl ?_)))
      refine fcallp hB0 (ct_M_readOf_c48db (fBz h0 hB0) (by omega) (by omega)) ?_
      rintro _ ⟨z4, rfl, hz4⟩
      refine And.intro (True.intro) ?_
      exact ⟨_, rfl, by omega⟩
set_option maxRecDepth 8000 in
theorem ct_Gauges_isFinding_81136 {I : fH} {x0 : Int} (h0 : fB bsJ I) (ha0 : ((-2147483648) ≤ x0 ∧ x0 ≤ 2147483647)) : fC ρ base n F xTc vwCl xTys D dA la gJ (fbz bsJ znJ (fKc []) I) xm_165 [.inl x0] I (fun _ r => ∃ z, r = some (.inl z) ∧ (0 ≤ z ∧ z ≤ 1)) := by
  have hW : fzs [] (fKc []) := fKc_ok _
  refine f_meth (rb := rbJ) (J := []) 1 400 xG xin_165 x6_165 okJ (fB_self h0) ?_ ?_
  · exact fun q h => absurd h List.not_mem_nil
  · have hB0 := fB_self (zn := znJ) (K := fKc []) h0
    refine And.intro (by omega) (And.intro ?_ ?_)
    · intro c1
      refine And.intro (⟨by omega, by omega⟩) ?_
      exact ⟨_, rfl, by omega⟩
    · intro c2
      refine And.intro (⟨by omega, by omega⟩) ?_
      exact ⟨_, rfl, by omega⟩
abbrev jc_X_worst_10453_31 : Nat → fL → List fV → fH → Prop := fun m lv st I => ∃ (y1 : Int) (y2 : Int) (y3 : Int) (y4 : Int) (y5 : Int) (y6 : Int), lv = [(0, .inr (.inr (some 0))), (1, .inl y1), (2, .inl y2), (3, .inl y3), (4, .inl y4), (5, .inl y5), (6, .inl y6)] ∧ st = [] ∧ (((0 ≤ y1 ∧ y1 ≤ 2147483647) ∧ (0 ≤ y2 ∧ y2 ≤ 2) ∧ ((0 ≤ y3 ∧ y3 ≤ 19) ∨ y3 = (-1000000005)) ∧ ((-2147483648) ≤ y4 ∧ y4 ≤ 2147483647) ∧ ((-2147483648) ≤ y5 ∧ y5 ≤ 2147483647) ∧ (0 ≤ y6 ∧ y6 ≤ 20))) ∧ m = (1 + 1 * (20 - y6) : Int).toNat
set_option maxRecDepth 8000 in
theorem ct_X_worst_10453 {I : fH} {x1 : Int} {x2 : Int} (h0 : fB bsJ I) (ha1 : ((-2147483648) ≤ x1 ∧ x1 ≤ 2147483647)) (ha2 : ((-2147483648) ≤ x2 ∧ x2 ≤ 2147483647)) : fC ρ base n F xTc vwCl xTys D dA la gJ (fbz bsJ znJ (fKc []) I) xm_164 [.inr (.inr (some 0)), .inl x1, .inl x2] I (fun _ r => ∃ z, r = some (.inl z) ∧ ((-2147483648) ≤ z ∧ z ≤ 2147483647)) := by
  have hW : fzs [] (fKc []) := fKc_ok _
  refine f_meth (rb := rbJ) (J := [(31, jc_X_worst_10453_31)]) 22 400 xG xin_164 x6_164 okJ (fB_self h0) ?_ ?_
  · refine List.forall_mem_cons.mpr ⟨?_, fun q h => absurd h List.not_mem_nil⟩
    · rintro m _ _ I1 hB1 ⟨y1, y2, y3, y4, y5, y6, rfl, rfl, hb, hm⟩
      refine And.intro ⟨rfl, by decide, by decide⟩ ?_
      refine And.intro ⟨rfl, by decide, by decide⟩ ?_
      refine And.intro ⟨rfl, by decide, by decide⟩ (fgetf fb_2_5 h0 hB1 ?_)
      intro z1 lz1 uz1 qz1
      refine And.intro (by omega) (And.intro ?_ ?_)
      · intro c2
        refine And.intro (by omega) (And.intro ?_ ?_)
        · intro c3
          refine And.intro (by omega) (And.intro ?_ ?_)
          · intro c4
            refine And.intro (True.intro) ?_
            exact ⟨_, rfl, by omega⟩
          · intro c5
            refine And.intro (True.intro) ?_
            exact ⟨_, rfl, by omega⟩
        · intro c6
          refine And.intro (True.intro) ?_
          exact ⟨_, rfl, by omega⟩
      · intro c7
        refine And.intro ⟨rfl, by decide, by decide⟩ ?_
        refine Exists.intro xm_162 (And.intro mi_162 (And.intro ⟨rfl, rfl, rfl, rfl⟩ (And.intro rfl ?_)))
        refine fcallp hB1 (ct_Gauges_numberAt_b205d (fBz h0 hB1) (by omega) (by omega)) ?_
        rintro _ ⟨z8, rfl, hz8⟩
        refine Exists.intro xm_165 (And.intro mi_165 (And.intro ⟨rfl, rfl, rfl, rfl⟩ (And.intro True.intro ?_)))
        refine fcallp hB1 (ct_Gauges_isFinding_81136 (fBz h0 hB1) (by omega)) ?_
        rintro _ ⟨z9, rfl, hz9⟩
        refine And.intro (by omega) (And.intro ?_ ?_)
        · intro c10
          refine And.intro (by omega) (And.intro ?_ ?_)
          · intro c11
            exact fcutJ (I := I1) (j := jc_X_worst_10453_31) (lv' := [(0, .inr (.inr (some 0))), (1, .inl _), (2, .inl _), (3, .inl _), (4, .inl _), (5, .inl _), (6, .inl _)]) (And.intro rfl (And.intro rfl (And.intro rfl (And.intro rfl (And.intro rfl (And.intro rfl (And.intro rfl True.intro))))))) ⟨_, _, _, _, _, _, rfl, rfl, by omega, rfl⟩ (by omega)
          · intro c12
            refine And.intro (by omega) (And.intro ?_ ?_)
            · intro c13
              exact fcutJ (I := I1) (j := jc_X_worst_10453_31) (lv' := [(0, .inr (.inr (some 0))), (1, .inl _), (2, .inl _), (3, .inl _), (4, .inl _), (5, .inl _), (6, .inl _)]) (And.intro rfl (And.intro rfl (And.intro rfl (And.intro rfl (And.intro rfl (And.intro rfl (And.intro rfl True.intro))))))) ⟨_, _, _, _, _, _, rfl, rfl, by omega, rfl⟩ (by omega)
            · intro c14
              exact fcutJ (I := I1) (j := jc_X_worst_10453_31) (lv' := [(0, .inr (.inr (some 0))), (1, .inl _), (2, .inl _), (3, .inl _), (4, .inl _), (5, .inl _), (6, .inl _)]) (And.intro rfl (And.intro rfl (And.intro rfl (And.intro rfl (And.intro rfl (And.intro rfl (And.intro rfl True.intro))))))) ⟨_, _, _, _, _, _, rfl, rfl, by omega, rfl⟩ (by omega)
        · intro c15
          intro z16 hz16 bz16
          exact fcutJ (I := I1) (j := jc_X_worst_10453_31) (lv' := [(0, .inr (.inr (some 0))), (1, .inl _), (2, .inl _), (3, .inl _), (4, .inl _), (5, .inl _), (6, .inl _)]) (And.intro rfl (And.intro rfl (And.intro rfl (And.intro rfl (And.intro rfl (And.intro rfl (And.intro rfl True.intro))))))) ⟨_, _, _, _, _, _, rfl, rfl, by omega, rfl⟩ (by omega)
  · have hB0 := fB_self (zn := znJ) (K := fKc []) h0
    refine And.intro (by omega) (And.intro ?_ ?_)
    · intro c17
      refine And.intro (True.intro) ?_
      exact ⟨_, rfl, by omega⟩
    · intro c18
      refine Exists.intro xm_13 (And.intro mi_13 (And.intro ⟨rfl, rfl, rfl, rfl⟩ (And.intro True.intro ?_)))
      refine fcallp hB0 (ct_X_within_c27b1 (fBz h0 hB0) (by omega) (by omega) (by omega)) ?_
      rintro _ ⟨z19, rfl, hz19⟩
      refine And.intro (by omega) (And.intro ?_ ?_)
      · intro c20
        exact fcutJ (I := I) (j := jc_X_worst_10453_31) (lv' := [(0, .inr (.inr (some 0))), (1, .inl _), (2, .inl _), (3, .inl _), (4, .inl _), (5, .inl _), (6, .inl _)]) (And.intro rfl (And.intro rfl (And.intro rfl (And.intro rfl (And.intro rfl (And.intro rfl (And.intro rfl True.intro))))))) ⟨_, _, _, _, _, _, rfl, rfl, by omega, rfl⟩ (by omega)
      · intro c21
        refine And.intro (True.intro) ?_
        exact ⟨_, rfl, by omega⟩
abbrev jc_M_worst_21024_27 : Nat → fL → List fV → fH → Prop := fun m lv st I => ∃ (y1 : Int) (y2 : Int) (y3 : Int) (y4 : Int) (y5 : Int), lv = [(0, .inr (.inr (some 740))), (1, .inl y1), (2, .inl y2), (3, .inl y3), (4, .inl y4), (5, .inl y5)] ∧ st = [] ∧ (((0 ≤ y1 ∧ y1 ≤ 2147483647) ∧ (0 ≤ y2 ∧ y2 ≤ 2) ∧ ((-1) ≤ y3 ∧ y3 ≤ 19) ∧ ((-2147483648) ≤ y4 ∧ y4 ≤ 2147483647) ∧ (0 ≤ y5 ∧ y5 ≤ 20))) ∧ m = (1 + 1 * (20 - y5) : Int).toNat
set_option maxRecDepth 8000 in
theorem ct_M_worst_21024 {I : fH} {x1 : Int} {x2 : Int} (h0 : fB bsJ I) (ha1 : ((-2147483648) ≤ x1 ∧ x1 ≤ 2147483647)) (ha2 : ((-2147483648) ≤ x2 ∧ x2 ≤ 2147483647)) : fC ρ base n F xTc vwCl xTys D dA la gJ (fbz bsJ znJ (fKc []) I) xm_443 [.inr (.inr (some 740)), .inl x1, .inl x2] I (fun _ r => ∃ z, r = some (.inl z) ∧ ((-2147483648) ≤ z ∧ z ≤ 2147483647)) := by
  have hW : fzs [] (fKc []) := fKc_ok _
  refine f_meth (rb := rbJ) (J := [(27, jc_M_worst_21024_27)]) 22 400 xG xin_443 x6_443 okJ (fB_self h0) ?_ ?_
  · refine List.forall_mem_cons.mpr ⟨?_, fun q h => absurd h List.not_mem_nil⟩
    · rintro m _ _ I1 hB1 ⟨y1, y2, y3, y4, y5, rfl, rfl, hb, hm⟩
      refine And.intro ⟨rfl, by decide, by decide⟩ ?_
      refine fload rL_741_741_5_5_1_0 h0 hB1 (by omega) ?_
      intro z1 lz1 uz1 qz1
      have pz1 := fld_at qz1 5 (by omega)
      refine And.intro (by omega) (And.intro ?_ ?_)
      · intro c2
        refine And.intro (by omega) (And.intro ?_ ?_)
        · intro c3
          refine And.intro (by omega) (And.intro ?_ ?_)
          · intro c4
            refine And.intro (by omega) (And.intro ?_ ?_)
            · intro c5
              refine Exists.intro xm_441 (And.intro mi_441 (And.intro ⟨rfl, rfl, rfl, rfl⟩ (And.intro rfl ?_)))
              refine fcallp hB1 (ct_M_readOf_c48db (fBz h0 hB1) (by omega) (by omega)) ?_
              rintro _ ⟨z6, rfl, hz6⟩
              refine And.intro (True.intro) ?_
              exact ⟨_, rfl, by omega⟩
            · intro c7
              refine And.intro (True.intro) ?_
              exact ⟨_, rfl, by omega⟩
          · intro c8
            refine And.intro (True.intro) ?_
            exact ⟨_, rfl, by omega⟩
        · intro c9
          refine And.intro (True.intro) ?_
          exact ⟨_, rfl, by omega⟩
      · intro c10
        refine Exists.intro xm_441 (And.intro mi_441 (And.intro ⟨rfl, rfl, rfl, rfl⟩ (And.intro rfl ?_)))
        refine fcallp hB1 (ct_M_readOf_c48db (fBz h0 hB1) (by omega) (by omega)) ?_
        rintro _ ⟨z11, rfl, hz11⟩
        refine And.intro (by omega) (And.intro ?_ ?_)
        · intro c12
          refine And.intro (by omega) (And.intro ?_ ?_)
          · intro c13
            exact fcutJ (I := I1) (j := jc_M_worst_21024_27) (lv' := [(0, .inr (.inr (some 740))), (1, .inl _), (2, .inl _), (3, .inl _), (4, .inl _), (5, .inl _)]) (And.intro rfl (And.intro rfl (And.intro rfl (And.intro rfl (And.intro rfl (And.intro rfl True.intro)))))) ⟨_, _, _, _, _, rfl, rfl, by omega, rfl⟩ (by omega)
          · intro c14
            refine Exists.intro xm_441 (And.intro mi_441 (And.intro ⟨rfl, rfl, rfl, rfl⟩ (And.intro rfl ?_)))
            refine fcallp hB1 (ct_M_readOf_c48db (fBz h0 hB1) (by omega) (by omega)) ?_
            rintro _ ⟨z15, rfl, hz15⟩
            refine And.intro (by omega) (And.intro ?_ ?_)
            · intro c16
              exact fcutJ (I := I1) (j := jc_M_worst_21024_27) (lv' := [(0, .inr (.inr (some 740))), (1, .inl _), (2, .inl _), (3, .inl _), (4, .inl _), (5, .inl _)]) (And.intro rfl (And.intro rfl (And.intro rfl (And.intro rfl (And.intro rfl (And.intro rfl True.intro)))))) ⟨_, _, _, _, _, rfl, rfl, by omega, rfl⟩ (by omega)
            · intro c17
              exact fcutJ (I := I1) (j := jc_M_worst_21024_27) (lv' := [(0, .inr (.inr (some 740))), (1, .inl _), (2, .inl _), (3, .inl _), (4, .inl _), (5, .inl _)]) (And.intro rfl (And.intro rfl (And.intro rfl (And.intro rfl (And.intro rfl (And.intro rfl True.intro)))))) ⟨_, _, _, _, _, rfl, rfl, by omega, rfl⟩ (by omega)
        · intro c18
          intro z19 hz19 bz19
          exact fcutJ (I := I1) (j := jc_M_worst_21024_27) (lv' := [(0, .inr (.inr (some 740))), (1, .inl _), (2, .inl _), (3, .inl _), (4, .inl _), (5, .inl _)]) (And.intro rfl (And.intro rfl (And.intro rfl (And.intro rfl (And.intro rfl (And.intro rfl True.intro)))))) ⟨_, _, _, _, _, rfl, rfl, by omega, rfl⟩ (by omega)
  · have hB0 := fB_self (zn := znJ) (K := fKc []) h0
    refine And.intro (by omega) (And.intro ?_ ?_)
    · intro c20
      refine And.intro (True.intro) ?_
      exact ⟨_, rfl, by omega⟩
    · intro c21
      refine And.intro (by omega) ?_
      refine Exists.intro xm_238 (And.intro mi_238 (And.intro ⟨rfl, rfl, rfl, rfl⟩ (And.intro True.intro ?_)))
      refine fcallp hB0 (ct_M_isIn_27230 (fBz h0 hB0) (by omega) (by omega) (by omega)) ?_
      rintro _ ⟨z22, rfl, hz22⟩
      refine And.intro (by omega) (And.intro ?_ ?_)
      · intro c23
        exact fcutJ (I := I) (j := jc_M_worst_21024_27) (lv' := [(0, .inr (.inr (some 740))), (1, .inl _), (2, .inl _), (3, .inl _), (4, .inl _), (5, .inl _)]) (And.intro rfl (And.intro rfl (And.intro rfl (And.intro rfl (And.intro rfl (And.intro rfl True.intro)))))) ⟨_, _, _, _, _, rfl, rfl, by omega, rfl⟩ (by omega)
      · intro c24
        refine And.intro (True.intro) ?_
        exact ⟨_, rfl, by omega⟩
set_option maxRecDepth 8000 in
theorem ct_Gauges_hasPlaces_a6d6f {I : fH} {x1 : Int} {x2 : Int} {x3 : Int} (h0 : fB bsJ I) (ha1 : (0 ≤ x1 ∧ x1 ≤ 19)) (ha2 : ((-2147483648) ≤ x2 ∧ x2 ≤ 2147483647)) (ha3 : ((-2147483648) ≤ x3 ∧ x3 ≤ 2147483647)) : fC ρ base n F xTc vwCl xTys D dA la gJ (fbz bsJ znJ (fKc []) I) xm_168 [.inr (.inr (some 703)), .inl x1, .inl x2, .inl x3] I (fun _ r => ∃ z, r = some (.inl z) ∧ (((z = 1 ∧ 0 ≤ x2 ∧ x2 ≤ 30 ∧ 0 ≤ x3 ∧ x3 ≤ 30) ∨ z = 0) ∧ (z = 1 → x2 + x3 ≤ 30))) := by
  have hW : fzs [] (fKc []) := fKc_ok _
  refine f_meth (rb := rbJ) (J := []) 1 400 xG xin_168 x6_168 okJ (fB_self h0) ?_ ?_
  · exact fun q h => absurd h List.not_mem_nil
  · have hB0 := fB_self (zn := znJ) (K := fKc []) h0
    refine And.intro ⟨rfl, by decide, by decide⟩ ?_
    refine fload rL_705_705_0_19_1_0 h0 hB0 (by omega) ?_
    intro z1 lz1 uz1 qz1
    refine Exists.intro xm_13 (And.intro mi_13 (And.intro ⟨rfl, rfl, rfl, rfl⟩ (And.intro True.intro ?_)))
    refine fcallp hB0 (ct_X_within_c27b1 (fBz h0 hB0) (by omega) (by omega) (by omega)) ?_
    rintro _ ⟨z2, rfl, hz2⟩
    refine And.intro (by omega) (And.intro ?_ ?_)
    · intro c3
      refine And.intro (⟨by omega, by omega⟩) ?_
      exact ⟨_, rfl, by omega⟩
    · intro c4
      refine And.intro ⟨rfl, by decide, by decide⟩ ?_
      refine fload rL_705_705_0_19_1_0 h0 hB0 (by omega) ?_
      intro z5 lz5 uz5 qz5
      refine Exists.intro xm_13 (And.intro mi_13 (And.intro ⟨rfl, rfl, rfl, rfl⟩ (And.intro True.intro ?_)))
      refine fcallp hB0 (ct_X_within_c27b1 (fBz h0 hB0) (by omega) (by omega) (by omega)) ?_
      rintro _ ⟨z6, rfl, hz6⟩
      refine And.intro (by omega) (And.intro ?_ ?_)
      · intro c7
        refine And.intro (⟨by omega, by omega⟩) ?_
        exact ⟨_, rfl, by omega⟩
      · intro c8
        refine And.intro (⟨by omega, by omega⟩) ?_
        exact ⟨_, rfl, by omega⟩
set_option maxRecDepth 8000 in
theorem ct_Gauges_carry_d2c8d {I : fH} {x1 : Int} {x2 : Int} {x3 : Int} {x4 : Int} {x5 : Int} (h0 : fB bsJ I) (ha1 : (0 ≤ x1 ∧ x1 ≤ 19)) (ha2 : ((-2147483648) ≤ x2 ∧ x2 ≤ 2147483647)) (ha3 : (0 ≤ x3 ∧ x3 ≤ 19)) (ha4 : ((-2147483648) ≤ x4 ∧ x4 ≤ 2147483647)) (ha5 : ((-2147483648) ≤ x5 ∧ x5 ≤ 2147483647)) : fC ρ base n F xTc vwCl xTys D dA la gJ (fbz bsJ znJ (fKc wz_65950) I) xm_167 [.inr (.inr (some 703)), .inl x1, .inl x2, .inl x3, .inl x4, .inl x5] I (fun _ r => ∃ z, r = some (.inl z) ∧ ((0 ≤ z ∧ z ≤ 30) ∨ z = (-1000000013) ∨ z = (-1000000012) ∨ z = (-1000000011))) := by
  have hW : fzs wz_65950 (fKc wz_65950) := fKc_ok _
  refine f_meth (rb := rbJ) (J := []) 1 400 xG xin_167 x6_167 okJ (fB_self h0) ?_ ?_
  · exact fun q h => absurd h List.not_mem_nil
  · have hB0 := fB_self (zn := znJ) (K := fKc wz_65950) h0
    refine And.intro ⟨rfl, by decide, by decide⟩ ?_
    refine fload rL_704_704_0_19_1_0 h0 hB0 (by omega) ?_
    intro z1 lz1 uz1 qz1
    refine And.intro (by omega) (And.intro ?_ ?_)
    · intro c2
      refine And.intro (True.intro) ?_
      exact ⟨_, rfl, by omega⟩
    · intro c3
      refine And.intro ⟨rfl, by decide, by decide⟩ ?_
      refine fload rL_704_704_0_19_1_0 h0 hB0 (by omega) ?_
      intro z4 lz4 uz4 qz4
      refine And.intro (by omega) (And.intro ?_ ?_)
      · intro c5
        refine And.intro ⟨rfl, by decide, by decide⟩ ?_
        refine fload rL_704_704_0_19_1_0 h0 hB0 (by omega) ?_
        intro z6 lz6 uz6 qz6
        refine And.intro ⟨rfl, by decide, by decide⟩ ?_
        refine fload rL_704_704_0_19_1_0 h0 hB0 (by omega) ?_
        intro z7 lz7 uz7 qz7
        refine And.intro (by omega) (And.intro ?_ ?_)
        · intro c8
          refine Exists.intro xm_168 (And.intro mi_168 (And.intro ⟨rfl, rfl, rfl, rfl⟩ (And.intro rfl ?_)))
          refine fcallp hB0 (ct_Gauges_hasPlaces_a6d6f (fBz h0 hB0) (by omega) (by omega) (by omega)) ?_
          rintro _ ⟨z9, rfl, hz9⟩
          refine And.intro (by omega) (And.intro ?_ ?_)
          · intro c10
            refine And.intro (True.intro) ?_
            exact ⟨_, rfl, by omega⟩
          · intro c11
            refine Exists.intro xm_168 (And.intro mi_168 (And.intro ⟨rfl, rfl, rfl, rfl⟩ (And.intro rfl ?_)))
            refine fcallp hB0 (ct_Gauges_hasPlaces_a6d6f (fBz h0 hB0) (by omega) (by omega) (by omega)) ?_
            rintro _ ⟨z12, rfl, hz12⟩
            refine And.intro (by omega) (And.intro ?_ ?_)
            · intro c13
              refine And.intro ⟨rfl, by decide, by decide⟩ ?_
              refine And.intro ⟨rfl, by decide⟩ (And.intro (by omega) ?_)
              refine And.intro ⟨rfl, by decide, by decide⟩ ?_
              refine And.intro ⟨rfl, by decide⟩ (And.intro (by omega) ?_)
              refine And.intro (fcopyU (rgG_707_726 (by omega) (by omega)) (rgG_707_726 (by omega) (by omega)) rL_707_726_0_29_1_0 rS_707_726_0_29_1_0 (fzs_sub (by decide +kernel) hW) h0 hB0 (by omega) (by omega) (by omega) (by omega)) (And.intro rfl ?_)
              intro IhB14 ehB14 hB14
              refine And.intro (True.intro) ?_
              exact ⟨_, rfl, by omega⟩
            · intro c15
              refine And.intro (True.intro) ?_
              exact ⟨_, rfl, by omega⟩
        · intro c16
          refine And.intro (True.intro) ?_
          exact ⟨_, rfl, by omega⟩
      · intro c17
        refine And.intro (True.intro) ?_
        exact ⟨_, rfl, by omega⟩
set_option maxRecDepth 8000 in
theorem ct_X_copy_f4558 {I : fH} {x1 : Int} {x2 : Int} {x3 : Int} {x4 : Int} {x5 : Int} (h0 : fB bsJ I) (ha1 : ((-2147483648) ≤ x1 ∧ x1 ≤ 2147483647)) (ha2 : ((-2147483648) ≤ x2 ∧ x2 ≤ 2147483647)) (ha3 : ((-2147483648) ≤ x3 ∧ x3 ≤ 2147483647)) (ha4 : ((-2147483648) ≤ x4 ∧ x4 ≤ 2147483647)) (ha5 : ((-2147483648) ≤ x5 ∧ x5 ≤ 2147483647)) : fC ρ base n F xTc vwCl xTys D dA la gJ (fbz bsJ znJ (fKc wz_65950) I) xm_166 [.inr (.inr (some 0)), .inl x1, .inl x2, .inl x3, .inl x4, .inl x5] I (fun _ r => ∃ z, r = some (.inl z) ∧ ((0 ≤ z ∧ z ≤ 30) ∨ z = (-1000000013) ∨ z = (-1000000012) ∨ z = (-1000000011) ∨ z = (-1000000001))) := by
  have hW : fzs wz_65950 (fKc wz_65950) := fKc_ok _
  refine f_meth (rb := rbJ) (J := []) 1 400 xG xin_166 x6_166 okJ (fB_self h0) ?_ ?_
  · exact fun q h => absurd h List.not_mem_nil
  · have hB0 := fB_self (zn := znJ) (K := fKc wz_65950) h0
    refine And.intro ⟨rfl, by decide, by decide⟩ ?_
    refine Exists.intro xm_17 (And.intro mi_17 (And.intro ⟨rfl, rfl, rfl, rfl⟩ (And.intro rfl ?_)))
    refine fcallp hB0 (ct_City_isCell_46f02 (fBz h0 hB0) (by omega)) ?_
    rintro _ ⟨z1, rfl, hz1⟩
    refine And.intro (by omega) (And.intro ?_ ?_)
    · intro c2
      refine And.intro (True.intro) ?_
      exact ⟨_, rfl, by omega⟩
    · intro c3
      refine And.intro ⟨rfl, by decide, by decide⟩ ?_
      refine Exists.intro xm_17 (And.intro mi_17 (And.intro ⟨rfl, rfl, rfl, rfl⟩ (And.intro rfl ?_)))
      refine fcallp hB0 (ct_City_isCell_46f02 (fBz h0 hB0) (by omega)) ?_
      rintro _ ⟨z4, rfl, hz4⟩
      refine And.intro (by omega) (And.intro ?_ ?_)
      · intro c5
        refine And.intro (True.intro) ?_
        exact ⟨_, rfl, by omega⟩
      · intro c6
        refine And.intro ⟨rfl, by decide, by decide⟩ ?_
        refine Exists.intro xm_167 (And.intro mi_167 (And.intro ⟨rfl, rfl, rfl, rfl⟩ (And.intro rfl ?_)))
        refine fcall _ h0 (fzs_sub (by decide +kernel) hW) hB0 (ct_Gauges_carry_d2c8d (fBz h0 hB0) (by omega) (by omega) (by omega) (by omega) (by omega)) ?_
        rintro IhB8 _ hB8 fhB8 ⟨z7, rfl, hz7⟩
        refine And.intro (True.intro) ?_
        exact ⟨_, rfl, by omega⟩
abbrev jc_M_copy_adc00_16 : Nat → fL → List fV → fH → Prop := fun m lv st I => lv = [] ∧ st = [] ∧ (True) ∧ m = (1 : Int).toNat
abbrev jc_M_copy_adc00_37 : Nat → fL → List fV → fH → Prop := fun m lv st I => lv = [] ∧ st = [] ∧ (True) ∧ m = (2 : Int).toNat
abbrev jc_M_copy_adc00_108 : Nat → fL → List fV → fH → Prop := fun m lv st I => lv = [] ∧ st = [] ∧ (True) ∧ m = (3 : Int).toNat
abbrev jc_M_copy_adc00_115 : Nat → fL → List fV → fH → Prop := fun m lv st I => ∃ (y1 : Int) (y2 : Int) (y3 : Int) (y4 : Int) (y5 : Int) (y6 : Int), lv = [(0, .inr (.inr (some 740))), (1, .inl y1), (2, .inl y2), (3, .inl y3), (4, .inl y4), (5, .inl y5), (6, .inl y6)] ∧ st = [] ∧ (((0 ≤ y1 ∧ y1 ≤ 19) ∧ (0 ≤ y2 ∧ y2 ≤ 30) ∧ (0 ≤ y3 ∧ y3 ≤ 19) ∧ (0 ≤ y4 ∧ y4 ≤ 30) ∧ (0 ≤ y5 ∧ y5 ≤ 30) ∧ (0 ≤ y6 ∧ y6 ≤ 30) ∧ (y4 + y5 ≤ 30) ∧ (y2 + y5 ≤ 30))) ∧ m = (35 + 1 * (30 - y6) : Int).toNat
abbrev jc_M_copy_adc00_152 : Nat → fL → List fV → fH → Prop := fun m lv st I => ∃ (y3 : Int) (y4 : Int) (y5 : Int) (y6 : Int), lv = [(0, .inr (.inr (some 740))), (3, .inl y3), (4, .inl y4), (5, .inl y5), (6, .inl y6)] ∧ st = [] ∧ (((0 ≤ y3 ∧ y3 ≤ 19) ∧ (0 ≤ y4 ∧ y4 ≤ 30) ∧ (0 ≤ y5 ∧ y5 ≤ 30) ∧ (0 ≤ y6 ∧ y6 ≤ 30) ∧ (y4 + y5 ≤ 30))) ∧ m = (4 + 1 * (30 - y6) : Int).toNat
set_option maxRecDepth 8000 in
theorem ct_M_copy_adc00 {I : fH} {x1 : Int} {x2 : Int} {x3 : Int} {x4 : Int} {x5 : Int} (h0 : fB bsJ I) (ha1 : ((-2147483648) ≤ x1 ∧ x1 ≤ 2147483647)) (ha2 : ((-2147483648) ≤ x2 ∧ x2 ≤ 2147483647)) (ha3 : ((-2147483648) ≤ x3 ∧ x3 ≤ 2147483647)) (ha4 : ((-2147483648) ≤ x4 ∧ x4 ≤ 2147483647)) (ha5 : ((-2147483648) ≤ x5 ∧ x5 ≤ 2147483647)) : fC ρ base n F xTc vwCl xTys D dA la gJ (fbz bsJ znJ (fKc wz_25294) I) xm_444 [.inr (.inr (some 740)), .inl x1, .inl x2, .inl x3, .inl x4, .inl x5] I (fun _ r => ∃ z, r = some (.inl z) ∧ ((0 ≤ z ∧ z ≤ 30) ∨ z = (-1000000013) ∨ z = (-1000000012) ∨ z = (-1000000011) ∨ z = (-1000000001))) := by
  have hW : fzs wz_25294 (fKc wz_25294) := fKc_ok _
  refine f_meth (rb := rbJ) (J := [(16, jc_M_copy_adc00_16), (37, jc_M_copy_adc00_37), (108, jc_M_copy_adc00_108), (115, jc_M_copy_adc00_115), (152, jc_M_copy_adc00_152)]) 66 400 xG xin_444 x6_444 okJ (fB_self h0) ?_ ?_
  · refine List.forall_mem_cons.mpr ⟨?_, List.forall_mem_cons.mpr ⟨?_, List.forall_mem_cons.mpr ⟨?_, List.forall_mem_cons.mpr ⟨?_, List.forall_mem_cons.mpr ⟨?_, fun q h => absurd h List.not_mem_nil⟩⟩⟩⟩⟩
    · rintro m _ _ I1 hB1 ⟨rfl, rfl, hb, hm⟩
      refine And.intro (True.intro) ?_
      exact ⟨_, rfl, by omega⟩
    · rintro m _ _ I1 hB1 ⟨rfl, rfl, hb, hm⟩
      refine And.intro (True.intro) ?_
      exact ⟨_, rfl, by omega⟩
    · rintro m _ _ I1 hB1 ⟨rfl, rfl, hb, hm⟩
      refine And.intro (True.intro) ?_
      exact ⟨_, rfl, by omega⟩
    · rintro m _ _ I1 hB1 ⟨y1, y2, y3, y4, y5, y6, rfl, rfl, hb, hm⟩
      refine And.intro (by omega) (And.intro ?_ ?_)
      · intro c1
        exact fcutJ (I := I1) (j := jc_M_copy_adc00_152) (lv' := [(0, .inr (.inr (some 740))), (3, .inl _), (4, .inl _), (5, .inl _), (6, .inl _)]) (And.intro rfl (And.intro rfl (And.intro rfl (And.intro rfl (And.intro rfl True.intro))))) ⟨_, _, _, _, rfl, rfl, by omega, rfl⟩ (by omega)
      · intro c2
        refine And.intro ⟨rfl, by decide, by decide⟩ ?_
        refine And.intro ⟨rfl, by decide, by decide⟩ ?_
        intro z3 hz3 ez3 bz3
        intro z4 hz4 ez4 bz4
        refine fload rL_746_746_0_599_1_0 h0 hB1 (by omega) ?_
        intro z5 lz5 uz5 qz5
        refine fstore rS_753_753_0_29_1_0 (fzs_sub (by decide +kernel) hW) (by omega) (by omega) ?_
        intro IhB6 ehB6 hB6
        have t7 := fup_self ehB6
        exact fcutJ (I := IhB6) (j := jc_M_copy_adc00_115) (lv' := [(0, .inr (.inr (some 740))), (1, .inl _), (2, .inl _), (3, .inl _), (4, .inl _), (5, .inl _), (6, .inl _)]) (And.intro rfl (And.intro rfl (And.intro rfl (And.intro rfl (And.intro rfl (And.intro rfl (And.intro rfl True.intro))))))) ⟨_, _, _, _, _, _, rfl, rfl, by omega, rfl⟩ (by omega)
    · rintro m _ _ I1 hB1 ⟨y3, y4, y5, y6, rfl, rfl, hb, hm⟩
      refine And.intro (by omega) (And.intro ?_ ?_)
      · intro c8
        refine And.intro (True.intro) ?_
        exact ⟨_, rfl, by omega⟩
      · intro c9
        refine And.intro ⟨rfl, by decide, by decide⟩ ?_
        intro z10 hz10 ez10 bz10
        intro z11 hz11 ez11 bz11
        refine And.intro ⟨rfl, by decide, by decide⟩ ?_
        refine fload rL_753_753_0_29_1_0 h0 hB1 (by omega) ?_
        intro z12 lz12 uz12 qz12
        refine fstore rS_746_746_0_599_1_0 (fzs_sub (by decide +kernel) hW) (by omega) (by omega) ?_
        intro IhB13 ehB13 hB13
        have t14 := fup_self ehB13
        exact fcutJ (I := IhB13) (j := jc_M_copy_adc00_152) (lv' := [(0, .inr (.inr (some 740))), (3, .inl _), (4, .inl _), (5, .inl _), (6, .inl _)]) (And.intro rfl (And.intro rfl (And.intro rfl (And.intro rfl (And.intro rfl True.intro))))) ⟨_, _, _, _, rfl, rfl, by omega, rfl⟩ (by omega)
  · have hB0 := fB_self (zn := znJ) (K := fKc wz_25294) h0
    refine Exists.intro xm_241 (And.intro mi_241 (And.intro ⟨rfl, rfl, rfl, rfl⟩ (And.intro rfl ?_)))
    refine fcallp hB0 (ct_M_isCell_45859 (fBz h0 hB0) (by omega)) ?_
    rintro _ ⟨z15, rfl, hz15⟩
    refine And.intro (by omega) (And.intro ?_ ?_)
    · intro c16
      exact fcutJ (I := I) (j := jc_M_copy_adc00_16) (lv' := []) (True.intro) ⟨rfl, rfl, True.intro, rfl⟩ (by omega)
    · intro c17
      refine Exists.intro xm_241 (And.intro mi_241 (And.intro ⟨rfl, rfl, rfl, rfl⟩ (And.intro rfl ?_)))
      refine fcallp hB0 (ct_M_isCell_45859 (fBz h0 hB0) (by omega)) ?_
      rintro _ ⟨z18, rfl, hz18⟩
      refine And.intro (by omega) (And.intro ?_ ?_)
      · intro c19
        refine And.intro ⟨rfl, by decide, by decide⟩ ?_
        refine fload rL_744_744_0_19_1_0 h0 hB0 (by omega) ?_
        intro z20 lz20 uz20 qz20
        refine And.intro (by omega) (And.intro ?_ ?_)
        · intro c21
          exact fcutJ (I := I) (j := jc_M_copy_adc00_37) (lv' := []) (True.intro) ⟨rfl, rfl, True.intro, rfl⟩ (by omega)
        · intro c22
          refine And.intro ⟨rfl, by decide, by decide⟩ ?_
          refine fload rL_744_744_0_19_1_0 h0 hB0 (by omega) ?_
          intro z23 lz23 uz23 qz23
          refine And.intro (by omega) (And.intro ?_ ?_)
          · intro c24
            refine And.intro ⟨rfl, by decide, by decide⟩ ?_
            refine fload rL_744_744_0_19_1_0 h0 hB0 (by omega) ?_
            intro z25 lz25 uz25 qz25
            refine And.intro ⟨rfl, by decide, by decide⟩ ?_
            refine fload rL_744_744_0_19_1_0 h0 hB0 (by omega) ?_
            intro z26 lz26 uz26 qz26
            refine And.intro (by omega) (And.intro ?_ ?_)
            · intro c27
              refine And.intro (by omega) (And.intro ?_ ?_)
              · intro c28
                exact fcutJ (I := I) (j := jc_M_copy_adc00_108) (lv' := []) (True.intro) ⟨rfl, rfl, True.intro, rfl⟩ (by omega)
              · intro c29
                refine And.intro (by omega) (And.intro ?_ ?_)
                · intro c30
                  exact fcutJ (I := I) (j := jc_M_copy_adc00_108) (lv' := []) (True.intro) ⟨rfl, rfl, True.intro, rfl⟩ (by omega)
                · intro c31
                  refine And.intro (by omega) (And.intro ?_ ?_)
                  · intro c32
                    exact fcutJ (I := I) (j := jc_M_copy_adc00_108) (lv' := []) (True.intro) ⟨rfl, rfl, True.intro, rfl⟩ (by omega)
                  · intro c33
                    refine And.intro (by omega) ?_
                    refine And.intro (by omega) ?_
                    refine And.intro ⟨rfl, by decide, by decide⟩ ?_
                    refine fload rL_745_745_0_19_1_0 h0 hB0 (by omega) ?_
                    intro z34 lz34 uz34 qz34
                    refine And.intro (by omega) ?_
                    refine And.intro (And.intro (by omega) (by omega)) ?_
                    intro z35 hz35
                    refine And.intro (by omega) (And.intro ?_ ?_)
                    · intro c36
                      exact fcutJ (I := I) (j := jc_M_copy_adc00_108) (lv' := []) (True.intro) ⟨rfl, rfl, True.intro, rfl⟩ (by omega)
                    · intro c37
                      refine And.intro (by omega) ?_
                      refine And.intro (by omega) ?_
                      refine And.intro ⟨rfl, by decide, by decide⟩ ?_
                      refine fload rL_745_745_0_19_1_0 h0 hB0 (by omega) ?_
                      intro z38 lz38 uz38 qz38
                      refine And.intro (by omega) ?_
                      refine And.intro (And.intro (by omega) (by omega)) ?_
                      intro z39 hz39
                      refine And.intro (by omega) (And.intro ?_ ?_)
                      · intro c40
                        exact fcutJ (I := I) (j := jc_M_copy_adc00_115) (lv' := [(0, .inr (.inr (some 740))), (1, .inl _), (2, .inl _), (3, .inl _), (4, .inl _), (5, .inl _), (6, .inl _)]) (And.intro rfl (And.intro rfl (And.intro rfl (And.intro rfl (And.intro rfl (And.intro rfl (And.intro rfl True.intro))))))) ⟨_, _, _, _, _, _, rfl, rfl, by omega, rfl⟩ (by omega)
                      · intro c41
                        exact fcutJ (I := I) (j := jc_M_copy_adc00_108) (lv' := []) (True.intro) ⟨rfl, rfl, True.intro, rfl⟩ (by omega)
            · intro c42
              refine And.intro (True.intro) ?_
              exact ⟨_, rfl, by omega⟩
          · intro c43
            exact fcutJ (I := I) (j := jc_M_copy_adc00_37) (lv' := []) (True.intro) ⟨rfl, rfl, True.intro, rfl⟩ (by omega)
      · intro c44
        exact fcutJ (I := I) (j := jc_M_copy_adc00_16) (lv' := []) (True.intro) ⟨rfl, rfl, True.intro, rfl⟩ (by omega)
set_option maxRecDepth 8000 in
theorem ct_X_swap_20081 {I : fH} {x0 : Nat} {x1 : Int} {x2 : Int} (h0 : fB bsJ I) (ha0 : (213 ≤ x0 ∧ x0 ≤ 220)) (ha1 : (0 ≤ x1 ∧ x1 ≤ 11)) (ha2 : (0 ≤ x2 ∧ x2 ≤ 3)) : fC ρ base n F xTc vwCl xTys D dA la gJ (fbz bsJ znJ (fKc wz_9f933) I) xm_18 [.inr (.inr (some x0)), .inl x1, .inl x2] I (fun _ r => ∃ z, r = some (.inl z) ∧ ((-2147483648) ≤ z ∧ z ≤ 2147483647)) := by
  have hW : fzs wz_9f933 (fKc wz_9f933) := fKc_ok _
  refine f_meth (rb := rbJ) (J := []) 1 400 xG xin_18 x6_18 okJ (fB_self h0) ?_ ?_
  · exact fun q h => absurd h List.not_mem_nil
  · have hB0 := fB_self (zn := znJ) (K := fKc wz_9f933) h0
    refine fload rL_213_220_0_11_1_0 h0 hB0 (by omega) ?_
    intro z1 lz1 uz1 qz1
    refine fstore rS_213_220_0_11_1_0 (fzs_sub (by decide +kernel) hW) (by omega) (by omega) ?_
    intro IhB2 ehB2 hB2
    have t3 := fup_self ehB2
    refine And.intro (True.intro) ?_
    exact ⟨_, rfl, by omega⟩
set_option maxRecDepth 8000 in
theorem ct_X_shows_90a17 {I : fH} {x1 : Int} {x2 : Int} {x3 : Int} (h0 : fB bsJ I) (ha1 : ((-2147483648) ≤ x1 ∧ x1 ≤ 2147483647)) (ha2 : ((-2147483648) ≤ x2 ∧ x2 ≤ 2147483647)) (ha3 : ((-2147483648) ≤ x3 ∧ x3 ≤ 2147483647)) : fC ρ base n F xTc vwCl xTys D dA la gJ (fbz bsJ znJ (fKc wz_9f933) I) xm_169 [.inr (.inr (some 0)), .inl x1, .inl x2, .inl x3] I (fun _ r => ∃ z, r = some (.inl z) ∧ ((-2147483648) ≤ z ∧ z ≤ 2147483647)) := by
  have hW : fzs wz_9f933 (fKc wz_9f933) := fKc_ok _
  refine f_meth (rb := rbJ) (J := []) 1 400 xG xin_169 x6_169 okJ (fB_self h0) ?_ ?_
  · exact fun q h => absurd h List.not_mem_nil
  · have hB0 := fB_self (zn := znJ) (K := fKc wz_9f933) h0
    refine Exists.intro xm_13 (And.intro mi_13 (And.intro ⟨rfl, rfl, rfl, rfl⟩ (And.intro True.intro ?_)))
    refine fcallp hB0 (ct_X_within_c27b1 (fBz h0 hB0) (by omega) (by omega) (by omega)) ?_
    rintro _ ⟨z1, rfl, hz1⟩
    refine And.intro (by omega) (And.intro ?_ ?_)
    · intro c2
      refine And.intro (True.intro) ?_
      exact ⟨_, rfl, by omega⟩
    · intro c3
      refine Exists.intro xm_13 (And.intro mi_13 (And.intro ⟨rfl, rfl, rfl, rfl⟩ (And.intro True.intro ?_)))
      refine fcallp hB0 (ct_X_within_c27b1 (fBz h0 hB0) (by omega) (by omega) (by omega)) ?_
      rintro _ ⟨z4, rfl, hz4⟩
      refine And.intro (by omega) (And.intro ?_ ?_)
      · intro c5
        refine And.intro (True.intro) ?_
        exact ⟨_, rfl, by omega⟩
      · intro c6
        refine Exists.intro xm_13 (And.intro mi_13 (And.intro ⟨rfl, rfl, rfl, rfl⟩ (And.intro True.intro ?_)))
        refine fcallp hB0 (ct_X_within_c27b1 (fBz h0 hB0) (by omega) (by omega) (by omega)) ?_
        rintro _ ⟨z7, rfl, hz7⟩
        refine And.intro (by omega) (And.intro ?_ ?_)
        · intro c8
          refine And.intro ⟨rfl, by decide, by decide⟩ ?_
          refine And.intro ⟨rfl, by decide, by decide⟩ ?_
          refine And.intro ⟨rfl, by decide⟩ (And.intro (by omega) ?_)
          refine Exists.intro xm_18 (And.intro mi_18 (And.intro ⟨rfl, rfl, rfl, rfl⟩ (And.intro True.intro ?_)))
          refine fcall _ h0 (fzs_sub (by decide +kernel) hW) hB0 (ct_X_swap_20081 (fBz h0 hB0) (by omega) (by omega) (by omega)) ?_
          rintro IhB10 _ hB10 fhB10 ⟨z9, rfl, hz9⟩
          refine And.intro (True.intro) ?_
          exact ⟨_, rfl, by omega⟩
        · intro c11
          refine And.intro (True.intro) ?_
          exact ⟨_, rfl, by omega⟩
set_option maxRecDepth 8000 in
theorem ct_M_put_27229 {I : fH} {x1 : Int} {x2 : Int} (h0 : fB bsJ I) (ha1 : ((4400 ≤ x1 ∧ x1 ≤ 4495) ∧ (x1 - 4400) % 12 ≤ 11)) (ha2 : (0 ≤ x2 ∧ x2 ≤ 3)) : fC ρ base n F xTc vwCl xTys D dA la gJ (fbz bsJ znJ (fKc wz_663b8) I) xm_242 [.inr (.inr (some 740)), .inl x1, .inl x2] I (fun _ r => ∃ z, r = some (.inl z) ∧ ((-2147483648) ≤ z ∧ z ≤ 2147483647)) := by
  have hW : fzs wz_663b8 (fKc wz_663b8) := fKc_ok _
  refine f_meth (rb := rbJ) (J := []) 1 400 xG xin_242 x6_242 okJ (fB_self h0) ?_ ?_
  · exact fun q h => absurd h List.not_mem_nil
  · have hB0 := fB_self (zn := znJ) (K := fKc wz_663b8) h0
    refine And.intro ⟨rfl, by decide, by decide⟩ ?_
    refine fload rL_741_741_4400_4495_12_11 h0 hB0 (by omega) ?_
    intro z1 lz1 uz1 qz1
    refine And.intro ⟨rfl, by decide, by decide⟩ ?_
    refine fstore rS_741_741_4400_4495_12_11 (fzs_sub (by decide +kernel) hW) (by omega) (by omega) ?_
    intro IhB2 ehB2 hB2
    have t3 := fup_self ehB2
    refine And.intro (True.intro) ?_
    exact ⟨_, rfl, by omega⟩
set_option maxRecDepth 8000 in
theorem ct_M_isFault_f748c {I : fH} {x0 : Int} (h0 : fB bsJ I) (ha0 : ((-2147483648) ≤ x0 ∧ x0 ≤ 2147483647)) : fC ρ base n F xTc vwCl xTys D dA la gJ (fbz bsJ znJ (fKc []) I) xm_447 [.inl x0] I (fun _ r => ∃ z, r = some (.inl z) ∧ ((z = 1 ∧ 0 ≤ x0 ∧ x0 ≤ 11) ∨ z = 0)) := by
  have hW : fzs [] (fKc []) := fKc_ok _
  refine f_meth (rb := rbJ) (J := []) 1 400 xG xin_447 x6_447 okJ (fB_self h0) ?_ ?_
  · exact fun q h => absurd h List.not_mem_nil
  · have hB0 := fB_self (zn := znJ) (K := fKc []) h0
    refine And.intro (by omega) ?_
    refine Exists.intro xm_238 (And.intro mi_238 (And.intro ⟨rfl, rfl, rfl, rfl⟩ (And.intro True.intro ?_)))
    refine fcallp hB0 (ct_M_isIn_27230 (fBz h0 hB0) (by omega) (by omega) (by omega)) ?_
    rintro _ ⟨z1, rfl, hz1⟩
    refine And.intro (⟨by omega, by omega⟩) ?_
    exact ⟨_, rfl, by omega⟩
set_option maxRecDepth 8000 in
theorem ct_M_isTest_9b7ec {I : fH} {x0 : Int} (h0 : fB bsJ I) (ha0 : ((-2147483648) ≤ x0 ∧ x0 ≤ 2147483647)) : fC ρ base n F xTc vwCl xTys D dA la gJ (fbz bsJ znJ (fKc []) I) xm_446 [.inl x0] I (fun _ r => ∃ z, r = some (.inl z) ∧ ((z = 1 ∧ 0 ≤ x0 ∧ x0 ≤ 7) ∨ z = 0)) := by
  have hW : fzs [] (fKc []) := fKc_ok _
  refine f_meth (rb := rbJ) (J := []) 1 400 xG xin_446 x6_446 okJ (fB_self h0) ?_ ?_
  · exact fun q h => absurd h List.not_mem_nil
  · have hB0 := fB_self (zn := znJ) (K := fKc []) h0
    refine And.intro (by omega) ?_
    refine Exists.intro xm_238 (And.intro mi_238 (And.intro ⟨rfl, rfl, rfl, rfl⟩ (And.intro True.intro ?_)))
    refine fcallp hB0 (ct_M_isIn_27230 (fBz h0 hB0) (by omega) (by omega) (by omega)) ?_
    rintro _ ⟨z1, rfl, hz1⟩
    refine And.intro (⟨by omega, by omega⟩) ?_
    exact ⟨_, rfl, by omega⟩
set_option maxRecDepth 8000 in
theorem ct_M_shows_19c07 {I : fH} {x1 : Int} {x2 : Int} {x3 : Int} (h0 : fB bsJ I) (ha1 : ((-2147483648) ≤ x1 ∧ x1 ≤ 2147483647)) (ha2 : ((-2147483648) ≤ x2 ∧ x2 ≤ 2147483647)) (ha3 : ((-2147483648) ≤ x3 ∧ x3 ≤ 2147483647)) : fC ρ base n F xTc vwCl xTys D dA la gJ (fbz bsJ znJ (fKc wz_663b8) I) xm_445 [.inr (.inr (some 740)), .inl x1, .inl x2, .inl x3] I (fun _ r => ∃ z, r = some (.inl z) ∧ ((-2147483648) ≤ z ∧ z ≤ 2147483647)) := by
  have hW : fzs wz_663b8 (fKc wz_663b8) := fKc_ok _
  refine f_meth (rb := rbJ) (J := []) 1 400 xG xin_445 x6_445 okJ (fB_self h0) ?_ ?_
  · exact fun q h => absurd h List.not_mem_nil
  · have hB0 := fB_self (zn := znJ) (K := fKc wz_663b8) h0
    refine Exists.intro xm_446 (And.intro mi_446 (And.intro ⟨rfl, rfl, rfl, rfl⟩ (And.intro True.intro ?_)))
    refine fcallp hB0 (ct_M_isTest_9b7ec (fBz h0 hB0) (by omega)) ?_
    rintro _ ⟨z1, rfl, hz1⟩
    refine And.intro (by omega) (And.intro ?_ ?_)
    · intro c2
      refine And.intro (True.intro) ?_
      exact ⟨_, rfl, by omega⟩
    · intro c3
      refine Exists.intro xm_447 (And.intro mi_447 (And.intro ⟨rfl, rfl, rfl, rfl⟩ (And.intro True.intro ?_)))
      refine fcallp hB0 (ct_M_isFault_f748c (fBz h0 hB0) (by omega)) ?_
      rintro _ ⟨z4, rfl, hz4⟩
      refine And.intro (by omega) (And.intro ?_ ?_)
      · intro c5
        refine And.intro (True.intro) ?_
        exact ⟨_, rfl, by omega⟩
      · intro c6
        refine And.intro (by omega) ?_
        refine Exists.intro xm_238 (And.intro mi_238 (And.intro ⟨rfl, rfl, rfl, rfl⟩ (And.intro True.intro ?_)))
        refine fcallp hB0 (ct_M_isIn_27230 (fBz h0 hB0) (by omega) (by omega) (by omega)) ?_
        rintro _ ⟨z7, rfl, hz7⟩
        refine And.intro (by omega) (And.intro ?_ ?_)
        · intro c8
          refine And.intro (True.intro) ?_
          exact ⟨_, rfl, by omega⟩
        · intro c9
          refine Exists.intro xm_242 (And.intro mi_242 (And.intro ⟨rfl, rfl, rfl, rfl⟩ (And.intro rfl ?_)))
          refine fcall _ h0 (fzs_sub (by decide +kernel) hW) hB0 (ct_M_put_27229 (fBz h0 hB0) (by omega) (by omega)) ?_
          rintro IhB11 _ hB11 fhB11 ⟨z10, rfl, hz10⟩
          refine And.intro (True.intro) ?_
          exact ⟨_, rfl, by omega⟩
abbrev jc_Desk_agrees_6299a_2 : Nat → fL → List fV → fH → Prop := fun m lv st I => ∃ (y1 : Int) (y2 : Int), lv = [(0, .inr (.inr (some 211))), (1, .inl y1), (2, .inl y2)] ∧ st = [] ∧ (((0 ≤ y1 ∧ y1 ≤ 11) ∧ (0 ≤ y2 ∧ y2 ≤ 8))) ∧ m = (1 + 1 * (8 - y2) : Int).toNat
set_option maxRecDepth 8000 in
theorem ct_Desk_agrees_6299a {I : fH} {x1 : Int} (h0 : fB bsJ I) (ha1 : (0 ≤ x1 ∧ x1 ≤ 11)) : fC ρ base n F xTc vwCl xTys D dA la gJ (fbz bsJ znJ (fKc []) I) xm_172 [.inr (.inr (some 211)), .inl x1] I (fun _ r => ∃ z, r = some (.inl z) ∧ (0 ≤ z ∧ z ≤ 1)) := by
  have hW : fzs [] (fKc []) := fKc_ok _
  refine f_meth (rb := rbJ) (J := [(2, jc_Desk_agrees_6299a_2)]) 10 400 xG xin_172 x6_172 okJ (fB_self h0) ?_ ?_
  · refine List.forall_mem_cons.mpr ⟨?_, fun q h => absurd h List.not_mem_nil⟩
    · rintro m _ _ I1 hB1 ⟨y1, y2, rfl, rfl, hb, hm⟩
      refine And.intro (by omega) (And.intro ?_ ?_)
      · intro c1
        refine And.intro (⟨by omega, by omega⟩) ?_
        exact ⟨_, rfl, by omega⟩
      · intro c2
        refine And.intro ⟨rfl, by decide, by decide⟩ ?_
        refine fload rL_221_221_0_7_1_0 h0 hB1 (by omega) ?_
        intro z3 lz3 uz3 qz3
        refine And.intro (by omega) (And.intro ?_ ?_)
        · intro c4
          exact fcutJ (I := I1) (j := jc_Desk_agrees_6299a_2) (lv' := [(0, .inr (.inr (some 211))), (1, .inl _), (2, .inl _)]) (And.intro rfl (And.intro rfl (And.intro rfl True.intro))) ⟨_, _, rfl, rfl, by omega, rfl⟩ (by omega)
        · intro c5
          refine And.intro ⟨rfl, by decide, by decide⟩ ?_
          refine fload rL_221_221_0_7_1_0 h0 hB1 (by omega) ?_
          intro z6 lz6 uz6 qz6
          refine And.intro ⟨rfl, by decide, by decide⟩ ?_
          refine And.intro ⟨rfl, by decide⟩ (And.intro (by omega) ?_)
          refine fload rL_213_220_0_11_1_0 h0 hB1 (by omega) ?_
          intro z7 lz7 uz7 qz7
          refine And.intro (by omega) (And.intro ?_ ?_)
          · intro c8
            exact fcutJ (I := I1) (j := jc_Desk_agrees_6299a_2) (lv' := [(0, .inr (.inr (some 211))), (1, .inl _), (2, .inl _)]) (And.intro rfl (And.intro rfl (And.intro rfl True.intro))) ⟨_, _, rfl, rfl, by omega, rfl⟩ (by omega)
          · intro c9
            refine And.intro (⟨by omega, by omega⟩) ?_
            exact ⟨_, rfl, by omega⟩
  · have hB0 := fB_self (zn := znJ) (K := fKc []) h0
    exact fcutJ (I := I) (j := jc_Desk_agrees_6299a_2) (lv' := [(0, .inr (.inr (some 211))), (1, .inl _), (2, .inl _)]) (And.intro rfl (And.intro rfl (And.intro rfl True.intro))) ⟨_, _, rfl, rfl, by omega, rfl⟩ (by omega)
abbrev jc_Desk_leftFaults_e8455_4 : Nat → fL → List fV → fH → Prop := fun m lv st I => ∃ (y1 : Int) (y2 : Int), lv = [(0, .inr (.inr (some 211))), (1, .inl y1), (2, .inl y2)] ∧ st = [] ∧ ((((-2147483648) ≤ y1 ∧ y1 ≤ 2147483647) ∧ (0 ≤ y2 ∧ y2 ≤ 12))) ∧ m = (1 + 1 * (12 - y2) : Int).toNat
set_option maxRecDepth 8000 in
theorem ct_Desk_leftFaults_e8455 {I : fH}  (h0 : fB bsJ I)  : fC ρ base n F xTc vwCl xTys D dA la gJ (fbz bsJ znJ (fKc []) I) xm_171 [.inr (.inr (some 211))] I (fun _ r => ∃ z, r = some (.inl z) ∧ ((-2147483648) ≤ z ∧ z ≤ 2147483647)) := by
  have hW : fzs [] (fKc []) := fKc_ok _
  refine f_meth (rb := rbJ) (J := [(4, jc_Desk_leftFaults_e8455_4)]) 14 400 xG xin_171 x6_171 okJ (fB_self h0) ?_ ?_
  · refine List.forall_mem_cons.mpr ⟨?_, fun q h => absurd h List.not_mem_nil⟩
    · rintro m _ _ I1 hB1 ⟨y1, y2, rfl, rfl, hb, hm⟩
      refine And.intro (by omega) (And.intro ?_ ?_)
      · intro c1
        refine And.intro (True.intro) ?_
        exact ⟨_, rfl, by omega⟩
      · intro c2
        refine Exists.intro xm_172 (And.intro mi_172 (And.intro ⟨rfl, rfl, rfl, rfl⟩ (And.intro rfl ?_)))
        refine fcallp hB1 (ct_Desk_agrees_6299a (fBz h0 hB1) (by omega)) ?_
        rintro _ ⟨z3, rfl, hz3⟩
        refine And.intro (by omega) (And.intro ?_ ?_)
        · intro c4
          exact fcutJ (I := I1) (j := jc_Desk_leftFaults_e8455_4) (lv' := [(0, .inr (.inr (some 211))), (1, .inl _), (2, .inl _)]) (And.intro rfl (And.intro rfl (And.intro rfl True.intro))) ⟨_, _, rfl, rfl, by omega, rfl⟩ (by omega)
        · intro c5
          intro z6 hz6 ez6
          intro z7 hz7 ez7
          exact fcutJ (I := I1) (j := jc_Desk_leftFaults_e8455_4) (lv' := [(0, .inr (.inr (some 211))), (1, .inl _), (2, .inl _)]) (And.intro rfl (And.intro rfl (And.intro rfl True.intro))) ⟨_, _, rfl, rfl, by omega, rfl⟩ (by omega)
  · have hB0 := fB_self (zn := znJ) (K := fKc []) h0
    exact fcutJ (I := I) (j := jc_Desk_leftFaults_e8455_4) (lv' := [(0, .inr (.inr (some 211))), (1, .inl _), (2, .inl _)]) (And.intro rfl (And.intro rfl (And.intro rfl True.intro))) ⟨_, _, rfl, rfl, by omega, rfl⟩ (by omega)
set_option maxRecDepth 8000 in
theorem ct_Integer_bitCount_ccf26 {I : fH} {x0 : Int} (h0 : fB bsJ I) (ha0 : ((-2147483648) ≤ x0 ∧ x0 ≤ 2147483647)) : fC ρ base n F xTc vwCl xTys D dA la gJ (fbz bsJ znJ (fKc []) I) xm_499 [.inl x0] I (fun _ r => ∃ z, r = some (.inl z) ∧ (0 ≤ z ∧ z ≤ 63)) := by
  have hW : fzs [] (fKc []) := fKc_ok _
  refine f_meth (rb := rbJ) (J := []) 1 400 xG xin_499 x6_499 okJ (fB_self h0) ?_ ?_
  · exact fun q h => absurd h List.not_mem_nil
  · have hB0 := fB_self (zn := znJ) (K := fKc []) h0
    intro z1 hz1 ez1
    intro z2 hz2 ez2 bz2
    intro z3 hz3 ez3 bz3
    intro z4 hz4 ez4 bz4
    intro z5 hz5 ez5
    intro z6 hz6 ez6 bz6
    intro z7 hz7 ez7
    intro z8 hz8 ez8 bz8
    intro z9 hz9 ez9 bz9
    intro z10 hz10 ez10
    intro z11 hz11 ez11 bz11
    intro z12 hz12 ez12
    intro z13 hz13 ez13 bz13
    intro z14 hz14 ez14 bz14
    refine And.intro (True.intro) ?_
    exact ⟨_, rfl, by omega⟩
set_option maxRecDepth 8000 in
theorem ct_X_tested_c945d {I : fH} {x1 : Int} {x2 : Int} (h0 : fB bsJ I) (ha1 : ((-2147483648) ≤ x1 ∧ x1 ≤ 2147483647)) (ha2 : ((-2147483648) ≤ x2 ∧ x2 ≤ 2147483647)) : fC ρ base n F xTc vwCl xTys D dA la gJ (fbz bsJ znJ (fKc wz_ae6a8) I) xm_170 [.inr (.inr (some 0)), .inl x1, .inl x2] I (fun _ r => ∃ z, r = some (.inl z) ∧ ((0 ≤ z ∧ z ≤ 89) ∨ z = (-1000000001))) := by
  have hW : fzs wz_ae6a8 (fKc wz_ae6a8) := fKc_ok _
  refine f_meth (rb := rbJ) (J := []) 1 400 xG xin_170 x6_170 okJ (fB_self h0) ?_ ?_
  · exact fun q h => absurd h List.not_mem_nil
  · have hB0 := fB_self (zn := znJ) (K := fKc wz_ae6a8) h0
    refine Exists.intro xm_13 (And.intro mi_13 (And.intro ⟨rfl, rfl, rfl, rfl⟩ (And.intro True.intro ?_)))
    refine fcallp hB0 (ct_X_within_c27b1 (fBz h0 hB0) (by omega) (by omega) (by omega)) ?_
    rintro _ ⟨z1, rfl, hz1⟩
    refine And.intro (by omega) (And.intro ?_ ?_)
    · intro c2
      refine And.intro (True.intro) ?_
      exact ⟨_, rfl, by omega⟩
    · intro c3
      refine Exists.intro xm_13 (And.intro mi_13 (And.intro ⟨rfl, rfl, rfl, rfl⟩ (And.intro True.intro ?_)))
      refine fcallp hB0 (ct_X_within_c27b1 (fBz h0 hB0) (by omega) (by omega) (by omega)) ?_
      rintro _ ⟨z4, rfl, hz4⟩
      refine And.intro (by omega) (And.intro ?_ ?_)
      · intro c5
        refine And.intro ⟨rfl, by decide, by decide⟩ ?_
        refine And.intro ⟨rfl, by decide, by decide⟩ ?_
        refine fstore rS_221_221_0_7_1_0 (fzs_sub (by decide +kernel) hW) (by omega) (by omega) ?_
        intro IhB6 ehB6 hB6
        have t7 := fup_self ehB6
        refine And.intro ⟨rfl, by decide, by decide⟩ ?_
        refine Exists.intro xm_171 (And.intro mi_171 (And.intro ⟨rfl, rfl, rfl, rfl⟩ (And.intro rfl ?_)))
        refine fcallp hB6 (ct_Desk_leftFaults_e8455 (fBz h0 hB6)) ?_
        rintro _ ⟨z8, rfl, hz8⟩
        refine Exists.intro xm_499 (And.intro mi_499 (And.intro ⟨rfl, rfl, rfl, rfl⟩ (And.intro True.intro ?_)))
        refine fcallp hB6 (ct_Integer_bitCount_ccf26 (fBz h0 hB6) (by omega)) ?_
        rintro _ ⟨z9, rfl, hz9⟩
        refine And.intro (True.intro) ?_
        exact ⟨_, rfl, by omega⟩
      · intro c10
        refine And.intro (True.intro) ?_
        exact ⟨_, rfl, by omega⟩
abbrev jc_M_left_2e19e_4 : Nat → fL → List fV → fH → Prop := fun m lv st I => ∃ (y1 : Int) (y2 : Int), lv = [(0, .inr (.inr (some 740))), (1, .inl y1), (2, .inl y2)] ∧ st = [] ∧ ((((-2147483648) ≤ y1 ∧ y1 ≤ 2147483647) ∧ (0 ≤ y2 ∧ y2 ≤ 12))) ∧ m = (10 + 10 * (12 - y2) : Int).toNat
abbrev jc_M_left_2e19e_15 : Nat → fL → List fV → fH → Prop := fun m lv st I => ∃ (y1 : Int) (y2 : Int) (y3 : Int) (y4 : Int), lv = [(0, .inr (.inr (some 740))), (1, .inl y1), (2, .inl y2), (3, .inl y3), (4, .inl y4)] ∧ st = [] ∧ ((((-2147483648) ≤ y1 ∧ y1 ≤ 2147483647) ∧ (0 ≤ y2 ∧ y2 ≤ 11) ∧ (0 ≤ y3 ∧ y3 ≤ 1) ∧ (0 ≤ y4 ∧ y4 ≤ 8))) ∧ m = (1 + 10 * (12 - y2) + 1 * (8 - y4) : Int).toNat
set_option maxRecDepth 8000 in
theorem ct_M_left_2e19e {I : fH}  (h0 : fB bsJ I)  : fC ρ base n F xTc vwCl xTys D dA la gJ (fbz bsJ znJ (fKc []) I) xm_449 [.inr (.inr (some 740))] I (fun _ r => ∃ z, r = some (.inl z) ∧ ((-2147483648) ≤ z ∧ z ≤ 2147483647)) := by
  have hW : fzs [] (fKc []) := fKc_ok _
  refine f_meth (rb := rbJ) (J := [(4, jc_M_left_2e19e_4), (15, jc_M_left_2e19e_15)]) 131 400 xG xin_449 x6_449 okJ (fB_self h0) ?_ ?_
  · refine List.forall_mem_cons.mpr ⟨?_, List.forall_mem_cons.mpr ⟨?_, fun q h => absurd h List.not_mem_nil⟩⟩
    · rintro m _ _ I1 hB1 ⟨y1, y2, rfl, rfl, hb, hm⟩
      refine And.intro (by omega) (And.intro ?_ ?_)
      · intro c1
        refine And.intro (True.intro) ?_
        exact ⟨_, rfl, by omega⟩
      · intro c2
        exact fcutJ (I := I1) (j := jc_M_left_2e19e_15) (lv' := [(0, .inr (.inr (some 740))), (1, .inl _), (2, .inl _), (3, .inl _), (4, .inl _)]) (And.intro rfl (And.intro rfl (And.intro rfl (And.intro rfl (And.intro rfl True.intro))))) ⟨_, _, _, _, rfl, rfl, by omega, rfl⟩ (by omega)
    · rintro m _ _ I1 hB1 ⟨y1, y2, y3, y4, rfl, rfl, hb, hm⟩
      refine And.intro (by omega) (And.intro ?_ ?_)
      · intro c3
        refine And.intro (by omega) (And.intro ?_ ?_)
        · intro c4
          intro z5 hz5 ez5
          exact fcutJ (I := I1) (j := jc_M_left_2e19e_4) (lv' := [(0, .inr (.inr (some 740))), (1, .inl _), (2, .inl _)]) (And.intro rfl (And.intro rfl (And.intro rfl True.intro))) ⟨_, _, rfl, rfl, by omega, rfl⟩ (by omega)
        · intro c6
          intro z7 hz7 ez7
          intro z8 hz8 ez8
          exact fcutJ (I := I1) (j := jc_M_left_2e19e_4) (lv' := [(0, .inr (.inr (some 740))), (1, .inl _), (2, .inl _)]) (And.intro rfl (And.intro rfl (And.intro rfl True.intro))) ⟨_, _, rfl, rfl, by omega, rfl⟩ (by omega)
      · intro c9
        refine And.intro (by omega) (And.intro ?_ ?_)
        · intro c10
          exact fcutJ (I := I1) (j := jc_M_left_2e19e_15) (lv' := [(0, .inr (.inr (some 740))), (1, .inl _), (2, .inl _), (3, .inl _), (4, .inl _)]) (And.intro rfl (And.intro rfl (And.intro rfl (And.intro rfl (And.intro rfl True.intro))))) ⟨_, _, _, _, rfl, rfl, by omega, rfl⟩ (by omega)
        · intro c11
          refine And.intro ⟨rfl, by decide, by decide⟩ ?_
          refine fload rL_741_741_4500_4507_1_0 h0 hB1 (by omega) ?_
          intro z12 lz12 uz12 qz12
          refine And.intro (by omega) (And.intro ?_ ?_)
          · intro c13
            exact fcutJ (I := I1) (j := jc_M_left_2e19e_15) (lv' := [(0, .inr (.inr (some 740))), (1, .inl _), (2, .inl _), (3, .inl _), (4, .inl _)]) (And.intro rfl (And.intro rfl (And.intro rfl (And.intro rfl (And.intro rfl True.intro))))) ⟨_, _, _, _, rfl, rfl, by omega, rfl⟩ (by omega)
          · intro c14
            refine And.intro ⟨rfl, by decide, by decide⟩ ?_
            refine fload rL_741_741_4400_4495_12_11 h0 hB1 (by omega) ?_
            intro z15 lz15 uz15 qz15
            refine And.intro ⟨rfl, by decide, by decide⟩ ?_
            refine fload rL_741_741_4500_4507_1_0 h0 hB1 (by omega) ?_
            intro z16 lz16 uz16 qz16
            refine And.intro (by omega) (And.intro ?_ ?_)
            · intro c17
              exact fcutJ (I := I1) (j := jc_M_left_2e19e_15) (lv' := [(0, .inr (.inr (some 740))), (1, .inl _), (2, .inl _), (3, .inl _), (4, .inl _)]) (And.intro rfl (And.intro rfl (And.intro rfl (And.intro rfl (And.intro rfl True.intro))))) ⟨_, _, _, _, rfl, rfl, by omega, rfl⟩ (by omega)
            · intro c18
              exact fcutJ (I := I1) (j := jc_M_left_2e19e_15) (lv' := [(0, .inr (.inr (some 740))), (1, .inl _), (2, .inl _), (3, .inl _), (4, .inl _)]) (And.intro rfl (And.intro rfl (And.intro rfl (And.intro rfl (And.intro rfl True.intro))))) ⟨_, _, _, _, rfl, rfl, by omega, rfl⟩ (by omega)
  · have hB0 := fB_self (zn := znJ) (K := fKc []) h0
    exact fcutJ (I := I) (j := jc_M_left_2e19e_4) (lv' := [(0, .inr (.inr (some 740))), (1, .inl _), (2, .inl _)]) (And.intro rfl (And.intro rfl (And.intro rfl True.intro))) ⟨_, _, rfl, rfl, by omega, rfl⟩ (by omega)
abbrev jc_M_ones_0fd6a_4 : Nat → fL → List fV → fH → Prop := fun m lv st I => ∃ (y0 : Int) (y1 : Int) (y2 : Int), lv = [(0, .inl y0), (1, .inl y1), (2, .inl y2)] ∧ st = [] ∧ ((((-2147483648) ≤ y0 ∧ y0 ≤ 2147483647) ∧ ((-2147483648) ≤ y1 ∧ y1 ≤ 2147483647) ∧ (0 ≤ y2 ∧ y2 ≤ 12))) ∧ m = (1 + 1 * (12 - y2) : Int).toNat
set_option maxRecDepth 8000 in
theorem ct_M_ones_0fd6a {I : fH} {x0 : Int} (h0 : fB bsJ I) (ha0 : ((-2147483648) ≤ x0 ∧ x0 ≤ 2147483647)) : fC ρ base n F xTc vwCl xTys D dA la gJ (fbz bsJ znJ (fKc []) I) xm_450 [.inl x0] I (fun _ r => ∃ z, r = some (.inl z) ∧ ((-2147483648) ≤ z ∧ z ≤ 2147483647)) := by
  have hW : fzs [] (fKc []) := fKc_ok _
  refine f_meth (rb := rbJ) (J := [(4, jc_M_ones_0fd6a_4)]) 14 400 xG xin_450 x6_450 okJ (fB_self h0) ?_ ?_
  · refine List.forall_mem_cons.mpr ⟨?_, fun q h => absurd h List.not_mem_nil⟩
    · rintro m _ _ I1 hB1 ⟨y0, y1, y2, rfl, rfl, hb, hm⟩
      refine And.intro (by omega) (And.intro ?_ ?_)
      · intro c1
        refine And.intro (True.intro) ?_
        exact ⟨_, rfl, by omega⟩
      · intro c2
        intro z3 hz3 ez3
        intro z4 hz4 ez4 bz4
        intro z5 hz5 ez5 bz5
        exact fcutJ (I := I1) (j := jc_M_ones_0fd6a_4) (lv' := [(0, .inl _), (1, .inl _), (2, .inl _)]) (And.intro rfl (And.intro rfl (And.intro rfl True.intro))) ⟨_, _, _, rfl, rfl, by omega, rfl⟩ (by omega)
  · have hB0 := fB_self (zn := znJ) (K := fKc []) h0
    exact fcutJ (I := I) (j := jc_M_ones_0fd6a_4) (lv' := [(0, .inl _), (1, .inl _), (2, .inl _)]) (And.intro rfl (And.intro rfl (And.intro rfl True.intro))) ⟨_, _, _, rfl, rfl, by omega, rfl⟩ (by omega)
set_option maxRecDepth 8000 in
theorem ct_M_tested_bcdc3 {I : fH} {x1 : Int} {x2 : Int} (h0 : fB bsJ I) (ha1 : ((-2147483648) ≤ x1 ∧ x1 ≤ 2147483647)) (ha2 : ((-2147483648) ≤ x2 ∧ x2 ≤ 2147483647)) : fC ρ base n F xTc vwCl xTys D dA la gJ (fbz bsJ znJ (fKc wz_1ea73) I) xm_448 [.inr (.inr (some 740)), .inl x1, .inl x2] I (fun _ r => ∃ z, r = some (.inl z) ∧ ((-2147483648) ≤ z ∧ z ≤ 2147483647)) := by
  have hW : fzs wz_1ea73 (fKc wz_1ea73) := fKc_ok _
  refine f_meth (rb := rbJ) (J := []) 1 400 xG xin_448 x6_448 okJ (fB_self h0) ?_ ?_
  · exact fun q h => absurd h List.not_mem_nil
  · have hB0 := fB_self (zn := znJ) (K := fKc wz_1ea73) h0
    refine Exists.intro xm_446 (And.intro mi_446 (And.intro ⟨rfl, rfl, rfl, rfl⟩ (And.intro True.intro ?_)))
    refine fcallp hB0 (ct_M_isTest_9b7ec (fBz h0 hB0) (by omega)) ?_
    rintro _ ⟨z1, rfl, hz1⟩
    refine And.intro (by omega) (And.intro ?_ ?_)
    · intro c2
      refine And.intro (True.intro) ?_
      exact ⟨_, rfl, by omega⟩
    · intro c3
      refine And.intro (by omega) ?_
      refine Exists.intro xm_238 (And.intro mi_238 (And.intro ⟨rfl, rfl, rfl, rfl⟩ (And.intro True.intro ?_)))
      refine fcallp hB0 (ct_M_isIn_27230 (fBz h0 hB0) (by omega) (by omega) (by omega)) ?_
      rintro _ ⟨z4, rfl, hz4⟩
      refine And.intro (by omega) (And.intro ?_ ?_)
      · intro c5
        refine And.intro ⟨rfl, by decide, by decide⟩ ?_
        refine fstore rS_741_741_4500_4507_1_0 (fzs_sub (by decide +kernel) hW) (by omega) (by omega) ?_
        intro IhB6 ehB6 hB6
        have t7 := fup_self ehB6
        refine Exists.intro xm_449 (And.intro mi_449 (And.intro ⟨rfl, rfl, rfl, rfl⟩ (And.intro rfl ?_)))
        refine fcallp hB6 (ct_M_left_2e19e (fBz h0 hB6)) ?_
        rintro _ ⟨z8, rfl, hz8⟩
        refine Exists.intro xm_450 (And.intro mi_450 (And.intro ⟨rfl, rfl, rfl, rfl⟩ (And.intro True.intro ?_)))
        refine fcallp hB6 (ct_M_ones_0fd6a (fBz h0 hB6) (by omega)) ?_
        rintro _ ⟨z9, rfl, hz9⟩
        refine And.intro (True.intro) ?_
        exact ⟨_, rfl, by omega⟩
      · intro c10
        refine And.intro (True.intro) ?_
        exact ⟨_, rfl, by omega⟩
abbrev jc_Desk_mostAlike_488ee_5 : Nat → fL → List fV → fH → Prop := fun m lv st I => ∃ (y1 : Int) (y2 : Int) (y3 : Int) (y4 : Int), lv = [(0, .inr (.inr (some 211))), (1, .inl y1), (2, .inl y2), (3, .inl y3), (4, .inl y4)] ∧ st = [] ∧ (((0 ≤ y1 ∧ y1 ≤ 7) ∧ ((-2147483648) ≤ y2 ∧ y2 ≤ 2147483647) ∧ (0 ≤ y3 ∧ y3 ≤ 2147483647) ∧ (0 ≤ y4 ∧ y4 ≤ 4))) ∧ m = (14 + 14 * (4 - y4) : Int).toNat
abbrev jc_Desk_mostAlike_488ee_17 : Nat → fL → List fV → fH → Prop := fun m lv st I => ∃ (y1 : Int) (y2 : Int) (y3 : Int) (y4 : Int) (y5 : Int) (y6 : Int), lv = [(0, .inr (.inr (some 211))), (1, .inl y1), (2, .inl y2), (3, .inl y3), (4, .inl y4), (5, .inl y5), (6, .inl y6)] ∧ st = [] ∧ (((0 ≤ y1 ∧ y1 ≤ 7) ∧ ((-2147483648) ≤ y2 ∧ y2 ≤ 2147483647) ∧ (0 ≤ y3 ∧ y3 ≤ 2147483647) ∧ (0 ≤ y4 ∧ y4 ≤ 3) ∧ ((-2147483648) ≤ y5 ∧ y5 ≤ 2147483647) ∧ (0 ≤ y6 ∧ y6 ≤ 12))) ∧ m = (1 + 14 * (4 - y4) + 1 * (12 - y6) : Int).toNat
set_option maxRecDepth 8000 in
theorem ct_Desk_mostAlike_488ee {I : fH} {x1 : Int} {x2 : Int} (h0 : fB bsJ I) (ha1 : (0 ≤ x1 ∧ x1 ≤ 7)) (ha2 : ((-2147483648) ≤ x2 ∧ x2 ≤ 2147483647)) : fC ρ base n F xTc vwCl xTys D dA la gJ (fbz bsJ znJ (fKc []) I) xm_175 [.inr (.inr (some 211)), .inl x1, .inl x2] I (fun _ r => ∃ z, r = some (.inl z) ∧ (0 ≤ z ∧ z ≤ 2147483647)) := by
  have hW : fzs [] (fKc []) := fKc_ok _
  refine f_meth (rb := rbJ) (J := [(5, jc_Desk_mostAlike_488ee_5), (17, jc_Desk_mostAlike_488ee_17)]) 71 400 xG xin_175 x6_175 okJ (fB_self h0) ?_ ?_
  · refine List.forall_mem_cons.mpr ⟨?_, List.forall_mem_cons.mpr ⟨?_, fun q h => absurd h List.not_mem_nil⟩⟩
    · rintro m _ _ I1 hB1 ⟨y1, y2, y3, y4, rfl, rfl, hb, hm⟩
      refine And.intro (by omega) (And.intro ?_ ?_)
      · intro c1
        refine And.intro (True.intro) ?_
        exact ⟨_, rfl, by omega⟩
      · intro c2
        exact fcutJ (I := I1) (j := jc_Desk_mostAlike_488ee_17) (lv' := [(0, .inr (.inr (some 211))), (1, .inl _), (2, .inl _), (3, .inl _), (4, .inl _), (5, .inl _), (6, .inl _)]) (And.intro rfl (And.intro rfl (And.intro rfl (And.intro rfl (And.intro rfl (And.intro rfl (And.intro rfl True.intro))))))) ⟨_, _, _, _, _, _, rfl, rfl, by omega, rfl⟩ (by omega)
    · rintro m _ _ I1 hB1 ⟨y1, y2, y3, y4, y5, y6, rfl, rfl, hb, hm⟩
      refine And.intro (by omega) (And.intro ?_ ?_)
      · intro c3
        refine And.intro (And.intro (by omega) (And.intro (by omega) rfl)) ?_
        intro z4 hz4
        exact fcutJ (I := I1) (j := jc_Desk_mostAlike_488ee_5) (lv' := [(0, .inr (.inr (some 211))), (1, .inl _), (2, .inl _), (3, .inl _), (4, .inl _)]) (And.intro rfl (And.intro rfl (And.intro rfl (And.intro rfl (And.intro rfl True.intro))))) ⟨_, _, _, _, rfl, rfl, by omega, rfl⟩ (by omega)
      · intro c5
        intro z6 hz6 ez6
        intro z7 hz7 ez7 bz7
        refine And.intro (by omega) (And.intro ?_ ?_)
        · intro c8
          exact fcutJ (I := I1) (j := jc_Desk_mostAlike_488ee_17) (lv' := [(0, .inr (.inr (some 211))), (1, .inl _), (2, .inl _), (3, .inl _), (4, .inl _), (5, .inl _), (6, .inl _)]) (And.intro rfl (And.intro rfl (And.intro rfl (And.intro rfl (And.intro rfl (And.intro rfl (And.intro rfl True.intro))))))) ⟨_, _, _, _, _, _, rfl, rfl, by omega, rfl⟩ (by omega)
        · intro c9
          refine And.intro ⟨rfl, by decide, by decide⟩ ?_
          refine And.intro ⟨rfl, by decide⟩ (And.intro (by omega) ?_)
          refine fload rL_213_220_0_11_1_0 h0 hB1 (by omega) ?_
          intro z10 lz10 uz10 qz10
          refine And.intro (by omega) (And.intro ?_ ?_)
          · intro c11
            exact fcutJ (I := I1) (j := jc_Desk_mostAlike_488ee_17) (lv' := [(0, .inr (.inr (some 211))), (1, .inl _), (2, .inl _), (3, .inl _), (4, .inl _), (5, .inl _), (6, .inl _)]) (And.intro rfl (And.intro rfl (And.intro rfl (And.intro rfl (And.intro rfl (And.intro rfl (And.intro rfl True.intro))))))) ⟨_, _, _, _, _, _, rfl, rfl, by omega, rfl⟩ (by omega)
          · intro c12
            intro z13 hz13 bz13
            exact fcutJ (I := I1) (j := jc_Desk_mostAlike_488ee_17) (lv' := [(0, .inr (.inr (some 211))), (1, .inl _), (2, .inl _), (3, .inl _), (4, .inl _), (5, .inl _), (6, .inl _)]) (And.intro rfl (And.intro rfl (And.intro rfl (And.intro rfl (And.intro rfl (And.intro rfl (And.intro rfl True.intro))))))) ⟨_, _, _, _, _, _, rfl, rfl, by omega, rfl⟩ (by omega)
  · have hB0 := fB_self (zn := znJ) (K := fKc []) h0
    exact fcutJ (I := I) (j := jc_Desk_mostAlike_488ee_5) (lv' := [(0, .inr (.inr (some 211))), (1, .inl _), (2, .inl _), (3, .inl _), (4, .inl _)]) (And.intro rfl (And.intro rfl (And.intro rfl (And.intro rfl (And.intro rfl True.intro))))) ⟨_, _, _, _, rfl, rfl, by omega, rfl⟩ (by omega)
abbrev jc_Desk_nextTest_2c9a4_16 : Nat → fL → List fV → fH → Prop := fun m lv st I => ∃ (y1 : Int) (y2 : Int) (y3 : Int) (y4 : Int), lv = [(0, .inr (.inr (some 211))), (1, .inl y1), (2, .inl y2), (3, .inl y3), (4, .inl y4)] ∧ st = [] ∧ ((((-2147483648) ≤ y1 ∧ y1 ≤ 2147483647) ∧ ((0 ≤ y2 ∧ y2 ≤ 7) ∨ y2 = (-1000000005)) ∧ (0 ≤ y3 ∧ y3 ≤ 63) ∧ (0 ≤ y4 ∧ y4 ≤ 8))) ∧ m = (1 + 1 * (8 - y4) : Int).toNat
set_option maxRecDepth 8000 in
theorem ct_Desk_nextTest_2c9a4 {I : fH}  (h0 : fB bsJ I)  : fC ρ base n F xTc vwCl xTys D dA la gJ (fbz bsJ znJ (fKc []) I) xm_174 [.inr (.inr (some 211))] I (fun _ r => ∃ z, r = some (.inl z) ∧ ((0 ≤ z ∧ z ≤ 7) ∨ z = (-1000000005))) := by
  have hW : fzs [] (fKc []) := fKc_ok _
  refine f_meth (rb := rbJ) (J := [(16, jc_Desk_nextTest_2c9a4_16)]) 10 400 xG xin_174 x6_174 okJ (fB_self h0) ?_ ?_
  · refine List.forall_mem_cons.mpr ⟨?_, fun q h => absurd h List.not_mem_nil⟩
    · rintro m _ _ I1 hB1 ⟨y1, y2, y3, y4, rfl, rfl, hb, hm⟩
      refine And.intro (by omega) (And.intro ?_ ?_)
      · intro c1
        refine And.intro (True.intro) ?_
        exact ⟨_, rfl, by omega⟩
      · intro c2
        refine And.intro ⟨rfl, by decide, by decide⟩ ?_
        refine fload rL_221_221_0_7_1_0 h0 hB1 (by omega) ?_
        intro z3 lz3 uz3 qz3
        refine And.intro (by omega) (And.intro ?_ ?_)
        · intro c4
          refine And.intro (by omega) (And.intro ?_ ?_)
          · intro c5
            exact fcutJ (I := I1) (j := jc_Desk_nextTest_2c9a4_16) (lv' := [(0, .inr (.inr (some 211))), (1, .inl _), (2, .inl _), (3, .inl _), (4, .inl _)]) (And.intro rfl (And.intro rfl (And.intro rfl (And.intro rfl (And.intro rfl True.intro))))) ⟨_, _, _, _, rfl, rfl, by omega, rfl⟩ (by omega)
          · intro c6
            exact fcutJ (I := I1) (j := jc_Desk_nextTest_2c9a4_16) (lv' := [(0, .inr (.inr (some 211))), (1, .inl _), (2, .inl _), (3, .inl _), (4, .inl _)]) (And.intro rfl (And.intro rfl (And.intro rfl (And.intro rfl (And.intro rfl True.intro))))) ⟨_, _, _, _, rfl, rfl, by omega, rfl⟩ (by omega)
        · intro c7
          refine Exists.intro xm_175 (And.intro mi_175 (And.intro ⟨rfl, rfl, rfl, rfl⟩ (And.intro rfl ?_)))
          refine fcallp hB1 (ct_Desk_mostAlike_488ee (fBz h0 hB1) (by omega) (by omega)) ?_
          rintro _ ⟨z8, rfl, hz8⟩
          refine And.intro (by omega) (And.intro ?_ ?_)
          · intro c9
            exact fcutJ (I := I1) (j := jc_Desk_nextTest_2c9a4_16) (lv' := [(0, .inr (.inr (some 211))), (1, .inl _), (2, .inl _), (3, .inl _), (4, .inl _)]) (And.intro rfl (And.intro rfl (And.intro rfl (And.intro rfl (And.intro rfl True.intro))))) ⟨_, _, _, _, rfl, rfl, by omega, rfl⟩ (by omega)
          · intro c10
            exact fcutJ (I := I1) (j := jc_Desk_nextTest_2c9a4_16) (lv' := [(0, .inr (.inr (some 211))), (1, .inl _), (2, .inl _), (3, .inl _), (4, .inl _)]) (And.intro rfl (And.intro rfl (And.intro rfl (And.intro rfl (And.intro rfl True.intro))))) ⟨_, _, _, _, rfl, rfl, by omega, rfl⟩ (by omega)
  · have hB0 := fB_self (zn := znJ) (K := fKc []) h0
    refine Exists.intro xm_171 (And.intro mi_171 (And.intro ⟨rfl, rfl, rfl, rfl⟩ (And.intro rfl ?_)))
    refine fcallp hB0 (ct_Desk_leftFaults_e8455 (fBz h0 hB0)) ?_
    rintro _ ⟨z11, rfl, hz11⟩
    refine Exists.intro xm_499 (And.intro mi_499 (And.intro ⟨rfl, rfl, rfl, rfl⟩ (And.intro True.intro ?_)))
    refine fcallp hB0 (ct_Integer_bitCount_ccf26 (fBz h0 hB0) (by omega)) ?_
    rintro _ ⟨z12, rfl, hz12⟩
    exact fcutJ (I := I) (j := jc_Desk_nextTest_2c9a4_16) (lv' := [(0, .inr (.inr (some 211))), (1, .inl _), (2, .inl _), (3, .inl _), (4, .inl _)]) (And.intro rfl (And.intro rfl (And.intro rfl (And.intro rfl (And.intro rfl True.intro))))) ⟨_, _, _, _, rfl, rfl, by omega, rfl⟩ (by omega)
set_option maxRecDepth 8000 in
theorem ct_X_find_eec3a {I : fH} {x1 : Int} (h0 : fB bsJ I) (ha1 : ((-2147483648) ≤ x1 ∧ x1 ≤ 2147483647)) : fC ρ base n F xTc vwCl xTys D dA la gJ (fbz bsJ znJ (fKc []) I) xm_173 [.inr (.inr (some 0)), .inl x1] I (fun _ r => ∃ z, r = some (.inl z) ∧ ((-2147483648) ≤ z ∧ z ≤ 2147483647)) := by
  have hW : fzs [] (fKc []) := fKc_ok _
  refine f_meth (rb := rbJ) (J := []) 1 400 xG xin_173 x6_173 okJ (fB_self h0) ?_ ?_
  · exact fun q h => absurd h List.not_mem_nil
  · have hB0 := fB_self (zn := znJ) (K := fKc []) h0
    refine Exists.intro xm_13 (And.intro mi_13 (And.intro ⟨rfl, rfl, rfl, rfl⟩ (And.intro True.intro ?_)))
    refine fcallp hB0 (ct_X_within_c27b1 (fBz h0 hB0) (by omega) (by omega) (by omega)) ?_
    rintro _ ⟨z1, rfl, hz1⟩
    refine And.intro (by omega) (And.intro ?_ ?_)
    · intro c2
      refine And.intro (by omega) (And.intro ?_ ?_)
      · intro c3
        refine And.intro ⟨rfl, by decide, by decide⟩ ?_
        refine Exists.intro xm_174 (And.intro mi_174 (And.intro ⟨rfl, rfl, rfl, rfl⟩ (And.intro rfl ?_)))
        refine fcallp hB0 (ct_Desk_nextTest_2c9a4 (fBz h0 hB0)) ?_
        rintro _ ⟨z4, rfl, hz4⟩
        refine And.intro (True.intro) ?_
        exact ⟨_, rfl, by omega⟩
      · intro c5
        refine And.intro ⟨rfl, by decide, by decide⟩ ?_
        refine Exists.intro xm_171 (And.intro mi_171 (And.intro ⟨rfl, rfl, rfl, rfl⟩ (And.intro rfl ?_)))
        refine fcallp hB0 (ct_Desk_leftFaults_e8455 (fBz h0 hB0)) ?_
        rintro _ ⟨z6, rfl, hz6⟩
        refine And.intro (True.intro) ?_
        exact ⟨_, rfl, by omega⟩
    · intro c7
      refine And.intro (True.intro) ?_
      exact ⟨_, rfl, by omega⟩
abbrev jc_M_alike_aaf39_5 : Nat → fL → List fV → fH → Prop := fun m lv st I => ∃ (y1 : Int) (y2 : Int) (y3 : Int) (y4 : Int), lv = [(0, .inr (.inr (some 740))), (1, .inl y1), (2, .inl y2), (3, .inl y3), (4, .inl y4)] ∧ st = [] ∧ (((0 ≤ y1 ∧ y1 ≤ 7) ∧ ((-2147483648) ≤ y2 ∧ y2 ≤ 2147483647) ∧ (0 ≤ y3 ∧ y3 ≤ 2147483647) ∧ (0 ≤ y4 ∧ y4 ≤ 4))) ∧ m = (14 + 14 * (4 - y4) : Int).toNat
abbrev jc_M_alike_aaf39_17 : Nat → fL → List fV → fH → Prop := fun m lv st I => ∃ (y1 : Int) (y2 : Int) (y3 : Int) (y4 : Int) (y5 : Int) (y6 : Int), lv = [(0, .inr (.inr (some 740))), (1, .inl y1), (2, .inl y2), (3, .inl y3), (4, .inl y4), (5, .inl y5), (6, .inl y6)] ∧ st = [] ∧ (((0 ≤ y1 ∧ y1 ≤ 7) ∧ ((-2147483648) ≤ y2 ∧ y2 ≤ 2147483647) ∧ (0 ≤ y3 ∧ y3 ≤ 2147483647) ∧ (0 ≤ y4 ∧ y4 ≤ 3) ∧ ((-2147483648) ≤ y5 ∧ y5 ≤ 2147483647) ∧ (0 ≤ y6 ∧ y6 ≤ 12))) ∧ m = (1 + 14 * (4 - y4) + 1 * (12 - y6) : Int).toNat
set_option maxRecDepth 8000 in
theorem ct_M_alike_aaf39 {I : fH} {x1 : Int} {x2 : Int} (h0 : fB bsJ I) (ha1 : (0 ≤ x1 ∧ x1 ≤ 7)) (ha2 : ((-2147483648) ≤ x2 ∧ x2 ≤ 2147483647)) : fC ρ base n F xTc vwCl xTys D dA la gJ (fbz bsJ znJ (fKc []) I) xm_452 [.inr (.inr (some 740)), .inl x1, .inl x2] I (fun _ r => ∃ z, r = some (.inl z) ∧ (0 ≤ z ∧ z ≤ 2147483647)) := by
  have hW : fzs [] (fKc []) := fKc_ok _
  refine f_meth (rb := rbJ) (J := [(5, jc_M_alike_aaf39_5), (17, jc_M_alike_aaf39_17)]) 71 400 xG xin_452 x6_452 okJ (fB_self h0) ?_ ?_
  · refine List.forall_mem_cons.mpr ⟨?_, List.forall_mem_cons.mpr ⟨?_, fun q h => absurd h List.not_mem_nil⟩⟩
    · rintro m _ _ I1 hB1 ⟨y1, y2, y3, y4, rfl, rfl, hb, hm⟩
      refine And.intro (by omega) (And.intro ?_ ?_)
      · intro c1
        refine And.intro (True.intro) ?_
        exact ⟨_, rfl, by omega⟩
      · intro c2
        exact fcutJ (I := I1) (j := jc_M_alike_aaf39_17) (lv' := [(0, .inr (.inr (some 740))), (1, .inl _), (2, .inl _), (3, .inl _), (4, .inl _), (5, .inl _), (6, .inl _)]) (And.intro rfl (And.intro rfl (And.intro rfl (And.intro rfl (And.intro rfl (And.intro rfl (And.intro rfl True.intro))))))) ⟨_, _, _, _, _, _, rfl, rfl, by omega, rfl⟩ (by omega)
    · rintro m _ _ I1 hB1 ⟨y1, y2, y3, y4, y5, y6, rfl, rfl, hb, hm⟩
      refine And.intro (by omega) (And.intro ?_ ?_)
      · intro c3
        refine And.intro (by omega) (And.intro ?_ ?_)
        · intro c4
          exact fcutJ (I := I1) (j := jc_M_alike_aaf39_5) (lv' := [(0, .inr (.inr (some 740))), (1, .inl _), (2, .inl _), (3, .inl _), (4, .inl _)]) (And.intro rfl (And.intro rfl (And.intro rfl (And.intro rfl (And.intro rfl True.intro))))) ⟨_, _, _, _, rfl, rfl, by omega, rfl⟩ (by omega)
        · intro c5
          exact fcutJ (I := I1) (j := jc_M_alike_aaf39_5) (lv' := [(0, .inr (.inr (some 740))), (1, .inl _), (2, .inl _), (3, .inl _), (4, .inl _)]) (And.intro rfl (And.intro rfl (And.intro rfl (And.intro rfl (And.intro rfl True.intro))))) ⟨_, _, _, _, rfl, rfl, by omega, rfl⟩ (by omega)
      · intro c6
        intro z7 hz7 ez7
        intro z8 hz8 ez8 bz8
        refine And.intro (by omega) (And.intro ?_ ?_)
        · intro c9
          intro z10 hz10 ez10 bz10
          exact fcutJ (I := I1) (j := jc_M_alike_aaf39_17) (lv' := [(0, .inr (.inr (some 740))), (1, .inl _), (2, .inl _), (3, .inl _), (4, .inl _), (5, .inl _), (6, .inl _)]) (And.intro rfl (And.intro rfl (And.intro rfl (And.intro rfl (And.intro rfl (And.intro rfl (And.intro rfl True.intro))))))) ⟨_, _, _, _, _, _, rfl, rfl, by omega, rfl⟩ (by omega)
        · intro c11
          refine And.intro ⟨rfl, by decide, by decide⟩ ?_
          refine fload rL_741_741_4400_4495_12_11 h0 hB1 (by omega) ?_
          intro z12 lz12 uz12 qz12
          refine And.intro (by omega) (And.intro ?_ ?_)
          · intro c13
            intro z14 hz14 ez14 bz14
            exact fcutJ (I := I1) (j := jc_M_alike_aaf39_17) (lv' := [(0, .inr (.inr (some 740))), (1, .inl _), (2, .inl _), (3, .inl _), (4, .inl _), (5, .inl _), (6, .inl _)]) (And.intro rfl (And.intro rfl (And.intro rfl (And.intro rfl (And.intro rfl (And.intro rfl (And.intro rfl True.intro))))))) ⟨_, _, _, _, _, _, rfl, rfl, by omega, rfl⟩ (by omega)
          · intro c15
            intro z16 hz16 ez16 bz16
            exact fcutJ (I := I1) (j := jc_M_alike_aaf39_17) (lv' := [(0, .inr (.inr (some 740))), (1, .inl _), (2, .inl _), (3, .inl _), (4, .inl _), (5, .inl _), (6, .inl _)]) (And.intro rfl (And.intro rfl (And.intro rfl (And.intro rfl (And.intro rfl (And.intro rfl (And.intro rfl True.intro))))))) ⟨_, _, _, _, _, _, rfl, rfl, by omega, rfl⟩ (by omega)
  · have hB0 := fB_self (zn := znJ) (K := fKc []) h0
    exact fcutJ (I := I) (j := jc_M_alike_aaf39_5) (lv' := [(0, .inr (.inr (some 740))), (1, .inl _), (2, .inl _), (3, .inl _), (4, .inl _)]) (And.intro rfl (And.intro rfl (And.intro rfl (And.intro rfl (And.intro rfl True.intro))))) ⟨_, _, _, _, rfl, rfl, by omega, rfl⟩ (by omega)
abbrev jc_M_find_48382_36 : Nat → fL → List fV → fH → Prop := fun m lv st I => ∃ (y2 : Int) (y3 : Int) (y4 : Int) (y5 : Int), lv = [(0, .inr (.inr (some 740))), (2, .inl y2), (3, .inl y3), (4, .inl y4), (5, .inl y5)] ∧ st = [] ∧ ((((-2147483648) ≤ y2 ∧ y2 ≤ 2147483647) ∧ ((0 ≤ y3 ∧ y3 ≤ 7) ∨ y3 = (-1000000005)) ∧ ((-2147483648) ≤ y4 ∧ y4 ≤ 2147483647) ∧ (0 ≤ y5 ∧ y5 ≤ 8))) ∧ m = (1 + 1 * (8 - y5) : Int).toNat
set_option maxRecDepth 8000 in
theorem ct_M_find_48382 {I : fH} {x1 : Int} (h0 : fB bsJ I) (ha1 : ((-2147483648) ≤ x1 ∧ x1 ≤ 2147483647)) : fC ρ base n F xTc vwCl xTys D dA la gJ (fbz bsJ znJ (fKc []) I) xm_451 [.inr (.inr (some 740)), .inl x1] I (fun _ r => ∃ z, r = some (.inl z) ∧ ((-2147483648) ≤ z ∧ z ≤ 2147483647)) := by
  have hW : fzs [] (fKc []) := fKc_ok _
  refine f_meth (rb := rbJ) (J := [(36, jc_M_find_48382_36)]) 10 400 xG xin_451 x6_451 okJ (fB_self h0) ?_ ?_
  · refine List.forall_mem_cons.mpr ⟨?_, fun q h => absurd h List.not_mem_nil⟩
    · rintro m _ _ I1 hB1 ⟨y2, y3, y4, y5, rfl, rfl, hb, hm⟩
      refine And.intro (by omega) (And.intro ?_ ?_)
      · intro c1
        refine And.intro (True.intro) ?_
        exact ⟨_, rfl, by omega⟩
      · intro c2
        refine And.intro ⟨rfl, by decide, by decide⟩ ?_
        refine fload rL_741_741_4500_4507_1_0 h0 hB1 (by omega) ?_
        intro z3 lz3 uz3 qz3
        refine And.intro (by omega) (And.intro ?_ ?_)
        · intro c4
          exact fcutJ (I := I1) (j := jc_M_find_48382_36) (lv' := [(0, .inr (.inr (some 740))), (2, .inl _), (3, .inl _), (4, .inl _), (5, .inl _)]) (And.intro rfl (And.intro rfl (And.intro rfl (And.intro rfl (And.intro rfl True.intro))))) ⟨_, _, _, _, rfl, rfl, by omega, rfl⟩ (by omega)
        · intro c5
          refine Exists.intro xm_452 (And.intro mi_452 (And.intro ⟨rfl, rfl, rfl, rfl⟩ (And.intro rfl ?_)))
          refine fcallp hB1 (ct_M_alike_aaf39 (fBz h0 hB1) (by omega) (by omega)) ?_
          rintro _ ⟨z6, rfl, hz6⟩
          refine And.intro (by omega) (And.intro ?_ ?_)
          · intro c7
            exact fcutJ (I := I1) (j := jc_M_find_48382_36) (lv' := [(0, .inr (.inr (some 740))), (2, .inl _), (3, .inl _), (4, .inl _), (5, .inl _)]) (And.intro rfl (And.intro rfl (And.intro rfl (And.intro rfl (And.intro rfl True.intro))))) ⟨_, _, _, _, rfl, rfl, by omega, rfl⟩ (by omega)
          · intro c8
            refine Exists.intro xm_452 (And.intro mi_452 (And.intro ⟨rfl, rfl, rfl, rfl⟩ (And.intro rfl ?_)))
            refine fcallp hB1 (ct_M_alike_aaf39 (fBz h0 hB1) (by omega) (by omega)) ?_
            rintro _ ⟨z9, rfl, hz9⟩
            exact fcutJ (I := I1) (j := jc_M_find_48382_36) (lv' := [(0, .inr (.inr (some 740))), (2, .inl _), (3, .inl _), (4, .inl _), (5, .inl _)]) (And.intro rfl (And.intro rfl (And.intro rfl (And.intro rfl (And.intro rfl True.intro))))) ⟨_, _, _, _, rfl, rfl, by omega, rfl⟩ (by omega)
  · have hB0 := fB_self (zn := znJ) (K := fKc []) h0
    refine And.intro (by omega) ?_
    refine Exists.intro xm_238 (And.intro mi_238 (And.intro ⟨rfl, rfl, rfl, rfl⟩ (And.intro True.intro ?_)))
    refine fcallp hB0 (ct_M_isIn_27230 (fBz h0 hB0) (by omega) (by omega) (by omega)) ?_
    rintro _ ⟨z10, rfl, hz10⟩
    refine And.intro (by omega) (And.intro ?_ ?_)
    · intro c11
      refine Exists.intro xm_449 (And.intro mi_449 (And.intro ⟨rfl, rfl, rfl, rfl⟩ (And.intro rfl ?_)))
      refine fcallp hB0 (ct_M_left_2e19e (fBz h0 hB0)) ?_
      rintro _ ⟨z12, rfl, hz12⟩
      refine And.intro (by omega) (And.intro ?_ ?_)
      · intro c13
        refine Exists.intro xm_450 (And.intro mi_450 (And.intro ⟨rfl, rfl, rfl, rfl⟩ (And.intro True.intro ?_)))
        refine fcallp hB0 (ct_M_ones_0fd6a (fBz h0 hB0) (by omega)) ?_
        rintro _ ⟨z14, rfl, hz14⟩
        exact fcutJ (I := I) (j := jc_M_find_48382_36) (lv' := [(0, .inr (.inr (some 740))), (2, .inl _), (3, .inl _), (4, .inl _), (5, .inl _)]) (And.intro rfl (And.intro rfl (And.intro rfl (And.intro rfl (And.intro rfl True.intro))))) ⟨_, _, _, _, rfl, rfl, by omega, rfl⟩ (by omega)
      · intro c15
        refine And.intro (True.intro) ?_
        exact ⟨_, rfl, by omega⟩
    · intro c16
      refine And.intro (True.intro) ?_
      exact ⟨_, rfl, by omega⟩
set_option maxRecDepth 8000 in
theorem ct_X_swap_821b4 {I : fH} {x1 : Int} {x2 : Int} (h0 : fB bsJ I) (ha1 : (0 ≤ x1 ∧ x1 ≤ 47)) (ha2 : (0 ≤ x2 ∧ x2 ≤ 999)) : fC ρ base n F xTc vwCl xTys D dA la gJ (fbz bsJ znJ (fKc wz_0e223) I) xm_18 [.inr (.inr (some 222)), .inl x1, .inl x2] I (fun _ r => ∃ z, r = some (.inl z) ∧ ((-2147483648) ≤ z ∧ z ≤ 2147483647)) := by
  have hW : fzs wz_0e223 (fKc wz_0e223) := fKc_ok _
  refine f_meth (rb := rbJ) (J := []) 1 400 xG xin_18 x6_18 okJ (fB_self h0) ?_ ?_
  · exact fun q h => absurd h List.not_mem_nil
  · have hB0 := fB_self (zn := znJ) (K := fKc wz_0e223) h0
    refine fload rL_222_222_0_47_1_0 h0 hB0 (by omega) ?_
    intro z1 lz1 uz1 qz1
    refine fstore rS_222_222_0_47_1_0 (fzs_sub (by decide +kernel) hW) (by omega) (by omega) ?_
    intro IhB2 ehB2 hB2
    have t3 := fup_self ehB2
    refine And.intro (True.intro) ?_
    exact ⟨_, rfl, by omega⟩
set_option maxRecDepth 8000 in
theorem ct_X_weather_d5811 {I : fH} {x1 : Int} {x2 : Int} (h0 : fB bsJ I) (ha1 : ((-2147483648) ≤ x1 ∧ x1 ≤ 2147483647)) (ha2 : ((-2147483648) ≤ x2 ∧ x2 ≤ 2147483647)) : fC ρ base n F xTc vwCl xTys D dA la gJ (fbz bsJ znJ (fKc wz_0e223) I) xm_176 [.inr (.inr (some 0)), .inl x1, .inl x2] I (fun _ r => ∃ z, r = some (.inl z) ∧ ((-2147483648) ≤ z ∧ z ≤ 2147483647)) := by
  have hW : fzs wz_0e223 (fKc wz_0e223) := fKc_ok _
  refine f_meth (rb := rbJ) (J := []) 1 400 xG xin_176 x6_176 okJ (fB_self h0) ?_ ?_
  · exact fun q h => absurd h List.not_mem_nil
  · have hB0 := fB_self (zn := znJ) (K := fKc wz_0e223) h0
    refine Exists.intro xm_13 (And.intro mi_13 (And.intro ⟨rfl, rfl, rfl, rfl⟩ (And.intro True.intro ?_)))
    refine fcallp hB0 (ct_X_within_c27b1 (fBz h0 hB0) (by omega) (by omega) (by omega)) ?_
    rintro _ ⟨z1, rfl, hz1⟩
    refine And.intro (by omega) (And.intro ?_ ?_)
    · intro c2
      refine And.intro (True.intro) ?_
      exact ⟨_, rfl, by omega⟩
    · intro c3
      refine Exists.intro xm_13 (And.intro mi_13 (And.intro ⟨rfl, rfl, rfl, rfl⟩ (And.intro True.intro ?_)))
      refine fcallp hB0 (ct_X_within_c27b1 (fBz h0 hB0) (by omega) (by omega) (by omega)) ?_
      rintro _ ⟨z4, rfl, hz4⟩
      refine And.intro (by omega) (And.intro ?_ ?_)
      · intro c5
        refine And.intro (True.intro) ?_
        exact ⟨_, rfl, by omega⟩
      · intro c6
        refine And.intro ⟨rfl, by decide, by decide⟩ ?_
        refine And.intro ⟨rfl, by decide, by decide⟩ ?_
        refine Exists.intro xm_18 (And.intro mi_18 (And.intro ⟨rfl, rfl, rfl, rfl⟩ (And.intro True.intro ?_)))
        refine fcall _ h0 (fzs_sub (by decide +kernel) hW) hB0 (ct_X_swap_821b4 (fBz h0 hB0) (by omega) (by omega)) ?_
        rintro IhB8 _ hB8 fhB8 ⟨z7, rfl, hz7⟩
        refine And.intro (True.intro) ?_
        exact ⟨_, rfl, by omega⟩
set_option maxRecDepth 8000 in
theorem ct_M_put_6db37 {I : fH} {x1 : Int} {x2 : Int} (h0 : fB bsJ I) (ha1 : (4510 ≤ x1 ∧ x1 ≤ 4557)) (ha2 : (0 ≤ x2 ∧ x2 ≤ 999)) : fC ρ base n F xTc vwCl xTys D dA la gJ (fbz bsJ znJ (fKc wz_c7e2d) I) xm_242 [.inr (.inr (some 740)), .inl x1, .inl x2] I (fun _ r => ∃ z, r = some (.inl z) ∧ ((-2147483648) ≤ z ∧ z ≤ 2147483647)) := by
  have hW : fzs wz_c7e2d (fKc wz_c7e2d) := fKc_ok _
  refine f_meth (rb := rbJ) (J := []) 1 400 xG xin_242 x6_242 okJ (fB_self h0) ?_ ?_
  · exact fun q h => absurd h List.not_mem_nil
  · have hB0 := fB_self (zn := znJ) (K := fKc wz_c7e2d) h0
    refine And.intro ⟨rfl, by decide, by decide⟩ ?_
    refine fload rL_741_741_4510_4557_1_0 h0 hB0 (by omega) ?_
    intro z1 lz1 uz1 qz1
    refine And.intro ⟨rfl, by decide, by decide⟩ ?_
    refine fstore rS_741_741_4510_4557_1_0 (fzs_sub (by decide +kernel) hW) (by omega) (by omega) ?_
    intro IhB2 ehB2 hB2
    have t3 := fup_self ehB2
    refine And.intro (True.intro) ?_
    exact ⟨_, rfl, by omega⟩
set_option maxRecDepth 8000 in
theorem ct_M_weather_26102 {I : fH} {x1 : Int} {x2 : Int} (h0 : fB bsJ I) (ha1 : ((-2147483648) ≤ x1 ∧ x1 ≤ 2147483647)) (ha2 : ((-2147483648) ≤ x2 ∧ x2 ≤ 2147483647)) : fC ρ base n F xTc vwCl xTys D dA la gJ (fbz bsJ znJ (fKc wz_c7e2d) I) xm_453 [.inr (.inr (some 740)), .inl x1, .inl x2] I (fun _ r => ∃ z, r = some (.inl z) ∧ ((-2147483648) ≤ z ∧ z ≤ 2147483647)) := by
  have hW : fzs wz_c7e2d (fKc wz_c7e2d) := fKc_ok _
  refine f_meth (rb := rbJ) (J := []) 1 400 xG xin_453 x6_453 okJ (fB_self h0) ?_ ?_
  · exact fun q h => absurd h List.not_mem_nil
  · have hB0 := fB_self (zn := znJ) (K := fKc wz_c7e2d) h0
    refine And.intro (by omega) ?_
    refine Exists.intro xm_238 (And.intro mi_238 (And.intro ⟨rfl, rfl, rfl, rfl⟩ (And.intro True.intro ?_)))
    refine fcallp hB0 (ct_M_isIn_27230 (fBz h0 hB0) (by omega) (by omega) (by omega)) ?_
    rintro _ ⟨z1, rfl, hz1⟩
    refine And.intro (by omega) (And.intro ?_ ?_)
    · intro c2
      refine And.intro (True.intro) ?_
      exact ⟨_, rfl, by omega⟩
    · intro c3
      refine And.intro (by omega) ?_
      refine Exists.intro xm_238 (And.intro mi_238 (And.intro ⟨rfl, rfl, rfl, rfl⟩ (And.intro True.intro ?_)))
      refine fcallp hB0 (ct_M_isIn_27230 (fBz h0 hB0) (by omega) (by omega) (by omega)) ?_
      rintro _ ⟨z4, rfl, hz4⟩
      refine And.intro (by omega) (And.intro ?_ ?_)
      · intro c5
        refine And.intro (True.intro) ?_
        exact ⟨_, rfl, by omega⟩
      · intro c6
        refine Exists.intro xm_242 (And.intro mi_242 (And.intro ⟨rfl, rfl, rfl, rfl⟩ (And.intro rfl ?_)))
        refine fcall _ h0 (fzs_sub (by decide +kernel) hW) hB0 (ct_M_put_6db37 (fBz h0 hB0) (by omega) (by omega)) ?_
        rintro IhB8 _ hB8 fhB8 ⟨z7, rfl, hz7⟩
        refine And.intro (True.intro) ?_
        exact ⟨_, rfl, by omega⟩
abbrev jc_People_ableFitters_3cb68_4 : Nat → fL → List fV → fH → Prop := fun m lv st I => ∃ (y1 : Int) (y2 : Int), lv = [(0, .inr (.inr (some 177))), (1, .inl y1), (2, .inl y2)] ∧ st = [] ∧ ((((-2147483648) ≤ y1 ∧ y1 ≤ 2147483647) ∧ (0 ≤ y2 ∧ y2 ≤ 24))) ∧ m = (1 + 1 * (24 - y2) : Int).toNat
set_option maxRecDepth 8000 in
theorem ct_People_ableFitters_3cb68 {I : fH}  (h0 : fB bsJ I)  : fC ρ base n F xTc vwCl xTys D dA la gJ (fbz bsJ znJ (fKc []) I) xm_180 [.inr (.inr (some 177))] I (fun _ r => ∃ z, r = some (.inl z) ∧ ((-2147483648) ≤ z ∧ z ≤ 2147483647)) := by
  have hW : fzs [] (fKc []) := fKc_ok _
  refine f_meth (rb := rbJ) (J := [(4, jc_People_ableFitters_3cb68_4)]) 26 400 xG xin_180 x6_180 okJ (fB_self h0) ?_ ?_
  · refine List.forall_mem_cons.mpr ⟨?_, fun q h => absurd h List.not_mem_nil⟩
    · rintro m _ _ I1 hB1 ⟨y1, y2, rfl, rfl, hb, hm⟩
      refine And.intro ⟨rfl, by decide, by decide⟩ (fgetf fb_177_4 h0 hB1 ?_)
      intro z1 lz1 uz1 qz1
      refine And.intro (by omega) (And.intro ?_ ?_)
      · intro c2
        refine And.intro (True.intro) ?_
        exact ⟨_, rfl, by omega⟩
      · intro c3
        refine And.intro ⟨rfl, by decide, by decide⟩ ?_
        refine fload rL_179_179_0_23_1_0 h0 hB1 (by omega) ?_
        intro z4 lz4 uz4 qz4
        refine And.intro (by omega) (And.intro ?_ ?_)
        · intro c5
          exact fcutJ (I := I1) (j := jc_People_ableFitters_3cb68_4) (lv' := [(0, .inr (.inr (some 177))), (1, .inl _), (2, .inl _)]) (And.intro rfl (And.intro rfl (And.intro rfl True.intro))) ⟨_, _, rfl, rfl, by omega, rfl⟩ (by omega)
        · intro c6
          refine And.intro ⟨rfl, by decide, by decide⟩ ?_
          refine fload rL_181_181_0_23_1_0 h0 hB1 (by omega) ?_
          intro z7 lz7 uz7 qz7
          refine And.intro (by omega) (And.intro ?_ ?_)
          · intro c8
            exact fcutJ (I := I1) (j := jc_People_ableFitters_3cb68_4) (lv' := [(0, .inr (.inr (some 177))), (1, .inl _), (2, .inl _)]) (And.intro rfl (And.intro rfl (And.intro rfl True.intro))) ⟨_, _, rfl, rfl, by omega, rfl⟩ (by omega)
          · intro c9
            intro z10 hz10 bz10
            exact fcutJ (I := I1) (j := jc_People_ableFitters_3cb68_4) (lv' := [(0, .inr (.inr (some 177))), (1, .inl _), (2, .inl _)]) (And.intro rfl (And.intro rfl (And.intro rfl True.intro))) ⟨_, _, rfl, rfl, by omega, rfl⟩ (by omega)
  · have hB0 := fB_self (zn := znJ) (K := fKc []) h0
    exact fcutJ (I := I) (j := jc_People_ableFitters_3cb68_4) (lv' := [(0, .inr (.inr (some 177))), (1, .inl _), (2, .inl _)]) (And.intro rfl (And.intro rfl (And.intro rfl True.intro))) ⟨_, _, rfl, rfl, by omega, rfl⟩ (by omega)
abbrev jc_Rounds_wearAll_7293e_2 : Nat → fL → List fV → fH → Prop := fun m lv st I => ∃ (y2 : Int) (y3 : Int), lv = [(0, .inr (.inr (some 727))), (1, .inr (.inr (some 163))), (2, .inl y2), (3, .inl y3)] ∧ st = [] ∧ (((0 ≤ y2 ∧ y2 ≤ 47) ∧ (0 ≤ y3 ∧ y3 ≤ 24))) ∧ m = (1 + 1 * (24 - y3) : Int).toNat
set_option maxRecDepth 8000 in
theorem ct_Rounds_wearAll_7293e {I : fH} {x2 : Int} (h0 : fB bsJ I) (ha2 : (0 ≤ x2 ∧ x2 ≤ 47)) : fC ρ base n F xTc vwCl xTys D dA la gJ (fbz bsJ znJ (fKc wz_2d739) I) xm_184 [.inr (.inr (some 727)), .inr (.inr (some 163)), .inl x2] I (fun _ r => r = none) := by
  have hW : fzs wz_2d739 (fKc wz_2d739) := fKc_ok _
  refine f_meth (rb := rbJ) (J := [(2, jc_Rounds_wearAll_7293e_2)]) 26 400 xG xin_184 x6_184 okJ (fB_self h0) ?_ ?_
  · refine List.forall_mem_cons.mpr ⟨?_, fun q h => absurd h List.not_mem_nil⟩
    · rintro m _ _ I1 hB1 ⟨y2, y3, rfl, rfl, hb, hm⟩
      refine And.intro ⟨rfl, by decide, by decide⟩ (fgetf fb_163_13 h0 hB1 ?_)
      intro z1 lz1 uz1 qz1
      refine And.intro (by omega) (And.intro ?_ ?_)
      · intro c2
        exact rfl
      · intro c3
        refine Exists.intro xm_64 (And.intro mi_64 (And.intro ⟨rfl, rfl, rfl, rfl⟩ (And.intro rfl ?_)))
        refine fcallp hB1 (ct_Works_isSkin_801f8 (fBz h0 hB1) (by omega)) ?_
        rintro _ ⟨z4, rfl, hz4⟩
        refine And.intro (by omega) (And.intro ?_ ?_)
        · intro c5
          exact fcutJ (I := I1) (j := jc_Rounds_wearAll_7293e_2) (lv' := [(0, .inr (.inr (some 727))), (1, .inr (.inr (some 163))), (2, .inl _), (3, .inl _)]) (And.intro rfl (And.intro rfl (And.intro rfl (And.intro rfl True.intro)))) ⟨_, _, rfl, rfl, by omega, rfl⟩ (by omega)
        · intro c6
          refine And.intro ⟨rfl, by decide, by decide⟩ ?_
          refine fload rL_729_729_0_23_1_0 h0 hB1 (by omega) ?_
          intro z7 lz7 uz7 qz7
          refine And.intro ⟨rfl, by decide, by decide⟩ ?_
          refine fload rL_731_731_0_48_1_0 h0 hB1 (by omega) ?_
          intro z8 lz8 uz8 qz8
          intro z9 hz9 ez9 bz9
          refine And.intro ⟨rfl, by decide, by decide⟩ ?_
          refine fload rL_731_731_0_48_1_0 h0 hB1 (by omega) ?_
          intro z10 lz10 uz10 qz10
          intro z11 hz11 ez11 bz11
          refine And.intro ⟨rfl, by decide, by decide⟩ ?_
          refine fload rL_728_728_0_23_1_0 h0 hB1 (by omega) ?_
          intro z12 lz12 uz12 qz12
          refine And.intro (And.intro (by omega) (And.intro (by omega) (And.intro (by omega) rfl))) ?_
          intro z13 hz13 ez13 dz13
          intro z14 hz14 ez14 bz14
          refine fstore rS_728_728_0_23_1_0 (fzs_sub (by decide +kernel) hW) (by omega) (by omega) ?_
          intro IhB15 ehB15 hB15
          have t16 := fup_self ehB15
          have t17 : IhB15 163 13 = I1 163 13 := (congrFun (congrFun ehB15 163) 13).trans (fup_ne (by omega))
          refine And.intro ⟨rfl, by decide, by decide⟩ ?_
          refine And.intro (And.intro (by omega) (And.intro (by omega) (And.intro (by omega) rfl))) ?_
          intro z18 hz18 ez18 dz18
          refine fstore rS_729_729_0_23_1_0 (fzs_sub (by decide +kernel) hW) (by omega) (by omega) ?_
          intro IhB19 ehB19 hB19
          have t20 := fup_self ehB19
          have t21 : IhB19 163 13 = IhB15 163 13 := (congrFun (congrFun ehB19 163) 13).trans (fup_ne (by omega))
          refine And.intro ⟨rfl, by decide, by decide⟩ ?_
          refine fload rL_728_728_0_23_1_0 h0 hB19 (by omega) ?_
          intro z22 lz22 uz22 qz22
          refine And.intro ⟨rfl, by decide, by decide⟩ (fgetf fb_727_7 h0 hB19 ?_)
          intro z23 lz23 uz23 qz23
          refine And.intro (by omega) (And.intro ?_ ?_)
          · intro c24
            exact fcutJ (I := IhB19) (j := jc_Rounds_wearAll_7293e_2) (lv' := [(0, .inr (.inr (some 727))), (1, .inr (.inr (some 163))), (2, .inl _), (3, .inl _)]) (And.intro rfl (And.intro rfl (And.intro rfl (And.intro rfl True.intro)))) ⟨_, _, rfl, rfl, by omega, rfl⟩ (by omega)
          · intro c25
            refine And.intro ⟨rfl, by decide, by decide⟩ (fgetf fb_727_0 h0 hB19 ?_)
            intro z26 lz26 uz26 qz26
            refine And.intro (by omega) (And.intro ?_ ?_)
            · intro c27
              exact fcutJ (I := IhB19) (j := jc_Rounds_wearAll_7293e_2) (lv' := [(0, .inr (.inr (some 727))), (1, .inr (.inr (some 163))), (2, .inl _), (3, .inl _)]) (And.intro rfl (And.intro rfl (And.intro rfl (And.intro rfl True.intro)))) ⟨_, _, rfl, rfl, by omega, rfl⟩ (by omega)
            · intro c28
              refine And.intro ⟨rfl, by decide, by decide⟩ (And.intro rfl (And.intro (Or.inl rfl) (fputf fb_727_0 (by decide +kernel) hW (by omega) ?_)))
              intro IhB29 ehB29 hB29
              have t30 : IhB29 163 13 = IhB19 163 13 := (congrFun (congrFun ehB29 163) 13).trans (fup_ne (by omega))
              exact fcutJ (I := IhB29) (j := jc_Rounds_wearAll_7293e_2) (lv' := [(0, .inr (.inr (some 727))), (1, .inr (.inr (some 163))), (2, .inl _), (3, .inl _)]) (And.intro rfl (And.intro rfl (And.intro rfl (And.intro rfl True.intro)))) ⟨_, _, rfl, rfl, by omega, rfl⟩ (by omega)
  · have hB0 := fB_self (zn := znJ) (K := fKc wz_2d739) h0
    exact fcutJ (I := I) (j := jc_Rounds_wearAll_7293e_2) (lv' := [(0, .inr (.inr (some 727))), (1, .inr (.inr (some 163))), (2, .inl _), (3, .inl _)]) (And.intro rfl (And.intro rfl (And.intro rfl (And.intro rfl True.intro)))) ⟨_, _, rfl, rfl, by omega, rfl⟩ (by omega)
abbrev jc_Rounds_begin_a2ae2_30 : Nat → fL → List fV → fH → Prop := fun m lv st I => ∃ (y3 : Int), lv = [(0, .inr (.inr (some 727))), (2, .inr (.inr (some 211))), (3, .inl y3)] ∧ st = [] ∧ (((0 ≤ y3 ∧ y3 ≤ 48))) ∧ m = (1 + 1 * (48 - y3) : Int).toNat
set_option maxRecDepth 8000 in
theorem ct_Rounds_begin_a2ae2 {I : fH}  (h0 : fB bsJ I)  : fC ρ base n F xTc vwCl xTys D dA la gJ (fbz bsJ znJ (fKc wz_06305) I) xm_179 [.inr (.inr (some 727)), .inr (.inr (some 1)), .inr (.inr (some 211))] I (fun _ r => r = none) := by
  have hW : fzs wz_06305 (fKc wz_06305) := fKc_ok _
  refine f_meth (rb := rbJ) (J := [(30, jc_Rounds_begin_a2ae2_30)]) 50 400 xG xin_179 x6_179 okJ (fB_self h0) ?_ ?_
  · refine List.forall_mem_cons.mpr ⟨?_, fun q h => absurd h List.not_mem_nil⟩
    · rintro m _ _ I1 hB1 ⟨y3, rfl, rfl, hb, hm⟩
      refine And.intro ⟨rfl, by decide, by decide⟩ (fgetf fb_727_6 h0 hB1 ?_)
      intro z1 lz1 uz1 qz1
      refine And.intro (by omega) (And.intro ?_ ?_)
      · intro c2
        exact rfl
      · intro c3
        refine And.intro ⟨rfl, by decide, by decide⟩ ?_
        refine And.intro ⟨rfl, by decide, by decide⟩ ?_
        refine fload rL_731_731_0_48_1_0 h0 hB1 (by omega) ?_
        intro z4 lz4 uz4 qz4
        refine And.intro ⟨rfl, by decide, by decide⟩ ?_
        refine fload rL_222_222_0_47_1_0 h0 hB1 (by omega) ?_
        intro z5 lz5 uz5 qz5
        intro z6 hz6 ez6 bz6
        refine And.intro (And.intro (by omega) (And.intro (by omega) (And.intro (by omega) rfl))) ?_
        intro z7 hz7 ez7 dz7
        intro z8 hz8 ez8 bz8
        refine fstore rS_731_731_0_48_1_0 (fzs_sub (by decide +kernel) hW) (by omega) (by omega) ?_
        intro IhB9 ehB9 hB9
        have t10 := fup_self ehB9
        have t11 : IhB9 727 6 = I1 727 6 := (congrFun (congrFun ehB9 727) 6).trans (fup_ne (by omega))
        exact fcutJ (I := IhB9) (j := jc_Rounds_begin_a2ae2_30) (lv' := [(0, .inr (.inr (some 727))), (2, .inr (.inr (some 211))), (3, .inl _)]) (And.intro rfl (And.intro rfl (And.intro rfl True.intro))) ⟨_, rfl, rfl, by omega, rfl⟩ (by omega)
  · have hB0 := fB_self (zn := znJ) (K := fKc wz_06305) h0
    refine And.intro ⟨rfl, by decide, by decide⟩ ?_
    refine And.intro ⟨rfl, by decide, by decide⟩ ?_
    refine And.intro ⟨rfl, by decide, by decide⟩ ?_
    refine Exists.intro xm_75 (And.intro mi_75 (And.intro ⟨rfl, rfl, rfl, rfl⟩ (And.intro True.intro ?_)))
    refine fcall _ h0 (fzs_sub (by decide +kernel) hW) hB0 (ct_copyRow (W := [728]) (len := 24) (fBz h0 hB0) (frC_of (by decide +kernel))) ?_
    rintro IhB12 _ hB12 fhB12 ⟨rfl, ehB12⟩
    refine And.intro ⟨rfl, by decide, by decide⟩ ?_
    refine And.intro ⟨rfl, by decide, by decide⟩ ?_
    refine And.intro ⟨rfl, by decide, by decide⟩ ?_
    refine Exists.intro xm_75 (And.intro mi_75 (And.intro ⟨rfl, rfl, rfl, rfl⟩ (And.intro True.intro ?_)))
    refine fcall _ h0 (fzs_sub (by decide +kernel) hW) hB12 (ct_copyRow (W := [729]) (len := 24) (fBz h0 hB12) (frC_of (by decide +kernel))) ?_
    rintro IhB13 _ hB13 fhB13 ⟨rfl, ehB13⟩
    exact fcutJ (I := IhB13) (j := jc_Rounds_begin_a2ae2_30) (lv' := [(0, .inr (.inr (some 727))), (2, .inr (.inr (some 211))), (3, .inl _)]) (And.intro rfl (And.intro rfl (And.intro rfl True.intro))) ⟨_, rfl, rfl, by omega, rfl⟩ (by omega)
abbrev jc_Rounds_fallOf_9b67d_2 : Nat → fL → List fV → fH → Prop := fun m lv st I => ∃ (y1 : Int) (y2 : Int) (y3 : Int), lv = [(0, .inr (.inr (some 727))), (1, .inl y1), (2, .inl y2), (3, .inl y3)] ∧ st = [] ∧ (((0 ≤ y1 ∧ y1 ≤ 23) ∧ (0 ≤ y2 ∧ y2 ≤ 47) ∧ (0 ≤ y3 ∧ y3 ≤ 48))) ∧ m = (1 + 1 * (48 - y3) : Int).toNat
set_option maxRecDepth 8000 in
theorem ct_Rounds_fallOf_9b67d {I : fH} {x1 : Int} {x2 : Int} (h0 : fB bsJ I) (ha1 : (0 ≤ x1 ∧ x1 ≤ 23)) (ha2 : (0 ≤ x2 ∧ x2 ≤ 47)) : fC ρ base n F xTc vwCl xTys D dA la gJ (fbz bsJ znJ (fKc []) I) xm_182 [.inr (.inr (some 727)), .inl x1, .inl x2] I (fun _ r => ∃ z, r = some (.inl z) ∧ (0 ≤ z ∧ z ≤ 48)) := by
  have hW : fzs [] (fKc []) := fKc_ok _
  refine f_meth (rb := rbJ) (J := [(2, jc_Rounds_fallOf_9b67d_2)]) 50 400 xG xin_182 x6_182 okJ (fB_self h0) ?_ ?_
  · refine List.forall_mem_cons.mpr ⟨?_, fun q h => absurd h List.not_mem_nil⟩
    · rintro m _ _ I1 hB1 ⟨y1, y2, y3, rfl, rfl, hb, hm⟩
      refine And.intro ⟨rfl, by decide, by decide⟩ (fgetf fb_727_6 h0 hB1 ?_)
      intro z1 lz1 uz1 qz1
      refine And.intro (by omega) (And.intro ?_ ?_)
      · intro c2
        refine And.intro (True.intro) ?_
        exact ⟨_, rfl, by omega⟩
      · intro c3
        refine And.intro ⟨rfl, by decide, by decide⟩ ?_
        refine fload rL_728_728_0_23_1_0 h0 hB1 (by omega) ?_
        intro z4 lz4 uz4 qz4
        refine And.intro ⟨rfl, by decide, by decide⟩ ?_
        refine fload rL_729_729_0_23_1_0 h0 hB1 (by omega) ?_
        intro z5 lz5 uz5 qz5
        refine And.intro ⟨rfl, by decide, by decide⟩ ?_
        refine fload rL_731_731_0_48_1_0 h0 hB1 (by omega) ?_
        intro z6 lz6 uz6 qz6
        intro z7 hz7 ez7 bz7
        refine And.intro ⟨rfl, by decide, by decide⟩ ?_
        refine fload rL_731_731_0_48_1_0 h0 hB1 (by omega) ?_
        intro z8 lz8 uz8 qz8
        intro z9 hz9 ez9 bz9
        refine And.intro (And.intro (by omega) (And.intro (by omega) (And.intro (by omega) rfl))) ?_
        intro z10 hz10 ez10 dz10
        intro z11 hz11 ez11 bz11
        refine And.intro ⟨rfl, by decide, by decide⟩ (fgetf fb_727_7 h0 hB1 ?_)
        intro z12 lz12 uz12 qz12
        refine And.intro (by omega) (And.intro ?_ ?_)
        · intro c13
          refine And.intro (True.intro) ?_
          exact ⟨_, rfl, by omega⟩
        · intro c14
          exact fcutJ (I := I1) (j := jc_Rounds_fallOf_9b67d_2) (lv' := [(0, .inr (.inr (some 727))), (1, .inl _), (2, .inl _), (3, .inl _)]) (And.intro rfl (And.intro rfl (And.intro rfl (And.intro rfl True.intro)))) ⟨_, _, _, rfl, rfl, by omega, rfl⟩ (by omega)
  · have hB0 := fB_self (zn := znJ) (K := fKc []) h0
    exact fcutJ (I := I) (j := jc_Rounds_fallOf_9b67d_2) (lv' := [(0, .inr (.inr (some 727))), (1, .inl _), (2, .inl _), (3, .inl _)]) (And.intro rfl (And.intro rfl (And.intro rfl (And.intro rfl True.intro)))) ⟨_, _, _, rfl, rfl, by omega, rfl⟩ (by omega)
abbrev jc_Rounds_foretellAll_4ce3f_2 : Nat → fL → List fV → fH → Prop := fun m lv st I => ∃ (y2 : Int) (y3 : Int), lv = [(0, .inr (.inr (some 727))), (1, .inr (.inr (some 163))), (2, .inl y2), (3, .inl y3)] ∧ st = [] ∧ (((0 ≤ y2 ∧ y2 ≤ 47) ∧ (0 ≤ y3 ∧ y3 ≤ 24))) ∧ m = (1 + 1 * (24 - y3) : Int).toNat
set_option maxRecDepth 8000 in
theorem ct_Rounds_foretellAll_4ce3f {I : fH} {x2 : Int} (h0 : fB bsJ I) (ha2 : (0 ≤ x2 ∧ x2 ≤ 47)) : fC ρ base n F xTc vwCl xTys D dA la gJ (fbz bsJ znJ (fKc wz_01654) I) xm_181 [.inr (.inr (some 727)), .inr (.inr (some 163)), .inl x2] I (fun _ r => r = none) := by
  have hW : fzs wz_01654 (fKc wz_01654) := fKc_ok _
  refine f_meth (rb := rbJ) (J := [(2, jc_Rounds_foretellAll_4ce3f_2)]) 26 400 xG xin_181 x6_181 okJ (fB_self h0) ?_ ?_
  · refine List.forall_mem_cons.mpr ⟨?_, fun q h => absurd h List.not_mem_nil⟩
    · rintro m _ _ I1 hB1 ⟨y2, y3, rfl, rfl, hb, hm⟩
      refine And.intro ⟨rfl, by decide, by decide⟩ (fgetf fb_163_13 h0 hB1 ?_)
      intro z1 lz1 uz1 qz1
      refine And.intro (by omega) (And.intro ?_ ?_)
      · intro c2
        exact rfl
      · intro c3
        refine And.intro ⟨rfl, by decide, by decide⟩ ?_
        refine Exists.intro xm_64 (And.intro mi_64 (And.intro ⟨rfl, rfl, rfl, rfl⟩ (And.intro rfl ?_)))
        refine fcallp hB1 (ct_Works_isSkin_801f8 (fBz h0 hB1) (by omega)) ?_
        rintro _ ⟨z4, rfl, hz4⟩
        refine And.intro (by omega) (And.intro ?_ ?_)
        · intro c5
          refine And.intro ⟨rfl, by decide, by decide⟩ (fgetf fb_727_6 h0 hB1 ?_)
          intro z6 lz6 uz6 qz6
          refine fstore rS_730_730_0_23_1_0 (fzs_sub (by decide +kernel) hW) (by omega) (by omega) ?_
          intro IhB7 ehB7 hB7
          have t8 := fup_self ehB7
          have t9 : IhB7 163 13 = I1 163 13 := (congrFun (congrFun ehB7 163) 13).trans (fup_ne (by omega))
          exact fcutJ (I := IhB7) (j := jc_Rounds_foretellAll_4ce3f_2) (lv' := [(0, .inr (.inr (some 727))), (1, .inr (.inr (some 163))), (2, .inl _), (3, .inl _)]) (And.intro rfl (And.intro rfl (And.intro rfl (And.intro rfl True.intro)))) ⟨_, _, rfl, rfl, by omega, rfl⟩ (by omega)
        · intro c10
          refine Exists.intro xm_182 (And.intro mi_182 (And.intro ⟨rfl, rfl, rfl, rfl⟩ (And.intro rfl ?_)))
          refine fcallp hB1 (ct_Rounds_fallOf_9b67d (fBz h0 hB1) (by omega) (by omega)) ?_
          rintro _ ⟨z11, rfl, hz11⟩
          refine fstore rS_730_730_0_23_1_0 (fzs_sub (by decide +kernel) hW) (by omega) (by omega) ?_
          intro IhB12 ehB12 hB12
          have t13 := fup_self ehB12
          have t14 : IhB12 163 13 = I1 163 13 := (congrFun (congrFun ehB12 163) 13).trans (fup_ne (by omega))
          exact fcutJ (I := IhB12) (j := jc_Rounds_foretellAll_4ce3f_2) (lv' := [(0, .inr (.inr (some 727))), (1, .inr (.inr (some 163))), (2, .inl _), (3, .inl _)]) (And.intro rfl (And.intro rfl (And.intro rfl (And.intro rfl True.intro)))) ⟨_, _, rfl, rfl, by omega, rfl⟩ (by omega)
  · have hB0 := fB_self (zn := znJ) (K := fKc wz_01654) h0
    exact fcutJ (I := I) (j := jc_Rounds_foretellAll_4ce3f_2) (lv' := [(0, .inr (.inr (some 727))), (1, .inr (.inr (some 163))), (2, .inl _), (3, .inl _)]) (And.intro rfl (And.intro rfl (And.intro rfl (And.intro rfl True.intro)))) ⟨_, _, rfl, rfl, by omega, rfl⟩ (by omega)
abbrev jc_Rounds_sewNext_d8bbe_11 : Nat → fL → List fV → fH → Prop := fun m lv st I => ∃ (y2 : Int) (y3 : Int) (y4 : Int) (y5 : Int), lv = [(0, .inr (.inr (some 727))), (1, .inr (.inr (some 163))), (2, .inl y2), (3, .inl y3), (4, .inl y4), (5, .inl y5)] ∧ st = [] ∧ (((0 ≤ y2 ∧ y2 ≤ 47) ∧ ((-1) ≤ y3 ∧ y3 ≤ 23) ∧ ((-2147483648) ≤ y4 ∧ y4 ≤ 2147483647) ∧ (0 ≤ y5 ∧ y5 ≤ 24))) ∧ m = (1 + 1 * (24 - y5) : Int).toNat
set_option maxRecDepth 8000 in
theorem ct_Rounds_sewNext_d8bbe {I : fH} {x2 : Int} (h0 : fB bsJ I) (ha2 : (0 ≤ x2 ∧ x2 ≤ 47)) : fC ρ base n F xTc vwCl xTys D dA la gJ (fbz bsJ znJ (fKc wz_f185d) I) xm_183 [.inr (.inr (some 727)), .inr (.inr (some 163)), .inl x2] I (fun _ r => ∃ z, r = some (.inl z) ∧ ((-1) ≤ z ∧ z ≤ 23)) := by
  have hW : fzs wz_f185d (fKc wz_f185d) := fKc_ok _
  refine f_meth (rb := rbJ) (J := [(11, jc_Rounds_sewNext_d8bbe_11)]) 26 400 xG xin_183 x6_183 okJ (fB_self h0) ?_ ?_
  · refine List.forall_mem_cons.mpr ⟨?_, fun q h => absurd h List.not_mem_nil⟩
    · rintro m _ _ I1 hB1 ⟨y2, y3, y4, y5, rfl, rfl, hb, hm⟩
      refine And.intro ⟨rfl, by decide, by decide⟩ (fgetf fb_163_13 h0 hB1 ?_)
      intro z1 lz1 uz1 qz1
      refine And.intro (by omega) (And.intro ?_ ?_)
      · intro c2
        refine And.intro (by omega) (And.intro ?_ ?_)
        · intro c3
          refine And.intro (True.intro) ?_
          exact ⟨_, rfl, by omega⟩
        · intro c4
          refine And.intro ⟨rfl, by decide, by decide⟩ ?_
          refine fload rL_728_728_0_23_1_0 h0 hB1 (by omega) ?_
          intro z5 lz5 uz5 qz5
          intro z6 hz6 ez6 bz6
          refine fstore rS_728_728_0_23_1_0 (fzs_sub (by decide +kernel) hW) (by omega) (by omega) ?_
          intro IhB7 ehB7 hB7
          have t8 := fup_self ehB7
          have t9 : IhB7 163 13 = I1 163 13 := (congrFun (congrFun ehB7 163) 13).trans (fup_ne (by omega))
          refine And.intro ⟨rfl, by decide, by decide⟩ ?_
          refine Exists.intro xm_182 (And.intro mi_182 (And.intro ⟨rfl, rfl, rfl, rfl⟩ (And.intro rfl ?_)))
          refine fcallp hB7 (ct_Rounds_fallOf_9b67d (fBz h0 hB7) (by omega) (by omega)) ?_
          rintro _ ⟨z10, rfl, hz10⟩
          refine fstore rS_730_730_0_23_1_0 (fzs_sub (by decide +kernel) hW) (by omega) (by omega) ?_
          intro IhB11 ehB11 hB11
          have t12 := fup_self ehB11
          have t13 : IhB11 163 13 = IhB7 163 13 := (congrFun (congrFun ehB11 163) 13).trans (fup_ne (by omega))
          refine And.intro (True.intro) ?_
          exact ⟨_, rfl, by omega⟩
      · intro c14
        refine And.intro ⟨rfl, by decide, by decide⟩ ?_
        refine fload rL_730_730_0_23_1_0 h0 hB1 (by omega) ?_
        intro z15 lz15 uz15 qz15
        refine And.intro (by omega) (And.intro ?_ ?_)
        · intro c16
          exact fcutJ (I := I1) (j := jc_Rounds_sewNext_d8bbe_11) (lv' := [(0, .inr (.inr (some 727))), (1, .inr (.inr (some 163))), (2, .inl _), (3, .inl _), (4, .inl _), (5, .inl _)]) (And.intro rfl (And.intro rfl (And.intro rfl (And.intro rfl (And.intro rfl (And.intro rfl True.intro)))))) ⟨_, _, _, _, rfl, rfl, by omega, rfl⟩ (by omega)
        · intro c17
          refine And.intro ⟨rfl, by decide, by decide⟩ ?_
          refine fload rL_728_728_0_23_1_0 h0 hB1 (by omega) ?_
          intro z18 lz18 uz18 qz18
          refine And.intro (by omega) (And.intro ?_ ?_)
          · intro c19
            exact fcutJ (I := I1) (j := jc_Rounds_sewNext_d8bbe_11) (lv' := [(0, .inr (.inr (some 727))), (1, .inr (.inr (some 163))), (2, .inl _), (3, .inl _), (4, .inl _), (5, .inl _)]) (And.intro rfl (And.intro rfl (And.intro rfl (And.intro rfl (And.intro rfl (And.intro rfl True.intro)))))) ⟨_, _, _, _, rfl, rfl, by omega, rfl⟩ (by omega)
          · intro c20
            refine And.intro ⟨rfl, by decide, by decide⟩ ?_
            refine fload rL_730_730_0_23_1_0 h0 hB1 (by omega) ?_
            intro z21 lz21 uz21 qz21
            exact fcutJ (I := I1) (j := jc_Rounds_sewNext_d8bbe_11) (lv' := [(0, .inr (.inr (some 727))), (1, .inr (.inr (some 163))), (2, .inl _), (3, .inl _), (4, .inl _), (5, .inl _)]) (And.intro rfl (And.intro rfl (And.intro rfl (And.intro rfl (And.intro rfl (And.intro rfl True.intro)))))) ⟨_, _, _, _, rfl, rfl, by omega, rfl⟩ (by omega)
  · have hB0 := fB_self (zn := znJ) (K := fKc wz_f185d) h0
    refine And.intro ⟨rfl, by decide, by decide⟩ (fgetf fb_727_6 h0 hB0 ?_)
    intro z22 lz22 uz22 qz22
    exact fcutJ (I := I) (j := jc_Rounds_sewNext_d8bbe_11) (lv' := [(0, .inr (.inr (some 727))), (1, .inr (.inr (some 163))), (2, .inl _), (3, .inl _), (4, .inl _), (5, .inl _)]) (And.intro rfl (And.intro rfl (And.intro rfl (And.intro rfl (And.intro rfl (And.intro rfl True.intro)))))) ⟨_, _, _, _, rfl, rfl, by omega, rfl⟩ (by omega)
abbrev jc_Rounds_goRound_589d9_40 : Nat → fL → List fV → fH → Prop := fun m lv st I => ∃ (y3 : Int) (y5 : Int) (y6 : Int) (y7 : Int) (y8 : Int), lv = [(0, .inr (.inr (some 727))), (1, .inr (.inr (some 1))), (3, .inl y3), (5, .inl y5), (6, .inl y6), (7, .inl y7), (8, .inl y8)] ∧ st = [] ∧ (((1 ≤ y3 ∧ y3 ≤ 48) ∧ ((0 ≤ y5 ∧ y5 ≤ 23) ∨ y5 = (-1000000005)) ∧ ((0 ≤ y6 ∧ y6 ≤ 47) ∨ y6 = (-1000000005)) ∧ ((-2147483648) ≤ y7 ∧ y7 ≤ 2147483647) ∧ (0 ≤ y8 ∧ y8 ≤ 48) ∧ (1 ≤ I 727 6 ∧ I 727 6 ≤ 48) ∧ (0 ≤ I 727 7 ∧ I 727 7 ≤ 9))) ∧ m = (2147483649 + 2147483649 * (48 - y8) : Int).toNat
abbrev jc_Rounds_goRound_589d9_59 : Nat → fL → List fV → fH → Prop := fun m lv st I => ∃ (y3 : Int) (y5 : Int) (y6 : Int) (y7 : Int) (y8 : Int) (y9 : Int), lv = [(0, .inr (.inr (some 727))), (1, .inr (.inr (some 1))), (3, .inl y3), (5, .inl y5), (6, .inl y6), (7, .inl y7), (8, .inl y8), (9, .inl y9)] ∧ st = [] ∧ (((1 ≤ y3 ∧ y3 ≤ 48) ∧ ((0 ≤ y5 ∧ y5 ≤ 23) ∨ y5 = (-1000000005)) ∧ ((0 ≤ y6 ∧ y6 ≤ 47) ∨ y6 = (-1000000005)) ∧ ((-2147483648) ≤ y7 ∧ y7 ≤ 2147483647) ∧ (0 ≤ y8 ∧ y8 ≤ 47) ∧ (0 ≤ y9 ∧ y9 ≤ 2147483647) ∧ (1 ≤ I 727 6 ∧ I 727 6 ≤ 48) ∧ (0 ≤ I 727 7 ∧ I 727 7 ≤ 9))) ∧ m = (1 + 2147483649 * (48 - y8) + 1 * (2147483647 - y9) : Int).toNat
set_option maxRecDepth 8000 in
theorem ct_Rounds_goRound_589d9 {I : fH} {x3 : Int} {x4 : Int} {x5 : Int} {x6 : Int} (h0 : fB bsJ I) (ha3 : (1 ≤ x3 ∧ x3 ≤ 48)) (ha4 : (0 ≤ x4 ∧ x4 ≤ 9)) (ha5 : ((0 ≤ x5 ∧ x5 ≤ 23) ∨ x5 = (-1000000005))) (ha6 : ((0 ≤ x6 ∧ x6 ≤ 47) ∨ x6 = (-1000000005))) : fC ρ base n F xTc vwCl xTys D dA la gJ (fbz bsJ znJ (fKc wz_81562) I) xm_178 [.inr (.inr (some 727)), .inr (.inr (some 1)), .inr (.inr (some 211)), .inl x3, .inl x4, .inl x5, .inl x6] I (fun _ r => r = none) := by
  have hW : fzs wz_81562 (fKc wz_81562) := fKc_ok _
  refine f_meth (rb := rbJ) (J := [(40, jc_Rounds_goRound_589d9_40), (59, jc_Rounds_goRound_589d9_59)]) 105226698802 400 xG xin_178 x6_178 okJ (fB_self h0) ?_ ?_
  · refine List.forall_mem_cons.mpr ⟨?_, List.forall_mem_cons.mpr ⟨?_, fun q h => absurd h List.not_mem_nil⟩⟩
    · rintro m _ _ I1 hB1 ⟨y3, y5, y6, y7, y8, rfl, rfl, hb, hm⟩
      refine And.intro (by omega) (And.intro ?_ ?_)
      · intro c1
        exact rfl
      · intro c2
        refine And.intro ⟨rfl, by decide, by decide⟩ ?_
        refine Exists.intro xm_181 (And.intro mi_181 (And.intro ⟨rfl, rfl, rfl, rfl⟩ (And.intro rfl ?_)))
        refine fcall _ h0 (fzs_sub (by decide +kernel) hW) hB1 (ct_Rounds_foretellAll_4ce3f (fBz h0 hB1) (by omega)) ?_
        rintro IhB4 _ hB4 fhB4 rfl
        have t5 := fhB4 727 6 (by decide +kernel)
        have t6 := fhB4 727 7 (by decide +kernel)
        exact fcutJ (I := IhB4) (j := jc_Rounds_goRound_589d9_59) (lv' := [(0, .inr (.inr (some 727))), (1, .inr (.inr (some 1))), (3, .inl _), (5, .inl _), (6, .inl _), (7, .inl _), (8, .inl _), (9, .inl _)]) (And.intro rfl (And.intro rfl (And.intro rfl (And.intro rfl (And.intro rfl (And.intro rfl (And.intro rfl (And.intro rfl True.intro)))))))) ⟨_, _, _, _, _, _, rfl, rfl, by omega, rfl⟩ (by omega)
    · rintro m _ _ I1 hB1 ⟨y3, y5, y6, y7, y8, y9, rfl, rfl, hb, hm⟩
      refine And.intro (by omega) (And.intro ?_ ?_)
      · intro c7
        refine And.intro ⟨rfl, by decide, by decide⟩ ?_
        refine Exists.intro xm_184 (And.intro mi_184 (And.intro ⟨rfl, rfl, rfl, rfl⟩ (And.intro rfl ?_)))
        refine fcall _ h0 (fzs_sub (by decide +kernel) hW) hB1 (ct_Rounds_wearAll_7293e (fBz h0 hB1) (by omega)) ?_
        rintro IhB9 _ hB9 fhB9 rfl
        have t10 := fhB9 727 6 (by decide +kernel)
        have t11 := fhB9 727 7 (by decide +kernel)
        exact fcutJ (I := IhB9) (j := jc_Rounds_goRound_589d9_40) (lv' := [(0, .inr (.inr (some 727))), (1, .inr (.inr (some 1))), (3, .inl _), (5, .inl _), (6, .inl _), (7, .inl _), (8, .inl _)]) (And.intro rfl (And.intro rfl (And.intro rfl (And.intro rfl (And.intro rfl (And.intro rfl (And.intro rfl True.intro))))))) ⟨_, _, _, _, _, rfl, rfl, by omega, rfl⟩ (by omega)
      · intro c12
        refine And.intro ⟨rfl, by decide, by decide⟩ ?_
        refine Exists.intro xm_183 (And.intro mi_183 (And.intro ⟨rfl, rfl, rfl, rfl⟩ (And.intro rfl ?_)))
        refine fcall _ h0 (fzs_sub (by decide +kernel) hW) hB1 (ct_Rounds_sewNext_d8bbe (fBz h0 hB1) (by omega)) ?_
        rintro IhB14 _ hB14 fhB14 ⟨z13, rfl, hz13⟩
        have t15 := fhB14 727 6 (by decide +kernel)
        have t16 := fhB14 727 7 (by decide +kernel)
        refine And.intro (by omega) (And.intro ?_ ?_)
        · intro c17
          exact fcutJ (I := IhB14) (j := jc_Rounds_goRound_589d9_59) (lv' := [(0, .inr (.inr (some 727))), (1, .inr (.inr (some 1))), (3, .inl _), (5, .inl _), (6, .inl _), (7, .inl _), (8, .inl _), (9, .inl _)]) (And.intro rfl (And.intro rfl (And.intro rfl (And.intro rfl (And.intro rfl (And.intro rfl (And.intro rfl (And.intro rfl True.intro)))))))) ⟨_, _, _, _, _, _, rfl, rfl, by omega, rfl⟩ (by omega)
        · intro c18
          refine And.intro (by omega) (And.intro ?_ ?_)
          · intro c19
            exact fcutJ (I := IhB14) (j := jc_Rounds_goRound_589d9_59) (lv' := [(0, .inr (.inr (some 727))), (1, .inr (.inr (some 1))), (3, .inl _), (5, .inl _), (6, .inl _), (7, .inl _), (8, .inl _), (9, .inl _)]) (And.intro rfl (And.intro rfl (And.intro rfl (And.intro rfl (And.intro rfl (And.intro rfl (And.intro rfl (And.intro rfl True.intro)))))))) ⟨_, _, _, _, _, _, rfl, rfl, by omega, rfl⟩ (by omega)
          · intro c20
            refine And.intro ⟨rfl, by decide, by decide⟩ (fgetf fb_727_1 h0 hB14 ?_)
            intro z21 lz21 uz21 qz21
            intro z22 hz22 ez22 bz22
            refine And.intro ⟨rfl, by decide, by decide⟩ (And.intro rfl (And.intro (Or.inl rfl) (fputf fb_727_1 (by decide +kernel) hW (by omega) ?_)))
            intro IhB23 ehB23 hB23
            have t24 : IhB23 727 6 = IhB14 727 6 := (congrFun (congrFun ehB23 727) 6).trans (fup_ne (by omega))
            have t25 : IhB23 727 7 = IhB14 727 7 := (congrFun (congrFun ehB23 727) 7).trans (fup_ne (by omega))
            exact fcutJ (I := IhB23) (j := jc_Rounds_goRound_589d9_59) (lv' := [(0, .inr (.inr (some 727))), (1, .inr (.inr (some 1))), (3, .inl _), (5, .inl _), (6, .inl _), (7, .inl _), (8, .inl _), (9, .inl _)]) (And.intro rfl (And.intro rfl (And.intro rfl (And.intro rfl (And.intro rfl (And.intro rfl (And.intro rfl (And.intro rfl True.intro)))))))) ⟨_, _, _, _, _, _, rfl, rfl, by omega, rfl⟩ (by omega)
  · have hB0 := fB_self (zn := znJ) (K := fKc wz_81562) h0
    refine And.intro ⟨rfl, by decide, by decide⟩ (And.intro rfl (And.intro (Or.inl rfl) (fputf fb_727_6 (by decide +kernel) hW (by omega) ?_)))
    intro IhB26 ehB26 hB26
    have t27 := fup_at ehB26 6 (by omega)
    refine And.intro ⟨rfl, by decide, by decide⟩ (And.intro rfl (And.intro (Or.inl rfl) (fputf fb_727_7 (by decide +kernel) hW (by omega) ?_)))
    intro IhB28 ehB28 hB28
    have t29 : IhB28 727 6 = IhB26 727 6 := (congrFun (congrFun ehB28 727) 6).trans (fup_ne (by omega))
    have t30 := fup_at ehB28 7 (by omega)
    refine And.intro ⟨rfl, by decide, by decide⟩ (And.intro rfl (And.intro (Or.inl rfl) (fputf fb_727_0 (by decide +kernel) hW (by omega) ?_)))
    intro IhB31 ehB31 hB31
    have t32 := fup_at ehB31 0 (by omega)
    have t33 : IhB31 727 6 = IhB28 727 6 := (congrFun (congrFun ehB31 727) 6).trans (fup_ne (by omega))
    have t34 : IhB31 727 7 = IhB28 727 7 := (congrFun (congrFun ehB31 727) 7).trans (fup_ne (by omega))
    refine And.intro ⟨rfl, by decide, by decide⟩ (And.intro rfl (And.intro (Or.inl rfl) (fputf fb_727_1 (by decide +kernel) hW (by omega) ?_)))
    intro IhB35 ehB35 hB35
    have t36 : IhB35 727 0 = IhB31 727 0 := (congrFun (congrFun ehB35 727) 0).trans (fup_ne (by omega))
    have t37 := fup_at ehB35 1 (by omega)
    have t38 : IhB35 727 6 = IhB31 727 6 := (congrFun (congrFun ehB35 727) 6).trans (fup_ne (by omega))
    have t39 : IhB35 727 7 = IhB31 727 7 := (congrFun (congrFun ehB35 727) 7).trans (fup_ne (by omega))
    refine Exists.intro xm_179 (And.intro mi_179 (And.intro ⟨rfl, rfl, rfl, rfl⟩ (And.intro rfl ?_)))
    refine fcall _ h0 (fzs_sub (by decide +kernel) hW) hB35 (ct_Rounds_begin_a2ae2 (fBz h0 hB35)) ?_
    rintro IhB41 _ hB41 fhB41 rfl
    have t42 := fhB41 727 0 (by decide +kernel)
    have t43 := fhB41 727 1 (by decide +kernel)
    have t44 := fhB41 727 6 (by decide +kernel)
    have t45 := fhB41 727 7 (by decide +kernel)
    refine And.intro ⟨rfl, by decide, by decide⟩ ?_
    refine Exists.intro xm_180 (And.intro mi_180 (And.intro ⟨rfl, rfl, rfl, rfl⟩ (And.intro rfl ?_)))
    refine fcallp hB41 (ct_People_ableFitters_3cb68 (fBz h0 hB41)) ?_
    rintro _ ⟨z46, rfl, hz46⟩
    exact fcutJ (I := IhB41) (j := jc_Rounds_goRound_589d9_40) (lv' := [(0, .inr (.inr (some 727))), (1, .inr (.inr (some 1))), (3, .inl _), (5, .inl _), (6, .inl _), (7, .inl _), (8, .inl _)]) (And.intro rfl (And.intro rfl (And.intro rfl (And.intro rfl (And.intro rfl (And.intro rfl (And.intro rfl True.intro))))))) ⟨_, _, _, _, _, rfl, rfl, by omega, rfl⟩ (by omega)
set_option maxRecDepth 8000 in
theorem ct_X_lack_88d12 {I : fH} {x1 : Int} {x2 : Int} (h0 : fB bsJ I) (ha1 : ((-2147483648) ≤ x1 ∧ x1 ≤ 2147483647)) (ha2 : ((-2147483648) ≤ x2 ∧ x2 ≤ 2147483647)) : fC ρ base n F xTc vwCl xTys D dA la gJ (fbz bsJ znJ (fKc wz_81562) I) xm_177 [.inr (.inr (some 0)), .inl x1, .inl x2] I (fun _ r => ∃ z, r = some (.inl z) ∧ ((-2147483648) ≤ z ∧ z ≤ 2147483647)) := by
  have hW : fzs wz_81562 (fKc wz_81562) := fKc_ok _
  refine f_meth (rb := rbJ) (J := []) 1 400 xG xin_177 x6_177 okJ (fB_self h0) ?_ ?_
  · exact fun q h => absurd h List.not_mem_nil
  · have hB0 := fB_self (zn := znJ) (K := fKc wz_81562) h0
    refine Exists.intro xm_13 (And.intro mi_13 (And.intro ⟨rfl, rfl, rfl, rfl⟩ (And.intro True.intro ?_)))
    refine fcallp hB0 (ct_X_within_c27b1 (fBz h0 hB0) (by omega) (by omega) (by omega)) ?_
    rintro _ ⟨z1, rfl, hz1⟩
    refine And.intro (by omega) (And.intro ?_ ?_)
    · intro c2
      refine And.intro (True.intro) ?_
      exact ⟨_, rfl, by omega⟩
    · intro c3
      refine Exists.intro xm_13 (And.intro mi_13 (And.intro ⟨rfl, rfl, rfl, rfl⟩ (And.intro True.intro ?_)))
      refine fcallp hB0 (ct_X_within_c27b1 (fBz h0 hB0) (by omega) (by omega) (by omega)) ?_
      rintro _ ⟨z4, rfl, hz4⟩
      refine And.intro (by omega) (And.intro ?_ ?_)
      · intro c5
        refine And.intro ⟨rfl, by decide, by decide⟩ ?_
        refine And.intro ⟨rfl, by decide, by decide⟩ ?_
        refine And.intro ⟨rfl, by decide, by decide⟩ ?_
        refine Exists.intro xm_178 (And.intro mi_178 (And.intro ⟨rfl, rfl, rfl, rfl⟩ (And.intro rfl ?_)))
        refine fcall _ h0 (fzs_sub (by decide +kernel) hW) hB0 (ct_Rounds_goRound_589d9 (fBz h0 hB0) (by omega) (by omega) (by omega) (by omega)) ?_
        rintro IhB7 _ hB7 fhB7 rfl
        refine And.intro ⟨rfl, by decide, by decide⟩ ?_
        refine And.intro ⟨rfl, by decide, by decide⟩ (fgetf fb_727_0 h0 hB7 ?_)
        intro z8 lz8 uz8 qz8
        refine And.intro (True.intro) ?_
        exact ⟨_, rfl, by omega⟩
      · intro c9
        refine And.intro (True.intro) ?_
        exact ⟨_, rfl, by omega⟩
set_option maxRecDepth 8000 in
theorem ct_M_isSkin_da592 {I : fH} {x1 : Int} (h0 : fB bsJ I) (ha1 : (0 ≤ x1 ∧ x1 ≤ 23)) : fC ρ base n F xTc vwCl xTys D dA la gJ (fbz bsJ znJ (fKc []) I) xm_458 [.inr (.inr (some 740)), .inl x1] I (fun _ r => ∃ z, r = some (.inl z) ∧ (0 ≤ z ∧ z ≤ 1)) := by
  have hW : fzs [] (fKc []) := fKc_ok _
  refine f_meth (rb := rbJ) (J := []) 1 400 xG xin_458 x6_458 okJ (fB_self h0) ?_ ?_
  · exact fun q h => absurd h List.not_mem_nil
  · have hB0 := fB_self (zn := znJ) (K := fKc []) h0
    refine Exists.intro xm_267 (And.intro mi_267 (And.intro ⟨rfl, rfl, rfl, rfl⟩ (And.intro rfl ?_)))
    refine fcallp hB0 (ct_M_kindOf_31275 (fBz h0 hB0) (by omega)) ?_
    rintro _ ⟨z1, rfl, hz1⟩
    refine And.intro (by omega) (And.intro ?_ ?_)
    · intro c2
      refine And.intro (⟨by omega, by omega⟩) ?_
      exact ⟨_, rfl, by omega⟩
    · intro c3
      refine Exists.intro xm_245 (And.intro mi_245 (And.intro ⟨rfl, rfl, rfl, rfl⟩ (And.intro rfl ?_)))
      refine fcallp hB0 (ct_M_isGone_0de37 (fBz h0 hB0) (by omega)) ?_
      rintro _ ⟨z4, rfl, hz4⟩
      refine And.intro (by omega) (And.intro ?_ ?_)
      · intro c5
        refine And.intro (⟨by omega, by omega⟩) ?_
        exact ⟨_, rfl, by omega⟩
      · intro c6
        refine And.intro (⟨by omega, by omega⟩) ?_
        exact ⟨_, rfl, by omega⟩
abbrev jc_M_fitters_2c584_4 : Nat → fL → List fV → fH → Prop := fun m lv st I => ∃ (y1 : Int) (y2 : Int), lv = [(0, .inr (.inr (some 740))), (1, .inl y1), (2, .inl y2)] ∧ st = [] ∧ ((((-2147483648) ≤ y1 ∧ y1 ≤ 2147483647) ∧ (0 ≤ y2 ∧ y2 ≤ 24))) ∧ m = (1 + 1 * (24 - y2) : Int).toNat
set_option maxRecDepth 8000 in
theorem ct_M_fitters_2c584 {I : fH}  (h0 : fB bsJ I)  : fC ρ base n F xTc vwCl xTys D dA la gJ (fbz bsJ znJ (fKc []) I) xm_456 [.inr (.inr (some 740))] I (fun _ r => ∃ z, r = some (.inl z) ∧ ((-2147483648) ≤ z ∧ z ≤ 2147483647)) := by
  have hW : fzs [] (fKc []) := fKc_ok _
  refine f_meth (rb := rbJ) (J := [(4, jc_M_fitters_2c584_4)]) 26 400 xG xin_456 x6_456 okJ (fB_self h0) ?_ ?_
  · refine List.forall_mem_cons.mpr ⟨?_, fun q h => absurd h List.not_mem_nil⟩
    · rintro m _ _ I1 hB1 ⟨y1, y2, rfl, rfl, hb, hm⟩
      refine And.intro ⟨rfl, by decide, by decide⟩ ?_
      refine fload rL_741_741_8_8_1_0 h0 hB1 (by omega) ?_
      intro z1 lz1 uz1 qz1
      have pz1 := fld_at qz1 8 (by omega)
      refine And.intro (by omega) (And.intro ?_ ?_)
      · intro c2
        refine And.intro (True.intro) ?_
        exact ⟨_, rfl, by omega⟩
      · intro c3
        refine And.intro ⟨rfl, by decide, by decide⟩ ?_
        refine Exists.intro xm_247 (And.intro mi_247 (And.intro ⟨rfl, rfl, rfl, rfl⟩ (And.intro rfl ?_)))
        refine fcallp hB1 (ct_M_personAt_9b331 (fBz h0 hB1) (by omega)) ?_
        rintro _ ⟨_, rfl, rfl⟩
        refine fload rL_741_741_871_1009_6_0 h0 hB1 (by omega) ?_
        intro z5 lz5 uz5 qz5
        refine And.intro (by omega) (And.intro ?_ ?_)
        · intro c6
          intro z7 hz7 ez7 bz7
          exact fcutJ (I := I1) (j := jc_M_fitters_2c584_4) (lv' := [(0, .inr (.inr (some 740))), (1, .inl _), (2, .inl _)]) (And.intro rfl (And.intro rfl (And.intro rfl True.intro))) ⟨_, _, rfl, rfl, by omega, rfl⟩ (by omega)
        · intro c8
          refine And.intro ⟨rfl, by decide, by decide⟩ ?_
          refine Exists.intro xm_247 (And.intro mi_247 (And.intro ⟨rfl, rfl, rfl, rfl⟩ (And.intro rfl ?_)))
          refine fcallp hB1 (ct_M_personAt_9b331 (fBz h0 hB1) (by omega)) ?_
          rintro _ ⟨_, rfl, rfl⟩
          refine fload rL_741_741_873_1011_6_0 h0 hB1 (by omega) ?_
          intro z10 lz10 uz10 qz10
          refine And.intro (by omega) (And.intro ?_ ?_)
          · intro c11
            intro z12 hz12 ez12 bz12
            exact fcutJ (I := I1) (j := jc_M_fitters_2c584_4) (lv' := [(0, .inr (.inr (some 740))), (1, .inl _), (2, .inl _)]) (And.intro rfl (And.intro rfl (And.intro rfl True.intro))) ⟨_, _, rfl, rfl, by omega, rfl⟩ (by omega)
          · intro c13
            intro z14 hz14 ez14 bz14
            exact fcutJ (I := I1) (j := jc_M_fitters_2c584_4) (lv' := [(0, .inr (.inr (some 740))), (1, .inl _), (2, .inl _)]) (And.intro rfl (And.intro rfl (And.intro rfl True.intro))) ⟨_, _, rfl, rfl, by omega, rfl⟩ (by omega)
  · have hB0 := fB_self (zn := znJ) (K := fKc []) h0
    exact fcutJ (I := I) (j := jc_M_fitters_2c584_4) (lv' := [(0, .inr (.inr (some 740))), (1, .inl _), (2, .inl _)]) (And.intro rfl (And.intro rfl (And.intro rfl True.intro))) ⟨_, _, rfl, rfl, by omega, rfl⟩ (by omega)
set_option maxRecDepth 8000 in
theorem ct_X_sewn_05190 {I : fH} {x1 : Int} {x2 : Int} {x3 : Int} {x4 : Int} (h0 : fB bsJ I) (ha1 : ((-2147483648) ≤ x1 ∧ x1 ≤ 2147483647)) (ha2 : ((-2147483648) ≤ x2 ∧ x2 ≤ 2147483647)) (ha3 : ((-2147483648) ≤ x3 ∧ x3 ≤ 2147483647)) (ha4 : ((-2147483648) ≤ x4 ∧ x4 ≤ 2147483647)) : fC ρ base n F xTc vwCl xTys D dA la gJ (fbz bsJ znJ (fKc wz_81562) I) xm_185 [.inr (.inr (some 0)), .inl x1, .inl x2, .inl x3, .inl x4] I (fun _ r => ∃ z, r = some (.inl z) ∧ ((-2147483648) ≤ z ∧ z ≤ 2147483647)) := by
  have hW : fzs wz_81562 (fKc wz_81562) := fKc_ok _
  refine f_meth (rb := rbJ) (J := []) 1 400 xG xin_185 x6_185 okJ (fB_self h0) ?_ ?_
  · exact fun q h => absurd h List.not_mem_nil
  · have hB0 := fB_self (zn := znJ) (K := fKc wz_81562) h0
    refine Exists.intro xm_13 (And.intro mi_13 (And.intro ⟨rfl, rfl, rfl, rfl⟩ (And.intro True.intro ?_)))
    refine fcallp hB0 (ct_X_within_c27b1 (fBz h0 hB0) (by omega) (by omega) (by omega)) ?_
    rintro _ ⟨z1, rfl, hz1⟩
    refine And.intro (by omega) (And.intro ?_ ?_)
    · intro c2
      refine And.intro (True.intro) ?_
      exact ⟨_, rfl, by omega⟩
    · intro c3
      refine Exists.intro xm_13 (And.intro mi_13 (And.intro ⟨rfl, rfl, rfl, rfl⟩ (And.intro True.intro ?_)))
      refine fcallp hB0 (ct_X_within_c27b1 (fBz h0 hB0) (by omega) (by omega) (by omega)) ?_
      rintro _ ⟨z4, rfl, hz4⟩
      refine And.intro (by omega) (And.intro ?_ ?_)
      · intro c5
        refine And.intro (True.intro) ?_
        exact ⟨_, rfl, by omega⟩
      · intro c6
        refine And.intro ⟨rfl, by decide, by decide⟩ ?_
        refine Exists.intro xm_45 (And.intro mi_45 (And.intro ⟨rfl, rfl, rfl, rfl⟩ (And.intro rfl ?_)))
        refine fcallp hB0 (ct_City_isWork_11526 (fBz h0 hB0) (by omega)) ?_
        rintro _ ⟨z7, rfl, hz7⟩
        refine And.intro (by omega) (And.intro ?_ ?_)
        · intro c8
          refine And.intro (True.intro) ?_
          exact ⟨_, rfl, by omega⟩
        · intro c9
          refine Exists.intro xm_13 (And.intro mi_13 (And.intro ⟨rfl, rfl, rfl, rfl⟩ (And.intro True.intro ?_)))
          refine fcallp hB0 (ct_X_within_c27b1 (fBz h0 hB0) (by omega) (by omega) (by omega)) ?_
          rintro _ ⟨z10, rfl, hz10⟩
          refine And.intro (by omega) (And.intro ?_ ?_)
          · intro c11
            refine And.intro ⟨rfl, by decide, by decide⟩ ?_
            refine And.intro ⟨rfl, by decide, by decide⟩ ?_
            refine And.intro ⟨rfl, by decide, by decide⟩ ?_
            refine Exists.intro xm_178 (And.intro mi_178 (And.intro ⟨rfl, rfl, rfl, rfl⟩ (And.intro rfl ?_)))
            refine fcall _ h0 (fzs_sub (by decide +kernel) hW) hB0 (ct_Rounds_goRound_589d9 (fBz h0 hB0) (by omega) (by omega) (by omega) (by omega)) ?_
            rintro IhB13 _ hB13 fhB13 rfl
            refine And.intro ⟨rfl, by decide, by decide⟩ ?_
            refine And.intro ⟨rfl, by decide, by decide⟩ (fgetf fb_727_1 h0 hB13 ?_)
            intro z14 lz14 uz14 qz14
            refine And.intro (True.intro) ?_
            exact ⟨_, rfl, by omega⟩
          · intro c15
            refine And.intro (True.intro) ?_
            exact ⟨_, rfl, by omega⟩
set_option maxRecDepth 8000 in
theorem ct_X_swap_dabbb {I : fH} {x1 : Int} {x2 : Int} (h0 : fB bsJ I) (ha1 : (0 ≤ x1 ∧ x1 ≤ 3)) (ha2 : (0 ≤ x2 ∧ x2 ≤ 99)) : fC ρ base n F xTc vwCl xTys D dA la gJ (fbz bsJ znJ (fKc wz_2a2bc) I) xm_18 [.inr (.inr (some 223)), .inl x1, .inl x2] I (fun _ r => ∃ z, r = some (.inl z) ∧ (0 ≤ z ∧ z ≤ 99)) := by
  have hW : fzs wz_2a2bc (fKc wz_2a2bc) := fKc_ok _
  refine f_meth (rb := rbJ) (J := []) 1 400 xG xin_18 x6_18 okJ (fB_self h0) ?_ ?_
  · exact fun q h => absurd h List.not_mem_nil
  · have hB0 := fB_self (zn := znJ) (K := fKc wz_2a2bc) h0
    refine fload rL_223_223_0_3_1_0 h0 hB0 (by omega) ?_
    intro z1 lz1 uz1 qz1
    refine fstore rS_223_223_0_3_1_0 (fzs_sub (by decide +kernel) hW) (by omega) (by omega) ?_
    intro IhB2 ehB2 hB2
    have t3 := fup_self ehB2
    refine And.intro (True.intro) ?_
    exact ⟨_, rfl, by omega⟩
set_option maxRecDepth 8000 in
theorem ct_X_takes_78459 {I : fH} {x1 : Int} {x2 : Int} (h0 : fB bsJ I) (ha1 : ((-2147483648) ≤ x1 ∧ x1 ≤ 2147483647)) (ha2 : ((-2147483648) ≤ x2 ∧ x2 ≤ 2147483647)) : fC ρ base n F xTc vwCl xTys D dA la gJ (fbz bsJ znJ (fKc wz_2a2bc) I) xm_186 [.inr (.inr (some 0)), .inl x1, .inl x2] I (fun _ r => ∃ z, r = some (.inl z) ∧ ((0 ≤ z ∧ z ≤ 99) ∨ z = (-1000000001))) := by
  have hW : fzs wz_2a2bc (fKc wz_2a2bc) := fKc_ok _
  refine f_meth (rb := rbJ) (J := []) 1 400 xG xin_186 x6_186 okJ (fB_self h0) ?_ ?_
  · exact fun q h => absurd h List.not_mem_nil
  · have hB0 := fB_self (zn := znJ) (K := fKc wz_2a2bc) h0
    refine Exists.intro xm_13 (And.intro mi_13 (And.intro ⟨rfl, rfl, rfl, rfl⟩ (And.intro True.intro ?_)))
    refine fcallp hB0 (ct_X_within_c27b1 (fBz h0 hB0) (by omega) (by omega) (by omega)) ?_
    rintro _ ⟨z1, rfl, hz1⟩
    refine And.intro (by omega) (And.intro ?_ ?_)
    · intro c2
      refine And.intro (True.intro) ?_
      exact ⟨_, rfl, by omega⟩
    · intro c3
      refine Exists.intro xm_13 (And.intro mi_13 (And.intro ⟨rfl, rfl, rfl, rfl⟩ (And.intro True.intro ?_)))
      refine fcallp hB0 (ct_X_within_c27b1 (fBz h0 hB0) (by omega) (by omega) (by omega)) ?_
      rintro _ ⟨z4, rfl, hz4⟩
      refine And.intro (by omega) (And.intro ?_ ?_)
      · intro c5
        refine And.intro (True.intro) ?_
        exact ⟨_, rfl, by omega⟩
      · intro c6
        refine And.intro ⟨rfl, by decide, by decide⟩ ?_
        refine And.intro ⟨rfl, by decide, by decide⟩ ?_
        refine Exists.intro xm_18 (And.intro mi_18 (And.intro ⟨rfl, rfl, rfl, rfl⟩ (And.intro True.intro ?_)))
        refine fcall _ h0 (fzs_sub (by decide +kernel) hW) hB0 (ct_X_swap_dabbb (fBz h0 hB0) (by omega) (by omega)) ?_
        rintro IhB8 _ hB8 fhB8 ⟨z7, rfl, hz7⟩
        refine And.intro (True.intro) ?_
        exact ⟨_, rfl, by omega⟩
set_option maxRecDepth 8000 in
theorem ct_M_put_e8087 {I : fH} {x1 : Int} {x2 : Int} (h0 : fB bsJ I) (ha1 : (4560 ≤ x1 ∧ x1 ≤ 4563)) (ha2 : (0 ≤ x2 ∧ x2 ≤ 99)) : fC ρ base n F xTc vwCl xTys D dA la gJ (fbz bsJ znJ (fKc wz_0a5ca) I) xm_242 [.inr (.inr (some 740)), .inl x1, .inl x2] I (fun _ r => ∃ z, r = some (.inl z) ∧ (0 ≤ z ∧ z ≤ 99)) := by
  have hW : fzs wz_0a5ca (fKc wz_0a5ca) := fKc_ok _
  refine f_meth (rb := rbJ) (J := []) 1 400 xG xin_242 x6_242 okJ (fB_self h0) ?_ ?_
  · exact fun q h => absurd h List.not_mem_nil
  · have hB0 := fB_self (zn := znJ) (K := fKc wz_0a5ca) h0
    refine And.intro ⟨rfl, by decide, by decide⟩ ?_
    refine fload rL_741_741_4560_4563_1_0 h0 hB0 (by omega) ?_
    intro z1 lz1 uz1 qz1
    refine And.intro ⟨rfl, by decide, by decide⟩ ?_
    refine fstore rS_741_741_4560_4563_1_0 (fzs_sub (by decide +kernel) hW) (by omega) (by omega) ?_
    intro IhB2 ehB2 hB2
    have t3 := fup_self ehB2
    refine And.intro (True.intro) ?_
    exact ⟨_, rfl, by omega⟩
set_option maxRecDepth 8000 in
theorem ct_M_takes_3be66 {I : fH} {x1 : Int} {x2 : Int} (h0 : fB bsJ I) (ha1 : ((-2147483648) ≤ x1 ∧ x1 ≤ 2147483647)) (ha2 : ((-2147483648) ≤ x2 ∧ x2 ≤ 2147483647)) : fC ρ base n F xTc vwCl xTys D dA la gJ (fbz bsJ znJ (fKc wz_0a5ca) I) xm_462 [.inr (.inr (some 740)), .inl x1, .inl x2] I (fun _ r => ∃ z, r = some (.inl z) ∧ ((0 ≤ z ∧ z ≤ 99) ∨ z = (-1000000001))) := by
  have hW : fzs wz_0a5ca (fKc wz_0a5ca) := fKc_ok _
  refine f_meth (rb := rbJ) (J := []) 1 400 xG xin_462 x6_462 okJ (fB_self h0) ?_ ?_
  · exact fun q h => absurd h List.not_mem_nil
  · have hB0 := fB_self (zn := znJ) (K := fKc wz_0a5ca) h0
    refine And.intro (by omega) ?_
    refine Exists.intro xm_238 (And.intro mi_238 (And.intro ⟨rfl, rfl, rfl, rfl⟩ (And.intro True.intro ?_)))
    refine fcallp hB0 (ct_M_isIn_27230 (fBz h0 hB0) (by omega) (by omega) (by omega)) ?_
    rintro _ ⟨z1, rfl, hz1⟩
    refine And.intro (by omega) (And.intro ?_ ?_)
    · intro c2
      refine And.intro (True.intro) ?_
      exact ⟨_, rfl, by omega⟩
    · intro c3
      refine And.intro (by omega) ?_
      refine Exists.intro xm_238 (And.intro mi_238 (And.intro ⟨rfl, rfl, rfl, rfl⟩ (And.intro True.intro ?_)))
      refine fcallp hB0 (ct_M_isIn_27230 (fBz h0 hB0) (by omega) (by omega) (by omega)) ?_
      rintro _ ⟨z4, rfl, hz4⟩
      refine And.intro (by omega) (And.intro ?_ ?_)
      · intro c5
        refine And.intro (True.intro) ?_
        exact ⟨_, rfl, by omega⟩
      · intro c6
        refine Exists.intro xm_242 (And.intro mi_242 (And.intro ⟨rfl, rfl, rfl, rfl⟩ (And.intro rfl ?_)))
        refine fcall _ h0 (fzs_sub (by decide +kernel) hW) hB0 (ct_M_put_e8087 (fBz h0 hB0) (by omega) (by omega)) ?_
        rintro IhB8 _ hB8 fhB8 ⟨z7, rfl, hz7⟩
        refine And.intro (True.intro) ?_
        exact ⟨_, rfl, by omega⟩
set_option maxRecDepth 8000 in
theorem ct_X_swap_baf7c {I : fH} {x0 : Nat} {x1 : Int} {x2 : Int} (h0 : fB bsJ I) (ha0 : (225 ≤ x0 ∧ x0 ≤ 248)) (ha1 : (0 ≤ x1 ∧ x1 ≤ 3)) (ha2 : (0 ≤ x2 ∧ x2 ≤ 999)) : fC ρ base n F xTc vwCl xTys D dA la gJ (fbz bsJ znJ (fKc wz_e3030) I) xm_18 [.inr (.inr (some x0)), .inl x1, .inl x2] I (fun _ r => ∃ z, r = some (.inl z) ∧ ((-2147483648) ≤ z ∧ z ≤ 2147483647)) := by
  have hW : fzs wz_e3030 (fKc wz_e3030) := fKc_ok _
  refine f_meth (rb := rbJ) (J := []) 1 400 xG xin_18 x6_18 okJ (fB_self h0) ?_ ?_
  · exact fun q h => absurd h List.not_mem_nil
  · have hB0 := fB_self (zn := znJ) (K := fKc wz_e3030) h0
    refine fload rL_225_248_0_3_1_0 h0 hB0 (by omega) ?_
    intro z1 lz1 uz1 qz1
    refine fstore rS_225_248_0_3_1_0 (fzs_sub (by decide +kernel) hW) (by omega) (by omega) ?_
    intro IhB2 ehB2 hB2
    have t3 := fup_self ehB2
    refine And.intro (True.intro) ?_
    exact ⟨_, rfl, by omega⟩
set_option maxRecDepth 8000 in
theorem ct_X_harm_aee5c {I : fH} {x1 : Int} {x2 : Int} {x3 : Int} (h0 : fB bsJ I) (ha1 : ((-2147483648) ≤ x1 ∧ x1 ≤ 2147483647)) (ha2 : ((-2147483648) ≤ x2 ∧ x2 ≤ 2147483647)) (ha3 : ((-2147483648) ≤ x3 ∧ x3 ≤ 2147483647)) : fC ρ base n F xTc vwCl xTys D dA la gJ (fbz bsJ znJ (fKc wz_e3030) I) xm_187 [.inr (.inr (some 0)), .inl x1, .inl x2, .inl x3] I (fun _ r => ∃ z, r = some (.inl z) ∧ ((-2147483648) ≤ z ∧ z ≤ 2147483647)) := by
  have hW : fzs wz_e3030 (fKc wz_e3030) := fKc_ok _
  refine f_meth (rb := rbJ) (J := []) 1 400 xG xin_187 x6_187 okJ (fB_self h0) ?_ ?_
  · exact fun q h => absurd h List.not_mem_nil
  · have hB0 := fB_self (zn := znJ) (K := fKc wz_e3030) h0
    refine Exists.intro xm_13 (And.intro mi_13 (And.intro ⟨rfl, rfl, rfl, rfl⟩ (And.intro True.intro ?_)))
    refine fcallp hB0 (ct_X_within_c27b1 (fBz h0 hB0) (by omega) (by omega) (by omega)) ?_
    rintro _ ⟨z1, rfl, hz1⟩
    refine And.intro (by omega) (And.intro ?_ ?_)
    · intro c2
      refine And.intro (True.intro) ?_
      exact ⟨_, rfl, by omega⟩
    · intro c3
      refine Exists.intro xm_13 (And.intro mi_13 (And.intro ⟨rfl, rfl, rfl, rfl⟩ (And.intro True.intro ?_)))
      refine fcallp hB0 (ct_X_within_c27b1 (fBz h0 hB0) (by omega) (by omega) (by omega)) ?_
      rintro _ ⟨z4, rfl, hz4⟩
      refine And.intro (by omega) (And.intro ?_ ?_)
      · intro c5
        refine And.intro (True.intro) ?_
        exact ⟨_, rfl, by omega⟩
      · intro c6
        refine Exists.intro xm_13 (And.intro mi_13 (And.intro ⟨rfl, rfl, rfl, rfl⟩ (And.intro True.intro ?_)))
        refine fcallp hB0 (ct_X_within_c27b1 (fBz h0 hB0) (by omega) (by omega) (by omega)) ?_
        rintro _ ⟨z7, rfl, hz7⟩
        refine And.intro (by omega) (And.intro ?_ ?_)
        · intro c8
          refine And.intro ⟨rfl, by decide, by decide⟩ ?_
          refine And.intro ⟨rfl, by decide, by decide⟩ ?_
          refine And.intro ⟨rfl, by decide⟩ (And.intro (by omega) ?_)
          refine Exists.intro xm_18 (And.intro mi_18 (And.intro ⟨rfl, rfl, rfl, rfl⟩ (And.intro True.intro ?_)))
          refine fcall _ h0 (fzs_sub (by decide +kernel) hW) hB0 (ct_X_swap_baf7c (fBz h0 hB0) (by omega) (by omega) (by omega)) ?_
          rintro IhB10 _ hB10 fhB10 ⟨z9, rfl, hz9⟩
          refine And.intro (True.intro) ?_
          exact ⟨_, rfl, by omega⟩
        · intro c11
          refine And.intro (True.intro) ?_
          exact ⟨_, rfl, by omega⟩
set_option maxRecDepth 8000 in
theorem ct_M_put_68ae5 {I : fH} {x1 : Int} {x2 : Int} (h0 : fB bsJ I) (ha1 : ((4570 ≤ x1 ∧ x1 ≤ 4665) ∧ (x1 - 4570) % 4 ≤ 3)) (ha2 : (0 ≤ x2 ∧ x2 ≤ 999)) : fC ρ base n F xTc vwCl xTys D dA la gJ (fbz bsJ znJ (fKc wz_ad4fa) I) xm_242 [.inr (.inr (some 740)), .inl x1, .inl x2] I (fun _ r => ∃ z, r = some (.inl z) ∧ (0 ≤ z ∧ z ≤ 999)) := by
  have hW : fzs wz_ad4fa (fKc wz_ad4fa) := fKc_ok _
  refine f_meth (rb := rbJ) (J := []) 1 400 xG xin_242 x6_242 okJ (fB_self h0) ?_ ?_
  · exact fun q h => absurd h List.not_mem_nil
  · have hB0 := fB_self (zn := znJ) (K := fKc wz_ad4fa) h0
    refine And.intro ⟨rfl, by decide, by decide⟩ ?_
    refine fload rL_741_741_4570_4665_4_3 h0 hB0 (by omega) ?_
    intro z1 lz1 uz1 qz1
    refine And.intro ⟨rfl, by decide, by decide⟩ ?_
    refine fstore rS_741_741_4570_4665_4_3 (fzs_sub (by decide +kernel) hW) (by omega) (by omega) ?_
    intro IhB2 ehB2 hB2
    have t3 := fup_self ehB2
    refine And.intro (True.intro) ?_
    exact ⟨_, rfl, by omega⟩
set_option maxRecDepth 8000 in
theorem ct_M_harm_249d0 {I : fH} {x1 : Int} {x2 : Int} {x3 : Int} (h0 : fB bsJ I) (ha1 : ((-2147483648) ≤ x1 ∧ x1 ≤ 2147483647)) (ha2 : ((-2147483648) ≤ x2 ∧ x2 ≤ 2147483647)) (ha3 : ((-2147483648) ≤ x3 ∧ x3 ≤ 2147483647)) : fC ρ base n F xTc vwCl xTys D dA la gJ (fbz bsJ znJ (fKc wz_ad4fa) I) xm_463 [.inr (.inr (some 740)), .inl x1, .inl x2, .inl x3] I (fun _ r => ∃ z, r = some (.inl z) ∧ ((0 ≤ z ∧ z ≤ 999) ∨ z = (-1000000001))) := by
  have hW : fzs wz_ad4fa (fKc wz_ad4fa) := fKc_ok _
  refine f_meth (rb := rbJ) (J := []) 1 400 xG xin_463 x6_463 okJ (fB_self h0) ?_ ?_
  · exact fun q h => absurd h List.not_mem_nil
  · have hB0 := fB_self (zn := znJ) (K := fKc wz_ad4fa) h0
    refine And.intro (by omega) ?_
    refine Exists.intro xm_238 (And.intro mi_238 (And.intro ⟨rfl, rfl, rfl, rfl⟩ (And.intro True.intro ?_)))
    refine fcallp hB0 (ct_M_isIn_27230 (fBz h0 hB0) (by omega) (by omega) (by omega)) ?_
    rintro _ ⟨z1, rfl, hz1⟩
    refine And.intro (by omega) (And.intro ?_ ?_)
    · intro c2
      refine And.intro (True.intro) ?_
      exact ⟨_, rfl, by omega⟩
    · intro c3
      refine And.intro (by omega) ?_
      refine Exists.intro xm_238 (And.intro mi_238 (And.intro ⟨rfl, rfl, rfl, rfl⟩ (And.intro True.intro ?_)))
      refine fcallp hB0 (ct_M_isIn_27230 (fBz h0 hB0) (by omega) (by omega) (by omega)) ?_
      rintro _ ⟨z4, rfl, hz4⟩
      refine And.intro (by omega) (And.intro ?_ ?_)
      · intro c5
        refine And.intro (True.intro) ?_
        exact ⟨_, rfl, by omega⟩
      · intro c6
        refine And.intro (by omega) ?_
        refine Exists.intro xm_238 (And.intro mi_238 (And.intro ⟨rfl, rfl, rfl, rfl⟩ (And.intro True.intro ?_)))
        refine fcallp hB0 (ct_M_isIn_27230 (fBz h0 hB0) (by omega) (by omega) (by omega)) ?_
        rintro _ ⟨z7, rfl, hz7⟩
        refine And.intro (by omega) (And.intro ?_ ?_)
        · intro c8
          refine And.intro (True.intro) ?_
          exact ⟨_, rfl, by omega⟩
        · intro c9
          refine Exists.intro xm_242 (And.intro mi_242 (And.intro ⟨rfl, rfl, rfl, rfl⟩ (And.intro rfl ?_)))
          refine fcall _ h0 (fzs_sub (by decide +kernel) hW) hB0 (ct_M_put_68ae5 (fBz h0 hB0) (by omega) (by omega)) ?_
          rintro IhB11 _ hB11 fhB11 ⟨z10, rfl, hz10⟩
          refine And.intro (True.intro) ?_
          exact ⟨_, rfl, by omega⟩
abbrev jc_Dark_choose_7e957_10 : Nat → fL → List fV → fH → Prop := fun m lv st I => ∃ (y2 : Int) (y3 : Int) (y4 : Int) (y5 : Int) (y7 : Int), lv = [(0, .inr (.inr (some 732))), (1, .inr (.inr (some 211))), (2, .inl y2), (3, .inl y3), (4, .inl y4), (5, .inr (.inl y5)), (7, .inl y7)] ∧ st = [] ∧ (((0 ≤ y2 ∧ y2 ≤ 23) ∧ (0 ≤ y3 ∧ y3 ≤ 300) ∧ ((-2147483648) ≤ y4 ∧ y4 ≤ 2147483647) ∧ ((-9223372036854775808) ≤ y5 ∧ y5 ≤ 9223372036854775807) ∧ (0 ≤ y7 ∧ y7 ≤ 4))) ∧ m = (1 + 1 * (4 - y7) : Int).toNat
set_option maxRecDepth 8000 in
theorem ct_Dark_choose_7e957 {I : fH} {x2 : Int} {x3 : Int} (h0 : fB bsJ I) (ha2 : (0 ≤ x2 ∧ x2 ≤ 23)) (ha3 : (0 ≤ x3 ∧ x3 ≤ 300)) : fC ρ base n F xTc vwCl xTys D dA la gJ (fbz bsJ znJ (fKc wz_61c55) I) xm_190 [.inr (.inr (some 732)), .inr (.inr (some 211)), .inl x2, .inl x3] I (fun _ r => r = none) := by
  have hW : fzs wz_61c55 (fKc wz_61c55) := fKc_ok _
  refine f_meth (rb := rbJ) (J := [(10, jc_Dark_choose_7e957_10)]) 6 400 xG xin_190 x6_190 okJ (fB_self h0) ?_ ?_
  · refine List.forall_mem_cons.mpr ⟨?_, fun q h => absurd h List.not_mem_nil⟩
    · rintro m _ _ I1 hB1 ⟨y2, y3, y4, y5, y7, rfl, rfl, hb, hm⟩
      refine And.intro (by omega) (And.intro ?_ ?_)
      · intro c1
        refine And.intro ⟨rfl, by decide, by decide⟩ ?_
        refine fstore rS_733_733_0_300_1_0 (fzs_sub (by decide +kernel) hW) (by omega) (by omega) ?_
        intro IhB2 ehB2 hB2
        have t3 := fup_self ehB2
        refine And.intro ⟨rfl, by decide, by decide⟩ ?_
        refine fstore rS_734_734_0_300_1_0 (fzs_sub (by decide +kernel) hW) (by omega) (by omega) ?_
        intro IhB4 ehB4 hB4
        have t5 := fup_self ehB4
        exact rfl
      · intro c6
        refine And.intro ⟨rfl, by decide, by decide⟩ ?_
        refine fload rL_223_223_0_3_1_0 h0 hB1 (by omega) ?_
        intro z7 lz7 uz7 qz7
        refine And.intro (by omega) (And.intro ?_ ?_)
        · intro c8
          exact fcutJ (I := I1) (j := jc_Dark_choose_7e957_10) (lv' := [(0, .inr (.inr (some 732))), (1, .inr (.inr (some 211))), (2, .inl _), (3, .inl _), (4, .inl _), (5, .inr (.inl _)), (7, .inl _)]) (And.intro rfl (And.intro rfl (And.intro rfl (And.intro rfl (And.intro rfl (And.intro rfl (And.intro rfl True.intro))))))) ⟨_, _, _, _, _, rfl, rfl, by omega, rfl⟩ (by omega)
        · intro c9
          refine And.intro ⟨rfl, by decide, by decide⟩ ?_
          refine fload rL_733_733_0_300_1_0 h0 hB1 (by omega) ?_
          intro z10 lz10 uz10 qz10
          refine And.intro (by omega) (And.intro ?_ ?_)
          · intro c11
            exact fcutJ (I := I1) (j := jc_Dark_choose_7e957_10) (lv' := [(0, .inr (.inr (some 732))), (1, .inr (.inr (some 211))), (2, .inl _), (3, .inl _), (4, .inl _), (5, .inr (.inl _)), (7, .inl _)]) (And.intro rfl (And.intro rfl (And.intro rfl (And.intro rfl (And.intro rfl (And.intro rfl (And.intro rfl True.intro))))))) ⟨_, _, _, _, _, rfl, rfl, by omega, rfl⟩ (by omega)
          · intro c12
            refine And.intro ⟨rfl, by decide, by decide⟩ ?_
            refine fload rL_733_733_0_300_1_0 h0 hB1 (by omega) ?_
            intro z13 lz13 uz13 qz13
            refine And.intro ⟨rfl, by decide, by decide⟩ ?_
            refine And.intro ⟨rfl, by decide⟩ (And.intro (by omega) ?_)
            refine fload rL_225_248_0_3_1_0 h0 hB1 (by omega) ?_
            intro z14 lz14 uz14 qz14
            intro z15 hz15 ez15 bz15
            refine And.intro (by omega) (And.intro ?_ ?_)
            · intro c16
              refine And.intro ⟨rfl, by decide, by decide⟩ ?_
              refine fload rL_734_734_0_300_1_0 h0 hB1 (by omega) ?_
              intro z17 lz17 uz17 qz17
              intro z18 hz18 ez18
              refine And.intro (by omega) ?_
              intro z19 hz19 ez19
              exact fcutJ (I := I1) (j := jc_Dark_choose_7e957_10) (lv' := [(0, .inr (.inr (some 732))), (1, .inr (.inr (some 211))), (2, .inl _), (3, .inl _), (4, .inl _), (5, .inr (.inl _)), (7, .inl _)]) (And.intro rfl (And.intro rfl (And.intro rfl (And.intro rfl (And.intro rfl (And.intro rfl (And.intro rfl True.intro))))))) ⟨_, _, _, _, _, rfl, rfl, by omega, rfl⟩ (by omega)
            · intro c20
              refine And.intro (by omega) (And.intro ?_ ?_)
              · intro c21
                exact fcutJ (I := I1) (j := jc_Dark_choose_7e957_10) (lv' := [(0, .inr (.inr (some 732))), (1, .inr (.inr (some 211))), (2, .inl _), (3, .inl _), (4, .inl _), (5, .inr (.inl _)), (7, .inl _)]) (And.intro rfl (And.intro rfl (And.intro rfl (And.intro rfl (And.intro rfl (And.intro rfl (And.intro rfl True.intro))))))) ⟨_, _, _, _, _, rfl, rfl, by omega, rfl⟩ (by omega)
              · intro c22
                refine And.intro ⟨rfl, by decide, by decide⟩ ?_
                refine fload rL_734_734_0_300_1_0 h0 hB1 (by omega) ?_
                intro z23 lz23 uz23 qz23
                intro z24 hz24 ez24
                refine And.intro (by omega) ?_
                intro z25 hz25 ez25
                exact fcutJ (I := I1) (j := jc_Dark_choose_7e957_10) (lv' := [(0, .inr (.inr (some 732))), (1, .inr (.inr (some 211))), (2, .inl _), (3, .inl _), (4, .inl _), (5, .inr (.inl _)), (7, .inl _)]) (And.intro rfl (And.intro rfl (And.intro rfl (And.intro rfl (And.intro rfl (And.intro rfl (And.intro rfl True.intro))))))) ⟨_, _, _, _, _, rfl, rfl, by omega, rfl⟩ (by omega)
  · have hB0 := fB_self (zn := znJ) (K := fKc wz_61c55) h0
    exact fcutJ (I := I) (j := jc_Dark_choose_7e957_10) (lv' := [(0, .inr (.inr (some 732))), (1, .inr (.inr (some 211))), (2, .inl _), (3, .inl _), (4, .inl _), (5, .inr (.inl _)), (7, .inl _)]) (And.intro rfl (And.intro rfl (And.intro rfl (And.intro rfl (And.intro rfl (And.intro rfl (And.intro rfl True.intro))))))) ⟨_, _, _, _, _, rfl, rfl, by omega, rfl⟩ (by omega)
abbrev jc_Dark_leastHarm_e9db9_3 : Nat → fL → List fV → fH → Prop := fun m lv st I => ∃ (y2 : Int) (y3 : Int) (y4 : Int), lv = [(0, .inr (.inr (some 732))), (1, .inr (.inr (some 211))), (2, .inl y2), (3, .inl y3), (4, .inl y4)] ∧ st = [] ∧ (((1 ≤ y2 ∧ y2 ≤ 24) ∧ (0 ≤ y3 ∧ y3 ≤ 300) ∧ (0 ≤ y4 ∧ y4 ≤ 301))) ∧ m = (7576 + 1 * (301 - y4) : Int).toNat
abbrev jc_Dark_leastHarm_e9db9_36 : Nat → fL → List fV → fH → Prop := fun m lv st I => ∃ (y3 : Int) (y4 : Int), lv = [(0, .inr (.inr (some 732))), (1, .inr (.inr (some 211))), (3, .inl y3), (4, .inl y4)] ∧ st = [] ∧ (((0 ≤ y3 ∧ y3 ≤ 300) ∧ ((-1) ≤ y4 ∧ y4 ≤ 23))) ∧ m = (303 + 303 * (y4 - (-1)) : Int).toNat
abbrev jc_Dark_leastHarm_e9db9_44 : Nat → fL → List fV → fH → Prop := fun m lv st I => ∃ (y3 : Int) (y4 : Int) (y5 : Int), lv = [(0, .inr (.inr (some 732))), (1, .inr (.inr (some 211))), (3, .inl y3), (4, .inl y4), (5, .inl y5)] ∧ st = [] ∧ (((0 ≤ y3 ∧ y3 ≤ 300) ∧ (0 ≤ y4 ∧ y4 ≤ 23) ∧ ((-1) ≤ y5 ∧ y5 ≤ 300))) ∧ m = (1 + 303 * (y4 - (-1)) + 1 * (y5 - (-1)) : Int).toNat
set_option maxRecDepth 8000 in
theorem ct_Dark_leastHarm_e9db9 {I : fH} {x2 : Int} {x3 : Int} (h0 : fB bsJ I) (ha2 : (1 ≤ x2 ∧ x2 ≤ 24)) (ha3 : (0 ≤ x3 ∧ x3 ≤ 300)) : fC ρ base n F xTc vwCl xTys D dA la gJ (fbz bsJ znJ (fKc wz_61c55) I) xm_189 [.inr (.inr (some 732)), .inr (.inr (some 211)), .inl x2, .inl x3] I (fun _ r => ∃ z, r = some (.inl z) ∧ ((-2147483648) ≤ z ∧ z ≤ 2147483647)) := by
  have hW : fzs wz_61c55 (fKc wz_61c55) := fKc_ok _
  refine f_meth (rb := rbJ) (J := [(3, jc_Dark_leastHarm_e9db9_3), (36, jc_Dark_leastHarm_e9db9_36), (44, jc_Dark_leastHarm_e9db9_44)]) 7878 400 xG xin_189 x6_189 okJ (fB_self h0) ?_ ?_
  · refine List.forall_mem_cons.mpr ⟨?_, List.forall_mem_cons.mpr ⟨?_, List.forall_mem_cons.mpr ⟨?_, fun q h => absurd h List.not_mem_nil⟩⟩⟩
    · rintro m _ _ I1 hB1 ⟨y2, y3, y4, rfl, rfl, hb, hm⟩
      refine And.intro (by omega) (And.intro ?_ ?_)
      · intro c1
        exact fcutJ (I := I1) (j := jc_Dark_leastHarm_e9db9_36) (lv' := [(0, .inr (.inr (some 732))), (1, .inr (.inr (some 211))), (3, .inl _), (4, .inl _)]) (And.intro rfl (And.intro rfl (And.intro rfl (And.intro rfl True.intro)))) ⟨_, _, rfl, rfl, by omega, rfl⟩ (by omega)
      · intro c2
        refine And.intro ⟨rfl, by decide, by decide⟩ ?_
        refine fstore rS_733_733_0_300_1_0 (fzs_sub (by decide +kernel) hW) (by omega) (by omega) ?_
        intro IhB3 ehB3 hB3
        have t4 := fup_self ehB3
        refine And.intro ⟨rfl, by decide, by decide⟩ ?_
        refine fstore rS_734_734_0_300_1_0 (fzs_sub (by decide +kernel) hW) (by omega) (by omega) ?_
        intro IhB5 ehB5 hB5
        have t6 := fup_self ehB5
        exact fcutJ (I := IhB5) (j := jc_Dark_leastHarm_e9db9_3) (lv' := [(0, .inr (.inr (some 732))), (1, .inr (.inr (some 211))), (2, .inl _), (3, .inl _), (4, .inl _)]) (And.intro rfl (And.intro rfl (And.intro rfl (And.intro rfl (And.intro rfl True.intro))))) ⟨_, _, _, rfl, rfl, by omega, rfl⟩ (by omega)
    · rintro m _ _ I1 hB1 ⟨y3, y4, rfl, rfl, hb, hm⟩
      refine And.intro (by omega) (And.intro ?_ ?_)
      · intro c7
        refine And.intro ⟨rfl, by decide, by decide⟩ ?_
        refine fload rL_733_733_0_300_1_0 h0 hB1 (by omega) ?_
        intro z8 lz8 uz8 qz8
        refine And.intro (True.intro) ?_
        exact ⟨_, rfl, by omega⟩
      · intro c9
        exact fcutJ (I := I1) (j := jc_Dark_leastHarm_e9db9_44) (lv' := [(0, .inr (.inr (some 732))), (1, .inr (.inr (some 211))), (3, .inl _), (4, .inl _), (5, .inl _)]) (And.intro rfl (And.intro rfl (And.intro rfl (And.intro rfl (And.intro rfl True.intro))))) ⟨_, _, _, rfl, rfl, by omega, rfl⟩ (by omega)
    · rintro m _ _ I1 hB1 ⟨y3, y4, y5, rfl, rfl, hb, hm⟩
      refine And.intro (by omega) (And.intro ?_ ?_)
      · intro c10
        exact fcutJ (I := I1) (j := jc_Dark_leastHarm_e9db9_36) (lv' := [(0, .inr (.inr (some 732))), (1, .inr (.inr (some 211))), (3, .inl _), (4, .inl _)]) (And.intro rfl (And.intro rfl (And.intro rfl (And.intro rfl True.intro)))) ⟨_, _, rfl, rfl, by omega, rfl⟩ (by omega)
      · intro c11
        refine Exists.intro xm_190 (And.intro mi_190 (And.intro ⟨rfl, rfl, rfl, rfl⟩ (And.intro rfl ?_)))
        refine fcall _ h0 (fzs_sub (by decide +kernel) hW) hB1 (ct_Dark_choose_7e957 (fBz h0 hB1) (by omega) (by omega)) ?_
        rintro IhB13 _ hB13 fhB13 rfl
        exact fcutJ (I := IhB13) (j := jc_Dark_leastHarm_e9db9_44) (lv' := [(0, .inr (.inr (some 732))), (1, .inr (.inr (some 211))), (3, .inl _), (4, .inl _), (5, .inl _)]) (And.intro rfl (And.intro rfl (And.intro rfl (And.intro rfl (And.intro rfl True.intro))))) ⟨_, _, _, rfl, rfl, by omega, rfl⟩ (by omega)
  · have hB0 := fB_self (zn := znJ) (K := fKc wz_61c55) h0
    exact fcutJ (I := I) (j := jc_Dark_leastHarm_e9db9_3) (lv' := [(0, .inr (.inr (some 732))), (1, .inr (.inr (some 211))), (2, .inl _), (3, .inl _), (4, .inl _)]) (And.intro rfl (And.intro rfl (And.intro rfl (And.intro rfl (And.intro rfl True.intro))))) ⟨_, _, _, rfl, rfl, by omega, rfl⟩ (by omega)
set_option maxRecDepth 8000 in
theorem ct_X_dark_f8010 {I : fH} {x1 : Int} {x2 : Int} (h0 : fB bsJ I) (ha1 : ((-2147483648) ≤ x1 ∧ x1 ≤ 2147483647)) (ha2 : ((-2147483648) ≤ x2 ∧ x2 ≤ 2147483647)) : fC ρ base n F xTc vwCl xTys D dA la gJ (fbz bsJ znJ (fKc wz_61c55) I) xm_188 [.inr (.inr (some 0)), .inl x1, .inl x2] I (fun _ r => ∃ z, r = some (.inl z) ∧ ((-2147483648) ≤ z ∧ z ≤ 2147483647)) := by
  have hW : fzs wz_61c55 (fKc wz_61c55) := fKc_ok _
  refine f_meth (rb := rbJ) (J := []) 1 400 xG xin_188 x6_188 okJ (fB_self h0) ?_ ?_
  · exact fun q h => absurd h List.not_mem_nil
  · have hB0 := fB_self (zn := znJ) (K := fKc wz_61c55) h0
    refine Exists.intro xm_13 (And.intro mi_13 (And.intro ⟨rfl, rfl, rfl, rfl⟩ (And.intro True.intro ?_)))
    refine fcallp hB0 (ct_X_within_c27b1 (fBz h0 hB0) (by omega) (by omega) (by omega)) ?_
    rintro _ ⟨z1, rfl, hz1⟩
    refine And.intro (by omega) (And.intro ?_ ?_)
    · intro c2
      refine And.intro (True.intro) ?_
      exact ⟨_, rfl, by omega⟩
    · intro c3
      refine Exists.intro xm_13 (And.intro mi_13 (And.intro ⟨rfl, rfl, rfl, rfl⟩ (And.intro True.intro ?_)))
      refine fcallp hB0 (ct_X_within_c27b1 (fBz h0 hB0) (by omega) (by omega) (by omega)) ?_
      rintro _ ⟨z4, rfl, hz4⟩
      refine And.intro (by omega) (And.intro ?_ ?_)
      · intro c5
        refine And.intro ⟨rfl, by decide, by decide⟩ ?_
        refine And.intro ⟨rfl, by decide, by decide⟩ ?_
        refine Exists.intro xm_189 (And.intro mi_189 (And.intro ⟨rfl, rfl, rfl, rfl⟩ (And.intro rfl ?_)))
        refine fcall _ h0 (fzs_sub (by decide +kernel) hW) hB0 (ct_Dark_leastHarm_e9db9 (fBz h0 hB0) (by omega) (by omega)) ?_
        rintro IhB7 _ hB7 fhB7 ⟨z6, rfl, hz6⟩
        refine And.intro (True.intro) ?_
        exact ⟨_, rfl, by omega⟩
      · intro c8
        refine And.intro (True.intro) ?_
        exact ⟨_, rfl, by omega⟩
set_option maxRecDepth 8000 in
theorem ct_M_isNight_38061 {I : fH} {x0 : Int} {x1 : Int} (h0 : fB bsJ I) (ha0 : ((-2147483648) ≤ x0 ∧ x0 ≤ 2147483647)) (ha1 : ((-2147483648) ≤ x1 ∧ x1 ≤ 2147483647)) : fC ρ base n F xTc vwCl xTys D dA la gJ (fbz bsJ znJ (fKc []) I) xm_465 [.inl x0, .inl x1] I (fun _ r => ∃ z, r = some (.inl z) ∧ ((z = 1 ∧ 1 ≤ x0 ∧ x0 ≤ 24 ∧ 0 ≤ x1 ∧ x1 ≤ 300) ∨ z = 0)) := by
  have hW : fzs [] (fKc []) := fKc_ok _
  refine f_meth (rb := rbJ) (J := []) 1 400 xG xin_465 x6_465 okJ (fB_self h0) ?_ ?_
  · exact fun q h => absurd h List.not_mem_nil
  · have hB0 := fB_self (zn := znJ) (K := fKc []) h0
    refine And.intro (by omega) ?_
    refine Exists.intro xm_238 (And.intro mi_238 (And.intro ⟨rfl, rfl, rfl, rfl⟩ (And.intro True.intro ?_)))
    refine fcallp hB0 (ct_M_isIn_27230 (fBz h0 hB0) (by omega) (by omega) (by omega)) ?_
    rintro _ ⟨z1, rfl, hz1⟩
    refine And.intro (by omega) (And.intro ?_ ?_)
    · intro c2
      refine And.intro (⟨by omega, by omega⟩) ?_
      exact ⟨_, rfl, by omega⟩
    · intro c3
      refine And.intro (by omega) ?_
      refine Exists.intro xm_238 (And.intro mi_238 (And.intro ⟨rfl, rfl, rfl, rfl⟩ (And.intro True.intro ?_)))
      refine fcallp hB0 (ct_M_isIn_27230 (fBz h0 hB0) (by omega) (by omega) (by omega)) ?_
      rintro _ ⟨z4, rfl, hz4⟩
      refine And.intro (by omega) (And.intro ?_ ?_)
      · intro c5
        refine And.intro (⟨by omega, by omega⟩) ?_
        exact ⟨_, rfl, by omega⟩
      · intro c6
        refine And.intro (⟨by omega, by omega⟩) ?_
        exact ⟨_, rfl, by omega⟩
set_option maxRecDepth 8000 in
theorem ct_Dark_loadAt_007b1 {I : fH} {x1 : Int} {x2 : Int} (h0 : fB bsJ I) (ha1 : (0 ≤ x1 ∧ x1 ≤ 300)) (ha2 : (0 ≤ x2 ∧ x2 ≤ 23)) : fC ρ base n F xTc vwCl xTys D dA la gJ (fbz bsJ znJ (fKc []) I) xm_192 [.inr (.inr (some 732)), .inl x1, .inl x2] I (fun _ r => ∃ z, r = some (.inl z) ∧ (0 ≤ z ∧ z ≤ 3)) := by
  have hW : fzs [] (fKc []) := fKc_ok _
  refine f_meth (rb := rbJ) (J := []) 1 400 xG xin_192 x6_192 okJ (fB_self h0) ?_ ?_
  · exact fun q h => absurd h List.not_mem_nil
  · have hB0 := fB_self (zn := znJ) (K := fKc []) h0
    refine And.intro ⟨rfl, by decide, by decide⟩ ?_
    refine fload rL_734_734_0_300_1_0 h0 hB0 (by omega) ?_
    intro z1 lz1 uz1 qz1
    intro z2 hz2 ez2
    intro z3 hz3 ez3 bz3
    intro z4 hz4 ez4 bz4
    refine And.intro (True.intro) ?_
    exact ⟨_, rfl, by omega⟩
set_option maxRecDepth 8000 in
theorem ct_X_load_86bcf {I : fH} {x1 : Int} {x2 : Int} {x3 : Int} (h0 : fB bsJ I) (ha1 : ((-2147483648) ≤ x1 ∧ x1 ≤ 2147483647)) (ha2 : ((-2147483648) ≤ x2 ∧ x2 ≤ 2147483647)) (ha3 : ((-2147483648) ≤ x3 ∧ x3 ≤ 2147483647)) : fC ρ base n F xTc vwCl xTys D dA la gJ (fbz bsJ znJ (fKc wz_61c55) I) xm_191 [.inr (.inr (some 0)), .inl x1, .inl x2, .inl x3] I (fun _ r => ∃ z, r = some (.inl z) ∧ ((0 ≤ z ∧ z ≤ 3) ∨ z = (-1000000005) ∨ z = (-1000000001))) := by
  have hW : fzs wz_61c55 (fKc wz_61c55) := fKc_ok _
  refine f_meth (rb := rbJ) (J := []) 1 400 xG xin_191 x6_191 okJ (fB_self h0) ?_ ?_
  · exact fun q h => absurd h List.not_mem_nil
  · have hB0 := fB_self (zn := znJ) (K := fKc wz_61c55) h0
    refine Exists.intro xm_13 (And.intro mi_13 (And.intro ⟨rfl, rfl, rfl, rfl⟩ (And.intro True.intro ?_)))
    refine fcallp hB0 (ct_X_within_c27b1 (fBz h0 hB0) (by omega) (by omega) (by omega)) ?_
    rintro _ ⟨z1, rfl, hz1⟩
    refine And.intro (by omega) (And.intro ?_ ?_)
    · intro c2
      refine And.intro (True.intro) ?_
      exact ⟨_, rfl, by omega⟩
    · intro c3
      refine Exists.intro xm_13 (And.intro mi_13 (And.intro ⟨rfl, rfl, rfl, rfl⟩ (And.intro True.intro ?_)))
      refine fcallp hB0 (ct_X_within_c27b1 (fBz h0 hB0) (by omega) (by omega) (by omega)) ?_
      rintro _ ⟨z4, rfl, hz4⟩
      refine And.intro (by omega) (And.intro ?_ ?_)
      · intro c5
        refine And.intro (True.intro) ?_
        exact ⟨_, rfl, by omega⟩
      · intro c6
        refine Exists.intro xm_13 (And.intro mi_13 (And.intro ⟨rfl, rfl, rfl, rfl⟩ (And.intro True.intro ?_)))
        refine fcallp hB0 (ct_X_within_c27b1 (fBz h0 hB0) (by omega) (by omega) (by omega)) ?_
        rintro _ ⟨z7, rfl, hz7⟩
        refine And.intro (by omega) (And.intro ?_ ?_)
        · intro c8
          refine And.intro ⟨rfl, by decide, by decide⟩ ?_
          refine And.intro ⟨rfl, by decide, by decide⟩ ?_
          refine Exists.intro xm_189 (And.intro mi_189 (And.intro ⟨rfl, rfl, rfl, rfl⟩ (And.intro rfl ?_)))
          refine fcall _ h0 (fzs_sub (by decide +kernel) hW) hB0 (ct_Dark_leastHarm_e9db9 (fBz h0 hB0) (by omega) (by omega)) ?_
          rintro IhB10 _ hB10 fhB10 ⟨z9, rfl, hz9⟩
          refine And.intro (by omega) (And.intro ?_ ?_)
          · intro c11
            refine And.intro ⟨rfl, by decide, by decide⟩ ?_
            refine Exists.intro xm_192 (And.intro mi_192 (And.intro ⟨rfl, rfl, rfl, rfl⟩ (And.intro rfl ?_)))
            refine fcallp hB10 (ct_Dark_loadAt_007b1 (fBz h0 hB10) (by omega) (by omega)) ?_
            rintro _ ⟨z12, rfl, hz12⟩
            refine And.intro (True.intro) ?_
            exact ⟨_, rfl, by omega⟩
          · intro c13
            refine And.intro (True.intro) ?_
            exact ⟨_, rfl, by omega⟩
        · intro c14
          refine And.intro (True.intro) ?_
          exact ⟨_, rfl, by omega⟩
set_option maxRecDepth 8000 in
theorem ct_X_known_5372c {I : fH} {x1 : Int} {x2 : Int} (h0 : fB bsJ I) (ha1 : ((-2147483648) ≤ x1 ∧ x1 ≤ 2147483647)) (ha2 : ((-2147483648) ≤ x2 ∧ x2 ≤ 2147483647)) : fC ρ base n F xTc vwCl xTys D dA la gJ (fbz bsJ znJ (fKc []) I) xm_193 [.inr (.inr (some 0)), .inl x1, .inl x2] I (fun _ r => ∃ z, r = some (.inl z) ∧ ((-2147483648) ≤ z ∧ z ≤ 2147483647)) := by
  have hW : fzs [] (fKc []) := fKc_ok _
  refine f_meth (rb := rbJ) (J := []) 1 400 xG xin_193 x6_193 okJ (fB_self h0) ?_ ?_
  · exact fun q h => absurd h List.not_mem_nil
  · have hB0 := fB_self (zn := znJ) (K := fKc []) h0
    refine And.intro ⟨rfl, by decide, by decide⟩ ?_
    refine Exists.intro xm_17 (And.intro mi_17 (And.intro ⟨rfl, rfl, rfl, rfl⟩ (And.intro rfl ?_)))
    refine fcallp hB0 (ct_City_isCell_46f02 (fBz h0 hB0) (by omega)) ?_
    rintro _ ⟨z1, rfl, hz1⟩
    refine And.intro (by omega) (And.intro ?_ ?_)
    · intro c2
      refine And.intro (True.intro) ?_
      exact ⟨_, rfl, by omega⟩
    · intro c3
      refine Exists.intro xm_13 (And.intro mi_13 (And.intro ⟨rfl, rfl, rfl, rfl⟩ (And.intro True.intro ?_)))
      refine fcallp hB0 (ct_X_within_c27b1 (fBz h0 hB0) (by omega) (by omega) (by omega)) ?_
      rintro _ ⟨z4, rfl, hz4⟩
      refine And.intro (by omega) (And.intro ?_ ?_)
      · intro c5
        refine And.intro (True.intro) ?_
        exact ⟨_, rfl, by omega⟩
      · intro c6
        refine And.intro ⟨rfl, by decide, by decide⟩ ?_
        refine And.intro ⟨rfl, by decide, by decide⟩ ?_
        refine And.intro ⟨rfl, by decide, by decide⟩ ?_
        refine And.intro ⟨rfl, by decide⟩ (And.intro (by omega) ?_)
        refine fload rL_48_67_0_5_1_0 h0 hB0 (by omega) ?_
        intro z7 lz7 uz7 qz7
        refine And.intro (True.intro) ?_
        exact ⟨_, rfl, by omega⟩
set_option maxRecDepth 8000 in
theorem ct_M_known_05810 {I : fH} {x1 : Int} {x2 : Int} (h0 : fB bsJ I) (ha1 : ((-2147483648) ≤ x1 ∧ x1 ≤ 2147483647)) (ha2 : ((-2147483648) ≤ x2 ∧ x2 ≤ 2147483647)) : fC ρ base n F xTc vwCl xTys D dA la gJ (fbz bsJ znJ (fKc []) I) xm_470 [.inr (.inr (some 740)), .inl x1, .inl x2] I (fun _ r => ∃ z, r = some (.inl z) ∧ ((-2147483648) ≤ z ∧ z ≤ 2147483647)) := by
  have hW : fzs [] (fKc []) := fKc_ok _
  refine f_meth (rb := rbJ) (J := []) 1 400 xG xin_470 x6_470 okJ (fB_self h0) ?_ ?_
  · exact fun q h => absurd h List.not_mem_nil
  · have hB0 := fB_self (zn := znJ) (K := fKc []) h0
    refine Exists.intro xm_241 (And.intro mi_241 (And.intro ⟨rfl, rfl, rfl, rfl⟩ (And.intro rfl ?_)))
    refine fcallp hB0 (ct_M_isCell_45859 (fBz h0 hB0) (by omega)) ?_
    rintro _ ⟨z1, rfl, hz1⟩
    refine And.intro (by omega) (And.intro ?_ ?_)
    · intro c2
      refine And.intro (True.intro) ?_
      exact ⟨_, rfl, by omega⟩
    · intro c3
      refine And.intro (by omega) ?_
      refine Exists.intro xm_238 (And.intro mi_238 (And.intro ⟨rfl, rfl, rfl, rfl⟩ (And.intro True.intro ?_)))
      refine fcallp hB0 (ct_M_isIn_27230 (fBz h0 hB0) (by omega) (by omega) (by omega)) ?_
      rintro _ ⟨z4, rfl, hz4⟩
      refine And.intro (by omega) (And.intro ?_ ?_)
      · intro c5
        refine And.intro ⟨rfl, by decide, by decide⟩ ?_
        refine Exists.intro xm_239 (And.intro mi_239 (And.intro ⟨rfl, rfl, rfl, rfl⟩ (And.intro rfl ?_)))
        refine fcallp hB0 (ct_M_cellAt_c15f4 (fBz h0 hB0) (by omega)) ?_
        rintro _ ⟨_, rfl, rfl⟩
        refine fload rL_741_741_47_427_20_0 h0 hB0 (by omega) ?_
        intro z7 lz7 uz7 qz7
        refine And.intro (by omega) (And.intro ?_ ?_)
        · intro c8
          refine And.intro ⟨rfl, by decide, by decide⟩ ?_
          refine Exists.intro xm_239 (And.intro mi_239 (And.intro ⟨rfl, rfl, rfl, rfl⟩ (And.intro rfl ?_)))
          refine fcallp hB0 (ct_M_cellAt_c15f4 (fBz h0 hB0) (by omega)) ?_
          rintro _ ⟨_, rfl, rfl⟩
          refine fload rL_741_741_42_427_20_5 h0 hB0 (by omega) ?_
          intro z10 lz10 uz10 qz10
          refine And.intro (True.intro) ?_
          exact ⟨_, rfl, by omega⟩
        · intro c11
          refine And.intro (True.intro) ?_
          exact ⟨_, rfl, by omega⟩
      · intro c12
        refine And.intro (True.intro) ?_
        exact ⟨_, rfl, by omega⟩
set_option maxRecDepth 8000 in
theorem ct_Desk_addShip_b0073 {I : fH} {x1 : Int} {x2 : Int} {x3 : Int} (h0 : fB bsJ I) (ha1 : (2 ≤ x1 ∧ x1 ≤ 9999)) (ha2 : (0 ≤ x2 ∧ x2 ≤ 9999)) (ha3 : (1 ≤ x3 ∧ x3 ≤ 999)) : fC ρ base n F xTc vwCl xTys D dA la gJ (fbz bsJ znJ (fKc wz_f0603) I) xm_195 [.inr (.inr (some 211)), .inl x1, .inl x2, .inl x3] I (fun _ r => ∃ z, r = some (.inl z) ∧ ((0 ≤ z ∧ z ≤ 5) ∨ z = (-1000000003))) := by
  have hW : fzs wz_f0603 (fKc wz_f0603) := fKc_ok _
  refine f_meth (rb := rbJ) (J := []) 1 400 xG xin_195 x6_195 okJ (fB_self h0) ?_ ?_
  · exact fun q h => absurd h List.not_mem_nil
  · have hB0 := fB_self (zn := znJ) (K := fKc wz_f0603) h0
    refine And.intro ⟨rfl, by decide, by decide⟩ (fgetf fb_211_8 h0 hB0 ?_)
    intro z1 lz1 uz1 qz1
    refine And.intro (by omega) (And.intro ?_ ?_)
    · intro c2
      refine And.intro ⟨rfl, by decide, by decide⟩ ?_
      refine fstore rS_249_249_0_5_1_0 (fzs_sub (by decide +kernel) hW) (by omega) (by omega) ?_
      intro IhB3 ehB3 hB3
      have t4 := fup_self ehB3
      have t5 : IhB3 211 8 = I 211 8 := (congrFun (congrFun ehB3 211) 8).trans (fup_ne (by omega))
      refine And.intro ⟨rfl, by decide, by decide⟩ ?_
      refine fstore rS_250_250_0_5_1_0 (fzs_sub (by decide +kernel) hW) (by omega) (by omega) ?_
      intro IhB6 ehB6 hB6
      have t7 := fup_self ehB6
      have t8 : IhB6 211 8 = IhB3 211 8 := (congrFun (congrFun ehB6 211) 8).trans (fup_ne (by omega))
      refine And.intro ⟨rfl, by decide, by decide⟩ ?_
      refine fstore rS_251_251_0_5_1_0 (fzs_sub (by decide +kernel) hW) (by omega) (by omega) ?_
      intro IhB9 ehB9 hB9
      have t10 := fup_self ehB9
      have t11 : IhB9 211 8 = IhB6 211 8 := (congrFun (congrFun ehB9 211) 8).trans (fup_ne (by omega))
      refine And.intro ⟨rfl, by decide, by decide⟩ (And.intro rfl (And.intro (Or.inl rfl) (fputf fb_211_8 (by decide +kernel) hW (by omega) ?_)))
      intro IhB12 ehB12 hB12
      have t13 := fup_at ehB12 8 (by omega)
      refine And.intro (True.intro) ?_
      exact ⟨_, rfl, by omega⟩
    · intro c14
      refine And.intro (True.intro) ?_
      exact ⟨_, rfl, by omega⟩
set_option maxRecDepth 8000 in
theorem ct_X_ship_594a6 {I : fH} {x1 : Int} {x2 : Int} {x3 : Int} (h0 : fB bsJ I) (ha1 : ((-2147483648) ≤ x1 ∧ x1 ≤ 2147483647)) (ha2 : ((-2147483648) ≤ x2 ∧ x2 ≤ 2147483647)) (ha3 : ((-2147483648) ≤ x3 ∧ x3 ≤ 2147483647)) : fC ρ base n F xTc vwCl xTys D dA la gJ (fbz bsJ znJ (fKc wz_f0603) I) xm_194 [.inr (.inr (some 0)), .inl x1, .inl x2, .inl x3] I (fun _ r => ∃ z, r = some (.inl z) ∧ ((0 ≤ z ∧ z ≤ 5) ∨ z = (-1000000003) ∨ z = (-1000000001))) := by
  have hW : fzs wz_f0603 (fKc wz_f0603) := fKc_ok _
  refine f_meth (rb := rbJ) (J := []) 1 400 xG xin_194 x6_194 okJ (fB_self h0) ?_ ?_
  · exact fun q h => absurd h List.not_mem_nil
  · have hB0 := fB_self (zn := znJ) (K := fKc wz_f0603) h0
    refine Exists.intro xm_13 (And.intro mi_13 (And.intro ⟨rfl, rfl, rfl, rfl⟩ (And.intro True.intro ?_)))
    refine fcallp hB0 (ct_X_within_c27b1 (fBz h0 hB0) (by omega) (by omega) (by omega)) ?_
    rintro _ ⟨z1, rfl, hz1⟩
    refine And.intro (by omega) (And.intro ?_ ?_)
    · intro c2
      refine And.intro (True.intro) ?_
      exact ⟨_, rfl, by omega⟩
    · intro c3
      refine Exists.intro xm_13 (And.intro mi_13 (And.intro ⟨rfl, rfl, rfl, rfl⟩ (And.intro True.intro ?_)))
      refine fcallp hB0 (ct_X_within_c27b1 (fBz h0 hB0) (by omega) (by omega) (by omega)) ?_
      rintro _ ⟨z4, rfl, hz4⟩
      refine And.intro (by omega) (And.intro ?_ ?_)
      · intro c5
        refine And.intro (True.intro) ?_
        exact ⟨_, rfl, by omega⟩
      · intro c6
        refine Exists.intro xm_13 (And.intro mi_13 (And.intro ⟨rfl, rfl, rfl, rfl⟩ (And.intro True.intro ?_)))
        refine fcallp hB0 (ct_X_within_c27b1 (fBz h0 hB0) (by omega) (by omega) (by omega)) ?_
        rintro _ ⟨z7, rfl, hz7⟩
        refine And.intro (by omega) (And.intro ?_ ?_)
        · intro c8
          refine And.intro ⟨rfl, by decide, by decide⟩ ?_
          refine Exists.intro xm_195 (And.intro mi_195 (And.intro ⟨rfl, rfl, rfl, rfl⟩ (And.intro rfl ?_)))
          refine fcall _ h0 (fzs_sub (by decide +kernel) hW) hB0 (ct_Desk_addShip_b0073 (fBz h0 hB0) (by omega) (by omega) (by omega)) ?_
          rintro IhB10 _ hB10 fhB10 ⟨z9, rfl, hz9⟩
          refine And.intro (True.intro) ?_
          exact ⟨_, rfl, by omega⟩
        · intro c11
          refine And.intro (True.intro) ?_
          exact ⟨_, rfl, by omega⟩
set_option maxRecDepth 8000 in
theorem ct_M_ship_fd85e {I : fH} {x1 : Int} {x2 : Int} {x3 : Int} (h0 : fB bsJ I) (ha1 : ((-2147483648) ≤ x1 ∧ x1 ≤ 2147483647)) (ha2 : ((-2147483648) ≤ x2 ∧ x2 ≤ 2147483647)) (ha3 : ((-2147483648) ≤ x3 ∧ x3 ≤ 2147483647)) : fC ρ base n F xTc vwCl xTys D dA la gJ (fbz bsJ znJ (fKc wz_ac3fb) I) xm_471 [.inr (.inr (some 740)), .inl x1, .inl x2, .inl x3] I (fun _ r => ∃ z, r = some (.inl z) ∧ ((0 ≤ z ∧ z ≤ 5) ∨ z = (-1000000003) ∨ z = (-1000000001))) := by
  have hW : fzs wz_ac3fb (fKc wz_ac3fb) := fKc_ok _
  refine f_meth (rb := rbJ) (J := []) 1 400 xG xin_471 x6_471 okJ (fB_self h0) ?_ ?_
  · exact fun q h => absurd h List.not_mem_nil
  · have hB0 := fB_self (zn := znJ) (K := fKc wz_ac3fb) h0
    refine And.intro (by omega) ?_
    refine Exists.intro xm_238 (And.intro mi_238 (And.intro ⟨rfl, rfl, rfl, rfl⟩ (And.intro True.intro ?_)))
    refine fcallp hB0 (ct_M_isIn_27230 (fBz h0 hB0) (by omega) (by omega) (by omega)) ?_
    rintro _ ⟨z1, rfl, hz1⟩
    refine And.intro (by omega) (And.intro ?_ ?_)
    · intro c2
      refine And.intro (True.intro) ?_
      exact ⟨_, rfl, by omega⟩
    · intro c3
      refine And.intro (by omega) ?_
      refine Exists.intro xm_238 (And.intro mi_238 (And.intro ⟨rfl, rfl, rfl, rfl⟩ (And.intro True.intro ?_)))
      refine fcallp hB0 (ct_M_isIn_27230 (fBz h0 hB0) (by omega) (by omega) (by omega)) ?_
      rintro _ ⟨z4, rfl, hz4⟩
      refine And.intro (by omega) (And.intro ?_ ?_)
      · intro c5
        refine And.intro (True.intro) ?_
        exact ⟨_, rfl, by omega⟩
      · intro c6
        refine And.intro (by omega) ?_
        refine Exists.intro xm_238 (And.intro mi_238 (And.intro ⟨rfl, rfl, rfl, rfl⟩ (And.intro True.intro ?_)))
        refine fcallp hB0 (ct_M_isIn_27230 (fBz h0 hB0) (by omega) (by omega) (by omega)) ?_
        rintro _ ⟨z7, rfl, hz7⟩
        refine And.intro (by omega) (And.intro ?_ ?_)
        · intro c8
          refine And.intro ⟨rfl, by decide, by decide⟩ ?_
          refine fload rL_741_741_10_10_1_0 h0 hB0 (by omega) ?_
          intro z9 lz9 uz9 qz9
          have pz9 := fld_at qz9 10 (by omega)
          refine And.intro (by omega) (And.intro ?_ ?_)
          · intro c10
            refine And.intro ⟨rfl, by decide, by decide⟩ ?_
            refine fload rL_741_741_10_10_1_0 h0 hB0 (by omega) ?_
            intro z11 lz11 uz11 qz11
            have pz11 := fld_at qz11 10 (by omega)
            refine And.intro ⟨rfl, by decide, by decide⟩ ?_
            refine fstore rS_741_741_4330_4345_3_0 (fzs_sub (by decide +kernel) hW) (by omega) (by omega) ?_
            intro IhB12 ehB12 hB12
            have t13 := fup_self ehB12
            have t14 : IhB12 741 10 = I 741 10 := (congrFun (congrFun ehB12 741) 10).trans (fup_ne (by omega))
            refine And.intro ⟨rfl, by decide, by decide⟩ ?_
            refine fstore rS_741_741_4331_4346_3_0 (fzs_sub (by decide +kernel) hW) (by omega) (by omega) ?_
            intro IhB15 ehB15 hB15
            have t16 := fup_self ehB15
            have t17 : IhB15 741 10 = IhB12 741 10 := (congrFun (congrFun ehB15 741) 10).trans (fup_ne (by omega))
            refine And.intro ⟨rfl, by decide, by decide⟩ ?_
            refine fstore rS_741_741_4332_4347_3_0 (fzs_sub (by decide +kernel) hW) (by omega) (by omega) ?_
            intro IhB18 ehB18 hB18
            have t19 := fup_self ehB18
            have t20 : IhB18 741 10 = IhB15 741 10 := (congrFun (congrFun ehB18 741) 10).trans (fup_ne (by omega))
            refine And.intro ⟨rfl, by decide, by decide⟩ ?_
            refine fload rL_741_741_10_10_1_0 h0 hB18 (by omega) ?_
            intro z21 lz21 uz21 qz21
            have pz21 := fld_at qz21 10 (by omega)
            refine fstore rS_741_741_10_10_1_0 (fzs_sub (by decide +kernel) hW) (by omega) (by omega) ?_
            intro IhB22 ehB22 hB22
            have t23 := fup_self ehB22
            have t24 := fup_at ehB22 10 (by omega)
            refine And.intro ⟨rfl, by decide, by decide⟩ ?_
            refine fload rL_741_741_10_10_1_0 h0 hB22 (by omega) ?_
            intro z25 lz25 uz25 qz25
            have pz25 := fld_at qz25 10 (by omega)
            refine And.intro (True.intro) ?_
            exact ⟨_, rfl, by omega⟩
          · intro c26
            refine And.intro (True.intro) ?_
            exact ⟨_, rfl, by omega⟩
        · intro c27
          refine And.intro (True.intro) ?_
          exact ⟨_, rfl, by omega⟩
set_option maxRecDepth 8000 in
theorem ct_Math_floorMod_805d8 {I : fH} {x0 : Int} {x1 : Int} (h0 : fB bsJ I) (ha0 : ((-2147483648) ≤ x0 ∧ x0 ≤ 2147483647)) (ha1 : (1 ≤ x1 ∧ x1 ≤ 2147483647)) : fC ρ base n F xTc vwCl xTys D dA la gJ (fbz bsJ znJ (fKc []) I) xm_500 [.inl x0, .inl x1] I (fun _ r => ∃ z, r = some (.inl z) ∧ ((-2147483648) ≤ z ∧ z ≤ 2147483647)) := by
  have hW : fzs [] (fKc []) := fKc_ok _
  refine f_meth (rb := rbJ) (J := []) 1 400 xG xin_500 x6_500 okJ (fB_self h0) ?_ ?_
  · exact fun q h => absurd h List.not_mem_nil
  · have hB0 := fB_self (zn := znJ) (K := fKc []) h0
    refine And.intro (And.intro (by omega) (And.intro (by omega) (And.intro (by omega) rfl))) ?_
    intro z1 hz1 ez1 dz1
    intro z2 hz2 ez2
    refine And.intro (by omega) (And.intro ?_ ?_)
    · intro c3
      refine And.intro (True.intro) ?_
      exact ⟨_, rfl, by omega⟩
    · intro c4
      refine And.intro (by omega) (And.intro ?_ ?_)
      · intro c5
        refine And.intro (True.intro) ?_
        exact ⟨_, rfl, by omega⟩
      · intro c6
        intro z7 hz7 ez7 bz7
        refine And.intro (True.intro) ?_
        exact ⟨_, rfl, by omega⟩
abbrev jc_Desk_nextMeeting_028da_17 : Nat → fL → List fV → fH → Prop := fun m lv st I => ∃ (y1 : Int) (y3 : Int) (y4 : Int), lv = [(0, .inr (.inr (some 211))), (1, .inl y1), (2, .inr (.inr (some 1))), (3, .inl y3), (4, .inl y4)] ∧ st = [] ∧ (((0 ≤ y1 ∧ y1 ≤ 5) ∧ (1 ≤ y3 ∧ y3 ≤ 2147483647) ∧ (0 ≤ y4 ∧ y4 ≤ 12001))) ∧ m = (1 + 1 * (12001 - y4) : Int).toNat
set_option maxRecDepth 8000 in
theorem ct_Desk_nextMeeting_028da {I : fH} {x1 : Int} (h0 : fB bsJ I) (ha1 : (0 ≤ x1 ∧ x1 ≤ 5)) : fC ρ base n F xTc vwCl xTys D dA la gJ (fbz bsJ znJ (fKc []) I) xm_197 [.inr (.inr (some 211)), .inl x1, .inr (.inr (some 1))] I (fun _ r => ∃ z, r = some (.inl z) ∧ ((-2147483648) ≤ z ∧ z ≤ 2147483647)) := by
  have hW : fzs [] (fKc []) := fKc_ok _
  refine f_meth (rb := rbJ) (J := [(17, jc_Desk_nextMeeting_028da_17)]) 12003 400 xG xin_197 x6_197 okJ (fB_self h0) ?_ ?_
  · refine List.forall_mem_cons.mpr ⟨?_, fun q h => absurd h List.not_mem_nil⟩
    · rintro m _ _ I1 hB1 ⟨y1, y3, y4, rfl, rfl, hb, hm⟩
      refine And.intro (by omega) (And.intro ?_ ?_)
      · intro c1
        refine And.intro (True.intro) ?_
        exact ⟨_, rfl, by omega⟩
      · intro c2
        refine And.intro ⟨rfl, by decide, by decide⟩ (fgetf fb_1_9 h0 hB1 ?_)
        intro z3 lz3 uz3 qz3
        intro z4 hz4 ez4 bz4
        refine And.intro ⟨rfl, by decide, by decide⟩ ?_
        refine fload rL_250_250_0_5_1_0 h0 hB1 (by omega) ?_
        intro z5 lz5 uz5 qz5
        intro z6 hz6 ez6 bz6
        refine Exists.intro xm_500 (And.intro mi_500 (And.intro ⟨rfl, rfl, rfl, rfl⟩ (And.intro True.intro ?_)))
        refine fcallp hB1 (ct_Math_floorMod_805d8 (fBz h0 hB1) (by omega) (by omega)) ?_
        rintro _ ⟨z7, rfl, hz7⟩
        refine And.intro ⟨rfl, by decide, by decide⟩ ?_
        refine fload rL_251_251_0_5_1_0 h0 hB1 (by omega) ?_
        intro z8 lz8 uz8 qz8
        refine And.intro (by omega) (And.intro ?_ ?_)
        · intro c9
          exact fcutJ (I := I1) (j := jc_Desk_nextMeeting_028da_17) (lv' := [(0, .inr (.inr (some 211))), (1, .inl _), (2, .inr (.inr (some 1))), (3, .inl _), (4, .inl _)]) (And.intro rfl (And.intro rfl (And.intro rfl (And.intro rfl (And.intro rfl True.intro))))) ⟨_, _, _, rfl, rfl, by omega, rfl⟩ (by omega)
        · intro c10
          refine And.intro ⟨rfl, by decide, by decide⟩ (fgetf fb_1_6 h0 hB1 ?_)
          intro z11 lz11 uz11 qz11
          intro z12 hz12 ez12 bz12
          refine Exists.intro xm_70 (And.intro mi_70 (And.intro ⟨rfl, rfl, rfl, rfl⟩ (And.intro rfl ?_)))
          refine fcallp hB1 (ct_City_isDayAt_bb9dd (fBz h0 hB1) (by omega)) ?_
          rintro _ ⟨z13, rfl, hz13⟩
          refine And.intro (by omega) (And.intro ?_ ?_)
          · intro c14
            exact fcutJ (I := I1) (j := jc_Desk_nextMeeting_028da_17) (lv' := [(0, .inr (.inr (some 211))), (1, .inl _), (2, .inr (.inr (some 1))), (3, .inl _), (4, .inl _)]) (And.intro rfl (And.intro rfl (And.intro rfl (And.intro rfl (And.intro rfl True.intro))))) ⟨_, _, _, rfl, rfl, by omega, rfl⟩ (by omega)
          · intro c15
            refine And.intro (True.intro) ?_
            exact ⟨_, rfl, by omega⟩
  · have hB0 := fB_self (zn := znJ) (K := fKc []) h0
    refine And.intro ⟨rfl, by decide, by decide⟩ ?_
    refine fload rL_249_249_0_5_1_0 h0 hB0 (by omega) ?_
    intro z16 lz16 uz16 qz16
    refine And.intro (by omega) (And.intro ?_ ?_)
    · intro c17
      exact fcutJ (I := I) (j := jc_Desk_nextMeeting_028da_17) (lv' := [(0, .inr (.inr (some 211))), (1, .inl _), (2, .inr (.inr (some 1))), (3, .inl _), (4, .inl _)]) (And.intro rfl (And.intro rfl (And.intro rfl (And.intro rfl (And.intro rfl True.intro))))) ⟨_, _, _, rfl, rfl, by omega, rfl⟩ (by omega)
    · intro c18
      refine And.intro (True.intro) ?_
      exact ⟨_, rfl, by omega⟩
set_option maxRecDepth 8000 in
theorem ct_X_window_54b3b {I : fH} {x1 : Int} (h0 : fB bsJ I) (ha1 : ((-2147483648) ≤ x1 ∧ x1 ≤ 2147483647)) : fC ρ base n F xTc vwCl xTys D dA la gJ (fbz bsJ znJ (fKc []) I) xm_196 [.inr (.inr (some 0)), .inl x1] I (fun _ r => ∃ z, r = some (.inl z) ∧ ((-2147483648) ≤ z ∧ z ≤ 2147483647)) := by
  have hW : fzs [] (fKc []) := fKc_ok _
  refine f_meth (rb := rbJ) (J := []) 1 400 xG xin_196 x6_196 okJ (fB_self h0) ?_ ?_
  · exact fun q h => absurd h List.not_mem_nil
  · have hB0 := fB_self (zn := znJ) (K := fKc []) h0
    refine And.intro ⟨rfl, by decide, by decide⟩ ?_
    refine And.intro ⟨rfl, by decide, by decide⟩ (fgetf fb_211_8 h0 hB0 ?_)
    intro z1 lz1 uz1 qz1
    refine Exists.intro xm_13 (And.intro mi_13 (And.intro ⟨rfl, rfl, rfl, rfl⟩ (And.intro True.intro ?_)))
    refine fcallp hB0 (ct_X_within_c27b1 (fBz h0 hB0) (by omega) (by omega) (by omega)) ?_
    rintro _ ⟨z2, rfl, hz2⟩
    refine And.intro (by omega) (And.intro ?_ ?_)
    · intro c3
      refine And.intro (True.intro) ?_
      exact ⟨_, rfl, by omega⟩
    · intro c4
      refine And.intro ⟨rfl, by decide, by decide⟩ ?_
      refine And.intro ⟨rfl, by decide, by decide⟩ ?_
      refine Exists.intro xm_197 (And.intro mi_197 (And.intro ⟨rfl, rfl, rfl, rfl⟩ (And.intro rfl ?_)))
      refine fcallp hB0 (ct_Desk_nextMeeting_028da (fBz h0 hB0) (by omega)) ?_
      rintro _ ⟨z5, rfl, hz5⟩
      refine And.intro (True.intro) ?_
      exact ⟨_, rfl, by omega⟩
abbrev jc_M_window_94a7b_37 : Nat → fL → List fV → fH → Prop := fun m lv st I => ∃ (y1 : Int) (y2 : Int) (y3 : Int), lv = [(0, .inr (.inr (some 740))), (1, .inl y1), (2, .inl y2), (3, .inl y3)] ∧ st = [] ∧ (((0 ≤ y1 ∧ y1 ≤ 5) ∧ (2 ≤ y2 ∧ y2 ≤ 2147483647) ∧ (0 ≤ y3 ∧ y3 ≤ 12001))) ∧ m = (1 + 1 * (12001 - y3) : Int).toNat
set_option maxRecDepth 8000 in
theorem ct_M_window_94a7b {I : fH} {x1 : Int} (h0 : fB bsJ I) (ha1 : ((-2147483648) ≤ x1 ∧ x1 ≤ 2147483647)) (hp0 : sI I 741) : fC ρ base n F xTc vwCl xTys D dA la gJ (fbz bsJ znJ (fKc []) I) xm_472 [.inr (.inr (some 740)), .inl x1] I (fun _ r => ∃ z, r = some (.inl z) ∧ ((0 ≤ z ∧ z ≤ 34000) ∨ z = (-1000000005) ∨ z = (-1000000001))) := by
  have hW : fzs [] (fKc []) := fKc_ok _
  refine f_meth (rb := rbJ) (J := [(37, jc_M_window_94a7b_37)]) 12003 400 xG xin_472 x6_472 okJ (fB_self h0) ?_ ?_
  · refine List.forall_mem_cons.mpr ⟨?_, fun q h => absurd h List.not_mem_nil⟩
    · rintro m _ _ I1 hB1 ⟨y1, y2, y3, rfl, rfl, hb, hm⟩
      refine And.intro (by omega) (And.intro ?_ ?_)
      · intro c1
        refine And.intro (True.intro) ?_
        exact ⟨_, rfl, by omega⟩
      · intro c2
        refine And.intro ⟨rfl, by decide, by decide⟩ ?_
        refine fload rL_741_741_0_0_1_0 h0 hB1 (by omega) ?_
        intro z3 lz3 uz3 qz3
        have pz3 := fld_at qz3 0 (by omega)
        refine And.intro ⟨rfl, by decide, by decide⟩ ?_
        refine fload rL_741_741_4331_4346_3_0 h0 hB1 (by omega) ?_
        intro z4 lz4 uz4 qz4
        intro z5 hz5 ez5 bz5
        refine And.intro (And.intro (by omega) (And.intro (by omega) (And.intro (by omega) rfl))) ?_
        intro z6 hz6 ez6 dz6
        refine And.intro (by omega) (And.intro ?_ ?_)
        · intro c7
          intro z8 hz8 ez8 bz8
          refine And.intro ⟨rfl, by decide, by decide⟩ ?_
          refine fload rL_741_741_4332_4347_3_0 h0 hB1 (by omega) ?_
          intro z9 lz9 uz9 qz9
          refine And.intro (by omega) (And.intro ?_ ?_)
          · intro c10
            exact fcutJ (I := I1) (j := jc_M_window_94a7b_37) (lv' := [(0, .inr (.inr (some 740))), (1, .inl _), (2, .inl _), (3, .inl _)]) (And.intro rfl (And.intro rfl (And.intro rfl (And.intro rfl True.intro)))) ⟨_, _, _, rfl, rfl, by omega, rfl⟩ (by omega)
          · intro c11
            refine And.intro ⟨rfl, by decide, by decide⟩ ?_
            refine fload rL_741_741_2_2_1_0 h0 hB1 (by omega) ?_
            intro z12 lz12 uz12 qz12
            have pz12 := fld_at qz12 2 (by omega)
            intro z13 hz13 ez13 bz13
            refine Exists.intro xm_283 (And.intro mi_283 (And.intro ⟨rfl, rfl, rfl, rfl⟩ (And.intro rfl ?_)))
            refine fcallp hB1 (ct_M_isDay_57f71 (fBz h0 hB1) (by omega)) ?_
            rintro _ ⟨z14, rfl, hz14⟩
            refine And.intro (by omega) (And.intro ?_ ?_)
            · intro c15
              exact fcutJ (I := I1) (j := jc_M_window_94a7b_37) (lv' := [(0, .inr (.inr (some 740))), (1, .inl _), (2, .inl _), (3, .inl _)]) (And.intro rfl (And.intro rfl (And.intro rfl (And.intro rfl True.intro)))) ⟨_, _, _, rfl, rfl, by omega, rfl⟩ (by omega)
            · intro c16
              refine And.intro ⟨rfl, by decide, by decide⟩ ?_
              refine fload rL_741_741_0_0_1_0 h0 hB1 (by omega) ?_
              intro z17 lz17 uz17 qz17
              have pz17 := fld_at qz17 0 (by omega)
              refine And.intro (True.intro) ?_
              exact ⟨_, rfl, by omega⟩
        · intro c18
          intro z19 hz19 ez19 bz19
          refine And.intro ⟨rfl, by decide, by decide⟩ ?_
          refine fload rL_741_741_4332_4347_3_0 h0 hB1 (by omega) ?_
          intro z20 lz20 uz20 qz20
          refine And.intro (by omega) (And.intro ?_ ?_)
          · intro c21
            exact fcutJ (I := I1) (j := jc_M_window_94a7b_37) (lv' := [(0, .inr (.inr (some 740))), (1, .inl _), (2, .inl _), (3, .inl _)]) (And.intro rfl (And.intro rfl (And.intro rfl (And.intro rfl True.intro)))) ⟨_, _, _, rfl, rfl, by omega, rfl⟩ (by omega)
          · intro c22
            refine And.intro ⟨rfl, by decide, by decide⟩ ?_
            refine fload rL_741_741_2_2_1_0 h0 hB1 (by omega) ?_
            intro z23 lz23 uz23 qz23
            have pz23 := fld_at qz23 2 (by omega)
            intro z24 hz24 ez24 bz24
            refine Exists.intro xm_283 (And.intro mi_283 (And.intro ⟨rfl, rfl, rfl, rfl⟩ (And.intro rfl ?_)))
            refine fcallp hB1 (ct_M_isDay_57f71 (fBz h0 hB1) (by omega)) ?_
            rintro _ ⟨z25, rfl, hz25⟩
            refine And.intro (by omega) (And.intro ?_ ?_)
            · intro c26
              exact fcutJ (I := I1) (j := jc_M_window_94a7b_37) (lv' := [(0, .inr (.inr (some 740))), (1, .inl _), (2, .inl _), (3, .inl _)]) (And.intro rfl (And.intro rfl (And.intro rfl (And.intro rfl True.intro)))) ⟨_, _, _, rfl, rfl, by omega, rfl⟩ (by omega)
            · intro c27
              refine And.intro ⟨rfl, by decide, by decide⟩ ?_
              refine fload rL_741_741_0_0_1_0 h0 hB1 (by omega) ?_
              intro z28 lz28 uz28 qz28
              have pz28 := fld_at qz28 0 (by omega)
              refine And.intro (True.intro) ?_
              exact ⟨_, rfl, by omega⟩
  · have hB0 := fB_self (zn := znJ) (K := fKc []) h0
    refine And.intro (by omega) ?_
    refine And.intro ⟨rfl, by decide, by decide⟩ ?_
    refine fload rL_741_741_10_10_1_0 h0 hB0 (by omega) ?_
    intro z29 lz29 uz29 qz29
    have pz29 := fld_at qz29 10 (by omega)
    refine And.intro (by omega) ?_
    refine Exists.intro xm_238 (And.intro mi_238 (And.intro ⟨rfl, rfl, rfl, rfl⟩ (And.intro True.intro ?_)))
    refine fcallp hB0 (ct_M_isIn_27230 (fBz h0 hB0) (by omega) (by omega) (by omega)) ?_
    rintro _ ⟨z30, rfl, hz30⟩
    refine And.intro (by omega) (And.intro ?_ ?_)
    · intro c31
      refine And.intro ⟨rfl, by decide, by decide⟩ ?_
      refine fload rL_741_741_4330_4345_3_0 h0 hB0 (by omega) ?_
      intro z32 lz32 uz32 qz32
      have w33 := fld_at qz32 (4330 + 3 * x1.toNat) (by omega)
      have v33 := hp0.2.2.1 x1.toNat (by omega)
      exact fcutJ (I := I) (j := jc_M_window_94a7b_37) (lv' := [(0, .inr (.inr (some 740))), (1, .inl _), (2, .inl _), (3, .inl _)]) (And.intro rfl (And.intro rfl (And.intro rfl (And.intro rfl True.intro)))) ⟨_, _, _, rfl, rfl, by omega, rfl⟩ (by omega)
    · intro c33
      refine And.intro (True.intro) ?_
      exact ⟨_, rfl, by omega⟩
set_option maxRecDepth 8000 in
theorem ct_Desk_addLot_b50ff {I : fH} {x1 : Int} {x2 : Int} (h0 : fB bsJ I) (ha1 : (1 ≤ x1 ∧ x1 ≤ 9999)) (ha2 : (0 ≤ x2 ∧ x2 ≤ 999)) : fC ρ base n F xTc vwCl xTys D dA la gJ (fbz bsJ znJ (fKc wz_8f79a) I) xm_199 [.inr (.inr (some 211)), .inl x1, .inl x2] I (fun _ r => ∃ z, r = some (.inl z) ∧ ((0 ≤ z ∧ z ≤ 9) ∨ z = (-1000000003))) := by
  have hW : fzs wz_8f79a (fKc wz_8f79a) := fKc_ok _
  refine f_meth (rb := rbJ) (J := []) 1 400 xG xin_199 x6_199 okJ (fB_self h0) ?_ ?_
  · exact fun q h => absurd h List.not_mem_nil
  · have hB0 := fB_self (zn := znJ) (K := fKc wz_8f79a) h0
    refine And.intro ⟨rfl, by decide, by decide⟩ (fgetf fb_211_11 h0 hB0 ?_)
    intro z1 lz1 uz1 qz1
    refine And.intro (by omega) (And.intro ?_ ?_)
    · intro c2
      refine And.intro ⟨rfl, by decide, by decide⟩ ?_
      refine fstore rS_252_252_0_9_1_0 (fzs_sub (by decide +kernel) hW) (by omega) (by omega) ?_
      intro IhB3 ehB3 hB3
      have t4 := fup_self ehB3
      have t5 : IhB3 211 11 = I 211 11 := (congrFun (congrFun ehB3 211) 11).trans (fup_ne (by omega))
      refine And.intro ⟨rfl, by decide, by decide⟩ ?_
      refine fstore rS_253_253_0_9_1_0 (fzs_sub (by decide +kernel) hW) (by omega) (by omega) ?_
      intro IhB6 ehB6 hB6
      have t7 := fup_self ehB6
      have t8 : IhB6 211 11 = IhB3 211 11 := (congrFun (congrFun ehB6 211) 11).trans (fup_ne (by omega))
      refine And.intro ⟨rfl, by decide, by decide⟩ (And.intro rfl (And.intro (Or.inl rfl) (fputf fb_211_11 (by decide +kernel) hW (by omega) ?_)))
      intro IhB9 ehB9 hB9
      have t10 := fup_at ehB9 11 (by omega)
      refine And.intro (True.intro) ?_
      exact ⟨_, rfl, by omega⟩
    · intro c11
      refine And.intro (True.intro) ?_
      exact ⟨_, rfl, by omega⟩
set_option maxRecDepth 8000 in
theorem ct_X_lot_2a88d {I : fH} {x1 : Int} {x2 : Int} (h0 : fB bsJ I) (ha1 : ((-2147483648) ≤ x1 ∧ x1 ≤ 2147483647)) (ha2 : ((-2147483648) ≤ x2 ∧ x2 ≤ 2147483647)) : fC ρ base n F xTc vwCl xTys D dA la gJ (fbz bsJ znJ (fKc wz_8f79a) I) xm_198 [.inr (.inr (some 0)), .inl x1, .inl x2] I (fun _ r => ∃ z, r = some (.inl z) ∧ ((0 ≤ z ∧ z ≤ 9) ∨ z = (-1000000003) ∨ z = (-1000000001))) := by
  have hW : fzs wz_8f79a (fKc wz_8f79a) := fKc_ok _
  refine f_meth (rb := rbJ) (J := []) 1 400 xG xin_198 x6_198 okJ (fB_self h0) ?_ ?_
  · exact fun q h => absurd h List.not_mem_nil
  · have hB0 := fB_self (zn := znJ) (K := fKc wz_8f79a) h0
    refine Exists.intro xm_13 (And.intro mi_13 (And.intro ⟨rfl, rfl, rfl, rfl⟩ (And.intro True.intro ?_)))
    refine fcallp hB0 (ct_X_within_c27b1 (fBz h0 hB0) (by omega) (by omega) (by omega)) ?_
    rintro _ ⟨z1, rfl, hz1⟩
    refine And.intro (by omega) (And.intro ?_ ?_)
    · intro c2
      refine And.intro (True.intro) ?_
      exact ⟨_, rfl, by omega⟩
    · intro c3
      refine Exists.intro xm_13 (And.intro mi_13 (And.intro ⟨rfl, rfl, rfl, rfl⟩ (And.intro True.intro ?_)))
      refine fcallp hB0 (ct_X_within_c27b1 (fBz h0 hB0) (by omega) (by omega) (by omega)) ?_
      rintro _ ⟨z4, rfl, hz4⟩
      refine And.intro (by omega) (And.intro ?_ ?_)
      · intro c5
        refine And.intro (True.intro) ?_
        exact ⟨_, rfl, by omega⟩
      · intro c6
        refine And.intro ⟨rfl, by decide, by decide⟩ ?_
        refine Exists.intro xm_199 (And.intro mi_199 (And.intro ⟨rfl, rfl, rfl, rfl⟩ (And.intro rfl ?_)))
        refine fcall _ h0 (fzs_sub (by decide +kernel) hW) hB0 (ct_Desk_addLot_b50ff (fBz h0 hB0) (by omega) (by omega)) ?_
        rintro IhB8 _ hB8 fhB8 ⟨z7, rfl, hz7⟩
        refine And.intro (True.intro) ?_
        exact ⟨_, rfl, by omega⟩
set_option maxRecDepth 8000 in
theorem ct_M_lot_a4778 {I : fH} {x1 : Int} {x2 : Int} (h0 : fB bsJ I) (ha1 : ((-2147483648) ≤ x1 ∧ x1 ≤ 2147483647)) (ha2 : ((-2147483648) ≤ x2 ∧ x2 ≤ 2147483647)) : fC ρ base n F xTc vwCl xTys D dA la gJ (fbz bsJ znJ (fKc wz_78ec0) I) xm_473 [.inr (.inr (some 740)), .inl x1, .inl x2] I (fun _ r => ∃ z, r = some (.inl z) ∧ ((0 ≤ z ∧ z ≤ 9) ∨ z = (-1000000003) ∨ z = (-1000000001))) := by
  have hW : fzs wz_78ec0 (fKc wz_78ec0) := fKc_ok _
  refine f_meth (rb := rbJ) (J := []) 1 400 xG xin_473 x6_473 okJ (fB_self h0) ?_ ?_
  · exact fun q h => absurd h List.not_mem_nil
  · have hB0 := fB_self (zn := znJ) (K := fKc wz_78ec0) h0
    refine And.intro (by omega) ?_
    refine Exists.intro xm_238 (And.intro mi_238 (And.intro ⟨rfl, rfl, rfl, rfl⟩ (And.intro True.intro ?_)))
    refine fcallp hB0 (ct_M_isIn_27230 (fBz h0 hB0) (by omega) (by omega) (by omega)) ?_
    rintro _ ⟨z1, rfl, hz1⟩
    refine And.intro (by omega) (And.intro ?_ ?_)
    · intro c2
      refine And.intro (True.intro) ?_
      exact ⟨_, rfl, by omega⟩
    · intro c3
      refine And.intro (by omega) ?_
      refine Exists.intro xm_238 (And.intro mi_238 (And.intro ⟨rfl, rfl, rfl, rfl⟩ (And.intro True.intro ?_)))
      refine fcallp hB0 (ct_M_isIn_27230 (fBz h0 hB0) (by omega) (by omega) (by omega)) ?_
      rintro _ ⟨z4, rfl, hz4⟩
      refine And.intro (by omega) (And.intro ?_ ?_)
      · intro c5
        refine And.intro ⟨rfl, by decide, by decide⟩ ?_
        refine fload rL_741_741_11_11_1_0 h0 hB0 (by omega) ?_
        intro z6 lz6 uz6 qz6
        have pz6 := fld_at qz6 11 (by omega)
        refine And.intro (by omega) (And.intro ?_ ?_)
        · intro c7
          refine And.intro ⟨rfl, by decide, by decide⟩ ?_
          refine And.intro ⟨rfl, by decide, by decide⟩ ?_
          refine fload rL_741_741_11_11_1_0 h0 hB0 (by omega) ?_
          intro z8 lz8 uz8 qz8
          have pz8 := fld_at qz8 11 (by omega)
          refine fstore rS_741_741_4350_4368_2_0 (fzs_sub (by decide +kernel) hW) (by omega) (by omega) ?_
          intro IhB9 ehB9 hB9
          have t10 := fup_self ehB9
          have t11 : IhB9 741 11 = I 741 11 := (congrFun (congrFun ehB9 741) 11).trans (fup_ne (by omega))
          refine And.intro ⟨rfl, by decide, by decide⟩ ?_
          refine And.intro ⟨rfl, by decide, by decide⟩ ?_
          refine fload rL_741_741_11_11_1_0 h0 hB9 (by omega) ?_
          intro z12 lz12 uz12 qz12
          have pz12 := fld_at qz12 11 (by omega)
          refine fstore rS_741_741_4351_4369_2_0 (fzs_sub (by decide +kernel) hW) (by omega) (by omega) ?_
          intro IhB13 ehB13 hB13
          have t14 := fup_self ehB13
          have t15 : IhB13 741 11 = IhB9 741 11 := (congrFun (congrFun ehB13 741) 11).trans (fup_ne (by omega))
          refine And.intro ⟨rfl, by decide, by decide⟩ ?_
          refine fload rL_741_741_11_11_1_0 h0 hB13 (by omega) ?_
          intro z16 lz16 uz16 qz16
          have pz16 := fld_at qz16 11 (by omega)
          refine fstore rS_741_741_11_11_1_0 (fzs_sub (by decide +kernel) hW) (by omega) (by omega) ?_
          intro IhB17 ehB17 hB17
          have t18 := fup_self ehB17
          have t19 := fup_at ehB17 11 (by omega)
          refine And.intro ⟨rfl, by decide, by decide⟩ ?_
          refine fload rL_741_741_11_11_1_0 h0 hB17 (by omega) ?_
          intro z20 lz20 uz20 qz20
          have pz20 := fld_at qz20 11 (by omega)
          refine And.intro (True.intro) ?_
          exact ⟨_, rfl, by omega⟩
        · intro c21
          refine And.intro (True.intro) ?_
          exact ⟨_, rfl, by omega⟩
      · intro c22
        refine And.intro (True.intro) ?_
        exact ⟨_, rfl, by omega⟩
abbrev jc_Desk_sumOf_9fb57_5 : Nat → fL → List fV → fH → Prop := fun m lv st I => ∃ (y2 : Int) (y3 : Int) (y4 : Int), lv = [(0, .inr (.inr (some 211))), (1, .inr (.inr (some 252))), (2, .inl y2), (3, .inl y3), (4, .inl y4)] ∧ st = [] ∧ (((1 ≤ y2 ∧ y2 ≤ 2147483647) ∧ ((-2147483648) ≤ y3 ∧ y3 ≤ 2147483647) ∧ (0 ≤ y4 ∧ y4 ≤ 10))) ∧ m = (1 + 1 * (10 - y4) : Int).toNat
set_option maxRecDepth 8000 in
theorem ct_Desk_sumOf_9fb57 {I : fH} {x2 : Int} (h0 : fB bsJ I) (ha2 : (1 ≤ x2 ∧ x2 ≤ 2147483647)) : fC ρ base n F xTc vwCl xTys D dA la gJ (fbz bsJ znJ (fKc []) I) xm_202 [.inr (.inr (some 211)), .inr (.inr (some 252)), .inl x2] I (fun _ r => ∃ z, r = some (.inl z) ∧ ((-2147483648) ≤ z ∧ z ≤ 2147483647)) := by
  have hW : fzs [] (fKc []) := fKc_ok _
  refine f_meth (rb := rbJ) (J := [(5, jc_Desk_sumOf_9fb57_5)]) 12 400 xG xin_202 x6_202 okJ (fB_self h0) ?_ ?_
  · refine List.forall_mem_cons.mpr ⟨?_, fun q h => absurd h List.not_mem_nil⟩
    · rintro m _ _ I1 hB1 ⟨y2, y3, y4, rfl, rfl, hb, hm⟩
      refine And.intro ⟨rfl, by decide, by decide⟩ (fgetf fb_211_11 h0 hB1 ?_)
      intro z1 lz1 uz1 qz1
      refine And.intro (by omega) (And.intro ?_ ?_)
      · intro c2
        refine And.intro (True.intro) ?_
        exact ⟨_, rfl, by omega⟩
      · intro c3
        intro z4 hz4 ez4
        intro z5 hz5 ez5 bz5
        refine And.intro (by omega) (And.intro ?_ ?_)
        · intro c6
          exact fcutJ (I := I1) (j := jc_Desk_sumOf_9fb57_5) (lv' := [(0, .inr (.inr (some 211))), (1, .inr (.inr (some 252))), (2, .inl _), (3, .inl _), (4, .inl _)]) (And.intro rfl (And.intro rfl (And.intro rfl (And.intro rfl (And.intro rfl True.intro))))) ⟨_, _, _, rfl, rfl, by omega, rfl⟩ (by omega)
        · intro c7
          refine fload rL_252_252_0_9_1_0 h0 hB1 (by omega) ?_
          intro z8 lz8 uz8 qz8
          intro z9 hz9 ez9 bz9
          exact fcutJ (I := I1) (j := jc_Desk_sumOf_9fb57_5) (lv' := [(0, .inr (.inr (some 211))), (1, .inr (.inr (some 252))), (2, .inl _), (3, .inl _), (4, .inl _)]) (And.intro rfl (And.intro rfl (And.intro rfl (And.intro rfl (And.intro rfl True.intro))))) ⟨_, _, _, rfl, rfl, by omega, rfl⟩ (by omega)
  · have hB0 := fB_self (zn := znJ) (K := fKc []) h0
    exact fcutJ (I := I) (j := jc_Desk_sumOf_9fb57_5) (lv' := [(0, .inr (.inr (some 211))), (1, .inr (.inr (some 252))), (2, .inl _), (3, .inl _), (4, .inl _)]) (And.intro rfl (And.intro rfl (And.intro rfl (And.intro rfl (And.intro rfl True.intro))))) ⟨_, _, _, rfl, rfl, by omega, rfl⟩ (by omega)
abbrev jc_Desk_sumOf_8e437_5 : Nat → fL → List fV → fH → Prop := fun m lv st I => ∃ (y2 : Int) (y3 : Int) (y4 : Int), lv = [(0, .inr (.inr (some 211))), (1, .inr (.inr (some 253))), (2, .inl y2), (3, .inl y3), (4, .inl y4)] ∧ st = [] ∧ (((1 ≤ y2 ∧ y2 ≤ 2147483647) ∧ ((-2147483648) ≤ y3 ∧ y3 ≤ 2147483647) ∧ (0 ≤ y4 ∧ y4 ≤ 10))) ∧ m = (1 + 1 * (10 - y4) : Int).toNat
set_option maxRecDepth 8000 in
theorem ct_Desk_sumOf_8e437 {I : fH} {x2 : Int} (h0 : fB bsJ I) (ha2 : (1 ≤ x2 ∧ x2 ≤ 2147483647)) : fC ρ base n F xTc vwCl xTys D dA la gJ (fbz bsJ znJ (fKc []) I) xm_202 [.inr (.inr (some 211)), .inr (.inr (some 253)), .inl x2] I (fun _ r => ∃ z, r = some (.inl z) ∧ ((-2147483648) ≤ z ∧ z ≤ 2147483647)) := by
  have hW : fzs [] (fKc []) := fKc_ok _
  refine f_meth (rb := rbJ) (J := [(5, jc_Desk_sumOf_8e437_5)]) 12 400 xG xin_202 x6_202 okJ (fB_self h0) ?_ ?_
  · refine List.forall_mem_cons.mpr ⟨?_, fun q h => absurd h List.not_mem_nil⟩
    · rintro m _ _ I1 hB1 ⟨y2, y3, y4, rfl, rfl, hb, hm⟩
      refine And.intro ⟨rfl, by decide, by decide⟩ (fgetf fb_211_11 h0 hB1 ?_)
      intro z1 lz1 uz1 qz1
      refine And.intro (by omega) (And.intro ?_ ?_)
      · intro c2
        refine And.intro (True.intro) ?_
        exact ⟨_, rfl, by omega⟩
      · intro c3
        intro z4 hz4 ez4
        intro z5 hz5 ez5 bz5
        refine And.intro (by omega) (And.intro ?_ ?_)
        · intro c6
          exact fcutJ (I := I1) (j := jc_Desk_sumOf_8e437_5) (lv' := [(0, .inr (.inr (some 211))), (1, .inr (.inr (some 253))), (2, .inl _), (3, .inl _), (4, .inl _)]) (And.intro rfl (And.intro rfl (And.intro rfl (And.intro rfl (And.intro rfl True.intro))))) ⟨_, _, _, rfl, rfl, by omega, rfl⟩ (by omega)
        · intro c7
          refine fload rL_253_253_0_9_1_0 h0 hB1 (by omega) ?_
          intro z8 lz8 uz8 qz8
          intro z9 hz9 ez9 bz9
          exact fcutJ (I := I1) (j := jc_Desk_sumOf_8e437_5) (lv' := [(0, .inr (.inr (some 211))), (1, .inr (.inr (some 253))), (2, .inl _), (3, .inl _), (4, .inl _)]) (And.intro rfl (And.intro rfl (And.intro rfl (And.intro rfl (And.intro rfl True.intro))))) ⟨_, _, _, rfl, rfl, by omega, rfl⟩ (by omega)
  · have hB0 := fB_self (zn := znJ) (K := fKc []) h0
    exact fcutJ (I := I) (j := jc_Desk_sumOf_8e437_5) (lv' := [(0, .inr (.inr (some 211))), (1, .inr (.inr (some 253))), (2, .inl _), (3, .inl _), (4, .inl _)]) (And.intro rfl (And.intro rfl (And.intro rfl (And.intro rfl (And.intro rfl True.intro))))) ⟨_, _, _, rfl, rfl, by omega, rfl⟩ (by omega)
abbrev jc_Desk_bestLots_84d7e_10 : Nat → fL → List fV → fH → Prop := fun m lv st I => ∃ (y1 : Int) (y2 : Int) (y3 : Int) (y4 : Int) (y5 : Int), lv = [(0, .inr (.inr (some 211))), (1, .inl y1), (2, .inl y2), (3, .inl y3), (4, .inl y4), (5, .inl y5)] ∧ st = [] ∧ (((0 ≤ y1 ∧ y1 ≤ 99999) ∧ (0 ≤ y2 ∧ y2 ≤ 2147483647) ∧ ((-2147483648) ≤ y3 ∧ y3 ≤ 2147483647) ∧ ((-2147483648) ≤ y4 ∧ y4 ≤ 99999) ∧ (1 ≤ y5 ∧ y5 ≤ 2147483647))) ∧ m = (4 + 4 * (2147483647 - y5) : Int).toNat
abbrev jc_Desk_bestLots_84d7e_64 : Nat → fL → List fV → fH → Prop := fun m lv st I => ∃ (y1 : Int) (y2 : Int) (y3 : Int) (y4 : Int) (y5 : Int) (y6 : Int) (y7 : Int), lv = [(0, .inr (.inr (some 211))), (1, .inl y1), (2, .inl y2), (3, .inl y3), (4, .inl y4), (5, .inl y5), (6, .inl y6), (7, .inl y7)] ∧ st = [] ∧ (((0 ≤ y1 ∧ y1 ≤ 99999) ∧ (0 ≤ y2 ∧ y2 ≤ 2147483647) ∧ ((-2147483648) ≤ y3 ∧ y3 ≤ 2147483647) ∧ ((-2147483648) ≤ y4 ∧ y4 ≤ 99999) ∧ (1 ≤ y5 ∧ y5 ≤ 2147483646) ∧ ((-2147483648) ≤ y6 ∧ y6 ≤ 2147483647) ∧ ((-2147483648) ≤ y7 ∧ y7 ≤ 2147483647))) ∧ m = (2 + 4 * (2147483647 - y5) : Int).toNat
abbrev jc_Desk_bestLots_84d7e_68 : Nat → fL → List fV → fH → Prop := fun m lv st I => ∃ (y1 : Int) (y2 : Int) (y3 : Int) (y4 : Int) (y5 : Int) (y6 : Int) (y7 : Int), lv = [(0, .inr (.inr (some 211))), (1, .inl y1), (2, .inl y2), (3, .inl y3), (4, .inl y4), (5, .inl y5), (6, .inl y6), (7, .inl y7)] ∧ st = [] ∧ (((0 ≤ y1 ∧ y1 ≤ 99999) ∧ (0 ≤ y2 ∧ y2 ≤ 2147483647) ∧ ((-2147483648) ≤ y3 ∧ y3 ≤ 2147483647) ∧ ((-2147483648) ≤ y4 ∧ y4 ≤ 99999) ∧ (1 ≤ y5 ∧ y5 ≤ 2147483646) ∧ ((-2147483648) ≤ y6 ∧ y6 ≤ 2147483647) ∧ ((-2147483648) ≤ y7 ∧ y7 ≤ 2147483647))) ∧ m = (3 + 4 * (2147483647 - y5) : Int).toNat
abbrev jc_Desk_bestLots_84d7e_92 : Nat → fL → List fV → fH → Prop := fun m lv st I => ∃ (y1 : Int) (y2 : Int) (y3 : Int) (y4 : Int) (y5 : Int), lv = [(0, .inr (.inr (some 211))), (1, .inl y1), (2, .inl y2), (3, .inl y3), (4, .inl y4), (5, .inl y5)] ∧ st = [] ∧ (((0 ≤ y1 ∧ y1 ≤ 99999) ∧ (0 ≤ y2 ∧ y2 ≤ 2147483647) ∧ ((-2147483648) ≤ y3 ∧ y3 ≤ 2147483647) ∧ ((-2147483648) ≤ y4 ∧ y4 ≤ 99999) ∧ (1 ≤ y5 ∧ y5 ≤ 2147483646))) ∧ m = (1 + 4 * (2147483647 - y5) : Int).toNat
set_option maxRecDepth 8000 in
theorem ct_Desk_bestLots_84d7e {I : fH} {x1 : Int} (h0 : fB bsJ I) (ha1 : (0 ≤ x1 ∧ x1 ≤ 99999)) : fC ρ base n F xTc vwCl xTys D dA la gJ (fbz bsJ znJ (fKc []) I) xm_201 [.inr (.inr (some 211)), .inl x1] I (fun _ r => ∃ z, r = some (.inl z) ∧ (0 ≤ z ∧ z ≤ 2147483647)) := by
  have hW : fzs [] (fKc []) := fKc_ok _
  refine f_meth (rb := rbJ) (J := [(10, jc_Desk_bestLots_84d7e_10), (64, jc_Desk_bestLots_84d7e_64), (68, jc_Desk_bestLots_84d7e_68), (92, jc_Desk_bestLots_84d7e_92)]) 8589934589 400 xG xin_201 x6_201 okJ (fB_self h0) ?_ ?_
  · refine List.forall_mem_cons.mpr ⟨?_, List.forall_mem_cons.mpr ⟨?_, List.forall_mem_cons.mpr ⟨?_, List.forall_mem_cons.mpr ⟨?_, fun q h => absurd h List.not_mem_nil⟩⟩⟩⟩
    · rintro m _ _ I1 hB1 ⟨y1, y2, y3, y4, y5, rfl, rfl, hb, hm⟩
      refine And.intro ⟨rfl, by decide, by decide⟩ (fgetf fb_211_11 h0 hB1 ?_)
      intro z1 lz1 uz1 qz1
      intro z2 hz2 ez2
      refine And.intro (by omega) (And.intro ?_ ?_)
      · intro c3
        refine And.intro (True.intro) ?_
        exact ⟨_, rfl, by omega⟩
      · intro c4
        refine And.intro ⟨rfl, by decide, by decide⟩ ?_
        refine Exists.intro xm_202 (And.intro mi_202 (And.intro ⟨rfl, rfl, rfl, rfl⟩ (And.intro rfl ?_)))
        refine fcallp hB1 (ct_Desk_sumOf_9fb57 (fBz h0 hB1) (by omega)) ?_
        rintro _ ⟨z5, rfl, hz5⟩
        refine And.intro ⟨rfl, by decide, by decide⟩ ?_
        refine Exists.intro xm_202 (And.intro mi_202 (And.intro ⟨rfl, rfl, rfl, rfl⟩ (And.intro rfl ?_)))
        refine fcallp hB1 (ct_Desk_sumOf_8e437 (fBz h0 hB1) (by omega)) ?_
        rintro _ ⟨z6, rfl, hz6⟩
        refine And.intro (by omega) (And.intro ?_ ?_)
        · intro c7
          exact fcutJ (I := I1) (j := jc_Desk_bestLots_84d7e_64) (lv' := [(0, .inr (.inr (some 211))), (1, .inl _), (2, .inl _), (3, .inl _), (4, .inl _), (5, .inl _), (6, .inl _), (7, .inl _)]) (And.intro rfl (And.intro rfl (And.intro rfl (And.intro rfl (And.intro rfl (And.intro rfl (And.intro rfl (And.intro rfl True.intro)))))))) ⟨_, _, _, _, _, _, _, rfl, rfl, by omega, rfl⟩ (by omega)
        · intro c8
          refine And.intro (by omega) (And.intro ?_ ?_)
          · intro c9
            exact fcutJ (I := I1) (j := jc_Desk_bestLots_84d7e_68) (lv' := [(0, .inr (.inr (some 211))), (1, .inl _), (2, .inl _), (3, .inl _), (4, .inl _), (5, .inl _), (6, .inl _), (7, .inl _)]) (And.intro rfl (And.intro rfl (And.intro rfl (And.intro rfl (And.intro rfl (And.intro rfl (And.intro rfl (And.intro rfl True.intro)))))))) ⟨_, _, _, _, _, _, _, rfl, rfl, by omega, rfl⟩ (by omega)
          · intro c10
            refine And.intro (by omega) (And.intro ?_ ?_)
            · intro c11
              exact fcutJ (I := I1) (j := jc_Desk_bestLots_84d7e_68) (lv' := [(0, .inr (.inr (some 211))), (1, .inl _), (2, .inl _), (3, .inl _), (4, .inl _), (5, .inl _), (6, .inl _), (7, .inl _)]) (And.intro rfl (And.intro rfl (And.intro rfl (And.intro rfl (And.intro rfl (And.intro rfl (And.intro rfl (And.intro rfl True.intro)))))))) ⟨_, _, _, _, _, _, _, rfl, rfl, by omega, rfl⟩ (by omega)
            · intro c12
              exact fcutJ (I := I1) (j := jc_Desk_bestLots_84d7e_64) (lv' := [(0, .inr (.inr (some 211))), (1, .inl _), (2, .inl _), (3, .inl _), (4, .inl _), (5, .inl _), (6, .inl _), (7, .inl _)]) (And.intro rfl (And.intro rfl (And.intro rfl (And.intro rfl (And.intro rfl (And.intro rfl (And.intro rfl (And.intro rfl True.intro)))))))) ⟨_, _, _, _, _, _, _, rfl, rfl, by omega, rfl⟩ (by omega)
    · rintro m _ _ I1 hB1 ⟨y1, y2, y3, y4, y5, y6, y7, rfl, rfl, hb, hm⟩
      refine And.intro (by omega) (And.intro ?_ ?_)
      · intro c13
        exact fcutJ (I := I1) (j := jc_Desk_bestLots_84d7e_92) (lv' := [(0, .inr (.inr (some 211))), (1, .inl _), (2, .inl _), (3, .inl _), (4, .inl _), (5, .inl _)]) (And.intro rfl (And.intro rfl (And.intro rfl (And.intro rfl (And.intro rfl (And.intro rfl True.intro)))))) ⟨_, _, _, _, _, rfl, rfl, by omega, rfl⟩ (by omega)
      · intro c14
        refine And.intro (by omega) (And.intro ?_ ?_)
        · intro c15
          exact fcutJ (I := I1) (j := jc_Desk_bestLots_84d7e_92) (lv' := [(0, .inr (.inr (some 211))), (1, .inl _), (2, .inl _), (3, .inl _), (4, .inl _), (5, .inl _)]) (And.intro rfl (And.intro rfl (And.intro rfl (And.intro rfl (And.intro rfl (And.intro rfl True.intro)))))) ⟨_, _, _, _, _, rfl, rfl, by omega, rfl⟩ (by omega)
        · intro c16
          exact fcutJ (I := I1) (j := jc_Desk_bestLots_84d7e_92) (lv' := [(0, .inr (.inr (some 211))), (1, .inl _), (2, .inl _), (3, .inl _), (4, .inl _), (5, .inl _)]) (And.intro rfl (And.intro rfl (And.intro rfl (And.intro rfl (And.intro rfl (And.intro rfl True.intro)))))) ⟨_, _, _, _, _, rfl, rfl, by omega, rfl⟩ (by omega)
    · rintro m _ _ I1 hB1 ⟨y1, y2, y3, y4, y5, y6, y7, rfl, rfl, hb, hm⟩
      refine And.intro (by omega) (And.intro ?_ ?_)
      · intro c17
        exact fcutJ (I := I1) (j := jc_Desk_bestLots_84d7e_92) (lv' := [(0, .inr (.inr (some 211))), (1, .inl _), (2, .inl _), (3, .inl _), (4, .inl _), (5, .inl _)]) (And.intro rfl (And.intro rfl (And.intro rfl (And.intro rfl (And.intro rfl (And.intro rfl True.intro)))))) ⟨_, _, _, _, _, rfl, rfl, by omega, rfl⟩ (by omega)
      · intro c18
        refine And.intro (by omega) (And.intro ?_ ?_)
        · intro c19
          exact fcutJ (I := I1) (j := jc_Desk_bestLots_84d7e_92) (lv' := [(0, .inr (.inr (some 211))), (1, .inl _), (2, .inl _), (3, .inl _), (4, .inl _), (5, .inl _)]) (And.intro rfl (And.intro rfl (And.intro rfl (And.intro rfl (And.intro rfl (And.intro rfl True.intro)))))) ⟨_, _, _, _, _, rfl, rfl, by omega, rfl⟩ (by omega)
        · intro c20
          exact fcutJ (I := I1) (j := jc_Desk_bestLots_84d7e_92) (lv' := [(0, .inr (.inr (some 211))), (1, .inl _), (2, .inl _), (3, .inl _), (4, .inl _), (5, .inl _)]) (And.intro rfl (And.intro rfl (And.intro rfl (And.intro rfl (And.intro rfl (And.intro rfl True.intro)))))) ⟨_, _, _, _, _, rfl, rfl, by omega, rfl⟩ (by omega)
    · rintro m _ _ I1 hB1 ⟨y1, y2, y3, y4, y5, rfl, rfl, hb, hm⟩
      exact fcutJ (I := I1) (j := jc_Desk_bestLots_84d7e_10) (lv' := [(0, .inr (.inr (some 211))), (1, .inl _), (2, .inl _), (3, .inl _), (4, .inl _), (5, .inl _)]) (And.intro rfl (And.intro rfl (And.intro rfl (And.intro rfl (And.intro rfl (And.intro rfl True.intro)))))) ⟨_, _, _, _, _, rfl, rfl, by omega, rfl⟩ (by omega)
  · have hB0 := fB_self (zn := znJ) (K := fKc []) h0
    exact fcutJ (I := I) (j := jc_Desk_bestLots_84d7e_10) (lv' := [(0, .inr (.inr (some 211))), (1, .inl _), (2, .inl _), (3, .inl _), (4, .inl _), (5, .inl _)]) (And.intro rfl (And.intro rfl (And.intro rfl (And.intro rfl (And.intro rfl (And.intro rfl True.intro)))))) ⟨_, _, _, _, _, rfl, rfl, by omega, rfl⟩ (by omega)
set_option maxRecDepth 8000 in
theorem ct_X_cargo_17ae9 {I : fH} {x1 : Int} (h0 : fB bsJ I) (ha1 : ((-2147483648) ≤ x1 ∧ x1 ≤ 2147483647)) : fC ρ base n F xTc vwCl xTys D dA la gJ (fbz bsJ znJ (fKc []) I) xm_200 [.inr (.inr (some 0)), .inl x1] I (fun _ r => ∃ z, r = some (.inl z) ∧ ((0 ≤ z ∧ z ≤ 2147483647) ∨ z = (-1000000001))) := by
  have hW : fzs [] (fKc []) := fKc_ok _
  refine f_meth (rb := rbJ) (J := []) 1 400 xG xin_200 x6_200 okJ (fB_self h0) ?_ ?_
  · exact fun q h => absurd h List.not_mem_nil
  · have hB0 := fB_self (zn := znJ) (K := fKc []) h0
    refine Exists.intro xm_13 (And.intro mi_13 (And.intro ⟨rfl, rfl, rfl, rfl⟩ (And.intro True.intro ?_)))
    refine fcallp hB0 (ct_X_within_c27b1 (fBz h0 hB0) (by omega) (by omega) (by omega)) ?_
    rintro _ ⟨z1, rfl, hz1⟩
    refine And.intro (by omega) (And.intro ?_ ?_)
    · intro c2
      refine And.intro (True.intro) ?_
      exact ⟨_, rfl, by omega⟩
    · intro c3
      refine And.intro ⟨rfl, by decide, by decide⟩ ?_
      refine Exists.intro xm_201 (And.intro mi_201 (And.intro ⟨rfl, rfl, rfl, rfl⟩ (And.intro rfl ?_)))
      refine fcallp hB0 (ct_Desk_bestLots_84d7e (fBz h0 hB0) (by omega)) ?_
      rintro _ ⟨z4, rfl, hz4⟩
      refine And.intro (True.intro) ?_
      exact ⟨_, rfl, by omega⟩
abbrev jc_M_cargo_a46a8_25 : Nat → fL → List fV → fH → Prop := fun m lv st I => ∃ (y1 : Int) (y2 : Int) (y3 : Int) (y4 : Int) (y5 : Int), lv = [(0, .inr (.inr (some 740))), (1, .inl y1), (2, .inl y2), (3, .inl y3), (4, .inl y4), (5, .inl y5)] ∧ st = [] ∧ (((0 ≤ y1 ∧ y1 ≤ 99999) ∧ (0 ≤ y2 ∧ y2 ≤ 2147483647) ∧ (0 ≤ y3 ∧ y3 ≤ 2147483647) ∧ ((-2147483648) ≤ y4 ∧ y4 ≤ 99999) ∧ (1 ≤ y5 ∧ y5 ≤ 2147483647))) ∧ m = (12 + 12 * (2147483647 - y5) : Int).toNat
abbrev jc_M_cargo_a46a8_48 : Nat → fL → List fV → fH → Prop := fun m lv st I => ∃ (y1 : Int) (y2 : Int) (y3 : Int) (y4 : Int) (y5 : Int) (y6 : Int) (y7 : Int) (y8 : Int), lv = [(0, .inr (.inr (some 740))), (1, .inl y1), (2, .inl y2), (3, .inl y3), (4, .inl y4), (5, .inl y5), (6, .inl y6), (7, .inl y7), (8, .inl y8)] ∧ st = [] ∧ (((0 ≤ y1 ∧ y1 ≤ 99999) ∧ (0 ≤ y2 ∧ y2 ≤ 2147483647) ∧ (0 ≤ y3 ∧ y3 ≤ 2147483647) ∧ ((-2147483648) ≤ y4 ∧ y4 ≤ 99999) ∧ (1 ≤ y5 ∧ y5 ≤ 2147483646) ∧ ((-2147483648) ≤ y6 ∧ y6 ≤ 2147483647) ∧ ((-2147483648) ≤ y7 ∧ y7 ≤ 2147483647) ∧ (0 ≤ y8 ∧ y8 ≤ 10))) ∧ m = (1 + 12 * (2147483647 - y5) + 1 * (10 - y8) : Int).toNat
set_option maxRecDepth 8000 in
theorem ct_M_cargo_a46a8 {I : fH} {x1 : Int} (h0 : fB bsJ I) (ha1 : ((-2147483648) ≤ x1 ∧ x1 ≤ 2147483647)) : fC ρ base n F xTc vwCl xTys D dA la gJ (fbz bsJ znJ (fKc []) I) xm_474 [.inr (.inr (some 740)), .inl x1] I (fun _ r => ∃ z, r = some (.inl z) ∧ ((0 ≤ z ∧ z ≤ 2147483647) ∨ z = (-1000000001))) := by
  have hW : fzs [] (fKc []) := fKc_ok _
  refine f_meth (rb := rbJ) (J := [(25, jc_M_cargo_a46a8_25), (48, jc_M_cargo_a46a8_48)]) 25769803765 400 xG xin_474 x6_474 okJ (fB_self h0) ?_ ?_
  · refine List.forall_mem_cons.mpr ⟨?_, List.forall_mem_cons.mpr ⟨?_, fun q h => absurd h List.not_mem_nil⟩⟩
    · rintro m _ _ I1 hB1 ⟨y1, y2, y3, y4, y5, rfl, rfl, hb, hm⟩
      refine And.intro ⟨rfl, by decide, by decide⟩ ?_
      refine fload rL_741_741_11_11_1_0 h0 hB1 (by omega) ?_
      intro z1 lz1 uz1 qz1
      have pz1 := fld_at qz1 11 (by omega)
      intro z2 hz2 ez2
      refine And.intro (by omega) (And.intro ?_ ?_)
      · intro c3
        refine And.intro (True.intro) ?_
        exact ⟨_, rfl, by omega⟩
      · intro c4
        exact fcutJ (I := I1) (j := jc_M_cargo_a46a8_48) (lv' := [(0, .inr (.inr (some 740))), (1, .inl _), (2, .inl _), (3, .inl _), (4, .inl _), (5, .inl _), (6, .inl _), (7, .inl _), (8, .inl _)]) (And.intro rfl (And.intro rfl (And.intro rfl (And.intro rfl (And.intro rfl (And.intro rfl (And.intro rfl (And.intro rfl (And.intro rfl True.intro))))))))) ⟨_, _, _, _, _, _, _, _, rfl, rfl, by omega, rfl⟩ (by omega)
    · rintro m _ _ I1 hB1 ⟨y1, y2, y3, y4, y5, y6, y7, y8, rfl, rfl, hb, hm⟩
      refine And.intro ⟨rfl, by decide, by decide⟩ ?_
      refine fload rL_741_741_11_11_1_0 h0 hB1 (by omega) ?_
      intro z5 lz5 uz5 qz5
      have pz5 := fld_at qz5 11 (by omega)
      refine And.intro (by omega) (And.intro ?_ ?_)
      · intro c6
        refine And.intro (by omega) (And.intro ?_ ?_)
        · intro c7
          intro z8 hz8 bz8
          exact fcutJ (I := I1) (j := jc_M_cargo_a46a8_25) (lv' := [(0, .inr (.inr (some 740))), (1, .inl _), (2, .inl _), (3, .inl _), (4, .inl _), (5, .inl _)]) (And.intro rfl (And.intro rfl (And.intro rfl (And.intro rfl (And.intro rfl (And.intro rfl True.intro)))))) ⟨_, _, _, _, _, rfl, rfl, by omega, rfl⟩ (by omega)
        · intro c9
          refine And.intro (by omega) (And.intro ?_ ?_)
          · intro c10
            intro z11 hz11 bz11
            exact fcutJ (I := I1) (j := jc_M_cargo_a46a8_25) (lv' := [(0, .inr (.inr (some 740))), (1, .inl _), (2, .inl _), (3, .inl _), (4, .inl _), (5, .inl _)]) (And.intro rfl (And.intro rfl (And.intro rfl (And.intro rfl (And.intro rfl (And.intro rfl True.intro)))))) ⟨_, _, _, _, _, rfl, rfl, by omega, rfl⟩ (by omega)
          · intro c12
            refine And.intro (by omega) (And.intro ?_ ?_)
            · intro c13
              intro z14 hz14 bz14
              exact fcutJ (I := I1) (j := jc_M_cargo_a46a8_25) (lv' := [(0, .inr (.inr (some 740))), (1, .inl _), (2, .inl _), (3, .inl _), (4, .inl _), (5, .inl _)]) (And.intro rfl (And.intro rfl (And.intro rfl (And.intro rfl (And.intro rfl (And.intro rfl True.intro)))))) ⟨_, _, _, _, _, rfl, rfl, by omega, rfl⟩ (by omega)
            · intro c15
              refine And.intro (by omega) (And.intro ?_ ?_)
              · intro c16
                intro z17 hz17 bz17
                exact fcutJ (I := I1) (j := jc_M_cargo_a46a8_25) (lv' := [(0, .inr (.inr (some 740))), (1, .inl _), (2, .inl _), (3, .inl _), (4, .inl _), (5, .inl _)]) (And.intro rfl (And.intro rfl (And.intro rfl (And.intro rfl (And.intro rfl (And.intro rfl True.intro)))))) ⟨_, _, _, _, _, rfl, rfl, by omega, rfl⟩ (by omega)
              · intro c18
                intro z19 hz19 bz19
                exact fcutJ (I := I1) (j := jc_M_cargo_a46a8_25) (lv' := [(0, .inr (.inr (some 740))), (1, .inl _), (2, .inl _), (3, .inl _), (4, .inl _), (5, .inl _)]) (And.intro rfl (And.intro rfl (And.intro rfl (And.intro rfl (And.intro rfl (And.intro rfl True.intro)))))) ⟨_, _, _, _, _, rfl, rfl, by omega, rfl⟩ (by omega)
      · intro c20
        intro z21 hz21 ez21
        intro z22 hz22 ez22 bz22
        refine And.intro ⟨rfl, by decide, by decide⟩ ?_
        refine fload rL_741_741_4350_4368_2_0 h0 hB1 (by omega) ?_
        intro z23 lz23 uz23 qz23
        intro z24 hz24 ez24 bz24
        intro z25 hz25 ez25 bz25
        intro z26 hz26 ez26
        intro z27 hz27 ez27 bz27
        refine And.intro ⟨rfl, by decide, by decide⟩ ?_
        refine fload rL_741_741_4351_4369_2_0 h0 hB1 (by omega) ?_
        intro z28 lz28 uz28 qz28
        intro z29 hz29 ez29 bz29
        intro z30 hz30 ez30 bz30
        exact fcutJ (I := I1) (j := jc_M_cargo_a46a8_48) (lv' := [(0, .inr (.inr (some 740))), (1, .inl _), (2, .inl _), (3, .inl _), (4, .inl _), (5, .inl _), (6, .inl _), (7, .inl _), (8, .inl _)]) (And.intro rfl (And.intro rfl (And.intro rfl (And.intro rfl (And.intro rfl (And.intro rfl (And.intro rfl (And.intro rfl (And.intro rfl True.intro))))))))) ⟨_, _, _, _, _, _, _, _, rfl, rfl, by omega, rfl⟩ (by omega)
  · have hB0 := fB_self (zn := znJ) (K := fKc []) h0
    refine And.intro (by omega) ?_
    refine Exists.intro xm_238 (And.intro mi_238 (And.intro ⟨rfl, rfl, rfl, rfl⟩ (And.intro True.intro ?_)))
    refine fcallp hB0 (ct_M_isIn_27230 (fBz h0 hB0) (by omega) (by omega) (by omega)) ?_
    rintro _ ⟨z31, rfl, hz31⟩
    refine And.intro (by omega) (And.intro ?_ ?_)
    · intro c32
      exact fcutJ (I := I) (j := jc_M_cargo_a46a8_25) (lv' := [(0, .inr (.inr (some 740))), (1, .inl _), (2, .inl _), (3, .inl _), (4, .inl _), (5, .inl _)]) (And.intro rfl (And.intro rfl (And.intro rfl (And.intro rfl (And.intro rfl (And.intro rfl True.intro)))))) ⟨_, _, _, _, _, rfl, rfl, by omega, rfl⟩ (by omega)
    · intro c33
      refine And.intro (True.intro) ?_
      exact ⟨_, rfl, by omega⟩
set_option maxRecDepth 8000 in
theorem ct_Desk_addBuild_36cf1 {I : fH} {x1 : Int} {x2 : Int} {x3 : Int} (h0 : fB bsJ I) (ha1 : (1 ≤ x1 ∧ x1 ≤ 9)) (ha2 : (1 ≤ x2 ∧ x2 ≤ 99)) (ha3 : (0 ≤ x3 ∧ x3 ≤ 127)) : fC ρ base n F xTc vwCl xTys D dA la gJ (fbz bsJ znJ (fKc wz_84712) I) xm_204 [.inr (.inr (some 211)), .inl x1, .inl x2, .inl x3] I (fun _ r => ∃ z, r = some (.inl z) ∧ ((0 ≤ z ∧ z ≤ 6) ∨ z = (-1000000003))) := by
  have hW : fzs wz_84712 (fKc wz_84712) := fKc_ok _
  refine f_meth (rb := rbJ) (J := []) 1 400 xG xin_204 x6_204 okJ (fB_self h0) ?_ ?_
  · exact fun q h => absurd h List.not_mem_nil
  · have hB0 := fB_self (zn := znJ) (K := fKc wz_84712) h0
    refine And.intro ⟨rfl, by decide, by decide⟩ (fgetf fb_211_15 h0 hB0 ?_)
    intro z1 lz1 uz1 qz1
    refine And.intro (by omega) (And.intro ?_ ?_)
    · intro c2
      refine And.intro ⟨rfl, by decide, by decide⟩ ?_
      refine fstore rS_254_254_0_6_1_0 (fzs_sub (by decide +kernel) hW) (by omega) (by omega) ?_
      intro IhB3 ehB3 hB3
      have t4 := fup_self ehB3
      have t5 : IhB3 211 15 = I 211 15 := (congrFun (congrFun ehB3 211) 15).trans (fup_ne (by omega))
      refine And.intro ⟨rfl, by decide, by decide⟩ ?_
      refine fstore rS_255_255_0_6_1_0 (fzs_sub (by decide +kernel) hW) (by omega) (by omega) ?_
      intro IhB6 ehB6 hB6
      have t7 := fup_self ehB6
      have t8 : IhB6 211 15 = IhB3 211 15 := (congrFun (congrFun ehB6 211) 15).trans (fup_ne (by omega))
      refine And.intro ⟨rfl, by decide, by decide⟩ ?_
      refine fstore rS_256_256_0_6_1_0 (fzs_sub (by decide +kernel) hW) (by omega) (by omega) ?_
      intro IhB9 ehB9 hB9
      have t10 := fup_self ehB9
      have t11 : IhB9 211 15 = IhB6 211 15 := (congrFun (congrFun ehB9 211) 15).trans (fup_ne (by omega))
      refine And.intro ⟨rfl, by decide, by decide⟩ (And.intro rfl (And.intro (Or.inl rfl) (fputf fb_211_15 (by decide +kernel) hW (by omega) ?_)))
      intro IhB12 ehB12 hB12
      have t13 := fup_at ehB12 15 (by omega)
      refine And.intro (True.intro) ?_
      exact ⟨_, rfl, by omega⟩
    · intro c14
      refine And.intro (True.intro) ?_
      exact ⟨_, rfl, by omega⟩
set_option maxRecDepth 8000 in
theorem ct_X_build_aad8f {I : fH} {x1 : Int} {x2 : Int} {x3 : Int} (h0 : fB bsJ I) (ha1 : ((-2147483648) ≤ x1 ∧ x1 ≤ 2147483647)) (ha2 : ((-2147483648) ≤ x2 ∧ x2 ≤ 2147483647)) (ha3 : ((-2147483648) ≤ x3 ∧ x3 ≤ 2147483647)) : fC ρ base n F xTc vwCl xTys D dA la gJ (fbz bsJ znJ (fKc wz_84712) I) xm_203 [.inr (.inr (some 0)), .inl x1, .inl x2, .inl x3] I (fun _ r => ∃ z, r = some (.inl z) ∧ ((0 ≤ z ∧ z ≤ 6) ∨ z = (-1000000003) ∨ z = (-1000000001))) := by
  have hW : fzs wz_84712 (fKc wz_84712) := fKc_ok _
  refine f_meth (rb := rbJ) (J := []) 1 400 xG xin_203 x6_203 okJ (fB_self h0) ?_ ?_
  · exact fun q h => absurd h List.not_mem_nil
  · have hB0 := fB_self (zn := znJ) (K := fKc wz_84712) h0
    refine Exists.intro xm_13 (And.intro mi_13 (And.intro ⟨rfl, rfl, rfl, rfl⟩ (And.intro True.intro ?_)))
    refine fcallp hB0 (ct_X_within_c27b1 (fBz h0 hB0) (by omega) (by omega) (by omega)) ?_
    rintro _ ⟨z1, rfl, hz1⟩
    refine And.intro (by omega) (And.intro ?_ ?_)
    · intro c2
      refine And.intro (True.intro) ?_
      exact ⟨_, rfl, by omega⟩
    · intro c3
      refine Exists.intro xm_13 (And.intro mi_13 (And.intro ⟨rfl, rfl, rfl, rfl⟩ (And.intro True.intro ?_)))
      refine fcallp hB0 (ct_X_within_c27b1 (fBz h0 hB0) (by omega) (by omega) (by omega)) ?_
      rintro _ ⟨z4, rfl, hz4⟩
      refine And.intro (by omega) (And.intro ?_ ?_)
      · intro c5
        refine And.intro (True.intro) ?_
        exact ⟨_, rfl, by omega⟩
      · intro c6
        refine Exists.intro xm_13 (And.intro mi_13 (And.intro ⟨rfl, rfl, rfl, rfl⟩ (And.intro True.intro ?_)))
        refine fcallp hB0 (ct_X_within_c27b1 (fBz h0 hB0) (by omega) (by omega) (by omega)) ?_
        rintro _ ⟨z7, rfl, hz7⟩
        refine And.intro (by omega) (And.intro ?_ ?_)
        · intro c8
          refine And.intro ⟨rfl, by decide, by decide⟩ ?_
          refine Exists.intro xm_204 (And.intro mi_204 (And.intro ⟨rfl, rfl, rfl, rfl⟩ (And.intro rfl ?_)))
          refine fcall _ h0 (fzs_sub (by decide +kernel) hW) hB0 (ct_Desk_addBuild_36cf1 (fBz h0 hB0) (by omega) (by omega) (by omega)) ?_
          rintro IhB10 _ hB10 fhB10 ⟨z9, rfl, hz9⟩
          refine And.intro (True.intro) ?_
          exact ⟨_, rfl, by omega⟩
        · intro c11
          refine And.intro (True.intro) ?_
          exact ⟨_, rfl, by omega⟩
set_option maxRecDepth 8000 in
theorem ct_M_build_09a60 {I : fH} {x1 : Int} {x2 : Int} {x3 : Int} (h0 : fB bsJ I) (ha1 : ((-2147483648) ≤ x1 ∧ x1 ≤ 2147483647)) (ha2 : ((-2147483648) ≤ x2 ∧ x2 ≤ 2147483647)) (ha3 : ((-2147483648) ≤ x3 ∧ x3 ≤ 2147483647)) : fC ρ base n F xTc vwCl xTys D dA la gJ (fbz bsJ znJ (fKc wz_526cb) I) xm_475 [.inr (.inr (some 740)), .inl x1, .inl x2, .inl x3] I (fun _ r => ∃ z, r = some (.inl z) ∧ ((0 ≤ z ∧ z ≤ 6) ∨ z = (-1000000003) ∨ z = (-1000000001))) := by
  have hW : fzs wz_526cb (fKc wz_526cb) := fKc_ok _
  refine f_meth (rb := rbJ) (J := []) 1 400 xG xin_475 x6_475 okJ (fB_self h0) ?_ ?_
  · exact fun q h => absurd h List.not_mem_nil
  · have hB0 := fB_self (zn := znJ) (K := fKc wz_526cb) h0
    refine And.intro (by omega) ?_
    refine Exists.intro xm_238 (And.intro mi_238 (And.intro ⟨rfl, rfl, rfl, rfl⟩ (And.intro True.intro ?_)))
    refine fcallp hB0 (ct_M_isIn_27230 (fBz h0 hB0) (by omega) (by omega) (by omega)) ?_
    rintro _ ⟨z1, rfl, hz1⟩
    refine And.intro (by omega) (And.intro ?_ ?_)
    · intro c2
      refine And.intro (True.intro) ?_
      exact ⟨_, rfl, by omega⟩
    · intro c3
      refine And.intro (by omega) ?_
      refine Exists.intro xm_238 (And.intro mi_238 (And.intro ⟨rfl, rfl, rfl, rfl⟩ (And.intro True.intro ?_)))
      refine fcallp hB0 (ct_M_isIn_27230 (fBz h0 hB0) (by omega) (by omega) (by omega)) ?_
      rintro _ ⟨z4, rfl, hz4⟩
      refine And.intro (by omega) (And.intro ?_ ?_)
      · intro c5
        refine And.intro (True.intro) ?_
        exact ⟨_, rfl, by omega⟩
      · intro c6
        refine And.intro (by omega) ?_
        refine Exists.intro xm_238 (And.intro mi_238 (And.intro ⟨rfl, rfl, rfl, rfl⟩ (And.intro True.intro ?_)))
        refine fcallp hB0 (ct_M_isIn_27230 (fBz h0 hB0) (by omega) (by omega) (by omega)) ?_
        rintro _ ⟨z7, rfl, hz7⟩
        refine And.intro (by omega) (And.intro ?_ ?_)
        · intro c8
          refine And.intro ⟨rfl, by decide, by decide⟩ ?_
          refine fload rL_741_741_12_12_1_0 h0 hB0 (by omega) ?_
          intro z9 lz9 uz9 qz9
          have pz9 := fld_at qz9 12 (by omega)
          refine And.intro (by omega) (And.intro ?_ ?_)
          · intro c10
            refine And.intro ⟨rfl, by decide, by decide⟩ ?_
            refine fload rL_741_741_12_12_1_0 h0 hB0 (by omega) ?_
            intro z11 lz11 uz11 qz11
            have pz11 := fld_at qz11 12 (by omega)
            refine And.intro ⟨rfl, by decide, by decide⟩ ?_
            refine fstore rS_741_741_4370_4388_3_0 (fzs_sub (by decide +kernel) hW) (by omega) (by omega) ?_
            intro IhB12 ehB12 hB12
            have t13 := fup_self ehB12
            have t14 : IhB12 741 12 = I 741 12 := (congrFun (congrFun ehB12 741) 12).trans (fup_ne (by omega))
            refine And.intro ⟨rfl, by decide, by decide⟩ ?_
            refine fstore rS_741_741_4371_4389_3_0 (fzs_sub (by decide +kernel) hW) (by omega) (by omega) ?_
            intro IhB15 ehB15 hB15
            have t16 := fup_self ehB15
            have t17 : IhB15 741 12 = IhB12 741 12 := (congrFun (congrFun ehB15 741) 12).trans (fup_ne (by omega))
            refine And.intro ⟨rfl, by decide, by decide⟩ ?_
            refine fstore rS_741_741_4372_4390_3_0 (fzs_sub (by decide +kernel) hW) (by omega) (by omega) ?_
            intro IhB18 ehB18 hB18
            have t19 := fup_self ehB18
            have t20 : IhB18 741 12 = IhB15 741 12 := (congrFun (congrFun ehB18 741) 12).trans (fup_ne (by omega))
            refine And.intro ⟨rfl, by decide, by decide⟩ ?_
            refine fload rL_741_741_12_12_1_0 h0 hB18 (by omega) ?_
            intro z21 lz21 uz21 qz21
            have pz21 := fld_at qz21 12 (by omega)
            refine fstore rS_741_741_12_12_1_0 (fzs_sub (by decide +kernel) hW) (by omega) (by omega) ?_
            intro IhB22 ehB22 hB22
            have t23 := fup_self ehB22
            have t24 := fup_at ehB22 12 (by omega)
            refine And.intro ⟨rfl, by decide, by decide⟩ ?_
            refine fload rL_741_741_12_12_1_0 h0 hB22 (by omega) ?_
            intro z25 lz25 uz25 qz25
            have pz25 := fld_at qz25 12 (by omega)
            refine And.intro (True.intro) ?_
            exact ⟨_, rfl, by omega⟩
          · intro c26
            refine And.intro (True.intro) ?_
            exact ⟨_, rfl, by omega⟩
        · intro c27
          refine And.intro (True.intro) ?_
          exact ⟨_, rfl, by omega⟩
set_option maxRecDepth 8000 in
theorem ct_Order_take_e8cff {I : fH} {x1 : Int} (h0 : fB bsJ I) (ha1 : ((-2147483648) ≤ x1 ∧ x1 ≤ 2147483647)) : fC ρ base n F xTc vwCl xTys D dA la gJ (fbz bsJ znJ (fKc wz_c325e) I) xm_215 [.inr (.inr (some 735)), .inl x1] I (fun _ r => r = none) := by
  have hW : fzs wz_c325e (fKc wz_c325e) := fKc_ok _
  refine f_meth (rb := rbJ) (J := []) 1 400 xG xin_215 x6_215 okJ (fB_self h0) ?_ ?_
  · exact fun q h => absurd h List.not_mem_nil
  · have hB0 := fB_self (zn := znJ) (K := fKc wz_c325e) h0
    refine And.intro ⟨rfl, by decide, by decide⟩ (fgetf fb_735_4 h0 hB0 ?_)
    intro z1 lz1 uz1 qz1
    refine And.intro (by omega) (And.intro ?_ ?_)
    · intro c2
      refine And.intro ⟨rfl, by decide, by decide⟩ (And.intro rfl (And.intro (Or.inl rfl) (fputf fb_735_4 (by decide +kernel) hW (by omega) ?_)))
      intro IhB3 ehB3 hB3
      have t4 := fup_at ehB3 4 (by omega)
      refine And.intro ⟨rfl, by decide, by decide⟩ ?_
      refine And.intro ⟨rfl, by decide, by decide⟩ ?_
      refine Exists.intro xm_75 (And.intro mi_75 (And.intro ⟨rfl, rfl, rfl, rfl⟩ (And.intro True.intro ?_)))
      refine fcall _ h0 (fzs_sub (by decide +kernel) hW) hB3 (ct_copyRow (W := [736]) (len := 7) (fBz h0 hB3) (frC_of (by decide +kernel))) ?_
      rintro IhB5 _ hB5 fhB5 ⟨rfl, ehB5⟩
      have t6 := fhB5 735 4 (by decide +kernel)
      exact rfl
    · intro c7
      refine And.intro ⟨rfl, by decide, by decide⟩ (fgetf fb_735_4 h0 hB0 ?_)
      intro z8 lz8 uz8 qz8
      refine And.intro (by omega) (And.intro ?_ ?_)
      · intro c9
        exact rfl
      · intro c10
        refine And.intro ⟨rfl, by decide, by decide⟩ (And.intro rfl (And.intro (Or.inl rfl) (fputf fb_735_4 (by decide +kernel) hW (by omega) ?_)))
        intro IhB11 ehB11 hB11
        have t12 := fup_at ehB11 4 (by omega)
        refine And.intro ⟨rfl, by decide, by decide⟩ ?_
        refine And.intro ⟨rfl, by decide, by decide⟩ ?_
        refine Exists.intro xm_75 (And.intro mi_75 (And.intro ⟨rfl, rfl, rfl, rfl⟩ (And.intro True.intro ?_)))
        refine fcall _ h0 (fzs_sub (by decide +kernel) hW) hB11 (ct_copyRow (W := [736]) (len := 7) (fBz h0 hB11) (frC_of (by decide +kernel))) ?_
        rintro IhB13 _ hB13 fhB13 ⟨rfl, ehB13⟩
        have t14 := fhB13 735 4 (by decide +kernel)
        exact rfl
set_option maxRecDepth 8000 in
theorem ct_Order_goOn_992d9 {I : fH} {x2 : Int} {x3 : Int} {x4 : Int} {x5 : Int} (h0 : fB bsJ I) (ha2 : (7 ≤ x2 ∧ x2 ≤ 7)) (ha3 : ((-2147483648) ≤ x3 ∧ x3 ≤ 2147483647)) (ha4 : ((-2147483648) ≤ x4 ∧ x4 ≤ 2147483647)) (ha5 : ((-2147483648) ≤ x5 ∧ x5 ≤ 2147483647)) : fC ρ base n F xTc vwCl xTys D dA la gJ (fbz bsJ znJ (fKc wz_c325e) I) xm_207 [.inr (.inr (some 735)), .inr (.inr (some 211)), .inl x2, .inl x3, .inl x4, .inl x5] I (fun _ r => r = none) := by
  have hW : fzs wz_c325e (fKc wz_c325e) := fKc_ok _
  refine f_meth (rb := rbJ) (J := []) 1 400 xG xin_207 x6_207 okJ (fB_self h0) ?_ ?_
  · exact fun q h => absurd h List.not_mem_nil
  · have hB0 := fB_self (zn := znJ) (K := fKc wz_c325e) h0
    refine And.intro ⟨rfl, by decide, by decide⟩ (fgetf fb_211_15 h0 hB0 ?_)
    intro z1 lz1 uz1 qz1
    refine And.intro (by omega) (And.intro ?_ ?_)
    · intro c2
      refine Exists.intro xm_215 (And.intro mi_215 (And.intro ⟨rfl, rfl, rfl, rfl⟩ (And.intro rfl ?_)))
      refine fcall _ h0 (fzs_sub (by decide +kernel) hW) hB0 (ct_Order_take_e8cff (fBz h0 hB0) (by omega)) ?_
      rintro IhB4 _ hB4 fhB4 rfl
      have t5 := fhB4 211 15 (by decide +kernel)
      exact rfl
    · intro c6
      exfalso
      omega
abbrev jc_Order_goOn_0ff97_24 : Nat → fL → List fV → fH → Prop := fun m lv st I => ∃ (y2 : Int) (y3 : Int) (y4 : Int) (y5 : Int) (y6 : Int), lv = [(0, .inr (.inr (some 735))), (1, .inr (.inr (some 211))), (2, .inl y2), (3, .inl y3), (4, .inl y4), (5, .inl y5), (6, .inl y6)] ∧ st = [] ∧ (((6 ≤ y2 ∧ y2 ≤ 6) ∧ ((-2147483648) ≤ y3 ∧ y3 ≤ 2147483647) ∧ ((-2147483648) ≤ y4 ∧ y4 ≤ 2147483647) ∧ ((-2147483648) ≤ y5 ∧ y5 ≤ 2147483647) ∧ (0 ≤ y6 ∧ y6 ≤ 7) ∧ (7 ≤ I 211 15 ∧ I 211 15 ≤ 7))) ∧ m = (1 + 1 * (7 - y6) : Int).toNat
set_option maxRecDepth 8000 in
theorem ct_Order_goOn_0ff97 {I : fH} {x2 : Int} {x3 : Int} {x4 : Int} {x5 : Int} (h0 : fB bsJ I) (ha2 : (6 ≤ x2 ∧ x2 ≤ 6)) (ha3 : ((-2147483648) ≤ x3 ∧ x3 ≤ 2147483647)) (ha4 : ((-2147483648) ≤ x4 ∧ x4 ≤ 2147483647)) (ha5 : ((-2147483648) ≤ x5 ∧ x5 ≤ 2147483647)) : fC ρ base n F xTc vwCl xTys D dA la gJ (fbz bsJ znJ (fKc wz_7628e) I) xm_208 [.inr (.inr (some 735)), .inr (.inr (some 211)), .inl x2, .inl x3, .inl x4, .inl x5] I (fun _ r => r = none) := by
  have hW : fzs wz_7628e (fKc wz_7628e) := fKc_ok _
  refine f_meth (rb := rbJ) (J := [(24, jc_Order_goOn_0ff97_24)]) 9 400 xG xin_208 x6_208 okJ (fB_self h0) ?_ ?_
  · refine List.forall_mem_cons.mpr ⟨?_, fun q h => absurd h List.not_mem_nil⟩
    · rintro m _ _ I1 hB1 ⟨y2, y3, y4, y5, y6, rfl, rfl, hb, hm⟩
      refine And.intro ⟨rfl, by decide, by decide⟩ (fgetf fb_211_15 h0 hB1 ?_)
      intro z1 lz1 uz1 qz1
      refine And.intro (by omega) (And.intro ?_ ?_)
      · intro c2
        exact rfl
      · intro c3
        refine And.intro ⟨rfl, by decide, by decide⟩ (fgetf fb_735_3 h0 hB1 ?_)
        intro z4 lz4 uz4 qz4
        refine And.intro (by omega) (And.intro ?_ ?_)
        · intro c5
          exact rfl
        · intro c6
          intro z7 hz7 ez7
          intro z8 hz8 ez8 bz8
          refine And.intro (by omega) (And.intro ?_ ?_)
          · intro c9
            exact fcutJ (I := I1) (j := jc_Order_goOn_0ff97_24) (lv' := [(0, .inr (.inr (some 735))), (1, .inr (.inr (some 211))), (2, .inl _), (3, .inl _), (4, .inl _), (5, .inl _), (6, .inl _)]) (And.intro rfl (And.intro rfl (And.intro rfl (And.intro rfl (And.intro rfl (And.intro rfl (And.intro rfl True.intro))))))) ⟨_, _, _, _, _, rfl, rfl, by omega, rfl⟩ (by omega)
          · intro c10
            refine And.intro ⟨rfl, by decide, by decide⟩ ?_
            refine fload rL_256_256_0_6_1_0 h0 hB1 (by omega) ?_
            intro z11 lz11 uz11 qz11
            intro z12 hz12 ez12
            intro z13 hz13 ez13 bz13
            refine And.intro (by omega) (And.intro ?_ ?_)
            · intro c14
              exact fcutJ (I := I1) (j := jc_Order_goOn_0ff97_24) (lv' := [(0, .inr (.inr (some 735))), (1, .inr (.inr (some 211))), (2, .inl _), (3, .inl _), (4, .inl _), (5, .inl _), (6, .inl _)]) (And.intro rfl (And.intro rfl (And.intro rfl (And.intro rfl (And.intro rfl (And.intro rfl (And.intro rfl True.intro))))))) ⟨_, _, _, _, _, rfl, rfl, by omega, rfl⟩ (by omega)
            · intro c15
              refine And.intro ⟨rfl, by decide, by decide⟩ (fgetf fb_735_3 h0 hB1 ?_)
              intro z16 lz16 uz16 qz16
              refine And.intro ⟨rfl, by decide, by decide⟩ (And.intro rfl (And.intro (Or.inl rfl) (fputf fb_735_3 (by decide +kernel) hW (by omega) ?_)))
              intro IhB17 ehB17 hB17
              have t18 : IhB17 211 15 = I1 211 15 := (congrFun (congrFun ehB17 211) 15).trans (fup_ne (by omega))
              have t19 := fup_at ehB17 3 (by omega)
              refine And.intro ⟨rfl, by decide, by decide⟩ ?_
              refine fstore rS_737_737_0_6_1_0 (fzs_sub (by decide +kernel) hW) (by omega) (by omega) ?_
              intro IhB20 ehB20 hB20
              have t21 := fup_self ehB20
              have t22 : IhB20 211 15 = IhB17 211 15 := (congrFun (congrFun ehB20 211) 15).trans (fup_ne (by omega))
              have t23 : IhB20 735 3 = IhB17 735 3 := (congrFun (congrFun ehB20 735) 3).trans (fup_ne (by omega))
              have t24 := fup_at ehB20 6 (by omega)
              refine And.intro ⟨rfl, by decide, by decide⟩ ?_
              refine fload rL_254_254_0_6_1_0 h0 hB20 (by omega) ?_
              intro z25 lz25 uz25 qz25
              intro z26 hz26 ez26 bz26
              refine And.intro ⟨rfl, by decide, by decide⟩ ?_
              refine fload rL_255_255_0_6_1_0 h0 hB20 (by omega) ?_
              intro z27 lz27 uz27 qz27
              refine And.intro ⟨rfl, by decide, by decide⟩ (fgetf fb_735_2 h0 hB20 ?_)
              intro z28 lz28 uz28 qz28
              intro z29 hz29 ez29 bz29
              refine And.intro (And.intro (by omega) (And.intro (by omega) rfl)) ?_
              intro z30 hz30
              intro z31 hz31 ez31 bz31
              refine And.intro ⟨rfl, by decide, by decide⟩ (fgetf fb_735_3 h0 hB20 ?_)
              intro z32 lz32 uz32 qz32
              refine And.intro (by omega) (And.intro ?_ ?_)
              · intro c33
                exact fcutJ (I := IhB20) (j := jc_Order_goOn_0ff97_24) (lv' := [(0, .inr (.inr (some 735))), (1, .inr (.inr (some 211))), (2, .inl _), (3, .inl _), (4, .inl _), (5, .inl _), (6, .inl _)]) (And.intro rfl (And.intro rfl (And.intro rfl (And.intro rfl (And.intro rfl (And.intro rfl (And.intro rfl True.intro))))))) ⟨_, _, _, _, _, rfl, rfl, by omega, rfl⟩ (by omega)
              · intro c34
                intro z35 hz35 ez35
                intro z36 hz36 ez36
                intro z37 hz37 ez37 bz37
                refine Exists.intro xm_207 (And.intro mi_207 (And.intro ⟨rfl, rfl, rfl, rfl⟩ (And.intro rfl ?_)))
                refine fcall _ h0 (fzs_sub (by decide +kernel) hW) hB20 (ct_Order_goOn_992d9 (fBz h0 hB20) (by omega) (by omega) (by omega) (by omega)) ?_
                rintro IhB39 _ hB39 fhB39 rfl
                have t40 := fhB39 211 15 (by decide +kernel)
                have t41 := fhB39 735 3 (by decide +kernel)
                exact fcutJ (I := IhB39) (j := jc_Order_goOn_0ff97_24) (lv' := [(0, .inr (.inr (some 735))), (1, .inr (.inr (some 211))), (2, .inl _), (3, .inl _), (4, .inl _), (5, .inl _), (6, .inl _)]) (And.intro rfl (And.intro rfl (And.intro rfl (And.intro rfl (And.intro rfl (And.intro rfl (And.intro rfl True.intro))))))) ⟨_, _, _, _, _, rfl, rfl, by omega, rfl⟩ (by omega)
  · have hB0 := fB_self (zn := znJ) (K := fKc wz_7628e) h0
    refine And.intro ⟨rfl, by decide, by decide⟩ (fgetf fb_211_15 h0 hB0 ?_)
    intro z42 lz42 uz42 qz42
    refine And.intro (by omega) (And.intro ?_ ?_)
    · intro c43
      refine Exists.intro xm_215 (And.intro mi_215 (And.intro ⟨rfl, rfl, rfl, rfl⟩ (And.intro rfl ?_)))
      refine fcall _ h0 (fzs_sub (by decide +kernel) hW) hB0 (ct_Order_take_e8cff (fBz h0 hB0) (by omega)) ?_
      rintro IhB45 _ hB45 fhB45 rfl
      have t46 := fhB45 211 15 (by decide +kernel)
      exact rfl
    · intro c47
      refine And.intro (by omega) (And.intro ?_ ?_)
      · intro c48
        exact fcutJ (I := I) (j := jc_Order_goOn_0ff97_24) (lv' := [(0, .inr (.inr (some 735))), (1, .inr (.inr (some 211))), (2, .inl _), (3, .inl _), (4, .inl _), (5, .inl _), (6, .inl _)]) (And.intro rfl (And.intro rfl (And.intro rfl (And.intro rfl (And.intro rfl (And.intro rfl (And.intro rfl True.intro))))))) ⟨_, _, _, _, _, rfl, rfl, by omega, rfl⟩ (by omega)
      · intro c49
        refine Exists.intro xm_215 (And.intro mi_215 (And.intro ⟨rfl, rfl, rfl, rfl⟩ (And.intro rfl ?_)))
        refine fcall _ h0 (fzs_sub (by decide +kernel) hW) hB0 (ct_Order_take_e8cff (fBz h0 hB0) (by omega)) ?_
        rintro IhB51 _ hB51 fhB51 rfl
        have t52 := fhB51 211 15 (by decide +kernel)
        exact rfl
abbrev jc_Order_goOn_341c6_24 : Nat → fL → List fV → fH → Prop := fun m lv st I => ∃ (y2 : Int) (y3 : Int) (y4 : Int) (y5 : Int) (y6 : Int), lv = [(0, .inr (.inr (some 735))), (1, .inr (.inr (some 211))), (2, .inl y2), (3, .inl y3), (4, .inl y4), (5, .inl y5), (6, .inl y6)] ∧ st = [] ∧ (((5 ≤ y2 ∧ y2 ≤ 5) ∧ ((-2147483648) ≤ y3 ∧ y3 ≤ 2147483647) ∧ ((-2147483648) ≤ y4 ∧ y4 ≤ 2147483647) ∧ ((-2147483648) ≤ y5 ∧ y5 ≤ 2147483647) ∧ (0 ≤ y6 ∧ y6 ≤ 7) ∧ (6 ≤ I 211 15 ∧ I 211 15 ≤ 7))) ∧ m = (1 + 1 * (7 - y6) : Int).toNat
set_option maxRecDepth 8000 in
theorem ct_Order_goOn_341c6 {I : fH} {x2 : Int} {x3 : Int} {x4 : Int} {x5 : Int} (h0 : fB bsJ I) (ha2 : (5 ≤ x2 ∧ x2 ≤ 5)) (ha3 : ((-2147483648) ≤ x3 ∧ x3 ≤ 2147483647)) (ha4 : ((-2147483648) ≤ x4 ∧ x4 ≤ 2147483647)) (ha5 : ((-2147483648) ≤ x5 ∧ x5 ≤ 2147483647)) : fC ρ base n F xTc vwCl xTys D dA la gJ (fbz bsJ znJ (fKc wz_7628e) I) xm_209 [.inr (.inr (some 735)), .inr (.inr (some 211)), .inl x2, .inl x3, .inl x4, .inl x5] I (fun _ r => r = none) := by
  have hW : fzs wz_7628e (fKc wz_7628e) := fKc_ok _
  refine f_meth (rb := rbJ) (J := [(24, jc_Order_goOn_341c6_24)]) 9 400 xG xin_209 x6_209 okJ (fB_self h0) ?_ ?_
  · refine List.forall_mem_cons.mpr ⟨?_, fun q h => absurd h List.not_mem_nil⟩
    · rintro m _ _ I1 hB1 ⟨y2, y3, y4, y5, y6, rfl, rfl, hb, hm⟩
      refine And.intro ⟨rfl, by decide, by decide⟩ (fgetf fb_211_15 h0 hB1 ?_)
      intro z1 lz1 uz1 qz1
      refine And.intro (by omega) (And.intro ?_ ?_)
      · intro c2
        exact rfl
      · intro c3
        refine And.intro ⟨rfl, by decide, by decide⟩ (fgetf fb_735_3 h0 hB1 ?_)
        intro z4 lz4 uz4 qz4
        refine And.intro (by omega) (And.intro ?_ ?_)
        · intro c5
          exact rfl
        · intro c6
          intro z7 hz7 ez7
          intro z8 hz8 ez8 bz8
          refine And.intro (by omega) (And.intro ?_ ?_)
          · intro c9
            exact fcutJ (I := I1) (j := jc_Order_goOn_341c6_24) (lv' := [(0, .inr (.inr (some 735))), (1, .inr (.inr (some 211))), (2, .inl _), (3, .inl _), (4, .inl _), (5, .inl _), (6, .inl _)]) (And.intro rfl (And.intro rfl (And.intro rfl (And.intro rfl (And.intro rfl (And.intro rfl (And.intro rfl True.intro))))))) ⟨_, _, _, _, _, rfl, rfl, by omega, rfl⟩ (by omega)
          · intro c10
            refine And.intro ⟨rfl, by decide, by decide⟩ ?_
            refine fload rL_256_256_0_6_1_0 h0 hB1 (by omega) ?_
            intro z11 lz11 uz11 qz11
            intro z12 hz12 ez12
            intro z13 hz13 ez13 bz13
            refine And.intro (by omega) (And.intro ?_ ?_)
            · intro c14
              exact fcutJ (I := I1) (j := jc_Order_goOn_341c6_24) (lv' := [(0, .inr (.inr (some 735))), (1, .inr (.inr (some 211))), (2, .inl _), (3, .inl _), (4, .inl _), (5, .inl _), (6, .inl _)]) (And.intro rfl (And.intro rfl (And.intro rfl (And.intro rfl (And.intro rfl (And.intro rfl (And.intro rfl True.intro))))))) ⟨_, _, _, _, _, rfl, rfl, by omega, rfl⟩ (by omega)
            · intro c15
              refine And.intro ⟨rfl, by decide, by decide⟩ (fgetf fb_735_3 h0 hB1 ?_)
              intro z16 lz16 uz16 qz16
              refine And.intro ⟨rfl, by decide, by decide⟩ (And.intro rfl (And.intro (Or.inl rfl) (fputf fb_735_3 (by decide +kernel) hW (by omega) ?_)))
              intro IhB17 ehB17 hB17
              have t18 : IhB17 211 15 = I1 211 15 := (congrFun (congrFun ehB17 211) 15).trans (fup_ne (by omega))
              have t19 := fup_at ehB17 3 (by omega)
              refine And.intro ⟨rfl, by decide, by decide⟩ ?_
              refine fstore rS_737_737_0_6_1_0 (fzs_sub (by decide +kernel) hW) (by omega) (by omega) ?_
              intro IhB20 ehB20 hB20
              have t21 := fup_self ehB20
              have t22 : IhB20 211 15 = IhB17 211 15 := (congrFun (congrFun ehB20 211) 15).trans (fup_ne (by omega))
              have t23 : IhB20 735 3 = IhB17 735 3 := (congrFun (congrFun ehB20 735) 3).trans (fup_ne (by omega))
              have t24 := fup_at ehB20 5 (by omega)
              refine And.intro ⟨rfl, by decide, by decide⟩ ?_
              refine fload rL_254_254_0_6_1_0 h0 hB20 (by omega) ?_
              intro z25 lz25 uz25 qz25
              intro z26 hz26 ez26 bz26
              refine And.intro ⟨rfl, by decide, by decide⟩ ?_
              refine fload rL_255_255_0_6_1_0 h0 hB20 (by omega) ?_
              intro z27 lz27 uz27 qz27
              refine And.intro ⟨rfl, by decide, by decide⟩ (fgetf fb_735_2 h0 hB20 ?_)
              intro z28 lz28 uz28 qz28
              intro z29 hz29 ez29 bz29
              refine And.intro (And.intro (by omega) (And.intro (by omega) rfl)) ?_
              intro z30 hz30
              intro z31 hz31 ez31 bz31
              refine And.intro ⟨rfl, by decide, by decide⟩ (fgetf fb_735_3 h0 hB20 ?_)
              intro z32 lz32 uz32 qz32
              refine And.intro (by omega) (And.intro ?_ ?_)
              · intro c33
                exact fcutJ (I := IhB20) (j := jc_Order_goOn_341c6_24) (lv' := [(0, .inr (.inr (some 735))), (1, .inr (.inr (some 211))), (2, .inl _), (3, .inl _), (4, .inl _), (5, .inl _), (6, .inl _)]) (And.intro rfl (And.intro rfl (And.intro rfl (And.intro rfl (And.intro rfl (And.intro rfl (And.intro rfl True.intro))))))) ⟨_, _, _, _, _, rfl, rfl, by omega, rfl⟩ (by omega)
              · intro c34
                intro z35 hz35 ez35
                intro z36 hz36 ez36
                intro z37 hz37 ez37 bz37
                refine Exists.intro xm_208 (And.intro mi_208 (And.intro ⟨rfl, rfl, rfl, rfl⟩ (And.intro rfl ?_)))
                refine fcall _ h0 (fzs_sub (by decide +kernel) hW) hB20 (ct_Order_goOn_0ff97 (fBz h0 hB20) (by omega) (by omega) (by omega) (by omega)) ?_
                rintro IhB39 _ hB39 fhB39 rfl
                have t40 := fhB39 211 15 (by decide +kernel)
                exact fcutJ (I := IhB39) (j := jc_Order_goOn_341c6_24) (lv' := [(0, .inr (.inr (some 735))), (1, .inr (.inr (some 211))), (2, .inl _), (3, .inl _), (4, .inl _), (5, .inl _), (6, .inl _)]) (And.intro rfl (And.intro rfl (And.intro rfl (And.intro rfl (And.intro rfl (And.intro rfl (And.intro rfl True.intro))))))) ⟨_, _, _, _, _, rfl, rfl, by omega, rfl⟩ (by omega)
  · have hB0 := fB_self (zn := znJ) (K := fKc wz_7628e) h0
    refine And.intro ⟨rfl, by decide, by decide⟩ (fgetf fb_211_15 h0 hB0 ?_)
    intro z41 lz41 uz41 qz41
    refine And.intro (by omega) (And.intro ?_ ?_)
    · intro c42
      refine Exists.intro xm_215 (And.intro mi_215 (And.intro ⟨rfl, rfl, rfl, rfl⟩ (And.intro rfl ?_)))
      refine fcall _ h0 (fzs_sub (by decide +kernel) hW) hB0 (ct_Order_take_e8cff (fBz h0 hB0) (by omega)) ?_
      rintro IhB44 _ hB44 fhB44 rfl
      have t45 := fhB44 211 15 (by decide +kernel)
      exact rfl
    · intro c46
      refine And.intro (by omega) (And.intro ?_ ?_)
      · intro c47
        exact fcutJ (I := I) (j := jc_Order_goOn_341c6_24) (lv' := [(0, .inr (.inr (some 735))), (1, .inr (.inr (some 211))), (2, .inl _), (3, .inl _), (4, .inl _), (5, .inl _), (6, .inl _)]) (And.intro rfl (And.intro rfl (And.intro rfl (And.intro rfl (And.intro rfl (And.intro rfl (And.intro rfl True.intro))))))) ⟨_, _, _, _, _, rfl, rfl, by omega, rfl⟩ (by omega)
      · intro c48
        refine Exists.intro xm_215 (And.intro mi_215 (And.intro ⟨rfl, rfl, rfl, rfl⟩ (And.intro rfl ?_)))
        refine fcall _ h0 (fzs_sub (by decide +kernel) hW) hB0 (ct_Order_take_e8cff (fBz h0 hB0) (by omega)) ?_
        rintro IhB50 _ hB50 fhB50 rfl
        have t51 := fhB50 211 15 (by decide +kernel)
        exact rfl
abbrev jc_Order_goOn_2e9e0_24 : Nat → fL → List fV → fH → Prop := fun m lv st I => ∃ (y2 : Int) (y3 : Int) (y4 : Int) (y5 : Int) (y6 : Int), lv = [(0, .inr (.inr (some 735))), (1, .inr (.inr (some 211))), (2, .inl y2), (3, .inl y3), (4, .inl y4), (5, .inl y5), (6, .inl y6)] ∧ st = [] ∧ (((4 ≤ y2 ∧ y2 ≤ 4) ∧ ((-2147483648) ≤ y3 ∧ y3 ≤ 2147483647) ∧ ((-2147483648) ≤ y4 ∧ y4 ≤ 2147483647) ∧ ((-2147483648) ≤ y5 ∧ y5 ≤ 2147483647) ∧ (0 ≤ y6 ∧ y6 ≤ 7) ∧ (5 ≤ I 211 15 ∧ I 211 15 ≤ 7))) ∧ m = (1 + 1 * (7 - y6) : Int).toNat
set_option maxRecDepth 8000 in
theorem ct_Order_goOn_2e9e0 {I : fH} {x2 : Int} {x3 : Int} {x4 : Int} {x5 : Int} (h0 : fB bsJ I) (ha2 : (4 ≤ x2 ∧ x2 ≤ 4)) (ha3 : ((-2147483648) ≤ x3 ∧ x3 ≤ 2147483647)) (ha4 : ((-2147483648) ≤ x4 ∧ x4 ≤ 2147483647)) (ha5 : ((-2147483648) ≤ x5 ∧ x5 ≤ 2147483647)) : fC ρ base n F xTc vwCl xTys D dA la gJ (fbz bsJ znJ (fKc wz_7628e) I) xm_210 [.inr (.inr (some 735)), .inr (.inr (some 211)), .inl x2, .inl x3, .inl x4, .inl x5] I (fun _ r => r = none) := by
  have hW : fzs wz_7628e (fKc wz_7628e) := fKc_ok _
  refine f_meth (rb := rbJ) (J := [(24, jc_Order_goOn_2e9e0_24)]) 9 400 xG xin_210 x6_210 okJ (fB_self h0) ?_ ?_
  · refine List.forall_mem_cons.mpr ⟨?_, fun q h => absurd h List.not_mem_nil⟩
    · rintro m _ _ I1 hB1 ⟨y2, y3, y4, y5, y6, rfl, rfl, hb, hm⟩
      refine And.intro ⟨rfl, by decide, by decide⟩ (fgetf fb_211_15 h0 hB1 ?_)
      intro z1 lz1 uz1 qz1
      refine And.intro (by omega) (And.intro ?_ ?_)
      · intro c2
        exact rfl
      · intro c3
        refine And.intro ⟨rfl, by decide, by decide⟩ (fgetf fb_735_3 h0 hB1 ?_)
        intro z4 lz4 uz4 qz4
        refine And.intro (by omega) (And.intro ?_ ?_)
        · intro c5
          exact rfl
        · intro c6
          intro z7 hz7 ez7
          intro z8 hz8 ez8 bz8
          refine And.intro (by omega) (And.intro ?_ ?_)
          · intro c9
            exact fcutJ (I := I1) (j := jc_Order_goOn_2e9e0_24) (lv' := [(0, .inr (.inr (some 735))), (1, .inr (.inr (some 211))), (2, .inl _), (3, .inl _), (4, .inl _), (5, .inl _), (6, .inl _)]) (And.intro rfl (And.intro rfl (And.intro rfl (And.intro rfl (And.intro rfl (And.intro rfl (And.intro rfl True.intro))))))) ⟨_, _, _, _, _, rfl, rfl, by omega, rfl⟩ (by omega)
          · intro c10
            refine And.intro ⟨rfl, by decide, by decide⟩ ?_
            refine fload rL_256_256_0_6_1_0 h0 hB1 (by omega) ?_
            intro z11 lz11 uz11 qz11
            intro z12 hz12 ez12
            intro z13 hz13 ez13 bz13
            refine And.intro (by omega) (And.intro ?_ ?_)
            · intro c14
              exact fcutJ (I := I1) (j := jc_Order_goOn_2e9e0_24) (lv' := [(0, .inr (.inr (some 735))), (1, .inr (.inr (some 211))), (2, .inl _), (3, .inl _), (4, .inl _), (5, .inl _), (6, .inl _)]) (And.intro rfl (And.intro rfl (And.intro rfl (And.intro rfl (And.intro rfl (And.intro rfl (And.intro rfl True.intro))))))) ⟨_, _, _, _, _, rfl, rfl, by omega, rfl⟩ (by omega)
            · intro c15
              refine And.intro ⟨rfl, by decide, by decide⟩ (fgetf fb_735_3 h0 hB1 ?_)
              intro z16 lz16 uz16 qz16
              refine And.intro ⟨rfl, by decide, by decide⟩ (And.intro rfl (And.intro (Or.inl rfl) (fputf fb_735_3 (by decide +kernel) hW (by omega) ?_)))
              intro IhB17 ehB17 hB17
              have t18 : IhB17 211 15 = I1 211 15 := (congrFun (congrFun ehB17 211) 15).trans (fup_ne (by omega))
              have t19 := fup_at ehB17 3 (by omega)
              refine And.intro ⟨rfl, by decide, by decide⟩ ?_
              refine fstore rS_737_737_0_6_1_0 (fzs_sub (by decide +kernel) hW) (by omega) (by omega) ?_
              intro IhB20 ehB20 hB20
              have t21 := fup_self ehB20
              have t22 : IhB20 211 15 = IhB17 211 15 := (congrFun (congrFun ehB20 211) 15).trans (fup_ne (by omega))
              have t23 : IhB20 735 3 = IhB17 735 3 := (congrFun (congrFun ehB20 735) 3).trans (fup_ne (by omega))
              have t24 := fup_at ehB20 4 (by omega)
              refine And.intro ⟨rfl, by decide, by decide⟩ ?_
              refine fload rL_254_254_0_6_1_0 h0 hB20 (by omega) ?_
              intro z25 lz25 uz25 qz25
              intro z26 hz26 ez26 bz26
              refine And.intro ⟨rfl, by decide, by decide⟩ ?_
              refine fload rL_255_255_0_6_1_0 h0 hB20 (by omega) ?_
              intro z27 lz27 uz27 qz27
              refine And.intro ⟨rfl, by decide, by decide⟩ (fgetf fb_735_2 h0 hB20 ?_)
              intro z28 lz28 uz28 qz28
              intro z29 hz29 ez29 bz29
              refine And.intro (And.intro (by omega) (And.intro (by omega) rfl)) ?_
              intro z30 hz30
              intro z31 hz31 ez31 bz31
              refine And.intro ⟨rfl, by decide, by decide⟩ (fgetf fb_735_3 h0 hB20 ?_)
              intro z32 lz32 uz32 qz32
              refine And.intro (by omega) (And.intro ?_ ?_)
              · intro c33
                exact fcutJ (I := IhB20) (j := jc_Order_goOn_2e9e0_24) (lv' := [(0, .inr (.inr (some 735))), (1, .inr (.inr (some 211))), (2, .inl _), (3, .inl _), (4, .inl _), (5, .inl _), (6, .inl _)]) (And.intro rfl (And.intro rfl (And.intro rfl (And.intro rfl (And.intro rfl (And.intro rfl (And.intro rfl True.intro))))))) ⟨_, _, _, _, _, rfl, rfl, by omega, rfl⟩ (by omega)
              · intro c34
                intro z35 hz35 ez35
                intro z36 hz36 ez36
                intro z37 hz37 ez37 bz37
                refine Exists.intro xm_209 (And.intro mi_209 (And.intro ⟨rfl, rfl, rfl, rfl⟩ (And.intro rfl ?_)))
                refine fcall _ h0 (fzs_sub (by decide +kernel) hW) hB20 (ct_Order_goOn_341c6 (fBz h0 hB20) (by omega) (by omega) (by omega) (by omega)) ?_
                rintro IhB39 _ hB39 fhB39 rfl
                have t40 := fhB39 211 15 (by decide +kernel)
                exact fcutJ (I := IhB39) (j := jc_Order_goOn_2e9e0_24) (lv' := [(0, .inr (.inr (some 735))), (1, .inr (.inr (some 211))), (2, .inl _), (3, .inl _), (4, .inl _), (5, .inl _), (6, .inl _)]) (And.intro rfl (And.intro rfl (And.intro rfl (And.intro rfl (And.intro rfl (And.intro rfl (And.intro rfl True.intro))))))) ⟨_, _, _, _, _, rfl, rfl, by omega, rfl⟩ (by omega)
  · have hB0 := fB_self (zn := znJ) (K := fKc wz_7628e) h0
    refine And.intro ⟨rfl, by decide, by decide⟩ (fgetf fb_211_15 h0 hB0 ?_)
    intro z41 lz41 uz41 qz41
    refine And.intro (by omega) (And.intro ?_ ?_)
    · intro c42
      refine Exists.intro xm_215 (And.intro mi_215 (And.intro ⟨rfl, rfl, rfl, rfl⟩ (And.intro rfl ?_)))
      refine fcall _ h0 (fzs_sub (by decide +kernel) hW) hB0 (ct_Order_take_e8cff (fBz h0 hB0) (by omega)) ?_
      rintro IhB44 _ hB44 fhB44 rfl
      have t45 := fhB44 211 15 (by decide +kernel)
      exact rfl
    · intro c46
      refine And.intro (by omega) (And.intro ?_ ?_)
      · intro c47
        exact fcutJ (I := I) (j := jc_Order_goOn_2e9e0_24) (lv' := [(0, .inr (.inr (some 735))), (1, .inr (.inr (some 211))), (2, .inl _), (3, .inl _), (4, .inl _), (5, .inl _), (6, .inl _)]) (And.intro rfl (And.intro rfl (And.intro rfl (And.intro rfl (And.intro rfl (And.intro rfl (And.intro rfl True.intro))))))) ⟨_, _, _, _, _, rfl, rfl, by omega, rfl⟩ (by omega)
      · intro c48
        refine Exists.intro xm_215 (And.intro mi_215 (And.intro ⟨rfl, rfl, rfl, rfl⟩ (And.intro rfl ?_)))
        refine fcall _ h0 (fzs_sub (by decide +kernel) hW) hB0 (ct_Order_take_e8cff (fBz h0 hB0) (by omega)) ?_
        rintro IhB50 _ hB50 fhB50 rfl
        have t51 := fhB50 211 15 (by decide +kernel)
        exact rfl
abbrev jc_Order_goOn_6df0d_24 : Nat → fL → List fV → fH → Prop := fun m lv st I => ∃ (y2 : Int) (y3 : Int) (y4 : Int) (y5 : Int) (y6 : Int), lv = [(0, .inr (.inr (some 735))), (1, .inr (.inr (some 211))), (2, .inl y2), (3, .inl y3), (4, .inl y4), (5, .inl y5), (6, .inl y6)] ∧ st = [] ∧ (((3 ≤ y2 ∧ y2 ≤ 3) ∧ ((-2147483648) ≤ y3 ∧ y3 ≤ 2147483647) ∧ ((-2147483648) ≤ y4 ∧ y4 ≤ 2147483647) ∧ ((-2147483648) ≤ y5 ∧ y5 ≤ 2147483647) ∧ (0 ≤ y6 ∧ y6 ≤ 7) ∧ (4 ≤ I 211 15 ∧ I 211 15 ≤ 7))) ∧ m = (1 + 1 * (7 - y6) : Int).toNat
set_option maxRecDepth 8000 in
theorem ct_Order_goOn_6df0d {I : fH} {x2 : Int} {x3 : Int} {x4 : Int} {x5 : Int} (h0 : fB bsJ I) (ha2 : (3 ≤ x2 ∧ x2 ≤ 3)) (ha3 : ((-2147483648) ≤ x3 ∧ x3 ≤ 2147483647)) (ha4 : ((-2147483648) ≤ x4 ∧ x4 ≤ 2147483647)) (ha5 : ((-2147483648) ≤ x5 ∧ x5 ≤ 2147483647)) : fC ρ base n F xTc vwCl xTys D dA la gJ (fbz bsJ znJ (fKc wz_7628e) I) xm_211 [.inr (.inr (some 735)), .inr (.inr (some 211)), .inl x2, .inl x3, .inl x4, .inl x5] I (fun _ r => r = none) := by
  have hW : fzs wz_7628e (fKc wz_7628e) := fKc_ok _
  refine f_meth (rb := rbJ) (J := [(24, jc_Order_goOn_6df0d_24)]) 9 400 xG xin_211 x6_211 okJ (fB_self h0) ?_ ?_
  · refine List.forall_mem_cons.mpr ⟨?_, fun q h => absurd h List.not_mem_nil⟩
    · rintro m _ _ I1 hB1 ⟨y2, y3, y4, y5, y6, rfl, rfl, hb, hm⟩
      refine And.intro ⟨rfl, by decide, by decide⟩ (fgetf fb_211_15 h0 hB1 ?_)
      intro z1 lz1 uz1 qz1
      refine And.intro (by omega) (And.intro ?_ ?_)
      · intro c2
        exact rfl
      · intro c3
        refine And.intro ⟨rfl, by decide, by decide⟩ (fgetf fb_735_3 h0 hB1 ?_)
        intro z4 lz4 uz4 qz4
        refine And.intro (by omega) (And.intro ?_ ?_)
        · intro c5
          exact rfl
        · intro c6
          intro z7 hz7 ez7
          intro z8 hz8 ez8 bz8
          refine And.intro (by omega) (And.intro ?_ ?_)
          · intro c9
            exact fcutJ (I := I1) (j := jc_Order_goOn_6df0d_24) (lv' := [(0, .inr (.inr (some 735))), (1, .inr (.inr (some 211))), (2, .inl _), (3, .inl _), (4, .inl _), (5, .inl _), (6, .inl _)]) (And.intro rfl (And.intro rfl (And.intro rfl (And.intro rfl (And.intro rfl (And.intro rfl (And.intro rfl True.intro))))))) ⟨_, _, _, _, _, rfl, rfl, by omega, rfl⟩ (by omega)
          · intro c10
            refine And.intro ⟨rfl, by decide, by decide⟩ ?_
            refine fload rL_256_256_0_6_1_0 h0 hB1 (by omega) ?_
            intro z11 lz11 uz11 qz11
            intro z12 hz12 ez12
            intro z13 hz13 ez13 bz13
            refine And.intro (by omega) (And.intro ?_ ?_)
            · intro c14
              exact fcutJ (I := I1) (j := jc_Order_goOn_6df0d_24) (lv' := [(0, .inr (.inr (some 735))), (1, .inr (.inr (some 211))), (2, .inl _), (3, .inl _), (4, .inl _), (5, .inl _), (6, .inl _)]) (And.intro rfl (And.intro rfl (And.intro rfl (And.intro rfl (And.intro rfl (And.intro rfl (And.intro rfl True.intro))))))) ⟨_, _, _, _, _, rfl, rfl, by omega, rfl⟩ (by omega)
            · intro c15
              refine And.intro ⟨rfl, by decide, by decide⟩ (fgetf fb_735_3 h0 hB1 ?_)
              intro z16 lz16 uz16 qz16
              refine And.intro ⟨rfl, by decide, by decide⟩ (And.intro rfl (And.intro (Or.inl rfl) (fputf fb_735_3 (by decide +kernel) hW (by omega) ?_)))
              intro IhB17 ehB17 hB17
              have t18 : IhB17 211 15 = I1 211 15 := (congrFun (congrFun ehB17 211) 15).trans (fup_ne (by omega))
              have t19 := fup_at ehB17 3 (by omega)
              refine And.intro ⟨rfl, by decide, by decide⟩ ?_
              refine fstore rS_737_737_0_6_1_0 (fzs_sub (by decide +kernel) hW) (by omega) (by omega) ?_
              intro IhB20 ehB20 hB20
              have t21 := fup_self ehB20
              have t22 : IhB20 211 15 = IhB17 211 15 := (congrFun (congrFun ehB20 211) 15).trans (fup_ne (by omega))
              have t23 : IhB20 735 3 = IhB17 735 3 := (congrFun (congrFun ehB20 735) 3).trans (fup_ne (by omega))
              have t24 := fup_at ehB20 3 (by omega)
              refine And.intro ⟨rfl, by decide, by decide⟩ ?_
              refine fload rL_254_254_0_6_1_0 h0 hB20 (by omega) ?_
              intro z25 lz25 uz25 qz25
              intro z26 hz26 ez26 bz26
              refine And.intro ⟨rfl, by decide, by decide⟩ ?_
              refine fload rL_255_255_0_6_1_0 h0 hB20 (by omega) ?_
              intro z27 lz27 uz27 qz27
              refine And.intro ⟨rfl, by decide, by decide⟩ (fgetf fb_735_2 h0 hB20 ?_)
              intro z28 lz28 uz28 qz28
              intro z29 hz29 ez29 bz29
              refine And.intro (And.intro (by omega) (And.intro (by omega) rfl)) ?_
              intro z30 hz30
              intro z31 hz31 ez31 bz31
              refine And.intro ⟨rfl, by decide, by decide⟩ (fgetf fb_735_3 h0 hB20 ?_)
              intro z32 lz32 uz32 qz32
              refine And.intro (by omega) (And.intro ?_ ?_)
              · intro c33
                exact fcutJ (I := IhB20) (j := jc_Order_goOn_6df0d_24) (lv' := [(0, .inr (.inr (some 735))), (1, .inr (.inr (some 211))), (2, .inl _), (3, .inl _), (4, .inl _), (5, .inl _), (6, .inl _)]) (And.intro rfl (And.intro rfl (And.intro rfl (And.intro rfl (And.intro rfl (And.intro rfl (And.intro rfl True.intro))))))) ⟨_, _, _, _, _, rfl, rfl, by omega, rfl⟩ (by omega)
              · intro c34
                intro z35 hz35 ez35
                intro z36 hz36 ez36
                intro z37 hz37 ez37 bz37
                refine Exists.intro xm_210 (And.intro mi_210 (And.intro ⟨rfl, rfl, rfl, rfl⟩ (And.intro rfl ?_)))
                refine fcall _ h0 (fzs_sub (by decide +kernel) hW) hB20 (ct_Order_goOn_2e9e0 (fBz h0 hB20) (by omega) (by omega) (by omega) (by omega)) ?_
                rintro IhB39 _ hB39 fhB39 rfl
                have t40 := fhB39 211 15 (by decide +kernel)
                exact fcutJ (I := IhB39) (j := jc_Order_goOn_6df0d_24) (lv' := [(0, .inr (.inr (some 735))), (1, .inr (.inr (some 211))), (2, .inl _), (3, .inl _), (4, .inl _), (5, .inl _), (6, .inl _)]) (And.intro rfl (And.intro rfl (And.intro rfl (And.intro rfl (And.intro rfl (And.intro rfl (And.intro rfl True.intro))))))) ⟨_, _, _, _, _, rfl, rfl, by omega, rfl⟩ (by omega)
  · have hB0 := fB_self (zn := znJ) (K := fKc wz_7628e) h0
    refine And.intro ⟨rfl, by decide, by decide⟩ (fgetf fb_211_15 h0 hB0 ?_)
    intro z41 lz41 uz41 qz41
    refine And.intro (by omega) (And.intro ?_ ?_)
    · intro c42
      refine Exists.intro xm_215 (And.intro mi_215 (And.intro ⟨rfl, rfl, rfl, rfl⟩ (And.intro rfl ?_)))
      refine fcall _ h0 (fzs_sub (by decide +kernel) hW) hB0 (ct_Order_take_e8cff (fBz h0 hB0) (by omega)) ?_
      rintro IhB44 _ hB44 fhB44 rfl
      have t45 := fhB44 211 15 (by decide +kernel)
      exact rfl
    · intro c46
      refine And.intro (by omega) (And.intro ?_ ?_)
      · intro c47
        exact fcutJ (I := I) (j := jc_Order_goOn_6df0d_24) (lv' := [(0, .inr (.inr (some 735))), (1, .inr (.inr (some 211))), (2, .inl _), (3, .inl _), (4, .inl _), (5, .inl _), (6, .inl _)]) (And.intro rfl (And.intro rfl (And.intro rfl (And.intro rfl (And.intro rfl (And.intro rfl (And.intro rfl True.intro))))))) ⟨_, _, _, _, _, rfl, rfl, by omega, rfl⟩ (by omega)
      · intro c48
        refine Exists.intro xm_215 (And.intro mi_215 (And.intro ⟨rfl, rfl, rfl, rfl⟩ (And.intro rfl ?_)))
        refine fcall _ h0 (fzs_sub (by decide +kernel) hW) hB0 (ct_Order_take_e8cff (fBz h0 hB0) (by omega)) ?_
        rintro IhB50 _ hB50 fhB50 rfl
        have t51 := fhB50 211 15 (by decide +kernel)
        exact rfl
abbrev jc_Order_goOn_0f9c9_24 : Nat → fL → List fV → fH → Prop := fun m lv st I => ∃ (y2 : Int) (y3 : Int) (y4 : Int) (y5 : Int) (y6 : Int), lv = [(0, .inr (.inr (some 735))), (1, .inr (.inr (some 211))), (2, .inl y2), (3, .inl y3), (4, .inl y4), (5, .inl y5), (6, .inl y6)] ∧ st = [] ∧ (((2 ≤ y2 ∧ y2 ≤ 2) ∧ ((-2147483648) ≤ y3 ∧ y3 ≤ 2147483647) ∧ ((-2147483648) ≤ y4 ∧ y4 ≤ 2147483647) ∧ ((-2147483648) ≤ y5 ∧ y5 ≤ 2147483647) ∧ (0 ≤ y6 ∧ y6 ≤ 7) ∧ (3 ≤ I 211 15 ∧ I 211 15 ≤ 7))) ∧ m = (1 + 1 * (7 - y6) : Int).toNat
set_option maxRecDepth 8000 in
theorem ct_Order_goOn_0f9c9 {I : fH} {x2 : Int} {x3 : Int} {x4 : Int} {x5 : Int} (h0 : fB bsJ I) (ha2 : (2 ≤ x2 ∧ x2 ≤ 2)) (ha3 : ((-2147483648) ≤ x3 ∧ x3 ≤ 2147483647)) (ha4 : ((-2147483648) ≤ x4 ∧ x4 ≤ 2147483647)) (ha5 : ((-2147483648) ≤ x5 ∧ x5 ≤ 2147483647)) : fC ρ base n F xTc vwCl xTys D dA la gJ (fbz bsJ znJ (fKc wz_7628e) I) xm_212 [.inr (.inr (some 735)), .inr (.inr (some 211)), .inl x2, .inl x3, .inl x4, .inl x5] I (fun _ r => r = none) := by
  have hW : fzs wz_7628e (fKc wz_7628e) := fKc_ok _
  refine f_meth (rb := rbJ) (J := [(24, jc_Order_goOn_0f9c9_24)]) 9 400 xG xin_212 x6_212 okJ (fB_self h0) ?_ ?_
  · refine List.forall_mem_cons.mpr ⟨?_, fun q h => absurd h List.not_mem_nil⟩
    · rintro m _ _ I1 hB1 ⟨y2, y3, y4, y5, y6, rfl, rfl, hb, hm⟩
      refine And.intro ⟨rfl, by decide, by decide⟩ (fgetf fb_211_15 h0 hB1 ?_)
      intro z1 lz1 uz1 qz1
      refine And.intro (by omega) (And.intro ?_ ?_)
      · intro c2
        exact rfl
      · intro c3
        refine And.intro ⟨rfl, by decide, by decide⟩ (fgetf fb_735_3 h0 hB1 ?_)
        intro z4 lz4 uz4 qz4
        refine And.intro (by omega) (And.intro ?_ ?_)
        · intro c5
          exact rfl
        · intro c6
          intro z7 hz7 ez7
          intro z8 hz8 ez8 bz8
          refine And.intro (by omega) (And.intro ?_ ?_)
          · intro c9
            exact fcutJ (I := I1) (j := jc_Order_goOn_0f9c9_24) (lv' := [(0, .inr (.inr (some 735))), (1, .inr (.inr (some 211))), (2, .inl _), (3, .inl _), (4, .inl _), (5, .inl _), (6, .inl _)]) (And.intro rfl (And.intro rfl (And.intro rfl (And.intro rfl (And.intro rfl (And.intro rfl (And.intro rfl True.intro))))))) ⟨_, _, _, _, _, rfl, rfl, by omega, rfl⟩ (by omega)
          · intro c10
            refine And.intro ⟨rfl, by decide, by decide⟩ ?_
            refine fload rL_256_256_0_6_1_0 h0 hB1 (by omega) ?_
            intro z11 lz11 uz11 qz11
            intro z12 hz12 ez12
            intro z13 hz13 ez13 bz13
            refine And.intro (by omega) (And.intro ?_ ?_)
            · intro c14
              exact fcutJ (I := I1) (j := jc_Order_goOn_0f9c9_24) (lv' := [(0, .inr (.inr (some 735))), (1, .inr (.inr (some 211))), (2, .inl _), (3, .inl _), (4, .inl _), (5, .inl _), (6, .inl _)]) (And.intro rfl (And.intro rfl (And.intro rfl (And.intro rfl (And.intro rfl (And.intro rfl (And.intro rfl True.intro))))))) ⟨_, _, _, _, _, rfl, rfl, by omega, rfl⟩ (by omega)
            · intro c15
              refine And.intro ⟨rfl, by decide, by decide⟩ (fgetf fb_735_3 h0 hB1 ?_)
              intro z16 lz16 uz16 qz16
              refine And.intro ⟨rfl, by decide, by decide⟩ (And.intro rfl (And.intro (Or.inl rfl) (fputf fb_735_3 (by decide +kernel) hW (by omega) ?_)))
              intro IhB17 ehB17 hB17
              have t18 : IhB17 211 15 = I1 211 15 := (congrFun (congrFun ehB17 211) 15).trans (fup_ne (by omega))
              have t19 := fup_at ehB17 3 (by omega)
              refine And.intro ⟨rfl, by decide, by decide⟩ ?_
              refine fstore rS_737_737_0_6_1_0 (fzs_sub (by decide +kernel) hW) (by omega) (by omega) ?_
              intro IhB20 ehB20 hB20
              have t21 := fup_self ehB20
              have t22 : IhB20 211 15 = IhB17 211 15 := (congrFun (congrFun ehB20 211) 15).trans (fup_ne (by omega))
              have t23 : IhB20 735 3 = IhB17 735 3 := (congrFun (congrFun ehB20 735) 3).trans (fup_ne (by omega))
              have t24 := fup_at ehB20 2 (by omega)
              refine And.intro ⟨rfl, by decide, by decide⟩ ?_
              refine fload rL_254_254_0_6_1_0 h0 hB20 (by omega) ?_
              intro z25 lz25 uz25 qz25
              intro z26 hz26 ez26 bz26
              refine And.intro ⟨rfl, by decide, by decide⟩ ?_
              refine fload rL_255_255_0_6_1_0 h0 hB20 (by omega) ?_
              intro z27 lz27 uz27 qz27
              refine And.intro ⟨rfl, by decide, by decide⟩ (fgetf fb_735_2 h0 hB20 ?_)
              intro z28 lz28 uz28 qz28
              intro z29 hz29 ez29 bz29
              refine And.intro (And.intro (by omega) (And.intro (by omega) rfl)) ?_
              intro z30 hz30
              intro z31 hz31 ez31 bz31
              refine And.intro ⟨rfl, by decide, by decide⟩ (fgetf fb_735_3 h0 hB20 ?_)
              intro z32 lz32 uz32 qz32
              refine And.intro (by omega) (And.intro ?_ ?_)
              · intro c33
                exact fcutJ (I := IhB20) (j := jc_Order_goOn_0f9c9_24) (lv' := [(0, .inr (.inr (some 735))), (1, .inr (.inr (some 211))), (2, .inl _), (3, .inl _), (4, .inl _), (5, .inl _), (6, .inl _)]) (And.intro rfl (And.intro rfl (And.intro rfl (And.intro rfl (And.intro rfl (And.intro rfl (And.intro rfl True.intro))))))) ⟨_, _, _, _, _, rfl, rfl, by omega, rfl⟩ (by omega)
              · intro c34
                intro z35 hz35 ez35
                intro z36 hz36 ez36
                intro z37 hz37 ez37 bz37
                refine Exists.intro xm_211 (And.intro mi_211 (And.intro ⟨rfl, rfl, rfl, rfl⟩ (And.intro rfl ?_)))
                refine fcall _ h0 (fzs_sub (by decide +kernel) hW) hB20 (ct_Order_goOn_6df0d (fBz h0 hB20) (by omega) (by omega) (by omega) (by omega)) ?_
                rintro IhB39 _ hB39 fhB39 rfl
                have t40 := fhB39 211 15 (by decide +kernel)
                exact fcutJ (I := IhB39) (j := jc_Order_goOn_0f9c9_24) (lv' := [(0, .inr (.inr (some 735))), (1, .inr (.inr (some 211))), (2, .inl _), (3, .inl _), (4, .inl _), (5, .inl _), (6, .inl _)]) (And.intro rfl (And.intro rfl (And.intro rfl (And.intro rfl (And.intro rfl (And.intro rfl (And.intro rfl True.intro))))))) ⟨_, _, _, _, _, rfl, rfl, by omega, rfl⟩ (by omega)
  · have hB0 := fB_self (zn := znJ) (K := fKc wz_7628e) h0
    refine And.intro ⟨rfl, by decide, by decide⟩ (fgetf fb_211_15 h0 hB0 ?_)
    intro z41 lz41 uz41 qz41
    refine And.intro (by omega) (And.intro ?_ ?_)
    · intro c42
      refine Exists.intro xm_215 (And.intro mi_215 (And.intro ⟨rfl, rfl, rfl, rfl⟩ (And.intro rfl ?_)))
      refine fcall _ h0 (fzs_sub (by decide +kernel) hW) hB0 (ct_Order_take_e8cff (fBz h0 hB0) (by omega)) ?_
      rintro IhB44 _ hB44 fhB44 rfl
      have t45 := fhB44 211 15 (by decide +kernel)
      exact rfl
    · intro c46
      refine And.intro (by omega) (And.intro ?_ ?_)
      · intro c47
        exact fcutJ (I := I) (j := jc_Order_goOn_0f9c9_24) (lv' := [(0, .inr (.inr (some 735))), (1, .inr (.inr (some 211))), (2, .inl _), (3, .inl _), (4, .inl _), (5, .inl _), (6, .inl _)]) (And.intro rfl (And.intro rfl (And.intro rfl (And.intro rfl (And.intro rfl (And.intro rfl (And.intro rfl True.intro))))))) ⟨_, _, _, _, _, rfl, rfl, by omega, rfl⟩ (by omega)
      · intro c48
        refine Exists.intro xm_215 (And.intro mi_215 (And.intro ⟨rfl, rfl, rfl, rfl⟩ (And.intro rfl ?_)))
        refine fcall _ h0 (fzs_sub (by decide +kernel) hW) hB0 (ct_Order_take_e8cff (fBz h0 hB0) (by omega)) ?_
        rintro IhB50 _ hB50 fhB50 rfl
        have t51 := fhB50 211 15 (by decide +kernel)
        exact rfl
end CT

set_option linter.all false
/-! contracts (written by gen95.py) -/
abbrev wz_81562 : List Nat := [728, 729, 730, 731, 11900, 11901, 11906, 11907]
theorem x6_178 : f60c xTc xTys xm_178 = true := by decide +kernel
theorem fb_727_1 : bsJ 727 1 = ((-2147483648), 2147483647) := by decide +kernel
theorem x6_177 : f60c xTc xTys xm_177 = true := by decide +kernel
theorem x6_458 : f60c xTc xTys xm_458 = true := by decide +kernel
abbrev wz_69d61 : List Nat := [12227, 12228]
theorem x6_460 : f60c xTc xTys xm_460 = true := by decide +kernel
theorem fb_740_28 : bsJ 740 28 = ((-2147483648), 2147483647) := by decide +kernel
theorem fb_740_27 : bsJ 740 27 = ((-2147483648), 2147483647) := by decide +kernel
theorem x6_459 : f60c xTc xTys xm_459 = true := by decide +kernel
theorem rL_754_754_0_23_1_0 : frL gJ bsJ 100 ((754, 754), (0, 23), (1, 0), ((-2147483648), 2147483647)) := frL_hull (by decide) (by decide +kernel)
theorem rL_755_755_0_23_1_0 : frL gJ bsJ 100 ((755, 755), (0, 23), (1, 0), ((-2147483648), 2147483647)) := frL_hull (by decide) (by decide +kernel)
theorem x6_457 : f60c xTc xTys xm_457 = true := by decide +kernel
theorem x6_456 : f60c xTc xTys xm_456 = true := by decide +kernel
abbrev wz_e4773 : List Nat := [754, 755, 12227, 12228, 12229]
theorem x6_455 : f60c xTc xTys xm_455 = true := by decide +kernel
theorem fb_740_29 : bsJ 740 29 = ((-2147483648), 2147483647) := by decide +kernel
theorem rS_754_754_0_23_1_0 : frS gJ bsJ znJ [754] 100 ((754, 754), (0, 23), (1, 0), ((-2147483648), 2147483647)) := frS_dflt (by decide) (by decide +kernel)
theorem rS_755_755_0_23_1_0 : frS gJ bsJ znJ [755] 100 ((755, 755), (0, 23), (1, 0), ((-2147483648), 2147483647)) := frS_dflt (by decide) (by decide +kernel)
theorem x6_454 : f60c xTc xTys xm_454 = true := by decide +kernel
theorem x6_185 : f60c xTc xTys xm_185 = true := by decide +kernel
theorem x6_461 : f60c xTc xTys xm_461 = true := by decide +kernel
abbrev wz_2a2bc : List Nat := [223]
theorem rL_223_223_0_3_1_0 : frL gJ bsJ 100 ((223, 223), (0, 3), (1, 0), (0, 99)) := frL_of (by decide +kernel)
theorem rS_223_223_0_3_1_0 : frS gJ bsJ znJ [223] 100 ((223, 223), (0, 3), (1, 0), (0, 99)) := frS_of (by decide +kernel)
theorem x6_186 : f60c xTc xTys xm_186 = true := by decide +kernel
abbrev wz_0a5ca : List Nat := [20833]
theorem rL_741_741_4560_4563_1_0 : frL gJ bsJ 100 ((741, 741), (4560, 4563), (1, 0), (0, 99)) := frL_of (by decide +kernel)
theorem rS_741_741_4560_4563_1_0 : frS gJ bsJ znJ [20833] 100 ((741, 741), (4560, 4563), (1, 0), (0, 99)) := frS_of (by decide +kernel)
theorem x6_462 : f60c xTc xTys xm_462 = true := by decide +kernel
abbrev wz_e3030 : List Nat := [224]
theorem rL_225_248_0_3_1_0 : frL gJ bsJ 100 ((225, 248), (0, 3), (1, 0), (0, 999)) := frL_of (by decide +kernel)
theorem rS_225_248_0_3_1_0 : frS gJ bsJ znJ [224] 100 ((225, 248), (0, 3), (1, 0), (0, 999)) := frS_of (by decide +kernel)
theorem x6_187 : f60c xTc xTys xm_187 = true := by decide +kernel
abbrev wz_ad4fa : List Nat := [20834]
theorem rL_741_741_4570_4665_4_3 : frL gJ bsJ 100 ((741, 741), (4570, 4665), (4, 3), (0, 999)) := frL_of (by decide +kernel)
theorem rS_741_741_4570_4665_4_3 : frS gJ bsJ znJ [20834] 100 ((741, 741), (4570, 4665), (4, 3), (0, 999)) := frS_of (by decide +kernel)
theorem x6_463 : f60c xTc xTys xm_463 = true := by decide +kernel
abbrev wz_61c55 : List Nat := [733, 734]
theorem x6_190 : f60c xTc xTys xm_190 = true := by decide +kernel
theorem rS_733_733_0_300_1_0 : frS gJ bsJ znJ [733] 100 ((733, 733), (0, 300), (1, 0), ((-2147483648), 2147483647)) := frS_dflt (by decide) (by decide +kernel)
theorem rS_734_734_0_300_1_0 : frS gJ bsJ znJ [734] 101 ((734, 734), (0, 300), (1, 0), ((-9223372036854775808), 9223372036854775807)) := frS_of (by decide +kernel)
theorem rL_733_733_0_300_1_0 : frL gJ bsJ 100 ((733, 733), (0, 300), (1, 0), ((-2147483648), 2147483647)) := frL_hull (by decide) (by decide +kernel)
theorem rL_734_734_0_300_1_0 : frL gJ bsJ 101 ((734, 734), (0, 300), (1, 0), ((-9223372036854775808), 9223372036854775807)) := frL_hull (by decide) (by decide +kernel)
theorem x6_189 : f60c xTc xTys xm_189 = true := by decide +kernel
theorem x6_188 : f60c xTc xTys xm_188 = true := by decide +kernel
theorem x6_467 : f60c xTc xTys xm_467 = true := by decide +kernel
theorem rL_741_741_4570_4665_1_0 : frL gJ bsJ 100 ((741, 741), (4570, 4665), (1, 0), (0, 999)) := frL_of (by decide +kernel)
theorem rL_756_756_0_7524_1_0 : frL gJ bsJ 100 ((756, 756), (0, 7524), (1, 0), (0, 1000000)) := frL_of (by decide +kernel)
abbrev wz_ce28c : List Nat := [756]
theorem x6_466 : f60c xTc xTys xm_466 = true := by decide +kernel
theorem rS_756_756_0_7524_1_0 : frS gJ bsJ znJ [756] 100 ((756, 756), (0, 7524), (1, 0), (0, 1000000)) := frS_of (by decide +kernel)
theorem x6_465 : f60c xTc xTys xm_465 = true := by decide +kernel
theorem x6_464 : f60c xTc xTys xm_464 = true := by decide +kernel
theorem x6_192 : f60c xTc xTys xm_192 = true := by decide +kernel
theorem x6_191 : f60c xTc xTys xm_191 = true := by decide +kernel
theorem x6_469 : f60c xTc xTys xm_469 = true := by decide +kernel
theorem x6_468 : f60c xTc xTys xm_468 = true := by decide +kernel
theorem x6_193 : f60c xTc xTys xm_193 = true := by decide +kernel
theorem x6_470 : f60c xTc xTys xm_470 = true := by decide +kernel
theorem rL_741_741_42_427_20_5 : frL gJ bsJ 100 ((741, 741), (42, 427), (20, 5), ((-2147483648), 2147483647)) := frL_hull (by decide) (by decide +kernel)
abbrev wz_f0603 : List Nat := [249, 250, 251, 10608]
theorem x6_195 : f60c xTc xTys xm_195 = true := by decide +kernel
theorem fb_211_8 : bsJ 211 8 = (0, 6) := by decide +kernel
theorem rS_249_249_0_5_1_0 : frS gJ bsJ znJ [249] 100 ((249, 249), (0, 5), (1, 0), (0, 9999)) := frS_of (by decide +kernel)
theorem rS_250_250_0_5_1_0 : frS gJ bsJ znJ [250] 100 ((250, 250), (0, 5), (1, 0), (0, 9999)) := frS_of (by decide +kernel)
theorem rS_251_251_0_5_1_0 : frS gJ bsJ znJ [251] 100 ((251, 251), (0, 5), (1, 0), (0, 999)) := frS_of (by decide +kernel)
theorem x6_194 : f60c xTc xTys xm_194 = true := by decide +kernel
abbrev wz_ac3fb : List Nat := [20010, 20800, 20801, 20802]
theorem x6_471 : f60c xTc xTys xm_471 = true := by decide +kernel
theorem fb_741_10 : bsJ 741 10 = (0, 6) := by decide +kernel
theorem rL_741_741_10_10_1_0 : frL gJ bsJ 100 ((741, 741), (10, 10), (1, 0), (0, 6)) := frL_of (by decide +kernel)
theorem rS_741_741_4330_4345_3_0 : frS gJ bsJ znJ [20800] 100 ((741, 741), (4330, 4345), (3, 0), (0, 9999)) := frS_of (by decide +kernel)
theorem rS_741_741_4331_4346_3_0 : frS gJ bsJ znJ [20801] 100 ((741, 741), (4331, 4346), (3, 0), (0, 9999)) := frS_of (by decide +kernel)
theorem rS_741_741_4332_4347_3_0 : frS gJ bsJ znJ [20802] 100 ((741, 741), (4332, 4347), (3, 0), (0, 999)) := frS_of (by decide +kernel)
theorem rS_741_741_10_10_1_0 : frS gJ bsJ znJ [20010] 100 ((741, 741), (10, 10), (1, 0), (0, 6)) := frS_of (by decide +kernel)
theorem x6_500 : f60c xTc xTys xm_500 = true := by decide +kernel
theorem x6_197 : f60c xTc xTys xm_197 = true := by decide +kernel
theorem rL_250_250_0_5_1_0 : frL gJ bsJ 100 ((250, 250), (0, 5), (1, 0), (0, 9999)) := frL_of (by decide +kernel)
theorem rL_251_251_0_5_1_0 : frL gJ bsJ 100 ((251, 251), (0, 5), (1, 0), (0, 999)) := frL_of (by decide +kernel)
theorem rL_249_249_0_5_1_0 : frL gJ bsJ 100 ((249, 249), (0, 5), (1, 0), (0, 9999)) := frL_of (by decide +kernel)
theorem x6_196 : f60c xTc xTys xm_196 = true := by decide +kernel
theorem x6_472 : f60c xTc xTys xm_472 = true := by decide +kernel
theorem rL_741_741_4331_4346_3_0 : frL gJ bsJ 100 ((741, 741), (4331, 4346), (3, 0), (0, 9999)) := frL_of (by decide +kernel)
theorem rL_741_741_4332_4347_3_0 : frL gJ bsJ 100 ((741, 741), (4332, 4347), (3, 0), (0, 999)) := frL_of (by decide +kernel)
theorem rL_741_741_4330_4345_3_0 : frL gJ bsJ 100 ((741, 741), (4330, 4345), (3, 0), (0, 9999)) := frL_of (by decide +kernel)
abbrev wz_8f79a : List Nat := [252, 253, 10611]
theorem x6_199 : f60c xTc xTys xm_199 = true := by decide +kernel
theorem fb_211_11 : bsJ 211 11 = (0, 10) := by decide +kernel
theorem rS_252_252_0_9_1_0 : frS gJ bsJ znJ [252] 100 ((252, 252), (0, 9), (1, 0), (0, 9999)) := frS_of (by decide +kernel)
theorem rS_253_253_0_9_1_0 : frS gJ bsJ znJ [253] 100 ((253, 253), (0, 9), (1, 0), (0, 999)) := frS_of (by decide +kernel)
theorem x6_198 : f60c xTc xTys xm_198 = true := by decide +kernel
abbrev wz_78ec0 : List Nat := [20011, 20810, 20811]
theorem x6_473 : f60c xTc xTys xm_473 = true := by decide +kernel
theorem fb_741_11 : bsJ 741 11 = (0, 10) := by decide +kernel
theorem rL_741_741_11_11_1_0 : frL gJ bsJ 100 ((741, 741), (11, 11), (1, 0), (0, 10)) := frL_of (by decide +kernel)
theorem rS_741_741_4350_4368_2_0 : frS gJ bsJ znJ [20810] 100 ((741, 741), (4350, 4368), (2, 0), (0, 9999)) := frS_of (by decide +kernel)
theorem rS_741_741_4351_4369_2_0 : frS gJ bsJ znJ [20811] 100 ((741, 741), (4351, 4369), (2, 0), (0, 999)) := frS_of (by decide +kernel)
theorem rS_741_741_11_11_1_0 : frS gJ bsJ znJ [20011] 100 ((741, 741), (11, 11), (1, 0), (0, 10)) := frS_of (by decide +kernel)
theorem x6_202 : f60c xTc xTys xm_202 = true := by decide +kernel
theorem rL_252_252_0_9_1_0 : frL gJ bsJ 100 ((252, 252), (0, 9), (1, 0), (0, 9999)) := frL_of (by decide +kernel)
theorem rL_253_253_0_9_1_0 : frL gJ bsJ 100 ((253, 253), (0, 9), (1, 0), (0, 999)) := frL_of (by decide +kernel)
theorem x6_201 : f60c xTc xTys xm_201 = true := by decide +kernel
theorem x6_200 : f60c xTc xTys xm_200 = true := by decide +kernel
theorem x6_474 : f60c xTc xTys xm_474 = true := by decide +kernel
theorem rL_741_741_4350_4368_2_0 : frL gJ bsJ 100 ((741, 741), (4350, 4368), (2, 0), (0, 9999)) := frL_of (by decide +kernel)
theorem rL_741_741_4351_4369_2_0 : frL gJ bsJ 100 ((741, 741), (4351, 4369), (2, 0), (0, 999)) := frL_of (by decide +kernel)
abbrev wz_84712 : List Nat := [254, 255, 256, 10615]
theorem x6_204 : f60c xTc xTys xm_204 = true := by decide +kernel
theorem fb_211_15 : bsJ 211 15 = (0, 7) := by decide +kernel
theorem rS_254_254_0_6_1_0 : frS gJ bsJ znJ [254] 100 ((254, 254), (0, 6), (1, 0), (0, 9)) := frS_of (by decide +kernel)
theorem rS_255_255_0_6_1_0 : frS gJ bsJ znJ [255] 100 ((255, 255), (0, 6), (1, 0), (0, 99)) := frS_of (by decide +kernel)
theorem rS_256_256_0_6_1_0 : frS gJ bsJ znJ [256] 100 ((256, 256), (0, 6), (1, 0), (0, 127)) := frS_of (by decide +kernel)
theorem x6_203 : f60c xTc xTys xm_203 = true := by decide +kernel
abbrev wz_526cb : List Nat := [20012, 20820, 20821, 20822]
theorem x6_475 : f60c xTc xTys xm_475 = true := by decide +kernel
theorem fb_741_12 : bsJ 741 12 = (0, 7) := by decide +kernel
theorem rL_741_741_12_12_1_0 : frL gJ bsJ 100 ((741, 741), (12, 12), (1, 0), (0, 7)) := frL_of (by decide +kernel)
theorem rS_741_741_4370_4388_3_0 : frS gJ bsJ znJ [20820] 100 ((741, 741), (4370, 4388), (3, 0), (0, 9)) := frS_of (by decide +kernel)
theorem rS_741_741_4371_4389_3_0 : frS gJ bsJ znJ [20821] 100 ((741, 741), (4371, 4389), (3, 0), (0, 99)) := frS_of (by decide +kernel)
theorem rS_741_741_4372_4390_3_0 : frS gJ bsJ znJ [20822] 100 ((741, 741), (4372, 4390), (3, 0), (0, 127)) := frS_of (by decide +kernel)
theorem rS_741_741_12_12_1_0 : frS gJ bsJ znJ [20012] 100 ((741, 741), (12, 12), (1, 0), (0, 7)) := frS_of (by decide +kernel)
abbrev wz_c325e : List Nat := [736, 12104]
theorem x6_215 : f60c xTc xTys xm_215 = true := by decide +kernel
theorem fb_735_4 : bsJ 735 4 = ((-2147483648), 2147483647) := by decide +kernel
theorem x6_207 : f60c xTc xTys xm_207 = true := by decide +kernel
section CT
variable {ρ : Nat → Int32} {base n : Nat} {F : Nat → Prop} {D : va_G} {dA : Nat → ClassId} {la : Launch}
abbrev jc_Rounds_goRound_589d9_40 : Nat → fL → List fV → fH → Prop := fun m lv st I => ∃ (y3 : Int) (y5 : Int) (y6 : Int) (y7 : Int) (y8 : Int), lv = [(0, .inr (.inr (some 727))), (1, .inr (.inr (some 1))), (3, .inl y3), (5, .inl y5), (6, .inl y6), (7, .inl y7), (8, .inl y8)] ∧ st = [] ∧ (((1 ≤ y3 ∧ y3 ≤ 48) ∧ ((0 ≤ y5 ∧ y5 ≤ 23) ∨ y5 = (-1000000005)) ∧ ((0 ≤ y6 ∧ y6 ≤ 47) ∨ y6 = (-1000000005)) ∧ ((-2147483648) ≤ y7 ∧ y7 ≤ 2147483647) ∧ (0 ≤ y8 ∧ y8 ≤ 48) ∧ (1 ≤ I 727 6 ∧ I 727 6 ≤ 48) ∧ (0 ≤ I 727 7 ∧ I 727 7 ≤ 9))) ∧ m = (2147483649 + 2147483649 * (48 - y8) : Int).toNat
abbrev jc_Rounds_goRound_589d9_59 : Nat → fL → List fV → fH → Prop := fun m lv st I => ∃ (y3 : Int) (y5 : Int) (y6 : Int) (y7 : Int) (y8 : Int) (y9 : Int), lv = [(0, .inr (.inr (some 727))), (1, .inr (.inr (some 1))), (3, .inl y3), (5, .inl y5), (6, .inl y6), (7, .inl y7), (8, .inl y8), (9, .inl y9)] ∧ st = [] ∧ (((1 ≤ y3 ∧ y3 ≤ 48) ∧ ((0 ≤ y5 ∧ y5 ≤ 23) ∨ y5 = (-1000000005)) ∧ ((0 ≤ y6 ∧ y6 ≤ 47) ∨ y6 = (-1000000005)) ∧ ((-2147483648) ≤ y7 ∧ y7 ≤ 2147483647) ∧ (0 ≤ y8 ∧ y8 ≤ 47) ∧ (0 ≤ y9 ∧ y9 ≤ 2147483647) ∧ (1 ≤ I 727 6 ∧ I 727 6 ≤ 48) ∧ (0 ≤ I 727 7 ∧ I 727 7 ≤ 9))) ∧ m = (1 + 2147483649 * (48 - y8) + 1 * (2147483647 - y9) : Int).toNat
set_option maxRecDepth 8000 in
theorem ct_Rounds_goRound_589d9 {I : fH} {x3 : Int} {x4 : Int} {x5 : Int} {x6 : Int} (h0 : fB bsJ I) (ha3 : (1 ≤ x3 ∧ x3 ≤ 48)) (ha4 : (0 ≤ x4 ∧ x4 ≤ 9)) (ha5 : ((0 ≤ x5 ∧ x5 ≤ 23) ∨ x5 = (-1000000005))) (ha6 : ((0 ≤ x6 ∧ x6 ≤ 47) ∨ x6 = (-1000000005))) : fC ρ base n F xTc vwCl xTys D dA la gJ (fbz bsJ znJ (fKc wz_81562) I) xm_178 [.inr (.inr (some 727)), .inr (.inr (some 1)), .inr (.inr (some 211)), .inl x3, .inl x4, .inl x5, .inl x6] I (fun _ r => r = none) := by
  have hW : fzs wz_81562 (fKc wz_81562) := fKc_ok _
  refine f_meth (rb := rbJ) (J := [(40, jc_Rounds_goRound_589d9_40), (59, jc_Rounds_goRound_589d9_59)]) 105226698802 400 xG xin_178 x6_178 okJ (fB_self h0) ?_ ?_
  · refine List.forall_mem_cons.mpr ⟨?_, List.forall_mem_cons.mpr ⟨?_, fun q h => absurd h List.not_mem_nil⟩⟩
    · rintro m _ _ I1 hB1 ⟨y3, y5, y6, y7, y8, rfl, rfl, hb, hm⟩
      refine And.intro (And.intro (by first | exact fi_ hb.2.2.2.2.1.1 hb.2.2.2.2.1.2 rfl | omega) (by first | exact fi_ hb.1.1 hb.1.2 rfl | omega)) (And.intro ?_ ?_)
      · intro c1
        exact rfl
      · intro c2
        refine And.intro ⟨rfl, by decide, by decide⟩ ?_
        refine Exists.intro xm_181 (And.intro mi_181 (And.intro ⟨rfl, rfl, rfl, rfl⟩ (And.intro rfl ?_)))
        refine fcall _ h0 (fzs_sub (by decide +kernel) hW) hB1 (ct_Rounds_foretellAll_4ce3f (fBz h0 hB1) (by first | exact ⟨hb.2.2.2.2.1.1, Int.le_trans (Int.le_sub_one_of_lt (Int.lt_of_lt_of_le c2 hb.1.2)) (by decide)⟩ | omega)) ?_
        rintro IhB4 _ hB4 fhB4 rfl
        have t5 := fhB4 727 6 (by decide +kernel)
        have t6 := fhB4 727 7 (by decide +kernel)
        exact fcutJ (I := IhB4) (j := jc_Rounds_goRound_589d9_59) (lv' := [(0, .inr (.inr (some 727))), (1, .inr (.inr (some 1))), (3, .inl _), (5, .inl _), (6, .inl _), (7, .inl _), (8, .inl _), (9, .inl _)]) (And.intro rfl (And.intro rfl (And.intro rfl (And.intro rfl (And.intro rfl (And.intro rfl (And.intro rfl (And.intro rfl True.intro)))))))) ⟨_, _, _, _, _, _, rfl, rfl, by omega, rfl⟩ (by omega)
    · rintro m _ _ I1 hB1 ⟨y3, y5, y6, y7, y8, y9, rfl, rfl, hb, hm⟩
      refine And.intro (And.intro (by first | exact fi_ hb.2.2.2.2.2.1.1 hb.2.2.2.2.2.1.2 rfl | omega) (by first | exact fi_ hb.2.2.2.1.1 hb.2.2.2.1.2 rfl | omega)) (And.intro ?_ ?_)
      · intro c7
        refine And.intro ⟨rfl, by decide, by decide⟩ ?_
        refine Exists.intro xm_184 (And.intro mi_184 (And.intro ⟨rfl, rfl, rfl, rfl⟩ (And.intro rfl ?_)))
        refine fcall _ h0 (fzs_sub (by decide +kernel) hW) hB1 (ct_Rounds_wearAll_7293e (fBz h0 hB1) (by first | exact ⟨hb.2.2.2.2.1.1, hb.2.2.2.2.1.2⟩ | omega)) ?_
        rintro IhB9 _ hB9 fhB9 rfl
        have t10 := fhB9 727 6 (by decide +kernel)
        have t11 := fhB9 727 7 (by decide +kernel)
        exact fcutJ (I := IhB9) (j := jc_Rounds_goRound_589d9_40) (lv' := [(0, .inr (.inr (some 727))), (1, .inr (.inr (some 1))), (3, .inl _), (5, .inl _), (6, .inl _), (7, .inl _), (8, .inl _)]) (And.intro rfl (And.intro rfl (And.intro rfl (And.intro rfl (And.intro rfl (And.intro rfl (And.intro rfl True.intro))))))) ⟨_, _, _, _, _, rfl, rfl, by omega, rfl⟩ (by omega)
      · intro c12
        refine And.intro ⟨rfl, by decide, by decide⟩ ?_
        refine Exists.intro xm_183 (And.intro mi_183 (And.intro ⟨rfl, rfl, rfl, rfl⟩ (And.intro rfl ?_)))
        refine fcall _ h0 (fzs_sub (by decide +kernel) hW) hB1 (ct_Rounds_sewNext_d8bbe (fBz h0 hB1) (by first | exact ⟨hb.2.2.2.2.1.1, hb.2.2.2.2.1.2⟩ | omega)) ?_
        rintro IhB14 _ hB14 fhB14 ⟨z13, rfl, hz13⟩
        have t15 := fhB14 727 6 (by decide +kernel)
        have t16 := fhB14 727 7 (by decide +kernel)
        refine And.intro (by omega) (And.intro ?_ ?_)
        · intro c17
          exact fcutJ (I := IhB14) (j := jc_Rounds_goRound_589d9_59) (lv' := [(0, .inr (.inr (some 727))), (1, .inr (.inr (some 1))), (3, .inl _), (5, .inl _), (6, .inl _), (7, .inl _), (8, .inl _), (9, .inl _)]) (And.intro rfl (And.intro rfl (And.intro rfl (And.intro rfl (And.intro rfl (And.intro rfl (And.intro rfl (And.intro rfl True.intro)))))))) ⟨_, _, _, _, _, _, rfl, rfl, by omega, rfl⟩ (by omega)
        · intro c18
          refine And.intro (by omega) (And.intro ?_ ?_)
          · intro c19
            exact fcutJ (I := IhB14) (j := jc_Rounds_goRound_589d9_59) (lv' := [(0, .inr (.inr (some 727))), (1, .inr (.inr (some 1))), (3, .inl _), (5, .inl _), (6, .inl _), (7, .inl _), (8, .inl _), (9, .inl _)]) (And.intro rfl (And.intro rfl (And.intro rfl (And.intro rfl (And.intro rfl (And.intro rfl (And.intro rfl (And.intro rfl True.intro)))))))) ⟨_, _, _, _, _, _, rfl, rfl, by omega, rfl⟩ (by omega)
          · intro c20
            refine And.intro ⟨rfl, by decide, by decide⟩ (fgetf fb_727_1 h0 hB14 ?_)
            intro z21 lz21 uz21 qz21
            intro z22 hz22 ez22 bz22
            clear ez22
            clear bz22
            refine And.intro ⟨rfl, by decide, by decide⟩ (And.intro rfl (And.intro (Or.inl rfl) (fputf fb_727_1 (by decide +kernel) hW (by omega) ?_)))
            intro IhB23 ehB23 hB23
            have t24 : IhB23 727 6 = IhB14 727 6 := (congrFun (congrFun ehB23 727) 6).trans (fup_ne (by first | decide | omega))
            have t25 : IhB23 727 7 = IhB14 727 7 := (congrFun (congrFun ehB23 727) 7).trans (fup_ne (by first | decide | omega))
            exact fcutJ (I := IhB23) (j := jc_Rounds_goRound_589d9_59) (lv' := [(0, .inr (.inr (some 727))), (1, .inr (.inr (some 1))), (3, .inl _), (5, .inl _), (6, .inl _), (7, .inl _), (8, .inl _), (9, .inl _)]) (And.intro rfl (And.intro rfl (And.intro rfl (And.intro rfl (And.intro rfl (And.intro rfl (And.intro rfl (And.intro rfl True.intro)))))))) ⟨_, _, _, _, _, _, rfl, rfl, by omega, rfl⟩ (by omega)
  · have hB0 := fB_self (zn := znJ) (K := fKc wz_81562) h0
    refine And.intro ⟨rfl, by decide, by decide⟩ (And.intro rfl (And.intro (Or.inl rfl) (fputf fb_727_6 (by decide +kernel) hW (by first | exact ⟨Int.le_trans (by decide) ha3.1, ha3.2⟩ | omega) ?_)))
    intro IhB26 ehB26 hB26
    have t27 := fup_at ehB26 6 (by first | rfl | omega)
    refine And.intro ⟨rfl, by decide, by decide⟩ (And.intro rfl (And.intro (Or.inl rfl) (fputf fb_727_7 (by decide +kernel) hW (by first | exact ⟨Int.le_trans (by decide) ha4.1, Int.le_trans ha4.2 (by decide)⟩ | omega) ?_)))
    intro IhB28 ehB28 hB28
    have t29 : IhB28 727 6 = IhB26 727 6 := (congrFun (congrFun ehB28 727) 6).trans (fup_ne (by first | decide | omega))
    have t30 := fup_at ehB28 7 (by first | rfl | omega)
    refine And.intro ⟨rfl, by decide, by decide⟩ (And.intro rfl (And.intro (Or.inl rfl) (fputf fb_727_0 (by decide +kernel) hW (by first | exact ⟨by decide, by decide⟩ | omega) ?_)))
    intro IhB31 ehB31 hB31
    have t32 := fup_at ehB31 0 (by first | rfl | omega)
    have t33 : IhB31 727 6 = IhB28 727 6 := (congrFun (congrFun ehB31 727) 6).trans (fup_ne (by first | decide | omega))
    have t34 : IhB31 727 7 = IhB28 727 7 := (congrFun (congrFun ehB31 727) 7).trans (fup_ne (by first | decide | omega))
    refine And.intro ⟨rfl, by decide, by decide⟩ (And.intro rfl (And.intro (Or.inl rfl) (fputf fb_727_1 (by decide +kernel) hW (by first | exact ⟨by decide, by decide⟩ | omega) ?_)))
    intro IhB35 ehB35 hB35
    have t36 : IhB35 727 0 = IhB31 727 0 := (congrFun (congrFun ehB35 727) 0).trans (fup_ne (by first | decide | omega))
    have t37 := fup_at ehB35 1 (by first | rfl | omega)
    have t38 : IhB35 727 6 = IhB31 727 6 := (congrFun (congrFun ehB35 727) 6).trans (fup_ne (by first | decide | omega))
    have t39 : IhB35 727 7 = IhB31 727 7 := (congrFun (congrFun ehB35 727) 7).trans (fup_ne (by first | decide | omega))
    refine Exists.intro xm_179 (And.intro mi_179 (And.intro ⟨rfl, rfl, rfl, rfl⟩ (And.intro rfl ?_)))
    refine fcall _ h0 (fzs_sub (by decide +kernel) hW) hB35 (ct_Rounds_begin_a2ae2 (fBz h0 hB35)) ?_
    rintro IhB41 _ hB41 fhB41 rfl
    have t42 := fhB41 727 0 (by decide +kernel)
    have t43 := fhB41 727 1 (by decide +kernel)
    have t44 := fhB41 727 6 (by decide +kernel)
    have t45 := fhB41 727 7 (by decide +kernel)
    refine And.intro ⟨rfl, by decide, by decide⟩ ?_
    refine Exists.intro xm_180 (And.intro mi_180 (And.intro ⟨rfl, rfl, rfl, rfl⟩ (And.intro rfl ?_)))
    refine fcallp hB41 (ct_People_ableFitters_3cb68 (fBz h0 hB41)) ?_
    rintro _ ⟨z46, rfl, hz46⟩
    exact fcutJ (I := IhB41) (j := jc_Rounds_goRound_589d9_40) (lv' := [(0, .inr (.inr (some 727))), (1, .inr (.inr (some 1))), (3, .inl _), (5, .inl _), (6, .inl _), (7, .inl _), (8, .inl _)]) (And.intro rfl (And.intro rfl (And.intro rfl (And.intro rfl (And.intro rfl (And.intro rfl (And.intro rfl True.intro))))))) ⟨_, _, _, _, _, rfl, rfl, by omega, rfl⟩ (by omega)
set_option maxRecDepth 8000 in
theorem ct_X_lack_88d12 {I : fH} {x1 : Int} {x2 : Int} (h0 : fB bsJ I) (ha1 : ((-2147483648) ≤ x1 ∧ x1 ≤ 2147483647)) (ha2 : ((-2147483648) ≤ x2 ∧ x2 ≤ 2147483647)) : fC ρ base n F xTc vwCl xTys D dA la gJ (fbz bsJ znJ (fKc wz_81562) I) xm_177 [.inr (.inr (some 0)), .inl x1, .inl x2] I (fun _ r => ∃ z, r = some (.inl z) ∧ ((-2147483648) ≤ z ∧ z ≤ 2147483647)) := by
  have hW : fzs wz_81562 (fKc wz_81562) := fKc_ok _
  refine f_meth (rb := rbJ) (J := []) 1 400 xG xin_177 x6_177 okJ (fB_self h0) ?_ ?_
  · exact fun q h => absurd h List.not_mem_nil
  · have hB0 := fB_self (zn := znJ) (K := fKc wz_81562) h0
    refine Exists.intro xm_13 (And.intro mi_13 (And.intro ⟨rfl, rfl, rfl, rfl⟩ (And.intro True.intro ?_)))
    refine fcallp hB0 (ct_X_within_c27b1 (fBz h0 hB0) (by first | exact ⟨ha1.1, ha1.2⟩ | omega) (by first | exact ⟨by decide, by decide⟩ | omega) (by first | exact ⟨by decide, by decide⟩ | omega)) ?_
    rintro _ ⟨z1, rfl, hz1⟩
    refine And.intro (by omega) (And.intro ?_ ?_)
    · intro c2
      refine And.intro (True.intro) ?_
      exact ⟨_, rfl, (by first | exact ⟨by decide, by decide⟩ | omega)⟩
    · intro c3
      refine Exists.intro xm_13 (And.intro mi_13 (And.intro ⟨rfl, rfl, rfl, rfl⟩ (And.intro True.intro ?_)))
      refine fcallp hB0 (ct_X_within_c27b1 (fBz h0 hB0) (by first | exact ⟨ha2.1, ha2.2⟩ | omega) (by first | exact ⟨by decide, by decide⟩ | omega) (by first | exact ⟨by decide, by decide⟩ | omega)) ?_
      rintro _ ⟨z4, rfl, hz4⟩
      refine And.intro (by omega) (And.intro ?_ ?_)
      · intro c5
        refine And.intro ⟨rfl, by decide, by decide⟩ ?_
        refine And.intro ⟨rfl, by decide, by decide⟩ ?_
        refine And.intro ⟨rfl, by decide, by decide⟩ ?_
        refine Exists.intro xm_178 (And.intro mi_178 (And.intro ⟨rfl, rfl, rfl, rfl⟩ (And.intro rfl ?_)))
        refine fcall _ h0 (fzs_sub (by decide +kernel) hW) hB0 (ct_Rounds_goRound_589d9 (fBz h0 hB0) (by first | exact ⟨Int.le_trans (by decide) (Int.le_trans (Int.le_refl _) hz1.1), Int.le_trans (Int.le_trans hz1.2 (Int.le_refl _)) (by decide)⟩ | omega) (by first | exact ⟨Int.le_trans (by decide) (Int.le_trans (Int.le_refl _) hz4.1), Int.le_trans (Int.le_trans hz4.2 (Int.le_refl _)) (by decide)⟩ | omega) (by omega) (by omega)) ?_
        rintro IhB7 _ hB7 fhB7 rfl
        refine And.intro ⟨rfl, by decide, by decide⟩ ?_
        refine And.intro ⟨rfl, by decide, by decide⟩ (fgetf fb_727_0 h0 hB7 ?_)
        intro z8 lz8 uz8 qz8
        refine And.intro (True.intro) ?_
        exact ⟨_, rfl, (by first | exact ⟨lz8, uz8⟩ | omega)⟩
      · intro c9
        refine And.intro (True.intro) ?_
        exact ⟨_, rfl, (by first | exact ⟨by decide, by decide⟩ | omega)⟩
set_option maxRecDepth 8000 in
theorem ct_M_isSkin_da592 {I : fH} {x1 : Int} (h0 : fB bsJ I) (ha1 : (0 ≤ x1 ∧ x1 ≤ 23)) : fC ρ base n F xTc vwCl xTys D dA la gJ (fbz bsJ znJ (fKc []) I) xm_458 [.inr (.inr (some 740)), .inl x1] I (fun _ r => ∃ z, r = some (.inl z) ∧ (0 ≤ z ∧ z ≤ 1)) := by
  have hW : fzs [] (fKc []) := fKc_ok _
  refine f_meth (rb := rbJ) (J := []) 1 400 xG xin_458 x6_458 okJ (fB_self h0) ?_ ?_
  · exact fun q h => absurd h List.not_mem_nil
  · have hB0 := fB_self (zn := znJ) (K := fKc []) h0
    refine Exists.intro xm_267 (And.intro mi_267 (And.intro ⟨rfl, rfl, rfl, rfl⟩ (And.intro rfl ?_)))
    refine fcallp hB0 (ct_M_kindOf_31275 (fBz h0 hB0) (by first | exact ⟨ha1.1, ha1.2⟩ | omega)) ?_
    rintro _ ⟨z1, rfl, hz1, g0z1⟩
    refine And.intro (And.intro (by first | exact fi_ hz1.1 hz1.2 rfl | omega) (by first | exact ⟨by decide, by decide⟩ | omega)) (And.intro ?_ ?_)
    · intro c2
      refine And.intro (⟨by omega, by omega⟩) ?_
      exact ⟨_, rfl, by omega⟩
    · intro c3
      refine Exists.intro xm_245 (And.intro mi_245 (And.intro ⟨rfl, rfl, rfl, rfl⟩ (And.intro rfl ?_)))
      refine fcallp hB0 (ct_M_isGone_0de37 (fBz h0 hB0) (by first | exact ⟨ha1.1, ha1.2⟩ | omega)) ?_
      rintro _ ⟨z4, rfl, hz4⟩
      refine And.intro (by omega) (And.intro ?_ ?_)
      · intro c5
        refine And.intro (⟨by omega, by omega⟩) ?_
        exact ⟨_, rfl, by omega⟩
      · intro c6
        refine And.intro (⟨by decide, by decide⟩) ?_
        exact ⟨_, rfl, (by first | exact ⟨by decide, by decide⟩ | omega)⟩
abbrev jc_M_weathers_325ea_25 : Nat → fL → List fV → fH → Prop := fun m lv st I => lv = [(0, .inr (.inr (some 740)))] ∧ st = [] ∧ (True) ∧ m = (1 + 1 * I 740 28 : Int).toNat
set_option maxRecDepth 8000 in
theorem ct_M_weathers_325ea {I : fH} {x1 : Int} (h0 : fB bsJ I) (ha1 : (0 ≤ x1 ∧ x1 ≤ 47)) : fC ρ base n F xTc vwCl xTys D dA la gJ (fbz bsJ znJ (fKc wz_69d61) I) xm_460 [.inr (.inr (some 740)), .inl x1] I (fun _ r => r = none) := by
  have hW : fzs wz_69d61 (fKc wz_69d61) := fKc_ok _
  refine f_meth (rb := rbJ) (J := [(25, jc_M_weathers_325ea_25)]) 2147483650 400 xG xin_460 x6_460 okJ (fB_self h0) ?_ ?_
  · refine List.forall_mem_cons.mpr ⟨?_, fun q h => absurd h List.not_mem_nil⟩
    · rintro m _ _ I1 hB1 ⟨rfl, rfl, hb, hm⟩
      refine And.intro ⟨rfl, by decide, by decide⟩ (fgetf fb_740_28 h0 hB1 ?_)
      intro z1 lz1 uz1 qz1
      refine And.intro (And.intro (by first | exact fi_ lz1 uz1 rfl | omega) (by first | exact ⟨by decide, by decide⟩ | omega)) (And.intro ?_ ?_)
      · intro c2
        exact rfl
      · intro c3
        refine And.intro ⟨rfl, by decide, by decide⟩ (fgetf fb_740_28 h0 hB1 ?_)
        intro z4 lz4 uz4 qz4
        refine And.intro ⟨rfl, by decide, by decide⟩ (And.intro rfl (And.intro (Or.inl rfl) (fputf fb_740_28 (by decide +kernel) hW (by omega) ?_)))
        intro IhB5 ehB5 hB5
        have t6 := fup_at ehB5 28 (by first | rfl | omega)
        refine And.intro ⟨rfl, by decide, by decide⟩ (fgetf fb_740_27 h0 hB5 ?_)
        intro z7 lz7 uz7 qz7
        intro z8 hz8 ez8 bz8
        clear ez8
        try replace bz8 := bz8 (by omega)
        refine And.intro ⟨rfl, by decide, by decide⟩ (And.intro rfl (And.intro (Or.inl rfl) (fputf fb_740_27 (by decide +kernel) hW (by omega) ?_)))
        intro IhB9 ehB9 hB9
        have t10 := fup_at ehB9 27 (by first | rfl | omega)
        have t11 : IhB9 740 28 = IhB5 740 28 := (congrFun (congrFun ehB9 740) 28).trans (fup_ne (by first | decide | omega))
        exact fcutJ (I := IhB9) (j := jc_M_weathers_325ea_25) (lv' := [(0, .inr (.inr (some 740)))]) (And.intro rfl True.intro) ⟨rfl, rfl, True.intro, rfl⟩ (by omega)
  · have hB0 := fB_self (zn := znJ) (K := fKc wz_69d61) h0
    refine And.intro ⟨rfl, by decide, by decide⟩ (fgetf fb_740_28 h0 hB0 ?_)
    intro z12 lz12 uz12 qz12
    refine And.intro ⟨rfl, by decide, by decide⟩ ?_
    refine fload rL_741_741_4510_4557_1_0 h0 hB0 (by omega) ?_
    intro z13 lz13 uz13 qz13
    intro z14 hz14 ez14 bz14
    clear ez14
    have bz14 := bz14 (by omega)
    refine And.intro (And.intro (by omega) (And.intro (by first | exact ⟨by decide, by decide⟩ | omega) (And.intro (by first | exact by decide | omega) rfl))) ?_
    intro z15 hz15 ez15 dz15
    have dz15 := dz15 (by omega) (by omega)
    change _ = _ / _ at dz15
    intro z16 hz16 ez16 bz16
    clear ez16
    try replace bz16 := bz16 (by omega)
    refine And.intro ⟨rfl, by decide, by decide⟩ (And.intro rfl (And.intro (Or.inl rfl) (fputf fb_740_28 (by decide +kernel) hW (by omega) ?_)))
    intro IhB17 ehB17 hB17
    have t18 := fup_at ehB17 28 (by first | rfl | omega)
    exact fcutJ (I := IhB17) (j := jc_M_weathers_325ea_25) (lv' := [(0, .inr (.inr (some 740)))]) (And.intro rfl True.intro) ⟨rfl, rfl, True.intro, rfl⟩ (by omega)
abbrev jc_M_fallsIn_0827b_23 : Nat → fL → List fV → fH → Prop := fun m lv st I => ∃ (y3 : Int) (y4 : Int) (y5 : Int), lv = [(0, .inr (.inr (some 740))), (3, .inl y3), (4, .inl y4), (5, .inl y5)] ∧ st = [] ∧ (((1 ≤ y3 ∧ y3 ≤ 48) ∧ (0 ≤ y4 ∧ y4 ≤ 9) ∧ (0 ≤ y5 ∧ y5 ≤ 48))) ∧ m = (1 + 1 * (48 - y5) : Int).toNat
set_option maxRecDepth 8000 in
theorem ct_M_fallsIn_0827b {I : fH} {x1 : Int} {x2 : Int} {x3 : Int} {x4 : Int} (h0 : fB bsJ I) (ha1 : (0 ≤ x1 ∧ x1 ≤ 23)) (ha2 : (0 ≤ x2 ∧ x2 ≤ 47)) (ha3 : (1 ≤ x3 ∧ x3 ≤ 48)) (ha4 : (0 ≤ x4 ∧ x4 ≤ 9)) : fC ρ base n F xTc vwCl xTys D dA la gJ (fbz bsJ znJ (fKc wz_69d61) I) xm_459 [.inr (.inr (some 740)), .inl x1, .inl x2, .inl x3, .inl x4] I (fun _ r => ∃ z, r = some (.inl z) ∧ (0 ≤ z ∧ z ≤ 48)) := by
  have hW : fzs wz_69d61 (fKc wz_69d61) := fKc_ok _
  refine f_meth (rb := rbJ) (J := [(23, jc_M_fallsIn_0827b_23)]) 50 400 xG xin_459 x6_459 okJ (fB_self h0) ?_ ?_
  · refine List.forall_mem_cons.mpr ⟨?_, fun q h => absurd h List.not_mem_nil⟩
    · rintro m _ _ I1 hB1 ⟨y3, y4, y5, rfl, rfl, hb, hm⟩
      refine And.intro (And.intro (by first | exact fi_ hb.2.2.1 hb.2.2.2 rfl | omega) (by first | exact fi_ hb.1.1 hb.1.2 rfl | omega)) (And.intro ?_ ?_)
      · intro c1
        refine And.intro (True.intro) ?_
        exact ⟨_, rfl, (by first | exact ⟨Int.le_trans (by decide) hb.1.1, hb.1.2⟩ | omega)⟩
      · intro c2
        refine Exists.intro xm_460 (And.intro mi_460 (And.intro ⟨rfl, rfl, rfl, rfl⟩ (And.intro rfl ?_)))
        refine fcall _ h0 (fzs_sub (by decide +kernel) hW) hB1 (ct_M_weathers_325ea (fBz h0 hB1) (by first | exact ⟨hb.2.2.1, Int.le_trans (Int.le_sub_one_of_lt (Int.lt_of_lt_of_le c2 hb.1.2)) (by decide)⟩ | omega)) ?_
        rintro IhB4 _ hB4 fhB4 rfl
        refine And.intro ⟨rfl, by decide, by decide⟩ (fgetf fb_740_27 h0 hB4 ?_)
        intro z5 lz5 uz5 qz5
        refine And.intro (And.intro (by first | exact fi_ lz5 uz5 rfl | omega) (by first | exact fi_ hb.2.1.1 hb.2.1.2 rfl | omega)) (And.intro ?_ ?_)
        · intro c6
          exact fcutJ (I := IhB4) (j := jc_M_fallsIn_0827b_23) (lv' := [(0, .inr (.inr (some 740))), (3, .inl _), (4, .inl _), (5, .inl _)]) (And.intro rfl (And.intro rfl (And.intro rfl (And.intro rfl True.intro)))) ⟨_, _, _, rfl, rfl, by omega, rfl⟩ (by omega)
        · intro c7
          refine And.intro (True.intro) ?_
          exact ⟨_, rfl, (by first | exact ⟨hb.2.2.1, Int.le_trans (Int.le_sub_one_of_lt (Int.lt_of_lt_of_le c2 hb.1.2)) (by decide)⟩ | omega)⟩
  · have hB0 := fB_self (zn := znJ) (K := fKc wz_69d61) h0
    refine And.intro ⟨rfl, by decide, by decide⟩ ?_
    refine fload1 rL_754_754_0_23_1_0 h0 hB0 ⟨by decide, by decide⟩ (by first | exact ⟨ha1.1, ha1.2⟩ | omega) ?_
    intro z8 lz8 uz8 qz8
    refine And.intro ⟨rfl, by decide, by decide⟩ (And.intro rfl (And.intro (Or.inl rfl) (fputf fb_740_27 (by decide +kernel) hW (by first | exact ⟨lz8, uz8⟩ | omega) ?_)))
    intro IhB9 ehB9 hB9
    have t10 := fup_at ehB9 27 (by first | rfl | omega)
    refine And.intro ⟨rfl, by decide, by decide⟩ ?_
    refine fload1 rL_755_755_0_23_1_0 h0 hB9 ⟨by decide, by decide⟩ (by first | exact ⟨ha1.1, ha1.2⟩ | omega) ?_
    intro z11 lz11 uz11 qz11
    refine And.intro ⟨rfl, by decide, by decide⟩ (And.intro rfl (And.intro (Or.inl rfl) (fputf fb_740_28 (by decide +kernel) hW (by first | exact ⟨lz11, uz11⟩ | omega) ?_)))
    intro IhB12 ehB12 hB12
    have t13 : IhB12 740 27 = IhB9 740 27 := (congrFun (congrFun ehB12 740) 27).trans (fup_ne (by first | decide | omega))
    have t14 := fup_at ehB12 28 (by first | rfl | omega)
    exact fcutJ (I := IhB12) (j := jc_M_fallsIn_0827b_23) (lv' := [(0, .inr (.inr (some 740))), (3, .inl _), (4, .inl _), (5, .inl _)]) (And.intro rfl (And.intro rfl (And.intro rfl (And.intro rfl True.intro)))) ⟨_, _, _, rfl, rfl, by omega, rfl⟩ (by omega)
abbrev jc_M_nextSkin_f6b67_9 : Nat → fL → List fV → fH → Prop := fun m lv st I => ∃ (y1 : Int) (y2 : Int) (y3 : Int) (y4 : Int) (y5 : Int) (y6 : Int), lv = [(0, .inr (.inr (some 740))), (1, .inl y1), (2, .inl y2), (3, .inl y3), (4, .inl y4), (5, .inl y5), (6, .inl y6)] ∧ st = [] ∧ (((0 ≤ y1 ∧ y1 ≤ 47) ∧ (1 ≤ y2 ∧ y2 ≤ 48) ∧ (0 ≤ y3 ∧ y3 ≤ 9) ∧ ((-1) ≤ y4 ∧ y4 ≤ 23) ∧ (0 ≤ y5 ∧ y5 ≤ 48) ∧ (0 ≤ y6 ∧ y6 ≤ 24))) ∧ m = (2 + 2 * (24 - y6) : Int).toNat
abbrev jc_M_nextSkin_f6b67_54 : Nat → fL → List fV → fH → Prop := fun m lv st I => ∃ (y1 : Int) (y2 : Int) (y3 : Int) (y4 : Int) (y5 : Int) (y6 : Int), lv = [(0, .inr (.inr (some 740))), (1, .inl y1), (2, .inl y2), (3, .inl y3), (4, .inl y4), (5, .inl y5), (6, .inl y6)] ∧ st = [] ∧ (((0 ≤ y1 ∧ y1 ≤ 47) ∧ (1 ≤ y2 ∧ y2 ≤ 48) ∧ (0 ≤ y3 ∧ y3 ≤ 9) ∧ ((-1) ≤ y4 ∧ y4 ≤ 23) ∧ (0 ≤ y5 ∧ y5 ≤ 48) ∧ (0 ≤ y6 ∧ y6 ≤ 23) ∧ (1 ≤ I 741 7 ∧ I 741 7 ≤ 24))) ∧ m = (1 + 2 * (24 - y6) : Int).toNat
set_option maxRecDepth 8000 in
theorem ct_M_nextSkin_f6b67 {I : fH} {x1 : Int} {x2 : Int} {x3 : Int} (h0 : fB bsJ I) (ha1 : (0 ≤ x1 ∧ x1 ≤ 47)) (ha2 : (1 ≤ x2 ∧ x2 ≤ 48)) (ha3 : (0 ≤ x3 ∧ x3 ≤ 9)) : fC ρ base n F xTc vwCl xTys D dA la gJ (fbz bsJ znJ (fKc wz_69d61) I) xm_457 [.inr (.inr (some 740)), .inl x1, .inl x2, .inl x3] I (fun _ r => ∃ z, r = some (.inl z) ∧ ((-1) ≤ z ∧ z ≤ 23)) := by
  have hW : fzs wz_69d61 (fKc wz_69d61) := fKc_ok _
  refine f_meth (rb := rbJ) (J := [(9, jc_M_nextSkin_f6b67_9), (54, jc_M_nextSkin_f6b67_54)]) 51 400 xG xin_457 x6_457 okJ (fB_self h0) ?_ ?_
  · refine List.forall_mem_cons.mpr ⟨?_, List.forall_mem_cons.mpr ⟨?_, fun q h => absurd h List.not_mem_nil⟩⟩
    · rintro m _ _ I1 hB1 ⟨y1, y2, y3, y4, y5, y6, rfl, rfl, hb, hm⟩
      refine And.intro ⟨rfl, by decide, by decide⟩ ?_
      refine fload1 rL_741_741_7_7_1_0 h0 hB1 ⟨by decide, by decide⟩ (by first | exact ⟨by decide, by decide⟩ | omega) ?_
      intro z1 lz1 uz1 qz1
      have pz1 := fld_at qz1 7 (by omega)
      refine And.intro (And.intro (by first | exact fi_ hb.2.2.2.2.2.1 hb.2.2.2.2.2.2 rfl | omega) (by first | exact fi_ lz1 uz1 rfl | omega)) (And.intro ?_ ?_)
      · intro c2
        refine And.intro (True.intro) ?_
        exact ⟨_, rfl, (by first | exact ⟨hb.2.2.2.1.1, hb.2.2.2.1.2⟩ | omega)⟩
      · intro c3
        refine Exists.intro xm_458 (And.intro mi_458 (And.intro ⟨rfl, rfl, rfl, rfl⟩ (And.intro rfl ?_)))
        refine fcallp hB1 (ct_M_isSkin_da592 (fBz h0 hB1) (by first | exact ⟨hb.2.2.2.2.2.1, Int.le_trans (Int.le_sub_one_of_lt (Int.lt_of_lt_of_le c3 uz1)) (by decide)⟩ | omega)) ?_
        rintro _ ⟨z4, rfl, hz4⟩
        refine And.intro (by omega) (And.intro ?_ ?_)
        · intro c5
          exact fcutJ (I := I1) (j := jc_M_nextSkin_f6b67_54) (lv' := [(0, .inr (.inr (some 740))), (1, .inl _), (2, .inl _), (3, .inl _), (4, .inl _), (5, .inl _), (6, .inl _)]) (And.intro rfl (And.intro rfl (And.intro rfl (And.intro rfl (And.intro rfl (And.intro rfl (And.intro rfl True.intro))))))) ⟨_, _, _, _, _, _, rfl, rfl, by omega, rfl⟩ (by omega)
        · intro c6
          refine And.intro ⟨rfl, by decide, by decide⟩ ?_
          refine fload1 rL_754_754_0_23_1_0 h0 hB1 ⟨by decide, by decide⟩ (by first | exact ⟨hb.2.2.2.2.2.1, Int.le_trans (Int.le_sub_one_of_lt (Int.lt_of_lt_of_le c3 uz1)) (by decide)⟩ | omega) ?_
          intro z7 lz7 uz7 qz7
          refine And.intro (And.intro (by first | exact fi_ lz7 uz7 rfl | omega) (by first | exact ⟨by decide, by decide⟩ | omega)) (And.intro ?_ ?_)
          · intro c8
            exact fcutJ (I := I1) (j := jc_M_nextSkin_f6b67_54) (lv' := [(0, .inr (.inr (some 740))), (1, .inl _), (2, .inl _), (3, .inl _), (4, .inl _), (5, .inl _), (6, .inl _)]) (And.intro rfl (And.intro rfl (And.intro rfl (And.intro rfl (And.intro rfl (And.intro rfl (And.intro rfl True.intro))))))) ⟨_, _, _, _, _, _, rfl, rfl, by omega, rfl⟩ (by omega)
          · intro c9
            refine Exists.intro xm_459 (And.intro mi_459 (And.intro ⟨rfl, rfl, rfl, rfl⟩ (And.intro rfl ?_)))
            refine fcall _ h0 (fzs_sub (by decide +kernel) hW) hB1 (ct_M_fallsIn_0827b (fBz h0 hB1) (by first | exact ⟨hb.2.2.2.2.2.1, Int.le_trans (Int.le_sub_one_of_lt (Int.lt_of_lt_of_le c3 uz1)) (by decide)⟩ | omega) (by first | exact ⟨hb.1.1, hb.1.2⟩ | omega) (by first | exact ⟨hb.2.1.1, hb.2.1.2⟩ | omega) (by first | exact ⟨hb.2.2.1.1, hb.2.2.1.2⟩ | omega)) ?_
            rintro IhB11 _ hB11 fhB11 ⟨z10, rfl, hz10⟩
            have t12 := fhB11 741 7 (by decide +kernel)
            refine And.intro (And.intro (by first | exact fi_ hz10.1 hz10.2 rfl | omega) (by first | exact fi_ hb.2.2.2.2.1.1 hb.2.2.2.2.1.2 rfl | omega)) (And.intro ?_ ?_)
            · intro c13
              refine And.intro (And.intro (by first | exact fi_ hz10.1 hz10.2 rfl | omega) (by first | exact fi_ hb.2.2.2.2.1.1 hb.2.2.2.2.1.2 rfl | omega)) (And.intro ?_ ?_)
              · intro c14
                exact fcutJ (I := IhB11) (j := jc_M_nextSkin_f6b67_9) (lv' := [(0, .inr (.inr (some 740))), (1, .inl _), (2, .inl _), (3, .inl _), (4, .inl _), (5, .inl _), (6, .inl _)]) (And.intro rfl (And.intro rfl (And.intro rfl (And.intro rfl (And.intro rfl (And.intro rfl (And.intro rfl True.intro))))))) ⟨_, _, _, _, _, _, rfl, rfl, by omega, rfl⟩ (by omega)
              · intro c15
                exact fcutJ (I := IhB11) (j := jc_M_nextSkin_f6b67_9) (lv' := [(0, .inr (.inr (some 740))), (1, .inl _), (2, .inl _), (3, .inl _), (4, .inl _), (5, .inl _), (6, .inl _)]) (And.intro rfl (And.intro rfl (And.intro rfl (And.intro rfl (And.intro rfl (And.intro rfl (And.intro rfl True.intro))))))) ⟨_, _, _, _, _, _, rfl, rfl, by omega, rfl⟩ (by omega)
            · intro c16
              refine And.intro (And.intro (by first | exact fi_ hz10.1 (Int.le_sub_one_of_lt (Int.lt_of_lt_of_le c16 hb.2.2.2.2.1.2)) rfl | omega) (by first | exact fi_ (Int.add_one_le_of_lt (Int.lt_of_le_of_lt hz10.1 c16)) hb.2.2.2.2.1.2 rfl | omega)) (And.intro ?_ ?_)
              · intro c17
                exact fcutJ (I := IhB11) (j := jc_M_nextSkin_f6b67_9) (lv' := [(0, .inr (.inr (some 740))), (1, .inl _), (2, .inl _), (3, .inl _), (4, .inl _), (5, .inl _), (6, .inl _)]) (And.intro rfl (And.intro rfl (And.intro rfl (And.intro rfl (And.intro rfl (And.intro rfl (And.intro rfl True.intro))))))) ⟨_, _, _, _, _, _, rfl, rfl, by omega, rfl⟩ (by omega)
              · intro c18
                exact fcutJ (I := IhB11) (j := jc_M_nextSkin_f6b67_9) (lv' := [(0, .inr (.inr (some 740))), (1, .inl _), (2, .inl _), (3, .inl _), (4, .inl _), (5, .inl _), (6, .inl _)]) (And.intro rfl (And.intro rfl (And.intro rfl (And.intro rfl (And.intro rfl (And.intro rfl (And.intro rfl True.intro))))))) ⟨_, _, _, _, _, _, rfl, rfl, by omega, rfl⟩ (by omega)
    · rintro m _ _ I1 hB1 ⟨y1, y2, y3, y4, y5, y6, rfl, rfl, hb, hm⟩
      refine And.intro (And.intro (by first | exact fi_ hb.2.1.1 hb.2.1.2 rfl | omega) (by first | exact fi_ hb.2.2.2.2.1.1 hb.2.2.2.2.1.2 rfl | omega)) (And.intro ?_ ?_)
      · intro c19
        refine And.intro (And.intro (by first | exact fi_ hb.2.1.1 hb.2.1.2 rfl | omega) (by first | exact fi_ hb.2.2.2.2.1.1 hb.2.2.2.2.1.2 rfl | omega)) (And.intro ?_ ?_)
        · intro c20
          exact fcutJ (I := I1) (j := jc_M_nextSkin_f6b67_9) (lv' := [(0, .inr (.inr (some 740))), (1, .inl _), (2, .inl _), (3, .inl _), (4, .inl _), (5, .inl _), (6, .inl _)]) (And.intro rfl (And.intro rfl (And.intro rfl (And.intro rfl (And.intro rfl (And.intro rfl (And.intro rfl True.intro))))))) ⟨_, _, _, _, _, _, rfl, rfl, by omega, rfl⟩ (by omega)
        · intro c21
          exact fcutJ (I := I1) (j := jc_M_nextSkin_f6b67_9) (lv' := [(0, .inr (.inr (some 740))), (1, .inl _), (2, .inl _), (3, .inl _), (4, .inl _), (5, .inl _), (6, .inl _)]) (And.intro rfl (And.intro rfl (And.intro rfl (And.intro rfl (And.intro rfl (And.intro rfl (And.intro rfl True.intro))))))) ⟨_, _, _, _, _, _, rfl, rfl, by omega, rfl⟩ (by omega)
      · intro c22
        refine And.intro (And.intro (by first | exact fi_ hb.2.1.1 (Int.le_sub_one_of_lt (Int.lt_of_lt_of_le c22 hb.2.2.2.2.1.2)) rfl | omega) (by first | exact fi_ (Int.add_one_le_of_lt (Int.lt_of_le_of_lt hb.2.1.1 c22)) hb.2.2.2.2.1.2 rfl | omega)) (And.intro ?_ ?_)
        · intro c23
          exact fcutJ (I := I1) (j := jc_M_nextSkin_f6b67_9) (lv' := [(0, .inr (.inr (some 740))), (1, .inl _), (2, .inl _), (3, .inl _), (4, .inl _), (5, .inl _), (6, .inl _)]) (And.intro rfl (And.intro rfl (And.intro rfl (And.intro rfl (And.intro rfl (And.intro rfl (And.intro rfl True.intro))))))) ⟨_, _, _, _, _, _, rfl, rfl, by omega, rfl⟩ (by omega)
        · intro c24
          exact fcutJ (I := I1) (j := jc_M_nextSkin_f6b67_9) (lv' := [(0, .inr (.inr (some 740))), (1, .inl _), (2, .inl _), (3, .inl _), (4, .inl _), (5, .inl _), (6, .inl _)]) (And.intro rfl (And.intro rfl (And.intro rfl (And.intro rfl (And.intro rfl (And.intro rfl (And.intro rfl True.intro))))))) ⟨_, _, _, _, _, _, rfl, rfl, by omega, rfl⟩ (by omega)
  · have hB0 := fB_self (zn := znJ) (K := fKc wz_69d61) h0
    exact fcutJ (I := I) (j := jc_M_nextSkin_f6b67_9) (lv' := [(0, .inr (.inr (some 740))), (1, .inl _), (2, .inl _), (3, .inl _), (4, .inl _), (5, .inl _), (6, .inl _)]) (And.intro rfl (And.intro rfl (And.intro rfl (And.intro rfl (And.intro rfl (And.intro rfl (And.intro rfl True.intro))))))) ⟨_, _, _, _, _, _, rfl, rfl, by omega, rfl⟩ (by omega)
abbrev jc_M_fitters_2c584_4 : Nat → fL → List fV → fH → Prop := fun m lv st I => ∃ (y1 : Int) (y2 : Int), lv = [(0, .inr (.inr (some 740))), (1, .inl y1), (2, .inl y2)] ∧ st = [] ∧ ((((-2147483648) ≤ y1 ∧ y1 ≤ 2147483647) ∧ (0 ≤ y2 ∧ y2 ≤ 24))) ∧ m = (1 + 1 * (24 - y2) : Int).toNat
set_option maxRecDepth 8000 in
theorem ct_M_fitters_2c584 {I : fH}  (h0 : fB bsJ I)  : fC ρ base n F xTc vwCl xTys D dA la gJ (fbz bsJ znJ (fKc []) I) xm_456 [.inr (.inr (some 740))] I (fun _ r => ∃ z, r = some (.inl z) ∧ ((-2147483648) ≤ z ∧ z ≤ 2147483647)) := by
  have hW : fzs [] (fKc []) := fKc_ok _
  refine f_meth (rb := rbJ) (J := [(4, jc_M_fitters_2c584_4)]) 26 400 xG xin_456 x6_456 okJ (fB_self h0) ?_ ?_
  · refine List.forall_mem_cons.mpr ⟨?_, fun q h => absurd h List.not_mem_nil⟩
    · rintro m _ _ I1 hB1 ⟨y1, y2, rfl, rfl, hb, hm⟩
      refine And.intro ⟨rfl, by decide, by decide⟩ ?_
      refine fload1 rL_741_741_8_8_1_0 h0 hB1 ⟨by decide, by decide⟩ (by first | exact ⟨by decide, by decide⟩ | omega) ?_
      intro z1 lz1 uz1 qz1
      have pz1 := fld_at qz1 8 (by omega)
      refine And.intro (And.intro (by first | exact fi_ hb.2.1 hb.2.2 rfl | omega) (by first | exact fi_ lz1 uz1 rfl | omega)) (And.intro ?_ ?_)
      · intro c2
        refine And.intro (True.intro) ?_
        exact ⟨_, rfl, (by first | exact ⟨hb.1.1, hb.1.2⟩ | omega)⟩
      · intro c3
        refine And.intro ⟨rfl, by decide, by decide⟩ ?_
        refine Exists.intro xm_247 (And.intro mi_247 (And.intro ⟨rfl, rfl, rfl, rfl⟩ (And.intro rfl ?_)))
        refine fcallp hB1 (ct_M_personAt_9b331 (fBz h0 hB1) (by first | exact ⟨hb.2.1, Int.le_trans (Int.le_sub_one_of_lt (Int.lt_of_lt_of_le c3 uz1)) (by decide)⟩ | omega)) ?_
        rintro _ ⟨_, rfl, rfl⟩
        refine fload rL_741_741_871_1009_6_0 h0 hB1 (by omega) ?_
        intro z5 lz5 uz5 qz5
        refine And.intro (And.intro (by first | exact fi_ lz5 uz5 rfl | omega) (by first | exact ⟨by decide, by decide⟩ | omega)) (And.intro ?_ ?_)
        · intro c6
          intro z7 hz7 ez7 bz7
          clear ez7
          clear bz7
          exact fcutJ (I := I1) (j := jc_M_fitters_2c584_4) (lv' := [(0, .inr (.inr (some 740))), (1, .inl _), (2, .inl _)]) (And.intro rfl (And.intro rfl (And.intro rfl True.intro))) ⟨_, _, rfl, rfl, by omega, rfl⟩ (by omega)
        · intro c8
          refine And.intro ⟨rfl, by decide, by decide⟩ ?_
          refine Exists.intro xm_247 (And.intro mi_247 (And.intro ⟨rfl, rfl, rfl, rfl⟩ (And.intro rfl ?_)))
          refine fcallp hB1 (ct_M_personAt_9b331 (fBz h0 hB1) (by first | exact ⟨hb.2.1, Int.le_trans (Int.le_sub_one_of_lt (Int.lt_of_lt_of_le c3 uz1)) (by decide)⟩ | omega)) ?_
          rintro _ ⟨_, rfl, rfl⟩
          refine fload rL_741_741_873_1011_6_0 h0 hB1 (by omega) ?_
          intro z10 lz10 uz10 qz10
          refine And.intro (And.intro (by first | exact fi_ lz10 uz10 rfl | omega) (by first | exact ⟨by decide, by decide⟩ | omega)) (And.intro ?_ ?_)
          · intro c11
            intro z12 hz12 ez12 bz12
            clear ez12
            clear bz12
            exact fcutJ (I := I1) (j := jc_M_fitters_2c584_4) (lv' := [(0, .inr (.inr (some 740))), (1, .inl _), (2, .inl _)]) (And.intro rfl (And.intro rfl (And.intro rfl True.intro))) ⟨_, _, rfl, rfl, by omega, rfl⟩ (by omega)
          · intro c13
            intro z14 hz14 ez14 bz14
            clear ez14
            clear bz14
            exact fcutJ (I := I1) (j := jc_M_fitters_2c584_4) (lv' := [(0, .inr (.inr (some 740))), (1, .inl _), (2, .inl _)]) (And.intro rfl (And.intro rfl (And.intro rfl True.intro))) ⟨_, _, rfl, rfl, by omega, rfl⟩ (by omega)
  · have hB0 := fB_self (zn := znJ) (K := fKc []) h0
    exact fcutJ (I := I) (j := jc_M_fitters_2c584_4) (lv' := [(0, .inr (.inr (some 740))), (1, .inl _), (2, .inl _)]) (And.intro rfl (And.intro rfl (And.intro rfl True.intro))) ⟨_, _, rfl, rfl, by omega, rfl⟩ (by omega)
abbrev jc_M_rounds_3e399_3 : Nat → fL → List fV → fH → Prop := fun m lv st I => ∃ (y1 : Int) (y2 : Int) (y3 : Int) (y4 : Int) (y5 : Int), lv = [(0, .inr (.inr (some 740))), (1, .inl y1), (2, .inl y2), (3, .inl y3), (4, .inl y4), (5, .inl y5)] ∧ st = [] ∧ (((1 ≤ y1 ∧ y1 ≤ 48) ∧ (0 ≤ y2 ∧ y2 ≤ 9) ∧ ((-1) ≤ y3 ∧ y3 ≤ 23) ∧ (0 ≤ y4 ∧ y4 ≤ 47) ∧ (0 ≤ y5 ∧ y5 ≤ 24))) ∧ m = (210453398779 + 1 * (24 - y5) : Int).toNat
abbrev jc_M_rounds_3e399_73 : Nat → fL → List fV → fH → Prop := fun m lv st I => ∃ (y1 : Int) (y2 : Int) (y3 : Int) (y4 : Int) (y5 : Int) (y6 : Int), lv = [(0, .inr (.inr (some 740))), (1, .inl y1), (2, .inl y2), (3, .inl y3), (4, .inl y4), (5, .inl y5), (6, .inl y6)] ∧ st = [] ∧ (((1 ≤ y1 ∧ y1 ≤ 48) ∧ (0 ≤ y2 ∧ y2 ≤ 9) ∧ ((-1) ≤ y3 ∧ y3 ≤ 23) ∧ (0 ≤ y4 ∧ y4 ≤ 47) ∧ ((-1) ≤ y5 ∧ y5 ≤ 47) ∧ (0 ≤ y6 ∧ y6 ≤ 48))) ∧ m = (4294967322 + 4294967322 * (48 - y6) : Int).toNat
abbrev jc_M_rounds_3e399_85 : Nat → fL → List fV → fH → Prop := fun m lv st I => ∃ (y1 : Int) (y2 : Int) (y3 : Int) (y4 : Int) (y5 : Int) (y6 : Int) (y7 : Int), lv = [(0, .inr (.inr (some 740))), (1, .inl y1), (2, .inl y2), (3, .inl y3), (4, .inl y4), (5, .inl y5), (6, .inl y6), (7, .inl y7)] ∧ st = [] ∧ (((1 ≤ y1 ∧ y1 ≤ 48) ∧ (0 ≤ y2 ∧ y2 ≤ 9) ∧ ((-1) ≤ y3 ∧ y3 ≤ 23) ∧ (0 ≤ y4 ∧ y4 ≤ 47) ∧ ((-1) ≤ y5 ∧ y5 ≤ 47) ∧ (0 ≤ y6 ∧ y6 ≤ 47) ∧ ((-2147483648) ≤ y7 ∧ y7 ≤ 2147483647))) ∧ m = (26 + 4294967322 * (48 - y6) + 1 * (y7 - (-2147483648)) : Int).toNat
abbrev jc_M_rounds_3e399_152 : Nat → fL → List fV → fH → Prop := fun m lv st I => ∃ (y1 : Int) (y2 : Int) (y3 : Int) (y4 : Int) (y5 : Int) (y6 : Int) (y7 : Int), lv = [(0, .inr (.inr (some 740))), (1, .inl y1), (2, .inl y2), (3, .inl y3), (4, .inl y4), (5, .inl y5), (6, .inl y6), (7, .inl y7)] ∧ st = [] ∧ (((1 ≤ y1 ∧ y1 ≤ 48) ∧ (0 ≤ y2 ∧ y2 ≤ 9) ∧ ((-1) ≤ y3 ∧ y3 ≤ 23) ∧ (0 ≤ y4 ∧ y4 ≤ 47) ∧ ((-1) ≤ y5 ∧ y5 ≤ 47) ∧ (0 ≤ y6 ∧ y6 ≤ 47) ∧ (0 ≤ y7 ∧ y7 ≤ 24))) ∧ m = (1 + 4294967322 * (48 - y6) + 1 * (24 - y7) : Int).toNat
set_option maxRecDepth 8000 in
theorem ct_M_rounds_3e399 {I : fH} {x1 : Int} {x2 : Int} {x3 : Int} {x4 : Int} (h0 : fB bsJ I) (ha1 : (1 ≤ x1 ∧ x1 ≤ 48)) (ha2 : (0 ≤ x2 ∧ x2 ≤ 9)) (ha3 : ((-1) ≤ x3 ∧ x3 ≤ 23)) (ha4 : (0 ≤ x4 ∧ x4 ≤ 47)) : fC ρ base n F xTc vwCl xTys D dA la gJ (fbz bsJ znJ (fKc wz_e4773) I) xm_455 [.inr (.inr (some 740)), .inl x1, .inl x2, .inl x3, .inl x4] I (fun _ r => ∃ z, r = some (.inl z) ∧ ((-1) ≤ z ∧ z ≤ 47)) := by
  have hW : fzs wz_e4773 (fKc wz_e4773) := fKc_ok _
  refine f_meth (rb := rbJ) (J := [(3, jc_M_rounds_3e399_3), (73, jc_M_rounds_3e399_73), (85, jc_M_rounds_3e399_85), (152, jc_M_rounds_3e399_152)]) 210453398804 400 xG xin_455 x6_455 okJ (fB_self h0) ?_ ?_
  · refine List.forall_mem_cons.mpr ⟨?_, List.forall_mem_cons.mpr ⟨?_, List.forall_mem_cons.mpr ⟨?_, List.forall_mem_cons.mpr ⟨?_, fun q h => absurd h List.not_mem_nil⟩⟩⟩⟩
    · rintro m _ _ I1 hB1 ⟨y1, y2, y3, y4, y5, rfl, rfl, hb, hm⟩
      refine And.intro ⟨rfl, by decide, by decide⟩ ?_
      refine fload1 rL_741_741_7_7_1_0 h0 hB1 ⟨by decide, by decide⟩ (by first | exact ⟨by decide, by decide⟩ | omega) ?_
      intro z1 lz1 uz1 qz1
      have pz1 := fld_at qz1 7 (by omega)
      refine And.intro (And.intro (by first | exact fi_ hb.2.2.2.2.1 hb.2.2.2.2.2 rfl | omega) (by first | exact fi_ lz1 uz1 rfl | omega)) (And.intro ?_ ?_)
      · intro c2
        refine And.intro ⟨rfl, by decide, by decide⟩ (And.intro rfl (And.intro (Or.inl rfl) (fputf fb_740_29 (by decide +kernel) hW (by first | exact ⟨by decide, by decide⟩ | omega) ?_)))
        intro IhB3 ehB3 hB3
        have t4 := fup_at ehB3 29 (by first | rfl | omega)
        have t5 : IhB3 741 7 = I1 741 7 := (congrFun (congrFun ehB3 741) 7).trans (fup_ne (by first | decide | omega))
        exact fcutJ (I := IhB3) (j := jc_M_rounds_3e399_73) (lv' := [(0, .inr (.inr (some 740))), (1, .inl _), (2, .inl _), (3, .inl _), (4, .inl _), (5, .inl _), (6, .inl _)]) (And.intro rfl (And.intro rfl (And.intro rfl (And.intro rfl (And.intro rfl (And.intro rfl (And.intro rfl True.intro))))))) ⟨_, _, _, _, _, _, rfl, rfl, by omega, rfl⟩ (by omega)
      · intro c6
        refine And.intro ⟨rfl, by decide, by decide⟩ ?_
        refine And.intro ⟨rfl, by decide, by decide⟩ ?_
        refine Exists.intro xm_244 (And.intro mi_244 (And.intro ⟨rfl, rfl, rfl, rfl⟩ (And.intro rfl ?_)))
        refine fcallp hB1 (ct_M_workAt_83d38 (fBz h0 hB1) (by first | exact ⟨hb.2.2.2.2.1, Int.le_trans (Int.le_sub_one_of_lt (Int.lt_of_lt_of_le c6 uz1)) (by decide)⟩ | omega)) ?_
        rintro _ ⟨_, rfl, rfl⟩
        refine fload rL_741_741_535_857_14_0 h0 hB1 (by omega) ?_
        intro z8 lz8 uz8 qz8
        refine fstore1 rS_754_754_0_23_1_0 (fzs_sub (by decide +kernel) hW) ⟨by decide, by decide⟩ (by first | exact ⟨hb.2.2.2.2.1, Int.le_trans (Int.le_sub_one_of_lt (Int.lt_of_lt_of_le c6 uz1)) (by decide)⟩ | omega) (by first | exact ⟨lz8, uz8⟩ | omega) ?_
        intro IhB9 ehB9 hB9
        have t10 := fup_self ehB9
        have t11 : IhB9 741 7 = I1 741 7 := (congrFun (congrFun ehB9 741) 7).trans (fup_ne (by first | exact Or.inl (by decide) | omega))
        refine And.intro ⟨rfl, by decide, by decide⟩ ?_
        refine And.intro ⟨rfl, by decide, by decide⟩ ?_
        refine Exists.intro xm_244 (And.intro mi_244 (And.intro ⟨rfl, rfl, rfl, rfl⟩ (And.intro rfl ?_)))
        refine fcallp hB9 (ct_M_workAt_83d38 (fBz h0 hB9) (by first | exact ⟨hb.2.2.2.2.1, Int.le_trans (Int.le_sub_one_of_lt (Int.lt_of_lt_of_le c6 uz1)) (by decide)⟩ | omega)) ?_
        rintro _ ⟨_, rfl, rfl⟩
        refine fload rL_741_741_537_859_14_0 h0 hB9 (by omega) ?_
        intro z13 lz13 uz13 qz13
        refine fstore1 rS_755_755_0_23_1_0 (fzs_sub (by decide +kernel) hW) ⟨by decide, by decide⟩ (by first | exact ⟨hb.2.2.2.2.1, Int.le_trans (Int.le_sub_one_of_lt (Int.lt_of_lt_of_le c6 uz1)) (by decide)⟩ | omega) (by first | exact ⟨lz13, uz13⟩ | omega) ?_
        intro IhB14 ehB14 hB14
        have t15 := fup_self ehB14
        have t16 : IhB14 741 7 = IhB9 741 7 := (congrFun (congrFun ehB14 741) 7).trans (fup_ne (by first | exact Or.inl (by decide) | omega))
        exact fcutJ (I := IhB14) (j := jc_M_rounds_3e399_3) (lv' := [(0, .inr (.inr (some 740))), (1, .inl _), (2, .inl _), (3, .inl _), (4, .inl _), (5, .inl _)]) (And.intro rfl (And.intro rfl (And.intro rfl (And.intro rfl (And.intro rfl (And.intro rfl True.intro)))))) ⟨_, _, _, _, _, rfl, rfl, by omega, rfl⟩ (by omega)
    · rintro m _ _ I1 hB1 ⟨y1, y2, y3, y4, y5, y6, rfl, rfl, hb, hm⟩
      refine And.intro (And.intro (by first | exact fi_ hb.2.2.2.2.2.1 hb.2.2.2.2.2.2 rfl | omega) (by first | exact fi_ hb.1.1 hb.1.2 rfl | omega)) (And.intro ?_ ?_)
      · intro c17
        refine And.intro (True.intro) ?_
        exact ⟨_, rfl, (by first | exact ⟨hb.2.2.2.2.1.1, hb.2.2.2.2.1.2⟩ | omega)⟩
      · intro c18
        refine Exists.intro xm_456 (And.intro mi_456 (And.intro ⟨rfl, rfl, rfl, rfl⟩ (And.intro rfl ?_)))
        refine fcallp hB1 (ct_M_fitters_2c584 (fBz h0 hB1)) ?_
        rintro _ ⟨z19, rfl, hz19⟩
        exact fcutJ (I := I1) (j := jc_M_rounds_3e399_85) (lv' := [(0, .inr (.inr (some 740))), (1, .inl _), (2, .inl _), (3, .inl _), (4, .inl _), (5, .inl _), (6, .inl _), (7, .inl _)]) (And.intro rfl (And.intro rfl (And.intro rfl (And.intro rfl (And.intro rfl (And.intro rfl (And.intro rfl (And.intro rfl True.intro)))))))) ⟨_, _, _, _, _, _, _, rfl, rfl, by omega, rfl⟩ (by omega)
    · rintro m _ _ I1 hB1 ⟨y1, y2, y3, y4, y5, y6, y7, rfl, rfl, hb, hm⟩
      refine And.intro (by first | exact fi_ hb.2.2.2.2.2.2.1 hb.2.2.2.2.2.2.2 rfl | omega) (And.intro ?_ ?_)
      · intro c20
        exact fcutJ (I := I1) (j := jc_M_rounds_3e399_152) (lv' := [(0, .inr (.inr (some 740))), (1, .inl _), (2, .inl _), (3, .inl _), (4, .inl _), (5, .inl _), (6, .inl _), (7, .inl _)]) (And.intro rfl (And.intro rfl (And.intro rfl (And.intro rfl (And.intro rfl (And.intro rfl (And.intro rfl (And.intro rfl True.intro)))))))) ⟨_, _, _, _, _, _, _, rfl, rfl, by omega, rfl⟩ (by omega)
      · intro c21
        refine Exists.intro xm_457 (And.intro mi_457 (And.intro ⟨rfl, rfl, rfl, rfl⟩ (And.intro rfl ?_)))
        refine fcall _ h0 (fzs_sub (by decide +kernel) hW) hB1 (ct_M_nextSkin_f6b67 (fBz h0 hB1) (by first | exact ⟨hb.2.2.2.2.2.1.1, hb.2.2.2.2.2.1.2⟩ | omega) (by first | exact ⟨hb.1.1, hb.1.2⟩ | omega) (by first | exact ⟨hb.2.1.1, hb.2.1.2⟩ | omega)) ?_
        rintro IhB23 _ hB23 fhB23 ⟨z22, rfl, hz22⟩
        refine And.intro (by first | exact fi_ hz22.1 hz22.2 rfl | omega) (And.intro ?_ ?_)
        · intro c24
          exact fcutJ (I := IhB23) (j := jc_M_rounds_3e399_85) (lv' := [(0, .inr (.inr (some 740))), (1, .inl _), (2, .inl _), (3, .inl _), (4, .inl _), (5, .inl _), (6, .inl _), (7, .inl _)]) (And.intro rfl (And.intro rfl (And.intro rfl (And.intro rfl (And.intro rfl (And.intro rfl (And.intro rfl (And.intro rfl True.intro)))))))) ⟨_, _, _, _, _, _, _, rfl, rfl, by omega, rfl⟩ (by omega)
        · intro c25
          refine And.intro ⟨rfl, by decide, by decide⟩ ?_
          refine fload1 rL_754_754_0_23_1_0 h0 hB23 ⟨by decide, by decide⟩ (by first | exact ⟨Int.le_trans (by decide) (Int.le_trans (Int.le_refl _) c25), hz22.2⟩ | omega) ?_
          intro z26 lz26 uz26 qz26
          intro z27 hz27 ez27 bz27
          clear ez27
          clear bz27
          refine fstore1 rS_754_754_0_23_1_0 (fzs_sub (by decide +kernel) hW) ⟨by decide, by decide⟩ (by first | exact ⟨Int.le_trans (by decide) (Int.le_trans (Int.le_refl _) c25), hz22.2⟩ | omega) (by omega) ?_
          intro IhB28 ehB28 hB28
          have t29 := fup_self ehB28
          refine And.intro ⟨rfl, by decide, by decide⟩ (fgetf fb_740_29 h0 hB28 ?_)
          intro z30 lz30 uz30 qz30
          refine And.intro (And.intro (by first | exact fi_ (Int.le_trans (Int.le_refl _) c25) hz22.2 rfl | omega) (by first | exact fi_ hb.2.2.1.1 hb.2.2.1.2 rfl | omega)) (And.intro ?_ ?_)
          · intro c31
            intro z32 hz32 ez32 bz32
            clear ez32
            clear bz32
            refine And.intro ⟨rfl, by decide, by decide⟩ (And.intro rfl (And.intro (Or.inl rfl) (fputf fb_740_29 (by decide +kernel) hW (by omega) ?_)))
            intro IhB33 ehB33 hB33
            exact fcutJ (I := IhB33) (j := jc_M_rounds_3e399_85) (lv' := [(0, .inr (.inr (some 740))), (1, .inl _), (2, .inl _), (3, .inl _), (4, .inl _), (5, .inl _), (6, .inl _), (7, .inl _)]) (And.intro rfl (And.intro rfl (And.intro rfl (And.intro rfl (And.intro rfl (And.intro rfl (And.intro rfl (And.intro rfl True.intro)))))))) ⟨_, _, _, _, _, _, _, rfl, rfl, by omega, rfl⟩ (by omega)
          · intro c34
            refine And.intro (And.intro (by first | exact fi_ hb.2.2.2.2.2.1.1 hb.2.2.2.2.2.1.2 rfl | omega) (by first | exact fi_ hb.2.2.2.1.1 hb.2.2.2.1.2 rfl | omega)) (And.intro ?_ ?_)
            · intro c35
              intro z36 hz36 ez36 bz36
              clear ez36
              clear bz36
              refine And.intro ⟨rfl, by decide, by decide⟩ (And.intro rfl (And.intro (Or.inl rfl) (fputf fb_740_29 (by decide +kernel) hW (by omega) ?_)))
              intro IhB37 ehB37 hB37
              exact fcutJ (I := IhB37) (j := jc_M_rounds_3e399_85) (lv' := [(0, .inr (.inr (some 740))), (1, .inl _), (2, .inl _), (3, .inl _), (4, .inl _), (5, .inl _), (6, .inl _), (7, .inl _)]) (And.intro rfl (And.intro rfl (And.intro rfl (And.intro rfl (And.intro rfl (And.intro rfl (And.intro rfl (And.intro rfl True.intro)))))))) ⟨_, _, _, _, _, _, _, rfl, rfl, by omega, rfl⟩ (by omega)
            · intro c38
              intro z39 hz39 ez39 bz39
              clear ez39
              clear bz39
              refine And.intro ⟨rfl, by decide, by decide⟩ (And.intro rfl (And.intro (Or.inl rfl) (fputf fb_740_29 (by decide +kernel) hW (by omega) ?_)))
              intro IhB40 ehB40 hB40
              exact fcutJ (I := IhB40) (j := jc_M_rounds_3e399_85) (lv' := [(0, .inr (.inr (some 740))), (1, .inl _), (2, .inl _), (3, .inl _), (4, .inl _), (5, .inl _), (6, .inl _), (7, .inl _)]) (And.intro rfl (And.intro rfl (And.intro rfl (And.intro rfl (And.intro rfl (And.intro rfl (And.intro rfl (And.intro rfl True.intro)))))))) ⟨_, _, _, _, _, _, _, rfl, rfl, by omega, rfl⟩ (by omega)
    · rintro m _ _ I1 hB1 ⟨y1, y2, y3, y4, y5, y6, y7, rfl, rfl, hb, hm⟩
      refine And.intro ⟨rfl, by decide, by decide⟩ ?_
      refine fload1 rL_741_741_7_7_1_0 h0 hB1 ⟨by decide, by decide⟩ (by first | exact ⟨by decide, by decide⟩ | omega) ?_
      intro z41 lz41 uz41 qz41
      have pz41 := fld_at qz41 7 (by omega)
      refine And.intro (And.intro (by first | exact fi_ hb.2.2.2.2.2.2.1 hb.2.2.2.2.2.2.2 rfl | omega) (by first | exact fi_ lz41 uz41 rfl | omega)) (And.intro ?_ ?_)
      · intro c42
        exact fcutJ (I := I1) (j := jc_M_rounds_3e399_73) (lv' := [(0, .inr (.inr (some 740))), (1, .inl _), (2, .inl _), (3, .inl _), (4, .inl _), (5, .inl _), (6, .inl _)]) (And.intro rfl (And.intro rfl (And.intro rfl (And.intro rfl (And.intro rfl (And.intro rfl (And.intro rfl True.intro))))))) ⟨_, _, _, _, _, _, rfl, rfl, by omega, rfl⟩ (by omega)
      · intro c43
        refine Exists.intro xm_458 (And.intro mi_458 (And.intro ⟨rfl, rfl, rfl, rfl⟩ (And.intro rfl ?_)))
        refine fcallp hB1 (ct_M_isSkin_da592 (fBz h0 hB1) (by first | exact ⟨hb.2.2.2.2.2.2.1, Int.le_trans (Int.le_sub_one_of_lt (Int.lt_of_lt_of_le c43 uz41)) (by decide)⟩ | omega)) ?_
        rintro _ ⟨z44, rfl, hz44⟩
        refine And.intro (by omega) (And.intro ?_ ?_)
        · intro c45
          exact fcutJ (I := I1) (j := jc_M_rounds_3e399_152) (lv' := [(0, .inr (.inr (some 740))), (1, .inl _), (2, .inl _), (3, .inl _), (4, .inl _), (5, .inl _), (6, .inl _), (7, .inl _)]) (And.intro rfl (And.intro rfl (And.intro rfl (And.intro rfl (And.intro rfl (And.intro rfl (And.intro rfl (And.intro rfl True.intro)))))))) ⟨_, _, _, _, _, _, _, rfl, rfl, by omega, rfl⟩ (by omega)
        · intro c46
          refine And.intro ⟨rfl, by decide, by decide⟩ ?_
          refine fload1 rL_754_754_0_23_1_0 h0 hB1 ⟨by decide, by decide⟩ (by first | exact ⟨hb.2.2.2.2.2.2.1, Int.le_trans (Int.le_sub_one_of_lt (Int.lt_of_lt_of_le c43 uz41)) (by decide)⟩ | omega) ?_
          intro z47 lz47 uz47 qz47
          refine And.intro ⟨rfl, by decide, by decide⟩ (And.intro rfl (And.intro (Or.inl rfl) (fputf fb_740_27 (by decide +kernel) hW (by first | exact ⟨lz47, uz47⟩ | omega) ?_)))
          intro IhB48 ehB48 hB48
          have t49 := fup_at ehB48 27 (by first | rfl | omega)
          have t50 : IhB48 741 7 = I1 741 7 := (congrFun (congrFun ehB48 741) 7).trans (fup_ne (by first | decide | omega))
          refine And.intro ⟨rfl, by decide, by decide⟩ ?_
          refine fload1 rL_755_755_0_23_1_0 h0 hB48 ⟨by decide, by decide⟩ (by first | exact ⟨hb.2.2.2.2.2.2.1, Int.le_trans (Int.le_sub_one_of_lt (Int.lt_of_lt_of_le c43 uz41)) (by decide)⟩ | omega) ?_
          intro z51 lz51 uz51 qz51
          refine And.intro ⟨rfl, by decide, by decide⟩ (And.intro rfl (And.intro (Or.inl rfl) (fputf fb_740_28 (by decide +kernel) hW (by first | exact ⟨lz51, uz51⟩ | omega) ?_)))
          intro IhB52 ehB52 hB52
          have t53 : IhB52 740 27 = IhB48 740 27 := (congrFun (congrFun ehB52 740) 27).trans (fup_ne (by first | decide | omega))
          have t54 := fup_at ehB52 28 (by first | rfl | omega)
          have t55 : IhB52 741 7 = IhB48 741 7 := (congrFun (congrFun ehB52 741) 7).trans (fup_ne (by first | decide | omega))
          refine Exists.intro xm_460 (And.intro mi_460 (And.intro ⟨rfl, rfl, rfl, rfl⟩ (And.intro rfl ?_)))
          refine fcall _ h0 (fzs_sub (by decide +kernel) hW) hB52 (ct_M_weathers_325ea (fBz h0 hB52) (by first | exact ⟨hb.2.2.2.2.2.1.1, hb.2.2.2.2.2.1.2⟩ | omega)) ?_
          rintro IhB57 _ hB57 fhB57 rfl
          have t58 := fhB57 741 7 (by decide +kernel)
          refine And.intro ⟨rfl, by decide, by decide⟩ ?_
          refine And.intro ⟨rfl, by decide, by decide⟩ (fgetf fb_740_27 h0 hB57 ?_)
          intro z59 lz59 uz59 qz59
          refine fstore1 rS_754_754_0_23_1_0 (fzs_sub (by decide +kernel) hW) ⟨by decide, by decide⟩ (by first | exact ⟨hb.2.2.2.2.2.2.1, Int.le_trans (Int.le_sub_one_of_lt (Int.lt_of_lt_of_le c43 uz41)) (by decide)⟩ | omega) (by first | exact ⟨lz59, uz59⟩ | omega) ?_
          intro IhB60 ehB60 hB60
          have t61 := fup_self ehB60
          have t62 : IhB60 740 27 = IhB57 740 27 := (congrFun (congrFun ehB60 740) 27).trans (fup_ne (by first | exact Or.inl (by decide) | omega))
          have t63 : IhB60 741 7 = IhB57 741 7 := (congrFun (congrFun ehB60 741) 7).trans (fup_ne (by first | exact Or.inl (by decide) | omega))
          refine And.intro ⟨rfl, by decide, by decide⟩ ?_
          refine And.intro ⟨rfl, by decide, by decide⟩ (fgetf fb_740_28 h0 hB60 ?_)
          intro z64 lz64 uz64 qz64
          refine fstore1 rS_755_755_0_23_1_0 (fzs_sub (by decide +kernel) hW) ⟨by decide, by decide⟩ (by first | exact ⟨hb.2.2.2.2.2.2.1, Int.le_trans (Int.le_sub_one_of_lt (Int.lt_of_lt_of_le c43 uz41)) (by decide)⟩ | omega) (by first | exact ⟨lz64, uz64⟩ | omega) ?_
          intro IhB65 ehB65 hB65
          have t66 := fup_self ehB65
          have t67 : IhB65 740 27 = IhB60 740 27 := (congrFun (congrFun ehB65 740) 27).trans (fup_ne (by first | exact Or.inl (by decide) | omega))
          have t68 : IhB65 740 28 = IhB60 740 28 := (congrFun (congrFun ehB65 740) 28).trans (fup_ne (by first | exact Or.inl (by decide) | omega))
          have t69 : IhB65 741 7 = IhB60 741 7 := (congrFun (congrFun ehB65 741) 7).trans (fup_ne (by first | exact Or.inl (by decide) | omega))
          refine And.intro (by first | exact fi_ hb.2.2.2.2.1.1 hb.2.2.2.2.1.2 rfl | omega) (And.intro ?_ ?_)
          · intro c70
            exact fcutJ (I := IhB65) (j := jc_M_rounds_3e399_152) (lv' := [(0, .inr (.inr (some 740))), (1, .inl _), (2, .inl _), (3, .inl _), (4, .inl _), (5, .inl _), (6, .inl _), (7, .inl _)]) (And.intro rfl (And.intro rfl (And.intro rfl (And.intro rfl (And.intro rfl (And.intro rfl (And.intro rfl (And.intro rfl True.intro)))))))) ⟨_, _, _, _, _, _, _, rfl, rfl, by omega, rfl⟩ (by omega)
          · intro c71
            refine And.intro ⟨rfl, by decide, by decide⟩ ?_
            refine fload1 rL_754_754_0_23_1_0 h0 hB65 ⟨by decide, by decide⟩ (by first | exact ⟨hb.2.2.2.2.2.2.1, Int.le_trans (Int.le_sub_one_of_lt (Int.lt_of_lt_of_le c43 uz41)) (by decide)⟩ | omega) ?_
            intro z72 lz72 uz72 qz72
            refine And.intro (And.intro (by first | exact fi_ lz72 uz72 rfl | omega) (by first | exact fi_ hb.2.1.1 hb.2.1.2 rfl | omega)) (And.intro ?_ ?_)
            · intro c73
              exact fcutJ (I := IhB65) (j := jc_M_rounds_3e399_152) (lv' := [(0, .inr (.inr (some 740))), (1, .inl _), (2, .inl _), (3, .inl _), (4, .inl _), (5, .inl _), (6, .inl _), (7, .inl _)]) (And.intro rfl (And.intro rfl (And.intro rfl (And.intro rfl (And.intro rfl (And.intro rfl (And.intro rfl (And.intro rfl True.intro)))))))) ⟨_, _, _, _, _, _, _, rfl, rfl, by omega, rfl⟩ (by omega)
            · intro c74
              exact fcutJ (I := IhB65) (j := jc_M_rounds_3e399_152) (lv' := [(0, .inr (.inr (some 740))), (1, .inl _), (2, .inl _), (3, .inl _), (4, .inl _), (5, .inl _), (6, .inl _), (7, .inl _)]) (And.intro rfl (And.intro rfl (And.intro rfl (And.intro rfl (And.intro rfl (And.intro rfl (And.intro rfl (And.intro rfl True.intro)))))))) ⟨_, _, _, _, _, _, _, rfl, rfl, by omega, rfl⟩ (by omega)
  · have hB0 := fB_self (zn := znJ) (K := fKc wz_e4773) h0
    exact fcutJ (I := I) (j := jc_M_rounds_3e399_3) (lv' := [(0, .inr (.inr (some 740))), (1, .inl _), (2, .inl _), (3, .inl _), (4, .inl _), (5, .inl _)]) (And.intro rfl (And.intro rfl (And.intro rfl (And.intro rfl (And.intro rfl (And.intro rfl True.intro)))))) ⟨_, _, _, _, _, rfl, rfl, by omega, rfl⟩ (by omega)
set_option maxRecDepth 8000 in
theorem ct_M_lack_9f82b {I : fH} {x1 : Int} {x2 : Int} (h0 : fB bsJ I) (ha1 : ((-2147483648) ≤ x1 ∧ x1 ≤ 2147483647)) (ha2 : ((-2147483648) ≤ x2 ∧ x2 ≤ 2147483647)) : fC ρ base n F xTc vwCl xTys D dA la gJ (fbz bsJ znJ (fKc wz_e4773) I) xm_454 [.inr (.inr (some 740)), .inl x1, .inl x2] I (fun _ r => ∃ z, r = some (.inl z) ∧ ((0 ≤ z ∧ z ≤ 2147483647) ∨ z = (-1000000005) ∨ z = (-1000000001))) := by
  have hW : fzs wz_e4773 (fKc wz_e4773) := fKc_ok _
  refine f_meth (rb := rbJ) (J := []) 1 400 xG xin_454 x6_454 okJ (fB_self h0) ?_ ?_
  · exact fun q h => absurd h List.not_mem_nil
  · have hB0 := fB_self (zn := znJ) (K := fKc wz_e4773) h0
    refine And.intro (by first | exact fi_ ha1.1 ha1.2 rfl | omega) ?_
    refine Exists.intro xm_238 (And.intro mi_238 (And.intro ⟨rfl, rfl, rfl, rfl⟩ (And.intro True.intro ?_)))
    refine fcallp hB0 (ct_M_isIn_27230 (fBz h0 hB0) (by first | exact ⟨ha1.1, ha1.2⟩ | omega) (by first | exact ⟨by decide, by decide⟩ | omega) (by first | exact ⟨by decide, by decide⟩ | omega)) ?_
    rintro _ ⟨z1, rfl, hz1⟩
    refine And.intro (by omega) (And.intro ?_ ?_)
    · intro c2
      refine And.intro (True.intro) ?_
      exact ⟨_, rfl, by omega⟩
    · intro c3
      refine And.intro (by first | exact fi_ ha2.1 ha2.2 rfl | omega) ?_
      refine Exists.intro xm_238 (And.intro mi_238 (And.intro ⟨rfl, rfl, rfl, rfl⟩ (And.intro True.intro ?_)))
      refine fcallp hB0 (ct_M_isIn_27230 (fBz h0 hB0) (by first | exact ⟨ha2.1, ha2.2⟩ | omega) (by first | exact ⟨by decide, by decide⟩ | omega) (by first | exact ⟨by decide, by decide⟩ | omega)) ?_
      rintro _ ⟨z4, rfl, hz4⟩
      refine And.intro (by omega) (And.intro ?_ ?_)
      · intro c5
        refine And.intro (True.intro) ?_
        exact ⟨_, rfl, by omega⟩
      · intro c6
        refine Exists.intro xm_455 (And.intro mi_455 (And.intro ⟨rfl, rfl, rfl, rfl⟩ (And.intro rfl ?_)))
        refine fcall _ h0 (fzs_sub (by decide +kernel) hW) hB0 (ct_M_rounds_3e399 (fBz h0 hB0) (by first | exact ⟨Int.le_trans (by decide) (Int.le_trans (Int.le_refl _) hz1.1), Int.le_trans (Int.le_trans hz1.2 (Int.le_refl _)) (by decide)⟩ | omega) (by first | exact ⟨Int.le_trans (by decide) (Int.le_trans (Int.le_refl _) hz4.1), Int.le_trans (Int.le_trans hz4.2 (Int.le_refl _)) (by decide)⟩ | omega) (by first | exact ⟨by decide, by decide⟩ | omega) (by first | exact ⟨by decide, by decide⟩ | omega)) ?_
        rintro IhB8 _ hB8 fhB8 ⟨z7, rfl, hz7⟩
        refine Exists.intro xm_269 (And.intro mi_269 (And.intro ⟨rfl, rfl, rfl, rfl⟩ (And.intro True.intro ?_)))
        refine fcallp hB8 (ct_M_orNone_a2a87 (fBz h0 hB8) (by first | exact ⟨Int.le_trans (by decide) hz7.1, Int.le_trans hz7.2 (by decide)⟩ | omega)) ?_
        rintro _ ⟨z9, rfl, hz9⟩
        refine And.intro (True.intro) ?_
        exact ⟨_, rfl, by omega⟩
set_option maxRecDepth 8000 in
theorem ct_X_sewn_05190 {I : fH} {x1 : Int} {x2 : Int} {x3 : Int} {x4 : Int} (h0 : fB bsJ I) (ha1 : ((-2147483648) ≤ x1 ∧ x1 ≤ 2147483647)) (ha2 : ((-2147483648) ≤ x2 ∧ x2 ≤ 2147483647)) (ha3 : ((-2147483648) ≤ x3 ∧ x3 ≤ 2147483647)) (ha4 : ((-2147483648) ≤ x4 ∧ x4 ≤ 2147483647)) : fC ρ base n F xTc vwCl xTys D dA la gJ (fbz bsJ znJ (fKc wz_81562) I) xm_185 [.inr (.inr (some 0)), .inl x1, .inl x2, .inl x3, .inl x4] I (fun _ r => ∃ z, r = some (.inl z) ∧ ((-2147483648) ≤ z ∧ z ≤ 2147483647)) := by
  have hW : fzs wz_81562 (fKc wz_81562) := fKc_ok _
  refine f_meth (rb := rbJ) (J := []) 1 400 xG xin_185 x6_185 okJ (fB_self h0) ?_ ?_
  · exact fun q h => absurd h List.not_mem_nil
  · have hB0 := fB_self (zn := znJ) (K := fKc wz_81562) h0
    refine Exists.intro xm_13 (And.intro mi_13 (And.intro ⟨rfl, rfl, rfl, rfl⟩ (And.intro True.intro ?_)))
    refine fcallp hB0 (ct_X_within_c27b1 (fBz h0 hB0) (by first | exact ⟨ha1.1, ha1.2⟩ | omega) (by first | exact ⟨by decide, by decide⟩ | omega) (by first | exact ⟨by decide, by decide⟩ | omega)) ?_
    rintro _ ⟨z1, rfl, hz1⟩
    refine And.intro (by omega) (And.intro ?_ ?_)
    · intro c2
      refine And.intro (True.intro) ?_
      exact ⟨_, rfl, (by first | exact ⟨by decide, by decide⟩ | omega)⟩
    · intro c3
      refine Exists.intro xm_13 (And.intro mi_13 (And.intro ⟨rfl, rfl, rfl, rfl⟩ (And.intro True.intro ?_)))
      refine fcallp hB0 (ct_X_within_c27b1 (fBz h0 hB0) (by first | exact ⟨ha2.1, ha2.2⟩ | omega) (by first | exact ⟨by decide, by decide⟩ | omega) (by first | exact ⟨by decide, by decide⟩ | omega)) ?_
      rintro _ ⟨z4, rfl, hz4⟩
      refine And.intro (by omega) (And.intro ?_ ?_)
      · intro c5
        refine And.intro (True.intro) ?_
        exact ⟨_, rfl, (by first | exact ⟨by decide, by decide⟩ | omega)⟩
      · intro c6
        refine And.intro ⟨rfl, by decide, by decide⟩ ?_
        refine Exists.intro xm_45 (And.intro mi_45 (And.intro ⟨rfl, rfl, rfl, rfl⟩ (And.intro rfl ?_)))
        refine fcallp hB0 (ct_City_isWork_11526 (fBz h0 hB0) (by first | exact ⟨ha3.1, ha3.2⟩ | omega)) ?_
        rintro _ ⟨z7, rfl, hz7⟩
        refine And.intro (by omega) (And.intro ?_ ?_)
        · intro c8
          refine And.intro (True.intro) ?_
          exact ⟨_, rfl, (by first | exact ⟨by decide, by decide⟩ | omega)⟩
        · intro c9
          refine Exists.intro xm_13 (And.intro mi_13 (And.intro ⟨rfl, rfl, rfl, rfl⟩ (And.intro True.intro ?_)))
          refine fcallp hB0 (ct_X_within_c27b1 (fBz h0 hB0) (by first | exact ⟨ha4.1, ha4.2⟩ | omega) (by first | exact ⟨by decide, by decide⟩ | omega) (by omega)) ?_
          rintro _ ⟨z10, rfl, hz10⟩
          refine And.intro (by omega) (And.intro ?_ ?_)
          · intro c11
            refine And.intro ⟨rfl, by decide, by decide⟩ ?_
            refine And.intro ⟨rfl, by decide, by decide⟩ ?_
            refine And.intro ⟨rfl, by decide, by decide⟩ ?_
            refine Exists.intro xm_178 (And.intro mi_178 (And.intro ⟨rfl, rfl, rfl, rfl⟩ (And.intro rfl ?_)))
            refine fcall _ h0 (fzs_sub (by decide +kernel) hW) hB0 (ct_Rounds_goRound_589d9 (fBz h0 hB0) (by first | exact ⟨Int.le_trans (by decide) (Int.le_trans (Int.le_refl _) hz1.1), Int.le_trans (Int.le_trans hz1.2 (Int.le_refl _)) (by decide)⟩ | omega) (by first | exact ⟨Int.le_trans (by decide) (Int.le_trans (Int.le_refl _) hz4.1), Int.le_trans (Int.le_trans hz4.2 (Int.le_refl _)) (by decide)⟩ | omega) (by omega) (by omega)) ?_
            rintro IhB13 _ hB13 fhB13 rfl
            refine And.intro ⟨rfl, by decide, by decide⟩ ?_
            refine And.intro ⟨rfl, by decide, by decide⟩ (fgetf fb_727_1 h0 hB13 ?_)
            intro z14 lz14 uz14 qz14
            refine And.intro (True.intro) ?_
            exact ⟨_, rfl, (by first | exact ⟨lz14, uz14⟩ | omega)⟩
          · intro c15
            refine And.intro (True.intro) ?_
            exact ⟨_, rfl, (by first | exact ⟨by decide, by decide⟩ | omega)⟩
set_option maxRecDepth 8000 in
theorem ct_M_sewn_6ebad {I : fH} {x1 : Int} {x2 : Int} {x3 : Int} {x4 : Int} (h0 : fB bsJ I) (ha1 : ((-2147483648) ≤ x1 ∧ x1 ≤ 2147483647)) (ha2 : ((-2147483648) ≤ x2 ∧ x2 ≤ 2147483647)) (ha3 : ((-2147483648) ≤ x3 ∧ x3 ≤ 2147483647)) (ha4 : ((-2147483648) ≤ x4 ∧ x4 ≤ 2147483647)) : fC ρ base n F xTc vwCl xTys D dA la gJ (fbz bsJ znJ (fKc wz_e4773) I) xm_461 [.inr (.inr (some 740)), .inl x1, .inl x2, .inl x3, .inl x4] I (fun _ r => ∃ z, r = some (.inl z) ∧ ((-2147483648) ≤ z ∧ z ≤ 2147483647)) := by
  have hW : fzs wz_e4773 (fKc wz_e4773) := fKc_ok _
  refine f_meth (rb := rbJ) (J := []) 1 400 xG xin_461 x6_461 okJ (fB_self h0) ?_ ?_
  · exact fun q h => absurd h List.not_mem_nil
  · have hB0 := fB_self (zn := znJ) (K := fKc wz_e4773) h0
    refine And.intro (by first | exact fi_ ha1.1 ha1.2 rfl | omega) ?_
    refine Exists.intro xm_238 (And.intro mi_238 (And.intro ⟨rfl, rfl, rfl, rfl⟩ (And.intro True.intro ?_)))
    refine fcallp hB0 (ct_M_isIn_27230 (fBz h0 hB0) (by first | exact ⟨ha1.1, ha1.2⟩ | omega) (by first | exact ⟨by decide, by decide⟩ | omega) (by first | exact ⟨by decide, by decide⟩ | omega)) ?_
    rintro _ ⟨z1, rfl, hz1⟩
    refine And.intro (by omega) (And.intro ?_ ?_)
    · intro c2
      refine And.intro (True.intro) ?_
      exact ⟨_, rfl, (by first | exact ⟨by decide, by decide⟩ | omega)⟩
    · intro c3
      refine And.intro (by first | exact fi_ ha2.1 ha2.2 rfl | omega) ?_
      refine Exists.intro xm_238 (And.intro mi_238 (And.intro ⟨rfl, rfl, rfl, rfl⟩ (And.intro True.intro ?_)))
      refine fcallp hB0 (ct_M_isIn_27230 (fBz h0 hB0) (by first | exact ⟨ha2.1, ha2.2⟩ | omega) (by first | exact ⟨by decide, by decide⟩ | omega) (by first | exact ⟨by decide, by decide⟩ | omega)) ?_
      rintro _ ⟨z4, rfl, hz4⟩
      refine And.intro (by omega) (And.intro ?_ ?_)
      · intro c5
        refine And.intro (True.intro) ?_
        exact ⟨_, rfl, (by first | exact ⟨by decide, by decide⟩ | omega)⟩
      · intro c6
        refine Exists.intro xm_266 (And.intro mi_266 (And.intro ⟨rfl, rfl, rfl, rfl⟩ (And.intro rfl ?_)))
        refine fcallp hB0 (ct_M_isWork_a0fef (fBz h0 hB0) (by first | exact ⟨ha3.1, ha3.2⟩ | omega)) ?_
        rintro _ ⟨z7, rfl, hz7⟩
        refine And.intro (by omega) (And.intro ?_ ?_)
        · intro c8
          refine And.intro (True.intro) ?_
          exact ⟨_, rfl, (by first | exact ⟨by decide, by decide⟩ | omega)⟩
        · intro c9
          refine And.intro (by first | exact fi_ ha4.1 ha4.2 rfl | omega) ?_
          refine And.intro (by omega) ?_
          refine Exists.intro xm_238 (And.intro mi_238 (And.intro ⟨rfl, rfl, rfl, rfl⟩ (And.intro True.intro ?_)))
          refine fcallp hB0 (ct_M_isIn_27230 (fBz h0 hB0) (by first | exact ⟨ha4.1, ha4.2⟩ | omega) (by first | exact ⟨by decide, by decide⟩ | omega) (by omega)) ?_
          rintro _ ⟨z10, rfl, hz10⟩
          refine And.intro (by omega) (And.intro ?_ ?_)
          · intro c11
            refine Exists.intro xm_455 (And.intro mi_455 (And.intro ⟨rfl, rfl, rfl, rfl⟩ (And.intro rfl ?_)))
            refine fcall _ h0 (fzs_sub (by decide +kernel) hW) hB0 (ct_M_rounds_3e399 (fBz h0 hB0) (by first | exact ⟨Int.le_trans (by decide) (Int.le_trans (Int.le_refl _) hz1.1), Int.le_trans (Int.le_trans hz1.2 (Int.le_refl _)) (by decide)⟩ | omega) (by first | exact ⟨Int.le_trans (by decide) (Int.le_trans (Int.le_refl _) hz4.1), Int.le_trans (Int.le_trans hz4.2 (Int.le_refl _)) (by decide)⟩ | omega) (by omega) (by omega)) ?_
            rintro IhB13 _ hB13 fhB13 ⟨z12, rfl, hz12⟩
            refine And.intro ⟨rfl, by decide, by decide⟩ (fgetf fb_740_29 h0 hB13 ?_)
            intro z14 lz14 uz14 qz14
            refine And.intro (True.intro) ?_
            exact ⟨_, rfl, (by first | exact ⟨lz14, uz14⟩ | omega)⟩
          · intro c15
            refine And.intro (True.intro) ?_
            exact ⟨_, rfl, (by first | exact ⟨by decide, by decide⟩ | omega)⟩
set_option maxRecDepth 8000 in
theorem ct_X_swap_dabbb {I : fH} {x1 : Int} {x2 : Int} (h0 : fB bsJ I) (ha1 : (0 ≤ x1 ∧ x1 ≤ 3)) (ha2 : (0 ≤ x2 ∧ x2 ≤ 99)) : fC ρ base n F xTc vwCl xTys D dA la gJ (fbz bsJ znJ (fKc wz_2a2bc) I) xm_18 [.inr (.inr (some 223)), .inl x1, .inl x2] I (fun I' r => ∃ z, r = some (.inl z) ∧ (0 ≤ z ∧ z ≤ 99) ∧ (I' = fupd I 223 x1.toNat x2) ∧ (z = I 223 x1.toNat)) := by
  have hW : fzs wz_2a2bc (fKc wz_2a2bc) := fKc_ok _
  refine f_meth (rb := rbJ) (J := []) 1 400 xG xin_18 x6_18 okJ (fB_self h0) ?_ ?_
  · exact fun q h => absurd h List.not_mem_nil
  · have hB0 := fB_self (zn := znJ) (K := fKc wz_2a2bc) h0
    refine fload1 rL_223_223_0_3_1_0 h0 hB0 ⟨by decide, by decide⟩ (by first | exact ⟨ha1.1, ha1.2⟩ | omega) ?_
    intro z1 lz1 uz1 qz1
    refine fstore1 rS_223_223_0_3_1_0 (fzs_sub (by decide +kernel) hW) ⟨by decide, by decide⟩ (by first | exact ⟨ha1.1, ha1.2⟩ | omega) (by first | exact ⟨ha2.1, ha2.2⟩ | omega) ?_
    intro IhB2 ehB2 hB2
    have t3 := fup_self ehB2
    refine And.intro (True.intro) ?_
    exact ⟨_, rfl, (by first | exact ⟨lz1, uz1⟩ | omega), ehB2, qz1⟩
set_option maxRecDepth 8000 in
theorem ct_X_takes_78459 {I : fH} {x1 : Int} {x2 : Int} (h0 : fB bsJ I) (ha1 : ((-2147483648) ≤ x1 ∧ x1 ≤ 2147483647)) (ha2 : ((-2147483648) ≤ x2 ∧ x2 ≤ 2147483647)) : fC ρ base n F xTc vwCl xTys D dA la gJ (fbz bsJ znJ (fKc wz_2a2bc) I) xm_186 [.inr (.inr (some 0)), .inl x1, .inl x2] I (fun I' r => ∃ z, r = some (.inl z) ∧ ((0 ≤ z ∧ z ≤ 99) ∨ z = (-1000000001)) ∧ (((0 ≤ x1 ∧ x1 ≤ 3 ∧ 0 ≤ x2 ∧ x2 ≤ 99) ∧ I' = fupd I 223 x1.toNat x2 ∧ z = I 223 x1.toNat) ∨ (¬ (0 ≤ x1 ∧ x1 ≤ 3 ∧ 0 ≤ x2 ∧ x2 ≤ 99) ∧ I' = I ∧ z = (-1000000001)))) := by
  have hW : fzs wz_2a2bc (fKc wz_2a2bc) := fKc_ok _
  refine f_meth (rb := rbJ) (J := []) 1 400 xG xin_186 x6_186 okJ (fB_self h0) ?_ ?_
  · exact fun q h => absurd h List.not_mem_nil
  · have hB0 := fB_self (zn := znJ) (K := fKc wz_2a2bc) h0
    refine Exists.intro xm_13 (And.intro mi_13 (And.intro ⟨rfl, rfl, rfl, rfl⟩ (And.intro True.intro ?_)))
    refine fcallp hB0 (ct_X_within_c27b1 (fBz h0 hB0) (by first | exact ⟨ha1.1, ha1.2⟩ | omega) (by first | exact ⟨by decide, by decide⟩ | omega) (by first | exact ⟨by decide, by decide⟩ | omega)) ?_
    rintro _ ⟨z1, rfl, hz1⟩
    refine And.intro (by omega) (And.intro ?_ ?_)
    · intro c2
      refine And.intro (True.intro) ?_
      exact ⟨_, rfl, by omega, (by first | exact Or.inl ⟨by omega, g0nil0, g1nil0⟩ | exact Or.inr ⟨by omega, rfl, by omega⟩)⟩
    · intro c3
      refine Exists.intro xm_13 (And.intro mi_13 (And.intro ⟨rfl, rfl, rfl, rfl⟩ (And.intro True.intro ?_)))
      refine fcallp hB0 (ct_X_within_c27b1 (fBz h0 hB0) (by first | exact ⟨ha2.1, ha2.2⟩ | omega) (by first | exact ⟨by decide, by decide⟩ | omega) (by first | exact ⟨by decide, by decide⟩ | omega)) ?_
      rintro _ ⟨z4, rfl, hz4⟩
      refine And.intro (by omega) (And.intro ?_ ?_)
      · intro c5
        refine And.intro (True.intro) ?_
        exact ⟨_, rfl, by omega, (by first | exact Or.inl ⟨by omega, g0nil0, g1nil0⟩ | exact Or.inr ⟨by omega, rfl, by omega⟩)⟩
      · intro c6
        refine And.intro ⟨rfl, by decide, by decide⟩ ?_
        refine And.intro ⟨rfl, by decide, by decide⟩ ?_
        refine Exists.intro xm_18 (And.intro mi_18 (And.intro ⟨rfl, rfl, rfl, rfl⟩ (And.intro True.intro ?_)))
        refine fcall _ h0 (fzs_sub (by decide +kernel) hW) hB0 (ct_X_swap_dabbb (fBz h0 hB0) (by first | exact ⟨Int.le_trans (by decide) (Int.le_trans (Int.le_refl _) hz1.1), Int.le_trans (Int.le_trans hz1.2 (Int.le_refl _)) (by decide)⟩ | omega) (by first | exact ⟨Int.le_trans (by decide) (Int.le_trans (Int.le_refl _) hz4.1), Int.le_trans (Int.le_trans hz4.2 (Int.le_refl _)) (by decide)⟩ | omega)) ?_
        rintro IhB8 _ hB8 fhB8 ⟨z7, rfl, hz7, g0z7, g1z7⟩
        refine And.intro (True.intro) ?_
        exact ⟨_, rfl, by omega, (by first | exact Or.inl ⟨by omega, g0z7, g1z7⟩ | exact Or.inr ⟨by omega, rfl, by omega⟩)⟩
set_option maxRecDepth 8000 in
theorem ct_M_put_e8087 {I : fH} {x1 : Int} {x2 : Int} (h0 : fB bsJ I) (ha1 : (4560 ≤ x1 ∧ x1 ≤ 4563)) (ha2 : (0 ≤ x2 ∧ x2 ≤ 99)) : fC ρ base n F xTc vwCl xTys D dA la gJ (fbz bsJ znJ (fKc wz_0a5ca) I) xm_242 [.inr (.inr (some 740)), .inl x1, .inl x2] I (fun I' r => ∃ z, r = some (.inl z) ∧ (0 ≤ z ∧ z ≤ 99) ∧ (I' = fupd I 741 x1.toNat x2) ∧ (z = I 741 x1.toNat)) := by
  have hW : fzs wz_0a5ca (fKc wz_0a5ca) := fKc_ok _
  refine f_meth (rb := rbJ) (J := []) 1 400 xG xin_242 x6_242 okJ (fB_self h0) ?_ ?_
  · exact fun q h => absurd h List.not_mem_nil
  · have hB0 := fB_self (zn := znJ) (K := fKc wz_0a5ca) h0
    refine And.intro ⟨rfl, by decide, by decide⟩ ?_
    refine fload1 rL_741_741_4560_4563_1_0 h0 hB0 ⟨by decide, by decide⟩ (by first | exact ⟨ha1.1, ha1.2⟩ | omega) ?_
    intro z1 lz1 uz1 qz1
    refine And.intro ⟨rfl, by decide, by decide⟩ ?_
    refine fstore1 rS_741_741_4560_4563_1_0 (fzs_sub (by decide +kernel) hW) ⟨by decide, by decide⟩ (by first | exact ⟨ha1.1, ha1.2⟩ | omega) (by first | exact ⟨ha2.1, ha2.2⟩ | omega) ?_
    intro IhB2 ehB2 hB2
    have t3 := fup_self ehB2
    refine And.intro (True.intro) ?_
    exact ⟨_, rfl, (by first | exact ⟨lz1, uz1⟩ | omega), ehB2, qz1⟩
set_option maxRecDepth 8000 in
theorem ct_M_takes_3be66 {I : fH} {x1 : Int} {x2 : Int} (h0 : fB bsJ I) (ha1 : ((-2147483648) ≤ x1 ∧ x1 ≤ 2147483647)) (ha2 : ((-2147483648) ≤ x2 ∧ x2 ≤ 2147483647)) : fC ρ base n F xTc vwCl xTys D dA la gJ (fbz bsJ znJ (fKc wz_0a5ca) I) xm_462 [.inr (.inr (some 740)), .inl x1, .inl x2] I (fun I' r => ∃ z, r = some (.inl z) ∧ ((0 ≤ z ∧ z ≤ 99) ∨ z = (-1000000001)) ∧ (((0 ≤ x1 ∧ x1 ≤ 3 ∧ 0 ≤ x2 ∧ x2 ≤ 99) ∧ I' = fupd I 741 (4560 + x1).toNat x2 ∧ z = I 741 (4560 + x1).toNat) ∨ (¬ (0 ≤ x1 ∧ x1 ≤ 3 ∧ 0 ≤ x2 ∧ x2 ≤ 99) ∧ I' = I ∧ z = (-1000000001)))) := by
  have hW : fzs wz_0a5ca (fKc wz_0a5ca) := fKc_ok _
  refine f_meth (rb := rbJ) (J := []) 1 400 xG xin_462 x6_462 okJ (fB_self h0) ?_ ?_
  · exact fun q h => absurd h List.not_mem_nil
  · have hB0 := fB_self (zn := znJ) (K := fKc wz_0a5ca) h0
    refine And.intro (by first | exact fi_ ha1.1 ha1.2 rfl | omega) ?_
    refine Exists.intro xm_238 (And.intro mi_238 (And.intro ⟨rfl, rfl, rfl, rfl⟩ (And.intro True.intro ?_)))
    refine fcallp hB0 (ct_M_isIn_27230 (fBz h0 hB0) (by first | exact ⟨ha1.1, ha1.2⟩ | omega) (by first | exact ⟨by decide, by decide⟩ | omega) (by first | exact ⟨by decide, by decide⟩ | omega)) ?_
    rintro _ ⟨z1, rfl, hz1⟩
    refine And.intro (by omega) (And.intro ?_ ?_)
    · intro c2
      refine And.intro (True.intro) ?_
      exact ⟨_, rfl, by omega, (by first | exact Or.inl ⟨by omega, g0nil0.trans (fupd_ix (by omega)), g1nil0.trans (fld_ix (by omega))⟩ | exact Or.inr ⟨by omega, rfl, by omega⟩)⟩
    · intro c3
      refine And.intro (by first | exact fi_ ha2.1 ha2.2 rfl | omega) ?_
      refine Exists.intro xm_238 (And.intro mi_238 (And.intro ⟨rfl, rfl, rfl, rfl⟩ (And.intro True.intro ?_)))
      refine fcallp hB0 (ct_M_isIn_27230 (fBz h0 hB0) (by first | exact ⟨ha2.1, ha2.2⟩ | omega) (by first | exact ⟨by decide, by decide⟩ | omega) (by first | exact ⟨by decide, by decide⟩ | omega)) ?_
      rintro _ ⟨z4, rfl, hz4⟩
      refine And.intro (by omega) (And.intro ?_ ?_)
      · intro c5
        refine And.intro (True.intro) ?_
        exact ⟨_, rfl, by omega, (by first | exact Or.inl ⟨by omega, g0nil0.trans (fupd_ix (by omega)), g1nil0.trans (fld_ix (by omega))⟩ | exact Or.inr ⟨by omega, rfl, by omega⟩)⟩
      · intro c6
        refine Exists.intro xm_242 (And.intro mi_242 (And.intro ⟨rfl, rfl, rfl, rfl⟩ (And.intro rfl ?_)))
        refine fcall _ h0 (fzs_sub (by decide +kernel) hW) hB0 (ct_M_put_e8087 (fBz h0 hB0) (by omega) (by first | exact ⟨Int.le_trans (by decide) (Int.le_trans (Int.le_refl _) hz4.1), Int.le_trans (Int.le_trans hz4.2 (Int.le_refl _)) (by decide)⟩ | omega)) ?_
        rintro IhB8 _ hB8 fhB8 ⟨z7, rfl, hz7, g0z7, g1z7⟩
        refine And.intro (True.intro) ?_
        exact ⟨_, rfl, by omega, (by first | exact Or.inl ⟨by omega, g0z7.trans (fupd_ix (by omega)), g1z7.trans (fld_ix (by omega))⟩ | exact Or.inr ⟨by omega, rfl, by omega⟩)⟩
set_option maxRecDepth 8000 in
theorem ct_X_swap_baf7c {I : fH} {x0 : Nat} {x1 : Int} {x2 : Int} (h0 : fB bsJ I) (ha0 : (225 ≤ x0 ∧ x0 ≤ 248)) (ha1 : (0 ≤ x1 ∧ x1 ≤ 3)) (ha2 : (0 ≤ x2 ∧ x2 ≤ 999)) : fC ρ base n F xTc vwCl xTys D dA la gJ (fbz bsJ znJ (fKc wz_e3030) I) xm_18 [.inr (.inr (some x0)), .inl x1, .inl x2] I (fun I' r => ∃ z, r = some (.inl z) ∧ (0 ≤ z ∧ z ≤ 999) ∧ (I' = fupd I x0 x1.toNat x2) ∧ (z = I x0 x1.toNat)) := by
  have hW : fzs wz_e3030 (fKc wz_e3030) := fKc_ok _
  refine f_meth (rb := rbJ) (J := []) 1 400 xG xin_18 x6_18 okJ (fB_self h0) ?_ ?_
  · exact fun q h => absurd h List.not_mem_nil
  · have hB0 := fB_self (zn := znJ) (K := fKc wz_e3030) h0
    refine fload rL_225_248_0_3_1_0 h0 hB0 (by omega) ?_
    intro z1 lz1 uz1 qz1
    refine fstore rS_225_248_0_3_1_0 (fzs_sub (by decide +kernel) hW) (by omega) (by first | exact ⟨ha2.1, ha2.2⟩ | omega) ?_
    intro IhB2 ehB2 hB2
    have t3 := fup_self ehB2
    refine And.intro (True.intro) ?_
    exact ⟨_, rfl, (by first | exact ⟨lz1, uz1⟩ | omega), ehB2, qz1⟩
set_option maxRecDepth 8000 in
theorem ct_X_harm_aee5c {I : fH} {x1 : Int} {x2 : Int} {x3 : Int} (h0 : fB bsJ I) (ha1 : ((-2147483648) ≤ x1 ∧ x1 ≤ 2147483647)) (ha2 : ((-2147483648) ≤ x2 ∧ x2 ≤ 2147483647)) (ha3 : ((-2147483648) ≤ x3 ∧ x3 ≤ 2147483647)) : fC ρ base n F xTc vwCl xTys D dA la gJ (fbz bsJ znJ (fKc wz_e3030) I) xm_187 [.inr (.inr (some 0)), .inl x1, .inl x2, .inl x3] I (fun I' r => ∃ z, r = some (.inl z) ∧ ((0 ≤ z ∧ z ≤ 999) ∨ z = (-1000000001)) ∧ (((0 ≤ x1 ∧ x1 ≤ 23 ∧ 0 ≤ x2 ∧ x2 ≤ 3 ∧ 0 ≤ x3 ∧ x3 ≤ 999) ∧ I' = fupd I (225 + x1.toNat) x2.toNat x3 ∧ z = I (225 + x1.toNat) x2.toNat) ∨ (¬ (0 ≤ x1 ∧ x1 ≤ 23 ∧ 0 ≤ x2 ∧ x2 ≤ 3 ∧ 0 ≤ x3 ∧ x3 ≤ 999) ∧ I' = I ∧ z = (-1000000001)))) := by
  have hW : fzs wz_e3030 (fKc wz_e3030) := fKc_ok _
  refine f_meth (rb := rbJ) (J := []) 1 400 xG xin_187 x6_187 okJ (fB_self h0) ?_ ?_
  · exact fun q h => absurd h List.not_mem_nil
  · have hB0 := fB_self (zn := znJ) (K := fKc wz_e3030) h0
    refine Exists.intro xm_13 (And.intro mi_13 (And.intro ⟨rfl, rfl, rfl, rfl⟩ (And.intro True.intro ?_)))
    refine fcallp hB0 (ct_X_within_c27b1 (fBz h0 hB0) (by first | exact ⟨ha1.1, ha1.2⟩ | omega) (by first | exact ⟨by decide, by decide⟩ | omega) (by first | exact ⟨by decide, by decide⟩ | omega)) ?_
    rintro _ ⟨z1, rfl, hz1⟩
    refine And.intro (by omega) (And.intro ?_ ?_)
    · intro c2
      refine And.intro (True.intro) ?_
      exact ⟨_, rfl, by omega, (by first | exact Or.inl ⟨by omega, g0nil0, g1nil0⟩ | exact Or.inr ⟨by omega, rfl, by omega⟩)⟩
    · intro c3
      refine Exists.intro xm_13 (And.intro mi_13 (And.intro ⟨rfl, rfl, rfl, rfl⟩ (And.intro True.intro ?_)))
      refine fcallp hB0 (ct_X_within_c27b1 (fBz h0 hB0) (by first | exact ⟨ha2.1, ha2.2⟩ | omega) (by first | exact ⟨by decide, by decide⟩ | omega) (by first | exact ⟨by decide, by decide⟩ | omega)) ?_
      rintro _ ⟨z4, rfl, hz4⟩
      refine And.intro (by omega) (And.intro ?_ ?_)
      · intro c5
        refine And.intro (True.intro) ?_
        exact ⟨_, rfl, by omega, (by first | exact Or.inl ⟨by omega, g0nil0, g1nil0⟩ | exact Or.inr ⟨by omega, rfl, by omega⟩)⟩
      · intro c6
        refine Exists.intro xm_13 (And.intro mi_13 (And.intro ⟨rfl, rfl, rfl, rfl⟩ (And.intro True.intro ?_)))
        refine fcallp hB0 (ct_X_within_c27b1 (fBz h0 hB0) (by first | exact ⟨ha3.1, ha3.2⟩ | omega) (by first | exact ⟨by decide, by decide⟩ | omega) (by first | exact ⟨by decide, by decide⟩ | omega)) ?_
        rintro _ ⟨z7, rfl, hz7⟩
        refine And.intro (by omega) (And.intro ?_ ?_)
        · intro c8
          refine And.intro ⟨rfl, by decide, by decide⟩ ?_
          refine And.intro ⟨rfl, by decide, by decide⟩ ?_
          refine And.intro ⟨rfl, by decide⟩ (And.intro (by first | exact ⟨Int.le_trans (by decide) (Int.le_trans (Int.le_refl _) hz1.1), Int.lt_of_le_of_lt (Int.le_trans hz1.2 (Int.le_refl _)) (by decide)⟩ | omega) ?_)
          refine Exists.intro xm_18 (And.intro mi_18 (And.intro ⟨rfl, rfl, rfl, rfl⟩ (And.intro True.intro ?_)))
          refine fcall _ h0 (fzs_sub (by decide +kernel) hW) hB0 (ct_X_swap_baf7c (fBz h0 hB0) (by omega) (by first | exact ⟨Int.le_trans (by decide) (Int.le_trans (Int.le_refl _) hz4.1), Int.le_trans (Int.le_trans hz4.2 (Int.le_refl _)) (by decide)⟩ | omega) (by first | exact ⟨Int.le_trans (by decide) (Int.le_trans (Int.le_refl _) hz7.1), Int.le_trans (Int.le_trans hz7.2 (Int.le_refl _)) (by decide)⟩ | omega)) ?_
          rintro IhB10 _ hB10 fhB10 ⟨z9, rfl, hz9, g0z9, g1z9⟩
          refine And.intro (True.intro) ?_
          exact ⟨_, rfl, by omega, (by first | exact Or.inl ⟨by omega, g0z9, g1z9⟩ | exact Or.inr ⟨by omega, rfl, by omega⟩)⟩
        · intro c11
          refine And.intro (True.intro) ?_
          exact ⟨_, rfl, by omega, (by first | exact Or.inl ⟨by omega, g0z9, g1z9⟩ | exact Or.inr ⟨by omega, rfl, by omega⟩)⟩
set_option maxRecDepth 8000 in
theorem ct_M_put_68ae5 {I : fH} {x1 : Int} {x2 : Int} (h0 : fB bsJ I) (ha1 : ((4570 ≤ x1 ∧ x1 ≤ 4665) ∧ (x1 - 4570) % 4 ≤ 3)) (ha2 : (0 ≤ x2 ∧ x2 ≤ 999)) : fC ρ base n F xTc vwCl xTys D dA la gJ (fbz bsJ znJ (fKc wz_ad4fa) I) xm_242 [.inr (.inr (some 740)), .inl x1, .inl x2] I (fun I' r => ∃ z, r = some (.inl z) ∧ (0 ≤ z ∧ z ≤ 999) ∧ (I' = fupd I 741 x1.toNat x2) ∧ (z = I 741 x1.toNat)) := by
  have hW : fzs wz_ad4fa (fKc wz_ad4fa) := fKc_ok _
  refine f_meth (rb := rbJ) (J := []) 1 400 xG xin_242 x6_242 okJ (fB_self h0) ?_ ?_
  · exact fun q h => absurd h List.not_mem_nil
  · have hB0 := fB_self (zn := znJ) (K := fKc wz_ad4fa) h0
    refine And.intro ⟨rfl, by decide, by decide⟩ ?_
    refine fload rL_741_741_4570_4665_4_3 h0 hB0 (by omega) ?_
    intro z1 lz1 uz1 qz1
    refine And.intro ⟨rfl, by decide, by decide⟩ ?_
    refine fstore rS_741_741_4570_4665_4_3 (fzs_sub (by decide +kernel) hW) (by omega) (by first | exact ⟨ha2.1, ha2.2⟩ | omega) ?_
    intro IhB2 ehB2 hB2
    have t3 := fup_self ehB2
    refine And.intro (True.intro) ?_
    exact ⟨_, rfl, (by first | exact ⟨lz1, uz1⟩ | omega), ehB2, qz1⟩
set_option maxRecDepth 8000 in
theorem ct_M_harm_249d0 {I : fH} {x1 : Int} {x2 : Int} {x3 : Int} (h0 : fB bsJ I) (ha1 : ((-2147483648) ≤ x1 ∧ x1 ≤ 2147483647)) (ha2 : ((-2147483648) ≤ x2 ∧ x2 ≤ 2147483647)) (ha3 : ((-2147483648) ≤ x3 ∧ x3 ≤ 2147483647)) : fC ρ base n F xTc vwCl xTys D dA la gJ (fbz bsJ znJ (fKc wz_ad4fa) I) xm_463 [.inr (.inr (some 740)), .inl x1, .inl x2, .inl x3] I (fun I' r => ∃ z, r = some (.inl z) ∧ ((0 ≤ z ∧ z ≤ 999) ∨ z = (-1000000001)) ∧ (((0 ≤ x1 ∧ x1 ≤ 23 ∧ 0 ≤ x2 ∧ x2 ≤ 3 ∧ 0 ≤ x3 ∧ x3 ≤ 999) ∧ I' = fupd I 741 (4570 + 4 * x1 + x2).toNat x3 ∧ z = I 741 (4570 + 4 * x1 + x2).toNat) ∨ (¬ (0 ≤ x1 ∧ x1 ≤ 23 ∧ 0 ≤ x2 ∧ x2 ≤ 3 ∧ 0 ≤ x3 ∧ x3 ≤ 999) ∧ I' = I ∧ z = (-1000000001)))) := by
  have hW : fzs wz_ad4fa (fKc wz_ad4fa) := fKc_ok _
  refine f_meth (rb := rbJ) (J := []) 1 400 xG xin_463 x6_463 okJ (fB_self h0) ?_ ?_
  · exact fun q h => absurd h List.not_mem_nil
  · have hB0 := fB_self (zn := znJ) (K := fKc wz_ad4fa) h0
    refine And.intro (by first | exact fi_ ha1.1 ha1.2 rfl | omega) ?_
    refine Exists.intro xm_238 (And.intro mi_238 (And.intro ⟨rfl, rfl, rfl, rfl⟩ (And.intro True.intro ?_)))
    refine fcallp hB0 (ct_M_isIn_27230 (fBz h0 hB0) (by first | exact ⟨ha1.1, ha1.2⟩ | omega) (by first | exact ⟨by decide, by decide⟩ | omega) (by first | exact ⟨by decide, by decide⟩ | omega)) ?_
    rintro _ ⟨z1, rfl, hz1⟩
    refine And.intro (by omega) (And.intro ?_ ?_)
    · intro c2
      refine And.intro (True.intro) ?_
      exact ⟨_, rfl, by omega, (by first | exact Or.inl ⟨by omega, g0nil0.trans (fupd_ix (by omega)), g1nil0.trans (fld_ix (by omega))⟩ | exact Or.inr ⟨by omega, rfl, by omega⟩)⟩
    · intro c3
      refine And.intro (by first | exact fi_ ha2.1 ha2.2 rfl | omega) ?_
      refine Exists.intro xm_238 (And.intro mi_238 (And.intro ⟨rfl, rfl, rfl, rfl⟩ (And.intro True.intro ?_)))
      refine fcallp hB0 (ct_M_isIn_27230 (fBz h0 hB0) (by first | exact ⟨ha2.1, ha2.2⟩ | omega) (by first | exact ⟨by decide, by decide⟩ | omega) (by first | exact ⟨by decide, by decide⟩ | omega)) ?_
      rintro _ ⟨z4, rfl, hz4⟩
      refine And.intro (by omega) (And.intro ?_ ?_)
      · intro c5
        refine And.intro (True.intro) ?_
        exact ⟨_, rfl, by omega, (by first | exact Or.inl ⟨by omega, g0nil0.trans (fupd_ix (by omega)), g1nil0.trans (fld_ix (by omega))⟩ | exact Or.inr ⟨by omega, rfl, by omega⟩)⟩
      · intro c6
        refine And.intro (by first | exact fi_ ha3.1 ha3.2 rfl | omega) ?_
        refine Exists.intro xm_238 (And.intro mi_238 (And.intro ⟨rfl, rfl, rfl, rfl⟩ (And.intro True.intro ?_)))
        refine fcallp hB0 (ct_M_isIn_27230 (fBz h0 hB0) (by first | exact ⟨ha3.1, ha3.2⟩ | omega) (by first | exact ⟨by decide, by decide⟩ | omega) (by first | exact ⟨by decide, by decide⟩ | omega)) ?_
        rintro _ ⟨z7, rfl, hz7⟩
        refine And.intro (by omega) (And.intro ?_ ?_)
        · intro c8
          refine And.intro (True.intro) ?_
          exact ⟨_, rfl, by omega, (by first | exact Or.inl ⟨by omega, g0nil0.trans (fupd_ix (by omega)), g1nil0.trans (fld_ix (by omega))⟩ | exact Or.inr ⟨by omega, rfl, by omega⟩)⟩
        · intro c9
          refine Exists.intro xm_242 (And.intro mi_242 (And.intro ⟨rfl, rfl, rfl, rfl⟩ (And.intro rfl ?_)))
          refine fcall _ h0 (fzs_sub (by decide +kernel) hW) hB0 (ct_M_put_68ae5 (fBz h0 hB0) (by omega) (by first | exact ⟨Int.le_trans (by decide) (Int.le_trans (Int.le_refl _) hz7.1), Int.le_trans (Int.le_trans hz7.2 (Int.le_refl _)) (by decide)⟩ | omega)) ?_
          rintro IhB11 _ hB11 fhB11 ⟨z10, rfl, hz10, g0z10, g1z10⟩
          refine And.intro (True.intro) ?_
          exact ⟨_, rfl, by omega, (by first | exact Or.inl ⟨by omega, g0z10.trans (fupd_ix (by omega)), g1z10.trans (fld_ix (by omega))⟩ | exact Or.inr ⟨by omega, rfl, by omega⟩)⟩
abbrev jc_Dark_choose_7e957_10 (x2 : Int) (x3 : Int) (I0 : fH) : Nat → fL → List fV → fH → Prop := fun m lv st I => ∃ (y2 : Int) (y3 : Int) (y4 : Int) (y5 : Int) (y7 : Int), lv = [(0, .inr (.inr (some 732))), (1, .inr (.inr (some 211))), (2, .inl y2), (3, .inl y3), (4, .inl y4), (5, .inr (.inl y5)), (7, .inl y7)] ∧ st = [] ∧ (((0 ≤ y2 ∧ y2 ≤ 23) ∧ (0 ≤ y3 ∧ y3 ≤ 300) ∧ ((-2147483648) ≤ y4 ∧ y4 ≤ 2147483647) ∧ ((-9223372036854775808) ≤ y5 ∧ y5 ≤ 9223372036854775807) ∧ (0 ≤ y7 ∧ y7 ≤ 4) ∧ (y2 = x2) ∧ (y3 = x3)) ∧ (I = I0) ∧ ((y4, y5) = nf (dkF (I0 223) (I0 (225 + x2.toNat)) (fun j => (I0 733 j, I0 734 j)) x3) (-1000000005, 0) y7.toNat)) ∧ m = (1 + 1 * (4 - y7) : Int).toNat
set_option maxRecDepth 8000 in
theorem ct_Dark_choose_7e957 {I : fH} {x2 : Int} {x3 : Int} (h0 : fB bsJ I) (ha2 : (0 ≤ x2 ∧ x2 ≤ 23)) (ha3 : (0 ≤ x3 ∧ x3 ≤ 300)) (hp0 : ∀ j : Nat, (j : Int) ≤ x3 → (I 733 j = -1000000005 ∨ (0 ≤ I 733 j ∧ I 733 j ≤ 30000)) ∧ 0 ≤ I 734 j ∧ I 734 j < 70368744177664) : fC ρ base n F xTc vwCl xTys D dA la gJ (fbz bsJ znJ (fKc wz_61c55) I) xm_190 [.inr (.inr (some 732)), .inr (.inr (some 211)), .inl x2, .inl x3] I (fun I' r => r = none ∧ True ∧ (I' = fupd (fupd I 733 x3.toNat (nf (dkF (I 223) (I (225 + x2.toNat)) (fun j => (I 733 j, I 734 j)) x3) (-1000000005, 0) 4).1) 734 x3.toNat (nf (dkF (I 223) (I (225 + x2.toNat)) (fun j => (I 733 j, I 734 j)) x3) (-1000000005, 0) 4).2)) := by
  have hW : fzs wz_61c55 (fKc wz_61c55) := fKc_ok _
  refine f_meth (rb := rbJ) (J := [(10, (jc_Dark_choose_7e957_10 x2 x3 I))]) 6 400 xG xin_190 x6_190 okJ (fB_self h0) ?_ ?_
  · refine List.forall_mem_cons.mpr ⟨?_, fun q h => absurd h List.not_mem_nil⟩
    · rintro m _ _ I1 hB1 ⟨y2, y3, y4, y5, y7, rfl, rfl, ⟨hb, hx0, hx1⟩, hm⟩
      have ey3 : x3 = y3 := by omega
      subst ey3
      have ey2 : x2 = y2 := by omega
      subst ey2
      refine And.intro (And.intro (by first | exact fi_ hb.2.2.2.2.1.1 hb.2.2.2.2.1.2 rfl | omega) (by first | exact ⟨by decide, by decide⟩ | omega)) (And.intro ?_ ?_)
      · intro c1
        refine And.intro ⟨rfl, by decide, by decide⟩ ?_
        refine fstore1 rS_733_733_0_300_1_0 (fzs_sub (by decide +kernel) hW) ⟨by decide, by decide⟩ (by first | exact ⟨hb.2.1.1, hb.2.1.2⟩ | omega) (by first | exact ⟨hb.2.2.1.1, hb.2.2.1.2⟩ | omega) ?_
        intro IhB2 ehB2 hB2
        have t3 := fup_self ehB2
        refine And.intro ⟨rfl, by decide, by decide⟩ ?_
        refine fstore1 rS_734_734_0_300_1_0 (fzs_sub (by decide +kernel) hW) ⟨by decide, by decide⟩ (by first | exact ⟨hb.2.1.1, hb.2.1.2⟩ | omega) (by first | exact ⟨hb.2.2.2.1.1, hb.2.2.2.1.2⟩ | omega) ?_
        intro IhB4 ehB4 hB4
        have t5 := fup_self ehB4
        exact ⟨rfl, True.intro, (by have q := hx1; rw [show y7.toNat = 4 by omega] at q; rw [ehB4, ehB2, hx0, ← q])⟩
      · intro c6
        refine And.intro ⟨rfl, by decide, by decide⟩ ?_
        refine fload1 rL_223_223_0_3_1_0 h0 hB1 ⟨by decide, by decide⟩ (by first | exact ⟨hb.2.2.2.2.1.1, Int.le_trans (Int.le_sub_one_of_lt (Int.lt_of_lt_of_le c6 (Int.le_refl _))) (by decide)⟩ | omega) ?_
        intro z7 lz7 uz7 qz7
        rw [hx0] at qz7
        refine And.intro (by omega) (And.intro ?_ ?_)
        · intro c8
          exact fcutJ (I := I1) (j := (jc_Dark_choose_7e957_10 x2 x3 I)) (lv' := [(0, .inr (.inr (some 732))), (1, .inr (.inr (some 211))), (2, .inl _), (3, .inl _), (4, .inl _), (5, .inr (.inl _)), (7, .inl _)]) (And.intro rfl (And.intro rfl (And.intro rfl (And.intro rfl (And.intro rfl (And.intro rfl (And.intro rfl True.intro))))))) ⟨_, _, _, _, _, rfl, rfl, ⟨by omega, hx0, (by first | exact dk_yes hx1 (by omega) (by omega) qz7 qnil0 qnil0 qnil0 (by omega) (shl_or (by omega) (by omega) (by omega) enil0 enil0) (by omega) | exact dk_n1 hx1 (by omega) (by omega) qz7 (by omega) | exact dk_n2 hx1 (by omega) (by omega) qz7 qnil0 (by omega) | exact dk_n3 hx1 (by omega) (by omega) qz7 qnil0 qnil0 (by omega))⟩, rfl⟩ (by omega)
        · intro c9
          refine And.intro ⟨rfl, by decide, by decide⟩ ?_
          refine fload rL_733_733_0_300_1_0 h0 hB1 (by omega) ?_
          intro z10 lz10 uz10 qz10
          rw [hx0] at qz10
          have w38 := hp0 (x3 - z7).toNat (by omega)
          refine And.intro (And.intro (by first | exact fi_ lz10 uz10 rfl | omega) (by first | exact ⟨by decide, by decide⟩ | omega)) (And.intro ?_ ?_)
          · intro c11
            exact fcutJ (I := I1) (j := (jc_Dark_choose_7e957_10 x2 x3 I)) (lv' := [(0, .inr (.inr (some 732))), (1, .inr (.inr (some 211))), (2, .inl _), (3, .inl _), (4, .inl _), (5, .inr (.inl _)), (7, .inl _)]) (And.intro rfl (And.intro rfl (And.intro rfl (And.intro rfl (And.intro rfl (And.intro rfl (And.intro rfl True.intro))))))) ⟨_, _, _, _, _, rfl, rfl, ⟨by omega, hx0, (by first | exact dk_yes hx1 (by omega) (by omega) qz7 qnil0 qnil0 qnil0 (by omega) (shl_or (by omega) (by omega) (by omega) enil0 enil0) (by omega) | exact dk_n1 hx1 (by omega) (by omega) qz7 (by omega) | exact dk_n2 hx1 (by omega) (by omega) qz7 qz10 (by omega) | exact dk_n3 hx1 (by omega) (by omega) qz7 qnil0 qnil0 (by omega))⟩, rfl⟩ (by omega)
          · intro c12
            refine And.intro ⟨rfl, by decide, by decide⟩ ?_
            refine fload rL_733_733_0_300_1_0 h0 hB1 (by omega) ?_
            intro z13 lz13 uz13 qz13
            rw [hx0] at qz13
            refine And.intro ⟨rfl, by decide, by decide⟩ ?_
            refine And.intro ⟨rfl, by decide⟩ (And.intro (by first | exact ⟨hb.1.1, Int.lt_of_le_of_lt hb.1.2 (by decide)⟩ | omega) ?_)
            refine fload rL_225_248_0_3_1_0 h0 hB1 (by omega) ?_
            intro z14 lz14 uz14 qz14
            rw [hx0] at qz14
            intro z15 hz15 ez15 bz15
            try replace bz15 := bz15 (by omega)
            refine And.intro (And.intro (by first | exact fi_ hb.2.2.1.1 hb.2.2.1.2 rfl | omega) (by first | exact ⟨by decide, by decide⟩ | omega)) (And.intro ?_ ?_)
            · intro c16
              refine And.intro ⟨rfl, by decide, by decide⟩ ?_
              refine fload rL_734_734_0_300_1_0 h0 hB1 (by omega) ?_
              intro z17 lz17 uz17 qz17
              rw [hx0] at qz17
              intro z18 hz18 ez18
              refine And.intro (by first | exact fi_ hb.2.2.2.2.1.1 (Int.le_sub_one_of_lt (Int.lt_of_lt_of_le c6 (Int.le_refl _))) rfl | omega) ?_
              intro z19 hz19 ez19
              exact fcutJ (I := I1) (j := (jc_Dark_choose_7e957_10 x2 x3 I)) (lv' := [(0, .inr (.inr (some 732))), (1, .inr (.inr (some 211))), (2, .inl _), (3, .inl _), (4, .inl _), (5, .inr (.inl _)), (7, .inl _)]) (And.intro rfl (And.intro rfl (And.intro rfl (And.intro rfl (And.intro rfl (And.intro rfl (And.intro rfl True.intro))))))) ⟨_, _, _, _, _, rfl, rfl, ⟨by omega, hx0, (by first | exact dk_yes hx1 (by omega) (by omega) qz7 qz13 qz14 qz17 (by omega) (shl_or (by omega) (by omega) (by omega) ez18 ez19) (by omega) | exact dk_n1 hx1 (by omega) (by omega) qz7 (by omega) | exact dk_n2 hx1 (by omega) (by omega) qz7 qz10 (by omega) | exact dk_n3 hx1 (by omega) (by omega) qz7 qz13 qz14 (by omega))⟩, rfl⟩ (by omega)
            · intro c20
              refine And.intro (by omega) (And.intro ?_ ?_)
              · intro c21
                exact fcutJ (I := I1) (j := (jc_Dark_choose_7e957_10 x2 x3 I)) (lv' := [(0, .inr (.inr (some 732))), (1, .inr (.inr (some 211))), (2, .inl _), (3, .inl _), (4, .inl _), (5, .inr (.inl _)), (7, .inl _)]) (And.intro rfl (And.intro rfl (And.intro rfl (And.intro rfl (And.intro rfl (And.intro rfl (And.intro rfl True.intro))))))) ⟨_, _, _, _, _, rfl, rfl, ⟨by omega, hx0, (by first | exact dk_yes hx1 (by omega) (by omega) qz7 qz13 qz14 qz17 (by omega) (shl_or (by omega) (by omega) (by omega) ez18 ez19) (by omega) | exact dk_n1 hx1 (by omega) (by omega) qz7 (by omega) | exact dk_n2 hx1 (by omega) (by omega) qz7 qz10 (by omega) | exact dk_n3 hx1 (by omega) (by omega) qz7 qz13 qz14 (by omega))⟩, rfl⟩ (by omega)
              · intro c22
                refine And.intro ⟨rfl, by decide, by decide⟩ ?_
                refine fload rL_734_734_0_300_1_0 h0 hB1 (by omega) ?_
                intro z23 lz23 uz23 qz23
                rw [hx0] at qz23
                intro z24 hz24 ez24
                refine And.intro (by first | exact fi_ hb.2.2.2.2.1.1 (Int.le_sub_one_of_lt (Int.lt_of_lt_of_le c6 (Int.le_refl _))) rfl | omega) ?_
                intro z25 hz25 ez25
                exact fcutJ (I := I1) (j := (jc_Dark_choose_7e957_10 x2 x3 I)) (lv' := [(0, .inr (.inr (some 732))), (1, .inr (.inr (some 211))), (2, .inl _), (3, .inl _), (4, .inl _), (5, .inr (.inl _)), (7, .inl _)]) (And.intro rfl (And.intro rfl (And.intro rfl (And.intro rfl (And.intro rfl (And.intro rfl (And.intro rfl True.intro))))))) ⟨_, _, _, _, _, rfl, rfl, ⟨by omega, hx0, (by first | exact dk_yes hx1 (by omega) (by omega) qz7 qz13 qz14 qz23 (by omega) (shl_or (by omega) (by omega) (by omega) ez24 ez25) (by omega) | exact dk_n1 hx1 (by omega) (by omega) qz7 (by omega) | exact dk_n2 hx1 (by omega) (by omega) qz7 qz10 (by omega) | exact dk_n3 hx1 (by omega) (by omega) qz7 qz13 qz14 (by omega))⟩, rfl⟩ (by omega)
  · have hB0 := fB_self (zn := znJ) (K := fKc wz_61c55) h0
    exact fcutJ (I := I) (j := (jc_Dark_choose_7e957_10 x2 x3 I)) (lv' := [(0, .inr (.inr (some 732))), (1, .inr (.inr (some 211))), (2, .inl _), (3, .inl _), (4, .inl _), (5, .inr (.inl _)), (7, .inl _)]) (And.intro rfl (And.intro rfl (And.intro rfl (And.intro rfl (And.intro rfl (And.intro rfl (And.intro rfl True.intro))))))) ⟨_, _, _, _, _, rfl, rfl, ⟨by omega, rfl, rfl⟩, rfl⟩ (by omega)
abbrev jc_Dark_leastHarm_e9db9_3 (x2 : Int) (x3 : Int) : Nat → fL → List fV → fH → Prop := fun m lv st I => ∃ (y2 : Int) (y3 : Int) (y4 : Int), lv = [(0, .inr (.inr (some 732))), (1, .inr (.inr (some 211))), (2, .inl y2), (3, .inl y3), (4, .inl y4)] ∧ st = [] ∧ (((1 ≤ y2 ∧ y2 ≤ 24) ∧ (0 ≤ y3 ∧ y3 ≤ 300) ∧ (0 ≤ y4 ∧ y4 ≤ 301) ∧ (y2 = x2) ∧ (y3 = x3)) ∧ (∀ j : Nat, (j : Int) < y4 → I 733 j = 0 ∧ I 734 j = 0)) ∧ m = (7576 + 1 * (301 - y4) : Int).toNat
abbrev jc_Dark_leastHarm_e9db9_36 (x2 : Int) (x3 : Int) (I0 : fH) : Nat → fL → List fV → fH → Prop := fun m lv st I => ∃ (y3 : Int) (y4 : Int), lv = [(0, .inr (.inr (some 732))), (1, .inr (.inr (some 211))), (3, .inl y3), (4, .inl y4)] ∧ st = [] ∧ (((0 ≤ y3 ∧ y3 ≤ 300) ∧ ((-1) ≤ y4 ∧ y4 ≤ 23) ∧ (y3 = x3) ∧ (y4 < x2)) ∧ (∀ b : Nat, (b : Int) ≤ x3 → (I 733 b, I 734 b) = dkP (I0 223) (fun i => I0 (225 + i)) x2.toNat (x2 - 1 - y4).toNat b)) ∧ m = (303 + 303 * (y4 - (-1)) : Int).toNat
abbrev jc_Dark_leastHarm_e9db9_44 (x2 : Int) (x3 : Int) (I0 : fH) : Nat → fL → List fV → fH → Prop := fun m lv st I => ∃ (y3 : Int) (y4 : Int) (y5 : Int), lv = [(0, .inr (.inr (some 732))), (1, .inr (.inr (some 211))), (3, .inl y3), (4, .inl y4), (5, .inl y5)] ∧ st = [] ∧ (((0 ≤ y3 ∧ y3 ≤ 300) ∧ (0 ≤ y4 ∧ y4 ≤ 23) ∧ ((-1) ≤ y5 ∧ y5 ≤ 300) ∧ (y3 = x3) ∧ (y4 < x2)) ∧ (∀ b : Nat, (b : Int) ≤ x3 → y5 < (b : Int) → (I 733 b, I 734 b) = dkP (I0 223) (fun i => I0 (225 + i)) x2.toNat (x2 - y4).toNat b) ∧ (∀ b : Nat, (b : Int) ≤ y5 → (I 733 b, I 734 b) = dkP (I0 223) (fun i => I0 (225 + i)) x2.toNat (x2 - 1 - y4).toNat b)) ∧ m = (1 + 303 * (y4 - (-1)) + 1 * (y5 - (-1)) : Int).toNat
set_option maxRecDepth 8000 in
theorem ct_Dark_leastHarm_e9db9 {I : fH} {x2 : Int} {x3 : Int} (h0 : fB bsJ I) (ha2 : (1 ≤ x2 ∧ x2 ≤ 24)) (ha3 : (0 ≤ x3 ∧ x3 ≤ 300)) : fC ρ base n F xTc vwCl xTys D dA la gJ (fbz bsJ znJ (fKc wz_61c55) I) xm_189 [.inr (.inr (some 732)), .inr (.inr (some 211)), .inl x2, .inl x3] I (fun I' r => ∃ z, r = some (.inl z) ∧ ((-2147483648) ≤ z ∧ z ≤ 2147483647) ∧ ((I' 733 x3.toNat, I' 734 x3.toNat) = dkP (I 223) (fun i => I (225 + i)) x2.toNat x2.toNat x3.toNat) ∧ (z = I' 733 x3.toNat)) := by
  have hW : fzs wz_61c55 (fKc wz_61c55) := fKc_ok _
  refine f_meth (rb := rbJ) (J := [(3, (jc_Dark_leastHarm_e9db9_3 x2 x3)), (36, (jc_Dark_leastHarm_e9db9_36 x2 x3 I)), (44, (jc_Dark_leastHarm_e9db9_44 x2 x3 I))]) 7878 400 xG xin_189 x6_189 okJ (fB_self h0) ?_ ?_
  · refine List.forall_mem_cons.mpr ⟨?_, List.forall_mem_cons.mpr ⟨?_, List.forall_mem_cons.mpr ⟨?_, fun q h => absurd h List.not_mem_nil⟩⟩⟩
    · rintro m _ _ I1 hB1 ⟨y2, y3, y4, rfl, rfl, ⟨hb, hx0⟩, hm⟩
      refine And.intro (And.intro (by first | exact fi_ hb.2.2.1.1 hb.2.2.1.2 rfl | omega) (by first | exact fi_ hb.2.1.1 hb.2.1.2 rfl | omega)) (And.intro ?_ ?_)
      · intro c1
        exact fcutJ (I := I1) (j := (jc_Dark_leastHarm_e9db9_36 x2 x3 I)) (lv' := [(0, .inr (.inr (some 732))), (1, .inr (.inr (some 211))), (3, .inl _), (4, .inl _)]) (And.intro rfl (And.intro rfl (And.intro rfl (And.intro rfl True.intro)))) ⟨_, _, rfl, rfl, ⟨by omega, (fun b h => dk_k0 (by omega) (hx0 b (by omega)).1 (hx0 b (by omega)).2)⟩, rfl⟩ (by omega)
      · intro c2
        refine And.intro ⟨rfl, by decide, by decide⟩ ?_
        refine fstore1 rS_733_733_0_300_1_0 (fzs_sub (by decide +kernel) hW) ⟨by decide, by decide⟩ (by first | exact ⟨hb.2.2.1.1, Int.le_trans (Int.le_trans c2 hb.2.1.2) (by decide)⟩ | omega) (by first | exact ⟨by decide, by decide⟩ | omega) ?_
        intro IhB3 ehB3 hB3
        have t4 := fup_self ehB3
        refine And.intro ⟨rfl, by decide, by decide⟩ ?_
        refine fstore1 rS_734_734_0_300_1_0 (fzs_sub (by decide +kernel) hW) ⟨by decide, by decide⟩ (by first | exact ⟨hb.2.2.1.1, Int.le_trans (Int.le_trans c2 hb.2.1.2) (by decide)⟩ | omega) (by first | exact ⟨by decide, by decide⟩ | omega) ?_
        intro IhB5 ehB5 hB5
        have t6 := fup_self ehB5
        exact fcutJ (I := IhB5) (j := (jc_Dark_leastHarm_e9db9_3 x2 x3)) (lv' := [(0, .inr (.inr (some 732))), (1, .inr (.inr (some 211))), (2, .inl _), (3, .inl _), (4, .inl _)]) (And.intro rfl (And.intro rfl (And.intro rfl (And.intro rfl (And.intro rfl True.intro))))) ⟨_, _, _, rfl, rfl, ⟨by omega, (fun j h => if ej : j = y4.toNat then (by rw [ej]; exact ⟨(fup_other ehB5 733 _ (Or.inl (by decide))).trans (fup_self ehB3), fup_self ehB5⟩) else ⟨(fup_other ehB5 733 j (Or.inl (by decide))).trans ((fup_other ehB3 733 j (Or.inr ej)).trans (hx0 j (by omega)).1), (fup_other ehB5 734 j (Or.inr ej)).trans ((fup_other ehB3 734 j (Or.inl (by decide))).trans (hx0 j (by omega)).2)⟩)⟩, rfl⟩ (by omega)
    · rintro m _ _ I1 hB1 ⟨y3, y4, rfl, rfl, ⟨hb, hx0⟩, hm⟩
      refine And.intro (by first | exact fi_ hb.2.1.1 hb.2.1.2 rfl | omega) (And.intro ?_ ?_)
      · intro c7
        refine And.intro ⟨rfl, by decide, by decide⟩ ?_
        refine fload1 rL_733_733_0_300_1_0 h0 hB1 ⟨by decide, by decide⟩ (by first | exact ⟨hb.1.1, hb.1.2⟩ | omega) ?_
        intro z8 lz8 uz8 qz8
        refine And.intro (True.intro) ?_
        exact ⟨_, rfl, (by first | exact ⟨lz8, uz8⟩ | omega), (dk_cast (hx0 x3.toNat (by omega)) (by omega)), (fld_at qz8 x3.toNat (by omega))⟩
      · intro c9
        exact fcutJ (I := I1) (j := (jc_Dark_leastHarm_e9db9_44 x2 x3 I)) (lv' := [(0, .inr (.inr (some 732))), (1, .inr (.inr (some 211))), (3, .inl _), (4, .inl _), (5, .inl _)]) (And.intro rfl (And.intro rfl (And.intro rfl (And.intro rfl (And.intro rfl True.intro))))) ⟨_, _, _, rfl, rfl, ⟨by omega, (fun b h h2 => absurd h2 (by omega)), (fun b h => hx0 b (by omega))⟩, rfl⟩ (by omega)
    · rintro m _ _ I1 hB1 ⟨y3, y4, y5, rfl, rfl, ⟨hb, hx0, hx1⟩, hm⟩
      refine And.intro (by first | exact fi_ hb.2.2.1.1 hb.2.2.1.2 rfl | omega) (And.intro ?_ ?_)
      · intro c10
        exact fcutJ (I := I1) (j := (jc_Dark_leastHarm_e9db9_36 x2 x3 I)) (lv' := [(0, .inr (.inr (some 732))), (1, .inr (.inr (some 211))), (3, .inl _), (4, .inl _)]) (And.intro rfl (And.intro rfl (And.intro rfl (And.intro rfl True.intro)))) ⟨_, _, rfl, rfl, ⟨by omega, (fun b h => dk_cast (hx0 b h (by omega)) (by omega))⟩, rfl⟩ (by omega)
      · intro c11
        refine Exists.intro xm_190 (And.intro mi_190 (And.intro ⟨rfl, rfl, rfl, rfl⟩ (And.intro rfl ?_)))
        refine fcall _ h0 (fzs_sub (by decide +kernel) hW) hB1 (ct_Dark_choose_7e957 (fBz h0 hB1) (by first | exact ⟨hb.2.1.1, hb.2.1.2⟩ | omega) (by first | exact ⟨Int.le_trans (by decide) (Int.le_trans (Int.le_refl _) c11), hb.2.2.1.2⟩ | omega) (fun j hj => ch_pre (hx1 j hj) (dk_bd (by omega) (fun i l hi hl => by have q := (frL_at rL_225_248_0_3_1_0 h0 (a := 225 + i) (i := (l : Int)) (by omega)).2; rw [Int.toNat_natCast] at q; exact q) _ _) (by omega))) ?_
        rintro IhB13 _ hB13 fhB13 ⟨rfl, hz12, g0z12⟩
        exact fcutJ (I := IhB13) (j := (jc_Dark_leastHarm_e9db9_44 x2 x3 I)) (lv' := [(0, .inr (.inr (some 732))), (1, .inr (.inr (some 211))), (3, .inl _), (4, .inl _), (5, .inl _)]) (And.intro rfl (And.intro rfl (And.intro rfl (And.intro rfl (And.intro rfl True.intro))))) ⟨_, _, _, rfl, rfl, ⟨by omega, (fun b h h2 => if eb : b = y5.toNat then (by rw [eb]; exact (ch_eq g0z12).trans (dk_next (fun l hl => fFr_at (fFr_of hB1) 223 (by decide +kernel) rfl l) (fun l hl => (fFr_rows (fFr_of hB1) (r := 225) (m := 24) (len := 4) (by decide +kernel) y4.toNat l (by omega) hl).trans (by rw [show x2.toNat - 1 - (x2 - 1 - y4).toNat = y4.toNat by omega])) (fun t t1 t2 => hx1 t.toNat (by omega)) (fun l hl => by have q := (frL_at rL_223_223_0_3_1_0 h0 (a := 223) (i := (l : Int)) (by omega)).2.1; rw [Int.toNat_natCast] at q; exact q) (by omega) (by omega))) else (ch_ne g0z12 eb).trans (hx0 b h (by omega))), (fun b h => (ch_ne g0z12 (by omega)).trans (hx1 b (by omega)))⟩, rfl⟩ (by omega)
  · have hB0 := fB_self (zn := znJ) (K := fKc wz_61c55) h0
    exact fcutJ (I := I) (j := (jc_Dark_leastHarm_e9db9_3 x2 x3)) (lv' := [(0, .inr (.inr (some 732))), (1, .inr (.inr (some 211))), (2, .inl _), (3, .inl _), (4, .inl _)]) (And.intro rfl (And.intro rfl (And.intro rfl (And.intro rfl (And.intro rfl True.intro))))) ⟨_, _, _, rfl, rfl, ⟨by omega, (fun j h => absurd h (by omega))⟩, rfl⟩ (by omega)
set_option maxRecDepth 8000 in
theorem ct_X_dark_f8010 {I : fH} {x1 : Int} {x2 : Int} (h0 : fB bsJ I) (ha1 : ((-2147483648) ≤ x1 ∧ x1 ≤ 2147483647)) (ha2 : ((-2147483648) ≤ x2 ∧ x2 ≤ 2147483647)) : fC ρ base n F xTc vwCl xTys D dA la gJ (fbz bsJ znJ (fKc wz_61c55) I) xm_188 [.inr (.inr (some 0)), .inl x1, .inl x2] I (fun _ r => ∃ z, r = some (.inl z) ∧ ((-2147483648) ≤ z ∧ z ≤ 2147483647) ∧ (((1 ≤ x1 ∧ x1 ≤ 24 ∧ 0 ≤ x2 ∧ x2 ≤ 300) ∧ z = (dkP (I 223) (fun i => I (225 + i)) x1.toNat x1.toNat x2.toNat).1) ∨ (¬ (1 ≤ x1 ∧ x1 ≤ 24 ∧ 0 ≤ x2 ∧ x2 ≤ 300) ∧ z = (-1000000001)))) := by
  have hW : fzs wz_61c55 (fKc wz_61c55) := fKc_ok _
  refine f_meth (rb := rbJ) (J := []) 1 400 xG xin_188 x6_188 okJ (fB_self h0) ?_ ?_
  · exact fun q h => absurd h List.not_mem_nil
  · have hB0 := fB_self (zn := znJ) (K := fKc wz_61c55) h0
    refine Exists.intro xm_13 (And.intro mi_13 (And.intro ⟨rfl, rfl, rfl, rfl⟩ (And.intro True.intro ?_)))
    refine fcallp hB0 (ct_X_within_c27b1 (fBz h0 hB0) (by first | exact ⟨ha1.1, ha1.2⟩ | omega) (by first | exact ⟨by decide, by decide⟩ | omega) (by first | exact ⟨by decide, by decide⟩ | omega)) ?_
    rintro _ ⟨z1, rfl, hz1⟩
    refine And.intro (by omega) (And.intro ?_ ?_)
    · intro c2
      refine And.intro (True.intro) ?_
      exact ⟨_, rfl, (by first | exact ⟨by decide, by decide⟩ | omega), (by first | exact Or.inl ⟨by omega, g1nil0.trans (congrArg Prod.fst g0nil0)⟩ | exact Or.inr ⟨by omega, by omega⟩)⟩
    · intro c3
      refine Exists.intro xm_13 (And.intro mi_13 (And.intro ⟨rfl, rfl, rfl, rfl⟩ (And.intro True.intro ?_)))
      refine fcallp hB0 (ct_X_within_c27b1 (fBz h0 hB0) (by first | exact ⟨ha2.1, ha2.2⟩ | omega) (by first | exact ⟨by decide, by decide⟩ | omega) (by first | exact ⟨by decide, by decide⟩ | omega)) ?_
      rintro _ ⟨z4, rfl, hz4⟩
      refine And.intro (by omega) (And.intro ?_ ?_)
      · intro c5
        refine And.intro ⟨rfl, by decide, by decide⟩ ?_
        refine And.intro ⟨rfl, by decide, by decide⟩ ?_
        refine Exists.intro xm_189 (And.intro mi_189 (And.intro ⟨rfl, rfl, rfl, rfl⟩ (And.intro rfl ?_)))
        refine fcall _ h0 (fzs_sub (by decide +kernel) hW) hB0 (ct_Dark_leastHarm_e9db9 (fBz h0 hB0) (by first | exact ⟨Int.le_trans (by decide) (Int.le_trans (Int.le_refl _) hz1.1), Int.le_trans (Int.le_trans hz1.2 (Int.le_refl _)) (by decide)⟩ | omega) (by first | exact ⟨Int.le_trans (by decide) (Int.le_trans (Int.le_refl _) hz4.1), Int.le_trans (Int.le_trans hz4.2 (Int.le_refl _)) (by decide)⟩ | omega)) ?_
        rintro IhB7 _ hB7 fhB7 ⟨z6, rfl, hz6, g0z6, g1z6⟩
        refine And.intro (True.intro) ?_
        exact ⟨_, rfl, (by first | exact ⟨hz6.1, hz6.2⟩ | omega), (by first | exact Or.inl ⟨by omega, g1z6.trans (congrArg Prod.fst g0z6)⟩ | exact Or.inr ⟨by omega, by omega⟩)⟩
      · intro c8
        refine And.intro (True.intro) ?_
        exact ⟨_, rfl, (by first | exact ⟨by decide, by decide⟩ | omega), (by first | exact Or.inl ⟨by omega, g1z6.trans (congrArg Prod.fst g0z6)⟩ | exact Or.inr ⟨by omega, by omega⟩)⟩
set_option maxRecDepth 8000 in
theorem ct_M_harmBy_4eb55 {I : fH} {x1 : Int} {x2 : Int} {x3 : Int} (h0 : fB bsJ I) (ha1 : (0 ≤ x1 ∧ x1 ≤ 23)) (ha2 : (0 ≤ x2 ∧ x2 ≤ 300)) (ha3 : (0 ≤ x3 ∧ x3 ≤ 3)) : fC ρ base n F xTc vwCl xTys D dA la gJ (fbz bsJ znJ (fKc []) I) xm_467 [.inr (.inr (some 740)), .inl x1, .inl x2, .inl x3] I (fun _ r => ∃ z, r = some (.inl z) ∧ (((-2147483648) ≤ z ∧ z ≤ 2147483647) ∧ (0 ≤ z ∧ z ≤ 1000000)) ∧ (z = hbv I x1 x2 x3)) := by
  have hW : fzs [] (fKc []) := fKc_ok _
  refine f_meth (rb := rbJ) (J := []) 1 400 xG xin_467 x6_467 okJ (fB_self h0) ?_ ?_
  · exact fun q h => absurd h List.not_mem_nil
  · have hB0 := fB_self (zn := znJ) (K := fKc []) h0
    refine And.intro ⟨rfl, by decide, by decide⟩ ?_
    intro z1 hz1 ez1 bz1
    clear ez1
    have bz1 := bz1 (by omega)
    refine fload rL_741_741_4560_4563_1_0 h0 hB0 (by omega) ?_
    intro z2 lz2 uz2 qz2
    have w10 := fld_at qz2 (4560 + x3).toNat (by omega)
    intro z3 hz3 ez3 bz3
    clear ez3
    have bz3 := bz3 (by omega)
    refine And.intro (by omega) (And.intro ?_ ?_)
    · intro c4
      refine And.intro ⟨rfl, by decide, by decide⟩ ?_
      intro z5 hz5 ez5 bz5
      clear ez5
      have bz5 := bz5 (by omega)
      refine fload rL_741_741_4570_4665_1_0 h0 hB0 (by omega) ?_
      intro z6 lz6 uz6 qz6
      have w41 := fld_at qz6 (4570 + 4 * x1 + x3).toNat (by omega)
      refine And.intro ⟨rfl, by decide, by decide⟩ ?_
      intro z7 hz7 ez7 bz7
      clear ez7
      have bz7 := bz7 (by omega)
      refine fload rL_756_756_0_7524_1_0 h0 hB0 (by omega) ?_
      intro z8 lz8 uz8 qz8
      have w56 := fld_at qz8 (301 * (x1 + 1) + (x2 - I 741 (4560 + x3).toNat)).toNat (by omega)
      intro z9 hz9 ez9 bz9
      clear ez9
      have bz9 := bz9 (by omega)
      refine Exists.intro xm_291 (And.intro mi_291 (And.intro ⟨rfl, rfl, rfl, rfl⟩ (And.intro True.intro ?_)))
      refine fcallp hB0 (ct_M_least_31c1d (fBz h0 hB0) (by first | exact ⟨by decide, by decide⟩ | omega) (by omega)) ?_
      rintro _ ⟨z10, rfl, hz10⟩
      refine And.intro (True.intro) ?_
      exact ⟨_, rfl, by omega, (by unfold hbv; split <;> first | omega | (split <;> omega))⟩
    · intro c11
      refine And.intro (True.intro) ?_
      exact ⟨_, rfl, by omega, (by unfold hbv; split <;> first | omega | (split <;> omega))⟩
abbrev jc_M_findLoads_1f96d_2 (x1 : Int) (x2 : Int) : Nat → fL → List fV → fH → Prop := fun m lv st I => ∃ (y1 : Int) (y2 : Int) (y3 : Int), lv = [(0, .inr (.inr (some 740))), (1, .inl y1), (2, .inl y2), (3, .inl y3)] ∧ st = [] ∧ (((1 ≤ y1 ∧ y1 ≤ 24) ∧ (0 ≤ y2 ∧ y2 ≤ 300) ∧ (0 ≤ y3 ∧ y3 ≤ 301) ∧ (y1 = x1) ∧ (y2 = x2)) ∧ (∀ b : Int, 0 ≤ b → b < y3 → I 756 (301 * x1 + b).toNat = 0)) ∧ m = (45326 + 1 * (301 - y3) : Int).toNat
abbrev jc_M_findLoads_1f96d_30 (x1 : Int) (x2 : Int) : Nat → fL → List fV → fH → Prop := fun m lv st I => ∃ (y2 : Int) (y3 : Int), lv = [(0, .inr (.inr (some 740))), (2, .inl y2), (3, .inl y3)] ∧ st = [] ∧ (((0 ≤ y2 ∧ y2 ≤ 300) ∧ ((-1) ≤ y3 ∧ y3 ≤ 23) ∧ (y2 = x2) ∧ (y3 < x1)) ∧ (∀ i b : Int, y3 < i → i < x1 → 0 ≤ b → b ≤ x2 → sLd I i b) ∧ (∀ b : Int, 0 ≤ b → b ≤ x2 → I 756 (301 * x1 + b).toNat = 0) ∧ (∀ i b l : Int, y3 < i → i < x1 → 0 ≤ b → b ≤ x2 → 0 ≤ l → l < 4 → I 756 (301 * i + b).toNat ≤ hbv I i b l)) ∧ m = (1813 + 1813 * (y3 - (-1)) : Int).toNat
abbrev jc_M_findLoads_1f96d_37 (x1 : Int) (x2 : Int) : Nat → fL → List fV → fH → Prop := fun m lv st I => ∃ (y2 : Int) (y3 : Int) (y4 : Int), lv = [(0, .inr (.inr (some 740))), (2, .inl y2), (3, .inl y3), (4, .inl y4)] ∧ st = [] ∧ (((0 ≤ y2 ∧ y2 ≤ 300) ∧ (0 ≤ y3 ∧ y3 ≤ 23) ∧ (0 ≤ y4 ∧ y4 ≤ 301) ∧ (y2 = x2) ∧ (y3 < x1)) ∧ (∀ i b : Int, y3 < i → i < x1 → 0 ≤ b → b ≤ x2 → sLd I i b) ∧ (∀ b : Int, 0 ≤ b → b < y4 → sLd I y3 b) ∧ (∀ b : Int, 0 ≤ b → b ≤ x2 → I 756 (301 * x1 + b).toNat = 0) ∧ (∀ i b l : Int, y3 < i → i < x1 → 0 ≤ b → b ≤ x2 → 0 ≤ l → l < 4 → I 756 (301 * i + b).toNat ≤ hbv I i b l) ∧ (∀ b l : Int, 0 ≤ b → b < y4 → 0 ≤ l → l < 4 → I 756 (301 * y3 + b).toNat ≤ hbv I y3 b l)) ∧ m = (6 + 1813 * (y3 - (-1)) + 6 * (301 - y4) : Int).toNat
abbrev jc_M_findLoads_1f96d_51 (x1 : Int) (x2 : Int) : Nat → fL → List fV → fH → Prop := fun m lv st I => ∃ (y2 : Int) (y3 : Int) (y4 : Int) (y5 : Int) (y6 : Int), lv = [(0, .inr (.inr (some 740))), (2, .inl y2), (3, .inl y3), (4, .inl y4), (5, .inl y5), (6, .inl y6)] ∧ st = [] ∧ (((0 ≤ y2 ∧ y2 ≤ 300) ∧ (0 ≤ y3 ∧ y3 ≤ 23) ∧ (0 ≤ y4 ∧ y4 ≤ 300) ∧ (0 ≤ y5 ∧ y5 ≤ 1000000) ∧ (0 ≤ y6 ∧ y6 ≤ 4) ∧ (y2 = x2) ∧ (y3 < x1)) ∧ (∀ i b : Int, y3 < i → i < x1 → 0 ≤ b → b ≤ x2 → sLd I i b) ∧ (∀ b : Int, 0 ≤ b → b < y4 → sLd I y3 b) ∧ (sBst I y3 y4 y5 y6) ∧ (∀ b : Int, 0 ≤ b → b ≤ x2 → I 756 (301 * x1 + b).toNat = 0) ∧ (∀ i b l : Int, y3 < i → i < x1 → 0 ≤ b → b ≤ x2 → 0 ≤ l → l < 4 → I 756 (301 * i + b).toNat ≤ hbv I i b l) ∧ (∀ b l : Int, 0 ≤ b → b < y4 → 0 ≤ l → l < 4 → I 756 (301 * y3 + b).toNat ≤ hbv I y3 b l) ∧ (∀ l : Int, 0 ≤ l → l < y6 → y5 ≤ hbv I y3 y4 l)) ∧ m = (1 + 1813 * (y3 - (-1)) + 6 * (301 - y4) + 1 * (4 - y6) : Int).toNat
set_option maxRecDepth 8000 in
theorem ct_M_findLoads_1f96d {I : fH} {x1 : Int} {x2 : Int} (h0 : fB bsJ I) (ha1 : (1 ≤ x1 ∧ x1 ≤ 24)) (ha2 : (0 ≤ x2 ∧ x2 ≤ 300)) : fC ρ base n F xTc vwCl xTys D dA la gJ (fbz bsJ znJ (fKc wz_ce28c) I) xm_466 [.inr (.inr (some 740)), .inl x1, .inl x2] I (fun I' r => ∃ z, r = some (.inl z) ∧ (0 ≤ z ∧ z ≤ 1000000) ∧ (∀ i b : Int, 0 ≤ i → i < x1 → 0 ≤ b → b ≤ x2 → sLd I' i b) ∧ (z = I' 756 x2.toNat) ∧ (dTb I' x1 x2)) := by
  have hW : fzs wz_ce28c (fKc wz_ce28c) := fKc_ok _
  refine f_meth (rb := rbJ) (J := [(2, (jc_M_findLoads_1f96d_2 x1 x2)), (30, (jc_M_findLoads_1f96d_30 x1 x2)), (37, (jc_M_findLoads_1f96d_37 x1 x2)), (51, (jc_M_findLoads_1f96d_51 x1 x2))]) 45628 400 xG xin_466 x6_466 okJ (fB_self h0) ?_ ?_
  · refine List.forall_mem_cons.mpr ⟨?_, List.forall_mem_cons.mpr ⟨?_, List.forall_mem_cons.mpr ⟨?_, List.forall_mem_cons.mpr ⟨?_, fun q h => absurd h List.not_mem_nil⟩⟩⟩⟩
    · rintro m _ _ I1 hB1 ⟨y1, y2, y3, rfl, rfl, ⟨hb, hx0⟩, hm⟩
      refine And.intro (And.intro (by first | exact fi_ hb.2.2.1.1 hb.2.2.1.2 rfl | omega) (by first | exact fi_ hb.2.1.1 hb.2.1.2 rfl | omega)) (And.intro ?_ ?_)
      · intro c1
        exact fcutJ (I := I1) (j := (jc_M_findLoads_1f96d_30 x1 x2)) (lv' := [(0, .inr (.inr (some 740))), (2, .inl _), (3, .inl _)]) (And.intro rfl (And.intro rfl (And.intro rfl True.intro))) ⟨_, _, rfl, rfl, ⟨by omega, (fun i b h1 h2 => absurd h1 (by omega)), (fun b h1 h2 => hx0 b h1 (by omega)), (fun i b l h1 h2 => absurd h1 (by omega))⟩, rfl⟩ (by omega)
      · intro c2
        refine And.intro ⟨rfl, by decide, by decide⟩ ?_
        refine fstore rS_756_756_0_7524_1_0 (fzs_sub (by decide +kernel) hW) (by omega) (by first | exact ⟨by decide, by decide⟩ | omega) ?_
        intro IhB3 ehB3 hB3
        have t4 := fup_self ehB3
        exact fcutJ (I := IhB3) (j := (jc_M_findLoads_1f96d_2 x1 x2)) (lv' := [(0, .inr (.inr (some 740))), (1, .inl _), (2, .inl _), (3, .inl _)]) (And.intro rfl (And.intro rfl (And.intro rfl (And.intro rfl True.intro)))) ⟨_, _, _, rfl, rfl, ⟨by omega, (fun b h1 h2 => if eb : b = y3 then (by rw [eb]; exact fup_at ehB3 _ (by omega)) else (fup_other ehB3 756 _ (Or.inr (by omega))).trans (hx0 b h1 (by omega)))⟩, rfl⟩ (by omega)
    · rintro m _ _ I1 hB1 ⟨y2, y3, rfl, rfl, ⟨hb, hx0, hx1, hx2⟩, hm⟩
      refine And.intro (by first | exact fi_ hb.2.1.1 hb.2.1.2 rfl | omega) (And.intro ?_ ?_)
      · intro c5
        refine And.intro ⟨rfl, by decide, by decide⟩ ?_
        refine fload1 rL_756_756_0_7524_1_0 h0 hB1 ⟨by decide, by decide⟩ (by first | exact ⟨hb.1.1, Int.le_trans hb.1.2 (by decide)⟩ | omega) ?_
        intro z6 lz6 uz6 qz6
        refine And.intro (True.intro) ?_
        exact ⟨_, rfl, (by first | exact ⟨lz6, uz6⟩ | omega), (fun i b h1 h2 h3 h4 => hx0 i b (by omega) (by omega) h3 (by omega)), (fld_at qz6 x2.toNat (by omega)), (⟨hx1, fun i b h1 h2 h3 h4 => hx0 i b (by omega) h2 h3 h4, fun i b l h1 h2 h3 h4 h5 h6 => hx2 i b l (by omega) h2 h3 h4 h5 h6⟩ : dTb _ _ _)⟩
      · intro c7
        exact fcutJ (I := I1) (j := (jc_M_findLoads_1f96d_37 x1 x2)) (lv' := [(0, .inr (.inr (some 740))), (2, .inl _), (3, .inl _), (4, .inl _)]) (And.intro rfl (And.intro rfl (And.intro rfl (And.intro rfl True.intro)))) ⟨_, _, _, rfl, rfl, ⟨by omega, hx0, (fun b h1 h2 => absurd h2 (by omega)), hx1, hx2, (fun b l h1 h2 => absurd h2 (by omega))⟩, rfl⟩ (by omega)
    · rintro m _ _ I1 hB1 ⟨y2, y3, y4, rfl, rfl, ⟨hb, hx0, hx1, hx2, hx3, hx4⟩, hm⟩
      refine And.intro (And.intro (by first | exact fi_ hb.2.2.1.1 hb.2.2.1.2 rfl | omega) (by first | exact fi_ hb.1.1 hb.1.2 rfl | omega)) (And.intro ?_ ?_)
      · intro c8
        exact fcutJ (I := I1) (j := (jc_M_findLoads_1f96d_30 x1 x2)) (lv' := [(0, .inr (.inr (some 740))), (2, .inl _), (3, .inl _)]) (And.intro rfl (And.intro rfl (And.intro rfl True.intro))) ⟨_, _, rfl, rfl, ⟨by omega, (fun i b h1 h2 h3 h4 => if ei : i = y3 then (by rw [ei]; exact hx1 b h3 (by omega)) else hx0 i b (by omega) h2 h3 h4), hx2, (fun i b l h1 h2 h3 h4 h5 h6 => if ei : i = y3 then (by rw [ei]; exact hx4 b l h3 (by omega) h5 h6) else hx3 i b l (by omega) h2 h3 h4 h5 h6)⟩, rfl⟩ (by omega)
      · intro c9
        exact fcutJ (I := I1) (j := (jc_M_findLoads_1f96d_51 x1 x2)) (lv' := [(0, .inr (.inr (some 740))), (2, .inl _), (3, .inl _), (4, .inl _), (5, .inl _), (6, .inl _)]) (And.intro rfl (And.intro rfl (And.intro rfl (And.intro rfl (And.intro rfl (And.intro rfl True.intro)))))) ⟨_, _, _, _, _, rfl, rfl, ⟨by omega, hx0, hx1, (sBst_0 (by omega) (by omega)), hx2, hx3, hx4, (fun l h1 h2 => absurd h2 (by omega))⟩, rfl⟩ (by omega)
    · rintro m _ _ I1 hB1 ⟨y2, y3, y4, y5, y6, rfl, rfl, ⟨hb, hx0, hx1, hx2, hx3, hx4, hx5, hx6⟩, hm⟩
      refine And.intro (And.intro (by first | exact fi_ hb.2.2.2.2.1.1 hb.2.2.2.2.1.2 rfl | omega) (by first | exact ⟨by decide, by decide⟩ | omega)) (And.intro ?_ ?_)
      · intro c10
        refine And.intro ⟨rfl, by decide, by decide⟩ ?_
        refine fstore rS_756_756_0_7524_1_0 (fzs_sub (by decide +kernel) hW) (by omega) (by first | exact ⟨hb.2.2.2.1.1, hb.2.2.2.1.2⟩ | omega) ?_
        intro IhB11 ehB11 hB11
        have t12 := fup_self ehB11
        exact fcutJ (I := IhB11) (j := (jc_M_findLoads_1f96d_37 x1 x2)) (lv' := [(0, .inr (.inr (some 740))), (2, .inl _), (3, .inl _), (4, .inl _)]) (And.intro rfl (And.intro rfl (And.intro rfl (And.intro rfl True.intro)))) ⟨_, _, _, rfl, rfl, ⟨by omega, (fun i b h1 h2 h3 h4 => ld_keep (i0 := y3) (b0 := y4) ehB11 (by omega) (by omega) (by omega) (by omega) (hx0 i b h1 h2 h3 h4)), (fun b h1 h2 => if eb : b = y4 then (by rw [eb]; exact ld_new ehB11 (by omega) (sBst_get hx2 (by omega))) else ld_keep (i0 := y3) (b0 := y4) ehB11 (by omega) (by omega) (by omega) (by omega) (hx1 b h1 (by omega))), (fun b h1 h2 => (fup_other ehB11 756 _ (Or.inr (by omega))).trans (hx3 b h1 h2)), (fun i b l h1 h2 h3 h4 h5 h6 => by rw [fup_other ehB11 756 (301 * i + b).toNat (Or.inr (by omega)), hbv_keep (i0 := y3) (b0 := y4) ehB11 (by omega) (by omega) l]; exact hx4 i b l h1 h2 h3 h4 h5 h6), (fun b l h1 h2 h5 h6 => if eb : b = y4 then (by rw [eb, fup_at ehB11 (301 * y3 + y4).toNat (by omega), hbv_keep (i0 := y3) (b0 := y4) ehB11 (by omega) (by omega) l]; exact hx6 l h5 (by omega)) else (by rw [fup_other ehB11 756 (301 * y3 + b).toNat (Or.inr (by omega)), hbv_keep (i0 := y3) (b0 := y4) ehB11 (by omega) (by omega) l]; exact hx5 b l h1 (by omega) h5 h6))⟩, rfl⟩ (by omega)
      · intro c13
        refine Exists.intro xm_467 (And.intro mi_467 (And.intro ⟨rfl, rfl, rfl, rfl⟩ (And.intro rfl ?_)))
        refine fcallp hB1 (ct_M_harmBy_4eb55 (fBz h0 hB1) (by first | exact ⟨hb.2.1.1, hb.2.1.2⟩ | omega) (by first | exact ⟨hb.2.2.1.1, hb.2.2.1.2⟩ | omega) (by first | exact ⟨hb.2.2.2.2.1.1, Int.le_trans (Int.le_sub_one_of_lt (Int.lt_of_lt_of_le c13 (Int.le_refl _))) (by decide)⟩ | omega)) ?_
        rintro _ ⟨z14, rfl, hz14, g0z14⟩
        refine Exists.intro xm_291 (And.intro mi_291 (And.intro ⟨rfl, rfl, rfl, rfl⟩ (And.intro True.intro ?_)))
        refine fcallp hB1 (ct_M_least_31c1d (fBz h0 hB1) (by first | exact ⟨Int.le_trans (by decide) hb.2.2.2.1.1, Int.le_trans hb.2.2.2.1.2 (by decide)⟩ | omega) (by first | exact ⟨hz14.1.1, hz14.1.2⟩ | omega)) ?_
        rintro _ ⟨z15, rfl, hz15⟩
        exact fcutJ (I := I1) (j := (jc_M_findLoads_1f96d_51 x1 x2)) (lv' := [(0, .inr (.inr (some 740))), (2, .inl _), (3, .inl _), (4, .inl _), (5, .inl _), (6, .inl _)]) (And.intro rfl (And.intro rfl (And.intro rfl (And.intro rfl (And.intro rfl (And.intro rfl True.intro)))))) ⟨_, _, _, _, _, rfl, rfl, ⟨by omega, hx0, hx1, (sBst_step hx2 g0z14 (by omega) (by omega) (by omega)), hx3, hx4, hx5, (fun l h1 h2 => if el : l = y6 then (by rw [el, ← g0z14]; omega) else (by have q := hx6 l h1 (by omega); omega))⟩, rfl⟩ (by omega)
  · have hB0 := fB_self (zn := znJ) (K := fKc wz_ce28c) h0
    exact fcutJ (I := I) (j := (jc_M_findLoads_1f96d_2 x1 x2)) (lv' := [(0, .inr (.inr (some 740))), (1, .inl _), (2, .inl _), (3, .inl _)]) (And.intro rfl (And.intro rfl (And.intro rfl (And.intro rfl True.intro)))) ⟨_, _, _, rfl, rfl, ⟨by omega, (fun b h1 h2 => absurd h2 (by omega))⟩, rfl⟩ (by omega)
set_option maxRecDepth 8000 in
theorem ct_M_isNight_38061 {I : fH} {x0 : Int} {x1 : Int} (h0 : fB bsJ I) (ha0 : ((-2147483648) ≤ x0 ∧ x0 ≤ 2147483647)) (ha1 : ((-2147483648) ≤ x1 ∧ x1 ≤ 2147483647)) : fC ρ base n F xTc vwCl xTys D dA la gJ (fbz bsJ znJ (fKc []) I) xm_465 [.inl x0, .inl x1] I (fun _ r => ∃ z, r = some (.inl z) ∧ (((z = 1 ∧ 1 ≤ x0 ∧ x0 ≤ 24 ∧ 0 ≤ x1 ∧ x1 ≤ 300) ∨ z = 0) ∧ (z = 0 → ¬ (1 ≤ x0 ∧ x0 ≤ 24 ∧ 0 ≤ x1 ∧ x1 ≤ 300)))) := by
  have hW : fzs [] (fKc []) := fKc_ok _
  refine f_meth (rb := rbJ) (J := []) 1 400 xG xin_465 x6_465 okJ (fB_self h0) ?_ ?_
  · exact fun q h => absurd h List.not_mem_nil
  · have hB0 := fB_self (zn := znJ) (K := fKc []) h0
    refine And.intro (by first | exact fi_ ha0.1 ha0.2 rfl | omega) ?_
    refine Exists.intro xm_238 (And.intro mi_238 (And.intro ⟨rfl, rfl, rfl, rfl⟩ (And.intro True.intro ?_)))
    refine fcallp hB0 (ct_M_isIn_27230 (fBz h0 hB0) (by first | exact ⟨ha0.1, ha0.2⟩ | omega) (by first | exact ⟨by decide, by decide⟩ | omega) (by first | exact ⟨by decide, by decide⟩ | omega)) ?_
    rintro _ ⟨z1, rfl, hz1⟩
    refine And.intro (by omega) (And.intro ?_ ?_)
    · intro c2
      refine And.intro (⟨by omega, by omega⟩) ?_
      exact ⟨_, rfl, by omega⟩
    · intro c3
      refine And.intro (by first | exact fi_ ha1.1 ha1.2 rfl | omega) ?_
      refine Exists.intro xm_238 (And.intro mi_238 (And.intro ⟨rfl, rfl, rfl, rfl⟩ (And.intro True.intro ?_)))
      refine fcallp hB0 (ct_M_isIn_27230 (fBz h0 hB0) (by first | exact ⟨ha1.1, ha1.2⟩ | omega) (by first | exact ⟨by decide, by decide⟩ | omega) (by first | exact ⟨by decide, by decide⟩ | omega)) ?_
      rintro _ ⟨z4, rfl, hz4⟩
      refine And.intro (by omega) (And.intro ?_ ?_)
      · intro c5
        refine And.intro (⟨by omega, by omega⟩) ?_
        exact ⟨_, rfl, by omega⟩
      · intro c6
        refine And.intro (⟨by decide, by decide⟩) ?_
        exact ⟨_, rfl, by omega⟩
set_option maxRecDepth 8000 in
theorem ct_M_dark_295c2 {I : fH} {x1 : Int} {x2 : Int} (h0 : fB bsJ I) (ha1 : ((-2147483648) ≤ x1 ∧ x1 ≤ 2147483647)) (ha2 : ((-2147483648) ≤ x2 ∧ x2 ≤ 2147483647)) : fC ρ base n F xTc vwCl xTys D dA la gJ (fbz bsJ znJ (fKc wz_ce28c) I) xm_464 [.inr (.inr (some 740)), .inl x1, .inl x2] I (fun I' r => ∃ z, r = some (.inl z) ∧ ((0 ≤ z ∧ z ≤ 999999) ∨ z = (-1000000005) ∨ z = (-1000000001)) ∧ (((1 ≤ x1 ∧ x1 ≤ 24 ∧ 0 ≤ x2 ∧ x2 ≤ 300) ∧ dTb I' x1 x2 ∧ z = (if I' 756 x2.toNat = 1000000 then (-1000000005) else I' 756 x2.toNat)) ∨ (¬ (1 ≤ x1 ∧ x1 ≤ 24 ∧ 0 ≤ x2 ∧ x2 ≤ 300) ∧ z = (-1000000001)))) := by
  have hW : fzs wz_ce28c (fKc wz_ce28c) := fKc_ok _
  refine f_meth (rb := rbJ) (J := []) 1 400 xG xin_464 x6_464 okJ (fB_self h0) ?_ ?_
  · exact fun q h => absurd h List.not_mem_nil
  · have hB0 := fB_self (zn := znJ) (K := fKc wz_ce28c) h0
    refine Exists.intro xm_465 (And.intro mi_465 (And.intro ⟨rfl, rfl, rfl, rfl⟩ (And.intro True.intro ?_)))
    refine fcallp hB0 (ct_M_isNight_38061 (fBz h0 hB0) (by first | exact ⟨ha1.1, ha1.2⟩ | omega) (by first | exact ⟨ha2.1, ha2.2⟩ | omega)) ?_
    rintro _ ⟨z1, rfl, hz1⟩
    refine And.intro (by omega) (And.intro ?_ ?_)
    · intro c2
      refine Exists.intro xm_466 (And.intro mi_466 (And.intro ⟨rfl, rfl, rfl, rfl⟩ (And.intro rfl ?_)))
      refine fcall _ h0 (fzs_sub (by decide +kernel) hW) hB0 (ct_M_findLoads_1f96d (fBz h0 hB0) (by omega) (by omega)) ?_
      rintro IhB4 _ hB4 fhB4 ⟨z3, rfl, hz3, g0z3, g1z3, g2z3⟩
      refine And.intro (And.intro (by first | exact fi_ hz3.1 hz3.2 rfl | omega) (by first | exact ⟨by decide, by decide⟩ | omega)) (And.intro ?_ ?_)
      · intro c5
        refine And.intro (True.intro) ?_
        exact ⟨_, rfl, by omega, (Or.inl ⟨by omega, g2z3, by rw [← g1z3]; split <;> omega⟩)⟩
      · intro c6
        refine And.intro (True.intro) ?_
        exact ⟨_, rfl, by omega, (Or.inl ⟨by omega, g2z3, by rw [← g1z3]; split <;> omega⟩)⟩
    · intro c7
      refine And.intro (True.intro) ?_
      exact ⟨_, rfl, by omega, (Or.inr ⟨by omega, by omega⟩)⟩
set_option maxRecDepth 8000 in
theorem ct_Dark_loadAt_007b1 {I : fH} {x1 : Int} {x2 : Int} (h0 : fB bsJ I) (ha1 : (0 ≤ x1 ∧ x1 ≤ 300)) (ha2 : (0 ≤ x2 ∧ x2 ≤ 23)) : fC ρ base n F xTc vwCl xTys D dA la gJ (fbz bsJ znJ (fKc []) I) xm_192 [.inr (.inr (some 732)), .inl x1, .inl x2] I (fun _ r => ∃ z, r = some (.inl z) ∧ (0 ≤ z ∧ z ≤ 3) ∧ (0 ≤ I 734 x1.toNat ∧ I 734 x1.toNat < 281474976710656 → z = I 734 x1.toNat / 4 ^ x2.toNat % 4)) := by
  have hW : fzs [] (fKc []) := fKc_ok _
  refine f_meth (rb := rbJ) (J := []) 1 400 xG xin_192 x6_192 okJ (fB_self h0) ?_ ?_
  · exact fun q h => absurd h List.not_mem_nil
  · have hB0 := fB_self (zn := znJ) (K := fKc []) h0
    refine And.intro ⟨rfl, by decide, by decide⟩ ?_
    refine fload1 rL_734_734_0_300_1_0 h0 hB0 ⟨by decide, by decide⟩ (by first | exact ⟨ha1.1, ha1.2⟩ | omega) ?_
    intro z1 lz1 uz1 qz1
    intro z2 hz2 ez2
    intro z3 hz3 ez3 bz3
    intro z4 hz4 ez4 bz4
    clear ez4
    have bz4 := bz4 (by omega)
    refine And.intro (True.intro) ?_
    exact ⟨_, rfl, by omega, (fun q => (show z4 = z3 by omega).trans ((shr_and (c := z1) (by rw [qz1]; exact q) (by omega) (by omega) ez2 ez3).trans (by rw [qz1])))⟩
set_option maxRecDepth 8000 in
theorem ct_X_load_86bcf {I : fH} {x1 : Int} {x2 : Int} {x3 : Int} (h0 : fB bsJ I) (ha1 : ((-2147483648) ≤ x1 ∧ x1 ≤ 2147483647)) (ha2 : ((-2147483648) ≤ x2 ∧ x2 ≤ 2147483647)) (ha3 : ((-2147483648) ≤ x3 ∧ x3 ≤ 2147483647)) : fC ρ base n F xTc vwCl xTys D dA la gJ (fbz bsJ znJ (fKc wz_61c55) I) xm_191 [.inr (.inr (some 0)), .inl x1, .inl x2, .inl x3] I (fun _ r => ∃ z, r = some (.inl z) ∧ ((0 ≤ z ∧ z ≤ 3) ∨ z = (-1000000005) ∨ z = (-1000000001)) ∧ ((((1 ≤ x1 ∧ x1 ≤ 24 ∧ 0 ≤ x2 ∧ x2 ≤ 300) ∧ 0 ≤ x3 ∧ x3 < x1) ∧ (((dkP (I 223) (fun i => I (225 + i)) x1.toNat x1.toNat x2.toNat).1 = -1000000005 ∧ z = -1000000005) ∨ ((dkP (I 223) (fun i => I (225 + i)) x1.toNat x1.toNat x2.toNat).1 ≠ -1000000005 ∧ z = (dkP (I 223) (fun i => I (225 + i)) x1.toNat x1.toNat x2.toNat).2 / 4 ^ x3.toNat % 4))) ∨ (¬ ((1 ≤ x1 ∧ x1 ≤ 24 ∧ 0 ≤ x2 ∧ x2 ≤ 300) ∧ 0 ≤ x3 ∧ x3 < x1) ∧ z = (-1000000001)))) := by
  have hW : fzs wz_61c55 (fKc wz_61c55) := fKc_ok _
  refine f_meth (rb := rbJ) (J := []) 1 400 xG xin_191 x6_191 okJ (fB_self h0) ?_ ?_
  · exact fun q h => absurd h List.not_mem_nil
  · have hB0 := fB_self (zn := znJ) (K := fKc wz_61c55) h0
    refine Exists.intro xm_13 (And.intro mi_13 (And.intro ⟨rfl, rfl, rfl, rfl⟩ (And.intro True.intro ?_)))
    refine fcallp hB0 (ct_X_within_c27b1 (fBz h0 hB0) (by first | exact ⟨ha1.1, ha1.2⟩ | omega) (by first | exact ⟨by decide, by decide⟩ | omega) (by first | exact ⟨by decide, by decide⟩ | omega)) ?_
    rintro _ ⟨z1, rfl, hz1⟩
    refine And.intro (by omega) (And.intro ?_ ?_)
    · intro c2
      refine And.intro (True.intro) ?_
      exact ⟨_, rfl, by omega, (by first | exact Or.inr ⟨by omega, by omega⟩ | exact Or.inl ⟨by omega, Or.inl ⟨by rw [← w45]; omega, by omega⟩⟩ | exact Or.inl ⟨by omega, Or.inr ⟨by rw [← w45]; omega, (g0nil0 (by rw [w46]; exact dk_code (dk_bd (by omega) (fun i l hi hl => by have q := (frL_at rL_225_248_0_3_1_0 h0 (a := 225 + i) (i := (l : Int)) (by omega)).2; rw [Int.toNat_natCast] at q; exact q) _ _) (by omega))).trans (by rw [w46])⟩⟩)⟩
    · intro c3
      refine Exists.intro xm_13 (And.intro mi_13 (And.intro ⟨rfl, rfl, rfl, rfl⟩ (And.intro True.intro ?_)))
      refine fcallp hB0 (ct_X_within_c27b1 (fBz h0 hB0) (by first | exact ⟨ha2.1, ha2.2⟩ | omega) (by first | exact ⟨by decide, by decide⟩ | omega) (by first | exact ⟨by decide, by decide⟩ | omega)) ?_
      rintro _ ⟨z4, rfl, hz4⟩
      refine And.intro (by omega) (And.intro ?_ ?_)
      · intro c5
        refine And.intro (True.intro) ?_
        exact ⟨_, rfl, by omega, (by first | exact Or.inr ⟨by omega, by omega⟩ | exact Or.inl ⟨by omega, Or.inl ⟨by rw [← w45]; omega, by omega⟩⟩ | exact Or.inl ⟨by omega, Or.inr ⟨by rw [← w45]; omega, (g0nil0 (by rw [w46]; exact dk_code (dk_bd (by omega) (fun i l hi hl => by have q := (frL_at rL_225_248_0_3_1_0 h0 (a := 225 + i) (i := (l : Int)) (by omega)).2; rw [Int.toNat_natCast] at q; exact q) _ _) (by omega))).trans (by rw [w46])⟩⟩)⟩
      · intro c6
        refine Exists.intro xm_13 (And.intro mi_13 (And.intro ⟨rfl, rfl, rfl, rfl⟩ (And.intro True.intro ?_)))
        refine fcallp hB0 (ct_X_within_c27b1 (fBz h0 hB0) (by first | exact ⟨ha3.1, ha3.2⟩ | omega) (by first | exact ⟨by decide, by decide⟩ | omega) (by omega)) ?_
        rintro _ ⟨z7, rfl, hz7⟩
        refine And.intro (by omega) (And.intro ?_ ?_)
        · intro c8
          refine And.intro ⟨rfl, by decide, by decide⟩ ?_
          refine And.intro ⟨rfl, by decide, by decide⟩ ?_
          refine Exists.intro xm_189 (And.intro mi_189 (And.intro ⟨rfl, rfl, rfl, rfl⟩ (And.intro rfl ?_)))
          refine fcall _ h0 (fzs_sub (by decide +kernel) hW) hB0 (ct_Dark_leastHarm_e9db9 (fBz h0 hB0) (by first | exact ⟨Int.le_trans (by decide) (Int.le_trans (Int.le_refl _) hz1.1), Int.le_trans (Int.le_trans hz1.2 (Int.le_refl _)) (by decide)⟩ | omega) (by first | exact ⟨Int.le_trans (by decide) (Int.le_trans (Int.le_refl _) hz4.1), Int.le_trans (Int.le_trans hz4.2 (Int.le_refl _)) (by decide)⟩ | omega)) ?_
          rintro IhB10 _ hB10 fhB10 ⟨z9, rfl, hz9, g0z9, g1z9⟩
          have w45 := g1z9.trans (congrArg Prod.fst g0z9)
          have w46 : IhB10 734 x2.toNat = (dkP (I 223) (fun i => I (225 + i)) x1.toNat x1.toNat x2.toNat).2 := congrArg Prod.snd g0z9
          refine And.intro (And.intro (by first | exact fi_ hz9.1 hz9.2 rfl | omega) (by first | exact ⟨by decide, by decide⟩ | omega)) (And.intro ?_ ?_)
          · intro c11
            refine And.intro ⟨rfl, by decide, by decide⟩ ?_
            refine Exists.intro xm_192 (And.intro mi_192 (And.intro ⟨rfl, rfl, rfl, rfl⟩ (And.intro rfl ?_)))
            refine fcallp hB10 (ct_Dark_loadAt_007b1 (fBz h0 hB10) (by first | exact ⟨Int.le_trans (by decide) (Int.le_trans (Int.le_refl _) hz4.1), Int.le_trans (Int.le_trans hz4.2 (Int.le_refl _)) (by decide)⟩ | omega) (by omega)) ?_
            rintro _ ⟨z12, rfl, hz12, g0z12⟩
            refine And.intro (True.intro) ?_
            exact ⟨_, rfl, by omega, (by first | exact Or.inr ⟨by omega, by omega⟩ | exact Or.inl ⟨by omega, Or.inl ⟨by rw [← w45]; omega, by omega⟩⟩ | exact Or.inl ⟨by omega, Or.inr ⟨by rw [← w45]; omega, (g0z12 (by rw [w46]; exact dk_code (dk_bd (by omega) (fun i l hi hl => by have q := (frL_at rL_225_248_0_3_1_0 h0 (a := 225 + i) (i := (l : Int)) (by omega)).2; rw [Int.toNat_natCast] at q; exact q) _ _) (by omega))).trans (by rw [w46])⟩⟩)⟩
          · intro c13
            refine And.intro (True.intro) ?_
            exact ⟨_, rfl, by omega, (by first | exact Or.inr ⟨by omega, by omega⟩ | exact Or.inl ⟨by omega, Or.inl ⟨by rw [← w45]; omega, by omega⟩⟩ | exact Or.inl ⟨by omega, Or.inr ⟨by rw [← w45]; omega, (g0z12 (by rw [w46]; exact dk_code (dk_bd (by omega) (fun i l hi hl => by have q := (frL_at rL_225_248_0_3_1_0 h0 (a := 225 + i) (i := (l : Int)) (by omega)).2; rw [Int.toNat_natCast] at q; exact q) _ _) (by omega))).trans (by rw [w46])⟩⟩)⟩
        · intro c14
          refine And.intro (True.intro) ?_
          exact ⟨_, rfl, by omega, (by first | exact Or.inr ⟨by omega, by omega⟩ | exact Or.inl ⟨by omega, Or.inl ⟨by rw [← w45]; omega, by omega⟩⟩ | exact Or.inl ⟨by omega, Or.inr ⟨by rw [← w45]; omega, (g0z12 (by rw [w46]; exact dk_code (dk_bd (by omega) (fun i l hi hl => by have q := (frL_at rL_225_248_0_3_1_0 h0 (a := 225 + i) (i := (l : Int)) (by omega)).2; rw [Int.toNat_natCast] at q; exact q) _ _) (by omega))).trans (by rw [w46])⟩⟩)⟩
abbrev jc_M_loadAt_deb31_2 (x1 : Int) (x2 : Int) (I0 : fH) : Nat → fL → List fV → fH → Prop := fun m lv st I => ∃ (y1 : Int) (y2 : Int) (y3 : Int), lv = [(0, .inr (.inr (some 740))), (1, .inl y1), (2, .inl y2), (3, .inl y3)] ∧ st = [] ∧ (((0 ≤ y1 ∧ y1 ≤ 23) ∧ (0 ≤ y2 ∧ y2 ≤ 300) ∧ (0 ≤ y3 ∧ y3 ≤ 3) ∧ (y1 = x1) ∧ (y2 = x2)) ∧ (∀ l : Int, 0 ≤ l → l < y3 → hbv I0 x1 x2 l ≠ I0 756 (301 * x1 + x2).toNat)) ∧ m = (1 + 1 * (3 - y3) : Int).toNat
set_option maxRecDepth 8000 in
theorem ct_M_loadAt_deb31 {I : fH} {x1 : Int} {x2 : Int} (h0 : fB bsJ I) (ha1 : (0 ≤ x1 ∧ x1 ≤ 23)) (ha2 : (0 ≤ x2 ∧ x2 ≤ 300)) (hp0 : sLd I x1 x2) : fC ρ base n F xTc vwCl xTys D dA la gJ (fbz bsJ znJ (fKc []) I) xm_469 [.inr (.inr (some 740)), .inl x1, .inl x2] I (fun _ r => ∃ z, r = some (.inl z) ∧ (0 ≤ z ∧ z ≤ 3) ∧ (hbv I x1 x2 z = I 756 (301 * x1 + x2).toNat) ∧ (∀ l : Int, 0 ≤ l → l < z → hbv I x1 x2 l ≠ I 756 (301 * x1 + x2).toNat)) := by
  have hW : fzs [] (fKc []) := fKc_ok _
  refine f_meth (rb := rbJ) (J := [(2, (jc_M_loadAt_deb31_2 x1 x2 I))]) 5 400 xG xin_469 x6_469 okJ (fB_self h0) ?_ ?_
  · refine List.forall_mem_cons.mpr ⟨?_, fun q h => absurd h List.not_mem_nil⟩
    · rintro m _ _ I1 hB1 ⟨y1, y2, y3, rfl, rfl, ⟨hb, hx0⟩, hm⟩
      have eI : I1 = I := fFr_nil (fFr_of hB1)
      have ey1 : y1 = x1 := by omega
      have ey2 : y2 = x2 := by omega
      obtain ⟨l0, hl0, he0⟩ := hp0
      refine Exists.intro xm_467 (And.intro mi_467 (And.intro ⟨rfl, rfl, rfl, rfl⟩ (And.intro rfl ?_)))
      refine fcallp hB1 (ct_M_harmBy_4eb55 (fBz h0 hB1) (by first | exact ⟨hb.1.1, hb.1.2⟩ | omega) (by first | exact ⟨hb.2.1.1, hb.2.1.2⟩ | omega) (by first | exact ⟨hb.2.2.1.1, hb.2.2.1.2⟩ | omega)) ?_
      rintro _ ⟨z1, rfl, hz1, g0z1⟩
      rw [eI, ey1, ey2] at g0z1
      refine And.intro ⟨rfl, by decide, by decide⟩ ?_
      intro z2 hz2 ez2 bz2
      clear ez2
      have bz2 := bz2 (by omega)
      refine fload rL_756_756_0_7524_1_0 h0 hB1 (by omega) ?_
      intro z3 lz3 uz3 qz3
      have wv := fld_at qz3 (301 * x1 + x2).toNat (by omega)
      rw [eI] at wv
      have wl : l0 = y3 → z1 = z3 := fun q => by rw [g0z1, wv, ← q]; exact he0
      have wm : ¬ l0 < y3 := fun q => hx0 l0 hl0.1 q he0
      refine And.intro (And.intro (by first | exact fi_ hz1.1.1 hz1.1.2 rfl | omega) (by first | exact fi_ lz3 uz3 rfl | omega)) (And.intro ?_ ?_)
      · intro c4
        refine And.intro (True.intro) ?_
        exact ⟨_, rfl, (by first | exact ⟨hb.2.2.1.1, hb.2.2.1.2⟩ | omega), (by rw [← g0z1, ← wv]; omega), (fun l h1 h2 => hx0 l h1 h2)⟩
      · intro c5
        intro z6 hz6 bz6
        have bz6 := bz6 (by omega)
        exact fcutJ (I := I1) (j := (jc_M_loadAt_deb31_2 x1 x2 I)) (lv' := [(0, .inr (.inr (some 740))), (1, .inl _), (2, .inl _), (3, .inl _)]) (And.intro rfl (And.intro rfl (And.intro rfl (And.intro rfl True.intro)))) ⟨_, _, _, rfl, rfl, ⟨by omega, (fun l h1 h2 => if el : l = y3 then (by rw [el, ← g0z1, ← wv]; omega) else hx0 l h1 (by omega))⟩, rfl⟩ (by omega)
  · have hB0 := fB_self (zn := znJ) (K := fKc []) h0
    exact fcutJ (I := I) (j := (jc_M_loadAt_deb31_2 x1 x2 I)) (lv' := [(0, .inr (.inr (some 740))), (1, .inl _), (2, .inl _), (3, .inl _)]) (And.intro rfl (And.intro rfl (And.intro rfl (And.intro rfl True.intro)))) ⟨_, _, _, rfl, rfl, ⟨by omega, (fun l h1 h2 => absurd h2 (by omega))⟩, rfl⟩ (by omega)
abbrev jc_M_load_94669_45 (x1 : Int) (x2 : Int) (x3 : Int) : Nat → fL → List fV → fH → Prop := fun m lv st I => ∃ (y3 : Int) (y4 : Int) (y5 : Int), lv = [(0, .inr (.inr (some 740))), (3, .inl y3), (4, .inl y4), (5, .inl y5)] ∧ st = [] ∧ (((0 ≤ y3 ∧ y3 ≤ 23) ∧ (0 ≤ y4 ∧ y4 ≤ 300) ∧ (0 ≤ y5 ∧ y5 ≤ 23) ∧ (y4 ≤ x2) ∧ (y5 ≤ y3) ∧ (y3 < x1) ∧ (y3 = x3) ∧ (1 ≤ x1) ∧ (x1 ≤ 24) ∧ (0 ≤ x2) ∧ (x2 ≤ 300) ∧ (I 756 x2.toNat ≠ 1000000)) ∧ (∀ i b : Int, 0 ≤ i → i < x1 → 0 ≤ b → b ≤ x2 → sLd I i b) ∧ (I 756 (301 * y5 + y4).toNat ≠ 1000000) ∧ (dTb I x1 x2) ∧ ((dkP (rTk I) (rHm I) x1.toNat x1.toNat x2.toNat).2 / 4 ^ y5.toNat = (dkP (rTk I) (rHm I) x1.toNat (x1 - y5).toNat y4.toNat).2)) ∧ m = (1 + 1 * (23 - y5) : Int).toNat
set_option maxRecDepth 8000 in
theorem ct_M_load_94669 {I : fH} {x1 : Int} {x2 : Int} {x3 : Int} (h0 : fB bsJ I) (ha1 : ((-2147483648) ≤ x1 ∧ x1 ≤ 2147483647)) (ha2 : ((-2147483648) ≤ x2 ∧ x2 ≤ 2147483647)) (ha3 : ((-2147483648) ≤ x3 ∧ x3 ≤ 2147483647)) : fC ρ base n F xTc vwCl xTys D dA la gJ (fbz bsJ znJ (fKc wz_ce28c) I) xm_468 [.inr (.inr (some 740)), .inl x1, .inl x2, .inl x3] I (fun I' r => ∃ z, r = some (.inl z) ∧ ((0 ≤ z ∧ z ≤ 3) ∨ z = (-1000000005) ∨ z = (-1000000001)) ∧ ((((1 ≤ x1 ∧ x1 ≤ 24 ∧ 0 ≤ x2 ∧ x2 ≤ 300) ∧ 0 ≤ x3 ∧ x3 < x1) ∧ dTb I' x1 x2 ∧ ((I' 756 x2.toNat = 1000000 ∧ z = -1000000005) ∨ (I' 756 x2.toNat ≠ 1000000 ∧ z = (dkP (rTk I') (rHm I') x1.toNat x1.toNat x2.toNat).2 / 4 ^ x3.toNat % 4))) ∨ (¬ ((1 ≤ x1 ∧ x1 ≤ 24 ∧ 0 ≤ x2 ∧ x2 ≤ 300) ∧ 0 ≤ x3 ∧ x3 < x1) ∧ z = (-1000000001)))) := by
  have hW : fzs wz_ce28c (fKc wz_ce28c) := fKc_ok _
  refine f_meth (rb := rbJ) (J := [(45, (jc_M_load_94669_45 x1 x2 x3))]) 25 400 xG xin_468 x6_468 okJ (fB_self h0) ?_ ?_
  · refine List.forall_mem_cons.mpr ⟨?_, fun q h => absurd h List.not_mem_nil⟩
    · rintro m _ _ I1 hB1 ⟨y3, y4, y5, rfl, rfl, ⟨hb, hx0, hx1, hx2, hx3⟩, hm⟩
      refine And.intro (And.intro (by first | exact fi_ hb.2.2.1.1 hb.2.2.1.2 rfl | omega) (by first | exact fi_ hb.1.1 hb.1.2 rfl | omega)) (And.intro ?_ ?_)
      · intro c1
        refine Exists.intro xm_469 (And.intro mi_469 (And.intro ⟨rfl, rfl, rfl, rfl⟩ (And.intro rfl ?_)))
        refine fcallp hB1 (ct_M_loadAt_deb31 (fBz h0 hB1) (by first | exact ⟨hb.1.1, hb.1.2⟩ | omega) (by first | exact ⟨hb.2.1.1, hb.2.1.2⟩ | omega) (hx0 _ _ (by omega) (by omega) (by omega) (by omega))) ?_
        rintro _ ⟨z2, rfl, hz2, g0z2, g1z2⟩
        refine And.intro (True.intro) ?_
        exact ⟨_, rfl, by omega, (Or.inl ⟨by omega, hx2, Or.inr ⟨by omega, by have wd := walk_step (i := y3) (b := y4) (l := z2) (by omega) hx2 (fun l hl => by have q := (frL_at rL_741_741_4560_4563_1_0 (fBz h0 hB1) (a := 741) (i := ((4560 + l : Nat) : Int)) (by omega)).2.1; rw [Int.toNat_natCast] at q; exact q) (fun i l hi hl => by have q := (frL_at rL_741_741_4570_4665_1_0 (fBz h0 hB1) (a := 741) (i := ((4570 + 4 * i + l : Nat) : Int)) (by omega)).2; rw [Int.toNat_natCast] at q; exact q) (by omega) (by omega) (ne_to hx1 (by rw [show y3 = y5 by omega])) (by omega) g0z2 g1z2; rw [show x3.toNat = y5.toNat by omega, hx3, show (x1 - y5).toNat = (x1 - y3).toNat by omega, wd]; omega⟩⟩)⟩
      · intro c3
        refine And.intro ⟨rfl, by decide, by decide⟩ ?_
        refine Exists.intro xm_469 (And.intro mi_469 (And.intro ⟨rfl, rfl, rfl, rfl⟩ (And.intro rfl ?_)))
        refine fcallp hB1 (ct_M_loadAt_deb31 (fBz h0 hB1) (by first | exact ⟨hb.2.2.1.1, Int.le_trans (Int.le_sub_one_of_lt (Int.lt_of_lt_of_le c3 hb.1.2)) (by decide)⟩ | omega) (by first | exact ⟨hb.2.1.1, hb.2.1.2⟩ | omega) (hx0 _ _ (by omega) (by omega) (by omega) (by omega))) ?_
        rintro _ ⟨z4, rfl, hz4, g0z4, g1z4⟩
        intro z5 hz5 ez5 bz5
        clear ez5
        have bz5 := bz5 (by omega)
        refine fload rL_741_741_4560_4563_1_0 h0 hB1 (by omega) ?_
        intro z6 lz6 uz6 qz6
        have w69 := fld_at qz6 (4560 + z4).toNat (by omega)
        have wg := ld_go (I := I1) (i := y5) (b := y4) (l := z4) (by rw [g0z4]; exact hx1) ((frL_at rL_741_741_4570_4665_1_0 (fBz h0 hB1) (a := 741) (i := 4570 + 4 * y5 + z4) (by omega)).2.1)
        have wg1 := wg.1
        intro z7 hz7 ez7 bz7
        clear ez7
        have bz7 := bz7 (by omega)
        exact fcutJ (I := I1) (j := (jc_M_load_94669_45 x1 x2 x3)) (lv' := [(0, .inr (.inr (some 740))), (3, .inl _), (4, .inl _), (5, .inl _)]) (And.intro rfl (And.intro rfl (And.intro rfl (And.intro rfl True.intro)))) ⟨_, _, _, rfl, rfl, ⟨by omega, hx0, (ne_to wg.2 (by omega)), hx2, (by have wc := code_go hx3 (walk_step (i := y5) (b := y4) (l := z4) (by omega) hx2 (fun l hl => by have q := (frL_at rL_741_741_4560_4563_1_0 (fBz h0 hB1) (a := 741) (i := ((4560 + l : Nat) : Int)) (by omega)).2.1; rw [Int.toNat_natCast] at q; exact q) (fun i l hi hl => by have q := (frL_at rL_741_741_4570_4665_1_0 (fBz h0 hB1) (a := 741) (i := ((4570 + 4 * i + l : Nat) : Int)) (by omega)).2; rw [Int.toNat_natCast] at q; exact q) (by omega) (by omega) hx1 (by omega) g0z4 g1z4) (by omega); rw [show (x1 - y5 - 1).toNat = (x1 - (y5 + ((1 : Nat) : Int))).toNat by omega, show (y4 - I1 741 (4560 + z4).toNat).toNat = z7.toNat by omega] at wc; rw [show (y5 + ((1 : Nat) : Int)).toNat = y5.toNat + 1 by omega]; exact wc)⟩, rfl⟩ (by omega)
  · have hB0 := fB_self (zn := znJ) (K := fKc wz_ce28c) h0
    refine Exists.intro xm_465 (And.intro mi_465 (And.intro ⟨rfl, rfl, rfl, rfl⟩ (And.intro True.intro ?_)))
    refine fcallp hB0 (ct_M_isNight_38061 (fBz h0 hB0) (by first | exact ⟨ha1.1, ha1.2⟩ | omega) (by first | exact ⟨ha2.1, ha2.2⟩ | omega)) ?_
    rintro _ ⟨z8, rfl, hz8⟩
    refine And.intro (by omega) (And.intro ?_ ?_)
    · intro c9
      refine And.intro (True.intro) ?_
      exact ⟨_, rfl, by omega, (Or.inr ⟨by omega, by omega⟩)⟩
    · intro c10
      refine And.intro (by first | exact fi_ ha3.1 ha3.2 rfl | omega) ?_
      refine And.intro (by omega) ?_
      refine Exists.intro xm_238 (And.intro mi_238 (And.intro ⟨rfl, rfl, rfl, rfl⟩ (And.intro True.intro ?_)))
      refine fcallp hB0 (ct_M_isIn_27230 (fBz h0 hB0) (by first | exact ⟨ha3.1, ha3.2⟩ | omega) (by first | exact ⟨by decide, by decide⟩ | omega) (by omega)) ?_
      rintro _ ⟨z11, rfl, hz11⟩
      refine And.intro (by omega) (And.intro ?_ ?_)
      · intro c12
        refine Exists.intro xm_466 (And.intro mi_466 (And.intro ⟨rfl, rfl, rfl, rfl⟩ (And.intro rfl ?_)))
        refine fcall _ h0 (fzs_sub (by decide +kernel) hW) hB0 (ct_M_findLoads_1f96d (fBz h0 hB0) (by omega) (by omega)) ?_
        rintro IhB14 _ hB14 fhB14 ⟨z13, rfl, hz13, g0z13, g1z13, g2z13⟩
        refine And.intro (And.intro (by first | exact fi_ hz13.1 hz13.2 rfl | omega) (by first | exact ⟨by decide, by decide⟩ | omega)) (And.intro ?_ ?_)
        · intro c15
          exact fcutJ (I := IhB14) (j := (jc_M_load_94669_45 x1 x2 x3)) (lv' := [(0, .inr (.inr (some 740))), (3, .inl _), (4, .inl _), (5, .inl _)]) (And.intro rfl (And.intro rfl (And.intro rfl (And.intro rfl True.intro)))) ⟨_, _, _, rfl, rfl, ⟨by omega, g0z13, (ne_to (j := x2.toNat) (by omega) (by omega)), g2z13, (by rw [show (x1 - ((0 : Nat) : Int)).toNat = x1.toNat by omega]; exact code_0)⟩, rfl⟩ (by omega)
        · intro c16
          refine And.intro (True.intro) ?_
          exact ⟨_, rfl, by omega, (Or.inl ⟨by omega, g2z13, Or.inl ⟨by omega, by omega⟩⟩)⟩
      · intro c17
        refine And.intro (True.intro) ?_
        exact ⟨_, rfl, by omega, (Or.inr ⟨by omega, by omega⟩)⟩
set_option maxRecDepth 8000 in
theorem ct_X_known_5372c {I : fH} {x1 : Int} {x2 : Int} (h0 : fB bsJ I) (ha1 : ((-2147483648) ≤ x1 ∧ x1 ≤ 2147483647)) (ha2 : ((-2147483648) ≤ x2 ∧ x2 ≤ 2147483647)) : fC ρ base n F xTc vwCl xTys D dA la gJ (fbz bsJ znJ (fKc []) I) xm_193 [.inr (.inr (some 0)), .inl x1, .inl x2] I (fun _ r => ∃ z, r = some (.inl z) ∧ ((-2147483648) ≤ z ∧ z ≤ 2147483647)) := by
  have hW : fzs [] (fKc []) := fKc_ok _
  refine f_meth (rb := rbJ) (J := []) 1 400 xG xin_193 x6_193 okJ (fB_self h0) ?_ ?_
  · exact fun q h => absurd h List.not_mem_nil
  · have hB0 := fB_self (zn := znJ) (K := fKc []) h0
    refine And.intro ⟨rfl, by decide, by decide⟩ ?_
    refine Exists.intro xm_17 (And.intro mi_17 (And.intro ⟨rfl, rfl, rfl, rfl⟩ (And.intro rfl ?_)))
    refine fcallp hB0 (ct_City_isCell_46f02 (fBz h0 hB0) (by first | exact ⟨ha1.1, ha1.2⟩ | omega)) ?_
    rintro _ ⟨z1, rfl, hz1⟩
    refine And.intro (by omega) (And.intro ?_ ?_)
    · intro c2
      refine And.intro (True.intro) ?_
      exact ⟨_, rfl, by omega⟩
    · intro c3
      refine Exists.intro xm_13 (And.intro mi_13 (And.intro ⟨rfl, rfl, rfl, rfl⟩ (And.intro True.intro ?_)))
      refine fcallp hB0 (ct_X_within_c27b1 (fBz h0 hB0) (by first | exact ⟨ha2.1, ha2.2⟩ | omega) (by first | exact ⟨by decide, by decide⟩ | omega) (by first | exact ⟨by decide, by decide⟩ | omega)) ?_
      rintro _ ⟨z4, rfl, hz4⟩
      refine And.intro (by omega) (And.intro ?_ ?_)
      · intro c5
        refine And.intro (True.intro) ?_
        exact ⟨_, rfl, by omega⟩
      · intro c6
        refine And.intro ⟨rfl, by decide, by decide⟩ ?_
        refine And.intro ⟨rfl, by decide, by decide⟩ ?_
        refine And.intro ⟨rfl, by decide, by decide⟩ ?_
        refine And.intro ⟨rfl, by decide⟩ (And.intro (by omega) ?_)
        refine fload rL_48_67_0_5_1_0 h0 hB0 (by omega) ?_
        intro z7 lz7 uz7 qz7
        refine And.intro (True.intro) ?_
        exact ⟨_, rfl, (by first | exact ⟨lz7, uz7⟩ | omega)⟩
set_option maxRecDepth 8000 in
theorem ct_M_known_05810 {I : fH} {x1 : Int} {x2 : Int} (h0 : fB bsJ I) (ha1 : ((-2147483648) ≤ x1 ∧ x1 ≤ 2147483647)) (ha2 : ((-2147483648) ≤ x2 ∧ x2 ≤ 2147483647)) : fC ρ base n F xTc vwCl xTys D dA la gJ (fbz bsJ znJ (fKc []) I) xm_470 [.inr (.inr (some 740)), .inl x1, .inl x2] I (fun _ r => ∃ z, r = some (.inl z) ∧ ((-2147483648) ≤ z ∧ z ≤ 2147483647)) := by
  have hW : fzs [] (fKc []) := fKc_ok _
  refine f_meth (rb := rbJ) (J := []) 1 400 xG xin_470 x6_470 okJ (fB_self h0) ?_ ?_
  · exact fun q h => absurd h List.not_mem_nil
  · have hB0 := fB_self (zn := znJ) (K := fKc []) h0
    refine Exists.intro xm_241 (And.intro mi_241 (And.intro ⟨rfl, rfl, rfl, rfl⟩ (And.intro rfl ?_)))
    refine fcallp hB0 (ct_M_isCell_45859 (fBz h0 hB0) (by first | exact ⟨ha1.1, ha1.2⟩ | omega)) ?_
    rintro _ ⟨z1, rfl, hz1⟩
    refine And.intro (by omega) (And.intro ?_ ?_)
    · intro c2
      refine And.intro (True.intro) ?_
      exact ⟨_, rfl, (by first | exact ⟨by decide, by decide⟩ | omega)⟩
    · intro c3
      refine And.intro (by first | exact fi_ ha2.1 ha2.2 rfl | omega) ?_
      refine Exists.intro xm_238 (And.intro mi_238 (And.intro ⟨rfl, rfl, rfl, rfl⟩ (And.intro True.intro ?_)))
      refine fcallp hB0 (ct_M_isIn_27230 (fBz h0 hB0) (by first | exact ⟨ha2.1, ha2.2⟩ | omega) (by first | exact ⟨by decide, by decide⟩ | omega) (by first | exact ⟨by decide, by decide⟩ | omega)) ?_
      rintro _ ⟨z4, rfl, hz4⟩
      refine And.intro (by omega) (And.intro ?_ ?_)
      · intro c5
        refine And.intro ⟨rfl, by decide, by decide⟩ ?_
        refine Exists.intro xm_239 (And.intro mi_239 (And.intro ⟨rfl, rfl, rfl, rfl⟩ (And.intro rfl ?_)))
        refine fcallp hB0 (ct_M_cellAt_c15f4 (fBz h0 hB0) (by omega)) ?_
        rintro _ ⟨_, rfl, rfl⟩
        refine fload rL_741_741_47_427_20_0 h0 hB0 (by omega) ?_
        intro z7 lz7 uz7 qz7
        refine And.intro (by first | exact fi_ lz7 uz7 rfl | omega) (And.intro ?_ ?_)
        · intro c8
          refine And.intro ⟨rfl, by decide, by decide⟩ ?_
          refine Exists.intro xm_239 (And.intro mi_239 (And.intro ⟨rfl, rfl, rfl, rfl⟩ (And.intro rfl ?_)))
          refine fcallp hB0 (ct_M_cellAt_c15f4 (fBz h0 hB0) (by omega)) ?_
          rintro _ ⟨_, rfl, rfl⟩
          refine fload rL_741_741_42_427_20_5 h0 hB0 (by omega) ?_
          intro z10 lz10 uz10 qz10
          refine And.intro (True.intro) ?_
          exact ⟨_, rfl, (by first | exact ⟨lz10, uz10⟩ | omega)⟩
        · intro c11
          refine And.intro (True.intro) ?_
          exact ⟨_, rfl, (by first | exact ⟨by decide, by decide⟩ | omega)⟩
      · intro c12
        refine And.intro (True.intro) ?_
        exact ⟨_, rfl, (by first | exact ⟨by decide, by decide⟩ | omega)⟩
set_option maxRecDepth 8000 in
theorem ct_Desk_addShip_b0073 {I : fH} {x1 : Int} {x2 : Int} {x3 : Int} (h0 : fB bsJ I) (ha1 : (2 ≤ x1 ∧ x1 ≤ 9999)) (ha2 : (0 ≤ x2 ∧ x2 ≤ 9999)) (ha3 : (1 ≤ x3 ∧ x3 ≤ 999)) : fC ρ base n F xTc vwCl xTys D dA la gJ (fbz bsJ znJ (fKc wz_f0603) I) xm_195 [.inr (.inr (some 211)), .inl x1, .inl x2, .inl x3] I (fun I' r => ∃ z, r = some (.inl z) ∧ (((0 ≤ z ∧ z ≤ 5) ∨ z = (-1000000003)) ∧ ((I 211 8 < 6 → z = I 211 8 ∧ I' 211 8 = I 211 8 + 1) ∧ (6 ≤ I 211 8 → z = (-1000000003) ∧ I' 211 8 = I 211 8))) ∧ (∀ j : Nat, I' 249 j = if (j : Int) = z then x1 else I 249 j) ∧ (∀ j : Nat, I' 250 j = if (j : Int) = z then x2 else I 250 j) ∧ (∀ j : Nat, I' 251 j = if (j : Int) = z then x3 else I 251 j)) := by
  have hW : fzs wz_f0603 (fKc wz_f0603) := fKc_ok _
  refine f_meth (rb := rbJ) (J := []) 1 400 xG xin_195 x6_195 okJ (fB_self h0) ?_ ?_
  · exact fun q h => absurd h List.not_mem_nil
  · have hB0 := fB_self (zn := znJ) (K := fKc wz_f0603) h0
    refine And.intro ⟨rfl, by decide, by decide⟩ (fgetf fb_211_8 h0 hB0 ?_)
    intro z1 lz1 uz1 qz1
    refine And.intro (And.intro (by first | exact fi_ lz1 uz1 rfl | omega) (by first | exact ⟨by decide, by decide⟩ | omega)) (And.intro ?_ ?_)
    · intro c2
      refine And.intro ⟨rfl, by decide, by decide⟩ ?_
      refine fstore1 rS_249_249_0_5_1_0 (fzs_sub (by decide +kernel) hW) ⟨by decide, by decide⟩ (by first | exact ⟨lz1, Int.le_trans (Int.le_sub_one_of_lt (Int.lt_of_lt_of_le c2 (Int.le_refl _))) (by decide)⟩ | omega) (by first | exact ⟨Int.le_trans (by decide) ha1.1, ha1.2⟩ | omega) ?_
      intro IhB3 ehB3 hB3
      have t4 := fup_self ehB3
      have t5 : IhB3 211 8 = I 211 8 := (congrFun (congrFun ehB3 211) 8).trans (fup_ne (by first | exact Or.inl (by decide) | omega))
      refine And.intro ⟨rfl, by decide, by decide⟩ ?_
      refine fstore1 rS_250_250_0_5_1_0 (fzs_sub (by decide +kernel) hW) ⟨by decide, by decide⟩ (by first | exact ⟨lz1, Int.le_trans (Int.le_sub_one_of_lt (Int.lt_of_lt_of_le c2 (Int.le_refl _))) (by decide)⟩ | omega) (by first | exact ⟨ha2.1, ha2.2⟩ | omega) ?_
      intro IhB6 ehB6 hB6
      have t7 := fup_self ehB6
      have t8 : IhB6 211 8 = IhB3 211 8 := (congrFun (congrFun ehB6 211) 8).trans (fup_ne (by first | exact Or.inl (by decide) | omega))
      refine And.intro ⟨rfl, by decide, by decide⟩ ?_
      refine fstore1 rS_251_251_0_5_1_0 (fzs_sub (by decide +kernel) hW) ⟨by decide, by decide⟩ (by first | exact ⟨lz1, Int.le_trans (Int.le_sub_one_of_lt (Int.lt_of_lt_of_le c2 (Int.le_refl _))) (by decide)⟩ | omega) (by first | exact ⟨Int.le_trans (by decide) ha3.1, ha3.2⟩ | omega) ?_
      intro IhB9 ehB9 hB9
      have t10 := fup_self ehB9
      have t11 : IhB9 211 8 = IhB6 211 8 := (congrFun (congrFun ehB9 211) 8).trans (fup_ne (by first | exact Or.inl (by decide) | omega))
      refine And.intro ⟨rfl, by decide, by decide⟩ (And.intro rfl (And.intro (Or.inl rfl) (fputf fb_211_8 (by decide +kernel) hW (by omega) ?_)))
      intro IhB12 ehB12 hB12
      have t13 := fup_at ehB12 8 (by first | rfl | omega)
      refine And.intro (True.intro) ?_
      exact ⟨_, rfl, by omega, (fun j => ((fup_other ehB12 249 j (Or.inl (by decide))).trans ((fup_other ehB9 249 j (Or.inl (by decide))).trans (fup_other ehB6 249 j (Or.inl (by decide))))).trans ((fup_if ehB3 j).trans (if_go (by omega) rfl))), (fun j => ((fup_other ehB12 250 j (Or.inl (by decide))).trans (fup_other ehB9 250 j (Or.inl (by decide)))).trans ((fup_if ehB6 j).trans (if_go (by omega) (fup_other ehB3 250 j (Or.inl (by decide)))))), (fun j => (fup_other ehB12 251 j (Or.inl (by decide))).trans ((fup_if ehB9 j).trans (if_go (by omega) ((fup_other ehB6 251 j (Or.inl (by decide))).trans (fup_other ehB3 251 j (Or.inl (by decide)))))))⟩
    · intro c14
      refine And.intro (True.intro) ?_
      exact ⟨_, rfl, by omega, (fun j => if_no (by omega)), (fun j => if_no (by omega)), (fun j => if_no (by omega))⟩
set_option maxRecDepth 8000 in
theorem ct_X_ship_594a6 {I : fH} {x1 : Int} {x2 : Int} {x3 : Int} (h0 : fB bsJ I) (ha1 : ((-2147483648) ≤ x1 ∧ x1 ≤ 2147483647)) (ha2 : ((-2147483648) ≤ x2 ∧ x2 ≤ 2147483647)) (ha3 : ((-2147483648) ≤ x3 ∧ x3 ≤ 2147483647)) : fC ρ base n F xTc vwCl xTys D dA la gJ (fbz bsJ znJ (fKc wz_f0603) I) xm_194 [.inr (.inr (some 0)), .inl x1, .inl x2, .inl x3] I (fun I' r => ∃ z, r = some (.inl z) ∧ (((0 ≤ z ∧ z ≤ 5) ∨ z = (-1000000003) ∨ z = (-1000000001)) ∧ ((2 ≤ x1 ∧ x1 ≤ 9999 ∧ 0 ≤ x2 ∧ x2 ≤ 9999 ∧ 1 ≤ x3 ∧ x3 ≤ 999 ∧ I 211 8 < 6 → z = I 211 8 ∧ I' 211 8 = I 211 8 + 1) ∧ (2 ≤ x1 ∧ x1 ≤ 9999 ∧ 0 ≤ x2 ∧ x2 ≤ 9999 ∧ 1 ≤ x3 ∧ x3 ≤ 999 ∧ 6 ≤ I 211 8 → z = (-1000000003) ∧ I' 211 8 = I 211 8) ∧ (¬ (2 ≤ x1 ∧ x1 ≤ 9999 ∧ 0 ≤ x2 ∧ x2 ≤ 9999 ∧ 1 ≤ x3 ∧ x3 ≤ 999) → z = (-1000000001) ∧ I' 211 8 = I 211 8))) ∧ (∀ j : Nat, I' 249 j = if (j : Int) = z then x1 else I 249 j) ∧ (∀ j : Nat, I' 250 j = if (j : Int) = z then x2 else I 250 j) ∧ (∀ j : Nat, I' 251 j = if (j : Int) = z then x3 else I 251 j)) := by
  have hW : fzs wz_f0603 (fKc wz_f0603) := fKc_ok _
  refine f_meth (rb := rbJ) (J := []) 1 400 xG xin_194 x6_194 okJ (fB_self h0) ?_ ?_
  · exact fun q h => absurd h List.not_mem_nil
  · have hB0 := fB_self (zn := znJ) (K := fKc wz_f0603) h0
    have b1 := fBd fb_211_8 (fBz h0 hB0)
    refine Exists.intro xm_13 (And.intro mi_13 (And.intro ⟨rfl, rfl, rfl, rfl⟩ (And.intro True.intro ?_)))
    refine fcallp hB0 (ct_X_within_c27b1 (fBz h0 hB0) (by first | exact ⟨ha1.1, ha1.2⟩ | omega) (by first | exact ⟨by decide, by decide⟩ | omega) (by first | exact ⟨by decide, by decide⟩ | omega)) ?_
    rintro _ ⟨z2, rfl, hz2⟩
    refine And.intro (by omega) (And.intro ?_ ?_)
    · intro c3
      refine And.intro (True.intro) ?_
      exact ⟨_, rfl, by omega, (by first | exact g0nil0 | exact fun j => if_no (by omega)), (by first | exact g1nil0 | exact fun j => if_no (by omega)), (by first | exact g2nil0 | exact fun j => if_no (by omega))⟩
    · intro c4
      refine Exists.intro xm_13 (And.intro mi_13 (And.intro ⟨rfl, rfl, rfl, rfl⟩ (And.intro True.intro ?_)))
      refine fcallp hB0 (ct_X_within_c27b1 (fBz h0 hB0) (by first | exact ⟨ha2.1, ha2.2⟩ | omega) (by first | exact ⟨by decide, by decide⟩ | omega) (by first | exact ⟨by decide, by decide⟩ | omega)) ?_
      rintro _ ⟨z5, rfl, hz5⟩
      refine And.intro (by omega) (And.intro ?_ ?_)
      · intro c6
        refine And.intro (True.intro) ?_
        exact ⟨_, rfl, by omega, (by first | exact g0nil0 | exact fun j => if_no (by omega)), (by first | exact g1nil0 | exact fun j => if_no (by omega)), (by first | exact g2nil0 | exact fun j => if_no (by omega))⟩
      · intro c7
        refine Exists.intro xm_13 (And.intro mi_13 (And.intro ⟨rfl, rfl, rfl, rfl⟩ (And.intro True.intro ?_)))
        refine fcallp hB0 (ct_X_within_c27b1 (fBz h0 hB0) (by first | exact ⟨ha3.1, ha3.2⟩ | omega) (by first | exact ⟨by decide, by decide⟩ | omega) (by first | exact ⟨by decide, by decide⟩ | omega)) ?_
        rintro _ ⟨z8, rfl, hz8⟩
        refine And.intro (by omega) (And.intro ?_ ?_)
        · intro c9
          refine And.intro ⟨rfl, by decide, by decide⟩ ?_
          refine Exists.intro xm_195 (And.intro mi_195 (And.intro ⟨rfl, rfl, rfl, rfl⟩ (And.intro rfl ?_)))
          refine fcall _ h0 (fzs_sub (by decide +kernel) hW) hB0 (ct_Desk_addShip_b0073 (fBz h0 hB0) (by first | exact ⟨Int.le_trans (by decide) (Int.le_trans (Int.le_refl _) hz2.1), Int.le_trans (Int.le_trans hz2.2 (Int.le_refl _)) (by decide)⟩ | omega) (by first | exact ⟨Int.le_trans (by decide) (Int.le_trans (Int.le_refl _) hz5.1), Int.le_trans (Int.le_trans hz5.2 (Int.le_refl _)) (by decide)⟩ | omega) (by first | exact ⟨Int.le_trans (by decide) (Int.le_trans (Int.le_refl _) hz8.1), Int.le_trans (Int.le_trans hz8.2 (Int.le_refl _)) (by decide)⟩ | omega)) ?_
          rintro IhB11 _ hB11 fhB11 ⟨z10, rfl, hz10, g0z10, g1z10, g2z10⟩
          refine And.intro (True.intro) ?_
          exact ⟨_, rfl, by omega, (by first | exact g0z10 | exact fun j => if_no (by omega)), (by first | exact g1z10 | exact fun j => if_no (by omega)), (by first | exact g2z10 | exact fun j => if_no (by omega))⟩
        · intro c12
          refine And.intro (True.intro) ?_
          exact ⟨_, rfl, by omega, (by first | exact g0z10 | exact fun j => if_no (by omega)), (by first | exact g1z10 | exact fun j => if_no (by omega)), (by first | exact g2z10 | exact fun j => if_no (by omega))⟩
set_option maxRecDepth 8000 in
theorem ct_M_ship_fd85e {I : fH} {x1 : Int} {x2 : Int} {x3 : Int} (h0 : fB bsJ I) (ha1 : ((-2147483648) ≤ x1 ∧ x1 ≤ 2147483647)) (ha2 : ((-2147483648) ≤ x2 ∧ x2 ≤ 2147483647)) (ha3 : ((-2147483648) ≤ x3 ∧ x3 ≤ 2147483647)) (hp0 : sI I 741) : fC ρ base n F xTc vwCl xTys D dA la gJ (fbz bsJ znJ (fKc wz_ac3fb) I) xm_471 [.inr (.inr (some 740)), .inl x1, .inl x2, .inl x3] I (fun I' r => ∃ z, r = some (.inl z) ∧ (((0 ≤ z ∧ z ≤ 5) ∨ z = (-1000000003) ∨ z = (-1000000001)) ∧ ((2 ≤ x1 ∧ x1 ≤ 9999 ∧ 0 ≤ x2 ∧ x2 ≤ 9999 ∧ 1 ≤ x3 ∧ x3 ≤ 999 ∧ I 741 10 < 6 → z = I 741 10 ∧ I' 741 10 = I 741 10 + 1) ∧ (2 ≤ x1 ∧ x1 ≤ 9999 ∧ 0 ≤ x2 ∧ x2 ≤ 9999 ∧ 1 ≤ x3 ∧ x3 ≤ 999 ∧ 6 ≤ I 741 10 → z = (-1000000003) ∧ I' 741 10 = I 741 10) ∧ (¬ (2 ≤ x1 ∧ x1 ≤ 9999 ∧ 0 ≤ x2 ∧ x2 ≤ 9999 ∧ 1 ≤ x3 ∧ x3 ≤ 999) → z = (-1000000001) ∧ I' 741 10 = I 741 10))) ∧ (sI I' 741) ∧ (∀ j : Nat, j < 6 → I' 741 (4330 + 3 * j) = if (j : Int) = z then x1 else I 741 (4330 + 3 * j)) ∧ (∀ j : Nat, j < 6 → I' 741 (4331 + 3 * j) = if (j : Int) = z then x2 else I 741 (4331 + 3 * j)) ∧ (∀ j : Nat, j < 6 → I' 741 (4332 + 3 * j) = if (j : Int) = z then x3 else I 741 (4332 + 3 * j))) := by
  have hW : fzs wz_ac3fb (fKc wz_ac3fb) := fKc_ok _
  refine f_meth (rb := rbJ) (J := []) 1 400 xG xin_471 x6_471 okJ (fB_self h0) ?_ ?_
  · exact fun q h => absurd h List.not_mem_nil
  · have hB0 := fB_self (zn := znJ) (K := fKc wz_ac3fb) h0
    have b1 := fBd fb_741_10 (fBz h0 hB0)
    refine And.intro (by first | exact fi_ ha1.1 ha1.2 rfl | omega) ?_
    refine Exists.intro xm_238 (And.intro mi_238 (And.intro ⟨rfl, rfl, rfl, rfl⟩ (And.intro True.intro ?_)))
    refine fcallp hB0 (ct_M_isIn_27230 (fBz h0 hB0) (by first | exact ⟨ha1.1, ha1.2⟩ | omega) (by first | exact ⟨by decide, by decide⟩ | omega) (by first | exact ⟨by decide, by decide⟩ | omega)) ?_
    rintro _ ⟨z2, rfl, hz2⟩
    refine And.intro (by omega) (And.intro ?_ ?_)
    · intro c3
      refine And.intro (True.intro) ?_
      exact ⟨_, rfl, by omega, hp0, (fun j _ => if_no (by omega)), (fun j _ => if_no (by omega)), (fun j _ => if_no (by omega))⟩
    · intro c4
      refine And.intro (by first | exact fi_ ha2.1 ha2.2 rfl | omega) ?_
      refine Exists.intro xm_238 (And.intro mi_238 (And.intro ⟨rfl, rfl, rfl, rfl⟩ (And.intro True.intro ?_)))
      refine fcallp hB0 (ct_M_isIn_27230 (fBz h0 hB0) (by first | exact ⟨ha2.1, ha2.2⟩ | omega) (by first | exact ⟨by decide, by decide⟩ | omega) (by first | exact ⟨by decide, by decide⟩ | omega)) ?_
      rintro _ ⟨z5, rfl, hz5⟩
      refine And.intro (by omega) (And.intro ?_ ?_)
      · intro c6
        refine And.intro (True.intro) ?_
        exact ⟨_, rfl, by omega, hp0, (fun j _ => if_no (by omega)), (fun j _ => if_no (by omega)), (fun j _ => if_no (by omega))⟩
      · intro c7
        refine And.intro (by first | exact fi_ ha3.1 ha3.2 rfl | omega) ?_
        refine Exists.intro xm_238 (And.intro mi_238 (And.intro ⟨rfl, rfl, rfl, rfl⟩ (And.intro True.intro ?_)))
        refine fcallp hB0 (ct_M_isIn_27230 (fBz h0 hB0) (by first | exact ⟨ha3.1, ha3.2⟩ | omega) (by first | exact ⟨by decide, by decide⟩ | omega) (by first | exact ⟨by decide, by decide⟩ | omega)) ?_
        rintro _ ⟨z8, rfl, hz8⟩
        refine And.intro (by omega) (And.intro ?_ ?_)
        · intro c9
          refine And.intro ⟨rfl, by decide, by decide⟩ ?_
          refine fload1 rL_741_741_10_10_1_0 h0 hB0 ⟨by decide, by decide⟩ (by first | exact ⟨by decide, by decide⟩ | omega) ?_
          intro z10 lz10 uz10 qz10
          have pz10 := fld_at qz10 10 (by omega)
          refine And.intro (And.intro (by first | exact fi_ lz10 uz10 rfl | omega) (by first | exact ⟨by decide, by decide⟩ | omega)) (And.intro ?_ ?_)
          · intro c11
            refine And.intro ⟨rfl, by decide, by decide⟩ ?_
            refine fload1 rL_741_741_10_10_1_0 h0 hB0 ⟨by decide, by decide⟩ (by first | exact ⟨by decide, by decide⟩ | omega) ?_
            intro z12 lz12 uz12 qz12
            have pz12 := fld_at qz12 10 (by omega)
            refine And.intro ⟨rfl, by decide, by decide⟩ ?_
            refine fstore rS_741_741_4330_4345_3_0 (fzs_sub (by decide +kernel) hW) (by omega) (by first | exact ⟨Int.le_trans (by decide) (Int.le_trans (Int.le_refl _) hz2.1), Int.le_trans (Int.le_trans hz2.2 (Int.le_refl _)) (by decide)⟩ | omega) ?_
            intro IhB13 ehB13 hB13
            have t14 := fup_self ehB13
            have t15 : IhB13 741 10 = I 741 10 := (congrFun (congrFun ehB13 741) 10).trans (fup_ne (by first | exact Or.inl (by decide) | omega))
            refine And.intro ⟨rfl, by decide, by decide⟩ ?_
            refine fstore rS_741_741_4331_4346_3_0 (fzs_sub (by decide +kernel) hW) (by omega) (by first | exact ⟨Int.le_trans (by decide) (Int.le_trans (Int.le_refl _) hz5.1), Int.le_trans (Int.le_trans hz5.2 (Int.le_refl _)) (by decide)⟩ | omega) ?_
            intro IhB16 ehB16 hB16
            have t17 := fup_self ehB16
            have t18 : IhB16 741 10 = IhB13 741 10 := (congrFun (congrFun ehB16 741) 10).trans (fup_ne (by first | exact Or.inl (by decide) | omega))
            refine And.intro ⟨rfl, by decide, by decide⟩ ?_
            refine fstore rS_741_741_4332_4347_3_0 (fzs_sub (by decide +kernel) hW) (by omega) (by first | exact ⟨Int.le_trans (by decide) (Int.le_trans (Int.le_refl _) hz8.1), Int.le_trans (Int.le_trans hz8.2 (Int.le_refl _)) (by decide)⟩ | omega) ?_
            intro IhB19 ehB19 hB19
            have t20 := fup_self ehB19
            have t21 : IhB19 741 10 = IhB16 741 10 := (congrFun (congrFun ehB19 741) 10).trans (fup_ne (by first | exact Or.inl (by decide) | omega))
            refine And.intro ⟨rfl, by decide, by decide⟩ ?_
            refine fload1 rL_741_741_10_10_1_0 h0 hB19 ⟨by decide, by decide⟩ (by first | exact ⟨by decide, by decide⟩ | omega) ?_
            intro z22 lz22 uz22 qz22
            have pz22 := fld_at qz22 10 (by omega)
            refine fstore1 rS_741_741_10_10_1_0 (fzs_sub (by decide +kernel) hW) ⟨by decide, by decide⟩ (by first | exact ⟨by decide, by decide⟩ | omega) (by omega) ?_
            intro IhB23 ehB23 hB23
            have t24 := fup_self ehB23
            have t25 := fup_at ehB23 10 (by first | rfl | omega)
            refine And.intro ⟨rfl, by decide, by decide⟩ ?_
            refine fload1 rL_741_741_10_10_1_0 h0 hB23 ⟨by decide, by decide⟩ (by first | exact ⟨by decide, by decide⟩ | omega) ?_
            intro z26 lz26 uz26 qz26
            have pz26 := fld_at qz26 10 (by omega)
            refine And.intro (True.intro) ?_
            exact ⟨_, rfl, by omega, (sI_ship (sBd_of h0) (by omega) (fun j h hj => ((fup_other ehB23 741 j (Or.inr (by omega))).trans ((fup_other ehB19 741 j (Or.inr (by omega))).trans ((fup_other ehB16 741 j (Or.inr (by omega))).trans (fup_other ehB13 741 j (Or.inr (by omega))))))) (by rw [(fup_other ehB23 741 (4330 + 3 * I 741 10).toNat (Or.inr (by omega))), (fup_other ehB19 741 (4330 + 3 * I 741 10).toNat (Or.inr (by omega))), (fup_other ehB16 741 (4330 + 3 * I 741 10).toNat (Or.inr (by omega))), fup_at ehB13 (4330 + 3 * I 741 10).toNat (by omega)]; omega) (by omega) hp0), (fun j hj => ((fup_other ehB23 741 (4330 + 3 * j) (Or.inr (by omega))).trans ((fup_other ehB19 741 (4330 + 3 * j) (Or.inr (by omega))).trans (fup_other ehB16 741 (4330 + 3 * j) (Or.inr (by omega))))).trans ((fup_if ehB13 (4330 + 3 * j)).trans (if_go (by omega) rfl))), (fun j hj => ((fup_other ehB23 741 (4331 + 3 * j) (Or.inr (by omega))).trans (fup_other ehB19 741 (4331 + 3 * j) (Or.inr (by omega)))).trans ((fup_if ehB16 (4331 + 3 * j)).trans (if_go (by omega) (fup_other ehB13 741 (4331 + 3 * j) (Or.inr (by omega)))))), (fun j hj => (fup_other ehB23 741 (4332 + 3 * j) (Or.inr (by omega))).trans ((fup_if ehB19 (4332 + 3 * j)).trans (if_go (by omega) ((fup_other ehB16 741 (4332 + 3 * j) (Or.inr (by omega))).trans (fup_other ehB13 741 (4332 + 3 * j) (Or.inr (by omega)))))))⟩
          · intro c27
            refine And.intro (True.intro) ?_
            exact ⟨_, rfl, by omega, hp0, (fun j _ => if_no (by omega)), (fun j _ => if_no (by omega)), (fun j _ => if_no (by omega))⟩
        · intro c28
          refine And.intro (True.intro) ?_
          exact ⟨_, rfl, by omega, hp0, (fun j _ => if_no (by omega)), (fun j _ => if_no (by omega)), (fun j _ => if_no (by omega))⟩
set_option maxRecDepth 8000 in
theorem ct_Math_floorMod_805d8 {I : fH} {x0 : Int} {x1 : Int} (h0 : fB bsJ I) (ha0 : ((-2147483648) ≤ x0 ∧ x0 ≤ 2147483647)) (ha1 : (1 ≤ x1 ∧ x1 ≤ 9999)) : fC ρ base n F xTc vwCl xTys D dA la gJ (fbz bsJ znJ (fKc []) I) xm_500 [.inl x0, .inl x1] I (fun _ r => ∃ z, r = some (.inl z) ∧ ((-2147483648) ≤ z ∧ z ≤ 2147483647)) := by
  have hW : fzs [] (fKc []) := fKc_ok _
  refine f_meth (rb := rbJ) (J := []) 1 400 xG xin_500 x6_500 okJ (fB_self h0) ?_ ?_
  · exact fun q h => absurd h List.not_mem_nil
  · have hB0 := fB_self (zn := znJ) (K := fKc []) h0
    refine And.intro (And.intro (by first | exact fi_ ha0.1 ha0.2 rfl | omega) (And.intro (by first | exact fi_ ha1.1 ha1.2 rfl | omega) (And.intro (by omega) rfl))) ?_
    intro z1 hz1 ez1 dz1
    intro z2 hz2 ez2
    refine And.intro (by omega) (And.intro ?_ ?_)
    · intro c3
      refine And.intro (True.intro) ?_
      exact ⟨_, rfl, by omega⟩
    · intro c4
      refine And.intro (by omega) (And.intro ?_ ?_)
      · intro c5
        refine And.intro (True.intro) ?_
        exact ⟨_, rfl, by omega⟩
      · intro c6
        intro z7 hz7 ez7 bz7
        clear ez7
        clear bz7
        refine And.intro (True.intro) ?_
        exact ⟨_, rfl, by omega⟩
abbrev jc_Desk_nextMeeting_028da_17 : Nat → fL → List fV → fH → Prop := fun m lv st I => ∃ (y1 : Int) (y3 : Int) (y4 : Int), lv = [(0, .inr (.inr (some 211))), (1, .inl y1), (2, .inr (.inr (some 1))), (3, .inl y3), (4, .inl y4)] ∧ st = [] ∧ (((0 ≤ y1 ∧ y1 ≤ 5) ∧ (1 ≤ y3 ∧ y3 ≤ 9999) ∧ (0 ≤ y4 ∧ y4 ≤ 12001))) ∧ m = (1 + 1 * (12001 - y4) : Int).toNat
set_option maxRecDepth 8000 in
theorem ct_Desk_nextMeeting_028da {I : fH} {x1 : Int} (h0 : fB bsJ I) (ha1 : (0 ≤ x1 ∧ x1 ≤ 5)) : fC ρ base n F xTc vwCl xTys D dA la gJ (fbz bsJ znJ (fKc []) I) xm_197 [.inr (.inr (some 211)), .inl x1, .inr (.inr (some 1))] I (fun _ r => ∃ z, r = some (.inl z) ∧ ((-2147483648) ≤ z ∧ z ≤ 2147483647)) := by
  have hW : fzs [] (fKc []) := fKc_ok _
  refine f_meth (rb := rbJ) (J := [(17, jc_Desk_nextMeeting_028da_17)]) 12003 400 xG xin_197 x6_197 okJ (fB_self h0) ?_ ?_
  · refine List.forall_mem_cons.mpr ⟨?_, fun q h => absurd h List.not_mem_nil⟩
    · rintro m _ _ I1 hB1 ⟨y1, y3, y4, rfl, rfl, hb, hm⟩
      refine And.intro (And.intro (by first | exact fi_ hb.2.2.1 hb.2.2.2 rfl | omega) (by first | exact ⟨by decide, by decide⟩ | omega)) (And.intro ?_ ?_)
      · intro c1
        refine And.intro (True.intro) ?_
        exact ⟨_, rfl, (by first | exact ⟨by decide, by decide⟩ | omega)⟩
      · intro c2
        refine And.intro ⟨rfl, by decide, by decide⟩ (fgetf fb_1_9 h0 hB1 ?_)
        intro z3 lz3 uz3 qz3
        intro z4 hz4 ez4 bz4
        clear ez4
        clear bz4
        refine And.intro ⟨rfl, by decide, by decide⟩ ?_
        refine fload1 rL_250_250_0_5_1_0 h0 hB1 ⟨by decide, by decide⟩ (by first | exact ⟨hb.1.1, hb.1.2⟩ | omega) ?_
        intro z5 lz5 uz5 qz5
        intro z6 hz6 ez6 bz6
        clear ez6
        clear bz6
        refine Exists.intro xm_500 (And.intro mi_500 (And.intro ⟨rfl, rfl, rfl, rfl⟩ (And.intro True.intro ?_)))
        refine fcallp hB1 (ct_Math_floorMod_805d8 (fBz h0 hB1) (by omega) (by first | exact ⟨hb.2.1.1, hb.2.1.2⟩ | omega)) ?_
        rintro _ ⟨z7, rfl, hz7⟩
        refine And.intro ⟨rfl, by decide, by decide⟩ ?_
        refine fload1 rL_251_251_0_5_1_0 h0 hB1 ⟨by decide, by decide⟩ (by first | exact ⟨hb.1.1, hb.1.2⟩ | omega) ?_
        intro z8 lz8 uz8 qz8
        refine And.intro (And.intro (by first | exact fi_ hz7.1 hz7.2 rfl | omega) (by first | exact fi_ lz8 uz8 rfl | omega)) (And.intro ?_ ?_)
        · intro c9
          exact fcutJ (I := I1) (j := jc_Desk_nextMeeting_028da_17) (lv' := [(0, .inr (.inr (some 211))), (1, .inl _), (2, .inr (.inr (some 1))), (3, .inl _), (4, .inl _)]) (And.intro rfl (And.intro rfl (And.intro rfl (And.intro rfl (And.intro rfl True.intro))))) ⟨_, _, _, rfl, rfl, by omega, rfl⟩ (by omega)
        · intro c10
          refine And.intro ⟨rfl, by decide, by decide⟩ (fgetf fb_1_6 h0 hB1 ?_)
          intro z11 lz11 uz11 qz11
          intro z12 hz12 ez12 bz12
          clear ez12
          clear bz12
          refine Exists.intro xm_70 (And.intro mi_70 (And.intro ⟨rfl, rfl, rfl, rfl⟩ (And.intro rfl ?_)))
          refine fcallp hB1 (ct_City_isDayAt_bb9dd (fBz h0 hB1) (by omega)) ?_
          rintro _ ⟨z13, rfl, hz13⟩
          refine And.intro (by omega) (And.intro ?_ ?_)
          · intro c14
            exact fcutJ (I := I1) (j := jc_Desk_nextMeeting_028da_17) (lv' := [(0, .inr (.inr (some 211))), (1, .inl _), (2, .inr (.inr (some 1))), (3, .inl _), (4, .inl _)]) (And.intro rfl (And.intro rfl (And.intro rfl (And.intro rfl (And.intro rfl True.intro))))) ⟨_, _, _, rfl, rfl, by omega, rfl⟩ (by omega)
          · intro c15
            refine And.intro (True.intro) ?_
            exact ⟨_, rfl, by omega⟩
  · have hB0 := fB_self (zn := znJ) (K := fKc []) h0
    refine And.intro ⟨rfl, by decide, by decide⟩ ?_
    refine fload1 rL_249_249_0_5_1_0 h0 hB0 ⟨by decide, by decide⟩ (by first | exact ⟨ha1.1, ha1.2⟩ | omega) ?_
    intro z16 lz16 uz16 qz16
    refine And.intro (by first | exact fi_ lz16 uz16 rfl | omega) (And.intro ?_ ?_)
    · intro c17
      exact fcutJ (I := I) (j := jc_Desk_nextMeeting_028da_17) (lv' := [(0, .inr (.inr (some 211))), (1, .inl _), (2, .inr (.inr (some 1))), (3, .inl _), (4, .inl _)]) (And.intro rfl (And.intro rfl (And.intro rfl (And.intro rfl (And.intro rfl True.intro))))) ⟨_, _, _, rfl, rfl, by omega, rfl⟩ (by omega)
    · intro c18
      refine And.intro (True.intro) ?_
      exact ⟨_, rfl, (by first | exact ⟨by decide, by decide⟩ | omega)⟩
set_option maxRecDepth 8000 in
theorem ct_X_window_54b3b {I : fH} {x1 : Int} (h0 : fB bsJ I) (ha1 : ((-2147483648) ≤ x1 ∧ x1 ≤ 2147483647)) : fC ρ base n F xTc vwCl xTys D dA la gJ (fbz bsJ znJ (fKc []) I) xm_196 [.inr (.inr (some 0)), .inl x1] I (fun _ r => ∃ z, r = some (.inl z) ∧ ((-2147483648) ≤ z ∧ z ≤ 2147483647)) := by
  have hW : fzs [] (fKc []) := fKc_ok _
  refine f_meth (rb := rbJ) (J := []) 1 400 xG xin_196 x6_196 okJ (fB_self h0) ?_ ?_
  · exact fun q h => absurd h List.not_mem_nil
  · have hB0 := fB_self (zn := znJ) (K := fKc []) h0
    refine And.intro ⟨rfl, by decide, by decide⟩ ?_
    refine And.intro ⟨rfl, by decide, by decide⟩ (fgetf fb_211_8 h0 hB0 ?_)
    intro z1 lz1 uz1 qz1
    refine Exists.intro xm_13 (And.intro mi_13 (And.intro ⟨rfl, rfl, rfl, rfl⟩ (And.intro True.intro ?_)))
    refine fcallp hB0 (ct_X_within_c27b1 (fBz h0 hB0) (by first | exact ⟨ha1.1, ha1.2⟩ | omega) (by first | exact ⟨by decide, by decide⟩ | omega) (by omega)) ?_
    rintro _ ⟨z2, rfl, hz2⟩
    refine And.intro (by omega) (And.intro ?_ ?_)
    · intro c3
      refine And.intro (True.intro) ?_
      exact ⟨_, rfl, by omega⟩
    · intro c4
      refine And.intro ⟨rfl, by decide, by decide⟩ ?_
      refine And.intro ⟨rfl, by decide, by decide⟩ ?_
      refine Exists.intro xm_197 (And.intro mi_197 (And.intro ⟨rfl, rfl, rfl, rfl⟩ (And.intro rfl ?_)))
      refine fcallp hB0 (ct_Desk_nextMeeting_028da (fBz h0 hB0) (by omega)) ?_
      rintro _ ⟨z5, rfl, hz5⟩
      refine And.intro (True.intro) ?_
      exact ⟨_, rfl, (by first | exact ⟨hz5.1, hz5.2⟩ | omega)⟩
abbrev jc_M_window_94a7b_37 : Nat → fL → List fV → fH → Prop := fun m lv st I => ∃ (y1 : Int) (y2 : Int) (y3 : Int), lv = [(0, .inr (.inr (some 740))), (1, .inl y1), (2, .inl y2), (3, .inl y3)] ∧ st = [] ∧ (((0 ≤ y1 ∧ y1 ≤ 5) ∧ (2 ≤ y2 ∧ y2 ≤ 9999) ∧ (0 ≤ y3 ∧ y3 ≤ 12001))) ∧ m = (1 + 1 * (12001 - y3) : Int).toNat
set_option maxRecDepth 8000 in
theorem ct_M_window_94a7b {I : fH} {x1 : Int} (h0 : fB bsJ I) (ha1 : ((-2147483648) ≤ x1 ∧ x1 ≤ 2147483647)) (hp0 : sI I 741) : fC ρ base n F xTc vwCl xTys D dA la gJ (fbz bsJ znJ (fKc []) I) xm_472 [.inr (.inr (some 740)), .inl x1] I (fun _ r => ∃ z, r = some (.inl z) ∧ ((0 ≤ z ∧ z ≤ 34000) ∨ z = (-1000000005) ∨ z = (-1000000001))) := by
  have hW : fzs [] (fKc []) := fKc_ok _
  refine f_meth (rb := rbJ) (J := [(37, jc_M_window_94a7b_37)]) 12003 400 xG xin_472 x6_472 okJ (fB_self h0) ?_ ?_
  · refine List.forall_mem_cons.mpr ⟨?_, fun q h => absurd h List.not_mem_nil⟩
    · rintro m _ _ I1 hB1 ⟨y1, y2, y3, rfl, rfl, hb, hm⟩
      refine And.intro (And.intro (by first | exact fi_ hb.2.2.1 hb.2.2.2 rfl | omega) (by first | exact ⟨by decide, by decide⟩ | omega)) (And.intro ?_ ?_)
      · intro c1
        refine And.intro (True.intro) ?_
        exact ⟨_, rfl, by omega⟩
      · intro c2
        refine And.intro ⟨rfl, by decide, by decide⟩ ?_
        refine fload1 rL_741_741_0_0_1_0 h0 hB1 ⟨by decide, by decide⟩ (by first | exact ⟨by decide, by decide⟩ | omega) ?_
        intro z3 lz3 uz3 qz3
        have pz3 := fld_at qz3 0 (by omega)
        refine And.intro ⟨rfl, by decide, by decide⟩ ?_
        refine fload rL_741_741_4331_4346_3_0 h0 hB1 (by omega) ?_
        intro z4 lz4 uz4 qz4
        intro z5 hz5 ez5 bz5
        clear ez5
        have bz5 := bz5 (by omega)
        refine And.intro (And.intro (by omega) (And.intro (by first | exact fi_ hb.2.1.1 hb.2.1.2 rfl | omega) (And.intro (by omega) rfl))) ?_
        intro z6 hz6 ez6 dz6
        refine And.intro (by omega) (And.intro ?_ ?_)
        · intro c7
          intro z8 hz8 ez8 bz8
          clear ez8
          try replace bz8 := bz8 (by omega)
          refine And.intro ⟨rfl, by decide, by decide⟩ ?_
          refine fload rL_741_741_4332_4347_3_0 h0 hB1 (by omega) ?_
          intro z9 lz9 uz9 qz9
          refine And.intro (by omega) (And.intro ?_ ?_)
          · intro c10
            exact fcutJ (I := I1) (j := jc_M_window_94a7b_37) (lv' := [(0, .inr (.inr (some 740))), (1, .inl _), (2, .inl _), (3, .inl _)]) (And.intro rfl (And.intro rfl (And.intro rfl (And.intro rfl True.intro)))) ⟨_, _, _, rfl, rfl, by omega, rfl⟩ (by omega)
          · intro c11
            refine And.intro ⟨rfl, by decide, by decide⟩ ?_
            refine fload1 rL_741_741_2_2_1_0 h0 hB1 ⟨by decide, by decide⟩ (by first | exact ⟨by decide, by decide⟩ | omega) ?_
            intro z12 lz12 uz12 qz12
            have pz12 := fld_at qz12 2 (by omega)
            intro z13 hz13 ez13 bz13
            clear ez13
            try replace bz13 := bz13 (by omega)
            refine Exists.intro xm_283 (And.intro mi_283 (And.intro ⟨rfl, rfl, rfl, rfl⟩ (And.intro rfl ?_)))
            refine fcallp hB1 (ct_M_isDay_57f71 (fBz h0 hB1) (by omega)) ?_
            rintro _ ⟨z14, rfl, hz14⟩
            refine And.intro (by omega) (And.intro ?_ ?_)
            · intro c15
              exact fcutJ (I := I1) (j := jc_M_window_94a7b_37) (lv' := [(0, .inr (.inr (some 740))), (1, .inl _), (2, .inl _), (3, .inl _)]) (And.intro rfl (And.intro rfl (And.intro rfl (And.intro rfl True.intro)))) ⟨_, _, _, rfl, rfl, by omega, rfl⟩ (by omega)
            · intro c16
              refine And.intro ⟨rfl, by decide, by decide⟩ ?_
              refine fload1 rL_741_741_0_0_1_0 h0 hB1 ⟨by decide, by decide⟩ (by first | exact ⟨by decide, by decide⟩ | omega) ?_
              intro z17 lz17 uz17 qz17
              have pz17 := fld_at qz17 0 (by omega)
              refine And.intro (True.intro) ?_
              exact ⟨_, rfl, by omega⟩
        · intro c18
          intro z19 hz19 ez19 bz19
          clear ez19
          try replace bz19 := bz19 (by omega)
          refine And.intro ⟨rfl, by decide, by decide⟩ ?_
          refine fload rL_741_741_4332_4347_3_0 h0 hB1 (by omega) ?_
          intro z20 lz20 uz20 qz20
          refine And.intro (by omega) (And.intro ?_ ?_)
          · intro c21
            exact fcutJ (I := I1) (j := jc_M_window_94a7b_37) (lv' := [(0, .inr (.inr (some 740))), (1, .inl _), (2, .inl _), (3, .inl _)]) (And.intro rfl (And.intro rfl (And.intro rfl (And.intro rfl True.intro)))) ⟨_, _, _, rfl, rfl, by omega, rfl⟩ (by omega)
          · intro c22
            refine And.intro ⟨rfl, by decide, by decide⟩ ?_
            refine fload1 rL_741_741_2_2_1_0 h0 hB1 ⟨by decide, by decide⟩ (by first | exact ⟨by decide, by decide⟩ | omega) ?_
            intro z23 lz23 uz23 qz23
            have pz23 := fld_at qz23 2 (by omega)
            intro z24 hz24 ez24 bz24
            clear ez24
            try replace bz24 := bz24 (by omega)
            refine Exists.intro xm_283 (And.intro mi_283 (And.intro ⟨rfl, rfl, rfl, rfl⟩ (And.intro rfl ?_)))
            refine fcallp hB1 (ct_M_isDay_57f71 (fBz h0 hB1) (by omega)) ?_
            rintro _ ⟨z25, rfl, hz25⟩
            refine And.intro (by omega) (And.intro ?_ ?_)
            · intro c26
              exact fcutJ (I := I1) (j := jc_M_window_94a7b_37) (lv' := [(0, .inr (.inr (some 740))), (1, .inl _), (2, .inl _), (3, .inl _)]) (And.intro rfl (And.intro rfl (And.intro rfl (And.intro rfl True.intro)))) ⟨_, _, _, rfl, rfl, by omega, rfl⟩ (by omega)
            · intro c27
              refine And.intro ⟨rfl, by decide, by decide⟩ ?_
              refine fload1 rL_741_741_0_0_1_0 h0 hB1 ⟨by decide, by decide⟩ (by first | exact ⟨by decide, by decide⟩ | omega) ?_
              intro z28 lz28 uz28 qz28
              have pz28 := fld_at qz28 0 (by omega)
              refine And.intro (True.intro) ?_
              exact ⟨_, rfl, by omega⟩
  · have hB0 := fB_self (zn := znJ) (K := fKc []) h0
    refine And.intro (by first | exact fi_ ha1.1 ha1.2 rfl | omega) ?_
    refine And.intro ⟨rfl, by decide, by decide⟩ ?_
    refine fload1 rL_741_741_10_10_1_0 h0 hB0 ⟨by decide, by decide⟩ (by first | exact ⟨by decide, by decide⟩ | omega) ?_
    intro z29 lz29 uz29 qz29
    have pz29 := fld_at qz29 10 (by omega)
    refine And.intro (by omega) ?_
    refine Exists.intro xm_238 (And.intro mi_238 (And.intro ⟨rfl, rfl, rfl, rfl⟩ (And.intro True.intro ?_)))
    refine fcallp hB0 (ct_M_isIn_27230 (fBz h0 hB0) (by first | exact ⟨ha1.1, ha1.2⟩ | omega) (by first | exact ⟨by decide, by decide⟩ | omega) (by omega)) ?_
    rintro _ ⟨z30, rfl, hz30⟩
    refine And.intro (by omega) (And.intro ?_ ?_)
    · intro c31
      refine And.intro ⟨rfl, by decide, by decide⟩ ?_
      refine fload rL_741_741_4330_4345_3_0 h0 hB0 (by omega) ?_
      intro z32 lz32 uz32 qz32
      have w33 := fld_at qz32 (4330 + 3 * x1.toNat) (by omega)
      have v33 := hp0.2.2.1 x1.toNat (by omega)
      exact fcutJ (I := I) (j := jc_M_window_94a7b_37) (lv' := [(0, .inr (.inr (some 740))), (1, .inl _), (2, .inl _), (3, .inl _)]) (And.intro rfl (And.intro rfl (And.intro rfl (And.intro rfl True.intro)))) ⟨_, _, _, rfl, rfl, by omega, rfl⟩ (by omega)
    · intro c33
      refine And.intro (True.intro) ?_
      exact ⟨_, rfl, by omega⟩
set_option maxRecDepth 8000 in
theorem ct_Desk_addLot_b50ff {I : fH} {x1 : Int} {x2 : Int} (h0 : fB bsJ I) (ha1 : (1 ≤ x1 ∧ x1 ≤ 9999)) (ha2 : (0 ≤ x2 ∧ x2 ≤ 999)) : fC ρ base n F xTc vwCl xTys D dA la gJ (fbz bsJ znJ (fKc wz_8f79a) I) xm_199 [.inr (.inr (some 211)), .inl x1, .inl x2] I (fun I' r => ∃ z, r = some (.inl z) ∧ (((0 ≤ z ∧ z ≤ 9) ∨ z = (-1000000003)) ∧ ((I 211 11 < 10 → z = I 211 11 ∧ I' 211 11 = I 211 11 + 1) ∧ (10 ≤ I 211 11 → z = (-1000000003) ∧ I' 211 11 = I 211 11))) ∧ (∀ j : Nat, I' 252 j = if (j : Int) = z then x1 else I 252 j) ∧ (∀ j : Nat, I' 253 j = if (j : Int) = z then x2 else I 253 j)) := by
  have hW : fzs wz_8f79a (fKc wz_8f79a) := fKc_ok _
  refine f_meth (rb := rbJ) (J := []) 1 400 xG xin_199 x6_199 okJ (fB_self h0) ?_ ?_
  · exact fun q h => absurd h List.not_mem_nil
  · have hB0 := fB_self (zn := znJ) (K := fKc wz_8f79a) h0
    refine And.intro ⟨rfl, by decide, by decide⟩ (fgetf fb_211_11 h0 hB0 ?_)
    intro z1 lz1 uz1 qz1
    refine And.intro (And.intro (by first | exact fi_ lz1 uz1 rfl | omega) (by first | exact ⟨by decide, by decide⟩ | omega)) (And.intro ?_ ?_)
    · intro c2
      refine And.intro ⟨rfl, by decide, by decide⟩ ?_
      refine fstore1 rS_252_252_0_9_1_0 (fzs_sub (by decide +kernel) hW) ⟨by decide, by decide⟩ (by first | exact ⟨lz1, Int.le_trans (Int.le_sub_one_of_lt (Int.lt_of_lt_of_le c2 (Int.le_refl _))) (by decide)⟩ | omega) (by first | exact ⟨Int.le_trans (by decide) ha1.1, ha1.2⟩ | omega) ?_
      intro IhB3 ehB3 hB3
      have t4 := fup_self ehB3
      have t5 : IhB3 211 11 = I 211 11 := (congrFun (congrFun ehB3 211) 11).trans (fup_ne (by first | exact Or.inl (by decide) | omega))
      refine And.intro ⟨rfl, by decide, by decide⟩ ?_
      refine fstore1 rS_253_253_0_9_1_0 (fzs_sub (by decide +kernel) hW) ⟨by decide, by decide⟩ (by first | exact ⟨lz1, Int.le_trans (Int.le_sub_one_of_lt (Int.lt_of_lt_of_le c2 (Int.le_refl _))) (by decide)⟩ | omega) (by first | exact ⟨ha2.1, ha2.2⟩ | omega) ?_
      intro IhB6 ehB6 hB6
      have t7 := fup_self ehB6
      have t8 : IhB6 211 11 = IhB3 211 11 := (congrFun (congrFun ehB6 211) 11).trans (fup_ne (by first | exact Or.inl (by decide) | omega))
      refine And.intro ⟨rfl, by decide, by decide⟩ (And.intro rfl (And.intro (Or.inl rfl) (fputf fb_211_11 (by decide +kernel) hW (by omega) ?_)))
      intro IhB9 ehB9 hB9
      have t10 := fup_at ehB9 11 (by first | rfl | omega)
      refine And.intro (True.intro) ?_
      exact ⟨_, rfl, by omega, (fun j => ((fup_other ehB9 252 j (Or.inl (by decide))).trans (fup_other ehB6 252 j (Or.inl (by decide)))).trans ((fup_if ehB3 j).trans (if_go (by omega) rfl))), (fun j => (fup_other ehB9 253 j (Or.inl (by decide))).trans ((fup_if ehB6 j).trans (if_go (by omega) (fup_other ehB3 253 j (Or.inl (by decide))))))⟩
    · intro c11
      refine And.intro (True.intro) ?_
      exact ⟨_, rfl, by omega, (fun j => if_no (by omega)), (fun j => if_no (by omega))⟩
set_option maxRecDepth 8000 in
theorem ct_X_lot_2a88d {I : fH} {x1 : Int} {x2 : Int} (h0 : fB bsJ I) (ha1 : ((-2147483648) ≤ x1 ∧ x1 ≤ 2147483647)) (ha2 : ((-2147483648) ≤ x2 ∧ x2 ≤ 2147483647)) : fC ρ base n F xTc vwCl xTys D dA la gJ (fbz bsJ znJ (fKc wz_8f79a) I) xm_198 [.inr (.inr (some 0)), .inl x1, .inl x2] I (fun I' r => ∃ z, r = some (.inl z) ∧ (((0 ≤ z ∧ z ≤ 9) ∨ z = (-1000000003) ∨ z = (-1000000001)) ∧ ((1 ≤ x1 ∧ x1 ≤ 9999 ∧ 0 ≤ x2 ∧ x2 ≤ 999 ∧ I 211 11 < 10 → z = I 211 11 ∧ I' 211 11 = I 211 11 + 1) ∧ (1 ≤ x1 ∧ x1 ≤ 9999 ∧ 0 ≤ x2 ∧ x2 ≤ 999 ∧ 10 ≤ I 211 11 → z = (-1000000003) ∧ I' 211 11 = I 211 11) ∧ (¬ (1 ≤ x1 ∧ x1 ≤ 9999 ∧ 0 ≤ x2 ∧ x2 ≤ 999) → z = (-1000000001) ∧ I' 211 11 = I 211 11))) ∧ (∀ j : Nat, I' 252 j = if (j : Int) = z then x1 else I 252 j) ∧ (∀ j : Nat, I' 253 j = if (j : Int) = z then x2 else I 253 j)) := by
  have hW : fzs wz_8f79a (fKc wz_8f79a) := fKc_ok _
  refine f_meth (rb := rbJ) (J := []) 1 400 xG xin_198 x6_198 okJ (fB_self h0) ?_ ?_
  · exact fun q h => absurd h List.not_mem_nil
  · have hB0 := fB_self (zn := znJ) (K := fKc wz_8f79a) h0
    have b1 := fBd fb_211_11 (fBz h0 hB0)
    refine Exists.intro xm_13 (And.intro mi_13 (And.intro ⟨rfl, rfl, rfl, rfl⟩ (And.intro True.intro ?_)))
    refine fcallp hB0 (ct_X_within_c27b1 (fBz h0 hB0) (by first | exact ⟨ha1.1, ha1.2⟩ | omega) (by first | exact ⟨by decide, by decide⟩ | omega) (by first | exact ⟨by decide, by decide⟩ | omega)) ?_
    rintro _ ⟨z2, rfl, hz2⟩
    refine And.intro (by omega) (And.intro ?_ ?_)
    · intro c3
      refine And.intro (True.intro) ?_
      exact ⟨_, rfl, by omega, (by first | exact g0nil0 | exact fun j => if_no (by omega)), (by first | exact g1nil0 | exact fun j => if_no (by omega))⟩
    · intro c4
      refine Exists.intro xm_13 (And.intro mi_13 (And.intro ⟨rfl, rfl, rfl, rfl⟩ (And.intro True.intro ?_)))
      refine fcallp hB0 (ct_X_within_c27b1 (fBz h0 hB0) (by first | exact ⟨ha2.1, ha2.2⟩ | omega) (by first | exact ⟨by decide, by decide⟩ | omega) (by first | exact ⟨by decide, by decide⟩ | omega)) ?_
      rintro _ ⟨z5, rfl, hz5⟩
      refine And.intro (by omega) (And.intro ?_ ?_)
      · intro c6
        refine And.intro (True.intro) ?_
        exact ⟨_, rfl, by omega, (by first | exact g0nil0 | exact fun j => if_no (by omega)), (by first | exact g1nil0 | exact fun j => if_no (by omega))⟩
      · intro c7
        refine And.intro ⟨rfl, by decide, by decide⟩ ?_
        refine Exists.intro xm_199 (And.intro mi_199 (And.intro ⟨rfl, rfl, rfl, rfl⟩ (And.intro rfl ?_)))
        refine fcall _ h0 (fzs_sub (by decide +kernel) hW) hB0 (ct_Desk_addLot_b50ff (fBz h0 hB0) (by first | exact ⟨Int.le_trans (by decide) (Int.le_trans (Int.le_refl _) hz2.1), Int.le_trans (Int.le_trans hz2.2 (Int.le_refl _)) (by decide)⟩ | omega) (by first | exact ⟨Int.le_trans (by decide) (Int.le_trans (Int.le_refl _) hz5.1), Int.le_trans (Int.le_trans hz5.2 (Int.le_refl _)) (by decide)⟩ | omega)) ?_
        rintro IhB9 _ hB9 fhB9 ⟨z8, rfl, hz8, g0z8, g1z8⟩
        refine And.intro (True.intro) ?_
        exact ⟨_, rfl, by omega, (by first | exact g0z8 | exact fun j => if_no (by omega)), (by first | exact g1z8 | exact fun j => if_no (by omega))⟩
set_option maxRecDepth 8000 in
theorem ct_M_lot_a4778 {I : fH} {x1 : Int} {x2 : Int} (h0 : fB bsJ I) (ha1 : ((-2147483648) ≤ x1 ∧ x1 ≤ 2147483647)) (ha2 : ((-2147483648) ≤ x2 ∧ x2 ≤ 2147483647)) : fC ρ base n F xTc vwCl xTys D dA la gJ (fbz bsJ znJ (fKc wz_78ec0) I) xm_473 [.inr (.inr (some 740)), .inl x1, .inl x2] I (fun I' r => ∃ z, r = some (.inl z) ∧ (((0 ≤ z ∧ z ≤ 9) ∨ z = (-1000000003) ∨ z = (-1000000001)) ∧ ((1 ≤ x1 ∧ x1 ≤ 9999 ∧ 0 ≤ x2 ∧ x2 ≤ 999 ∧ I 741 11 < 10 → z = I 741 11 ∧ I' 741 11 = I 741 11 + 1) ∧ (1 ≤ x1 ∧ x1 ≤ 9999 ∧ 0 ≤ x2 ∧ x2 ≤ 999 ∧ 10 ≤ I 741 11 → z = (-1000000003) ∧ I' 741 11 = I 741 11) ∧ (¬ (1 ≤ x1 ∧ x1 ≤ 9999 ∧ 0 ≤ x2 ∧ x2 ≤ 999) → z = (-1000000001) ∧ I' 741 11 = I 741 11))) ∧ (∀ j : Nat, j < 10 → I' 741 (4350 + 2 * j) = if (j : Int) = z then x1 else I 741 (4350 + 2 * j)) ∧ (∀ j : Nat, j < 10 → I' 741 (4351 + 2 * j) = if (j : Int) = z then x2 else I 741 (4351 + 2 * j))) := by
  have hW : fzs wz_78ec0 (fKc wz_78ec0) := fKc_ok _
  refine f_meth (rb := rbJ) (J := []) 1 400 xG xin_473 x6_473 okJ (fB_self h0) ?_ ?_
  · exact fun q h => absurd h List.not_mem_nil
  · have hB0 := fB_self (zn := znJ) (K := fKc wz_78ec0) h0
    have b1 := fBd fb_741_11 (fBz h0 hB0)
    refine And.intro (by first | exact fi_ ha1.1 ha1.2 rfl | omega) ?_
    refine Exists.intro xm_238 (And.intro mi_238 (And.intro ⟨rfl, rfl, rfl, rfl⟩ (And.intro True.intro ?_)))
    refine fcallp hB0 (ct_M_isIn_27230 (fBz h0 hB0) (by first | exact ⟨ha1.1, ha1.2⟩ | omega) (by first | exact ⟨by decide, by decide⟩ | omega) (by first | exact ⟨by decide, by decide⟩ | omega)) ?_
    rintro _ ⟨z2, rfl, hz2⟩
    refine And.intro (by omega) (And.intro ?_ ?_)
    · intro c3
      refine And.intro (True.intro) ?_
      exact ⟨_, rfl, by omega, (fun j _ => if_no (by omega)), (fun j _ => if_no (by omega))⟩
    · intro c4
      refine And.intro (by first | exact fi_ ha2.1 ha2.2 rfl | omega) ?_
      refine Exists.intro xm_238 (And.intro mi_238 (And.intro ⟨rfl, rfl, rfl, rfl⟩ (And.intro True.intro ?_)))
      refine fcallp hB0 (ct_M_isIn_27230 (fBz h0 hB0) (by first | exact ⟨ha2.1, ha2.2⟩ | omega) (by first | exact ⟨by decide, by decide⟩ | omega) (by first | exact ⟨by decide, by decide⟩ | omega)) ?_
      rintro _ ⟨z5, rfl, hz5⟩
      refine And.intro (by omega) (And.intro ?_ ?_)
      · intro c6
        refine And.intro ⟨rfl, by decide, by decide⟩ ?_
        refine fload1 rL_741_741_11_11_1_0 h0 hB0 ⟨by decide, by decide⟩ (by first | exact ⟨by decide, by decide⟩ | omega) ?_
        intro z7 lz7 uz7 qz7
        have pz7 := fld_at qz7 11 (by omega)
        refine And.intro (And.intro (by first | exact fi_ lz7 uz7 rfl | omega) (by first | exact ⟨by decide, by decide⟩ | omega)) (And.intro ?_ ?_)
        · intro c8
          refine And.intro ⟨rfl, by decide, by decide⟩ ?_
          refine And.intro ⟨rfl, by decide, by decide⟩ ?_
          refine fload1 rL_741_741_11_11_1_0 h0 hB0 ⟨by decide, by decide⟩ (by first | exact ⟨by decide, by decide⟩ | omega) ?_
          intro z9 lz9 uz9 qz9
          have pz9 := fld_at qz9 11 (by omega)
          refine fstore rS_741_741_4350_4368_2_0 (fzs_sub (by decide +kernel) hW) (by omega) (by first | exact ⟨Int.le_trans (by decide) (Int.le_trans (Int.le_refl _) hz2.1), Int.le_trans (Int.le_trans hz2.2 (Int.le_refl _)) (by decide)⟩ | omega) ?_
          intro IhB10 ehB10 hB10
          have t11 := fup_self ehB10
          have t12 : IhB10 741 11 = I 741 11 := (congrFun (congrFun ehB10 741) 11).trans (fup_ne (by first | exact Or.inl (by decide) | omega))
          refine And.intro ⟨rfl, by decide, by decide⟩ ?_
          refine And.intro ⟨rfl, by decide, by decide⟩ ?_
          refine fload1 rL_741_741_11_11_1_0 h0 hB10 ⟨by decide, by decide⟩ (by first | exact ⟨by decide, by decide⟩ | omega) ?_
          intro z13 lz13 uz13 qz13
          have pz13 := fld_at qz13 11 (by omega)
          refine fstore rS_741_741_4351_4369_2_0 (fzs_sub (by decide +kernel) hW) (by omega) (by first | exact ⟨Int.le_trans (by decide) (Int.le_trans (Int.le_refl _) hz5.1), Int.le_trans (Int.le_trans hz5.2 (Int.le_refl _)) (by decide)⟩ | omega) ?_
          intro IhB14 ehB14 hB14
          have t15 := fup_self ehB14
          have t16 : IhB14 741 11 = IhB10 741 11 := (congrFun (congrFun ehB14 741) 11).trans (fup_ne (by first | exact Or.inl (by decide) | omega))
          refine And.intro ⟨rfl, by decide, by decide⟩ ?_
          refine fload1 rL_741_741_11_11_1_0 h0 hB14 ⟨by decide, by decide⟩ (by first | exact ⟨by decide, by decide⟩ | omega) ?_
          intro z17 lz17 uz17 qz17
          have pz17 := fld_at qz17 11 (by omega)
          refine fstore1 rS_741_741_11_11_1_0 (fzs_sub (by decide +kernel) hW) ⟨by decide, by decide⟩ (by first | exact ⟨by decide, by decide⟩ | omega) (by omega) ?_
          intro IhB18 ehB18 hB18
          have t19 := fup_self ehB18
          have t20 := fup_at ehB18 11 (by first | rfl | omega)
          refine And.intro ⟨rfl, by decide, by decide⟩ ?_
          refine fload1 rL_741_741_11_11_1_0 h0 hB18 ⟨by decide, by decide⟩ (by first | exact ⟨by decide, by decide⟩ | omega) ?_
          intro z21 lz21 uz21 qz21
          have pz21 := fld_at qz21 11 (by omega)
          refine And.intro (True.intro) ?_
          exact ⟨_, rfl, by omega, (fun j hj => ((fup_other ehB18 741 (4350 + 2 * j) (Or.inr (by omega))).trans (fup_other ehB14 741 (4350 + 2 * j) (Or.inr (by omega)))).trans ((fup_if ehB10 (4350 + 2 * j)).trans (if_go (by omega) rfl))), (fun j hj => (fup_other ehB18 741 (4351 + 2 * j) (Or.inr (by omega))).trans ((fup_if ehB14 (4351 + 2 * j)).trans (if_go (by omega) (fup_other ehB10 741 (4351 + 2 * j) (Or.inr (by omega))))))⟩
        · intro c22
          refine And.intro (True.intro) ?_
          exact ⟨_, rfl, by omega, (fun j _ => if_no (by omega)), (fun j _ => if_no (by omega))⟩
      · intro c23
        refine And.intro (True.intro) ?_
        exact ⟨_, rfl, by omega, (fun j _ => if_no (by omega)), (fun j _ => if_no (by omega))⟩
abbrev jc_Desk_sumOf_9fb57_5 (x2 : Int) : Nat → fL → List fV → fH → Prop := fun m lv st I => ∃ (y2 : Int) (y3 : Int) (y4 : Int), lv = [(0, .inr (.inr (some 211))), (1, .inr (.inr (some 252))), (2, .inl y2), (3, .inl y3), (4, .inl y4)] ∧ st = [] ∧ (((1 ≤ y2 ∧ y2 ≤ 2147483647) ∧ ((-2147483648) ≤ y3 ∧ y3 ≤ 2147483647) ∧ (0 ≤ y4 ∧ y4 ≤ 10) ∧ (y2 = x2) ∧ (y4 ≤ I 211 11)) ∧ (iI y3 = smF (I 252) y2 y4.toNat)) ∧ m = (1 + 1 * (10 - y4) : Int).toNat
set_option maxRecDepth 8000 in
theorem ct_Desk_sumOf_9fb57 {I : fH} {x2 : Int} (h0 : fB bsJ I) (ha2 : (1 ≤ x2 ∧ x2 ≤ 2147483647)) : fC ρ base n F xTc vwCl xTys D dA la gJ (fbz bsJ znJ (fKc []) I) xm_202 [.inr (.inr (some 211)), .inr (.inr (some 252)), .inl x2] I (fun _ r => ∃ z, r = some (.inl z) ∧ ((-2147483648) ≤ z ∧ z ≤ 2147483647) ∧ (iI z = smF (I 252) x2 (I 211 11).toNat)) := by
  have hW : fzs [] (fKc []) := fKc_ok _
  refine f_meth (rb := rbJ) (J := [(5, (jc_Desk_sumOf_9fb57_5 x2))]) 12 400 xG xin_202 x6_202 okJ (fB_self h0) ?_ ?_
  · refine List.forall_mem_cons.mpr ⟨?_, fun q h => absurd h List.not_mem_nil⟩
    · rintro m _ _ I1 hB1 ⟨y2, y3, y4, rfl, rfl, ⟨hb, hx0⟩, hm⟩
      have b1 := fBd fb_211_11 (fBz h0 hB1)
      have eI : I1 = I := fFr_nil (fFr_of hB1)
      refine And.intro ⟨rfl, by decide, by decide⟩ (fgetf fb_211_11 h0 hB1 ?_)
      intro z2 lz2 uz2 qz2
      refine And.intro (And.intro (by first | exact fi_ hb.2.2.1.1 hb.2.2.1.2 rfl | omega) (by first | exact fi_ lz2 uz2 rfl | omega)) (And.intro ?_ ?_)
      · intro c3
        refine And.intro (True.intro) ?_
        exact ⟨_, rfl, (by first | exact ⟨hb.2.1.1, hb.2.1.2⟩ | omega), (by have q := hx0; rw [eI, show y2 = x2 by omega, show y4.toNat = (I 211 11).toNat by rw [← eI]; omega] at q; exact q)⟩
      · intro c4
        intro z5 hz5 ez5
        intro z6 hz6 ez6 bz6
        have bz6 := bz6 (by omega)
        have wb := bt_of hz6 ez5 ez6 (by omega)
        refine And.intro (And.intro (by first | exact fi_ bz6.1 bz6.2 rfl | omega) (by first | exact ⟨by decide, by decide⟩ | omega)) (And.intro ?_ ?_)
        · intro c7
          exact fcutJ (I := I1) (j := (jc_Desk_sumOf_9fb57_5 x2)) (lv' := [(0, .inr (.inr (some 211))), (1, .inr (.inr (some 252))), (2, .inl _), (3, .inl _), (4, .inl _)]) (And.intro rfl (And.intro rfl (And.intro rfl (And.intro rfl (And.intro rfl True.intro))))) ⟨_, _, _, rfl, rfl, ⟨by omega, (by first | exact sm_yes hx0 (by omega) (by omega) (by omega) enil0 qnil0 | exact sm_no hx0 (by omega) (by omega) (by omega))⟩, rfl⟩ (by omega)
        · intro c8
          refine fload1 rL_252_252_0_9_1_0 h0 hB1 ⟨by decide, by decide⟩ (by first | exact ⟨hb.2.2.1.1, Int.le_trans (Int.le_sub_one_of_lt (Int.lt_of_lt_of_le c4 uz2)) (by decide)⟩ | omega) ?_
          intro z9 lz9 uz9 qz9
          intro z10 hz10 ez10 bz10
          clear bz10
          exact fcutJ (I := I1) (j := (jc_Desk_sumOf_9fb57_5 x2)) (lv' := [(0, .inr (.inr (some 211))), (1, .inr (.inr (some 252))), (2, .inl _), (3, .inl _), (4, .inl _)]) (And.intro rfl (And.intro rfl (And.intro rfl (And.intro rfl (And.intro rfl True.intro))))) ⟨_, _, _, rfl, rfl, ⟨by omega, (by first | exact sm_yes hx0 (by omega) (by omega) (by omega) ez10 qz9 | exact sm_no hx0 (by omega) (by omega) (by omega))⟩, rfl⟩ (by omega)
  · have hB0 := fB_self (zn := znJ) (K := fKc []) h0
    have b11 := fBd fb_211_11 (fBz h0 hB0)
    exact fcutJ (I := I) (j := (jc_Desk_sumOf_9fb57_5 x2)) (lv' := [(0, .inr (.inr (some 211))), (1, .inr (.inr (some 252))), (2, .inl _), (3, .inl _), (4, .inl _)]) (And.intro rfl (And.intro rfl (And.intro rfl (And.intro rfl (And.intro rfl True.intro))))) ⟨_, _, _, rfl, rfl, ⟨by omega, iI_0⟩, rfl⟩ (by omega)
abbrev jc_Desk_sumOf_8e437_5 (x2 : Int) : Nat → fL → List fV → fH → Prop := fun m lv st I => ∃ (y2 : Int) (y3 : Int) (y4 : Int), lv = [(0, .inr (.inr (some 211))), (1, .inr (.inr (some 253))), (2, .inl y2), (3, .inl y3), (4, .inl y4)] ∧ st = [] ∧ (((1 ≤ y2 ∧ y2 ≤ 2147483647) ∧ ((-2147483648) ≤ y3 ∧ y3 ≤ 2147483647) ∧ (0 ≤ y4 ∧ y4 ≤ 10) ∧ (y2 = x2) ∧ (y4 ≤ I 211 11)) ∧ (iI y3 = smF (I 253) y2 y4.toNat)) ∧ m = (1 + 1 * (10 - y4) : Int).toNat
set_option maxRecDepth 8000 in
theorem ct_Desk_sumOf_8e437 {I : fH} {x2 : Int} (h0 : fB bsJ I) (ha2 : (1 ≤ x2 ∧ x2 ≤ 2147483647)) : fC ρ base n F xTc vwCl xTys D dA la gJ (fbz bsJ znJ (fKc []) I) xm_202 [.inr (.inr (some 211)), .inr (.inr (some 253)), .inl x2] I (fun _ r => ∃ z, r = some (.inl z) ∧ ((-2147483648) ≤ z ∧ z ≤ 2147483647) ∧ (iI z = smF (I 253) x2 (I 211 11).toNat)) := by
  have hW : fzs [] (fKc []) := fKc_ok _
  refine f_meth (rb := rbJ) (J := [(5, (jc_Desk_sumOf_8e437_5 x2))]) 12 400 xG xin_202 x6_202 okJ (fB_self h0) ?_ ?_
  · refine List.forall_mem_cons.mpr ⟨?_, fun q h => absurd h List.not_mem_nil⟩
    · rintro m _ _ I1 hB1 ⟨y2, y3, y4, rfl, rfl, ⟨hb, hx0⟩, hm⟩
      have b1 := fBd fb_211_11 (fBz h0 hB1)
      have eI : I1 = I := fFr_nil (fFr_of hB1)
      refine And.intro ⟨rfl, by decide, by decide⟩ (fgetf fb_211_11 h0 hB1 ?_)
      intro z2 lz2 uz2 qz2
      refine And.intro (And.intro (by first | exact fi_ hb.2.2.1.1 hb.2.2.1.2 rfl | omega) (by first | exact fi_ lz2 uz2 rfl | omega)) (And.intro ?_ ?_)
      · intro c3
        refine And.intro (True.intro) ?_
        exact ⟨_, rfl, (by first | exact ⟨hb.2.1.1, hb.2.1.2⟩ | omega), (by have q := hx0; rw [eI, show y2 = x2 by omega, show y4.toNat = (I 211 11).toNat by rw [← eI]; omega] at q; exact q)⟩
      · intro c4
        intro z5 hz5 ez5
        intro z6 hz6 ez6 bz6
        have bz6 := bz6 (by omega)
        have wb := bt_of hz6 ez5 ez6 (by omega)
        refine And.intro (And.intro (by first | exact fi_ bz6.1 bz6.2 rfl | omega) (by first | exact ⟨by decide, by decide⟩ | omega)) (And.intro ?_ ?_)
        · intro c7
          exact fcutJ (I := I1) (j := (jc_Desk_sumOf_8e437_5 x2)) (lv' := [(0, .inr (.inr (some 211))), (1, .inr (.inr (some 253))), (2, .inl _), (3, .inl _), (4, .inl _)]) (And.intro rfl (And.intro rfl (And.intro rfl (And.intro rfl (And.intro rfl True.intro))))) ⟨_, _, _, rfl, rfl, ⟨by omega, (by first | exact sm_yes hx0 (by omega) (by omega) (by omega) enil0 qnil0 | exact sm_no hx0 (by omega) (by omega) (by omega))⟩, rfl⟩ (by omega)
        · intro c8
          refine fload1 rL_253_253_0_9_1_0 h0 hB1 ⟨by decide, by decide⟩ (by first | exact ⟨hb.2.2.1.1, Int.le_trans (Int.le_sub_one_of_lt (Int.lt_of_lt_of_le c4 uz2)) (by decide)⟩ | omega) ?_
          intro z9 lz9 uz9 qz9
          intro z10 hz10 ez10 bz10
          clear bz10
          exact fcutJ (I := I1) (j := (jc_Desk_sumOf_8e437_5 x2)) (lv' := [(0, .inr (.inr (some 211))), (1, .inr (.inr (some 253))), (2, .inl _), (3, .inl _), (4, .inl _)]) (And.intro rfl (And.intro rfl (And.intro rfl (And.intro rfl (And.intro rfl True.intro))))) ⟨_, _, _, rfl, rfl, ⟨by omega, (by first | exact sm_yes hx0 (by omega) (by omega) (by omega) ez10 qz9 | exact sm_no hx0 (by omega) (by omega) (by omega))⟩, rfl⟩ (by omega)
  · have hB0 := fB_self (zn := znJ) (K := fKc []) h0
    have b11 := fBd fb_211_11 (fBz h0 hB0)
    exact fcutJ (I := I) (j := (jc_Desk_sumOf_8e437_5 x2)) (lv' := [(0, .inr (.inr (some 211))), (1, .inr (.inr (some 253))), (2, .inl _), (3, .inl _), (4, .inl _)]) (And.intro rfl (And.intro rfl (And.intro rfl (And.intro rfl (And.intro rfl True.intro))))) ⟨_, _, _, rfl, rfl, ⟨by omega, iI_0⟩, rfl⟩ (by omega)
abbrev jc_Desk_bestLots_84d7e_10 (x1 : Int) : Nat → fL → List fV → fH → Prop := fun m lv st I => ∃ (y1 : Int) (y2 : Int) (y3 : Int) (y4 : Int) (y5 : Int), lv = [(0, .inr (.inr (some 211))), (1, .inl y1), (2, .inl y2), (3, .inl y3), (4, .inl y4), (5, .inl y5)] ∧ st = [] ∧ (((0 ≤ y1 ∧ y1 ≤ 99999) ∧ (0 ≤ y2 ∧ y2 ≤ 2147483647) ∧ ((-2147483648) ≤ y3 ∧ y3 ≤ 2147483647) ∧ ((-2147483648) ≤ y4 ∧ y4 ≤ 99999) ∧ (1 ≤ y5 ∧ y5 ≤ 2147483647) ∧ (y1 = x1) ∧ (1 ≤ y5)) ∧ ((y2, y3, y4) = nf (cgF (I 252) (I 253) (I 211 11).toNat y1) (0, 0, 0) (y5 - 1).toNat) ∧ (y5 ≤ tw (I 211 11))) ∧ m = (1 + 1 * (2147483647 - y5) : Int).toNat
set_option maxRecDepth 8000 in
theorem ct_Desk_bestLots_84d7e {I : fH} {x1 : Int} (h0 : fB bsJ I) (ha1 : (0 ≤ x1 ∧ x1 ≤ 99999)) : fC ρ base n F xTc vwCl xTys D dA la gJ (fbz bsJ znJ (fKc []) I) xm_201 [.inr (.inr (some 211)), .inl x1] I (fun _ r => ∃ z, r = some (.inl z) ∧ (0 ≤ z ∧ z ≤ 2147483647) ∧ (z = (nf (cgF (I 252) (I 253) (I 211 11).toNat x1) (0, 0, 0) (tw (I 211 11) - 1).toNat).1)) := by
  have hW : fzs [] (fKc []) := fKc_ok _
  refine f_meth (rb := rbJ) (J := [(10, (jc_Desk_bestLots_84d7e_10 x1))]) 2147483648 400 xG xin_201 x6_201 okJ (fB_self h0) ?_ ?_
  · refine List.forall_mem_cons.mpr ⟨?_, fun q h => absurd h List.not_mem_nil⟩
    · rintro m _ _ I1 hB1 ⟨y1, y2, y3, y4, y5, rfl, rfl, ⟨hb, hx0, hx1⟩, hm⟩
      have b1 := fBd fb_211_11 (fBz h0 hB1)
      have eI : I1 = I := fFr_nil (fFr_of hB1)
      refine And.intro ⟨rfl, by decide, by decide⟩ (fgetf fb_211_11 h0 hB1 ?_)
      intro z2 lz2 uz2 qz2
      intro z3 hz3 ez3
      have wt := tw_of hz3 ez3
      rw [qz2] at wt
      refine And.intro (by omega) (And.intro ?_ ?_)
      · intro c4
        refine And.intro (True.intro) ?_
        exact ⟨_, rfl, (by first | exact ⟨hb.2.1.1, hb.2.1.2⟩ | omega), (by have q := congrArg Prod.fst hx0; rw [eI, show y1 = x1 by omega, show y5 = tw (I 211 11) by rw [← eI]; omega] at q; exact q)⟩
      · intro c5
        refine And.intro ⟨rfl, by decide, by decide⟩ ?_
        refine Exists.intro xm_202 (And.intro mi_202 (And.intro ⟨rfl, rfl, rfl, rfl⟩ (And.intro rfl ?_)))
        refine fcallp hB1 (ct_Desk_sumOf_9fb57 (fBz h0 hB1) (by first | exact ⟨hb.2.2.2.2.1.1, hb.2.2.2.2.1.2⟩ | omega)) ?_
        rintro _ ⟨z6, rfl, hz6, g0z6⟩
        refine And.intro ⟨rfl, by decide, by decide⟩ ?_
        refine Exists.intro xm_202 (And.intro mi_202 (And.intro ⟨rfl, rfl, rfl, rfl⟩ (And.intro rfl ?_)))
        refine fcallp hB1 (ct_Desk_sumOf_8e437 (fBz h0 hB1) (by first | exact ⟨hb.2.2.2.2.1.1, hb.2.2.2.2.1.2⟩ | omega)) ?_
        rintro _ ⟨z7, rfl, hz7, g0z7⟩
        refine And.intro (And.intro (by first | exact fi_ hz7.1 hz7.2 rfl | omega) (by first | exact fi_ hb.2.2.1.1 hb.2.2.1.2 rfl | omega)) (And.intro ?_ ?_)
        · intro c8
          refine And.intro (And.intro (by first | exact fi_ hz6.1 hz6.2 rfl | omega) (by first | exact fi_ hb.1.1 hb.1.2 rfl | omega)) (And.intro ?_ ?_)
          · intro c9
            exact fcutJ (I := I1) (j := (jc_Desk_bestLots_84d7e_10 x1)) (lv' := [(0, .inr (.inr (some 211))), (1, .inl _), (2, .inl _), (3, .inl _), (4, .inl _), (5, .inl _)]) (And.intro rfl (And.intro rfl (And.intro rfl (And.intro rfl (And.intro rfl (And.intro rfl True.intro)))))) ⟨_, _, _, _, _, rfl, rfl, ⟨by omega, (by first | exact cg_yes hx0 (by omega) (by omega) (by omega) (by omega) g0z6 g0z7 (by omega) | exact cg_no hx0 (by omega) (by omega) (by omega) (by omega) g0z6 g0z7 (by omega)), (by omega)⟩, rfl⟩ (by omega)
          · intro c10
            refine And.intro (by first | exact ⟨by decide, by decide⟩ | omega) (And.intro ?_ ?_)
            · intro c11
              exact fcutJ (I := I1) (j := (jc_Desk_bestLots_84d7e_10 x1)) (lv' := [(0, .inr (.inr (some 211))), (1, .inl _), (2, .inl _), (3, .inl _), (4, .inl _), (5, .inl _)]) (And.intro rfl (And.intro rfl (And.intro rfl (And.intro rfl (And.intro rfl (And.intro rfl True.intro)))))) ⟨_, _, _, _, _, rfl, rfl, ⟨by omega, (by first | exact cg_yes hx0 (by omega) (by omega) (by omega) (by omega) g0z6 g0z7 (by omega) | exact cg_no hx0 (by omega) (by omega) (by omega) (by omega) g0z6 g0z7 (by omega)), (by omega)⟩, rfl⟩ (by omega)
            · intro c12
              exact fcutJ (I := I1) (j := (jc_Desk_bestLots_84d7e_10 x1)) (lv' := [(0, .inr (.inr (some 211))), (1, .inl _), (2, .inl _), (3, .inl _), (4, .inl _), (5, .inl _)]) (And.intro rfl (And.intro rfl (And.intro rfl (And.intro rfl (And.intro rfl (And.intro rfl True.intro)))))) ⟨_, _, _, _, _, rfl, rfl, ⟨by omega, (by first | exact cg_yes hx0 (by omega) (by omega) (by omega) (by omega) g0z6 g0z7 (by omega) | exact cg_no hx0 (by omega) (by omega) (by omega) (by omega) g0z6 g0z7 (by omega)), (by omega)⟩, rfl⟩ (by omega)
        · intro c13
          refine And.intro (And.intro (by first | exact fi_ hz7.1 hz7.2 rfl | omega) (by first | exact fi_ hb.2.2.1.1 hb.2.2.1.2 rfl | omega)) (And.intro ?_ ?_)
          · intro c14
            refine And.intro (And.intro (by first | exact fi_ hz6.1 hz6.2 rfl | omega) (by first | exact fi_ hb.1.1 hb.1.2 rfl | omega)) (And.intro ?_ ?_)
            · intro c15
              exact fcutJ (I := I1) (j := (jc_Desk_bestLots_84d7e_10 x1)) (lv' := [(0, .inr (.inr (some 211))), (1, .inl _), (2, .inl _), (3, .inl _), (4, .inl _), (5, .inl _)]) (And.intro rfl (And.intro rfl (And.intro rfl (And.intro rfl (And.intro rfl (And.intro rfl True.intro)))))) ⟨_, _, _, _, _, rfl, rfl, ⟨by omega, (by first | exact cg_yes hx0 (by omega) (by omega) (by omega) (by omega) g0z6 g0z7 (by omega) | exact cg_no hx0 (by omega) (by omega) (by omega) (by omega) g0z6 g0z7 (by omega)), (by omega)⟩, rfl⟩ (by omega)
            · intro c16
              refine And.intro (by omega) (And.intro ?_ ?_)
              · intro c17
                exact fcutJ (I := I1) (j := (jc_Desk_bestLots_84d7e_10 x1)) (lv' := [(0, .inr (.inr (some 211))), (1, .inl _), (2, .inl _), (3, .inl _), (4, .inl _), (5, .inl _)]) (And.intro rfl (And.intro rfl (And.intro rfl (And.intro rfl (And.intro rfl (And.intro rfl True.intro)))))) ⟨_, _, _, _, _, rfl, rfl, ⟨by omega, (by first | exact cg_yes hx0 (by omega) (by omega) (by omega) (by omega) g0z6 g0z7 (by omega) | exact cg_no hx0 (by omega) (by omega) (by omega) (by omega) g0z6 g0z7 (by omega)), (by omega)⟩, rfl⟩ (by omega)
              · intro c18
                exact fcutJ (I := I1) (j := (jc_Desk_bestLots_84d7e_10 x1)) (lv' := [(0, .inr (.inr (some 211))), (1, .inl _), (2, .inl _), (3, .inl _), (4, .inl _), (5, .inl _)]) (And.intro rfl (And.intro rfl (And.intro rfl (And.intro rfl (And.intro rfl (And.intro rfl True.intro)))))) ⟨_, _, _, _, _, rfl, rfl, ⟨by omega, (by first | exact cg_yes hx0 (by omega) (by omega) (by omega) (by omega) g0z6 g0z7 (by omega) | exact cg_no hx0 (by omega) (by omega) (by omega) (by omega) g0z6 g0z7 (by omega)), (by omega)⟩, rfl⟩ (by omega)
          · intro c19
            refine And.intro (And.intro (by first | exact fi_ hz6.1 hz6.2 rfl | omega) (by first | exact fi_ hb.2.2.2.1.1 hb.2.2.2.1.2 rfl | omega)) (And.intro ?_ ?_)
            · intro c20
              refine And.intro (And.intro (by first | exact fi_ hz6.1 hz6.2 rfl | omega) (by first | exact fi_ hb.1.1 hb.1.2 rfl | omega)) (And.intro ?_ ?_)
              · intro c21
                exact fcutJ (I := I1) (j := (jc_Desk_bestLots_84d7e_10 x1)) (lv' := [(0, .inr (.inr (some 211))), (1, .inl _), (2, .inl _), (3, .inl _), (4, .inl _), (5, .inl _)]) (And.intro rfl (And.intro rfl (And.intro rfl (And.intro rfl (And.intro rfl (And.intro rfl True.intro)))))) ⟨_, _, _, _, _, rfl, rfl, ⟨by omega, (by first | exact cg_yes hx0 (by omega) (by omega) (by omega) (by omega) g0z6 g0z7 (by omega) | exact cg_no hx0 (by omega) (by omega) (by omega) (by omega) g0z6 g0z7 (by omega)), (by omega)⟩, rfl⟩ (by omega)
              · intro c22
                refine And.intro (by omega) (And.intro ?_ ?_)
                · intro c23
                  exact fcutJ (I := I1) (j := (jc_Desk_bestLots_84d7e_10 x1)) (lv' := [(0, .inr (.inr (some 211))), (1, .inl _), (2, .inl _), (3, .inl _), (4, .inl _), (5, .inl _)]) (And.intro rfl (And.intro rfl (And.intro rfl (And.intro rfl (And.intro rfl (And.intro rfl True.intro)))))) ⟨_, _, _, _, _, rfl, rfl, ⟨by omega, (by first | exact cg_yes hx0 (by omega) (by omega) (by omega) (by omega) g0z6 g0z7 (by omega) | exact cg_no hx0 (by omega) (by omega) (by omega) (by omega) g0z6 g0z7 (by omega)), (by omega)⟩, rfl⟩ (by omega)
                · intro c24
                  exact fcutJ (I := I1) (j := (jc_Desk_bestLots_84d7e_10 x1)) (lv' := [(0, .inr (.inr (some 211))), (1, .inl _), (2, .inl _), (3, .inl _), (4, .inl _), (5, .inl _)]) (And.intro rfl (And.intro rfl (And.intro rfl (And.intro rfl (And.intro rfl (And.intro rfl True.intro)))))) ⟨_, _, _, _, _, rfl, rfl, ⟨by omega, (by first | exact cg_yes hx0 (by omega) (by omega) (by omega) (by omega) g0z6 g0z7 (by omega) | exact cg_no hx0 (by omega) (by omega) (by omega) (by omega) g0z6 g0z7 (by omega)), (by omega)⟩, rfl⟩ (by omega)
            · intro c25
              refine And.intro (And.intro (by first | exact fi_ hz6.1 (Int.le_sub_one_of_lt (Int.lt_of_lt_of_le c25 hb.2.2.2.1.2)) rfl | omega) (by first | exact fi_ hb.1.1 hb.1.2 rfl | omega)) (And.intro ?_ ?_)
              · intro c26
                exact fcutJ (I := I1) (j := (jc_Desk_bestLots_84d7e_10 x1)) (lv' := [(0, .inr (.inr (some 211))), (1, .inl _), (2, .inl _), (3, .inl _), (4, .inl _), (5, .inl _)]) (And.intro rfl (And.intro rfl (And.intro rfl (And.intro rfl (And.intro rfl (And.intro rfl True.intro)))))) ⟨_, _, _, _, _, rfl, rfl, ⟨by omega, (by first | exact cg_yes hx0 (by omega) (by omega) (by omega) (by omega) g0z6 g0z7 (by omega) | exact cg_no hx0 (by omega) (by omega) (by omega) (by omega) g0z6 g0z7 (by omega)), (by omega)⟩, rfl⟩ (by omega)
              · intro c27
                refine And.intro (by first | exact ⟨by decide, by decide⟩ | omega) (And.intro ?_ ?_)
                · intro c28
                  exact fcutJ (I := I1) (j := (jc_Desk_bestLots_84d7e_10 x1)) (lv' := [(0, .inr (.inr (some 211))), (1, .inl _), (2, .inl _), (3, .inl _), (4, .inl _), (5, .inl _)]) (And.intro rfl (And.intro rfl (And.intro rfl (And.intro rfl (And.intro rfl (And.intro rfl True.intro)))))) ⟨_, _, _, _, _, rfl, rfl, ⟨by omega, (by first | exact cg_yes hx0 (by omega) (by omega) (by omega) (by omega) g0z6 g0z7 (by omega) | exact cg_no hx0 (by omega) (by omega) (by omega) (by omega) g0z6 g0z7 (by omega)), (by omega)⟩, rfl⟩ (by omega)
                · intro c29
                  exact fcutJ (I := I1) (j := (jc_Desk_bestLots_84d7e_10 x1)) (lv' := [(0, .inr (.inr (some 211))), (1, .inl _), (2, .inl _), (3, .inl _), (4, .inl _), (5, .inl _)]) (And.intro rfl (And.intro rfl (And.intro rfl (And.intro rfl (And.intro rfl (And.intro rfl True.intro)))))) ⟨_, _, _, _, _, rfl, rfl, ⟨by omega, (by first | exact cg_yes hx0 (by omega) (by omega) (by omega) (by omega) g0z6 g0z7 (by omega) | exact cg_no hx0 (by omega) (by omega) (by omega) (by omega) g0z6 g0z7 (by omega)), (by omega)⟩, rfl⟩ (by omega)
  · have hB0 := fB_self (zn := znJ) (K := fKc []) h0
    have b30 := fBd fb_211_11 (fBz h0 hB0)
    exact fcutJ (I := I) (j := (jc_Desk_bestLots_84d7e_10 x1)) (lv' := [(0, .inr (.inr (some 211))), (1, .inl _), (2, .inl _), (3, .inl _), (4, .inl _), (5, .inl _)]) (And.intro rfl (And.intro rfl (And.intro rfl (And.intro rfl (And.intro rfl (And.intro rfl True.intro)))))) ⟨_, _, _, _, _, rfl, rfl, ⟨by omega, rfl, (tw_1 (by omega))⟩, rfl⟩ (by omega)
set_option maxRecDepth 8000 in
theorem ct_X_cargo_17ae9 {I : fH} {x1 : Int} (h0 : fB bsJ I) (ha1 : ((-2147483648) ≤ x1 ∧ x1 ≤ 2147483647)) : fC ρ base n F xTc vwCl xTys D dA la gJ (fbz bsJ znJ (fKc []) I) xm_200 [.inr (.inr (some 0)), .inl x1] I (fun _ r => ∃ z, r = some (.inl z) ∧ ((0 ≤ z ∧ z ≤ 2147483647) ∨ z = (-1000000001)) ∧ (((0 ≤ x1 ∧ x1 ≤ 99999) ∧ z = (nf (cgF (I 252) (I 253) (I 211 11).toNat x1) (0, 0, 0) (tw (I 211 11) - 1).toNat).1) ∨ (¬ ((0 ≤ x1 ∧ x1 ≤ 99999)) ∧ z = (-1000000001)))) := by
  have hW : fzs [] (fKc []) := fKc_ok _
  refine f_meth (rb := rbJ) (J := []) 1 400 xG xin_200 x6_200 okJ (fB_self h0) ?_ ?_
  · exact fun q h => absurd h List.not_mem_nil
  · have hB0 := fB_self (zn := znJ) (K := fKc []) h0
    refine Exists.intro xm_13 (And.intro mi_13 (And.intro ⟨rfl, rfl, rfl, rfl⟩ (And.intro True.intro ?_)))
    refine fcallp hB0 (ct_X_within_c27b1 (fBz h0 hB0) (by first | exact ⟨ha1.1, ha1.2⟩ | omega) (by first | exact ⟨by decide, by decide⟩ | omega) (by first | exact ⟨by decide, by decide⟩ | omega)) ?_
    rintro _ ⟨z1, rfl, hz1⟩
    refine And.intro (by omega) (And.intro ?_ ?_)
    · intro c2
      refine And.intro (True.intro) ?_
      exact ⟨_, rfl, by omega, (by first | exact Or.inl ⟨by omega, g0nil0⟩ | exact Or.inr ⟨by omega, by omega⟩)⟩
    · intro c3
      refine And.intro ⟨rfl, by decide, by decide⟩ ?_
      refine Exists.intro xm_201 (And.intro mi_201 (And.intro ⟨rfl, rfl, rfl, rfl⟩ (And.intro rfl ?_)))
      refine fcallp hB0 (ct_Desk_bestLots_84d7e (fBz h0 hB0) (by first | exact ⟨Int.le_trans (by decide) (Int.le_trans (Int.le_refl _) hz1.1), Int.le_trans (Int.le_trans hz1.2 (Int.le_refl _)) (by decide)⟩ | omega)) ?_
      rintro _ ⟨z4, rfl, hz4, g0z4⟩
      refine And.intro (True.intro) ?_
      exact ⟨_, rfl, by omega, (by first | exact Or.inl ⟨by omega, g0z4⟩ | exact Or.inr ⟨by omega, by omega⟩)⟩
abbrev jc_M_cargo_a46a8_25 (x1 : Int) : Nat → fL → List fV → fH → Prop := fun m lv st I => ∃ (y1 : Int) (y2 : Int) (y3 : Int) (y4 : Int) (y5 : Int), lv = [(0, .inr (.inr (some 740))), (1, .inl y1), (2, .inl y2), (3, .inl y3), (4, .inl y4), (5, .inl y5)] ∧ st = [] ∧ (((0 ≤ y1 ∧ y1 ≤ 99999) ∧ (0 ≤ y2 ∧ y2 ≤ 2147483647) ∧ (0 ≤ y3 ∧ y3 ≤ 2147483647) ∧ ((-2147483648) ≤ y4 ∧ y4 ≤ 99999) ∧ (1 ≤ y5 ∧ y5 ≤ 2147483647) ∧ (y1 = x1) ∧ (1 ≤ y5) ∧ (0 ≤ x1) ∧ (x1 ≤ 99999)) ∧ ((y2, y3, y4) = nf (cgF (fun k => I 741 (4350 + 2 * k)) (fun k => I 741 (4351 + 2 * k)) (I 741 11).toNat y1) (0, 0, 0) (y5 - 1).toNat) ∧ (y5 ≤ tw (I 741 11))) ∧ m = (12 + 12 * (2147483647 - y5) : Int).toNat
abbrev jc_M_cargo_a46a8_48 (x1 : Int) : Nat → fL → List fV → fH → Prop := fun m lv st I => ∃ (y1 : Int) (y2 : Int) (y3 : Int) (y4 : Int) (y5 : Int) (y6 : Int) (y7 : Int) (y8 : Int), lv = [(0, .inr (.inr (some 740))), (1, .inl y1), (2, .inl y2), (3, .inl y3), (4, .inl y4), (5, .inl y5), (6, .inl y6), (7, .inl y7), (8, .inl y8)] ∧ st = [] ∧ (((0 ≤ y1 ∧ y1 ≤ 99999) ∧ (0 ≤ y2 ∧ y2 ≤ 2147483647) ∧ (0 ≤ y3 ∧ y3 ≤ 2147483647) ∧ ((-2147483648) ≤ y4 ∧ y4 ≤ 99999) ∧ (1 ≤ y5 ∧ y5 ≤ 2147483646) ∧ ((-2147483648) ≤ y6 ∧ y6 ≤ 2147483647) ∧ ((-2147483648) ≤ y7 ∧ y7 ≤ 2147483647) ∧ (0 ≤ y8 ∧ y8 ≤ 10) ∧ (y1 = x1) ∧ (1 ≤ y5) ∧ (0 ≤ x1) ∧ (x1 ≤ 99999) ∧ (y8 ≤ I 741 11)) ∧ ((y2, y3, y4) = nf (cgF (fun k => I 741 (4350 + 2 * k)) (fun k => I 741 (4351 + 2 * k)) (I 741 11).toNat y1) (0, 0, 0) (y5 - 1).toNat) ∧ (y5 < tw (I 741 11)) ∧ (iI y6 = smF (fun k => I 741 (4350 + 2 * k)) y5 y8.toNat) ∧ (iI y7 = smF (fun k => I 741 (4351 + 2 * k)) y5 y8.toNat)) ∧ m = (1 + 12 * (2147483647 - y5) + 1 * (10 - y8) : Int).toNat
set_option maxRecDepth 8000 in
theorem ct_M_cargo_a46a8 {I : fH} {x1 : Int} (h0 : fB bsJ I) (ha1 : ((-2147483648) ≤ x1 ∧ x1 ≤ 2147483647)) : fC ρ base n F xTc vwCl xTys D dA la gJ (fbz bsJ znJ (fKc []) I) xm_474 [.inr (.inr (some 740)), .inl x1] I (fun _ r => ∃ z, r = some (.inl z) ∧ ((0 ≤ z ∧ z ≤ 2147483647) ∨ z = (-1000000001)) ∧ (((0 ≤ x1 ∧ x1 ≤ 99999) ∧ z = (nf (cgF (fun k => I 741 (4350 + 2 * k)) (fun k => I 741 (4351 + 2 * k)) (I 741 11).toNat x1) (0, 0, 0) (tw (I 741 11) - 1).toNat).1) ∨ (¬ ((0 ≤ x1 ∧ x1 ≤ 99999)) ∧ z = (-1000000001)))) := by
  have hW : fzs [] (fKc []) := fKc_ok _
  refine f_meth (rb := rbJ) (J := [(25, (jc_M_cargo_a46a8_25 x1)), (48, (jc_M_cargo_a46a8_48 x1))]) 25769803765 400 xG xin_474 x6_474 okJ (fB_self h0) ?_ ?_
  · refine List.forall_mem_cons.mpr ⟨?_, List.forall_mem_cons.mpr ⟨?_, fun q h => absurd h List.not_mem_nil⟩⟩
    · rintro m _ _ I1 hB1 ⟨y1, y2, y3, y4, y5, rfl, rfl, ⟨hb, hx0, hx1⟩, hm⟩
      have b1 := fBd fb_741_11 (fBz h0 hB1)
      have eI : I1 = I := fFr_nil (fFr_of hB1)
      refine And.intro ⟨rfl, by decide, by decide⟩ ?_
      refine fload1 rL_741_741_11_11_1_0 h0 hB1 ⟨by decide, by decide⟩ (by first | exact ⟨by decide, by decide⟩ | omega) ?_
      intro z2 lz2 uz2 qz2
      have pz2 := fld_at qz2 11 (by omega)
      intro z3 hz3 ez3
      have wt := tw_of hz3 ez3
      rw [pz2] at wt
      refine And.intro (by omega) (And.intro ?_ ?_)
      · intro c4
        refine And.intro (True.intro) ?_
        exact ⟨_, rfl, by omega, (Or.inl ⟨by omega, by have q := congrArg Prod.fst hx0; rw [eI, show y1 = x1 by omega, show y5 = tw (I 741 11) by rw [← eI]; omega] at q; exact q⟩)⟩
      · intro c5
        exact fcutJ (I := I1) (j := (jc_M_cargo_a46a8_48 x1)) (lv' := [(0, .inr (.inr (some 740))), (1, .inl _), (2, .inl _), (3, .inl _), (4, .inl _), (5, .inl _), (6, .inl _), (7, .inl _), (8, .inl _)]) (And.intro rfl (And.intro rfl (And.intro rfl (And.intro rfl (And.intro rfl (And.intro rfl (And.intro rfl (And.intro rfl (And.intro rfl True.intro))))))))) ⟨_, _, _, _, _, _, _, _, rfl, rfl, ⟨by omega, hx0, (by omega), iI_0, iI_0⟩, rfl⟩ (by omega)
    · rintro m _ _ I1 hB1 ⟨y1, y2, y3, y4, y5, y6, y7, y8, rfl, rfl, ⟨hb, hx0, hx1, hx2, hx3⟩, hm⟩
      have b6 := fBd fb_741_11 (fBz h0 hB1)
      have eI : I1 = I := fFr_nil (fFr_of hB1)
      refine And.intro ⟨rfl, by decide, by decide⟩ ?_
      refine fload1 rL_741_741_11_11_1_0 h0 hB1 ⟨by decide, by decide⟩ (by first | exact ⟨by decide, by decide⟩ | omega) ?_
      intro z7 lz7 uz7 qz7
      have pz7 := fld_at qz7 11 (by omega)
      refine And.intro (And.intro (by first | exact fi_ hb.2.2.2.2.2.2.2.1.1 hb.2.2.2.2.2.2.2.1.2 rfl | omega) (by first | exact fi_ lz7 uz7 rfl | omega)) (And.intro ?_ ?_)
      · intro c8
        have w8 : y8.toNat = (I1 741 11).toNat := by omega
        rw [w8] at hx2 hx3
        refine And.intro (And.intro (by first | exact fi_ hb.2.2.2.2.2.1.1 hb.2.2.2.2.2.1.2 rfl | omega) (by first | exact fi_ hb.1.1 hb.1.2 rfl | omega)) (And.intro ?_ ?_)
        · intro c9
          intro z10 hz10 bz10
          have bz10 := bz10 (by omega)
          exact fcutJ (I := I1) (j := (jc_M_cargo_a46a8_25 x1)) (lv' := [(0, .inr (.inr (some 740))), (1, .inl _), (2, .inl _), (3, .inl _), (4, .inl _), (5, .inl _)]) (And.intro rfl (And.intro rfl (And.intro rfl (And.intro rfl (And.intro rfl (And.intro rfl True.intro)))))) ⟨_, _, _, _, _, rfl, rfl, ⟨by omega, (by first | exact cg_yes hx0 (by omega) (by omega) (by omega) (by omega) hx2 hx3 (by omega) | exact cg_no hx0 (by omega) (by omega) (by omega) (by omega) hx2 hx3 (by omega)), (by omega)⟩, rfl⟩ (by omega)
        · intro c11
          refine And.intro (And.intro (by first | exact fi_ hb.2.2.2.2.2.2.1.1 hb.2.2.2.2.2.2.1.2 rfl | omega) (by first | exact fi_ hb.2.2.1.1 hb.2.2.1.2 rfl | omega)) (And.intro ?_ ?_)
          · intro c12
            intro z13 hz13 bz13
            have bz13 := bz13 (by omega)
            exact fcutJ (I := I1) (j := (jc_M_cargo_a46a8_25 x1)) (lv' := [(0, .inr (.inr (some 740))), (1, .inl _), (2, .inl _), (3, .inl _), (4, .inl _), (5, .inl _)]) (And.intro rfl (And.intro rfl (And.intro rfl (And.intro rfl (And.intro rfl (And.intro rfl True.intro)))))) ⟨_, _, _, _, _, rfl, rfl, ⟨by omega, (by first | exact cg_yes hx0 (by omega) (by omega) (by omega) (by omega) hx2 hx3 (by omega) | exact cg_no hx0 (by omega) (by omega) (by omega) (by omega) hx2 hx3 (by omega)), (by omega)⟩, rfl⟩ (by omega)
          · intro c14
            refine And.intro (And.intro (by first | exact fi_ hb.2.2.2.2.2.2.1.1 hb.2.2.2.2.2.2.1.2 rfl | omega) (by first | exact fi_ hb.2.2.1.1 hb.2.2.1.2 rfl | omega)) (And.intro ?_ ?_)
            · intro c15
              intro z16 hz16 bz16
              have bz16 := bz16 (by omega)
              exact fcutJ (I := I1) (j := (jc_M_cargo_a46a8_25 x1)) (lv' := [(0, .inr (.inr (some 740))), (1, .inl _), (2, .inl _), (3, .inl _), (4, .inl _), (5, .inl _)]) (And.intro rfl (And.intro rfl (And.intro rfl (And.intro rfl (And.intro rfl (And.intro rfl True.intro)))))) ⟨_, _, _, _, _, rfl, rfl, ⟨by omega, (by first | exact cg_yes hx0 (by omega) (by omega) (by omega) (by omega) hx2 hx3 (by omega) | exact cg_no hx0 (by omega) (by omega) (by omega) (by omega) hx2 hx3 (by omega)), (by omega)⟩, rfl⟩ (by omega)
            · intro c17
              refine And.intro (And.intro (by first | exact fi_ hb.2.2.2.2.2.1.1 (Int.le_trans c11 hb.1.2) rfl | omega) (by first | exact fi_ hb.2.2.2.1.1 hb.2.2.2.1.2 rfl | omega)) (And.intro ?_ ?_)
              · intro c18
                intro z19 hz19 bz19
                have bz19 := bz19 (by omega)
                exact fcutJ (I := I1) (j := (jc_M_cargo_a46a8_25 x1)) (lv' := [(0, .inr (.inr (some 740))), (1, .inl _), (2, .inl _), (3, .inl _), (4, .inl _), (5, .inl _)]) (And.intro rfl (And.intro rfl (And.intro rfl (And.intro rfl (And.intro rfl (And.intro rfl True.intro)))))) ⟨_, _, _, _, _, rfl, rfl, ⟨by omega, (by first | exact cg_yes hx0 (by omega) (by omega) (by omega) (by omega) hx2 hx3 (by omega) | exact cg_no hx0 (by omega) (by omega) (by omega) (by omega) hx2 hx3 (by omega)), (by omega)⟩, rfl⟩ (by omega)
              · intro c20
                intro z21 hz21 bz21
                have bz21 := bz21 (by omega)
                exact fcutJ (I := I1) (j := (jc_M_cargo_a46a8_25 x1)) (lv' := [(0, .inr (.inr (some 740))), (1, .inl _), (2, .inl _), (3, .inl _), (4, .inl _), (5, .inl _)]) (And.intro rfl (And.intro rfl (And.intro rfl (And.intro rfl (And.intro rfl (And.intro rfl True.intro)))))) ⟨_, _, _, _, _, rfl, rfl, ⟨by omega, (by first | exact cg_yes hx0 (by omega) (by omega) (by omega) (by omega) hx2 hx3 (by omega) | exact cg_no hx0 (by omega) (by omega) (by omega) (by omega) hx2 hx3 (by omega)), (by omega)⟩, rfl⟩ (by omega)
      · intro c22
        intro z23 hz23 ez23
        intro z24 hz24 ez24 bz24
        have bz24 := bz24 (by omega)
        have wb := bt_of hz24 ez23 ez24 (by omega)
        refine And.intro ⟨rfl, by decide, by decide⟩ ?_
        refine fload rL_741_741_4350_4368_2_0 h0 hB1 (by omega) ?_
        intro z25 lz25 uz25 qz25
        intro z26 hz26 ez26 bz26
        clear bz26
        intro z27 hz27 ez27 bz27
        clear bz27
        intro z28 hz28 ez28
        intro z29 hz29 ez29 bz29
        have bz29 := bz29 (by omega)
        have wc := bt_of hz29 ez28 ez29 (by omega)
        refine And.intro ⟨rfl, by decide, by decide⟩ ?_
        refine fload rL_741_741_4351_4369_2_0 h0 hB1 (by omega) ?_
        intro z30 lz30 uz30 qz30
        intro z31 hz31 ez31 bz31
        clear bz31
        intro z32 hz32 ez32 bz32
        clear bz32
        exact fcutJ (I := I1) (j := (jc_M_cargo_a46a8_48 x1)) (lv' := [(0, .inr (.inr (some 740))), (1, .inl _), (2, .inl _), (3, .inl _), (4, .inl _), (5, .inl _), (6, .inl _), (7, .inl _), (8, .inl _)]) (And.intro rfl (And.intro rfl (And.intro rfl (And.intro rfl (And.intro rfl (And.intro rfl (And.intro rfl (And.intro rfl (And.intro rfl True.intro))))))))) ⟨_, _, _, _, _, _, _, _, rfl, rfl, ⟨by omega, hx0, hx1, (sm_mul hx2 (by omega) (by omega) wb (by omega) ez26 ez27 (fld_at qz25 _ (by omega))), (sm_mul hx3 (by omega) (by omega) wc (by omega) ez31 ez32 (fld_at qz30 _ (by omega)))⟩, rfl⟩ (by omega)
  · have hB0 := fB_self (zn := znJ) (K := fKc []) h0
    have b33 := fBd fb_741_11 (fBz h0 hB0)
    refine And.intro (by first | exact fi_ ha1.1 ha1.2 rfl | omega) ?_
    refine Exists.intro xm_238 (And.intro mi_238 (And.intro ⟨rfl, rfl, rfl, rfl⟩ (And.intro True.intro ?_)))
    refine fcallp hB0 (ct_M_isIn_27230 (fBz h0 hB0) (by first | exact ⟨ha1.1, ha1.2⟩ | omega) (by first | exact ⟨by decide, by decide⟩ | omega) (by first | exact ⟨by decide, by decide⟩ | omega)) ?_
    rintro _ ⟨z34, rfl, hz34⟩
    refine And.intro (by omega) (And.intro ?_ ?_)
    · intro c35
      exact fcutJ (I := I) (j := (jc_M_cargo_a46a8_25 x1)) (lv' := [(0, .inr (.inr (some 740))), (1, .inl _), (2, .inl _), (3, .inl _), (4, .inl _), (5, .inl _)]) (And.intro rfl (And.intro rfl (And.intro rfl (And.intro rfl (And.intro rfl (And.intro rfl True.intro)))))) ⟨_, _, _, _, _, rfl, rfl, ⟨by omega, rfl, (tw_1 (by omega))⟩, rfl⟩ (by omega)
    · intro c36
      refine And.intro (True.intro) ?_
      exact ⟨_, rfl, by omega, (Or.inr ⟨by omega, by omega⟩)⟩
set_option maxRecDepth 8000 in
theorem ct_Desk_addBuild_36cf1 {I : fH} {x1 : Int} {x2 : Int} {x3 : Int} (h0 : fB bsJ I) (ha1 : (1 ≤ x1 ∧ x1 ≤ 9)) (ha2 : (1 ≤ x2 ∧ x2 ≤ 99)) (ha3 : (0 ≤ x3 ∧ x3 ≤ 127)) : fC ρ base n F xTc vwCl xTys D dA la gJ (fbz bsJ znJ (fKc wz_84712) I) xm_204 [.inr (.inr (some 211)), .inl x1, .inl x2, .inl x3] I (fun I' r => ∃ z, r = some (.inl z) ∧ (((0 ≤ z ∧ z ≤ 6) ∨ z = (-1000000003)) ∧ ((I 211 15 < 7 → z = I 211 15 ∧ I' 211 15 = I 211 15 + 1) ∧ (7 ≤ I 211 15 → z = (-1000000003) ∧ I' 211 15 = I 211 15))) ∧ (∀ j : Nat, I' 254 j = if (j : Int) = z then x1 else I 254 j) ∧ (∀ j : Nat, I' 255 j = if (j : Int) = z then x2 else I 255 j) ∧ (∀ j : Nat, I' 256 j = if (j : Int) = z then x3 else I 256 j)) := by
  have hW : fzs wz_84712 (fKc wz_84712) := fKc_ok _
  refine f_meth (rb := rbJ) (J := []) 1 400 xG xin_204 x6_204 okJ (fB_self h0) ?_ ?_
  · exact fun q h => absurd h List.not_mem_nil
  · have hB0 := fB_self (zn := znJ) (K := fKc wz_84712) h0
    refine And.intro ⟨rfl, by decide, by decide⟩ (fgetf fb_211_15 h0 hB0 ?_)
    intro z1 lz1 uz1 qz1
    refine And.intro (And.intro (by first | exact fi_ lz1 uz1 rfl | omega) (by first | exact ⟨by decide, by decide⟩ | omega)) (And.intro ?_ ?_)
    · intro c2
      refine And.intro ⟨rfl, by decide, by decide⟩ ?_
      refine fstore1 rS_254_254_0_6_1_0 (fzs_sub (by decide +kernel) hW) ⟨by decide, by decide⟩ (by first | exact ⟨lz1, Int.le_trans (Int.le_sub_one_of_lt (Int.lt_of_lt_of_le c2 (Int.le_refl _))) (by decide)⟩ | omega) (by first | exact ⟨Int.le_trans (by decide) ha1.1, ha1.2⟩ | omega) ?_
      intro IhB3 ehB3 hB3
      have t4 := fup_self ehB3
      have t5 : IhB3 211 15 = I 211 15 := (congrFun (congrFun ehB3 211) 15).trans (fup_ne (by first | exact Or.inl (by decide) | omega))
      refine And.intro ⟨rfl, by decide, by decide⟩ ?_
      refine fstore1 rS_255_255_0_6_1_0 (fzs_sub (by decide +kernel) hW) ⟨by decide, by decide⟩ (by first | exact ⟨lz1, Int.le_trans (Int.le_sub_one_of_lt (Int.lt_of_lt_of_le c2 (Int.le_refl _))) (by decide)⟩ | omega) (by first | exact ⟨Int.le_trans (by decide) ha2.1, ha2.2⟩ | omega) ?_
      intro IhB6 ehB6 hB6
      have t7 := fup_self ehB6
      have t8 : IhB6 211 15 = IhB3 211 15 := (congrFun (congrFun ehB6 211) 15).trans (fup_ne (by first | exact Or.inl (by decide) | omega))
      refine And.intro ⟨rfl, by decide, by decide⟩ ?_
      refine fstore1 rS_256_256_0_6_1_0 (fzs_sub (by decide +kernel) hW) ⟨by decide, by decide⟩ (by first | exact ⟨lz1, Int.le_trans (Int.le_sub_one_of_lt (Int.lt_of_lt_of_le c2 (Int.le_refl _))) (by decide)⟩ | omega) (by first | exact ⟨ha3.1, ha3.2⟩ | omega) ?_
      intro IhB9 ehB9 hB9
      have t10 := fup_self ehB9
      have t11 : IhB9 211 15 = IhB6 211 15 := (congrFun (congrFun ehB9 211) 15).trans (fup_ne (by first | exact Or.inl (by decide) | omega))
      refine And.intro ⟨rfl, by decide, by decide⟩ (And.intro rfl (And.intro (Or.inl rfl) (fputf fb_211_15 (by decide +kernel) hW (by omega) ?_)))
      intro IhB12 ehB12 hB12
      have t13 := fup_at ehB12 15 (by first | rfl | omega)
      refine And.intro (True.intro) ?_
      exact ⟨_, rfl, by omega, (fun j => ((fup_other ehB12 254 j (Or.inl (by decide))).trans ((fup_other ehB9 254 j (Or.inl (by decide))).trans (fup_other ehB6 254 j (Or.inl (by decide))))).trans ((fup_if ehB3 j).trans (if_go (by omega) rfl))), (fun j => ((fup_other ehB12 255 j (Or.inl (by decide))).trans (fup_other ehB9 255 j (Or.inl (by decide)))).trans ((fup_if ehB6 j).trans (if_go (by omega) (fup_other ehB3 255 j (Or.inl (by decide)))))), (fun j => (fup_other ehB12 256 j (Or.inl (by decide))).trans ((fup_if ehB9 j).trans (if_go (by omega) ((fup_other ehB6 256 j (Or.inl (by decide))).trans (fup_other ehB3 256 j (Or.inl (by decide)))))))⟩
    · intro c14
      refine And.intro (True.intro) ?_
      exact ⟨_, rfl, by omega, (fun j => if_no (by omega)), (fun j => if_no (by omega)), (fun j => if_no (by omega))⟩
set_option maxRecDepth 8000 in
theorem ct_X_build_aad8f {I : fH} {x1 : Int} {x2 : Int} {x3 : Int} (h0 : fB bsJ I) (ha1 : ((-2147483648) ≤ x1 ∧ x1 ≤ 2147483647)) (ha2 : ((-2147483648) ≤ x2 ∧ x2 ≤ 2147483647)) (ha3 : ((-2147483648) ≤ x3 ∧ x3 ≤ 2147483647)) : fC ρ base n F xTc vwCl xTys D dA la gJ (fbz bsJ znJ (fKc wz_84712) I) xm_203 [.inr (.inr (some 0)), .inl x1, .inl x2, .inl x3] I (fun I' r => ∃ z, r = some (.inl z) ∧ (((0 ≤ z ∧ z ≤ 6) ∨ z = (-1000000003) ∨ z = (-1000000001)) ∧ ((1 ≤ x1 ∧ x1 ≤ 9 ∧ 1 ≤ x2 ∧ x2 ≤ 99 ∧ 0 ≤ x3 ∧ x3 ≤ 127 ∧ I 211 15 < 7 → z = I 211 15 ∧ I' 211 15 = I 211 15 + 1) ∧ (1 ≤ x1 ∧ x1 ≤ 9 ∧ 1 ≤ x2 ∧ x2 ≤ 99 ∧ 0 ≤ x3 ∧ x3 ≤ 127 ∧ 7 ≤ I 211 15 → z = (-1000000003) ∧ I' 211 15 = I 211 15) ∧ (¬ (1 ≤ x1 ∧ x1 ≤ 9 ∧ 1 ≤ x2 ∧ x2 ≤ 99 ∧ 0 ≤ x3 ∧ x3 ≤ 127) → z = (-1000000001) ∧ I' 211 15 = I 211 15))) ∧ (∀ j : Nat, I' 254 j = if (j : Int) = z then x1 else I 254 j) ∧ (∀ j : Nat, I' 255 j = if (j : Int) = z then x2 else I 255 j) ∧ (∀ j : Nat, I' 256 j = if (j : Int) = z then x3 else I 256 j)) := by
  have hW : fzs wz_84712 (fKc wz_84712) := fKc_ok _
  refine f_meth (rb := rbJ) (J := []) 1 400 xG xin_203 x6_203 okJ (fB_self h0) ?_ ?_
  · exact fun q h => absurd h List.not_mem_nil
  · have hB0 := fB_self (zn := znJ) (K := fKc wz_84712) h0
    have b1 := fBd fb_211_15 (fBz h0 hB0)
    refine Exists.intro xm_13 (And.intro mi_13 (And.intro ⟨rfl, rfl, rfl, rfl⟩ (And.intro True.intro ?_)))
    refine fcallp hB0 (ct_X_within_c27b1 (fBz h0 hB0) (by first | exact ⟨ha1.1, ha1.2⟩ | omega) (by first | exact ⟨by decide, by decide⟩ | omega) (by first | exact ⟨by decide, by decide⟩ | omega)) ?_
    rintro _ ⟨z2, rfl, hz2⟩
    refine And.intro (by omega) (And.intro ?_ ?_)
    · intro c3
      refine And.intro (True.intro) ?_
      exact ⟨_, rfl, by omega, (by first | exact g0nil0 | exact fun j => if_no (by omega)), (by first | exact g1nil0 | exact fun j => if_no (by omega)), (by first | exact g2nil0 | exact fun j => if_no (by omega))⟩
    · intro c4
      refine Exists.intro xm_13 (And.intro mi_13 (And.intro ⟨rfl, rfl, rfl, rfl⟩ (And.intro True.intro ?_)))
      refine fcallp hB0 (ct_X_within_c27b1 (fBz h0 hB0) (by first | exact ⟨ha2.1, ha2.2⟩ | omega) (by first | exact ⟨by decide, by decide⟩ | omega) (by first | exact ⟨by decide, by decide⟩ | omega)) ?_
      rintro _ ⟨z5, rfl, hz5⟩
      refine And.intro (by omega) (And.intro ?_ ?_)
      · intro c6
        refine And.intro (True.intro) ?_
        exact ⟨_, rfl, by omega, (by first | exact g0nil0 | exact fun j => if_no (by omega)), (by first | exact g1nil0 | exact fun j => if_no (by omega)), (by first | exact g2nil0 | exact fun j => if_no (by omega))⟩
      · intro c7
        refine Exists.intro xm_13 (And.intro mi_13 (And.intro ⟨rfl, rfl, rfl, rfl⟩ (And.intro True.intro ?_)))
        refine fcallp hB0 (ct_X_within_c27b1 (fBz h0 hB0) (by first | exact ⟨ha3.1, ha3.2⟩ | omega) (by first | exact ⟨by decide, by decide⟩ | omega) (by first | exact ⟨by decide, by decide⟩ | omega)) ?_
        rintro _ ⟨z8, rfl, hz8⟩
        refine And.intro (by omega) (And.intro ?_ ?_)
        · intro c9
          refine And.intro ⟨rfl, by decide, by decide⟩ ?_
          refine Exists.intro xm_204 (And.intro mi_204 (And.intro ⟨rfl, rfl, rfl, rfl⟩ (And.intro rfl ?_)))
          refine fcall _ h0 (fzs_sub (by decide +kernel) hW) hB0 (ct_Desk_addBuild_36cf1 (fBz h0 hB0) (by first | exact ⟨Int.le_trans (by decide) (Int.le_trans (Int.le_refl _) hz2.1), Int.le_trans (Int.le_trans hz2.2 (Int.le_refl _)) (by decide)⟩ | omega) (by first | exact ⟨Int.le_trans (by decide) (Int.le_trans (Int.le_refl _) hz5.1), Int.le_trans (Int.le_trans hz5.2 (Int.le_refl _)) (by decide)⟩ | omega) (by first | exact ⟨Int.le_trans (by decide) (Int.le_trans (Int.le_refl _) hz8.1), Int.le_trans (Int.le_trans hz8.2 (Int.le_refl _)) (by decide)⟩ | omega)) ?_
          rintro IhB11 _ hB11 fhB11 ⟨z10, rfl, hz10, g0z10, g1z10, g2z10⟩
          refine And.intro (True.intro) ?_
          exact ⟨_, rfl, by omega, (by first | exact g0z10 | exact fun j => if_no (by omega)), (by first | exact g1z10 | exact fun j => if_no (by omega)), (by first | exact g2z10 | exact fun j => if_no (by omega))⟩
        · intro c12
          refine And.intro (True.intro) ?_
          exact ⟨_, rfl, by omega, (by first | exact g0z10 | exact fun j => if_no (by omega)), (by first | exact g1z10 | exact fun j => if_no (by omega)), (by first | exact g2z10 | exact fun j => if_no (by omega))⟩
set_option maxRecDepth 8000 in
theorem ct_M_build_09a60 {I : fH} {x1 : Int} {x2 : Int} {x3 : Int} (h0 : fB bsJ I) (ha1 : ((-2147483648) ≤ x1 ∧ x1 ≤ 2147483647)) (ha2 : ((-2147483648) ≤ x2 ∧ x2 ≤ 2147483647)) (ha3 : ((-2147483648) ≤ x3 ∧ x3 ≤ 2147483647)) : fC ρ base n F xTc vwCl xTys D dA la gJ (fbz bsJ znJ (fKc wz_526cb) I) xm_475 [.inr (.inr (some 740)), .inl x1, .inl x2, .inl x3] I (fun I' r => ∃ z, r = some (.inl z) ∧ (((0 ≤ z ∧ z ≤ 6) ∨ z = (-1000000003) ∨ z = (-1000000001)) ∧ ((1 ≤ x1 ∧ x1 ≤ 9 ∧ 1 ≤ x2 ∧ x2 ≤ 99 ∧ 0 ≤ x3 ∧ x3 ≤ 127 ∧ I 741 12 < 7 → z = I 741 12 ∧ I' 741 12 = I 741 12 + 1) ∧ (1 ≤ x1 ∧ x1 ≤ 9 ∧ 1 ≤ x2 ∧ x2 ≤ 99 ∧ 0 ≤ x3 ∧ x3 ≤ 127 ∧ 7 ≤ I 741 12 → z = (-1000000003) ∧ I' 741 12 = I 741 12) ∧ (¬ (1 ≤ x1 ∧ x1 ≤ 9 ∧ 1 ≤ x2 ∧ x2 ≤ 99 ∧ 0 ≤ x3 ∧ x3 ≤ 127) → z = (-1000000001) ∧ I' 741 12 = I 741 12))) ∧ (∀ j : Nat, j < 7 → I' 741 (4370 + 3 * j) = if (j : Int) = z then x1 else I 741 (4370 + 3 * j)) ∧ (∀ j : Nat, j < 7 → I' 741 (4371 + 3 * j) = if (j : Int) = z then x2 else I 741 (4371 + 3 * j)) ∧ (∀ j : Nat, j < 7 → I' 741 (4372 + 3 * j) = if (j : Int) = z then x3 else I 741 (4372 + 3 * j))) := by
  have hW : fzs wz_526cb (fKc wz_526cb) := fKc_ok _
  refine f_meth (rb := rbJ) (J := []) 1 400 xG xin_475 x6_475 okJ (fB_self h0) ?_ ?_
  · exact fun q h => absurd h List.not_mem_nil
  · have hB0 := fB_self (zn := znJ) (K := fKc wz_526cb) h0
    have b1 := fBd fb_741_12 (fBz h0 hB0)
    refine And.intro (by first | exact fi_ ha1.1 ha1.2 rfl | omega) ?_
    refine Exists.intro xm_238 (And.intro mi_238 (And.intro ⟨rfl, rfl, rfl, rfl⟩ (And.intro True.intro ?_)))
    refine fcallp hB0 (ct_M_isIn_27230 (fBz h0 hB0) (by first | exact ⟨ha1.1, ha1.2⟩ | omega) (by first | exact ⟨by decide, by decide⟩ | omega) (by first | exact ⟨by decide, by decide⟩ | omega)) ?_
    rintro _ ⟨z2, rfl, hz2⟩
    refine And.intro (by omega) (And.intro ?_ ?_)
    · intro c3
      refine And.intro (True.intro) ?_
      exact ⟨_, rfl, by omega, (fun j _ => if_no (by omega)), (fun j _ => if_no (by omega)), (fun j _ => if_no (by omega))⟩
    · intro c4
      refine And.intro (by first | exact fi_ ha2.1 ha2.2 rfl | omega) ?_
      refine Exists.intro xm_238 (And.intro mi_238 (And.intro ⟨rfl, rfl, rfl, rfl⟩ (And.intro True.intro ?_)))
      refine fcallp hB0 (ct_M_isIn_27230 (fBz h0 hB0) (by first | exact ⟨ha2.1, ha2.2⟩ | omega) (by first | exact ⟨by decide, by decide⟩ | omega) (by first | exact ⟨by decide, by decide⟩ | omega)) ?_
      rintro _ ⟨z5, rfl, hz5⟩
      refine And.intro (by omega) (And.intro ?_ ?_)
      · intro c6
        refine And.intro (True.intro) ?_
        exact ⟨_, rfl, by omega, (fun j _ => if_no (by omega)), (fun j _ => if_no (by omega)), (fun j _ => if_no (by omega))⟩
      · intro c7
        refine And.intro (by first | exact fi_ ha3.1 ha3.2 rfl | omega) ?_
        refine Exists.intro xm_238 (And.intro mi_238 (And.intro ⟨rfl, rfl, rfl, rfl⟩ (And.intro True.intro ?_)))
        refine fcallp hB0 (ct_M_isIn_27230 (fBz h0 hB0) (by first | exact ⟨ha3.1, ha3.2⟩ | omega) (by first | exact ⟨by decide, by decide⟩ | omega) (by first | exact ⟨by decide, by decide⟩ | omega)) ?_
        rintro _ ⟨z8, rfl, hz8⟩
        refine And.intro (by omega) (And.intro ?_ ?_)
        · intro c9
          refine And.intro ⟨rfl, by decide, by decide⟩ ?_
          refine fload1 rL_741_741_12_12_1_0 h0 hB0 ⟨by decide, by decide⟩ (by first | exact ⟨by decide, by decide⟩ | omega) ?_
          intro z10 lz10 uz10 qz10
          have pz10 := fld_at qz10 12 (by omega)
          refine And.intro (And.intro (by first | exact fi_ lz10 uz10 rfl | omega) (by first | exact ⟨by decide, by decide⟩ | omega)) (And.intro ?_ ?_)
          · intro c11
            refine And.intro ⟨rfl, by decide, by decide⟩ ?_
            refine fload1 rL_741_741_12_12_1_0 h0 hB0 ⟨by decide, by decide⟩ (by first | exact ⟨by decide, by decide⟩ | omega) ?_
            intro z12 lz12 uz12 qz12
            have pz12 := fld_at qz12 12 (by omega)
            refine And.intro ⟨rfl, by decide, by decide⟩ ?_
            refine fstore rS_741_741_4370_4388_3_0 (fzs_sub (by decide +kernel) hW) (by omega) (by first | exact ⟨Int.le_trans (by decide) (Int.le_trans (Int.le_refl _) hz2.1), Int.le_trans (Int.le_trans hz2.2 (Int.le_refl _)) (by decide)⟩ | omega) ?_
            intro IhB13 ehB13 hB13
            have t14 := fup_self ehB13
            have t15 : IhB13 741 12 = I 741 12 := (congrFun (congrFun ehB13 741) 12).trans (fup_ne (by first | exact Or.inl (by decide) | omega))
            refine And.intro ⟨rfl, by decide, by decide⟩ ?_
            refine fstore rS_741_741_4371_4389_3_0 (fzs_sub (by decide +kernel) hW) (by omega) (by first | exact ⟨Int.le_trans (by decide) (Int.le_trans (Int.le_refl _) hz5.1), Int.le_trans (Int.le_trans hz5.2 (Int.le_refl _)) (by decide)⟩ | omega) ?_
            intro IhB16 ehB16 hB16
            have t17 := fup_self ehB16
            have t18 : IhB16 741 12 = IhB13 741 12 := (congrFun (congrFun ehB16 741) 12).trans (fup_ne (by first | exact Or.inl (by decide) | omega))
            refine And.intro ⟨rfl, by decide, by decide⟩ ?_
            refine fstore rS_741_741_4372_4390_3_0 (fzs_sub (by decide +kernel) hW) (by omega) (by first | exact ⟨Int.le_trans (by decide) (Int.le_trans (Int.le_refl _) hz8.1), Int.le_trans (Int.le_trans hz8.2 (Int.le_refl _)) (by decide)⟩ | omega) ?_
            intro IhB19 ehB19 hB19
            have t20 := fup_self ehB19
            have t21 : IhB19 741 12 = IhB16 741 12 := (congrFun (congrFun ehB19 741) 12).trans (fup_ne (by first | exact Or.inl (by decide) | omega))
            refine And.intro ⟨rfl, by decide, by decide⟩ ?_
            refine fload1 rL_741_741_12_12_1_0 h0 hB19 ⟨by decide, by decide⟩ (by first | exact ⟨by decide, by decide⟩ | omega) ?_
            intro z22 lz22 uz22 qz22
            have pz22 := fld_at qz22 12 (by omega)
            refine fstore1 rS_741_741_12_12_1_0 (fzs_sub (by decide +kernel) hW) ⟨by decide, by decide⟩ (by first | exact ⟨by decide, by decide⟩ | omega) (by omega) ?_
            intro IhB23 ehB23 hB23
            have t24 := fup_self ehB23
            have t25 := fup_at ehB23 12 (by first | rfl | omega)
            refine And.intro ⟨rfl, by decide, by decide⟩ ?_
            refine fload1 rL_741_741_12_12_1_0 h0 hB23 ⟨by decide, by decide⟩ (by first | exact ⟨by decide, by decide⟩ | omega) ?_
            intro z26 lz26 uz26 qz26
            have pz26 := fld_at qz26 12 (by omega)
            refine And.intro (True.intro) ?_
            exact ⟨_, rfl, by omega, (fun j hj => ((fup_other ehB23 741 (4370 + 3 * j) (Or.inr (by omega))).trans ((fup_other ehB19 741 (4370 + 3 * j) (Or.inr (by omega))).trans (fup_other ehB16 741 (4370 + 3 * j) (Or.inr (by omega))))).trans ((fup_if ehB13 (4370 + 3 * j)).trans (if_go (by omega) rfl))), (fun j hj => ((fup_other ehB23 741 (4371 + 3 * j) (Or.inr (by omega))).trans (fup_other ehB19 741 (4371 + 3 * j) (Or.inr (by omega)))).trans ((fup_if ehB16 (4371 + 3 * j)).trans (if_go (by omega) (fup_other ehB13 741 (4371 + 3 * j) (Or.inr (by omega)))))), (fun j hj => (fup_other ehB23 741 (4372 + 3 * j) (Or.inr (by omega))).trans ((fup_if ehB19 (4372 + 3 * j)).trans (if_go (by omega) ((fup_other ehB16 741 (4372 + 3 * j) (Or.inr (by omega))).trans (fup_other ehB13 741 (4372 + 3 * j) (Or.inr (by omega)))))))⟩
          · intro c27
            refine And.intro (True.intro) ?_
            exact ⟨_, rfl, by omega, (fun j _ => if_no (by omega)), (fun j _ => if_no (by omega)), (fun j _ => if_no (by omega))⟩
        · intro c28
          refine And.intro (True.intro) ?_
          exact ⟨_, rfl, by omega, (fun j _ => if_no (by omega)), (fun j _ => if_no (by omega)), (fun j _ => if_no (by omega))⟩
set_option maxRecDepth 8000 in
theorem ct_Order_take_e8cff {I : fH} {x1 : Int} (h0 : fB bsJ I) (ha1 : ((-2147483648) ≤ x1 ∧ x1 ≤ 2147483647)) : fC ρ base n F xTc vwCl xTys D dA la gJ (fbz bsJ znJ (fKc wz_c325e) I) xm_215 [.inr (.inr (some 735)), .inl x1] I (fun I' r => r = none ∧ True ∧ (∀ (p : Nat → Int) (s : sSt), (∀ i : Nat, (i : Int) < I 211 15 → I 737 i = p i) → skR (I 211 15).toNat s I → skR (I 211 15).toNat (sTk p x1 s) I')) := by
  have hW : fzs wz_c325e (fKc wz_c325e) := fKc_ok _
  refine f_meth (rb := rbJ) (J := []) 1 400 xG xin_215 x6_215 okJ (fB_self h0) ?_ ?_
  · exact fun q h => absurd h List.not_mem_nil
  · have hB0 := fB_self (zn := znJ) (K := fKc wz_c325e) h0
    have b1 := fBd fb_211_15 (fBz h0 hB0)
    refine And.intro ⟨rfl, by decide, by decide⟩ (fgetf fb_735_4 h0 hB0 ?_)
    intro z2 lz2 uz2 qz2
    refine And.intro (And.intro (by first | exact fi_ lz2 uz2 rfl | omega) (by first | exact ⟨by decide, by decide⟩ | omega)) (And.intro ?_ ?_)
    · intro c3
      refine And.intro ⟨rfl, by decide, by decide⟩ (And.intro rfl (And.intro (Or.inl rfl) (fputf fb_735_4 (by decide +kernel) hW (by first | exact ⟨ha1.1, ha1.2⟩ | omega) ?_)))
      intro IhB4 ehB4 hB4
      have t5 := fup_at ehB4 4 (by first | rfl | omega)
      refine And.intro ⟨rfl, by decide, by decide⟩ ?_
      refine And.intro ⟨rfl, by decide, by decide⟩ ?_
      refine Exists.intro xm_75 (And.intro mi_75 (And.intro ⟨rfl, rfl, rfl, rfl⟩ (And.intro True.intro ?_)))
      refine fcall _ h0 (fzs_sub (by decide +kernel) hW) hB4 (ct_copyRow (W := [736]) (len := 7) (fBz h0 hB4) (frC_of (by decide +kernel))) ?_
      rintro IhB6 _ hB6 fhB6 ⟨rfl, ehB6⟩
      have t7 := fhB6 735 4 (by decide +kernel)
      exact ⟨rfl, True.intro, (fun p s hp hs => by first | exact tk_yes (by omega) (fun i hi => hp i (by omega)) hs (by omega) ehB4 ehB6 | exact tk_no hs (by omega))⟩
    · intro c8
      refine And.intro ⟨rfl, by decide, by decide⟩ (fgetf fb_735_4 h0 hB0 ?_)
      intro z9 lz9 uz9 qz9
      refine And.intro (And.intro (by first | exact fi_ ha1.1 ha1.2 rfl | omega) (by first | exact fi_ lz9 uz9 rfl | omega)) (And.intro ?_ ?_)
      · intro c10
        exact ⟨rfl, True.intro, (fun p s hp hs => by first | exact tk_yes (by omega) (fun i hi => hp i (by omega)) hs (by omega) ehB4 ehB6 | exact tk_no hs (by omega))⟩
      · intro c11
        refine And.intro ⟨rfl, by decide, by decide⟩ (And.intro rfl (And.intro (Or.inl rfl) (fputf fb_735_4 (by decide +kernel) hW (by first | exact ⟨Int.le_trans (by decide) (Int.add_one_le_of_lt (Int.lt_of_le_of_lt lz9 c11)), ha1.2⟩ | omega) ?_)))
        intro IhB12 ehB12 hB12
        have t13 := fup_at ehB12 4 (by first | rfl | omega)
        refine And.intro ⟨rfl, by decide, by decide⟩ ?_
        refine And.intro ⟨rfl, by decide, by decide⟩ ?_
        refine Exists.intro xm_75 (And.intro mi_75 (And.intro ⟨rfl, rfl, rfl, rfl⟩ (And.intro True.intro ?_)))
        refine fcall _ h0 (fzs_sub (by decide +kernel) hW) hB12 (ct_copyRow (W := [736]) (len := 7) (fBz h0 hB12) (frC_of (by decide +kernel))) ?_
        rintro IhB14 _ hB14 fhB14 ⟨rfl, ehB14⟩
        have t15 := fhB14 735 4 (by decide +kernel)
        exact ⟨rfl, True.intro, (fun p s hp hs => by first | exact tk_yes (by omega) (fun i hi => hp i (by omega)) hs (by omega) ehB12 ehB14 | exact tk_no hs (by omega))⟩
set_option maxRecDepth 8000 in
theorem ct_Order_goOn_992d9 {I : fH} {x2 : Int} {x3 : Int} {x4 : Int} {x5 : Int} (h0 : fB bsJ I) (ha2 : (7 ≤ x2 ∧ x2 ≤ 7)) (ha3 : ((-2147483648) ≤ x3 ∧ x3 ≤ 2147483647)) (ha4 : (0 ≤ x4 ∧ x4 ≤ 63)) (ha5 : ((-2147483648) ≤ x5 ∧ x5 ≤ 2147483647)) (hp0 : 0 ≤ x5 ∧ x5 ≤ 5940 * x2) (hp1 : 0 ≤ I 735 2 ∧ I 735 2 ≤ 60) : fC ρ base n F xTc vwCl xTys D dA la gJ (fbz bsJ znJ (fKc wz_c325e) I) xm_207 [.inr (.inr (some 735)), .inr (.inr (some 211)), .inl x2, .inl x3, .inl x4, .inl x5] I (fun I' r => r = none ∧ True ∧ (∀ (p : Nat → Int) (s : sSt), (∀ i : Nat, (i : Int) < x2 → I 737 i = p i) → skR (I 211 15).toNat s I → skR (I 211 15).toNat (sSk (I 211 15).toNat (I 254) (I 255) (I 256) (I 735 2) 0 x2.toNat x3 x4 x5 p s) I') ∧ (∀ i : Nat, (i : Int) < x2 → I' 737 i = I 737 i)) := by
  have hW : fzs wz_c325e (fKc wz_c325e) := fKc_ok _
  refine f_meth (rb := rbJ) (J := []) 1 400 xG xin_207 x6_207 okJ (fB_self h0) ?_ ?_
  · exact fun q h => absurd h List.not_mem_nil
  · have hB0 := fB_self (zn := znJ) (K := fKc wz_c325e) h0
    have b1 := fBd fb_211_15 (fBz h0 hB0)
    refine And.intro ⟨rfl, by decide, by decide⟩ (fgetf fb_211_15 h0 hB0 ?_)
    intro z2 lz2 uz2 qz2
    refine And.intro (And.intro (by first | exact fi_ ha2.1 ha2.2 rfl | omega) (by first | exact fi_ lz2 uz2 rfl | omega)) (And.intro ?_ ?_)
    · intro c3
      refine Exists.intro xm_215 (And.intro mi_215 (And.intro ⟨rfl, rfl, rfl, rfl⟩ (And.intro rfl ?_)))
      refine fcall _ h0 (fzs_sub (by decide +kernel) hW) hB0 (ct_Order_take_e8cff (fBz h0 hB0) (by first | exact ⟨ha5.1, ha5.2⟩ | omega)) ?_
      rintro IhB5 _ hB5 fhB5 ⟨rfl, hz4, g0z4⟩
      have t6 := fhB5 211 15 (by decide +kernel)
      have k7 := fBz_eq hB5 (a := 211) (j := 15) (by decide +kernel)
      have k8 := fBz_eq hB5 (a := 735) (j := 2) (by decide +kernel)
      exact ⟨rfl, True.intro, (fun p s hp hs => by rw [sk_tk (by omega)]; exact g0z4 p s (fun i hi => hp i (by omega)) hs), (fun i _ => fFr_at fhB5 737 (by decide +kernel) rfl i)⟩
    · intro c9
      exfalso
      omega
end CT

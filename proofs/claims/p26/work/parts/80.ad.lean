/-! contracts (written by gen95.py) -/
theorem x6_213 : f60c xTc xTys xm_213 = true := by decide +kernel
theorem x6_214 : f60c xTc xTys xm_214 = true := by decide +kernel
abbrev wz_79e74 : List Nat := [736, 737, 12102, 12103, 12104]
theorem x6_206 : f60c xTc xTys xm_206 = true := by decide +kernel
theorem x6_205 : f60c xTc xTys xm_205 = true := by decide +kernel
abbrev wz_4d25e : List Nat := [757, 758, 12233, 12234, 12235]
theorem x6_479 : f60c xTc xTys xm_479 = true := by decide +kernel
theorem rL_757_757_0_6_1_0 : frL gJ bsJ 100 ((757, 757), (0, 6), (1, 0), (0, 6)) := frL_of (by decide +kernel)
theorem rS_758_758_0_6_1_0 : frS gJ bsJ znJ [758] 100 ((758, 758), (0, 6), (1, 0), (0, 6)) := frS_of (by decide +kernel)
theorem fb_740_35 : bsJ 740 35 = (0, 1) := by decide +kernel
theorem rL_741_741_4372_4390_3_0 : frL gJ bsJ 100 ((741, 741), (4372, 4390), (3, 0), ((-2147483648), 2147483647)) := frL_hull (by decide) (by decide +kernel)
theorem fb_740_34 : bsJ 740 34 = ((-2147483648), 2147483647) := by decide +kernel
theorem rS_757_757_0_6_1_0 : frS gJ bsJ znJ [757] 100 ((757, 757), (0, 6), (1, 0), (0, 6)) := frS_of (by decide +kernel)
theorem rL_741_741_4370_4388_3_0 : frL gJ bsJ 100 ((741, 741), (4370, 4388), (3, 0), ((-2147483648), 2147483647)) := frL_hull (by decide) (by decide +kernel)
theorem rL_741_741_4371_4389_3_0 : frL gJ bsJ 100 ((741, 741), (4371, 4389), (3, 0), ((-2147483648), 2147483647)) := frL_hull (by decide) (by decide +kernel)
theorem fb_740_33 : bsJ 740 33 = ((-2147483648), 2147483647) := by decide +kernel
theorem x6_480 : f60c xTc xTys xm_480 = true := by decide +kernel
theorem x6_481 : f60c xTc xTys xm_481 = true := by decide +kernel
theorem x6_482 : f60c xTc xTys xm_482 = true := by decide +kernel
theorem x6_483 : f60c xTc xTys xm_483 = true := by decide +kernel
theorem x6_484 : f60c xTc xTys xm_484 = true := by decide +kernel
theorem x6_485 : f60c xTc xTys xm_485 = true := by decide +kernel
theorem x6_486 : f60c xTc xTys xm_486 = true := by decide +kernel
theorem x6_478 : f60c xTc xTys xm_478 = true := by decide +kernel
theorem x6_477 : f60c xTc xTys xm_477 = true := by decide +kernel
theorem x6_476 : f60c xTc xTys xm_476 = true := by decide +kernel
theorem x6_216 : f60c xTc xTys xm_216 = true := by decide +kernel
theorem rL_736_736_0_6_1_0 : frL gJ bsJ 100 ((736, 736), (0, 6), (1, 0), (0, 6)) := frL_of (by decide +kernel)
theorem x6_487 : f60c xTc xTys xm_487 = true := by decide +kernel
theorem rL_758_758_0_6_1_0 : frL gJ bsJ 100 ((758, 758), (0, 6), (1, 0), (0, 6)) := frL_of (by decide +kernel)
abbrev wz_ea84a : List Nat := [738, 10014]
theorem x6_217 : f60c xTc xTys xm_217 = true := by decide +kernel
theorem fb_0_14 : bsJ 0 14 = (0, 60) := by decide +kernel
theorem rS_738_738_0_59_1_0 : frS gJ bsJ znJ [738] 100 ((738, 738), (0, 59), (1, 0), ((-2147483648), 2147483647)) := frS_dflt (by decide) (by decide +kernel)
abbrev wz_f12ac : List Nat := [759, 12237]
theorem x6_488 : f60c xTc xTys xm_488 = true := by decide +kernel
theorem fb_740_37 : bsJ 740 37 = (0, 60) := by decide +kernel
theorem rS_759_759_0_59_1_0 : frS gJ bsJ znJ [759] 100 ((759, 759), (0, 59), (1, 0), ((-2147483648), 2147483647)) := frS_dflt (by decide) (by decide +kernel)
theorem x6_228 : f60c xTc xTys xm_228 = true := by decide +kernel
theorem fb_514_5 : bsJ 514 5 = (0, 20) := by decide +kernel
theorem rL_518_537_0_4_1_0 : frL gJ bsJ 100 ((518, 537), (0, 4), (1, 0), ((-2147483648), 2147483647)) := frL_hull (by decide) (by decide +kernel)
theorem x6_220 : f60c xTc xTys xm_220 = true := by decide +kernel
theorem rL_738_738_0_59_1_0 : frL gJ bsJ 100 ((738, 738), (0, 59), (1, 0), ((-2147483648), 2147483647)) := frL_hull (by decide) (by decide +kernel)
theorem rL_739_739_0_59_1_0 : frL gJ bsJ 100 ((739, 739), (0, 59), (1, 0), ((-2147483648), 2147483647)) := frL_hull (by decide) (by decide +kernel)
theorem rL_686_686_0_23_1_0 : frL gJ bsJ 100 ((686, 686), (0, 23), (1, 0), ((-2147483648), 2147483647)) := frL_hull (by decide) (by decide +kernel)
abbrev wz_e70f1 : List Nat := [693]
theorem rL_693_693_0_23_1_0 : frL gJ bsJ 100 ((693, 693), (0, 23), (1, 0), ((-2147483648), 2147483647)) := frL_hull (by decide) (by decide +kernel)
theorem rS_693_693_0_23_1_0 : frS gJ bsJ znJ [693] 100 ((693, 693), (0, 23), (1, 0), ((-2147483648), 2147483647)) := frS_dflt (by decide) (by decide +kernel)
theorem rL_690_690_0_23_1_0 : frL gJ bsJ 100 ((690, 690), (0, 23), (1, 0), ((-2147483648), 2147483647)) := frL_hull (by decide) (by decide +kernel)
abbrev wz_7eac0 : List Nat := [517, 538]
theorem rS_518_537_0_4_1_0 : frS gJ bsJ znJ [517] 100 ((518, 537), (0, 4), (1, 0), ((-2147483648), 2147483647)) := frS_dflt (by decide) (by decide +kernel)
theorem rL_539_558_0_4_1_0 : frL gJ bsJ 100 ((539, 558), (0, 4), (1, 0), ((-2147483648), 2147483647)) := frL_hull (by decide) (by decide +kernel)
theorem rS_539_558_0_4_1_0 : frS gJ bsJ znJ [538] 100 ((539, 558), (0, 4), (1, 0), ((-2147483648), 2147483647)) := frS_dflt (by decide) (by decide +kernel)
abbrev wz_edb18 : List Nat := [517, 538, 693]
theorem rL_692_692_0_23_1_0 : frL gJ bsJ 100 ((692, 692), (0, 23), (1, 0), (0, 19)) := frL_of (by decide +kernel)
theorem rL_515_515_0_19_1_0 : frL gJ bsJ 100 ((515, 515), (0, 19), (1, 0), ((-2147483648), 2147483647)) := frL_hull (by decide) (by decide +kernel)
abbrev wz_3ed0a : List Nat := [559, 584, 11412]
theorem fb_514_12 : bsJ 514 12 = (0, 90) := by decide +kernel
theorem rgG_518_537 {o : Nat} (h1 : 518 ≤ o) (h2 : o ≤ 537) : gJ.1 o = some (100, 5) ∧ ∀ j, j < 5 → gJ.2 o j = none := frG_of (a0 := 518) (a1 := 537) (by decide +kernel) h1 h2
theorem rgG_585_674 {o : Nat} (h1 : 585 ≤ o) (h2 : o ≤ 674) : gJ.1 o = some (100, 8) ∧ ∀ j, j < 8 → gJ.2 o j = none := frG_of (a0 := 585) (a1 := 674) (by decide +kernel) h1 h2
theorem rS_585_674_0_4_1_0 : frS gJ bsJ znJ [584] 100 ((585, 674), (0, 4), (1, 0), ((-2147483648), 2147483647)) := frS_of (by decide +kernel)
theorem rS_585_674_5_5_1_0 : frS gJ bsJ znJ [584] 100 ((585, 674), (5, 5), (1, 0), ((-2147483648), 2147483647)) := frS_of (by decide +kernel)
theorem rS_585_674_6_6_1_0 : frS gJ bsJ znJ [584] 100 ((585, 674), (6, 6), (1, 0), ((-2147483648), 2147483647)) := frS_of (by decide +kernel)
theorem rS_585_674_7_7_1_0 : frS gJ bsJ znJ [584] 100 ((585, 674), (7, 7), (1, 0), (0, 19)) := frS_of (by decide +kernel)
theorem rgG_560_579 {o : Nat} (h1 : 560 ≤ o) (h2 : o ≤ 579) : gJ.1 o = some (100, 6) ∧ ∀ j, j < 6 → gJ.2 o j = none := frG_of (a0 := 560) (a1 := 579) (by decide +kernel) h1 h2
theorem rS_560_579_0_5_1_0 : frS gJ bsJ znJ [559] 100 ((560, 579), (0, 5), (1, 0), ((-2147483648), 2147483647)) := frS_dflt (by decide) (by decide +kernel)
theorem fb_689_4 : bsJ 689 4 = (0, 24) := by decide +kernel
theorem rL_691_691_0_23_1_0 : frL gJ bsJ 100 ((691, 691), (0, 23), (1, 0), ((-2147483648), 2147483647)) := frL_hull (by decide) (by decide +kernel)
theorem fb_513_9 : bsJ 513 9 = ((-2147483648), 2147483647) := by decide +kernel
theorem fb_513_8 : bsJ 513 8 = ((-2147483648), 2147483647) := by decide +kernel
abbrev wz_10d1b : List Nat := [559]
theorem rL_585_674_7_7_1_0 : frL gJ bsJ 100 ((585, 674), (7, 7), (1, 0), (0, 19)) := frL_of (by decide +kernel)
theorem rL_585_674_5_5_1_0 : frL gJ bsJ 100 ((585, 674), (5, 5), (1, 0), ((-2147483648), 2147483647)) := frL_hull (by decide) (by decide +kernel)
theorem rL_560_579_0_5_1_0 : frL gJ bsJ 100 ((560, 579), (0, 5), (1, 0), ((-2147483648), 2147483647)) := frL_hull (by decide) (by decide +kernel)
theorem rL_585_674_0_5_1_0 : frL gJ bsJ 100 ((585, 674), (0, 5), (1, 0), ((-2147483648), 2147483647)) := frL_hull (by decide) (by decide +kernel)
theorem rL_585_674_6_6_1_0 : frL gJ bsJ 100 ((585, 674), (6, 6), (1, 0), ((-2147483648), 2147483647)) := frL_hull (by decide) (by decide +kernel)
abbrev wz_4c809 : List Nat := [680, 682]
theorem fb_675_13 : bsJ 675 13 = (0, 24) := by decide +kernel
theorem rL_682_682_0_23_1_0 : frL gJ bsJ 100 ((682, 682), (0, 23), (1, 0), ((-2147483648), 2147483647)) := frL_hull (by decide) (by decide +kernel)
theorem rL_681_681_0_23_1_0 : frL gJ bsJ 100 ((681, 681), (0, 23), (1, 0), ((-2147483648), 2147483647)) := frL_hull (by decide) (by decide +kernel)
theorem rS_682_682_0_23_1_0 : frS gJ bsJ znJ [682] 100 ((682, 682), (0, 23), (1, 0), ((-2147483648), 2147483647)) := frS_dflt (by decide) (by decide +kernel)
theorem rL_680_680_0_23_1_0 : frL gJ bsJ 100 ((680, 680), (0, 23), (1, 0), ((-2147483648), 2147483647)) := frL_hull (by decide) (by decide +kernel)
theorem rS_680_680_0_23_1_0 : frS gJ bsJ znJ [680] 100 ((680, 680), (0, 23), (1, 0), ((-2147483648), 2147483647)) := frS_dflt (by decide) (by decide +kernel)
theorem rL_516_516_0_19_1_0 : frL gJ bsJ 100 ((516, 516), (0, 19), (1, 0), ((-2147483648), 2147483647)) := frL_hull (by decide) (by decide +kernel)
theorem rL_676_676_0_23_1_0 : frL gJ bsJ 100 ((676, 676), (0, 23), (1, 0), ((-2147483648), 2147483647)) := frL_hull (by decide) (by decide +kernel)
theorem fb_513_5 : bsJ 513 5 = (0, 600) := by decide +kernel
theorem rL_684_684_0_23_1_0 : frL gJ bsJ 100 ((684, 684), (0, 23), (1, 0), ((-2147483648), 2147483647)) := frL_hull (by decide) (by decide +kernel)
theorem rL_696_696_0_60_1_0 : frL gJ bsJ 100 ((696, 696), (0, 60), (1, 0), ((-2147483648), 2147483647)) := frL_hull (by decide) (by decide +kernel)
theorem rL_687_687_0_23_1_0 : frL gJ bsJ 100 ((687, 687), (0, 23), (1, 0), ((-1000000005), 60)) := frL_of (by decide +kernel)
theorem rL_678_678_0_23_1_0 : frL gJ bsJ 100 ((678, 678), (0, 23), (1, 0), ((-2147483648), 2147483647)) := frL_hull (by decide) (by decide +kernel)
theorem rL_694_694_0_5_1_0 : frL gJ bsJ 100 ((694, 694), (0, 5), (1, 0), ((-2147483648), 2147483647)) := frL_hull (by decide) (by decide +kernel)
abbrev wz_007ef : List Nat := [11305]
theorem rL_582_582_0_23_1_0 : frL gJ bsJ 100 ((582, 582), (0, 23), (1, 0), ((-2147483648), 2147483647)) := frL_hull (by decide) (by decide +kernel)
theorem rL_580_580_0_23_1_0 : frL gJ bsJ 100 ((580, 580), (0, 23), (1, 0), (0, 19)) := frL_of (by decide +kernel)
theorem rL_581_581_0_23_1_0 : frL gJ bsJ 100 ((581, 581), (0, 23), (1, 0), (0, 19)) := frL_of (by decide +kernel)
theorem fb_514_10 : bsJ 514 10 = (0, 24) := by decide +kernel
theorem rL_583_583_0_23_1_0 : frL gJ bsJ 100 ((583, 583), (0, 23), (1, 0), ((-2147483648), 2147483647)) := frL_hull (by decide) (by decide +kernel)
abbrev wz_8d85d : List Nat := [686, 687, 688]
theorem rS_687_687_0_23_1_0 : frS gJ bsJ znJ [687] 100 ((687, 687), (0, 23), (1, 0), ((-1000000005), 60)) := frS_of (by decide +kernel)
theorem rL_688_688_0_23_1_0 : frL gJ bsJ 100 ((688, 688), (0, 23), (1, 0), ((-2147483648), 2147483647)) := frL_hull (by decide) (by decide +kernel)
theorem rL_697_697_0_60_1_0 : frL gJ bsJ 100 ((697, 697), (0, 60), (1, 0), ((-2147483648), 2147483647)) := frL_hull (by decide) (by decide +kernel)
theorem rS_688_688_0_23_1_0 : frS gJ bsJ znJ [688] 100 ((688, 688), (0, 23), (1, 0), ((-2147483648), 2147483647)) := frS_dflt (by decide) (by decide +kernel)
theorem rL_683_683_0_23_1_0 : frL gJ bsJ 100 ((683, 683), (0, 23), (1, 0), ((-2147483648), 2147483647)) := frL_hull (by decide) (by decide +kernel)
theorem rS_686_686_0_23_1_0 : frS gJ bsJ znJ [686] 100 ((686, 686), (0, 23), (1, 0), ((-2147483648), 2147483647)) := frS_dflt (by decide) (by decide +kernel)
abbrev wz_a50d7 : List Nat := [694, 11306]
theorem rS_694_694_0_5_1_0 : frS gJ bsJ znJ [694] 100 ((694, 694), (0, 5), (1, 0), ((-2147483648), 2147483647)) := frS_dflt (by decide) (by decide +kernel)
theorem fb_513_6 : bsJ 513 6 = ((-2147483648), 2147483647) := by decide +kernel
theorem fb_513_7 : bsJ 513 7 = ((-2147483648), 2147483647) := by decide +kernel
theorem rL_677_677_0_23_1_0 : frL gJ bsJ 100 ((677, 677), (0, 23), (1, 0), (0, 19)) := frL_of (by decide +kernel)
abbrev wz_e4d0d : List Nat := [683, 685]
theorem rL_685_685_0_23_1_0 : frL gJ bsJ 100 ((685, 685), (0, 23), (1, 0), ((-2147483648), 2147483647)) := frL_hull (by decide) (by decide +kernel)
theorem rS_683_683_0_23_1_0 : frS gJ bsJ znJ [683] 100 ((683, 683), (0, 23), (1, 0), ((-2147483648), 2147483647)) := frS_dflt (by decide) (by decide +kernel)
theorem rS_685_685_0_23_1_0 : frS gJ bsJ znJ [685] 100 ((685, 685), (0, 23), (1, 0), ((-2147483648), 2147483647)) := frS_dflt (by decide) (by decide +kernel)
abbrev wz_59734 : List Nat := [538, 684]
theorem rS_684_684_0_23_1_0 : frS gJ bsJ znJ [684] 100 ((684, 684), (0, 23), (1, 0), ((-2147483648), 2147483647)) := frS_dflt (by decide) (by decide +kernel)
theorem rL_679_679_0_23_1_0 : frL gJ bsJ 100 ((679, 679), (0, 23), (1, 0), ((-2147483648), 2147483647)) := frL_hull (by decide) (by decide +kernel)
abbrev wz_a2d33 : List Nat := [538, 683, 684, 685]
theorem rL_698_698_0_60_1_0 : frL gJ bsJ 100 ((698, 698), (0, 60), (1, 0), ((-2147483648), 2147483647)) := frL_hull (by decide) (by decide +kernel)
abbrev wz_7903c : List Nat := [517, 538, 694]
abbrev wz_791b2 : List Nat := [517, 538, 683, 684, 685, 686, 687, 688, 694, 11306]
abbrev wz_f7c52 : List Nat := [517, 538, 559, 584, 680, 682, 683, 684, 685, 686, 687, 688, 693, 694, 11305, 11306, 11309, 11412]
abbrev wz_1abc8 : List Nat := [676, 677, 678, 679, 680, 681, 682, 683, 684, 685, 686, 687, 688, 11513]
theorem x6_226 : f60c xTc xTys xm_226 = true := by decide +kernel
theorem fb_419_13 : bsJ 419 13 = (0, 24) := by decide +kernel
abbrev wz_5c8a7 : List Nat := [690, 691, 692, 693, 11604]
theorem x6_227 : f60c xTc xTys xm_227 = true := by decide +kernel
theorem fb_433_4 : bsJ 433 4 = (0, 24) := by decide +kernel
abbrev wz_64c1d : List Nat := [515, 516, 517, 538, 559, 580, 581, 582, 583, 584, 11405, 11410, 11412]
theorem x6_224 : f60c xTc xTys xm_224 = true := by decide +kernel
theorem fb_258_5 : bsJ 258 5 = (0, 20) := by decide +kernel
theorem fb_258_10 : bsJ 258 10 = (0, 24) := by decide +kernel
theorem fb_258_12 : bsJ 258 12 = (0, 90) := by decide +kernel
abbrev wz_7a224 : List Nat := [515, 516, 517, 538, 559, 580, 581, 582, 583, 584, 676, 677, 678, 679, 680, 681, 682, 683, 684, 685, 686, 687, 688, 690, 691, 692, 693, 694, 695, 11305, 11306, 11307, 11308, 11309, 11405, 11410, 11412, 11513, 11604]
theorem x6_223 : f60c xTc xTys xm_223 = true := by decide +kernel
theorem fb_257_5 : bsJ 257 5 = (0, 600) := by decide +kernel
theorem fb_257_6 : bsJ 257 6 = ((-2147483648), 2147483647) := by decide +kernel
theorem fb_257_7 : bsJ 257 7 = ((-2147483648), 2147483647) := by decide +kernel
theorem fb_257_8 : bsJ 257 8 = ((-2147483648), 2147483647) := by decide +kernel
theorem fb_257_9 : bsJ 257 9 = ((-2147483648), 2147483647) := by decide +kernel
abbrev wz_920bb : List Nat := [515, 516, 517, 538, 559, 580, 581, 582, 583, 584, 676, 677, 678, 679, 680, 681, 682, 683, 684, 685, 686, 687, 688, 690, 691, 692, 693, 694, 695, 739, 11305, 11306, 11307, 11308, 11309, 11405, 11410, 11412, 11513, 11604]
theorem x6_222 : f60c xTc xTys xm_222 = true := by decide +kernel
theorem rS_739_739_0_59_1_0 : frS gJ bsJ znJ [739] 100 ((739, 739), (0, 59), (1, 0), ((-2147483648), 2147483647)) := frS_dflt (by decide) (by decide +kernel)
theorem fb_0_6 : bsJ 0 6 = (0, 1) := by decide +kernel
abbrev wz_324de : List Nat := [736, 737, 739, 12102, 12103, 12104]
theorem x6_221 : f60c xTc xTys xm_221 = true := by decide +kernel
abbrev wz_b577c : List Nat := [733, 734, 739]
theorem x6_219 : f60c xTc xTys xm_219 = true := by decide +kernel
abbrev wz_04d21 : List Nat := [515, 516, 517, 538, 559, 580, 581, 582, 583, 584, 676, 677, 678, 679, 680, 681, 682, 683, 684, 685, 686, 687, 688, 690, 691, 692, 693, 694, 695, 733, 734, 736, 737, 739, 10014, 11305, 11306, 11307, 11308, 11309, 11405, 11410, 11412, 11513, 11604, 12102, 12103, 12104]
theorem x6_218 : f60c xTc xTys xm_218 = true := by decide +kernel
abbrev wz_518f7 : List Nat := [760, 12239]
theorem x6_491 : f60c xTc xTys xm_491 = true := by decide +kernel
theorem fb_740_39 : bsJ 740 39 = (0, 60) := by decide +kernel
theorem rS_760_760_0_59_1_0 : frS gJ bsJ znJ [760] 100 ((760, 760), (0, 59), (1, 0), ((-2147483648), 2147483647)) := frS_dflt (by decide) (by decide +kernel)
abbrev wz_96c9e : List Nat := [757, 758, 760, 12233, 12234, 12235, 12239]
theorem x6_492 : f60c xTc xTys xm_492 = true := by decide +kernel
theorem x6_494 : f60c xTc xTys xm_494 = true := by decide +kernel
abbrev wz_35895 : List Nat := [434, 435, 436, 437, 11004]
abbrev wz_479cc : List Nat := [259, 260, 261, 282, 303, 324, 325, 326, 327, 328, 10805, 10810, 10812]
abbrev wz_470c1 : List Nat := [420, 421, 422, 423, 424, 425, 426, 427, 428, 429, 430, 431, 432, 10913]
abbrev wz_7d688 : List Nat := [259, 260, 261, 282, 303, 324, 325, 326, 327, 328, 420, 421, 422, 423, 424, 425, 426, 427, 428, 429, 430, 431, 432, 434, 435, 436, 437, 438, 439, 10705, 10706, 10707, 10708, 10709, 10805, 10810, 10812, 10913, 11004]
abbrev wz_e7604 : List Nat := [444, 445, 446, 447, 448, 449, 462, 11106, 11107, 11108]
theorem x6_230 : f60c xTc xTys xm_230 = true := by decide +kernel
theorem fb_443_6 : bsJ 443 6 = (0, 12) := by decide +kernel
theorem fb_443_7 : bsJ 443 7 = ((-2147483648), 2147483647) := by decide +kernel
theorem fb_443_8 : bsJ 443 8 = (0, 1) := by decide +kernel
abbrev wz_77c59 : List Nat := [468, 477, 478, 479, 480, 505, 506, 507, 508, 509, 510, 511, 512, 11208, 11211, 11215]
theorem x6_231 : f60c xTc xTys xm_231 = true := by decide +kernel
theorem fb_467_8 : bsJ 467 8 = (0, 6) := by decide +kernel
theorem fb_467_11 : bsJ 467 11 = (0, 10) := by decide +kernel
theorem fb_467_15 : bsJ 467 15 = (0, 7) := by decide +kernel
abbrev wz_cdb06 : List Nat := [259, 260, 261, 282, 303, 324, 325, 326, 327, 328, 420, 421, 422, 423, 424, 425, 426, 427, 428, 429, 430, 431, 432, 434, 435, 436, 437, 438, 439, 444, 445, 446, 447, 448, 449, 462, 468, 477, 478, 479, 480, 505, 506, 507, 508, 509, 510, 511, 512, 10006, 10705, 10706, 10707, 10708, 10709, 10805, 10810, 10812, 10913, 11004, 11106, 11107, 11108, 11208, 11211, 11215]
theorem x6_229 : f60c xTc xTys xm_229 = true := by decide +kernel
abbrev wz_52e23 : List Nat := [3, 4, 5, 26, 47, 68, 69, 70, 71, 72, 10205, 10210, 10212]
section CT
variable {ρ : Nat → Int32} {base n : Nat} {F : Nat → Prop} {D : va_G} {dA : Nat → ClassId} {la : Launch}
abbrev jc_Order_goOn_e7135_24 : Nat → fL → List fV → fH → Prop := fun m lv st I => ∃ (y2 : Int) (y3 : Int) (y4 : Int) (y5 : Int) (y6 : Int), lv = [(0, .inr (.inr (some 735))), (1, .inr (.inr (some 211))), (2, .inl y2), (3, .inl y3), (4, .inl y4), (5, .inl y5), (6, .inl y6)] ∧ st = [] ∧ (((1 ≤ y2 ∧ y2 ≤ 1) ∧ ((-2147483648) ≤ y3 ∧ y3 ≤ 2147483647) ∧ ((-2147483648) ≤ y4 ∧ y4 ≤ 2147483647) ∧ ((-2147483648) ≤ y5 ∧ y5 ≤ 2147483647) ∧ (0 ≤ y6 ∧ y6 ≤ 7) ∧ (2 ≤ I 211 15 ∧ I 211 15 ≤ 7))) ∧ m = (1 + 1 * (7 - y6) : Int).toNat
set_option maxRecDepth 8000 in
theorem ct_Order_goOn_e7135 {I : fH} {x2 : Int} {x3 : Int} {x4 : Int} {x5 : Int} (h0 : fB bsJ I) (ha2 : (1 ≤ x2 ∧ x2 ≤ 1)) (ha3 : ((-2147483648) ≤ x3 ∧ x3 ≤ 2147483647)) (ha4 : ((-2147483648) ≤ x4 ∧ x4 ≤ 2147483647)) (ha5 : ((-2147483648) ≤ x5 ∧ x5 ≤ 2147483647)) : fC ρ base n F xTc vwCl xTys D dA la gJ (fbz bsJ znJ (fKc wz_7628e) I) xm_213 [.inr (.inr (some 735)), .inr (.inr (some 211)), .inl x2, .inl x3, .inl x4, .inl x5] I (fun _ r => r = none) := by
  have hW : fzs wz_7628e (fKc wz_7628e) := fKc_ok _
  refine f_meth (rb := rbJ) (J := [(24, jc_Order_goOn_e7135_24)]) 9 400 xG xin_213 x6_213 okJ (fB_self h0) ?_ ?_
  · refine List.forall_mem_cons.mpr ⟨?_, fun q h => absurd h List.not_mem_nil⟩
    · rintro m _ _ I1 hB1 ⟨y2, y3, y4, y5, y6, rfl, rfl, hb, hm⟩
      refine And.intro ⟨rfl, by decide, by decide⟩ (fgetf fb_211_15 h0 hB1 ?_)
      intro z1 lz1 uz1 qz1
      refine And.intro (by omega) (And.intro ?_ ?_)
      · intro c2
        exact rfl
      · intro c3
        refine And.intro ⟨rfl, by decide, by decide⟩ (fgetf fb_735_3 h0 hB1 ?_)
        intro z4 lz4 uz4 qz4
        refine And.intro (by omega) (And.intro ?_ ?_)
        · intro c5
          exact rfl
        · intro c6
          intro z7 hz7 ez7
          intro z8 hz8 ez8 bz8
          refine And.intro (by omega) (And.intro ?_ ?_)
          · intro c9
            exact fcutJ (I := I1) (j := jc_Order_goOn_e7135_24) (lv' := [(0, .inr (.inr (some 735))), (1, .inr (.inr (some 211))), (2, .inl _), (3, .inl _), (4, .inl _), (5, .inl _), (6, .inl _)]) (And.intro rfl (And.intro rfl (And.intro rfl (And.intro rfl (And.intro rfl (And.intro rfl (And.intro rfl True.intro))))))) ⟨_, _, _, _, _, rfl, rfl, by omega, rfl⟩ (by omega)
          · intro c10
            refine And.intro ⟨rfl, by decide, by decide⟩ ?_
            refine fload rL_256_256_0_6_1_0 h0 hB1 (by omega) ?_
            intro z11 lz11 uz11 qz11
            intro z12 hz12 ez12
            intro z13 hz13 ez13 bz13
            refine And.intro (by omega) (And.intro ?_ ?_)
            · intro c14
              exact fcutJ (I := I1) (j := jc_Order_goOn_e7135_24) (lv' := [(0, .inr (.inr (some 735))), (1, .inr (.inr (some 211))), (2, .inl _), (3, .inl _), (4, .inl _), (5, .inl _), (6, .inl _)]) (And.intro rfl (And.intro rfl (And.intro rfl (And.intro rfl (And.intro rfl (And.intro rfl (And.intro rfl True.intro))))))) ⟨_, _, _, _, _, rfl, rfl, by omega, rfl⟩ (by omega)
            · intro c15
              refine And.intro ⟨rfl, by decide, by decide⟩ (fgetf fb_735_3 h0 hB1 ?_)
              intro z16 lz16 uz16 qz16
              refine And.intro ⟨rfl, by decide, by decide⟩ (And.intro rfl (And.intro (Or.inl rfl) (fputf fb_735_3 (by decide +kernel) hW (by omega) ?_)))
              intro IhB17 ehB17 hB17
              have t18 : IhB17 211 15 = I1 211 15 := (congrFun (congrFun ehB17 211) 15).trans (fup_ne (by omega))
              have t19 := fup_at ehB17 3 (by omega)
              refine And.intro ⟨rfl, by decide, by decide⟩ ?_
              refine fstore rS_737_737_0_6_1_0 (fzs_sub (by decide +kernel) hW) (by omega) (by omega) ?_
              intro IhB20 ehB20 hB20
              have t21 := fup_self ehB20
              have t22 : IhB20 211 15 = IhB17 211 15 := (congrFun (congrFun ehB20 211) 15).trans (fup_ne (by omega))
              have t23 : IhB20 735 3 = IhB17 735 3 := (congrFun (congrFun ehB20 735) 3).trans (fup_ne (by omega))
              have t24 := fup_at ehB20 1 (by omega)
              refine And.intro ⟨rfl, by decide, by decide⟩ ?_
              refine fload rL_254_254_0_6_1_0 h0 hB20 (by omega) ?_
              intro z25 lz25 uz25 qz25
              intro z26 hz26 ez26 bz26
              refine And.intro ⟨rfl, by decide, by decide⟩ ?_
              refine fload rL_255_255_0_6_1_0 h0 hB20 (by omega) ?_
              intro z27 lz27 uz27 qz27
              refine And.intro ⟨rfl, by decide, by decide⟩ (fgetf fb_735_2 h0 hB20 ?_)
              intro z28 lz28 uz28 qz28
              intro z29 hz29 ez29 bz29
              refine And.intro (And.intro (by omega) (And.intro (by omega) rfl)) ?_
              intro z30 hz30
              intro z31 hz31 ez31 bz31
              refine And.intro ⟨rfl, by decide, by decide⟩ (fgetf fb_735_3 h0 hB20 ?_)
              intro z32 lz32 uz32 qz32
              refine And.intro (by omega) (And.intro ?_ ?_)
              · intro c33
                exact fcutJ (I := IhB20) (j := jc_Order_goOn_e7135_24) (lv' := [(0, .inr (.inr (some 735))), (1, .inr (.inr (some 211))), (2, .inl _), (3, .inl _), (4, .inl _), (5, .inl _), (6, .inl _)]) (And.intro rfl (And.intro rfl (And.intro rfl (And.intro rfl (And.intro rfl (And.intro rfl (And.intro rfl True.intro))))))) ⟨_, _, _, _, _, rfl, rfl, by omega, rfl⟩ (by omega)
              · intro c34
                intro z35 hz35 ez35
                intro z36 hz36 ez36
                intro z37 hz37 ez37 bz37
                refine Exists.intro xm_212 (And.intro mi_212 (And.intro ⟨rfl, rfl, rfl, rfl⟩ (And.intro rfl ?_)))
                refine fcall _ h0 (fzs_sub (by decide +kernel) hW) hB20 (ct_Order_goOn_0f9c9 (fBz h0 hB20) (by omega) (by omega) (by omega) (by omega)) ?_
                rintro IhB39 _ hB39 fhB39 rfl
                have t40 := fhB39 211 15 (by decide +kernel)
                exact fcutJ (I := IhB39) (j := jc_Order_goOn_e7135_24) (lv' := [(0, .inr (.inr (some 735))), (1, .inr (.inr (some 211))), (2, .inl _), (3, .inl _), (4, .inl _), (5, .inl _), (6, .inl _)]) (And.intro rfl (And.intro rfl (And.intro rfl (And.intro rfl (And.intro rfl (And.intro rfl (And.intro rfl True.intro))))))) ⟨_, _, _, _, _, rfl, rfl, by omega, rfl⟩ (by omega)
  · have hB0 := fB_self (zn := znJ) (K := fKc wz_7628e) h0
    refine And.intro ⟨rfl, by decide, by decide⟩ (fgetf fb_211_15 h0 hB0 ?_)
    intro z41 lz41 uz41 qz41
    refine And.intro (by omega) (And.intro ?_ ?_)
    · intro c42
      refine Exists.intro xm_215 (And.intro mi_215 (And.intro ⟨rfl, rfl, rfl, rfl⟩ (And.intro rfl ?_)))
      refine fcall _ h0 (fzs_sub (by decide +kernel) hW) hB0 (ct_Order_take_e8cff (fBz h0 hB0) (by omega)) ?_
      rintro IhB44 _ hB44 fhB44 rfl
      have t45 := fhB44 211 15 (by decide +kernel)
      exact rfl
    · intro c46
      refine And.intro (by omega) (And.intro ?_ ?_)
      · intro c47
        exact fcutJ (I := I) (j := jc_Order_goOn_e7135_24) (lv' := [(0, .inr (.inr (some 735))), (1, .inr (.inr (some 211))), (2, .inl _), (3, .inl _), (4, .inl _), (5, .inl _), (6, .inl _)]) (And.intro rfl (And.intro rfl (And.intro rfl (And.intro rfl (And.intro rfl (And.intro rfl (And.intro rfl True.intro))))))) ⟨_, _, _, _, _, rfl, rfl, by omega, rfl⟩ (by omega)
      · intro c48
        refine Exists.intro xm_215 (And.intro mi_215 (And.intro ⟨rfl, rfl, rfl, rfl⟩ (And.intro rfl ?_)))
        refine fcall _ h0 (fzs_sub (by decide +kernel) hW) hB0 (ct_Order_take_e8cff (fBz h0 hB0) (by omega)) ?_
        rintro IhB50 _ hB50 fhB50 rfl
        have t51 := fhB50 211 15 (by decide +kernel)
        exact rfl
abbrev jc_Order_goOn_1b23c_24 : Nat → fL → List fV → fH → Prop := fun m lv st I => ∃ (y2 : Int) (y3 : Int) (y4 : Int) (y5 : Int) (y6 : Int), lv = [(0, .inr (.inr (some 735))), (1, .inr (.inr (some 211))), (2, .inl y2), (3, .inl y3), (4, .inl y4), (5, .inl y5), (6, .inl y6)] ∧ st = [] ∧ (((0 ≤ y2 ∧ y2 ≤ 0) ∧ (0 ≤ y3 ∧ y3 ≤ 0) ∧ (0 ≤ y4 ∧ y4 ≤ 0) ∧ (0 ≤ y5 ∧ y5 ≤ 0) ∧ (0 ≤ y6 ∧ y6 ≤ 7) ∧ (1 ≤ I 211 15 ∧ I 211 15 ≤ 7))) ∧ m = (1 + 1 * (7 - y6) : Int).toNat
set_option maxRecDepth 8000 in
theorem ct_Order_goOn_1b23c {I : fH} {x2 : Int} {x3 : Int} {x4 : Int} {x5 : Int} (h0 : fB bsJ I) (ha2 : (0 ≤ x2 ∧ x2 ≤ 0)) (ha3 : (0 ≤ x3 ∧ x3 ≤ 0)) (ha4 : (0 ≤ x4 ∧ x4 ≤ 0)) (ha5 : (0 ≤ x5 ∧ x5 ≤ 0)) : fC ρ base n F xTc vwCl xTys D dA la gJ (fbz bsJ znJ (fKc wz_7628e) I) xm_214 [.inr (.inr (some 735)), .inr (.inr (some 211)), .inl x2, .inl x3, .inl x4, .inl x5] I (fun _ r => r = none) := by
  have hW : fzs wz_7628e (fKc wz_7628e) := fKc_ok _
  refine f_meth (rb := rbJ) (J := [(24, jc_Order_goOn_1b23c_24)]) 9 400 xG xin_214 x6_214 okJ (fB_self h0) ?_ ?_
  · refine List.forall_mem_cons.mpr ⟨?_, fun q h => absurd h List.not_mem_nil⟩
    · rintro m _ _ I1 hB1 ⟨y2, y3, y4, y5, y6, rfl, rfl, hb, hm⟩
      refine And.intro ⟨rfl, by decide, by decide⟩ (fgetf fb_211_15 h0 hB1 ?_)
      intro z1 lz1 uz1 qz1
      refine And.intro (by omega) (And.intro ?_ ?_)
      · intro c2
        exact rfl
      · intro c3
        refine And.intro ⟨rfl, by decide, by decide⟩ (fgetf fb_735_3 h0 hB1 ?_)
        intro z4 lz4 uz4 qz4
        refine And.intro (by omega) (And.intro ?_ ?_)
        · intro c5
          exact rfl
        · intro c6
          intro z7 hz7 ez7
          intro z8 hz8 ez8 bz8
          refine And.intro (by omega) (And.intro ?_ ?_)
          · intro c9
            exact fcutJ (I := I1) (j := jc_Order_goOn_1b23c_24) (lv' := [(0, .inr (.inr (some 735))), (1, .inr (.inr (some 211))), (2, .inl _), (3, .inl _), (4, .inl _), (5, .inl _), (6, .inl _)]) (And.intro rfl (And.intro rfl (And.intro rfl (And.intro rfl (And.intro rfl (And.intro rfl (And.intro rfl True.intro))))))) ⟨_, _, _, _, _, rfl, rfl, by omega, rfl⟩ (by omega)
          · intro c10
            refine And.intro ⟨rfl, by decide, by decide⟩ ?_
            refine fload rL_256_256_0_6_1_0 h0 hB1 (by omega) ?_
            intro z11 lz11 uz11 qz11
            intro z12 hz12 ez12
            intro z13 hz13 ez13 bz13
            refine And.intro (by omega) (And.intro ?_ ?_)
            · intro c14
              exact fcutJ (I := I1) (j := jc_Order_goOn_1b23c_24) (lv' := [(0, .inr (.inr (some 735))), (1, .inr (.inr (some 211))), (2, .inl _), (3, .inl _), (4, .inl _), (5, .inl _), (6, .inl _)]) (And.intro rfl (And.intro rfl (And.intro rfl (And.intro rfl (And.intro rfl (And.intro rfl (And.intro rfl True.intro))))))) ⟨_, _, _, _, _, rfl, rfl, by omega, rfl⟩ (by omega)
            · intro c15
              refine And.intro ⟨rfl, by decide, by decide⟩ (fgetf fb_735_3 h0 hB1 ?_)
              intro z16 lz16 uz16 qz16
              refine And.intro ⟨rfl, by decide, by decide⟩ (And.intro rfl (And.intro (Or.inl rfl) (fputf fb_735_3 (by decide +kernel) hW (by omega) ?_)))
              intro IhB17 ehB17 hB17
              have t18 : IhB17 211 15 = I1 211 15 := (congrFun (congrFun ehB17 211) 15).trans (fup_ne (by omega))
              have t19 := fup_at ehB17 3 (by omega)
              refine And.intro ⟨rfl, by decide, by decide⟩ ?_
              refine fstore rS_737_737_0_6_1_0 (fzs_sub (by decide +kernel) hW) (by omega) (by omega) ?_
              intro IhB20 ehB20 hB20
              have t21 := fup_self ehB20
              have t22 : IhB20 211 15 = IhB17 211 15 := (congrFun (congrFun ehB20 211) 15).trans (fup_ne (by omega))
              have t23 : IhB20 735 3 = IhB17 735 3 := (congrFun (congrFun ehB20 735) 3).trans (fup_ne (by omega))
              have t24 := fup_at ehB20 0 (by omega)
              refine And.intro ⟨rfl, by decide, by decide⟩ ?_
              refine fload rL_254_254_0_6_1_0 h0 hB20 (by omega) ?_
              intro z25 lz25 uz25 qz25
              intro z26 hz26 ez26 bz26
              refine And.intro ⟨rfl, by decide, by decide⟩ ?_
              refine fload rL_255_255_0_6_1_0 h0 hB20 (by omega) ?_
              intro z27 lz27 uz27 qz27
              refine And.intro ⟨rfl, by decide, by decide⟩ (fgetf fb_735_2 h0 hB20 ?_)
              intro z28 lz28 uz28 qz28
              intro z29 hz29 ez29 bz29
              refine And.intro (And.intro (by omega) (And.intro (by omega) rfl)) ?_
              intro z30 hz30
              intro z31 hz31 ez31 bz31
              refine And.intro ⟨rfl, by decide, by decide⟩ (fgetf fb_735_3 h0 hB20 ?_)
              intro z32 lz32 uz32 qz32
              refine And.intro (by omega) (And.intro ?_ ?_)
              · intro c33
                exact fcutJ (I := IhB20) (j := jc_Order_goOn_1b23c_24) (lv' := [(0, .inr (.inr (some 735))), (1, .inr (.inr (some 211))), (2, .inl _), (3, .inl _), (4, .inl _), (5, .inl _), (6, .inl _)]) (And.intro rfl (And.intro rfl (And.intro rfl (And.intro rfl (And.intro rfl (And.intro rfl (And.intro rfl True.intro))))))) ⟨_, _, _, _, _, rfl, rfl, by omega, rfl⟩ (by omega)
              · intro c34
                intro z35 hz35 ez35
                intro z36 hz36 ez36
                intro z37 hz37 ez37 bz37
                refine Exists.intro xm_213 (And.intro mi_213 (And.intro ⟨rfl, rfl, rfl, rfl⟩ (And.intro rfl ?_)))
                refine fcall _ h0 (fzs_sub (by decide +kernel) hW) hB20 (ct_Order_goOn_e7135 (fBz h0 hB20) (by omega) (by omega) (by omega) (by omega)) ?_
                rintro IhB39 _ hB39 fhB39 rfl
                have t40 := fhB39 211 15 (by decide +kernel)
                exact fcutJ (I := IhB39) (j := jc_Order_goOn_1b23c_24) (lv' := [(0, .inr (.inr (some 735))), (1, .inr (.inr (some 211))), (2, .inl _), (3, .inl _), (4, .inl _), (5, .inl _), (6, .inl _)]) (And.intro rfl (And.intro rfl (And.intro rfl (And.intro rfl (And.intro rfl (And.intro rfl (And.intro rfl True.intro))))))) ⟨_, _, _, _, _, rfl, rfl, by omega, rfl⟩ (by omega)
  · have hB0 := fB_self (zn := znJ) (K := fKc wz_7628e) h0
    refine And.intro ⟨rfl, by decide, by decide⟩ (fgetf fb_211_15 h0 hB0 ?_)
    intro z41 lz41 uz41 qz41
    refine And.intro (by omega) (And.intro ?_ ?_)
    · intro c42
      refine Exists.intro xm_215 (And.intro mi_215 (And.intro ⟨rfl, rfl, rfl, rfl⟩ (And.intro rfl ?_)))
      refine fcall _ h0 (fzs_sub (by decide +kernel) hW) hB0 (ct_Order_take_e8cff (fBz h0 hB0) (by omega)) ?_
      rintro IhB44 _ hB44 fhB44 rfl
      have t45 := fhB44 211 15 (by decide +kernel)
      exact rfl
    · intro c46
      refine And.intro (by omega) (And.intro ?_ ?_)
      · intro c47
        exact fcutJ (I := I) (j := jc_Order_goOn_1b23c_24) (lv' := [(0, .inr (.inr (some 735))), (1, .inr (.inr (some 211))), (2, .inl _), (3, .inl _), (4, .inl _), (5, .inl _), (6, .inl _)]) (And.intro rfl (And.intro rfl (And.intro rfl (And.intro rfl (And.intro rfl (And.intro rfl (And.intro rfl True.intro))))))) ⟨_, _, _, _, _, rfl, rfl, by omega, rfl⟩ (by omega)
      · intro c48
        refine Exists.intro xm_215 (And.intro mi_215 (And.intro ⟨rfl, rfl, rfl, rfl⟩ (And.intro rfl ?_)))
        refine fcall _ h0 (fzs_sub (by decide +kernel) hW) hB0 (ct_Order_take_e8cff (fBz h0 hB0) (by omega)) ?_
        rintro IhB50 _ hB50 fhB50 rfl
        have t51 := fhB50 211 15 (by decide +kernel)
        exact rfl
set_option maxRecDepth 8000 in
theorem ct_Order_bestSum_ae03f {I : fH} {x2 : Int} {x3 : Int} (h0 : fB bsJ I) (ha2 : (1 ≤ x2 ∧ x2 ≤ 60)) (ha3 : (1 ≤ x3 ∧ x3 ≤ 20000)) : fC ρ base n F xTc vwCl xTys D dA la gJ (fbz bsJ znJ (fKc wz_79e74) I) xm_206 [.inr (.inr (some 735)), .inr (.inr (some 211)), .inl x2, .inl x3] I (fun _ r => ∃ z, r = some (.inl z) ∧ ((-2147483648) ≤ z ∧ z ≤ 2147483647)) := by
  have hW : fzs wz_79e74 (fKc wz_79e74) := fKc_ok _
  refine f_meth (rb := rbJ) (J := []) 1 400 xG xin_206 x6_206 okJ (fB_self h0) ?_ ?_
  · exact fun q h => absurd h List.not_mem_nil
  · have hB0 := fB_self (zn := znJ) (K := fKc wz_79e74) h0
    refine And.intro ⟨rfl, by decide, by decide⟩ (And.intro rfl (And.intro (Or.inl rfl) (fputf fb_735_2 (by decide +kernel) hW (by omega) ?_)))
    intro IhB1 ehB1 hB1
    have t2 := fup_at ehB1 2 (by omega)
    refine And.intro ⟨rfl, by decide, by decide⟩ (And.intro rfl (And.intro (Or.inl rfl) (fputf fb_735_3 (by decide +kernel) hW (by omega) ?_)))
    intro IhB3 ehB3 hB3
    have t4 : IhB3 735 2 = IhB1 735 2 := (congrFun (congrFun ehB3 735) 2).trans (fup_ne (by omega))
    have t5 := fup_at ehB3 3 (by omega)
    refine And.intro ⟨rfl, by decide, by decide⟩ (And.intro rfl (And.intro (Or.inl rfl) (fputf fb_735_4 (by decide +kernel) hW (by omega) ?_)))
    intro IhB6 ehB6 hB6
    have t7 : IhB6 735 2 = IhB3 735 2 := (congrFun (congrFun ehB6 735) 2).trans (fup_ne (by omega))
    have t8 : IhB6 735 3 = IhB3 735 3 := (congrFun (congrFun ehB6 735) 3).trans (fup_ne (by omega))
    have t9 := fup_at ehB6 4 (by omega)
    refine Exists.intro xm_214 (And.intro mi_214 (And.intro ⟨rfl, rfl, rfl, rfl⟩ (And.intro rfl ?_)))
    refine fcall _ h0 (fzs_sub (by decide +kernel) hW) hB6 (ct_Order_goOn_1b23c (fBz h0 hB6) (by omega) (by omega) (by omega) (by omega)) ?_
    rintro IhB11 _ hB11 fhB11 rfl
    have t12 := fhB11 735 2 (by decide +kernel)
    refine And.intro ⟨rfl, by decide, by decide⟩ (fgetf fb_735_3 h0 hB11 ?_)
    intro z13 lz13 uz13 qz13
    refine And.intro (by omega) (And.intro ?_ ?_)
    · intro c14
      refine And.intro ⟨rfl, by decide, by decide⟩ (fgetf fb_735_4 h0 hB11 ?_)
      intro z15 lz15 uz15 qz15
      refine And.intro (True.intro) ?_
      exact ⟨_, rfl, by omega⟩
    · intro c16
      refine And.intro (True.intro) ?_
      exact ⟨_, rfl, by omega⟩
set_option maxRecDepth 8000 in
theorem ct_X_plan_77562 {I : fH} {x1 : Int} {x2 : Int} (h0 : fB bsJ I) (ha1 : ((-2147483648) ≤ x1 ∧ x1 ≤ 2147483647)) (ha2 : ((-2147483648) ≤ x2 ∧ x2 ≤ 2147483647)) : fC ρ base n F xTc vwCl xTys D dA la gJ (fbz bsJ znJ (fKc wz_79e74) I) xm_205 [.inr (.inr (some 0)), .inl x1, .inl x2] I (fun _ r => ∃ z, r = some (.inl z) ∧ ((-2147483648) ≤ z ∧ z ≤ 2147483647)) := by
  have hW : fzs wz_79e74 (fKc wz_79e74) := fKc_ok _
  refine f_meth (rb := rbJ) (J := []) 1 400 xG xin_205 x6_205 okJ (fB_self h0) ?_ ?_
  · exact fun q h => absurd h List.not_mem_nil
  · have hB0 := fB_self (zn := znJ) (K := fKc wz_79e74) h0
    refine Exists.intro xm_13 (And.intro mi_13 (And.intro ⟨rfl, rfl, rfl, rfl⟩ (And.intro True.intro ?_)))
    refine fcallp hB0 (ct_X_within_c27b1 (fBz h0 hB0) (by omega) (by omega) (by omega)) ?_
    rintro _ ⟨z1, rfl, hz1⟩
    refine And.intro (by omega) (And.intro ?_ ?_)
    · intro c2
      refine And.intro (True.intro) ?_
      exact ⟨_, rfl, by omega⟩
    · intro c3
      refine Exists.intro xm_13 (And.intro mi_13 (And.intro ⟨rfl, rfl, rfl, rfl⟩ (And.intro True.intro ?_)))
      refine fcallp hB0 (ct_X_within_c27b1 (fBz h0 hB0) (by omega) (by omega) (by omega)) ?_
      rintro _ ⟨z4, rfl, hz4⟩
      refine And.intro (by omega) (And.intro ?_ ?_)
      · intro c5
        refine And.intro ⟨rfl, by decide, by decide⟩ ?_
        refine And.intro ⟨rfl, by decide, by decide⟩ ?_
        refine Exists.intro xm_206 (And.intro mi_206 (And.intro ⟨rfl, rfl, rfl, rfl⟩ (And.intro rfl ?_)))
        refine fcall _ h0 (fzs_sub (by decide +kernel) hW) hB0 (ct_Order_bestSum_ae03f (fBz h0 hB0) (by omega) (by omega)) ?_
        rintro IhB7 _ hB7 fhB7 ⟨z6, rfl, hz6⟩
        refine And.intro (True.intro) ?_
        exact ⟨_, rfl, by omega⟩
      · intro c8
        refine And.intro (True.intro) ?_
        exact ⟨_, rfl, by omega⟩
abbrev jc_M_seek_c83ec_29 : Nat → fL → List fV → fH → Prop := fun m lv st I => ∃ (y2 : Int) (y6 : Int), lv = [(0, .inr (.inr (some 740))), (2, .inl y2), (6, .inl y6)] ∧ st = [] ∧ (((7 ≤ y2 ∧ y2 ≤ 7) ∧ (0 ≤ y6 ∧ y6 ≤ 7) ∧ ((-2147483647) ≤ I 740 33 ∧ I 740 33 ≤ 2147483647) ∧ (7 ≤ I 741 12 ∧ I 741 12 ≤ 7))) ∧ m = (8 + 1 * (7 - y6) : Int).toNat
abbrev jc_M_seek_c83ec_59 : Nat → fL → List fV → fH → Prop := fun m lv st I => ∃ (y1 : Int) (y2 : Int) (y3 : Int) (y4 : Int) (y5 : Int) (y6 : Int), lv = [(0, .inr (.inr (some 740))), (1, .inl y1), (2, .inl y2), (3, .inl y3), (4, .inl y4), (5, .inl y5), (6, .inl y6)] ∧ st = [] ∧ (((1 ≤ y1 ∧ y1 ≤ 60) ∧ (7 ≤ y2 ∧ y2 ≤ 7) ∧ ((-2147483648) ≤ y3 ∧ y3 ≤ 2147483647) ∧ ((-2147483648) ≤ y4 ∧ y4 ≤ 2147483647) ∧ ((-2147483648) ≤ y5 ∧ y5 ≤ 2147483647) ∧ (0 ≤ y6 ∧ y6 ≤ 6) ∧ (0 ≤ I 741 12 ∧ I 741 12 ≤ 6) ∧ (y2 < I 741 12))) ∧ m = (1 + 1 * (6 - y6) : Int).toNat
set_option maxRecDepth 8000 in
theorem ct_M_seek_c83ec {I : fH} {x1 : Int} {x2 : Int} {x3 : Int} {x4 : Int} {x5 : Int} (h0 : fB bsJ I) (ha1 : (1 ≤ x1 ∧ x1 ≤ 60)) (ha2 : (7 ≤ x2 ∧ x2 ≤ 7)) (ha3 : ((-2147483648) ≤ x3 ∧ x3 ≤ 2147483647)) (ha4 : ((-2147483648) ≤ x4 ∧ x4 ≤ 2147483647)) (ha5 : ((-2147483648) ≤ x5 ∧ x5 ≤ 2147483647)) (hp0 : x2 = 7) (hp1 : x2 ≤ I 741 12) : fC ρ base n F xTc vwCl xTys D dA la gJ (fbz bsJ znJ (fKc wz_4d25e) I) xm_479 [.inr (.inr (some 740)), .inl x1, .inl x2, .inl x3, .inl x4, .inl x5] I (fun _ r => r = none) := by
  have hW : fzs wz_4d25e (fKc wz_4d25e) := fKc_ok _
  refine f_meth (rb := rbJ) (J := [(29, jc_M_seek_c83ec_29), (59, jc_M_seek_c83ec_59)]) 16 400 xG xin_479 x6_479 okJ (fB_self h0) ?_ ?_
  · refine List.forall_mem_cons.mpr ⟨?_, List.forall_mem_cons.mpr ⟨?_, fun q h => absurd h List.not_mem_nil⟩⟩
    · rintro m _ _ I1 hB1 ⟨y2, y6, rfl, rfl, hb, hm⟩
      have k1 := fBz_eq hB1 (a := 741) (j := 12) (by decide +kernel)
      refine And.intro (by omega) (And.intro ?_ ?_)
      · intro c2
        exact rfl
      · intro c3
        refine And.intro ⟨rfl, by decide, by decide⟩ ?_
        refine And.intro ⟨rfl, by decide, by decide⟩ ?_
        refine fload rL_757_757_0_6_1_0 h0 hB1 (by omega) ?_
        intro z4 lz4 uz4 qz4
        refine fstore rS_758_758_0_6_1_0 (fzs_sub (by decide +kernel) hW) (by omega) (by omega) ?_
        intro IhB5 ehB5 hB5
        have t6 := fup_self ehB5
        have t7 : IhB5 740 33 = I1 740 33 := (congrFun (congrFun ehB5 740) 33).trans (fup_ne (by omega))
        have t8 : IhB5 741 12 = I1 741 12 := (congrFun (congrFun ehB5 741) 12).trans (fup_ne (by omega))
        have k9 := fBz_eq hB5 (a := 741) (j := 12) (by decide +kernel)
        exact fcutJ (I := IhB5) (j := jc_M_seek_c83ec_29) (lv' := [(0, .inr (.inr (some 740))), (2, .inl _), (6, .inl _)]) (And.intro rfl (And.intro rfl (And.intro rfl True.intro))) ⟨_, _, rfl, rfl, by omega, rfl⟩ (by omega)
    · rintro m _ _ I1 hB1 ⟨y1, y2, y3, y4, y5, y6, rfl, rfl, hb, hm⟩
      have k10 := fBz_eq hB1 (a := 741) (j := 12) (by decide +kernel)
      refine And.intro ⟨rfl, by decide, by decide⟩ ?_
      refine fload rL_741_741_12_12_1_0 h0 hB1 (by omega) ?_
      intro z11 lz11 uz11 qz11
      have pz11 := fld_at qz11 12 (by omega)
      refine And.intro (by omega) (And.intro ?_ ?_)
      · intro c12
        exact rfl
      · intro c13
        refine And.intro ⟨rfl, by decide, by decide⟩ (fgetf fb_740_35 h0 hB1 ?_)
        intro z14 lz14 uz14 qz14
        refine And.intro (by omega) (And.intro ?_ ?_)
        · intro c15
          exact rfl
        · intro c16
          intro z17 hz17 ez17
          intro z18 hz18 ez18 bz18
          refine And.intro (by omega) (And.intro ?_ ?_)
          · intro c19
            exact fcutJ (I := I1) (j := jc_M_seek_c83ec_59) (lv' := [(0, .inr (.inr (some 740))), (1, .inl _), (2, .inl _), (3, .inl _), (4, .inl _), (5, .inl _), (6, .inl _)]) (And.intro rfl (And.intro rfl (And.intro rfl (And.intro rfl (And.intro rfl (And.intro rfl (And.intro rfl True.intro))))))) ⟨_, _, _, _, _, _, rfl, rfl, by omega, rfl⟩ (by omega)
          · intro c20
            refine And.intro ⟨rfl, by decide, by decide⟩ ?_
            refine fload rL_741_741_4372_4390_3_0 h0 hB1 (by omega) ?_
            intro z21 lz21 uz21 qz21
            intro z22 hz22 ez22
            intro z23 hz23 ez23 bz23
            refine And.intro (by omega) (And.intro ?_ ?_)
            · intro c24
              refine And.intro ⟨rfl, by decide, by decide⟩ (fgetf fb_740_34 h0 hB1 ?_)
              intro z25 lz25 uz25 qz25
              refine And.intro (by omega) (And.intro ?_ ?_)
              · intro c26
                refine And.intro ⟨rfl, by decide, by decide⟩ (And.intro rfl (And.intro (Or.inr ⟨rfl, by omega⟩) (fputf fb_740_35 (by decide +kernel) hW (by omega) ?_)))
                intro IhB27 ehB27 hB27
                have t28 : IhB27 740 34 = I1 740 34 := (congrFun (congrFun ehB27 740) 34).trans (fup_ne (by omega))
                have t29 := fup_at ehB27 35 (by omega)
                have t30 : IhB27 741 12 = I1 741 12 := (congrFun (congrFun ehB27 741) 12).trans (fup_ne (by omega))
                have k31 := fBz_eq hB27 (a := 741) (j := 12) (by decide +kernel)
                refine And.intro ⟨rfl, by decide, by decide⟩ (fgetf fb_740_35 h0 hB27 ?_)
                intro z32 lz32 uz32 qz32
                refine And.intro (by omega) (And.intro ?_ ?_)
                · intro c33
                  exact fcutJ (I := IhB27) (j := jc_M_seek_c83ec_59) (lv' := [(0, .inr (.inr (some 740))), (1, .inl _), (2, .inl _), (3, .inl _), (4, .inl _), (5, .inl _), (6, .inl _)]) (And.intro rfl (And.intro rfl (And.intro rfl (And.intro rfl (And.intro rfl (And.intro rfl (And.intro rfl True.intro))))))) ⟨_, _, _, _, _, _, rfl, rfl, by omega, rfl⟩ (by omega)
                · intro c34
                  refine And.intro ⟨rfl, by decide, by decide⟩ (fgetf fb_740_34 h0 hB27 ?_)
                  intro z35 lz35 uz35 qz35
                  intro z36 hz36 ez36 bz36
                  refine And.intro ⟨rfl, by decide, by decide⟩ (And.intro rfl (And.intro (Or.inl rfl) (fputf fb_740_34 (by decide +kernel) hW (by omega) ?_)))
                  intro IhB37 ehB37 hB37
                  have t38 := fup_at ehB37 34 (by omega)
                  have t39 : IhB37 740 35 = IhB27 740 35 := (congrFun (congrFun ehB37 740) 35).trans (fup_ne (by omega))
                  have t40 : IhB37 741 12 = IhB27 741 12 := (congrFun (congrFun ehB37 741) 12).trans (fup_ne (by omega))
                  have k41 := fBz_eq hB37 (a := 741) (j := 12) (by decide +kernel)
                  refine And.intro ⟨rfl, by decide, by decide⟩ ?_
                  refine fstore rS_757_757_0_6_1_0 (fzs_sub (by decide +kernel) hW) (by omega) (by omega) ?_
                  intro IhB42 ehB42 hB42
                  have t43 := fup_self ehB42
                  have t44 : IhB42 740 34 = IhB37 740 34 := (congrFun (congrFun ehB42 740) 34).trans (fup_ne (by omega))
                  have t45 : IhB42 740 35 = IhB37 740 35 := (congrFun (congrFun ehB42 740) 35).trans (fup_ne (by omega))
                  have t46 : IhB42 741 12 = IhB37 741 12 := (congrFun (congrFun ehB42 741) 12).trans (fup_ne (by omega))
                  have k47 := fBz_eq hB42 (a := 741) (j := 12) (by decide +kernel)
                  refine And.intro ⟨rfl, by decide, by decide⟩ ?_
                  refine fload rL_741_741_4370_4388_3_0 h0 hB42 (by omega) ?_
                  intro z48 lz48 uz48 qz48
                  intro z49 hz49 ez49 bz49
                  intro z50 hz50 ez50
                  intro z51 hz51 ez51
                  refine And.intro (by omega) (And.intro ?_ ?_)
                  · intro c52
                    intro z53 hz53 ez53 bz53
                    exfalso
                    omega
                  · intro c54
                    refine And.intro ⟨rfl, by decide, by decide⟩ ?_
                    refine fload rL_741_741_4371_4389_3_0 h0 hB42 (by omega) ?_
                    intro z55 lz55 uz55 qz55
                    intro z56 hz56 ez56 bz56
                    intro z57 hz57 ez57 bz57
                    intro z58 hz58 ez58 bz58
                    exfalso
                    omega
              · intro c59
                refine And.intro ⟨rfl, by decide, by decide⟩ (And.intro rfl (And.intro (Or.inr ⟨rfl, by omega⟩) (fputf fb_740_35 (by decide +kernel) hW (by omega) ?_)))
                intro IhB60 ehB60 hB60
                have t61 : IhB60 740 34 = I1 740 34 := (congrFun (congrFun ehB60 740) 34).trans (fup_ne (by omega))
                have t62 := fup_at ehB60 35 (by omega)
                have t63 : IhB60 741 12 = I1 741 12 := (congrFun (congrFun ehB60 741) 12).trans (fup_ne (by omega))
                have k64 := fBz_eq hB60 (a := 741) (j := 12) (by decide +kernel)
                refine And.intro ⟨rfl, by decide, by decide⟩ (fgetf fb_740_35 h0 hB60 ?_)
                intro z65 lz65 uz65 qz65
                refine And.intro (by omega) (And.intro ?_ ?_)
                · intro c66
                  exact fcutJ (I := IhB60) (j := jc_M_seek_c83ec_59) (lv' := [(0, .inr (.inr (some 740))), (1, .inl _), (2, .inl _), (3, .inl _), (4, .inl _), (5, .inl _), (6, .inl _)]) (And.intro rfl (And.intro rfl (And.intro rfl (And.intro rfl (And.intro rfl (And.intro rfl (And.intro rfl True.intro))))))) ⟨_, _, _, _, _, _, rfl, rfl, by omega, rfl⟩ (by omega)
                · intro c67
                  refine And.intro ⟨rfl, by decide, by decide⟩ (fgetf fb_740_34 h0 hB60 ?_)
                  intro z68 lz68 uz68 qz68
                  intro z69 hz69 ez69 bz69
                  refine And.intro ⟨rfl, by decide, by decide⟩ (And.intro rfl (And.intro (Or.inl rfl) (fputf fb_740_34 (by decide +kernel) hW (by omega) ?_)))
                  intro IhB70 ehB70 hB70
                  have t71 := fup_at ehB70 34 (by omega)
                  have t72 : IhB70 740 35 = IhB60 740 35 := (congrFun (congrFun ehB70 740) 35).trans (fup_ne (by omega))
                  have t73 : IhB70 741 12 = IhB60 741 12 := (congrFun (congrFun ehB70 741) 12).trans (fup_ne (by omega))
                  have k74 := fBz_eq hB70 (a := 741) (j := 12) (by decide +kernel)
                  refine And.intro ⟨rfl, by decide, by decide⟩ ?_
                  refine fstore rS_757_757_0_6_1_0 (fzs_sub (by decide +kernel) hW) (by omega) (by omega) ?_
                  intro IhB75 ehB75 hB75
                  have t76 := fup_self ehB75
                  have t77 : IhB75 740 34 = IhB70 740 34 := (congrFun (congrFun ehB75 740) 34).trans (fup_ne (by omega))
                  have t78 : IhB75 740 35 = IhB70 740 35 := (congrFun (congrFun ehB75 740) 35).trans (fup_ne (by omega))
                  have t79 : IhB75 741 12 = IhB70 741 12 := (congrFun (congrFun ehB75 741) 12).trans (fup_ne (by omega))
                  have k80 := fBz_eq hB75 (a := 741) (j := 12) (by decide +kernel)
                  refine And.intro ⟨rfl, by decide, by decide⟩ ?_
                  refine fload rL_741_741_4370_4388_3_0 h0 hB75 (by omega) ?_
                  intro z81 lz81 uz81 qz81
                  intro z82 hz82 ez82 bz82
                  intro z83 hz83 ez83
                  intro z84 hz84 ez84
                  refine And.intro (by omega) (And.intro ?_ ?_)
                  · intro c85
                    intro z86 hz86 ez86 bz86
                    exfalso
                    omega
                  · intro c87
                    refine And.intro ⟨rfl, by decide, by decide⟩ ?_
                    refine fload rL_741_741_4371_4389_3_0 h0 hB75 (by omega) ?_
                    intro z88 lz88 uz88 qz88
                    intro z89 hz89 ez89 bz89
                    intro z90 hz90 ez90 bz90
                    intro z91 hz91 ez91 bz91
                    exfalso
                    omega
            · intro c92
              exact fcutJ (I := I1) (j := jc_M_seek_c83ec_59) (lv' := [(0, .inr (.inr (some 740))), (1, .inl _), (2, .inl _), (3, .inl _), (4, .inl _), (5, .inl _), (6, .inl _)]) (And.intro rfl (And.intro rfl (And.intro rfl (And.intro rfl (And.intro rfl (And.intro rfl (And.intro rfl True.intro))))))) ⟨_, _, _, _, _, _, rfl, rfl, by omega, rfl⟩ (by omega)
  · have hB0 := fB_self (zn := znJ) (K := fKc wz_4d25e) h0
    refine And.intro ⟨rfl, by decide, by decide⟩ ?_
    refine fload rL_741_741_12_12_1_0 h0 hB0 (by omega) ?_
    intro z93 lz93 uz93 qz93
    have pz93 := fld_at qz93 12 (by omega)
    refine And.intro (by omega) (And.intro ?_ ?_)
    · intro c94
      exact fcutJ (I := I) (j := jc_M_seek_c83ec_59) (lv' := [(0, .inr (.inr (some 740))), (1, .inl _), (2, .inl _), (3, .inl _), (4, .inl _), (5, .inl _), (6, .inl _)]) (And.intro rfl (And.intro rfl (And.intro rfl (And.intro rfl (And.intro rfl (And.intro rfl (And.intro rfl True.intro))))))) ⟨_, _, _, _, _, _, rfl, rfl, by omega, rfl⟩ (by omega)
    · intro c95
      refine And.intro ⟨rfl, by decide, by decide⟩ (fgetf fb_740_33 h0 hB0 ?_)
      intro z96 lz96 uz96 qz96
      refine And.intro (by omega) (And.intro ?_ ?_)
      · intro c97
        exact rfl
      · intro c98
        refine And.intro ⟨rfl, by decide, by decide⟩ (And.intro rfl (And.intro (Or.inl rfl) (fputf fb_740_33 (by decide +kernel) hW (by omega) ?_)))
        intro IhB99 ehB99 hB99
        have t100 := fup_at ehB99 33 (by omega)
        have t101 : IhB99 741 12 = I 741 12 := (congrFun (congrFun ehB99 741) 12).trans (fup_ne (by omega))
        have k102 := fBz_eq hB99 (a := 741) (j := 12) (by decide +kernel)
        exact fcutJ (I := IhB99) (j := jc_M_seek_c83ec_29) (lv' := [(0, .inr (.inr (some 740))), (2, .inl _), (6, .inl _)]) (And.intro rfl (And.intro rfl (And.intro rfl True.intro))) ⟨_, _, rfl, rfl, by omega, rfl⟩ (by omega)
abbrev jc_M_seek_ae1ea_29 : Nat → fL → List fV → fH → Prop := fun m lv st I => ∃ (y2 : Int) (y6 : Int), lv = [(0, .inr (.inr (some 740))), (2, .inl y2), (6, .inl y6)] ∧ st = [] ∧ (((6 ≤ y2 ∧ y2 ≤ 6) ∧ (0 ≤ y6 ∧ y6 ≤ 6) ∧ ((-2147483647) ≤ I 740 33 ∧ I 740 33 ≤ 2147483647) ∧ (6 ≤ I 741 12 ∧ I 741 12 ≤ 6))) ∧ m = (9 + 1 * (6 - y6) : Int).toNat
abbrev jc_M_seek_ae1ea_59 : Nat → fL → List fV → fH → Prop := fun m lv st I => ∃ (y1 : Int) (y2 : Int) (y3 : Int) (y4 : Int) (y5 : Int) (y6 : Int), lv = [(0, .inr (.inr (some 740))), (1, .inl y1), (2, .inl y2), (3, .inl y3), (4, .inl y4), (5, .inl y5), (6, .inl y6)] ∧ st = [] ∧ (((1 ≤ y1 ∧ y1 ≤ 60) ∧ (6 ≤ y2 ∧ y2 ≤ 6) ∧ ((-2147483648) ≤ y3 ∧ y3 ≤ 2147483647) ∧ ((-2147483648) ≤ y4 ∧ y4 ≤ 2147483647) ∧ ((-2147483648) ≤ y5 ∧ y5 ≤ 2147483647) ∧ (0 ≤ y6 ∧ y6 ≤ 7) ∧ (y2 < I 741 12))) ∧ m = (1 + 1 * (7 - y6) : Int).toNat
set_option maxRecDepth 8000 in
theorem ct_M_seek_ae1ea {I : fH} {x1 : Int} {x2 : Int} {x3 : Int} {x4 : Int} {x5 : Int} (h0 : fB bsJ I) (ha1 : (1 ≤ x1 ∧ x1 ≤ 60)) (ha2 : (6 ≤ x2 ∧ x2 ≤ 6)) (ha3 : ((-2147483648) ≤ x3 ∧ x3 ≤ 2147483647)) (ha4 : ((-2147483648) ≤ x4 ∧ x4 ≤ 2147483647)) (ha5 : ((-2147483648) ≤ x5 ∧ x5 ≤ 2147483647)) (hp0 : x2 = 6) (hp1 : x2 ≤ I 741 12) : fC ρ base n F xTc vwCl xTys D dA la gJ (fbz bsJ znJ (fKc wz_4d25e) I) xm_480 [.inr (.inr (some 740)), .inl x1, .inl x2, .inl x3, .inl x4, .inl x5] I (fun _ r => r = none) := by
  have hW : fzs wz_4d25e (fKc wz_4d25e) := fKc_ok _
  refine f_meth (rb := rbJ) (J := [(29, jc_M_seek_ae1ea_29), (59, jc_M_seek_ae1ea_59)]) 16 400 xG xin_480 x6_480 okJ (fB_self h0) ?_ ?_
  · refine List.forall_mem_cons.mpr ⟨?_, List.forall_mem_cons.mpr ⟨?_, fun q h => absurd h List.not_mem_nil⟩⟩
    · rintro m _ _ I1 hB1 ⟨y2, y6, rfl, rfl, hb, hm⟩
      have k1 := fBz_eq hB1 (a := 741) (j := 12) (by decide +kernel)
      refine And.intro (by omega) (And.intro ?_ ?_)
      · intro c2
        exact rfl
      · intro c3
        refine And.intro ⟨rfl, by decide, by decide⟩ ?_
        refine And.intro ⟨rfl, by decide, by decide⟩ ?_
        refine fload rL_757_757_0_6_1_0 h0 hB1 (by omega) ?_
        intro z4 lz4 uz4 qz4
        refine fstore rS_758_758_0_6_1_0 (fzs_sub (by decide +kernel) hW) (by omega) (by omega) ?_
        intro IhB5 ehB5 hB5
        have t6 := fup_self ehB5
        have t7 : IhB5 740 33 = I1 740 33 := (congrFun (congrFun ehB5 740) 33).trans (fup_ne (by omega))
        have t8 : IhB5 741 12 = I1 741 12 := (congrFun (congrFun ehB5 741) 12).trans (fup_ne (by omega))
        have k9 := fBz_eq hB5 (a := 741) (j := 12) (by decide +kernel)
        exact fcutJ (I := IhB5) (j := jc_M_seek_ae1ea_29) (lv' := [(0, .inr (.inr (some 740))), (2, .inl _), (6, .inl _)]) (And.intro rfl (And.intro rfl (And.intro rfl True.intro))) ⟨_, _, rfl, rfl, by omega, rfl⟩ (by omega)
    · rintro m _ _ I1 hB1 ⟨y1, y2, y3, y4, y5, y6, rfl, rfl, hb, hm⟩
      have k10 := fBz_eq hB1 (a := 741) (j := 12) (by decide +kernel)
      refine And.intro ⟨rfl, by decide, by decide⟩ ?_
      refine fload rL_741_741_12_12_1_0 h0 hB1 (by omega) ?_
      intro z11 lz11 uz11 qz11
      have pz11 := fld_at qz11 12 (by omega)
      refine And.intro (by omega) (And.intro ?_ ?_)
      · intro c12
        exact rfl
      · intro c13
        refine And.intro ⟨rfl, by decide, by decide⟩ (fgetf fb_740_35 h0 hB1 ?_)
        intro z14 lz14 uz14 qz14
        refine And.intro (by omega) (And.intro ?_ ?_)
        · intro c15
          exact rfl
        · intro c16
          intro z17 hz17 ez17
          intro z18 hz18 ez18 bz18
          refine And.intro (by omega) (And.intro ?_ ?_)
          · intro c19
            exact fcutJ (I := I1) (j := jc_M_seek_ae1ea_59) (lv' := [(0, .inr (.inr (some 740))), (1, .inl _), (2, .inl _), (3, .inl _), (4, .inl _), (5, .inl _), (6, .inl _)]) (And.intro rfl (And.intro rfl (And.intro rfl (And.intro rfl (And.intro rfl (And.intro rfl (And.intro rfl True.intro))))))) ⟨_, _, _, _, _, _, rfl, rfl, by omega, rfl⟩ (by omega)
          · intro c20
            refine And.intro ⟨rfl, by decide, by decide⟩ ?_
            refine fload rL_741_741_4372_4390_3_0 h0 hB1 (by omega) ?_
            intro z21 lz21 uz21 qz21
            intro z22 hz22 ez22
            intro z23 hz23 ez23 bz23
            refine And.intro (by omega) (And.intro ?_ ?_)
            · intro c24
              refine And.intro ⟨rfl, by decide, by decide⟩ (fgetf fb_740_34 h0 hB1 ?_)
              intro z25 lz25 uz25 qz25
              refine And.intro (by omega) (And.intro ?_ ?_)
              · intro c26
                refine And.intro ⟨rfl, by decide, by decide⟩ (And.intro rfl (And.intro (Or.inr ⟨rfl, by omega⟩) (fputf fb_740_35 (by decide +kernel) hW (by omega) ?_)))
                intro IhB27 ehB27 hB27
                have t28 : IhB27 740 34 = I1 740 34 := (congrFun (congrFun ehB27 740) 34).trans (fup_ne (by omega))
                have t29 := fup_at ehB27 35 (by omega)
                have t30 : IhB27 741 12 = I1 741 12 := (congrFun (congrFun ehB27 741) 12).trans (fup_ne (by omega))
                have k31 := fBz_eq hB27 (a := 741) (j := 12) (by decide +kernel)
                refine And.intro ⟨rfl, by decide, by decide⟩ (fgetf fb_740_35 h0 hB27 ?_)
                intro z32 lz32 uz32 qz32
                refine And.intro (by omega) (And.intro ?_ ?_)
                · intro c33
                  exact fcutJ (I := IhB27) (j := jc_M_seek_ae1ea_59) (lv' := [(0, .inr (.inr (some 740))), (1, .inl _), (2, .inl _), (3, .inl _), (4, .inl _), (5, .inl _), (6, .inl _)]) (And.intro rfl (And.intro rfl (And.intro rfl (And.intro rfl (And.intro rfl (And.intro rfl (And.intro rfl True.intro))))))) ⟨_, _, _, _, _, _, rfl, rfl, by omega, rfl⟩ (by omega)
                · intro c34
                  refine And.intro ⟨rfl, by decide, by decide⟩ (fgetf fb_740_34 h0 hB27 ?_)
                  intro z35 lz35 uz35 qz35
                  intro z36 hz36 ez36 bz36
                  refine And.intro ⟨rfl, by decide, by decide⟩ (And.intro rfl (And.intro (Or.inl rfl) (fputf fb_740_34 (by decide +kernel) hW (by omega) ?_)))
                  intro IhB37 ehB37 hB37
                  have t38 := fup_at ehB37 34 (by omega)
                  have t39 : IhB37 740 35 = IhB27 740 35 := (congrFun (congrFun ehB37 740) 35).trans (fup_ne (by omega))
                  have t40 : IhB37 741 12 = IhB27 741 12 := (congrFun (congrFun ehB37 741) 12).trans (fup_ne (by omega))
                  have k41 := fBz_eq hB37 (a := 741) (j := 12) (by decide +kernel)
                  refine And.intro ⟨rfl, by decide, by decide⟩ ?_
                  refine fstore rS_757_757_0_6_1_0 (fzs_sub (by decide +kernel) hW) (by omega) (by omega) ?_
                  intro IhB42 ehB42 hB42
                  have t43 := fup_self ehB42
                  have t44 : IhB42 740 34 = IhB37 740 34 := (congrFun (congrFun ehB42 740) 34).trans (fup_ne (by omega))
                  have t45 : IhB42 740 35 = IhB37 740 35 := (congrFun (congrFun ehB42 740) 35).trans (fup_ne (by omega))
                  have t46 : IhB42 741 12 = IhB37 741 12 := (congrFun (congrFun ehB42 741) 12).trans (fup_ne (by omega))
                  have k47 := fBz_eq hB42 (a := 741) (j := 12) (by decide +kernel)
                  refine And.intro ⟨rfl, by decide, by decide⟩ ?_
                  refine fload rL_741_741_4370_4388_3_0 h0 hB42 (by omega) ?_
                  intro z48 lz48 uz48 qz48
                  intro z49 hz49 ez49 bz49
                  intro z50 hz50 ez50
                  intro z51 hz51 ez51
                  refine And.intro (by omega) (And.intro ?_ ?_)
                  · intro c52
                    intro z53 hz53 ez53 bz53
                    refine Exists.intro xm_479 (And.intro mi_479 (And.intro ⟨rfl, rfl, rfl, rfl⟩ (And.intro rfl ?_)))
                    refine fcall _ h0 (fzs_sub (by decide +kernel) hW) hB42 (ct_M_seek_c83ec (fBz h0 hB42) (by omega) (by omega) (by omega) (by omega) (by omega) (by omega) (by omega)) ?_
                    rintro IhB55 _ hB55 fhB55 rfl
                    have t56 := fhB55 741 12 (by decide +kernel)
                    have k57 := fBz_eq hB55 (a := 741) (j := 12) (by decide +kernel)
                    exact fcutJ (I := IhB55) (j := jc_M_seek_ae1ea_59) (lv' := [(0, .inr (.inr (some 740))), (1, .inl _), (2, .inl _), (3, .inl _), (4, .inl _), (5, .inl _), (6, .inl _)]) (And.intro rfl (And.intro rfl (And.intro rfl (And.intro rfl (And.intro rfl (And.intro rfl (And.intro rfl True.intro))))))) ⟨_, _, _, _, _, _, rfl, rfl, by omega, rfl⟩ (by omega)
                  · intro c58
                    refine And.intro ⟨rfl, by decide, by decide⟩ ?_
                    refine fload rL_741_741_4371_4389_3_0 h0 hB42 (by omega) ?_
                    intro z59 lz59 uz59 qz59
                    intro z60 hz60 ez60 bz60
                    intro z61 hz61 ez61 bz61
                    intro z62 hz62 ez62 bz62
                    refine Exists.intro xm_479 (And.intro mi_479 (And.intro ⟨rfl, rfl, rfl, rfl⟩ (And.intro rfl ?_)))
                    refine fcall _ h0 (fzs_sub (by decide +kernel) hW) hB42 (ct_M_seek_c83ec (fBz h0 hB42) (by omega) (by omega) (by omega) (by omega) (by omega) (by omega) (by omega)) ?_
                    rintro IhB64 _ hB64 fhB64 rfl
                    have t65 := fhB64 741 12 (by decide +kernel)
                    have k66 := fBz_eq hB64 (a := 741) (j := 12) (by decide +kernel)
                    exact fcutJ (I := IhB64) (j := jc_M_seek_ae1ea_59) (lv' := [(0, .inr (.inr (some 740))), (1, .inl _), (2, .inl _), (3, .inl _), (4, .inl _), (5, .inl _), (6, .inl _)]) (And.intro rfl (And.intro rfl (And.intro rfl (And.intro rfl (And.intro rfl (And.intro rfl (And.intro rfl True.intro))))))) ⟨_, _, _, _, _, _, rfl, rfl, by omega, rfl⟩ (by omega)
              · intro c67
                refine And.intro ⟨rfl, by decide, by decide⟩ (And.intro rfl (And.intro (Or.inr ⟨rfl, by omega⟩) (fputf fb_740_35 (by decide +kernel) hW (by omega) ?_)))
                intro IhB68 ehB68 hB68
                have t69 : IhB68 740 34 = I1 740 34 := (congrFun (congrFun ehB68 740) 34).trans (fup_ne (by omega))
                have t70 := fup_at ehB68 35 (by omega)
                have t71 : IhB68 741 12 = I1 741 12 := (congrFun (congrFun ehB68 741) 12).trans (fup_ne (by omega))
                have k72 := fBz_eq hB68 (a := 741) (j := 12) (by decide +kernel)
                refine And.intro ⟨rfl, by decide, by decide⟩ (fgetf fb_740_35 h0 hB68 ?_)
                intro z73 lz73 uz73 qz73
                refine And.intro (by omega) (And.intro ?_ ?_)
                · intro c74
                  exact fcutJ (I := IhB68) (j := jc_M_seek_ae1ea_59) (lv' := [(0, .inr (.inr (some 740))), (1, .inl _), (2, .inl _), (3, .inl _), (4, .inl _), (5, .inl _), (6, .inl _)]) (And.intro rfl (And.intro rfl (And.intro rfl (And.intro rfl (And.intro rfl (And.intro rfl (And.intro rfl True.intro))))))) ⟨_, _, _, _, _, _, rfl, rfl, by omega, rfl⟩ (by omega)
                · intro c75
                  refine And.intro ⟨rfl, by decide, by decide⟩ (fgetf fb_740_34 h0 hB68 ?_)
                  intro z76 lz76 uz76 qz76
                  intro z77 hz77 ez77 bz77
                  refine And.intro ⟨rfl, by decide, by decide⟩ (And.intro rfl (And.intro (Or.inl rfl) (fputf fb_740_34 (by decide +kernel) hW (by omega) ?_)))
                  intro IhB78 ehB78 hB78
                  have t79 := fup_at ehB78 34 (by omega)
                  have t80 : IhB78 740 35 = IhB68 740 35 := (congrFun (congrFun ehB78 740) 35).trans (fup_ne (by omega))
                  have t81 : IhB78 741 12 = IhB68 741 12 := (congrFun (congrFun ehB78 741) 12).trans (fup_ne (by omega))
                  have k82 := fBz_eq hB78 (a := 741) (j := 12) (by decide +kernel)
                  refine And.intro ⟨rfl, by decide, by decide⟩ ?_
                  refine fstore rS_757_757_0_6_1_0 (fzs_sub (by decide +kernel) hW) (by omega) (by omega) ?_
                  intro IhB83 ehB83 hB83
                  have t84 := fup_self ehB83
                  have t85 : IhB83 740 34 = IhB78 740 34 := (congrFun (congrFun ehB83 740) 34).trans (fup_ne (by omega))
                  have t86 : IhB83 740 35 = IhB78 740 35 := (congrFun (congrFun ehB83 740) 35).trans (fup_ne (by omega))
                  have t87 : IhB83 741 12 = IhB78 741 12 := (congrFun (congrFun ehB83 741) 12).trans (fup_ne (by omega))
                  have k88 := fBz_eq hB83 (a := 741) (j := 12) (by decide +kernel)
                  refine And.intro ⟨rfl, by decide, by decide⟩ ?_
                  refine fload rL_741_741_4370_4388_3_0 h0 hB83 (by omega) ?_
                  intro z89 lz89 uz89 qz89
                  intro z90 hz90 ez90 bz90
                  intro z91 hz91 ez91
                  intro z92 hz92 ez92
                  refine And.intro (by omega) (And.intro ?_ ?_)
                  · intro c93
                    intro z94 hz94 ez94 bz94
                    refine Exists.intro xm_479 (And.intro mi_479 (And.intro ⟨rfl, rfl, rfl, rfl⟩ (And.intro rfl ?_)))
                    refine fcall _ h0 (fzs_sub (by decide +kernel) hW) hB83 (ct_M_seek_c83ec (fBz h0 hB83) (by omega) (by omega) (by omega) (by omega) (by omega) (by omega) (by omega)) ?_
                    rintro IhB96 _ hB96 fhB96 rfl
                    have t97 := fhB96 741 12 (by decide +kernel)
                    have k98 := fBz_eq hB96 (a := 741) (j := 12) (by decide +kernel)
                    exact fcutJ (I := IhB96) (j := jc_M_seek_ae1ea_59) (lv' := [(0, .inr (.inr (some 740))), (1, .inl _), (2, .inl _), (3, .inl _), (4, .inl _), (5, .inl _), (6, .inl _)]) (And.intro rfl (And.intro rfl (And.intro rfl (And.intro rfl (And.intro rfl (And.intro rfl (And.intro rfl True.intro))))))) ⟨_, _, _, _, _, _, rfl, rfl, by omega, rfl⟩ (by omega)
                  · intro c99
                    refine And.intro ⟨rfl, by decide, by decide⟩ ?_
                    refine fload rL_741_741_4371_4389_3_0 h0 hB83 (by omega) ?_
                    intro z100 lz100 uz100 qz100
                    intro z101 hz101 ez101 bz101
                    intro z102 hz102 ez102 bz102
                    intro z103 hz103 ez103 bz103
                    refine Exists.intro xm_479 (And.intro mi_479 (And.intro ⟨rfl, rfl, rfl, rfl⟩ (And.intro rfl ?_)))
                    refine fcall _ h0 (fzs_sub (by decide +kernel) hW) hB83 (ct_M_seek_c83ec (fBz h0 hB83) (by omega) (by omega) (by omega) (by omega) (by omega) (by omega) (by omega)) ?_
                    rintro IhB105 _ hB105 fhB105 rfl
                    have t106 := fhB105 741 12 (by decide +kernel)
                    have k107 := fBz_eq hB105 (a := 741) (j := 12) (by decide +kernel)
                    exact fcutJ (I := IhB105) (j := jc_M_seek_ae1ea_59) (lv' := [(0, .inr (.inr (some 740))), (1, .inl _), (2, .inl _), (3, .inl _), (4, .inl _), (5, .inl _), (6, .inl _)]) (And.intro rfl (And.intro rfl (And.intro rfl (And.intro rfl (And.intro rfl (And.intro rfl (And.intro rfl True.intro))))))) ⟨_, _, _, _, _, _, rfl, rfl, by omega, rfl⟩ (by omega)
            · intro c108
              exact fcutJ (I := I1) (j := jc_M_seek_ae1ea_59) (lv' := [(0, .inr (.inr (some 740))), (1, .inl _), (2, .inl _), (3, .inl _), (4, .inl _), (5, .inl _), (6, .inl _)]) (And.intro rfl (And.intro rfl (And.intro rfl (And.intro rfl (And.intro rfl (And.intro rfl (And.intro rfl True.intro))))))) ⟨_, _, _, _, _, _, rfl, rfl, by omega, rfl⟩ (by omega)
  · have hB0 := fB_self (zn := znJ) (K := fKc wz_4d25e) h0
    refine And.intro ⟨rfl, by decide, by decide⟩ ?_
    refine fload rL_741_741_12_12_1_0 h0 hB0 (by omega) ?_
    intro z109 lz109 uz109 qz109
    have pz109 := fld_at qz109 12 (by omega)
    refine And.intro (by omega) (And.intro ?_ ?_)
    · intro c110
      exact fcutJ (I := I) (j := jc_M_seek_ae1ea_59) (lv' := [(0, .inr (.inr (some 740))), (1, .inl _), (2, .inl _), (3, .inl _), (4, .inl _), (5, .inl _), (6, .inl _)]) (And.intro rfl (And.intro rfl (And.intro rfl (And.intro rfl (And.intro rfl (And.intro rfl (And.intro rfl True.intro))))))) ⟨_, _, _, _, _, _, rfl, rfl, by omega, rfl⟩ (by omega)
    · intro c111
      refine And.intro ⟨rfl, by decide, by decide⟩ (fgetf fb_740_33 h0 hB0 ?_)
      intro z112 lz112 uz112 qz112
      refine And.intro (by omega) (And.intro ?_ ?_)
      · intro c113
        exact rfl
      · intro c114
        refine And.intro ⟨rfl, by decide, by decide⟩ (And.intro rfl (And.intro (Or.inl rfl) (fputf fb_740_33 (by decide +kernel) hW (by omega) ?_)))
        intro IhB115 ehB115 hB115
        have t116 := fup_at ehB115 33 (by omega)
        have t117 : IhB115 741 12 = I 741 12 := (congrFun (congrFun ehB115 741) 12).trans (fup_ne (by omega))
        have k118 := fBz_eq hB115 (a := 741) (j := 12) (by decide +kernel)
        exact fcutJ (I := IhB115) (j := jc_M_seek_ae1ea_29) (lv' := [(0, .inr (.inr (some 740))), (2, .inl _), (6, .inl _)]) (And.intro rfl (And.intro rfl (And.intro rfl True.intro))) ⟨_, _, rfl, rfl, by omega, rfl⟩ (by omega)
abbrev jc_M_seek_5a34b_29 : Nat → fL → List fV → fH → Prop := fun m lv st I => ∃ (y2 : Int) (y6 : Int), lv = [(0, .inr (.inr (some 740))), (2, .inl y2), (6, .inl y6)] ∧ st = [] ∧ (((5 ≤ y2 ∧ y2 ≤ 5) ∧ (0 ≤ y6 ∧ y6 ≤ 5) ∧ ((-2147483647) ≤ I 740 33 ∧ I 740 33 ≤ 2147483647) ∧ (5 ≤ I 741 12 ∧ I 741 12 ≤ 5))) ∧ m = (9 + 1 * (5 - y6) : Int).toNat
abbrev jc_M_seek_5a34b_59 : Nat → fL → List fV → fH → Prop := fun m lv st I => ∃ (y1 : Int) (y2 : Int) (y3 : Int) (y4 : Int) (y5 : Int) (y6 : Int), lv = [(0, .inr (.inr (some 740))), (1, .inl y1), (2, .inl y2), (3, .inl y3), (4, .inl y4), (5, .inl y5), (6, .inl y6)] ∧ st = [] ∧ (((1 ≤ y1 ∧ y1 ≤ 60) ∧ (5 ≤ y2 ∧ y2 ≤ 5) ∧ ((-2147483648) ≤ y3 ∧ y3 ≤ 2147483647) ∧ ((-2147483648) ≤ y4 ∧ y4 ≤ 2147483647) ∧ ((-2147483648) ≤ y5 ∧ y5 ≤ 2147483647) ∧ (0 ≤ y6 ∧ y6 ≤ 7) ∧ (y2 < I 741 12))) ∧ m = (1 + 1 * (7 - y6) : Int).toNat
set_option maxRecDepth 8000 in
theorem ct_M_seek_5a34b {I : fH} {x1 : Int} {x2 : Int} {x3 : Int} {x4 : Int} {x5 : Int} (h0 : fB bsJ I) (ha1 : (1 ≤ x1 ∧ x1 ≤ 60)) (ha2 : (5 ≤ x2 ∧ x2 ≤ 5)) (ha3 : ((-2147483648) ≤ x3 ∧ x3 ≤ 2147483647)) (ha4 : ((-2147483648) ≤ x4 ∧ x4 ≤ 2147483647)) (ha5 : ((-2147483648) ≤ x5 ∧ x5 ≤ 2147483647)) (hp0 : x2 = 5) (hp1 : x2 ≤ I 741 12) : fC ρ base n F xTc vwCl xTys D dA la gJ (fbz bsJ znJ (fKc wz_4d25e) I) xm_481 [.inr (.inr (some 740)), .inl x1, .inl x2, .inl x3, .inl x4, .inl x5] I (fun _ r => r = none) := by
  have hW : fzs wz_4d25e (fKc wz_4d25e) := fKc_ok _
  refine f_meth (rb := rbJ) (J := [(29, jc_M_seek_5a34b_29), (59, jc_M_seek_5a34b_59)]) 15 400 xG xin_481 x6_481 okJ (fB_self h0) ?_ ?_
  · refine List.forall_mem_cons.mpr ⟨?_, List.forall_mem_cons.mpr ⟨?_, fun q h => absurd h List.not_mem_nil⟩⟩
    · rintro m _ _ I1 hB1 ⟨y2, y6, rfl, rfl, hb, hm⟩
      have k1 := fBz_eq hB1 (a := 741) (j := 12) (by decide +kernel)
      refine And.intro (by omega) (And.intro ?_ ?_)
      · intro c2
        exact rfl
      · intro c3
        refine And.intro ⟨rfl, by decide, by decide⟩ ?_
        refine And.intro ⟨rfl, by decide, by decide⟩ ?_
        refine fload rL_757_757_0_6_1_0 h0 hB1 (by omega) ?_
        intro z4 lz4 uz4 qz4
        refine fstore rS_758_758_0_6_1_0 (fzs_sub (by decide +kernel) hW) (by omega) (by omega) ?_
        intro IhB5 ehB5 hB5
        have t6 := fup_self ehB5
        have t7 : IhB5 740 33 = I1 740 33 := (congrFun (congrFun ehB5 740) 33).trans (fup_ne (by omega))
        have t8 : IhB5 741 12 = I1 741 12 := (congrFun (congrFun ehB5 741) 12).trans (fup_ne (by omega))
        have k9 := fBz_eq hB5 (a := 741) (j := 12) (by decide +kernel)
        exact fcutJ (I := IhB5) (j := jc_M_seek_5a34b_29) (lv' := [(0, .inr (.inr (some 740))), (2, .inl _), (6, .inl _)]) (And.intro rfl (And.intro rfl (And.intro rfl True.intro))) ⟨_, _, rfl, rfl, by omega, rfl⟩ (by omega)
    · rintro m _ _ I1 hB1 ⟨y1, y2, y3, y4, y5, y6, rfl, rfl, hb, hm⟩
      have k10 := fBz_eq hB1 (a := 741) (j := 12) (by decide +kernel)
      refine And.intro ⟨rfl, by decide, by decide⟩ ?_
      refine fload rL_741_741_12_12_1_0 h0 hB1 (by omega) ?_
      intro z11 lz11 uz11 qz11
      have pz11 := fld_at qz11 12 (by omega)
      refine And.intro (by omega) (And.intro ?_ ?_)
      · intro c12
        exact rfl
      · intro c13
        refine And.intro ⟨rfl, by decide, by decide⟩ (fgetf fb_740_35 h0 hB1 ?_)
        intro z14 lz14 uz14 qz14
        refine And.intro (by omega) (And.intro ?_ ?_)
        · intro c15
          exact rfl
        · intro c16
          intro z17 hz17 ez17
          intro z18 hz18 ez18 bz18
          refine And.intro (by omega) (And.intro ?_ ?_)
          · intro c19
            exact fcutJ (I := I1) (j := jc_M_seek_5a34b_59) (lv' := [(0, .inr (.inr (some 740))), (1, .inl _), (2, .inl _), (3, .inl _), (4, .inl _), (5, .inl _), (6, .inl _)]) (And.intro rfl (And.intro rfl (And.intro rfl (And.intro rfl (And.intro rfl (And.intro rfl (And.intro rfl True.intro))))))) ⟨_, _, _, _, _, _, rfl, rfl, by omega, rfl⟩ (by omega)
          · intro c20
            refine And.intro ⟨rfl, by decide, by decide⟩ ?_
            refine fload rL_741_741_4372_4390_3_0 h0 hB1 (by omega) ?_
            intro z21 lz21 uz21 qz21
            intro z22 hz22 ez22
            intro z23 hz23 ez23 bz23
            refine And.intro (by omega) (And.intro ?_ ?_)
            · intro c24
              refine And.intro ⟨rfl, by decide, by decide⟩ (fgetf fb_740_34 h0 hB1 ?_)
              intro z25 lz25 uz25 qz25
              refine And.intro (by omega) (And.intro ?_ ?_)
              · intro c26
                refine And.intro ⟨rfl, by decide, by decide⟩ (And.intro rfl (And.intro (Or.inr ⟨rfl, by omega⟩) (fputf fb_740_35 (by decide +kernel) hW (by omega) ?_)))
                intro IhB27 ehB27 hB27
                have t28 : IhB27 740 34 = I1 740 34 := (congrFun (congrFun ehB27 740) 34).trans (fup_ne (by omega))
                have t29 := fup_at ehB27 35 (by omega)
                have t30 : IhB27 741 12 = I1 741 12 := (congrFun (congrFun ehB27 741) 12).trans (fup_ne (by omega))
                have k31 := fBz_eq hB27 (a := 741) (j := 12) (by decide +kernel)
                refine And.intro ⟨rfl, by decide, by decide⟩ (fgetf fb_740_35 h0 hB27 ?_)
                intro z32 lz32 uz32 qz32
                refine And.intro (by omega) (And.intro ?_ ?_)
                · intro c33
                  exact fcutJ (I := IhB27) (j := jc_M_seek_5a34b_59) (lv' := [(0, .inr (.inr (some 740))), (1, .inl _), (2, .inl _), (3, .inl _), (4, .inl _), (5, .inl _), (6, .inl _)]) (And.intro rfl (And.intro rfl (And.intro rfl (And.intro rfl (And.intro rfl (And.intro rfl (And.intro rfl True.intro))))))) ⟨_, _, _, _, _, _, rfl, rfl, by omega, rfl⟩ (by omega)
                · intro c34
                  refine And.intro ⟨rfl, by decide, by decide⟩ (fgetf fb_740_34 h0 hB27 ?_)
                  intro z35 lz35 uz35 qz35
                  intro z36 hz36 ez36 bz36
                  refine And.intro ⟨rfl, by decide, by decide⟩ (And.intro rfl (And.intro (Or.inl rfl) (fputf fb_740_34 (by decide +kernel) hW (by omega) ?_)))
                  intro IhB37 ehB37 hB37
                  have t38 := fup_at ehB37 34 (by omega)
                  have t39 : IhB37 740 35 = IhB27 740 35 := (congrFun (congrFun ehB37 740) 35).trans (fup_ne (by omega))
                  have t40 : IhB37 741 12 = IhB27 741 12 := (congrFun (congrFun ehB37 741) 12).trans (fup_ne (by omega))
                  have k41 := fBz_eq hB37 (a := 741) (j := 12) (by decide +kernel)
                  refine And.intro ⟨rfl, by decide, by decide⟩ ?_
                  refine fstore rS_757_757_0_6_1_0 (fzs_sub (by decide +kernel) hW) (by omega) (by omega) ?_
                  intro IhB42 ehB42 hB42
                  have t43 := fup_self ehB42
                  have t44 : IhB42 740 34 = IhB37 740 34 := (congrFun (congrFun ehB42 740) 34).trans (fup_ne (by omega))
                  have t45 : IhB42 740 35 = IhB37 740 35 := (congrFun (congrFun ehB42 740) 35).trans (fup_ne (by omega))
                  have t46 : IhB42 741 12 = IhB37 741 12 := (congrFun (congrFun ehB42 741) 12).trans (fup_ne (by omega))
                  have k47 := fBz_eq hB42 (a := 741) (j := 12) (by decide +kernel)
                  refine And.intro ⟨rfl, by decide, by decide⟩ ?_
                  refine fload rL_741_741_4370_4388_3_0 h0 hB42 (by omega) ?_
                  intro z48 lz48 uz48 qz48
                  intro z49 hz49 ez49 bz49
                  intro z50 hz50 ez50
                  intro z51 hz51 ez51
                  refine And.intro (by omega) (And.intro ?_ ?_)
                  · intro c52
                    intro z53 hz53 ez53 bz53
                    refine Exists.intro xm_480 (And.intro mi_480 (And.intro ⟨rfl, rfl, rfl, rfl⟩ (And.intro rfl ?_)))
                    refine fcall _ h0 (fzs_sub (by decide +kernel) hW) hB42 (ct_M_seek_ae1ea (fBz h0 hB42) (by omega) (by omega) (by omega) (by omega) (by omega) (by omega) (by omega)) ?_
                    rintro IhB55 _ hB55 fhB55 rfl
                    have t56 := fhB55 741 12 (by decide +kernel)
                    have k57 := fBz_eq hB55 (a := 741) (j := 12) (by decide +kernel)
                    exact fcutJ (I := IhB55) (j := jc_M_seek_5a34b_59) (lv' := [(0, .inr (.inr (some 740))), (1, .inl _), (2, .inl _), (3, .inl _), (4, .inl _), (5, .inl _), (6, .inl _)]) (And.intro rfl (And.intro rfl (And.intro rfl (And.intro rfl (And.intro rfl (And.intro rfl (And.intro rfl True.intro))))))) ⟨_, _, _, _, _, _, rfl, rfl, by omega, rfl⟩ (by omega)
                  · intro c58
                    refine And.intro ⟨rfl, by decide, by decide⟩ ?_
                    refine fload rL_741_741_4371_4389_3_0 h0 hB42 (by omega) ?_
                    intro z59 lz59 uz59 qz59
                    intro z60 hz60 ez60 bz60
                    intro z61 hz61 ez61 bz61
                    intro z62 hz62 ez62 bz62
                    refine Exists.intro xm_480 (And.intro mi_480 (And.intro ⟨rfl, rfl, rfl, rfl⟩ (And.intro rfl ?_)))
                    refine fcall _ h0 (fzs_sub (by decide +kernel) hW) hB42 (ct_M_seek_ae1ea (fBz h0 hB42) (by omega) (by omega) (by omega) (by omega) (by omega) (by omega) (by omega)) ?_
                    rintro IhB64 _ hB64 fhB64 rfl
                    have t65 := fhB64 741 12 (by decide +kernel)
                    have k66 := fBz_eq hB64 (a := 741) (j := 12) (by decide +kernel)
                    exact fcutJ (I := IhB64) (j := jc_M_seek_5a34b_59) (lv' := [(0, .inr (.inr (some 740))), (1, .inl _), (2, .inl _), (3, .inl _), (4, .inl _), (5, .inl _), (6, .inl _)]) (And.intro rfl (And.intro rfl (And.intro rfl (And.intro rfl (And.intro rfl (And.intro rfl (And.intro rfl True.intro))))))) ⟨_, _, _, _, _, _, rfl, rfl, by omega, rfl⟩ (by omega)
              · intro c67
                refine And.intro ⟨rfl, by decide, by decide⟩ (And.intro rfl (And.intro (Or.inr ⟨rfl, by omega⟩) (fputf fb_740_35 (by decide +kernel) hW (by omega) ?_)))
                intro IhB68 ehB68 hB68
                have t69 : IhB68 740 34 = I1 740 34 := (congrFun (congrFun ehB68 740) 34).trans (fup_ne (by omega))
                have t70 := fup_at ehB68 35 (by omega)
                have t71 : IhB68 741 12 = I1 741 12 := (congrFun (congrFun ehB68 741) 12).trans (fup_ne (by omega))
                have k72 := fBz_eq hB68 (a := 741) (j := 12) (by decide +kernel)
                refine And.intro ⟨rfl, by decide, by decide⟩ (fgetf fb_740_35 h0 hB68 ?_)
                intro z73 lz73 uz73 qz73
                refine And.intro (by omega) (And.intro ?_ ?_)
                · intro c74
                  exact fcutJ (I := IhB68) (j := jc_M_seek_5a34b_59) (lv' := [(0, .inr (.inr (some 740))), (1, .inl _), (2, .inl _), (3, .inl _), (4, .inl _), (5, .inl _), (6, .inl _)]) (And.intro rfl (And.intro rfl (And.intro rfl (And.intro rfl (And.intro rfl (And.intro rfl (And.intro rfl True.intro))))))) ⟨_, _, _, _, _, _, rfl, rfl, by omega, rfl⟩ (by omega)
                · intro c75
                  refine And.intro ⟨rfl, by decide, by decide⟩ (fgetf fb_740_34 h0 hB68 ?_)
                  intro z76 lz76 uz76 qz76
                  intro z77 hz77 ez77 bz77
                  refine And.intro ⟨rfl, by decide, by decide⟩ (And.intro rfl (And.intro (Or.inl rfl) (fputf fb_740_34 (by decide +kernel) hW (by omega) ?_)))
                  intro IhB78 ehB78 hB78
                  have t79 := fup_at ehB78 34 (by omega)
                  have t80 : IhB78 740 35 = IhB68 740 35 := (congrFun (congrFun ehB78 740) 35).trans (fup_ne (by omega))
                  have t81 : IhB78 741 12 = IhB68 741 12 := (congrFun (congrFun ehB78 741) 12).trans (fup_ne (by omega))
                  have k82 := fBz_eq hB78 (a := 741) (j := 12) (by decide +kernel)
                  refine And.intro ⟨rfl, by decide, by decide⟩ ?_
                  refine fstore rS_757_757_0_6_1_0 (fzs_sub (by decide +kernel) hW) (by omega) (by omega) ?_
                  intro IhB83 ehB83 hB83
                  have t84 := fup_self ehB83
                  have t85 : IhB83 740 34 = IhB78 740 34 := (congrFun (congrFun ehB83 740) 34).trans (fup_ne (by omega))
                  have t86 : IhB83 740 35 = IhB78 740 35 := (congrFun (congrFun ehB83 740) 35).trans (fup_ne (by omega))
                  have t87 : IhB83 741 12 = IhB78 741 12 := (congrFun (congrFun ehB83 741) 12).trans (fup_ne (by omega))
                  have k88 := fBz_eq hB83 (a := 741) (j := 12) (by decide +kernel)
                  refine And.intro ⟨rfl, by decide, by decide⟩ ?_
                  refine fload rL_741_741_4370_4388_3_0 h0 hB83 (by omega) ?_
                  intro z89 lz89 uz89 qz89
                  intro z90 hz90 ez90 bz90
                  intro z91 hz91 ez91
                  intro z92 hz92 ez92
                  refine And.intro (by omega) (And.intro ?_ ?_)
                  · intro c93
                    intro z94 hz94 ez94 bz94
                    refine Exists.intro xm_480 (And.intro mi_480 (And.intro ⟨rfl, rfl, rfl, rfl⟩ (And.intro rfl ?_)))
                    refine fcall _ h0 (fzs_sub (by decide +kernel) hW) hB83 (ct_M_seek_ae1ea (fBz h0 hB83) (by omega) (by omega) (by omega) (by omega) (by omega) (by omega) (by omega)) ?_
                    rintro IhB96 _ hB96 fhB96 rfl
                    have t97 := fhB96 741 12 (by decide +kernel)
                    have k98 := fBz_eq hB96 (a := 741) (j := 12) (by decide +kernel)
                    exact fcutJ (I := IhB96) (j := jc_M_seek_5a34b_59) (lv' := [(0, .inr (.inr (some 740))), (1, .inl _), (2, .inl _), (3, .inl _), (4, .inl _), (5, .inl _), (6, .inl _)]) (And.intro rfl (And.intro rfl (And.intro rfl (And.intro rfl (And.intro rfl (And.intro rfl (And.intro rfl True.intro))))))) ⟨_, _, _, _, _, _, rfl, rfl, by omega, rfl⟩ (by omega)
                  · intro c99
                    refine And.intro ⟨rfl, by decide, by decide⟩ ?_
                    refine fload rL_741_741_4371_4389_3_0 h0 hB83 (by omega) ?_
                    intro z100 lz100 uz100 qz100
                    intro z101 hz101 ez101 bz101
                    intro z102 hz102 ez102 bz102
                    intro z103 hz103 ez103 bz103
                    refine Exists.intro xm_480 (And.intro mi_480 (And.intro ⟨rfl, rfl, rfl, rfl⟩ (And.intro rfl ?_)))
                    refine fcall _ h0 (fzs_sub (by decide +kernel) hW) hB83 (ct_M_seek_ae1ea (fBz h0 hB83) (by omega) (by omega) (by omega) (by omega) (by omega) (by omega) (by omega)) ?_
                    rintro IhB105 _ hB105 fhB105 rfl
                    have t106 := fhB105 741 12 (by decide +kernel)
                    have k107 := fBz_eq hB105 (a := 741) (j := 12) (by decide +kernel)
                    exact fcutJ (I := IhB105) (j := jc_M_seek_5a34b_59) (lv' := [(0, .inr (.inr (some 740))), (1, .inl _), (2, .inl _), (3, .inl _), (4, .inl _), (5, .inl _), (6, .inl _)]) (And.intro rfl (And.intro rfl (And.intro rfl (And.intro rfl (And.intro rfl (And.intro rfl (And.intro rfl True.intro))))))) ⟨_, _, _, _, _, _, rfl, rfl, by omega, rfl⟩ (by omega)
            · intro c108
              exact fcutJ (I := I1) (j := jc_M_seek_5a34b_59) (lv' := [(0, .inr (.inr (some 740))), (1, .inl _), (2, .inl _), (3, .inl _), (4, .inl _), (5, .inl _), (6, .inl _)]) (And.intro rfl (And.intro rfl (And.intro rfl (And.intro rfl (And.intro rfl (And.intro rfl (And.intro rfl True.intro))))))) ⟨_, _, _, _, _, _, rfl, rfl, by omega, rfl⟩ (by omega)
  · have hB0 := fB_self (zn := znJ) (K := fKc wz_4d25e) h0
    refine And.intro ⟨rfl, by decide, by decide⟩ ?_
    refine fload rL_741_741_12_12_1_0 h0 hB0 (by omega) ?_
    intro z109 lz109 uz109 qz109
    have pz109 := fld_at qz109 12 (by omega)
    refine And.intro (by omega) (And.intro ?_ ?_)
    · intro c110
      exact fcutJ (I := I) (j := jc_M_seek_5a34b_59) (lv' := [(0, .inr (.inr (some 740))), (1, .inl _), (2, .inl _), (3, .inl _), (4, .inl _), (5, .inl _), (6, .inl _)]) (And.intro rfl (And.intro rfl (And.intro rfl (And.intro rfl (And.intro rfl (And.intro rfl (And.intro rfl True.intro))))))) ⟨_, _, _, _, _, _, rfl, rfl, by omega, rfl⟩ (by omega)
    · intro c111
      refine And.intro ⟨rfl, by decide, by decide⟩ (fgetf fb_740_33 h0 hB0 ?_)
      intro z112 lz112 uz112 qz112
      refine And.intro (by omega) (And.intro ?_ ?_)
      · intro c113
        exact rfl
      · intro c114
        refine And.intro ⟨rfl, by decide, by decide⟩ (And.intro rfl (And.intro (Or.inl rfl) (fputf fb_740_33 (by decide +kernel) hW (by omega) ?_)))
        intro IhB115 ehB115 hB115
        have t116 := fup_at ehB115 33 (by omega)
        have t117 : IhB115 741 12 = I 741 12 := (congrFun (congrFun ehB115 741) 12).trans (fup_ne (by omega))
        have k118 := fBz_eq hB115 (a := 741) (j := 12) (by decide +kernel)
        exact fcutJ (I := IhB115) (j := jc_M_seek_5a34b_29) (lv' := [(0, .inr (.inr (some 740))), (2, .inl _), (6, .inl _)]) (And.intro rfl (And.intro rfl (And.intro rfl True.intro))) ⟨_, _, rfl, rfl, by omega, rfl⟩ (by omega)
abbrev jc_M_seek_2af86_29 : Nat → fL → List fV → fH → Prop := fun m lv st I => ∃ (y2 : Int) (y6 : Int), lv = [(0, .inr (.inr (some 740))), (2, .inl y2), (6, .inl y6)] ∧ st = [] ∧ (((4 ≤ y2 ∧ y2 ≤ 4) ∧ (0 ≤ y6 ∧ y6 ≤ 4) ∧ ((-2147483647) ≤ I 740 33 ∧ I 740 33 ≤ 2147483647) ∧ (4 ≤ I 741 12 ∧ I 741 12 ≤ 4))) ∧ m = (9 + 1 * (4 - y6) : Int).toNat
abbrev jc_M_seek_2af86_59 : Nat → fL → List fV → fH → Prop := fun m lv st I => ∃ (y1 : Int) (y2 : Int) (y3 : Int) (y4 : Int) (y5 : Int) (y6 : Int), lv = [(0, .inr (.inr (some 740))), (1, .inl y1), (2, .inl y2), (3, .inl y3), (4, .inl y4), (5, .inl y5), (6, .inl y6)] ∧ st = [] ∧ (((1 ≤ y1 ∧ y1 ≤ 60) ∧ (4 ≤ y2 ∧ y2 ≤ 4) ∧ ((-2147483648) ≤ y3 ∧ y3 ≤ 2147483647) ∧ ((-2147483648) ≤ y4 ∧ y4 ≤ 2147483647) ∧ ((-2147483648) ≤ y5 ∧ y5 ≤ 2147483647) ∧ (0 ≤ y6 ∧ y6 ≤ 7) ∧ (y2 < I 741 12))) ∧ m = (1 + 1 * (7 - y6) : Int).toNat
set_option maxRecDepth 8000 in
theorem ct_M_seek_2af86 {I : fH} {x1 : Int} {x2 : Int} {x3 : Int} {x4 : Int} {x5 : Int} (h0 : fB bsJ I) (ha1 : (1 ≤ x1 ∧ x1 ≤ 60)) (ha2 : (4 ≤ x2 ∧ x2 ≤ 4)) (ha3 : ((-2147483648) ≤ x3 ∧ x3 ≤ 2147483647)) (ha4 : ((-2147483648) ≤ x4 ∧ x4 ≤ 2147483647)) (ha5 : ((-2147483648) ≤ x5 ∧ x5 ≤ 2147483647)) (hp0 : x2 = 4) (hp1 : x2 ≤ I 741 12) : fC ρ base n F xTc vwCl xTys D dA la gJ (fbz bsJ znJ (fKc wz_4d25e) I) xm_482 [.inr (.inr (some 740)), .inl x1, .inl x2, .inl x3, .inl x4, .inl x5] I (fun _ r => r = none) := by
  have hW : fzs wz_4d25e (fKc wz_4d25e) := fKc_ok _
  refine f_meth (rb := rbJ) (J := [(29, jc_M_seek_2af86_29), (59, jc_M_seek_2af86_59)]) 14 400 xG xin_482 x6_482 okJ (fB_self h0) ?_ ?_
  · refine List.forall_mem_cons.mpr ⟨?_, List.forall_mem_cons.mpr ⟨?_, fun q h => absurd h List.not_mem_nil⟩⟩
    · rintro m _ _ I1 hB1 ⟨y2, y6, rfl, rfl, hb, hm⟩
      have k1 := fBz_eq hB1 (a := 741) (j := 12) (by decide +kernel)
      refine And.intro (by omega) (And.intro ?_ ?_)
      · intro c2
        exact rfl
      · intro c3
        refine And.intro ⟨rfl, by decide, by decide⟩ ?_
        refine And.intro ⟨rfl, by decide, by decide⟩ ?_
        refine fload rL_757_757_0_6_1_0 h0 hB1 (by omega) ?_
        intro z4 lz4 uz4 qz4
        refine fstore rS_758_758_0_6_1_0 (fzs_sub (by decide +kernel) hW) (by omega) (by omega) ?_
        intro IhB5 ehB5 hB5
        have t6 := fup_self ehB5
        have t7 : IhB5 740 33 = I1 740 33 := (congrFun (congrFun ehB5 740) 33).trans (fup_ne (by omega))
        have t8 : IhB5 741 12 = I1 741 12 := (congrFun (congrFun ehB5 741) 12).trans (fup_ne (by omega))
        have k9 := fBz_eq hB5 (a := 741) (j := 12) (by decide +kernel)
        exact fcutJ (I := IhB5) (j := jc_M_seek_2af86_29) (lv' := [(0, .inr (.inr (some 740))), (2, .inl _), (6, .inl _)]) (And.intro rfl (And.intro rfl (And.intro rfl True.intro))) ⟨_, _, rfl, rfl, by omega, rfl⟩ (by omega)
    · rintro m _ _ I1 hB1 ⟨y1, y2, y3, y4, y5, y6, rfl, rfl, hb, hm⟩
      have k10 := fBz_eq hB1 (a := 741) (j := 12) (by decide +kernel)
      refine And.intro ⟨rfl, by decide, by decide⟩ ?_
      refine fload rL_741_741_12_12_1_0 h0 hB1 (by omega) ?_
      intro z11 lz11 uz11 qz11
      have pz11 := fld_at qz11 12 (by omega)
      refine And.intro (by omega) (And.intro ?_ ?_)
      · intro c12
        exact rfl
      · intro c13
        refine And.intro ⟨rfl, by decide, by decide⟩ (fgetf fb_740_35 h0 hB1 ?_)
        intro z14 lz14 uz14 qz14
        refine And.intro (by omega) (And.intro ?_ ?_)
        · intro c15
          exact rfl
        · intro c16
          intro z17 hz17 ez17
          intro z18 hz18 ez18 bz18
          refine And.intro (by omega) (And.intro ?_ ?_)
          · intro c19
            exact fcutJ (I := I1) (j := jc_M_seek_2af86_59) (lv' := [(0, .inr (.inr (some 740))), (1, .inl _), (2, .inl _), (3, .inl _), (4, .inl _), (5, .inl _), (6, .inl _)]) (And.intro rfl (And.intro rfl (And.intro rfl (And.intro rfl (And.intro rfl (And.intro rfl (And.intro rfl True.intro))))))) ⟨_, _, _, _, _, _, rfl, rfl, by omega, rfl⟩ (by omega)
          · intro c20
            refine And.intro ⟨rfl, by decide, by decide⟩ ?_
            refine fload rL_741_741_4372_4390_3_0 h0 hB1 (by omega) ?_
            intro z21 lz21 uz21 qz21
            intro z22 hz22 ez22
            intro z23 hz23 ez23 bz23
            refine And.intro (by omega) (And.intro ?_ ?_)
            · intro c24
              refine And.intro ⟨rfl, by decide, by decide⟩ (fgetf fb_740_34 h0 hB1 ?_)
              intro z25 lz25 uz25 qz25
              refine And.intro (by omega) (And.intro ?_ ?_)
              · intro c26
                refine And.intro ⟨rfl, by decide, by decide⟩ (And.intro rfl (And.intro (Or.inr ⟨rfl, by omega⟩) (fputf fb_740_35 (by decide +kernel) hW (by omega) ?_)))
                intro IhB27 ehB27 hB27
                have t28 : IhB27 740 34 = I1 740 34 := (congrFun (congrFun ehB27 740) 34).trans (fup_ne (by omega))
                have t29 := fup_at ehB27 35 (by omega)
                have t30 : IhB27 741 12 = I1 741 12 := (congrFun (congrFun ehB27 741) 12).trans (fup_ne (by omega))
                have k31 := fBz_eq hB27 (a := 741) (j := 12) (by decide +kernel)
                refine And.intro ⟨rfl, by decide, by decide⟩ (fgetf fb_740_35 h0 hB27 ?_)
                intro z32 lz32 uz32 qz32
                refine And.intro (by omega) (And.intro ?_ ?_)
                · intro c33
                  exact fcutJ (I := IhB27) (j := jc_M_seek_2af86_59) (lv' := [(0, .inr (.inr (some 740))), (1, .inl _), (2, .inl _), (3, .inl _), (4, .inl _), (5, .inl _), (6, .inl _)]) (And.intro rfl (And.intro rfl (And.intro rfl (And.intro rfl (And.intro rfl (And.intro rfl (And.intro rfl True.intro))))))) ⟨_, _, _, _, _, _, rfl, rfl, by omega, rfl⟩ (by omega)
                · intro c34
                  refine And.intro ⟨rfl, by decide, by decide⟩ (fgetf fb_740_34 h0 hB27 ?_)
                  intro z35 lz35 uz35 qz35
                  intro z36 hz36 ez36 bz36
                  refine And.intro ⟨rfl, by decide, by decide⟩ (And.intro rfl (And.intro (Or.inl rfl) (fputf fb_740_34 (by decide +kernel) hW (by omega) ?_)))
                  intro IhB37 ehB37 hB37
                  have t38 := fup_at ehB37 34 (by omega)
                  have t39 : IhB37 740 35 = IhB27 740 35 := (congrFun (congrFun ehB37 740) 35).trans (fup_ne (by omega))
                  have t40 : IhB37 741 12 = IhB27 741 12 := (congrFun (congrFun ehB37 741) 12).trans (fup_ne (by omega))
                  have k41 := fBz_eq hB37 (a := 741) (j := 12) (by decide +kernel)
                  refine And.intro ⟨rfl, by decide, by decide⟩ ?_
                  refine fstore rS_757_757_0_6_1_0 (fzs_sub (by decide +kernel) hW) (by omega) (by omega) ?_
                  intro IhB42 ehB42 hB42
                  have t43 := fup_self ehB42
                  have t44 : IhB42 740 34 = IhB37 740 34 := (congrFun (congrFun ehB42 740) 34).trans (fup_ne (by omega))
                  have t45 : IhB42 740 35 = IhB37 740 35 := (congrFun (congrFun ehB42 740) 35).trans (fup_ne (by omega))
                  have t46 : IhB42 741 12 = IhB37 741 12 := (congrFun (congrFun ehB42 741) 12).trans (fup_ne (by omega))
                  have k47 := fBz_eq hB42 (a := 741) (j := 12) (by decide +kernel)
                  refine And.intro ⟨rfl, by decide, by decide⟩ ?_
                  refine fload rL_741_741_4370_4388_3_0 h0 hB42 (by omega) ?_
                  intro z48 lz48 uz48 qz48
                  intro z49 hz49 ez49 bz49
                  intro z50 hz50 ez50
                  intro z51 hz51 ez51
                  refine And.intro (by omega) (And.intro ?_ ?_)
                  · intro c52
                    intro z53 hz53 ez53 bz53
                    refine Exists.intro xm_481 (And.intro mi_481 (And.intro ⟨rfl, rfl, rfl, rfl⟩ (And.intro rfl ?_)))
                    refine fcall _ h0 (fzs_sub (by decide +kernel) hW) hB42 (ct_M_seek_5a34b (fBz h0 hB42) (by omega) (by omega) (by omega) (by omega) (by omega) (by omega) (by omega)) ?_
                    rintro IhB55 _ hB55 fhB55 rfl
                    have t56 := fhB55 741 12 (by decide +kernel)
                    have k57 := fBz_eq hB55 (a := 741) (j := 12) (by decide +kernel)
                    exact fcutJ (I := IhB55) (j := jc_M_seek_2af86_59) (lv' := [(0, .inr (.inr (some 740))), (1, .inl _), (2, .inl _), (3, .inl _), (4, .inl _), (5, .inl _), (6, .inl _)]) (And.intro rfl (And.intro rfl (And.intro rfl (And.intro rfl (And.intro rfl (And.intro rfl (And.intro rfl True.intro))))))) ⟨_, _, _, _, _, _, rfl, rfl, by omega, rfl⟩ (by omega)
                  · intro c58
                    refine And.intro ⟨rfl, by decide, by decide⟩ ?_
                    refine fload rL_741_741_4371_4389_3_0 h0 hB42 (by omega) ?_
                    intro z59 lz59 uz59 qz59
                    intro z60 hz60 ez60 bz60
                    intro z61 hz61 ez61 bz61
                    intro z62 hz62 ez62 bz62
                    refine Exists.intro xm_481 (And.intro mi_481 (And.intro ⟨rfl, rfl, rfl, rfl⟩ (And.intro rfl ?_)))
                    refine fcall _ h0 (fzs_sub (by decide +kernel) hW) hB42 (ct_M_seek_5a34b (fBz h0 hB42) (by omega) (by omega) (by omega) (by omega) (by omega) (by omega) (by omega)) ?_
                    rintro IhB64 _ hB64 fhB64 rfl
                    have t65 := fhB64 741 12 (by decide +kernel)
                    have k66 := fBz_eq hB64 (a := 741) (j := 12) (by decide +kernel)
                    exact fcutJ (I := IhB64) (j := jc_M_seek_2af86_59) (lv' := [(0, .inr (.inr (some 740))), (1, .inl _), (2, .inl _), (3, .inl _), (4, .inl _), (5, .inl _), (6, .inl _)]) (And.intro rfl (And.intro rfl (And.intro rfl (And.intro rfl (And.intro rfl (And.intro rfl (And.intro rfl True.intro))))))) ⟨_, _, _, _, _, _, rfl, rfl, by omega, rfl⟩ (by omega)
              · intro c67
                refine And.intro ⟨rfl, by decide, by decide⟩ (And.intro rfl (And.intro (Or.inr ⟨rfl, by omega⟩) (fputf fb_740_35 (by decide +kernel) hW (by omega) ?_)))
                intro IhB68 ehB68 hB68
                have t69 : IhB68 740 34 = I1 740 34 := (congrFun (congrFun ehB68 740) 34).trans (fup_ne (by omega))
                have t70 := fup_at ehB68 35 (by omega)
                have t71 : IhB68 741 12 = I1 741 12 := (congrFun (congrFun ehB68 741) 12).trans (fup_ne (by omega))
                have k72 := fBz_eq hB68 (a := 741) (j := 12) (by decide +kernel)
                refine And.intro ⟨rfl, by decide, by decide⟩ (fgetf fb_740_35 h0 hB68 ?_)
                intro z73 lz73 uz73 qz73
                refine And.intro (by omega) (And.intro ?_ ?_)
                · intro c74
                  exact fcutJ (I := IhB68) (j := jc_M_seek_2af86_59) (lv' := [(0, .inr (.inr (some 740))), (1, .inl _), (2, .inl _), (3, .inl _), (4, .inl _), (5, .inl _), (6, .inl _)]) (And.intro rfl (And.intro rfl (And.intro rfl (And.intro rfl (And.intro rfl (And.intro rfl (And.intro rfl True.intro))))))) ⟨_, _, _, _, _, _, rfl, rfl, by omega, rfl⟩ (by omega)
                · intro c75
                  refine And.intro ⟨rfl, by decide, by decide⟩ (fgetf fb_740_34 h0 hB68 ?_)
                  intro z76 lz76 uz76 qz76
                  intro z77 hz77 ez77 bz77
                  refine And.intro ⟨rfl, by decide, by decide⟩ (And.intro rfl (And.intro (Or.inl rfl) (fputf fb_740_34 (by decide +kernel) hW (by omega) ?_)))
                  intro IhB78 ehB78 hB78
                  have t79 := fup_at ehB78 34 (by omega)
                  have t80 : IhB78 740 35 = IhB68 740 35 := (congrFun (congrFun ehB78 740) 35).trans (fup_ne (by omega))
                  have t81 : IhB78 741 12 = IhB68 741 12 := (congrFun (congrFun ehB78 741) 12).trans (fup_ne (by omega))
                  have k82 := fBz_eq hB78 (a := 741) (j := 12) (by decide +kernel)
                  refine And.intro ⟨rfl, by decide, by decide⟩ ?_
                  refine fstore rS_757_757_0_6_1_0 (fzs_sub (by decide +kernel) hW) (by omega) (by omega) ?_
                  intro IhB83 ehB83 hB83
                  have t84 := fup_self ehB83
                  have t85 : IhB83 740 34 = IhB78 740 34 := (congrFun (congrFun ehB83 740) 34).trans (fup_ne (by omega))
                  have t86 : IhB83 740 35 = IhB78 740 35 := (congrFun (congrFun ehB83 740) 35).trans (fup_ne (by omega))
                  have t87 : IhB83 741 12 = IhB78 741 12 := (congrFun (congrFun ehB83 741) 12).trans (fup_ne (by omega))
                  have k88 := fBz_eq hB83 (a := 741) (j := 12) (by decide +kernel)
                  refine And.intro ⟨rfl, by decide, by decide⟩ ?_
                  refine fload rL_741_741_4370_4388_3_0 h0 hB83 (by omega) ?_
                  intro z89 lz89 uz89 qz89
                  intro z90 hz90 ez90 bz90
                  intro z91 hz91 ez91
                  intro z92 hz92 ez92
                  refine And.intro (by omega) (And.intro ?_ ?_)
                  · intro c93
                    intro z94 hz94 ez94 bz94
                    refine Exists.intro xm_481 (And.intro mi_481 (And.intro ⟨rfl, rfl, rfl, rfl⟩ (And.intro rfl ?_)))
                    refine fcall _ h0 (fzs_sub (by decide +kernel) hW) hB83 (ct_M_seek_5a34b (fBz h0 hB83) (by omega) (by omega) (by omega) (by omega) (by omega) (by omega) (by omega)) ?_
                    rintro IhB96 _ hB96 fhB96 rfl
                    have t97 := fhB96 741 12 (by decide +kernel)
                    have k98 := fBz_eq hB96 (a := 741) (j := 12) (by decide +kernel)
                    exact fcutJ (I := IhB96) (j := jc_M_seek_2af86_59) (lv' := [(0, .inr (.inr (some 740))), (1, .inl _), (2, .inl _), (3, .inl _), (4, .inl _), (5, .inl _), (6, .inl _)]) (And.intro rfl (And.intro rfl (And.intro rfl (And.intro rfl (And.intro rfl (And.intro rfl (And.intro rfl True.intro))))))) ⟨_, _, _, _, _, _, rfl, rfl, by omega, rfl⟩ (by omega)
                  · intro c99
                    refine And.intro ⟨rfl, by decide, by decide⟩ ?_
                    refine fload rL_741_741_4371_4389_3_0 h0 hB83 (by omega) ?_
                    intro z100 lz100 uz100 qz100
                    intro z101 hz101 ez101 bz101
                    intro z102 hz102 ez102 bz102
                    intro z103 hz103 ez103 bz103
                    refine Exists.intro xm_481 (And.intro mi_481 (And.intro ⟨rfl, rfl, rfl, rfl⟩ (And.intro rfl ?_)))
                    refine fcall _ h0 (fzs_sub (by decide +kernel) hW) hB83 (ct_M_seek_5a34b (fBz h0 hB83) (by omega) (by omega) (by omega) (by omega) (by omega) (by omega) (by omega)) ?_
                    rintro IhB105 _ hB105 fhB105 rfl
                    have t106 := fhB105 741 12 (by decide +kernel)
                    have k107 := fBz_eq hB105 (a := 741) (j := 12) (by decide +kernel)
                    exact fcutJ (I := IhB105) (j := jc_M_seek_2af86_59) (lv' := [(0, .inr (.inr (some 740))), (1, .inl _), (2, .inl _), (3, .inl _), (4, .inl _), (5, .inl _), (6, .inl _)]) (And.intro rfl (And.intro rfl (And.intro rfl (And.intro rfl (And.intro rfl (And.intro rfl (And.intro rfl True.intro))))))) ⟨_, _, _, _, _, _, rfl, rfl, by omega, rfl⟩ (by omega)
            · intro c108
              exact fcutJ (I := I1) (j := jc_M_seek_2af86_59) (lv' := [(0, .inr (.inr (some 740))), (1, .inl _), (2, .inl _), (3, .inl _), (4, .inl _), (5, .inl _), (6, .inl _)]) (And.intro rfl (And.intro rfl (And.intro rfl (And.intro rfl (And.intro rfl (And.intro rfl (And.intro rfl True.intro))))))) ⟨_, _, _, _, _, _, rfl, rfl, by omega, rfl⟩ (by omega)
  · have hB0 := fB_self (zn := znJ) (K := fKc wz_4d25e) h0
    refine And.intro ⟨rfl, by decide, by decide⟩ ?_
    refine fload rL_741_741_12_12_1_0 h0 hB0 (by omega) ?_
    intro z109 lz109 uz109 qz109
    have pz109 := fld_at qz109 12 (by omega)
    refine And.intro (by omega) (And.intro ?_ ?_)
    · intro c110
      exact fcutJ (I := I) (j := jc_M_seek_2af86_59) (lv' := [(0, .inr (.inr (some 740))), (1, .inl _), (2, .inl _), (3, .inl _), (4, .inl _), (5, .inl _), (6, .inl _)]) (And.intro rfl (And.intro rfl (And.intro rfl (And.intro rfl (And.intro rfl (And.intro rfl (And.intro rfl True.intro))))))) ⟨_, _, _, _, _, _, rfl, rfl, by omega, rfl⟩ (by omega)
    · intro c111
      refine And.intro ⟨rfl, by decide, by decide⟩ (fgetf fb_740_33 h0 hB0 ?_)
      intro z112 lz112 uz112 qz112
      refine And.intro (by omega) (And.intro ?_ ?_)
      · intro c113
        exact rfl
      · intro c114
        refine And.intro ⟨rfl, by decide, by decide⟩ (And.intro rfl (And.intro (Or.inl rfl) (fputf fb_740_33 (by decide +kernel) hW (by omega) ?_)))
        intro IhB115 ehB115 hB115
        have t116 := fup_at ehB115 33 (by omega)
        have t117 : IhB115 741 12 = I 741 12 := (congrFun (congrFun ehB115 741) 12).trans (fup_ne (by omega))
        have k118 := fBz_eq hB115 (a := 741) (j := 12) (by decide +kernel)
        exact fcutJ (I := IhB115) (j := jc_M_seek_2af86_29) (lv' := [(0, .inr (.inr (some 740))), (2, .inl _), (6, .inl _)]) (And.intro rfl (And.intro rfl (And.intro rfl True.intro))) ⟨_, _, rfl, rfl, by omega, rfl⟩ (by omega)
abbrev jc_M_seek_6e4c8_29 : Nat → fL → List fV → fH → Prop := fun m lv st I => ∃ (y2 : Int) (y6 : Int), lv = [(0, .inr (.inr (some 740))), (2, .inl y2), (6, .inl y6)] ∧ st = [] ∧ (((3 ≤ y2 ∧ y2 ≤ 3) ∧ (0 ≤ y6 ∧ y6 ≤ 3) ∧ ((-2147483647) ≤ I 740 33 ∧ I 740 33 ≤ 2147483647) ∧ (3 ≤ I 741 12 ∧ I 741 12 ≤ 3))) ∧ m = (9 + 1 * (3 - y6) : Int).toNat
abbrev jc_M_seek_6e4c8_59 : Nat → fL → List fV → fH → Prop := fun m lv st I => ∃ (y1 : Int) (y2 : Int) (y3 : Int) (y4 : Int) (y5 : Int) (y6 : Int), lv = [(0, .inr (.inr (some 740))), (1, .inl y1), (2, .inl y2), (3, .inl y3), (4, .inl y4), (5, .inl y5), (6, .inl y6)] ∧ st = [] ∧ (((1 ≤ y1 ∧ y1 ≤ 60) ∧ (3 ≤ y2 ∧ y2 ≤ 3) ∧ ((-2147483648) ≤ y3 ∧ y3 ≤ 2147483647) ∧ ((-2147483648) ≤ y4 ∧ y4 ≤ 2147483647) ∧ ((-2147483648) ≤ y5 ∧ y5 ≤ 2147483647) ∧ (0 ≤ y6 ∧ y6 ≤ 7) ∧ (y2 < I 741 12))) ∧ m = (1 + 1 * (7 - y6) : Int).toNat
set_option maxRecDepth 8000 in
theorem ct_M_seek_6e4c8 {I : fH} {x1 : Int} {x2 : Int} {x3 : Int} {x4 : Int} {x5 : Int} (h0 : fB bsJ I) (ha1 : (1 ≤ x1 ∧ x1 ≤ 60)) (ha2 : (3 ≤ x2 ∧ x2 ≤ 3)) (ha3 : ((-2147483648) ≤ x3 ∧ x3 ≤ 2147483647)) (ha4 : ((-2147483648) ≤ x4 ∧ x4 ≤ 2147483647)) (ha5 : ((-2147483648) ≤ x5 ∧ x5 ≤ 2147483647)) (hp0 : x2 = 3) (hp1 : x2 ≤ I 741 12) : fC ρ base n F xTc vwCl xTys D dA la gJ (fbz bsJ znJ (fKc wz_4d25e) I) xm_483 [.inr (.inr (some 740)), .inl x1, .inl x2, .inl x3, .inl x4, .inl x5] I (fun _ r => r = none) := by
  have hW : fzs wz_4d25e (fKc wz_4d25e) := fKc_ok _
  refine f_meth (rb := rbJ) (J := [(29, jc_M_seek_6e4c8_29), (59, jc_M_seek_6e4c8_59)]) 13 400 xG xin_483 x6_483 okJ (fB_self h0) ?_ ?_
  · refine List.forall_mem_cons.mpr ⟨?_, List.forall_mem_cons.mpr ⟨?_, fun q h => absurd h List.not_mem_nil⟩⟩
    · rintro m _ _ I1 hB1 ⟨y2, y6, rfl, rfl, hb, hm⟩
      have k1 := fBz_eq hB1 (a := 741) (j := 12) (by decide +kernel)
      refine And.intro (by omega) (And.intro ?_ ?_)
      · intro c2
        exact rfl
      · intro c3
        refine And.intro ⟨rfl, by decide, by decide⟩ ?_
        refine And.intro ⟨rfl, by decide, by decide⟩ ?_
        refine fload rL_757_757_0_6_1_0 h0 hB1 (by omega) ?_
        intro z4 lz4 uz4 qz4
        refine fstore rS_758_758_0_6_1_0 (fzs_sub (by decide +kernel) hW) (by omega) (by omega) ?_
        intro IhB5 ehB5 hB5
        have t6 := fup_self ehB5
        have t7 : IhB5 740 33 = I1 740 33 := (congrFun (congrFun ehB5 740) 33).trans (fup_ne (by omega))
        have t8 : IhB5 741 12 = I1 741 12 := (congrFun (congrFun ehB5 741) 12).trans (fup_ne (by omega))
        have k9 := fBz_eq hB5 (a := 741) (j := 12) (by decide +kernel)
        exact fcutJ (I := IhB5) (j := jc_M_seek_6e4c8_29) (lv' := [(0, .inr (.inr (some 740))), (2, .inl _), (6, .inl _)]) (And.intro rfl (And.intro rfl (And.intro rfl True.intro))) ⟨_, _, rfl, rfl, by omega, rfl⟩ (by omega)
    · rintro m _ _ I1 hB1 ⟨y1, y2, y3, y4, y5, y6, rfl, rfl, hb, hm⟩
      have k10 := fBz_eq hB1 (a := 741) (j := 12) (by decide +kernel)
      refine And.intro ⟨rfl, by decide, by decide⟩ ?_
      refine fload rL_741_741_12_12_1_0 h0 hB1 (by omega) ?_
      intro z11 lz11 uz11 qz11
      have pz11 := fld_at qz11 12 (by omega)
      refine And.intro (by omega) (And.intro ?_ ?_)
      · intro c12
        exact rfl
      · intro c13
        refine And.intro ⟨rfl, by decide, by decide⟩ (fgetf fb_740_35 h0 hB1 ?_)
        intro z14 lz14 uz14 qz14
        refine And.intro (by omega) (And.intro ?_ ?_)
        · intro c15
          exact rfl
        · intro c16
          intro z17 hz17 ez17
          intro z18 hz18 ez18 bz18
          refine And.intro (by omega) (And.intro ?_ ?_)
          · intro c19
            exact fcutJ (I := I1) (j := jc_M_seek_6e4c8_59) (lv' := [(0, .inr (.inr (some 740))), (1, .inl _), (2, .inl _), (3, .inl _), (4, .inl _), (5, .inl _), (6, .inl _)]) (And.intro rfl (And.intro rfl (And.intro rfl (And.intro rfl (And.intro rfl (And.intro rfl (And.intro rfl True.intro))))))) ⟨_, _, _, _, _, _, rfl, rfl, by omega, rfl⟩ (by omega)
          · intro c20
            refine And.intro ⟨rfl, by decide, by decide⟩ ?_
            refine fload rL_741_741_4372_4390_3_0 h0 hB1 (by omega) ?_
            intro z21 lz21 uz21 qz21
            intro z22 hz22 ez22
            intro z23 hz23 ez23 bz23
            refine And.intro (by omega) (And.intro ?_ ?_)
            · intro c24
              refine And.intro ⟨rfl, by decide, by decide⟩ (fgetf fb_740_34 h0 hB1 ?_)
              intro z25 lz25 uz25 qz25
              refine And.intro (by omega) (And.intro ?_ ?_)
              · intro c26
                refine And.intro ⟨rfl, by decide, by decide⟩ (And.intro rfl (And.intro (Or.inr ⟨rfl, by omega⟩) (fputf fb_740_35 (by decide +kernel) hW (by omega) ?_)))
                intro IhB27 ehB27 hB27
                have t28 : IhB27 740 34 = I1 740 34 := (congrFun (congrFun ehB27 740) 34).trans (fup_ne (by omega))
                have t29 := fup_at ehB27 35 (by omega)
                have t30 : IhB27 741 12 = I1 741 12 := (congrFun (congrFun ehB27 741) 12).trans (fup_ne (by omega))
                have k31 := fBz_eq hB27 (a := 741) (j := 12) (by decide +kernel)
                refine And.intro ⟨rfl, by decide, by decide⟩ (fgetf fb_740_35 h0 hB27 ?_)
                intro z32 lz32 uz32 qz32
                refine And.intro (by omega) (And.intro ?_ ?_)
                · intro c33
                  exact fcutJ (I := IhB27) (j := jc_M_seek_6e4c8_59) (lv' := [(0, .inr (.inr (some 740))), (1, .inl _), (2, .inl _), (3, .inl _), (4, .inl _), (5, .inl _), (6, .inl _)]) (And.intro rfl (And.intro rfl (And.intro rfl (And.intro rfl (And.intro rfl (And.intro rfl (And.intro rfl True.intro))))))) ⟨_, _, _, _, _, _, rfl, rfl, by omega, rfl⟩ (by omega)
                · intro c34
                  refine And.intro ⟨rfl, by decide, by decide⟩ (fgetf fb_740_34 h0 hB27 ?_)
                  intro z35 lz35 uz35 qz35
                  intro z36 hz36 ez36 bz36
                  refine And.intro ⟨rfl, by decide, by decide⟩ (And.intro rfl (And.intro (Or.inl rfl) (fputf fb_740_34 (by decide +kernel) hW (by omega) ?_)))
                  intro IhB37 ehB37 hB37
                  have t38 := fup_at ehB37 34 (by omega)
                  have t39 : IhB37 740 35 = IhB27 740 35 := (congrFun (congrFun ehB37 740) 35).trans (fup_ne (by omega))
                  have t40 : IhB37 741 12 = IhB27 741 12 := (congrFun (congrFun ehB37 741) 12).trans (fup_ne (by omega))
                  have k41 := fBz_eq hB37 (a := 741) (j := 12) (by decide +kernel)
                  refine And.intro ⟨rfl, by decide, by decide⟩ ?_
                  refine fstore rS_757_757_0_6_1_0 (fzs_sub (by decide +kernel) hW) (by omega) (by omega) ?_
                  intro IhB42 ehB42 hB42
                  have t43 := fup_self ehB42
                  have t44 : IhB42 740 34 = IhB37 740 34 := (congrFun (congrFun ehB42 740) 34).trans (fup_ne (by omega))
                  have t45 : IhB42 740 35 = IhB37 740 35 := (congrFun (congrFun ehB42 740) 35).trans (fup_ne (by omega))
                  have t46 : IhB42 741 12 = IhB37 741 12 := (congrFun (congrFun ehB42 741) 12).trans (fup_ne (by omega))
                  have k47 := fBz_eq hB42 (a := 741) (j := 12) (by decide +kernel)
                  refine And.intro ⟨rfl, by decide, by decide⟩ ?_
                  refine fload rL_741_741_4370_4388_3_0 h0 hB42 (by omega) ?_
                  intro z48 lz48 uz48 qz48
                  intro z49 hz49 ez49 bz49
                  intro z50 hz50 ez50
                  intro z51 hz51 ez51
                  refine And.intro (by omega) (And.intro ?_ ?_)
                  · intro c52
                    intro z53 hz53 ez53 bz53
                    refine Exists.intro xm_482 (And.intro mi_482 (And.intro ⟨rfl, rfl, rfl, rfl⟩ (And.intro rfl ?_)))
                    refine fcall _ h0 (fzs_sub (by decide +kernel) hW) hB42 (ct_M_seek_2af86 (fBz h0 hB42) (by omega) (by omega) (by omega) (by omega) (by omega) (by omega) (by omega)) ?_
                    rintro IhB55 _ hB55 fhB55 rfl
                    have t56 := fhB55 741 12 (by decide +kernel)
                    have k57 := fBz_eq hB55 (a := 741) (j := 12) (by decide +kernel)
                    exact fcutJ (I := IhB55) (j := jc_M_seek_6e4c8_59) (lv' := [(0, .inr (.inr (some 740))), (1, .inl _), (2, .inl _), (3, .inl _), (4, .inl _), (5, .inl _), (6, .inl _)]) (And.intro rfl (And.intro rfl (And.intro rfl (And.intro rfl (And.intro rfl (And.intro rfl (And.intro rfl True.intro))))))) ⟨_, _, _, _, _, _, rfl, rfl, by omega, rfl⟩ (by omega)
                  · intro c58
                    refine And.intro ⟨rfl, by decide, by decide⟩ ?_
                    refine fload rL_741_741_4371_4389_3_0 h0 hB42 (by omega) ?_
                    intro z59 lz59 uz59 qz59
                    intro z60 hz60 ez60 bz60
                    intro z61 hz61 ez61 bz61
                    intro z62 hz62 ez62 bz62
                    refine Exists.intro xm_482 (And.intro mi_482 (And.intro ⟨rfl, rfl, rfl, rfl⟩ (And.intro rfl ?_)))
                    refine fcall _ h0 (fzs_sub (by decide +kernel) hW) hB42 (ct_M_seek_2af86 (fBz h0 hB42) (by omega) (by omega) (by omega) (by omega) (by omega) (by omega) (by omega)) ?_
                    rintro IhB64 _ hB64 fhB64 rfl
                    have t65 := fhB64 741 12 (by decide +kernel)
                    have k66 := fBz_eq hB64 (a := 741) (j := 12) (by decide +kernel)
                    exact fcutJ (I := IhB64) (j := jc_M_seek_6e4c8_59) (lv' := [(0, .inr (.inr (some 740))), (1, .inl _), (2, .inl _), (3, .inl _), (4, .inl _), (5, .inl _), (6, .inl _)]) (And.intro rfl (And.intro rfl (And.intro rfl (And.intro rfl (And.intro rfl (And.intro rfl (And.intro rfl True.intro))))))) ⟨_, _, _, _, _, _, rfl, rfl, by omega, rfl⟩ (by omega)
              · intro c67
                refine And.intro ⟨rfl, by decide, by decide⟩ (And.intro rfl (And.intro (Or.inr ⟨rfl, by omega⟩) (fputf fb_740_35 (by decide +kernel) hW (by omega) ?_)))
                intro IhB68 ehB68 hB68
                have t69 : IhB68 740 34 = I1 740 34 := (congrFun (congrFun ehB68 740) 34).trans (fup_ne (by omega))
                have t70 := fup_at ehB68 35 (by omega)
                have t71 : IhB68 741 12 = I1 741 12 := (congrFun (congrFun ehB68 741) 12).trans (fup_ne (by omega))
                have k72 := fBz_eq hB68 (a := 741) (j := 12) (by decide +kernel)
                refine And.intro ⟨rfl, by decide, by decide⟩ (fgetf fb_740_35 h0 hB68 ?_)
                intro z73 lz73 uz73 qz73
                refine And.intro (by omega) (And.intro ?_ ?_)
                · intro c74
                  exact fcutJ (I := IhB68) (j := jc_M_seek_6e4c8_59) (lv' := [(0, .inr (.inr (some 740))), (1, .inl _), (2, .inl _), (3, .inl _), (4, .inl _), (5, .inl _), (6, .inl _)]) (And.intro rfl (And.intro rfl (And.intro rfl (And.intro rfl (And.intro rfl (And.intro rfl (And.intro rfl True.intro))))))) ⟨_, _, _, _, _, _, rfl, rfl, by omega, rfl⟩ (by omega)
                · intro c75
                  refine And.intro ⟨rfl, by decide, by decide⟩ (fgetf fb_740_34 h0 hB68 ?_)
                  intro z76 lz76 uz76 qz76
                  intro z77 hz77 ez77 bz77
                  refine And.intro ⟨rfl, by decide, by decide⟩ (And.intro rfl (And.intro (Or.inl rfl) (fputf fb_740_34 (by decide +kernel) hW (by omega) ?_)))
                  intro IhB78 ehB78 hB78
                  have t79 := fup_at ehB78 34 (by omega)
                  have t80 : IhB78 740 35 = IhB68 740 35 := (congrFun (congrFun ehB78 740) 35).trans (fup_ne (by omega))
                  have t81 : IhB78 741 12 = IhB68 741 12 := (congrFun (congrFun ehB78 741) 12).trans (fup_ne (by omega))
                  have k82 := fBz_eq hB78 (a := 741) (j := 12) (by decide +kernel)
                  refine And.intro ⟨rfl, by decide, by decide⟩ ?_
                  refine fstore rS_757_757_0_6_1_0 (fzs_sub (by decide +kernel) hW) (by omega) (by omega) ?_
                  intro IhB83 ehB83 hB83
                  have t84 := fup_self ehB83
                  have t85 : IhB83 740 34 = IhB78 740 34 := (congrFun (congrFun ehB83 740) 34).trans (fup_ne (by omega))
                  have t86 : IhB83 740 35 = IhB78 740 35 := (congrFun (congrFun ehB83 740) 35).trans (fup_ne (by omega))
                  have t87 : IhB83 741 12 = IhB78 741 12 := (congrFun (congrFun ehB83 741) 12).trans (fup_ne (by omega))
                  have k88 := fBz_eq hB83 (a := 741) (j := 12) (by decide +kernel)
                  refine And.intro ⟨rfl, by decide, by decide⟩ ?_
                  refine fload rL_741_741_4370_4388_3_0 h0 hB83 (by omega) ?_
                  intro z89 lz89 uz89 qz89
                  intro z90 hz90 ez90 bz90
                  intro z91 hz91 ez91
                  intro z92 hz92 ez92
                  refine And.intro (by omega) (And.intro ?_ ?_)
                  · intro c93
                    intro z94 hz94 ez94 bz94
                    refine Exists.intro xm_482 (And.intro mi_482 (And.intro ⟨rfl, rfl, rfl, rfl⟩ (And.intro rfl ?_)))
                    refine fcall _ h0 (fzs_sub (by decide +kernel) hW) hB83 (ct_M_seek_2af86 (fBz h0 hB83) (by omega) (by omega) (by omega) (by omega) (by omega) (by omega) (by omega)) ?_
                    rintro IhB96 _ hB96 fhB96 rfl
                    have t97 := fhB96 741 12 (by decide +kernel)
                    have k98 := fBz_eq hB96 (a := 741) (j := 12) (by decide +kernel)
                    exact fcutJ (I := IhB96) (j := jc_M_seek_6e4c8_59) (lv' := [(0, .inr (.inr (some 740))), (1, .inl _), (2, .inl _), (3, .inl _), (4, .inl _), (5, .inl _), (6, .inl _)]) (And.intro rfl (And.intro rfl (And.intro rfl (And.intro rfl (And.intro rfl (And.intro rfl (And.intro rfl True.intro))))))) ⟨_, _, _, _, _, _, rfl, rfl, by omega, rfl⟩ (by omega)
                  · intro c99
                    refine And.intro ⟨rfl, by decide, by decide⟩ ?_
                    refine fload rL_741_741_4371_4389_3_0 h0 hB83 (by omega) ?_
                    intro z100 lz100 uz100 qz100
                    intro z101 hz101 ez101 bz101
                    intro z102 hz102 ez102 bz102
                    intro z103 hz103 ez103 bz103
                    refine Exists.intro xm_482 (And.intro mi_482 (And.intro ⟨rfl, rfl, rfl, rfl⟩ (And.intro rfl ?_)))
                    refine fcall _ h0 (fzs_sub (by decide +kernel) hW) hB83 (ct_M_seek_2af86 (fBz h0 hB83) (by omega) (by omega) (by omega) (by omega) (by omega) (by omega) (by omega)) ?_
                    rintro IhB105 _ hB105 fhB105 rfl
                    have t106 := fhB105 741 12 (by decide +kernel)
                    have k107 := fBz_eq hB105 (a := 741) (j := 12) (by decide +kernel)
                    exact fcutJ (I := IhB105) (j := jc_M_seek_6e4c8_59) (lv' := [(0, .inr (.inr (some 740))), (1, .inl _), (2, .inl _), (3, .inl _), (4, .inl _), (5, .inl _), (6, .inl _)]) (And.intro rfl (And.intro rfl (And.intro rfl (And.intro rfl (And.intro rfl (And.intro rfl (And.intro rfl True.intro))))))) ⟨_, _, _, _, _, _, rfl, rfl, by omega, rfl⟩ (by omega)
            · intro c108
              exact fcutJ (I := I1) (j := jc_M_seek_6e4c8_59) (lv' := [(0, .inr (.inr (some 740))), (1, .inl _), (2, .inl _), (3, .inl _), (4, .inl _), (5, .inl _), (6, .inl _)]) (And.intro rfl (And.intro rfl (And.intro rfl (And.intro rfl (And.intro rfl (And.intro rfl (And.intro rfl True.intro))))))) ⟨_, _, _, _, _, _, rfl, rfl, by omega, rfl⟩ (by omega)
  · have hB0 := fB_self (zn := znJ) (K := fKc wz_4d25e) h0
    refine And.intro ⟨rfl, by decide, by decide⟩ ?_
    refine fload rL_741_741_12_12_1_0 h0 hB0 (by omega) ?_
    intro z109 lz109 uz109 qz109
    have pz109 := fld_at qz109 12 (by omega)
    refine And.intro (by omega) (And.intro ?_ ?_)
    · intro c110
      exact fcutJ (I := I) (j := jc_M_seek_6e4c8_59) (lv' := [(0, .inr (.inr (some 740))), (1, .inl _), (2, .inl _), (3, .inl _), (4, .inl _), (5, .inl _), (6, .inl _)]) (And.intro rfl (And.intro rfl (And.intro rfl (And.intro rfl (And.intro rfl (And.intro rfl (And.intro rfl True.intro))))))) ⟨_, _, _, _, _, _, rfl, rfl, by omega, rfl⟩ (by omega)
    · intro c111
      refine And.intro ⟨rfl, by decide, by decide⟩ (fgetf fb_740_33 h0 hB0 ?_)
      intro z112 lz112 uz112 qz112
      refine And.intro (by omega) (And.intro ?_ ?_)
      · intro c113
        exact rfl
      · intro c114
        refine And.intro ⟨rfl, by decide, by decide⟩ (And.intro rfl (And.intro (Or.inl rfl) (fputf fb_740_33 (by decide +kernel) hW (by omega) ?_)))
        intro IhB115 ehB115 hB115
        have t116 := fup_at ehB115 33 (by omega)
        have t117 : IhB115 741 12 = I 741 12 := (congrFun (congrFun ehB115 741) 12).trans (fup_ne (by omega))
        have k118 := fBz_eq hB115 (a := 741) (j := 12) (by decide +kernel)
        exact fcutJ (I := IhB115) (j := jc_M_seek_6e4c8_29) (lv' := [(0, .inr (.inr (some 740))), (2, .inl _), (6, .inl _)]) (And.intro rfl (And.intro rfl (And.intro rfl True.intro))) ⟨_, _, rfl, rfl, by omega, rfl⟩ (by omega)
abbrev jc_M_seek_92ac3_29 : Nat → fL → List fV → fH → Prop := fun m lv st I => ∃ (y2 : Int) (y6 : Int), lv = [(0, .inr (.inr (some 740))), (2, .inl y2), (6, .inl y6)] ∧ st = [] ∧ (((2 ≤ y2 ∧ y2 ≤ 2) ∧ (0 ≤ y6 ∧ y6 ≤ 2) ∧ ((-2147483647) ≤ I 740 33 ∧ I 740 33 ≤ 2147483647) ∧ (2 ≤ I 741 12 ∧ I 741 12 ≤ 2))) ∧ m = (9 + 1 * (2 - y6) : Int).toNat
abbrev jc_M_seek_92ac3_59 : Nat → fL → List fV → fH → Prop := fun m lv st I => ∃ (y1 : Int) (y2 : Int) (y3 : Int) (y4 : Int) (y5 : Int) (y6 : Int), lv = [(0, .inr (.inr (some 740))), (1, .inl y1), (2, .inl y2), (3, .inl y3), (4, .inl y4), (5, .inl y5), (6, .inl y6)] ∧ st = [] ∧ (((1 ≤ y1 ∧ y1 ≤ 60) ∧ (2 ≤ y2 ∧ y2 ≤ 2) ∧ ((-2147483648) ≤ y3 ∧ y3 ≤ 2147483647) ∧ ((-2147483648) ≤ y4 ∧ y4 ≤ 2147483647) ∧ ((-2147483648) ≤ y5 ∧ y5 ≤ 2147483647) ∧ (0 ≤ y6 ∧ y6 ≤ 7) ∧ (y2 < I 741 12))) ∧ m = (1 + 1 * (7 - y6) : Int).toNat
set_option maxRecDepth 8000 in
theorem ct_M_seek_92ac3 {I : fH} {x1 : Int} {x2 : Int} {x3 : Int} {x4 : Int} {x5 : Int} (h0 : fB bsJ I) (ha1 : (1 ≤ x1 ∧ x1 ≤ 60)) (ha2 : (2 ≤ x2 ∧ x2 ≤ 2)) (ha3 : ((-2147483648) ≤ x3 ∧ x3 ≤ 2147483647)) (ha4 : ((-2147483648) ≤ x4 ∧ x4 ≤ 2147483647)) (ha5 : ((-2147483648) ≤ x5 ∧ x5 ≤ 2147483647)) (hp0 : x2 = 2) (hp1 : x2 ≤ I 741 12) : fC ρ base n F xTc vwCl xTys D dA la gJ (fbz bsJ znJ (fKc wz_4d25e) I) xm_484 [.inr (.inr (some 740)), .inl x1, .inl x2, .inl x3, .inl x4, .inl x5] I (fun _ r => r = none) := by
  have hW : fzs wz_4d25e (fKc wz_4d25e) := fKc_ok _
  refine f_meth (rb := rbJ) (J := [(29, jc_M_seek_92ac3_29), (59, jc_M_seek_92ac3_59)]) 12 400 xG xin_484 x6_484 okJ (fB_self h0) ?_ ?_
  · refine List.forall_mem_cons.mpr ⟨?_, List.forall_mem_cons.mpr ⟨?_, fun q h => absurd h List.not_mem_nil⟩⟩
    · rintro m _ _ I1 hB1 ⟨y2, y6, rfl, rfl, hb, hm⟩
      have k1 := fBz_eq hB1 (a := 741) (j := 12) (by decide +kernel)
      refine And.intro (by omega) (And.intro ?_ ?_)
      · intro c2
        exact rfl
      · intro c3
        refine And.intro ⟨rfl, by decide, by decide⟩ ?_
        refine And.intro ⟨rfl, by decide, by decide⟩ ?_
        refine fload rL_757_757_0_6_1_0 h0 hB1 (by omega) ?_
        intro z4 lz4 uz4 qz4
        refine fstore rS_758_758_0_6_1_0 (fzs_sub (by decide +kernel) hW) (by omega) (by omega) ?_
        intro IhB5 ehB5 hB5
        have t6 := fup_self ehB5
        have t7 : IhB5 740 33 = I1 740 33 := (congrFun (congrFun ehB5 740) 33).trans (fup_ne (by omega))
        have t8 : IhB5 741 12 = I1 741 12 := (congrFun (congrFun ehB5 741) 12).trans (fup_ne (by omega))
        have k9 := fBz_eq hB5 (a := 741) (j := 12) (by decide +kernel)
        exact fcutJ (I := IhB5) (j := jc_M_seek_92ac3_29) (lv' := [(0, .inr (.inr (some 740))), (2, .inl _), (6, .inl _)]) (And.intro rfl (And.intro rfl (And.intro rfl True.intro))) ⟨_, _, rfl, rfl, by omega, rfl⟩ (by omega)
    · rintro m _ _ I1 hB1 ⟨y1, y2, y3, y4, y5, y6, rfl, rfl, hb, hm⟩
      have k10 := fBz_eq hB1 (a := 741) (j := 12) (by decide +kernel)
      refine And.intro ⟨rfl, by decide, by decide⟩ ?_
      refine fload rL_741_741_12_12_1_0 h0 hB1 (by omega) ?_
      intro z11 lz11 uz11 qz11
      have pz11 := fld_at qz11 12 (by omega)
      refine And.intro (by omega) (And.intro ?_ ?_)
      · intro c12
        exact rfl
      · intro c13
        refine And.intro ⟨rfl, by decide, by decide⟩ (fgetf fb_740_35 h0 hB1 ?_)
        intro z14 lz14 uz14 qz14
        refine And.intro (by omega) (And.intro ?_ ?_)
        · intro c15
          exact rfl
        · intro c16
          intro z17 hz17 ez17
          intro z18 hz18 ez18 bz18
          refine And.intro (by omega) (And.intro ?_ ?_)
          · intro c19
            exact fcutJ (I := I1) (j := jc_M_seek_92ac3_59) (lv' := [(0, .inr (.inr (some 740))), (1, .inl _), (2, .inl _), (3, .inl _), (4, .inl _), (5, .inl _), (6, .inl _)]) (And.intro rfl (And.intro rfl (And.intro rfl (And.intro rfl (And.intro rfl (And.intro rfl (And.intro rfl True.intro))))))) ⟨_, _, _, _, _, _, rfl, rfl, by omega, rfl⟩ (by omega)
          · intro c20
            refine And.intro ⟨rfl, by decide, by decide⟩ ?_
            refine fload rL_741_741_4372_4390_3_0 h0 hB1 (by omega) ?_
            intro z21 lz21 uz21 qz21
            intro z22 hz22 ez22
            intro z23 hz23 ez23 bz23
            refine And.intro (by omega) (And.intro ?_ ?_)
            · intro c24
              refine And.intro ⟨rfl, by decide, by decide⟩ (fgetf fb_740_34 h0 hB1 ?_)
              intro z25 lz25 uz25 qz25
              refine And.intro (by omega) (And.intro ?_ ?_)
              · intro c26
                refine And.intro ⟨rfl, by decide, by decide⟩ (And.intro rfl (And.intro (Or.inr ⟨rfl, by omega⟩) (fputf fb_740_35 (by decide +kernel) hW (by omega) ?_)))
                intro IhB27 ehB27 hB27
                have t28 : IhB27 740 34 = I1 740 34 := (congrFun (congrFun ehB27 740) 34).trans (fup_ne (by omega))
                have t29 := fup_at ehB27 35 (by omega)
                have t30 : IhB27 741 12 = I1 741 12 := (congrFun (congrFun ehB27 741) 12).trans (fup_ne (by omega))
                have k31 := fBz_eq hB27 (a := 741) (j := 12) (by decide +kernel)
                refine And.intro ⟨rfl, by decide, by decide⟩ (fgetf fb_740_35 h0 hB27 ?_)
                intro z32 lz32 uz32 qz32
                refine And.intro (by omega) (And.intro ?_ ?_)
                · intro c33
                  exact fcutJ (I := IhB27) (j := jc_M_seek_92ac3_59) (lv' := [(0, .inr (.inr (some 740))), (1, .inl _), (2, .inl _), (3, .inl _), (4, .inl _), (5, .inl _), (6, .inl _)]) (And.intro rfl (And.intro rfl (And.intro rfl (And.intro rfl (And.intro rfl (And.intro rfl (And.intro rfl True.intro))))))) ⟨_, _, _, _, _, _, rfl, rfl, by omega, rfl⟩ (by omega)
                · intro c34
                  refine And.intro ⟨rfl, by decide, by decide⟩ (fgetf fb_740_34 h0 hB27 ?_)
                  intro z35 lz35 uz35 qz35
                  intro z36 hz36 ez36 bz36
                  refine And.intro ⟨rfl, by decide, by decide⟩ (And.intro rfl (And.intro (Or.inl rfl) (fputf fb_740_34 (by decide +kernel) hW (by omega) ?_)))
                  intro IhB37 ehB37 hB37
                  have t38 := fup_at ehB37 34 (by omega)
                  have t39 : IhB37 740 35 = IhB27 740 35 := (congrFun (congrFun ehB37 740) 35).trans (fup_ne (by omega))
                  have t40 : IhB37 741 12 = IhB27 741 12 := (congrFun (congrFun ehB37 741) 12).trans (fup_ne (by omega))
                  have k41 := fBz_eq hB37 (a := 741) (j := 12) (by decide +kernel)
                  refine And.intro ⟨rfl, by decide, by decide⟩ ?_
                  refine fstore rS_757_757_0_6_1_0 (fzs_sub (by decide +kernel) hW) (by omega) (by omega) ?_
                  intro IhB42 ehB42 hB42
                  have t43 := fup_self ehB42
                  have t44 : IhB42 740 34 = IhB37 740 34 := (congrFun (congrFun ehB42 740) 34).trans (fup_ne (by omega))
                  have t45 : IhB42 740 35 = IhB37 740 35 := (congrFun (congrFun ehB42 740) 35).trans (fup_ne (by omega))
                  have t46 : IhB42 741 12 = IhB37 741 12 := (congrFun (congrFun ehB42 741) 12).trans (fup_ne (by omega))
                  have k47 := fBz_eq hB42 (a := 741) (j := 12) (by decide +kernel)
                  refine And.intro ⟨rfl, by decide, by decide⟩ ?_
                  refine fload rL_741_741_4370_4388_3_0 h0 hB42 (by omega) ?_
                  intro z48 lz48 uz48 qz48
                  intro z49 hz49 ez49 bz49
                  intro z50 hz50 ez50
                  intro z51 hz51 ez51
                  refine And.intro (by omega) (And.intro ?_ ?_)
                  · intro c52
                    intro z53 hz53 ez53 bz53
                    refine Exists.intro xm_483 (And.intro mi_483 (And.intro ⟨rfl, rfl, rfl, rfl⟩ (And.intro rfl ?_)))
                    refine fcall _ h0 (fzs_sub (by decide +kernel) hW) hB42 (ct_M_seek_6e4c8 (fBz h0 hB42) (by omega) (by omega) (by omega) (by omega) (by omega) (by omega) (by omega)) ?_
                    rintro IhB55 _ hB55 fhB55 rfl
                    have t56 := fhB55 741 12 (by decide +kernel)
                    have k57 := fBz_eq hB55 (a := 741) (j := 12) (by decide +kernel)
                    exact fcutJ (I := IhB55) (j := jc_M_seek_92ac3_59) (lv' := [(0, .inr (.inr (some 740))), (1, .inl _), (2, .inl _), (3, .inl _), (4, .inl _), (5, .inl _), (6, .inl _)]) (And.intro rfl (And.intro rfl (And.intro rfl (And.intro rfl (And.intro rfl (And.intro rfl (And.intro rfl True.intro))))))) ⟨_, _, _, _, _, _, rfl, rfl, by omega, rfl⟩ (by omega)
                  · intro c58
                    refine And.intro ⟨rfl, by decide, by decide⟩ ?_
                    refine fload rL_741_741_4371_4389_3_0 h0 hB42 (by omega) ?_
                    intro z59 lz59 uz59 qz59
                    intro z60 hz60 ez60 bz60
                    intro z61 hz61 ez61 bz61
                    intro z62 hz62 ez62 bz62
                    refine Exists.intro xm_483 (And.intro mi_483 (And.intro ⟨rfl, rfl, rfl, rfl⟩ (And.intro rfl ?_)))
                    refine fcall _ h0 (fzs_sub (by decide +kernel) hW) hB42 (ct_M_seek_6e4c8 (fBz h0 hB42) (by omega) (by omega) (by omega) (by omega) (by omega) (by omega) (by omega)) ?_
                    rintro IhB64 _ hB64 fhB64 rfl
                    have t65 := fhB64 741 12 (by decide +kernel)
                    have k66 := fBz_eq hB64 (a := 741) (j := 12) (by decide +kernel)
                    exact fcutJ (I := IhB64) (j := jc_M_seek_92ac3_59) (lv' := [(0, .inr (.inr (some 740))), (1, .inl _), (2, .inl _), (3, .inl _), (4, .inl _), (5, .inl _), (6, .inl _)]) (And.intro rfl (And.intro rfl (And.intro rfl (And.intro rfl (And.intro rfl (And.intro rfl (And.intro rfl True.intro))))))) ⟨_, _, _, _, _, _, rfl, rfl, by omega, rfl⟩ (by omega)
              · intro c67
                refine And.intro ⟨rfl, by decide, by decide⟩ (And.intro rfl (And.intro (Or.inr ⟨rfl, by omega⟩) (fputf fb_740_35 (by decide +kernel) hW (by omega) ?_)))
                intro IhB68 ehB68 hB68
                have t69 : IhB68 740 34 = I1 740 34 := (congrFun (congrFun ehB68 740) 34).trans (fup_ne (by omega))
                have t70 := fup_at ehB68 35 (by omega)
                have t71 : IhB68 741 12 = I1 741 12 := (congrFun (congrFun ehB68 741) 12).trans (fup_ne (by omega))
                have k72 := fBz_eq hB68 (a := 741) (j := 12) (by decide +kernel)
                refine And.intro ⟨rfl, by decide, by decide⟩ (fgetf fb_740_35 h0 hB68 ?_)
                intro z73 lz73 uz73 qz73
                refine And.intro (by omega) (And.intro ?_ ?_)
                · intro c74
                  exact fcutJ (I := IhB68) (j := jc_M_seek_92ac3_59) (lv' := [(0, .inr (.inr (some 740))), (1, .inl _), (2, .inl _), (3, .inl _), (4, .inl _), (5, .inl _), (6, .inl _)]) (And.intro rfl (And.intro rfl (And.intro rfl (And.intro rfl (And.intro rfl (And.intro rfl (And.intro rfl True.intro))))))) ⟨_, _, _, _, _, _, rfl, rfl, by omega, rfl⟩ (by omega)
                · intro c75
                  refine And.intro ⟨rfl, by decide, by decide⟩ (fgetf fb_740_34 h0 hB68 ?_)
                  intro z76 lz76 uz76 qz76
                  intro z77 hz77 ez77 bz77
                  refine And.intro ⟨rfl, by decide, by decide⟩ (And.intro rfl (And.intro (Or.inl rfl) (fputf fb_740_34 (by decide +kernel) hW (by omega) ?_)))
                  intro IhB78 ehB78 hB78
                  have t79 := fup_at ehB78 34 (by omega)
                  have t80 : IhB78 740 35 = IhB68 740 35 := (congrFun (congrFun ehB78 740) 35).trans (fup_ne (by omega))
                  have t81 : IhB78 741 12 = IhB68 741 12 := (congrFun (congrFun ehB78 741) 12).trans (fup_ne (by omega))
                  have k82 := fBz_eq hB78 (a := 741) (j := 12) (by decide +kernel)
                  refine And.intro ⟨rfl, by decide, by decide⟩ ?_
                  refine fstore rS_757_757_0_6_1_0 (fzs_sub (by decide +kernel) hW) (by omega) (by omega) ?_
                  intro IhB83 ehB83 hB83
                  have t84 := fup_self ehB83
                  have t85 : IhB83 740 34 = IhB78 740 34 := (congrFun (congrFun ehB83 740) 34).trans (fup_ne (by omega))
                  have t86 : IhB83 740 35 = IhB78 740 35 := (congrFun (congrFun ehB83 740) 35).trans (fup_ne (by omega))
                  have t87 : IhB83 741 12 = IhB78 741 12 := (congrFun (congrFun ehB83 741) 12).trans (fup_ne (by omega))
                  have k88 := fBz_eq hB83 (a := 741) (j := 12) (by decide +kernel)
                  refine And.intro ⟨rfl, by decide, by decide⟩ ?_
                  refine fload rL_741_741_4370_4388_3_0 h0 hB83 (by omega) ?_
                  intro z89 lz89 uz89 qz89
                  intro z90 hz90 ez90 bz90
                  intro z91 hz91 ez91
                  intro z92 hz92 ez92
                  refine And.intro (by omega) (And.intro ?_ ?_)
                  · intro c93
                    intro z94 hz94 ez94 bz94
                    refine Exists.intro xm_483 (And.intro mi_483 (And.intro ⟨rfl, rfl, rfl, rfl⟩ (And.intro rfl ?_)))
                    refine fcall _ h0 (fzs_sub (by decide +kernel) hW) hB83 (ct_M_seek_6e4c8 (fBz h0 hB83) (by omega) (by omega) (by omega) (by omega) (by omega) (by omega) (by omega)) ?_
                    rintro IhB96 _ hB96 fhB96 rfl
                    have t97 := fhB96 741 12 (by decide +kernel)
                    have k98 := fBz_eq hB96 (a := 741) (j := 12) (by decide +kernel)
                    exact fcutJ (I := IhB96) (j := jc_M_seek_92ac3_59) (lv' := [(0, .inr (.inr (some 740))), (1, .inl _), (2, .inl _), (3, .inl _), (4, .inl _), (5, .inl _), (6, .inl _)]) (And.intro rfl (And.intro rfl (And.intro rfl (And.intro rfl (And.intro rfl (And.intro rfl (And.intro rfl True.intro))))))) ⟨_, _, _, _, _, _, rfl, rfl, by omega, rfl⟩ (by omega)
                  · intro c99
                    refine And.intro ⟨rfl, by decide, by decide⟩ ?_
                    refine fload rL_741_741_4371_4389_3_0 h0 hB83 (by omega) ?_
                    intro z100 lz100 uz100 qz100
                    intro z101 hz101 ez101 bz101
                    intro z102 hz102 ez102 bz102
                    intro z103 hz103 ez103 bz103
                    refine Exists.intro xm_483 (And.intro mi_483 (And.intro ⟨rfl, rfl, rfl, rfl⟩ (And.intro rfl ?_)))
                    refine fcall _ h0 (fzs_sub (by decide +kernel) hW) hB83 (ct_M_seek_6e4c8 (fBz h0 hB83) (by omega) (by omega) (by omega) (by omega) (by omega) (by omega) (by omega)) ?_
                    rintro IhB105 _ hB105 fhB105 rfl
                    have t106 := fhB105 741 12 (by decide +kernel)
                    have k107 := fBz_eq hB105 (a := 741) (j := 12) (by decide +kernel)
                    exact fcutJ (I := IhB105) (j := jc_M_seek_92ac3_59) (lv' := [(0, .inr (.inr (some 740))), (1, .inl _), (2, .inl _), (3, .inl _), (4, .inl _), (5, .inl _), (6, .inl _)]) (And.intro rfl (And.intro rfl (And.intro rfl (And.intro rfl (And.intro rfl (And.intro rfl (And.intro rfl True.intro))))))) ⟨_, _, _, _, _, _, rfl, rfl, by omega, rfl⟩ (by omega)
            · intro c108
              exact fcutJ (I := I1) (j := jc_M_seek_92ac3_59) (lv' := [(0, .inr (.inr (some 740))), (1, .inl _), (2, .inl _), (3, .inl _), (4, .inl _), (5, .inl _), (6, .inl _)]) (And.intro rfl (And.intro rfl (And.intro rfl (And.intro rfl (And.intro rfl (And.intro rfl (And.intro rfl True.intro))))))) ⟨_, _, _, _, _, _, rfl, rfl, by omega, rfl⟩ (by omega)
  · have hB0 := fB_self (zn := znJ) (K := fKc wz_4d25e) h0
    refine And.intro ⟨rfl, by decide, by decide⟩ ?_
    refine fload rL_741_741_12_12_1_0 h0 hB0 (by omega) ?_
    intro z109 lz109 uz109 qz109
    have pz109 := fld_at qz109 12 (by omega)
    refine And.intro (by omega) (And.intro ?_ ?_)
    · intro c110
      exact fcutJ (I := I) (j := jc_M_seek_92ac3_59) (lv' := [(0, .inr (.inr (some 740))), (1, .inl _), (2, .inl _), (3, .inl _), (4, .inl _), (5, .inl _), (6, .inl _)]) (And.intro rfl (And.intro rfl (And.intro rfl (And.intro rfl (And.intro rfl (And.intro rfl (And.intro rfl True.intro))))))) ⟨_, _, _, _, _, _, rfl, rfl, by omega, rfl⟩ (by omega)
    · intro c111
      refine And.intro ⟨rfl, by decide, by decide⟩ (fgetf fb_740_33 h0 hB0 ?_)
      intro z112 lz112 uz112 qz112
      refine And.intro (by omega) (And.intro ?_ ?_)
      · intro c113
        exact rfl
      · intro c114
        refine And.intro ⟨rfl, by decide, by decide⟩ (And.intro rfl (And.intro (Or.inl rfl) (fputf fb_740_33 (by decide +kernel) hW (by omega) ?_)))
        intro IhB115 ehB115 hB115
        have t116 := fup_at ehB115 33 (by omega)
        have t117 : IhB115 741 12 = I 741 12 := (congrFun (congrFun ehB115 741) 12).trans (fup_ne (by omega))
        have k118 := fBz_eq hB115 (a := 741) (j := 12) (by decide +kernel)
        exact fcutJ (I := IhB115) (j := jc_M_seek_92ac3_29) (lv' := [(0, .inr (.inr (some 740))), (2, .inl _), (6, .inl _)]) (And.intro rfl (And.intro rfl (And.intro rfl True.intro))) ⟨_, _, rfl, rfl, by omega, rfl⟩ (by omega)
abbrev jc_M_seek_58809_29 : Nat → fL → List fV → fH → Prop := fun m lv st I => ∃ (y2 : Int) (y6 : Int), lv = [(0, .inr (.inr (some 740))), (2, .inl y2), (6, .inl y6)] ∧ st = [] ∧ (((1 ≤ y2 ∧ y2 ≤ 1) ∧ (0 ≤ y6 ∧ y6 ≤ 1) ∧ ((-2147483647) ≤ I 740 33 ∧ I 740 33 ≤ 2147483647) ∧ (1 ≤ I 741 12 ∧ I 741 12 ≤ 1))) ∧ m = (9 + 1 * (1 - y6) : Int).toNat
abbrev jc_M_seek_58809_59 : Nat → fL → List fV → fH → Prop := fun m lv st I => ∃ (y1 : Int) (y2 : Int) (y3 : Int) (y4 : Int) (y5 : Int) (y6 : Int), lv = [(0, .inr (.inr (some 740))), (1, .inl y1), (2, .inl y2), (3, .inl y3), (4, .inl y4), (5, .inl y5), (6, .inl y6)] ∧ st = [] ∧ (((1 ≤ y1 ∧ y1 ≤ 60) ∧ (1 ≤ y2 ∧ y2 ≤ 1) ∧ ((-2147483648) ≤ y3 ∧ y3 ≤ 2147483647) ∧ ((-2147483648) ≤ y4 ∧ y4 ≤ 2147483647) ∧ ((-2147483648) ≤ y5 ∧ y5 ≤ 2147483647) ∧ (0 ≤ y6 ∧ y6 ≤ 7) ∧ (y2 < I 741 12))) ∧ m = (1 + 1 * (7 - y6) : Int).toNat
set_option maxRecDepth 8000 in
theorem ct_M_seek_58809 {I : fH} {x1 : Int} {x2 : Int} {x3 : Int} {x4 : Int} {x5 : Int} (h0 : fB bsJ I) (ha1 : (1 ≤ x1 ∧ x1 ≤ 60)) (ha2 : (1 ≤ x2 ∧ x2 ≤ 1)) (ha3 : ((-2147483648) ≤ x3 ∧ x3 ≤ 2147483647)) (ha4 : ((-2147483648) ≤ x4 ∧ x4 ≤ 2147483647)) (ha5 : ((-2147483648) ≤ x5 ∧ x5 ≤ 2147483647)) (hp0 : x2 = 1) (hp1 : x2 ≤ I 741 12) : fC ρ base n F xTc vwCl xTys D dA la gJ (fbz bsJ znJ (fKc wz_4d25e) I) xm_485 [.inr (.inr (some 740)), .inl x1, .inl x2, .inl x3, .inl x4, .inl x5] I (fun _ r => r = none) := by
  have hW : fzs wz_4d25e (fKc wz_4d25e) := fKc_ok _
  refine f_meth (rb := rbJ) (J := [(29, jc_M_seek_58809_29), (59, jc_M_seek_58809_59)]) 11 400 xG xin_485 x6_485 okJ (fB_self h0) ?_ ?_
  · refine List.forall_mem_cons.mpr ⟨?_, List.forall_mem_cons.mpr ⟨?_, fun q h => absurd h List.not_mem_nil⟩⟩
    · rintro m _ _ I1 hB1 ⟨y2, y6, rfl, rfl, hb, hm⟩
      have k1 := fBz_eq hB1 (a := 741) (j := 12) (by decide +kernel)
      refine And.intro (by omega) (And.intro ?_ ?_)
      · intro c2
        exact rfl
      · intro c3
        refine And.intro ⟨rfl, by decide, by decide⟩ ?_
        refine And.intro ⟨rfl, by decide, by decide⟩ ?_
        refine fload rL_757_757_0_6_1_0 h0 hB1 (by omega) ?_
        intro z4 lz4 uz4 qz4
        have pz4 := fld_at qz4 0 (by omega)
        refine fstore rS_758_758_0_6_1_0 (fzs_sub (by decide +kernel) hW) (by omega) (by omega) ?_
        intro IhB5 ehB5 hB5
        have t6 := fup_self ehB5
        have t7 : IhB5 740 33 = I1 740 33 := (congrFun (congrFun ehB5 740) 33).trans (fup_ne (by omega))
        have t8 : IhB5 741 12 = I1 741 12 := (congrFun (congrFun ehB5 741) 12).trans (fup_ne (by omega))
        have t9 : IhB5 757 0 = I1 757 0 := (congrFun (congrFun ehB5 757) 0).trans (fup_ne (by omega))
        have t10 := fup_at ehB5 0 (by omega)
        have k11 := fBz_eq hB5 (a := 741) (j := 12) (by decide +kernel)
        exact fcutJ (I := IhB5) (j := jc_M_seek_58809_29) (lv' := [(0, .inr (.inr (some 740))), (2, .inl _), (6, .inl _)]) (And.intro rfl (And.intro rfl (And.intro rfl True.intro))) ⟨_, _, rfl, rfl, by omega, rfl⟩ (by omega)
    · rintro m _ _ I1 hB1 ⟨y1, y2, y3, y4, y5, y6, rfl, rfl, hb, hm⟩
      have k12 := fBz_eq hB1 (a := 741) (j := 12) (by decide +kernel)
      refine And.intro ⟨rfl, by decide, by decide⟩ ?_
      refine fload rL_741_741_12_12_1_0 h0 hB1 (by omega) ?_
      intro z13 lz13 uz13 qz13
      have pz13 := fld_at qz13 12 (by omega)
      refine And.intro (by omega) (And.intro ?_ ?_)
      · intro c14
        exact rfl
      · intro c15
        refine And.intro ⟨rfl, by decide, by decide⟩ (fgetf fb_740_35 h0 hB1 ?_)
        intro z16 lz16 uz16 qz16
        refine And.intro (by omega) (And.intro ?_ ?_)
        · intro c17
          exact rfl
        · intro c18
          intro z19 hz19 ez19
          intro z20 hz20 ez20 bz20
          refine And.intro (by omega) (And.intro ?_ ?_)
          · intro c21
            exact fcutJ (I := I1) (j := jc_M_seek_58809_59) (lv' := [(0, .inr (.inr (some 740))), (1, .inl _), (2, .inl _), (3, .inl _), (4, .inl _), (5, .inl _), (6, .inl _)]) (And.intro rfl (And.intro rfl (And.intro rfl (And.intro rfl (And.intro rfl (And.intro rfl (And.intro rfl True.intro))))))) ⟨_, _, _, _, _, _, rfl, rfl, by omega, rfl⟩ (by omega)
          · intro c22
            refine And.intro ⟨rfl, by decide, by decide⟩ ?_
            refine fload rL_741_741_4372_4390_3_0 h0 hB1 (by omega) ?_
            intro z23 lz23 uz23 qz23
            intro z24 hz24 ez24
            intro z25 hz25 ez25 bz25
            refine And.intro (by omega) (And.intro ?_ ?_)
            · intro c26
              refine And.intro ⟨rfl, by decide, by decide⟩ (fgetf fb_740_34 h0 hB1 ?_)
              intro z27 lz27 uz27 qz27
              refine And.intro (by omega) (And.intro ?_ ?_)
              · intro c28
                refine And.intro ⟨rfl, by decide, by decide⟩ (And.intro rfl (And.intro (Or.inr ⟨rfl, by omega⟩) (fputf fb_740_35 (by decide +kernel) hW (by omega) ?_)))
                intro IhB29 ehB29 hB29
                have t30 : IhB29 740 34 = I1 740 34 := (congrFun (congrFun ehB29 740) 34).trans (fup_ne (by omega))
                have t31 := fup_at ehB29 35 (by omega)
                have t32 : IhB29 741 12 = I1 741 12 := (congrFun (congrFun ehB29 741) 12).trans (fup_ne (by omega))
                have k33 := fBz_eq hB29 (a := 741) (j := 12) (by decide +kernel)
                refine And.intro ⟨rfl, by decide, by decide⟩ (fgetf fb_740_35 h0 hB29 ?_)
                intro z34 lz34 uz34 qz34
                refine And.intro (by omega) (And.intro ?_ ?_)
                · intro c35
                  exact fcutJ (I := IhB29) (j := jc_M_seek_58809_59) (lv' := [(0, .inr (.inr (some 740))), (1, .inl _), (2, .inl _), (3, .inl _), (4, .inl _), (5, .inl _), (6, .inl _)]) (And.intro rfl (And.intro rfl (And.intro rfl (And.intro rfl (And.intro rfl (And.intro rfl (And.intro rfl True.intro))))))) ⟨_, _, _, _, _, _, rfl, rfl, by omega, rfl⟩ (by omega)
                · intro c36
                  refine And.intro ⟨rfl, by decide, by decide⟩ (fgetf fb_740_34 h0 hB29 ?_)
                  intro z37 lz37 uz37 qz37
                  intro z38 hz38 ez38 bz38
                  refine And.intro ⟨rfl, by decide, by decide⟩ (And.intro rfl (And.intro (Or.inl rfl) (fputf fb_740_34 (by decide +kernel) hW (by omega) ?_)))
                  intro IhB39 ehB39 hB39
                  have t40 := fup_at ehB39 34 (by omega)
                  have t41 : IhB39 740 35 = IhB29 740 35 := (congrFun (congrFun ehB39 740) 35).trans (fup_ne (by omega))
                  have t42 : IhB39 741 12 = IhB29 741 12 := (congrFun (congrFun ehB39 741) 12).trans (fup_ne (by omega))
                  have k43 := fBz_eq hB39 (a := 741) (j := 12) (by decide +kernel)
                  refine And.intro ⟨rfl, by decide, by decide⟩ ?_
                  refine fstore rS_757_757_0_6_1_0 (fzs_sub (by decide +kernel) hW) (by omega) (by omega) ?_
                  intro IhB44 ehB44 hB44
                  have t45 := fup_self ehB44
                  have t46 : IhB44 740 34 = IhB39 740 34 := (congrFun (congrFun ehB44 740) 34).trans (fup_ne (by omega))
                  have t47 : IhB44 740 35 = IhB39 740 35 := (congrFun (congrFun ehB44 740) 35).trans (fup_ne (by omega))
                  have t48 : IhB44 741 12 = IhB39 741 12 := (congrFun (congrFun ehB44 741) 12).trans (fup_ne (by omega))
                  have k49 := fBz_eq hB44 (a := 741) (j := 12) (by decide +kernel)
                  refine And.intro ⟨rfl, by decide, by decide⟩ ?_
                  refine fload rL_741_741_4370_4388_3_0 h0 hB44 (by omega) ?_
                  intro z50 lz50 uz50 qz50
                  intro z51 hz51 ez51 bz51
                  intro z52 hz52 ez52
                  intro z53 hz53 ez53
                  refine And.intro (by omega) (And.intro ?_ ?_)
                  · intro c54
                    intro z55 hz55 ez55 bz55
                    refine Exists.intro xm_484 (And.intro mi_484 (And.intro ⟨rfl, rfl, rfl, rfl⟩ (And.intro rfl ?_)))
                    refine fcall _ h0 (fzs_sub (by decide +kernel) hW) hB44 (ct_M_seek_92ac3 (fBz h0 hB44) (by omega) (by omega) (by omega) (by omega) (by omega) (by omega) (by omega)) ?_
                    rintro IhB57 _ hB57 fhB57 rfl
                    have t58 := fhB57 741 12 (by decide +kernel)
                    have k59 := fBz_eq hB57 (a := 741) (j := 12) (by decide +kernel)
                    exact fcutJ (I := IhB57) (j := jc_M_seek_58809_59) (lv' := [(0, .inr (.inr (some 740))), (1, .inl _), (2, .inl _), (3, .inl _), (4, .inl _), (5, .inl _), (6, .inl _)]) (And.intro rfl (And.intro rfl (And.intro rfl (And.intro rfl (And.intro rfl (And.intro rfl (And.intro rfl True.intro))))))) ⟨_, _, _, _, _, _, rfl, rfl, by omega, rfl⟩ (by omega)
                  · intro c60
                    refine And.intro ⟨rfl, by decide, by decide⟩ ?_
                    refine fload rL_741_741_4371_4389_3_0 h0 hB44 (by omega) ?_
                    intro z61 lz61 uz61 qz61
                    intro z62 hz62 ez62 bz62
                    intro z63 hz63 ez63 bz63
                    intro z64 hz64 ez64 bz64
                    refine Exists.intro xm_484 (And.intro mi_484 (And.intro ⟨rfl, rfl, rfl, rfl⟩ (And.intro rfl ?_)))
                    refine fcall _ h0 (fzs_sub (by decide +kernel) hW) hB44 (ct_M_seek_92ac3 (fBz h0 hB44) (by omega) (by omega) (by omega) (by omega) (by omega) (by omega) (by omega)) ?_
                    rintro IhB66 _ hB66 fhB66 rfl
                    have t67 := fhB66 741 12 (by decide +kernel)
                    have k68 := fBz_eq hB66 (a := 741) (j := 12) (by decide +kernel)
                    exact fcutJ (I := IhB66) (j := jc_M_seek_58809_59) (lv' := [(0, .inr (.inr (some 740))), (1, .inl _), (2, .inl _), (3, .inl _), (4, .inl _), (5, .inl _), (6, .inl _)]) (And.intro rfl (And.intro rfl (And.intro rfl (And.intro rfl (And.intro rfl (And.intro rfl (And.intro rfl True.intro))))))) ⟨_, _, _, _, _, _, rfl, rfl, by omega, rfl⟩ (by omega)
              · intro c69
                refine And.intro ⟨rfl, by decide, by decide⟩ (And.intro rfl (And.intro (Or.inr ⟨rfl, by omega⟩) (fputf fb_740_35 (by decide +kernel) hW (by omega) ?_)))
                intro IhB70 ehB70 hB70
                have t71 : IhB70 740 34 = I1 740 34 := (congrFun (congrFun ehB70 740) 34).trans (fup_ne (by omega))
                have t72 := fup_at ehB70 35 (by omega)
                have t73 : IhB70 741 12 = I1 741 12 := (congrFun (congrFun ehB70 741) 12).trans (fup_ne (by omega))
                have k74 := fBz_eq hB70 (a := 741) (j := 12) (by decide +kernel)
                refine And.intro ⟨rfl, by decide, by decide⟩ (fgetf fb_740_35 h0 hB70 ?_)
                intro z75 lz75 uz75 qz75
                refine And.intro (by omega) (And.intro ?_ ?_)
                · intro c76
                  exact fcutJ (I := IhB70) (j := jc_M_seek_58809_59) (lv' := [(0, .inr (.inr (some 740))), (1, .inl _), (2, .inl _), (3, .inl _), (4, .inl _), (5, .inl _), (6, .inl _)]) (And.intro rfl (And.intro rfl (And.intro rfl (And.intro rfl (And.intro rfl (And.intro rfl (And.intro rfl True.intro))))))) ⟨_, _, _, _, _, _, rfl, rfl, by omega, rfl⟩ (by omega)
                · intro c77
                  refine And.intro ⟨rfl, by decide, by decide⟩ (fgetf fb_740_34 h0 hB70 ?_)
                  intro z78 lz78 uz78 qz78
                  intro z79 hz79 ez79 bz79
                  refine And.intro ⟨rfl, by decide, by decide⟩ (And.intro rfl (And.intro (Or.inl rfl) (fputf fb_740_34 (by decide +kernel) hW (by omega) ?_)))
                  intro IhB80 ehB80 hB80
                  have t81 := fup_at ehB80 34 (by omega)
                  have t82 : IhB80 740 35 = IhB70 740 35 := (congrFun (congrFun ehB80 740) 35).trans (fup_ne (by omega))
                  have t83 : IhB80 741 12 = IhB70 741 12 := (congrFun (congrFun ehB80 741) 12).trans (fup_ne (by omega))
                  have k84 := fBz_eq hB80 (a := 741) (j := 12) (by decide +kernel)
                  refine And.intro ⟨rfl, by decide, by decide⟩ ?_
                  refine fstore rS_757_757_0_6_1_0 (fzs_sub (by decide +kernel) hW) (by omega) (by omega) ?_
                  intro IhB85 ehB85 hB85
                  have t86 := fup_self ehB85
                  have t87 : IhB85 740 34 = IhB80 740 34 := (congrFun (congrFun ehB85 740) 34).trans (fup_ne (by omega))
                  have t88 : IhB85 740 35 = IhB80 740 35 := (congrFun (congrFun ehB85 740) 35).trans (fup_ne (by omega))
                  have t89 : IhB85 741 12 = IhB80 741 12 := (congrFun (congrFun ehB85 741) 12).trans (fup_ne (by omega))
                  have k90 := fBz_eq hB85 (a := 741) (j := 12) (by decide +kernel)
                  refine And.intro ⟨rfl, by decide, by decide⟩ ?_
                  refine fload rL_741_741_4370_4388_3_0 h0 hB85 (by omega) ?_
                  intro z91 lz91 uz91 qz91
                  intro z92 hz92 ez92 bz92
                  intro z93 hz93 ez93
                  intro z94 hz94 ez94
                  refine And.intro (by omega) (And.intro ?_ ?_)
                  · intro c95
                    intro z96 hz96 ez96 bz96
                    refine Exists.intro xm_484 (And.intro mi_484 (And.intro ⟨rfl, rfl, rfl, rfl⟩ (And.intro rfl ?_)))
                    refine fcall _ h0 (fzs_sub (by decide +kernel) hW) hB85 (ct_M_seek_92ac3 (fBz h0 hB85) (by omega) (by omega) (by omega) (by omega) (by omega) (by omega) (by omega)) ?_
                    rintro IhB98 _ hB98 fhB98 rfl
                    have t99 := fhB98 741 12 (by decide +kernel)
                    have k100 := fBz_eq hB98 (a := 741) (j := 12) (by decide +kernel)
                    exact fcutJ (I := IhB98) (j := jc_M_seek_58809_59) (lv' := [(0, .inr (.inr (some 740))), (1, .inl _), (2, .inl _), (3, .inl _), (4, .inl _), (5, .inl _), (6, .inl _)]) (And.intro rfl (And.intro rfl (And.intro rfl (And.intro rfl (And.intro rfl (And.intro rfl (And.intro rfl True.intro))))))) ⟨_, _, _, _, _, _, rfl, rfl, by omega, rfl⟩ (by omega)
                  · intro c101
                    refine And.intro ⟨rfl, by decide, by decide⟩ ?_
                    refine fload rL_741_741_4371_4389_3_0 h0 hB85 (by omega) ?_
                    intro z102 lz102 uz102 qz102
                    intro z103 hz103 ez103 bz103
                    intro z104 hz104 ez104 bz104
                    intro z105 hz105 ez105 bz105
                    refine Exists.intro xm_484 (And.intro mi_484 (And.intro ⟨rfl, rfl, rfl, rfl⟩ (And.intro rfl ?_)))
                    refine fcall _ h0 (fzs_sub (by decide +kernel) hW) hB85 (ct_M_seek_92ac3 (fBz h0 hB85) (by omega) (by omega) (by omega) (by omega) (by omega) (by omega) (by omega)) ?_
                    rintro IhB107 _ hB107 fhB107 rfl
                    have t108 := fhB107 741 12 (by decide +kernel)
                    have k109 := fBz_eq hB107 (a := 741) (j := 12) (by decide +kernel)
                    exact fcutJ (I := IhB107) (j := jc_M_seek_58809_59) (lv' := [(0, .inr (.inr (some 740))), (1, .inl _), (2, .inl _), (3, .inl _), (4, .inl _), (5, .inl _), (6, .inl _)]) (And.intro rfl (And.intro rfl (And.intro rfl (And.intro rfl (And.intro rfl (And.intro rfl (And.intro rfl True.intro))))))) ⟨_, _, _, _, _, _, rfl, rfl, by omega, rfl⟩ (by omega)
            · intro c110
              exact fcutJ (I := I1) (j := jc_M_seek_58809_59) (lv' := [(0, .inr (.inr (some 740))), (1, .inl _), (2, .inl _), (3, .inl _), (4, .inl _), (5, .inl _), (6, .inl _)]) (And.intro rfl (And.intro rfl (And.intro rfl (And.intro rfl (And.intro rfl (And.intro rfl (And.intro rfl True.intro))))))) ⟨_, _, _, _, _, _, rfl, rfl, by omega, rfl⟩ (by omega)
  · have hB0 := fB_self (zn := znJ) (K := fKc wz_4d25e) h0
    refine And.intro ⟨rfl, by decide, by decide⟩ ?_
    refine fload rL_741_741_12_12_1_0 h0 hB0 (by omega) ?_
    intro z111 lz111 uz111 qz111
    have pz111 := fld_at qz111 12 (by omega)
    refine And.intro (by omega) (And.intro ?_ ?_)
    · intro c112
      exact fcutJ (I := I) (j := jc_M_seek_58809_59) (lv' := [(0, .inr (.inr (some 740))), (1, .inl _), (2, .inl _), (3, .inl _), (4, .inl _), (5, .inl _), (6, .inl _)]) (And.intro rfl (And.intro rfl (And.intro rfl (And.intro rfl (And.intro rfl (And.intro rfl (And.intro rfl True.intro))))))) ⟨_, _, _, _, _, _, rfl, rfl, by omega, rfl⟩ (by omega)
    · intro c113
      refine And.intro ⟨rfl, by decide, by decide⟩ (fgetf fb_740_33 h0 hB0 ?_)
      intro z114 lz114 uz114 qz114
      refine And.intro (by omega) (And.intro ?_ ?_)
      · intro c115
        exact rfl
      · intro c116
        refine And.intro ⟨rfl, by decide, by decide⟩ (And.intro rfl (And.intro (Or.inl rfl) (fputf fb_740_33 (by decide +kernel) hW (by omega) ?_)))
        intro IhB117 ehB117 hB117
        have t118 := fup_at ehB117 33 (by omega)
        have t119 : IhB117 741 12 = I 741 12 := (congrFun (congrFun ehB117 741) 12).trans (fup_ne (by omega))
        have k120 := fBz_eq hB117 (a := 741) (j := 12) (by decide +kernel)
        exact fcutJ (I := IhB117) (j := jc_M_seek_58809_29) (lv' := [(0, .inr (.inr (some 740))), (2, .inl _), (6, .inl _)]) (And.intro rfl (And.intro rfl (And.intro rfl True.intro))) ⟨_, _, rfl, rfl, by omega, rfl⟩ (by omega)
abbrev jc_M_seek_71684_59 : Nat → fL → List fV → fH → Prop := fun m lv st I => ∃ (y1 : Int) (y2 : Int) (y3 : Int) (y4 : Int) (y5 : Int) (y6 : Int), lv = [(0, .inr (.inr (some 740))), (1, .inl y1), (2, .inl y2), (3, .inl y3), (4, .inl y4), (5, .inl y5), (6, .inl y6)] ∧ st = [] ∧ (((1 ≤ y1 ∧ y1 ≤ 60) ∧ (0 ≤ y2 ∧ y2 ≤ 0) ∧ (0 ≤ y3 ∧ y3 ≤ 0) ∧ (0 ≤ y4 ∧ y4 ≤ 0) ∧ (0 ≤ y5 ∧ y5 ≤ 0) ∧ (0 ≤ y6 ∧ y6 ≤ 7) ∧ (1 ≤ I 741 12 ∧ I 741 12 ≤ 7) ∧ (y2 < I 741 12))) ∧ m = (1 + 1 * (7 - y6) : Int).toNat
set_option maxRecDepth 8000 in
theorem ct_M_seek_71684 {I : fH} {x1 : Int} {x2 : Int} {x3 : Int} {x4 : Int} {x5 : Int} (h0 : fB bsJ I) (ha1 : (1 ≤ x1 ∧ x1 ≤ 60)) (ha2 : (0 ≤ x2 ∧ x2 ≤ 0)) (ha3 : (0 ≤ x3 ∧ x3 ≤ 0)) (ha4 : (0 ≤ x4 ∧ x4 ≤ 0)) (ha5 : (0 ≤ x5 ∧ x5 ≤ 0)) (hp0 : x2 = 0) (hp1 : x2 ≤ I 741 12) : fC ρ base n F xTc vwCl xTys D dA la gJ (fbz bsJ znJ (fKc wz_4d25e) I) xm_486 [.inr (.inr (some 740)), .inl x1, .inl x2, .inl x3, .inl x4, .inl x5] I (fun _ r => r = none) := by
  have hW : fzs wz_4d25e (fKc wz_4d25e) := fKc_ok _
  refine f_meth (rb := rbJ) (J := [(59, jc_M_seek_71684_59)]) 9 400 xG xin_486 x6_486 okJ (fB_self h0) ?_ ?_
  · refine List.forall_mem_cons.mpr ⟨?_, fun q h => absurd h List.not_mem_nil⟩
    · rintro m _ _ I1 hB1 ⟨y1, y2, y3, y4, y5, y6, rfl, rfl, hb, hm⟩
      have k1 := fBz_eq hB1 (a := 741) (j := 12) (by decide +kernel)
      refine And.intro ⟨rfl, by decide, by decide⟩ ?_
      refine fload rL_741_741_12_12_1_0 h0 hB1 (by omega) ?_
      intro z2 lz2 uz2 qz2
      have pz2 := fld_at qz2 12 (by omega)
      refine And.intro (by omega) (And.intro ?_ ?_)
      · intro c3
        exact rfl
      · intro c4
        refine And.intro ⟨rfl, by decide, by decide⟩ (fgetf fb_740_35 h0 hB1 ?_)
        intro z5 lz5 uz5 qz5
        refine And.intro (by omega) (And.intro ?_ ?_)
        · intro c6
          exact rfl
        · intro c7
          intro z8 hz8 ez8
          intro z9 hz9 ez9 bz9
          refine And.intro (by omega) (And.intro ?_ ?_)
          · intro c10
            exact fcutJ (I := I1) (j := jc_M_seek_71684_59) (lv' := [(0, .inr (.inr (some 740))), (1, .inl _), (2, .inl _), (3, .inl _), (4, .inl _), (5, .inl _), (6, .inl _)]) (And.intro rfl (And.intro rfl (And.intro rfl (And.intro rfl (And.intro rfl (And.intro rfl (And.intro rfl True.intro))))))) ⟨_, _, _, _, _, _, rfl, rfl, by omega, rfl⟩ (by omega)
          · intro c11
            refine And.intro ⟨rfl, by decide, by decide⟩ ?_
            refine fload rL_741_741_4372_4390_3_0 h0 hB1 (by omega) ?_
            intro z12 lz12 uz12 qz12
            intro z13 hz13 ez13
            intro z14 hz14 ez14 bz14
            refine And.intro (by omega) (And.intro ?_ ?_)
            · intro c15
              refine And.intro ⟨rfl, by decide, by decide⟩ (fgetf fb_740_34 h0 hB1 ?_)
              intro z16 lz16 uz16 qz16
              refine And.intro (by omega) (And.intro ?_ ?_)
              · intro c17
                refine And.intro ⟨rfl, by decide, by decide⟩ (And.intro rfl (And.intro (Or.inr ⟨rfl, by omega⟩) (fputf fb_740_35 (by decide +kernel) hW (by omega) ?_)))
                intro IhB18 ehB18 hB18
                have t19 : IhB18 740 34 = I1 740 34 := (congrFun (congrFun ehB18 740) 34).trans (fup_ne (by omega))
                have t20 := fup_at ehB18 35 (by omega)
                have t21 : IhB18 741 12 = I1 741 12 := (congrFun (congrFun ehB18 741) 12).trans (fup_ne (by omega))
                have k22 := fBz_eq hB18 (a := 741) (j := 12) (by decide +kernel)
                refine And.intro ⟨rfl, by decide, by decide⟩ (fgetf fb_740_35 h0 hB18 ?_)
                intro z23 lz23 uz23 qz23
                refine And.intro (by omega) (And.intro ?_ ?_)
                · intro c24
                  exact fcutJ (I := IhB18) (j := jc_M_seek_71684_59) (lv' := [(0, .inr (.inr (some 740))), (1, .inl _), (2, .inl _), (3, .inl _), (4, .inl _), (5, .inl _), (6, .inl _)]) (And.intro rfl (And.intro rfl (And.intro rfl (And.intro rfl (And.intro rfl (And.intro rfl (And.intro rfl True.intro))))))) ⟨_, _, _, _, _, _, rfl, rfl, by omega, rfl⟩ (by omega)
                · intro c25
                  refine And.intro ⟨rfl, by decide, by decide⟩ (fgetf fb_740_34 h0 hB18 ?_)
                  intro z26 lz26 uz26 qz26
                  intro z27 hz27 ez27 bz27
                  refine And.intro ⟨rfl, by decide, by decide⟩ (And.intro rfl (And.intro (Or.inl rfl) (fputf fb_740_34 (by decide +kernel) hW (by omega) ?_)))
                  intro IhB28 ehB28 hB28
                  have t29 := fup_at ehB28 34 (by omega)
                  have t30 : IhB28 740 35 = IhB18 740 35 := (congrFun (congrFun ehB28 740) 35).trans (fup_ne (by omega))
                  have t31 : IhB28 741 12 = IhB18 741 12 := (congrFun (congrFun ehB28 741) 12).trans (fup_ne (by omega))
                  have k32 := fBz_eq hB28 (a := 741) (j := 12) (by decide +kernel)
                  refine And.intro ⟨rfl, by decide, by decide⟩ ?_
                  refine fstore rS_757_757_0_6_1_0 (fzs_sub (by decide +kernel) hW) (by omega) (by omega) ?_
                  intro IhB33 ehB33 hB33
                  have t34 := fup_self ehB33
                  have t35 : IhB33 740 34 = IhB28 740 34 := (congrFun (congrFun ehB33 740) 34).trans (fup_ne (by omega))
                  have t36 : IhB33 740 35 = IhB28 740 35 := (congrFun (congrFun ehB33 740) 35).trans (fup_ne (by omega))
                  have t37 : IhB33 741 12 = IhB28 741 12 := (congrFun (congrFun ehB33 741) 12).trans (fup_ne (by omega))
                  have k38 := fBz_eq hB33 (a := 741) (j := 12) (by decide +kernel)
                  refine And.intro ⟨rfl, by decide, by decide⟩ ?_
                  refine fload rL_741_741_4370_4388_3_0 h0 hB33 (by omega) ?_
                  intro z39 lz39 uz39 qz39
                  intro z40 hz40 ez40 bz40
                  intro z41 hz41 ez41
                  intro z42 hz42 ez42
                  refine And.intro (by omega) (And.intro ?_ ?_)
                  · intro c43
                    intro z44 hz44 ez44 bz44
                    refine Exists.intro xm_485 (And.intro mi_485 (And.intro ⟨rfl, rfl, rfl, rfl⟩ (And.intro rfl ?_)))
                    refine fcall _ h0 (fzs_sub (by decide +kernel) hW) hB33 (ct_M_seek_58809 (fBz h0 hB33) (by omega) (by omega) (by omega) (by omega) (by omega) (by omega) (by omega)) ?_
                    rintro IhB46 _ hB46 fhB46 rfl
                    have t47 := fhB46 741 12 (by decide +kernel)
                    have k48 := fBz_eq hB46 (a := 741) (j := 12) (by decide +kernel)
                    exact fcutJ (I := IhB46) (j := jc_M_seek_71684_59) (lv' := [(0, .inr (.inr (some 740))), (1, .inl _), (2, .inl _), (3, .inl _), (4, .inl _), (5, .inl _), (6, .inl _)]) (And.intro rfl (And.intro rfl (And.intro rfl (And.intro rfl (And.intro rfl (And.intro rfl (And.intro rfl True.intro))))))) ⟨_, _, _, _, _, _, rfl, rfl, by omega, rfl⟩ (by omega)
                  · intro c49
                    refine And.intro ⟨rfl, by decide, by decide⟩ ?_
                    refine fload rL_741_741_4371_4389_3_0 h0 hB33 (by omega) ?_
                    intro z50 lz50 uz50 qz50
                    intro z51 hz51 ez51 bz51
                    intro z52 hz52 ez52 bz52
                    intro z53 hz53 ez53 bz53
                    refine Exists.intro xm_485 (And.intro mi_485 (And.intro ⟨rfl, rfl, rfl, rfl⟩ (And.intro rfl ?_)))
                    refine fcall _ h0 (fzs_sub (by decide +kernel) hW) hB33 (ct_M_seek_58809 (fBz h0 hB33) (by omega) (by omega) (by omega) (by omega) (by omega) (by omega) (by omega)) ?_
                    rintro IhB55 _ hB55 fhB55 rfl
                    have t56 := fhB55 741 12 (by decide +kernel)
                    have k57 := fBz_eq hB55 (a := 741) (j := 12) (by decide +kernel)
                    exact fcutJ (I := IhB55) (j := jc_M_seek_71684_59) (lv' := [(0, .inr (.inr (some 740))), (1, .inl _), (2, .inl _), (3, .inl _), (4, .inl _), (5, .inl _), (6, .inl _)]) (And.intro rfl (And.intro rfl (And.intro rfl (And.intro rfl (And.intro rfl (And.intro rfl (And.intro rfl True.intro))))))) ⟨_, _, _, _, _, _, rfl, rfl, by omega, rfl⟩ (by omega)
              · intro c58
                refine And.intro ⟨rfl, by decide, by decide⟩ (And.intro rfl (And.intro (Or.inr ⟨rfl, by omega⟩) (fputf fb_740_35 (by decide +kernel) hW (by omega) ?_)))
                intro IhB59 ehB59 hB59
                have t60 : IhB59 740 34 = I1 740 34 := (congrFun (congrFun ehB59 740) 34).trans (fup_ne (by omega))
                have t61 := fup_at ehB59 35 (by omega)
                have t62 : IhB59 741 12 = I1 741 12 := (congrFun (congrFun ehB59 741) 12).trans (fup_ne (by omega))
                have k63 := fBz_eq hB59 (a := 741) (j := 12) (by decide +kernel)
                refine And.intro ⟨rfl, by decide, by decide⟩ (fgetf fb_740_35 h0 hB59 ?_)
                intro z64 lz64 uz64 qz64
                refine And.intro (by omega) (And.intro ?_ ?_)
                · intro c65
                  exact fcutJ (I := IhB59) (j := jc_M_seek_71684_59) (lv' := [(0, .inr (.inr (some 740))), (1, .inl _), (2, .inl _), (3, .inl _), (4, .inl _), (5, .inl _), (6, .inl _)]) (And.intro rfl (And.intro rfl (And.intro rfl (And.intro rfl (And.intro rfl (And.intro rfl (And.intro rfl True.intro))))))) ⟨_, _, _, _, _, _, rfl, rfl, by omega, rfl⟩ (by omega)
                · intro c66
                  refine And.intro ⟨rfl, by decide, by decide⟩ (fgetf fb_740_34 h0 hB59 ?_)
                  intro z67 lz67 uz67 qz67
                  intro z68 hz68 ez68 bz68
                  refine And.intro ⟨rfl, by decide, by decide⟩ (And.intro rfl (And.intro (Or.inl rfl) (fputf fb_740_34 (by decide +kernel) hW (by omega) ?_)))
                  intro IhB69 ehB69 hB69
                  have t70 := fup_at ehB69 34 (by omega)
                  have t71 : IhB69 740 35 = IhB59 740 35 := (congrFun (congrFun ehB69 740) 35).trans (fup_ne (by omega))
                  have t72 : IhB69 741 12 = IhB59 741 12 := (congrFun (congrFun ehB69 741) 12).trans (fup_ne (by omega))
                  have k73 := fBz_eq hB69 (a := 741) (j := 12) (by decide +kernel)
                  refine And.intro ⟨rfl, by decide, by decide⟩ ?_
                  refine fstore rS_757_757_0_6_1_0 (fzs_sub (by decide +kernel) hW) (by omega) (by omega) ?_
                  intro IhB74 ehB74 hB74
                  have t75 := fup_self ehB74
                  have t76 : IhB74 740 34 = IhB69 740 34 := (congrFun (congrFun ehB74 740) 34).trans (fup_ne (by omega))
                  have t77 : IhB74 740 35 = IhB69 740 35 := (congrFun (congrFun ehB74 740) 35).trans (fup_ne (by omega))
                  have t78 : IhB74 741 12 = IhB69 741 12 := (congrFun (congrFun ehB74 741) 12).trans (fup_ne (by omega))
                  have k79 := fBz_eq hB74 (a := 741) (j := 12) (by decide +kernel)
                  refine And.intro ⟨rfl, by decide, by decide⟩ ?_
                  refine fload rL_741_741_4370_4388_3_0 h0 hB74 (by omega) ?_
                  intro z80 lz80 uz80 qz80
                  intro z81 hz81 ez81 bz81
                  intro z82 hz82 ez82
                  intro z83 hz83 ez83
                  refine And.intro (by omega) (And.intro ?_ ?_)
                  · intro c84
                    intro z85 hz85 ez85 bz85
                    refine Exists.intro xm_485 (And.intro mi_485 (And.intro ⟨rfl, rfl, rfl, rfl⟩ (And.intro rfl ?_)))
                    refine fcall _ h0 (fzs_sub (by decide +kernel) hW) hB74 (ct_M_seek_58809 (fBz h0 hB74) (by omega) (by omega) (by omega) (by omega) (by omega) (by omega) (by omega)) ?_
                    rintro IhB87 _ hB87 fhB87 rfl
                    have t88 := fhB87 741 12 (by decide +kernel)
                    have k89 := fBz_eq hB87 (a := 741) (j := 12) (by decide +kernel)
                    exact fcutJ (I := IhB87) (j := jc_M_seek_71684_59) (lv' := [(0, .inr (.inr (some 740))), (1, .inl _), (2, .inl _), (3, .inl _), (4, .inl _), (5, .inl _), (6, .inl _)]) (And.intro rfl (And.intro rfl (And.intro rfl (And.intro rfl (And.intro rfl (And.intro rfl (And.intro rfl True.intro))))))) ⟨_, _, _, _, _, _, rfl, rfl, by omega, rfl⟩ (by omega)
                  · intro c90
                    refine And.intro ⟨rfl, by decide, by decide⟩ ?_
                    refine fload rL_741_741_4371_4389_3_0 h0 hB74 (by omega) ?_
                    intro z91 lz91 uz91 qz91
                    intro z92 hz92 ez92 bz92
                    intro z93 hz93 ez93 bz93
                    intro z94 hz94 ez94 bz94
                    refine Exists.intro xm_485 (And.intro mi_485 (And.intro ⟨rfl, rfl, rfl, rfl⟩ (And.intro rfl ?_)))
                    refine fcall _ h0 (fzs_sub (by decide +kernel) hW) hB74 (ct_M_seek_58809 (fBz h0 hB74) (by omega) (by omega) (by omega) (by omega) (by omega) (by omega) (by omega)) ?_
                    rintro IhB96 _ hB96 fhB96 rfl
                    have t97 := fhB96 741 12 (by decide +kernel)
                    have k98 := fBz_eq hB96 (a := 741) (j := 12) (by decide +kernel)
                    exact fcutJ (I := IhB96) (j := jc_M_seek_71684_59) (lv' := [(0, .inr (.inr (some 740))), (1, .inl _), (2, .inl _), (3, .inl _), (4, .inl _), (5, .inl _), (6, .inl _)]) (And.intro rfl (And.intro rfl (And.intro rfl (And.intro rfl (And.intro rfl (And.intro rfl (And.intro rfl True.intro))))))) ⟨_, _, _, _, _, _, rfl, rfl, by omega, rfl⟩ (by omega)
            · intro c99
              exact fcutJ (I := I1) (j := jc_M_seek_71684_59) (lv' := [(0, .inr (.inr (some 740))), (1, .inl _), (2, .inl _), (3, .inl _), (4, .inl _), (5, .inl _), (6, .inl _)]) (And.intro rfl (And.intro rfl (And.intro rfl (And.intro rfl (And.intro rfl (And.intro rfl (And.intro rfl True.intro))))))) ⟨_, _, _, _, _, _, rfl, rfl, by omega, rfl⟩ (by omega)
  · have hB0 := fB_self (zn := znJ) (K := fKc wz_4d25e) h0
    refine And.intro ⟨rfl, by decide, by decide⟩ ?_
    refine fload rL_741_741_12_12_1_0 h0 hB0 (by omega) ?_
    intro z100 lz100 uz100 qz100
    have pz100 := fld_at qz100 12 (by omega)
    refine And.intro (by omega) (And.intro ?_ ?_)
    · intro c101
      exact fcutJ (I := I) (j := jc_M_seek_71684_59) (lv' := [(0, .inr (.inr (some 740))), (1, .inl _), (2, .inl _), (3, .inl _), (4, .inl _), (5, .inl _), (6, .inl _)]) (And.intro rfl (And.intro rfl (And.intro rfl (And.intro rfl (And.intro rfl (And.intro rfl (And.intro rfl True.intro))))))) ⟨_, _, _, _, _, _, rfl, rfl, by omega, rfl⟩ (by omega)
    · intro c102
      refine And.intro ⟨rfl, by decide, by decide⟩ (fgetf fb_740_33 h0 hB0 ?_)
      intro z103 lz103 uz103 qz103
      refine And.intro (by omega) (And.intro ?_ ?_)
      · intro c104
        exact rfl
      · intro c105
        refine And.intro ⟨rfl, by decide, by decide⟩ (And.intro rfl (And.intro (Or.inl rfl) (fputf fb_740_33 (by decide +kernel) hW (by omega) ?_)))
        intro IhB106 ehB106 hB106
        have t107 := fup_at ehB106 33 (by omega)
        have t108 : IhB106 741 12 = I 741 12 := (congrFun (congrFun ehB106 741) 12).trans (fup_ne (by omega))
        have k109 := fBz_eq hB106 (a := 741) (j := 12) (by decide +kernel)
        refine And.intro (by omega) (And.intro ?_ ?_)
        · intro c110
          exact rfl
        · intro c111
          exfalso
          omega
set_option maxRecDepth 8000 in
theorem ct_M_findOrder_1fb74 {I : fH} {x1 : Int} {x2 : Int} (h0 : fB bsJ I) (ha1 : (1 ≤ x1 ∧ x1 ≤ 60)) (ha2 : (1 ≤ x2 ∧ x2 ≤ 20000)) : fC ρ base n F xTc vwCl xTys D dA la gJ (fbz bsJ znJ (fKc wz_4d25e) I) xm_478 [.inr (.inr (some 740)), .inl x1, .inl x2] I (fun _ r => ∃ z, r = some (.inl z) ∧ ((0 ≤ z ∧ z ≤ 2147483647) ∨ z = (-1000000004) ∨ z = (-1000000002))) := by
  have hW : fzs wz_4d25e (fKc wz_4d25e) := fKc_ok _
  refine f_meth (rb := rbJ) (J := []) 1 400 xG xin_478 x6_478 okJ (fB_self h0) ?_ ?_
  · exact fun q h => absurd h List.not_mem_nil
  · have hB0 := fB_self (zn := znJ) (K := fKc wz_4d25e) h0
    refine And.intro ⟨rfl, by decide, by decide⟩ (And.intro rfl (And.intro (Or.inl rfl) (fputf fb_740_33 (by decide +kernel) hW (by omega) ?_)))
    intro IhB1 ehB1 hB1
    have t2 := fup_at ehB1 33 (by omega)
    refine And.intro ⟨rfl, by decide, by decide⟩ (And.intro rfl (And.intro (Or.inl rfl) (fputf fb_740_34 (by decide +kernel) hW (by omega) ?_)))
    intro IhB3 ehB3 hB3
    have t4 : IhB3 740 33 = IhB1 740 33 := (congrFun (congrFun ehB3 740) 33).trans (fup_ne (by omega))
    have t5 := fup_at ehB3 34 (by omega)
    refine And.intro ⟨rfl, by decide, by decide⟩ (And.intro rfl (And.intro (Or.inr ⟨rfl, by omega⟩) (fputf fb_740_35 (by decide +kernel) hW (by omega) ?_)))
    intro IhB6 ehB6 hB6
    have t7 : IhB6 740 33 = IhB3 740 33 := (congrFun (congrFun ehB6 740) 33).trans (fup_ne (by omega))
    have t8 : IhB6 740 34 = IhB3 740 34 := (congrFun (congrFun ehB6 740) 34).trans (fup_ne (by omega))
    have t9 := fup_at ehB6 35 (by omega)
    refine Exists.intro xm_486 (And.intro mi_486 (And.intro ⟨rfl, rfl, rfl, rfl⟩ (And.intro rfl ?_)))
    refine fcall _ h0 (fzs_sub (by decide +kernel) hW) hB6 (ct_M_seek_71684 (fBz h0 hB6) (by omega) (by omega) (by omega) (by omega) (by omega) (by omega) (by omega)) ?_
    rintro IhB11 _ hB11 fhB11 rfl
    refine And.intro ⟨rfl, by decide, by decide⟩ (fgetf fb_740_35 h0 hB11 ?_)
    intro z12 lz12 uz12 qz12
    refine And.intro (by omega) (And.intro ?_ ?_)
    · intro c13
      refine And.intro ⟨rfl, by decide, by decide⟩ (fgetf fb_740_33 h0 hB11 ?_)
      intro z14 lz14 uz14 qz14
      refine And.intro (by omega) (And.intro ?_ ?_)
      · intro c15
        refine And.intro ⟨rfl, by decide, by decide⟩ (fgetf fb_740_33 h0 hB11 ?_)
        intro z16 lz16 uz16 qz16
        refine And.intro (True.intro) ?_
        exact ⟨_, rfl, by omega⟩
      · intro c17
        refine And.intro (True.intro) ?_
        exact ⟨_, rfl, by omega⟩
    · intro c18
      refine And.intro (True.intro) ?_
      exact ⟨_, rfl, by omega⟩
set_option maxRecDepth 8000 in
theorem ct_M_isYears_9dc65 {I : fH} {x0 : Int} (h0 : fB bsJ I) (ha0 : ((-2147483648) ≤ x0 ∧ x0 ≤ 2147483647)) : fC ρ base n F xTc vwCl xTys D dA la gJ (fbz bsJ znJ (fKc []) I) xm_477 [.inl x0] I (fun _ r => ∃ z, r = some (.inl z) ∧ ((z = 1 ∧ 1 ≤ x0 ∧ x0 ≤ 60) ∨ z = 0)) := by
  have hW : fzs [] (fKc []) := fKc_ok _
  refine f_meth (rb := rbJ) (J := []) 1 400 xG xin_477 x6_477 okJ (fB_self h0) ?_ ?_
  · exact fun q h => absurd h List.not_mem_nil
  · have hB0 := fB_self (zn := znJ) (K := fKc []) h0
    refine And.intro (by omega) ?_
    refine Exists.intro xm_238 (And.intro mi_238 (And.intro ⟨rfl, rfl, rfl, rfl⟩ (And.intro True.intro ?_)))
    refine fcallp hB0 (ct_M_isIn_27230 (fBz h0 hB0) (by omega) (by omega) (by omega)) ?_
    rintro _ ⟨z1, rfl, hz1⟩
    refine And.intro (⟨by omega, by omega⟩) ?_
    exact ⟨_, rfl, by omega⟩
set_option maxRecDepth 8000 in
theorem ct_M_plan_47fe7 {I : fH} {x1 : Int} {x2 : Int} (h0 : fB bsJ I) (ha1 : ((-2147483648) ≤ x1 ∧ x1 ≤ 2147483647)) (ha2 : ((-2147483648) ≤ x2 ∧ x2 ≤ 2147483647)) : fC ρ base n F xTc vwCl xTys D dA la gJ (fbz bsJ znJ (fKc wz_4d25e) I) xm_476 [.inr (.inr (some 740)), .inl x1, .inl x2] I (fun _ r => ∃ z, r = some (.inl z) ∧ ((0 ≤ z ∧ z ≤ 2147483647) ∨ z = (-1000000004) ∨ z = (-1000000002) ∨ z = (-1000000001))) := by
  have hW : fzs wz_4d25e (fKc wz_4d25e) := fKc_ok _
  refine f_meth (rb := rbJ) (J := []) 1 400 xG xin_476 x6_476 okJ (fB_self h0) ?_ ?_
  · exact fun q h => absurd h List.not_mem_nil
  · have hB0 := fB_self (zn := znJ) (K := fKc wz_4d25e) h0
    refine Exists.intro xm_477 (And.intro mi_477 (And.intro ⟨rfl, rfl, rfl, rfl⟩ (And.intro True.intro ?_)))
    refine fcallp hB0 (ct_M_isYears_9dc65 (fBz h0 hB0) (by omega)) ?_
    rintro _ ⟨z1, rfl, hz1⟩
    refine And.intro (by omega) (And.intro ?_ ?_)
    · intro c2
      refine And.intro (True.intro) ?_
      exact ⟨_, rfl, by omega⟩
    · intro c3
      refine And.intro (by omega) ?_
      refine Exists.intro xm_238 (And.intro mi_238 (And.intro ⟨rfl, rfl, rfl, rfl⟩ (And.intro True.intro ?_)))
      refine fcallp hB0 (ct_M_isIn_27230 (fBz h0 hB0) (by omega) (by omega) (by omega)) ?_
      rintro _ ⟨z4, rfl, hz4⟩
      refine And.intro (by omega) (And.intro ?_ ?_)
      · intro c5
        refine And.intro (True.intro) ?_
        exact ⟨_, rfl, by omega⟩
      · intro c6
        refine Exists.intro xm_478 (And.intro mi_478 (And.intro ⟨rfl, rfl, rfl, rfl⟩ (And.intro rfl ?_)))
        refine fcall _ h0 (fzs_sub (by decide +kernel) hW) hB0 (ct_M_findOrder_1fb74 (fBz h0 hB0) (by omega) (by omega)) ?_
        rintro IhB8 _ hB8 fhB8 ⟨z7, rfl, hz7⟩
        refine And.intro (True.intro) ?_
        exact ⟨_, rfl, by omega⟩
set_option maxRecDepth 8000 in
theorem ct_X_planned_1f2a9 {I : fH} {x1 : Int} {x2 : Int} (h0 : fB bsJ I) (ha1 : ((-2147483648) ≤ x1 ∧ x1 ≤ 2147483647)) (ha2 : ((-2147483648) ≤ x2 ∧ x2 ≤ 2147483647)) : fC ρ base n F xTc vwCl xTys D dA la gJ (fbz bsJ znJ (fKc wz_79e74) I) xm_216 [.inr (.inr (some 0)), .inl x1, .inl x2] I (fun _ r => ∃ z, r = some (.inl z) ∧ ((-2147483648) ≤ z ∧ z ≤ 6)) := by
  have hW : fzs wz_79e74 (fKc wz_79e74) := fKc_ok _
  refine f_meth (rb := rbJ) (J := []) 1 400 xG xin_216 x6_216 okJ (fB_self h0) ?_ ?_
  · exact fun q h => absurd h List.not_mem_nil
  · have hB0 := fB_self (zn := znJ) (K := fKc wz_79e74) h0
    refine Exists.intro xm_13 (And.intro mi_13 (And.intro ⟨rfl, rfl, rfl, rfl⟩ (And.intro True.intro ?_)))
    refine fcallp hB0 (ct_X_within_c27b1 (fBz h0 hB0) (by omega) (by omega) (by omega)) ?_
    rintro _ ⟨z1, rfl, hz1⟩
    refine And.intro (by omega) (And.intro ?_ ?_)
    · intro c2
      refine And.intro (True.intro) ?_
      exact ⟨_, rfl, by omega⟩
    · intro c3
      refine And.intro (by omega) (And.intro ?_ ?_)
      · intro c4
        refine And.intro ⟨rfl, by decide, by decide⟩ ?_
        refine And.intro ⟨rfl, by decide, by decide⟩ ?_
        refine Exists.intro xm_206 (And.intro mi_206 (And.intro ⟨rfl, rfl, rfl, rfl⟩ (And.intro rfl ?_)))
        refine fcall _ h0 (fzs_sub (by decide +kernel) hW) hB0 (ct_Order_bestSum_ae03f (fBz h0 hB0) (by omega) (by omega)) ?_
        rintro IhB6 _ hB6 fhB6 ⟨z5, rfl, hz5⟩
        refine And.intro (by omega) (And.intro ?_ ?_)
        · intro c7
          refine And.intro ⟨rfl, by decide, by decide⟩ ?_
          refine And.intro ⟨rfl, by decide, by decide⟩ (fgetf fb_211_15 h0 hB6 ?_)
          intro z8 lz8 uz8 qz8
          refine And.intro (by omega) (And.intro ?_ ?_)
          · intro c9
            refine And.intro (True.intro) ?_
            exact ⟨_, rfl, by omega⟩
          · intro c10
            refine And.intro ⟨rfl, by decide, by decide⟩ ?_
            refine And.intro ⟨rfl, by decide, by decide⟩ ?_
            refine fload rL_736_736_0_6_1_0 h0 hB6 (by omega) ?_
            intro z11 lz11 uz11 qz11
            refine And.intro (True.intro) ?_
            exact ⟨_, rfl, by omega⟩
        · intro c12
          refine And.intro (True.intro) ?_
          exact ⟨_, rfl, by omega⟩
      · intro c13
        refine And.intro (True.intro) ?_
        exact ⟨_, rfl, by omega⟩
set_option maxRecDepth 8000 in
theorem ct_M_planned_1c024 {I : fH} {x1 : Int} {x2 : Int} (h0 : fB bsJ I) (ha1 : ((-2147483648) ≤ x1 ∧ x1 ≤ 2147483647)) (ha2 : ((-2147483648) ≤ x2 ∧ x2 ≤ 2147483647)) : fC ρ base n F xTc vwCl xTys D dA la gJ (fbz bsJ znJ (fKc wz_4d25e) I) xm_487 [.inr (.inr (some 740)), .inl x1, .inl x2] I (fun _ r => ∃ z, r = some (.inl z) ∧ ((0 ≤ z ∧ z ≤ 6) ∨ z = (-1000000005) ∨ z = (-1000000004) ∨ z = (-1000000002) ∨ z = (-1000000001))) := by
  have hW : fzs wz_4d25e (fKc wz_4d25e) := fKc_ok _
  refine f_meth (rb := rbJ) (J := []) 1 400 xG xin_487 x6_487 okJ (fB_self h0) ?_ ?_
  · exact fun q h => absurd h List.not_mem_nil
  · have hB0 := fB_self (zn := znJ) (K := fKc wz_4d25e) h0
    refine Exists.intro xm_477 (And.intro mi_477 (And.intro ⟨rfl, rfl, rfl, rfl⟩ (And.intro True.intro ?_)))
    refine fcallp hB0 (ct_M_isYears_9dc65 (fBz h0 hB0) (by omega)) ?_
    rintro _ ⟨z1, rfl, hz1⟩
    refine And.intro (by omega) (And.intro ?_ ?_)
    · intro c2
      refine And.intro (True.intro) ?_
      exact ⟨_, rfl, by omega⟩
    · intro c3
      refine And.intro (by omega) (And.intro ?_ ?_)
      · intro c4
        refine Exists.intro xm_478 (And.intro mi_478 (And.intro ⟨rfl, rfl, rfl, rfl⟩ (And.intro rfl ?_)))
        refine fcall _ h0 (fzs_sub (by decide +kernel) hW) hB0 (ct_M_findOrder_1fb74 (fBz h0 hB0) (by omega) (by omega)) ?_
        rintro IhB6 _ hB6 fhB6 ⟨z5, rfl, hz5⟩
        refine And.intro (by omega) (And.intro ?_ ?_)
        · intro c7
          refine And.intro ⟨rfl, by decide, by decide⟩ ?_
          refine fload rL_741_741_12_12_1_0 h0 hB6 (by omega) ?_
          intro z8 lz8 uz8 qz8
          have pz8 := fld_at qz8 12 (by omega)
          refine And.intro (by omega) (And.intro ?_ ?_)
          · intro c9
            refine And.intro (True.intro) ?_
            exact ⟨_, rfl, by omega⟩
          · intro c10
            refine And.intro ⟨rfl, by decide, by decide⟩ ?_
            refine fload rL_758_758_0_6_1_0 h0 hB6 (by omega) ?_
            intro z11 lz11 uz11 qz11
            refine And.intro (True.intro) ?_
            exact ⟨_, rfl, by omega⟩
        · intro c12
          refine And.intro (True.intro) ?_
          exact ⟨_, rfl, by omega⟩
      · intro c13
        refine And.intro (True.intro) ?_
        exact ⟨_, rfl, by omega⟩
set_option maxRecDepth 8000 in
theorem ct_X_tell_f2ca8 {I : fH} {x1 : Int} (h0 : fB bsJ I) (ha1 : ((-2147483648) ≤ x1 ∧ x1 ≤ 2147483647)) : fC ρ base n F xTc vwCl xTys D dA la gJ (fbz bsJ znJ (fKc wz_ea84a) I) xm_217 [.inr (.inr (some 0)), .inl x1] I (fun _ r => ∃ z, r = some (.inl z) ∧ ((1 ≤ z ∧ z ≤ 60) ∨ z = (-1000000003))) := by
  have hW : fzs wz_ea84a (fKc wz_ea84a) := fKc_ok _
  refine f_meth (rb := rbJ) (J := []) 1 400 xG xin_217 x6_217 okJ (fB_self h0) ?_ ?_
  · exact fun q h => absurd h List.not_mem_nil
  · have hB0 := fB_self (zn := znJ) (K := fKc wz_ea84a) h0
    refine And.intro ⟨rfl, by decide, by decide⟩ (fgetf fb_0_14 h0 hB0 ?_)
    intro z1 lz1 uz1 qz1
    refine And.intro (by omega) (And.intro ?_ ?_)
    · intro c2
      refine And.intro ⟨rfl, by decide, by decide⟩ ?_
      refine And.intro ⟨rfl, by decide, by decide⟩ (fgetf fb_0_14 h0 hB0 ?_)
      intro z3 lz3 uz3 qz3
      refine fstore rS_738_738_0_59_1_0 (fzs_sub (by decide +kernel) hW) (by omega) (by omega) ?_
      intro IhB4 ehB4 hB4
      have t5 := fup_self ehB4
      have t6 : IhB4 0 14 = I 0 14 := (congrFun (congrFun ehB4 0) 14).trans (fup_ne (by omega))
      refine And.intro ⟨rfl, by decide, by decide⟩ (fgetf fb_0_14 h0 hB4 ?_)
      intro z7 lz7 uz7 qz7
      refine And.intro ⟨rfl, by decide, by decide⟩ (And.intro rfl (And.intro (Or.inl rfl) (fputf fb_0_14 (by decide +kernel) hW (by omega) ?_)))
      intro IhB8 ehB8 hB8
      have t9 := fup_at ehB8 14 (by omega)
      refine And.intro ⟨rfl, by decide, by decide⟩ (fgetf fb_0_14 h0 hB8 ?_)
      intro z10 lz10 uz10 qz10
      refine And.intro (True.intro) ?_
      exact ⟨_, rfl, by omega⟩
    · intro c11
      refine And.intro (True.intro) ?_
      exact ⟨_, rfl, by omega⟩
set_option maxRecDepth 8000 in
theorem ct_M_tell_9320d {I : fH} {x1 : Int} (h0 : fB bsJ I) (ha1 : ((-2147483648) ≤ x1 ∧ x1 ≤ 2147483647)) : fC ρ base n F xTc vwCl xTys D dA la gJ (fbz bsJ znJ (fKc wz_f12ac) I) xm_488 [.inr (.inr (some 740)), .inl x1] I (fun _ r => ∃ z, r = some (.inl z) ∧ ((1 ≤ z ∧ z ≤ 60) ∨ z = (-1000000003))) := by
  have hW : fzs wz_f12ac (fKc wz_f12ac) := fKc_ok _
  refine f_meth (rb := rbJ) (J := []) 1 400 xG xin_488 x6_488 okJ (fB_self h0) ?_ ?_
  · exact fun q h => absurd h List.not_mem_nil
  · have hB0 := fB_self (zn := znJ) (K := fKc wz_f12ac) h0
    refine And.intro ⟨rfl, by decide, by decide⟩ (fgetf fb_740_37 h0 hB0 ?_)
    intro z1 lz1 uz1 qz1
    refine And.intro (by omega) (And.intro ?_ ?_)
    · intro c2
      refine And.intro ⟨rfl, by decide, by decide⟩ ?_
      refine And.intro ⟨rfl, by decide, by decide⟩ (fgetf fb_740_37 h0 hB0 ?_)
      intro z3 lz3 uz3 qz3
      refine fstore rS_759_759_0_59_1_0 (fzs_sub (by decide +kernel) hW) (by omega) (by omega) ?_
      intro IhB4 ehB4 hB4
      have t5 := fup_self ehB4
      have t6 : IhB4 740 37 = I 740 37 := (congrFun (congrFun ehB4 740) 37).trans (fup_ne (by omega))
      refine And.intro ⟨rfl, by decide, by decide⟩ (fgetf fb_740_37 h0 hB4 ?_)
      intro z7 lz7 uz7 qz7
      refine And.intro ⟨rfl, by decide, by decide⟩ (And.intro rfl (And.intro (Or.inl rfl) (fputf fb_740_37 (by decide +kernel) hW (by omega) ?_)))
      intro IhB8 ehB8 hB8
      have t9 := fup_at ehB8 37 (by omega)
      refine And.intro ⟨rfl, by decide, by decide⟩ (fgetf fb_740_37 h0 hB8 ?_)
      intro z10 lz10 uz10 qz10
      refine And.intro (True.intro) ?_
      exact ⟨_, rfl, by omega⟩
    · intro c11
      refine And.intro (True.intro) ?_
      exact ⟨_, rfl, by omega⟩
abbrev jc_Cells_oxygen_5c56e_4 : Nat → fL → List fV → fH → Prop := fun m lv st I => ∃ (y1 : Int) (y2 : Int), lv = [(0, .inr (.inr (some 514))), (1, .inl y1), (2, .inl y2)] ∧ st = [] ∧ ((((-2147483648) ≤ y1 ∧ y1 ≤ 2147483647) ∧ (0 ≤ y2 ∧ y2 ≤ 20))) ∧ m = (1 + 1 * (20 - y2) : Int).toNat
set_option maxRecDepth 8000 in
theorem ct_Cells_oxygen_5c56e {I : fH}  (h0 : fB bsJ I)  : fC ρ base n F xTc vwCl xTys D dA la gJ (fbz bsJ znJ (fKc []) I) xm_228 [.inr (.inr (some 514))] I (fun _ r => ∃ z, r = some (.inl z) ∧ ((-2147483648) ≤ z ∧ z ≤ 2147483647)) := by
  have hW : fzs [] (fKc []) := fKc_ok _
  refine f_meth (rb := rbJ) (J := [(4, jc_Cells_oxygen_5c56e_4)]) 22 400 xG xin_228 x6_228 okJ (fB_self h0) ?_ ?_
  · refine List.forall_mem_cons.mpr ⟨?_, fun q h => absurd h List.not_mem_nil⟩
    · rintro m _ _ I1 hB1 ⟨y1, y2, rfl, rfl, hb, hm⟩
      refine And.intro ⟨rfl, by decide, by decide⟩ (fgetf fb_514_5 h0 hB1 ?_)
      intro z1 lz1 uz1 qz1
      refine And.intro (by omega) (And.intro ?_ ?_)
      · intro c2
        refine And.intro (True.intro) ?_
        exact ⟨_, rfl, by omega⟩
      · intro c3
        refine And.intro ⟨rfl, by decide, by decide⟩ ?_
        refine And.intro ⟨rfl, by decide⟩ (And.intro (by omega) ?_)
        refine fload rL_518_537_0_4_1_0 h0 hB1 (by omega) ?_
        intro z4 lz4 uz4 qz4
        intro z5 hz5 ez5 bz5
        exact fcutJ (I := I1) (j := jc_Cells_oxygen_5c56e_4) (lv' := [(0, .inr (.inr (some 514))), (1, .inl _), (2, .inl _)]) (And.intro rfl (And.intro rfl (And.intro rfl True.intro))) ⟨_, _, rfl, rfl, by omega, rfl⟩ (by omega)
  · have hB0 := fB_self (zn := znJ) (K := fKc []) h0
    exact fcutJ (I := I) (j := jc_Cells_oxygen_5c56e_4) (lv' := [(0, .inr (.inr (some 514))), (1, .inl _), (2, .inl _)]) (And.intro rfl (And.intro rfl (And.intro rfl True.intro))) ⟨_, _, rfl, rfl, by omega, rfl⟩ (by omega)
abbrev jc_X_firstWrong_4e02b_9 : Nat → fL → List fV → fH → Prop := fun m lv st I => ∃ (y1 : Int) (y2 : Int) (y3 : Int) (y4 : Int), lv = [(0, .inr (.inr (some 0))), (1, .inl y1), (2, .inl y2), (3, .inl y3), (4, .inl y4)] ∧ st = [] ∧ ((((0 ≤ y1 ∧ y1 ≤ 48) ∧ (y1 - 0) % 2 ≤ 0) ∧ (0 ≤ y2 ∧ y2 ≤ 60) ∧ (0 ≤ y3 ∧ y3 ≤ 48) ∧ (0 ≤ y4 ∧ y4 ≤ 48))) ∧ m = (1 + 1 * (48 - y4) : Int).toNat
set_option maxRecDepth 8000 in
theorem ct_X_firstWrong_4e02b {I : fH} {x1 : Int} {x2 : Int} (h0 : fB bsJ I) (ha1 : ((0 ≤ x1 ∧ x1 ≤ 48) ∧ (x1 - 0) % 2 ≤ 0)) (ha2 : (0 ≤ x2 ∧ x2 ≤ 60)) : fC ρ base n F xTc vwCl xTys D dA la gJ (fbz bsJ znJ (fKc []) I) xm_220 [.inr (.inr (some 0)), .inl x1, .inl x2] I (fun _ r => ∃ z, r = some (.inl z) ∧ (0 ≤ z ∧ z ≤ 49)) := by
  have hW : fzs [] (fKc []) := fKc_ok _
  refine f_meth (rb := rbJ) (J := [(9, jc_X_firstWrong_4e02b_9)]) 50 400 xG xin_220 x6_220 okJ (fB_self h0) ?_ ?_
  · refine List.forall_mem_cons.mpr ⟨?_, fun q h => absurd h List.not_mem_nil⟩
    · rintro m _ _ I1 hB1 ⟨y1, y2, y3, y4, rfl, rfl, hb, hm⟩
      refine And.intro (by omega) (And.intro ?_ ?_)
      · intro c1
        refine And.intro (by omega) (And.intro ?_ ?_)
        · intro c2
          refine And.intro (True.intro) ?_
          exact ⟨_, rfl, by omega⟩
        · intro c3
          refine And.intro (True.intro) ?_
          exact ⟨_, rfl, by omega⟩
      · intro c4
        refine And.intro ⟨rfl, by decide, by decide⟩ ?_
        refine fload rL_738_738_0_59_1_0 h0 hB1 (by omega) ?_
        intro z5 lz5 uz5 qz5
        refine And.intro ⟨rfl, by decide, by decide⟩ ?_
        refine fload rL_739_739_0_59_1_0 h0 hB1 (by omega) ?_
        intro z6 lz6 uz6 qz6
        refine And.intro (by omega) (And.intro ?_ ?_)
        · intro c7
          exact fcutJ (I := I1) (j := jc_X_firstWrong_4e02b_9) (lv' := [(0, .inr (.inr (some 0))), (1, .inl _), (2, .inl _), (3, .inl _), (4, .inl _)]) (And.intro rfl (And.intro rfl (And.intro rfl (And.intro rfl (And.intro rfl True.intro))))) ⟨_, _, _, _, rfl, rfl, by omega, rfl⟩ (by omega)
        · intro c8
          refine And.intro (True.intro) ?_
          exact ⟨_, rfl, by omega⟩
  · have hB0 := fB_self (zn := znJ) (K := fKc []) h0
    refine And.intro (And.intro (by omega) (And.intro (by omega) rfl)) ?_
    intro z9 hz9
    exact fcutJ (I := I) (j := jc_X_firstWrong_4e02b_9) (lv' := [(0, .inr (.inr (some 0))), (1, .inl _), (2, .inl _), (3, .inl _), (4, .inl _)]) (And.intro rfl (And.intro rfl (And.intro rfl (And.intro rfl (And.intro rfl True.intro))))) ⟨_, _, _, _, rfl, rfl, by omega, rfl⟩ (by omega)
set_option maxRecDepth 8000 in
theorem ct_Works_isGone_bce90 {I : fH} {x1 : Int} (h0 : fB bsJ I) (ha1 : (0 ≤ x1 ∧ x1 ≤ 23)) : fC ρ base n F xTc vwCl xTys D dA la gJ (fbz bsJ znJ (fKc []) I) xm_50 [.inr (.inr (some 675)), .inl x1] I (fun _ r => ∃ z, r = some (.inl z) ∧ (0 ≤ z ∧ z ≤ 1)) := by
  have hW : fzs [] (fKc []) := fKc_ok _
  refine f_meth (rb := rbJ) (J := []) 1 400 xG xin_50 x6_50 okJ (fB_self h0) ?_ ?_
  · exact fun q h => absurd h List.not_mem_nil
  · have hB0 := fB_self (zn := znJ) (K := fKc []) h0
    refine And.intro ⟨rfl, by decide, by decide⟩ ?_
    refine fload rL_686_686_0_23_1_0 h0 hB0 (by omega) ?_
    intro z1 lz1 uz1 qz1
    refine And.intro (by omega) (And.intro ?_ ?_)
    · intro c2
      refine And.intro (⟨by omega, by omega⟩) ?_
      exact ⟨_, rfl, by omega⟩
    · intro c3
      refine And.intro (⟨by omega, by omega⟩) ?_
      exact ⟨_, rfl, by omega⟩
set_option maxRecDepth 8000 in
theorem ct_People_sicken_4d132 {I : fH} {x1 : Int} {x2 : Int} (h0 : fB bsJ I) (ha1 : (0 ≤ x1 ∧ x1 ≤ 23)) (ha2 : ((-1) ≤ x2 ∧ x2 ≤ 8)) : fC ρ base n F xTc vwCl xTys D dA la gJ (fbz bsJ znJ (fKc wz_e70f1) I) xm_93 [.inr (.inr (some 689)), .inl x1, .inl x2] I (fun _ r => r = none) := by
  have hW : fzs wz_e70f1 (fKc wz_e70f1) := fKc_ok _
  refine f_meth (rb := rbJ) (J := []) 1 400 xG xin_93 x6_93 okJ (fB_self h0) ?_ ?_
  · exact fun q h => absurd h List.not_mem_nil
  · have hB0 := fB_self (zn := znJ) (K := fKc wz_e70f1) h0
    refine And.intro ⟨rfl, by decide, by decide⟩ ?_
    refine And.intro ⟨rfl, by decide, by decide⟩ ?_
    refine fload rL_693_693_0_23_1_0 h0 hB0 (by omega) ?_
    intro z1 lz1 uz1 qz1
    intro z2 hz2 ez2 bz2
    refine And.intro (And.intro (by omega) (And.intro (by omega) rfl)) ?_
    intro z3 hz3
    refine And.intro (And.intro (by omega) (And.intro (by omega) rfl)) ?_
    intro z4 hz4
    refine fstore rS_693_693_0_23_1_0 (fzs_sub (by decide +kernel) hW) (by omega) (by omega) ?_
    intro IhB5 ehB5 hB5
    have t6 := fup_self ehB5
    exact rfl
set_option maxRecDepth 8000 in
theorem ct_People_needOf_66c94 {I : fH} {x1 : Int} (h0 : fB bsJ I) (ha1 : (0 ≤ x1 ∧ x1 ≤ 23)) : fC ρ base n F xTc vwCl xTys D dA la gJ (fbz bsJ znJ (fKc []) I) xm_92 [.inr (.inr (some 689)), .inl x1] I (fun _ r => ∃ z, r = some (.inl z) ∧ (1 ≤ z ∧ z ≤ 2)) := by
  have hW : fzs [] (fKc []) := fKc_ok _
  refine f_meth (rb := rbJ) (J := []) 1 400 xG xin_92 x6_92 okJ (fB_self h0) ?_ ?_
  · exact fun q h => absurd h List.not_mem_nil
  · have hB0 := fB_self (zn := znJ) (K := fKc []) h0
    refine And.intro ⟨rfl, by decide, by decide⟩ ?_
    refine fload rL_690_690_0_23_1_0 h0 hB0 (by omega) ?_
    intro z1 lz1 uz1 qz1
    refine And.intro (by omega) (And.intro ?_ ?_)
    · intro c2
      refine And.intro (True.intro) ?_
      exact ⟨_, rfl, by omega⟩
    · intro c3
      refine And.intro (True.intro) ?_
      exact ⟨_, rfl, by omega⟩
set_option maxRecDepth 8000 in
theorem ct_Cells_addAir_f5ee0 {I : fH} {x1 : Int} {x2 : Int} {x3 : Int} (h0 : fB bsJ I) (ha1 : (0 ≤ x1 ∧ x1 ≤ 19)) (ha2 : (0 ≤ x2 ∧ x2 ≤ 4)) (ha3 : ((-2147483648) ≤ x3 ∧ x3 ≤ 2147483647)) : fC ρ base n F xTc vwCl xTys D dA la gJ (fbz bsJ znJ (fKc wz_7eac0) I) xm_84 [.inr (.inr (some 514)), .inl x1, .inl x2, .inl x3] I (fun _ r => r = none) := by
  have hW : fzs wz_7eac0 (fKc wz_7eac0) := fKc_ok _
  refine f_meth (rb := rbJ) (J := []) 1 400 xG xin_84 x6_84 okJ (fB_self h0) ?_ ?_
  · exact fun q h => absurd h List.not_mem_nil
  · have hB0 := fB_self (zn := znJ) (K := fKc wz_7eac0) h0
    refine And.intro ⟨rfl, by decide, by decide⟩ ?_
    refine And.intro ⟨rfl, by decide⟩ (And.intro (by omega) ?_)
    refine fload rL_518_537_0_4_1_0 h0 hB0 (by omega) ?_
    intro z1 lz1 uz1 qz1
    intro z2 hz2 ez2 bz2
    refine And.intro ⟨rfl, by decide, by decide⟩ ?_
    refine And.intro ⟨rfl, by decide⟩ (And.intro (by omega) ?_)
    refine And.intro (And.intro (by omega) (And.intro (by omega) rfl)) ?_
    intro z3 hz3
    refine fstore rS_518_537_0_4_1_0 (fzs_sub (by decide +kernel) hW) (by omega) (by omega) ?_
    intro IhB4 ehB4 hB4
    have t5 := fup_self ehB4
    refine And.intro (by omega) (And.intro ?_ ?_)
    · intro c6
      exact rfl
    · intro c7
      refine And.intro ⟨rfl, by decide, by decide⟩ ?_
      refine And.intro ⟨rfl, by decide⟩ (And.intro (by omega) ?_)
      refine fload rL_539_558_0_4_1_0 h0 hB4 (by omega) ?_
      intro z8 lz8 uz8 qz8
      intro z9 hz9 ez9 bz9
      refine fstore rS_539_558_0_4_1_0 (fzs_sub (by decide +kernel) hW) (by omega) (by omega) ?_
      intro IhB10 ehB10 hB10
      have t11 := fup_self ehB10
      exact rfl
set_option maxRecDepth 8000 in
theorem ct_City_breathe_fe888 {I : fH} {x1 : Int} (h0 : fB bsJ I) (ha1 : (0 ≤ x1 ∧ x1 ≤ 23)) : fC ρ base n F xTc vwCl xTys D dA la gJ (fbz bsJ znJ (fKc wz_edb18) I) xm_91 [.inr (.inr (some 513)), .inl x1] I (fun _ r => r = none) := by
  have hW : fzs wz_edb18 (fKc wz_edb18) := fKc_ok _
  refine f_meth (rb := rbJ) (J := []) 1 400 xG xin_91 x6_91 okJ (fB_self h0) ?_ ?_
  · exact fun q h => absurd h List.not_mem_nil
  · have hB0 := fB_self (zn := znJ) (K := fKc wz_edb18) h0
    refine And.intro ⟨rfl, by decide, by decide⟩ ?_
    refine And.intro ⟨rfl, by decide, by decide⟩ ?_
    refine fload rL_692_692_0_23_1_0 h0 hB0 (by omega) ?_
    intro z1 lz1 uz1 qz1
    refine And.intro ⟨rfl, by decide, by decide⟩ ?_
    refine Exists.intro xm_92 (And.intro mi_92 (And.intro ⟨rfl, rfl, rfl, rfl⟩ (And.intro rfl ?_)))
    refine fcallp hB0 (ct_People_needOf_66c94 (fBz h0 hB0) (by omega)) ?_
    rintro _ ⟨z2, rfl, hz2⟩
    refine And.intro ⟨rfl, by decide, by decide⟩ ?_
    refine And.intro ⟨rfl, by decide, by decide⟩ ?_
    refine And.intro ⟨rfl, by decide⟩ (And.intro (by omega) ?_)
    refine fload rL_518_537_0_4_1_0 h0 hB0 (by omega) ?_
    intro z3 lz3 uz3 qz3
    refine And.intro (And.intro (by omega) (And.intro (by omega) rfl)) ?_
    intro z4 hz4
    refine And.intro ⟨rfl, by decide, by decide⟩ ?_
    refine And.intro ⟨rfl, by decide, by decide⟩ ?_
    refine And.intro ⟨rfl, by decide⟩ (And.intro (by omega) ?_)
    refine fload rL_518_537_0_4_1_0 h0 hB0 (by omega) ?_
    intro z5 lz5 uz5 qz5
    intro z6 hz6 ez6 bz6
    refine fstore rS_518_537_0_4_1_0 (fzs_sub (by decide +kernel) hW) (by omega) (by omega) ?_
    intro IhB7 ehB7 hB7
    have t8 := fup_self ehB7
    refine And.intro ⟨rfl, by decide, by decide⟩ ?_
    refine And.intro (And.intro (by omega) (And.intro (by omega) (And.intro (by omega) rfl))) ?_
    intro z9 hz9 ez9 dz9
    refine Exists.intro xm_84 (And.intro mi_84 (And.intro ⟨rfl, rfl, rfl, rfl⟩ (And.intro rfl ?_)))
    refine fcall _ h0 (fzs_sub (by decide +kernel) hW) hB7 (ct_Cells_addAir_f5ee0 (fBz h0 hB7) (by omega) (by omega) (by omega)) ?_
    rintro IhB11 _ hB11 fhB11 rfl
    refine And.intro ⟨rfl, by decide, by decide⟩ ?_
    refine And.intro (And.intro (by omega) (And.intro (by omega) (And.intro (by omega) rfl))) ?_
    intro z12 hz12 ez12 dz12
    intro z13 hz13 ez13 bz13
    refine Exists.intro xm_84 (And.intro mi_84 (And.intro ⟨rfl, rfl, rfl, rfl⟩ (And.intro rfl ?_)))
    refine fcall _ h0 (fzs_sub (by decide +kernel) hW) hB11 (ct_Cells_addAir_f5ee0 (fBz h0 hB11) (by omega) (by omega) (by omega)) ?_
    rintro IhB15 _ hB15 fhB15 rfl
    refine And.intro (by omega) (And.intro ?_ ?_)
    · intro c16
      refine And.intro ⟨rfl, by decide, by decide⟩ ?_
      refine And.intro ⟨rfl, by decide, by decide⟩ ?_
      refine And.intro ⟨rfl, by decide⟩ (And.intro (by omega) ?_)
      refine fload rL_518_537_0_4_1_0 h0 hB15 (by omega) ?_
      intro z17 lz17 uz17 qz17
      refine And.intro ⟨rfl, by decide, by decide⟩ ?_
      refine And.intro ⟨rfl, by decide, by decide⟩ ?_
      refine fload rL_515_515_0_19_1_0 h0 hB15 (by omega) ?_
      intro z18 lz18 uz18 qz18
      refine And.intro (by omega) (And.intro ?_ ?_)
      · intro c19
        refine And.intro ⟨rfl, by decide, by decide⟩ ?_
        refine And.intro (by omega) (And.intro ?_ ?_)
        · intro c20
          refine Exists.intro xm_93 (And.intro mi_93 (And.intro ⟨rfl, rfl, rfl, rfl⟩ (And.intro rfl ?_)))
          refine fcall _ h0 (fzs_sub (by decide +kernel) hW) hB15 (ct_People_sicken_4d132 (fBz h0 hB15) (by omega) (by omega)) ?_
          rintro IhB22 _ hB22 fhB22 rfl
          exact rfl
        · intro c23
          refine Exists.intro xm_93 (And.intro mi_93 (And.intro ⟨rfl, rfl, rfl, rfl⟩ (And.intro rfl ?_)))
          refine fcall _ h0 (fzs_sub (by decide +kernel) hW) hB15 (ct_People_sicken_4d132 (fBz h0 hB15) (by omega) (by omega)) ?_
          rintro IhB25 _ hB25 fhB25 rfl
          exact rfl
      · intro c26
        refine And.intro ⟨rfl, by decide, by decide⟩ ?_
        refine And.intro (by omega) (And.intro ?_ ?_)
        · intro c27
          refine Exists.intro xm_93 (And.intro mi_93 (And.intro ⟨rfl, rfl, rfl, rfl⟩ (And.intro rfl ?_)))
          refine fcall _ h0 (fzs_sub (by decide +kernel) hW) hB15 (ct_People_sicken_4d132 (fBz h0 hB15) (by omega) (by omega)) ?_
          rintro IhB29 _ hB29 fhB29 rfl
          exact rfl
        · intro c30
          refine Exists.intro xm_93 (And.intro mi_93 (And.intro ⟨rfl, rfl, rfl, rfl⟩ (And.intro rfl ?_)))
          refine fcall _ h0 (fzs_sub (by decide +kernel) hW) hB15 (ct_People_sicken_4d132 (fBz h0 hB15) (by omega) (by omega)) ?_
          rintro IhB32 _ hB32 fhB32 rfl
          exact rfl
    · intro c33
      refine And.intro ⟨rfl, by decide, by decide⟩ ?_
      refine And.intro ⟨rfl, by decide, by decide⟩ ?_
      refine And.intro ⟨rfl, by decide⟩ (And.intro (by omega) ?_)
      refine fload rL_518_537_0_4_1_0 h0 hB15 (by omega) ?_
      intro z34 lz34 uz34 qz34
      refine And.intro ⟨rfl, by decide, by decide⟩ ?_
      refine And.intro ⟨rfl, by decide, by decide⟩ ?_
      refine fload rL_515_515_0_19_1_0 h0 hB15 (by omega) ?_
      intro z35 lz35 uz35 qz35
      refine And.intro (by omega) (And.intro ?_ ?_)
      · intro c36
        refine And.intro ⟨rfl, by decide, by decide⟩ ?_
        refine And.intro (by omega) (And.intro ?_ ?_)
        · intro c37
          refine Exists.intro xm_93 (And.intro mi_93 (And.intro ⟨rfl, rfl, rfl, rfl⟩ (And.intro rfl ?_)))
          refine fcall _ h0 (fzs_sub (by decide +kernel) hW) hB15 (ct_People_sicken_4d132 (fBz h0 hB15) (by omega) (by omega)) ?_
          rintro IhB39 _ hB39 fhB39 rfl
          exact rfl
        · intro c40
          refine Exists.intro xm_93 (And.intro mi_93 (And.intro ⟨rfl, rfl, rfl, rfl⟩ (And.intro rfl ?_)))
          refine fcall _ h0 (fzs_sub (by decide +kernel) hW) hB15 (ct_People_sicken_4d132 (fBz h0 hB15) (by omega) (by omega)) ?_
          rintro IhB42 _ hB42 fhB42 rfl
          exact rfl
      · intro c43
        refine And.intro ⟨rfl, by decide, by decide⟩ ?_
        refine And.intro (by omega) (And.intro ?_ ?_)
        · intro c44
          refine Exists.intro xm_93 (And.intro mi_93 (And.intro ⟨rfl, rfl, rfl, rfl⟩ (And.intro rfl ?_)))
          refine fcall _ h0 (fzs_sub (by decide +kernel) hW) hB15 (ct_People_sicken_4d132 (fBz h0 hB15) (by omega) (by omega)) ?_
          rintro IhB46 _ hB46 fhB46 rfl
          exact rfl
        · intro c47
          refine Exists.intro xm_93 (And.intro mi_93 (And.intro ⟨rfl, rfl, rfl, rfl⟩ (And.intro rfl ?_)))
          refine fcall _ h0 (fzs_sub (by decide +kernel) hW) hB15 (ct_People_sicken_4d132 (fBz h0 hB15) (by omega) (by omega)) ?_
          rintro IhB49 _ hB49 fhB49 rfl
          exact rfl
set_option maxRecDepth 8000 in
theorem ct_Cells_sendReport_31df9 {I : fH} {x1 : Int} {x2 : Int} {x3 : Int} (h0 : fB bsJ I) (ha1 : (0 ≤ x1 ∧ x1 ≤ 19)) (ha2 : ((-2147483648) ≤ x2 ∧ x2 ≤ 2147483647)) (ha3 : ((-2147483648) ≤ x3 ∧ x3 ≤ 2147483647)) : fC ρ base n F xTc vwCl xTys D dA la gJ (fbz bsJ znJ (fKc wz_3ed0a) I) xm_98 [.inr (.inr (some 514)), .inl x1, .inl x2, .inl x3] I (fun _ r => r = none) := by
  have hW : fzs wz_3ed0a (fKc wz_3ed0a) := fKc_ok _
  refine f_meth (rb := rbJ) (J := []) 1 400 xG xin_98 x6_98 okJ (fB_self h0) ?_ ?_
  · exact fun q h => absurd h List.not_mem_nil
  · have hB0 := fB_self (zn := znJ) (K := fKc wz_3ed0a) h0
    refine And.intro (by omega) (And.intro ?_ ?_)
    · intro c1
      refine And.intro ⟨rfl, by decide, by decide⟩ (fgetf fb_514_12 h0 hB0 ?_)
      intro z2 lz2 uz2 qz2
      refine And.intro (by omega) (And.intro ?_ ?_)
      · intro c3
        exact rfl
      · intro c4
        refine And.intro ⟨rfl, by decide, by decide⟩ ?_
        refine And.intro ⟨rfl, by decide, by decide⟩ (fgetf fb_514_12 h0 hB0 ?_)
        intro z5 lz5 uz5 qz5
        refine And.intro ⟨rfl, by decide⟩ (And.intro (by omega) ?_)
        refine And.intro ⟨rfl, by decide, by decide⟩ ?_
        refine And.intro ⟨rfl, by decide⟩ (And.intro (by omega) ?_)
        refine And.intro (fcopyU (rgG_518_537 (by omega) (by omega)) (rgG_585_674 (by omega) (by omega)) rL_518_537_0_4_1_0 rS_585_674_0_4_1_0 (fzs_sub (by decide +kernel) hW) h0 hB0 (by omega) (by omega) (by omega) (by omega)) (And.intro rfl ?_)
        intro IhB6 ehB6 hB6
        have t7 : IhB6 514 12 = I 514 12 := (congrFun (congrFun ehB6 514) 12).trans (fcpy_ne (by omega))
        refine fstore rS_585_674_5_5_1_0 (fzs_sub (by decide +kernel) hW) (by omega) (by omega) ?_
        intro IhB8 ehB8 hB8
        have t9 := fup_self ehB8
        have t10 : IhB8 514 12 = IhB6 514 12 := (congrFun (congrFun ehB8 514) 12).trans (fup_ne (by omega))
        intro z11 hz11 ez11 bz11
        refine fstore rS_585_674_6_6_1_0 (fzs_sub (by decide +kernel) hW) (by omega) (by omega) ?_
        intro IhB12 ehB12 hB12
        have t13 := fup_self ehB12
        have t14 : IhB12 514 12 = IhB8 514 12 := (congrFun (congrFun ehB12 514) 12).trans (fup_ne (by omega))
        refine fstore rS_585_674_7_7_1_0 (fzs_sub (by decide +kernel) hW) (by omega) (by omega) ?_
        intro IhB15 ehB15 hB15
        have t16 := fup_self ehB15
        have t17 : IhB15 514 12 = IhB12 514 12 := (congrFun (congrFun ehB15 514) 12).trans (fup_ne (by omega))
        refine And.intro ⟨rfl, by decide, by decide⟩ (fgetf fb_514_12 h0 hB15 ?_)
        intro z18 lz18 uz18 qz18
        refine And.intro ⟨rfl, by decide, by decide⟩ (And.intro rfl (And.intro (Or.inl rfl) (fputf fb_514_12 (by decide +kernel) hW (by omega) ?_)))
        intro IhB19 ehB19 hB19
        exact rfl
    · intro c20
      refine And.intro ⟨rfl, by decide, by decide⟩ ?_
      refine And.intro ⟨rfl, by decide⟩ (And.intro (by omega) ?_)
      refine And.intro ⟨rfl, by decide, by decide⟩ ?_
      refine And.intro ⟨rfl, by decide⟩ (And.intro (by omega) ?_)
      refine And.intro (fcopyU (rgG_518_537 (by omega) (by omega)) (rgG_560_579 (by omega) (by omega)) rL_518_537_0_4_1_0 rS_560_579_0_5_1_0 (fzs_sub (by decide +kernel) hW) h0 hB0 (by omega) (by omega) (by omega) (by omega)) (And.intro rfl ?_)
      intro IhB21 ehB21 hB21
      refine And.intro ⟨rfl, by decide, by decide⟩ ?_
      refine And.intro ⟨rfl, by decide⟩ (And.intro (by omega) ?_)
      refine fstore rS_560_579_0_5_1_0 (fzs_sub (by decide +kernel) hW) (by omega) (by omega) ?_
      intro IhB22 ehB22 hB22
      have t23 := fup_self ehB22
      exact rfl
set_option maxRecDepth 8000 in
theorem ct_People_isDead_16e8f {I : fH} {x1 : Int} (h0 : fB bsJ I) (ha1 : (0 ≤ x1 ∧ x1 ≤ 23)) : fC ρ base n F xTc vwCl xTys D dA la gJ (fbz bsJ znJ (fKc []) I) xm_21 [.inr (.inr (some 689)), .inl x1] I (fun _ r => ∃ z, r = some (.inl z) ∧ (0 ≤ z ∧ z ≤ 1)) := by
  have hW : fzs [] (fKc []) := fKc_ok _
  refine f_meth (rb := rbJ) (J := []) 1 400 xG xin_21 x6_21 okJ (fB_self h0) ?_ ?_
  · exact fun q h => absurd h List.not_mem_nil
  · have hB0 := fB_self (zn := znJ) (K := fKc []) h0
    refine And.intro ⟨rfl, by decide, by decide⟩ ?_
    refine fload rL_693_693_0_23_1_0 h0 hB0 (by omega) ?_
    intro z1 lz1 uz1 qz1
    refine And.intro (by omega) (And.intro ?_ ?_)
    · intro c2
      refine And.intro (⟨by omega, by omega⟩) ?_
      exact ⟨_, rfl, by omega⟩
    · intro c3
      refine And.intro (⟨by omega, by omega⟩) ?_
      exact ⟨_, rfl, by omega⟩
abbrev jc_People_isWatched_98c46_2 : Nat → fL → List fV → fH → Prop := fun m lv st I => ∃ (y1 : Int) (y2 : Int), lv = [(0, .inr (.inr (some 689))), (1, .inl y1), (2, .inl y2)] ∧ st = [] ∧ (((0 ≤ y1 ∧ y1 ≤ 19) ∧ (0 ≤ y2 ∧ y2 ≤ 24))) ∧ m = (1 + 1 * (24 - y2) : Int).toNat
set_option maxRecDepth 8000 in
theorem ct_People_isWatched_98c46 {I : fH} {x1 : Int} (h0 : fB bsJ I) (ha1 : (0 ≤ x1 ∧ x1 ≤ 19)) : fC ρ base n F xTc vwCl xTys D dA la gJ (fbz bsJ znJ (fKc []) I) xm_97 [.inr (.inr (some 689)), .inl x1] I (fun _ r => ∃ z, r = some (.inl z) ∧ (0 ≤ z ∧ z ≤ 1)) := by
  have hW : fzs [] (fKc []) := fKc_ok _
  refine f_meth (rb := rbJ) (J := [(2, jc_People_isWatched_98c46_2)]) 26 400 xG xin_97 x6_97 okJ (fB_self h0) ?_ ?_
  · refine List.forall_mem_cons.mpr ⟨?_, fun q h => absurd h List.not_mem_nil⟩
    · rintro m _ _ I1 hB1 ⟨y1, y2, rfl, rfl, hb, hm⟩
      refine And.intro ⟨rfl, by decide, by decide⟩ (fgetf fb_689_4 h0 hB1 ?_)
      intro z1 lz1 uz1 qz1
      refine And.intro (by omega) (And.intro ?_ ?_)
      · intro c2
        refine And.intro (⟨by omega, by omega⟩) ?_
        exact ⟨_, rfl, by omega⟩
      · intro c3
        refine And.intro ⟨rfl, by decide, by decide⟩ ?_
        refine fload rL_692_692_0_23_1_0 h0 hB1 (by omega) ?_
        intro z4 lz4 uz4 qz4
        refine And.intro (by omega) (And.intro ?_ ?_)
        · intro c5
          exact fcutJ (I := I1) (j := jc_People_isWatched_98c46_2) (lv' := [(0, .inr (.inr (some 689))), (1, .inl _), (2, .inl _)]) (And.intro rfl (And.intro rfl (And.intro rfl True.intro))) ⟨_, _, rfl, rfl, by omega, rfl⟩ (by omega)
        · intro c6
          refine And.intro ⟨rfl, by decide, by decide⟩ ?_
          refine fload rL_691_691_0_23_1_0 h0 hB1 (by omega) ?_
          intro z7 lz7 uz7 qz7
          refine And.intro (by omega) (And.intro ?_ ?_)
          · intro c8
            exact fcutJ (I := I1) (j := jc_People_isWatched_98c46_2) (lv' := [(0, .inr (.inr (some 689))), (1, .inl _), (2, .inl _)]) (And.intro rfl (And.intro rfl (And.intro rfl True.intro))) ⟨_, _, rfl, rfl, by omega, rfl⟩ (by omega)
          · intro c9
            refine Exists.intro xm_21 (And.intro mi_21 (And.intro ⟨rfl, rfl, rfl, rfl⟩ (And.intro rfl ?_)))
            refine fcallp hB1 (ct_People_isDead_16e8f (fBz h0 hB1) (by omega)) ?_
            rintro _ ⟨z10, rfl, hz10⟩
            refine And.intro (by omega) (And.intro ?_ ?_)
            · intro c11
              exact fcutJ (I := I1) (j := jc_People_isWatched_98c46_2) (lv' := [(0, .inr (.inr (some 689))), (1, .inl _), (2, .inl _)]) (And.intro rfl (And.intro rfl (And.intro rfl True.intro))) ⟨_, _, rfl, rfl, by omega, rfl⟩ (by omega)
            · intro c12
              refine And.intro (⟨by omega, by omega⟩) ?_
              exact ⟨_, rfl, by omega⟩
  · have hB0 := fB_self (zn := znJ) (K := fKc []) h0
    exact fcutJ (I := I) (j := jc_People_isWatched_98c46_2) (lv' := [(0, .inr (.inr (some 689))), (1, .inl _), (2, .inl _)]) (And.intro rfl (And.intro rfl (And.intro rfl True.intro))) ⟨_, _, rfl, rfl, by omega, rfl⟩ (by omega)
abbrev jc_City_sendReports_305c9_2 : Nat → fL → List fV → fH → Prop := fun m lv st I => ∃ (y1 : Int), lv = [(0, .inr (.inr (some 513))), (1, .inl y1)] ∧ st = [] ∧ (((0 ≤ y1 ∧ y1 ≤ 20))) ∧ m = (1 + 1 * (20 - y1) : Int).toNat
set_option maxRecDepth 8000 in
theorem ct_City_sendReports_305c9 {I : fH}  (h0 : fB bsJ I)  : fC ρ base n F xTc vwCl xTys D dA la gJ (fbz bsJ znJ (fKc wz_3ed0a) I) xm_96 [.inr (.inr (some 513))] I (fun _ r => r = none) := by
  have hW : fzs wz_3ed0a (fKc wz_3ed0a) := fKc_ok _
  refine f_meth (rb := rbJ) (J := [(2, jc_City_sendReports_305c9_2)]) 22 400 xG xin_96 x6_96 okJ (fB_self h0) ?_ ?_
  · refine List.forall_mem_cons.mpr ⟨?_, fun q h => absurd h List.not_mem_nil⟩
    · rintro m _ _ I1 hB1 ⟨y1, rfl, rfl, hb, hm⟩
      refine And.intro ⟨rfl, by decide, by decide⟩ ?_
      refine And.intro ⟨rfl, by decide, by decide⟩ (fgetf fb_514_5 h0 hB1 ?_)
      intro z1 lz1 uz1 qz1
      refine And.intro (by omega) (And.intro ?_ ?_)
      · intro c2
        exact rfl
      · intro c3
        refine And.intro ⟨rfl, by decide, by decide⟩ ?_
        refine Exists.intro xm_97 (And.intro mi_97 (And.intro ⟨rfl, rfl, rfl, rfl⟩ (And.intro rfl ?_)))
        refine fcallp hB1 (ct_People_isWatched_98c46 (fBz h0 hB1) (by omega)) ?_
        rintro _ ⟨z4, rfl, hz4⟩
        refine And.intro (by omega) (And.intro ?_ ?_)
        · intro c5
          exact fcutJ (I := I1) (j := jc_City_sendReports_305c9_2) (lv' := [(0, .inr (.inr (some 513))), (1, .inl _)]) (And.intro rfl (And.intro rfl True.intro)) ⟨_, rfl, rfl, by omega, rfl⟩ (by omega)
        · intro c6
          refine And.intro ⟨rfl, by decide, by decide⟩ ?_
          refine And.intro ⟨rfl, by decide, by decide⟩ (fgetf fb_513_9 h0 hB1 ?_)
          intro z7 lz7 uz7 qz7
          refine And.intro ⟨rfl, by decide, by decide⟩ (fgetf fb_513_8 h0 hB1 ?_)
          intro z8 lz8 uz8 qz8
          refine Exists.intro xm_98 (And.intro mi_98 (And.intro ⟨rfl, rfl, rfl, rfl⟩ (And.intro rfl ?_)))
          refine fcall _ h0 (fzs_sub (by decide +kernel) hW) hB1 (ct_Cells_sendReport_31df9 (fBz h0 hB1) (by omega) (by omega) (by omega)) ?_
          rintro IhB10 _ hB10 fhB10 rfl
          have t11 := fhB10 514 5 (by decide +kernel)
          exact fcutJ (I := IhB10) (j := jc_City_sendReports_305c9_2) (lv' := [(0, .inr (.inr (some 513))), (1, .inl _)]) (And.intro rfl (And.intro rfl True.intro)) ⟨_, rfl, rfl, by omega, rfl⟩ (by omega)
  · have hB0 := fB_self (zn := znJ) (K := fKc wz_3ed0a) h0
    exact fcutJ (I := I) (j := jc_City_sendReports_305c9_2) (lv' := [(0, .inr (.inr (some 513))), (1, .inl _)]) (And.intro rfl (And.intro rfl True.intro)) ⟨_, rfl, rfl, by omega, rfl⟩ (by omega)
set_option maxRecDepth 8000 in
theorem ct_Cells_hear_45721 {I : fH} {x1 : Nat} (h0 : fB bsJ I) (ha1 : (585 ≤ x1 ∧ x1 ≤ 674)) : fC ρ base n F xTc vwCl xTys D dA la gJ (fbz bsJ znJ (fKc wz_10d1b) I) xm_76 [.inr (.inr (some 514)), .inr (.inr (some x1))] I (fun _ r => r = none) := by
  have hW : fzs wz_10d1b (fKc wz_10d1b) := fKc_ok _
  refine f_meth (rb := rbJ) (J := []) 1 400 xG xin_76 x6_76 okJ (fB_self h0) ?_ ?_
  · exact fun q h => absurd h List.not_mem_nil
  · have hB0 := fB_self (zn := znJ) (K := fKc wz_10d1b) h0
    refine fload rL_585_674_7_7_1_0 h0 hB0 (by omega) ?_
    intro z1 lz1 uz1 qz1
    refine fload rL_585_674_5_5_1_0 h0 hB0 (by omega) ?_
    intro z2 lz2 uz2 qz2
    refine And.intro ⟨rfl, by decide, by decide⟩ ?_
    refine And.intro ⟨rfl, by decide⟩ (And.intro (by omega) ?_)
    refine fload rL_560_579_0_5_1_0 h0 hB0 (by omega) ?_
    intro z3 lz3 uz3 qz3
    refine And.intro (by omega) (And.intro ?_ ?_)
    · intro c4
      exact rfl
    · intro c5
      refine And.intro ⟨rfl, by decide, by decide⟩ ?_
      refine And.intro ⟨rfl, by decide⟩ (And.intro (by omega) ?_)
      refine And.intro (fcopyU (rgG_585_674 (by omega) (by omega)) (rgG_560_579 (by omega) (by omega)) rL_585_674_0_5_1_0 rS_560_579_0_5_1_0 (fzs_sub (by decide +kernel) hW) h0 hB0 (by omega) (by omega) (by omega) (by omega)) (And.intro rfl ?_)
      intro IhB6 ehB6 hB6
      exact rfl
abbrev jc_Cells_takeReports_88f4c_4 : Nat → fL → List fV → fH → Prop := fun m lv st I => ∃ (y1 : Int) (y2 : Int) (y3 : Int), lv = [(0, .inr (.inr (some 514))), (1, .inl y1), (2, .inl y2), (3, .inl y3)] ∧ st = [] ∧ ((((-2147483648) ≤ y1 ∧ y1 ≤ 2147483647) ∧ (0 ≤ y2 ∧ y2 ≤ 90) ∧ (0 ≤ y3 ∧ y3 ≤ 90) ∧ (y2 ≤ y3))) ∧ m = (1 + 1 * (90 - y3) : Int).toNat
set_option maxRecDepth 8000 in
theorem ct_Cells_takeReports_88f4c {I : fH} {x1 : Int} (h0 : fB bsJ I) (ha1 : ((-2147483648) ≤ x1 ∧ x1 ≤ 2147483647)) : fC ρ base n F xTc vwCl xTys D dA la gJ (fbz bsJ znJ (fKc wz_3ed0a) I) xm_74 [.inr (.inr (some 514)), .inl x1] I (fun _ r => r = none) := by
  have hW : fzs wz_3ed0a (fKc wz_3ed0a) := fKc_ok _
  refine f_meth (rb := rbJ) (J := [(4, jc_Cells_takeReports_88f4c_4)]) 92 400 xG xin_74 x6_74 okJ (fB_self h0) ?_ ?_
  · refine List.forall_mem_cons.mpr ⟨?_, fun q h => absurd h List.not_mem_nil⟩
    · rintro m _ _ I1 hB1 ⟨y1, y2, y3, rfl, rfl, hb, hm⟩
      refine And.intro ⟨rfl, by decide, by decide⟩ (fgetf fb_514_12 h0 hB1 ?_)
      intro z1 lz1 uz1 qz1
      refine And.intro (by omega) (And.intro ?_ ?_)
      · intro c2
        refine And.intro ⟨rfl, by decide, by decide⟩ (And.intro rfl (And.intro (Or.inl rfl) (fputf fb_514_12 (by decide +kernel) hW (by omega) ?_)))
        intro IhB3 ehB3 hB3
        have t4 := fup_at ehB3 12 (by omega)
        exact rfl
      · intro c5
        refine And.intro ⟨rfl, by decide, by decide⟩ ?_
        refine And.intro ⟨rfl, by decide⟩ (And.intro (by omega) ?_)
        refine fload rL_585_674_6_6_1_0 h0 hB1 (by omega) ?_
        intro z6 lz6 uz6 qz6
        refine And.intro (by omega) (And.intro ?_ ?_)
        · intro c7
          refine Exists.intro xm_76 (And.intro mi_76 (And.intro ⟨rfl, rfl, rfl, rfl⟩ (And.intro rfl ?_)))
          refine fcall _ h0 (fzs_sub (by decide +kernel) hW) hB1 (ct_Cells_hear_45721 (fBz h0 hB1) (by omega)) ?_
          rintro IhB9 _ hB9 fhB9 rfl
          have t10 := fhB9 514 12 (by decide +kernel)
          exact fcutJ (I := IhB9) (j := jc_Cells_takeReports_88f4c_4) (lv' := [(0, .inr (.inr (some 514))), (1, .inl _), (2, .inl _), (3, .inl _)]) (And.intro rfl (And.intro rfl (And.intro rfl (And.intro rfl True.intro)))) ⟨_, _, _, rfl, rfl, by omega, rfl⟩ (by omega)
        · intro c11
          refine And.intro ⟨rfl, by decide, by decide⟩ ?_
          refine And.intro ⟨rfl, by decide⟩ (And.intro (by omega) ?_)
          refine Exists.intro xm_75 (And.intro mi_75 (And.intro ⟨rfl, rfl, rfl, rfl⟩ (And.intro True.intro ?_)))
          refine fcall _ h0 (fzs_sub (by decide +kernel) hW) hB1 (ct_copyRow (W := [584]) (len := 8) (fBz h0 hB1) (frCx (a0 := 585) (a1 := 674) (by decide +kernel) (by omega) (by omega))) ?_
          rintro IhB12 _ hB12 fhB12 ⟨rfl, ehB12⟩
          have t13 := fhB12 514 12 (by decide +kernel)
          intro z14 hz14 bz14
          exact fcutJ (I := IhB12) (j := jc_Cells_takeReports_88f4c_4) (lv' := [(0, .inr (.inr (some 514))), (1, .inl _), (2, .inl _), (3, .inl _)]) (And.intro rfl (And.intro rfl (And.intro rfl (And.intro rfl True.intro)))) ⟨_, _, _, rfl, rfl, by omega, rfl⟩ (by omega)
  · have hB0 := fB_self (zn := znJ) (K := fKc wz_3ed0a) h0
    exact fcutJ (I := I) (j := jc_Cells_takeReports_88f4c_4) (lv' := [(0, .inr (.inr (some 514))), (1, .inl _), (2, .inl _), (3, .inl _)]) (And.intro rfl (And.intro rfl (And.intro rfl (And.intro rfl True.intro)))) ⟨_, _, _, rfl, rfl, by omega, rfl⟩ (by omega)
abbrev jc_Works_foulAll_2e164_2 : Nat → fL → List fV → fH → Prop := fun m lv st I => ∃ (y1 : Int), lv = [(0, .inr (.inr (some 675))), (1, .inl y1)] ∧ st = [] ∧ (((0 ≤ y1 ∧ y1 ≤ 24))) ∧ m = (1 + 1 * (24 - y1) : Int).toNat
set_option maxRecDepth 8000 in
theorem ct_Works_foulAll_2e164 {I : fH}  (h0 : fB bsJ I)  : fC ρ base n F xTc vwCl xTys D dA la gJ (fbz bsJ znJ (fKc wz_4c809) I) xm_95 [.inr (.inr (some 675))] I (fun _ r => r = none) := by
  have hW : fzs wz_4c809 (fKc wz_4c809) := fKc_ok _
  refine f_meth (rb := rbJ) (J := [(2, jc_Works_foulAll_2e164_2)]) 26 400 xG xin_95 x6_95 okJ (fB_self h0) ?_ ?_
  · refine List.forall_mem_cons.mpr ⟨?_, fun q h => absurd h List.not_mem_nil⟩
    · rintro m _ _ I1 hB1 ⟨y1, rfl, rfl, hb, hm⟩
      refine And.intro ⟨rfl, by decide, by decide⟩ (fgetf fb_675_13 h0 hB1 ?_)
      intro z1 lz1 uz1 qz1
      refine And.intro (by omega) (And.intro ?_ ?_)
      · intro c2
        exact rfl
      · intro c3
        refine And.intro ⟨rfl, by decide, by decide⟩ ?_
        refine fload rL_686_686_0_23_1_0 h0 hB1 (by omega) ?_
        intro z4 lz4 uz4 qz4
        refine And.intro (by omega) (And.intro ?_ ?_)
        · intro c5
          exact fcutJ (I := I1) (j := jc_Works_foulAll_2e164_2) (lv' := [(0, .inr (.inr (some 675))), (1, .inl _)]) (And.intro rfl (And.intro rfl True.intro)) ⟨_, rfl, rfl, by omega, rfl⟩ (by omega)
        · intro c6
          refine And.intro ⟨rfl, by decide, by decide⟩ ?_
          refine fload rL_682_682_0_23_1_0 h0 hB1 (by omega) ?_
          intro z7 lz7 uz7 qz7
          refine And.intro ⟨rfl, by decide, by decide⟩ ?_
          refine fload rL_681_681_0_23_1_0 h0 hB1 (by omega) ?_
          intro z8 lz8 uz8 qz8
          intro z9 hz9 ez9 bz9
          refine fstore rS_682_682_0_23_1_0 (fzs_sub (by decide +kernel) hW) (by omega) (by omega) ?_
          intro IhB10 ehB10 hB10
          have t11 := fup_self ehB10
          have t12 : IhB10 675 13 = I1 675 13 := (congrFun (congrFun ehB10 675) 13).trans (fup_ne (by omega))
          refine And.intro ⟨rfl, by decide, by decide⟩ ?_
          refine And.intro ⟨rfl, by decide, by decide⟩ ?_
          refine fload rL_680_680_0_23_1_0 h0 hB10 (by omega) ?_
          intro z13 lz13 uz13 qz13
          refine And.intro ⟨rfl, by decide, by decide⟩ ?_
          refine fload rL_682_682_0_23_1_0 h0 hB10 (by omega) ?_
          intro z14 lz14 uz14 qz14
          refine And.intro (And.intro (by omega) (And.intro (by omega) (And.intro (by omega) rfl))) ?_
          intro z15 hz15 ez15 dz15
          intro z16 hz16 ez16 bz16
          refine And.intro (And.intro (by omega) (And.intro (by omega) rfl)) ?_
          intro z17 hz17
          refine fstore rS_680_680_0_23_1_0 (fzs_sub (by decide +kernel) hW) (by omega) (by omega) ?_
          intro IhB18 ehB18 hB18
          have t19 := fup_self ehB18
          have t20 : IhB18 675 13 = IhB10 675 13 := (congrFun (congrFun ehB18 675) 13).trans (fup_ne (by omega))
          refine And.intro ⟨rfl, by decide, by decide⟩ ?_
          refine fload rL_682_682_0_23_1_0 h0 hB18 (by omega) ?_
          intro z21 lz21 uz21 qz21
          refine And.intro (And.intro (by omega) (And.intro (by omega) (And.intro (by omega) rfl))) ?_
          intro z22 hz22 ez22 dz22
          refine fstore rS_682_682_0_23_1_0 (fzs_sub (by decide +kernel) hW) (by omega) (by omega) ?_
          intro IhB23 ehB23 hB23
          have t24 := fup_self ehB23
          have t25 : IhB23 675 13 = IhB18 675 13 := (congrFun (congrFun ehB23 675) 13).trans (fup_ne (by omega))
          exact fcutJ (I := IhB23) (j := jc_Works_foulAll_2e164_2) (lv' := [(0, .inr (.inr (some 675))), (1, .inl _)]) (And.intro rfl (And.intro rfl True.intro)) ⟨_, rfl, rfl, by omega, rfl⟩ (by omega)
  · have hB0 := fB_self (zn := znJ) (K := fKc wz_4c809) h0
    exact fcutJ (I := I) (j := jc_Works_foulAll_2e164_2) (lv' := [(0, .inr (.inr (some 675))), (1, .inl _)]) (And.intro rfl (And.intro rfl True.intro)) ⟨_, rfl, rfl, by omega, rfl⟩ (by omega)
abbrev jc_Cells_leakAll_a583d_2 : Nat → fL → List fV → fH → Prop := fun m lv st I => ∃ (y1 : Int), lv = [(0, .inr (.inr (some 514))), (1, .inl y1)] ∧ st = [] ∧ (((0 ≤ y1 ∧ y1 ≤ 20))) ∧ m = (7 + 7 * (20 - y1) : Int).toNat
abbrev jc_Cells_leakAll_a583d_12 : Nat → fL → List fV → fH → Prop := fun m lv st I => ∃ (y1 : Int) (y2 : Int), lv = [(0, .inr (.inr (some 514))), (1, .inl y1), (2, .inl y2)] ∧ st = [] ∧ (((0 ≤ y1 ∧ y1 ≤ 19) ∧ (0 ≤ y2 ∧ y2 ≤ 5) ∧ (1 ≤ I 514 5 ∧ I 514 5 ≤ 20))) ∧ m = (1 + 7 * (20 - y1) + 1 * (5 - y2) : Int).toNat
set_option maxRecDepth 8000 in
theorem ct_Cells_leakAll_a583d {I : fH}  (h0 : fB bsJ I)  : fC ρ base n F xTc vwCl xTys D dA la gJ (fbz bsJ znJ (fKc wz_7eac0) I) xm_90 [.inr (.inr (some 514))] I (fun _ r => r = none) := by
  have hW : fzs wz_7eac0 (fKc wz_7eac0) := fKc_ok _
  refine f_meth (rb := rbJ) (J := [(2, jc_Cells_leakAll_a583d_2), (12, jc_Cells_leakAll_a583d_12)]) 148 400 xG xin_90 x6_90 okJ (fB_self h0) ?_ ?_
  · refine List.forall_mem_cons.mpr ⟨?_, List.forall_mem_cons.mpr ⟨?_, fun q h => absurd h List.not_mem_nil⟩⟩
    · rintro m _ _ I1 hB1 ⟨y1, rfl, rfl, hb, hm⟩
      refine And.intro ⟨rfl, by decide, by decide⟩ (fgetf fb_514_5 h0 hB1 ?_)
      intro z1 lz1 uz1 qz1
      refine And.intro (by omega) (And.intro ?_ ?_)
      · intro c2
        exact rfl
      · intro c3
        exact fcutJ (I := I1) (j := jc_Cells_leakAll_a583d_12) (lv' := [(0, .inr (.inr (some 514))), (1, .inl _), (2, .inl _)]) (And.intro rfl (And.intro rfl (And.intro rfl True.intro))) ⟨_, _, rfl, rfl, by omega, rfl⟩ (by omega)
    · rintro m _ _ I1 hB1 ⟨y1, y2, rfl, rfl, hb, hm⟩
      refine And.intro (by omega) (And.intro ?_ ?_)
      · intro c4
        exact fcutJ (I := I1) (j := jc_Cells_leakAll_a583d_2) (lv' := [(0, .inr (.inr (some 514))), (1, .inl _)]) (And.intro rfl (And.intro rfl True.intro)) ⟨_, rfl, rfl, by omega, rfl⟩ (by omega)
      · intro c5
        refine And.intro ⟨rfl, by decide, by decide⟩ ?_
        refine And.intro ⟨rfl, by decide⟩ (And.intro (by omega) ?_)
        refine fload rL_518_537_0_4_1_0 h0 hB1 (by omega) ?_
        intro z6 lz6 uz6 qz6
        refine And.intro ⟨rfl, by decide, by decide⟩ ?_
        refine fload rL_516_516_0_19_1_0 h0 hB1 (by omega) ?_
        intro z7 lz7 uz7 qz7
        intro z8 hz8 ez8 bz8
        refine And.intro (And.intro (by omega) (And.intro (by omega) (And.intro (by omega) rfl))) ?_
        intro z9 hz9 ez9 dz9
        refine And.intro ⟨rfl, by decide, by decide⟩ ?_
        refine And.intro ⟨rfl, by decide⟩ (And.intro (by omega) ?_)
        refine fload rL_518_537_0_4_1_0 h0 hB1 (by omega) ?_
        intro z10 lz10 uz10 qz10
        intro z11 hz11 ez11 bz11
        refine fstore rS_518_537_0_4_1_0 (fzs_sub (by decide +kernel) hW) (by omega) (by omega) ?_
        intro IhB12 ehB12 hB12
        have t13 := fup_self ehB12
        have t14 : IhB12 514 5 = I1 514 5 := (congrFun (congrFun ehB12 514) 5).trans (fup_ne (by omega))
        refine And.intro ⟨rfl, by decide, by decide⟩ ?_
        refine And.intro ⟨rfl, by decide⟩ (And.intro (by omega) ?_)
        refine fload rL_539_558_0_4_1_0 h0 hB12 (by omega) ?_
        intro z15 lz15 uz15 qz15
        intro z16 hz16 ez16 bz16
        refine fstore rS_539_558_0_4_1_0 (fzs_sub (by decide +kernel) hW) (by omega) (by omega) ?_
        intro IhB17 ehB17 hB17
        have t18 := fup_self ehB17
        have t19 : IhB17 514 5 = IhB12 514 5 := (congrFun (congrFun ehB17 514) 5).trans (fup_ne (by omega))
        exact fcutJ (I := IhB17) (j := jc_Cells_leakAll_a583d_12) (lv' := [(0, .inr (.inr (some 514))), (1, .inl _), (2, .inl _)]) (And.intro rfl (And.intro rfl (And.intro rfl True.intro))) ⟨_, _, rfl, rfl, by omega, rfl⟩ (by omega)
  · have hB0 := fB_self (zn := znJ) (K := fKc wz_7eac0) h0
    exact fcutJ (I := I) (j := jc_Cells_leakAll_a583d_2) (lv' := [(0, .inr (.inr (some 514))), (1, .inl _)]) (And.intro rfl (And.intro rfl True.intro)) ⟨_, rfl, rfl, by omega, rfl⟩ (by omega)
set_option maxRecDepth 8000 in
theorem ct_Works_isSkin_984b7 {I : fH} {x1 : Int} (h0 : fB bsJ I) (ha1 : (0 ≤ x1 ∧ x1 ≤ 23)) : fC ρ base n F xTc vwCl xTys D dA la gJ (fbz bsJ znJ (fKc []) I) xm_64 [.inr (.inr (some 675)), .inl x1] I (fun _ r => ∃ z, r = some (.inl z) ∧ (0 ≤ z ∧ z ≤ 1)) := by
  have hW : fzs [] (fKc []) := fKc_ok _
  refine f_meth (rb := rbJ) (J := []) 1 400 xG xin_64 x6_64 okJ (fB_self h0) ?_ ?_
  · exact fun q h => absurd h List.not_mem_nil
  · have hB0 := fB_self (zn := znJ) (K := fKc []) h0
    refine And.intro ⟨rfl, by decide, by decide⟩ ?_
    refine fload rL_676_676_0_23_1_0 h0 hB0 (by omega) ?_
    intro z1 lz1 uz1 qz1
    refine And.intro (by omega) (And.intro ?_ ?_)
    · intro c2
      refine And.intro (⟨by omega, by omega⟩) ?_
      exact ⟨_, rfl, by omega⟩
    · intro c3
      refine And.intro ⟨rfl, by decide, by decide⟩ ?_
      refine fload rL_686_686_0_23_1_0 h0 hB0 (by omega) ?_
      intro z4 lz4 uz4 qz4
      refine And.intro (by omega) (And.intro ?_ ?_)
      · intro c5
        refine And.intro (⟨by omega, by omega⟩) ?_
        exact ⟨_, rfl, by omega⟩
      · intro c6
        refine And.intro (⟨by omega, by omega⟩) ?_
        exact ⟨_, rfl, by omega⟩
set_option maxRecDepth 8000 in
theorem ct_City_level_cee1f {I : fH}  (h0 : fB bsJ I)  : fC ρ base n F xTc vwCl xTys D dA la gJ (fbz bsJ znJ (fKc []) I) xm_31 [.inr (.inr (some 513))] I (fun _ r => ∃ z, r = some (.inl z) ∧ (0 ≤ z ∧ z ≤ 60)) := by
  have hW : fzs [] (fKc []) := fKc_ok _
  refine f_meth (rb := rbJ) (J := []) 1 400 xG xin_31 x6_31 okJ (fB_self h0) ?_ ?_
  · exact fun q h => absurd h List.not_mem_nil
  · have hB0 := fB_self (zn := znJ) (K := fKc []) h0
    refine And.intro ⟨rfl, by decide, by decide⟩ (fgetf fb_513_5 h0 hB0 ?_)
    intro z1 lz1 uz1 qz1
    refine And.intro (And.intro (by omega) (And.intro (by omega) (And.intro (by omega) rfl))) ?_
    intro z2 hz2 ez2 dz2
    have dz2 := dz2 (by omega) (by omega)
    change _ = _ / _ at dz2
    refine And.intro (True.intro) ?_
    exact ⟨_, rfl, by omega⟩
set_option maxRecDepth 8000 in
theorem ct_City_liftOf_6cbf4 {I : fH} {x1 : Int} (h0 : fB bsJ I) (ha1 : (0 ≤ x1 ∧ x1 ≤ 23)) : fC ρ base n F xTc vwCl xTys D dA la gJ (fbz bsJ znJ (fKc []) I) xm_63 [.inr (.inr (some 513)), .inl x1] I (fun _ r => ∃ z, r = some (.inl z) ∧ ((-2147483648) ≤ z ∧ z ≤ 2147483647)) := by
  have hW : fzs [] (fKc []) := fKc_ok _
  refine f_meth (rb := rbJ) (J := []) 1 400 xG xin_63 x6_63 okJ (fB_self h0) ?_ ?_
  · exact fun q h => absurd h List.not_mem_nil
  · have hB0 := fB_self (zn := znJ) (K := fKc []) h0
    refine And.intro ⟨rfl, by decide, by decide⟩ ?_
    refine Exists.intro xm_64 (And.intro mi_64 (And.intro ⟨rfl, rfl, rfl, rfl⟩ (And.intro rfl ?_)))
    refine fcallp hB0 (ct_Works_isSkin_984b7 (fBz h0 hB0) (by omega)) ?_
    rintro _ ⟨z1, rfl, hz1⟩
    refine And.intro (by omega) (And.intro ?_ ?_)
    · intro c2
      refine And.intro (True.intro) ?_
      exact ⟨_, rfl, by omega⟩
    · intro c3
      refine And.intro ⟨rfl, by decide, by decide⟩ ?_
      refine And.intro ⟨rfl, by decide, by decide⟩ ?_
      refine fload rL_684_684_0_23_1_0 h0 hB0 (by omega) ?_
      intro z4 lz4 uz4 qz4
      refine And.intro ⟨rfl, by decide, by decide⟩ ?_
      refine And.intro ⟨rfl, by decide⟩ (And.intro (by omega) ?_)
      refine Exists.intro xm_31 (And.intro mi_31 (And.intro ⟨rfl, rfl, rfl, rfl⟩ (And.intro rfl ?_)))
      refine fcallp hB0 (ct_City_level_cee1f (fBz h0 hB0)) ?_
      rintro _ ⟨z5, rfl, hz5⟩
      refine fload rL_696_696_0_60_1_0 h0 hB0 (by omega) ?_
      intro z6 lz6 uz6 qz6
      intro z7 hz7 ez7 bz7
      refine And.intro (And.intro (by omega) (And.intro (by omega) (And.intro (by omega) rfl))) ?_
      intro z8 hz8 ez8 dz8
      refine And.intro (True.intro) ?_
      exact ⟨_, rfl, by omega⟩
abbrev jc_City_lift_1f18c_4 : Nat → fL → List fV → fH → Prop := fun m lv st I => ∃ (y1 : Int) (y2 : Int), lv = [(0, .inr (.inr (some 513))), (1, .inl y1), (2, .inl y2)] ∧ st = [] ∧ ((((-2147483648) ≤ y1 ∧ y1 ≤ 2147483647) ∧ (0 ≤ y2 ∧ y2 ≤ 24))) ∧ m = (1 + 1 * (24 - y2) : Int).toNat
set_option maxRecDepth 8000 in
theorem ct_City_lift_1f18c {I : fH}  (h0 : fB bsJ I)  : fC ρ base n F xTc vwCl xTys D dA la gJ (fbz bsJ znJ (fKc []) I) xm_62 [.inr (.inr (some 513))] I (fun _ r => ∃ z, r = some (.inl z) ∧ ((-2147483648) ≤ z ∧ z ≤ 2147483647)) := by
  have hW : fzs [] (fKc []) := fKc_ok _
  refine f_meth (rb := rbJ) (J := [(4, jc_City_lift_1f18c_4)]) 26 400 xG xin_62 x6_62 okJ (fB_self h0) ?_ ?_
  · refine List.forall_mem_cons.mpr ⟨?_, fun q h => absurd h List.not_mem_nil⟩
    · rintro m _ _ I1 hB1 ⟨y1, y2, rfl, rfl, hb, hm⟩
      refine And.intro ⟨rfl, by decide, by decide⟩ ?_
      refine And.intro ⟨rfl, by decide, by decide⟩ (fgetf fb_675_13 h0 hB1 ?_)
      intro z1 lz1 uz1 qz1
      refine And.intro (by omega) (And.intro ?_ ?_)
      · intro c2
        refine And.intro (True.intro) ?_
        exact ⟨_, rfl, by omega⟩
      · intro c3
        refine Exists.intro xm_63 (And.intro mi_63 (And.intro ⟨rfl, rfl, rfl, rfl⟩ (And.intro rfl ?_)))
        refine fcallp hB1 (ct_City_liftOf_6cbf4 (fBz h0 hB1) (by omega)) ?_
        rintro _ ⟨z4, rfl, hz4⟩
        intro z5 hz5 ez5 bz5
        exact fcutJ (I := I1) (j := jc_City_lift_1f18c_4) (lv' := [(0, .inr (.inr (some 513))), (1, .inl _), (2, .inl _)]) (And.intro rfl (And.intro rfl (And.intro rfl True.intro))) ⟨_, _, rfl, rfl, by omega, rfl⟩ (by omega)
  · have hB0 := fB_self (zn := znJ) (K := fKc []) h0
    exact fcutJ (I := I) (j := jc_City_lift_1f18c_4) (lv' := [(0, .inr (.inr (some 513))), (1, .inl _), (2, .inl _)]) (And.intro rfl (And.intro rfl (And.intro rfl True.intro))) ⟨_, _, rfl, rfl, by omega, rfl⟩ (by omega)
abbrev jc_Cells_gases_f9efb_4 : Nat → fL → List fV → fH → Prop := fun m lv st I => ∃ (y1 : Int) (y2 : Int), lv = [(0, .inr (.inr (some 514))), (1, .inl y1), (2, .inl y2)] ∧ st = [] ∧ ((((-2147483648) ≤ y1 ∧ y1 ≤ 2147483647) ∧ (0 ≤ y2 ∧ y2 ≤ 20))) ∧ m = (6 + 6 * (20 - y2) : Int).toNat
abbrev jc_Cells_gases_f9efb_14 : Nat → fL → List fV → fH → Prop := fun m lv st I => ∃ (y1 : Int) (y2 : Int) (y3 : Int), lv = [(0, .inr (.inr (some 514))), (1, .inl y1), (2, .inl y2), (3, .inl y3)] ∧ st = [] ∧ ((((-2147483648) ≤ y1 ∧ y1 ≤ 2147483647) ∧ (0 ≤ y2 ∧ y2 ≤ 19) ∧ (0 ≤ y3 ∧ y3 ≤ 4) ∧ (1 ≤ I 514 5 ∧ I 514 5 ≤ 20))) ∧ m = (1 + 6 * (20 - y2) + 1 * (4 - y3) : Int).toNat
set_option maxRecDepth 8000 in
theorem ct_Cells_gases_f9efb {I : fH}  (h0 : fB bsJ I)  : fC ρ base n F xTc vwCl xTys D dA la gJ (fbz bsJ znJ (fKc []) I) xm_66 [.inr (.inr (some 514))] I (fun _ r => ∃ z, r = some (.inl z) ∧ ((-2147483648) ≤ z ∧ z ≤ 2147483647)) := by
  have hW : fzs [] (fKc []) := fKc_ok _
  refine f_meth (rb := rbJ) (J := [(4, jc_Cells_gases_f9efb_4), (14, jc_Cells_gases_f9efb_14)]) 127 400 xG xin_66 x6_66 okJ (fB_self h0) ?_ ?_
  · refine List.forall_mem_cons.mpr ⟨?_, List.forall_mem_cons.mpr ⟨?_, fun q h => absurd h List.not_mem_nil⟩⟩
    · rintro m _ _ I1 hB1 ⟨y1, y2, rfl, rfl, hb, hm⟩
      refine And.intro ⟨rfl, by decide, by decide⟩ (fgetf fb_514_5 h0 hB1 ?_)
      intro z1 lz1 uz1 qz1
      refine And.intro (by omega) (And.intro ?_ ?_)
      · intro c2
        refine And.intro (True.intro) ?_
        exact ⟨_, rfl, by omega⟩
      · intro c3
        exact fcutJ (I := I1) (j := jc_Cells_gases_f9efb_14) (lv' := [(0, .inr (.inr (some 514))), (1, .inl _), (2, .inl _), (3, .inl _)]) (And.intro rfl (And.intro rfl (And.intro rfl (And.intro rfl True.intro)))) ⟨_, _, _, rfl, rfl, by omega, rfl⟩ (by omega)
    · rintro m _ _ I1 hB1 ⟨y1, y2, y3, rfl, rfl, hb, hm⟩
      refine And.intro (by omega) (And.intro ?_ ?_)
      · intro c4
        exact fcutJ (I := I1) (j := jc_Cells_gases_f9efb_4) (lv' := [(0, .inr (.inr (some 514))), (1, .inl _), (2, .inl _)]) (And.intro rfl (And.intro rfl (And.intro rfl True.intro))) ⟨_, _, rfl, rfl, by omega, rfl⟩ (by omega)
      · intro c5
        refine And.intro ⟨rfl, by decide, by decide⟩ ?_
        refine And.intro ⟨rfl, by decide⟩ (And.intro (by omega) ?_)
        refine fload rL_518_537_0_4_1_0 h0 hB1 (by omega) ?_
        intro z6 lz6 uz6 qz6
        intro z7 hz7 ez7 bz7
        exact fcutJ (I := I1) (j := jc_Cells_gases_f9efb_14) (lv' := [(0, .inr (.inr (some 514))), (1, .inl _), (2, .inl _), (3, .inl _)]) (And.intro rfl (And.intro rfl (And.intro rfl (And.intro rfl True.intro)))) ⟨_, _, _, rfl, rfl, by omega, rfl⟩ (by omega)
  · have hB0 := fB_self (zn := znJ) (K := fKc []) h0
    exact fcutJ (I := I) (j := jc_Cells_gases_f9efb_4) (lv' := [(0, .inr (.inr (some 514))), (1, .inl _), (2, .inl _)]) (And.intro rfl (And.intro rfl (And.intro rfl True.intro))) ⟨_, _, rfl, rfl, by omega, rfl⟩ (by omega)
abbrev jc_People_living_f14dc_4 : Nat → fL → List fV → fH → Prop := fun m lv st I => ∃ (y1 : Int) (y2 : Int), lv = [(0, .inr (.inr (some 689))), (1, .inl y1), (2, .inl y2)] ∧ st = [] ∧ ((((-2147483648) ≤ y1 ∧ y1 ≤ 2147483647) ∧ (0 ≤ y2 ∧ y2 ≤ 24))) ∧ m = (1 + 1 * (24 - y2) : Int).toNat
set_option maxRecDepth 8000 in
theorem ct_People_living_f14dc {I : fH}  (h0 : fB bsJ I)  : fC ρ base n F xTc vwCl xTys D dA la gJ (fbz bsJ znJ (fKc []) I) xm_67 [.inr (.inr (some 689))] I (fun _ r => ∃ z, r = some (.inl z) ∧ ((-2147483648) ≤ z ∧ z ≤ 2147483647)) := by
  have hW : fzs [] (fKc []) := fKc_ok _
  refine f_meth (rb := rbJ) (J := [(4, jc_People_living_f14dc_4)]) 26 400 xG xin_67 x6_67 okJ (fB_self h0) ?_ ?_
  · refine List.forall_mem_cons.mpr ⟨?_, fun q h => absurd h List.not_mem_nil⟩
    · rintro m _ _ I1 hB1 ⟨y1, y2, rfl, rfl, hb, hm⟩
      refine And.intro ⟨rfl, by decide, by decide⟩ (fgetf fb_689_4 h0 hB1 ?_)
      intro z1 lz1 uz1 qz1
      refine And.intro (by omega) (And.intro ?_ ?_)
      · intro c2
        refine And.intro (True.intro) ?_
        exact ⟨_, rfl, by omega⟩
      · intro c3
        refine Exists.intro xm_21 (And.intro mi_21 (And.intro ⟨rfl, rfl, rfl, rfl⟩ (And.intro rfl ?_)))
        refine fcallp hB1 (ct_People_isDead_16e8f (fBz h0 hB1) (by omega)) ?_
        rintro _ ⟨z4, rfl, hz4⟩
        refine And.intro (by omega) (And.intro ?_ ?_)
        · intro c5
          exact fcutJ (I := I1) (j := jc_People_living_f14dc_4) (lv' := [(0, .inr (.inr (some 689))), (1, .inl _), (2, .inl _)]) (And.intro rfl (And.intro rfl (And.intro rfl True.intro))) ⟨_, _, rfl, rfl, by omega, rfl⟩ (by omega)
        · intro c6
          intro z7 hz7 bz7
          exact fcutJ (I := I1) (j := jc_People_living_f14dc_4) (lv' := [(0, .inr (.inr (some 689))), (1, .inl _), (2, .inl _)]) (And.intro rfl (And.intro rfl (And.intro rfl True.intro))) ⟨_, _, rfl, rfl, by omega, rfl⟩ (by omega)
  · have hB0 := fB_self (zn := znJ) (K := fKc []) h0
    exact fcutJ (I := I) (j := jc_People_living_f14dc_4) (lv' := [(0, .inr (.inr (some 689))), (1, .inl _), (2, .inl _)]) (And.intro rfl (And.intro rfl (And.intro rfl True.intro))) ⟨_, _, rfl, rfl, by omega, rfl⟩ (by omega)
set_option maxRecDepth 8000 in
theorem ct_Works_isDropped_e5842 {I : fH} {x1 : Int} (h0 : fB bsJ I) (ha1 : (0 ≤ x1 ∧ x1 ≤ 23)) : fC ρ base n F xTc vwCl xTys D dA la gJ (fbz bsJ znJ (fKc []) I) xm_55 [.inr (.inr (some 675)), .inl x1] I (fun _ r => ∃ z, r = some (.inl z) ∧ (0 ≤ z ∧ z ≤ 1)) := by
  have hW : fzs [] (fKc []) := fKc_ok _
  refine f_meth (rb := rbJ) (J := []) 1 400 xG xin_55 x6_55 okJ (fB_self h0) ?_ ?_
  · exact fun q h => absurd h List.not_mem_nil
  · have hB0 := fB_self (zn := znJ) (K := fKc []) h0
    refine And.intro ⟨rfl, by decide, by decide⟩ ?_
    refine fload rL_687_687_0_23_1_0 h0 hB0 (by omega) ?_
    intro z1 lz1 uz1 qz1
    refine And.intro (by omega) (And.intro ?_ ?_)
    · intro c2
      refine And.intro (⟨by omega, by omega⟩) ?_
      exact ⟨_, rfl, by omega⟩
    · intro c3
      refine And.intro (⟨by omega, by omega⟩) ?_
      exact ⟨_, rfl, by omega⟩
set_option maxRecDepth 8000 in
theorem ct_Works_weightOf_23190 {I : fH} {x1 : Int} (h0 : fB bsJ I) (ha1 : (0 ≤ x1 ∧ x1 ≤ 23)) : fC ρ base n F xTc vwCl xTys D dA la gJ (fbz bsJ znJ (fKc []) I) xm_68 [.inr (.inr (some 675)), .inl x1] I (fun _ r => ∃ z, r = some (.inl z) ∧ ((-2147483648) ≤ z ∧ z ≤ 2147483647)) := by
  have hW : fzs [] (fKc []) := fKc_ok _
  refine f_meth (rb := rbJ) (J := []) 1 400 xG xin_68 x6_68 okJ (fB_self h0) ?_ ?_
  · exact fun q h => absurd h List.not_mem_nil
  · have hB0 := fB_self (zn := znJ) (K := fKc []) h0
    refine Exists.intro xm_50 (And.intro mi_50 (And.intro ⟨rfl, rfl, rfl, rfl⟩ (And.intro rfl ?_)))
    refine fcallp hB0 (ct_Works_isGone_bce90 (fBz h0 hB0) (by omega)) ?_
    rintro _ ⟨z1, rfl, hz1⟩
    refine And.intro (by omega) (And.intro ?_ ?_)
    · intro c2
      refine And.intro (True.intro) ?_
      exact ⟨_, rfl, by omega⟩
    · intro c3
      refine Exists.intro xm_55 (And.intro mi_55 (And.intro ⟨rfl, rfl, rfl, rfl⟩ (And.intro rfl ?_)))
      refine fcallp hB0 (ct_Works_isDropped_e5842 (fBz h0 hB0) (by omega)) ?_
      rintro _ ⟨z4, rfl, hz4⟩
      refine And.intro (by omega) (And.intro ?_ ?_)
      · intro c5
        refine And.intro ⟨rfl, by decide, by decide⟩ ?_
        refine fload rL_678_678_0_23_1_0 h0 hB0 (by omega) ?_
        intro z6 lz6 uz6 qz6
        refine And.intro (True.intro) ?_
        exact ⟨_, rfl, by omega⟩
      · intro c7
        refine And.intro (True.intro) ?_
        exact ⟨_, rfl, by omega⟩
abbrev jc_City_weight_9bc16_10 : Nat → fL → List fV → fH → Prop := fun m lv st I => ∃ (y1 : Int) (y2 : Int), lv = [(0, .inr (.inr (some 513))), (1, .inl y1), (2, .inl y2)] ∧ st = [] ∧ ((((-2147483648) ≤ y1 ∧ y1 ≤ 2147483647) ∧ (0 ≤ y2 ∧ y2 ≤ 5))) ∧ m = (26 + 1 * (5 - y2) : Int).toNat
abbrev jc_City_weight_9bc16_48 : Nat → fL → List fV → fH → Prop := fun m lv st I => ∃ (y2 : Int) (y3 : Int), lv = [(0, .inr (.inr (some 513))), (2, .inl y2), (3, .inl y3)] ∧ st = [] ∧ ((((-2147483648) ≤ y2 ∧ y2 ≤ 2147483647) ∧ (0 ≤ y3 ∧ y3 ≤ 24))) ∧ m = (1 + 1 * (24 - y3) : Int).toNat
set_option maxRecDepth 8000 in
theorem ct_City_weight_9bc16 {I : fH}  (h0 : fB bsJ I)  : fC ρ base n F xTc vwCl xTys D dA la gJ (fbz bsJ znJ (fKc []) I) xm_65 [.inr (.inr (some 513))] I (fun _ r => ∃ z, r = some (.inl z) ∧ ((-2147483648) ≤ z ∧ z ≤ 2147483647)) := by
  have hW : fzs [] (fKc []) := fKc_ok _
  refine f_meth (rb := rbJ) (J := [(10, jc_City_weight_9bc16_10), (48, jc_City_weight_9bc16_48)]) 32 400 xG xin_65 x6_65 okJ (fB_self h0) ?_ ?_
  · refine List.forall_mem_cons.mpr ⟨?_, List.forall_mem_cons.mpr ⟨?_, fun q h => absurd h List.not_mem_nil⟩⟩
    · rintro m _ _ I1 hB1 ⟨y1, y2, rfl, rfl, hb, hm⟩
      refine And.intro (by omega) (And.intro ?_ ?_)
      · intro c1
        refine And.intro ⟨rfl, by decide, by decide⟩ ?_
        refine Exists.intro xm_67 (And.intro mi_67 (And.intro ⟨rfl, rfl, rfl, rfl⟩ (And.intro rfl ?_)))
        refine fcallp hB1 (ct_People_living_f14dc (fBz h0 hB1)) ?_
        rintro _ ⟨z2, rfl, hz2⟩
        intro z3 hz3 ez3 bz3
        refine And.intro (And.intro (by omega) (And.intro (by omega) (And.intro (by omega) rfl))) ?_
        intro z4 hz4 ez4 dz4
        intro z5 hz5 ez5 bz5
        exact fcutJ (I := I1) (j := jc_City_weight_9bc16_48) (lv' := [(0, .inr (.inr (some 513))), (2, .inl _), (3, .inl _)]) (And.intro rfl (And.intro rfl (And.intro rfl True.intro))) ⟨_, _, rfl, rfl, by omega, rfl⟩ (by omega)
      · intro c6
        refine And.intro ⟨rfl, by decide, by decide⟩ ?_
        refine fload rL_694_694_0_5_1_0 h0 hB1 (by omega) ?_
        intro z7 lz7 uz7 qz7
        intro z8 hz8 ez8 bz8
        exact fcutJ (I := I1) (j := jc_City_weight_9bc16_10) (lv' := [(0, .inr (.inr (some 513))), (1, .inl _), (2, .inl _)]) (And.intro rfl (And.intro rfl (And.intro rfl True.intro))) ⟨_, _, rfl, rfl, by omega, rfl⟩ (by omega)
    · rintro m _ _ I1 hB1 ⟨y2, y3, rfl, rfl, hb, hm⟩
      refine And.intro ⟨rfl, by decide, by decide⟩ ?_
      refine And.intro ⟨rfl, by decide, by decide⟩ (fgetf fb_675_13 h0 hB1 ?_)
      intro z9 lz9 uz9 qz9
      refine And.intro (by omega) (And.intro ?_ ?_)
      · intro c10
        refine And.intro (True.intro) ?_
        exact ⟨_, rfl, by omega⟩
      · intro c11
        refine And.intro ⟨rfl, by decide, by decide⟩ ?_
        refine Exists.intro xm_68 (And.intro mi_68 (And.intro ⟨rfl, rfl, rfl, rfl⟩ (And.intro rfl ?_)))
        refine fcallp hB1 (ct_Works_weightOf_23190 (fBz h0 hB1) (by omega)) ?_
        rintro _ ⟨z12, rfl, hz12⟩
        intro z13 hz13 ez13 bz13
        exact fcutJ (I := I1) (j := jc_City_weight_9bc16_48) (lv' := [(0, .inr (.inr (some 513))), (2, .inl _), (3, .inl _)]) (And.intro rfl (And.intro rfl (And.intro rfl True.intro))) ⟨_, _, rfl, rfl, by omega, rfl⟩ (by omega)
  · have hB0 := fB_self (zn := znJ) (K := fKc []) h0
    refine And.intro ⟨rfl, by decide, by decide⟩ ?_
    refine Exists.intro xm_66 (And.intro mi_66 (And.intro ⟨rfl, rfl, rfl, rfl⟩ (And.intro rfl ?_)))
    refine fcallp hB0 (ct_Cells_gases_f9efb (fBz h0 hB0)) ?_
    rintro _ ⟨z14, rfl, hz14⟩
    exact fcutJ (I := I) (j := jc_City_weight_9bc16_10) (lv' := [(0, .inr (.inr (some 513))), (1, .inl _), (2, .inl _)]) (And.intro rfl (And.intro rfl (And.intro rfl True.intro))) ⟨_, _, rfl, rfl, by omega, rfl⟩ (by omega)
set_option maxRecDepth 8000 in
theorem ct_City_rise_ae6a0 {I : fH}  (h0 : fB bsJ I)  : fC ρ base n F xTc vwCl xTys D dA la gJ (fbz bsJ znJ (fKc wz_007ef) I) xm_94 [.inr (.inr (some 513))] I (fun _ r => r = none) := by
  have hW : fzs wz_007ef (fKc wz_007ef) := fKc_ok _
  refine f_meth (rb := rbJ) (J := []) 1 400 xG xin_94 x6_94 okJ (fB_self h0) ?_ ?_
  · exact fun q h => absurd h List.not_mem_nil
  · have hB0 := fB_self (zn := znJ) (K := fKc wz_007ef) h0
    refine Exists.intro xm_62 (And.intro mi_62 (And.intro ⟨rfl, rfl, rfl, rfl⟩ (And.intro rfl ?_)))
    refine fcallp hB0 (ct_City_lift_1f18c (fBz h0 hB0)) ?_
    rintro _ ⟨z1, rfl, hz1⟩
    refine Exists.intro xm_65 (And.intro mi_65 (And.intro ⟨rfl, rfl, rfl, rfl⟩ (And.intro rfl ?_)))
    refine fcallp hB0 (ct_City_weight_9bc16 (fBz h0 hB0)) ?_
    rintro _ ⟨z2, rfl, hz2⟩
    intro z3 hz3 ez3 bz3
    refine And.intro (And.intro (by omega) (And.intro (by omega) (And.intro (by omega) rfl))) ?_
    intro z4 hz4 ez4 dz4
    refine And.intro (And.intro (by omega) (And.intro (by omega) rfl)) ?_
    intro z5 hz5
    refine And.intro (And.intro (by omega) (And.intro (by omega) rfl)) ?_
    intro z6 hz6
    refine And.intro ⟨rfl, by decide, by decide⟩ (fgetf fb_513_5 h0 hB0 ?_)
    intro z7 lz7 uz7 qz7
    refine And.intro (And.intro (by omega) (And.intro (by omega) rfl)) ?_
    intro z8 hz8
    refine And.intro (And.intro (by omega) (And.intro (by omega) rfl)) ?_
    intro z9 hz9
    refine And.intro ⟨rfl, by decide, by decide⟩ (And.intro rfl (And.intro (Or.inl rfl) (fputf fb_513_5 (by decide +kernel) hW (by omega) ?_)))
    intro IhB10 ehB10 hB10
    have t11 := fup_at ehB10 5 (by omega)
    exact rfl
abbrev jc_Cells_flow_6f8f5_38 : Nat → fL → List fV → fH → Prop := fun m lv st I => ∃ (y1 : Int) (y2 : Int) (y3 : Int) (y4 : Int) (y5 : Int), lv = [(0, .inr (.inr (some 514))), (1, .inl y1), (2, .inl y2), (3, .inl y3), (4, .inl y4), (5, .inl y5)] ∧ st = [] ∧ (((0 ≤ y1 ∧ y1 ≤ 23) ∧ (0 ≤ y2 ∧ y2 ≤ 19) ∧ (0 ≤ y3 ∧ y3 ≤ 19) ∧ (1 ≤ y4 ∧ y4 ≤ 2147483647) ∧ (0 ≤ y5 ∧ y5 ≤ 5))) ∧ m = (1 + 1 * (5 - y5) : Int).toNat
set_option maxRecDepth 8000 in
theorem ct_Cells_flow_6f8f5 {I : fH} {x1 : Int} (h0 : fB bsJ I) (ha1 : (0 ≤ x1 ∧ x1 ≤ 23)) : fC ρ base n F xTc vwCl xTys D dA la gJ (fbz bsJ znJ (fKc wz_7eac0) I) xm_89 [.inr (.inr (some 514)), .inl x1] I (fun _ r => r = none) := by
  have hW : fzs wz_7eac0 (fKc wz_7eac0) := fKc_ok _
  refine f_meth (rb := rbJ) (J := [(38, jc_Cells_flow_6f8f5_38)]) 7 400 xG xin_89 x6_89 okJ (fB_self h0) ?_ ?_
  · refine List.forall_mem_cons.mpr ⟨?_, fun q h => absurd h List.not_mem_nil⟩
    · rintro m _ _ I1 hB1 ⟨y1, y2, y3, y4, y5, rfl, rfl, hb, hm⟩
      refine And.intro (by omega) (And.intro ?_ ?_)
      · intro c1
        exact rfl
      · intro c2
        refine And.intro ⟨rfl, by decide, by decide⟩ ?_
        refine And.intro ⟨rfl, by decide⟩ (And.intro (by omega) ?_)
        refine fload rL_518_537_0_4_1_0 h0 hB1 (by omega) ?_
        intro z3 lz3 uz3 qz3
        refine And.intro ⟨rfl, by decide, by decide⟩ ?_
        refine fload rL_515_515_0_19_1_0 h0 hB1 (by omega) ?_
        intro z4 lz4 uz4 qz4
        intro z5 hz5 ez5 bz5
        refine And.intro ⟨rfl, by decide, by decide⟩ ?_
        refine And.intro ⟨rfl, by decide⟩ (And.intro (by omega) ?_)
        refine fload rL_518_537_0_4_1_0 h0 hB1 (by omega) ?_
        intro z6 lz6 uz6 qz6
        refine And.intro ⟨rfl, by decide, by decide⟩ ?_
        refine fload rL_515_515_0_19_1_0 h0 hB1 (by omega) ?_
        intro z7 lz7 uz7 qz7
        intro z8 hz8 ez8 bz8
        intro z9 hz9 ez9 bz9
        refine And.intro (And.intro (by omega) (And.intro (by omega) (And.intro (by omega) rfl))) ?_
        intro z10 hz10 ez10 dz10
        refine And.intro ⟨rfl, by decide, by decide⟩ ?_
        refine fload rL_582_582_0_23_1_0 h0 hB1 (by omega) ?_
        intro z11 lz11 uz11 qz11
        intro z12 hz12 ez12 bz12
        refine And.intro (And.intro (by omega) (And.intro (by omega) (And.intro (by omega) rfl))) ?_
        intro z13 hz13 ez13 dz13
        refine And.intro (by omega) (And.intro ?_ ?_)
        · intro c14
          refine And.intro ⟨rfl, by decide, by decide⟩ ?_
          refine And.intro ⟨rfl, by decide⟩ (And.intro (by omega) ?_)
          refine fload rL_518_537_0_4_1_0 h0 hB1 (by omega) ?_
          intro z15 lz15 uz15 qz15
          intro z16 hz16 ez16 bz16
          refine fstore rS_518_537_0_4_1_0 (fzs_sub (by decide +kernel) hW) (by omega) (by omega) ?_
          intro IhB17 ehB17 hB17
          have t18 := fup_self ehB17
          intro z19 hz19 ez19 bz19
          refine Exists.intro xm_84 (And.intro mi_84 (And.intro ⟨rfl, rfl, rfl, rfl⟩ (And.intro rfl ?_)))
          refine fcall _ h0 (fzs_sub (by decide +kernel) hW) hB17 (ct_Cells_addAir_f5ee0 (fBz h0 hB17) (by omega) (by omega) (by omega)) ?_
          rintro IhB21 _ hB21 fhB21 rfl
          exact fcutJ (I := IhB21) (j := jc_Cells_flow_6f8f5_38) (lv' := [(0, .inr (.inr (some 514))), (1, .inl _), (2, .inl _), (3, .inl _), (4, .inl _), (5, .inl _)]) (And.intro rfl (And.intro rfl (And.intro rfl (And.intro rfl (And.intro rfl (And.intro rfl True.intro)))))) ⟨_, _, _, _, _, rfl, rfl, by omega, rfl⟩ (by omega)
        · intro c22
          refine And.intro ⟨rfl, by decide, by decide⟩ ?_
          refine And.intro ⟨rfl, by decide⟩ (And.intro (by omega) ?_)
          refine fload rL_518_537_0_4_1_0 h0 hB1 (by omega) ?_
          intro z23 lz23 uz23 qz23
          intro z24 hz24 ez24 bz24
          refine fstore rS_518_537_0_4_1_0 (fzs_sub (by decide +kernel) hW) (by omega) (by omega) ?_
          intro IhB25 ehB25 hB25
          have t26 := fup_self ehB25
          refine Exists.intro xm_84 (And.intro mi_84 (And.intro ⟨rfl, rfl, rfl, rfl⟩ (And.intro rfl ?_)))
          refine fcall _ h0 (fzs_sub (by decide +kernel) hW) hB25 (ct_Cells_addAir_f5ee0 (fBz h0 hB25) (by omega) (by omega) (by omega)) ?_
          rintro IhB28 _ hB28 fhB28 rfl
          exact fcutJ (I := IhB28) (j := jc_Cells_flow_6f8f5_38) (lv' := [(0, .inr (.inr (some 514))), (1, .inl _), (2, .inl _), (3, .inl _), (4, .inl _), (5, .inl _)]) (And.intro rfl (And.intro rfl (And.intro rfl (And.intro rfl (And.intro rfl (And.intro rfl True.intro)))))) ⟨_, _, _, _, _, rfl, rfl, by omega, rfl⟩ (by omega)
  · have hB0 := fB_self (zn := znJ) (K := fKc wz_7eac0) h0
    refine And.intro ⟨rfl, by decide, by decide⟩ ?_
    refine fload rL_580_580_0_23_1_0 h0 hB0 (by omega) ?_
    intro z29 lz29 uz29 qz29
    refine And.intro ⟨rfl, by decide, by decide⟩ ?_
    refine fload rL_581_581_0_23_1_0 h0 hB0 (by omega) ?_
    intro z30 lz30 uz30 qz30
    refine And.intro ⟨rfl, by decide, by decide⟩ ?_
    refine fload rL_515_515_0_19_1_0 h0 hB0 (by omega) ?_
    intro z31 lz31 uz31 qz31
    refine And.intro ⟨rfl, by decide, by decide⟩ ?_
    refine fload rL_515_515_0_19_1_0 h0 hB0 (by omega) ?_
    intro z32 lz32 uz32 qz32
    intro z33 hz33 ez33 bz33
    refine And.intro (by omega) (And.intro ?_ ?_)
    · intro c34
      exact fcutJ (I := I) (j := jc_Cells_flow_6f8f5_38) (lv' := [(0, .inr (.inr (some 514))), (1, .inl _), (2, .inl _), (3, .inl _), (4, .inl _), (5, .inl _)]) (And.intro rfl (And.intro rfl (And.intro rfl (And.intro rfl (And.intro rfl (And.intro rfl True.intro)))))) ⟨_, _, _, _, _, rfl, rfl, by omega, rfl⟩ (by omega)
    · intro c35
      exact rfl
abbrev jc_Cells_flowAll_87643_2 : Nat → fL → List fV → fH → Prop := fun m lv st I => ∃ (y1 : Int), lv = [(0, .inr (.inr (some 514))), (1, .inl y1)] ∧ st = [] ∧ (((0 ≤ y1 ∧ y1 ≤ 24))) ∧ m = (1 + 1 * (24 - y1) : Int).toNat
set_option maxRecDepth 8000 in
theorem ct_Cells_flowAll_87643 {I : fH}  (h0 : fB bsJ I)  : fC ρ base n F xTc vwCl xTys D dA la gJ (fbz bsJ znJ (fKc wz_7eac0) I) xm_88 [.inr (.inr (some 514))] I (fun _ r => r = none) := by
  have hW : fzs wz_7eac0 (fKc wz_7eac0) := fKc_ok _
  refine f_meth (rb := rbJ) (J := [(2, jc_Cells_flowAll_87643_2)]) 26 400 xG xin_88 x6_88 okJ (fB_self h0) ?_ ?_
  · refine List.forall_mem_cons.mpr ⟨?_, fun q h => absurd h List.not_mem_nil⟩
    · rintro m _ _ I1 hB1 ⟨y1, rfl, rfl, hb, hm⟩
      refine And.intro ⟨rfl, by decide, by decide⟩ (fgetf fb_514_10 h0 hB1 ?_)
      intro z1 lz1 uz1 qz1
      refine And.intro (by omega) (And.intro ?_ ?_)
      · intro c2
        exact rfl
      · intro c3
        refine And.intro ⟨rfl, by decide, by decide⟩ ?_
        refine fload rL_583_583_0_23_1_0 h0 hB1 (by omega) ?_
        intro z4 lz4 uz4 qz4
        refine And.intro (by omega) (And.intro ?_ ?_)
        · intro c5
          exact fcutJ (I := I1) (j := jc_Cells_flowAll_87643_2) (lv' := [(0, .inr (.inr (some 514))), (1, .inl _)]) (And.intro rfl (And.intro rfl True.intro)) ⟨_, rfl, rfl, by omega, rfl⟩ (by omega)
        · intro c6
          refine Exists.intro xm_89 (And.intro mi_89 (And.intro ⟨rfl, rfl, rfl, rfl⟩ (And.intro rfl ?_)))
          refine fcall _ h0 (fzs_sub (by decide +kernel) hW) hB1 (ct_Cells_flow_6f8f5 (fBz h0 hB1) (by omega)) ?_
          rintro IhB8 _ hB8 fhB8 rfl
          have t9 := fhB8 514 10 (by decide +kernel)
          exact fcutJ (I := IhB8) (j := jc_Cells_flowAll_87643_2) (lv' := [(0, .inr (.inr (some 514))), (1, .inl _)]) (And.intro rfl (And.intro rfl True.intro)) ⟨_, rfl, rfl, by omega, rfl⟩ (by omega)
  · have hB0 := fB_self (zn := znJ) (K := fKc wz_7eac0) h0
    exact fcutJ (I := I) (j := jc_Cells_flowAll_87643_2) (lv' := [(0, .inr (.inr (some 514))), (1, .inl _)]) (And.intro rfl (And.intro rfl True.intro)) ⟨_, rfl, rfl, by omega, rfl⟩ (by omega)
set_option maxRecDepth 8000 in
theorem ct_City_runProbe_75b59 {I : fH} {x1 : Int} (h0 : fB bsJ I) (ha1 : (0 ≤ x1 ∧ x1 ≤ 23)) : fC ρ base n F xTc vwCl xTys D dA la gJ (fbz bsJ znJ (fKc wz_8d85d) I) xm_87 [.inr (.inr (some 513)), .inl x1] I (fun _ r => r = none) := by
  have hW : fzs wz_8d85d (fKc wz_8d85d) := fKc_ok _
  refine f_meth (rb := rbJ) (J := []) 1 400 xG xin_87 x6_87 okJ (fB_self h0) ?_ ?_
  · exact fun q h => absurd h List.not_mem_nil
  · have hB0 := fB_self (zn := znJ) (K := fKc wz_8d85d) h0
    refine And.intro ⟨rfl, by decide, by decide⟩ ?_
    refine Exists.intro xm_55 (And.intro mi_55 (And.intro ⟨rfl, rfl, rfl, rfl⟩ (And.intro rfl ?_)))
    refine fcallp hB0 (ct_Works_isDropped_e5842 (fBz h0 hB0) (by omega)) ?_
    rintro _ ⟨z1, rfl, hz1⟩
    refine And.intro (by omega) (And.intro ?_ ?_)
    · intro c2
      exact rfl
    · intro c3
      refine And.intro ⟨rfl, by decide, by decide⟩ ?_
      refine And.intro ⟨rfl, by decide, by decide⟩ ?_
      refine And.intro ⟨rfl, by decide, by decide⟩ ?_
      refine And.intro ⟨rfl, by decide, by decide⟩ ?_
      refine fload rL_687_687_0_23_1_0 h0 hB0 (by omega) ?_
      intro z4 lz4 uz4 qz4
      refine And.intro (And.intro (by omega) (And.intro (by omega) rfl)) ?_
      intro z5 hz5
      refine fstore rS_687_687_0_23_1_0 (fzs_sub (by decide +kernel) hW) (by omega) (by omega) ?_
      intro IhB6 ehB6 hB6
      have t7 := fup_self ehB6
      refine And.intro ⟨rfl, by decide, by decide⟩ ?_
      refine And.intro ⟨rfl, by decide, by decide⟩ ?_
      refine fload rL_688_688_0_23_1_0 h0 hB6 (by omega) ?_
      intro z8 lz8 uz8 qz8
      refine And.intro ⟨rfl, by decide, by decide⟩ ?_
      refine And.intro ⟨rfl, by decide⟩ (And.intro (by omega) ?_)
      refine And.intro ⟨rfl, by decide, by decide⟩ ?_
      refine And.intro ⟨rfl, by decide, by decide⟩ ?_
      refine fload rL_687_687_0_23_1_0 h0 hB6 (by omega) ?_
      intro z9 lz9 uz9 qz9
      refine fload rL_697_697_0_60_1_0 h0 hB6 (by omega) ?_
      intro z10 lz10 uz10 qz10
      intro z11 hz11 ez11 bz11
      refine fstore rS_688_688_0_23_1_0 (fzs_sub (by decide +kernel) hW) (by omega) (by omega) ?_
      intro IhB12 ehB12 hB12
      have t13 := fup_self ehB12
      refine And.intro ⟨rfl, by decide, by decide⟩ ?_
      refine And.intro ⟨rfl, by decide, by decide⟩ ?_
      refine And.intro ⟨rfl, by decide, by decide⟩ ?_
      refine And.intro ⟨rfl, by decide, by decide⟩ ?_
      refine fload rL_688_688_0_23_1_0 h0 hB12 (by omega) ?_
      intro z14 lz14 uz14 qz14
      refine And.intro ⟨rfl, by decide, by decide⟩ ?_
      refine And.intro ⟨rfl, by decide, by decide⟩ ?_
      refine fload rL_683_683_0_23_1_0 h0 hB12 (by omega) ?_
      intro z15 lz15 uz15 qz15
      refine And.intro (by omega) (And.intro ?_ ?_)
      · intro c16
        refine fstore rS_686_686_0_23_1_0 (fzs_sub (by decide +kernel) hW) (by omega) (by omega) ?_
        intro IhB17 ehB17 hB17
        have t18 := fup_self ehB17
        exact rfl
      · intro c19
        refine fstore rS_686_686_0_23_1_0 (fzs_sub (by decide +kernel) hW) (by omega) (by omega) ?_
        intro IhB20 ehB20 hB20
        have t21 := fup_self ehB20
        exact rfl
set_option maxRecDepth 8000 in
theorem ct_City_runRotor_872a2 {I : fH} {x1 : Int} (h0 : fB bsJ I) (ha1 : (0 ≤ x1 ∧ x1 ≤ 23)) : fC ρ base n F xTc vwCl xTys D dA la gJ (fbz bsJ znJ (fKc wz_a50d7) I) xm_86 [.inr (.inr (some 513)), .inl x1] I (fun _ r => r = none) := by
  have hW : fzs wz_a50d7 (fKc wz_a50d7) := fKc_ok _
  refine f_meth (rb := rbJ) (J := []) 1 400 xG xin_86 x6_86 okJ (fB_self h0) ?_ ?_
  · exact fun q h => absurd h List.not_mem_nil
  · have hB0 := fB_self (zn := znJ) (K := fKc wz_a50d7) h0
    refine And.intro ⟨rfl, by decide, by decide⟩ ?_
    refine fload rL_694_694_0_5_1_0 h0 hB0 (by omega) ?_
    intro z1 lz1 uz1 qz1
    have pz1 := fld_at qz1 5 (by omega)
    refine And.intro ⟨rfl, by decide, by decide⟩ ?_
    refine And.intro ⟨rfl, by decide, by decide⟩ ?_
    refine fload rL_683_683_0_23_1_0 h0 hB0 (by omega) ?_
    intro z2 lz2 uz2 qz2
    refine And.intro (by omega) (And.intro ?_ ?_)
    · intro c3
      exact rfl
    · intro c4
      refine And.intro ⟨rfl, by decide, by decide⟩ ?_
      refine fload rL_694_694_0_5_1_0 h0 hB0 (by omega) ?_
      intro z5 lz5 uz5 qz5
      have pz5 := fld_at qz5 5 (by omega)
      refine And.intro ⟨rfl, by decide, by decide⟩ ?_
      refine And.intro ⟨rfl, by decide, by decide⟩ ?_
      refine fload rL_683_683_0_23_1_0 h0 hB0 (by omega) ?_
      intro z6 lz6 uz6 qz6
      intro z7 hz7 ez7 bz7
      refine fstore rS_694_694_0_5_1_0 (fzs_sub (by decide +kernel) hW) (by omega) (by omega) ?_
      intro IhB8 ehB8 hB8
      have t9 := fup_self ehB8
      have t10 := fup_at ehB8 5 (by omega)
      refine And.intro ⟨rfl, by decide, by decide⟩ (fgetf fb_513_6 h0 hB8 ?_)
      intro z11 lz11 uz11 qz11
      intro z12 hz12 ez12 bz12
      refine And.intro ⟨rfl, by decide, by decide⟩ (And.intro rfl (And.intro (Or.inl rfl) (fputf fb_513_6 (by decide +kernel) hW (by omega) ?_)))
      intro IhB13 ehB13 hB13
      have t14 : IhB13 694 5 = IhB8 694 5 := (congrFun (congrFun ehB13 694) 5).trans (fup_ne (by omega))
      exact rfl
set_option maxRecDepth 8000 in
theorem ct_Works_partForFoul_82e3d {I : fH} {x1 : Int} (h0 : fB bsJ I) (ha1 : (0 ≤ x1 ∧ x1 ≤ 23)) : fC ρ base n F xTc vwCl xTys D dA la gJ (fbz bsJ znJ (fKc []) I) xm_83 [.inr (.inr (some 675)), .inl x1] I (fun _ r => ∃ z, r = some (.inl z) ∧ ((-2147483648) ≤ z ∧ z ≤ 2147483647)) := by
  have hW : fzs [] (fKc []) := fKc_ok _
  refine f_meth (rb := rbJ) (J := []) 1 400 xG xin_83 x6_83 okJ (fB_self h0) ?_ ?_
  · exact fun q h => absurd h List.not_mem_nil
  · have hB0 := fB_self (zn := znJ) (K := fKc []) h0
    refine And.intro ⟨rfl, by decide, by decide⟩ ?_
    refine fload rL_683_683_0_23_1_0 h0 hB0 (by omega) ?_
    intro z1 lz1 uz1 qz1
    refine And.intro ⟨rfl, by decide, by decide⟩ ?_
    refine fload rL_680_680_0_23_1_0 h0 hB0 (by omega) ?_
    intro z2 lz2 uz2 qz2
    intro z3 hz3 ez3 bz3
    intro z4 hz4 ez4 bz4
    refine And.intro (And.intro (by omega) (And.intro (by omega) (And.intro (by omega) rfl))) ?_
    intro z5 hz5 ez5 dz5
    refine And.intro (True.intro) ?_
    exact ⟨_, rfl, by omega⟩
set_option maxRecDepth 8000 in
theorem ct_City_isDayAt_d574d {I : fH} {x1 : Int} (h0 : fB bsJ I) (ha1 : ((-2147483648) ≤ x1 ∧ x1 ≤ 2147483647)) : fC ρ base n F xTc vwCl xTys D dA la gJ (fbz bsJ znJ (fKc []) I) xm_70 [.inr (.inr (some 513)), .inl x1] I (fun _ r => ∃ z, r = some (.inl z) ∧ (0 ≤ z ∧ z ≤ 1)) := by
  have hW : fzs [] (fKc []) := fKc_ok _
  refine f_meth (rb := rbJ) (J := []) 1 400 xG xin_70 x6_70 okJ (fB_self h0) ?_ ?_
  · exact fun q h => absurd h List.not_mem_nil
  · have hB0 := fB_self (zn := znJ) (K := fKc []) h0
    refine And.intro ⟨rfl, by decide, by decide⟩ (fgetf fb_513_7 h0 hB0 ?_)
    intro z1 lz1 uz1 qz1
    refine And.intro (by omega) (And.intro ?_ ?_)
    · intro c2
      refine And.intro (⟨by omega, by omega⟩) ?_
      exact ⟨_, rfl, by omega⟩
    · intro c3
      refine And.intro ⟨rfl, by decide, by decide⟩ (fgetf fb_513_7 h0 hB0 ?_)
      intro z4 lz4 uz4 qz4
      refine And.intro (And.intro (by omega) (And.intro (by omega) (And.intro (by omega) rfl))) ?_
      intro z5 hz5 ez5 dz5
      refine And.intro ⟨rfl, by decide, by decide⟩ (fgetf fb_513_7 h0 hB0 ?_)
      intro z6 lz6 uz6 qz6
      refine And.intro (And.intro (by omega) (And.intro (by omega) (And.intro (by omega) rfl))) ?_
      intro z7 hz7 ez7 dz7
      have dz7 := dz7 (by omega) (by omega)
      change _ = _ / _ at dz7
      refine And.intro (by omega) (And.intro ?_ ?_)
      · intro c8
        refine And.intro (⟨by omega, by omega⟩) ?_
        exact ⟨_, rfl, by omega⟩
      · intro c9
        refine And.intro (⟨by omega, by omega⟩) ?_
        exact ⟨_, rfl, by omega⟩
set_option maxRecDepth 8000 in
theorem ct_City_isDay_d6f98 {I : fH}  (h0 : fB bsJ I)  : fC ρ base n F xTc vwCl xTys D dA la gJ (fbz bsJ znJ (fKc []) I) xm_69 [.inr (.inr (some 513))] I (fun _ r => ∃ z, r = some (.inl z) ∧ (0 ≤ z ∧ z ≤ 1)) := by
  have hW : fzs [] (fKc []) := fKc_ok _
  refine f_meth (rb := rbJ) (J := []) 1 400 xG xin_69 x6_69 okJ (fB_self h0) ?_ ?_
  · exact fun q h => absurd h List.not_mem_nil
  · have hB0 := fB_self (zn := znJ) (K := fKc []) h0
    refine And.intro ⟨rfl, by decide, by decide⟩ (fgetf fb_513_6 h0 hB0 ?_)
    intro z1 lz1 uz1 qz1
    refine Exists.intro xm_70 (And.intro mi_70 (And.intro ⟨rfl, rfl, rfl, rfl⟩ (And.intro rfl ?_)))
    refine fcallp hB0 (ct_City_isDayAt_d574d (fBz h0 hB0) (by omega)) ?_
    rintro _ ⟨z2, rfl, hz2⟩
    refine And.intro (⟨by omega, by omega⟩) ?_
    exact ⟨_, rfl, by omega⟩
set_option maxRecDepth 8000 in
theorem ct_City_runGarden_2acfe {I : fH} {x1 : Int} (h0 : fB bsJ I) (ha1 : (0 ≤ x1 ∧ x1 ≤ 23)) : fC ρ base n F xTc vwCl xTys D dA la gJ (fbz bsJ znJ (fKc wz_7eac0) I) xm_82 [.inr (.inr (some 513)), .inl x1] I (fun _ r => r = none) := by
  have hW : fzs wz_7eac0 (fKc wz_7eac0) := fKc_ok _
  refine f_meth (rb := rbJ) (J := []) 1 400 xG xin_82 x6_82 okJ (fB_self h0) ?_ ?_
  · exact fun q h => absurd h List.not_mem_nil
  · have hB0 := fB_self (zn := znJ) (K := fKc wz_7eac0) h0
    refine Exists.intro xm_69 (And.intro mi_69 (And.intro ⟨rfl, rfl, rfl, rfl⟩ (And.intro rfl ?_)))
    refine fcallp hB0 (ct_City_isDay_d6f98 (fBz h0 hB0)) ?_
    rintro _ ⟨z1, rfl, hz1⟩
    refine And.intro (by omega) (And.intro ?_ ?_)
    · intro c2
      refine And.intro ⟨rfl, by decide, by decide⟩ ?_
      refine And.intro ⟨rfl, by decide, by decide⟩ ?_
      refine fload rL_677_677_0_23_1_0 h0 hB0 (by omega) ?_
      intro z3 lz3 uz3 qz3
      refine And.intro ⟨rfl, by decide, by decide⟩ ?_
      refine Exists.intro xm_83 (And.intro mi_83 (And.intro ⟨rfl, rfl, rfl, rfl⟩ (And.intro rfl ?_)))
      refine fcallp hB0 (ct_Works_partForFoul_82e3d (fBz h0 hB0) (by omega)) ?_
      rintro _ ⟨z4, rfl, hz4⟩
      refine And.intro ⟨rfl, by decide, by decide⟩ ?_
      refine And.intro ⟨rfl, by decide, by decide⟩ ?_
      refine And.intro ⟨rfl, by decide⟩ (And.intro (by omega) ?_)
      refine fload rL_518_537_0_4_1_0 h0 hB0 (by omega) ?_
      intro z5 lz5 uz5 qz5
      refine And.intro (And.intro (by omega) (And.intro (by omega) rfl)) ?_
      intro z6 hz6
      refine And.intro ⟨rfl, by decide, by decide⟩ ?_
      refine And.intro ⟨rfl, by decide, by decide⟩ ?_
      refine And.intro ⟨rfl, by decide⟩ (And.intro (by omega) ?_)
      refine fload rL_518_537_0_4_1_0 h0 hB0 (by omega) ?_
      intro z7 lz7 uz7 qz7
      intro z8 hz8 ez8 bz8
      refine fstore rS_518_537_0_4_1_0 (fzs_sub (by decide +kernel) hW) (by omega) (by omega) ?_
      intro IhB9 ehB9 hB9
      have t10 := fup_self ehB9
      refine And.intro ⟨rfl, by decide, by decide⟩ ?_
      refine Exists.intro xm_84 (And.intro mi_84 (And.intro ⟨rfl, rfl, rfl, rfl⟩ (And.intro rfl ?_)))
      refine fcall _ h0 (fzs_sub (by decide +kernel) hW) hB9 (ct_Cells_addAir_f5ee0 (fBz h0 hB9) (by omega) (by omega) (by omega)) ?_
      rintro IhB12 _ hB12 fhB12 rfl
      exact rfl
    · intro c13
      exact rfl
set_option maxRecDepth 8000 in
theorem ct_Works_wear_b8097 {I : fH} {x1 : Int} {x2 : Int} (h0 : fB bsJ I) (ha1 : (0 ≤ x1 ∧ x1 ≤ 23)) (ha2 : ((-2147483648) ≤ x2 ∧ x2 ≤ 2147483647)) : fC ρ base n F xTc vwCl xTys D dA la gJ (fbz bsJ znJ (fKc wz_e4d0d) I) xm_80 [.inr (.inr (some 675)), .inl x1, .inl x2] I (fun _ r => r = none) := by
  have hW : fzs wz_e4d0d (fKc wz_e4d0d) := fKc_ok _
  refine f_meth (rb := rbJ) (J := []) 1 400 xG xin_80 x6_80 okJ (fB_self h0) ?_ ?_
  · exact fun q h => absurd h List.not_mem_nil
  · have hB0 := fB_self (zn := znJ) (K := fKc wz_e4d0d) h0
    refine And.intro ⟨rfl, by decide, by decide⟩ ?_
    refine fload rL_685_685_0_23_1_0 h0 hB0 (by omega) ?_
    intro z1 lz1 uz1 qz1
    intro z2 hz2 ez2 bz2
    refine And.intro (And.intro (by omega) (And.intro (by omega) (And.intro (by omega) rfl))) ?_
    intro z3 hz3 ez3 dz3
    refine And.intro ⟨rfl, by decide, by decide⟩ ?_
    refine fload rL_683_683_0_23_1_0 h0 hB0 (by omega) ?_
    intro z4 lz4 uz4 qz4
    refine And.intro (And.intro (by omega) (And.intro (by omega) rfl)) ?_
    intro z5 hz5
    refine And.intro ⟨rfl, by decide, by decide⟩ ?_
    refine fload rL_683_683_0_23_1_0 h0 hB0 (by omega) ?_
    intro z6 lz6 uz6 qz6
    intro z7 hz7 ez7 bz7
    refine fstore rS_683_683_0_23_1_0 (fzs_sub (by decide +kernel) hW) (by omega) (by omega) ?_
    intro IhB8 ehB8 hB8
    have t9 := fup_self ehB8
    intro z10 hz10 ez10 bz10
    intro z11 hz11 ez11 bz11
    refine And.intro ⟨rfl, by decide, by decide⟩ ?_
    refine And.intro (And.intro (by omega) (And.intro (by omega) rfl)) ?_
    intro z12 hz12
    refine fstore rS_685_685_0_23_1_0 (fzs_sub (by decide +kernel) hW) (by omega) (by omega) ?_
    intro IhB13 ehB13 hB13
    have t14 := fup_self ehB13
    exact rfl
set_option maxRecDepth 8000 in
theorem ct_City_loseGas_9b857 {I : fH} {x1 : Int} {x2 : Int} (h0 : fB bsJ I) (ha1 : (0 ≤ x1 ∧ x1 ≤ 23)) (ha2 : ((-2147483648) ≤ x2 ∧ x2 ≤ 2147483647)) : fC ρ base n F xTc vwCl xTys D dA la gJ (fbz bsJ znJ (fKc wz_59734) I) xm_81 [.inr (.inr (some 513)), .inl x1, .inl x2] I (fun _ r => r = none) := by
  have hW : fzs wz_59734 (fKc wz_59734) := fKc_ok _
  refine f_meth (rb := rbJ) (J := []) 1 400 xG xin_81 x6_81 okJ (fB_self h0) ?_ ?_
  · exact fun q h => absurd h List.not_mem_nil
  · have hB0 := fB_self (zn := znJ) (K := fKc wz_59734) h0
    refine And.intro ⟨rfl, by decide, by decide⟩ ?_
    refine And.intro ⟨rfl, by decide, by decide⟩ ?_
    refine fload rL_684_684_0_23_1_0 h0 hB0 (by omega) ?_
    intro z1 lz1 uz1 qz1
    intro z2 hz2 ez2 bz2
    refine fstore rS_684_684_0_23_1_0 (fzs_sub (by decide +kernel) hW) (by omega) (by omega) ?_
    intro IhB3 ehB3 hB3
    have t4 := fup_self ehB3
    refine And.intro ⟨rfl, by decide, by decide⟩ ?_
    refine And.intro ⟨rfl, by decide, by decide⟩ ?_
    refine And.intro ⟨rfl, by decide, by decide⟩ ?_
    refine And.intro ⟨rfl, by decide, by decide⟩ ?_
    refine fload rL_677_677_0_23_1_0 h0 hB3 (by omega) ?_
    intro z5 lz5 uz5 qz5
    refine And.intro ⟨rfl, by decide⟩ (And.intro (by omega) ?_)
    refine fload rL_539_558_0_4_1_0 h0 hB3 (by omega) ?_
    intro z6 lz6 uz6 qz6
    intro z7 hz7 ez7 bz7
    refine fstore rS_539_558_0_4_1_0 (fzs_sub (by decide +kernel) hW) (by omega) (by omega) ?_
    intro IhB8 ehB8 hB8
    have t9 := fup_self ehB8
    exact rfl
abbrev jc_Works_isPatched_0f28c_2 : Nat → fL → List fV → fH → Prop := fun m lv st I => ∃ (y1 : Int) (y2 : Int), lv = [(0, .inr (.inr (some 675))), (1, .inl y1), (2, .inl y2)] ∧ st = [] ∧ (((0 ≤ y1 ∧ y1 ≤ 23) ∧ (0 ≤ y2 ∧ y2 ≤ 24))) ∧ m = (1 + 1 * (24 - y2) : Int).toNat
set_option maxRecDepth 8000 in
theorem ct_Works_isPatched_0f28c {I : fH} {x1 : Int} (h0 : fB bsJ I) (ha1 : (0 ≤ x1 ∧ x1 ≤ 23)) : fC ρ base n F xTc vwCl xTys D dA la gJ (fbz bsJ znJ (fKc []) I) xm_79 [.inr (.inr (some 675)), .inl x1] I (fun _ r => ∃ z, r = some (.inl z) ∧ (0 ≤ z ∧ z ≤ 1)) := by
  have hW : fzs [] (fKc []) := fKc_ok _
  refine f_meth (rb := rbJ) (J := [(2, jc_Works_isPatched_0f28c_2)]) 26 400 xG xin_79 x6_79 okJ (fB_self h0) ?_ ?_
  · refine List.forall_mem_cons.mpr ⟨?_, fun q h => absurd h List.not_mem_nil⟩
    · rintro m _ _ I1 hB1 ⟨y1, y2, rfl, rfl, hb, hm⟩
      refine And.intro ⟨rfl, by decide, by decide⟩ (fgetf fb_675_13 h0 hB1 ?_)
      intro z1 lz1 uz1 qz1
      refine And.intro (by omega) (And.intro ?_ ?_)
      · intro c2
        refine And.intro (⟨by omega, by omega⟩) ?_
        exact ⟨_, rfl, by omega⟩
      · intro c3
        refine And.intro ⟨rfl, by decide, by decide⟩ ?_
        refine fload rL_676_676_0_23_1_0 h0 hB1 (by omega) ?_
        intro z4 lz4 uz4 qz4
        refine And.intro (by omega) (And.intro ?_ ?_)
        · intro c5
          exact fcutJ (I := I1) (j := jc_Works_isPatched_0f28c_2) (lv' := [(0, .inr (.inr (some 675))), (1, .inl _), (2, .inl _)]) (And.intro rfl (And.intro rfl (And.intro rfl True.intro))) ⟨_, _, rfl, rfl, by omega, rfl⟩ (by omega)
        · intro c6
          refine And.intro ⟨rfl, by decide, by decide⟩ ?_
          refine fload rL_683_683_0_23_1_0 h0 hB1 (by omega) ?_
          intro z7 lz7 uz7 qz7
          refine And.intro (by omega) (And.intro ?_ ?_)
          · intro c8
            exact fcutJ (I := I1) (j := jc_Works_isPatched_0f28c_2) (lv' := [(0, .inr (.inr (some 675))), (1, .inl _), (2, .inl _)]) (And.intro rfl (And.intro rfl (And.intro rfl True.intro))) ⟨_, _, rfl, rfl, by omega, rfl⟩ (by omega)
          · intro c9
            refine And.intro ⟨rfl, by decide, by decide⟩ ?_
            refine fload rL_679_679_0_23_1_0 h0 hB1 (by omega) ?_
            intro z10 lz10 uz10 qz10
            refine And.intro (by omega) (And.intro ?_ ?_)
            · intro c11
              exact fcutJ (I := I1) (j := jc_Works_isPatched_0f28c_2) (lv' := [(0, .inr (.inr (some 675))), (1, .inl _), (2, .inl _)]) (And.intro rfl (And.intro rfl (And.intro rfl True.intro))) ⟨_, _, rfl, rfl, by omega, rfl⟩ (by omega)
            · intro c12
              refine And.intro ⟨rfl, by decide, by decide⟩ ?_
              refine fload rL_686_686_0_23_1_0 h0 hB1 (by omega) ?_
              intro z13 lz13 uz13 qz13
              refine And.intro (by omega) (And.intro ?_ ?_)
              · intro c14
                exact fcutJ (I := I1) (j := jc_Works_isPatched_0f28c_2) (lv' := [(0, .inr (.inr (some 675))), (1, .inl _), (2, .inl _)]) (And.intro rfl (And.intro rfl (And.intro rfl True.intro))) ⟨_, _, rfl, rfl, by omega, rfl⟩ (by omega)
              · intro c15
                refine And.intro (⟨by omega, by omega⟩) ?_
                exact ⟨_, rfl, by omega⟩
  · have hB0 := fB_self (zn := znJ) (K := fKc []) h0
    exact fcutJ (I := I) (j := jc_Works_isPatched_0f28c_2) (lv' := [(0, .inr (.inr (some 675))), (1, .inl _), (2, .inl _)]) (And.intro rfl (And.intro rfl (And.intro rfl True.intro))) ⟨_, _, rfl, rfl, by omega, rfl⟩ (by omega)
set_option maxRecDepth 8000 in
theorem ct_City_runSkin_4289c {I : fH} {x1 : Int} (h0 : fB bsJ I) (ha1 : (0 ≤ x1 ∧ x1 ≤ 23)) : fC ρ base n F xTc vwCl xTys D dA la gJ (fbz bsJ znJ (fKc wz_a2d33) I) xm_78 [.inr (.inr (some 513)), .inl x1] I (fun _ r => r = none) := by
  have hW : fzs wz_a2d33 (fKc wz_a2d33) := fKc_ok _
  refine f_meth (rb := rbJ) (J := []) 1 400 xG xin_78 x6_78 okJ (fB_self h0) ?_ ?_
  · exact fun q h => absurd h List.not_mem_nil
  · have hB0 := fB_self (zn := znJ) (K := fKc wz_a2d33) h0
    refine And.intro ⟨rfl, by decide, by decide⟩ ?_
    refine Exists.intro xm_79 (And.intro mi_79 (And.intro ⟨rfl, rfl, rfl, rfl⟩ (And.intro rfl ?_)))
    refine fcallp hB0 (ct_Works_isPatched_0f28c (fBz h0 hB0) (by omega)) ?_
    rintro _ ⟨z1, rfl, hz1⟩
    refine And.intro (by omega) (And.intro ?_ ?_)
    · intro c2
      refine And.intro ⟨rfl, by decide, by decide⟩ ?_
      refine And.intro ⟨rfl, by decide, by decide⟩ ?_
      refine And.intro ⟨rfl, by decide⟩ (And.intro (by omega) ?_)
      refine Exists.intro xm_31 (And.intro mi_31 (And.intro ⟨rfl, rfl, rfl, rfl⟩ (And.intro rfl ?_)))
      refine fcallp hB0 (ct_City_level_cee1f (fBz h0 hB0)) ?_
      rintro _ ⟨z3, rfl, hz3⟩
      refine fload rL_698_698_0_60_1_0 h0 hB0 (by omega) ?_
      intro z4 lz4 uz4 qz4
      refine And.intro (And.intro (by omega) (And.intro (by omega) (And.intro (by omega) rfl))) ?_
      intro z5 hz5 ez5 dz5
      refine Exists.intro xm_80 (And.intro mi_80 (And.intro ⟨rfl, rfl, rfl, rfl⟩ (And.intro rfl ?_)))
      refine fcall _ h0 (fzs_sub (by decide +kernel) hW) hB0 (ct_Works_wear_b8097 (fBz h0 hB0) (by omega) (by omega)) ?_
      rintro IhB7 _ hB7 fhB7 rfl
      refine And.intro ⟨rfl, by decide, by decide⟩ ?_
      refine And.intro ⟨rfl, by decide, by decide⟩ ?_
      refine fload rL_683_683_0_23_1_0 h0 hB7 (by omega) ?_
      intro z8 lz8 uz8 qz8
      refine And.intro (by omega) (And.intro ?_ ?_)
      · intro c9
        exact rfl
      · intro c10
        refine And.intro ⟨rfl, by decide, by decide⟩ ?_
        refine And.intro ⟨rfl, by decide, by decide⟩ ?_
        refine fload rL_684_684_0_23_1_0 h0 hB7 (by omega) ?_
        intro z11 lz11 uz11 qz11
        refine And.intro (And.intro (by omega) (And.intro (by omega) (And.intro (by omega) rfl))) ?_
        intro z12 hz12 ez12 dz12
        intro z13 hz13 ez13 bz13
        refine And.intro (And.intro (by omega) (And.intro (by omega) rfl)) ?_
        intro z14 hz14
        refine Exists.intro xm_81 (And.intro mi_81 (And.intro ⟨rfl, rfl, rfl, rfl⟩ (And.intro rfl ?_)))
        refine fcall _ h0 (fzs_sub (by decide +kernel) hW) hB7 (ct_City_loseGas_9b857 (fBz h0 hB7) (by omega) (by omega)) ?_
        rintro IhB16 _ hB16 fhB16 rfl
        exact rfl
    · intro c17
      exact rfl
set_option maxRecDepth 8000 in
theorem ct_City_runStill_08bd2 {I : fH} {x1 : Int} (h0 : fB bsJ I) (ha1 : (0 ≤ x1 ∧ x1 ≤ 23)) : fC ρ base n F xTc vwCl xTys D dA la gJ (fbz bsJ znJ (fKc wz_7903c) I) xm_85 [.inr (.inr (some 513)), .inl x1] I (fun _ r => r = none) := by
  have hW : fzs wz_7903c (fKc wz_7903c) := fKc_ok _
  refine f_meth (rb := rbJ) (J := []) 1 400 xG xin_85 x6_85 okJ (fB_self h0) ?_ ?_
  · exact fun q h => absurd h List.not_mem_nil
  · have hB0 := fB_self (zn := znJ) (K := fKc wz_7903c) h0
    refine And.intro ⟨rfl, by decide, by decide⟩ ?_
    refine fload rL_694_694_0_5_1_0 h0 hB0 (by omega) ?_
    intro z1 lz1 uz1 qz1
    have pz1 := fld_at qz1 5 (by omega)
    refine And.intro (by omega) (And.intro ?_ ?_)
    · intro c2
      refine And.intro ⟨rfl, by decide, by decide⟩ ?_
      refine fload rL_694_694_0_5_1_0 h0 hB0 (by omega) ?_
      intro z3 lz3 uz3 qz3
      have pz3 := fld_at qz3 5 (by omega)
      refine fstore rS_694_694_0_5_1_0 (fzs_sub (by decide +kernel) hW) (by omega) (by omega) ?_
      intro IhB4 ehB4 hB4
      have t5 := fup_self ehB4
      have t6 := fup_at ehB4 5 (by omega)
      refine And.intro ⟨rfl, by decide, by decide⟩ ?_
      refine And.intro ⟨rfl, by decide, by decide⟩ ?_
      refine fload rL_677_677_0_23_1_0 h0 hB4 (by omega) ?_
      intro z7 lz7 uz7 qz7
      refine And.intro ⟨rfl, by decide, by decide⟩ ?_
      refine Exists.intro xm_83 (And.intro mi_83 (And.intro ⟨rfl, rfl, rfl, rfl⟩ (And.intro rfl ?_)))
      refine fcallp hB4 (ct_Works_partForFoul_82e3d (fBz h0 hB4) (by omega)) ?_
      rintro _ ⟨z8, rfl, hz8⟩
      refine And.intro ⟨rfl, by decide, by decide⟩ ?_
      refine And.intro ⟨rfl, by decide, by decide⟩ ?_
      refine And.intro ⟨rfl, by decide⟩ (And.intro (by omega) ?_)
      refine fload rL_518_537_0_4_1_0 h0 hB4 (by omega) ?_
      intro z9 lz9 uz9 qz9
      refine And.intro (And.intro (by omega) (And.intro (by omega) rfl)) ?_
      intro z10 hz10
      refine And.intro ⟨rfl, by decide, by decide⟩ ?_
      refine And.intro ⟨rfl, by decide, by decide⟩ ?_
      refine And.intro ⟨rfl, by decide⟩ (And.intro (by omega) ?_)
      refine fload rL_518_537_0_4_1_0 h0 hB4 (by omega) ?_
      intro z11 lz11 uz11 qz11
      intro z12 hz12 ez12 bz12
      refine fstore rS_518_537_0_4_1_0 (fzs_sub (by decide +kernel) hW) (by omega) (by omega) ?_
      intro IhB13 ehB13 hB13
      have t14 := fup_self ehB13
      have t15 : IhB13 694 5 = IhB4 694 5 := (congrFun (congrFun ehB13 694) 5).trans (fup_ne (by omega))
      refine And.intro ⟨rfl, by decide, by decide⟩ ?_
      refine And.intro (And.intro (by omega) (And.intro (by omega) (And.intro (by omega) rfl))) ?_
      intro z16 hz16 ez16 dz16
      refine Exists.intro xm_84 (And.intro mi_84 (And.intro ⟨rfl, rfl, rfl, rfl⟩ (And.intro rfl ?_)))
      refine fcall _ h0 (fzs_sub (by decide +kernel) hW) hB13 (ct_Cells_addAir_f5ee0 (fBz h0 hB13) (by omega) (by omega) (by omega)) ?_
      rintro IhB18 _ hB18 fhB18 rfl
      have t19 := fhB18 694 5 (by decide +kernel)
      refine And.intro ⟨rfl, by decide, by decide⟩ ?_
      refine And.intro (And.intro (by omega) (And.intro (by omega) (And.intro (by omega) rfl))) ?_
      intro z20 hz20 ez20 dz20
      intro z21 hz21 ez21 bz21
      refine Exists.intro xm_84 (And.intro mi_84 (And.intro ⟨rfl, rfl, rfl, rfl⟩ (And.intro rfl ?_)))
      refine fcall _ h0 (fzs_sub (by decide +kernel) hW) hB18 (ct_Cells_addAir_f5ee0 (fBz h0 hB18) (by omega) (by omega) (by omega)) ?_
      rintro IhB23 _ hB23 fhB23 rfl
      have t24 := fhB23 694 5 (by decide +kernel)
      exact rfl
    · intro c25
      exact rfl
set_option maxRecDepth 8000 in
theorem ct_City_runWork_0e434 {I : fH} {x1 : Int} (h0 : fB bsJ I) (ha1 : (0 ≤ x1 ∧ x1 ≤ 23)) : fC ρ base n F xTc vwCl xTys D dA la gJ (fbz bsJ znJ (fKc wz_791b2) I) xm_77 [.inr (.inr (some 513)), .inl x1] I (fun _ r => r = none) := by
  have hW : fzs wz_791b2 (fKc wz_791b2) := fKc_ok _
  refine f_meth (rb := rbJ) (J := []) 1 400 xG xin_77 x6_77 okJ (fB_self h0) ?_ ?_
  · exact fun q h => absurd h List.not_mem_nil
  · have hB0 := fB_self (zn := znJ) (K := fKc wz_791b2) h0
    refine And.intro ⟨rfl, by decide, by decide⟩ ?_
    refine And.intro ⟨rfl, by decide, by decide⟩ ?_
    refine fload rL_676_676_0_23_1_0 h0 hB0 (by omega) ?_
    intro z1 lz1 uz1 qz1
    refine And.intro (by omega) (And.intro ?_ ?_)
    · refine And.intro (fun ex => ?_) (And.intro (fun ex => ?_) (And.intro (fun ex => ?_) (And.intro (fun ex => ?_) (And.intro (fun ex => ?_) (And.intro (fun ex => ?_) (True.intro))))))
      · skip
        refine Exists.intro xm_78 (And.intro mi_78 (And.intro ⟨rfl, rfl, rfl, rfl⟩ (And.intro rfl ?_)))
        refine fcall _ h0 (fzs_sub (by decide +kernel) hW) hB0 (ct_City_runSkin_4289c (fBz h0 hB0) (by omega)) ?_
        rintro IhB3 _ hB3 fhB3 rfl
        exact rfl
      · skip
        refine Exists.intro xm_82 (And.intro mi_82 (And.intro ⟨rfl, rfl, rfl, rfl⟩ (And.intro rfl ?_)))
        refine fcall _ h0 (fzs_sub (by decide +kernel) hW) hB0 (ct_City_runGarden_2acfe (fBz h0 hB0) (by omega)) ?_
        rintro IhB5 _ hB5 fhB5 rfl
        exact rfl
      · skip
        refine Exists.intro xm_85 (And.intro mi_85 (And.intro ⟨rfl, rfl, rfl, rfl⟩ (And.intro rfl ?_)))
        refine fcall _ h0 (fzs_sub (by decide +kernel) hW) hB0 (ct_City_runStill_08bd2 (fBz h0 hB0) (by omega)) ?_
        rintro IhB7 _ hB7 fhB7 rfl
        exact rfl
      · skip
        refine Exists.intro xm_86 (And.intro mi_86 (And.intro ⟨rfl, rfl, rfl, rfl⟩ (And.intro rfl ?_)))
        refine fcall _ h0 (fzs_sub (by decide +kernel) hW) hB0 (ct_City_runRotor_872a2 (fBz h0 hB0) (by omega)) ?_
        rintro IhB9 _ hB9 fhB9 rfl
        exact rfl
      · skip
        refine And.intro ⟨rfl, by decide, by decide⟩ ?_
        refine And.intro ⟨rfl, by decide, by decide⟩ ?_
        refine fload rL_684_684_0_23_1_0 h0 hB0 (by omega) ?_
        intro z10 lz10 uz10 qz10
        intro z11 hz11 ez11 bz11
        refine fstore rS_684_684_0_23_1_0 (fzs_sub (by decide +kernel) hW) (by omega) (by omega) ?_
        intro IhB12 ehB12 hB12
        have t13 := fup_self ehB12
        refine And.intro ⟨rfl, by decide, by decide⟩ ?_
        refine And.intro ⟨rfl, by decide, by decide⟩ ?_
        refine And.intro ⟨rfl, by decide, by decide⟩ ?_
        refine And.intro ⟨rfl, by decide, by decide⟩ ?_
        refine fload rL_684_684_0_23_1_0 h0 hB12 (by omega) ?_
        intro z14 lz14 uz14 qz14
        refine And.intro (by omega) (And.intro ?_ ?_)
        · intro c15
          refine fstore rS_686_686_0_23_1_0 (fzs_sub (by decide +kernel) hW) (by omega) (by omega) ?_
          intro IhB16 ehB16 hB16
          have t17 := fup_self ehB16
          exact rfl
        · intro c18
          refine fstore rS_686_686_0_23_1_0 (fzs_sub (by decide +kernel) hW) (by omega) (by omega) ?_
          intro IhB19 ehB19 hB19
          have t20 := fup_self ehB19
          exact rfl
      · skip
        refine Exists.intro xm_87 (And.intro mi_87 (And.intro ⟨rfl, rfl, rfl, rfl⟩ (And.intro rfl ?_)))
        refine fcall _ h0 (fzs_sub (by decide +kernel) hW) hB0 (ct_City_runProbe_75b59 (fBz h0 hB0) (by omega)) ?_
        rintro IhB22 _ hB22 fhB22 rfl
        exact rfl
    · intro c23
      exact rfl
abbrev jc_City_passMinute_b0540_13 : Nat → fL → List fV → fH → Prop := fun m lv st I => ∃ (y1 : Int), lv = [(0, .inr (.inr (some 513))), (1, .inl y1)] ∧ st = [] ∧ (((0 ≤ y1 ∧ y1 ≤ 24))) ∧ m = (26 + 1 * (24 - y1) : Int).toNat
abbrev jc_City_passMinute_b0540_75 : Nat → fL → List fV → fH → Prop := fun m lv st I => ∃ (y1 : Int), lv = [(0, .inr (.inr (some 513))), (1, .inl y1)] ∧ st = [] ∧ (((0 ≤ y1 ∧ y1 ≤ 24))) ∧ m = (1 + 1 * (24 - y1) : Int).toNat
set_option maxRecDepth 8000 in
theorem ct_City_passMinute_b0540 {I : fH}  (h0 : fB bsJ I)  : fC ρ base n F xTc vwCl xTys D dA la gJ (fbz bsJ znJ (fKc wz_f7c52) I) xm_73 [.inr (.inr (some 513))] I (fun _ r => r = none) := by
  have hW : fzs wz_f7c52 (fKc wz_f7c52) := fKc_ok _
  refine f_meth (rb := rbJ) (J := [(13, jc_City_passMinute_b0540_13), (75, jc_City_passMinute_b0540_75)]) 51 400 xG xin_73 x6_73 okJ (fB_self h0) ?_ ?_
  · refine List.forall_mem_cons.mpr ⟨?_, List.forall_mem_cons.mpr ⟨?_, fun q h => absurd h List.not_mem_nil⟩⟩
    · rintro m _ _ I1 hB1 ⟨y1, rfl, rfl, hb, hm⟩
      refine And.intro ⟨rfl, by decide, by decide⟩ ?_
      refine And.intro ⟨rfl, by decide, by decide⟩ (fgetf fb_675_13 h0 hB1 ?_)
      intro z1 lz1 uz1 qz1
      refine And.intro (by omega) (And.intro ?_ ?_)
      · intro c2
        refine And.intro ⟨rfl, by decide, by decide⟩ ?_
        refine Exists.intro xm_88 (And.intro mi_88 (And.intro ⟨rfl, rfl, rfl, rfl⟩ (And.intro rfl ?_)))
        refine fcall _ h0 (fzs_sub (by decide +kernel) hW) hB1 (ct_Cells_flowAll_87643 (fBz h0 hB1)) ?_
        rintro IhB4 _ hB4 fhB4 rfl
        have t5 := fhB4 675 13 (by decide +kernel)
        refine And.intro ⟨rfl, by decide, by decide⟩ ?_
        refine Exists.intro xm_90 (And.intro mi_90 (And.intro ⟨rfl, rfl, rfl, rfl⟩ (And.intro rfl ?_)))
        refine fcall _ h0 (fzs_sub (by decide +kernel) hW) hB4 (ct_Cells_leakAll_a583d (fBz h0 hB4)) ?_
        rintro IhB7 _ hB7 fhB7 rfl
        have t8 := fhB7 675 13 (by decide +kernel)
        exact fcutJ (I := IhB7) (j := jc_City_passMinute_b0540_75) (lv' := [(0, .inr (.inr (some 513))), (1, .inl _)]) (And.intro rfl (And.intro rfl True.intro)) ⟨_, rfl, rfl, by omega, rfl⟩ (by omega)
      · intro c9
        refine And.intro ⟨rfl, by decide, by decide⟩ ?_
        refine And.intro ⟨rfl, by decide, by decide⟩ ?_
        refine fload rL_679_679_0_23_1_0 h0 hB1 (by omega) ?_
        intro z10 lz10 uz10 qz10
        refine And.intro (by omega) (And.intro ?_ ?_)
        · intro c11
          exact fcutJ (I := I1) (j := jc_City_passMinute_b0540_13) (lv' := [(0, .inr (.inr (some 513))), (1, .inl _)]) (And.intro rfl (And.intro rfl True.intro)) ⟨_, rfl, rfl, by omega, rfl⟩ (by omega)
        · intro c12
          refine And.intro ⟨rfl, by decide, by decide⟩ ?_
          refine Exists.intro xm_50 (And.intro mi_50 (And.intro ⟨rfl, rfl, rfl, rfl⟩ (And.intro rfl ?_)))
          refine fcallp hB1 (ct_Works_isGone_bce90 (fBz h0 hB1) (by omega)) ?_
          rintro _ ⟨z13, rfl, hz13⟩
          refine And.intro (by omega) (And.intro ?_ ?_)
          · intro c14
            exact fcutJ (I := I1) (j := jc_City_passMinute_b0540_13) (lv' := [(0, .inr (.inr (some 513))), (1, .inl _)]) (And.intro rfl (And.intro rfl True.intro)) ⟨_, rfl, rfl, by omega, rfl⟩ (by omega)
          · intro c15
            refine Exists.intro xm_77 (And.intro mi_77 (And.intro ⟨rfl, rfl, rfl, rfl⟩ (And.intro rfl ?_)))
            refine fcall _ h0 (fzs_sub (by decide +kernel) hW) hB1 (ct_City_runWork_0e434 (fBz h0 hB1) (by omega)) ?_
            rintro IhB17 _ hB17 fhB17 rfl
            have t18 := fhB17 675 13 (by decide +kernel)
            exact fcutJ (I := IhB17) (j := jc_City_passMinute_b0540_13) (lv' := [(0, .inr (.inr (some 513))), (1, .inl _)]) (And.intro rfl (And.intro rfl True.intro)) ⟨_, rfl, rfl, by omega, rfl⟩ (by omega)
    · rintro m _ _ I1 hB1 ⟨y1, rfl, rfl, hb, hm⟩
      refine And.intro ⟨rfl, by decide, by decide⟩ ?_
      refine And.intro ⟨rfl, by decide, by decide⟩ (fgetf fb_689_4 h0 hB1 ?_)
      intro z19 lz19 uz19 qz19
      refine And.intro (by omega) (And.intro ?_ ?_)
      · intro c20
        refine Exists.intro xm_94 (And.intro mi_94 (And.intro ⟨rfl, rfl, rfl, rfl⟩ (And.intro rfl ?_)))
        refine fcall _ h0 (fzs_sub (by decide +kernel) hW) hB1 (ct_City_rise_ae6a0 (fBz h0 hB1)) ?_
        rintro IhB22 _ hB22 fhB22 rfl
        have t23 := fhB22 689 4 (by decide +kernel)
        refine And.intro ⟨rfl, by decide, by decide⟩ (fgetf fb_513_6 h0 hB22 ?_)
        intro z24 lz24 uz24 qz24
        intro z25 hz25 ez25 bz25
        refine And.intro ⟨rfl, by decide, by decide⟩ (And.intro rfl (And.intro (Or.inl rfl) (fputf fb_513_6 (by decide +kernel) hW (by omega) ?_)))
        intro IhB26 ehB26 hB26
        have t27 := fup_at ehB26 6 (by omega)
        have t28 : IhB26 689 4 = IhB22 689 4 := (congrFun (congrFun ehB26 689) 4).trans (fup_ne (by omega))
        refine And.intro ⟨rfl, by decide, by decide⟩ ?_
        refine Exists.intro xm_95 (And.intro mi_95 (And.intro ⟨rfl, rfl, rfl, rfl⟩ (And.intro rfl ?_)))
        refine fcall _ h0 (fzs_sub (by decide +kernel) hW) hB26 (ct_Works_foulAll_2e164 (fBz h0 hB26)) ?_
        rintro IhB30 _ hB30 fhB30 rfl
        have t31 := fhB30 513 6 (by decide +kernel)
        have t32 := fhB30 689 4 (by decide +kernel)
        refine And.intro ⟨rfl, by decide, by decide⟩ (fgetf fb_513_9 h0 hB30 ?_)
        intro z33 lz33 uz33 qz33
        intro z34 hz34 ez34 bz34
        refine And.intro ⟨rfl, by decide, by decide⟩ (And.intro rfl (And.intro (Or.inl rfl) (fputf fb_513_9 (by decide +kernel) hW (by omega) ?_)))
        intro IhB35 ehB35 hB35
        have t36 : IhB35 513 6 = IhB30 513 6 := (congrFun (congrFun ehB35 513) 6).trans (fup_ne (by omega))
        have t37 := fup_at ehB35 9 (by omega)
        have t38 : IhB35 689 4 = IhB30 689 4 := (congrFun (congrFun ehB35 689) 4).trans (fup_ne (by omega))
        refine And.intro ⟨rfl, by decide, by decide⟩ (fgetf fb_513_9 h0 hB35 ?_)
        intro z39 lz39 uz39 qz39
        refine And.intro (And.intro (by omega) (And.intro (by omega) (And.intro (by omega) rfl))) ?_
        intro z40 hz40 ez40 dz40
        refine And.intro (by omega) (And.intro ?_ ?_)
        · intro c41
          exact rfl
        · intro c42
          refine Exists.intro xm_96 (And.intro mi_96 (And.intro ⟨rfl, rfl, rfl, rfl⟩ (And.intro rfl ?_)))
          refine fcall _ h0 (fzs_sub (by decide +kernel) hW) hB35 (ct_City_sendReports_305c9 (fBz h0 hB35)) ?_
          rintro IhB44 _ hB44 fhB44 rfl
          have t45 := fhB44 513 6 (by decide +kernel)
          have t46 := fhB44 513 9 (by decide +kernel)
          have t47 := fhB44 689 4 (by decide +kernel)
          exact rfl
      · intro c48
        refine And.intro ⟨rfl, by decide, by decide⟩ ?_
        refine Exists.intro xm_21 (And.intro mi_21 (And.intro ⟨rfl, rfl, rfl, rfl⟩ (And.intro rfl ?_)))
        refine fcallp hB1 (ct_People_isDead_16e8f (fBz h0 hB1) (by omega)) ?_
        rintro _ ⟨z49, rfl, hz49⟩
        refine And.intro (by omega) (And.intro ?_ ?_)
        · intro c50
          exact fcutJ (I := I1) (j := jc_City_passMinute_b0540_75) (lv' := [(0, .inr (.inr (some 513))), (1, .inl _)]) (And.intro rfl (And.intro rfl True.intro)) ⟨_, rfl, rfl, by omega, rfl⟩ (by omega)
        · intro c51
          refine Exists.intro xm_91 (And.intro mi_91 (And.intro ⟨rfl, rfl, rfl, rfl⟩ (And.intro rfl ?_)))
          refine fcall _ h0 (fzs_sub (by decide +kernel) hW) hB1 (ct_City_breathe_fe888 (fBz h0 hB1) (by omega)) ?_
          rintro IhB53 _ hB53 fhB53 rfl
          have t54 := fhB53 689 4 (by decide +kernel)
          exact fcutJ (I := IhB53) (j := jc_City_passMinute_b0540_75) (lv' := [(0, .inr (.inr (some 513))), (1, .inl _)]) (And.intro rfl (And.intro rfl True.intro)) ⟨_, rfl, rfl, by omega, rfl⟩ (by omega)
  · have hB0 := fB_self (zn := znJ) (K := fKc wz_f7c52) h0
    refine And.intro ⟨rfl, by decide, by decide⟩ ?_
    refine And.intro ⟨rfl, by decide, by decide⟩ (fgetf fb_513_9 h0 hB0 ?_)
    intro z55 lz55 uz55 qz55
    refine Exists.intro xm_74 (And.intro mi_74 (And.intro ⟨rfl, rfl, rfl, rfl⟩ (And.intro rfl ?_)))
    refine fcall _ h0 (fzs_sub (by decide +kernel) hW) hB0 (ct_Cells_takeReports_88f4c (fBz h0 hB0) (by omega)) ?_
    rintro IhB57 _ hB57 fhB57 rfl
    have t58 := fhB57 513 9 (by decide +kernel)
    exact fcutJ (I := IhB57) (j := jc_City_passMinute_b0540_13) (lv' := [(0, .inr (.inr (some 513))), (1, .inl _)]) (And.intro rfl (And.intro rfl True.intro)) ⟨_, rfl, rfl, by omega, rfl⟩ (by omega)
set_option maxRecDepth 8000 in
theorem ct_Works_becomeAs_59e4c {I : fH}  (h0 : fB bsJ I)  : fC ρ base n F xTc vwCl xTys D dA la gJ (fbz bsJ znJ (fKc wz_1abc8) I) xm_226 [.inr (.inr (some 675)), .inr (.inr (some 419))] I (fun _ r => r = none) := by
  have hW : fzs wz_1abc8 (fKc wz_1abc8) := fKc_ok _
  refine f_meth (rb := rbJ) (J := []) 1 400 xG xin_226 x6_226 okJ (fB_self h0) ?_ ?_
  · exact fun q h => absurd h List.not_mem_nil
  · have hB0 := fB_self (zn := znJ) (K := fKc wz_1abc8) h0
    refine And.intro ⟨rfl, by decide, by decide⟩ ?_
    refine And.intro ⟨rfl, by decide, by decide⟩ ?_
    refine Exists.intro xm_75 (And.intro mi_75 (And.intro ⟨rfl, rfl, rfl, rfl⟩ (And.intro True.intro ?_)))
    refine fcall _ h0 (fzs_sub (by decide +kernel) hW) hB0 (ct_copyRow (W := [676]) (len := 24) (fBz h0 hB0) (frC_of (by decide +kernel))) ?_
    rintro IhB1 _ hB1 fhB1 ⟨rfl, ehB1⟩
    refine And.intro ⟨rfl, by decide, by decide⟩ ?_
    refine And.intro ⟨rfl, by decide, by decide⟩ ?_
    refine Exists.intro xm_75 (And.intro mi_75 (And.intro ⟨rfl, rfl, rfl, rfl⟩ (And.intro True.intro ?_)))
    refine fcall _ h0 (fzs_sub (by decide +kernel) hW) hB1 (ct_copyRow (W := [677]) (len := 24) (fBz h0 hB1) (frC_of (by decide +kernel))) ?_
    rintro IhB2 _ hB2 fhB2 ⟨rfl, ehB2⟩
    refine And.intro ⟨rfl, by decide, by decide⟩ ?_
    refine And.intro ⟨rfl, by decide, by decide⟩ ?_
    refine Exists.intro xm_75 (And.intro mi_75 (And.intro ⟨rfl, rfl, rfl, rfl⟩ (And.intro True.intro ?_)))
    refine fcall _ h0 (fzs_sub (by decide +kernel) hW) hB2 (ct_copyRow (W := [678]) (len := 24) (fBz h0 hB2) (frC_of (by decide +kernel))) ?_
    rintro IhB3 _ hB3 fhB3 ⟨rfl, ehB3⟩
    refine And.intro ⟨rfl, by decide, by decide⟩ ?_
    refine And.intro ⟨rfl, by decide, by decide⟩ ?_
    refine Exists.intro xm_75 (And.intro mi_75 (And.intro ⟨rfl, rfl, rfl, rfl⟩ (And.intro True.intro ?_)))
    refine fcall _ h0 (fzs_sub (by decide +kernel) hW) hB3 (ct_copyRow (W := [679]) (len := 24) (fBz h0 hB3) (frC_of (by decide +kernel))) ?_
    rintro IhB4 _ hB4 fhB4 ⟨rfl, ehB4⟩
    refine And.intro ⟨rfl, by decide, by decide⟩ ?_
    refine And.intro ⟨rfl, by decide, by decide⟩ ?_
    refine Exists.intro xm_75 (And.intro mi_75 (And.intro ⟨rfl, rfl, rfl, rfl⟩ (And.intro True.intro ?_)))
    refine fcall _ h0 (fzs_sub (by decide +kernel) hW) hB4 (ct_copyRow (W := [680]) (len := 24) (fBz h0 hB4) (frC_of (by decide +kernel))) ?_
    rintro IhB5 _ hB5 fhB5 ⟨rfl, ehB5⟩
    refine And.intro ⟨rfl, by decide, by decide⟩ ?_
    refine And.intro ⟨rfl, by decide, by decide⟩ ?_
    refine Exists.intro xm_75 (And.intro mi_75 (And.intro ⟨rfl, rfl, rfl, rfl⟩ (And.intro True.intro ?_)))
    refine fcall _ h0 (fzs_sub (by decide +kernel) hW) hB5 (ct_copyRow (W := [681]) (len := 24) (fBz h0 hB5) (frC_of (by decide +kernel))) ?_
    rintro IhB6 _ hB6 fhB6 ⟨rfl, ehB6⟩
    refine And.intro ⟨rfl, by decide, by decide⟩ ?_
    refine And.intro ⟨rfl, by decide, by decide⟩ ?_
    refine Exists.intro xm_75 (And.intro mi_75 (And.intro ⟨rfl, rfl, rfl, rfl⟩ (And.intro True.intro ?_)))
    refine fcall _ h0 (fzs_sub (by decide +kernel) hW) hB6 (ct_copyRow (W := [682]) (len := 24) (fBz h0 hB6) (frC_of (by decide +kernel))) ?_
    rintro IhB7 _ hB7 fhB7 ⟨rfl, ehB7⟩
    refine And.intro ⟨rfl, by decide, by decide⟩ ?_
    refine And.intro ⟨rfl, by decide, by decide⟩ ?_
    refine Exists.intro xm_75 (And.intro mi_75 (And.intro ⟨rfl, rfl, rfl, rfl⟩ (And.intro True.intro ?_)))
    refine fcall _ h0 (fzs_sub (by decide +kernel) hW) hB7 (ct_copyRow (W := [683]) (len := 24) (fBz h0 hB7) (frC_of (by decide +kernel))) ?_
    rintro IhB8 _ hB8 fhB8 ⟨rfl, ehB8⟩
    refine And.intro ⟨rfl, by decide, by decide⟩ ?_
    refine And.intro ⟨rfl, by decide, by decide⟩ ?_
    refine Exists.intro xm_75 (And.intro mi_75 (And.intro ⟨rfl, rfl, rfl, rfl⟩ (And.intro True.intro ?_)))
    refine fcall _ h0 (fzs_sub (by decide +kernel) hW) hB8 (ct_copyRow (W := [684]) (len := 24) (fBz h0 hB8) (frC_of (by decide +kernel))) ?_
    rintro IhB9 _ hB9 fhB9 ⟨rfl, ehB9⟩
    refine And.intro ⟨rfl, by decide, by decide⟩ ?_
    refine And.intro ⟨rfl, by decide, by decide⟩ ?_
    refine Exists.intro xm_75 (And.intro mi_75 (And.intro ⟨rfl, rfl, rfl, rfl⟩ (And.intro True.intro ?_)))
    refine fcall _ h0 (fzs_sub (by decide +kernel) hW) hB9 (ct_copyRow (W := [685]) (len := 24) (fBz h0 hB9) (frC_of (by decide +kernel))) ?_
    rintro IhB10 _ hB10 fhB10 ⟨rfl, ehB10⟩
    refine And.intro ⟨rfl, by decide, by decide⟩ ?_
    refine And.intro ⟨rfl, by decide, by decide⟩ ?_
    refine Exists.intro xm_75 (And.intro mi_75 (And.intro ⟨rfl, rfl, rfl, rfl⟩ (And.intro True.intro ?_)))
    refine fcall _ h0 (fzs_sub (by decide +kernel) hW) hB10 (ct_copyRow (W := [686]) (len := 24) (fBz h0 hB10) (frC_of (by decide +kernel))) ?_
    rintro IhB11 _ hB11 fhB11 ⟨rfl, ehB11⟩
    refine And.intro ⟨rfl, by decide, by decide⟩ ?_
    refine And.intro ⟨rfl, by decide, by decide⟩ ?_
    refine Exists.intro xm_75 (And.intro mi_75 (And.intro ⟨rfl, rfl, rfl, rfl⟩ (And.intro True.intro ?_)))
    refine fcall _ h0 (fzs_sub (by decide +kernel) hW) hB11 (ct_copyRow (W := [687]) (len := 24) (fBz h0 hB11) (frC_of (by decide +kernel))) ?_
    rintro IhB12 _ hB12 fhB12 ⟨rfl, ehB12⟩
    refine And.intro ⟨rfl, by decide, by decide⟩ ?_
    refine And.intro ⟨rfl, by decide, by decide⟩ ?_
    refine Exists.intro xm_75 (And.intro mi_75 (And.intro ⟨rfl, rfl, rfl, rfl⟩ (And.intro True.intro ?_)))
    refine fcall _ h0 (fzs_sub (by decide +kernel) hW) hB12 (ct_copyRow (W := [688]) (len := 24) (fBz h0 hB12) (frC_of (by decide +kernel))) ?_
    rintro IhB13 _ hB13 fhB13 ⟨rfl, ehB13⟩
    refine And.intro ⟨rfl, by decide, by decide⟩ (fgetf fb_419_13 h0 hB13 ?_)
    intro z14 lz14 uz14 qz14
    refine And.intro ⟨rfl, by decide, by decide⟩ (And.intro rfl (And.intro (Or.inl rfl) (fputf fb_675_13 (by decide +kernel) hW (by omega) ?_)))
    intro IhB15 ehB15 hB15
    have t16 : IhB15 419 13 = IhB13 419 13 := (congrFun (congrFun ehB15 419) 13).trans (fup_ne (by omega))
    have t17 := fup_at ehB15 13 (by omega)
    exact rfl
set_option maxRecDepth 8000 in
theorem ct_People_becomeAs_ae6e1 {I : fH}  (h0 : fB bsJ I)  : fC ρ base n F xTc vwCl xTys D dA la gJ (fbz bsJ znJ (fKc wz_5c8a7) I) xm_227 [.inr (.inr (some 689)), .inr (.inr (some 433))] I (fun _ r => r = none) := by
  have hW : fzs wz_5c8a7 (fKc wz_5c8a7) := fKc_ok _
  refine f_meth (rb := rbJ) (J := []) 1 400 xG xin_227 x6_227 okJ (fB_self h0) ?_ ?_
  · exact fun q h => absurd h List.not_mem_nil
  · have hB0 := fB_self (zn := znJ) (K := fKc wz_5c8a7) h0
    refine And.intro ⟨rfl, by decide, by decide⟩ ?_
    refine And.intro ⟨rfl, by decide, by decide⟩ ?_
    refine Exists.intro xm_75 (And.intro mi_75 (And.intro ⟨rfl, rfl, rfl, rfl⟩ (And.intro True.intro ?_)))
    refine fcall _ h0 (fzs_sub (by decide +kernel) hW) hB0 (ct_copyRow (W := [690]) (len := 24) (fBz h0 hB0) (frC_of (by decide +kernel))) ?_
    rintro IhB1 _ hB1 fhB1 ⟨rfl, ehB1⟩
    refine And.intro ⟨rfl, by decide, by decide⟩ ?_
    refine And.intro ⟨rfl, by decide, by decide⟩ ?_
    refine Exists.intro xm_75 (And.intro mi_75 (And.intro ⟨rfl, rfl, rfl, rfl⟩ (And.intro True.intro ?_)))
    refine fcall _ h0 (fzs_sub (by decide +kernel) hW) hB1 (ct_copyRow (W := [691]) (len := 24) (fBz h0 hB1) (frC_of (by decide +kernel))) ?_
    rintro IhB2 _ hB2 fhB2 ⟨rfl, ehB2⟩
    refine And.intro ⟨rfl, by decide, by decide⟩ ?_
    refine And.intro ⟨rfl, by decide, by decide⟩ ?_
    refine Exists.intro xm_75 (And.intro mi_75 (And.intro ⟨rfl, rfl, rfl, rfl⟩ (And.intro True.intro ?_)))
    refine fcall _ h0 (fzs_sub (by decide +kernel) hW) hB2 (ct_copyRow (W := [692]) (len := 24) (fBz h0 hB2) (frC_of (by decide +kernel))) ?_
    rintro IhB3 _ hB3 fhB3 ⟨rfl, ehB3⟩
    refine And.intro ⟨rfl, by decide, by decide⟩ ?_
    refine And.intro ⟨rfl, by decide, by decide⟩ ?_
    refine Exists.intro xm_75 (And.intro mi_75 (And.intro ⟨rfl, rfl, rfl, rfl⟩ (And.intro True.intro ?_)))
    refine fcall _ h0 (fzs_sub (by decide +kernel) hW) hB3 (ct_copyRow (W := [693]) (len := 24) (fBz h0 hB3) (frC_of (by decide +kernel))) ?_
    rintro IhB4 _ hB4 fhB4 ⟨rfl, ehB4⟩
    refine And.intro ⟨rfl, by decide, by decide⟩ (fgetf fb_433_4 h0 hB4 ?_)
    intro z5 lz5 uz5 qz5
    refine And.intro ⟨rfl, by decide, by decide⟩ (And.intro rfl (And.intro (Or.inl rfl) (fputf fb_689_4 (by decide +kernel) hW (by omega) ?_)))
    intro IhB6 ehB6 hB6
    have t7 : IhB6 433 4 = IhB4 433 4 := (congrFun (congrFun ehB6 433) 4).trans (fup_ne (by omega))
    have t8 := fup_at ehB6 4 (by omega)
    exact rfl
set_option maxRecDepth 8000 in
theorem ct_Cells_becomeAs_5a6fe {I : fH}  (h0 : fB bsJ I)  : fC ρ base n F xTc vwCl xTys D dA la gJ (fbz bsJ znJ (fKc wz_64c1d) I) xm_224 [.inr (.inr (some 514)), .inr (.inr (some 258))] I (fun _ r => r = none) := by
  have hW : fzs wz_64c1d (fKc wz_64c1d) := fKc_ok _
  refine f_meth (rb := rbJ) (J := []) 1 400 xG xin_224 x6_224 okJ (fB_self h0) ?_ ?_
  · exact fun q h => absurd h List.not_mem_nil
  · have hB0 := fB_self (zn := znJ) (K := fKc wz_64c1d) h0
    refine And.intro ⟨rfl, by decide, by decide⟩ ?_
    refine And.intro ⟨rfl, by decide, by decide⟩ ?_
    refine Exists.intro xm_75 (And.intro mi_75 (And.intro ⟨rfl, rfl, rfl, rfl⟩ (And.intro True.intro ?_)))
    refine fcall _ h0 (fzs_sub (by decide +kernel) hW) hB0 (ct_copyRow (W := [515]) (len := 20) (fBz h0 hB0) (frC_of (by decide +kernel))) ?_
    rintro IhB1 _ hB1 fhB1 ⟨rfl, ehB1⟩
    refine And.intro ⟨rfl, by decide, by decide⟩ ?_
    refine And.intro ⟨rfl, by decide, by decide⟩ ?_
    refine Exists.intro xm_75 (And.intro mi_75 (And.intro ⟨rfl, rfl, rfl, rfl⟩ (And.intro True.intro ?_)))
    refine fcall _ h0 (fzs_sub (by decide +kernel) hW) hB1 (ct_copyRow (W := [516]) (len := 20) (fBz h0 hB1) (frC_of (by decide +kernel))) ?_
    rintro IhB2 _ hB2 fhB2 ⟨rfl, ehB2⟩
    refine And.intro ⟨rfl, by decide, by decide⟩ ?_
    refine And.intro ⟨rfl, by decide, by decide⟩ ?_
    refine Exists.intro xm_225 (And.intro mi_225 (And.intro ⟨rfl, rfl, rfl, rfl⟩ (And.intro True.intro ?_)))
    refine fcall _ h0 (fzs_sub (by decide +kernel) hW) hB2 (ct_copyRows (W := [517]) (m := 20) (len := 5) (ro := 262) (rd := 518) (fBz h0 hB2) (frCs_of ⟨rfl, rfl, rfl, rfl, by decide⟩ (by decide +kernel))) ?_
    rintro IhB3 _ hB3 fhB3 ⟨rfl, ehB3⟩
    refine And.intro ⟨rfl, by decide, by decide⟩ ?_
    refine And.intro ⟨rfl, by decide, by decide⟩ ?_
    refine Exists.intro xm_225 (And.intro mi_225 (And.intro ⟨rfl, rfl, rfl, rfl⟩ (And.intro True.intro ?_)))
    refine fcall _ h0 (fzs_sub (by decide +kernel) hW) hB3 (ct_copyRows (W := [538]) (m := 20) (len := 5) (ro := 283) (rd := 539) (fBz h0 hB3) (frCs_of ⟨rfl, rfl, rfl, rfl, by decide⟩ (by decide +kernel))) ?_
    rintro IhB4 _ hB4 fhB4 ⟨rfl, ehB4⟩
    refine And.intro ⟨rfl, by decide, by decide⟩ ?_
    refine And.intro ⟨rfl, by decide, by decide⟩ ?_
    refine Exists.intro xm_225 (And.intro mi_225 (And.intro ⟨rfl, rfl, rfl, rfl⟩ (And.intro True.intro ?_)))
    refine fcall _ h0 (fzs_sub (by decide +kernel) hW) hB4 (ct_copyRows (W := [559]) (m := 20) (len := 6) (ro := 304) (rd := 560) (fBz h0 hB4) (frCs_of ⟨rfl, rfl, rfl, rfl, by decide⟩ (by decide +kernel))) ?_
    rintro IhB5 _ hB5 fhB5 ⟨rfl, ehB5⟩
    refine And.intro ⟨rfl, by decide, by decide⟩ (fgetf fb_258_5 h0 hB5 ?_)
    intro z6 lz6 uz6 qz6
    refine And.intro ⟨rfl, by decide, by decide⟩ (And.intro rfl (And.intro (Or.inl rfl) (fputf fb_514_5 (by decide +kernel) hW (by omega) ?_)))
    intro IhB7 ehB7 hB7
    have t8 : IhB7 258 5 = IhB5 258 5 := (congrFun (congrFun ehB7 258) 5).trans (fup_ne (by omega))
    have t9 := fup_at ehB7 5 (by omega)
    refine And.intro ⟨rfl, by decide, by decide⟩ ?_
    refine And.intro ⟨rfl, by decide, by decide⟩ ?_
    refine Exists.intro xm_75 (And.intro mi_75 (And.intro ⟨rfl, rfl, rfl, rfl⟩ (And.intro True.intro ?_)))
    refine fcall _ h0 (fzs_sub (by decide +kernel) hW) hB7 (ct_copyRow (W := [580]) (len := 24) (fBz h0 hB7) (frC_of (by decide +kernel))) ?_
    rintro IhB10 _ hB10 fhB10 ⟨rfl, ehB10⟩
    have t11 := fhB10 258 5 (by decide +kernel)
    have t12 := fhB10 514 5 (by decide +kernel)
    refine And.intro ⟨rfl, by decide, by decide⟩ ?_
    refine And.intro ⟨rfl, by decide, by decide⟩ ?_
    refine Exists.intro xm_75 (And.intro mi_75 (And.intro ⟨rfl, rfl, rfl, rfl⟩ (And.intro True.intro ?_)))
    refine fcall _ h0 (fzs_sub (by decide +kernel) hW) hB10 (ct_copyRow (W := [581]) (len := 24) (fBz h0 hB10) (frC_of (by decide +kernel))) ?_
    rintro IhB13 _ hB13 fhB13 ⟨rfl, ehB13⟩
    have t14 := fhB13 258 5 (by decide +kernel)
    have t15 := fhB13 514 5 (by decide +kernel)
    refine And.intro ⟨rfl, by decide, by decide⟩ ?_
    refine And.intro ⟨rfl, by decide, by decide⟩ ?_
    refine Exists.intro xm_75 (And.intro mi_75 (And.intro ⟨rfl, rfl, rfl, rfl⟩ (And.intro True.intro ?_)))
    refine fcall _ h0 (fzs_sub (by decide +kernel) hW) hB13 (ct_copyRow (W := [582]) (len := 24) (fBz h0 hB13) (frC_of (by decide +kernel))) ?_
    rintro IhB16 _ hB16 fhB16 ⟨rfl, ehB16⟩
    have t17 := fhB16 258 5 (by decide +kernel)
    have t18 := fhB16 514 5 (by decide +kernel)
    refine And.intro ⟨rfl, by decide, by decide⟩ ?_
    refine And.intro ⟨rfl, by decide, by decide⟩ ?_
    refine Exists.intro xm_75 (And.intro mi_75 (And.intro ⟨rfl, rfl, rfl, rfl⟩ (And.intro True.intro ?_)))
    refine fcall _ h0 (fzs_sub (by decide +kernel) hW) hB16 (ct_copyRow (W := [583]) (len := 24) (fBz h0 hB16) (frC_of (by decide +kernel))) ?_
    rintro IhB19 _ hB19 fhB19 ⟨rfl, ehB19⟩
    have t20 := fhB19 258 5 (by decide +kernel)
    have t21 := fhB19 514 5 (by decide +kernel)
    refine And.intro ⟨rfl, by decide, by decide⟩ (fgetf fb_258_10 h0 hB19 ?_)
    intro z22 lz22 uz22 qz22
    refine And.intro ⟨rfl, by decide, by decide⟩ (And.intro rfl (And.intro (Or.inl rfl) (fputf fb_514_10 (by decide +kernel) hW (by omega) ?_)))
    intro IhB23 ehB23 hB23
    have t24 : IhB23 258 5 = IhB19 258 5 := (congrFun (congrFun ehB23 258) 5).trans (fup_ne (by omega))
    have t25 : IhB23 258 10 = IhB19 258 10 := (congrFun (congrFun ehB23 258) 10).trans (fup_ne (by omega))
    have t26 : IhB23 514 5 = IhB19 514 5 := (congrFun (congrFun ehB23 514) 5).trans (fup_ne (by omega))
    have t27 := fup_at ehB23 10 (by omega)
    refine And.intro ⟨rfl, by decide, by decide⟩ ?_
    refine And.intro ⟨rfl, by decide, by decide⟩ ?_
    refine Exists.intro xm_225 (And.intro mi_225 (And.intro ⟨rfl, rfl, rfl, rfl⟩ (And.intro True.intro ?_)))
    refine fcall _ h0 (fzs_sub (by decide +kernel) hW) hB23 (ct_copyRows (W := [584]) (m := 90) (len := 8) (ro := 329) (rd := 585) (fBz h0 hB23) (frCs_of ⟨rfl, rfl, rfl, rfl, by decide⟩ (by decide +kernel))) ?_
    rintro IhB28 _ hB28 fhB28 ⟨rfl, ehB28⟩
    have t29 := fhB28 258 5 (by decide +kernel)
    have t30 := fhB28 258 10 (by decide +kernel)
    have t31 := fhB28 514 5 (by decide +kernel)
    have t32 := fhB28 514 10 (by decide +kernel)
    refine And.intro ⟨rfl, by decide, by decide⟩ (fgetf fb_258_12 h0 hB28 ?_)
    intro z33 lz33 uz33 qz33
    refine And.intro ⟨rfl, by decide, by decide⟩ (And.intro rfl (And.intro (Or.inl rfl) (fputf fb_514_12 (by decide +kernel) hW (by omega) ?_)))
    intro IhB34 ehB34 hB34
    have t35 : IhB34 258 5 = IhB28 258 5 := (congrFun (congrFun ehB34 258) 5).trans (fup_ne (by omega))
    have t36 : IhB34 258 10 = IhB28 258 10 := (congrFun (congrFun ehB34 258) 10).trans (fup_ne (by omega))
    have t37 : IhB34 258 12 = IhB28 258 12 := (congrFun (congrFun ehB34 258) 12).trans (fup_ne (by omega))
    have t38 : IhB34 514 5 = IhB28 514 5 := (congrFun (congrFun ehB34 514) 5).trans (fup_ne (by omega))
    have t39 : IhB34 514 10 = IhB28 514 10 := (congrFun (congrFun ehB34 514) 10).trans (fup_ne (by omega))
    have t40 := fup_at ehB34 12 (by omega)
    exact rfl
set_option maxRecDepth 8000 in
theorem ct_City_becomeAs_a708a {I : fH}  (h0 : fB bsJ I)  : fC ρ base n F xTc vwCl xTys D dA la gJ (fbz bsJ znJ (fKc wz_7a224) I) xm_223 [.inr (.inr (some 513)), .inr (.inr (some 257))] I (fun _ r => r = none) := by
  have hW : fzs wz_7a224 (fKc wz_7a224) := fKc_ok _
  refine f_meth (rb := rbJ) (J := []) 1 400 xG xin_223 x6_223 okJ (fB_self h0) ?_ ?_
  · exact fun q h => absurd h List.not_mem_nil
  · have hB0 := fB_self (zn := znJ) (K := fKc wz_7a224) h0
    refine And.intro ⟨rfl, by decide, by decide⟩ ?_
    refine And.intro ⟨rfl, by decide, by decide⟩ ?_
    refine Exists.intro xm_224 (And.intro mi_224 (And.intro ⟨rfl, rfl, rfl, rfl⟩ (And.intro rfl ?_)))
    refine fcall _ h0 (fzs_sub (by decide +kernel) hW) hB0 (ct_Cells_becomeAs_5a6fe (fBz h0 hB0)) ?_
    rintro IhB2 _ hB2 fhB2 rfl
    refine And.intro ⟨rfl, by decide, by decide⟩ ?_
    refine And.intro ⟨rfl, by decide, by decide⟩ ?_
    refine Exists.intro xm_226 (And.intro mi_226 (And.intro ⟨rfl, rfl, rfl, rfl⟩ (And.intro rfl ?_)))
    refine fcall _ h0 (fzs_sub (by decide +kernel) hW) hB2 (ct_Works_becomeAs_59e4c (fBz h0 hB2)) ?_
    rintro IhB4 _ hB4 fhB4 rfl
    refine And.intro ⟨rfl, by decide, by decide⟩ ?_
    refine And.intro ⟨rfl, by decide, by decide⟩ ?_
    refine Exists.intro xm_227 (And.intro mi_227 (And.intro ⟨rfl, rfl, rfl, rfl⟩ (And.intro rfl ?_)))
    refine fcall _ h0 (fzs_sub (by decide +kernel) hW) hB4 (ct_People_becomeAs_ae6e1 (fBz h0 hB4)) ?_
    rintro IhB6 _ hB6 fhB6 rfl
    refine And.intro ⟨rfl, by decide, by decide⟩ ?_
    refine And.intro ⟨rfl, by decide, by decide⟩ ?_
    refine Exists.intro xm_75 (And.intro mi_75 (And.intro ⟨rfl, rfl, rfl, rfl⟩ (And.intro True.intro ?_)))
    refine fcall _ h0 (fzs_sub (by decide +kernel) hW) hB6 (ct_copyRow (W := [694]) (len := 6) (fBz h0 hB6) (frC_of (by decide +kernel))) ?_
    rintro IhB7 _ hB7 fhB7 ⟨rfl, ehB7⟩
    refine And.intro ⟨rfl, by decide, by decide⟩ ?_
    refine And.intro ⟨rfl, by decide, by decide⟩ ?_
    refine Exists.intro xm_225 (And.intro mi_225 (And.intro ⟨rfl, rfl, rfl, rfl⟩ (And.intro True.intro ?_)))
    refine fcall _ h0 (fzs_sub (by decide +kernel) hW) hB7 (ct_copyRows (W := [695]) (m := 3) (len := 61) (ro := 440) (rd := 696) (fBz h0 hB7) (frCs_of ⟨rfl, rfl, rfl, rfl, by decide⟩ (by decide +kernel))) ?_
    rintro IhB8 _ hB8 fhB8 ⟨rfl, ehB8⟩
    refine And.intro ⟨rfl, by decide, by decide⟩ (fgetf fb_257_5 h0 hB8 ?_)
    intro z9 lz9 uz9 qz9
    refine And.intro ⟨rfl, by decide, by decide⟩ (And.intro rfl (And.intro (Or.inl rfl) (fputf fb_513_5 (by decide +kernel) hW (by omega) ?_)))
    intro IhB10 ehB10 hB10
    have t11 : IhB10 257 5 = IhB8 257 5 := (congrFun (congrFun ehB10 257) 5).trans (fup_ne (by omega))
    have t12 := fup_at ehB10 5 (by omega)
    refine And.intro ⟨rfl, by decide, by decide⟩ (fgetf fb_257_6 h0 hB10 ?_)
    intro z13 lz13 uz13 qz13
    refine And.intro ⟨rfl, by decide, by decide⟩ (And.intro rfl (And.intro (Or.inl rfl) (fputf fb_513_6 (by decide +kernel) hW (by omega) ?_)))
    intro IhB14 ehB14 hB14
    have t15 : IhB14 257 5 = IhB10 257 5 := (congrFun (congrFun ehB14 257) 5).trans (fup_ne (by omega))
    have t16 : IhB14 257 6 = IhB10 257 6 := (congrFun (congrFun ehB14 257) 6).trans (fup_ne (by omega))
    have t17 : IhB14 513 5 = IhB10 513 5 := (congrFun (congrFun ehB14 513) 5).trans (fup_ne (by omega))
    have t18 := fup_at ehB14 6 (by omega)
    refine And.intro ⟨rfl, by decide, by decide⟩ (fgetf fb_257_7 h0 hB14 ?_)
    intro z19 lz19 uz19 qz19
    refine And.intro ⟨rfl, by decide, by decide⟩ (And.intro rfl (And.intro (Or.inl rfl) (fputf fb_513_7 (by decide +kernel) hW (by omega) ?_)))
    intro IhB20 ehB20 hB20
    have t21 : IhB20 257 5 = IhB14 257 5 := (congrFun (congrFun ehB20 257) 5).trans (fup_ne (by omega))
    have t22 : IhB20 257 6 = IhB14 257 6 := (congrFun (congrFun ehB20 257) 6).trans (fup_ne (by omega))
    have t23 : IhB20 257 7 = IhB14 257 7 := (congrFun (congrFun ehB20 257) 7).trans (fup_ne (by omega))
    have t24 : IhB20 513 5 = IhB14 513 5 := (congrFun (congrFun ehB20 513) 5).trans (fup_ne (by omega))
    have t25 : IhB20 513 6 = IhB14 513 6 := (congrFun (congrFun ehB20 513) 6).trans (fup_ne (by omega))
    have t26 := fup_at ehB20 7 (by omega)
    refine And.intro ⟨rfl, by decide, by decide⟩ (fgetf fb_257_8 h0 hB20 ?_)
    intro z27 lz27 uz27 qz27
    refine And.intro ⟨rfl, by decide, by decide⟩ (And.intro rfl (And.intro (Or.inl rfl) (fputf fb_513_8 (by decide +kernel) hW (by omega) ?_)))
    intro IhB28 ehB28 hB28
    have t29 : IhB28 257 5 = IhB20 257 5 := (congrFun (congrFun ehB28 257) 5).trans (fup_ne (by omega))
    have t30 : IhB28 257 6 = IhB20 257 6 := (congrFun (congrFun ehB28 257) 6).trans (fup_ne (by omega))
    have t31 : IhB28 257 7 = IhB20 257 7 := (congrFun (congrFun ehB28 257) 7).trans (fup_ne (by omega))
    have t32 : IhB28 257 8 = IhB20 257 8 := (congrFun (congrFun ehB28 257) 8).trans (fup_ne (by omega))
    have t33 : IhB28 513 5 = IhB20 513 5 := (congrFun (congrFun ehB28 513) 5).trans (fup_ne (by omega))
    have t34 : IhB28 513 6 = IhB20 513 6 := (congrFun (congrFun ehB28 513) 6).trans (fup_ne (by omega))
    have t35 : IhB28 513 7 = IhB20 513 7 := (congrFun (congrFun ehB28 513) 7).trans (fup_ne (by omega))
    have t36 := fup_at ehB28 8 (by omega)
    refine And.intro ⟨rfl, by decide, by decide⟩ (fgetf fb_257_9 h0 hB28 ?_)
    intro z37 lz37 uz37 qz37
    refine And.intro ⟨rfl, by decide, by decide⟩ (And.intro rfl (And.intro (Or.inl rfl) (fputf fb_513_9 (by decide +kernel) hW (by omega) ?_)))
    intro IhB38 ehB38 hB38
    have t39 : IhB38 257 5 = IhB28 257 5 := (congrFun (congrFun ehB38 257) 5).trans (fup_ne (by omega))
    have t40 : IhB38 257 6 = IhB28 257 6 := (congrFun (congrFun ehB38 257) 6).trans (fup_ne (by omega))
    have t41 : IhB38 257 7 = IhB28 257 7 := (congrFun (congrFun ehB38 257) 7).trans (fup_ne (by omega))
    have t42 : IhB38 257 8 = IhB28 257 8 := (congrFun (congrFun ehB38 257) 8).trans (fup_ne (by omega))
    have t43 : IhB38 257 9 = IhB28 257 9 := (congrFun (congrFun ehB38 257) 9).trans (fup_ne (by omega))
    have t44 : IhB38 513 5 = IhB28 513 5 := (congrFun (congrFun ehB38 513) 5).trans (fup_ne (by omega))
    have t45 : IhB38 513 6 = IhB28 513 6 := (congrFun (congrFun ehB38 513) 6).trans (fup_ne (by omega))
    have t46 : IhB38 513 7 = IhB28 513 7 := (congrFun (congrFun ehB38 513) 7).trans (fup_ne (by omega))
    have t47 : IhB38 513 8 = IhB28 513 8 := (congrFun (congrFun ehB38 513) 8).trans (fup_ne (by omega))
    have t48 := fup_at ehB38 9 (by omega)
    exact rfl
abbrev jc_X_checkDay_bd195_34 : Nat → fL → List fV → fH → Prop := fun m lv st I => ∃ (y1 : Int) (y2 : Int) (y3 : Int) (y4 : Int), lv = [(0, .inr (.inr (some 0))), (1, .inl y1), (2, .inl y2), (3, .inl y3), (4, .inl y4)] ∧ st = [] ∧ (((1 ≤ y1 ∧ y1 ≤ 24) ∧ (0 ≤ y2 ∧ y2 ≤ 60) ∧ (0 ≤ y3 ∧ y3 ≤ 24) ∧ (0 ≤ y4 ∧ y4 ≤ 24) ∧ (1 ≤ I 0 6 ∧ I 0 6 ≤ 1))) ∧ m = (62 + 62 * (24 - y4) : Int).toNat
abbrev jc_X_checkDay_bd195_43 : Nat → fL → List fV → fH → Prop := fun m lv st I => ∃ (y1 : Int) (y2 : Int) (y3 : Int) (y4 : Int) (y5 : Int), lv = [(0, .inr (.inr (some 0))), (1, .inl y1), (2, .inl y2), (3, .inl y3), (4, .inl y4), (5, .inl y5)] ∧ st = [] ∧ (((1 ≤ y1 ∧ y1 ≤ 24) ∧ (0 ≤ y2 ∧ y2 ≤ 60) ∧ (1 ≤ y3 ∧ y3 ≤ 24) ∧ (0 ≤ y4 ∧ y4 ≤ 23) ∧ (0 ≤ y5 ∧ y5 ≤ 60) ∧ (1 ≤ I 0 6 ∧ I 0 6 ≤ 1))) ∧ m = (1 + 62 * (24 - y4) + 1 * (60 - y5) : Int).toNat
set_option maxRecDepth 8000 in
theorem ct_X_checkDay_bd195 {I : fH} {x1 : Int} {x2 : Int} (h0 : fB bsJ I) (ha1 : (1 ≤ x1 ∧ x1 ≤ 24)) (ha2 : (0 ≤ x2 ∧ x2 ≤ 60)) : fC ρ base n F xTc vwCl xTys D dA la gJ (fbz bsJ znJ (fKc wz_920bb) I) xm_222 [.inr (.inr (some 0)), .inl x1, .inl x2] I (fun _ r => ∃ z, r = some (.inl z) ∧ ((0 ≤ z ∧ z ≤ 49) ∨ z = (-1000000002))) := by
  have hW : fzs wz_920bb (fKc wz_920bb) := fKc_ok _
  refine f_meth (rb := rbJ) (J := [(34, jc_X_checkDay_bd195_34), (43, jc_X_checkDay_bd195_43)]) 1551 400 xG xin_222 x6_222 okJ (fB_self h0) ?_ ?_
  · refine List.forall_mem_cons.mpr ⟨?_, List.forall_mem_cons.mpr ⟨?_, fun q h => absurd h List.not_mem_nil⟩⟩
    · rintro m _ _ I1 hB1 ⟨y1, y2, y3, y4, rfl, rfl, hb, hm⟩
      refine And.intro (by omega) (And.intro ?_ ?_)
      · intro c1
        refine Exists.intro xm_220 (And.intro mi_220 (And.intro ⟨rfl, rfl, rfl, rfl⟩ (And.intro rfl ?_)))
        refine fcallp hB1 (ct_X_firstWrong_4e02b (fBz h0 hB1) (by omega) (by omega)) ?_
        rintro _ ⟨z2, rfl, hz2⟩
        refine And.intro (True.intro) ?_
        exact ⟨_, rfl, by omega⟩
      · intro c3
        exact fcutJ (I := I1) (j := jc_X_checkDay_bd195_43) (lv' := [(0, .inr (.inr (some 0))), (1, .inl _), (2, .inl _), (3, .inl _), (4, .inl _), (5, .inl _)]) (And.intro rfl (And.intro rfl (And.intro rfl (And.intro rfl (And.intro rfl (And.intro rfl True.intro)))))) ⟨_, _, _, _, _, rfl, rfl, by omega, rfl⟩ (by omega)
    · rintro m _ _ I1 hB1 ⟨y1, y2, y3, y4, y5, rfl, rfl, hb, hm⟩
      refine And.intro (by omega) (And.intro ?_ ?_)
      · intro c4
        refine And.intro ⟨rfl, by decide, by decide⟩ ?_
        refine And.intro ⟨rfl, by decide, by decide⟩ ?_
        refine And.intro ⟨rfl, by decide, by decide⟩ (fgetf fb_513_5 h0 hB1 ?_)
        intro z5 lz5 uz5 qz5
        refine fstore rS_739_739_0_59_1_0 (fzs_sub (by decide +kernel) hW) (by omega) (by omega) ?_
        intro IhB6 ehB6 hB6
        have t7 := fup_self ehB6
        have t8 : IhB6 0 6 = I1 0 6 := (congrFun (congrFun ehB6 0) 6).trans (fup_ne (by omega))
        have t9 : IhB6 513 5 = I1 513 5 := (congrFun (congrFun ehB6 513) 5).trans (fup_ne (by omega))
        refine And.intro ⟨rfl, by decide, by decide⟩ ?_
        refine And.intro ⟨rfl, by decide, by decide⟩ ?_
        refine And.intro ⟨rfl, by decide, by decide⟩ ?_
        refine Exists.intro xm_228 (And.intro mi_228 (And.intro ⟨rfl, rfl, rfl, rfl⟩ (And.intro rfl ?_)))
        refine fcallp hB6 (ct_Cells_oxygen_5c56e (fBz h0 hB6)) ?_
        rintro _ ⟨z10, rfl, hz10⟩
        refine fstore rS_739_739_0_59_1_0 (fzs_sub (by decide +kernel) hW) (by omega) (by omega) ?_
        intro IhB11 ehB11 hB11
        have t12 := fup_self ehB11
        have t13 : IhB11 0 6 = IhB6 0 6 := (congrFun (congrFun ehB11 0) 6).trans (fup_ne (by omega))
        have t14 : IhB11 513 5 = IhB6 513 5 := (congrFun (congrFun ehB11 513) 5).trans (fup_ne (by omega))
        exact fcutJ (I := IhB11) (j := jc_X_checkDay_bd195_34) (lv' := [(0, .inr (.inr (some 0))), (1, .inl _), (2, .inl _), (3, .inl _), (4, .inl _)]) (And.intro rfl (And.intro rfl (And.intro rfl (And.intro rfl (And.intro rfl True.intro))))) ⟨_, _, _, _, rfl, rfl, by omega, rfl⟩ (by omega)
      · intro c15
        refine And.intro ⟨rfl, by decide, by decide⟩ ?_
        refine Exists.intro xm_73 (And.intro mi_73 (And.intro ⟨rfl, rfl, rfl, rfl⟩ (And.intro rfl ?_)))
        refine fcall _ h0 (fzs_sub (by decide +kernel) hW) hB1 (ct_City_passMinute_b0540 (fBz h0 hB1)) ?_
        rintro IhB17 _ hB17 fhB17 rfl
        have t18 := fhB17 0 6 (by decide +kernel)
        exact fcutJ (I := IhB17) (j := jc_X_checkDay_bd195_43) (lv' := [(0, .inr (.inr (some 0))), (1, .inl _), (2, .inl _), (3, .inl _), (4, .inl _), (5, .inl _)]) (And.intro rfl (And.intro rfl (And.intro rfl (And.intro rfl (And.intro rfl (And.intro rfl True.intro)))))) ⟨_, _, _, _, _, rfl, rfl, by omega, rfl⟩ (by omega)
  · have hB0 := fB_self (zn := znJ) (K := fKc wz_920bb) h0
    refine And.intro ⟨rfl, by decide, by decide⟩ (fgetf fb_0_6 h0 hB0 ?_)
    intro z19 lz19 uz19 qz19
    refine And.intro (by omega) (And.intro ?_ ?_)
    · intro c20
      refine And.intro ⟨rfl, by decide, by decide⟩ ?_
      refine And.intro ⟨rfl, by decide, by decide⟩ ?_
      refine Exists.intro xm_223 (And.intro mi_223 (And.intro ⟨rfl, rfl, rfl, rfl⟩ (And.intro rfl ?_)))
      refine fcall _ h0 (fzs_sub (by decide +kernel) hW) hB0 (ct_City_becomeAs_a708a (fBz h0 hB0)) ?_
      rintro IhB22 _ hB22 fhB22 rfl
      have t23 := fhB22 0 6 (by decide +kernel)
      refine And.intro (And.intro (by omega) (And.intro (by omega) (And.intro (by omega) rfl))) ?_
      intro z24 hz24 ez24 dz24
      have dz24 := dz24 (by omega) (by omega)
      change _ = _ / _ at dz24
      refine And.intro (And.intro (by omega) (And.intro (by omega) rfl)) ?_
      intro z25 hz25
      exact fcutJ (I := IhB22) (j := jc_X_checkDay_bd195_34) (lv' := [(0, .inr (.inr (some 0))), (1, .inl _), (2, .inl _), (3, .inl _), (4, .inl _)]) (And.intro rfl (And.intro rfl (And.intro rfl (And.intro rfl (And.intro rfl True.intro))))) ⟨_, _, _, _, rfl, rfl, by omega, rfl⟩ (by omega)
    · intro c26
      refine And.intro (True.intro) ?_
      exact ⟨_, rfl, by omega⟩
abbrev jc_X_checkOrder_93ad1_28 : Nat → fL → List fV → fH → Prop := fun m lv st I => ∃ (y2 : Int) (y4 : Int) (y5 : Int), lv = [(0, .inr (.inr (some 0))), (2, .inl y2), (4, .inl y4), (5, .inl y5)] ∧ st = [] ∧ (((0 ≤ y2 ∧ y2 ≤ 60) ∧ ((-2147483648) ≤ y4 ∧ y4 ≤ 2147483647) ∧ (0 ≤ y5 ∧ y5 ≤ 7))) ∧ m = (1 + 1 * (7 - y5) : Int).toNat
set_option maxRecDepth 8000 in
theorem ct_X_checkOrder_93ad1 {I : fH} {x1 : Int} {x2 : Int} (h0 : fB bsJ I) (ha1 : (1 ≤ x1 ∧ x1 ≤ 60)) (ha2 : (0 ≤ x2 ∧ x2 ≤ 60)) : fC ρ base n F xTc vwCl xTys D dA la gJ (fbz bsJ znJ (fKc wz_324de) I) xm_221 [.inr (.inr (some 0)), .inl x1, .inl x2] I (fun _ r => ∃ z, r = some (.inl z) ∧ ((-2147483648) ≤ z ∧ z ≤ 49)) := by
  have hW : fzs wz_324de (fKc wz_324de) := fKc_ok _
  refine f_meth (rb := rbJ) (J := [(28, jc_X_checkOrder_93ad1_28)]) 9 400 xG xin_221 x6_221 okJ (fB_self h0) ?_ ?_
  · refine List.forall_mem_cons.mpr ⟨?_, fun q h => absurd h List.not_mem_nil⟩
    · rintro m _ _ I1 hB1 ⟨y2, y4, y5, rfl, rfl, hb, hm⟩
      refine And.intro ⟨rfl, by decide, by decide⟩ ?_
      refine And.intro ⟨rfl, by decide, by decide⟩ (fgetf fb_211_15 h0 hB1 ?_)
      intro z1 lz1 uz1 qz1
      refine And.intro (by omega) (And.intro ?_ ?_)
      · intro c2
        refine And.intro ⟨rfl, by decide, by decide⟩ ?_
        refine And.intro ⟨rfl, by decide, by decide⟩ (fgetf fb_211_15 h0 hB1 ?_)
        intro z3 lz3 uz3 qz3
        refine Exists.intro xm_220 (And.intro mi_220 (And.intro ⟨rfl, rfl, rfl, rfl⟩ (And.intro rfl ?_)))
        refine fcallp hB1 (ct_X_firstWrong_4e02b (fBz h0 hB1) (by omega) (by omega)) ?_
        rintro _ ⟨z4, rfl, hz4⟩
        refine And.intro (True.intro) ?_
        exact ⟨_, rfl, by omega⟩
      · intro c5
        refine And.intro ⟨rfl, by decide, by decide⟩ ?_
        refine And.intro ⟨rfl, by decide, by decide⟩ ?_
        refine And.intro ⟨rfl, by decide, by decide⟩ ?_
        refine And.intro ⟨rfl, by decide, by decide⟩ ?_
        refine fload rL_736_736_0_6_1_0 h0 hB1 (by omega) ?_
        intro z6 lz6 uz6 qz6
        refine fload rL_254_254_0_6_1_0 h0 hB1 (by omega) ?_
        intro z7 lz7 uz7 qz7
        intro z8 hz8 ez8 bz8
        refine And.intro ⟨rfl, by decide, by decide⟩ ?_
        refine And.intro ⟨rfl, by decide, by decide⟩ ?_
        refine And.intro ⟨rfl, by decide, by decide⟩ ?_
        refine fload rL_736_736_0_6_1_0 h0 hB1 (by omega) ?_
        intro z9 lz9 uz9 qz9
        refine fstore rS_739_739_0_59_1_0 (fzs_sub (by decide +kernel) hW) (by omega) (by omega) ?_
        intro IhB10 ehB10 hB10
        have t11 := fup_self ehB10
        have t12 : IhB10 211 15 = I1 211 15 := (congrFun (congrFun ehB10 211) 15).trans (fup_ne (by omega))
        refine And.intro ⟨rfl, by decide, by decide⟩ ?_
        refine fstore rS_739_739_0_59_1_0 (fzs_sub (by decide +kernel) hW) (by omega) (by omega) ?_
        intro IhB13 ehB13 hB13
        have t14 := fup_self ehB13
        have t15 : IhB13 211 15 = IhB10 211 15 := (congrFun (congrFun ehB13 211) 15).trans (fup_ne (by omega))
        exact fcutJ (I := IhB13) (j := jc_X_checkOrder_93ad1_28) (lv' := [(0, .inr (.inr (some 0))), (2, .inl _), (4, .inl _), (5, .inl _)]) (And.intro rfl (And.intro rfl (And.intro rfl (And.intro rfl True.intro)))) ⟨_, _, _, rfl, rfl, by omega, rfl⟩ (by omega)
  · have hB0 := fB_self (zn := znJ) (K := fKc wz_324de) h0
    refine And.intro ⟨rfl, by decide, by decide⟩ ?_
    refine And.intro ⟨rfl, by decide, by decide⟩ ?_
    refine Exists.intro xm_206 (And.intro mi_206 (And.intro ⟨rfl, rfl, rfl, rfl⟩ (And.intro rfl ?_)))
    refine fcall _ h0 (fzs_sub (by decide +kernel) hW) hB0 (ct_Order_bestSum_ae03f (fBz h0 hB0) (by omega) (by omega)) ?_
    rintro IhB17 _ hB17 fhB17 ⟨z16, rfl, hz16⟩
    refine And.intro (by omega) (And.intro ?_ ?_)
    · intro c18
      exact fcutJ (I := IhB17) (j := jc_X_checkOrder_93ad1_28) (lv' := [(0, .inr (.inr (some 0))), (2, .inl _), (4, .inl _), (5, .inl _)]) (And.intro rfl (And.intro rfl (And.intro rfl (And.intro rfl True.intro)))) ⟨_, _, _, rfl, rfl, by omega, rfl⟩ (by omega)
    · intro c19
      refine And.intro (True.intro) ?_
      exact ⟨_, rfl, by omega⟩
abbrev jc_X_checkLoads_0f880_29 : Nat → fL → List fV → fH → Prop := fun m lv st I => ∃ (y1 : Int) (y2 : Int) (y3 : Int) (y4 : Int) (y5 : Int), lv = [(0, .inr (.inr (some 0))), (1, .inl y1), (2, .inl y2), (3, .inl y3), (4, .inl y4), (5, .inl y5)] ∧ st = [] ∧ (((1 ≤ y1 ∧ y1 ≤ 24) ∧ (0 ≤ y2 ∧ y2 ≤ 300) ∧ (0 ≤ y3 ∧ y3 ≤ 60) ∧ ((-2147483648) ≤ y4 ∧ y4 ≤ 2147483647) ∧ (0 ≤ y5 ∧ y5 ≤ 24))) ∧ m = (1 + 1 * (24 - y5) : Int).toNat
set_option maxRecDepth 8000 in
theorem ct_X_checkLoads_0f880 {I : fH} {x1 : Int} {x2 : Int} {x3 : Int} (h0 : fB bsJ I) (ha1 : (1 ≤ x1 ∧ x1 ≤ 24)) (ha2 : (0 ≤ x2 ∧ x2 ≤ 300)) (ha3 : (0 ≤ x3 ∧ x3 ≤ 60)) : fC ρ base n F xTc vwCl xTys D dA la gJ (fbz bsJ znJ (fKc wz_b577c) I) xm_219 [.inr (.inr (some 0)), .inl x1, .inl x2, .inl x3] I (fun _ r => ∃ z, r = some (.inl z) ∧ ((0 ≤ z ∧ z ≤ 49) ∨ z = (-1000000005))) := by
  have hW : fzs wz_b577c (fKc wz_b577c) := fKc_ok _
  refine f_meth (rb := rbJ) (J := [(29, jc_X_checkLoads_0f880_29)]) 26 400 xG xin_219 x6_219 okJ (fB_self h0) ?_ ?_
  · refine List.forall_mem_cons.mpr ⟨?_, fun q h => absurd h List.not_mem_nil⟩
    · rintro m _ _ I1 hB1 ⟨y1, y2, y3, y4, y5, rfl, rfl, hb, hm⟩
      refine And.intro (by omega) (And.intro ?_ ?_)
      · intro c1
        refine Exists.intro xm_220 (And.intro mi_220 (And.intro ⟨rfl, rfl, rfl, rfl⟩ (And.intro rfl ?_)))
        refine fcallp hB1 (ct_X_firstWrong_4e02b (fBz h0 hB1) (by omega) (by omega)) ?_
        rintro _ ⟨z2, rfl, hz2⟩
        refine And.intro (True.intro) ?_
        exact ⟨_, rfl, by omega⟩
      · intro c3
        refine And.intro ⟨rfl, by decide, by decide⟩ ?_
        refine Exists.intro xm_192 (And.intro mi_192 (And.intro ⟨rfl, rfl, rfl, rfl⟩ (And.intro rfl ?_)))
        refine fcallp hB1 (ct_Dark_loadAt_007b1 (fBz h0 hB1) (by omega) (by omega)) ?_
        rintro _ ⟨z4, rfl, hz4⟩
        refine And.intro ⟨rfl, by decide, by decide⟩ ?_
        refine And.intro ⟨rfl, by decide, by decide⟩ ?_
        refine fload rL_223_223_0_3_1_0 h0 hB1 (by omega) ?_
        intro z5 lz5 uz5 qz5
        intro z6 hz6 ez6 bz6
        refine And.intro ⟨rfl, by decide, by decide⟩ ?_
        refine fstore rS_739_739_0_59_1_0 (fzs_sub (by decide +kernel) hW) (by omega) (by omega) ?_
        intro IhB7 ehB7 hB7
        have t8 := fup_self ehB7
        refine And.intro ⟨rfl, by decide, by decide⟩ ?_
        refine fstore rS_739_739_0_59_1_0 (fzs_sub (by decide +kernel) hW) (by omega) (by omega) ?_
        intro IhB9 ehB9 hB9
        have t10 := fup_self ehB9
        exact fcutJ (I := IhB9) (j := jc_X_checkLoads_0f880_29) (lv' := [(0, .inr (.inr (some 0))), (1, .inl _), (2, .inl _), (3, .inl _), (4, .inl _), (5, .inl _)]) (And.intro rfl (And.intro rfl (And.intro rfl (And.intro rfl (And.intro rfl (And.intro rfl True.intro)))))) ⟨_, _, _, _, _, rfl, rfl, by omega, rfl⟩ (by omega)
  · have hB0 := fB_self (zn := znJ) (K := fKc wz_b577c) h0
    refine And.intro ⟨rfl, by decide, by decide⟩ ?_
    refine And.intro ⟨rfl, by decide, by decide⟩ ?_
    refine Exists.intro xm_189 (And.intro mi_189 (And.intro ⟨rfl, rfl, rfl, rfl⟩ (And.intro rfl ?_)))
    refine fcall _ h0 (fzs_sub (by decide +kernel) hW) hB0 (ct_Dark_leastHarm_e9db9 (fBz h0 hB0) (by omega) (by omega)) ?_
    rintro IhB12 _ hB12 fhB12 ⟨z11, rfl, hz11⟩
    refine And.intro (by omega) (And.intro ?_ ?_)
    · intro c13
      exact fcutJ (I := IhB12) (j := jc_X_checkLoads_0f880_29) (lv' := [(0, .inr (.inr (some 0))), (1, .inl _), (2, .inl _), (3, .inl _), (4, .inl _), (5, .inl _)]) (And.intro rfl (And.intro rfl (And.intro rfl (And.intro rfl (And.intro rfl (And.intro rfl True.intro)))))) ⟨_, _, _, _, _, rfl, rfl, by omega, rfl⟩ (by omega)
    · intro c14
      refine And.intro (True.intro) ?_
      exact ⟨_, rfl, by omega⟩
set_option maxRecDepth 8000 in
theorem ct_X_check_a63a8 {I : fH} {x1 : Int} {x2 : Int} {x3 : Int} (h0 : fB bsJ I) (ha1 : ((-2147483648) ≤ x1 ∧ x1 ≤ 2147483647)) (ha2 : ((-2147483648) ≤ x2 ∧ x2 ≤ 2147483647)) (ha3 : ((-2147483648) ≤ x3 ∧ x3 ≤ 2147483647)) : fC ρ base n F xTc vwCl xTys D dA la gJ (fbz bsJ znJ (fKc wz_04d21) I) xm_218 [.inr (.inr (some 0)), .inl x1, .inl x2, .inl x3] I (fun _ r => ∃ z, r = some (.inl z) ∧ ((-2147483648) ≤ z ∧ z ≤ 49)) := by
  have hW : fzs wz_04d21 (fKc wz_04d21) := fKc_ok _
  refine f_meth (rb := rbJ) (J := []) 1 400 xG xin_218 x6_218 okJ (fB_self h0) ?_ ?_
  · exact fun q h => absurd h List.not_mem_nil
  · have hB0 := fB_self (zn := znJ) (K := fKc wz_04d21) h0
    refine And.intro ⟨rfl, by decide, by decide⟩ (fgetf fb_0_14 h0 hB0 ?_)
    intro z1 lz1 uz1 qz1
    refine And.intro ⟨rfl, by decide, by decide⟩ (And.intro rfl (And.intro (Or.inl rfl) (fputf fb_0_14 (by decide +kernel) hW (by omega) ?_)))
    intro IhB2 ehB2 hB2
    have t3 := fup_at ehB2 14 (by omega)
    refine And.intro (by omega) (And.intro ?_ ?_)
    · refine And.intro (fun ex => ?_) (And.intro (fun ex => ?_) (And.intro (fun ex => ?_) (True.intro)))
      · skip
        refine Exists.intro xm_13 (And.intro mi_13 (And.intro ⟨rfl, rfl, rfl, rfl⟩ (And.intro True.intro ?_)))
        refine fcallp hB2 (ct_X_within_c27b1 (fBz h0 hB2) (by omega) (by omega) (by omega)) ?_
        rintro _ ⟨z4, rfl, hz4⟩
        refine And.intro (by omega) (And.intro ?_ ?_)
        · intro c5
          refine And.intro (True.intro) ?_
          exact ⟨_, rfl, by omega⟩
        · intro c6
          refine Exists.intro xm_13 (And.intro mi_13 (And.intro ⟨rfl, rfl, rfl, rfl⟩ (And.intro True.intro ?_)))
          refine fcallp hB2 (ct_X_within_c27b1 (fBz h0 hB2) (by omega) (by omega) (by omega)) ?_
          rintro _ ⟨z7, rfl, hz7⟩
          refine And.intro (by omega) (And.intro ?_ ?_)
          · intro c8
            refine And.intro (True.intro) ?_
            exact ⟨_, rfl, by omega⟩
          · intro c9
            refine Exists.intro xm_219 (And.intro mi_219 (And.intro ⟨rfl, rfl, rfl, rfl⟩ (And.intro rfl ?_)))
            refine fcall _ h0 (fzs_sub (by decide +kernel) hW) hB2 (ct_X_checkLoads_0f880 (fBz h0 hB2) (by omega) (by omega) (by omega)) ?_
            rintro IhB11 _ hB11 fhB11 ⟨z10, rfl, hz10⟩
            have t12 := fhB11 0 14 (by decide +kernel)
            refine And.intro (True.intro) ?_
            exact ⟨_, rfl, by omega⟩
      · skip
        refine Exists.intro xm_13 (And.intro mi_13 (And.intro ⟨rfl, rfl, rfl, rfl⟩ (And.intro True.intro ?_)))
        refine fcallp hB2 (ct_X_within_c27b1 (fBz h0 hB2) (by omega) (by omega) (by omega)) ?_
        rintro _ ⟨z13, rfl, hz13⟩
        refine And.intro (by omega) (And.intro ?_ ?_)
        · intro c14
          refine And.intro (True.intro) ?_
          exact ⟨_, rfl, by omega⟩
        · intro c15
          refine Exists.intro xm_221 (And.intro mi_221 (And.intro ⟨rfl, rfl, rfl, rfl⟩ (And.intro rfl ?_)))
          refine fcall _ h0 (fzs_sub (by decide +kernel) hW) hB2 (ct_X_checkOrder_93ad1 (fBz h0 hB2) (by omega) (by omega)) ?_
          rintro IhB17 _ hB17 fhB17 ⟨z16, rfl, hz16⟩
          have t18 := fhB17 0 14 (by decide +kernel)
          refine And.intro (True.intro) ?_
          exact ⟨_, rfl, by omega⟩
      · skip
        refine Exists.intro xm_13 (And.intro mi_13 (And.intro ⟨rfl, rfl, rfl, rfl⟩ (And.intro True.intro ?_)))
        refine fcallp hB2 (ct_X_within_c27b1 (fBz h0 hB2) (by omega) (by omega) (by omega)) ?_
        rintro _ ⟨z19, rfl, hz19⟩
        refine And.intro (by omega) (And.intro ?_ ?_)
        · intro c20
          refine And.intro (True.intro) ?_
          exact ⟨_, rfl, by omega⟩
        · intro c21
          refine Exists.intro xm_222 (And.intro mi_222 (And.intro ⟨rfl, rfl, rfl, rfl⟩ (And.intro rfl ?_)))
          refine fcall _ h0 (fzs_sub (by decide +kernel) hW) hB2 (ct_X_checkDay_bd195 (fBz h0 hB2) (by omega) (by omega)) ?_
          rintro IhB23 _ hB23 fhB23 ⟨z22, rfl, hz22⟩
          have t24 := fhB23 0 14 (by decide +kernel)
          refine And.intro (True.intro) ?_
          exact ⟨_, rfl, by omega⟩
    · intro c25
      refine And.intro (True.intro) ?_
      exact ⟨_, rfl, by omega⟩
set_option maxRecDepth 8000 in
theorem ct_M_dueIs_00623 {I : fH} {x1 : Int} {x2 : Int} (h0 : fB bsJ I) (ha1 : (0 ≤ x1 ∧ x1 ≤ 600)) (ha2 : ((-2147483648) ≤ x2 ∧ x2 ≤ 2147483647)) (hp0 : I 740 39 ≤ 58) : fC ρ base n F xTc vwCl xTys D dA la gJ (fbz bsJ znJ (fKc wz_518f7) I) xm_491 [.inr (.inr (some 740)), .inl x1, .inl x2] I (fun I' r => r = none ∧ I' 740 39 = I 740 39 + 2) := by
  have hW : fzs wz_518f7 (fKc wz_518f7) := fKc_ok _
  refine f_meth (rb := rbJ) (J := []) 1 400 xG xin_491 x6_491 okJ (fB_self h0) ?_ ?_
  · exact fun q h => absurd h List.not_mem_nil
  · have hB0 := fB_self (zn := znJ) (K := fKc wz_518f7) h0
    refine And.intro ⟨rfl, by decide, by decide⟩ ?_
    refine And.intro ⟨rfl, by decide, by decide⟩ (fgetf fb_740_39 h0 hB0 ?_)
    intro z1 lz1 uz1 qz1
    refine fstore rS_760_760_0_59_1_0 (fzs_sub (by decide +kernel) hW) (by omega) (by omega) ?_
    intro IhB2 ehB2 hB2
    have t3 := fup_self ehB2
    have t4 : IhB2 740 39 = I 740 39 := (congrFun (congrFun ehB2 740) 39).trans (fup_ne (by omega))
    refine And.intro ⟨rfl, by decide, by decide⟩ ?_
    refine And.intro ⟨rfl, by decide, by decide⟩ (fgetf fb_740_39 h0 hB2 ?_)
    intro z5 lz5 uz5 qz5
    refine fstore rS_760_760_0_59_1_0 (fzs_sub (by decide +kernel) hW) (by omega) (by omega) ?_
    intro IhB6 ehB6 hB6
    have t7 := fup_self ehB6
    have t8 : IhB6 740 39 = IhB2 740 39 := (congrFun (congrFun ehB6 740) 39).trans (fup_ne (by omega))
    refine And.intro ⟨rfl, by decide, by decide⟩ (fgetf fb_740_39 h0 hB6 ?_)
    intro z9 lz9 uz9 qz9
    refine And.intro ⟨rfl, by decide, by decide⟩ (And.intro rfl (And.intro (Or.inl rfl) (fputf fb_740_39 (by decide +kernel) hW (by omega) ?_)))
    intro IhB10 ehB10 hB10
    have t11 := fup_at ehB10 39 (by omega)
    exact ⟨rfl, by omega⟩
abbrev jc_M_rowsOfOrder_afdec_24 : Nat → fL → List fV → fH → Prop := fun m lv st I => ∃ (y2 : Int) (y3 : Int) (y4 : Int), lv = [(0, .inr (.inr (some 740))), (2, .inl y2), (3, .inl y3), (4, .inl y4)] ∧ st = [] ∧ ((((0 ≤ y2 ∧ y2 ≤ 2147483647) ∨ y2 = (-1000000004) ∨ y2 = (-1000000002)) ∧ ((-2147483648) ≤ y3 ∧ y3 ≤ 2147483647) ∧ (0 ≤ y4 ∧ y4 ≤ 7) ∧ (I 740 39 = 2 * y4))) ∧ m = (1 + 1 * (7 - y4) : Int).toNat
set_option maxRecDepth 8000 in
theorem ct_M_rowsOfOrder_afdec {I : fH} {x1 : Int} (h0 : fB bsJ I) (ha1 : ((-2147483648) ≤ x1 ∧ x1 ≤ 2147483647)) (hp0 : I 740 39 = 0) : fC ρ base n F xTc vwCl xTys D dA la gJ (fbz bsJ znJ (fKc wz_96c9e) I) xm_492 [.inr (.inr (some 740)), .inl x1] I (fun _ r => ∃ z, r = some (.inl z) ∧ ((0 ≤ z ∧ z ≤ 0) ∨ z = (-1000000004) ∨ z = (-1000000002) ∨ z = (-1000000001))) := by
  have hW : fzs wz_96c9e (fKc wz_96c9e) := fKc_ok _
  refine f_meth (rb := rbJ) (J := [(24, jc_M_rowsOfOrder_afdec_24)]) 9 400 xG xin_492 x6_492 okJ (fB_self h0) ?_ ?_
  · refine List.forall_mem_cons.mpr ⟨?_, fun q h => absurd h List.not_mem_nil⟩
    · rintro m _ _ I1 hB1 ⟨y2, y3, y4, rfl, rfl, hb, hm⟩
      refine And.intro ⟨rfl, by decide, by decide⟩ ?_
      refine fload rL_741_741_12_12_1_0 h0 hB1 (by omega) ?_
      intro z1 lz1 uz1 qz1
      have pz1 := fld_at qz1 12 (by omega)
      refine And.intro (by omega) (And.intro ?_ ?_)
      · intro c2
        refine And.intro (by omega) (And.intro ?_ ?_)
        · intro c3
          refine And.intro (True.intro) ?_
          exact ⟨_, rfl, by omega⟩
        · intro c4
          refine And.intro (True.intro) ?_
          exact ⟨_, rfl, by omega⟩
      · intro c5
        refine And.intro (by omega) (And.intro ?_ ?_)
        · intro c6
          refine And.intro (by omega) (And.intro ?_ ?_)
          · intro c7
            refine And.intro (True.intro) ?_
            exact ⟨_, rfl, by omega⟩
          · intro c8
            refine And.intro (True.intro) ?_
            exact ⟨_, rfl, by omega⟩
        · intro c9
          refine And.intro ⟨rfl, by decide, by decide⟩ ?_
          refine And.intro ⟨rfl, by decide, by decide⟩ ?_
          refine fload rL_758_758_0_6_1_0 h0 hB1 (by omega) ?_
          intro z10 lz10 uz10 qz10
          refine fload rL_741_741_4370_4388_3_0 h0 hB1 (by omega) ?_
          intro z11 lz11 uz11 qz11
          intro z12 hz12 ez12 bz12
          refine And.intro ⟨rfl, by decide, by decide⟩ ?_
          refine fload rL_758_758_0_6_1_0 h0 hB1 (by omega) ?_
          intro z13 lz13 uz13 qz13
          refine Exists.intro xm_491 (And.intro mi_491 (And.intro ⟨rfl, rfl, rfl, rfl⟩ (And.intro rfl ?_)))
          refine fcall _ h0 (fzs_sub (by decide +kernel) hW) hB1 (ct_M_dueIs_00623 (fBz h0 hB1) (by omega) (by omega) (by omega)) ?_
          rintro IhB15 _ hB15 fhB15 ⟨rfl, hz14⟩
          have t16 := fhB15 741 12 (by decide +kernel)
          exact fcutJ (I := IhB15) (j := jc_M_rowsOfOrder_afdec_24) (lv' := [(0, .inr (.inr (some 740))), (2, .inl _), (3, .inl _), (4, .inl _)]) (And.intro rfl (And.intro rfl (And.intro rfl (And.intro rfl True.intro)))) ⟨_, _, _, rfl, rfl, by omega, rfl⟩ (by omega)
  · have hB0 := fB_self (zn := znJ) (K := fKc wz_96c9e) h0
    refine Exists.intro xm_477 (And.intro mi_477 (And.intro ⟨rfl, rfl, rfl, rfl⟩ (And.intro True.intro ?_)))
    refine fcallp hB0 (ct_M_isYears_9dc65 (fBz h0 hB0) (by omega)) ?_
    rintro _ ⟨z17, rfl, hz17⟩
    refine And.intro (by omega) (And.intro ?_ ?_)
    · intro c18
      refine Exists.intro xm_478 (And.intro mi_478 (And.intro ⟨rfl, rfl, rfl, rfl⟩ (And.intro rfl ?_)))
      refine fcall _ h0 (fzs_sub (by decide +kernel) hW) hB0 (ct_M_findOrder_1fb74 (fBz h0 hB0) (by omega) (by omega)) ?_
      rintro IhB20 _ hB20 fhB20 ⟨z19, rfl, hz19⟩
      exact fcutJ (I := IhB20) (j := jc_M_rowsOfOrder_afdec_24) (lv' := [(0, .inr (.inr (some 740))), (2, .inl _), (3, .inl _), (4, .inl _)]) (And.intro rfl (And.intro rfl (And.intro rfl (And.intro rfl True.intro)))) ⟨_, _, _, rfl, rfl, by omega, rfl⟩ (by omega)
    · intro c21
      refine And.intro (True.intro) ?_
      exact ⟨_, rfl, by omega⟩
abbrev jc_M_oxygen_31ab3_4 : Nat → fL → List fV → fH → Prop := fun m lv st I => ∃ (y1 : Int) (y2 : Int), lv = [(0, .inr (.inr (some 740))), (1, .inl y1), (2, .inl y2)] ∧ st = [] ∧ ((((-2147483648) ≤ y1 ∧ y1 ≤ 2147483647) ∧ (0 ≤ y2 ∧ y2 ≤ 20))) ∧ m = (1 + 1 * (20 - y2) : Int).toNat
set_option maxRecDepth 8000 in
theorem ct_M_oxygen_31ab3 {I : fH}  (h0 : fB bsJ I)  : fC ρ base n F xTc vwCl xTys D dA la gJ (fbz bsJ znJ (fKc []) I) xm_494 [.inr (.inr (some 740))] I (fun _ r => ∃ z, r = some (.inl z) ∧ ((-2147483648) ≤ z ∧ z ≤ 2147483647)) := by
  have hW : fzs [] (fKc []) := fKc_ok _
  refine f_meth (rb := rbJ) (J := [(4, jc_M_oxygen_31ab3_4)]) 22 400 xG xin_494 x6_494 okJ (fB_self h0) ?_ ?_
  · refine List.forall_mem_cons.mpr ⟨?_, fun q h => absurd h List.not_mem_nil⟩
    · rintro m _ _ I1 hB1 ⟨y1, y2, rfl, rfl, hb, hm⟩
      refine And.intro ⟨rfl, by decide, by decide⟩ ?_
      refine fload rL_741_741_5_5_1_0 h0 hB1 (by omega) ?_
      intro z1 lz1 uz1 qz1
      have pz1 := fld_at qz1 5 (by omega)
      refine And.intro (by omega) (And.intro ?_ ?_)
      · intro c2
        refine And.intro (True.intro) ?_
        exact ⟨_, rfl, by omega⟩
      · intro c3
        refine And.intro ⟨rfl, by decide, by decide⟩ ?_
        refine Exists.intro xm_239 (And.intro mi_239 (And.intro ⟨rfl, rfl, rfl, rfl⟩ (And.intro rfl ?_)))
        refine fcallp hB1 (ct_M_cellAt_c15f4 (fBz h0 hB1) (by omega)) ?_
        rintro _ ⟨_, rfl, rfl⟩
        refine fload rL_741_741_31_411_20_0 h0 hB1 (by omega) ?_
        intro z5 lz5 uz5 qz5
        intro z6 hz6 ez6 bz6
        exact fcutJ (I := I1) (j := jc_M_oxygen_31ab3_4) (lv' := [(0, .inr (.inr (some 740))), (1, .inl _), (2, .inl _)]) (And.intro rfl (And.intro rfl (And.intro rfl True.intro))) ⟨_, _, rfl, rfl, by omega, rfl⟩ (by omega)
  · have hB0 := fB_self (zn := znJ) (K := fKc []) h0
    exact fcutJ (I := I) (j := jc_M_oxygen_31ab3_4) (lv' := [(0, .inr (.inr (some 740))), (1, .inl _), (2, .inl _)]) (And.intro rfl (And.intro rfl (And.intro rfl True.intro))) ⟨_, _, rfl, rfl, by omega, rfl⟩ (by omega)
set_option maxRecDepth 8000 in
theorem ct_People_becomeAs_f9dc9 {I : fH}  (h0 : fB bsJ I)  : fC ρ base n F xTc vwCl xTys D dA la gJ (fbz bsJ znJ (fKc wz_35895) I) xm_227 [.inr (.inr (some 433)), .inr (.inr (some 177))] I (fun _ r => r = none) := by
  have hW : fzs wz_35895 (fKc wz_35895) := fKc_ok _
  refine f_meth (rb := rbJ) (J := []) 1 400 xG xin_227 x6_227 okJ (fB_self h0) ?_ ?_
  · exact fun q h => absurd h List.not_mem_nil
  · have hB0 := fB_self (zn := znJ) (K := fKc wz_35895) h0
    refine And.intro ⟨rfl, by decide, by decide⟩ ?_
    refine And.intro ⟨rfl, by decide, by decide⟩ ?_
    refine Exists.intro xm_75 (And.intro mi_75 (And.intro ⟨rfl, rfl, rfl, rfl⟩ (And.intro True.intro ?_)))
    refine fcall _ h0 (fzs_sub (by decide +kernel) hW) hB0 (ct_copyRow (W := [434]) (len := 24) (fBz h0 hB0) (frC_of (by decide +kernel))) ?_
    rintro IhB1 _ hB1 fhB1 ⟨rfl, ehB1⟩
    refine And.intro ⟨rfl, by decide, by decide⟩ ?_
    refine And.intro ⟨rfl, by decide, by decide⟩ ?_
    refine Exists.intro xm_75 (And.intro mi_75 (And.intro ⟨rfl, rfl, rfl, rfl⟩ (And.intro True.intro ?_)))
    refine fcall _ h0 (fzs_sub (by decide +kernel) hW) hB1 (ct_copyRow (W := [435]) (len := 24) (fBz h0 hB1) (frC_of (by decide +kernel))) ?_
    rintro IhB2 _ hB2 fhB2 ⟨rfl, ehB2⟩
    refine And.intro ⟨rfl, by decide, by decide⟩ ?_
    refine And.intro ⟨rfl, by decide, by decide⟩ ?_
    refine Exists.intro xm_75 (And.intro mi_75 (And.intro ⟨rfl, rfl, rfl, rfl⟩ (And.intro True.intro ?_)))
    refine fcall _ h0 (fzs_sub (by decide +kernel) hW) hB2 (ct_copyRow (W := [436]) (len := 24) (fBz h0 hB2) (frC_of (by decide +kernel))) ?_
    rintro IhB3 _ hB3 fhB3 ⟨rfl, ehB3⟩
    refine And.intro ⟨rfl, by decide, by decide⟩ ?_
    refine And.intro ⟨rfl, by decide, by decide⟩ ?_
    refine Exists.intro xm_75 (And.intro mi_75 (And.intro ⟨rfl, rfl, rfl, rfl⟩ (And.intro True.intro ?_)))
    refine fcall _ h0 (fzs_sub (by decide +kernel) hW) hB3 (ct_copyRow (W := [437]) (len := 24) (fBz h0 hB3) (frC_of (by decide +kernel))) ?_
    rintro IhB4 _ hB4 fhB4 ⟨rfl, ehB4⟩
    refine And.intro ⟨rfl, by decide, by decide⟩ (fgetf fb_177_4 h0 hB4 ?_)
    intro z5 lz5 uz5 qz5
    refine And.intro ⟨rfl, by decide, by decide⟩ (And.intro rfl (And.intro (Or.inl rfl) (fputf fb_433_4 (by decide +kernel) hW (by omega) ?_)))
    intro IhB6 ehB6 hB6
    have t7 : IhB6 177 4 = IhB4 177 4 := (congrFun (congrFun ehB6 177) 4).trans (fup_ne (by omega))
    have t8 := fup_at ehB6 4 (by omega)
    exact rfl
set_option maxRecDepth 8000 in
theorem ct_Cells_becomeAs_a1cd9 {I : fH}  (h0 : fB bsJ I)  : fC ρ base n F xTc vwCl xTys D dA la gJ (fbz bsJ znJ (fKc wz_479cc) I) xm_224 [.inr (.inr (some 258)), .inr (.inr (some 2))] I (fun _ r => r = none) := by
  have hW : fzs wz_479cc (fKc wz_479cc) := fKc_ok _
  refine f_meth (rb := rbJ) (J := []) 1 400 xG xin_224 x6_224 okJ (fB_self h0) ?_ ?_
  · exact fun q h => absurd h List.not_mem_nil
  · have hB0 := fB_self (zn := znJ) (K := fKc wz_479cc) h0
    refine And.intro ⟨rfl, by decide, by decide⟩ ?_
    refine And.intro ⟨rfl, by decide, by decide⟩ ?_
    refine Exists.intro xm_75 (And.intro mi_75 (And.intro ⟨rfl, rfl, rfl, rfl⟩ (And.intro True.intro ?_)))
    refine fcall _ h0 (fzs_sub (by decide +kernel) hW) hB0 (ct_copyRow (W := [259]) (len := 20) (fBz h0 hB0) (frC_of (by decide +kernel))) ?_
    rintro IhB1 _ hB1 fhB1 ⟨rfl, ehB1⟩
    refine And.intro ⟨rfl, by decide, by decide⟩ ?_
    refine And.intro ⟨rfl, by decide, by decide⟩ ?_
    refine Exists.intro xm_75 (And.intro mi_75 (And.intro ⟨rfl, rfl, rfl, rfl⟩ (And.intro True.intro ?_)))
    refine fcall _ h0 (fzs_sub (by decide +kernel) hW) hB1 (ct_copyRow (W := [260]) (len := 20) (fBz h0 hB1) (frC_of (by decide +kernel))) ?_
    rintro IhB2 _ hB2 fhB2 ⟨rfl, ehB2⟩
    refine And.intro ⟨rfl, by decide, by decide⟩ ?_
    refine And.intro ⟨rfl, by decide, by decide⟩ ?_
    refine Exists.intro xm_225 (And.intro mi_225 (And.intro ⟨rfl, rfl, rfl, rfl⟩ (And.intro True.intro ?_)))
    refine fcall _ h0 (fzs_sub (by decide +kernel) hW) hB2 (ct_copyRows (W := [261]) (m := 20) (len := 5) (ro := 6) (rd := 262) (fBz h0 hB2) (frCs_of ⟨rfl, rfl, rfl, rfl, by decide⟩ (by decide +kernel))) ?_
    rintro IhB3 _ hB3 fhB3 ⟨rfl, ehB3⟩
    refine And.intro ⟨rfl, by decide, by decide⟩ ?_
    refine And.intro ⟨rfl, by decide, by decide⟩ ?_
    refine Exists.intro xm_225 (And.intro mi_225 (And.intro ⟨rfl, rfl, rfl, rfl⟩ (And.intro True.intro ?_)))
    refine fcall _ h0 (fzs_sub (by decide +kernel) hW) hB3 (ct_copyRows (W := [282]) (m := 20) (len := 5) (ro := 27) (rd := 283) (fBz h0 hB3) (frCs_of ⟨rfl, rfl, rfl, rfl, by decide⟩ (by decide +kernel))) ?_
    rintro IhB4 _ hB4 fhB4 ⟨rfl, ehB4⟩
    refine And.intro ⟨rfl, by decide, by decide⟩ ?_
    refine And.intro ⟨rfl, by decide, by decide⟩ ?_
    refine Exists.intro xm_225 (And.intro mi_225 (And.intro ⟨rfl, rfl, rfl, rfl⟩ (And.intro True.intro ?_)))
    refine fcall _ h0 (fzs_sub (by decide +kernel) hW) hB4 (ct_copyRows (W := [303]) (m := 20) (len := 6) (ro := 48) (rd := 304) (fBz h0 hB4) (frCs_of ⟨rfl, rfl, rfl, rfl, by decide⟩ (by decide +kernel))) ?_
    rintro IhB5 _ hB5 fhB5 ⟨rfl, ehB5⟩
    refine And.intro ⟨rfl, by decide, by decide⟩ (fgetf fb_2_5 h0 hB5 ?_)
    intro z6 lz6 uz6 qz6
    refine And.intro ⟨rfl, by decide, by decide⟩ (And.intro rfl (And.intro (Or.inl rfl) (fputf fb_258_5 (by decide +kernel) hW (by omega) ?_)))
    intro IhB7 ehB7 hB7
    have t8 : IhB7 2 5 = IhB5 2 5 := (congrFun (congrFun ehB7 2) 5).trans (fup_ne (by omega))
    have t9 := fup_at ehB7 5 (by omega)
    refine And.intro ⟨rfl, by decide, by decide⟩ ?_
    refine And.intro ⟨rfl, by decide, by decide⟩ ?_
    refine Exists.intro xm_75 (And.intro mi_75 (And.intro ⟨rfl, rfl, rfl, rfl⟩ (And.intro True.intro ?_)))
    refine fcall _ h0 (fzs_sub (by decide +kernel) hW) hB7 (ct_copyRow (W := [324]) (len := 24) (fBz h0 hB7) (frC_of (by decide +kernel))) ?_
    rintro IhB10 _ hB10 fhB10 ⟨rfl, ehB10⟩
    have t11 := fhB10 2 5 (by decide +kernel)
    have t12 := fhB10 258 5 (by decide +kernel)
    refine And.intro ⟨rfl, by decide, by decide⟩ ?_
    refine And.intro ⟨rfl, by decide, by decide⟩ ?_
    refine Exists.intro xm_75 (And.intro mi_75 (And.intro ⟨rfl, rfl, rfl, rfl⟩ (And.intro True.intro ?_)))
    refine fcall _ h0 (fzs_sub (by decide +kernel) hW) hB10 (ct_copyRow (W := [325]) (len := 24) (fBz h0 hB10) (frC_of (by decide +kernel))) ?_
    rintro IhB13 _ hB13 fhB13 ⟨rfl, ehB13⟩
    have t14 := fhB13 2 5 (by decide +kernel)
    have t15 := fhB13 258 5 (by decide +kernel)
    refine And.intro ⟨rfl, by decide, by decide⟩ ?_
    refine And.intro ⟨rfl, by decide, by decide⟩ ?_
    refine Exists.intro xm_75 (And.intro mi_75 (And.intro ⟨rfl, rfl, rfl, rfl⟩ (And.intro True.intro ?_)))
    refine fcall _ h0 (fzs_sub (by decide +kernel) hW) hB13 (ct_copyRow (W := [326]) (len := 24) (fBz h0 hB13) (frC_of (by decide +kernel))) ?_
    rintro IhB16 _ hB16 fhB16 ⟨rfl, ehB16⟩
    have t17 := fhB16 2 5 (by decide +kernel)
    have t18 := fhB16 258 5 (by decide +kernel)
    refine And.intro ⟨rfl, by decide, by decide⟩ ?_
    refine And.intro ⟨rfl, by decide, by decide⟩ ?_
    refine Exists.intro xm_75 (And.intro mi_75 (And.intro ⟨rfl, rfl, rfl, rfl⟩ (And.intro True.intro ?_)))
    refine fcall _ h0 (fzs_sub (by decide +kernel) hW) hB16 (ct_copyRow (W := [327]) (len := 24) (fBz h0 hB16) (frC_of (by decide +kernel))) ?_
    rintro IhB19 _ hB19 fhB19 ⟨rfl, ehB19⟩
    have t20 := fhB19 2 5 (by decide +kernel)
    have t21 := fhB19 258 5 (by decide +kernel)
    refine And.intro ⟨rfl, by decide, by decide⟩ (fgetf fb_2_10 h0 hB19 ?_)
    intro z22 lz22 uz22 qz22
    refine And.intro ⟨rfl, by decide, by decide⟩ (And.intro rfl (And.intro (Or.inl rfl) (fputf fb_258_10 (by decide +kernel) hW (by omega) ?_)))
    intro IhB23 ehB23 hB23
    have t24 : IhB23 2 5 = IhB19 2 5 := (congrFun (congrFun ehB23 2) 5).trans (fup_ne (by omega))
    have t25 : IhB23 2 10 = IhB19 2 10 := (congrFun (congrFun ehB23 2) 10).trans (fup_ne (by omega))
    have t26 : IhB23 258 5 = IhB19 258 5 := (congrFun (congrFun ehB23 258) 5).trans (fup_ne (by omega))
    have t27 := fup_at ehB23 10 (by omega)
    refine And.intro ⟨rfl, by decide, by decide⟩ ?_
    refine And.intro ⟨rfl, by decide, by decide⟩ ?_
    refine Exists.intro xm_225 (And.intro mi_225 (And.intro ⟨rfl, rfl, rfl, rfl⟩ (And.intro True.intro ?_)))
    refine fcall _ h0 (fzs_sub (by decide +kernel) hW) hB23 (ct_copyRows (W := [328]) (m := 90) (len := 8) (ro := 73) (rd := 329) (fBz h0 hB23) (frCs_of ⟨rfl, rfl, rfl, rfl, by decide⟩ (by decide +kernel))) ?_
    rintro IhB28 _ hB28 fhB28 ⟨rfl, ehB28⟩
    have t29 := fhB28 2 5 (by decide +kernel)
    have t30 := fhB28 2 10 (by decide +kernel)
    have t31 := fhB28 258 5 (by decide +kernel)
    have t32 := fhB28 258 10 (by decide +kernel)
    refine And.intro ⟨rfl, by decide, by decide⟩ (fgetf fb_2_12 h0 hB28 ?_)
    intro z33 lz33 uz33 qz33
    refine And.intro ⟨rfl, by decide, by decide⟩ (And.intro rfl (And.intro (Or.inl rfl) (fputf fb_258_12 (by decide +kernel) hW (by omega) ?_)))
    intro IhB34 ehB34 hB34
    have t35 : IhB34 2 5 = IhB28 2 5 := (congrFun (congrFun ehB34 2) 5).trans (fup_ne (by omega))
    have t36 : IhB34 2 10 = IhB28 2 10 := (congrFun (congrFun ehB34 2) 10).trans (fup_ne (by omega))
    have t37 : IhB34 2 12 = IhB28 2 12 := (congrFun (congrFun ehB34 2) 12).trans (fup_ne (by omega))
    have t38 : IhB34 258 5 = IhB28 258 5 := (congrFun (congrFun ehB34 258) 5).trans (fup_ne (by omega))
    have t39 : IhB34 258 10 = IhB28 258 10 := (congrFun (congrFun ehB34 258) 10).trans (fup_ne (by omega))
    have t40 := fup_at ehB34 12 (by omega)
    exact rfl
set_option maxRecDepth 8000 in
theorem ct_Works_becomeAs_81b4d {I : fH}  (h0 : fB bsJ I)  : fC ρ base n F xTc vwCl xTys D dA la gJ (fbz bsJ znJ (fKc wz_470c1) I) xm_226 [.inr (.inr (some 419)), .inr (.inr (some 163))] I (fun _ r => r = none) := by
  have hW : fzs wz_470c1 (fKc wz_470c1) := fKc_ok _
  refine f_meth (rb := rbJ) (J := []) 1 400 xG xin_226 x6_226 okJ (fB_self h0) ?_ ?_
  · exact fun q h => absurd h List.not_mem_nil
  · have hB0 := fB_self (zn := znJ) (K := fKc wz_470c1) h0
    refine And.intro ⟨rfl, by decide, by decide⟩ ?_
    refine And.intro ⟨rfl, by decide, by decide⟩ ?_
    refine Exists.intro xm_75 (And.intro mi_75 (And.intro ⟨rfl, rfl, rfl, rfl⟩ (And.intro True.intro ?_)))
    refine fcall _ h0 (fzs_sub (by decide +kernel) hW) hB0 (ct_copyRow (W := [420]) (len := 24) (fBz h0 hB0) (frC_of (by decide +kernel))) ?_
    rintro IhB1 _ hB1 fhB1 ⟨rfl, ehB1⟩
    refine And.intro ⟨rfl, by decide, by decide⟩ ?_
    refine And.intro ⟨rfl, by decide, by decide⟩ ?_
    refine Exists.intro xm_75 (And.intro mi_75 (And.intro ⟨rfl, rfl, rfl, rfl⟩ (And.intro True.intro ?_)))
    refine fcall _ h0 (fzs_sub (by decide +kernel) hW) hB1 (ct_copyRow (W := [421]) (len := 24) (fBz h0 hB1) (frC_of (by decide +kernel))) ?_
    rintro IhB2 _ hB2 fhB2 ⟨rfl, ehB2⟩
    refine And.intro ⟨rfl, by decide, by decide⟩ ?_
    refine And.intro ⟨rfl, by decide, by decide⟩ ?_
    refine Exists.intro xm_75 (And.intro mi_75 (And.intro ⟨rfl, rfl, rfl, rfl⟩ (And.intro True.intro ?_)))
    refine fcall _ h0 (fzs_sub (by decide +kernel) hW) hB2 (ct_copyRow (W := [422]) (len := 24) (fBz h0 hB2) (frC_of (by decide +kernel))) ?_
    rintro IhB3 _ hB3 fhB3 ⟨rfl, ehB3⟩
    refine And.intro ⟨rfl, by decide, by decide⟩ ?_
    refine And.intro ⟨rfl, by decide, by decide⟩ ?_
    refine Exists.intro xm_75 (And.intro mi_75 (And.intro ⟨rfl, rfl, rfl, rfl⟩ (And.intro True.intro ?_)))
    refine fcall _ h0 (fzs_sub (by decide +kernel) hW) hB3 (ct_copyRow (W := [423]) (len := 24) (fBz h0 hB3) (frC_of (by decide +kernel))) ?_
    rintro IhB4 _ hB4 fhB4 ⟨rfl, ehB4⟩
    refine And.intro ⟨rfl, by decide, by decide⟩ ?_
    refine And.intro ⟨rfl, by decide, by decide⟩ ?_
    refine Exists.intro xm_75 (And.intro mi_75 (And.intro ⟨rfl, rfl, rfl, rfl⟩ (And.intro True.intro ?_)))
    refine fcall _ h0 (fzs_sub (by decide +kernel) hW) hB4 (ct_copyRow (W := [424]) (len := 24) (fBz h0 hB4) (frC_of (by decide +kernel))) ?_
    rintro IhB5 _ hB5 fhB5 ⟨rfl, ehB5⟩
    refine And.intro ⟨rfl, by decide, by decide⟩ ?_
    refine And.intro ⟨rfl, by decide, by decide⟩ ?_
    refine Exists.intro xm_75 (And.intro mi_75 (And.intro ⟨rfl, rfl, rfl, rfl⟩ (And.intro True.intro ?_)))
    refine fcall _ h0 (fzs_sub (by decide +kernel) hW) hB5 (ct_copyRow (W := [425]) (len := 24) (fBz h0 hB5) (frC_of (by decide +kernel))) ?_
    rintro IhB6 _ hB6 fhB6 ⟨rfl, ehB6⟩
    refine And.intro ⟨rfl, by decide, by decide⟩ ?_
    refine And.intro ⟨rfl, by decide, by decide⟩ ?_
    refine Exists.intro xm_75 (And.intro mi_75 (And.intro ⟨rfl, rfl, rfl, rfl⟩ (And.intro True.intro ?_)))
    refine fcall _ h0 (fzs_sub (by decide +kernel) hW) hB6 (ct_copyRow (W := [426]) (len := 24) (fBz h0 hB6) (frC_of (by decide +kernel))) ?_
    rintro IhB7 _ hB7 fhB7 ⟨rfl, ehB7⟩
    refine And.intro ⟨rfl, by decide, by decide⟩ ?_
    refine And.intro ⟨rfl, by decide, by decide⟩ ?_
    refine Exists.intro xm_75 (And.intro mi_75 (And.intro ⟨rfl, rfl, rfl, rfl⟩ (And.intro True.intro ?_)))
    refine fcall _ h0 (fzs_sub (by decide +kernel) hW) hB7 (ct_copyRow (W := [427]) (len := 24) (fBz h0 hB7) (frC_of (by decide +kernel))) ?_
    rintro IhB8 _ hB8 fhB8 ⟨rfl, ehB8⟩
    refine And.intro ⟨rfl, by decide, by decide⟩ ?_
    refine And.intro ⟨rfl, by decide, by decide⟩ ?_
    refine Exists.intro xm_75 (And.intro mi_75 (And.intro ⟨rfl, rfl, rfl, rfl⟩ (And.intro True.intro ?_)))
    refine fcall _ h0 (fzs_sub (by decide +kernel) hW) hB8 (ct_copyRow (W := [428]) (len := 24) (fBz h0 hB8) (frC_of (by decide +kernel))) ?_
    rintro IhB9 _ hB9 fhB9 ⟨rfl, ehB9⟩
    refine And.intro ⟨rfl, by decide, by decide⟩ ?_
    refine And.intro ⟨rfl, by decide, by decide⟩ ?_
    refine Exists.intro xm_75 (And.intro mi_75 (And.intro ⟨rfl, rfl, rfl, rfl⟩ (And.intro True.intro ?_)))
    refine fcall _ h0 (fzs_sub (by decide +kernel) hW) hB9 (ct_copyRow (W := [429]) (len := 24) (fBz h0 hB9) (frC_of (by decide +kernel))) ?_
    rintro IhB10 _ hB10 fhB10 ⟨rfl, ehB10⟩
    refine And.intro ⟨rfl, by decide, by decide⟩ ?_
    refine And.intro ⟨rfl, by decide, by decide⟩ ?_
    refine Exists.intro xm_75 (And.intro mi_75 (And.intro ⟨rfl, rfl, rfl, rfl⟩ (And.intro True.intro ?_)))
    refine fcall _ h0 (fzs_sub (by decide +kernel) hW) hB10 (ct_copyRow (W := [430]) (len := 24) (fBz h0 hB10) (frC_of (by decide +kernel))) ?_
    rintro IhB11 _ hB11 fhB11 ⟨rfl, ehB11⟩
    refine And.intro ⟨rfl, by decide, by decide⟩ ?_
    refine And.intro ⟨rfl, by decide, by decide⟩ ?_
    refine Exists.intro xm_75 (And.intro mi_75 (And.intro ⟨rfl, rfl, rfl, rfl⟩ (And.intro True.intro ?_)))
    refine fcall _ h0 (fzs_sub (by decide +kernel) hW) hB11 (ct_copyRow (W := [431]) (len := 24) (fBz h0 hB11) (frC_of (by decide +kernel))) ?_
    rintro IhB12 _ hB12 fhB12 ⟨rfl, ehB12⟩
    refine And.intro ⟨rfl, by decide, by decide⟩ ?_
    refine And.intro ⟨rfl, by decide, by decide⟩ ?_
    refine Exists.intro xm_75 (And.intro mi_75 (And.intro ⟨rfl, rfl, rfl, rfl⟩ (And.intro True.intro ?_)))
    refine fcall _ h0 (fzs_sub (by decide +kernel) hW) hB12 (ct_copyRow (W := [432]) (len := 24) (fBz h0 hB12) (frC_of (by decide +kernel))) ?_
    rintro IhB13 _ hB13 fhB13 ⟨rfl, ehB13⟩
    refine And.intro ⟨rfl, by decide, by decide⟩ (fgetf fb_163_13 h0 hB13 ?_)
    intro z14 lz14 uz14 qz14
    refine And.intro ⟨rfl, by decide, by decide⟩ (And.intro rfl (And.intro (Or.inl rfl) (fputf fb_419_13 (by decide +kernel) hW (by omega) ?_)))
    intro IhB15 ehB15 hB15
    have t16 : IhB15 163 13 = IhB13 163 13 := (congrFun (congrFun ehB15 163) 13).trans (fup_ne (by omega))
    have t17 := fup_at ehB15 13 (by omega)
    exact rfl
set_option maxRecDepth 8000 in
theorem ct_City_becomeAs_6e1fc {I : fH}  (h0 : fB bsJ I)  : fC ρ base n F xTc vwCl xTys D dA la gJ (fbz bsJ znJ (fKc wz_7d688) I) xm_223 [.inr (.inr (some 257)), .inr (.inr (some 1))] I (fun _ r => r = none) := by
  have hW : fzs wz_7d688 (fKc wz_7d688) := fKc_ok _
  refine f_meth (rb := rbJ) (J := []) 1 400 xG xin_223 x6_223 okJ (fB_self h0) ?_ ?_
  · exact fun q h => absurd h List.not_mem_nil
  · have hB0 := fB_self (zn := znJ) (K := fKc wz_7d688) h0
    refine And.intro ⟨rfl, by decide, by decide⟩ ?_
    refine And.intro ⟨rfl, by decide, by decide⟩ ?_
    refine Exists.intro xm_224 (And.intro mi_224 (And.intro ⟨rfl, rfl, rfl, rfl⟩ (And.intro rfl ?_)))
    refine fcall _ h0 (fzs_sub (by decide +kernel) hW) hB0 (ct_Cells_becomeAs_a1cd9 (fBz h0 hB0)) ?_
    rintro IhB2 _ hB2 fhB2 rfl
    refine And.intro ⟨rfl, by decide, by decide⟩ ?_
    refine And.intro ⟨rfl, by decide, by decide⟩ ?_
    refine Exists.intro xm_226 (And.intro mi_226 (And.intro ⟨rfl, rfl, rfl, rfl⟩ (And.intro rfl ?_)))
    refine fcall _ h0 (fzs_sub (by decide +kernel) hW) hB2 (ct_Works_becomeAs_81b4d (fBz h0 hB2)) ?_
    rintro IhB4 _ hB4 fhB4 rfl
    refine And.intro ⟨rfl, by decide, by decide⟩ ?_
    refine And.intro ⟨rfl, by decide, by decide⟩ ?_
    refine Exists.intro xm_227 (And.intro mi_227 (And.intro ⟨rfl, rfl, rfl, rfl⟩ (And.intro rfl ?_)))
    refine fcall _ h0 (fzs_sub (by decide +kernel) hW) hB4 (ct_People_becomeAs_f9dc9 (fBz h0 hB4)) ?_
    rintro IhB6 _ hB6 fhB6 rfl
    refine And.intro ⟨rfl, by decide, by decide⟩ ?_
    refine And.intro ⟨rfl, by decide, by decide⟩ ?_
    refine Exists.intro xm_75 (And.intro mi_75 (And.intro ⟨rfl, rfl, rfl, rfl⟩ (And.intro True.intro ?_)))
    refine fcall _ h0 (fzs_sub (by decide +kernel) hW) hB6 (ct_copyRow (W := [438]) (len := 6) (fBz h0 hB6) (frC_of (by decide +kernel))) ?_
    rintro IhB7 _ hB7 fhB7 ⟨rfl, ehB7⟩
    refine And.intro ⟨rfl, by decide, by decide⟩ ?_
    refine And.intro ⟨rfl, by decide, by decide⟩ ?_
    refine Exists.intro xm_225 (And.intro mi_225 (And.intro ⟨rfl, rfl, rfl, rfl⟩ (And.intro True.intro ?_)))
    refine fcall _ h0 (fzs_sub (by decide +kernel) hW) hB7 (ct_copyRows (W := [439]) (m := 3) (len := 61) (ro := 184) (rd := 440) (fBz h0 hB7) (frCs_of ⟨rfl, rfl, rfl, rfl, by decide⟩ (by decide +kernel))) ?_
    rintro IhB8 _ hB8 fhB8 ⟨rfl, ehB8⟩
    refine And.intro ⟨rfl, by decide, by decide⟩ (fgetf fb_1_5 h0 hB8 ?_)
    intro z9 lz9 uz9 qz9
    refine And.intro ⟨rfl, by decide, by decide⟩ (And.intro rfl (And.intro (Or.inl rfl) (fputf fb_257_5 (by decide +kernel) hW (by omega) ?_)))
    intro IhB10 ehB10 hB10
    have t11 : IhB10 1 5 = IhB8 1 5 := (congrFun (congrFun ehB10 1) 5).trans (fup_ne (by omega))
    have t12 := fup_at ehB10 5 (by omega)
    refine And.intro ⟨rfl, by decide, by decide⟩ (fgetf fb_1_6 h0 hB10 ?_)
    intro z13 lz13 uz13 qz13
    refine And.intro ⟨rfl, by decide, by decide⟩ (And.intro rfl (And.intro (Or.inl rfl) (fputf fb_257_6 (by decide +kernel) hW (by omega) ?_)))
    intro IhB14 ehB14 hB14
    have t15 : IhB14 1 5 = IhB10 1 5 := (congrFun (congrFun ehB14 1) 5).trans (fup_ne (by omega))
    have t16 : IhB14 1 6 = IhB10 1 6 := (congrFun (congrFun ehB14 1) 6).trans (fup_ne (by omega))
    have t17 : IhB14 257 5 = IhB10 257 5 := (congrFun (congrFun ehB14 257) 5).trans (fup_ne (by omega))
    have t18 := fup_at ehB14 6 (by omega)
    refine And.intro ⟨rfl, by decide, by decide⟩ (fgetf fb_1_7 h0 hB14 ?_)
    intro z19 lz19 uz19 qz19
    refine And.intro ⟨rfl, by decide, by decide⟩ (And.intro rfl (And.intro (Or.inl rfl) (fputf fb_257_7 (by decide +kernel) hW (by omega) ?_)))
    intro IhB20 ehB20 hB20
    have t21 : IhB20 1 5 = IhB14 1 5 := (congrFun (congrFun ehB20 1) 5).trans (fup_ne (by omega))
    have t22 : IhB20 1 6 = IhB14 1 6 := (congrFun (congrFun ehB20 1) 6).trans (fup_ne (by omega))
    have t23 : IhB20 1 7 = IhB14 1 7 := (congrFun (congrFun ehB20 1) 7).trans (fup_ne (by omega))
    have t24 : IhB20 257 5 = IhB14 257 5 := (congrFun (congrFun ehB20 257) 5).trans (fup_ne (by omega))
    have t25 : IhB20 257 6 = IhB14 257 6 := (congrFun (congrFun ehB20 257) 6).trans (fup_ne (by omega))
    have t26 := fup_at ehB20 7 (by omega)
    refine And.intro ⟨rfl, by decide, by decide⟩ (fgetf fb_1_8 h0 hB20 ?_)
    intro z27 lz27 uz27 qz27
    refine And.intro ⟨rfl, by decide, by decide⟩ (And.intro rfl (And.intro (Or.inl rfl) (fputf fb_257_8 (by decide +kernel) hW (by omega) ?_)))
    intro IhB28 ehB28 hB28
    have t29 : IhB28 1 5 = IhB20 1 5 := (congrFun (congrFun ehB28 1) 5).trans (fup_ne (by omega))
    have t30 : IhB28 1 6 = IhB20 1 6 := (congrFun (congrFun ehB28 1) 6).trans (fup_ne (by omega))
    have t31 : IhB28 1 7 = IhB20 1 7 := (congrFun (congrFun ehB28 1) 7).trans (fup_ne (by omega))
    have t32 : IhB28 1 8 = IhB20 1 8 := (congrFun (congrFun ehB28 1) 8).trans (fup_ne (by omega))
    have t33 : IhB28 257 5 = IhB20 257 5 := (congrFun (congrFun ehB28 257) 5).trans (fup_ne (by omega))
    have t34 : IhB28 257 6 = IhB20 257 6 := (congrFun (congrFun ehB28 257) 6).trans (fup_ne (by omega))
    have t35 : IhB28 257 7 = IhB20 257 7 := (congrFun (congrFun ehB28 257) 7).trans (fup_ne (by omega))
    have t36 := fup_at ehB28 8 (by omega)
    refine And.intro ⟨rfl, by decide, by decide⟩ (fgetf fb_1_9 h0 hB28 ?_)
    intro z37 lz37 uz37 qz37
    refine And.intro ⟨rfl, by decide, by decide⟩ (And.intro rfl (And.intro (Or.inl rfl) (fputf fb_257_9 (by decide +kernel) hW (by omega) ?_)))
    intro IhB38 ehB38 hB38
    have t39 : IhB38 1 5 = IhB28 1 5 := (congrFun (congrFun ehB38 1) 5).trans (fup_ne (by omega))
    have t40 : IhB38 1 6 = IhB28 1 6 := (congrFun (congrFun ehB38 1) 6).trans (fup_ne (by omega))
    have t41 : IhB38 1 7 = IhB28 1 7 := (congrFun (congrFun ehB38 1) 7).trans (fup_ne (by omega))
    have t42 : IhB38 1 8 = IhB28 1 8 := (congrFun (congrFun ehB38 1) 8).trans (fup_ne (by omega))
    have t43 : IhB38 1 9 = IhB28 1 9 := (congrFun (congrFun ehB38 1) 9).trans (fup_ne (by omega))
    have t44 : IhB38 257 5 = IhB28 257 5 := (congrFun (congrFun ehB38 257) 5).trans (fup_ne (by omega))
    have t45 : IhB38 257 6 = IhB28 257 6 := (congrFun (congrFun ehB38 257) 6).trans (fup_ne (by omega))
    have t46 : IhB38 257 7 = IhB28 257 7 := (congrFun (congrFun ehB38 257) 7).trans (fup_ne (by omega))
    have t47 : IhB38 257 8 = IhB28 257 8 := (congrFun (congrFun ehB38 257) 8).trans (fup_ne (by omega))
    have t48 := fup_at ehB38 9 (by omega)
    exact rfl
set_option maxRecDepth 8000 in
theorem ct_Charter_becomeAs_02d9c {I : fH}  (h0 : fB bsJ I)  : fC ρ base n F xTc vwCl xTys D dA la gJ (fbz bsJ znJ (fKc wz_e7604) I) xm_230 [.inr (.inr (some 443)), .inr (.inr (some 187))] I (fun _ r => r = none) := by
  have hW : fzs wz_e7604 (fKc wz_e7604) := fKc_ok _
  refine f_meth (rb := rbJ) (J := []) 1 400 xG xin_230 x6_230 okJ (fB_self h0) ?_ ?_
  · exact fun q h => absurd h List.not_mem_nil
  · have hB0 := fB_self (zn := znJ) (K := fKc wz_e7604) h0
    refine And.intro ⟨rfl, by decide, by decide⟩ ?_
    refine And.intro ⟨rfl, by decide, by decide⟩ ?_
    refine Exists.intro xm_75 (And.intro mi_75 (And.intro ⟨rfl, rfl, rfl, rfl⟩ (And.intro True.intro ?_)))
    refine fcall _ h0 (fzs_sub (by decide +kernel) hW) hB0 (ct_copyRow (W := [444]) (len := 12) (fBz h0 hB0) (frC_of (by decide +kernel))) ?_
    rintro IhB1 _ hB1 fhB1 ⟨rfl, ehB1⟩
    refine And.intro ⟨rfl, by decide, by decide⟩ ?_
    refine And.intro ⟨rfl, by decide, by decide⟩ ?_
    refine Exists.intro xm_75 (And.intro mi_75 (And.intro ⟨rfl, rfl, rfl, rfl⟩ (And.intro True.intro ?_)))
    refine fcall _ h0 (fzs_sub (by decide +kernel) hW) hB1 (ct_copyRow (W := [445]) (len := 12) (fBz h0 hB1) (frC_of (by decide +kernel))) ?_
    rintro IhB2 _ hB2 fhB2 ⟨rfl, ehB2⟩
    refine And.intro ⟨rfl, by decide, by decide⟩ ?_
    refine And.intro ⟨rfl, by decide, by decide⟩ ?_
    refine Exists.intro xm_75 (And.intro mi_75 (And.intro ⟨rfl, rfl, rfl, rfl⟩ (And.intro True.intro ?_)))
    refine fcall _ h0 (fzs_sub (by decide +kernel) hW) hB2 (ct_copyRow (W := [446]) (len := 12) (fBz h0 hB2) (frC_of (by decide +kernel))) ?_
    rintro IhB3 _ hB3 fhB3 ⟨rfl, ehB3⟩
    refine And.intro ⟨rfl, by decide, by decide⟩ ?_
    refine And.intro ⟨rfl, by decide, by decide⟩ ?_
    refine Exists.intro xm_75 (And.intro mi_75 (And.intro ⟨rfl, rfl, rfl, rfl⟩ (And.intro True.intro ?_)))
    refine fcall _ h0 (fzs_sub (by decide +kernel) hW) hB3 (ct_copyRow (W := [447]) (len := 12) (fBz h0 hB3) (frC_of (by decide +kernel))) ?_
    rintro IhB4 _ hB4 fhB4 ⟨rfl, ehB4⟩
    refine And.intro ⟨rfl, by decide, by decide⟩ ?_
    refine And.intro ⟨rfl, by decide, by decide⟩ ?_
    refine Exists.intro xm_75 (And.intro mi_75 (And.intro ⟨rfl, rfl, rfl, rfl⟩ (And.intro True.intro ?_)))
    refine fcall _ h0 (fzs_sub (by decide +kernel) hW) hB4 (ct_copyRow (W := [448]) (len := 12) (fBz h0 hB4) (frC_of (by decide +kernel))) ?_
    rintro IhB5 _ hB5 fhB5 ⟨rfl, ehB5⟩
    refine And.intro ⟨rfl, by decide, by decide⟩ ?_
    refine And.intro ⟨rfl, by decide, by decide⟩ ?_
    refine Exists.intro xm_225 (And.intro mi_225 (And.intro ⟨rfl, rfl, rfl, rfl⟩ (And.intro True.intro ?_)))
    refine fcall _ h0 (fzs_sub (by decide +kernel) hW) hB5 (ct_copyRows (W := [449]) (m := 12) (len := 96) (ro := 194) (rd := 450) (fBz h0 hB5) (frCs_of ⟨rfl, rfl, rfl, rfl, by decide⟩ (by decide +kernel))) ?_
    rintro IhB6 _ hB6 fhB6 ⟨rfl, ehB6⟩
    refine And.intro ⟨rfl, by decide, by decide⟩ (fgetf fb_187_6 h0 hB6 ?_)
    intro z7 lz7 uz7 qz7
    refine And.intro ⟨rfl, by decide, by decide⟩ (And.intro rfl (And.intro (Or.inl rfl) (fputf fb_443_6 (by decide +kernel) hW (by omega) ?_)))
    intro IhB8 ehB8 hB8
    have t9 : IhB8 187 6 = IhB6 187 6 := (congrFun (congrFun ehB8 187) 6).trans (fup_ne (by omega))
    have t10 := fup_at ehB8 6 (by omega)
    refine And.intro ⟨rfl, by decide, by decide⟩ (fgetf fb_187_7 h0 hB8 ?_)
    intro z11 lz11 uz11 qz11
    refine And.intro ⟨rfl, by decide, by decide⟩ (And.intro rfl (And.intro (Or.inl rfl) (fputf fb_443_7 (by decide +kernel) hW (by omega) ?_)))
    intro IhB12 ehB12 hB12
    have t13 : IhB12 187 6 = IhB8 187 6 := (congrFun (congrFun ehB12 187) 6).trans (fup_ne (by omega))
    have t14 : IhB12 187 7 = IhB8 187 7 := (congrFun (congrFun ehB12 187) 7).trans (fup_ne (by omega))
    have t15 : IhB12 443 6 = IhB8 443 6 := (congrFun (congrFun ehB12 443) 6).trans (fup_ne (by omega))
    have t16 := fup_at ehB12 7 (by omega)
    refine And.intro ⟨rfl, by decide, by decide⟩ (fgetf fb_187_8 h0 hB12 ?_)
    intro z17 lz17 uz17 qz17
    refine And.intro ⟨rfl, by decide, by decide⟩ (And.intro rfl (And.intro (Or.inr ⟨rfl, by omega⟩) (fputf fb_443_8 (by decide +kernel) hW (by omega) ?_)))
    intro IhB18 ehB18 hB18
    have t19 : IhB18 187 6 = IhB12 187 6 := (congrFun (congrFun ehB18 187) 6).trans (fup_ne (by omega))
    have t20 : IhB18 187 7 = IhB12 187 7 := (congrFun (congrFun ehB18 187) 7).trans (fup_ne (by omega))
    have t21 : IhB18 187 8 = IhB12 187 8 := (congrFun (congrFun ehB18 187) 8).trans (fup_ne (by omega))
    have t22 : IhB18 443 6 = IhB12 443 6 := (congrFun (congrFun ehB18 443) 6).trans (fup_ne (by omega))
    have t23 : IhB18 443 7 = IhB12 443 7 := (congrFun (congrFun ehB18 443) 7).trans (fup_ne (by omega))
    have t24 := fup_at ehB18 8 (by omega)
    refine And.intro ⟨rfl, by decide, by decide⟩ ?_
    refine And.intro ⟨rfl, by decide, by decide⟩ ?_
    refine Exists.intro xm_75 (And.intro mi_75 (And.intro ⟨rfl, rfl, rfl, rfl⟩ (And.intro True.intro ?_)))
    refine fcall _ h0 (fzs_sub (by decide +kernel) hW) hB18 (ct_copyRow (W := [462]) (len := 24) (fBz h0 hB18) (frC_of (by decide +kernel))) ?_
    rintro IhB25 _ hB25 fhB25 ⟨rfl, ehB25⟩
    have t26 := fhB25 187 6 (by decide +kernel)
    have t27 := fhB25 187 7 (by decide +kernel)
    have t28 := fhB25 187 8 (by decide +kernel)
    have t29 := fhB25 443 6 (by decide +kernel)
    have t30 := fhB25 443 7 (by decide +kernel)
    have t31 := fhB25 443 8 (by decide +kernel)
    exact rfl
set_option maxRecDepth 8000 in
theorem ct_Desk_becomeAs_f61cf {I : fH}  (h0 : fB bsJ I)  : fC ρ base n F xTc vwCl xTys D dA la gJ (fbz bsJ znJ (fKc wz_77c59) I) xm_231 [.inr (.inr (some 467)), .inr (.inr (some 211))] I (fun _ r => r = none) := by
  have hW : fzs wz_77c59 (fKc wz_77c59) := fKc_ok _
  refine f_meth (rb := rbJ) (J := []) 1 400 xG xin_231 x6_231 okJ (fB_self h0) ?_ ?_
  · exact fun q h => absurd h List.not_mem_nil
  · have hB0 := fB_self (zn := znJ) (K := fKc wz_77c59) h0
    refine And.intro ⟨rfl, by decide, by decide⟩ ?_
    refine And.intro ⟨rfl, by decide, by decide⟩ ?_
    refine Exists.intro xm_225 (And.intro mi_225 (And.intro ⟨rfl, rfl, rfl, rfl⟩ (And.intro True.intro ?_)))
    refine fcall _ h0 (fzs_sub (by decide +kernel) hW) hB0 (ct_copyRows (W := [468]) (m := 8) (len := 12) (ro := 213) (rd := 469) (fBz h0 hB0) (frCs_of ⟨rfl, rfl, rfl, rfl, by decide⟩ (by decide +kernel))) ?_
    rintro IhB1 _ hB1 fhB1 ⟨rfl, ehB1⟩
    refine And.intro ⟨rfl, by decide, by decide⟩ ?_
    refine And.intro ⟨rfl, by decide, by decide⟩ ?_
    refine Exists.intro xm_75 (And.intro mi_75 (And.intro ⟨rfl, rfl, rfl, rfl⟩ (And.intro True.intro ?_)))
    refine fcall _ h0 (fzs_sub (by decide +kernel) hW) hB1 (ct_copyRow (W := [477]) (len := 8) (fBz h0 hB1) (frC_of (by decide +kernel))) ?_
    rintro IhB2 _ hB2 fhB2 ⟨rfl, ehB2⟩
    refine And.intro ⟨rfl, by decide, by decide⟩ ?_
    refine And.intro ⟨rfl, by decide, by decide⟩ ?_
    refine Exists.intro xm_75 (And.intro mi_75 (And.intro ⟨rfl, rfl, rfl, rfl⟩ (And.intro True.intro ?_)))
    refine fcall _ h0 (fzs_sub (by decide +kernel) hW) hB2 (ct_copyRow (W := [478]) (len := 48) (fBz h0 hB2) (frC_of (by decide +kernel))) ?_
    rintro IhB3 _ hB3 fhB3 ⟨rfl, ehB3⟩
    refine And.intro ⟨rfl, by decide, by decide⟩ ?_
    refine And.intro ⟨rfl, by decide, by decide⟩ ?_
    refine Exists.intro xm_75 (And.intro mi_75 (And.intro ⟨rfl, rfl, rfl, rfl⟩ (And.intro True.intro ?_)))
    refine fcall _ h0 (fzs_sub (by decide +kernel) hW) hB3 (ct_copyRow (W := [479]) (len := 4) (fBz h0 hB3) (frC_of (by decide +kernel))) ?_
    rintro IhB4 _ hB4 fhB4 ⟨rfl, ehB4⟩
    refine And.intro ⟨rfl, by decide, by decide⟩ ?_
    refine And.intro ⟨rfl, by decide, by decide⟩ ?_
    refine Exists.intro xm_225 (And.intro mi_225 (And.intro ⟨rfl, rfl, rfl, rfl⟩ (And.intro True.intro ?_)))
    refine fcall _ h0 (fzs_sub (by decide +kernel) hW) hB4 (ct_copyRows (W := [480]) (m := 24) (len := 4) (ro := 225) (rd := 481) (fBz h0 hB4) (frCs_of ⟨rfl, rfl, rfl, rfl, by decide⟩ (by decide +kernel))) ?_
    rintro IhB5 _ hB5 fhB5 ⟨rfl, ehB5⟩
    refine And.intro ⟨rfl, by decide, by decide⟩ ?_
    refine And.intro ⟨rfl, by decide, by decide⟩ ?_
    refine Exists.intro xm_75 (And.intro mi_75 (And.intro ⟨rfl, rfl, rfl, rfl⟩ (And.intro True.intro ?_)))
    refine fcall _ h0 (fzs_sub (by decide +kernel) hW) hB5 (ct_copyRow (W := [505]) (len := 6) (fBz h0 hB5) (frC_of (by decide +kernel))) ?_
    rintro IhB6 _ hB6 fhB6 ⟨rfl, ehB6⟩
    refine And.intro ⟨rfl, by decide, by decide⟩ ?_
    refine And.intro ⟨rfl, by decide, by decide⟩ ?_
    refine Exists.intro xm_75 (And.intro mi_75 (And.intro ⟨rfl, rfl, rfl, rfl⟩ (And.intro True.intro ?_)))
    refine fcall _ h0 (fzs_sub (by decide +kernel) hW) hB6 (ct_copyRow (W := [506]) (len := 6) (fBz h0 hB6) (frC_of (by decide +kernel))) ?_
    rintro IhB7 _ hB7 fhB7 ⟨rfl, ehB7⟩
    refine And.intro ⟨rfl, by decide, by decide⟩ ?_
    refine And.intro ⟨rfl, by decide, by decide⟩ ?_
    refine Exists.intro xm_75 (And.intro mi_75 (And.intro ⟨rfl, rfl, rfl, rfl⟩ (And.intro True.intro ?_)))
    refine fcall _ h0 (fzs_sub (by decide +kernel) hW) hB7 (ct_copyRow (W := [507]) (len := 6) (fBz h0 hB7) (frC_of (by decide +kernel))) ?_
    rintro IhB8 _ hB8 fhB8 ⟨rfl, ehB8⟩
    refine And.intro ⟨rfl, by decide, by decide⟩ (fgetf fb_211_8 h0 hB8 ?_)
    intro z9 lz9 uz9 qz9
    refine And.intro ⟨rfl, by decide, by decide⟩ (And.intro rfl (And.intro (Or.inl rfl) (fputf fb_467_8 (by decide +kernel) hW (by omega) ?_)))
    intro IhB10 ehB10 hB10
    have t11 : IhB10 211 8 = IhB8 211 8 := (congrFun (congrFun ehB10 211) 8).trans (fup_ne (by omega))
    have t12 := fup_at ehB10 8 (by omega)
    refine And.intro ⟨rfl, by decide, by decide⟩ ?_
    refine And.intro ⟨rfl, by decide, by decide⟩ ?_
    refine Exists.intro xm_75 (And.intro mi_75 (And.intro ⟨rfl, rfl, rfl, rfl⟩ (And.intro True.intro ?_)))
    refine fcall _ h0 (fzs_sub (by decide +kernel) hW) hB10 (ct_copyRow (W := [508]) (len := 10) (fBz h0 hB10) (frC_of (by decide +kernel))) ?_
    rintro IhB13 _ hB13 fhB13 ⟨rfl, ehB13⟩
    have t14 := fhB13 211 8 (by decide +kernel)
    have t15 := fhB13 467 8 (by decide +kernel)
    refine And.intro ⟨rfl, by decide, by decide⟩ ?_
    refine And.intro ⟨rfl, by decide, by decide⟩ ?_
    refine Exists.intro xm_75 (And.intro mi_75 (And.intro ⟨rfl, rfl, rfl, rfl⟩ (And.intro True.intro ?_)))
    refine fcall _ h0 (fzs_sub (by decide +kernel) hW) hB13 (ct_copyRow (W := [509]) (len := 10) (fBz h0 hB13) (frC_of (by decide +kernel))) ?_
    rintro IhB16 _ hB16 fhB16 ⟨rfl, ehB16⟩
    have t17 := fhB16 211 8 (by decide +kernel)
    have t18 := fhB16 467 8 (by decide +kernel)
    refine And.intro ⟨rfl, by decide, by decide⟩ (fgetf fb_211_11 h0 hB16 ?_)
    intro z19 lz19 uz19 qz19
    refine And.intro ⟨rfl, by decide, by decide⟩ (And.intro rfl (And.intro (Or.inl rfl) (fputf fb_467_11 (by decide +kernel) hW (by omega) ?_)))
    intro IhB20 ehB20 hB20
    have t21 : IhB20 211 8 = IhB16 211 8 := (congrFun (congrFun ehB20 211) 8).trans (fup_ne (by omega))
    have t22 : IhB20 211 11 = IhB16 211 11 := (congrFun (congrFun ehB20 211) 11).trans (fup_ne (by omega))
    have t23 : IhB20 467 8 = IhB16 467 8 := (congrFun (congrFun ehB20 467) 8).trans (fup_ne (by omega))
    have t24 := fup_at ehB20 11 (by omega)
    refine And.intro ⟨rfl, by decide, by decide⟩ ?_
    refine And.intro ⟨rfl, by decide, by decide⟩ ?_
    refine Exists.intro xm_75 (And.intro mi_75 (And.intro ⟨rfl, rfl, rfl, rfl⟩ (And.intro True.intro ?_)))
    refine fcall _ h0 (fzs_sub (by decide +kernel) hW) hB20 (ct_copyRow (W := [510]) (len := 7) (fBz h0 hB20) (frC_of (by decide +kernel))) ?_
    rintro IhB25 _ hB25 fhB25 ⟨rfl, ehB25⟩
    have t26 := fhB25 211 8 (by decide +kernel)
    have t27 := fhB25 211 11 (by decide +kernel)
    have t28 := fhB25 467 8 (by decide +kernel)
    have t29 := fhB25 467 11 (by decide +kernel)
    refine And.intro ⟨rfl, by decide, by decide⟩ ?_
    refine And.intro ⟨rfl, by decide, by decide⟩ ?_
    refine Exists.intro xm_75 (And.intro mi_75 (And.intro ⟨rfl, rfl, rfl, rfl⟩ (And.intro True.intro ?_)))
    refine fcall _ h0 (fzs_sub (by decide +kernel) hW) hB25 (ct_copyRow (W := [511]) (len := 7) (fBz h0 hB25) (frC_of (by decide +kernel))) ?_
    rintro IhB30 _ hB30 fhB30 ⟨rfl, ehB30⟩
    have t31 := fhB30 211 8 (by decide +kernel)
    have t32 := fhB30 211 11 (by decide +kernel)
    have t33 := fhB30 467 8 (by decide +kernel)
    have t34 := fhB30 467 11 (by decide +kernel)
    refine And.intro ⟨rfl, by decide, by decide⟩ ?_
    refine And.intro ⟨rfl, by decide, by decide⟩ ?_
    refine Exists.intro xm_75 (And.intro mi_75 (And.intro ⟨rfl, rfl, rfl, rfl⟩ (And.intro True.intro ?_)))
    refine fcall _ h0 (fzs_sub (by decide +kernel) hW) hB30 (ct_copyRow (W := [512]) (len := 7) (fBz h0 hB30) (frC_of (by decide +kernel))) ?_
    rintro IhB35 _ hB35 fhB35 ⟨rfl, ehB35⟩
    have t36 := fhB35 211 8 (by decide +kernel)
    have t37 := fhB35 211 11 (by decide +kernel)
    have t38 := fhB35 467 8 (by decide +kernel)
    have t39 := fhB35 467 11 (by decide +kernel)
    refine And.intro ⟨rfl, by decide, by decide⟩ (fgetf fb_211_15 h0 hB35 ?_)
    intro z40 lz40 uz40 qz40
    refine And.intro ⟨rfl, by decide, by decide⟩ (And.intro rfl (And.intro (Or.inl rfl) (fputf fb_467_15 (by decide +kernel) hW (by omega) ?_)))
    intro IhB41 ehB41 hB41
    have t42 : IhB41 211 8 = IhB35 211 8 := (congrFun (congrFun ehB41 211) 8).trans (fup_ne (by omega))
    have t43 : IhB41 211 11 = IhB35 211 11 := (congrFun (congrFun ehB41 211) 11).trans (fup_ne (by omega))
    have t44 : IhB41 211 15 = IhB35 211 15 := (congrFun (congrFun ehB41 211) 15).trans (fup_ne (by omega))
    have t45 : IhB41 467 8 = IhB35 467 8 := (congrFun (congrFun ehB41 467) 8).trans (fup_ne (by omega))
    have t46 : IhB41 467 11 = IhB35 467 11 := (congrFun (congrFun ehB41 467) 11).trans (fup_ne (by omega))
    have t47 := fup_at ehB41 15 (by omega)
    exact rfl
set_option maxRecDepth 8000 in
theorem ct_X_keep_80613 {I : fH}  (h0 : fB bsJ I)  : fC ρ base n F xTc vwCl xTys D dA la gJ (fbz bsJ znJ (fKc wz_cdb06) I) xm_229 [.inr (.inr (some 0))] I (fun _ r => ∃ z, r = some (.inl z) ∧ ((-2147483648) ≤ z ∧ z ≤ 2147483647)) := by
  have hW : fzs wz_cdb06 (fKc wz_cdb06) := fKc_ok _
  refine f_meth (rb := rbJ) (J := []) 1 400 xG xin_229 x6_229 okJ (fB_self h0) ?_ ?_
  · exact fun q h => absurd h List.not_mem_nil
  · have hB0 := fB_self (zn := znJ) (K := fKc wz_cdb06) h0
    refine And.intro ⟨rfl, by decide, by decide⟩ ?_
    refine And.intro ⟨rfl, by decide, by decide⟩ ?_
    refine Exists.intro xm_223 (And.intro mi_223 (And.intro ⟨rfl, rfl, rfl, rfl⟩ (And.intro rfl ?_)))
    refine fcall _ h0 (fzs_sub (by decide +kernel) hW) hB0 (ct_City_becomeAs_6e1fc (fBz h0 hB0)) ?_
    rintro IhB2 _ hB2 fhB2 rfl
    refine And.intro ⟨rfl, by decide, by decide⟩ ?_
    refine And.intro ⟨rfl, by decide, by decide⟩ ?_
    refine Exists.intro xm_230 (And.intro mi_230 (And.intro ⟨rfl, rfl, rfl, rfl⟩ (And.intro rfl ?_)))
    refine fcall _ h0 (fzs_sub (by decide +kernel) hW) hB2 (ct_Charter_becomeAs_02d9c (fBz h0 hB2)) ?_
    rintro IhB4 _ hB4 fhB4 rfl
    refine And.intro ⟨rfl, by decide, by decide⟩ ?_
    refine And.intro ⟨rfl, by decide, by decide⟩ ?_
    refine Exists.intro xm_231 (And.intro mi_231 (And.intro ⟨rfl, rfl, rfl, rfl⟩ (And.intro rfl ?_)))
    refine fcall _ h0 (fzs_sub (by decide +kernel) hW) hB4 (ct_Desk_becomeAs_f61cf (fBz h0 hB4)) ?_
    rintro IhB6 _ hB6 fhB6 rfl
    refine And.intro ⟨rfl, by decide, by decide⟩ (And.intro rfl (And.intro (Or.inr ⟨rfl, by omega⟩) (fputf fb_0_6 (by decide +kernel) hW (by omega) ?_)))
    intro IhB7 ehB7 hB7
    have t8 := fup_at ehB7 6 (by omega)
    refine And.intro ⟨rfl, by decide, by decide⟩ ?_
    refine And.intro ⟨rfl, by decide, by decide⟩ (fgetf fb_1_9 h0 hB7 ?_)
    intro z9 lz9 uz9 qz9
    refine And.intro (True.intro) ?_
    exact ⟨_, rfl, by omega⟩
set_option maxRecDepth 8000 in
theorem ct_Cells_becomeAs_587fd {I : fH}  (h0 : fB bsJ I)  : fC ρ base n F xTc vwCl xTys D dA la gJ (fbz bsJ znJ (fKc wz_52e23) I) xm_224 [.inr (.inr (some 2)), .inr (.inr (some 258))] I (fun _ r => r = none) := by
  have hW : fzs wz_52e23 (fKc wz_52e23) := fKc_ok _
  refine f_meth (rb := rbJ) (J := []) 1 400 xG xin_224 x6_224 okJ (fB_self h0) ?_ ?_
  · exact fun q h => absurd h List.not_mem_nil
  · have hB0 := fB_self (zn := znJ) (K := fKc wz_52e23) h0
    refine And.intro ⟨rfl, by decide, by decide⟩ ?_
    refine And.intro ⟨rfl, by decide, by decide⟩ ?_
    refine Exists.intro xm_75 (And.intro mi_75 (And.intro ⟨rfl, rfl, rfl, rfl⟩ (And.intro True.intro ?_)))
    refine fcall _ h0 (fzs_sub (by decide +kernel) hW) hB0 (ct_copyRow (W := [3]) (len := 20) (fBz h0 hB0) (frC_of (by decide +kernel))) ?_
    rintro IhB1 _ hB1 fhB1 ⟨rfl, ehB1⟩
    refine And.intro ⟨rfl, by decide, by decide⟩ ?_
    refine And.intro ⟨rfl, by decide, by decide⟩ ?_
    refine Exists.intro xm_75 (And.intro mi_75 (And.intro ⟨rfl, rfl, rfl, rfl⟩ (And.intro True.intro ?_)))
    refine fcall _ h0 (fzs_sub (by decide +kernel) hW) hB1 (ct_copyRow (W := [4]) (len := 20) (fBz h0 hB1) (frC_of (by decide +kernel))) ?_
    rintro IhB2 _ hB2 fhB2 ⟨rfl, ehB2⟩
    refine And.intro ⟨rfl, by decide, by decide⟩ ?_
    refine And.intro ⟨rfl, by decide, by decide⟩ ?_
    refine Exists.intro xm_225 (And.intro mi_225 (And.intro ⟨rfl, rfl, rfl, rfl⟩ (And.intro True.intro ?_)))
    refine fcall _ h0 (fzs_sub (by decide +kernel) hW) hB2 (ct_copyRows (W := [5]) (m := 20) (len := 5) (ro := 262) (rd := 6) (fBz h0 hB2) (frCs_of ⟨rfl, rfl, rfl, rfl, by decide⟩ (by decide +kernel))) ?_
    rintro IhB3 _ hB3 fhB3 ⟨rfl, ehB3⟩
    refine And.intro ⟨rfl, by decide, by decide⟩ ?_
    refine And.intro ⟨rfl, by decide, by decide⟩ ?_
    refine Exists.intro xm_225 (And.intro mi_225 (And.intro ⟨rfl, rfl, rfl, rfl⟩ (And.intro True.intro ?_)))
    refine fcall _ h0 (fzs_sub (by decide +kernel) hW) hB3 (ct_copyRows (W := [26]) (m := 20) (len := 5) (ro := 283) (rd := 27) (fBz h0 hB3) (frCs_of ⟨rfl, rfl, rfl, rfl, by decide⟩ (by decide +kernel))) ?_
    rintro IhB4 _ hB4 fhB4 ⟨rfl, ehB4⟩
    refine And.intro ⟨rfl, by decide, by decide⟩ ?_
    refine And.intro ⟨rfl, by decide, by decide⟩ ?_
    refine Exists.intro xm_225 (And.intro mi_225 (And.intro ⟨rfl, rfl, rfl, rfl⟩ (And.intro True.intro ?_)))
    refine fcall _ h0 (fzs_sub (by decide +kernel) hW) hB4 (ct_copyRows (W := [47]) (m := 20) (len := 6) (ro := 304) (rd := 48) (fBz h0 hB4) (frCs_of ⟨rfl, rfl, rfl, rfl, by decide⟩ (by decide +kernel))) ?_
    rintro IhB5 _ hB5 fhB5 ⟨rfl, ehB5⟩
    refine And.intro ⟨rfl, by decide, by decide⟩ (fgetf fb_258_5 h0 hB5 ?_)
    intro z6 lz6 uz6 qz6
    refine And.intro ⟨rfl, by decide, by decide⟩ (And.intro rfl (And.intro (Or.inl rfl) (fputf fb_2_5 (by decide +kernel) hW (by omega) ?_)))
    intro IhB7 ehB7 hB7
    have t8 := fup_at ehB7 5 (by omega)
    have t9 : IhB7 258 5 = IhB5 258 5 := (congrFun (congrFun ehB7 258) 5).trans (fup_ne (by omega))
    refine And.intro ⟨rfl, by decide, by decide⟩ ?_
    refine And.intro ⟨rfl, by decide, by decide⟩ ?_
    refine Exists.intro xm_75 (And.intro mi_75 (And.intro ⟨rfl, rfl, rfl, rfl⟩ (And.intro True.intro ?_)))
    refine fcall _ h0 (fzs_sub (by decide +kernel) hW) hB7 (ct_copyRow (W := [68]) (len := 24) (fBz h0 hB7) (frC_of (by decide +kernel))) ?_
    rintro IhB10 _ hB10 fhB10 ⟨rfl, ehB10⟩
    have t11 := fhB10 2 5 (by decide +kernel)
    have t12 := fhB10 258 5 (by decide +kernel)
    refine And.intro ⟨rfl, by decide, by decide⟩ ?_
    refine And.intro ⟨rfl, by decide, by decide⟩ ?_
    refine Exists.intro xm_75 (And.intro mi_75 (And.intro ⟨rfl, rfl, rfl, rfl⟩ (And.intro True.intro ?_)))
    refine fcall _ h0 (fzs_sub (by decide +kernel) hW) hB10 (ct_copyRow (W := [69]) (len := 24) (fBz h0 hB10) (frC_of (by decide +kernel))) ?_
    rintro IhB13 _ hB13 fhB13 ⟨rfl, ehB13⟩
    have t14 := fhB13 2 5 (by decide +kernel)
    have t15 := fhB13 258 5 (by decide +kernel)
    refine And.intro ⟨rfl, by decide, by decide⟩ ?_
    refine And.intro ⟨rfl, by decide, by decide⟩ ?_
    refine Exists.intro xm_75 (And.intro mi_75 (And.intro ⟨rfl, rfl, rfl, rfl⟩ (And.intro True.intro ?_)))
    refine fcall _ h0 (fzs_sub (by decide +kernel) hW) hB13 (ct_copyRow (W := [70]) (len := 24) (fBz h0 hB13) (frC_of (by decide +kernel))) ?_
    rintro IhB16 _ hB16 fhB16 ⟨rfl, ehB16⟩
    have t17 := fhB16 2 5 (by decide +kernel)
    have t18 := fhB16 258 5 (by decide +kernel)
    refine And.intro ⟨rfl, by decide, by decide⟩ ?_
    refine And.intro ⟨rfl, by decide, by decide⟩ ?_
    refine Exists.intro xm_75 (And.intro mi_75 (And.intro ⟨rfl, rfl, rfl, rfl⟩ (And.intro True.intro ?_)))
    refine fcall _ h0 (fzs_sub (by decide +kernel) hW) hB16 (ct_copyRow (W := [71]) (len := 24) (fBz h0 hB16) (frC_of (by decide +kernel))) ?_
    rintro IhB19 _ hB19 fhB19 ⟨rfl, ehB19⟩
    have t20 := fhB19 2 5 (by decide +kernel)
    have t21 := fhB19 258 5 (by decide +kernel)
    refine And.intro ⟨rfl, by decide, by decide⟩ (fgetf fb_258_10 h0 hB19 ?_)
    intro z22 lz22 uz22 qz22
    refine And.intro ⟨rfl, by decide, by decide⟩ (And.intro rfl (And.intro (Or.inl rfl) (fputf fb_2_10 (by decide +kernel) hW (by omega) ?_)))
    intro IhB23 ehB23 hB23
    have t24 : IhB23 2 5 = IhB19 2 5 := (congrFun (congrFun ehB23 2) 5).trans (fup_ne (by omega))
    have t25 := fup_at ehB23 10 (by omega)
    have t26 : IhB23 258 5 = IhB19 258 5 := (congrFun (congrFun ehB23 258) 5).trans (fup_ne (by omega))
    have t27 : IhB23 258 10 = IhB19 258 10 := (congrFun (congrFun ehB23 258) 10).trans (fup_ne (by omega))
    refine And.intro ⟨rfl, by decide, by decide⟩ ?_
    refine And.intro ⟨rfl, by decide, by decide⟩ ?_
    refine Exists.intro xm_225 (And.intro mi_225 (And.intro ⟨rfl, rfl, rfl, rfl⟩ (And.intro True.intro ?_)))
    refine fcall _ h0 (fzs_sub (by decide +kernel) hW) hB23 (ct_copyRows (W := [72]) (m := 90) (len := 8) (ro := 329) (rd := 73) (fBz h0 hB23) (frCs_of ⟨rfl, rfl, rfl, rfl, by decide⟩ (by decide +kernel))) ?_
    rintro IhB28 _ hB28 fhB28 ⟨rfl, ehB28⟩
    have t29 := fhB28 2 5 (by decide +kernel)
    have t30 := fhB28 2 10 (by decide +kernel)
    have t31 := fhB28 258 5 (by decide +kernel)
    have t32 := fhB28 258 10 (by decide +kernel)
    refine And.intro ⟨rfl, by decide, by decide⟩ (fgetf fb_258_12 h0 hB28 ?_)
    intro z33 lz33 uz33 qz33
    refine And.intro ⟨rfl, by decide, by decide⟩ (And.intro rfl (And.intro (Or.inl rfl) (fputf fb_2_12 (by decide +kernel) hW (by omega) ?_)))
    intro IhB34 ehB34 hB34
    have t35 : IhB34 2 5 = IhB28 2 5 := (congrFun (congrFun ehB34 2) 5).trans (fup_ne (by omega))
    have t36 : IhB34 2 10 = IhB28 2 10 := (congrFun (congrFun ehB34 2) 10).trans (fup_ne (by omega))
    have t37 := fup_at ehB34 12 (by omega)
    have t38 : IhB34 258 5 = IhB28 258 5 := (congrFun (congrFun ehB34 258) 5).trans (fup_ne (by omega))
    have t39 : IhB34 258 10 = IhB28 258 10 := (congrFun (congrFun ehB34 258) 10).trans (fup_ne (by omega))
    have t40 : IhB34 258 12 = IhB28 258 12 := (congrFun (congrFun ehB34 258) 12).trans (fup_ne (by omega))
    exact rfl
end CT

/-! contracts (written by gen95.py) -/
abbrev wz_3ed0a : List Nat := [559, 584, 11412]
theorem fb_514_12 : bsJ 514 12 = (0, 90) := by decide +kernel
theorem rgG_518_537 {o : Nat} (h1 : 518 ≤ o) (h2 : o ≤ 537) : gJ.1 o = some (100, 5) ∧ ∀ j, j < 5 → gJ.2 o j = none := frG_of (a0 := 518) (a1 := 537) (by decide +kernel) h1 h2
theorem rgG_585_674 {o : Nat} (h1 : 585 ≤ o) (h2 : o ≤ 674) : gJ.1 o = some (100, 8) ∧ ∀ j, j < 8 → gJ.2 o j = none := frG_of (a0 := 585) (a1 := 674) (by decide +kernel) h1 h2
theorem rS_585_674_0_4_1_0 : frS gJ bsJ znJ [584] 100 ((585, 674), (0, 4), (1, 0), ((-2147483648), 2147483647)) := frS_of (by decide +kernel)
theorem rS_585_674_5_5_1_0 : frS gJ bsJ znJ [584] 100 ((585, 674), (5, 5), (1, 0), ((-2147483648), 2147483647)) := frS_of (by decide +kernel)
theorem rS_585_674_6_6_1_0 : frS gJ bsJ znJ [584] 100 ((585, 674), (6, 6), (1, 0), ((-2147483648), 2147483647)) := frS_of (by decide +kernel)
theorem rS_585_674_7_7_1_0 : frS gJ bsJ znJ [584] 100 ((585, 674), (7, 7), (1, 0), (0, 19)) := frS_of (by decide +kernel)
theorem rgG_560_579 {o : Nat} (h1 : 560 ≤ o) (h2 : o ≤ 579) : gJ.1 o = some (100, 6) ∧ ∀ j, j < 6 → gJ.2 o j = none := frG_of (a0 := 560) (a1 := 579) (by decide +kernel) h1 h2
theorem rS_560_579_0_5_1_0 : frS gJ bsJ znJ [559] 100 ((560, 579), (0, 5), (1, 0), ((-2147483648), 2147483647)) := frS_dflt (by decide) (by decide +kernel)
theorem fb_513_9 : bsJ 513 9 = ((-2147483648), 2147483647) := by decide +kernel
theorem fb_513_8 : bsJ 513 8 = ((-2147483648), 2147483647) := by decide +kernel
abbrev wz_10d1b : List Nat := [559]
theorem rL_585_674_7_7_1_0 : frL gJ bsJ 100 ((585, 674), (7, 7), (1, 0), (0, 19)) := frL_of (by decide +kernel)
theorem rL_585_674_5_5_1_0 : frL gJ bsJ 100 ((585, 674), (5, 5), (1, 0), ((-2147483648), 2147483647)) := frL_hull (by decide) (by decide +kernel)
theorem rL_560_579_0_5_1_0 : frL gJ bsJ 100 ((560, 579), (0, 5), (1, 0), ((-2147483648), 2147483647)) := frL_hull (by decide) (by decide +kernel)
theorem rL_585_674_0_5_1_0 : frL gJ bsJ 100 ((585, 674), (0, 5), (1, 0), ((-2147483648), 2147483647)) := frL_hull (by decide) (by decide +kernel)
theorem rL_585_674_6_6_1_0 : frL gJ bsJ 100 ((585, 674), (6, 6), (1, 0), ((-2147483648), 2147483647)) := frL_hull (by decide) (by decide +kernel)
theorem rL_690_690_0_23_1_0 : frL gJ bsJ 100 ((690, 690), (0, 23), (1, 0), ((-2147483648), 2147483647)) := frL_hull (by decide) (by decide +kernel)
abbrev wz_e70f1 : List Nat := [693]
theorem rS_693_693_0_23_1_0 : frS gJ bsJ znJ [693] 100 ((693, 693), (0, 23), (1, 0), ((-2147483648), 2147483647)) := frS_dflt (by decide) (by decide +kernel)
abbrev wz_edb18 : List Nat := [517, 538, 693]
theorem fb_513_5 : bsJ 513 5 = (0, 600) := by decide +kernel
theorem rL_676_676_0_23_1_0 : frL gJ bsJ 100 ((676, 676), (0, 23), (1, 0), ((-2147483648), 2147483647)) := frL_hull (by decide) (by decide +kernel)
theorem rL_684_684_0_23_1_0 : frL gJ bsJ 100 ((684, 684), (0, 23), (1, 0), ((-2147483648), 2147483647)) := frL_hull (by decide) (by decide +kernel)
theorem rL_696_696_0_60_1_0 : frL gJ bsJ 100 ((696, 696), (0, 60), (1, 0), ((-2147483648), 2147483647)) := frL_hull (by decide) (by decide +kernel)
theorem rL_687_687_0_23_1_0 : frL gJ bsJ 100 ((687, 687), (0, 23), (1, 0), ((-1000000005), 60)) := frL_of (by decide +kernel)
theorem rL_678_678_0_23_1_0 : frL gJ bsJ 100 ((678, 678), (0, 23), (1, 0), ((-2147483648), 2147483647)) := frL_hull (by decide) (by decide +kernel)
theorem rL_694_694_0_5_1_0 : frL gJ bsJ 100 ((694, 694), (0, 5), (1, 0), ((-2147483648), 2147483647)) := frL_hull (by decide) (by decide +kernel)
abbrev wz_007ef : List Nat := [11305]
abbrev wz_59734 : List Nat := [538, 684]
theorem rS_684_684_0_23_1_0 : frS gJ bsJ znJ [684] 100 ((684, 684), (0, 23), (1, 0), ((-2147483648), 2147483647)) := frS_dflt (by decide) (by decide +kernel)
theorem rL_677_677_0_23_1_0 : frL gJ bsJ 100 ((677, 677), (0, 23), (1, 0), (0, 19)) := frL_of (by decide +kernel)
theorem rL_683_683_0_23_1_0 : frL gJ bsJ 100 ((683, 683), (0, 23), (1, 0), ((-2147483648), 2147483647)) := frL_hull (by decide) (by decide +kernel)
theorem rL_679_679_0_23_1_0 : frL gJ bsJ 100 ((679, 679), (0, 23), (1, 0), ((-2147483648), 2147483647)) := frL_hull (by decide) (by decide +kernel)
abbrev wz_e4d0d : List Nat := [683, 685]
theorem rL_685_685_0_23_1_0 : frL gJ bsJ 100 ((685, 685), (0, 23), (1, 0), ((-2147483648), 2147483647)) := frL_hull (by decide) (by decide +kernel)
theorem rS_683_683_0_23_1_0 : frS gJ bsJ znJ [683] 100 ((683, 683), (0, 23), (1, 0), ((-2147483648), 2147483647)) := frS_dflt (by decide) (by decide +kernel)
theorem rS_685_685_0_23_1_0 : frS gJ bsJ znJ [685] 100 ((685, 685), (0, 23), (1, 0), ((-2147483648), 2147483647)) := frS_dflt (by decide) (by decide +kernel)
abbrev wz_a2d33 : List Nat := [538, 683, 684, 685]
theorem rL_698_698_0_60_1_0 : frL gJ bsJ 100 ((698, 698), (0, 60), (1, 0), ((-2147483648), 2147483647)) := frL_hull (by decide) (by decide +kernel)
theorem fb_513_7 : bsJ 513 7 = ((-2147483648), 2147483647) := by decide +kernel
theorem fb_513_6 : bsJ 513 6 = ((-2147483648), 2147483647) := by decide +kernel
abbrev wz_8d85d : List Nat := [686, 687, 688]
theorem rS_687_687_0_23_1_0 : frS gJ bsJ znJ [687] 100 ((687, 687), (0, 23), (1, 0), ((-1000000005), 60)) := frS_of (by decide +kernel)
theorem rL_688_688_0_23_1_0 : frL gJ bsJ 100 ((688, 688), (0, 23), (1, 0), ((-2147483648), 2147483647)) := frL_hull (by decide) (by decide +kernel)
theorem rL_697_697_0_60_1_0 : frL gJ bsJ 100 ((697, 697), (0, 60), (1, 0), ((-2147483648), 2147483647)) := frL_hull (by decide) (by decide +kernel)
theorem rS_688_688_0_23_1_0 : frS gJ bsJ znJ [688] 100 ((688, 688), (0, 23), (1, 0), ((-2147483648), 2147483647)) := frS_dflt (by decide) (by decide +kernel)
theorem rS_686_686_0_23_1_0 : frS gJ bsJ znJ [686] 100 ((686, 686), (0, 23), (1, 0), ((-2147483648), 2147483647)) := frS_dflt (by decide) (by decide +kernel)
abbrev wz_a50d7 : List Nat := [694, 11306]
theorem rS_694_694_0_5_1_0 : frS gJ bsJ znJ [694] 100 ((694, 694), (0, 5), (1, 0), ((-2147483648), 2147483647)) := frS_dflt (by decide) (by decide +kernel)
abbrev wz_7903c : List Nat := [517, 538, 694]
abbrev wz_791b2 : List Nat := [517, 538, 683, 684, 685, 686, 687, 688, 694, 11306]
abbrev wz_f7c52 : List Nat := [517, 538, 559, 584, 680, 682, 683, 684, 685, 686, 687, 688, 693, 694, 11305, 11306, 11309, 11412]
abbrev wz_5c8a7 : List Nat := [690, 691, 692, 693, 11604]
theorem x6_227 : f60c xTc xTys xm_227 = true := by decide +kernel
theorem fb_433_4 : bsJ 433 4 = (0, 24) := by decide +kernel
abbrev wz_1abc8 : List Nat := [676, 677, 678, 679, 680, 681, 682, 683, 684, 685, 686, 687, 688, 11513]
theorem x6_226 : f60c xTc xTys xm_226 = true := by decide +kernel
theorem fb_419_13 : bsJ 419 13 = (0, 24) := by decide +kernel
abbrev wz_64c1d : List Nat := [515, 516, 517, 538, 559, 580, 581, 582, 583, 584, 11405, 11410, 11412]
theorem x6_224 : f60c xTc xTys xm_224 = true := by decide +kernel
theorem fb_258_5 : bsJ 258 5 = (0, 20) := by decide +kernel
theorem fb_258_10 : bsJ 258 10 = (0, 24) := by decide +kernel
theorem fb_258_12 : bsJ 258 12 = (0, 90) := by decide +kernel
abbrev wz_7a224 : List Nat := [515, 516, 517, 538, 559, 580, 581, 582, 583, 584, 676, 677, 678, 679, 680, 681, 682, 683, 684, 685, 686, 687, 688, 690, 691, 692, 693, 694, 695, 11305, 11306, 11307, 11308, 11309, 11405, 11410, 11412, 11513, 11604]
theorem x6_223 : f60c xTc xTys xm_223 = true := by decide +kernel
theorem fb_257_5 : bsJ 257 5 = (0, 600) := by decide +kernel
theorem fb_257_6 : bsJ 257 6 = ((-2147483648), 2147483647) := by decide +kernel
theorem fb_257_7 : bsJ 257 7 = ((-2147483648), 2147483647) := by decide +kernel
theorem fb_257_8 : bsJ 257 8 = ((-2147483648), 2147483647) := by decide +kernel
theorem fb_257_9 : bsJ 257 9 = ((-2147483648), 2147483647) := by decide +kernel
theorem x6_228 : f60c xTc xTys xm_228 = true := by decide +kernel
abbrev wz_920bb : List Nat := [515, 516, 517, 538, 559, 580, 581, 582, 583, 584, 676, 677, 678, 679, 680, 681, 682, 683, 684, 685, 686, 687, 688, 690, 691, 692, 693, 694, 695, 739, 11305, 11306, 11307, 11308, 11309, 11405, 11410, 11412, 11513, 11604]
theorem x6_222 : f60c xTc xTys xm_222 = true := by decide +kernel
theorem fb_0_6 : bsJ 0 6 = (0, 1) := by decide +kernel
abbrev wz_04d21 : List Nat := [515, 516, 517, 538, 559, 580, 581, 582, 583, 584, 676, 677, 678, 679, 680, 681, 682, 683, 684, 685, 686, 687, 688, 690, 691, 692, 693, 694, 695, 733, 734, 736, 737, 739, 10014, 11305, 11306, 11307, 11308, 11309, 11405, 11410, 11412, 11513, 11604, 12102, 12103, 12104]
theorem x6_218 : f60c xTc xTys xm_218 = true := by decide +kernel
abbrev wz_518f7 : List Nat := [760, 12239]
theorem x6_491 : f60c xTc xTys xm_491 = true := by decide +kernel
theorem fb_740_39 : bsJ 740 39 = (0, 60) := by decide +kernel
theorem rS_760_760_0_59_1_0 : frS gJ bsJ znJ [760] 100 ((760, 760), (0, 59), (1, 0), ((-2147483648), 2147483647)) := frS_dflt (by decide) (by decide +kernel)
abbrev wz_7bd74 : List Nat := [756, 760, 12239]
theorem x6_490 : f60c xTc xTys xm_490 = true := by decide +kernel
theorem x6_494 : f60c xTc xTys xm_494 = true := by decide +kernel
abbrev wz_376a3 : List Nat := [743, 760, 12239, 20000, 20001, 20002, 20003, 20004, 20005, 20006, 20007, 20008, 20009, 20010, 20011, 20012, 20013, 20014, 20015, 20016, 20017, 20018, 20019, 20020, 20021, 20022, 20023, 20024, 20025, 20026, 20027, 20028, 20029, 20100, 20101, 20102, 20103, 20104, 20105, 20106, 20107, 20108, 20109, 20110, 20111, 20112, 20113, 20114, 20115, 20116, 20117, 20118, 20119, 20200, 20201, 20202, 20203, 20300, 20301, 20302, 20303, 20304, 20305, 20306, 20307, 20308, 20309, 20310, 20311, 20312, 20313, 20400, 20401, 20402, 20403, 20404, 20405, 20500, 20600, 20601, 20602, 20603, 20604, 20605, 20700, 20701, 20702, 20703, 20704, 20705, 20706, 20707, 20800, 20801, 20802, 20810, 20811, 20820, 20821, 20822, 20830, 20831, 20832, 20833, 20834, 20840, 20850]
theorem x6_493 : f60c xTc xTys xm_493 = true := by decide +kernel
theorem rL_742_742_0_4899_1_0 : frL gJ bsJ 100 ((742, 742), (0, 4899), (1, 0), ((-2147483648), 2147483647)) := frL_hull (by decide) (by decide +kernel)
theorem rL_743_743_0_4899_1_0 : frL gJ bsJ 100 ((743, 743), (0, 4899), (1, 0), ((-2147483648), 2147483647)) := frL_hull (by decide) (by decide +kernel)
theorem fb_740_3 : bsJ 740 3 = (0, 1) := by decide +kernel
abbrev wz_96c9e : List Nat := [757, 758, 760, 12233, 12234, 12235, 12239]
theorem x6_492 : f60c xTc xTys xm_492 = true := by decide +kernel
abbrev wz_a99d3 : List Nat := [743, 756, 757, 758, 760, 12233, 12234, 12235, 12237, 12239, 20000, 20001, 20002, 20003, 20004, 20005, 20006, 20007, 20008, 20009, 20010, 20011, 20012, 20013, 20014, 20015, 20016, 20017, 20018, 20019, 20020, 20021, 20022, 20023, 20024, 20025, 20026, 20027, 20028, 20029, 20100, 20101, 20102, 20103, 20104, 20105, 20106, 20107, 20108, 20109, 20110, 20111, 20112, 20113, 20114, 20115, 20116, 20117, 20118, 20119, 20200, 20201, 20202, 20203, 20300, 20301, 20302, 20303, 20304, 20305, 20306, 20307, 20308, 20309, 20310, 20311, 20312, 20313, 20400, 20401, 20402, 20403, 20404, 20405, 20500, 20600, 20601, 20602, 20603, 20604, 20605, 20700, 20701, 20702, 20703, 20704, 20705, 20706, 20707, 20800, 20801, 20802, 20810, 20811, 20820, 20821, 20822, 20830, 20831, 20832, 20833, 20834, 20840, 20850]
theorem x6_489 : f60c xTc xTys xm_489 = true := by decide +kernel
theorem rL_759_759_0_59_1_0 : frL gJ bsJ 100 ((759, 759), (0, 59), (1, 0), ((-2147483648), 2147483647)) := frL_hull (by decide) (by decide +kernel)
theorem rL_760_760_0_59_1_0 : frL gJ bsJ 100 ((760, 760), (0, 59), (1, 0), ((-2147483648), 2147483647)) := frL_hull (by decide) (by decide +kernel)
abbrev wz_77c59 : List Nat := [468, 477, 478, 479, 480, 505, 506, 507, 508, 509, 510, 511, 512, 11208, 11211, 11215]
theorem x6_231 : f60c xTc xTys xm_231 = true := by decide +kernel
theorem fb_467_8 : bsJ 467 8 = (0, 6) := by decide +kernel
theorem fb_467_11 : bsJ 467 11 = (0, 10) := by decide +kernel
theorem fb_467_15 : bsJ 467 15 = (0, 7) := by decide +kernel
abbrev wz_35895 : List Nat := [434, 435, 436, 437, 11004]
abbrev wz_470c1 : List Nat := [420, 421, 422, 423, 424, 425, 426, 427, 428, 429, 430, 431, 432, 10913]
section CT
variable {ρ : Nat → Int32} {base n : Nat} {F : Nat → Prop} {D : va_G} {dA : Nat → ClassId} {la : Launch}
set_option maxRecDepth 8000 in
theorem ct_Cells_sendReport_31df9 {I : fH} {x1 : Int} {x2 : Int} {x3 : Int} (h0 : fB bsJ I) (ha1 : (0 ≤ x1 ∧ x1 ≤ 19)) (ha2 : ((-2147483648) ≤ x2 ∧ x2 ≤ 2147483647)) (ha3 : ((-2147483648) ≤ x3 ∧ x3 ≤ 2147483647)) : fC ρ base n F xTc vwCl xTys D dA la gJ (fbz bsJ znJ (fKc wz_3ed0a) I) xm_98 [.inr (.inr (some 514)), .inl x1, .inl x2, .inl x3] I (fun _ r => r = none) := by
  have hW : fzs wz_3ed0a (fKc wz_3ed0a) := fKc_ok _
  refine f_meth (rb := rbJ) (J := []) 1 400 xG xin_98 x6_98 okJ (fB_self h0) ?_ ?_
  · exact fun q h => absurd h List.not_mem_nil
  · have hB0 := fB_self (zn := znJ) (K := fKc wz_3ed0a) h0
    refine And.intro (by omega) (And.intro ?_ ?_)
    · intro c1
      refine And.intro ⟨rfl, by decide, by decide⟩ (fgetf fb_514_12 h0 hB0 ?_)
      intro z2 lz2 uz2 qz2
      refine And.intro (by omega) (And.intro ?_ ?_)
      · intro c3
        exact rfl
      · intro c4
        refine And.intro ⟨rfl, by decide, by decide⟩ ?_
        refine And.intro ⟨rfl, by decide, by decide⟩ (fgetf fb_514_12 h0 hB0 ?_)
        intro z5 lz5 uz5 qz5
        refine And.intro ⟨rfl, by decide⟩ (And.intro (by omega) ?_)
        refine And.intro ⟨rfl, by decide, by decide⟩ ?_
        refine And.intro ⟨rfl, by decide⟩ (And.intro (by omega) ?_)
        refine And.intro (fcopyU (rgG_518_537 (by omega) (by omega)) (rgG_585_674 (by omega) (by omega)) rL_518_537_0_4_1_0 rS_585_674_0_4_1_0 (fzs_sub (by decide +kernel) hW) h0 hB0 (by omega) (by omega) (by omega) (by omega)) (And.intro rfl ?_)
        intro IhB6 ehB6 hB6
        have t7 : IhB6 514 12 = I 514 12 := (congrFun (congrFun ehB6 514) 12).trans (fcpy_ne (by omega))
        refine fstore rS_585_674_5_5_1_0 (fzs_sub (by decide +kernel) hW) (by omega) (by omega) ?_
        intro IhB8 ehB8 hB8
        have t9 := fup_self ehB8
        have t10 : IhB8 514 12 = IhB6 514 12 := (congrFun (congrFun ehB8 514) 12).trans (fup_ne (by omega))
        intro z11 hz11 ez11 bz11
        clear ez11
        clear bz11
        refine fstore rS_585_674_6_6_1_0 (fzs_sub (by decide +kernel) hW) (by omega) (by omega) ?_
        intro IhB12 ehB12 hB12
        have t13 := fup_self ehB12
        have t14 : IhB12 514 12 = IhB8 514 12 := (congrFun (congrFun ehB12 514) 12).trans (fup_ne (by omega))
        refine fstore rS_585_674_7_7_1_0 (fzs_sub (by decide +kernel) hW) (by omega) (by omega) ?_
        intro IhB15 ehB15 hB15
        have t16 := fup_self ehB15
        have t17 : IhB15 514 12 = IhB12 514 12 := (congrFun (congrFun ehB15 514) 12).trans (fup_ne (by omega))
        refine And.intro ⟨rfl, by decide, by decide⟩ (fgetf fb_514_12 h0 hB15 ?_)
        intro z18 lz18 uz18 qz18
        refine And.intro ⟨rfl, by decide, by decide⟩ (And.intro rfl (And.intro (Or.inl rfl) (fputf fb_514_12 (by decide +kernel) hW (by omega) ?_)))
        intro IhB19 ehB19 hB19
        exact rfl
    · intro c20
      refine And.intro ⟨rfl, by decide, by decide⟩ ?_
      refine And.intro ⟨rfl, by decide⟩ (And.intro (by omega) ?_)
      refine And.intro ⟨rfl, by decide, by decide⟩ ?_
      refine And.intro ⟨rfl, by decide⟩ (And.intro (by omega) ?_)
      refine And.intro (fcopyU (rgG_518_537 (by omega) (by omega)) (rgG_560_579 (by omega) (by omega)) rL_518_537_0_4_1_0 rS_560_579_0_5_1_0 (fzs_sub (by decide +kernel) hW) h0 hB0 (by omega) (by omega) (by omega) (by omega)) (And.intro rfl ?_)
      intro IhB21 ehB21 hB21
      refine And.intro ⟨rfl, by decide, by decide⟩ ?_
      refine And.intro ⟨rfl, by decide⟩ (And.intro (by omega) ?_)
      refine fstore rS_560_579_0_5_1_0 (fzs_sub (by decide +kernel) hW) (by omega) (by omega) ?_
      intro IhB22 ehB22 hB22
      have t23 := fup_self ehB22
      exact rfl
abbrev jc_City_sendReports_305c9_2 : Nat → fL → List fV → fH → Prop := fun m lv st I => ∃ (y1 : Int), lv = [(0, .inr (.inr (some 513))), (1, .inl y1)] ∧ st = [] ∧ (((0 ≤ y1 ∧ y1 ≤ 20))) ∧ m = (1 + 1 * (20 - y1) : Int).toNat
set_option maxRecDepth 8000 in
theorem ct_City_sendReports_305c9 {I : fH}  (h0 : fB bsJ I)  : fC ρ base n F xTc vwCl xTys D dA la gJ (fbz bsJ znJ (fKc wz_3ed0a) I) xm_96 [.inr (.inr (some 513))] I (fun _ r => r = none) := by
  have hW : fzs wz_3ed0a (fKc wz_3ed0a) := fKc_ok _
  refine f_meth (rb := rbJ) (J := [(2, jc_City_sendReports_305c9_2)]) 22 400 xG xin_96 x6_96 okJ (fB_self h0) ?_ ?_
  · refine List.forall_mem_cons.mpr ⟨?_, fun q h => absurd h List.not_mem_nil⟩
    · rintro m _ _ I1 hB1 ⟨y1, rfl, rfl, hb, hm⟩
      refine And.intro ⟨rfl, by decide, by decide⟩ ?_
      refine And.intro ⟨rfl, by decide, by decide⟩ (fgetf fb_514_5 h0 hB1 ?_)
      intro z1 lz1 uz1 qz1
      refine And.intro (by omega) (And.intro ?_ ?_)
      · intro c2
        exact rfl
      · intro c3
        refine And.intro ⟨rfl, by decide, by decide⟩ ?_
        refine Exists.intro xm_97 (And.intro mi_97 (And.intro ⟨rfl, rfl, rfl, rfl⟩ (And.intro rfl ?_)))
        refine fcallp hB1 (ct_People_isWatched_98c46 (fBz h0 hB1) (by omega)) ?_
        rintro _ ⟨z4, rfl, hz4⟩
        refine And.intro (by omega) (And.intro ?_ ?_)
        · intro c5
          exact fcutJ (I := I1) (j := jc_City_sendReports_305c9_2) (lv' := [(0, .inr (.inr (some 513))), (1, .inl _)]) (And.intro rfl (And.intro rfl True.intro)) ⟨_, rfl, rfl, by omega, rfl⟩ (by omega)
        · intro c6
          refine And.intro ⟨rfl, by decide, by decide⟩ ?_
          refine And.intro ⟨rfl, by decide, by decide⟩ (fgetf fb_513_9 h0 hB1 ?_)
          intro z7 lz7 uz7 qz7
          refine And.intro ⟨rfl, by decide, by decide⟩ (fgetf fb_513_8 h0 hB1 ?_)
          intro z8 lz8 uz8 qz8
          refine Exists.intro xm_98 (And.intro mi_98 (And.intro ⟨rfl, rfl, rfl, rfl⟩ (And.intro rfl ?_)))
          refine fcall _ h0 (fzs_sub (by decide +kernel) hW) hB1 (ct_Cells_sendReport_31df9 (fBz h0 hB1) (by omega) (by omega) (by omega)) ?_
          rintro IhB10 _ hB10 fhB10 rfl
          have t11 := fhB10 514 5 (by decide +kernel)
          exact fcutJ (I := IhB10) (j := jc_City_sendReports_305c9_2) (lv' := [(0, .inr (.inr (some 513))), (1, .inl _)]) (And.intro rfl (And.intro rfl True.intro)) ⟨_, rfl, rfl, by omega, rfl⟩ (by omega)
  · have hB0 := fB_self (zn := znJ) (K := fKc wz_3ed0a) h0
    exact fcutJ (I := I) (j := jc_City_sendReports_305c9_2) (lv' := [(0, .inr (.inr (some 513))), (1, .inl _)]) (And.intro rfl (And.intro rfl True.intro)) ⟨_, rfl, rfl, by omega, rfl⟩ (by omega)
set_option maxRecDepth 8000 in
theorem ct_Cells_hear_45721 {I : fH} {x1 : Nat} (h0 : fB bsJ I) (ha1 : (585 ≤ x1 ∧ x1 ≤ 674)) : fC ρ base n F xTc vwCl xTys D dA la gJ (fbz bsJ znJ (fKc wz_10d1b) I) xm_76 [.inr (.inr (some 514)), .inr (.inr (some x1))] I (fun _ r => r = none) := by
  have hW : fzs wz_10d1b (fKc wz_10d1b) := fKc_ok _
  refine f_meth (rb := rbJ) (J := []) 1 400 xG xin_76 x6_76 okJ (fB_self h0) ?_ ?_
  · exact fun q h => absurd h List.not_mem_nil
  · have hB0 := fB_self (zn := znJ) (K := fKc wz_10d1b) h0
    refine fload rL_585_674_7_7_1_0 h0 hB0 (by omega) ?_
    intro z1 lz1 uz1 qz1
    refine fload rL_585_674_5_5_1_0 h0 hB0 (by omega) ?_
    intro z2 lz2 uz2 qz2
    refine And.intro ⟨rfl, by decide, by decide⟩ ?_
    refine And.intro ⟨rfl, by decide⟩ (And.intro (by omega) ?_)
    refine fload rL_560_579_0_5_1_0 h0 hB0 (by omega) ?_
    intro z3 lz3 uz3 qz3
    refine And.intro (by omega) (And.intro ?_ ?_)
    · intro c4
      exact rfl
    · intro c5
      refine And.intro ⟨rfl, by decide, by decide⟩ ?_
      refine And.intro ⟨rfl, by decide⟩ (And.intro (by omega) ?_)
      refine And.intro (fcopyU (rgG_585_674 (by omega) (by omega)) (rgG_560_579 (by omega) (by omega)) rL_585_674_0_5_1_0 rS_560_579_0_5_1_0 (fzs_sub (by decide +kernel) hW) h0 hB0 (by omega) (by omega) (by omega) (by omega)) (And.intro rfl ?_)
      intro IhB6 ehB6 hB6
      exact rfl
abbrev jc_Cells_takeReports_88f4c_4 : Nat → fL → List fV → fH → Prop := fun m lv st I => ∃ (y1 : Int) (y2 : Int) (y3 : Int), lv = [(0, .inr (.inr (some 514))), (1, .inl y1), (2, .inl y2), (3, .inl y3)] ∧ st = [] ∧ ((((-2147483648) ≤ y1 ∧ y1 ≤ 2147483647) ∧ (0 ≤ y2 ∧ y2 ≤ 90) ∧ (0 ≤ y3 ∧ y3 ≤ 90) ∧ (y2 ≤ y3))) ∧ m = (1 + 1 * (90 - y3) : Int).toNat
set_option maxRecDepth 8000 in
theorem ct_Cells_takeReports_88f4c {I : fH} {x1 : Int} (h0 : fB bsJ I) (ha1 : ((-2147483648) ≤ x1 ∧ x1 ≤ 2147483647)) : fC ρ base n F xTc vwCl xTys D dA la gJ (fbz bsJ znJ (fKc wz_3ed0a) I) xm_74 [.inr (.inr (some 514)), .inl x1] I (fun _ r => r = none) := by
  have hW : fzs wz_3ed0a (fKc wz_3ed0a) := fKc_ok _
  refine f_meth (rb := rbJ) (J := [(4, jc_Cells_takeReports_88f4c_4)]) 92 400 xG xin_74 x6_74 okJ (fB_self h0) ?_ ?_
  · refine List.forall_mem_cons.mpr ⟨?_, fun q h => absurd h List.not_mem_nil⟩
    · rintro m _ _ I1 hB1 ⟨y1, y2, y3, rfl, rfl, hb, hm⟩
      refine And.intro ⟨rfl, by decide, by decide⟩ (fgetf fb_514_12 h0 hB1 ?_)
      intro z1 lz1 uz1 qz1
      refine And.intro (by omega) (And.intro ?_ ?_)
      · intro c2
        refine And.intro ⟨rfl, by decide, by decide⟩ (And.intro rfl (And.intro (Or.inl rfl) (fputf fb_514_12 (by decide +kernel) hW (by omega) ?_)))
        intro IhB3 ehB3 hB3
        have t4 := fup_at ehB3 12 (by omega)
        exact rfl
      · intro c5
        refine And.intro ⟨rfl, by decide, by decide⟩ ?_
        refine And.intro ⟨rfl, by decide⟩ (And.intro (by omega) ?_)
        refine fload rL_585_674_6_6_1_0 h0 hB1 (by omega) ?_
        intro z6 lz6 uz6 qz6
        refine And.intro (by omega) (And.intro ?_ ?_)
        · intro c7
          refine Exists.intro xm_76 (And.intro mi_76 (And.intro ⟨rfl, rfl, rfl, rfl⟩ (And.intro rfl ?_)))
          refine fcall _ h0 (fzs_sub (by decide +kernel) hW) hB1 (ct_Cells_hear_45721 (fBz h0 hB1) (by omega)) ?_
          rintro IhB9 _ hB9 fhB9 rfl
          have t10 := fhB9 514 12 (by decide +kernel)
          exact fcutJ (I := IhB9) (j := jc_Cells_takeReports_88f4c_4) (lv' := [(0, .inr (.inr (some 514))), (1, .inl _), (2, .inl _), (3, .inl _)]) (And.intro rfl (And.intro rfl (And.intro rfl (And.intro rfl True.intro)))) ⟨_, _, _, rfl, rfl, by omega, rfl⟩ (by omega)
        · intro c11
          refine And.intro ⟨rfl, by decide, by decide⟩ ?_
          refine And.intro ⟨rfl, by decide⟩ (And.intro (by omega) ?_)
          refine Exists.intro xm_75 (And.intro mi_75 (And.intro ⟨rfl, rfl, rfl, rfl⟩ (And.intro True.intro ?_)))
          refine fcall _ h0 (fzs_sub (by decide +kernel) hW) hB1 (ct_copyRow (W := [584]) (len := 8) (fBz h0 hB1) (frCx (a0 := 585) (a1 := 674) (by decide +kernel) (by omega) (by omega))) ?_
          rintro IhB12 _ hB12 fhB12 ⟨rfl, ehB12⟩
          have t13 := fhB12 514 12 (by decide +kernel)
          intro z14 hz14 bz14
          have bz14 := bz14 (by omega)
          exact fcutJ (I := IhB12) (j := jc_Cells_takeReports_88f4c_4) (lv' := [(0, .inr (.inr (some 514))), (1, .inl _), (2, .inl _), (3, .inl _)]) (And.intro rfl (And.intro rfl (And.intro rfl (And.intro rfl True.intro)))) ⟨_, _, _, rfl, rfl, by omega, rfl⟩ (by omega)
  · have hB0 := fB_self (zn := znJ) (K := fKc wz_3ed0a) h0
    exact fcutJ (I := I) (j := jc_Cells_takeReports_88f4c_4) (lv' := [(0, .inr (.inr (some 514))), (1, .inl _), (2, .inl _), (3, .inl _)]) (And.intro rfl (And.intro rfl (And.intro rfl (And.intro rfl True.intro)))) ⟨_, _, _, rfl, rfl, by omega, rfl⟩ (by omega)
set_option maxRecDepth 8000 in
theorem ct_People_needOf_66c94 {I : fH} {x1 : Int} (h0 : fB bsJ I) (ha1 : (0 ≤ x1 ∧ x1 ≤ 23)) : fC ρ base n F xTc vwCl xTys D dA la gJ (fbz bsJ znJ (fKc []) I) xm_92 [.inr (.inr (some 689)), .inl x1] I (fun _ r => ∃ z, r = some (.inl z) ∧ (1 ≤ z ∧ z ≤ 2)) := by
  have hW : fzs [] (fKc []) := fKc_ok _
  refine f_meth (rb := rbJ) (J := []) 1 400 xG xin_92 x6_92 okJ (fB_self h0) ?_ ?_
  · exact fun q h => absurd h List.not_mem_nil
  · have hB0 := fB_self (zn := znJ) (K := fKc []) h0
    refine And.intro ⟨rfl, by decide, by decide⟩ ?_
    refine fload rL_690_690_0_23_1_0 h0 hB0 (by omega) ?_
    intro z1 lz1 uz1 qz1
    refine And.intro (by omega) (And.intro ?_ ?_)
    · intro c2
      refine And.intro (True.intro) ?_
      exact ⟨_, rfl, by omega⟩
    · intro c3
      refine And.intro (True.intro) ?_
      exact ⟨_, rfl, by omega⟩
set_option maxRecDepth 8000 in
theorem ct_People_sicken_4d132 {I : fH} {x1 : Int} {x2 : Int} (h0 : fB bsJ I) (ha1 : (0 ≤ x1 ∧ x1 ≤ 23)) (ha2 : ((-1) ≤ x2 ∧ x2 ≤ 8)) : fC ρ base n F xTc vwCl xTys D dA la gJ (fbz bsJ znJ (fKc wz_e70f1) I) xm_93 [.inr (.inr (some 689)), .inl x1, .inl x2] I (fun _ r => r = none) := by
  have hW : fzs wz_e70f1 (fKc wz_e70f1) := fKc_ok _
  refine f_meth (rb := rbJ) (J := []) 1 400 xG xin_93 x6_93 okJ (fB_self h0) ?_ ?_
  · exact fun q h => absurd h List.not_mem_nil
  · have hB0 := fB_self (zn := znJ) (K := fKc wz_e70f1) h0
    refine And.intro ⟨rfl, by decide, by decide⟩ ?_
    refine And.intro ⟨rfl, by decide, by decide⟩ ?_
    refine fload rL_693_693_0_23_1_0 h0 hB0 (by omega) ?_
    intro z1 lz1 uz1 qz1
    intro z2 hz2 ez2 bz2
    clear ez2
    clear bz2
    refine And.intro (And.intro (by omega) (And.intro (by omega) rfl)) ?_
    intro z3 hz3
    refine And.intro (And.intro (by omega) (And.intro (by omega) rfl)) ?_
    intro z4 hz4
    refine fstore rS_693_693_0_23_1_0 (fzs_sub (by decide +kernel) hW) (by omega) (by omega) ?_
    intro IhB5 ehB5 hB5
    have t6 := fup_self ehB5
    exact rfl
set_option maxRecDepth 8000 in
theorem ct_City_breathe_fe888 {I : fH} {x1 : Int} (h0 : fB bsJ I) (ha1 : (0 ≤ x1 ∧ x1 ≤ 23)) : fC ρ base n F xTc vwCl xTys D dA la gJ (fbz bsJ znJ (fKc wz_edb18) I) xm_91 [.inr (.inr (some 513)), .inl x1] I (fun _ r => r = none) := by
  have hW : fzs wz_edb18 (fKc wz_edb18) := fKc_ok _
  refine f_meth (rb := rbJ) (J := []) 1 400 xG xin_91 x6_91 okJ (fB_self h0) ?_ ?_
  · exact fun q h => absurd h List.not_mem_nil
  · have hB0 := fB_self (zn := znJ) (K := fKc wz_edb18) h0
    refine And.intro ⟨rfl, by decide, by decide⟩ ?_
    refine And.intro ⟨rfl, by decide, by decide⟩ ?_
    refine fload rL_692_692_0_23_1_0 h0 hB0 (by omega) ?_
    intro z1 lz1 uz1 qz1
    refine And.intro ⟨rfl, by decide, by decide⟩ ?_
    refine Exists.intro xm_92 (And.intro mi_92 (And.intro ⟨rfl, rfl, rfl, rfl⟩ (And.intro rfl ?_)))
    refine fcallp hB0 (ct_People_needOf_66c94 (fBz h0 hB0) (by omega)) ?_
    rintro _ ⟨z2, rfl, hz2⟩
    refine And.intro ⟨rfl, by decide, by decide⟩ ?_
    refine And.intro ⟨rfl, by decide, by decide⟩ ?_
    refine And.intro ⟨rfl, by decide⟩ (And.intro (by omega) ?_)
    refine fload rL_518_537_0_4_1_0 h0 hB0 (by omega) ?_
    intro z3 lz3 uz3 qz3
    refine And.intro (And.intro (by omega) (And.intro (by omega) rfl)) ?_
    intro z4 hz4
    refine And.intro ⟨rfl, by decide, by decide⟩ ?_
    refine And.intro ⟨rfl, by decide, by decide⟩ ?_
    refine And.intro ⟨rfl, by decide⟩ (And.intro (by omega) ?_)
    refine fload rL_518_537_0_4_1_0 h0 hB0 (by omega) ?_
    intro z5 lz5 uz5 qz5
    intro z6 hz6 ez6 bz6
    clear ez6
    clear bz6
    refine fstore rS_518_537_0_4_1_0 (fzs_sub (by decide +kernel) hW) (by omega) (by omega) ?_
    intro IhB7 ehB7 hB7
    have t8 := fup_self ehB7
    refine And.intro ⟨rfl, by decide, by decide⟩ ?_
    refine And.intro (And.intro (by omega) (And.intro (by omega) (And.intro (by omega) rfl))) ?_
    intro z9 hz9 ez9 dz9
    refine Exists.intro xm_84 (And.intro mi_84 (And.intro ⟨rfl, rfl, rfl, rfl⟩ (And.intro rfl ?_)))
    refine fcall _ h0 (fzs_sub (by decide +kernel) hW) hB7 (ct_Cells_addAir_f5ee0 (fBz h0 hB7) (by omega) (by omega) (by omega)) ?_
    rintro IhB11 _ hB11 fhB11 rfl
    refine And.intro ⟨rfl, by decide, by decide⟩ ?_
    refine And.intro (And.intro (by omega) (And.intro (by omega) (And.intro (by omega) rfl))) ?_
    intro z12 hz12 ez12 dz12
    intro z13 hz13 ez13 bz13
    clear ez13
    clear bz13
    refine Exists.intro xm_84 (And.intro mi_84 (And.intro ⟨rfl, rfl, rfl, rfl⟩ (And.intro rfl ?_)))
    refine fcall _ h0 (fzs_sub (by decide +kernel) hW) hB11 (ct_Cells_addAir_f5ee0 (fBz h0 hB11) (by omega) (by omega) (by omega)) ?_
    rintro IhB15 _ hB15 fhB15 rfl
    refine And.intro (by omega) (And.intro ?_ ?_)
    · intro c16
      refine And.intro ⟨rfl, by decide, by decide⟩ ?_
      refine And.intro ⟨rfl, by decide, by decide⟩ ?_
      refine And.intro ⟨rfl, by decide⟩ (And.intro (by omega) ?_)
      refine fload rL_518_537_0_4_1_0 h0 hB15 (by omega) ?_
      intro z17 lz17 uz17 qz17
      refine And.intro ⟨rfl, by decide, by decide⟩ ?_
      refine And.intro ⟨rfl, by decide, by decide⟩ ?_
      refine fload rL_515_515_0_19_1_0 h0 hB15 (by omega) ?_
      intro z18 lz18 uz18 qz18
      refine And.intro (by omega) (And.intro ?_ ?_)
      · intro c19
        refine And.intro ⟨rfl, by decide, by decide⟩ ?_
        refine And.intro (by omega) (And.intro ?_ ?_)
        · intro c20
          refine Exists.intro xm_93 (And.intro mi_93 (And.intro ⟨rfl, rfl, rfl, rfl⟩ (And.intro rfl ?_)))
          refine fcall _ h0 (fzs_sub (by decide +kernel) hW) hB15 (ct_People_sicken_4d132 (fBz h0 hB15) (by omega) (by omega)) ?_
          rintro IhB22 _ hB22 fhB22 rfl
          exact rfl
        · intro c23
          refine Exists.intro xm_93 (And.intro mi_93 (And.intro ⟨rfl, rfl, rfl, rfl⟩ (And.intro rfl ?_)))
          refine fcall _ h0 (fzs_sub (by decide +kernel) hW) hB15 (ct_People_sicken_4d132 (fBz h0 hB15) (by omega) (by omega)) ?_
          rintro IhB25 _ hB25 fhB25 rfl
          exact rfl
      · intro c26
        refine And.intro ⟨rfl, by decide, by decide⟩ ?_
        refine And.intro (by omega) (And.intro ?_ ?_)
        · intro c27
          refine Exists.intro xm_93 (And.intro mi_93 (And.intro ⟨rfl, rfl, rfl, rfl⟩ (And.intro rfl ?_)))
          refine fcall _ h0 (fzs_sub (by decide +kernel) hW) hB15 (ct_People_sicken_4d132 (fBz h0 hB15) (by omega) (by omega)) ?_
          rintro IhB29 _ hB29 fhB29 rfl
          exact rfl
        · intro c30
          refine Exists.intro xm_93 (And.intro mi_93 (And.intro ⟨rfl, rfl, rfl, rfl⟩ (And.intro rfl ?_)))
          refine fcall _ h0 (fzs_sub (by decide +kernel) hW) hB15 (ct_People_sicken_4d132 (fBz h0 hB15) (by omega) (by omega)) ?_
          rintro IhB32 _ hB32 fhB32 rfl
          exact rfl
    · intro c33
      refine And.intro ⟨rfl, by decide, by decide⟩ ?_
      refine And.intro ⟨rfl, by decide, by decide⟩ ?_
      refine And.intro ⟨rfl, by decide⟩ (And.intro (by omega) ?_)
      refine fload rL_518_537_0_4_1_0 h0 hB15 (by omega) ?_
      intro z34 lz34 uz34 qz34
      refine And.intro ⟨rfl, by decide, by decide⟩ ?_
      refine And.intro ⟨rfl, by decide, by decide⟩ ?_
      refine fload rL_515_515_0_19_1_0 h0 hB15 (by omega) ?_
      intro z35 lz35 uz35 qz35
      refine And.intro (by omega) (And.intro ?_ ?_)
      · intro c36
        refine And.intro ⟨rfl, by decide, by decide⟩ ?_
        refine And.intro (by omega) (And.intro ?_ ?_)
        · intro c37
          refine Exists.intro xm_93 (And.intro mi_93 (And.intro ⟨rfl, rfl, rfl, rfl⟩ (And.intro rfl ?_)))
          refine fcall _ h0 (fzs_sub (by decide +kernel) hW) hB15 (ct_People_sicken_4d132 (fBz h0 hB15) (by omega) (by omega)) ?_
          rintro IhB39 _ hB39 fhB39 rfl
          exact rfl
        · intro c40
          refine Exists.intro xm_93 (And.intro mi_93 (And.intro ⟨rfl, rfl, rfl, rfl⟩ (And.intro rfl ?_)))
          refine fcall _ h0 (fzs_sub (by decide +kernel) hW) hB15 (ct_People_sicken_4d132 (fBz h0 hB15) (by omega) (by omega)) ?_
          rintro IhB42 _ hB42 fhB42 rfl
          exact rfl
      · intro c43
        refine And.intro ⟨rfl, by decide, by decide⟩ ?_
        refine And.intro (by omega) (And.intro ?_ ?_)
        · intro c44
          refine Exists.intro xm_93 (And.intro mi_93 (And.intro ⟨rfl, rfl, rfl, rfl⟩ (And.intro rfl ?_)))
          refine fcall _ h0 (fzs_sub (by decide +kernel) hW) hB15 (ct_People_sicken_4d132 (fBz h0 hB15) (by omega) (by omega)) ?_
          rintro IhB46 _ hB46 fhB46 rfl
          exact rfl
        · intro c47
          refine Exists.intro xm_93 (And.intro mi_93 (And.intro ⟨rfl, rfl, rfl, rfl⟩ (And.intro rfl ?_)))
          refine fcall _ h0 (fzs_sub (by decide +kernel) hW) hB15 (ct_People_sicken_4d132 (fBz h0 hB15) (by omega) (by omega)) ?_
          rintro IhB49 _ hB49 fhB49 rfl
          exact rfl
set_option maxRecDepth 8000 in
theorem ct_City_level_cee1f {I : fH}  (h0 : fB bsJ I)  : fC ρ base n F xTc vwCl xTys D dA la gJ (fbz bsJ znJ (fKc []) I) xm_31 [.inr (.inr (some 513))] I (fun _ r => ∃ z, r = some (.inl z) ∧ (0 ≤ z ∧ z ≤ 60)) := by
  have hW : fzs [] (fKc []) := fKc_ok _
  refine f_meth (rb := rbJ) (J := []) 1 400 xG xin_31 x6_31 okJ (fB_self h0) ?_ ?_
  · exact fun q h => absurd h List.not_mem_nil
  · have hB0 := fB_self (zn := znJ) (K := fKc []) h0
    refine And.intro ⟨rfl, by decide, by decide⟩ (fgetf fb_513_5 h0 hB0 ?_)
    intro z1 lz1 uz1 qz1
    refine And.intro (And.intro (by omega) (And.intro (by omega) (And.intro (by omega) rfl))) ?_
    intro z2 hz2 ez2 dz2
    have dz2 := dz2 (by omega) (by omega)
    change _ = _ / _ at dz2
    refine And.intro (True.intro) ?_
    exact ⟨_, rfl, by omega⟩
set_option maxRecDepth 8000 in
theorem ct_Works_isSkin_984b7 {I : fH} {x1 : Int} (h0 : fB bsJ I) (ha1 : (0 ≤ x1 ∧ x1 ≤ 23)) : fC ρ base n F xTc vwCl xTys D dA la gJ (fbz bsJ znJ (fKc []) I) xm_64 [.inr (.inr (some 675)), .inl x1] I (fun _ r => ∃ z, r = some (.inl z) ∧ (0 ≤ z ∧ z ≤ 1)) := by
  have hW : fzs [] (fKc []) := fKc_ok _
  refine f_meth (rb := rbJ) (J := []) 1 400 xG xin_64 x6_64 okJ (fB_self h0) ?_ ?_
  · exact fun q h => absurd h List.not_mem_nil
  · have hB0 := fB_self (zn := znJ) (K := fKc []) h0
    refine And.intro ⟨rfl, by decide, by decide⟩ ?_
    refine fload rL_676_676_0_23_1_0 h0 hB0 (by omega) ?_
    intro z1 lz1 uz1 qz1
    refine And.intro (by omega) (And.intro ?_ ?_)
    · intro c2
      refine And.intro (⟨by omega, by omega⟩) ?_
      exact ⟨_, rfl, by omega⟩
    · intro c3
      refine And.intro ⟨rfl, by decide, by decide⟩ ?_
      refine fload rL_686_686_0_23_1_0 h0 hB0 (by omega) ?_
      intro z4 lz4 uz4 qz4
      refine And.intro (by omega) (And.intro ?_ ?_)
      · intro c5
        refine And.intro (⟨by omega, by omega⟩) ?_
        exact ⟨_, rfl, by omega⟩
      · intro c6
        refine And.intro (⟨by omega, by omega⟩) ?_
        exact ⟨_, rfl, by omega⟩
set_option maxRecDepth 8000 in
theorem ct_City_liftOf_6cbf4 {I : fH} {x1 : Int} (h0 : fB bsJ I) (ha1 : (0 ≤ x1 ∧ x1 ≤ 23)) : fC ρ base n F xTc vwCl xTys D dA la gJ (fbz bsJ znJ (fKc []) I) xm_63 [.inr (.inr (some 513)), .inl x1] I (fun _ r => ∃ z, r = some (.inl z) ∧ ((-2147483648) ≤ z ∧ z ≤ 2147483647)) := by
  have hW : fzs [] (fKc []) := fKc_ok _
  refine f_meth (rb := rbJ) (J := []) 1 400 xG xin_63 x6_63 okJ (fB_self h0) ?_ ?_
  · exact fun q h => absurd h List.not_mem_nil
  · have hB0 := fB_self (zn := znJ) (K := fKc []) h0
    refine And.intro ⟨rfl, by decide, by decide⟩ ?_
    refine Exists.intro xm_64 (And.intro mi_64 (And.intro ⟨rfl, rfl, rfl, rfl⟩ (And.intro rfl ?_)))
    refine fcallp hB0 (ct_Works_isSkin_984b7 (fBz h0 hB0) (by omega)) ?_
    rintro _ ⟨z1, rfl, hz1⟩
    refine And.intro (by omega) (And.intro ?_ ?_)
    · intro c2
      refine And.intro (True.intro) ?_
      exact ⟨_, rfl, by omega⟩
    · intro c3
      refine And.intro ⟨rfl, by decide, by decide⟩ ?_
      refine And.intro ⟨rfl, by decide, by decide⟩ ?_
      refine fload rL_684_684_0_23_1_0 h0 hB0 (by omega) ?_
      intro z4 lz4 uz4 qz4
      refine And.intro ⟨rfl, by decide, by decide⟩ ?_
      refine And.intro ⟨rfl, by decide⟩ (And.intro (by omega) ?_)
      refine Exists.intro xm_31 (And.intro mi_31 (And.intro ⟨rfl, rfl, rfl, rfl⟩ (And.intro rfl ?_)))
      refine fcallp hB0 (ct_City_level_cee1f (fBz h0 hB0)) ?_
      rintro _ ⟨z5, rfl, hz5⟩
      refine fload rL_696_696_0_60_1_0 h0 hB0 (by omega) ?_
      intro z6 lz6 uz6 qz6
      intro z7 hz7 ez7 bz7
      clear ez7
      clear bz7
      refine And.intro (And.intro (by omega) (And.intro (by omega) (And.intro (by omega) rfl))) ?_
      intro z8 hz8 ez8 dz8
      refine And.intro (True.intro) ?_
      exact ⟨_, rfl, by omega⟩
abbrev jc_City_lift_1f18c_4 : Nat → fL → List fV → fH → Prop := fun m lv st I => ∃ (y1 : Int) (y2 : Int), lv = [(0, .inr (.inr (some 513))), (1, .inl y1), (2, .inl y2)] ∧ st = [] ∧ ((((-2147483648) ≤ y1 ∧ y1 ≤ 2147483647) ∧ (0 ≤ y2 ∧ y2 ≤ 24))) ∧ m = (1 + 1 * (24 - y2) : Int).toNat
set_option maxRecDepth 8000 in
theorem ct_City_lift_1f18c {I : fH}  (h0 : fB bsJ I)  : fC ρ base n F xTc vwCl xTys D dA la gJ (fbz bsJ znJ (fKc []) I) xm_62 [.inr (.inr (some 513))] I (fun _ r => ∃ z, r = some (.inl z) ∧ ((-2147483648) ≤ z ∧ z ≤ 2147483647)) := by
  have hW : fzs [] (fKc []) := fKc_ok _
  refine f_meth (rb := rbJ) (J := [(4, jc_City_lift_1f18c_4)]) 26 400 xG xin_62 x6_62 okJ (fB_self h0) ?_ ?_
  · refine List.forall_mem_cons.mpr ⟨?_, fun q h => absurd h List.not_mem_nil⟩
    · rintro m _ _ I1 hB1 ⟨y1, y2, rfl, rfl, hb, hm⟩
      refine And.intro ⟨rfl, by decide, by decide⟩ ?_
      refine And.intro ⟨rfl, by decide, by decide⟩ (fgetf fb_675_13 h0 hB1 ?_)
      intro z1 lz1 uz1 qz1
      refine And.intro (by omega) (And.intro ?_ ?_)
      · intro c2
        refine And.intro (True.intro) ?_
        exact ⟨_, rfl, by omega⟩
      · intro c3
        refine Exists.intro xm_63 (And.intro mi_63 (And.intro ⟨rfl, rfl, rfl, rfl⟩ (And.intro rfl ?_)))
        refine fcallp hB1 (ct_City_liftOf_6cbf4 (fBz h0 hB1) (by omega)) ?_
        rintro _ ⟨z4, rfl, hz4⟩
        intro z5 hz5 ez5 bz5
        clear ez5
        clear bz5
        exact fcutJ (I := I1) (j := jc_City_lift_1f18c_4) (lv' := [(0, .inr (.inr (some 513))), (1, .inl _), (2, .inl _)]) (And.intro rfl (And.intro rfl (And.intro rfl True.intro))) ⟨_, _, rfl, rfl, by omega, rfl⟩ (by omega)
  · have hB0 := fB_self (zn := znJ) (K := fKc []) h0
    exact fcutJ (I := I) (j := jc_City_lift_1f18c_4) (lv' := [(0, .inr (.inr (some 513))), (1, .inl _), (2, .inl _)]) (And.intro rfl (And.intro rfl (And.intro rfl True.intro))) ⟨_, _, rfl, rfl, by omega, rfl⟩ (by omega)
abbrev jc_People_living_f14dc_4 : Nat → fL → List fV → fH → Prop := fun m lv st I => ∃ (y1 : Int) (y2 : Int), lv = [(0, .inr (.inr (some 689))), (1, .inl y1), (2, .inl y2)] ∧ st = [] ∧ ((((-2147483648) ≤ y1 ∧ y1 ≤ 2147483647) ∧ (0 ≤ y2 ∧ y2 ≤ 24))) ∧ m = (1 + 1 * (24 - y2) : Int).toNat
set_option maxRecDepth 8000 in
theorem ct_People_living_f14dc {I : fH}  (h0 : fB bsJ I)  : fC ρ base n F xTc vwCl xTys D dA la gJ (fbz bsJ znJ (fKc []) I) xm_67 [.inr (.inr (some 689))] I (fun _ r => ∃ z, r = some (.inl z) ∧ ((-2147483648) ≤ z ∧ z ≤ 2147483647)) := by
  have hW : fzs [] (fKc []) := fKc_ok _
  refine f_meth (rb := rbJ) (J := [(4, jc_People_living_f14dc_4)]) 26 400 xG xin_67 x6_67 okJ (fB_self h0) ?_ ?_
  · refine List.forall_mem_cons.mpr ⟨?_, fun q h => absurd h List.not_mem_nil⟩
    · rintro m _ _ I1 hB1 ⟨y1, y2, rfl, rfl, hb, hm⟩
      refine And.intro ⟨rfl, by decide, by decide⟩ (fgetf fb_689_4 h0 hB1 ?_)
      intro z1 lz1 uz1 qz1
      refine And.intro (by omega) (And.intro ?_ ?_)
      · intro c2
        refine And.intro (True.intro) ?_
        exact ⟨_, rfl, by omega⟩
      · intro c3
        refine Exists.intro xm_21 (And.intro mi_21 (And.intro ⟨rfl, rfl, rfl, rfl⟩ (And.intro rfl ?_)))
        refine fcallp hB1 (ct_People_isDead_16e8f (fBz h0 hB1) (by omega)) ?_
        rintro _ ⟨z4, rfl, hz4⟩
        refine And.intro (by omega) (And.intro ?_ ?_)
        · intro c5
          exact fcutJ (I := I1) (j := jc_People_living_f14dc_4) (lv' := [(0, .inr (.inr (some 689))), (1, .inl _), (2, .inl _)]) (And.intro rfl (And.intro rfl (And.intro rfl True.intro))) ⟨_, _, rfl, rfl, by omega, rfl⟩ (by omega)
        · intro c6
          intro z7 hz7 bz7
          clear bz7
          exact fcutJ (I := I1) (j := jc_People_living_f14dc_4) (lv' := [(0, .inr (.inr (some 689))), (1, .inl _), (2, .inl _)]) (And.intro rfl (And.intro rfl (And.intro rfl True.intro))) ⟨_, _, rfl, rfl, by omega, rfl⟩ (by omega)
  · have hB0 := fB_self (zn := znJ) (K := fKc []) h0
    exact fcutJ (I := I) (j := jc_People_living_f14dc_4) (lv' := [(0, .inr (.inr (some 689))), (1, .inl _), (2, .inl _)]) (And.intro rfl (And.intro rfl (And.intro rfl True.intro))) ⟨_, _, rfl, rfl, by omega, rfl⟩ (by omega)
set_option maxRecDepth 8000 in
theorem ct_Works_isDropped_e5842 {I : fH} {x1 : Int} (h0 : fB bsJ I) (ha1 : (0 ≤ x1 ∧ x1 ≤ 23)) : fC ρ base n F xTc vwCl xTys D dA la gJ (fbz bsJ znJ (fKc []) I) xm_55 [.inr (.inr (some 675)), .inl x1] I (fun _ r => ∃ z, r = some (.inl z) ∧ (0 ≤ z ∧ z ≤ 1)) := by
  have hW : fzs [] (fKc []) := fKc_ok _
  refine f_meth (rb := rbJ) (J := []) 1 400 xG xin_55 x6_55 okJ (fB_self h0) ?_ ?_
  · exact fun q h => absurd h List.not_mem_nil
  · have hB0 := fB_self (zn := znJ) (K := fKc []) h0
    refine And.intro ⟨rfl, by decide, by decide⟩ ?_
    refine fload rL_687_687_0_23_1_0 h0 hB0 (by omega) ?_
    intro z1 lz1 uz1 qz1
    refine And.intro (by omega) (And.intro ?_ ?_)
    · intro c2
      refine And.intro (⟨by omega, by omega⟩) ?_
      exact ⟨_, rfl, by omega⟩
    · intro c3
      refine And.intro (⟨by omega, by omega⟩) ?_
      exact ⟨_, rfl, by omega⟩
set_option maxRecDepth 8000 in
theorem ct_Works_weightOf_23190 {I : fH} {x1 : Int} (h0 : fB bsJ I) (ha1 : (0 ≤ x1 ∧ x1 ≤ 23)) : fC ρ base n F xTc vwCl xTys D dA la gJ (fbz bsJ znJ (fKc []) I) xm_68 [.inr (.inr (some 675)), .inl x1] I (fun _ r => ∃ z, r = some (.inl z) ∧ ((-2147483648) ≤ z ∧ z ≤ 2147483647)) := by
  have hW : fzs [] (fKc []) := fKc_ok _
  refine f_meth (rb := rbJ) (J := []) 1 400 xG xin_68 x6_68 okJ (fB_self h0) ?_ ?_
  · exact fun q h => absurd h List.not_mem_nil
  · have hB0 := fB_self (zn := znJ) (K := fKc []) h0
    refine Exists.intro xm_50 (And.intro mi_50 (And.intro ⟨rfl, rfl, rfl, rfl⟩ (And.intro rfl ?_)))
    refine fcallp hB0 (ct_Works_isGone_bce90 (fBz h0 hB0) (by omega)) ?_
    rintro _ ⟨z1, rfl, hz1⟩
    refine And.intro (by omega) (And.intro ?_ ?_)
    · intro c2
      refine And.intro (True.intro) ?_
      exact ⟨_, rfl, by omega⟩
    · intro c3
      refine Exists.intro xm_55 (And.intro mi_55 (And.intro ⟨rfl, rfl, rfl, rfl⟩ (And.intro rfl ?_)))
      refine fcallp hB0 (ct_Works_isDropped_e5842 (fBz h0 hB0) (by omega)) ?_
      rintro _ ⟨z4, rfl, hz4⟩
      refine And.intro (by omega) (And.intro ?_ ?_)
      · intro c5
        refine And.intro ⟨rfl, by decide, by decide⟩ ?_
        refine fload rL_678_678_0_23_1_0 h0 hB0 (by omega) ?_
        intro z6 lz6 uz6 qz6
        refine And.intro (True.intro) ?_
        exact ⟨_, rfl, by omega⟩
      · intro c7
        refine And.intro (True.intro) ?_
        exact ⟨_, rfl, by omega⟩
abbrev jc_Cells_gases_f9efb_4 : Nat → fL → List fV → fH → Prop := fun m lv st I => ∃ (y1 : Int) (y2 : Int), lv = [(0, .inr (.inr (some 514))), (1, .inl y1), (2, .inl y2)] ∧ st = [] ∧ ((((-2147483648) ≤ y1 ∧ y1 ≤ 2147483647) ∧ (0 ≤ y2 ∧ y2 ≤ 20))) ∧ m = (6 + 6 * (20 - y2) : Int).toNat
abbrev jc_Cells_gases_f9efb_14 : Nat → fL → List fV → fH → Prop := fun m lv st I => ∃ (y1 : Int) (y2 : Int) (y3 : Int), lv = [(0, .inr (.inr (some 514))), (1, .inl y1), (2, .inl y2), (3, .inl y3)] ∧ st = [] ∧ ((((-2147483648) ≤ y1 ∧ y1 ≤ 2147483647) ∧ (0 ≤ y2 ∧ y2 ≤ 19) ∧ (0 ≤ y3 ∧ y3 ≤ 4) ∧ (1 ≤ I 514 5 ∧ I 514 5 ≤ 20))) ∧ m = (1 + 6 * (20 - y2) + 1 * (4 - y3) : Int).toNat
set_option maxRecDepth 8000 in
theorem ct_Cells_gases_f9efb {I : fH}  (h0 : fB bsJ I)  : fC ρ base n F xTc vwCl xTys D dA la gJ (fbz bsJ znJ (fKc []) I) xm_66 [.inr (.inr (some 514))] I (fun _ r => ∃ z, r = some (.inl z) ∧ ((-2147483648) ≤ z ∧ z ≤ 2147483647)) := by
  have hW : fzs [] (fKc []) := fKc_ok _
  refine f_meth (rb := rbJ) (J := [(4, jc_Cells_gases_f9efb_4), (14, jc_Cells_gases_f9efb_14)]) 127 400 xG xin_66 x6_66 okJ (fB_self h0) ?_ ?_
  · refine List.forall_mem_cons.mpr ⟨?_, List.forall_mem_cons.mpr ⟨?_, fun q h => absurd h List.not_mem_nil⟩⟩
    · rintro m _ _ I1 hB1 ⟨y1, y2, rfl, rfl, hb, hm⟩
      refine And.intro ⟨rfl, by decide, by decide⟩ (fgetf fb_514_5 h0 hB1 ?_)
      intro z1 lz1 uz1 qz1
      refine And.intro (by omega) (And.intro ?_ ?_)
      · intro c2
        refine And.intro (True.intro) ?_
        exact ⟨_, rfl, by omega⟩
      · intro c3
        exact fcutJ (I := I1) (j := jc_Cells_gases_f9efb_14) (lv' := [(0, .inr (.inr (some 514))), (1, .inl _), (2, .inl _), (3, .inl _)]) (And.intro rfl (And.intro rfl (And.intro rfl (And.intro rfl True.intro)))) ⟨_, _, _, rfl, rfl, by omega, rfl⟩ (by omega)
    · rintro m _ _ I1 hB1 ⟨y1, y2, y3, rfl, rfl, hb, hm⟩
      refine And.intro (by omega) (And.intro ?_ ?_)
      · intro c4
        exact fcutJ (I := I1) (j := jc_Cells_gases_f9efb_4) (lv' := [(0, .inr (.inr (some 514))), (1, .inl _), (2, .inl _)]) (And.intro rfl (And.intro rfl (And.intro rfl True.intro))) ⟨_, _, rfl, rfl, by omega, rfl⟩ (by omega)
      · intro c5
        refine And.intro ⟨rfl, by decide, by decide⟩ ?_
        refine And.intro ⟨rfl, by decide⟩ (And.intro (by omega) ?_)
        refine fload rL_518_537_0_4_1_0 h0 hB1 (by omega) ?_
        intro z6 lz6 uz6 qz6
        intro z7 hz7 ez7 bz7
        clear ez7
        clear bz7
        exact fcutJ (I := I1) (j := jc_Cells_gases_f9efb_14) (lv' := [(0, .inr (.inr (some 514))), (1, .inl _), (2, .inl _), (3, .inl _)]) (And.intro rfl (And.intro rfl (And.intro rfl (And.intro rfl True.intro)))) ⟨_, _, _, rfl, rfl, by omega, rfl⟩ (by omega)
  · have hB0 := fB_self (zn := znJ) (K := fKc []) h0
    exact fcutJ (I := I) (j := jc_Cells_gases_f9efb_4) (lv' := [(0, .inr (.inr (some 514))), (1, .inl _), (2, .inl _)]) (And.intro rfl (And.intro rfl (And.intro rfl True.intro))) ⟨_, _, rfl, rfl, by omega, rfl⟩ (by omega)
abbrev jc_City_weight_9bc16_10 : Nat → fL → List fV → fH → Prop := fun m lv st I => ∃ (y1 : Int) (y2 : Int), lv = [(0, .inr (.inr (some 513))), (1, .inl y1), (2, .inl y2)] ∧ st = [] ∧ ((((-2147483648) ≤ y1 ∧ y1 ≤ 2147483647) ∧ (0 ≤ y2 ∧ y2 ≤ 5))) ∧ m = (26 + 1 * (5 - y2) : Int).toNat
abbrev jc_City_weight_9bc16_48 : Nat → fL → List fV → fH → Prop := fun m lv st I => ∃ (y2 : Int) (y3 : Int), lv = [(0, .inr (.inr (some 513))), (2, .inl y2), (3, .inl y3)] ∧ st = [] ∧ ((((-2147483648) ≤ y2 ∧ y2 ≤ 2147483647) ∧ (0 ≤ y3 ∧ y3 ≤ 24))) ∧ m = (1 + 1 * (24 - y3) : Int).toNat
set_option maxRecDepth 8000 in
theorem ct_City_weight_9bc16 {I : fH}  (h0 : fB bsJ I)  : fC ρ base n F xTc vwCl xTys D dA la gJ (fbz bsJ znJ (fKc []) I) xm_65 [.inr (.inr (some 513))] I (fun _ r => ∃ z, r = some (.inl z) ∧ ((-2147483648) ≤ z ∧ z ≤ 2147483647)) := by
  have hW : fzs [] (fKc []) := fKc_ok _
  refine f_meth (rb := rbJ) (J := [(10, jc_City_weight_9bc16_10), (48, jc_City_weight_9bc16_48)]) 32 400 xG xin_65 x6_65 okJ (fB_self h0) ?_ ?_
  · refine List.forall_mem_cons.mpr ⟨?_, List.forall_mem_cons.mpr ⟨?_, fun q h => absurd h List.not_mem_nil⟩⟩
    · rintro m _ _ I1 hB1 ⟨y1, y2, rfl, rfl, hb, hm⟩
      refine And.intro (by omega) (And.intro ?_ ?_)
      · intro c1
        refine And.intro ⟨rfl, by decide, by decide⟩ ?_
        refine Exists.intro xm_67 (And.intro mi_67 (And.intro ⟨rfl, rfl, rfl, rfl⟩ (And.intro rfl ?_)))
        refine fcallp hB1 (ct_People_living_f14dc (fBz h0 hB1)) ?_
        rintro _ ⟨z2, rfl, hz2⟩
        intro z3 hz3 ez3 bz3
        clear ez3
        clear bz3
        refine And.intro (And.intro (by omega) (And.intro (by omega) (And.intro (by omega) rfl))) ?_
        intro z4 hz4 ez4 dz4
        intro z5 hz5 ez5 bz5
        clear ez5
        clear bz5
        exact fcutJ (I := I1) (j := jc_City_weight_9bc16_48) (lv' := [(0, .inr (.inr (some 513))), (2, .inl _), (3, .inl _)]) (And.intro rfl (And.intro rfl (And.intro rfl True.intro))) ⟨_, _, rfl, rfl, by omega, rfl⟩ (by omega)
      · intro c6
        refine And.intro ⟨rfl, by decide, by decide⟩ ?_
        refine fload rL_694_694_0_5_1_0 h0 hB1 (by omega) ?_
        intro z7 lz7 uz7 qz7
        intro z8 hz8 ez8 bz8
        clear ez8
        clear bz8
        exact fcutJ (I := I1) (j := jc_City_weight_9bc16_10) (lv' := [(0, .inr (.inr (some 513))), (1, .inl _), (2, .inl _)]) (And.intro rfl (And.intro rfl (And.intro rfl True.intro))) ⟨_, _, rfl, rfl, by omega, rfl⟩ (by omega)
    · rintro m _ _ I1 hB1 ⟨y2, y3, rfl, rfl, hb, hm⟩
      refine And.intro ⟨rfl, by decide, by decide⟩ ?_
      refine And.intro ⟨rfl, by decide, by decide⟩ (fgetf fb_675_13 h0 hB1 ?_)
      intro z9 lz9 uz9 qz9
      refine And.intro (by omega) (And.intro ?_ ?_)
      · intro c10
        refine And.intro (True.intro) ?_
        exact ⟨_, rfl, by omega⟩
      · intro c11
        refine And.intro ⟨rfl, by decide, by decide⟩ ?_
        refine Exists.intro xm_68 (And.intro mi_68 (And.intro ⟨rfl, rfl, rfl, rfl⟩ (And.intro rfl ?_)))
        refine fcallp hB1 (ct_Works_weightOf_23190 (fBz h0 hB1) (by omega)) ?_
        rintro _ ⟨z12, rfl, hz12⟩
        intro z13 hz13 ez13 bz13
        clear ez13
        clear bz13
        exact fcutJ (I := I1) (j := jc_City_weight_9bc16_48) (lv' := [(0, .inr (.inr (some 513))), (2, .inl _), (3, .inl _)]) (And.intro rfl (And.intro rfl (And.intro rfl True.intro))) ⟨_, _, rfl, rfl, by omega, rfl⟩ (by omega)
  · have hB0 := fB_self (zn := znJ) (K := fKc []) h0
    refine And.intro ⟨rfl, by decide, by decide⟩ ?_
    refine Exists.intro xm_66 (And.intro mi_66 (And.intro ⟨rfl, rfl, rfl, rfl⟩ (And.intro rfl ?_)))
    refine fcallp hB0 (ct_Cells_gases_f9efb (fBz h0 hB0)) ?_
    rintro _ ⟨z14, rfl, hz14⟩
    exact fcutJ (I := I) (j := jc_City_weight_9bc16_10) (lv' := [(0, .inr (.inr (some 513))), (1, .inl _), (2, .inl _)]) (And.intro rfl (And.intro rfl (And.intro rfl True.intro))) ⟨_, _, rfl, rfl, by omega, rfl⟩ (by omega)
set_option maxRecDepth 8000 in
theorem ct_City_rise_ae6a0 {I : fH}  (h0 : fB bsJ I)  : fC ρ base n F xTc vwCl xTys D dA la gJ (fbz bsJ znJ (fKc wz_007ef) I) xm_94 [.inr (.inr (some 513))] I (fun _ r => r = none) := by
  have hW : fzs wz_007ef (fKc wz_007ef) := fKc_ok _
  refine f_meth (rb := rbJ) (J := []) 1 400 xG xin_94 x6_94 okJ (fB_self h0) ?_ ?_
  · exact fun q h => absurd h List.not_mem_nil
  · have hB0 := fB_self (zn := znJ) (K := fKc wz_007ef) h0
    refine Exists.intro xm_62 (And.intro mi_62 (And.intro ⟨rfl, rfl, rfl, rfl⟩ (And.intro rfl ?_)))
    refine fcallp hB0 (ct_City_lift_1f18c (fBz h0 hB0)) ?_
    rintro _ ⟨z1, rfl, hz1⟩
    refine Exists.intro xm_65 (And.intro mi_65 (And.intro ⟨rfl, rfl, rfl, rfl⟩ (And.intro rfl ?_)))
    refine fcallp hB0 (ct_City_weight_9bc16 (fBz h0 hB0)) ?_
    rintro _ ⟨z2, rfl, hz2⟩
    intro z3 hz3 ez3 bz3
    clear ez3
    try replace bz3 := bz3 (by omega)
    refine And.intro (And.intro (by omega) (And.intro (by omega) (And.intro (by omega) rfl))) ?_
    intro z4 hz4 ez4 dz4
    refine And.intro (And.intro (by omega) (And.intro (by omega) rfl)) ?_
    intro z5 hz5
    refine And.intro (And.intro (by omega) (And.intro (by omega) rfl)) ?_
    intro z6 hz6
    refine And.intro ⟨rfl, by decide, by decide⟩ (fgetf fb_513_5 h0 hB0 ?_)
    intro z7 lz7 uz7 qz7
    refine And.intro (And.intro (by omega) (And.intro (by omega) rfl)) ?_
    intro z8 hz8
    refine And.intro (And.intro (by omega) (And.intro (by omega) rfl)) ?_
    intro z9 hz9
    refine And.intro ⟨rfl, by decide, by decide⟩ (And.intro rfl (And.intro (Or.inl rfl) (fputf fb_513_5 (by decide +kernel) hW (by omega) ?_)))
    intro IhB10 ehB10 hB10
    have t11 := fup_at ehB10 5 (by omega)
    exact rfl
set_option maxRecDepth 8000 in
theorem ct_City_loseGas_9b857 {I : fH} {x1 : Int} {x2 : Int} (h0 : fB bsJ I) (ha1 : (0 ≤ x1 ∧ x1 ≤ 23)) (ha2 : ((-2147483648) ≤ x2 ∧ x2 ≤ 2147483647)) : fC ρ base n F xTc vwCl xTys D dA la gJ (fbz bsJ znJ (fKc wz_59734) I) xm_81 [.inr (.inr (some 513)), .inl x1, .inl x2] I (fun _ r => r = none) := by
  have hW : fzs wz_59734 (fKc wz_59734) := fKc_ok _
  refine f_meth (rb := rbJ) (J := []) 1 400 xG xin_81 x6_81 okJ (fB_self h0) ?_ ?_
  · exact fun q h => absurd h List.not_mem_nil
  · have hB0 := fB_self (zn := znJ) (K := fKc wz_59734) h0
    refine And.intro ⟨rfl, by decide, by decide⟩ ?_
    refine And.intro ⟨rfl, by decide, by decide⟩ ?_
    refine fload rL_684_684_0_23_1_0 h0 hB0 (by omega) ?_
    intro z1 lz1 uz1 qz1
    intro z2 hz2 ez2 bz2
    clear ez2
    clear bz2
    refine fstore rS_684_684_0_23_1_0 (fzs_sub (by decide +kernel) hW) (by omega) (by omega) ?_
    intro IhB3 ehB3 hB3
    have t4 := fup_self ehB3
    refine And.intro ⟨rfl, by decide, by decide⟩ ?_
    refine And.intro ⟨rfl, by decide, by decide⟩ ?_
    refine And.intro ⟨rfl, by decide, by decide⟩ ?_
    refine And.intro ⟨rfl, by decide, by decide⟩ ?_
    refine fload rL_677_677_0_23_1_0 h0 hB3 (by omega) ?_
    intro z5 lz5 uz5 qz5
    refine And.intro ⟨rfl, by decide⟩ (And.intro (by omega) ?_)
    refine fload rL_539_558_0_4_1_0 h0 hB3 (by omega) ?_
    intro z6 lz6 uz6 qz6
    intro z7 hz7 ez7 bz7
    clear ez7
    clear bz7
    refine fstore rS_539_558_0_4_1_0 (fzs_sub (by decide +kernel) hW) (by omega) (by omega) ?_
    intro IhB8 ehB8 hB8
    have t9 := fup_self ehB8
    exact rfl
abbrev jc_Works_isPatched_0f28c_2 : Nat → fL → List fV → fH → Prop := fun m lv st I => ∃ (y1 : Int) (y2 : Int), lv = [(0, .inr (.inr (some 675))), (1, .inl y1), (2, .inl y2)] ∧ st = [] ∧ (((0 ≤ y1 ∧ y1 ≤ 23) ∧ (0 ≤ y2 ∧ y2 ≤ 24))) ∧ m = (1 + 1 * (24 - y2) : Int).toNat
set_option maxRecDepth 8000 in
theorem ct_Works_isPatched_0f28c {I : fH} {x1 : Int} (h0 : fB bsJ I) (ha1 : (0 ≤ x1 ∧ x1 ≤ 23)) : fC ρ base n F xTc vwCl xTys D dA la gJ (fbz bsJ znJ (fKc []) I) xm_79 [.inr (.inr (some 675)), .inl x1] I (fun _ r => ∃ z, r = some (.inl z) ∧ (0 ≤ z ∧ z ≤ 1)) := by
  have hW : fzs [] (fKc []) := fKc_ok _
  refine f_meth (rb := rbJ) (J := [(2, jc_Works_isPatched_0f28c_2)]) 26 400 xG xin_79 x6_79 okJ (fB_self h0) ?_ ?_
  · refine List.forall_mem_cons.mpr ⟨?_, fun q h => absurd h List.not_mem_nil⟩
    · rintro m _ _ I1 hB1 ⟨y1, y2, rfl, rfl, hb, hm⟩
      refine And.intro ⟨rfl, by decide, by decide⟩ (fgetf fb_675_13 h0 hB1 ?_)
      intro z1 lz1 uz1 qz1
      refine And.intro (by omega) (And.intro ?_ ?_)
      · intro c2
        refine And.intro (⟨by omega, by omega⟩) ?_
        exact ⟨_, rfl, by omega⟩
      · intro c3
        refine And.intro ⟨rfl, by decide, by decide⟩ ?_
        refine fload rL_676_676_0_23_1_0 h0 hB1 (by omega) ?_
        intro z4 lz4 uz4 qz4
        refine And.intro (by omega) (And.intro ?_ ?_)
        · intro c5
          exact fcutJ (I := I1) (j := jc_Works_isPatched_0f28c_2) (lv' := [(0, .inr (.inr (some 675))), (1, .inl _), (2, .inl _)]) (And.intro rfl (And.intro rfl (And.intro rfl True.intro))) ⟨_, _, rfl, rfl, by omega, rfl⟩ (by omega)
        · intro c6
          refine And.intro ⟨rfl, by decide, by decide⟩ ?_
          refine fload rL_683_683_0_23_1_0 h0 hB1 (by omega) ?_
          intro z7 lz7 uz7 qz7
          refine And.intro (by omega) (And.intro ?_ ?_)
          · intro c8
            exact fcutJ (I := I1) (j := jc_Works_isPatched_0f28c_2) (lv' := [(0, .inr (.inr (some 675))), (1, .inl _), (2, .inl _)]) (And.intro rfl (And.intro rfl (And.intro rfl True.intro))) ⟨_, _, rfl, rfl, by omega, rfl⟩ (by omega)
          · intro c9
            refine And.intro ⟨rfl, by decide, by decide⟩ ?_
            refine fload rL_679_679_0_23_1_0 h0 hB1 (by omega) ?_
            intro z10 lz10 uz10 qz10
            refine And.intro (by omega) (And.intro ?_ ?_)
            · intro c11
              exact fcutJ (I := I1) (j := jc_Works_isPatched_0f28c_2) (lv' := [(0, .inr (.inr (some 675))), (1, .inl _), (2, .inl _)]) (And.intro rfl (And.intro rfl (And.intro rfl True.intro))) ⟨_, _, rfl, rfl, by omega, rfl⟩ (by omega)
            · intro c12
              refine And.intro ⟨rfl, by decide, by decide⟩ ?_
              refine fload rL_686_686_0_23_1_0 h0 hB1 (by omega) ?_
              intro z13 lz13 uz13 qz13
              refine And.intro (by omega) (And.intro ?_ ?_)
              · intro c14
                exact fcutJ (I := I1) (j := jc_Works_isPatched_0f28c_2) (lv' := [(0, .inr (.inr (some 675))), (1, .inl _), (2, .inl _)]) (And.intro rfl (And.intro rfl (And.intro rfl True.intro))) ⟨_, _, rfl, rfl, by omega, rfl⟩ (by omega)
              · intro c15
                refine And.intro (⟨by omega, by omega⟩) ?_
                exact ⟨_, rfl, by omega⟩
  · have hB0 := fB_self (zn := znJ) (K := fKc []) h0
    exact fcutJ (I := I) (j := jc_Works_isPatched_0f28c_2) (lv' := [(0, .inr (.inr (some 675))), (1, .inl _), (2, .inl _)]) (And.intro rfl (And.intro rfl (And.intro rfl True.intro))) ⟨_, _, rfl, rfl, by omega, rfl⟩ (by omega)
set_option maxRecDepth 8000 in
theorem ct_Works_wear_b8097 {I : fH} {x1 : Int} {x2 : Int} (h0 : fB bsJ I) (ha1 : (0 ≤ x1 ∧ x1 ≤ 23)) (ha2 : ((-2147483648) ≤ x2 ∧ x2 ≤ 2147483647)) : fC ρ base n F xTc vwCl xTys D dA la gJ (fbz bsJ znJ (fKc wz_e4d0d) I) xm_80 [.inr (.inr (some 675)), .inl x1, .inl x2] I (fun _ r => r = none) := by
  have hW : fzs wz_e4d0d (fKc wz_e4d0d) := fKc_ok _
  refine f_meth (rb := rbJ) (J := []) 1 400 xG xin_80 x6_80 okJ (fB_self h0) ?_ ?_
  · exact fun q h => absurd h List.not_mem_nil
  · have hB0 := fB_self (zn := znJ) (K := fKc wz_e4d0d) h0
    refine And.intro ⟨rfl, by decide, by decide⟩ ?_
    refine fload rL_685_685_0_23_1_0 h0 hB0 (by omega) ?_
    intro z1 lz1 uz1 qz1
    intro z2 hz2 ez2 bz2
    clear ez2
    try replace bz2 := bz2 (by omega)
    refine And.intro (And.intro (by omega) (And.intro (by omega) (And.intro (by omega) rfl))) ?_
    intro z3 hz3 ez3 dz3
    refine And.intro ⟨rfl, by decide, by decide⟩ ?_
    refine fload rL_683_683_0_23_1_0 h0 hB0 (by omega) ?_
    intro z4 lz4 uz4 qz4
    refine And.intro (And.intro (by omega) (And.intro (by omega) rfl)) ?_
    intro z5 hz5
    refine And.intro ⟨rfl, by decide, by decide⟩ ?_
    refine fload rL_683_683_0_23_1_0 h0 hB0 (by omega) ?_
    intro z6 lz6 uz6 qz6
    intro z7 hz7 ez7 bz7
    clear ez7
    try replace bz7 := bz7 (by omega)
    refine fstore rS_683_683_0_23_1_0 (fzs_sub (by decide +kernel) hW) (by omega) (by omega) ?_
    intro IhB8 ehB8 hB8
    have t9 := fup_self ehB8
    intro z10 hz10 ez10 bz10
    clear ez10
    try replace bz10 := bz10 (by omega)
    intro z11 hz11 ez11 bz11
    clear ez11
    try replace bz11 := bz11 (by omega)
    refine And.intro ⟨rfl, by decide, by decide⟩ ?_
    refine And.intro (And.intro (by omega) (And.intro (by omega) rfl)) ?_
    intro z12 hz12
    refine fstore rS_685_685_0_23_1_0 (fzs_sub (by decide +kernel) hW) (by omega) (by omega) ?_
    intro IhB13 ehB13 hB13
    have t14 := fup_self ehB13
    exact rfl
set_option maxRecDepth 8000 in
theorem ct_City_runSkin_4289c {I : fH} {x1 : Int} (h0 : fB bsJ I) (ha1 : (0 ≤ x1 ∧ x1 ≤ 23)) : fC ρ base n F xTc vwCl xTys D dA la gJ (fbz bsJ znJ (fKc wz_a2d33) I) xm_78 [.inr (.inr (some 513)), .inl x1] I (fun _ r => r = none) := by
  have hW : fzs wz_a2d33 (fKc wz_a2d33) := fKc_ok _
  refine f_meth (rb := rbJ) (J := []) 1 400 xG xin_78 x6_78 okJ (fB_self h0) ?_ ?_
  · exact fun q h => absurd h List.not_mem_nil
  · have hB0 := fB_self (zn := znJ) (K := fKc wz_a2d33) h0
    refine And.intro ⟨rfl, by decide, by decide⟩ ?_
    refine Exists.intro xm_79 (And.intro mi_79 (And.intro ⟨rfl, rfl, rfl, rfl⟩ (And.intro rfl ?_)))
    refine fcallp hB0 (ct_Works_isPatched_0f28c (fBz h0 hB0) (by omega)) ?_
    rintro _ ⟨z1, rfl, hz1⟩
    refine And.intro (by omega) (And.intro ?_ ?_)
    · intro c2
      refine And.intro ⟨rfl, by decide, by decide⟩ ?_
      refine And.intro ⟨rfl, by decide, by decide⟩ ?_
      refine And.intro ⟨rfl, by decide⟩ (And.intro (by omega) ?_)
      refine Exists.intro xm_31 (And.intro mi_31 (And.intro ⟨rfl, rfl, rfl, rfl⟩ (And.intro rfl ?_)))
      refine fcallp hB0 (ct_City_level_cee1f (fBz h0 hB0)) ?_
      rintro _ ⟨z3, rfl, hz3⟩
      refine fload rL_698_698_0_60_1_0 h0 hB0 (by omega) ?_
      intro z4 lz4 uz4 qz4
      refine And.intro (And.intro (by omega) (And.intro (by omega) (And.intro (by omega) rfl))) ?_
      intro z5 hz5 ez5 dz5
      refine Exists.intro xm_80 (And.intro mi_80 (And.intro ⟨rfl, rfl, rfl, rfl⟩ (And.intro rfl ?_)))
      refine fcall _ h0 (fzs_sub (by decide +kernel) hW) hB0 (ct_Works_wear_b8097 (fBz h0 hB0) (by omega) (by omega)) ?_
      rintro IhB7 _ hB7 fhB7 rfl
      refine And.intro ⟨rfl, by decide, by decide⟩ ?_
      refine And.intro ⟨rfl, by decide, by decide⟩ ?_
      refine fload rL_683_683_0_23_1_0 h0 hB7 (by omega) ?_
      intro z8 lz8 uz8 qz8
      refine And.intro (by omega) (And.intro ?_ ?_)
      · intro c9
        exact rfl
      · intro c10
        refine And.intro ⟨rfl, by decide, by decide⟩ ?_
        refine And.intro ⟨rfl, by decide, by decide⟩ ?_
        refine fload rL_684_684_0_23_1_0 h0 hB7 (by omega) ?_
        intro z11 lz11 uz11 qz11
        refine And.intro (And.intro (by omega) (And.intro (by omega) (And.intro (by omega) rfl))) ?_
        intro z12 hz12 ez12 dz12
        intro z13 hz13 ez13 bz13
        clear ez13
        clear bz13
        refine And.intro (And.intro (by omega) (And.intro (by omega) rfl)) ?_
        intro z14 hz14
        refine Exists.intro xm_81 (And.intro mi_81 (And.intro ⟨rfl, rfl, rfl, rfl⟩ (And.intro rfl ?_)))
        refine fcall _ h0 (fzs_sub (by decide +kernel) hW) hB7 (ct_City_loseGas_9b857 (fBz h0 hB7) (by omega) (by omega)) ?_
        rintro IhB16 _ hB16 fhB16 rfl
        exact rfl
    · intro c17
      exact rfl
set_option maxRecDepth 8000 in
theorem ct_Works_partForFoul_82e3d {I : fH} {x1 : Int} (h0 : fB bsJ I) (ha1 : (0 ≤ x1 ∧ x1 ≤ 23)) : fC ρ base n F xTc vwCl xTys D dA la gJ (fbz bsJ znJ (fKc []) I) xm_83 [.inr (.inr (some 675)), .inl x1] I (fun _ r => ∃ z, r = some (.inl z) ∧ ((-2147483648) ≤ z ∧ z ≤ 2147483647)) := by
  have hW : fzs [] (fKc []) := fKc_ok _
  refine f_meth (rb := rbJ) (J := []) 1 400 xG xin_83 x6_83 okJ (fB_self h0) ?_ ?_
  · exact fun q h => absurd h List.not_mem_nil
  · have hB0 := fB_self (zn := znJ) (K := fKc []) h0
    refine And.intro ⟨rfl, by decide, by decide⟩ ?_
    refine fload rL_683_683_0_23_1_0 h0 hB0 (by omega) ?_
    intro z1 lz1 uz1 qz1
    refine And.intro ⟨rfl, by decide, by decide⟩ ?_
    refine fload rL_680_680_0_23_1_0 h0 hB0 (by omega) ?_
    intro z2 lz2 uz2 qz2
    intro z3 hz3 ez3 bz3
    clear ez3
    clear bz3
    intro z4 hz4 ez4 bz4
    clear ez4
    clear bz4
    refine And.intro (And.intro (by omega) (And.intro (by omega) (And.intro (by omega) rfl))) ?_
    intro z5 hz5 ez5 dz5
    refine And.intro (True.intro) ?_
    exact ⟨_, rfl, by omega⟩
set_option maxRecDepth 8000 in
theorem ct_City_isDayAt_d574d {I : fH} {x1 : Int} (h0 : fB bsJ I) (ha1 : ((-2147483648) ≤ x1 ∧ x1 ≤ 2147483647)) : fC ρ base n F xTc vwCl xTys D dA la gJ (fbz bsJ znJ (fKc []) I) xm_70 [.inr (.inr (some 513)), .inl x1] I (fun _ r => ∃ z, r = some (.inl z) ∧ (0 ≤ z ∧ z ≤ 1)) := by
  have hW : fzs [] (fKc []) := fKc_ok _
  refine f_meth (rb := rbJ) (J := []) 1 400 xG xin_70 x6_70 okJ (fB_self h0) ?_ ?_
  · exact fun q h => absurd h List.not_mem_nil
  · have hB0 := fB_self (zn := znJ) (K := fKc []) h0
    refine And.intro ⟨rfl, by decide, by decide⟩ (fgetf fb_513_7 h0 hB0 ?_)
    intro z1 lz1 uz1 qz1
    refine And.intro (by omega) (And.intro ?_ ?_)
    · intro c2
      refine And.intro (⟨by omega, by omega⟩) ?_
      exact ⟨_, rfl, by omega⟩
    · intro c3
      refine And.intro ⟨rfl, by decide, by decide⟩ (fgetf fb_513_7 h0 hB0 ?_)
      intro z4 lz4 uz4 qz4
      refine And.intro (And.intro (by omega) (And.intro (by omega) (And.intro (by omega) rfl))) ?_
      intro z5 hz5 ez5 dz5
      refine And.intro ⟨rfl, by decide, by decide⟩ (fgetf fb_513_7 h0 hB0 ?_)
      intro z6 lz6 uz6 qz6
      refine And.intro (And.intro (by omega) (And.intro (by omega) (And.intro (by omega) rfl))) ?_
      intro z7 hz7 ez7 dz7
      have dz7 := dz7 (by omega) (by omega)
      change _ = _ / _ at dz7
      refine And.intro (by omega) (And.intro ?_ ?_)
      · intro c8
        refine And.intro (⟨by omega, by omega⟩) ?_
        exact ⟨_, rfl, by omega⟩
      · intro c9
        refine And.intro (⟨by omega, by omega⟩) ?_
        exact ⟨_, rfl, by omega⟩
set_option maxRecDepth 8000 in
theorem ct_City_isDay_d6f98 {I : fH}  (h0 : fB bsJ I)  : fC ρ base n F xTc vwCl xTys D dA la gJ (fbz bsJ znJ (fKc []) I) xm_69 [.inr (.inr (some 513))] I (fun _ r => ∃ z, r = some (.inl z) ∧ (0 ≤ z ∧ z ≤ 1)) := by
  have hW : fzs [] (fKc []) := fKc_ok _
  refine f_meth (rb := rbJ) (J := []) 1 400 xG xin_69 x6_69 okJ (fB_self h0) ?_ ?_
  · exact fun q h => absurd h List.not_mem_nil
  · have hB0 := fB_self (zn := znJ) (K := fKc []) h0
    refine And.intro ⟨rfl, by decide, by decide⟩ (fgetf fb_513_6 h0 hB0 ?_)
    intro z1 lz1 uz1 qz1
    refine Exists.intro xm_70 (And.intro mi_70 (And.intro ⟨rfl, rfl, rfl, rfl⟩ (And.intro rfl ?_)))
    refine fcallp hB0 (ct_City_isDayAt_d574d (fBz h0 hB0) (by omega)) ?_
    rintro _ ⟨z2, rfl, hz2⟩
    refine And.intro (⟨by omega, by omega⟩) ?_
    exact ⟨_, rfl, by omega⟩
set_option maxRecDepth 8000 in
theorem ct_City_runGarden_2acfe {I : fH} {x1 : Int} (h0 : fB bsJ I) (ha1 : (0 ≤ x1 ∧ x1 ≤ 23)) : fC ρ base n F xTc vwCl xTys D dA la gJ (fbz bsJ znJ (fKc wz_7eac0) I) xm_82 [.inr (.inr (some 513)), .inl x1] I (fun _ r => r = none) := by
  have hW : fzs wz_7eac0 (fKc wz_7eac0) := fKc_ok _
  refine f_meth (rb := rbJ) (J := []) 1 400 xG xin_82 x6_82 okJ (fB_self h0) ?_ ?_
  · exact fun q h => absurd h List.not_mem_nil
  · have hB0 := fB_self (zn := znJ) (K := fKc wz_7eac0) h0
    refine Exists.intro xm_69 (And.intro mi_69 (And.intro ⟨rfl, rfl, rfl, rfl⟩ (And.intro rfl ?_)))
    refine fcallp hB0 (ct_City_isDay_d6f98 (fBz h0 hB0)) ?_
    rintro _ ⟨z1, rfl, hz1⟩
    refine And.intro (by omega) (And.intro ?_ ?_)
    · intro c2
      refine And.intro ⟨rfl, by decide, by decide⟩ ?_
      refine And.intro ⟨rfl, by decide, by decide⟩ ?_
      refine fload rL_677_677_0_23_1_0 h0 hB0 (by omega) ?_
      intro z3 lz3 uz3 qz3
      refine And.intro ⟨rfl, by decide, by decide⟩ ?_
      refine Exists.intro xm_83 (And.intro mi_83 (And.intro ⟨rfl, rfl, rfl, rfl⟩ (And.intro rfl ?_)))
      refine fcallp hB0 (ct_Works_partForFoul_82e3d (fBz h0 hB0) (by omega)) ?_
      rintro _ ⟨z4, rfl, hz4⟩
      refine And.intro ⟨rfl, by decide, by decide⟩ ?_
      refine And.intro ⟨rfl, by decide, by decide⟩ ?_
      refine And.intro ⟨rfl, by decide⟩ (And.intro (by omega) ?_)
      refine fload rL_518_537_0_4_1_0 h0 hB0 (by omega) ?_
      intro z5 lz5 uz5 qz5
      refine And.intro (And.intro (by omega) (And.intro (by omega) rfl)) ?_
      intro z6 hz6
      refine And.intro ⟨rfl, by decide, by decide⟩ ?_
      refine And.intro ⟨rfl, by decide, by decide⟩ ?_
      refine And.intro ⟨rfl, by decide⟩ (And.intro (by omega) ?_)
      refine fload rL_518_537_0_4_1_0 h0 hB0 (by omega) ?_
      intro z7 lz7 uz7 qz7
      intro z8 hz8 ez8 bz8
      clear ez8
      clear bz8
      refine fstore rS_518_537_0_4_1_0 (fzs_sub (by decide +kernel) hW) (by omega) (by omega) ?_
      intro IhB9 ehB9 hB9
      have t10 := fup_self ehB9
      refine And.intro ⟨rfl, by decide, by decide⟩ ?_
      refine Exists.intro xm_84 (And.intro mi_84 (And.intro ⟨rfl, rfl, rfl, rfl⟩ (And.intro rfl ?_)))
      refine fcall _ h0 (fzs_sub (by decide +kernel) hW) hB9 (ct_Cells_addAir_f5ee0 (fBz h0 hB9) (by omega) (by omega) (by omega)) ?_
      rintro IhB12 _ hB12 fhB12 rfl
      exact rfl
    · intro c13
      exact rfl
set_option maxRecDepth 8000 in
theorem ct_City_runProbe_75b59 {I : fH} {x1 : Int} (h0 : fB bsJ I) (ha1 : (0 ≤ x1 ∧ x1 ≤ 23)) : fC ρ base n F xTc vwCl xTys D dA la gJ (fbz bsJ znJ (fKc wz_8d85d) I) xm_87 [.inr (.inr (some 513)), .inl x1] I (fun _ r => r = none) := by
  have hW : fzs wz_8d85d (fKc wz_8d85d) := fKc_ok _
  refine f_meth (rb := rbJ) (J := []) 1 400 xG xin_87 x6_87 okJ (fB_self h0) ?_ ?_
  · exact fun q h => absurd h List.not_mem_nil
  · have hB0 := fB_self (zn := znJ) (K := fKc wz_8d85d) h0
    refine And.intro ⟨rfl, by decide, by decide⟩ ?_
    refine Exists.intro xm_55 (And.intro mi_55 (And.intro ⟨rfl, rfl, rfl, rfl⟩ (And.intro rfl ?_)))
    refine fcallp hB0 (ct_Works_isDropped_e5842 (fBz h0 hB0) (by omega)) ?_
    rintro _ ⟨z1, rfl, hz1⟩
    refine And.intro (by omega) (And.intro ?_ ?_)
    · intro c2
      exact rfl
    · intro c3
      refine And.intro ⟨rfl, by decide, by decide⟩ ?_
      refine And.intro ⟨rfl, by decide, by decide⟩ ?_
      refine And.intro ⟨rfl, by decide, by decide⟩ ?_
      refine And.intro ⟨rfl, by decide, by decide⟩ ?_
      refine fload rL_687_687_0_23_1_0 h0 hB0 (by omega) ?_
      intro z4 lz4 uz4 qz4
      refine And.intro (And.intro (by omega) (And.intro (by omega) rfl)) ?_
      intro z5 hz5
      refine fstore rS_687_687_0_23_1_0 (fzs_sub (by decide +kernel) hW) (by omega) (by omega) ?_
      intro IhB6 ehB6 hB6
      have t7 := fup_self ehB6
      refine And.intro ⟨rfl, by decide, by decide⟩ ?_
      refine And.intro ⟨rfl, by decide, by decide⟩ ?_
      refine fload rL_688_688_0_23_1_0 h0 hB6 (by omega) ?_
      intro z8 lz8 uz8 qz8
      refine And.intro ⟨rfl, by decide, by decide⟩ ?_
      refine And.intro ⟨rfl, by decide⟩ (And.intro (by omega) ?_)
      refine And.intro ⟨rfl, by decide, by decide⟩ ?_
      refine And.intro ⟨rfl, by decide, by decide⟩ ?_
      refine fload rL_687_687_0_23_1_0 h0 hB6 (by omega) ?_
      intro z9 lz9 uz9 qz9
      refine fload rL_697_697_0_60_1_0 h0 hB6 (by omega) ?_
      intro z10 lz10 uz10 qz10
      intro z11 hz11 ez11 bz11
      clear ez11
      clear bz11
      refine fstore rS_688_688_0_23_1_0 (fzs_sub (by decide +kernel) hW) (by omega) (by omega) ?_
      intro IhB12 ehB12 hB12
      have t13 := fup_self ehB12
      refine And.intro ⟨rfl, by decide, by decide⟩ ?_
      refine And.intro ⟨rfl, by decide, by decide⟩ ?_
      refine And.intro ⟨rfl, by decide, by decide⟩ ?_
      refine And.intro ⟨rfl, by decide, by decide⟩ ?_
      refine fload rL_688_688_0_23_1_0 h0 hB12 (by omega) ?_
      intro z14 lz14 uz14 qz14
      refine And.intro ⟨rfl, by decide, by decide⟩ ?_
      refine And.intro ⟨rfl, by decide, by decide⟩ ?_
      refine fload rL_683_683_0_23_1_0 h0 hB12 (by omega) ?_
      intro z15 lz15 uz15 qz15
      refine And.intro (by omega) (And.intro ?_ ?_)
      · intro c16
        refine fstore rS_686_686_0_23_1_0 (fzs_sub (by decide +kernel) hW) (by omega) (by omega) ?_
        intro IhB17 ehB17 hB17
        have t18 := fup_self ehB17
        exact rfl
      · intro c19
        refine fstore rS_686_686_0_23_1_0 (fzs_sub (by decide +kernel) hW) (by omega) (by omega) ?_
        intro IhB20 ehB20 hB20
        have t21 := fup_self ehB20
        exact rfl
set_option maxRecDepth 8000 in
theorem ct_City_runRotor_872a2 {I : fH} {x1 : Int} (h0 : fB bsJ I) (ha1 : (0 ≤ x1 ∧ x1 ≤ 23)) : fC ρ base n F xTc vwCl xTys D dA la gJ (fbz bsJ znJ (fKc wz_a50d7) I) xm_86 [.inr (.inr (some 513)), .inl x1] I (fun _ r => r = none) := by
  have hW : fzs wz_a50d7 (fKc wz_a50d7) := fKc_ok _
  refine f_meth (rb := rbJ) (J := []) 1 400 xG xin_86 x6_86 okJ (fB_self h0) ?_ ?_
  · exact fun q h => absurd h List.not_mem_nil
  · have hB0 := fB_self (zn := znJ) (K := fKc wz_a50d7) h0
    refine And.intro ⟨rfl, by decide, by decide⟩ ?_
    refine fload rL_694_694_0_5_1_0 h0 hB0 (by omega) ?_
    intro z1 lz1 uz1 qz1
    have pz1 := fld_at qz1 5 (by omega)
    refine And.intro ⟨rfl, by decide, by decide⟩ ?_
    refine And.intro ⟨rfl, by decide, by decide⟩ ?_
    refine fload rL_683_683_0_23_1_0 h0 hB0 (by omega) ?_
    intro z2 lz2 uz2 qz2
    refine And.intro (by omega) (And.intro ?_ ?_)
    · intro c3
      exact rfl
    · intro c4
      refine And.intro ⟨rfl, by decide, by decide⟩ ?_
      refine fload rL_694_694_0_5_1_0 h0 hB0 (by omega) ?_
      intro z5 lz5 uz5 qz5
      have pz5 := fld_at qz5 5 (by omega)
      refine And.intro ⟨rfl, by decide, by decide⟩ ?_
      refine And.intro ⟨rfl, by decide, by decide⟩ ?_
      refine fload rL_683_683_0_23_1_0 h0 hB0 (by omega) ?_
      intro z6 lz6 uz6 qz6
      intro z7 hz7 ez7 bz7
      clear ez7
      clear bz7
      refine fstore rS_694_694_0_5_1_0 (fzs_sub (by decide +kernel) hW) (by omega) (by omega) ?_
      intro IhB8 ehB8 hB8
      have t9 := fup_self ehB8
      have t10 := fup_at ehB8 5 (by omega)
      refine And.intro ⟨rfl, by decide, by decide⟩ (fgetf fb_513_6 h0 hB8 ?_)
      intro z11 lz11 uz11 qz11
      intro z12 hz12 ez12 bz12
      clear ez12
      clear bz12
      refine And.intro ⟨rfl, by decide, by decide⟩ (And.intro rfl (And.intro (Or.inl rfl) (fputf fb_513_6 (by decide +kernel) hW (by omega) ?_)))
      intro IhB13 ehB13 hB13
      have t14 : IhB13 694 5 = IhB8 694 5 := (congrFun (congrFun ehB13 694) 5).trans (fup_ne (by omega))
      exact rfl
set_option maxRecDepth 8000 in
theorem ct_City_runStill_08bd2 {I : fH} {x1 : Int} (h0 : fB bsJ I) (ha1 : (0 ≤ x1 ∧ x1 ≤ 23)) : fC ρ base n F xTc vwCl xTys D dA la gJ (fbz bsJ znJ (fKc wz_7903c) I) xm_85 [.inr (.inr (some 513)), .inl x1] I (fun _ r => r = none) := by
  have hW : fzs wz_7903c (fKc wz_7903c) := fKc_ok _
  refine f_meth (rb := rbJ) (J := []) 1 400 xG xin_85 x6_85 okJ (fB_self h0) ?_ ?_
  · exact fun q h => absurd h List.not_mem_nil
  · have hB0 := fB_self (zn := znJ) (K := fKc wz_7903c) h0
    refine And.intro ⟨rfl, by decide, by decide⟩ ?_
    refine fload rL_694_694_0_5_1_0 h0 hB0 (by omega) ?_
    intro z1 lz1 uz1 qz1
    have pz1 := fld_at qz1 5 (by omega)
    refine And.intro (by omega) (And.intro ?_ ?_)
    · intro c2
      refine And.intro ⟨rfl, by decide, by decide⟩ ?_
      refine fload rL_694_694_0_5_1_0 h0 hB0 (by omega) ?_
      intro z3 lz3 uz3 qz3
      have pz3 := fld_at qz3 5 (by omega)
      refine fstore rS_694_694_0_5_1_0 (fzs_sub (by decide +kernel) hW) (by omega) (by omega) ?_
      intro IhB4 ehB4 hB4
      have t5 := fup_self ehB4
      have t6 := fup_at ehB4 5 (by omega)
      refine And.intro ⟨rfl, by decide, by decide⟩ ?_
      refine And.intro ⟨rfl, by decide, by decide⟩ ?_
      refine fload rL_677_677_0_23_1_0 h0 hB4 (by omega) ?_
      intro z7 lz7 uz7 qz7
      refine And.intro ⟨rfl, by decide, by decide⟩ ?_
      refine Exists.intro xm_83 (And.intro mi_83 (And.intro ⟨rfl, rfl, rfl, rfl⟩ (And.intro rfl ?_)))
      refine fcallp hB4 (ct_Works_partForFoul_82e3d (fBz h0 hB4) (by omega)) ?_
      rintro _ ⟨z8, rfl, hz8⟩
      refine And.intro ⟨rfl, by decide, by decide⟩ ?_
      refine And.intro ⟨rfl, by decide, by decide⟩ ?_
      refine And.intro ⟨rfl, by decide⟩ (And.intro (by omega) ?_)
      refine fload rL_518_537_0_4_1_0 h0 hB4 (by omega) ?_
      intro z9 lz9 uz9 qz9
      refine And.intro (And.intro (by omega) (And.intro (by omega) rfl)) ?_
      intro z10 hz10
      refine And.intro ⟨rfl, by decide, by decide⟩ ?_
      refine And.intro ⟨rfl, by decide, by decide⟩ ?_
      refine And.intro ⟨rfl, by decide⟩ (And.intro (by omega) ?_)
      refine fload rL_518_537_0_4_1_0 h0 hB4 (by omega) ?_
      intro z11 lz11 uz11 qz11
      intro z12 hz12 ez12 bz12
      clear ez12
      clear bz12
      refine fstore rS_518_537_0_4_1_0 (fzs_sub (by decide +kernel) hW) (by omega) (by omega) ?_
      intro IhB13 ehB13 hB13
      have t14 := fup_self ehB13
      have t15 : IhB13 694 5 = IhB4 694 5 := (congrFun (congrFun ehB13 694) 5).trans (fup_ne (by omega))
      refine And.intro ⟨rfl, by decide, by decide⟩ ?_
      refine And.intro (And.intro (by omega) (And.intro (by omega) (And.intro (by omega) rfl))) ?_
      intro z16 hz16 ez16 dz16
      refine Exists.intro xm_84 (And.intro mi_84 (And.intro ⟨rfl, rfl, rfl, rfl⟩ (And.intro rfl ?_)))
      refine fcall _ h0 (fzs_sub (by decide +kernel) hW) hB13 (ct_Cells_addAir_f5ee0 (fBz h0 hB13) (by omega) (by omega) (by omega)) ?_
      rintro IhB18 _ hB18 fhB18 rfl
      have t19 := fhB18 694 5 (by decide +kernel)
      refine And.intro ⟨rfl, by decide, by decide⟩ ?_
      refine And.intro (And.intro (by omega) (And.intro (by omega) (And.intro (by omega) rfl))) ?_
      intro z20 hz20 ez20 dz20
      intro z21 hz21 ez21 bz21
      clear ez21
      clear bz21
      refine Exists.intro xm_84 (And.intro mi_84 (And.intro ⟨rfl, rfl, rfl, rfl⟩ (And.intro rfl ?_)))
      refine fcall _ h0 (fzs_sub (by decide +kernel) hW) hB18 (ct_Cells_addAir_f5ee0 (fBz h0 hB18) (by omega) (by omega) (by omega)) ?_
      rintro IhB23 _ hB23 fhB23 rfl
      have t24 := fhB23 694 5 (by decide +kernel)
      exact rfl
    · intro c25
      exact rfl
set_option maxRecDepth 8000 in
theorem ct_City_runWork_0e434 {I : fH} {x1 : Int} (h0 : fB bsJ I) (ha1 : (0 ≤ x1 ∧ x1 ≤ 23)) : fC ρ base n F xTc vwCl xTys D dA la gJ (fbz bsJ znJ (fKc wz_791b2) I) xm_77 [.inr (.inr (some 513)), .inl x1] I (fun _ r => r = none) := by
  have hW : fzs wz_791b2 (fKc wz_791b2) := fKc_ok _
  refine f_meth (rb := rbJ) (J := []) 1 400 xG xin_77 x6_77 okJ (fB_self h0) ?_ ?_
  · exact fun q h => absurd h List.not_mem_nil
  · have hB0 := fB_self (zn := znJ) (K := fKc wz_791b2) h0
    refine And.intro ⟨rfl, by decide, by decide⟩ ?_
    refine And.intro ⟨rfl, by decide, by decide⟩ ?_
    refine fload rL_676_676_0_23_1_0 h0 hB0 (by omega) ?_
    intro z1 lz1 uz1 qz1
    refine And.intro (by omega) (And.intro ?_ ?_)
    · refine And.intro (fun ex => ?_) (And.intro (fun ex => ?_) (And.intro (fun ex => ?_) (And.intro (fun ex => ?_) (And.intro (fun ex => ?_) (And.intro (fun ex => ?_) (True.intro))))))
      · skip
        refine Exists.intro xm_78 (And.intro mi_78 (And.intro ⟨rfl, rfl, rfl, rfl⟩ (And.intro rfl ?_)))
        refine fcall _ h0 (fzs_sub (by decide +kernel) hW) hB0 (ct_City_runSkin_4289c (fBz h0 hB0) (by omega)) ?_
        rintro IhB3 _ hB3 fhB3 rfl
        exact rfl
      · skip
        refine Exists.intro xm_82 (And.intro mi_82 (And.intro ⟨rfl, rfl, rfl, rfl⟩ (And.intro rfl ?_)))
        refine fcall _ h0 (fzs_sub (by decide +kernel) hW) hB0 (ct_City_runGarden_2acfe (fBz h0 hB0) (by omega)) ?_
        rintro IhB5 _ hB5 fhB5 rfl
        exact rfl
      · skip
        refine Exists.intro xm_85 (And.intro mi_85 (And.intro ⟨rfl, rfl, rfl, rfl⟩ (And.intro rfl ?_)))
        refine fcall _ h0 (fzs_sub (by decide +kernel) hW) hB0 (ct_City_runStill_08bd2 (fBz h0 hB0) (by omega)) ?_
        rintro IhB7 _ hB7 fhB7 rfl
        exact rfl
      · skip
        refine Exists.intro xm_86 (And.intro mi_86 (And.intro ⟨rfl, rfl, rfl, rfl⟩ (And.intro rfl ?_)))
        refine fcall _ h0 (fzs_sub (by decide +kernel) hW) hB0 (ct_City_runRotor_872a2 (fBz h0 hB0) (by omega)) ?_
        rintro IhB9 _ hB9 fhB9 rfl
        exact rfl
      · skip
        refine And.intro ⟨rfl, by decide, by decide⟩ ?_
        refine And.intro ⟨rfl, by decide, by decide⟩ ?_
        refine fload rL_684_684_0_23_1_0 h0 hB0 (by omega) ?_
        intro z10 lz10 uz10 qz10
        intro z11 hz11 ez11 bz11
        clear ez11
        clear bz11
        refine fstore rS_684_684_0_23_1_0 (fzs_sub (by decide +kernel) hW) (by omega) (by omega) ?_
        intro IhB12 ehB12 hB12
        have t13 := fup_self ehB12
        refine And.intro ⟨rfl, by decide, by decide⟩ ?_
        refine And.intro ⟨rfl, by decide, by decide⟩ ?_
        refine And.intro ⟨rfl, by decide, by decide⟩ ?_
        refine And.intro ⟨rfl, by decide, by decide⟩ ?_
        refine fload rL_684_684_0_23_1_0 h0 hB12 (by omega) ?_
        intro z14 lz14 uz14 qz14
        refine And.intro (by omega) (And.intro ?_ ?_)
        · intro c15
          refine fstore rS_686_686_0_23_1_0 (fzs_sub (by decide +kernel) hW) (by omega) (by omega) ?_
          intro IhB16 ehB16 hB16
          have t17 := fup_self ehB16
          exact rfl
        · intro c18
          refine fstore rS_686_686_0_23_1_0 (fzs_sub (by decide +kernel) hW) (by omega) (by omega) ?_
          intro IhB19 ehB19 hB19
          have t20 := fup_self ehB19
          exact rfl
      · skip
        refine Exists.intro xm_87 (And.intro mi_87 (And.intro ⟨rfl, rfl, rfl, rfl⟩ (And.intro rfl ?_)))
        refine fcall _ h0 (fzs_sub (by decide +kernel) hW) hB0 (ct_City_runProbe_75b59 (fBz h0 hB0) (by omega)) ?_
        rintro IhB22 _ hB22 fhB22 rfl
        exact rfl
    · intro c23
      exact rfl
abbrev jc_City_passMinute_b0540_13 : Nat → fL → List fV → fH → Prop := fun m lv st I => ∃ (y1 : Int), lv = [(0, .inr (.inr (some 513))), (1, .inl y1)] ∧ st = [] ∧ (((0 ≤ y1 ∧ y1 ≤ 24))) ∧ m = (26 + 1 * (24 - y1) : Int).toNat
abbrev jc_City_passMinute_b0540_75 : Nat → fL → List fV → fH → Prop := fun m lv st I => ∃ (y1 : Int), lv = [(0, .inr (.inr (some 513))), (1, .inl y1)] ∧ st = [] ∧ (((0 ≤ y1 ∧ y1 ≤ 24))) ∧ m = (1 + 1 * (24 - y1) : Int).toNat
set_option maxRecDepth 8000 in
theorem ct_City_passMinute_b0540 {I : fH}  (h0 : fB bsJ I)  : fC ρ base n F xTc vwCl xTys D dA la gJ (fbz bsJ znJ (fKc wz_f7c52) I) xm_73 [.inr (.inr (some 513))] I (fun _ r => r = none) := by
  have hW : fzs wz_f7c52 (fKc wz_f7c52) := fKc_ok _
  refine f_meth (rb := rbJ) (J := [(13, jc_City_passMinute_b0540_13), (75, jc_City_passMinute_b0540_75)]) 51 400 xG xin_73 x6_73 okJ (fB_self h0) ?_ ?_
  · refine List.forall_mem_cons.mpr ⟨?_, List.forall_mem_cons.mpr ⟨?_, fun q h => absurd h List.not_mem_nil⟩⟩
    · rintro m _ _ I1 hB1 ⟨y1, rfl, rfl, hb, hm⟩
      refine And.intro ⟨rfl, by decide, by decide⟩ ?_
      refine And.intro ⟨rfl, by decide, by decide⟩ (fgetf fb_675_13 h0 hB1 ?_)
      intro z1 lz1 uz1 qz1
      refine And.intro (by omega) (And.intro ?_ ?_)
      · intro c2
        refine And.intro ⟨rfl, by decide, by decide⟩ ?_
        refine Exists.intro xm_88 (And.intro mi_88 (And.intro ⟨rfl, rfl, rfl, rfl⟩ (And.intro rfl ?_)))
        refine fcall _ h0 (fzs_sub (by decide +kernel) hW) hB1 (ct_Cells_flowAll_87643 (fBz h0 hB1)) ?_
        rintro IhB4 _ hB4 fhB4 rfl
        have t5 := fhB4 675 13 (by decide +kernel)
        refine And.intro ⟨rfl, by decide, by decide⟩ ?_
        refine Exists.intro xm_90 (And.intro mi_90 (And.intro ⟨rfl, rfl, rfl, rfl⟩ (And.intro rfl ?_)))
        refine fcall _ h0 (fzs_sub (by decide +kernel) hW) hB4 (ct_Cells_leakAll_a583d (fBz h0 hB4)) ?_
        rintro IhB7 _ hB7 fhB7 rfl
        have t8 := fhB7 675 13 (by decide +kernel)
        exact fcutJ (I := IhB7) (j := jc_City_passMinute_b0540_75) (lv' := [(0, .inr (.inr (some 513))), (1, .inl _)]) (And.intro rfl (And.intro rfl True.intro)) ⟨_, rfl, rfl, by omega, rfl⟩ (by omega)
      · intro c9
        refine And.intro ⟨rfl, by decide, by decide⟩ ?_
        refine And.intro ⟨rfl, by decide, by decide⟩ ?_
        refine fload rL_679_679_0_23_1_0 h0 hB1 (by omega) ?_
        intro z10 lz10 uz10 qz10
        refine And.intro (by omega) (And.intro ?_ ?_)
        · intro c11
          exact fcutJ (I := I1) (j := jc_City_passMinute_b0540_13) (lv' := [(0, .inr (.inr (some 513))), (1, .inl _)]) (And.intro rfl (And.intro rfl True.intro)) ⟨_, rfl, rfl, by omega, rfl⟩ (by omega)
        · intro c12
          refine And.intro ⟨rfl, by decide, by decide⟩ ?_
          refine Exists.intro xm_50 (And.intro mi_50 (And.intro ⟨rfl, rfl, rfl, rfl⟩ (And.intro rfl ?_)))
          refine fcallp hB1 (ct_Works_isGone_bce90 (fBz h0 hB1) (by omega)) ?_
          rintro _ ⟨z13, rfl, hz13⟩
          refine And.intro (by omega) (And.intro ?_ ?_)
          · intro c14
            exact fcutJ (I := I1) (j := jc_City_passMinute_b0540_13) (lv' := [(0, .inr (.inr (some 513))), (1, .inl _)]) (And.intro rfl (And.intro rfl True.intro)) ⟨_, rfl, rfl, by omega, rfl⟩ (by omega)
          · intro c15
            refine Exists.intro xm_77 (And.intro mi_77 (And.intro ⟨rfl, rfl, rfl, rfl⟩ (And.intro rfl ?_)))
            refine fcall _ h0 (fzs_sub (by decide +kernel) hW) hB1 (ct_City_runWork_0e434 (fBz h0 hB1) (by omega)) ?_
            rintro IhB17 _ hB17 fhB17 rfl
            have t18 := fhB17 675 13 (by decide +kernel)
            exact fcutJ (I := IhB17) (j := jc_City_passMinute_b0540_13) (lv' := [(0, .inr (.inr (some 513))), (1, .inl _)]) (And.intro rfl (And.intro rfl True.intro)) ⟨_, rfl, rfl, by omega, rfl⟩ (by omega)
    · rintro m _ _ I1 hB1 ⟨y1, rfl, rfl, hb, hm⟩
      refine And.intro ⟨rfl, by decide, by decide⟩ ?_
      refine And.intro ⟨rfl, by decide, by decide⟩ (fgetf fb_689_4 h0 hB1 ?_)
      intro z19 lz19 uz19 qz19
      refine And.intro (by omega) (And.intro ?_ ?_)
      · intro c20
        refine Exists.intro xm_94 (And.intro mi_94 (And.intro ⟨rfl, rfl, rfl, rfl⟩ (And.intro rfl ?_)))
        refine fcall _ h0 (fzs_sub (by decide +kernel) hW) hB1 (ct_City_rise_ae6a0 (fBz h0 hB1)) ?_
        rintro IhB22 _ hB22 fhB22 rfl
        have t23 := fhB22 689 4 (by decide +kernel)
        refine And.intro ⟨rfl, by decide, by decide⟩ (fgetf fb_513_6 h0 hB22 ?_)
        intro z24 lz24 uz24 qz24
        intro z25 hz25 ez25 bz25
        clear ez25
        clear bz25
        refine And.intro ⟨rfl, by decide, by decide⟩ (And.intro rfl (And.intro (Or.inl rfl) (fputf fb_513_6 (by decide +kernel) hW (by omega) ?_)))
        intro IhB26 ehB26 hB26
        have t27 := fup_at ehB26 6 (by omega)
        have t28 : IhB26 689 4 = IhB22 689 4 := (congrFun (congrFun ehB26 689) 4).trans (fup_ne (by omega))
        refine And.intro ⟨rfl, by decide, by decide⟩ ?_
        refine Exists.intro xm_95 (And.intro mi_95 (And.intro ⟨rfl, rfl, rfl, rfl⟩ (And.intro rfl ?_)))
        refine fcall _ h0 (fzs_sub (by decide +kernel) hW) hB26 (ct_Works_foulAll_2e164 (fBz h0 hB26)) ?_
        rintro IhB30 _ hB30 fhB30 rfl
        have t31 := fhB30 513 6 (by decide +kernel)
        have t32 := fhB30 689 4 (by decide +kernel)
        refine And.intro ⟨rfl, by decide, by decide⟩ (fgetf fb_513_9 h0 hB30 ?_)
        intro z33 lz33 uz33 qz33
        intro z34 hz34 ez34 bz34
        clear ez34
        clear bz34
        refine And.intro ⟨rfl, by decide, by decide⟩ (And.intro rfl (And.intro (Or.inl rfl) (fputf fb_513_9 (by decide +kernel) hW (by omega) ?_)))
        intro IhB35 ehB35 hB35
        have t36 : IhB35 513 6 = IhB30 513 6 := (congrFun (congrFun ehB35 513) 6).trans (fup_ne (by omega))
        have t37 := fup_at ehB35 9 (by omega)
        have t38 : IhB35 689 4 = IhB30 689 4 := (congrFun (congrFun ehB35 689) 4).trans (fup_ne (by omega))
        refine And.intro ⟨rfl, by decide, by decide⟩ (fgetf fb_513_9 h0 hB35 ?_)
        intro z39 lz39 uz39 qz39
        refine And.intro (And.intro (by omega) (And.intro (by omega) (And.intro (by omega) rfl))) ?_
        intro z40 hz40 ez40 dz40
        refine And.intro (by omega) (And.intro ?_ ?_)
        · intro c41
          exact rfl
        · intro c42
          refine Exists.intro xm_96 (And.intro mi_96 (And.intro ⟨rfl, rfl, rfl, rfl⟩ (And.intro rfl ?_)))
          refine fcall _ h0 (fzs_sub (by decide +kernel) hW) hB35 (ct_City_sendReports_305c9 (fBz h0 hB35)) ?_
          rintro IhB44 _ hB44 fhB44 rfl
          have t45 := fhB44 513 6 (by decide +kernel)
          have t46 := fhB44 513 9 (by decide +kernel)
          have t47 := fhB44 689 4 (by decide +kernel)
          exact rfl
      · intro c48
        refine And.intro ⟨rfl, by decide, by decide⟩ ?_
        refine Exists.intro xm_21 (And.intro mi_21 (And.intro ⟨rfl, rfl, rfl, rfl⟩ (And.intro rfl ?_)))
        refine fcallp hB1 (ct_People_isDead_16e8f (fBz h0 hB1) (by omega)) ?_
        rintro _ ⟨z49, rfl, hz49⟩
        refine And.intro (by omega) (And.intro ?_ ?_)
        · intro c50
          exact fcutJ (I := I1) (j := jc_City_passMinute_b0540_75) (lv' := [(0, .inr (.inr (some 513))), (1, .inl _)]) (And.intro rfl (And.intro rfl True.intro)) ⟨_, rfl, rfl, by omega, rfl⟩ (by omega)
        · intro c51
          refine Exists.intro xm_91 (And.intro mi_91 (And.intro ⟨rfl, rfl, rfl, rfl⟩ (And.intro rfl ?_)))
          refine fcall _ h0 (fzs_sub (by decide +kernel) hW) hB1 (ct_City_breathe_fe888 (fBz h0 hB1) (by omega)) ?_
          rintro IhB53 _ hB53 fhB53 rfl
          have t54 := fhB53 689 4 (by decide +kernel)
          exact fcutJ (I := IhB53) (j := jc_City_passMinute_b0540_75) (lv' := [(0, .inr (.inr (some 513))), (1, .inl _)]) (And.intro rfl (And.intro rfl True.intro)) ⟨_, rfl, rfl, by omega, rfl⟩ (by omega)
  · have hB0 := fB_self (zn := znJ) (K := fKc wz_f7c52) h0
    refine And.intro ⟨rfl, by decide, by decide⟩ ?_
    refine And.intro ⟨rfl, by decide, by decide⟩ (fgetf fb_513_9 h0 hB0 ?_)
    intro z55 lz55 uz55 qz55
    refine Exists.intro xm_74 (And.intro mi_74 (And.intro ⟨rfl, rfl, rfl, rfl⟩ (And.intro rfl ?_)))
    refine fcall _ h0 (fzs_sub (by decide +kernel) hW) hB0 (ct_Cells_takeReports_88f4c (fBz h0 hB0) (by omega)) ?_
    rintro IhB57 _ hB57 fhB57 rfl
    have t58 := fhB57 513 9 (by decide +kernel)
    exact fcutJ (I := IhB57) (j := jc_City_passMinute_b0540_13) (lv' := [(0, .inr (.inr (some 513))), (1, .inl _)]) (And.intro rfl (And.intro rfl True.intro)) ⟨_, rfl, rfl, by omega, rfl⟩ (by omega)
set_option maxRecDepth 8000 in
theorem ct_People_becomeAs_ae6e1 {I : fH}  (h0 : fB bsJ I)  : fC ρ base n F xTc vwCl xTys D dA la gJ (fbz bsJ znJ (fKc wz_5c8a7) I) xm_227 [.inr (.inr (some 689)), .inr (.inr (some 433))] I (fun _ r => r = none) := by
  have hW : fzs wz_5c8a7 (fKc wz_5c8a7) := fKc_ok _
  refine f_meth (rb := rbJ) (J := []) 1 400 xG xin_227 x6_227 okJ (fB_self h0) ?_ ?_
  · exact fun q h => absurd h List.not_mem_nil
  · have hB0 := fB_self (zn := znJ) (K := fKc wz_5c8a7) h0
    refine And.intro ⟨rfl, by decide, by decide⟩ ?_
    refine And.intro ⟨rfl, by decide, by decide⟩ ?_
    refine Exists.intro xm_75 (And.intro mi_75 (And.intro ⟨rfl, rfl, rfl, rfl⟩ (And.intro True.intro ?_)))
    refine fcall _ h0 (fzs_sub (by decide +kernel) hW) hB0 (ct_copyRow (W := [690]) (len := 24) (fBz h0 hB0) (frC_of (by decide +kernel))) ?_
    rintro IhB1 _ hB1 fhB1 ⟨rfl, ehB1⟩
    refine And.intro ⟨rfl, by decide, by decide⟩ ?_
    refine And.intro ⟨rfl, by decide, by decide⟩ ?_
    refine Exists.intro xm_75 (And.intro mi_75 (And.intro ⟨rfl, rfl, rfl, rfl⟩ (And.intro True.intro ?_)))
    refine fcall _ h0 (fzs_sub (by decide +kernel) hW) hB1 (ct_copyRow (W := [691]) (len := 24) (fBz h0 hB1) (frC_of (by decide +kernel))) ?_
    rintro IhB2 _ hB2 fhB2 ⟨rfl, ehB2⟩
    refine And.intro ⟨rfl, by decide, by decide⟩ ?_
    refine And.intro ⟨rfl, by decide, by decide⟩ ?_
    refine Exists.intro xm_75 (And.intro mi_75 (And.intro ⟨rfl, rfl, rfl, rfl⟩ (And.intro True.intro ?_)))
    refine fcall _ h0 (fzs_sub (by decide +kernel) hW) hB2 (ct_copyRow (W := [692]) (len := 24) (fBz h0 hB2) (frC_of (by decide +kernel))) ?_
    rintro IhB3 _ hB3 fhB3 ⟨rfl, ehB3⟩
    refine And.intro ⟨rfl, by decide, by decide⟩ ?_
    refine And.intro ⟨rfl, by decide, by decide⟩ ?_
    refine Exists.intro xm_75 (And.intro mi_75 (And.intro ⟨rfl, rfl, rfl, rfl⟩ (And.intro True.intro ?_)))
    refine fcall _ h0 (fzs_sub (by decide +kernel) hW) hB3 (ct_copyRow (W := [693]) (len := 24) (fBz h0 hB3) (frC_of (by decide +kernel))) ?_
    rintro IhB4 _ hB4 fhB4 ⟨rfl, ehB4⟩
    refine And.intro ⟨rfl, by decide, by decide⟩ (fgetf fb_433_4 h0 hB4 ?_)
    intro z5 lz5 uz5 qz5
    refine And.intro ⟨rfl, by decide, by decide⟩ (And.intro rfl (And.intro (Or.inl rfl) (fputf fb_689_4 (by decide +kernel) hW (by omega) ?_)))
    intro IhB6 ehB6 hB6
    have t7 : IhB6 433 4 = IhB4 433 4 := (congrFun (congrFun ehB6 433) 4).trans (fup_ne (by omega))
    have t8 := fup_at ehB6 4 (by omega)
    exact rfl
set_option maxRecDepth 8000 in
theorem ct_Works_becomeAs_59e4c {I : fH}  (h0 : fB bsJ I)  : fC ρ base n F xTc vwCl xTys D dA la gJ (fbz bsJ znJ (fKc wz_1abc8) I) xm_226 [.inr (.inr (some 675)), .inr (.inr (some 419))] I (fun _ r => r = none) := by
  have hW : fzs wz_1abc8 (fKc wz_1abc8) := fKc_ok _
  refine f_meth (rb := rbJ) (J := []) 1 400 xG xin_226 x6_226 okJ (fB_self h0) ?_ ?_
  · exact fun q h => absurd h List.not_mem_nil
  · have hB0 := fB_self (zn := znJ) (K := fKc wz_1abc8) h0
    refine And.intro ⟨rfl, by decide, by decide⟩ ?_
    refine And.intro ⟨rfl, by decide, by decide⟩ ?_
    refine Exists.intro xm_75 (And.intro mi_75 (And.intro ⟨rfl, rfl, rfl, rfl⟩ (And.intro True.intro ?_)))
    refine fcall _ h0 (fzs_sub (by decide +kernel) hW) hB0 (ct_copyRow (W := [676]) (len := 24) (fBz h0 hB0) (frC_of (by decide +kernel))) ?_
    rintro IhB1 _ hB1 fhB1 ⟨rfl, ehB1⟩
    refine And.intro ⟨rfl, by decide, by decide⟩ ?_
    refine And.intro ⟨rfl, by decide, by decide⟩ ?_
    refine Exists.intro xm_75 (And.intro mi_75 (And.intro ⟨rfl, rfl, rfl, rfl⟩ (And.intro True.intro ?_)))
    refine fcall _ h0 (fzs_sub (by decide +kernel) hW) hB1 (ct_copyRow (W := [677]) (len := 24) (fBz h0 hB1) (frC_of (by decide +kernel))) ?_
    rintro IhB2 _ hB2 fhB2 ⟨rfl, ehB2⟩
    refine And.intro ⟨rfl, by decide, by decide⟩ ?_
    refine And.intro ⟨rfl, by decide, by decide⟩ ?_
    refine Exists.intro xm_75 (And.intro mi_75 (And.intro ⟨rfl, rfl, rfl, rfl⟩ (And.intro True.intro ?_)))
    refine fcall _ h0 (fzs_sub (by decide +kernel) hW) hB2 (ct_copyRow (W := [678]) (len := 24) (fBz h0 hB2) (frC_of (by decide +kernel))) ?_
    rintro IhB3 _ hB3 fhB3 ⟨rfl, ehB3⟩
    refine And.intro ⟨rfl, by decide, by decide⟩ ?_
    refine And.intro ⟨rfl, by decide, by decide⟩ ?_
    refine Exists.intro xm_75 (And.intro mi_75 (And.intro ⟨rfl, rfl, rfl, rfl⟩ (And.intro True.intro ?_)))
    refine fcall _ h0 (fzs_sub (by decide +kernel) hW) hB3 (ct_copyRow (W := [679]) (len := 24) (fBz h0 hB3) (frC_of (by decide +kernel))) ?_
    rintro IhB4 _ hB4 fhB4 ⟨rfl, ehB4⟩
    refine And.intro ⟨rfl, by decide, by decide⟩ ?_
    refine And.intro ⟨rfl, by decide, by decide⟩ ?_
    refine Exists.intro xm_75 (And.intro mi_75 (And.intro ⟨rfl, rfl, rfl, rfl⟩ (And.intro True.intro ?_)))
    refine fcall _ h0 (fzs_sub (by decide +kernel) hW) hB4 (ct_copyRow (W := [680]) (len := 24) (fBz h0 hB4) (frC_of (by decide +kernel))) ?_
    rintro IhB5 _ hB5 fhB5 ⟨rfl, ehB5⟩
    refine And.intro ⟨rfl, by decide, by decide⟩ ?_
    refine And.intro ⟨rfl, by decide, by decide⟩ ?_
    refine Exists.intro xm_75 (And.intro mi_75 (And.intro ⟨rfl, rfl, rfl, rfl⟩ (And.intro True.intro ?_)))
    refine fcall _ h0 (fzs_sub (by decide +kernel) hW) hB5 (ct_copyRow (W := [681]) (len := 24) (fBz h0 hB5) (frC_of (by decide +kernel))) ?_
    rintro IhB6 _ hB6 fhB6 ⟨rfl, ehB6⟩
    refine And.intro ⟨rfl, by decide, by decide⟩ ?_
    refine And.intro ⟨rfl, by decide, by decide⟩ ?_
    refine Exists.intro xm_75 (And.intro mi_75 (And.intro ⟨rfl, rfl, rfl, rfl⟩ (And.intro True.intro ?_)))
    refine fcall _ h0 (fzs_sub (by decide +kernel) hW) hB6 (ct_copyRow (W := [682]) (len := 24) (fBz h0 hB6) (frC_of (by decide +kernel))) ?_
    rintro IhB7 _ hB7 fhB7 ⟨rfl, ehB7⟩
    refine And.intro ⟨rfl, by decide, by decide⟩ ?_
    refine And.intro ⟨rfl, by decide, by decide⟩ ?_
    refine Exists.intro xm_75 (And.intro mi_75 (And.intro ⟨rfl, rfl, rfl, rfl⟩ (And.intro True.intro ?_)))
    refine fcall _ h0 (fzs_sub (by decide +kernel) hW) hB7 (ct_copyRow (W := [683]) (len := 24) (fBz h0 hB7) (frC_of (by decide +kernel))) ?_
    rintro IhB8 _ hB8 fhB8 ⟨rfl, ehB8⟩
    refine And.intro ⟨rfl, by decide, by decide⟩ ?_
    refine And.intro ⟨rfl, by decide, by decide⟩ ?_
    refine Exists.intro xm_75 (And.intro mi_75 (And.intro ⟨rfl, rfl, rfl, rfl⟩ (And.intro True.intro ?_)))
    refine fcall _ h0 (fzs_sub (by decide +kernel) hW) hB8 (ct_copyRow (W := [684]) (len := 24) (fBz h0 hB8) (frC_of (by decide +kernel))) ?_
    rintro IhB9 _ hB9 fhB9 ⟨rfl, ehB9⟩
    refine And.intro ⟨rfl, by decide, by decide⟩ ?_
    refine And.intro ⟨rfl, by decide, by decide⟩ ?_
    refine Exists.intro xm_75 (And.intro mi_75 (And.intro ⟨rfl, rfl, rfl, rfl⟩ (And.intro True.intro ?_)))
    refine fcall _ h0 (fzs_sub (by decide +kernel) hW) hB9 (ct_copyRow (W := [685]) (len := 24) (fBz h0 hB9) (frC_of (by decide +kernel))) ?_
    rintro IhB10 _ hB10 fhB10 ⟨rfl, ehB10⟩
    refine And.intro ⟨rfl, by decide, by decide⟩ ?_
    refine And.intro ⟨rfl, by decide, by decide⟩ ?_
    refine Exists.intro xm_75 (And.intro mi_75 (And.intro ⟨rfl, rfl, rfl, rfl⟩ (And.intro True.intro ?_)))
    refine fcall _ h0 (fzs_sub (by decide +kernel) hW) hB10 (ct_copyRow (W := [686]) (len := 24) (fBz h0 hB10) (frC_of (by decide +kernel))) ?_
    rintro IhB11 _ hB11 fhB11 ⟨rfl, ehB11⟩
    refine And.intro ⟨rfl, by decide, by decide⟩ ?_
    refine And.intro ⟨rfl, by decide, by decide⟩ ?_
    refine Exists.intro xm_75 (And.intro mi_75 (And.intro ⟨rfl, rfl, rfl, rfl⟩ (And.intro True.intro ?_)))
    refine fcall _ h0 (fzs_sub (by decide +kernel) hW) hB11 (ct_copyRow (W := [687]) (len := 24) (fBz h0 hB11) (frC_of (by decide +kernel))) ?_
    rintro IhB12 _ hB12 fhB12 ⟨rfl, ehB12⟩
    refine And.intro ⟨rfl, by decide, by decide⟩ ?_
    refine And.intro ⟨rfl, by decide, by decide⟩ ?_
    refine Exists.intro xm_75 (And.intro mi_75 (And.intro ⟨rfl, rfl, rfl, rfl⟩ (And.intro True.intro ?_)))
    refine fcall _ h0 (fzs_sub (by decide +kernel) hW) hB12 (ct_copyRow (W := [688]) (len := 24) (fBz h0 hB12) (frC_of (by decide +kernel))) ?_
    rintro IhB13 _ hB13 fhB13 ⟨rfl, ehB13⟩
    refine And.intro ⟨rfl, by decide, by decide⟩ (fgetf fb_419_13 h0 hB13 ?_)
    intro z14 lz14 uz14 qz14
    refine And.intro ⟨rfl, by decide, by decide⟩ (And.intro rfl (And.intro (Or.inl rfl) (fputf fb_675_13 (by decide +kernel) hW (by omega) ?_)))
    intro IhB15 ehB15 hB15
    have t16 : IhB15 419 13 = IhB13 419 13 := (congrFun (congrFun ehB15 419) 13).trans (fup_ne (by omega))
    have t17 := fup_at ehB15 13 (by omega)
    exact rfl
set_option maxRecDepth 8000 in
theorem ct_Cells_becomeAs_5a6fe {I : fH}  (h0 : fB bsJ I)  : fC ρ base n F xTc vwCl xTys D dA la gJ (fbz bsJ znJ (fKc wz_64c1d) I) xm_224 [.inr (.inr (some 514)), .inr (.inr (some 258))] I (fun _ r => r = none) := by
  have hW : fzs wz_64c1d (fKc wz_64c1d) := fKc_ok _
  refine f_meth (rb := rbJ) (J := []) 1 400 xG xin_224 x6_224 okJ (fB_self h0) ?_ ?_
  · exact fun q h => absurd h List.not_mem_nil
  · have hB0 := fB_self (zn := znJ) (K := fKc wz_64c1d) h0
    refine And.intro ⟨rfl, by decide, by decide⟩ ?_
    refine And.intro ⟨rfl, by decide, by decide⟩ ?_
    refine Exists.intro xm_75 (And.intro mi_75 (And.intro ⟨rfl, rfl, rfl, rfl⟩ (And.intro True.intro ?_)))
    refine fcall _ h0 (fzs_sub (by decide +kernel) hW) hB0 (ct_copyRow (W := [515]) (len := 20) (fBz h0 hB0) (frC_of (by decide +kernel))) ?_
    rintro IhB1 _ hB1 fhB1 ⟨rfl, ehB1⟩
    refine And.intro ⟨rfl, by decide, by decide⟩ ?_
    refine And.intro ⟨rfl, by decide, by decide⟩ ?_
    refine Exists.intro xm_75 (And.intro mi_75 (And.intro ⟨rfl, rfl, rfl, rfl⟩ (And.intro True.intro ?_)))
    refine fcall _ h0 (fzs_sub (by decide +kernel) hW) hB1 (ct_copyRow (W := [516]) (len := 20) (fBz h0 hB1) (frC_of (by decide +kernel))) ?_
    rintro IhB2 _ hB2 fhB2 ⟨rfl, ehB2⟩
    refine And.intro ⟨rfl, by decide, by decide⟩ ?_
    refine And.intro ⟨rfl, by decide, by decide⟩ ?_
    refine Exists.intro xm_225 (And.intro mi_225 (And.intro ⟨rfl, rfl, rfl, rfl⟩ (And.intro True.intro ?_)))
    refine fcall _ h0 (fzs_sub (by decide +kernel) hW) hB2 (ct_copyRows (W := [517]) (m := 20) (len := 5) (ro := 262) (rd := 518) (fBz h0 hB2) (frCs_of ⟨rfl, rfl, rfl, rfl, by decide⟩ (by decide +kernel))) ?_
    rintro IhB3 _ hB3 fhB3 ⟨rfl, ehB3⟩
    refine And.intro ⟨rfl, by decide, by decide⟩ ?_
    refine And.intro ⟨rfl, by decide, by decide⟩ ?_
    refine Exists.intro xm_225 (And.intro mi_225 (And.intro ⟨rfl, rfl, rfl, rfl⟩ (And.intro True.intro ?_)))
    refine fcall _ h0 (fzs_sub (by decide +kernel) hW) hB3 (ct_copyRows (W := [538]) (m := 20) (len := 5) (ro := 283) (rd := 539) (fBz h0 hB3) (frCs_of ⟨rfl, rfl, rfl, rfl, by decide⟩ (by decide +kernel))) ?_
    rintro IhB4 _ hB4 fhB4 ⟨rfl, ehB4⟩
    refine And.intro ⟨rfl, by decide, by decide⟩ ?_
    refine And.intro ⟨rfl, by decide, by decide⟩ ?_
    refine Exists.intro xm_225 (And.intro mi_225 (And.intro ⟨rfl, rfl, rfl, rfl⟩ (And.intro True.intro ?_)))
    refine fcall _ h0 (fzs_sub (by decide +kernel) hW) hB4 (ct_copyRows (W := [559]) (m := 20) (len := 6) (ro := 304) (rd := 560) (fBz h0 hB4) (frCs_of ⟨rfl, rfl, rfl, rfl, by decide⟩ (by decide +kernel))) ?_
    rintro IhB5 _ hB5 fhB5 ⟨rfl, ehB5⟩
    refine And.intro ⟨rfl, by decide, by decide⟩ (fgetf fb_258_5 h0 hB5 ?_)
    intro z6 lz6 uz6 qz6
    refine And.intro ⟨rfl, by decide, by decide⟩ (And.intro rfl (And.intro (Or.inl rfl) (fputf fb_514_5 (by decide +kernel) hW (by omega) ?_)))
    intro IhB7 ehB7 hB7
    have t8 : IhB7 258 5 = IhB5 258 5 := (congrFun (congrFun ehB7 258) 5).trans (fup_ne (by omega))
    have t9 := fup_at ehB7 5 (by omega)
    refine And.intro ⟨rfl, by decide, by decide⟩ ?_
    refine And.intro ⟨rfl, by decide, by decide⟩ ?_
    refine Exists.intro xm_75 (And.intro mi_75 (And.intro ⟨rfl, rfl, rfl, rfl⟩ (And.intro True.intro ?_)))
    refine fcall _ h0 (fzs_sub (by decide +kernel) hW) hB7 (ct_copyRow (W := [580]) (len := 24) (fBz h0 hB7) (frC_of (by decide +kernel))) ?_
    rintro IhB10 _ hB10 fhB10 ⟨rfl, ehB10⟩
    have t11 := fhB10 258 5 (by decide +kernel)
    have t12 := fhB10 514 5 (by decide +kernel)
    refine And.intro ⟨rfl, by decide, by decide⟩ ?_
    refine And.intro ⟨rfl, by decide, by decide⟩ ?_
    refine Exists.intro xm_75 (And.intro mi_75 (And.intro ⟨rfl, rfl, rfl, rfl⟩ (And.intro True.intro ?_)))
    refine fcall _ h0 (fzs_sub (by decide +kernel) hW) hB10 (ct_copyRow (W := [581]) (len := 24) (fBz h0 hB10) (frC_of (by decide +kernel))) ?_
    rintro IhB13 _ hB13 fhB13 ⟨rfl, ehB13⟩
    have t14 := fhB13 258 5 (by decide +kernel)
    have t15 := fhB13 514 5 (by decide +kernel)
    refine And.intro ⟨rfl, by decide, by decide⟩ ?_
    refine And.intro ⟨rfl, by decide, by decide⟩ ?_
    refine Exists.intro xm_75 (And.intro mi_75 (And.intro ⟨rfl, rfl, rfl, rfl⟩ (And.intro True.intro ?_)))
    refine fcall _ h0 (fzs_sub (by decide +kernel) hW) hB13 (ct_copyRow (W := [582]) (len := 24) (fBz h0 hB13) (frC_of (by decide +kernel))) ?_
    rintro IhB16 _ hB16 fhB16 ⟨rfl, ehB16⟩
    have t17 := fhB16 258 5 (by decide +kernel)
    have t18 := fhB16 514 5 (by decide +kernel)
    refine And.intro ⟨rfl, by decide, by decide⟩ ?_
    refine And.intro ⟨rfl, by decide, by decide⟩ ?_
    refine Exists.intro xm_75 (And.intro mi_75 (And.intro ⟨rfl, rfl, rfl, rfl⟩ (And.intro True.intro ?_)))
    refine fcall _ h0 (fzs_sub (by decide +kernel) hW) hB16 (ct_copyRow (W := [583]) (len := 24) (fBz h0 hB16) (frC_of (by decide +kernel))) ?_
    rintro IhB19 _ hB19 fhB19 ⟨rfl, ehB19⟩
    have t20 := fhB19 258 5 (by decide +kernel)
    have t21 := fhB19 514 5 (by decide +kernel)
    refine And.intro ⟨rfl, by decide, by decide⟩ (fgetf fb_258_10 h0 hB19 ?_)
    intro z22 lz22 uz22 qz22
    refine And.intro ⟨rfl, by decide, by decide⟩ (And.intro rfl (And.intro (Or.inl rfl) (fputf fb_514_10 (by decide +kernel) hW (by omega) ?_)))
    intro IhB23 ehB23 hB23
    have t24 : IhB23 258 5 = IhB19 258 5 := (congrFun (congrFun ehB23 258) 5).trans (fup_ne (by omega))
    have t25 : IhB23 258 10 = IhB19 258 10 := (congrFun (congrFun ehB23 258) 10).trans (fup_ne (by omega))
    have t26 : IhB23 514 5 = IhB19 514 5 := (congrFun (congrFun ehB23 514) 5).trans (fup_ne (by omega))
    have t27 := fup_at ehB23 10 (by omega)
    refine And.intro ⟨rfl, by decide, by decide⟩ ?_
    refine And.intro ⟨rfl, by decide, by decide⟩ ?_
    refine Exists.intro xm_225 (And.intro mi_225 (And.intro ⟨rfl, rfl, rfl, rfl⟩ (And.intro True.intro ?_)))
    refine fcall _ h0 (fzs_sub (by decide +kernel) hW) hB23 (ct_copyRows (W := [584]) (m := 90) (len := 8) (ro := 329) (rd := 585) (fBz h0 hB23) (frCs_of ⟨rfl, rfl, rfl, rfl, by decide⟩ (by decide +kernel))) ?_
    rintro IhB28 _ hB28 fhB28 ⟨rfl, ehB28⟩
    have t29 := fhB28 258 5 (by decide +kernel)
    have t30 := fhB28 258 10 (by decide +kernel)
    have t31 := fhB28 514 5 (by decide +kernel)
    have t32 := fhB28 514 10 (by decide +kernel)
    refine And.intro ⟨rfl, by decide, by decide⟩ (fgetf fb_258_12 h0 hB28 ?_)
    intro z33 lz33 uz33 qz33
    refine And.intro ⟨rfl, by decide, by decide⟩ (And.intro rfl (And.intro (Or.inl rfl) (fputf fb_514_12 (by decide +kernel) hW (by omega) ?_)))
    intro IhB34 ehB34 hB34
    have t35 : IhB34 258 5 = IhB28 258 5 := (congrFun (congrFun ehB34 258) 5).trans (fup_ne (by omega))
    have t36 : IhB34 258 10 = IhB28 258 10 := (congrFun (congrFun ehB34 258) 10).trans (fup_ne (by omega))
    have t37 : IhB34 258 12 = IhB28 258 12 := (congrFun (congrFun ehB34 258) 12).trans (fup_ne (by omega))
    have t38 : IhB34 514 5 = IhB28 514 5 := (congrFun (congrFun ehB34 514) 5).trans (fup_ne (by omega))
    have t39 : IhB34 514 10 = IhB28 514 10 := (congrFun (congrFun ehB34 514) 10).trans (fup_ne (by omega))
    have t40 := fup_at ehB34 12 (by omega)
    exact rfl
set_option maxRecDepth 8000 in
theorem ct_City_becomeAs_a708a {I : fH}  (h0 : fB bsJ I)  : fC ρ base n F xTc vwCl xTys D dA la gJ (fbz bsJ znJ (fKc wz_7a224) I) xm_223 [.inr (.inr (some 513)), .inr (.inr (some 257))] I (fun _ r => r = none) := by
  have hW : fzs wz_7a224 (fKc wz_7a224) := fKc_ok _
  refine f_meth (rb := rbJ) (J := []) 1 400 xG xin_223 x6_223 okJ (fB_self h0) ?_ ?_
  · exact fun q h => absurd h List.not_mem_nil
  · have hB0 := fB_self (zn := znJ) (K := fKc wz_7a224) h0
    refine And.intro ⟨rfl, by decide, by decide⟩ ?_
    refine And.intro ⟨rfl, by decide, by decide⟩ ?_
    refine Exists.intro xm_224 (And.intro mi_224 (And.intro ⟨rfl, rfl, rfl, rfl⟩ (And.intro rfl ?_)))
    refine fcall _ h0 (fzs_sub (by decide +kernel) hW) hB0 (ct_Cells_becomeAs_5a6fe (fBz h0 hB0)) ?_
    rintro IhB2 _ hB2 fhB2 rfl
    refine And.intro ⟨rfl, by decide, by decide⟩ ?_
    refine And.intro ⟨rfl, by decide, by decide⟩ ?_
    refine Exists.intro xm_226 (And.intro mi_226 (And.intro ⟨rfl, rfl, rfl, rfl⟩ (And.intro rfl ?_)))
    refine fcall _ h0 (fzs_sub (by decide +kernel) hW) hB2 (ct_Works_becomeAs_59e4c (fBz h0 hB2)) ?_
    rintro IhB4 _ hB4 fhB4 rfl
    refine And.intro ⟨rfl, by decide, by decide⟩ ?_
    refine And.intro ⟨rfl, by decide, by decide⟩ ?_
    refine Exists.intro xm_227 (And.intro mi_227 (And.intro ⟨rfl, rfl, rfl, rfl⟩ (And.intro rfl ?_)))
    refine fcall _ h0 (fzs_sub (by decide +kernel) hW) hB4 (ct_People_becomeAs_ae6e1 (fBz h0 hB4)) ?_
    rintro IhB6 _ hB6 fhB6 rfl
    refine And.intro ⟨rfl, by decide, by decide⟩ ?_
    refine And.intro ⟨rfl, by decide, by decide⟩ ?_
    refine Exists.intro xm_75 (And.intro mi_75 (And.intro ⟨rfl, rfl, rfl, rfl⟩ (And.intro True.intro ?_)))
    refine fcall _ h0 (fzs_sub (by decide +kernel) hW) hB6 (ct_copyRow (W := [694]) (len := 6) (fBz h0 hB6) (frC_of (by decide +kernel))) ?_
    rintro IhB7 _ hB7 fhB7 ⟨rfl, ehB7⟩
    refine And.intro ⟨rfl, by decide, by decide⟩ ?_
    refine And.intro ⟨rfl, by decide, by decide⟩ ?_
    refine Exists.intro xm_225 (And.intro mi_225 (And.intro ⟨rfl, rfl, rfl, rfl⟩ (And.intro True.intro ?_)))
    refine fcall _ h0 (fzs_sub (by decide +kernel) hW) hB7 (ct_copyRows (W := [695]) (m := 3) (len := 61) (ro := 440) (rd := 696) (fBz h0 hB7) (frCs_of ⟨rfl, rfl, rfl, rfl, by decide⟩ (by decide +kernel))) ?_
    rintro IhB8 _ hB8 fhB8 ⟨rfl, ehB8⟩
    refine And.intro ⟨rfl, by decide, by decide⟩ (fgetf fb_257_5 h0 hB8 ?_)
    intro z9 lz9 uz9 qz9
    refine And.intro ⟨rfl, by decide, by decide⟩ (And.intro rfl (And.intro (Or.inl rfl) (fputf fb_513_5 (by decide +kernel) hW (by omega) ?_)))
    intro IhB10 ehB10 hB10
    have t11 : IhB10 257 5 = IhB8 257 5 := (congrFun (congrFun ehB10 257) 5).trans (fup_ne (by omega))
    have t12 := fup_at ehB10 5 (by omega)
    refine And.intro ⟨rfl, by decide, by decide⟩ (fgetf fb_257_6 h0 hB10 ?_)
    intro z13 lz13 uz13 qz13
    refine And.intro ⟨rfl, by decide, by decide⟩ (And.intro rfl (And.intro (Or.inl rfl) (fputf fb_513_6 (by decide +kernel) hW (by omega) ?_)))
    intro IhB14 ehB14 hB14
    have t15 : IhB14 257 5 = IhB10 257 5 := (congrFun (congrFun ehB14 257) 5).trans (fup_ne (by omega))
    have t16 : IhB14 257 6 = IhB10 257 6 := (congrFun (congrFun ehB14 257) 6).trans (fup_ne (by omega))
    have t17 : IhB14 513 5 = IhB10 513 5 := (congrFun (congrFun ehB14 513) 5).trans (fup_ne (by omega))
    have t18 := fup_at ehB14 6 (by omega)
    refine And.intro ⟨rfl, by decide, by decide⟩ (fgetf fb_257_7 h0 hB14 ?_)
    intro z19 lz19 uz19 qz19
    refine And.intro ⟨rfl, by decide, by decide⟩ (And.intro rfl (And.intro (Or.inl rfl) (fputf fb_513_7 (by decide +kernel) hW (by omega) ?_)))
    intro IhB20 ehB20 hB20
    have t21 : IhB20 257 5 = IhB14 257 5 := (congrFun (congrFun ehB20 257) 5).trans (fup_ne (by omega))
    have t22 : IhB20 257 6 = IhB14 257 6 := (congrFun (congrFun ehB20 257) 6).trans (fup_ne (by omega))
    have t23 : IhB20 257 7 = IhB14 257 7 := (congrFun (congrFun ehB20 257) 7).trans (fup_ne (by omega))
    have t24 : IhB20 513 5 = IhB14 513 5 := (congrFun (congrFun ehB20 513) 5).trans (fup_ne (by omega))
    have t25 : IhB20 513 6 = IhB14 513 6 := (congrFun (congrFun ehB20 513) 6).trans (fup_ne (by omega))
    have t26 := fup_at ehB20 7 (by omega)
    refine And.intro ⟨rfl, by decide, by decide⟩ (fgetf fb_257_8 h0 hB20 ?_)
    intro z27 lz27 uz27 qz27
    refine And.intro ⟨rfl, by decide, by decide⟩ (And.intro rfl (And.intro (Or.inl rfl) (fputf fb_513_8 (by decide +kernel) hW (by omega) ?_)))
    intro IhB28 ehB28 hB28
    have t29 : IhB28 257 5 = IhB20 257 5 := (congrFun (congrFun ehB28 257) 5).trans (fup_ne (by omega))
    have t30 : IhB28 257 6 = IhB20 257 6 := (congrFun (congrFun ehB28 257) 6).trans (fup_ne (by omega))
    have t31 : IhB28 257 7 = IhB20 257 7 := (congrFun (congrFun ehB28 257) 7).trans (fup_ne (by omega))
    have t32 : IhB28 257 8 = IhB20 257 8 := (congrFun (congrFun ehB28 257) 8).trans (fup_ne (by omega))
    have t33 : IhB28 513 5 = IhB20 513 5 := (congrFun (congrFun ehB28 513) 5).trans (fup_ne (by omega))
    have t34 : IhB28 513 6 = IhB20 513 6 := (congrFun (congrFun ehB28 513) 6).trans (fup_ne (by omega))
    have t35 : IhB28 513 7 = IhB20 513 7 := (congrFun (congrFun ehB28 513) 7).trans (fup_ne (by omega))
    have t36 := fup_at ehB28 8 (by omega)
    refine And.intro ⟨rfl, by decide, by decide⟩ (fgetf fb_257_9 h0 hB28 ?_)
    intro z37 lz37 uz37 qz37
    refine And.intro ⟨rfl, by decide, by decide⟩ (And.intro rfl (And.intro (Or.inl rfl) (fputf fb_513_9 (by decide +kernel) hW (by omega) ?_)))
    intro IhB38 ehB38 hB38
    have t39 : IhB38 257 5 = IhB28 257 5 := (congrFun (congrFun ehB38 257) 5).trans (fup_ne (by omega))
    have t40 : IhB38 257 6 = IhB28 257 6 := (congrFun (congrFun ehB38 257) 6).trans (fup_ne (by omega))
    have t41 : IhB38 257 7 = IhB28 257 7 := (congrFun (congrFun ehB38 257) 7).trans (fup_ne (by omega))
    have t42 : IhB38 257 8 = IhB28 257 8 := (congrFun (congrFun ehB38 257) 8).trans (fup_ne (by omega))
    have t43 : IhB38 257 9 = IhB28 257 9 := (congrFun (congrFun ehB38 257) 9).trans (fup_ne (by omega))
    have t44 : IhB38 513 5 = IhB28 513 5 := (congrFun (congrFun ehB38 513) 5).trans (fup_ne (by omega))
    have t45 : IhB38 513 6 = IhB28 513 6 := (congrFun (congrFun ehB38 513) 6).trans (fup_ne (by omega))
    have t46 : IhB38 513 7 = IhB28 513 7 := (congrFun (congrFun ehB38 513) 7).trans (fup_ne (by omega))
    have t47 : IhB38 513 8 = IhB28 513 8 := (congrFun (congrFun ehB38 513) 8).trans (fup_ne (by omega))
    have t48 := fup_at ehB38 9 (by omega)
    exact rfl
abbrev jc_Cells_oxygen_5c56e_4 : Nat → fL → List fV → fH → Prop := fun m lv st I => ∃ (y1 : Int) (y2 : Int), lv = [(0, .inr (.inr (some 514))), (1, .inl y1), (2, .inl y2)] ∧ st = [] ∧ ((((-2147483648) ≤ y1 ∧ y1 ≤ 2147483647) ∧ (0 ≤ y2 ∧ y2 ≤ 20))) ∧ m = (1 + 1 * (20 - y2) : Int).toNat
set_option maxRecDepth 8000 in
theorem ct_Cells_oxygen_5c56e {I : fH}  (h0 : fB bsJ I)  : fC ρ base n F xTc vwCl xTys D dA la gJ (fbz bsJ znJ (fKc []) I) xm_228 [.inr (.inr (some 514))] I (fun _ r => ∃ z, r = some (.inl z) ∧ ((-2147483648) ≤ z ∧ z ≤ 2147483647)) := by
  have hW : fzs [] (fKc []) := fKc_ok _
  refine f_meth (rb := rbJ) (J := [(4, jc_Cells_oxygen_5c56e_4)]) 22 400 xG xin_228 x6_228 okJ (fB_self h0) ?_ ?_
  · refine List.forall_mem_cons.mpr ⟨?_, fun q h => absurd h List.not_mem_nil⟩
    · rintro m _ _ I1 hB1 ⟨y1, y2, rfl, rfl, hb, hm⟩
      refine And.intro ⟨rfl, by decide, by decide⟩ (fgetf fb_514_5 h0 hB1 ?_)
      intro z1 lz1 uz1 qz1
      refine And.intro (by omega) (And.intro ?_ ?_)
      · intro c2
        refine And.intro (True.intro) ?_
        exact ⟨_, rfl, by omega⟩
      · intro c3
        refine And.intro ⟨rfl, by decide, by decide⟩ ?_
        refine And.intro ⟨rfl, by decide⟩ (And.intro (by omega) ?_)
        refine fload rL_518_537_0_4_1_0 h0 hB1 (by omega) ?_
        intro z4 lz4 uz4 qz4
        intro z5 hz5 ez5 bz5
        clear ez5
        clear bz5
        exact fcutJ (I := I1) (j := jc_Cells_oxygen_5c56e_4) (lv' := [(0, .inr (.inr (some 514))), (1, .inl _), (2, .inl _)]) (And.intro rfl (And.intro rfl (And.intro rfl True.intro))) ⟨_, _, rfl, rfl, by omega, rfl⟩ (by omega)
  · have hB0 := fB_self (zn := znJ) (K := fKc []) h0
    exact fcutJ (I := I) (j := jc_Cells_oxygen_5c56e_4) (lv' := [(0, .inr (.inr (some 514))), (1, .inl _), (2, .inl _)]) (And.intro rfl (And.intro rfl (And.intro rfl True.intro))) ⟨_, _, rfl, rfl, by omega, rfl⟩ (by omega)
abbrev jc_X_checkDay_bd195_34 : Nat → fL → List fV → fH → Prop := fun m lv st I => ∃ (y1 : Int) (y2 : Int) (y3 : Int) (y4 : Int), lv = [(0, .inr (.inr (some 0))), (1, .inl y1), (2, .inl y2), (3, .inl y3), (4, .inl y4)] ∧ st = [] ∧ (((1 ≤ y1 ∧ y1 ≤ 24) ∧ (0 ≤ y2 ∧ y2 ≤ 60) ∧ (0 ≤ y3 ∧ y3 ≤ 24) ∧ (0 ≤ y4 ∧ y4 ≤ 24) ∧ (1 ≤ I 0 6 ∧ I 0 6 ≤ 1))) ∧ m = (62 + 62 * (24 - y4) : Int).toNat
abbrev jc_X_checkDay_bd195_43 : Nat → fL → List fV → fH → Prop := fun m lv st I => ∃ (y1 : Int) (y2 : Int) (y3 : Int) (y4 : Int) (y5 : Int), lv = [(0, .inr (.inr (some 0))), (1, .inl y1), (2, .inl y2), (3, .inl y3), (4, .inl y4), (5, .inl y5)] ∧ st = [] ∧ (((1 ≤ y1 ∧ y1 ≤ 24) ∧ (0 ≤ y2 ∧ y2 ≤ 60) ∧ (1 ≤ y3 ∧ y3 ≤ 24) ∧ (0 ≤ y4 ∧ y4 ≤ 23) ∧ (0 ≤ y5 ∧ y5 ≤ 60) ∧ (1 ≤ I 0 6 ∧ I 0 6 ≤ 1))) ∧ m = (1 + 62 * (24 - y4) + 1 * (60 - y5) : Int).toNat
set_option maxRecDepth 8000 in
theorem ct_X_checkDay_bd195 {I : fH} {x1 : Int} {x2 : Int} (h0 : fB bsJ I) (ha1 : (1 ≤ x1 ∧ x1 ≤ 24)) (ha2 : (0 ≤ x2 ∧ x2 ≤ 60)) : fC ρ base n F xTc vwCl xTys D dA la gJ (fbz bsJ znJ (fKc wz_920bb) I) xm_222 [.inr (.inr (some 0)), .inl x1, .inl x2] I (fun _ r => ∃ z, r = some (.inl z) ∧ ((0 ≤ z ∧ z ≤ 49) ∨ z = (-1000000002))) := by
  have hW : fzs wz_920bb (fKc wz_920bb) := fKc_ok _
  refine f_meth (rb := rbJ) (J := [(34, jc_X_checkDay_bd195_34), (43, jc_X_checkDay_bd195_43)]) 1551 400 xG xin_222 x6_222 okJ (fB_self h0) ?_ ?_
  · refine List.forall_mem_cons.mpr ⟨?_, List.forall_mem_cons.mpr ⟨?_, fun q h => absurd h List.not_mem_nil⟩⟩
    · rintro m _ _ I1 hB1 ⟨y1, y2, y3, y4, rfl, rfl, hb, hm⟩
      refine And.intro (by omega) (And.intro ?_ ?_)
      · intro c1
        refine Exists.intro xm_220 (And.intro mi_220 (And.intro ⟨rfl, rfl, rfl, rfl⟩ (And.intro rfl ?_)))
        refine fcallp hB1 (ct_X_firstWrong_4e02b (fBz h0 hB1) (by omega) (by omega)) ?_
        rintro _ ⟨z2, rfl, hz2⟩
        refine And.intro (True.intro) ?_
        exact ⟨_, rfl, by omega⟩
      · intro c3
        exact fcutJ (I := I1) (j := jc_X_checkDay_bd195_43) (lv' := [(0, .inr (.inr (some 0))), (1, .inl _), (2, .inl _), (3, .inl _), (4, .inl _), (5, .inl _)]) (And.intro rfl (And.intro rfl (And.intro rfl (And.intro rfl (And.intro rfl (And.intro rfl True.intro)))))) ⟨_, _, _, _, _, rfl, rfl, by omega, rfl⟩ (by omega)
    · rintro m _ _ I1 hB1 ⟨y1, y2, y3, y4, y5, rfl, rfl, hb, hm⟩
      refine And.intro (by omega) (And.intro ?_ ?_)
      · intro c4
        refine And.intro ⟨rfl, by decide, by decide⟩ ?_
        refine And.intro ⟨rfl, by decide, by decide⟩ ?_
        refine And.intro ⟨rfl, by decide, by decide⟩ (fgetf fb_513_5 h0 hB1 ?_)
        intro z5 lz5 uz5 qz5
        refine fstore rS_739_739_0_59_1_0 (fzs_sub (by decide +kernel) hW) (by omega) (by omega) ?_
        intro IhB6 ehB6 hB6
        have t7 := fup_self ehB6
        have t8 : IhB6 0 6 = I1 0 6 := (congrFun (congrFun ehB6 0) 6).trans (fup_ne (by omega))
        have t9 : IhB6 513 5 = I1 513 5 := (congrFun (congrFun ehB6 513) 5).trans (fup_ne (by omega))
        refine And.intro ⟨rfl, by decide, by decide⟩ ?_
        refine And.intro ⟨rfl, by decide, by decide⟩ ?_
        refine And.intro ⟨rfl, by decide, by decide⟩ ?_
        refine Exists.intro xm_228 (And.intro mi_228 (And.intro ⟨rfl, rfl, rfl, rfl⟩ (And.intro rfl ?_)))
        refine fcallp hB6 (ct_Cells_oxygen_5c56e (fBz h0 hB6)) ?_
        rintro _ ⟨z10, rfl, hz10⟩
        refine fstore rS_739_739_0_59_1_0 (fzs_sub (by decide +kernel) hW) (by omega) (by omega) ?_
        intro IhB11 ehB11 hB11
        have t12 := fup_self ehB11
        have t13 : IhB11 0 6 = IhB6 0 6 := (congrFun (congrFun ehB11 0) 6).trans (fup_ne (by omega))
        have t14 : IhB11 513 5 = IhB6 513 5 := (congrFun (congrFun ehB11 513) 5).trans (fup_ne (by omega))
        exact fcutJ (I := IhB11) (j := jc_X_checkDay_bd195_34) (lv' := [(0, .inr (.inr (some 0))), (1, .inl _), (2, .inl _), (3, .inl _), (4, .inl _)]) (And.intro rfl (And.intro rfl (And.intro rfl (And.intro rfl (And.intro rfl True.intro))))) ⟨_, _, _, _, rfl, rfl, by omega, rfl⟩ (by omega)
      · intro c15
        refine And.intro ⟨rfl, by decide, by decide⟩ ?_
        refine Exists.intro xm_73 (And.intro mi_73 (And.intro ⟨rfl, rfl, rfl, rfl⟩ (And.intro rfl ?_)))
        refine fcall _ h0 (fzs_sub (by decide +kernel) hW) hB1 (ct_City_passMinute_b0540 (fBz h0 hB1)) ?_
        rintro IhB17 _ hB17 fhB17 rfl
        have t18 := fhB17 0 6 (by decide +kernel)
        exact fcutJ (I := IhB17) (j := jc_X_checkDay_bd195_43) (lv' := [(0, .inr (.inr (some 0))), (1, .inl _), (2, .inl _), (3, .inl _), (4, .inl _), (5, .inl _)]) (And.intro rfl (And.intro rfl (And.intro rfl (And.intro rfl (And.intro rfl (And.intro rfl True.intro)))))) ⟨_, _, _, _, _, rfl, rfl, by omega, rfl⟩ (by omega)
  · have hB0 := fB_self (zn := znJ) (K := fKc wz_920bb) h0
    refine And.intro ⟨rfl, by decide, by decide⟩ (fgetf fb_0_6 h0 hB0 ?_)
    intro z19 lz19 uz19 qz19
    refine And.intro (by omega) (And.intro ?_ ?_)
    · intro c20
      refine And.intro ⟨rfl, by decide, by decide⟩ ?_
      refine And.intro ⟨rfl, by decide, by decide⟩ ?_
      refine Exists.intro xm_223 (And.intro mi_223 (And.intro ⟨rfl, rfl, rfl, rfl⟩ (And.intro rfl ?_)))
      refine fcall _ h0 (fzs_sub (by decide +kernel) hW) hB0 (ct_City_becomeAs_a708a (fBz h0 hB0)) ?_
      rintro IhB22 _ hB22 fhB22 rfl
      have t23 := fhB22 0 6 (by decide +kernel)
      refine And.intro (And.intro (by omega) (And.intro (by omega) (And.intro (by omega) rfl))) ?_
      intro z24 hz24 ez24 dz24
      have dz24 := dz24 (by omega) (by omega)
      change _ = _ / _ at dz24
      refine And.intro (And.intro (by omega) (And.intro (by omega) rfl)) ?_
      intro z25 hz25
      exact fcutJ (I := IhB22) (j := jc_X_checkDay_bd195_34) (lv' := [(0, .inr (.inr (some 0))), (1, .inl _), (2, .inl _), (3, .inl _), (4, .inl _)]) (And.intro rfl (And.intro rfl (And.intro rfl (And.intro rfl (And.intro rfl True.intro))))) ⟨_, _, _, _, rfl, rfl, by omega, rfl⟩ (by omega)
    · intro c26
      refine And.intro (True.intro) ?_
      exact ⟨_, rfl, by omega⟩
set_option maxRecDepth 8000 in
theorem ct_X_check_a63a8 {I : fH} {x1 : Int} {x2 : Int} {x3 : Int} (h0 : fB bsJ I) (ha1 : ((-2147483648) ≤ x1 ∧ x1 ≤ 2147483647)) (ha2 : ((-2147483648) ≤ x2 ∧ x2 ≤ 2147483647)) (ha3 : ((-2147483648) ≤ x3 ∧ x3 ≤ 2147483647)) : fC ρ base n F xTc vwCl xTys D dA la gJ (fbz bsJ znJ (fKc wz_04d21) I) xm_218 [.inr (.inr (some 0)), .inl x1, .inl x2, .inl x3] I (fun _ r => ∃ z, r = some (.inl z) ∧ ((-2147483648) ≤ z ∧ z ≤ 49)) := by
  have hW : fzs wz_04d21 (fKc wz_04d21) := fKc_ok _
  refine f_meth (rb := rbJ) (J := []) 1 400 xG xin_218 x6_218 okJ (fB_self h0) ?_ ?_
  · exact fun q h => absurd h List.not_mem_nil
  · have hB0 := fB_self (zn := znJ) (K := fKc wz_04d21) h0
    refine And.intro ⟨rfl, by decide, by decide⟩ (fgetf fb_0_14 h0 hB0 ?_)
    intro z1 lz1 uz1 qz1
    refine And.intro ⟨rfl, by decide, by decide⟩ (And.intro rfl (And.intro (Or.inl rfl) (fputf fb_0_14 (by decide +kernel) hW (by omega) ?_)))
    intro IhB2 ehB2 hB2
    have t3 := fup_at ehB2 14 (by omega)
    refine And.intro (by omega) (And.intro ?_ ?_)
    · refine And.intro (fun ex => ?_) (And.intro (fun ex => ?_) (And.intro (fun ex => ?_) (True.intro)))
      · skip
        refine Exists.intro xm_13 (And.intro mi_13 (And.intro ⟨rfl, rfl, rfl, rfl⟩ (And.intro True.intro ?_)))
        refine fcallp hB2 (ct_X_within_c27b1 (fBz h0 hB2) (by omega) (by omega) (by omega)) ?_
        rintro _ ⟨z4, rfl, hz4⟩
        refine And.intro (by omega) (And.intro ?_ ?_)
        · intro c5
          refine And.intro (True.intro) ?_
          exact ⟨_, rfl, by omega⟩
        · intro c6
          refine Exists.intro xm_13 (And.intro mi_13 (And.intro ⟨rfl, rfl, rfl, rfl⟩ (And.intro True.intro ?_)))
          refine fcallp hB2 (ct_X_within_c27b1 (fBz h0 hB2) (by omega) (by omega) (by omega)) ?_
          rintro _ ⟨z7, rfl, hz7⟩
          refine And.intro (by omega) (And.intro ?_ ?_)
          · intro c8
            refine And.intro (True.intro) ?_
            exact ⟨_, rfl, by omega⟩
          · intro c9
            refine Exists.intro xm_219 (And.intro mi_219 (And.intro ⟨rfl, rfl, rfl, rfl⟩ (And.intro rfl ?_)))
            refine fcall _ h0 (fzs_sub (by decide +kernel) hW) hB2 (ct_X_checkLoads_0f880 (fBz h0 hB2) (by omega) (by omega) (by omega)) ?_
            rintro IhB11 _ hB11 fhB11 ⟨z10, rfl, hz10⟩
            have t12 := fhB11 0 14 (by decide +kernel)
            refine And.intro (True.intro) ?_
            exact ⟨_, rfl, by omega⟩
      · skip
        refine Exists.intro xm_13 (And.intro mi_13 (And.intro ⟨rfl, rfl, rfl, rfl⟩ (And.intro True.intro ?_)))
        refine fcallp hB2 (ct_X_within_c27b1 (fBz h0 hB2) (by omega) (by omega) (by omega)) ?_
        rintro _ ⟨z13, rfl, hz13⟩
        refine And.intro (by omega) (And.intro ?_ ?_)
        · intro c14
          refine And.intro (True.intro) ?_
          exact ⟨_, rfl, by omega⟩
        · intro c15
          refine Exists.intro xm_221 (And.intro mi_221 (And.intro ⟨rfl, rfl, rfl, rfl⟩ (And.intro rfl ?_)))
          refine fcall _ h0 (fzs_sub (by decide +kernel) hW) hB2 (ct_X_checkOrder_93ad1 (fBz h0 hB2) (by omega) (by omega)) ?_
          rintro IhB17 _ hB17 fhB17 ⟨z16, rfl, hz16⟩
          have t18 := fhB17 0 14 (by decide +kernel)
          refine And.intro (True.intro) ?_
          exact ⟨_, rfl, by omega⟩
      · skip
        refine Exists.intro xm_13 (And.intro mi_13 (And.intro ⟨rfl, rfl, rfl, rfl⟩ (And.intro True.intro ?_)))
        refine fcallp hB2 (ct_X_within_c27b1 (fBz h0 hB2) (by omega) (by omega) (by omega)) ?_
        rintro _ ⟨z19, rfl, hz19⟩
        refine And.intro (by omega) (And.intro ?_ ?_)
        · intro c20
          refine And.intro (True.intro) ?_
          exact ⟨_, rfl, by omega⟩
        · intro c21
          refine Exists.intro xm_222 (And.intro mi_222 (And.intro ⟨rfl, rfl, rfl, rfl⟩ (And.intro rfl ?_)))
          refine fcall _ h0 (fzs_sub (by decide +kernel) hW) hB2 (ct_X_checkDay_bd195 (fBz h0 hB2) (by omega) (by omega)) ?_
          rintro IhB23 _ hB23 fhB23 ⟨z22, rfl, hz22⟩
          have t24 := fhB23 0 14 (by decide +kernel)
          refine And.intro (True.intro) ?_
          exact ⟨_, rfl, by omega⟩
    · intro c25
      refine And.intro (True.intro) ?_
      exact ⟨_, rfl, by omega⟩
set_option maxRecDepth 8000 in
theorem ct_M_dueIs_00623 {I : fH} {x1 : Int} {x2 : Int} (h0 : fB bsJ I) (ha1 : (0 ≤ x1 ∧ x1 ≤ 600)) (ha2 : ((-2147483648) ≤ x2 ∧ x2 ≤ 2147483647)) (hp0 : I 740 39 ≤ 58) : fC ρ base n F xTc vwCl xTys D dA la gJ (fbz bsJ znJ (fKc wz_518f7) I) xm_491 [.inr (.inr (some 740)), .inl x1, .inl x2] I (fun I' r => r = none ∧ I' 740 39 = I 740 39 + 2) := by
  have hW : fzs wz_518f7 (fKc wz_518f7) := fKc_ok _
  refine f_meth (rb := rbJ) (J := []) 1 400 xG xin_491 x6_491 okJ (fB_self h0) ?_ ?_
  · exact fun q h => absurd h List.not_mem_nil
  · have hB0 := fB_self (zn := znJ) (K := fKc wz_518f7) h0
    refine And.intro ⟨rfl, by decide, by decide⟩ ?_
    refine And.intro ⟨rfl, by decide, by decide⟩ (fgetf fb_740_39 h0 hB0 ?_)
    intro z1 lz1 uz1 qz1
    refine fstore rS_760_760_0_59_1_0 (fzs_sub (by decide +kernel) hW) (by omega) (by omega) ?_
    intro IhB2 ehB2 hB2
    have t3 := fup_self ehB2
    have t4 : IhB2 740 39 = I 740 39 := (congrFun (congrFun ehB2 740) 39).trans (fup_ne (by omega))
    refine And.intro ⟨rfl, by decide, by decide⟩ ?_
    refine And.intro ⟨rfl, by decide, by decide⟩ (fgetf fb_740_39 h0 hB2 ?_)
    intro z5 lz5 uz5 qz5
    refine fstore rS_760_760_0_59_1_0 (fzs_sub (by decide +kernel) hW) (by omega) (by omega) ?_
    intro IhB6 ehB6 hB6
    have t7 := fup_self ehB6
    have t8 : IhB6 740 39 = IhB2 740 39 := (congrFun (congrFun ehB6 740) 39).trans (fup_ne (by omega))
    refine And.intro ⟨rfl, by decide, by decide⟩ (fgetf fb_740_39 h0 hB6 ?_)
    intro z9 lz9 uz9 qz9
    refine And.intro ⟨rfl, by decide, by decide⟩ (And.intro rfl (And.intro (Or.inl rfl) (fputf fb_740_39 (by decide +kernel) hW (by omega) ?_)))
    intro IhB10 ehB10 hB10
    have t11 := fup_at ehB10 39 (by omega)
    exact ⟨rfl, by omega⟩
abbrev jc_M_rowsOfLoads_5fe0b_31 (x1 : Int) (x2 : Int) : Nat → fL → List fV → fH → Prop := fun m lv st I => ∃ (y1 : Int) (y3 : Int) (y4 : Int), lv = [(0, .inr (.inr (some 740))), (1, .inl y1), (3, .inl y3), (4, .inl y4)] ∧ st = [] ∧ (((1 ≤ y1 ∧ y1 ≤ 24) ∧ (0 ≤ y3 ∧ y3 ≤ 300) ∧ (0 ≤ y4 ∧ y4 ≤ 24) ∧ (y3 ≤ x2) ∧ (y1 = x1) ∧ (I 740 39 = 2 * y4)) ∧ (∀ i b : Int, 0 ≤ i → i < x1 → 0 ≤ b → b ≤ x2 → sLd I i b) ∧ (y4 < x1 → I 756 (301 * y4 + y3).toNat ≠ 1000000)) ∧ m = (1 + 1 * (24 - y4) : Int).toNat
set_option maxRecDepth 8000 in
theorem ct_M_rowsOfLoads_5fe0b {I : fH} {x1 : Int} {x2 : Int} (h0 : fB bsJ I) (ha1 : ((-2147483648) ≤ x1 ∧ x1 ≤ 2147483647)) (ha2 : ((-2147483648) ≤ x2 ∧ x2 ≤ 2147483647)) (hp0 : I 740 39 = 0) : fC ρ base n F xTc vwCl xTys D dA la gJ (fbz bsJ znJ (fKc wz_7bd74) I) xm_490 [.inr (.inr (some 740)), .inl x1, .inl x2] I (fun _ r => ∃ z, r = some (.inl z) ∧ ((0 ≤ z ∧ z ≤ 0) ∨ z = (-1000000005) ∨ z = (-1000000001))) := by
  have hW : fzs wz_7bd74 (fKc wz_7bd74) := fKc_ok _
  refine f_meth (rb := rbJ) (J := [(31, (jc_M_rowsOfLoads_5fe0b_31 x1 x2))]) 26 400 xG xin_490 x6_490 okJ (fB_self h0) ?_ ?_
  · refine List.forall_mem_cons.mpr ⟨?_, fun q h => absurd h List.not_mem_nil⟩
    · rintro m _ _ I1 hB1 ⟨y1, y3, y4, rfl, rfl, ⟨hb, hx0, hx1⟩, hm⟩
      refine And.intro (by omega) (And.intro ?_ ?_)
      · intro c1
        refine And.intro (True.intro) ?_
        exact ⟨_, rfl, by omega⟩
      · intro c2
        refine Exists.intro xm_469 (And.intro mi_469 (And.intro ⟨rfl, rfl, rfl, rfl⟩ (And.intro rfl ?_)))
        refine fcallp hB1 (ct_M_loadAt_deb31 (fBz h0 hB1) (by omega) (by omega) (hx0 _ _ (by omega) (by omega) (by omega) (by omega))) ?_
        rintro _ ⟨z3, rfl, hz3, g0z3⟩
        refine And.intro ⟨rfl, by decide, by decide⟩ ?_
        intro z4 hz4 ez4 bz4
        clear ez4
        have bz4 := bz4 (by omega)
        refine fload rL_741_741_4560_4563_1_0 h0 hB1 (by omega) ?_
        intro z5 lz5 uz5 qz5
        have w57 := fld_at qz5 (4560 + z3).toNat (by omega)
        have wg := ld_go (I := I1) (i := y4) (b := y3) (l := z3) (by rw [g0z3]; exact hx1 (by omega)) ((frL_at rL_741_741_4570_4665_1_0 (fBz h0 hB1) (a := 741) (i := 4570 + 4 * y4 + z3) (by omega)).2.1)
        have wg1 := wg.1
        intro z6 hz6 ez6 bz6
        clear ez6
        have bz6 := bz6 (by omega)
        refine Exists.intro xm_491 (And.intro mi_491 (And.intro ⟨rfl, rfl, rfl, rfl⟩ (And.intro rfl ?_)))
        refine fcall _ h0 (fzs_sub (by decide +kernel) hW) hB1 (ct_M_dueIs_00623 (fBz h0 hB1) (by omega) (by omega) (by omega)) ?_
        rintro IhB8 _ hB8 fhB8 ⟨rfl, hz7⟩
        exact fcutJ (I := IhB8) (j := (jc_M_rowsOfLoads_5fe0b_31 x1 x2)) (lv' := [(0, .inr (.inr (some 740))), (1, .inl _), (3, .inl _), (4, .inl _)]) (And.intro rfl (And.intro rfl (And.intro rfl (And.intro rfl True.intro)))) ⟨_, _, _, rfl, rfl, ⟨by omega, (fun i b h1 h2 h3 h4 => ld_eq (fFr_S fhB8 (by decide +kernel)) (fFr_at fhB8 756 (by decide +kernel) rfl) (hx0 i b h1 h2 h3 h4)), (fun _ => by rw [fFr_at fhB8 756 (by decide +kernel) rfl]; exact ne_to wg.2 (by omega))⟩, rfl⟩ (by omega)
  · have hB0 := fB_self (zn := znJ) (K := fKc wz_7bd74) h0
    refine Exists.intro xm_465 (And.intro mi_465 (And.intro ⟨rfl, rfl, rfl, rfl⟩ (And.intro True.intro ?_)))
    refine fcallp hB0 (ct_M_isNight_38061 (fBz h0 hB0) (by omega) (by omega)) ?_
    rintro _ ⟨z9, rfl, hz9⟩
    refine And.intro (by omega) (And.intro ?_ ?_)
    · intro c10
      refine Exists.intro xm_466 (And.intro mi_466 (And.intro ⟨rfl, rfl, rfl, rfl⟩ (And.intro rfl ?_)))
      refine fcall _ h0 (fzs_sub (by decide +kernel) hW) hB0 (ct_M_findLoads_1f96d (fBz h0 hB0) (by omega) (by omega)) ?_
      rintro IhB12 _ hB12 fhB12 ⟨z11, rfl, hz11, g0z11, g1z11⟩
      have t13 := fhB12 740 39 (by decide +kernel)
      refine And.intro (by omega) (And.intro ?_ ?_)
      · intro c14
        exact fcutJ (I := IhB12) (j := (jc_M_rowsOfLoads_5fe0b_31 x1 x2)) (lv' := [(0, .inr (.inr (some 740))), (1, .inl _), (3, .inl _), (4, .inl _)]) (And.intro rfl (And.intro rfl (And.intro rfl (And.intro rfl True.intro)))) ⟨_, _, _, rfl, rfl, ⟨by omega, g0z11, (fun _ => ne_to (j := x2.toNat) (by omega) (by omega))⟩, rfl⟩ (by omega)
      · intro c15
        refine And.intro (True.intro) ?_
        exact ⟨_, rfl, by omega⟩
    · intro c16
      refine And.intro (True.intro) ?_
      exact ⟨_, rfl, by omega⟩
abbrev jc_M_oxygen_31ab3_4 : Nat → fL → List fV → fH → Prop := fun m lv st I => ∃ (y1 : Int) (y2 : Int), lv = [(0, .inr (.inr (some 740))), (1, .inl y1), (2, .inl y2)] ∧ st = [] ∧ ((((-2147483648) ≤ y1 ∧ y1 ≤ 2147483647) ∧ (0 ≤ y2 ∧ y2 ≤ 20))) ∧ m = (1 + 1 * (20 - y2) : Int).toNat
set_option maxRecDepth 8000 in
theorem ct_M_oxygen_31ab3 {I : fH}  (h0 : fB bsJ I)  : fC ρ base n F xTc vwCl xTys D dA la gJ (fbz bsJ znJ (fKc []) I) xm_494 [.inr (.inr (some 740))] I (fun _ r => ∃ z, r = some (.inl z) ∧ ((-2147483648) ≤ z ∧ z ≤ 2147483647)) := by
  have hW : fzs [] (fKc []) := fKc_ok _
  refine f_meth (rb := rbJ) (J := [(4, jc_M_oxygen_31ab3_4)]) 22 400 xG xin_494 x6_494 okJ (fB_self h0) ?_ ?_
  · refine List.forall_mem_cons.mpr ⟨?_, fun q h => absurd h List.not_mem_nil⟩
    · rintro m _ _ I1 hB1 ⟨y1, y2, rfl, rfl, hb, hm⟩
      refine And.intro ⟨rfl, by decide, by decide⟩ ?_
      refine fload rL_741_741_5_5_1_0 h0 hB1 (by omega) ?_
      intro z1 lz1 uz1 qz1
      have pz1 := fld_at qz1 5 (by omega)
      refine And.intro (by omega) (And.intro ?_ ?_)
      · intro c2
        refine And.intro (True.intro) ?_
        exact ⟨_, rfl, by omega⟩
      · intro c3
        refine And.intro ⟨rfl, by decide, by decide⟩ ?_
        refine Exists.intro xm_239 (And.intro mi_239 (And.intro ⟨rfl, rfl, rfl, rfl⟩ (And.intro rfl ?_)))
        refine fcallp hB1 (ct_M_cellAt_c15f4 (fBz h0 hB1) (by omega)) ?_
        rintro _ ⟨_, rfl, rfl⟩
        refine fload rL_741_741_31_411_20_0 h0 hB1 (by omega) ?_
        intro z5 lz5 uz5 qz5
        intro z6 hz6 ez6 bz6
        clear ez6
        clear bz6
        exact fcutJ (I := I1) (j := jc_M_oxygen_31ab3_4) (lv' := [(0, .inr (.inr (some 740))), (1, .inl _), (2, .inl _)]) (And.intro rfl (And.intro rfl (And.intro rfl True.intro))) ⟨_, _, rfl, rfl, by omega, rfl⟩ (by omega)
  · have hB0 := fB_self (zn := znJ) (K := fKc []) h0
    exact fcutJ (I := I) (j := jc_M_oxygen_31ab3_4) (lv' := [(0, .inr (.inr (some 740))), (1, .inl _), (2, .inl _)]) (And.intro rfl (And.intro rfl (And.intro rfl True.intro))) ⟨_, _, rfl, rfl, by omega, rfl⟩ (by omega)
abbrev jc_M_rowsOfDay_99311_27 (I0 : fH) : Nat → fL → List fV → fH → Prop := fun m lv st I => ∃ (y1 : Int) (y2 : Int), lv = [(0, .inr (.inr (some 740))), (1, .inl y1), (2, .inl y2)] ∧ st = [] ∧ (((1 ≤ y1 ∧ y1 ≤ 24) ∧ (0 ≤ y2 ∧ y2 ≤ 4900) ∧ (1 ≤ I 740 3 ∧ I 740 3 ≤ 1) ∧ (I0 740 3 = 1) ∧ (I 740 39 = 0)) ∧ (∀ j : Nat, (j : Int) < y2 → I 743 j = I0 741 j ∧ I 741 j = I0 742 j) ∧ (∀ j : Nat, y2 ≤ (j : Int) → I 741 j = I0 741 j)) ∧ m = (6452 + 1 * (4900 - y2) : Int).toNat
abbrev jc_M_rowsOfDay_99311_66 (I0 : fH) : Nat → fL → List fV → fH → Prop := fun m lv st I => ∃ (y1 : Int) (y2 : Int), lv = [(0, .inr (.inr (some 740))), (1, .inl y1), (2, .inl y2)] ∧ st = [] ∧ (((1 ≤ y1 ∧ y1 ≤ 24) ∧ (0 ≤ y2 ∧ y2 ≤ 24) ∧ (1 ≤ I 740 3 ∧ I 740 3 ≤ 1) ∧ (I0 740 3 = 1) ∧ (I 741 0 = I0 742 0 + 60 * y2) ∧ (I 740 39 = 2 * y2)) ∧ (∀ j : Nat, j < 4900 → I 743 j = I0 741 j) ∧ (sI I 741)) ∧ m = (4963 + 62 * (24 - y2) : Int).toNat
abbrev jc_M_rowsOfDay_99311_73 (I0 : fH) : Nat → fL → List fV → fH → Prop := fun m lv st I => ∃ (y1 : Int) (y2 : Int) (y3 : Int), lv = [(0, .inr (.inr (some 740))), (1, .inl y1), (2, .inl y2), (3, .inl y3)] ∧ st = [] ∧ (((1 ≤ y1 ∧ y1 ≤ 24) ∧ (0 ≤ y2 ∧ y2 ≤ 23) ∧ (0 ≤ y3 ∧ y3 ≤ 60) ∧ (1 ≤ I 740 3 ∧ I 740 3 ≤ 1) ∧ (I0 740 3 = 1) ∧ (I 741 0 = I0 742 0 + 60 * y2 + y3) ∧ (I 740 39 = 2 * y2)) ∧ (∀ j : Nat, j < 4900 → I 743 j = I0 741 j) ∧ (sI I 741)) ∧ m = (4902 + 62 * (24 - y2) + 1 * (60 - y3) : Int).toNat
abbrev jc_M_rowsOfDay_99311_111 (I0 : fH) : Nat → fL → List fV → fH → Prop := fun m lv st I => ∃ (y2 : Int), lv = [(0, .inr (.inr (some 740))), (2, .inl y2)] ∧ st = [] ∧ (((0 ≤ y2 ∧ y2 ≤ 4900) ∧ (1 ≤ I 740 3 ∧ I 740 3 ≤ 1) ∧ (I0 740 3 = 1)) ∧ (∀ j : Nat, j < 4900 → I 743 j = I0 741 j) ∧ (∀ j : Nat, (j : Int) < y2 → I 741 j = I0 741 j)) ∧ m = (1 + 1 * (4900 - y2) : Int).toNat
set_option maxRecDepth 8000 in
theorem ct_M_rowsOfDay_99311 {I : fH} {x1 : Int} (h0 : fB bsJ I) (ha1 : ((-2147483648) ≤ x1 ∧ x1 ≤ 2147483647)) (hp0 : I 740 39 = 0) (hp1 : kI I) : fC ρ base n F xTc vwCl xTys D dA la gJ (fbz bsJ znJ (fKc wz_376a3) I) xm_493 [.inr (.inr (some 740)), .inl x1] I (fun I' r => ∃ z, r = some (.inl z) ∧ ((0 ≤ z ∧ z ≤ 0) ∨ z = (-1000000002) ∨ z = (-1000000001)) ∧ (∀ j : Nat, j < 4900 → I' 741 j = I 741 j)) := by
  have hW : fzs wz_376a3 (fKc wz_376a3) := fKc_ok _
  refine f_meth (rb := rbJ) (J := [(27, (jc_M_rowsOfDay_99311_27 I)), (66, (jc_M_rowsOfDay_99311_66 I)), (73, (jc_M_rowsOfDay_99311_73 I)), (111, (jc_M_rowsOfDay_99311_111 I))]) 11353 400 xG xin_493 x6_493 okJ (fB_self h0) ?_ ?_
  · refine List.forall_mem_cons.mpr ⟨?_, List.forall_mem_cons.mpr ⟨?_, List.forall_mem_cons.mpr ⟨?_, List.forall_mem_cons.mpr ⟨?_, fun q h => absurd h List.not_mem_nil⟩⟩⟩⟩
    · rintro m _ _ I1 hB1 ⟨y1, y2, rfl, rfl, ⟨hb, hx0, hx1⟩, hm⟩
      have k1 := fBz_eq hB1 (a := 740) (j := 3) (by decide +kernel)
      obtain ⟨hk1, hk2, hk3⟩ := hp1 (by omega)
      refine And.intro (by omega) (And.intro ?_ ?_)
      · intro c2
        have w0 := (hx0 0 (by omega)).2
        exact fcutJ (I := I1) (j := (jc_M_rowsOfDay_99311_66 I)) (lv' := [(0, .inr (.inr (some 740))), (1, .inl _), (2, .inl _)]) (And.intro rfl (And.intro rfl (And.intro rfl True.intro))) ⟨_, _, rfl, rfl, ⟨by omega, (fun j h => (hx0 j (by omega)).1), (sI_congr (sBd_of2 h0) (fun j hj => (hx0 j (by have := relb_lt hj; omega)).2) hk1)⟩, rfl⟩ (by omega)
      · intro c3
        refine And.intro ⟨rfl, by decide, by decide⟩ ?_
        refine And.intro ⟨rfl, by decide, by decide⟩ ?_
        refine fload rL_741_741_0_4899_1_0 h0 hB1 (by omega) ?_
        intro z4 lz4 uz4 qz4
        refine fstoreX (fzs_sub (by decide +kernel) hW) (asd_st (fBz h0 hB1) qz4 (by omega)) ?_
        intro IhB5 ehB5 hB5
        have t6 := fup_self ehB5
        have t7 : IhB5 740 3 = I1 740 3 := (congrFun (congrFun ehB5 740) 3).trans (fup_ne (by omega))
        have t8 : IhB5 740 39 = I1 740 39 := (congrFun (congrFun ehB5 740) 39).trans (fup_ne (by omega))
        have k9 := fBz_eq hB5 (a := 740) (j := 3) (by decide +kernel)
        refine And.intro ⟨rfl, by decide, by decide⟩ ?_
        refine And.intro ⟨rfl, by decide, by decide⟩ ?_
        refine fload rL_742_742_0_4899_1_0 h0 hB5 (by omega) ?_
        intro z10 lz10 uz10 qz10
        refine fstoreX (fzs_sub (by decide +kernel) hW) (img_bk (fBz h0 hB5) qz10 (by omega) (by rw [sM_keep hB5 (by decide +kernel)]; exact hk2)) ?_
        intro IhB11 ehB11 hB11
        have t12 := fup_self ehB11
        have t13 : IhB11 740 3 = IhB5 740 3 := (congrFun (congrFun ehB11 740) 3).trans (fup_ne (by omega))
        have t14 : IhB11 740 39 = IhB5 740 39 := (congrFun (congrFun ehB11 740) 39).trans (fup_ne (by omega))
        have k15 := fBz_eq hB11 (a := 740) (j := 3) (by decide +kernel)
        exact fcutJ (I := IhB11) (j := (jc_M_rowsOfDay_99311_27 I)) (lv' := [(0, .inr (.inr (some 740))), (1, .inl _), (2, .inl _)]) (And.intro rfl (And.intro rfl (And.intro rfl True.intro))) ⟨_, _, rfl, rfl, ⟨by omega, (fun j h => if ej : j = y2.toNat then (by rw [ej]; exact ⟨(fup_other ehB11 743 _ (Or.inl (by decide))).trans ((fup_self ehB5).trans (qz4.trans (hx1 _ (by omega)))), (fup_self ehB11).trans (qz10.trans (sM_keep hB5 (by decide +kernel) _))⟩) else ⟨(fup_other ehB11 743 j (Or.inl (by decide))).trans ((fup_other ehB5 743 j (Or.inr ej)).trans (hx0 j (by omega)).1), (fup_other ehB11 741 j (Or.inr ej)).trans ((fup_other ehB5 741 j (Or.inl (by decide))).trans (hx0 j (by omega)).2)⟩), (fun j h => (fup_other ehB11 741 j (Or.inr (by omega))).trans ((fup_other ehB5 741 j (Or.inl (by decide))).trans (hx1 j (by omega))))⟩, rfl⟩ (by omega)
    · rintro m _ _ I1 hB1 ⟨y1, y2, rfl, rfl, ⟨hb, hx0, hx1⟩, hm⟩
      have k16 := fBz_eq hB1 (a := 740) (j := 3) (by decide +kernel)
      obtain ⟨hk1, hk2, hk3⟩ := hp1 (by omega)
      refine And.intro (by omega) (And.intro ?_ ?_)
      · intro c17
        exact fcutJ (I := I1) (j := (jc_M_rowsOfDay_99311_111 I)) (lv' := [(0, .inr (.inr (some 740))), (2, .inl _)]) (And.intro rfl (And.intro rfl True.intro)) ⟨_, rfl, rfl, ⟨by omega, hx0, (fun j h => absurd h (by omega))⟩, rfl⟩ (by omega)
      · intro c18
        exact fcutJ (I := I1) (j := (jc_M_rowsOfDay_99311_73 I)) (lv' := [(0, .inr (.inr (some 740))), (1, .inl _), (2, .inl _), (3, .inl _)]) (And.intro rfl (And.intro rfl (And.intro rfl (And.intro rfl True.intro)))) ⟨_, _, _, rfl, rfl, ⟨by omega, hx0, hx1⟩, rfl⟩ (by omega)
    · rintro m _ _ I1 hB1 ⟨y1, y2, y3, rfl, rfl, ⟨hb, hx0, hx1⟩, hm⟩
      have k19 := fBz_eq hB1 (a := 740) (j := 3) (by decide +kernel)
      obtain ⟨hk1, hk2, hk3⟩ := hp1 (by omega)
      refine And.intro (by omega) (And.intro ?_ ?_)
      · intro c20
        refine And.intro ⟨rfl, by decide, by decide⟩ ?_
        refine fload rL_741_741_1_1_1_0 h0 hB1 (by omega) ?_
        intro z21 lz21 uz21 qz21
        have pz21 := fld_at qz21 1 (by omega)
        refine Exists.intro xm_494 (And.intro mi_494 (And.intro ⟨rfl, rfl, rfl, rfl⟩ (And.intro rfl ?_)))
        refine fcallp hB1 (ct_M_oxygen_31ab3 (fBz h0 hB1)) ?_
        rintro _ ⟨z22, rfl, hz22⟩
        refine Exists.intro xm_491 (And.intro mi_491 (And.intro ⟨rfl, rfl, rfl, rfl⟩ (And.intro rfl ?_)))
        refine fcall _ h0 (fzs_sub (by decide +kernel) hW) hB1 (ct_M_dueIs_00623 (fBz h0 hB1) (by omega) (by omega) (by omega)) ?_
        rintro IhB24 _ hB24 fhB24 ⟨rfl, hz23⟩
        have t25 := fhB24 740 3 (by decide +kernel)
        have t26 := fhB24 741 1 (by decide +kernel)
        have k27 := fBz_eq hB24 (a := 740) (j := 3) (by decide +kernel)
        have w100 := fhB24 741 0 (by decide +kernel)
        exact fcutJ (I := IhB24) (j := (jc_M_rowsOfDay_99311_66 I)) (lv' := [(0, .inr (.inr (some 740))), (1, .inl _), (2, .inl _)]) (And.intro rfl (And.intro rfl (And.intro rfl True.intro))) ⟨_, _, rfl, rfl, ⟨by omega, (fun j h => (fFr_at fhB24 743 (by decide +kernel) rfl j).trans (hx0 j h)), (sI_fr hx1 (fBz h0 hB1) fhB24 (by decide +kernel))⟩, rfl⟩ (by omega)
      · intro c28
        refine Exists.intro xm_285 (And.intro mi_285 (And.intro ⟨rfl, rfl, rfl, rfl⟩ (And.intro rfl ?_)))
        refine fcall _ h0 (fzs_sub (by decide +kernel) hW) hB1 (ct_M_minute_7c04c (fBz h0 hB1) hx1 (by omega)) ?_
        rintro IhB30 _ hB30 fhB30 ⟨rfl, hz29⟩
        have t31 := fhB30 740 3 (by decide +kernel)
        have t32 := fhB30 740 39 (by decide +kernel)
        have k33 := fBz_eq hB30 (a := 740) (j := 3) (by decide +kernel)
        exact fcutJ (I := IhB30) (j := (jc_M_rowsOfDay_99311_73 I)) (lv' := [(0, .inr (.inr (some 740))), (1, .inl _), (2, .inl _), (3, .inl _)]) (And.intro rfl (And.intro rfl (And.intro rfl (And.intro rfl True.intro)))) ⟨_, _, _, rfl, rfl, ⟨by omega, (fun j h => (fFr_at fhB30 743 (by decide +kernel) rfl j).trans (hx0 j h)), (sI_fr hx1 (fBz h0 hB1) fhB30 (by decide +kernel))⟩, rfl⟩ (by omega)
    · rintro m _ _ I1 hB1 ⟨y2, rfl, rfl, ⟨hb, hx0, hx1⟩, hm⟩
      have k34 := fBz_eq hB1 (a := 740) (j := 3) (by decide +kernel)
      obtain ⟨hk1, hk2, hk3⟩ := hp1 (by omega)
      refine And.intro (by omega) (And.intro ?_ ?_)
      · intro c35
        refine And.intro (True.intro) ?_
        exact ⟨_, rfl, by omega, (fun j h => hx1 j (by omega))⟩
      · intro c36
        refine And.intro ⟨rfl, by decide, by decide⟩ ?_
        refine And.intro ⟨rfl, by decide, by decide⟩ ?_
        refine fload rL_743_743_0_4899_1_0 h0 hB1 (by omega) ?_
        intro z37 lz37 uz37 qz37
        refine fstoreX (fzs_sub (by decide +kernel) hW) (asd_bk h0 (fBz h0 hB1) qz37 (hx0 _ (by omega)) (by omega)) ?_
        intro IhB38 ehB38 hB38
        have t39 := fup_self ehB38
        have t40 : IhB38 740 3 = I1 740 3 := (congrFun (congrFun ehB38 740) 3).trans (fup_ne (by omega))
        have t41 : IhB38 740 39 = I1 740 39 := (congrFun (congrFun ehB38 740) 39).trans (fup_ne (by omega))
        have k42 := fBz_eq hB38 (a := 740) (j := 3) (by decide +kernel)
        exact fcutJ (I := IhB38) (j := (jc_M_rowsOfDay_99311_111 I)) (lv' := [(0, .inr (.inr (some 740))), (2, .inl _)]) (And.intro rfl (And.intro rfl True.intro)) ⟨_, rfl, rfl, ⟨by omega, (fun j h => (fup_other ehB38 743 j (Or.inl (by decide))).trans (hx0 j h)), (fun j h => if ej : j = y2.toNat then (by rw [ej]; exact (fup_self ehB38).trans (qz37.trans (hx0 _ (by omega)))) else (fup_other ehB38 741 j (Or.inr ej)).trans (hx1 j (by omega)))⟩, rfl⟩ (by omega)
  · have hB0 := fB_self (zn := znJ) (K := fKc wz_376a3) h0
    refine And.intro (by omega) ?_
    refine Exists.intro xm_238 (And.intro mi_238 (And.intro ⟨rfl, rfl, rfl, rfl⟩ (And.intro True.intro ?_)))
    refine fcallp hB0 (ct_M_isIn_27230 (fBz h0 hB0) (by omega) (by omega) (by omega)) ?_
    rintro _ ⟨z43, rfl, hz43⟩
    refine And.intro (by omega) (And.intro ?_ ?_)
    · intro c44
      refine And.intro ⟨rfl, by decide, by decide⟩ (fgetf fb_740_3 h0 hB0 ?_)
      intro z45 lz45 uz45 qz45
      refine And.intro (by omega) (And.intro ?_ ?_)
      · intro c46
        exact fcutJ (I := I) (j := (jc_M_rowsOfDay_99311_27 I)) (lv' := [(0, .inr (.inr (some 740))), (1, .inl _), (2, .inl _)]) (And.intro rfl (And.intro rfl (And.intro rfl True.intro))) ⟨_, _, rfl, rfl, ⟨by omega, (fun j h => absurd h (by omega)), (fun j _ => rfl)⟩, rfl⟩ (by omega)
      · intro c47
        refine And.intro (True.intro) ?_
        exact ⟨_, rfl, by omega, (fun _ _ => rfl)⟩
    · intro c48
      refine And.intro (True.intro) ?_
      exact ⟨_, rfl, by omega, (fun _ _ => rfl)⟩
abbrev jc_M_rowsOfOrder_afdec_24 : Nat → fL → List fV → fH → Prop := fun m lv st I => ∃ (y2 : Int) (y3 : Int) (y4 : Int), lv = [(0, .inr (.inr (some 740))), (2, .inl y2), (3, .inl y3), (4, .inl y4)] ∧ st = [] ∧ ((((0 ≤ y2 ∧ y2 ≤ 2147483647) ∨ y2 = (-1000000004) ∨ y2 = (-1000000002)) ∧ ((-2147483648) ≤ y3 ∧ y3 ≤ 2147483647) ∧ (0 ≤ y4 ∧ y4 ≤ 7) ∧ (I 740 39 = 2 * y4))) ∧ m = (1 + 1 * (7 - y4) : Int).toNat
set_option maxRecDepth 8000 in
theorem ct_M_rowsOfOrder_afdec {I : fH} {x1 : Int} (h0 : fB bsJ I) (ha1 : ((-2147483648) ≤ x1 ∧ x1 ≤ 2147483647)) (hp0 : I 740 39 = 0) : fC ρ base n F xTc vwCl xTys D dA la gJ (fbz bsJ znJ (fKc wz_96c9e) I) xm_492 [.inr (.inr (some 740)), .inl x1] I (fun _ r => ∃ z, r = some (.inl z) ∧ ((0 ≤ z ∧ z ≤ 0) ∨ z = (-1000000004) ∨ z = (-1000000002) ∨ z = (-1000000001))) := by
  have hW : fzs wz_96c9e (fKc wz_96c9e) := fKc_ok _
  refine f_meth (rb := rbJ) (J := [(24, jc_M_rowsOfOrder_afdec_24)]) 9 400 xG xin_492 x6_492 okJ (fB_self h0) ?_ ?_
  · refine List.forall_mem_cons.mpr ⟨?_, fun q h => absurd h List.not_mem_nil⟩
    · rintro m _ _ I1 hB1 ⟨y2, y3, y4, rfl, rfl, hb, hm⟩
      refine And.intro ⟨rfl, by decide, by decide⟩ ?_
      refine fload rL_741_741_12_12_1_0 h0 hB1 (by omega) ?_
      intro z1 lz1 uz1 qz1
      have pz1 := fld_at qz1 12 (by omega)
      refine And.intro (by omega) (And.intro ?_ ?_)
      · intro c2
        refine And.intro (by omega) (And.intro ?_ ?_)
        · intro c3
          refine And.intro (True.intro) ?_
          exact ⟨_, rfl, by omega⟩
        · intro c4
          refine And.intro (True.intro) ?_
          exact ⟨_, rfl, by omega⟩
      · intro c5
        refine And.intro (by omega) (And.intro ?_ ?_)
        · intro c6
          refine And.intro (by omega) (And.intro ?_ ?_)
          · intro c7
            refine And.intro (True.intro) ?_
            exact ⟨_, rfl, by omega⟩
          · intro c8
            refine And.intro (True.intro) ?_
            exact ⟨_, rfl, by omega⟩
        · intro c9
          refine And.intro ⟨rfl, by decide, by decide⟩ ?_
          refine And.intro ⟨rfl, by decide, by decide⟩ ?_
          refine fload rL_758_758_0_6_1_0 h0 hB1 (by omega) ?_
          intro z10 lz10 uz10 qz10
          refine fload rL_741_741_4370_4388_3_0 h0 hB1 (by omega) ?_
          intro z11 lz11 uz11 qz11
          intro z12 hz12 ez12 bz12
          clear ez12
          try replace bz12 := bz12 (by omega)
          refine And.intro ⟨rfl, by decide, by decide⟩ ?_
          refine fload rL_758_758_0_6_1_0 h0 hB1 (by omega) ?_
          intro z13 lz13 uz13 qz13
          refine Exists.intro xm_491 (And.intro mi_491 (And.intro ⟨rfl, rfl, rfl, rfl⟩ (And.intro rfl ?_)))
          refine fcall _ h0 (fzs_sub (by decide +kernel) hW) hB1 (ct_M_dueIs_00623 (fBz h0 hB1) (by omega) (by omega) (by omega)) ?_
          rintro IhB15 _ hB15 fhB15 ⟨rfl, hz14⟩
          have t16 := fhB15 741 12 (by decide +kernel)
          exact fcutJ (I := IhB15) (j := jc_M_rowsOfOrder_afdec_24) (lv' := [(0, .inr (.inr (some 740))), (2, .inl _), (3, .inl _), (4, .inl _)]) (And.intro rfl (And.intro rfl (And.intro rfl (And.intro rfl True.intro)))) ⟨_, _, _, rfl, rfl, by omega, rfl⟩ (by omega)
  · have hB0 := fB_self (zn := znJ) (K := fKc wz_96c9e) h0
    refine Exists.intro xm_477 (And.intro mi_477 (And.intro ⟨rfl, rfl, rfl, rfl⟩ (And.intro True.intro ?_)))
    refine fcallp hB0 (ct_M_isYears_9dc65 (fBz h0 hB0) (by omega)) ?_
    rintro _ ⟨z17, rfl, hz17⟩
    refine And.intro (by omega) (And.intro ?_ ?_)
    · intro c18
      refine Exists.intro xm_478 (And.intro mi_478 (And.intro ⟨rfl, rfl, rfl, rfl⟩ (And.intro rfl ?_)))
      refine fcall _ h0 (fzs_sub (by decide +kernel) hW) hB0 (ct_M_findOrder_1fb74 (fBz h0 hB0) (by omega) (by omega)) ?_
      rintro IhB20 _ hB20 fhB20 ⟨z19, rfl, hz19⟩
      have t21 := fhB20 740 39 (by decide +kernel)
      exact fcutJ (I := IhB20) (j := jc_M_rowsOfOrder_afdec_24) (lv' := [(0, .inr (.inr (some 740))), (2, .inl _), (3, .inl _), (4, .inl _)]) (And.intro rfl (And.intro rfl (And.intro rfl (And.intro rfl True.intro)))) ⟨_, _, _, rfl, rfl, by omega, rfl⟩ (by omega)
    · intro c22
      refine And.intro (True.intro) ?_
      exact ⟨_, rfl, by omega⟩
abbrev jc_M_check_402b5_70 (I0 : fH) : Nat → fL → List fV → fH → Prop := fun m lv st I => ∃ (y4 : Int) (y6 : Int), lv = [(0, .inr (.inr (some 740))), (4, .inl y4), (6, .inl y6)] ∧ st = [] ∧ (((0 ≤ y4 ∧ y4 ≤ 60) ∧ (0 ≤ y6 ∧ y6 ≤ 60) ∧ (0 ≤ I 740 37 ∧ I 740 37 ≤ 0)) ∧ (∀ j : Nat, j < 4900 → I 741 j = I0 741 j)) ∧ m = (1 + 1 * (60 - y6) : Int).toNat
set_option maxRecDepth 8000 in
theorem ct_M_check_402b5 {I : fH} {x1 : Int} {x2 : Int} {x3 : Int} (h0 : fB bsJ I) (ha1 : ((-2147483648) ≤ x1 ∧ x1 ≤ 2147483647)) (ha2 : ((-2147483648) ≤ x2 ∧ x2 ≤ 2147483647)) (ha3 : ((-2147483648) ≤ x3 ∧ x3 ≤ 2147483647)) (hp0 : kI I) : fC ρ base n F xTc vwCl xTys D dA la gJ (fbz bsJ znJ (fKc wz_a99d3) I) xm_489 [.inr (.inr (some 740)), .inl x1, .inl x2, .inl x3] I (fun I' r => ∃ z, r = some (.inl z) ∧ ((0 ≤ z ∧ z ≤ 61) ∨ z = (-1000000005) ∨ z = (-1000000004) ∨ z = (-1000000002) ∨ z = (-1000000001)) ∧ (∀ j : Nat, j < 4900 → I' 741 j = I 741 j)) := by
  have hW : fzs wz_a99d3 (fKc wz_a99d3) := fKc_ok _
  refine f_meth (rb := rbJ) (J := [(70, (jc_M_check_402b5_70 I))]) 62 400 xG xin_489 x6_489 okJ (fB_self h0) ?_ ?_
  · refine List.forall_mem_cons.mpr ⟨?_, fun q h => absurd h List.not_mem_nil⟩
    · rintro m _ _ I1 hB1 ⟨y4, y6, rfl, rfl, ⟨hb, hx0⟩, hm⟩
      refine And.intro (by omega) (And.intro ?_ ?_)
      · intro c1
        refine And.intro (by omega) (And.intro ?_ ?_)
        · intro c2
          refine And.intro (True.intro) ?_
          exact ⟨_, rfl, by omega, hx0⟩
        · intro c3
          refine And.intro ⟨rfl, by decide, by decide⟩ (fgetf fb_740_39 h0 hB1 ?_)
          intro z4 lz4 uz4 qz4
          refine And.intro (by omega) (And.intro ?_ ?_)
          · intro c5
            refine And.intro (True.intro) ?_
            exact ⟨_, rfl, by omega, hx0⟩
          · intro c6
            refine And.intro (True.intro) ?_
            exact ⟨_, rfl, by omega, hx0⟩
      · intro c7
        refine And.intro ⟨rfl, by decide, by decide⟩ (fgetf fb_740_39 h0 hB1 ?_)
        intro z8 lz8 uz8 qz8
        refine And.intro (by omega) (And.intro ?_ ?_)
        · intro c9
          refine And.intro (by omega) (And.intro ?_ ?_)
          · intro c10
            refine And.intro (True.intro) ?_
            exact ⟨_, rfl, by omega, hx0⟩
          · intro c11
            refine And.intro ⟨rfl, by decide, by decide⟩ (fgetf fb_740_39 h0 hB1 ?_)
            intro z12 lz12 uz12 qz12
            refine And.intro (by omega) (And.intro ?_ ?_)
            · intro c13
              refine And.intro (True.intro) ?_
              exact ⟨_, rfl, by omega, hx0⟩
            · intro c14
              refine And.intro (True.intro) ?_
              exact ⟨_, rfl, by omega, hx0⟩
        · intro c15
          refine And.intro ⟨rfl, by decide, by decide⟩ ?_
          refine fload rL_759_759_0_59_1_0 h0 hB1 (by omega) ?_
          intro z16 lz16 uz16 qz16
          refine And.intro ⟨rfl, by decide, by decide⟩ ?_
          refine fload rL_760_760_0_59_1_0 h0 hB1 (by omega) ?_
          intro z17 lz17 uz17 qz17
          refine And.intro (by omega) (And.intro ?_ ?_)
          · intro c18
            refine And.intro (by omega) (And.intro ?_ ?_)
            · intro c19
              refine And.intro (True.intro) ?_
              exact ⟨_, rfl, by omega, hx0⟩
            · intro c20
              refine And.intro ⟨rfl, by decide, by decide⟩ (fgetf fb_740_39 h0 hB1 ?_)
              intro z21 lz21 uz21 qz21
              refine And.intro (by omega) (And.intro ?_ ?_)
              · intro c22
                refine And.intro (True.intro) ?_
                exact ⟨_, rfl, by omega, hx0⟩
              · intro c23
                refine And.intro (True.intro) ?_
                exact ⟨_, rfl, by omega, hx0⟩
          · intro c24
            exact fcutJ (I := I1) (j := (jc_M_check_402b5_70 I)) (lv' := [(0, .inr (.inr (some 740))), (4, .inl _), (6, .inl _)]) (And.intro rfl (And.intro rfl (And.intro rfl True.intro))) ⟨_, _, rfl, rfl, ⟨by omega, hx0⟩, rfl⟩ (by omega)
  · have hB0 := fB_self (zn := znJ) (K := fKc wz_a99d3) h0
    refine And.intro ⟨rfl, by decide, by decide⟩ (fgetf fb_740_37 h0 hB0 ?_)
    intro z25 lz25 uz25 qz25
    refine And.intro ⟨rfl, by decide, by decide⟩ (And.intro rfl (And.intro (Or.inl rfl) (fputf fb_740_37 (by decide +kernel) hW (by omega) ?_)))
    intro IhB26 ehB26 hB26
    have t27 := fup_at ehB26 37 (by omega)
    have t28 : IhB26 740 39 = I 740 39 := (congrFun (congrFun ehB26 740) 39).trans (fup_ne (by omega))
    refine And.intro ⟨rfl, by decide, by decide⟩ (And.intro rfl (And.intro (Or.inl rfl) (fputf fb_740_39 (by decide +kernel) hW (by omega) ?_)))
    intro IhB29 ehB29 hB29
    have t30 : IhB29 740 37 = IhB26 740 37 := (congrFun (congrFun ehB29 740) 37).trans (fup_ne (by omega))
    have t31 := fup_at ehB29 39 (by omega)
    refine And.intro (by omega) (And.intro ?_ ?_)
    · intro c32
      refine And.intro (by omega) (And.intro ?_ ?_)
      · intro c33
        refine And.intro (by omega) (And.intro ?_ ?_)
        · intro c34
          refine And.intro (by omega) (And.intro ?_ ?_)
          · intro c35
            exact fcutJ (I := IhB29) (j := (jc_M_check_402b5_70 I)) (lv' := [(0, .inr (.inr (some 740))), (4, .inl _), (6, .inl _)]) (And.intro rfl (And.intro rfl (And.intro rfl True.intro))) ⟨_, _, rfl, rfl, ⟨by omega, (fun j h => by first | exact (fFr_S fnil0 (by decide +kernel) j).trans ((fup_other ehB29 741 j (Or.inl (by decide))).trans (fup_other ehB26 741 j (Or.inl (by decide)))) | exact (fFr_S fnil0 (by decide +kernel) j).trans ((fup_other ehB29 741 j (Or.inl (by decide))).trans (fup_other ehB26 741 j (Or.inl (by decide)))) | exact (g0nil0 j h).trans ((fup_other ehB29 741 j (Or.inl (by decide))).trans (fup_other ehB26 741 j (Or.inl (by decide)))) | exact ((fup_other ehB29 741 j (Or.inl (by decide))).trans (fup_other ehB26 741 j (Or.inl (by decide)))))⟩, rfl⟩ (by omega)
          · intro c36
            refine And.intro (True.intro) ?_
            exact ⟨_, rfl, by omega, (fun j h => by first | exact (fFr_S fnil0 (by decide +kernel) j).trans ((fup_other ehB29 741 j (Or.inl (by decide))).trans (fup_other ehB26 741 j (Or.inl (by decide)))) | exact (fFr_S fnil0 (by decide +kernel) j).trans ((fup_other ehB29 741 j (Or.inl (by decide))).trans (fup_other ehB26 741 j (Or.inl (by decide)))) | exact (g0nil0 j h).trans ((fup_other ehB29 741 j (Or.inl (by decide))).trans (fup_other ehB26 741 j (Or.inl (by decide)))) | exact ((fup_other ehB29 741 j (Or.inl (by decide))).trans (fup_other ehB26 741 j (Or.inl (by decide)))))⟩
        · intro c37
          refine Exists.intro xm_493 (And.intro mi_493 (And.intro ⟨rfl, rfl, rfl, rfl⟩ (And.intro rfl ?_)))
          refine fcall _ h0 (fzs_sub (by decide +kernel) hW) hB29 (ct_M_rowsOfDay_99311 (fBz h0 hB29) (by omega) (by omega) (kI_keep hp0 h0 hB29 (by decide +kernel) (by decide +kernel))) ?_
          rintro IhB39 _ hB39 fhB39 ⟨z38, rfl, hz38, g0z38⟩
          have t40 := fhB39 740 37 (by decide +kernel)
          refine And.intro (by omega) (And.intro ?_ ?_)
          · intro c41
            exact fcutJ (I := IhB39) (j := (jc_M_check_402b5_70 I)) (lv' := [(0, .inr (.inr (some 740))), (4, .inl _), (6, .inl _)]) (And.intro rfl (And.intro rfl (And.intro rfl True.intro))) ⟨_, _, rfl, rfl, ⟨by omega, (fun j h => by first | exact (fFr_S fnil0 (by decide +kernel) j).trans ((fup_other ehB29 741 j (Or.inl (by decide))).trans (fup_other ehB26 741 j (Or.inl (by decide)))) | exact (fFr_S fnil0 (by decide +kernel) j).trans ((fup_other ehB29 741 j (Or.inl (by decide))).trans (fup_other ehB26 741 j (Or.inl (by decide)))) | exact (g0z38 j h).trans ((fup_other ehB29 741 j (Or.inl (by decide))).trans (fup_other ehB26 741 j (Or.inl (by decide)))) | exact ((fup_other ehB29 741 j (Or.inl (by decide))).trans (fup_other ehB26 741 j (Or.inl (by decide)))))⟩, rfl⟩ (by omega)
          · intro c42
            refine And.intro (True.intro) ?_
            exact ⟨_, rfl, by omega, (fun j h => by first | exact (fFr_S fnil0 (by decide +kernel) j).trans ((fup_other ehB29 741 j (Or.inl (by decide))).trans (fup_other ehB26 741 j (Or.inl (by decide)))) | exact (fFr_S fnil0 (by decide +kernel) j).trans ((fup_other ehB29 741 j (Or.inl (by decide))).trans (fup_other ehB26 741 j (Or.inl (by decide)))) | exact (g0z38 j h).trans ((fup_other ehB29 741 j (Or.inl (by decide))).trans (fup_other ehB26 741 j (Or.inl (by decide)))) | exact ((fup_other ehB29 741 j (Or.inl (by decide))).trans (fup_other ehB26 741 j (Or.inl (by decide)))))⟩
      · intro c43
        refine Exists.intro xm_492 (And.intro mi_492 (And.intro ⟨rfl, rfl, rfl, rfl⟩ (And.intro rfl ?_)))
        refine fcall _ h0 (fzs_sub (by decide +kernel) hW) hB29 (ct_M_rowsOfOrder_afdec (fBz h0 hB29) (by omega) (by omega)) ?_
        rintro IhB45 _ hB45 fhB45 ⟨z44, rfl, hz44⟩
        have t46 := fhB45 740 37 (by decide +kernel)
        refine And.intro (by omega) (And.intro ?_ ?_)
        · intro c47
          exact fcutJ (I := IhB45) (j := (jc_M_check_402b5_70 I)) (lv' := [(0, .inr (.inr (some 740))), (4, .inl _), (6, .inl _)]) (And.intro rfl (And.intro rfl (And.intro rfl True.intro))) ⟨_, _, rfl, rfl, ⟨by omega, (fun j h => by first | exact (fFr_S fnil0 (by decide +kernel) j).trans ((fup_other ehB29 741 j (Or.inl (by decide))).trans (fup_other ehB26 741 j (Or.inl (by decide)))) | exact (fFr_S fhB45 (by decide +kernel) j).trans ((fup_other ehB29 741 j (Or.inl (by decide))).trans (fup_other ehB26 741 j (Or.inl (by decide)))) | exact (g0z38 j h).trans ((fup_other ehB29 741 j (Or.inl (by decide))).trans (fup_other ehB26 741 j (Or.inl (by decide)))) | exact ((fup_other ehB29 741 j (Or.inl (by decide))).trans (fup_other ehB26 741 j (Or.inl (by decide)))))⟩, rfl⟩ (by omega)
        · intro c48
          refine And.intro (True.intro) ?_
          exact ⟨_, rfl, by omega, (fun j h => by first | exact (fFr_S fnil0 (by decide +kernel) j).trans ((fup_other ehB29 741 j (Or.inl (by decide))).trans (fup_other ehB26 741 j (Or.inl (by decide)))) | exact (fFr_S fhB45 (by decide +kernel) j).trans ((fup_other ehB29 741 j (Or.inl (by decide))).trans (fup_other ehB26 741 j (Or.inl (by decide)))) | exact (g0z38 j h).trans ((fup_other ehB29 741 j (Or.inl (by decide))).trans (fup_other ehB26 741 j (Or.inl (by decide)))) | exact ((fup_other ehB29 741 j (Or.inl (by decide))).trans (fup_other ehB26 741 j (Or.inl (by decide)))))⟩
    · intro c49
      refine Exists.intro xm_490 (And.intro mi_490 (And.intro ⟨rfl, rfl, rfl, rfl⟩ (And.intro rfl ?_)))
      refine fcall _ h0 (fzs_sub (by decide +kernel) hW) hB29 (ct_M_rowsOfLoads_5fe0b (fBz h0 hB29) (by omega) (by omega) (by omega)) ?_
      rintro IhB51 _ hB51 fhB51 ⟨z50, rfl, hz50⟩
      have t52 := fhB51 740 37 (by decide +kernel)
      refine And.intro (by omega) (And.intro ?_ ?_)
      · intro c53
        exact fcutJ (I := IhB51) (j := (jc_M_check_402b5_70 I)) (lv' := [(0, .inr (.inr (some 740))), (4, .inl _), (6, .inl _)]) (And.intro rfl (And.intro rfl (And.intro rfl True.intro))) ⟨_, _, rfl, rfl, ⟨by omega, (fun j h => by first | exact (fFr_S fhB51 (by decide +kernel) j).trans ((fup_other ehB29 741 j (Or.inl (by decide))).trans (fup_other ehB26 741 j (Or.inl (by decide)))) | exact (fFr_S fhB45 (by decide +kernel) j).trans ((fup_other ehB29 741 j (Or.inl (by decide))).trans (fup_other ehB26 741 j (Or.inl (by decide)))) | exact (g0z38 j h).trans ((fup_other ehB29 741 j (Or.inl (by decide))).trans (fup_other ehB26 741 j (Or.inl (by decide)))) | exact ((fup_other ehB29 741 j (Or.inl (by decide))).trans (fup_other ehB26 741 j (Or.inl (by decide)))))⟩, rfl⟩ (by omega)
      · intro c54
        refine And.intro (True.intro) ?_
        exact ⟨_, rfl, by omega, (fun j h => by first | exact (fFr_S fhB51 (by decide +kernel) j).trans ((fup_other ehB29 741 j (Or.inl (by decide))).trans (fup_other ehB26 741 j (Or.inl (by decide)))) | exact (fFr_S fhB45 (by decide +kernel) j).trans ((fup_other ehB29 741 j (Or.inl (by decide))).trans (fup_other ehB26 741 j (Or.inl (by decide)))) | exact (g0z38 j h).trans ((fup_other ehB29 741 j (Or.inl (by decide))).trans (fup_other ehB26 741 j (Or.inl (by decide)))) | exact ((fup_other ehB29 741 j (Or.inl (by decide))).trans (fup_other ehB26 741 j (Or.inl (by decide)))))⟩
set_option maxRecDepth 8000 in
theorem ct_Desk_becomeAs_f61cf {I : fH}  (h0 : fB bsJ I)  : fC ρ base n F xTc vwCl xTys D dA la gJ (fbz bsJ znJ (fKc wz_77c59) I) xm_231 [.inr (.inr (some 467)), .inr (.inr (some 211))] I (fun _ r => r = none) := by
  have hW : fzs wz_77c59 (fKc wz_77c59) := fKc_ok _
  refine f_meth (rb := rbJ) (J := []) 1 400 xG xin_231 x6_231 okJ (fB_self h0) ?_ ?_
  · exact fun q h => absurd h List.not_mem_nil
  · have hB0 := fB_self (zn := znJ) (K := fKc wz_77c59) h0
    refine And.intro ⟨rfl, by decide, by decide⟩ ?_
    refine And.intro ⟨rfl, by decide, by decide⟩ ?_
    refine Exists.intro xm_225 (And.intro mi_225 (And.intro ⟨rfl, rfl, rfl, rfl⟩ (And.intro True.intro ?_)))
    refine fcall _ h0 (fzs_sub (by decide +kernel) hW) hB0 (ct_copyRows (W := [468]) (m := 8) (len := 12) (ro := 213) (rd := 469) (fBz h0 hB0) (frCs_of ⟨rfl, rfl, rfl, rfl, by decide⟩ (by decide +kernel))) ?_
    rintro IhB1 _ hB1 fhB1 ⟨rfl, ehB1⟩
    refine And.intro ⟨rfl, by decide, by decide⟩ ?_
    refine And.intro ⟨rfl, by decide, by decide⟩ ?_
    refine Exists.intro xm_75 (And.intro mi_75 (And.intro ⟨rfl, rfl, rfl, rfl⟩ (And.intro True.intro ?_)))
    refine fcall _ h0 (fzs_sub (by decide +kernel) hW) hB1 (ct_copyRow (W := [477]) (len := 8) (fBz h0 hB1) (frC_of (by decide +kernel))) ?_
    rintro IhB2 _ hB2 fhB2 ⟨rfl, ehB2⟩
    refine And.intro ⟨rfl, by decide, by decide⟩ ?_
    refine And.intro ⟨rfl, by decide, by decide⟩ ?_
    refine Exists.intro xm_75 (And.intro mi_75 (And.intro ⟨rfl, rfl, rfl, rfl⟩ (And.intro True.intro ?_)))
    refine fcall _ h0 (fzs_sub (by decide +kernel) hW) hB2 (ct_copyRow (W := [478]) (len := 48) (fBz h0 hB2) (frC_of (by decide +kernel))) ?_
    rintro IhB3 _ hB3 fhB3 ⟨rfl, ehB3⟩
    refine And.intro ⟨rfl, by decide, by decide⟩ ?_
    refine And.intro ⟨rfl, by decide, by decide⟩ ?_
    refine Exists.intro xm_75 (And.intro mi_75 (And.intro ⟨rfl, rfl, rfl, rfl⟩ (And.intro True.intro ?_)))
    refine fcall _ h0 (fzs_sub (by decide +kernel) hW) hB3 (ct_copyRow (W := [479]) (len := 4) (fBz h0 hB3) (frC_of (by decide +kernel))) ?_
    rintro IhB4 _ hB4 fhB4 ⟨rfl, ehB4⟩
    refine And.intro ⟨rfl, by decide, by decide⟩ ?_
    refine And.intro ⟨rfl, by decide, by decide⟩ ?_
    refine Exists.intro xm_225 (And.intro mi_225 (And.intro ⟨rfl, rfl, rfl, rfl⟩ (And.intro True.intro ?_)))
    refine fcall _ h0 (fzs_sub (by decide +kernel) hW) hB4 (ct_copyRows (W := [480]) (m := 24) (len := 4) (ro := 225) (rd := 481) (fBz h0 hB4) (frCs_of ⟨rfl, rfl, rfl, rfl, by decide⟩ (by decide +kernel))) ?_
    rintro IhB5 _ hB5 fhB5 ⟨rfl, ehB5⟩
    refine And.intro ⟨rfl, by decide, by decide⟩ ?_
    refine And.intro ⟨rfl, by decide, by decide⟩ ?_
    refine Exists.intro xm_75 (And.intro mi_75 (And.intro ⟨rfl, rfl, rfl, rfl⟩ (And.intro True.intro ?_)))
    refine fcall _ h0 (fzs_sub (by decide +kernel) hW) hB5 (ct_copyRow (W := [505]) (len := 6) (fBz h0 hB5) (frC_of (by decide +kernel))) ?_
    rintro IhB6 _ hB6 fhB6 ⟨rfl, ehB6⟩
    refine And.intro ⟨rfl, by decide, by decide⟩ ?_
    refine And.intro ⟨rfl, by decide, by decide⟩ ?_
    refine Exists.intro xm_75 (And.intro mi_75 (And.intro ⟨rfl, rfl, rfl, rfl⟩ (And.intro True.intro ?_)))
    refine fcall _ h0 (fzs_sub (by decide +kernel) hW) hB6 (ct_copyRow (W := [506]) (len := 6) (fBz h0 hB6) (frC_of (by decide +kernel))) ?_
    rintro IhB7 _ hB7 fhB7 ⟨rfl, ehB7⟩
    refine And.intro ⟨rfl, by decide, by decide⟩ ?_
    refine And.intro ⟨rfl, by decide, by decide⟩ ?_
    refine Exists.intro xm_75 (And.intro mi_75 (And.intro ⟨rfl, rfl, rfl, rfl⟩ (And.intro True.intro ?_)))
    refine fcall _ h0 (fzs_sub (by decide +kernel) hW) hB7 (ct_copyRow (W := [507]) (len := 6) (fBz h0 hB7) (frC_of (by decide +kernel))) ?_
    rintro IhB8 _ hB8 fhB8 ⟨rfl, ehB8⟩
    refine And.intro ⟨rfl, by decide, by decide⟩ (fgetf fb_211_8 h0 hB8 ?_)
    intro z9 lz9 uz9 qz9
    refine And.intro ⟨rfl, by decide, by decide⟩ (And.intro rfl (And.intro (Or.inl rfl) (fputf fb_467_8 (by decide +kernel) hW (by omega) ?_)))
    intro IhB10 ehB10 hB10
    have t11 : IhB10 211 8 = IhB8 211 8 := (congrFun (congrFun ehB10 211) 8).trans (fup_ne (by omega))
    have t12 := fup_at ehB10 8 (by omega)
    refine And.intro ⟨rfl, by decide, by decide⟩ ?_
    refine And.intro ⟨rfl, by decide, by decide⟩ ?_
    refine Exists.intro xm_75 (And.intro mi_75 (And.intro ⟨rfl, rfl, rfl, rfl⟩ (And.intro True.intro ?_)))
    refine fcall _ h0 (fzs_sub (by decide +kernel) hW) hB10 (ct_copyRow (W := [508]) (len := 10) (fBz h0 hB10) (frC_of (by decide +kernel))) ?_
    rintro IhB13 _ hB13 fhB13 ⟨rfl, ehB13⟩
    have t14 := fhB13 211 8 (by decide +kernel)
    have t15 := fhB13 467 8 (by decide +kernel)
    refine And.intro ⟨rfl, by decide, by decide⟩ ?_
    refine And.intro ⟨rfl, by decide, by decide⟩ ?_
    refine Exists.intro xm_75 (And.intro mi_75 (And.intro ⟨rfl, rfl, rfl, rfl⟩ (And.intro True.intro ?_)))
    refine fcall _ h0 (fzs_sub (by decide +kernel) hW) hB13 (ct_copyRow (W := [509]) (len := 10) (fBz h0 hB13) (frC_of (by decide +kernel))) ?_
    rintro IhB16 _ hB16 fhB16 ⟨rfl, ehB16⟩
    have t17 := fhB16 211 8 (by decide +kernel)
    have t18 := fhB16 467 8 (by decide +kernel)
    refine And.intro ⟨rfl, by decide, by decide⟩ (fgetf fb_211_11 h0 hB16 ?_)
    intro z19 lz19 uz19 qz19
    refine And.intro ⟨rfl, by decide, by decide⟩ (And.intro rfl (And.intro (Or.inl rfl) (fputf fb_467_11 (by decide +kernel) hW (by omega) ?_)))
    intro IhB20 ehB20 hB20
    have t21 : IhB20 211 8 = IhB16 211 8 := (congrFun (congrFun ehB20 211) 8).trans (fup_ne (by omega))
    have t22 : IhB20 211 11 = IhB16 211 11 := (congrFun (congrFun ehB20 211) 11).trans (fup_ne (by omega))
    have t23 : IhB20 467 8 = IhB16 467 8 := (congrFun (congrFun ehB20 467) 8).trans (fup_ne (by omega))
    have t24 := fup_at ehB20 11 (by omega)
    refine And.intro ⟨rfl, by decide, by decide⟩ ?_
    refine And.intro ⟨rfl, by decide, by decide⟩ ?_
    refine Exists.intro xm_75 (And.intro mi_75 (And.intro ⟨rfl, rfl, rfl, rfl⟩ (And.intro True.intro ?_)))
    refine fcall _ h0 (fzs_sub (by decide +kernel) hW) hB20 (ct_copyRow (W := [510]) (len := 7) (fBz h0 hB20) (frC_of (by decide +kernel))) ?_
    rintro IhB25 _ hB25 fhB25 ⟨rfl, ehB25⟩
    have t26 := fhB25 211 8 (by decide +kernel)
    have t27 := fhB25 211 11 (by decide +kernel)
    have t28 := fhB25 467 8 (by decide +kernel)
    have t29 := fhB25 467 11 (by decide +kernel)
    refine And.intro ⟨rfl, by decide, by decide⟩ ?_
    refine And.intro ⟨rfl, by decide, by decide⟩ ?_
    refine Exists.intro xm_75 (And.intro mi_75 (And.intro ⟨rfl, rfl, rfl, rfl⟩ (And.intro True.intro ?_)))
    refine fcall _ h0 (fzs_sub (by decide +kernel) hW) hB25 (ct_copyRow (W := [511]) (len := 7) (fBz h0 hB25) (frC_of (by decide +kernel))) ?_
    rintro IhB30 _ hB30 fhB30 ⟨rfl, ehB30⟩
    have t31 := fhB30 211 8 (by decide +kernel)
    have t32 := fhB30 211 11 (by decide +kernel)
    have t33 := fhB30 467 8 (by decide +kernel)
    have t34 := fhB30 467 11 (by decide +kernel)
    refine And.intro ⟨rfl, by decide, by decide⟩ ?_
    refine And.intro ⟨rfl, by decide, by decide⟩ ?_
    refine Exists.intro xm_75 (And.intro mi_75 (And.intro ⟨rfl, rfl, rfl, rfl⟩ (And.intro True.intro ?_)))
    refine fcall _ h0 (fzs_sub (by decide +kernel) hW) hB30 (ct_copyRow (W := [512]) (len := 7) (fBz h0 hB30) (frC_of (by decide +kernel))) ?_
    rintro IhB35 _ hB35 fhB35 ⟨rfl, ehB35⟩
    have t36 := fhB35 211 8 (by decide +kernel)
    have t37 := fhB35 211 11 (by decide +kernel)
    have t38 := fhB35 467 8 (by decide +kernel)
    have t39 := fhB35 467 11 (by decide +kernel)
    refine And.intro ⟨rfl, by decide, by decide⟩ (fgetf fb_211_15 h0 hB35 ?_)
    intro z40 lz40 uz40 qz40
    refine And.intro ⟨rfl, by decide, by decide⟩ (And.intro rfl (And.intro (Or.inl rfl) (fputf fb_467_15 (by decide +kernel) hW (by omega) ?_)))
    intro IhB41 ehB41 hB41
    have t42 : IhB41 211 8 = IhB35 211 8 := (congrFun (congrFun ehB41 211) 8).trans (fup_ne (by omega))
    have t43 : IhB41 211 11 = IhB35 211 11 := (congrFun (congrFun ehB41 211) 11).trans (fup_ne (by omega))
    have t44 : IhB41 211 15 = IhB35 211 15 := (congrFun (congrFun ehB41 211) 15).trans (fup_ne (by omega))
    have t45 : IhB41 467 8 = IhB35 467 8 := (congrFun (congrFun ehB41 467) 8).trans (fup_ne (by omega))
    have t46 : IhB41 467 11 = IhB35 467 11 := (congrFun (congrFun ehB41 467) 11).trans (fup_ne (by omega))
    have t47 := fup_at ehB41 15 (by omega)
    exact rfl
set_option maxRecDepth 8000 in
theorem ct_People_becomeAs_f9dc9 {I : fH}  (h0 : fB bsJ I)  : fC ρ base n F xTc vwCl xTys D dA la gJ (fbz bsJ znJ (fKc wz_35895) I) xm_227 [.inr (.inr (some 433)), .inr (.inr (some 177))] I (fun _ r => r = none) := by
  have hW : fzs wz_35895 (fKc wz_35895) := fKc_ok _
  refine f_meth (rb := rbJ) (J := []) 1 400 xG xin_227 x6_227 okJ (fB_self h0) ?_ ?_
  · exact fun q h => absurd h List.not_mem_nil
  · have hB0 := fB_self (zn := znJ) (K := fKc wz_35895) h0
    refine And.intro ⟨rfl, by decide, by decide⟩ ?_
    refine And.intro ⟨rfl, by decide, by decide⟩ ?_
    refine Exists.intro xm_75 (And.intro mi_75 (And.intro ⟨rfl, rfl, rfl, rfl⟩ (And.intro True.intro ?_)))
    refine fcall _ h0 (fzs_sub (by decide +kernel) hW) hB0 (ct_copyRow (W := [434]) (len := 24) (fBz h0 hB0) (frC_of (by decide +kernel))) ?_
    rintro IhB1 _ hB1 fhB1 ⟨rfl, ehB1⟩
    refine And.intro ⟨rfl, by decide, by decide⟩ ?_
    refine And.intro ⟨rfl, by decide, by decide⟩ ?_
    refine Exists.intro xm_75 (And.intro mi_75 (And.intro ⟨rfl, rfl, rfl, rfl⟩ (And.intro True.intro ?_)))
    refine fcall _ h0 (fzs_sub (by decide +kernel) hW) hB1 (ct_copyRow (W := [435]) (len := 24) (fBz h0 hB1) (frC_of (by decide +kernel))) ?_
    rintro IhB2 _ hB2 fhB2 ⟨rfl, ehB2⟩
    refine And.intro ⟨rfl, by decide, by decide⟩ ?_
    refine And.intro ⟨rfl, by decide, by decide⟩ ?_
    refine Exists.intro xm_75 (And.intro mi_75 (And.intro ⟨rfl, rfl, rfl, rfl⟩ (And.intro True.intro ?_)))
    refine fcall _ h0 (fzs_sub (by decide +kernel) hW) hB2 (ct_copyRow (W := [436]) (len := 24) (fBz h0 hB2) (frC_of (by decide +kernel))) ?_
    rintro IhB3 _ hB3 fhB3 ⟨rfl, ehB3⟩
    refine And.intro ⟨rfl, by decide, by decide⟩ ?_
    refine And.intro ⟨rfl, by decide, by decide⟩ ?_
    refine Exists.intro xm_75 (And.intro mi_75 (And.intro ⟨rfl, rfl, rfl, rfl⟩ (And.intro True.intro ?_)))
    refine fcall _ h0 (fzs_sub (by decide +kernel) hW) hB3 (ct_copyRow (W := [437]) (len := 24) (fBz h0 hB3) (frC_of (by decide +kernel))) ?_
    rintro IhB4 _ hB4 fhB4 ⟨rfl, ehB4⟩
    refine And.intro ⟨rfl, by decide, by decide⟩ (fgetf fb_177_4 h0 hB4 ?_)
    intro z5 lz5 uz5 qz5
    refine And.intro ⟨rfl, by decide, by decide⟩ (And.intro rfl (And.intro (Or.inl rfl) (fputf fb_433_4 (by decide +kernel) hW (by omega) ?_)))
    intro IhB6 ehB6 hB6
    have t7 : IhB6 177 4 = IhB4 177 4 := (congrFun (congrFun ehB6 177) 4).trans (fup_ne (by omega))
    have t8 := fup_at ehB6 4 (by omega)
    exact rfl
set_option maxRecDepth 8000 in
theorem ct_Works_becomeAs_81b4d {I : fH}  (h0 : fB bsJ I)  : fC ρ base n F xTc vwCl xTys D dA la gJ (fbz bsJ znJ (fKc wz_470c1) I) xm_226 [.inr (.inr (some 419)), .inr (.inr (some 163))] I (fun _ r => r = none) := by
  have hW : fzs wz_470c1 (fKc wz_470c1) := fKc_ok _
  refine f_meth (rb := rbJ) (J := []) 1 400 xG xin_226 x6_226 okJ (fB_self h0) ?_ ?_
  · exact fun q h => absurd h List.not_mem_nil
  · have hB0 := fB_self (zn := znJ) (K := fKc wz_470c1) h0
    refine And.intro ⟨rfl, by decide, by decide⟩ ?_
    refine And.intro ⟨rfl, by decide, by decide⟩ ?_
    refine Exists.intro xm_75 (And.intro mi_75 (And.intro ⟨rfl, rfl, rfl, rfl⟩ (And.intro True.intro ?_)))
    refine fcall _ h0 (fzs_sub (by decide +kernel) hW) hB0 (ct_copyRow (W := [420]) (len := 24) (fBz h0 hB0) (frC_of (by decide +kernel))) ?_
    rintro IhB1 _ hB1 fhB1 ⟨rfl, ehB1⟩
    refine And.intro ⟨rfl, by decide, by decide⟩ ?_
    refine And.intro ⟨rfl, by decide, by decide⟩ ?_
    refine Exists.intro xm_75 (And.intro mi_75 (And.intro ⟨rfl, rfl, rfl, rfl⟩ (And.intro True.intro ?_)))
    refine fcall _ h0 (fzs_sub (by decide +kernel) hW) hB1 (ct_copyRow (W := [421]) (len := 24) (fBz h0 hB1) (frC_of (by decide +kernel))) ?_
    rintro IhB2 _ hB2 fhB2 ⟨rfl, ehB2⟩
    refine And.intro ⟨rfl, by decide, by decide⟩ ?_
    refine And.intro ⟨rfl, by decide, by decide⟩ ?_
    refine Exists.intro xm_75 (And.intro mi_75 (And.intro ⟨rfl, rfl, rfl, rfl⟩ (And.intro True.intro ?_)))
    refine fcall _ h0 (fzs_sub (by decide +kernel) hW) hB2 (ct_copyRow (W := [422]) (len := 24) (fBz h0 hB2) (frC_of (by decide +kernel))) ?_
    rintro IhB3 _ hB3 fhB3 ⟨rfl, ehB3⟩
    refine And.intro ⟨rfl, by decide, by decide⟩ ?_
    refine And.intro ⟨rfl, by decide, by decide⟩ ?_
    refine Exists.intro xm_75 (And.intro mi_75 (And.intro ⟨rfl, rfl, rfl, rfl⟩ (And.intro True.intro ?_)))
    refine fcall _ h0 (fzs_sub (by decide +kernel) hW) hB3 (ct_copyRow (W := [423]) (len := 24) (fBz h0 hB3) (frC_of (by decide +kernel))) ?_
    rintro IhB4 _ hB4 fhB4 ⟨rfl, ehB4⟩
    refine And.intro ⟨rfl, by decide, by decide⟩ ?_
    refine And.intro ⟨rfl, by decide, by decide⟩ ?_
    refine Exists.intro xm_75 (And.intro mi_75 (And.intro ⟨rfl, rfl, rfl, rfl⟩ (And.intro True.intro ?_)))
    refine fcall _ h0 (fzs_sub (by decide +kernel) hW) hB4 (ct_copyRow (W := [424]) (len := 24) (fBz h0 hB4) (frC_of (by decide +kernel))) ?_
    rintro IhB5 _ hB5 fhB5 ⟨rfl, ehB5⟩
    refine And.intro ⟨rfl, by decide, by decide⟩ ?_
    refine And.intro ⟨rfl, by decide, by decide⟩ ?_
    refine Exists.intro xm_75 (And.intro mi_75 (And.intro ⟨rfl, rfl, rfl, rfl⟩ (And.intro True.intro ?_)))
    refine fcall _ h0 (fzs_sub (by decide +kernel) hW) hB5 (ct_copyRow (W := [425]) (len := 24) (fBz h0 hB5) (frC_of (by decide +kernel))) ?_
    rintro IhB6 _ hB6 fhB6 ⟨rfl, ehB6⟩
    refine And.intro ⟨rfl, by decide, by decide⟩ ?_
    refine And.intro ⟨rfl, by decide, by decide⟩ ?_
    refine Exists.intro xm_75 (And.intro mi_75 (And.intro ⟨rfl, rfl, rfl, rfl⟩ (And.intro True.intro ?_)))
    refine fcall _ h0 (fzs_sub (by decide +kernel) hW) hB6 (ct_copyRow (W := [426]) (len := 24) (fBz h0 hB6) (frC_of (by decide +kernel))) ?_
    rintro IhB7 _ hB7 fhB7 ⟨rfl, ehB7⟩
    refine And.intro ⟨rfl, by decide, by decide⟩ ?_
    refine And.intro ⟨rfl, by decide, by decide⟩ ?_
    refine Exists.intro xm_75 (And.intro mi_75 (And.intro ⟨rfl, rfl, rfl, rfl⟩ (And.intro True.intro ?_)))
    refine fcall _ h0 (fzs_sub (by decide +kernel) hW) hB7 (ct_copyRow (W := [427]) (len := 24) (fBz h0 hB7) (frC_of (by decide +kernel))) ?_
    rintro IhB8 _ hB8 fhB8 ⟨rfl, ehB8⟩
    refine And.intro ⟨rfl, by decide, by decide⟩ ?_
    refine And.intro ⟨rfl, by decide, by decide⟩ ?_
    refine Exists.intro xm_75 (And.intro mi_75 (And.intro ⟨rfl, rfl, rfl, rfl⟩ (And.intro True.intro ?_)))
    refine fcall _ h0 (fzs_sub (by decide +kernel) hW) hB8 (ct_copyRow (W := [428]) (len := 24) (fBz h0 hB8) (frC_of (by decide +kernel))) ?_
    rintro IhB9 _ hB9 fhB9 ⟨rfl, ehB9⟩
    refine And.intro ⟨rfl, by decide, by decide⟩ ?_
    refine And.intro ⟨rfl, by decide, by decide⟩ ?_
    refine Exists.intro xm_75 (And.intro mi_75 (And.intro ⟨rfl, rfl, rfl, rfl⟩ (And.intro True.intro ?_)))
    refine fcall _ h0 (fzs_sub (by decide +kernel) hW) hB9 (ct_copyRow (W := [429]) (len := 24) (fBz h0 hB9) (frC_of (by decide +kernel))) ?_
    rintro IhB10 _ hB10 fhB10 ⟨rfl, ehB10⟩
    refine And.intro ⟨rfl, by decide, by decide⟩ ?_
    refine And.intro ⟨rfl, by decide, by decide⟩ ?_
    refine Exists.intro xm_75 (And.intro mi_75 (And.intro ⟨rfl, rfl, rfl, rfl⟩ (And.intro True.intro ?_)))
    refine fcall _ h0 (fzs_sub (by decide +kernel) hW) hB10 (ct_copyRow (W := [430]) (len := 24) (fBz h0 hB10) (frC_of (by decide +kernel))) ?_
    rintro IhB11 _ hB11 fhB11 ⟨rfl, ehB11⟩
    refine And.intro ⟨rfl, by decide, by decide⟩ ?_
    refine And.intro ⟨rfl, by decide, by decide⟩ ?_
    refine Exists.intro xm_75 (And.intro mi_75 (And.intro ⟨rfl, rfl, rfl, rfl⟩ (And.intro True.intro ?_)))
    refine fcall _ h0 (fzs_sub (by decide +kernel) hW) hB11 (ct_copyRow (W := [431]) (len := 24) (fBz h0 hB11) (frC_of (by decide +kernel))) ?_
    rintro IhB12 _ hB12 fhB12 ⟨rfl, ehB12⟩
    refine And.intro ⟨rfl, by decide, by decide⟩ ?_
    refine And.intro ⟨rfl, by decide, by decide⟩ ?_
    refine Exists.intro xm_75 (And.intro mi_75 (And.intro ⟨rfl, rfl, rfl, rfl⟩ (And.intro True.intro ?_)))
    refine fcall _ h0 (fzs_sub (by decide +kernel) hW) hB12 (ct_copyRow (W := [432]) (len := 24) (fBz h0 hB12) (frC_of (by decide +kernel))) ?_
    rintro IhB13 _ hB13 fhB13 ⟨rfl, ehB13⟩
    refine And.intro ⟨rfl, by decide, by decide⟩ (fgetf fb_163_13 h0 hB13 ?_)
    intro z14 lz14 uz14 qz14
    refine And.intro ⟨rfl, by decide, by decide⟩ (And.intro rfl (And.intro (Or.inl rfl) (fputf fb_419_13 (by decide +kernel) hW (by omega) ?_)))
    intro IhB15 ehB15 hB15
    have t16 : IhB15 163 13 = IhB13 163 13 := (congrFun (congrFun ehB15 163) 13).trans (fup_ne (by omega))
    have t17 := fup_at ehB15 13 (by omega)
    exact rfl
end CT

set_option linter.all false
/-! contracts (written by gen95.py) -/
theorem rL_694_694_0_5_1_0 : frL gJ bsJ 100 ((694, 694), (0, 5), (1, 0), ((-2147483648), 2147483647)) := frL_hull (by decide) (by decide +kernel)
abbrev wz_007ef : List Nat := [11305]
abbrev wz_59734 : List Nat := [538, 684]
theorem rS_684_684_0_23_1_0 : frS gJ bsJ znJ [684] 100 ((684, 684), (0, 23), (1, 0), ((-2147483648), 2147483647)) := frS_dflt (by decide) (by decide +kernel)
theorem rL_677_677_0_23_1_0 : frL gJ bsJ 100 ((677, 677), (0, 23), (1, 0), (0, 19)) := frL_of (by decide +kernel)
theorem rL_683_683_0_23_1_0 : frL gJ bsJ 100 ((683, 683), (0, 23), (1, 0), ((-2147483648), 2147483647)) := frL_hull (by decide) (by decide +kernel)
theorem rL_679_679_0_23_1_0 : frL gJ bsJ 100 ((679, 679), (0, 23), (1, 0), ((-2147483648), 2147483647)) := frL_hull (by decide) (by decide +kernel)
abbrev wz_e4d0d : List Nat := [683, 685]
theorem rL_685_685_0_23_1_0 : frL gJ bsJ 100 ((685, 685), (0, 23), (1, 0), ((-2147483648), 2147483647)) := frL_hull (by decide) (by decide +kernel)
theorem rS_683_683_0_23_1_0 : frS gJ bsJ znJ [683] 100 ((683, 683), (0, 23), (1, 0), ((-2147483648), 2147483647)) := frS_dflt (by decide) (by decide +kernel)
theorem rS_685_685_0_23_1_0 : frS gJ bsJ znJ [685] 100 ((685, 685), (0, 23), (1, 0), ((-2147483648), 2147483647)) := frS_dflt (by decide) (by decide +kernel)
abbrev wz_a2d33 : List Nat := [538, 683, 684, 685]
theorem rL_698_698_0_60_1_0 : frL gJ bsJ 100 ((698, 698), (0, 60), (1, 0), ((-2147483648), 2147483647)) := frL_hull (by decide) (by decide +kernel)
theorem fb_513_7 : bsJ 513 7 = ((-2147483648), 2147483647) := by decide +kernel
theorem fb_513_6 : bsJ 513 6 = ((-2147483648), 2147483647) := by decide +kernel
abbrev wz_8d85d : List Nat := [686, 687, 688]
theorem rS_687_687_0_23_1_0 : frS gJ bsJ znJ [687] 100 ((687, 687), (0, 23), (1, 0), ((-1000000005), 60)) := frS_of (by decide +kernel)
theorem rL_688_688_0_23_1_0 : frL gJ bsJ 100 ((688, 688), (0, 23), (1, 0), ((-2147483648), 2147483647)) := frL_hull (by decide) (by decide +kernel)
theorem rL_697_697_0_60_1_0 : frL gJ bsJ 100 ((697, 697), (0, 60), (1, 0), ((-2147483648), 2147483647)) := frL_hull (by decide) (by decide +kernel)
theorem rS_688_688_0_23_1_0 : frS gJ bsJ znJ [688] 100 ((688, 688), (0, 23), (1, 0), ((-2147483648), 2147483647)) := frS_dflt (by decide) (by decide +kernel)
theorem rS_686_686_0_23_1_0 : frS gJ bsJ znJ [686] 100 ((686, 686), (0, 23), (1, 0), ((-2147483648), 2147483647)) := frS_dflt (by decide) (by decide +kernel)
abbrev wz_a50d7 : List Nat := [694, 11306]
theorem rS_694_694_0_5_1_0 : frS gJ bsJ znJ [694] 100 ((694, 694), (0, 5), (1, 0), ((-2147483648), 2147483647)) := frS_dflt (by decide) (by decide +kernel)
abbrev wz_7903c : List Nat := [517, 538, 694]
abbrev wz_791b2 : List Nat := [517, 538, 683, 684, 685, 686, 687, 688, 694, 11306]
abbrev wz_f7c52 : List Nat := [517, 538, 559, 584, 680, 682, 683, 684, 685, 686, 687, 688, 693, 694, 11305, 11306, 11309, 11412]
abbrev wz_5c8a7 : List Nat := [690, 691, 692, 693, 11604]
theorem x6_227 : f60c xTc xTys xm_227 = true := by decide +kernel
theorem fb_433_4 : bsJ 433 4 = (0, 24) := by decide +kernel
abbrev wz_1abc8 : List Nat := [676, 677, 678, 679, 680, 681, 682, 683, 684, 685, 686, 687, 688, 11513]
theorem x6_226 : f60c xTc xTys xm_226 = true := by decide +kernel
theorem fb_419_13 : bsJ 419 13 = (0, 24) := by decide +kernel
abbrev wz_64c1d : List Nat := [515, 516, 517, 538, 559, 580, 581, 582, 583, 584, 11405, 11410, 11412]
theorem x6_224 : f60c xTc xTys xm_224 = true := by decide +kernel
theorem fb_258_5 : bsJ 258 5 = (0, 20) := by decide +kernel
theorem fb_258_10 : bsJ 258 10 = (0, 24) := by decide +kernel
theorem fb_258_12 : bsJ 258 12 = (0, 90) := by decide +kernel
abbrev wz_7a224 : List Nat := [515, 516, 517, 538, 559, 580, 581, 582, 583, 584, 676, 677, 678, 679, 680, 681, 682, 683, 684, 685, 686, 687, 688, 690, 691, 692, 693, 694, 695, 11305, 11306, 11307, 11308, 11309, 11405, 11410, 11412, 11513, 11604]
theorem x6_223 : f60c xTc xTys xm_223 = true := by decide +kernel
theorem fb_257_5 : bsJ 257 5 = (0, 600) := by decide +kernel
theorem fb_257_6 : bsJ 257 6 = ((-2147483648), 2147483647) := by decide +kernel
theorem fb_257_7 : bsJ 257 7 = ((-2147483648), 2147483647) := by decide +kernel
theorem fb_257_8 : bsJ 257 8 = ((-2147483648), 2147483647) := by decide +kernel
theorem fb_257_9 : bsJ 257 9 = ((-2147483648), 2147483647) := by decide +kernel
theorem x6_228 : f60c xTc xTys xm_228 = true := by decide +kernel
abbrev wz_920bb : List Nat := [515, 516, 517, 538, 559, 580, 581, 582, 583, 584, 676, 677, 678, 679, 680, 681, 682, 683, 684, 685, 686, 687, 688, 690, 691, 692, 693, 694, 695, 739, 11305, 11306, 11307, 11308, 11309, 11405, 11410, 11412, 11513, 11604]
theorem x6_222 : f60c xTc xTys xm_222 = true := by decide +kernel
theorem fb_0_6 : bsJ 0 6 = (0, 1) := by decide +kernel
abbrev wz_04d21 : List Nat := [515, 516, 517, 538, 559, 580, 581, 582, 583, 584, 676, 677, 678, 679, 680, 681, 682, 683, 684, 685, 686, 687, 688, 690, 691, 692, 693, 694, 695, 733, 734, 736, 737, 739, 10014, 11305, 11306, 11307, 11308, 11309, 11405, 11410, 11412, 11513, 11604, 12102, 12103, 12104]
theorem x6_218 : f60c xTc xTys xm_218 = true := by decide +kernel
abbrev wz_518f7 : List Nat := [760, 12239]
theorem x6_491 : f60c xTc xTys xm_491 = true := by decide +kernel
theorem fb_740_39 : bsJ 740 39 = (0, 60) := by decide +kernel
theorem rS_760_760_0_59_1_0 : frS gJ bsJ znJ [760] 100 ((760, 760), (0, 59), (1, 0), ((-2147483648), 2147483647)) := frS_dflt (by decide) (by decide +kernel)
abbrev wz_7bd74 : List Nat := [756, 760, 12239]
theorem x6_490 : f60c xTc xTys xm_490 = true := by decide +kernel
theorem x6_494 : f60c xTc xTys xm_494 = true := by decide +kernel
abbrev wz_376a3 : List Nat := [743, 760, 12239, 20000, 20001, 20002, 20003, 20004, 20005, 20006, 20007, 20008, 20009, 20010, 20011, 20012, 20013, 20014, 20015, 20016, 20017, 20018, 20019, 20020, 20021, 20022, 20023, 20024, 20025, 20026, 20027, 20028, 20029, 20100, 20101, 20102, 20103, 20104, 20105, 20106, 20107, 20108, 20109, 20110, 20111, 20112, 20113, 20114, 20115, 20116, 20117, 20118, 20119, 20200, 20201, 20202, 20203, 20300, 20301, 20302, 20303, 20304, 20305, 20306, 20307, 20308, 20309, 20310, 20311, 20312, 20313, 20400, 20401, 20402, 20403, 20404, 20405, 20500, 20600, 20601, 20602, 20603, 20604, 20605, 20700, 20701, 20702, 20703, 20704, 20705, 20706, 20707, 20800, 20801, 20802, 20810, 20811, 20820, 20821, 20822, 20830, 20831, 20832, 20833, 20834, 20840, 20850]
theorem x6_493 : f60c xTc xTys xm_493 = true := by decide +kernel
theorem rL_742_742_0_4899_1_0 : frL gJ bsJ 100 ((742, 742), (0, 4899), (1, 0), ((-2147483648), 2147483647)) := frL_hull (by decide) (by decide +kernel)
theorem rL_743_743_0_4899_1_0 : frL gJ bsJ 100 ((743, 743), (0, 4899), (1, 0), ((-2147483648), 2147483647)) := frL_hull (by decide) (by decide +kernel)
theorem fb_740_3 : bsJ 740 3 = (0, 1) := by decide +kernel
abbrev wz_96c9e : List Nat := [757, 758, 760, 12233, 12234, 12235, 12239]
theorem x6_492 : f60c xTc xTys xm_492 = true := by decide +kernel
abbrev wz_a99d3 : List Nat := [743, 756, 757, 758, 760, 12233, 12234, 12235, 12237, 12239, 20000, 20001, 20002, 20003, 20004, 20005, 20006, 20007, 20008, 20009, 20010, 20011, 20012, 20013, 20014, 20015, 20016, 20017, 20018, 20019, 20020, 20021, 20022, 20023, 20024, 20025, 20026, 20027, 20028, 20029, 20100, 20101, 20102, 20103, 20104, 20105, 20106, 20107, 20108, 20109, 20110, 20111, 20112, 20113, 20114, 20115, 20116, 20117, 20118, 20119, 20200, 20201, 20202, 20203, 20300, 20301, 20302, 20303, 20304, 20305, 20306, 20307, 20308, 20309, 20310, 20311, 20312, 20313, 20400, 20401, 20402, 20403, 20404, 20405, 20500, 20600, 20601, 20602, 20603, 20604, 20605, 20700, 20701, 20702, 20703, 20704, 20705, 20706, 20707, 20800, 20801, 20802, 20810, 20811, 20820, 20821, 20822, 20830, 20831, 20832, 20833, 20834, 20840, 20850]
theorem x6_489 : f60c xTc xTys xm_489 = true := by decide +kernel
theorem rL_759_759_0_59_1_0 : frL gJ bsJ 100 ((759, 759), (0, 59), (1, 0), ((-2147483648), 2147483647)) := frL_hull (by decide) (by decide +kernel)
theorem rL_760_760_0_59_1_0 : frL gJ bsJ 100 ((760, 760), (0, 59), (1, 0), ((-2147483648), 2147483647)) := frL_hull (by decide) (by decide +kernel)
abbrev wz_77c59 : List Nat := [468, 477, 478, 479, 480, 505, 506, 507, 508, 509, 510, 511, 512, 11208, 11211, 11215]
theorem x6_231 : f60c xTc xTys xm_231 = true := by decide +kernel
theorem fb_467_8 : bsJ 467 8 = (0, 6) := by decide +kernel
theorem fb_467_11 : bsJ 467 11 = (0, 10) := by decide +kernel
theorem fb_467_15 : bsJ 467 15 = (0, 7) := by decide +kernel
abbrev wz_35895 : List Nat := [434, 435, 436, 437, 11004]
abbrev wz_470c1 : List Nat := [420, 421, 422, 423, 424, 425, 426, 427, 428, 429, 430, 431, 432, 10913]
abbrev wz_479cc : List Nat := [259, 260, 261, 282, 303, 324, 325, 326, 327, 328, 10805, 10810, 10812]
abbrev wz_7d688 : List Nat := [259, 260, 261, 282, 303, 324, 325, 326, 327, 328, 420, 421, 422, 423, 424, 425, 426, 427, 428, 429, 430, 431, 432, 434, 435, 436, 437, 438, 439, 10705, 10706, 10707, 10708, 10709, 10805, 10810, 10812, 10913, 11004]
abbrev wz_e7604 : List Nat := [444, 445, 446, 447, 448, 449, 462, 11106, 11107, 11108]
theorem x6_230 : f60c xTc xTys xm_230 = true := by decide +kernel
theorem fb_443_6 : bsJ 443 6 = (0, 12) := by decide +kernel
theorem fb_443_7 : bsJ 443 7 = ((-2147483648), 2147483647) := by decide +kernel
theorem fb_443_8 : bsJ 443 8 = (0, 1) := by decide +kernel
abbrev wz_cdb06 : List Nat := [259, 260, 261, 282, 303, 324, 325, 326, 327, 328, 420, 421, 422, 423, 424, 425, 426, 427, 428, 429, 430, 431, 432, 434, 435, 436, 437, 438, 439, 444, 445, 446, 447, 448, 449, 462, 468, 477, 478, 479, 480, 505, 506, 507, 508, 509, 510, 511, 512, 10006, 10705, 10706, 10707, 10708, 10709, 10805, 10810, 10812, 10913, 11004, 11106, 11107, 11108, 11208, 11211, 11215]
theorem x6_229 : f60c xTc xTys xm_229 = true := by decide +kernel
abbrev wz_7d75a : List Nat := [742, 12203]
theorem x6_495 : f60c xTc xTys xm_495 = true := by decide +kernel
abbrev wz_52e23 : List Nat := [3, 4, 5, 26, 47, 68, 69, 70, 71, 72, 10205, 10210, 10212]
section CT
variable {ρ : Nat → Int32} {base n : Nat} {F : Nat → Prop} {D : va_G} {dA : Nat → ClassId} {la : Launch}
abbrev jc_City_weight_9bc16_10 : Nat → fL → List fV → fH → Prop := fun m lv st I => ∃ (y1 : Int) (y2 : Int), lv = [(0, .inr (.inr (some 513))), (1, .inl y1), (2, .inl y2)] ∧ st = [] ∧ ((((-2147483648) ≤ y1 ∧ y1 ≤ 2147483647) ∧ (0 ≤ y2 ∧ y2 ≤ 5))) ∧ m = (26 + 1 * (5 - y2) : Int).toNat
abbrev jc_City_weight_9bc16_48 : Nat → fL → List fV → fH → Prop := fun m lv st I => ∃ (y2 : Int) (y3 : Int), lv = [(0, .inr (.inr (some 513))), (2, .inl y2), (3, .inl y3)] ∧ st = [] ∧ ((((-2147483648) ≤ y2 ∧ y2 ≤ 2147483647) ∧ (0 ≤ y3 ∧ y3 ≤ 24))) ∧ m = (1 + 1 * (24 - y3) : Int).toNat
set_option maxRecDepth 8000 in
theorem ct_City_weight_9bc16 {I : fH}  (h0 : fB bsJ I)  : fC ρ base n F xTc vwCl xTys D dA la gJ (fbz bsJ znJ (fKc []) I) xm_65 [.inr (.inr (some 513))] I (fun _ r => ∃ z, r = some (.inl z) ∧ ((-2147483648) ≤ z ∧ z ≤ 2147483647)) := by
  have hW : fzs [] (fKc []) := fKc_ok _
  refine f_meth (rb := rbJ) (J := [(10, jc_City_weight_9bc16_10), (48, jc_City_weight_9bc16_48)]) 32 400 xG xin_65 x6_65 okJ (fB_self h0) ?_ ?_
  · refine List.forall_mem_cons.mpr ⟨?_, List.forall_mem_cons.mpr ⟨?_, fun q h => absurd h List.not_mem_nil⟩⟩
    · rintro m _ _ I1 hB1 ⟨y1, y2, rfl, rfl, hb, hm⟩
      refine And.intro (And.intro (by first | exact fi_ hb.2.1 hb.2.2 rfl | omega) (by first | exact ⟨by decide, by decide⟩ | omega)) (And.intro ?_ ?_)
      · intro c1
        refine And.intro ⟨rfl, by decide, by decide⟩ ?_
        refine Exists.intro xm_67 (And.intro mi_67 (And.intro ⟨rfl, rfl, rfl, rfl⟩ (And.intro rfl ?_)))
        refine fcallp hB1 (ct_People_living_f14dc (fBz h0 hB1)) ?_
        rintro _ ⟨z2, rfl, hz2⟩
        intro z3 hz3 ez3 bz3
        clear ez3
        clear bz3
        refine And.intro (And.intro (by first | exact fi_ hb.1.1 hb.1.2 rfl | omega) (And.intro (by first | exact ⟨by decide, by decide⟩ | omega) (And.intro (by first | exact by decide | omega) rfl))) ?_
        intro z4 hz4 ez4 dz4
        intro z5 hz5 ez5 bz5
        clear ez5
        clear bz5
        exact fcutJ (I := I1) (j := jc_City_weight_9bc16_48) (lv' := [(0, .inr (.inr (some 513))), (2, .inl _), (3, .inl _)]) (And.intro rfl (And.intro rfl (And.intro rfl True.intro))) ⟨_, _, rfl, rfl, by omega, rfl⟩ (by omega)
      · intro c6
        refine And.intro ⟨rfl, by decide, by decide⟩ ?_
        refine fload1 rL_694_694_0_5_1_0 h0 hB1 ⟨by decide, by decide⟩ (by first | exact ⟨hb.2.1, Int.le_trans (Int.le_trans c6 (Int.le_refl _)) (by decide)⟩ | omega) ?_
        intro z7 lz7 uz7 qz7
        intro z8 hz8 ez8 bz8
        clear ez8
        clear bz8
        exact fcutJ (I := I1) (j := jc_City_weight_9bc16_10) (lv' := [(0, .inr (.inr (some 513))), (1, .inl _), (2, .inl _)]) (And.intro rfl (And.intro rfl (And.intro rfl True.intro))) ⟨_, _, rfl, rfl, by omega, rfl⟩ (by omega)
    · rintro m _ _ I1 hB1 ⟨y2, y3, rfl, rfl, hb, hm⟩
      refine And.intro ⟨rfl, by decide, by decide⟩ ?_
      refine And.intro ⟨rfl, by decide, by decide⟩ (fgetf fb_675_13 h0 hB1 ?_)
      intro z9 lz9 uz9 qz9
      refine And.intro (And.intro (by first | exact fi_ hb.2.1 hb.2.2 rfl | omega) (by first | exact fi_ lz9 uz9 rfl | omega)) (And.intro ?_ ?_)
      · intro c10
        refine And.intro (True.intro) ?_
        exact ⟨_, rfl, (by first | exact ⟨hb.1.1, hb.1.2⟩ | omega)⟩
      · intro c11
        refine And.intro ⟨rfl, by decide, by decide⟩ ?_
        refine Exists.intro xm_68 (And.intro mi_68 (And.intro ⟨rfl, rfl, rfl, rfl⟩ (And.intro rfl ?_)))
        refine fcallp hB1 (ct_Works_weightOf_23190 (fBz h0 hB1) (by first | exact ⟨hb.2.1, Int.le_trans (Int.le_sub_one_of_lt (Int.lt_of_lt_of_le c11 uz9)) (by decide)⟩ | omega)) ?_
        rintro _ ⟨z12, rfl, hz12⟩
        intro z13 hz13 ez13 bz13
        clear ez13
        clear bz13
        exact fcutJ (I := I1) (j := jc_City_weight_9bc16_48) (lv' := [(0, .inr (.inr (some 513))), (2, .inl _), (3, .inl _)]) (And.intro rfl (And.intro rfl (And.intro rfl True.intro))) ⟨_, _, rfl, rfl, by omega, rfl⟩ (by omega)
  · have hB0 := fB_self (zn := znJ) (K := fKc []) h0
    refine And.intro ⟨rfl, by decide, by decide⟩ ?_
    refine Exists.intro xm_66 (And.intro mi_66 (And.intro ⟨rfl, rfl, rfl, rfl⟩ (And.intro rfl ?_)))
    refine fcallp hB0 (ct_Cells_gases_f9efb (fBz h0 hB0)) ?_
    rintro _ ⟨z14, rfl, hz14⟩
    exact fcutJ (I := I) (j := jc_City_weight_9bc16_10) (lv' := [(0, .inr (.inr (some 513))), (1, .inl _), (2, .inl _)]) (And.intro rfl (And.intro rfl (And.intro rfl True.intro))) ⟨_, _, rfl, rfl, by omega, rfl⟩ (by omega)
set_option maxRecDepth 8000 in
theorem ct_City_rise_ae6a0 {I : fH}  (h0 : fB bsJ I)  : fC ρ base n F xTc vwCl xTys D dA la gJ (fbz bsJ znJ (fKc wz_007ef) I) xm_94 [.inr (.inr (some 513))] I (fun _ r => r = none) := by
  have hW : fzs wz_007ef (fKc wz_007ef) := fKc_ok _
  refine f_meth (rb := rbJ) (J := []) 1 400 xG xin_94 x6_94 okJ (fB_self h0) ?_ ?_
  · exact fun q h => absurd h List.not_mem_nil
  · have hB0 := fB_self (zn := znJ) (K := fKc wz_007ef) h0
    refine Exists.intro xm_62 (And.intro mi_62 (And.intro ⟨rfl, rfl, rfl, rfl⟩ (And.intro rfl ?_)))
    refine fcallp hB0 (ct_City_lift_1f18c (fBz h0 hB0)) ?_
    rintro _ ⟨z1, rfl, hz1⟩
    refine Exists.intro xm_65 (And.intro mi_65 (And.intro ⟨rfl, rfl, rfl, rfl⟩ (And.intro rfl ?_)))
    refine fcallp hB0 (ct_City_weight_9bc16 (fBz h0 hB0)) ?_
    rintro _ ⟨z2, rfl, hz2⟩
    intro z3 hz3 ez3 bz3
    clear ez3
    try replace bz3 := bz3 (by omega)
    refine And.intro (And.intro (by omega) (And.intro (by first | exact ⟨by decide, by decide⟩ | omega) (And.intro (by first | exact by decide | omega) rfl))) ?_
    intro z4 hz4 ez4 dz4
    refine And.intro (And.intro (by first | exact ⟨by decide, by decide⟩ | omega) (And.intro (by omega) rfl)) ?_
    intro z5 hz5
    refine And.intro (And.intro (by first | exact ⟨by decide, by decide⟩ | omega) (And.intro (by omega) rfl)) ?_
    intro z6 hz6
    refine And.intro ⟨rfl, by decide, by decide⟩ (fgetf fb_513_5 h0 hB0 ?_)
    intro z7 lz7 uz7 qz7
    refine And.intro (And.intro (by first | exact ⟨by decide, by decide⟩ | omega) (And.intro (by omega) rfl)) ?_
    intro z8 hz8
    refine And.intro (And.intro (by first | exact ⟨by decide, by decide⟩ | omega) (And.intro (by omega) rfl)) ?_
    intro z9 hz9
    refine And.intro ⟨rfl, by decide, by decide⟩ (And.intro rfl (And.intro (Or.inl rfl) (fputf fb_513_5 (by decide +kernel) hW (by omega) ?_)))
    intro IhB10 ehB10 hB10
    have t11 := fup_at ehB10 5 (by first | rfl | omega)
    exact rfl
set_option maxRecDepth 8000 in
theorem ct_City_loseGas_9b857 {I : fH} {x1 : Int} {x2 : Int} (h0 : fB bsJ I) (ha1 : (0 ≤ x1 ∧ x1 ≤ 23)) (ha2 : ((-2147483648) ≤ x2 ∧ x2 ≤ 2147483647)) : fC ρ base n F xTc vwCl xTys D dA la gJ (fbz bsJ znJ (fKc wz_59734) I) xm_81 [.inr (.inr (some 513)), .inl x1, .inl x2] I (fun _ r => r = none) := by
  have hW : fzs wz_59734 (fKc wz_59734) := fKc_ok _
  refine f_meth (rb := rbJ) (J := []) 1 400 xG xin_81 x6_81 okJ (fB_self h0) ?_ ?_
  · exact fun q h => absurd h List.not_mem_nil
  · have hB0 := fB_self (zn := znJ) (K := fKc wz_59734) h0
    refine And.intro ⟨rfl, by decide, by decide⟩ ?_
    refine And.intro ⟨rfl, by decide, by decide⟩ ?_
    refine fload1 rL_684_684_0_23_1_0 h0 hB0 ⟨by decide, by decide⟩ (by first | exact ⟨ha1.1, ha1.2⟩ | omega) ?_
    intro z1 lz1 uz1 qz1
    intro z2 hz2 ez2 bz2
    clear ez2
    clear bz2
    refine fstore1 rS_684_684_0_23_1_0 (fzs_sub (by decide +kernel) hW) ⟨by decide, by decide⟩ (by first | exact ⟨ha1.1, ha1.2⟩ | omega) (by omega) ?_
    intro IhB3 ehB3 hB3
    have t4 := fup_self ehB3
    refine And.intro ⟨rfl, by decide, by decide⟩ ?_
    refine And.intro ⟨rfl, by decide, by decide⟩ ?_
    refine And.intro ⟨rfl, by decide, by decide⟩ ?_
    refine And.intro ⟨rfl, by decide, by decide⟩ ?_
    refine fload1 rL_677_677_0_23_1_0 h0 hB3 ⟨by decide, by decide⟩ (by first | exact ⟨ha1.1, ha1.2⟩ | omega) ?_
    intro z5 lz5 uz5 qz5
    refine And.intro ⟨rfl, by decide⟩ (And.intro (by first | exact ⟨lz5, Int.lt_of_le_of_lt uz5 (by decide)⟩ | omega) ?_)
    refine fload rL_539_558_0_4_1_0 h0 hB3 (by omega) ?_
    intro z6 lz6 uz6 qz6
    intro z7 hz7 ez7 bz7
    clear ez7
    clear bz7
    refine fstore rS_539_558_0_4_1_0 (fzs_sub (by decide +kernel) hW) (by omega) (by omega) ?_
    intro IhB8 ehB8 hB8
    have t9 := fup_self ehB8
    exact rfl
abbrev jc_Works_isPatched_0f28c_2 : Nat → fL → List fV → fH → Prop := fun m lv st I => ∃ (y1 : Int) (y2 : Int), lv = [(0, .inr (.inr (some 675))), (1, .inl y1), (2, .inl y2)] ∧ st = [] ∧ (((0 ≤ y1 ∧ y1 ≤ 23) ∧ (0 ≤ y2 ∧ y2 ≤ 24))) ∧ m = (1 + 1 * (24 - y2) : Int).toNat
set_option maxRecDepth 8000 in
theorem ct_Works_isPatched_0f28c {I : fH} {x1 : Int} (h0 : fB bsJ I) (ha1 : (0 ≤ x1 ∧ x1 ≤ 23)) : fC ρ base n F xTc vwCl xTys D dA la gJ (fbz bsJ znJ (fKc []) I) xm_79 [.inr (.inr (some 675)), .inl x1] I (fun _ r => ∃ z, r = some (.inl z) ∧ (0 ≤ z ∧ z ≤ 1)) := by
  have hW : fzs [] (fKc []) := fKc_ok _
  refine f_meth (rb := rbJ) (J := [(2, jc_Works_isPatched_0f28c_2)]) 26 400 xG xin_79 x6_79 okJ (fB_self h0) ?_ ?_
  · refine List.forall_mem_cons.mpr ⟨?_, fun q h => absurd h List.not_mem_nil⟩
    · rintro m _ _ I1 hB1 ⟨y1, y2, rfl, rfl, hb, hm⟩
      refine And.intro ⟨rfl, by decide, by decide⟩ (fgetf fb_675_13 h0 hB1 ?_)
      intro z1 lz1 uz1 qz1
      refine And.intro (And.intro (by first | exact fi_ hb.2.1 hb.2.2 rfl | omega) (by first | exact fi_ lz1 uz1 rfl | omega)) (And.intro ?_ ?_)
      · intro c2
        refine And.intro (⟨by decide, by decide⟩) ?_
        exact ⟨_, rfl, (by first | exact ⟨by decide, by decide⟩ | omega)⟩
      · intro c3
        refine And.intro ⟨rfl, by decide, by decide⟩ ?_
        refine fload1 rL_676_676_0_23_1_0 h0 hB1 ⟨by decide, by decide⟩ (by first | exact ⟨hb.2.1, Int.le_trans (Int.le_sub_one_of_lt (Int.lt_of_lt_of_le c3 uz1)) (by decide)⟩ | omega) ?_
        intro z4 lz4 uz4 qz4
        refine And.intro (And.intro (by first | exact fi_ lz4 uz4 rfl | omega) (by first | exact ⟨by decide, by decide⟩ | omega)) (And.intro ?_ ?_)
        · intro c5
          exact fcutJ (I := I1) (j := jc_Works_isPatched_0f28c_2) (lv' := [(0, .inr (.inr (some 675))), (1, .inl _), (2, .inl _)]) (And.intro rfl (And.intro rfl (And.intro rfl True.intro))) ⟨_, _, rfl, rfl, by omega, rfl⟩ (by omega)
        · intro c6
          refine And.intro ⟨rfl, by decide, by decide⟩ ?_
          refine fload1 rL_683_683_0_23_1_0 h0 hB1 ⟨by decide, by decide⟩ (by first | exact ⟨hb.2.1, Int.le_trans (Int.le_sub_one_of_lt (Int.lt_of_lt_of_le c3 uz1)) (by decide)⟩ | omega) ?_
          intro z7 lz7 uz7 qz7
          refine And.intro (And.intro (by first | exact fi_ lz7 uz7 rfl | omega) (by first | exact fi_ hb.1.1 hb.1.2 rfl | omega)) (And.intro ?_ ?_)
          · intro c8
            exact fcutJ (I := I1) (j := jc_Works_isPatched_0f28c_2) (lv' := [(0, .inr (.inr (some 675))), (1, .inl _), (2, .inl _)]) (And.intro rfl (And.intro rfl (And.intro rfl True.intro))) ⟨_, _, rfl, rfl, by omega, rfl⟩ (by omega)
          · intro c9
            refine And.intro ⟨rfl, by decide, by decide⟩ ?_
            refine fload1 rL_679_679_0_23_1_0 h0 hB1 ⟨by decide, by decide⟩ (by first | exact ⟨hb.2.1, Int.le_trans (Int.le_sub_one_of_lt (Int.lt_of_lt_of_le c3 uz1)) (by decide)⟩ | omega) ?_
            intro z10 lz10 uz10 qz10
            refine And.intro (And.intro (by first | exact fi_ lz10 uz10 rfl | omega) (by first | exact ⟨by decide, by decide⟩ | omega)) (And.intro ?_ ?_)
            · intro c11
              exact fcutJ (I := I1) (j := jc_Works_isPatched_0f28c_2) (lv' := [(0, .inr (.inr (some 675))), (1, .inl _), (2, .inl _)]) (And.intro rfl (And.intro rfl (And.intro rfl True.intro))) ⟨_, _, rfl, rfl, by omega, rfl⟩ (by omega)
            · intro c12
              refine And.intro ⟨rfl, by decide, by decide⟩ ?_
              refine fload1 rL_686_686_0_23_1_0 h0 hB1 ⟨by decide, by decide⟩ (by first | exact ⟨hb.2.1, Int.le_trans (Int.le_sub_one_of_lt (Int.lt_of_lt_of_le c3 uz1)) (by decide)⟩ | omega) ?_
              intro z13 lz13 uz13 qz13
              refine And.intro (by first | exact fi_ lz13 uz13 rfl | omega) (And.intro ?_ ?_)
              · intro c14
                exact fcutJ (I := I1) (j := jc_Works_isPatched_0f28c_2) (lv' := [(0, .inr (.inr (some 675))), (1, .inl _), (2, .inl _)]) (And.intro rfl (And.intro rfl (And.intro rfl True.intro))) ⟨_, _, rfl, rfl, by omega, rfl⟩ (by omega)
              · intro c15
                refine And.intro (⟨by decide, by decide⟩) ?_
                exact ⟨_, rfl, (by first | exact ⟨by decide, by decide⟩ | omega)⟩
  · have hB0 := fB_self (zn := znJ) (K := fKc []) h0
    exact fcutJ (I := I) (j := jc_Works_isPatched_0f28c_2) (lv' := [(0, .inr (.inr (some 675))), (1, .inl _), (2, .inl _)]) (And.intro rfl (And.intro rfl (And.intro rfl True.intro))) ⟨_, _, rfl, rfl, by omega, rfl⟩ (by omega)
set_option maxRecDepth 8000 in
theorem ct_Works_wear_b8097 {I : fH} {x1 : Int} {x2 : Int} (h0 : fB bsJ I) (ha1 : (0 ≤ x1 ∧ x1 ≤ 23)) (ha2 : ((-2147483648) ≤ x2 ∧ x2 ≤ 2147483647)) : fC ρ base n F xTc vwCl xTys D dA la gJ (fbz bsJ znJ (fKc wz_e4d0d) I) xm_80 [.inr (.inr (some 675)), .inl x1, .inl x2] I (fun _ r => r = none) := by
  have hW : fzs wz_e4d0d (fKc wz_e4d0d) := fKc_ok _
  refine f_meth (rb := rbJ) (J := []) 1 400 xG xin_80 x6_80 okJ (fB_self h0) ?_ ?_
  · exact fun q h => absurd h List.not_mem_nil
  · have hB0 := fB_self (zn := znJ) (K := fKc wz_e4d0d) h0
    refine And.intro ⟨rfl, by decide, by decide⟩ ?_
    refine fload1 rL_685_685_0_23_1_0 h0 hB0 ⟨by decide, by decide⟩ (by first | exact ⟨ha1.1, ha1.2⟩ | omega) ?_
    intro z1 lz1 uz1 qz1
    intro z2 hz2 ez2 bz2
    clear ez2
    try replace bz2 := bz2 (by omega)
    refine And.intro (And.intro (by omega) (And.intro (by first | exact ⟨by decide, by decide⟩ | omega) (And.intro (by first | exact by decide | omega) rfl))) ?_
    intro z3 hz3 ez3 dz3
    refine And.intro ⟨rfl, by decide, by decide⟩ ?_
    refine fload1 rL_683_683_0_23_1_0 h0 hB0 ⟨by decide, by decide⟩ (by first | exact ⟨ha1.1, ha1.2⟩ | omega) ?_
    intro z4 lz4 uz4 qz4
    refine And.intro (And.intro (by omega) (And.intro (by first | exact fi_ lz4 uz4 rfl | omega) rfl)) ?_
    intro z5 hz5
    refine And.intro ⟨rfl, by decide, by decide⟩ ?_
    refine fload1 rL_683_683_0_23_1_0 h0 hB0 ⟨by decide, by decide⟩ (by first | exact ⟨ha1.1, ha1.2⟩ | omega) ?_
    intro z6 lz6 uz6 qz6
    intro z7 hz7 ez7 bz7
    clear ez7
    try replace bz7 := bz7 (by omega)
    refine fstore1 rS_683_683_0_23_1_0 (fzs_sub (by decide +kernel) hW) ⟨by decide, by decide⟩ (by first | exact ⟨ha1.1, ha1.2⟩ | omega) (by omega) ?_
    intro IhB8 ehB8 hB8
    have t9 := fup_self ehB8
    intro z10 hz10 ez10 bz10
    clear ez10
    try replace bz10 := bz10 (by omega)
    intro z11 hz11 ez11 bz11
    clear ez11
    try replace bz11 := bz11 (by omega)
    refine And.intro ⟨rfl, by decide, by decide⟩ ?_
    refine And.intro (And.intro (by omega) (And.intro (by first | exact ⟨by decide, by decide⟩ | omega) rfl)) ?_
    intro z12 hz12
    refine fstore1 rS_685_685_0_23_1_0 (fzs_sub (by decide +kernel) hW) ⟨by decide, by decide⟩ (by first | exact ⟨ha1.1, ha1.2⟩ | omega) (by omega) ?_
    intro IhB13 ehB13 hB13
    have t14 := fup_self ehB13
    exact rfl
set_option maxRecDepth 8000 in
theorem ct_City_runSkin_4289c {I : fH} {x1 : Int} (h0 : fB bsJ I) (ha1 : (0 ≤ x1 ∧ x1 ≤ 23)) : fC ρ base n F xTc vwCl xTys D dA la gJ (fbz bsJ znJ (fKc wz_a2d33) I) xm_78 [.inr (.inr (some 513)), .inl x1] I (fun _ r => r = none) := by
  have hW : fzs wz_a2d33 (fKc wz_a2d33) := fKc_ok _
  refine f_meth (rb := rbJ) (J := []) 1 400 xG xin_78 x6_78 okJ (fB_self h0) ?_ ?_
  · exact fun q h => absurd h List.not_mem_nil
  · have hB0 := fB_self (zn := znJ) (K := fKc wz_a2d33) h0
    refine And.intro ⟨rfl, by decide, by decide⟩ ?_
    refine Exists.intro xm_79 (And.intro mi_79 (And.intro ⟨rfl, rfl, rfl, rfl⟩ (And.intro rfl ?_)))
    refine fcallp hB0 (ct_Works_isPatched_0f28c (fBz h0 hB0) (by first | exact ⟨ha1.1, ha1.2⟩ | omega)) ?_
    rintro _ ⟨z1, rfl, hz1⟩
    refine And.intro (by omega) (And.intro ?_ ?_)
    · intro c2
      refine And.intro ⟨rfl, by decide, by decide⟩ ?_
      refine And.intro ⟨rfl, by decide, by decide⟩ ?_
      refine And.intro ⟨rfl, by decide⟩ (And.intro (by first | exact ⟨by decide, by decide⟩ | omega) ?_)
      refine Exists.intro xm_31 (And.intro mi_31 (And.intro ⟨rfl, rfl, rfl, rfl⟩ (And.intro rfl ?_)))
      refine fcallp hB0 (ct_City_level_cee1f (fBz h0 hB0)) ?_
      rintro _ ⟨z3, rfl, hz3⟩
      refine fload1 rL_698_698_0_60_1_0 h0 hB0 ⟨by decide, by decide⟩ (by first | exact ⟨hz3.1, hz3.2⟩ | omega) ?_
      intro z4 lz4 uz4 qz4
      refine And.intro (And.intro (by first | exact fi_ lz4 uz4 rfl | omega) (And.intro (by first | exact ⟨by decide, by decide⟩ | omega) (And.intro (by first | exact by decide | omega) rfl))) ?_
      intro z5 hz5 ez5 dz5
      refine Exists.intro xm_80 (And.intro mi_80 (And.intro ⟨rfl, rfl, rfl, rfl⟩ (And.intro rfl ?_)))
      refine fcall _ h0 (fzs_sub (by decide +kernel) hW) hB0 (ct_Works_wear_b8097 (fBz h0 hB0) (by first | exact ⟨ha1.1, ha1.2⟩ | omega) (by omega)) ?_
      rintro IhB7 _ hB7 fhB7 rfl
      refine And.intro ⟨rfl, by decide, by decide⟩ ?_
      refine And.intro ⟨rfl, by decide, by decide⟩ ?_
      refine fload1 rL_683_683_0_23_1_0 h0 hB7 ⟨by decide, by decide⟩ (by first | exact ⟨ha1.1, ha1.2⟩ | omega) ?_
      intro z8 lz8 uz8 qz8
      refine And.intro (by first | exact fi_ lz8 uz8 rfl | omega) (And.intro ?_ ?_)
      · intro c9
        exact rfl
      · intro c10
        refine And.intro ⟨rfl, by decide, by decide⟩ ?_
        refine And.intro ⟨rfl, by decide, by decide⟩ ?_
        refine fload1 rL_684_684_0_23_1_0 h0 hB7 ⟨by decide, by decide⟩ (by first | exact ⟨ha1.1, ha1.2⟩ | omega) ?_
        intro z11 lz11 uz11 qz11
        refine And.intro (And.intro (by first | exact fi_ lz11 uz11 rfl | omega) (And.intro (by first | exact ⟨by decide, by decide⟩ | omega) (And.intro (by first | exact by decide | omega) rfl))) ?_
        intro z12 hz12 ez12 dz12
        intro z13 hz13 ez13 bz13
        clear ez13
        clear bz13
        refine And.intro (And.intro (by first | exact fi_ lz11 uz11 rfl | omega) (And.intro (by omega) rfl)) ?_
        intro z14 hz14
        refine Exists.intro xm_81 (And.intro mi_81 (And.intro ⟨rfl, rfl, rfl, rfl⟩ (And.intro rfl ?_)))
        refine fcall _ h0 (fzs_sub (by decide +kernel) hW) hB7 (ct_City_loseGas_9b857 (fBz h0 hB7) (by first | exact ⟨ha1.1, ha1.2⟩ | omega) (by omega)) ?_
        rintro IhB16 _ hB16 fhB16 rfl
        exact rfl
    · intro c17
      exact rfl
set_option maxRecDepth 8000 in
theorem ct_Works_partForFoul_82e3d {I : fH} {x1 : Int} (h0 : fB bsJ I) (ha1 : (0 ≤ x1 ∧ x1 ≤ 23)) : fC ρ base n F xTc vwCl xTys D dA la gJ (fbz bsJ znJ (fKc []) I) xm_83 [.inr (.inr (some 675)), .inl x1] I (fun _ r => ∃ z, r = some (.inl z) ∧ ((-2147483648) ≤ z ∧ z ≤ 2147483647)) := by
  have hW : fzs [] (fKc []) := fKc_ok _
  refine f_meth (rb := rbJ) (J := []) 1 400 xG xin_83 x6_83 okJ (fB_self h0) ?_ ?_
  · exact fun q h => absurd h List.not_mem_nil
  · have hB0 := fB_self (zn := znJ) (K := fKc []) h0
    refine And.intro ⟨rfl, by decide, by decide⟩ ?_
    refine fload1 rL_683_683_0_23_1_0 h0 hB0 ⟨by decide, by decide⟩ (by first | exact ⟨ha1.1, ha1.2⟩ | omega) ?_
    intro z1 lz1 uz1 qz1
    refine And.intro ⟨rfl, by decide, by decide⟩ ?_
    refine fload1 rL_680_680_0_23_1_0 h0 hB0 ⟨by decide, by decide⟩ (by first | exact ⟨ha1.1, ha1.2⟩ | omega) ?_
    intro z2 lz2 uz2 qz2
    intro z3 hz3 ez3 bz3
    clear ez3
    clear bz3
    intro z4 hz4 ez4 bz4
    clear ez4
    clear bz4
    refine And.intro (And.intro (by omega) (And.intro (by first | exact ⟨by decide, by decide⟩ | omega) (And.intro (by first | exact by decide | omega) rfl))) ?_
    intro z5 hz5 ez5 dz5
    refine And.intro (True.intro) ?_
    exact ⟨_, rfl, by omega⟩
set_option maxRecDepth 8000 in
theorem ct_City_isDayAt_d574d {I : fH} {x1 : Int} (h0 : fB bsJ I) (ha1 : ((-2147483648) ≤ x1 ∧ x1 ≤ 2147483647)) : fC ρ base n F xTc vwCl xTys D dA la gJ (fbz bsJ znJ (fKc []) I) xm_70 [.inr (.inr (some 513)), .inl x1] I (fun _ r => ∃ z, r = some (.inl z) ∧ (0 ≤ z ∧ z ≤ 1)) := by
  have hW : fzs [] (fKc []) := fKc_ok _
  refine f_meth (rb := rbJ) (J := []) 1 400 xG xin_70 x6_70 okJ (fB_self h0) ?_ ?_
  · exact fun q h => absurd h List.not_mem_nil
  · have hB0 := fB_self (zn := znJ) (K := fKc []) h0
    refine And.intro ⟨rfl, by decide, by decide⟩ (fgetf fb_513_7 h0 hB0 ?_)
    intro z1 lz1 uz1 qz1
    refine And.intro (by first | exact fi_ lz1 uz1 rfl | omega) (And.intro ?_ ?_)
    · intro c2
      refine And.intro (⟨by omega, by omega⟩) ?_
      exact ⟨_, rfl, by omega⟩
    · intro c3
      refine And.intro ⟨rfl, by decide, by decide⟩ (fgetf fb_513_7 h0 hB0 ?_)
      intro z4 lz4 uz4 qz4
      refine And.intro (And.intro (by first | exact fi_ ha1.1 ha1.2 rfl | omega) (And.intro (by first | exact fi_ lz4 uz4 rfl | omega) (And.intro (by omega) rfl))) ?_
      intro z5 hz5 ez5 dz5
      refine And.intro ⟨rfl, by decide, by decide⟩ (fgetf fb_513_7 h0 hB0 ?_)
      intro z6 lz6 uz6 qz6
      refine And.intro (And.intro (by first | exact fi_ lz6 uz6 rfl | omega) (And.intro (by first | exact ⟨by decide, by decide⟩ | omega) (And.intro (by first | exact by decide | omega) rfl))) ?_
      intro z7 hz7 ez7 dz7
      have dz7 := dz7 (by omega) (by omega)
      change _ = _ / _ at dz7
      refine And.intro (by omega) (And.intro ?_ ?_)
      · intro c8
        refine And.intro (⟨by omega, by omega⟩) ?_
        exact ⟨_, rfl, by omega⟩
      · intro c9
        refine And.intro (⟨by decide, by decide⟩) ?_
        exact ⟨_, rfl, (by first | exact ⟨by decide, by decide⟩ | omega)⟩
set_option maxRecDepth 8000 in
theorem ct_City_isDay_d6f98 {I : fH}  (h0 : fB bsJ I)  : fC ρ base n F xTc vwCl xTys D dA la gJ (fbz bsJ znJ (fKc []) I) xm_69 [.inr (.inr (some 513))] I (fun _ r => ∃ z, r = some (.inl z) ∧ (0 ≤ z ∧ z ≤ 1)) := by
  have hW : fzs [] (fKc []) := fKc_ok _
  refine f_meth (rb := rbJ) (J := []) 1 400 xG xin_69 x6_69 okJ (fB_self h0) ?_ ?_
  · exact fun q h => absurd h List.not_mem_nil
  · have hB0 := fB_self (zn := znJ) (K := fKc []) h0
    refine And.intro ⟨rfl, by decide, by decide⟩ (fgetf fb_513_6 h0 hB0 ?_)
    intro z1 lz1 uz1 qz1
    refine Exists.intro xm_70 (And.intro mi_70 (And.intro ⟨rfl, rfl, rfl, rfl⟩ (And.intro rfl ?_)))
    refine fcallp hB0 (ct_City_isDayAt_d574d (fBz h0 hB0) (by first | exact ⟨lz1, uz1⟩ | omega)) ?_
    rintro _ ⟨z2, rfl, hz2⟩
    refine And.intro (⟨by omega, by omega⟩) ?_
    exact ⟨_, rfl, by omega⟩
set_option maxRecDepth 8000 in
theorem ct_City_runGarden_2acfe {I : fH} {x1 : Int} (h0 : fB bsJ I) (ha1 : (0 ≤ x1 ∧ x1 ≤ 23)) : fC ρ base n F xTc vwCl xTys D dA la gJ (fbz bsJ znJ (fKc wz_7eac0) I) xm_82 [.inr (.inr (some 513)), .inl x1] I (fun _ r => r = none) := by
  have hW : fzs wz_7eac0 (fKc wz_7eac0) := fKc_ok _
  refine f_meth (rb := rbJ) (J := []) 1 400 xG xin_82 x6_82 okJ (fB_self h0) ?_ ?_
  · exact fun q h => absurd h List.not_mem_nil
  · have hB0 := fB_self (zn := znJ) (K := fKc wz_7eac0) h0
    refine Exists.intro xm_69 (And.intro mi_69 (And.intro ⟨rfl, rfl, rfl, rfl⟩ (And.intro rfl ?_)))
    refine fcallp hB0 (ct_City_isDay_d6f98 (fBz h0 hB0)) ?_
    rintro _ ⟨z1, rfl, hz1⟩
    refine And.intro (by omega) (And.intro ?_ ?_)
    · intro c2
      refine And.intro ⟨rfl, by decide, by decide⟩ ?_
      refine And.intro ⟨rfl, by decide, by decide⟩ ?_
      refine fload1 rL_677_677_0_23_1_0 h0 hB0 ⟨by decide, by decide⟩ (by first | exact ⟨ha1.1, ha1.2⟩ | omega) ?_
      intro z3 lz3 uz3 qz3
      refine And.intro ⟨rfl, by decide, by decide⟩ ?_
      refine Exists.intro xm_83 (And.intro mi_83 (And.intro ⟨rfl, rfl, rfl, rfl⟩ (And.intro rfl ?_)))
      refine fcallp hB0 (ct_Works_partForFoul_82e3d (fBz h0 hB0) (by first | exact ⟨ha1.1, ha1.2⟩ | omega)) ?_
      rintro _ ⟨z4, rfl, hz4⟩
      refine And.intro ⟨rfl, by decide, by decide⟩ ?_
      refine And.intro ⟨rfl, by decide, by decide⟩ ?_
      refine And.intro ⟨rfl, by decide⟩ (And.intro (by first | exact ⟨lz3, Int.lt_of_le_of_lt uz3 (by decide)⟩ | omega) ?_)
      refine fload rL_518_537_0_4_1_0 h0 hB0 (by omega) ?_
      intro z5 lz5 uz5 qz5
      refine And.intro (And.intro (by first | exact fi_ hz4.1 hz4.2 rfl | omega) (And.intro (by first | exact fi_ lz5 uz5 rfl | omega) rfl)) ?_
      intro z6 hz6
      refine And.intro ⟨rfl, by decide, by decide⟩ ?_
      refine And.intro ⟨rfl, by decide, by decide⟩ ?_
      refine And.intro ⟨rfl, by decide⟩ (And.intro (by first | exact ⟨lz3, Int.lt_of_le_of_lt uz3 (by decide)⟩ | omega) ?_)
      refine fload rL_518_537_0_4_1_0 h0 hB0 (by omega) ?_
      intro z7 lz7 uz7 qz7
      intro z8 hz8 ez8 bz8
      clear ez8
      clear bz8
      refine fstore rS_518_537_0_4_1_0 (fzs_sub (by decide +kernel) hW) (by omega) (by omega) ?_
      intro IhB9 ehB9 hB9
      have t10 := fup_self ehB9
      refine And.intro ⟨rfl, by decide, by decide⟩ ?_
      refine Exists.intro xm_84 (And.intro mi_84 (And.intro ⟨rfl, rfl, rfl, rfl⟩ (And.intro rfl ?_)))
      refine fcall _ h0 (fzs_sub (by decide +kernel) hW) hB9 (ct_Cells_addAir_f5ee0 (fBz h0 hB9) (by first | exact ⟨lz3, uz3⟩ | omega) (by first | exact ⟨by decide, by decide⟩ | omega) (by omega)) ?_
      rintro IhB12 _ hB12 fhB12 rfl
      exact rfl
    · intro c13
      exact rfl
set_option maxRecDepth 8000 in
theorem ct_City_runProbe_75b59 {I : fH} {x1 : Int} (h0 : fB bsJ I) (ha1 : (0 ≤ x1 ∧ x1 ≤ 23)) : fC ρ base n F xTc vwCl xTys D dA la gJ (fbz bsJ znJ (fKc wz_8d85d) I) xm_87 [.inr (.inr (some 513)), .inl x1] I (fun _ r => r = none) := by
  have hW : fzs wz_8d85d (fKc wz_8d85d) := fKc_ok _
  refine f_meth (rb := rbJ) (J := []) 1 400 xG xin_87 x6_87 okJ (fB_self h0) ?_ ?_
  · exact fun q h => absurd h List.not_mem_nil
  · have hB0 := fB_self (zn := znJ) (K := fKc wz_8d85d) h0
    refine And.intro ⟨rfl, by decide, by decide⟩ ?_
    refine Exists.intro xm_55 (And.intro mi_55 (And.intro ⟨rfl, rfl, rfl, rfl⟩ (And.intro rfl ?_)))
    refine fcallp hB0 (ct_Works_isDropped_e5842 (fBz h0 hB0) (by first | exact ⟨ha1.1, ha1.2⟩ | omega)) ?_
    rintro _ ⟨z1, rfl, hz1⟩
    refine And.intro (by omega) (And.intro ?_ ?_)
    · intro c2
      exact rfl
    · intro c3
      refine And.intro ⟨rfl, by decide, by decide⟩ ?_
      refine And.intro ⟨rfl, by decide, by decide⟩ ?_
      refine And.intro ⟨rfl, by decide, by decide⟩ ?_
      refine And.intro ⟨rfl, by decide, by decide⟩ ?_
      refine fload1 rL_687_687_0_23_1_0 h0 hB0 ⟨by decide, by decide⟩ (by first | exact ⟨ha1.1, ha1.2⟩ | omega) ?_
      intro z4 lz4 uz4 qz4
      refine And.intro (And.intro (by first | exact ⟨by decide, by decide⟩ | omega) (And.intro (by omega) rfl)) ?_
      intro z5 hz5
      refine fstore1 rS_687_687_0_23_1_0 (fzs_sub (by decide +kernel) hW) ⟨by decide, by decide⟩ (by first | exact ⟨ha1.1, ha1.2⟩ | omega) (by omega) ?_
      intro IhB6 ehB6 hB6
      have t7 := fup_self ehB6
      refine And.intro ⟨rfl, by decide, by decide⟩ ?_
      refine And.intro ⟨rfl, by decide, by decide⟩ ?_
      refine fload1 rL_688_688_0_23_1_0 h0 hB6 ⟨by decide, by decide⟩ (by first | exact ⟨ha1.1, ha1.2⟩ | omega) ?_
      intro z8 lz8 uz8 qz8
      refine And.intro ⟨rfl, by decide, by decide⟩ ?_
      refine And.intro ⟨rfl, by decide⟩ (And.intro (by first | exact ⟨by decide, by decide⟩ | omega) ?_)
      refine And.intro ⟨rfl, by decide, by decide⟩ ?_
      refine And.intro ⟨rfl, by decide, by decide⟩ ?_
      refine fload1 rL_687_687_0_23_1_0 h0 hB6 ⟨by decide, by decide⟩ (by first | exact ⟨ha1.1, ha1.2⟩ | omega) ?_
      intro z9 lz9 uz9 qz9
      refine fload rL_697_697_0_60_1_0 h0 hB6 (by omega) ?_
      intro z10 lz10 uz10 qz10
      intro z11 hz11 ez11 bz11
      clear ez11
      clear bz11
      refine fstore1 rS_688_688_0_23_1_0 (fzs_sub (by decide +kernel) hW) ⟨by decide, by decide⟩ (by first | exact ⟨ha1.1, ha1.2⟩ | omega) (by omega) ?_
      intro IhB12 ehB12 hB12
      have t13 := fup_self ehB12
      refine And.intro ⟨rfl, by decide, by decide⟩ ?_
      refine And.intro ⟨rfl, by decide, by decide⟩ ?_
      refine And.intro ⟨rfl, by decide, by decide⟩ ?_
      refine And.intro ⟨rfl, by decide, by decide⟩ ?_
      refine fload1 rL_688_688_0_23_1_0 h0 hB12 ⟨by decide, by decide⟩ (by first | exact ⟨ha1.1, ha1.2⟩ | omega) ?_
      intro z14 lz14 uz14 qz14
      refine And.intro ⟨rfl, by decide, by decide⟩ ?_
      refine And.intro ⟨rfl, by decide, by decide⟩ ?_
      refine fload1 rL_683_683_0_23_1_0 h0 hB12 ⟨by decide, by decide⟩ (by first | exact ⟨ha1.1, ha1.2⟩ | omega) ?_
      intro z15 lz15 uz15 qz15
      refine And.intro (And.intro (by first | exact fi_ lz14 uz14 rfl | omega) (by first | exact fi_ lz15 uz15 rfl | omega)) (And.intro ?_ ?_)
      · intro c16
        refine fstore1 rS_686_686_0_23_1_0 (fzs_sub (by decide +kernel) hW) ⟨by decide, by decide⟩ (by first | exact ⟨ha1.1, ha1.2⟩ | omega) (by omega) ?_
        intro IhB17 ehB17 hB17
        have t18 := fup_self ehB17
        exact rfl
      · intro c19
        refine fstore1 rS_686_686_0_23_1_0 (fzs_sub (by decide +kernel) hW) ⟨by decide, by decide⟩ (by first | exact ⟨ha1.1, ha1.2⟩ | omega) (by first | exact ⟨by decide, by decide⟩ | omega) ?_
        intro IhB20 ehB20 hB20
        have t21 := fup_self ehB20
        exact rfl
set_option maxRecDepth 8000 in
theorem ct_City_runRotor_872a2 {I : fH} {x1 : Int} (h0 : fB bsJ I) (ha1 : (0 ≤ x1 ∧ x1 ≤ 23)) : fC ρ base n F xTc vwCl xTys D dA la gJ (fbz bsJ znJ (fKc wz_a50d7) I) xm_86 [.inr (.inr (some 513)), .inl x1] I (fun _ r => r = none) := by
  have hW : fzs wz_a50d7 (fKc wz_a50d7) := fKc_ok _
  refine f_meth (rb := rbJ) (J := []) 1 400 xG xin_86 x6_86 okJ (fB_self h0) ?_ ?_
  · exact fun q h => absurd h List.not_mem_nil
  · have hB0 := fB_self (zn := znJ) (K := fKc wz_a50d7) h0
    refine And.intro ⟨rfl, by decide, by decide⟩ ?_
    refine fload1 rL_694_694_0_5_1_0 h0 hB0 ⟨by decide, by decide⟩ (by first | exact ⟨by decide, by decide⟩ | omega) ?_
    intro z1 lz1 uz1 qz1
    have pz1 := fld_at qz1 5 (by omega)
    refine And.intro ⟨rfl, by decide, by decide⟩ ?_
    refine And.intro ⟨rfl, by decide, by decide⟩ ?_
    refine fload1 rL_683_683_0_23_1_0 h0 hB0 ⟨by decide, by decide⟩ (by first | exact ⟨ha1.1, ha1.2⟩ | omega) ?_
    intro z2 lz2 uz2 qz2
    refine And.intro (And.intro (by first | exact fi_ lz1 uz1 rfl | omega) (by first | exact fi_ lz2 uz2 rfl | omega)) (And.intro ?_ ?_)
    · intro c3
      exact rfl
    · intro c4
      refine And.intro ⟨rfl, by decide, by decide⟩ ?_
      refine fload1 rL_694_694_0_5_1_0 h0 hB0 ⟨by decide, by decide⟩ (by first | exact ⟨by decide, by decide⟩ | omega) ?_
      intro z5 lz5 uz5 qz5
      have pz5 := fld_at qz5 5 (by omega)
      refine And.intro ⟨rfl, by decide, by decide⟩ ?_
      refine And.intro ⟨rfl, by decide, by decide⟩ ?_
      refine fload1 rL_683_683_0_23_1_0 h0 hB0 ⟨by decide, by decide⟩ (by first | exact ⟨ha1.1, ha1.2⟩ | omega) ?_
      intro z6 lz6 uz6 qz6
      intro z7 hz7 ez7 bz7
      clear ez7
      clear bz7
      refine fstore1 rS_694_694_0_5_1_0 (fzs_sub (by decide +kernel) hW) ⟨by decide, by decide⟩ (by first | exact ⟨by decide, by decide⟩ | omega) (by omega) ?_
      intro IhB8 ehB8 hB8
      have t9 := fup_self ehB8
      have t10 := fup_at ehB8 5 (by first | rfl | omega)
      refine And.intro ⟨rfl, by decide, by decide⟩ (fgetf fb_513_6 h0 hB8 ?_)
      intro z11 lz11 uz11 qz11
      intro z12 hz12 ez12 bz12
      clear ez12
      clear bz12
      refine And.intro ⟨rfl, by decide, by decide⟩ (And.intro rfl (And.intro (Or.inl rfl) (fputf fb_513_6 (by decide +kernel) hW (by omega) ?_)))
      intro IhB13 ehB13 hB13
      have t14 : IhB13 694 5 = IhB8 694 5 := (congrFun (congrFun ehB13 694) 5).trans (fup_ne (by first | decide | omega))
      exact rfl
set_option maxRecDepth 8000 in
theorem ct_City_runStill_08bd2 {I : fH} {x1 : Int} (h0 : fB bsJ I) (ha1 : (0 ≤ x1 ∧ x1 ≤ 23)) : fC ρ base n F xTc vwCl xTys D dA la gJ (fbz bsJ znJ (fKc wz_7903c) I) xm_85 [.inr (.inr (some 513)), .inl x1] I (fun _ r => r = none) := by
  have hW : fzs wz_7903c (fKc wz_7903c) := fKc_ok _
  refine f_meth (rb := rbJ) (J := []) 1 400 xG xin_85 x6_85 okJ (fB_self h0) ?_ ?_
  · exact fun q h => absurd h List.not_mem_nil
  · have hB0 := fB_self (zn := znJ) (K := fKc wz_7903c) h0
    refine And.intro ⟨rfl, by decide, by decide⟩ ?_
    refine fload1 rL_694_694_0_5_1_0 h0 hB0 ⟨by decide, by decide⟩ (by first | exact ⟨by decide, by decide⟩ | omega) ?_
    intro z1 lz1 uz1 qz1
    have pz1 := fld_at qz1 5 (by omega)
    refine And.intro (And.intro (by first | exact fi_ lz1 uz1 rfl | omega) (by first | exact ⟨by decide, by decide⟩ | omega)) (And.intro ?_ ?_)
    · intro c2
      refine And.intro ⟨rfl, by decide, by decide⟩ ?_
      refine fload1 rL_694_694_0_5_1_0 h0 hB0 ⟨by decide, by decide⟩ (by first | exact ⟨by decide, by decide⟩ | omega) ?_
      intro z3 lz3 uz3 qz3
      have pz3 := fld_at qz3 5 (by omega)
      refine fstore1 rS_694_694_0_5_1_0 (fzs_sub (by decide +kernel) hW) ⟨by decide, by decide⟩ (by first | exact ⟨by decide, by decide⟩ | omega) (by omega) ?_
      intro IhB4 ehB4 hB4
      have t5 := fup_self ehB4
      have t6 := fup_at ehB4 5 (by first | rfl | omega)
      refine And.intro ⟨rfl, by decide, by decide⟩ ?_
      refine And.intro ⟨rfl, by decide, by decide⟩ ?_
      refine fload1 rL_677_677_0_23_1_0 h0 hB4 ⟨by decide, by decide⟩ (by first | exact ⟨ha1.1, ha1.2⟩ | omega) ?_
      intro z7 lz7 uz7 qz7
      refine And.intro ⟨rfl, by decide, by decide⟩ ?_
      refine Exists.intro xm_83 (And.intro mi_83 (And.intro ⟨rfl, rfl, rfl, rfl⟩ (And.intro rfl ?_)))
      refine fcallp hB4 (ct_Works_partForFoul_82e3d (fBz h0 hB4) (by first | exact ⟨ha1.1, ha1.2⟩ | omega)) ?_
      rintro _ ⟨z8, rfl, hz8⟩
      refine And.intro ⟨rfl, by decide, by decide⟩ ?_
      refine And.intro ⟨rfl, by decide, by decide⟩ ?_
      refine And.intro ⟨rfl, by decide⟩ (And.intro (by first | exact ⟨lz7, Int.lt_of_le_of_lt uz7 (by decide)⟩ | omega) ?_)
      refine fload rL_518_537_0_4_1_0 h0 hB4 (by omega) ?_
      intro z9 lz9 uz9 qz9
      refine And.intro (And.intro (by first | exact fi_ hz8.1 hz8.2 rfl | omega) (And.intro (by first | exact fi_ lz9 uz9 rfl | omega) rfl)) ?_
      intro z10 hz10
      refine And.intro ⟨rfl, by decide, by decide⟩ ?_
      refine And.intro ⟨rfl, by decide, by decide⟩ ?_
      refine And.intro ⟨rfl, by decide⟩ (And.intro (by first | exact ⟨lz7, Int.lt_of_le_of_lt uz7 (by decide)⟩ | omega) ?_)
      refine fload rL_518_537_0_4_1_0 h0 hB4 (by omega) ?_
      intro z11 lz11 uz11 qz11
      intro z12 hz12 ez12 bz12
      clear ez12
      clear bz12
      refine fstore rS_518_537_0_4_1_0 (fzs_sub (by decide +kernel) hW) (by omega) (by omega) ?_
      intro IhB13 ehB13 hB13
      have t14 := fup_self ehB13
      have t15 : IhB13 694 5 = IhB4 694 5 := (congrFun (congrFun ehB13 694) 5).trans (fup_ne (by first | exact Or.inl (by decide) | omega))
      refine And.intro ⟨rfl, by decide, by decide⟩ ?_
      refine And.intro (And.intro (by omega) (And.intro (by first | exact ⟨by decide, by decide⟩ | omega) (And.intro (by first | exact by decide | omega) rfl))) ?_
      intro z16 hz16 ez16 dz16
      refine Exists.intro xm_84 (And.intro mi_84 (And.intro ⟨rfl, rfl, rfl, rfl⟩ (And.intro rfl ?_)))
      refine fcall _ h0 (fzs_sub (by decide +kernel) hW) hB13 (ct_Cells_addAir_f5ee0 (fBz h0 hB13) (by first | exact ⟨lz7, uz7⟩ | omega) (by first | exact ⟨by decide, by decide⟩ | omega) (by omega)) ?_
      rintro IhB18 _ hB18 fhB18 rfl
      have t19 := fhB18 694 5 (by decide +kernel)
      refine And.intro ⟨rfl, by decide, by decide⟩ ?_
      refine And.intro (And.intro (by omega) (And.intro (by first | exact ⟨by decide, by decide⟩ | omega) (And.intro (by first | exact by decide | omega) rfl))) ?_
      intro z20 hz20 ez20 dz20
      intro z21 hz21 ez21 bz21
      clear ez21
      clear bz21
      refine Exists.intro xm_84 (And.intro mi_84 (And.intro ⟨rfl, rfl, rfl, rfl⟩ (And.intro rfl ?_)))
      refine fcall _ h0 (fzs_sub (by decide +kernel) hW) hB18 (ct_Cells_addAir_f5ee0 (fBz h0 hB18) (by first | exact ⟨lz7, uz7⟩ | omega) (by first | exact ⟨by decide, by decide⟩ | omega) (by omega)) ?_
      rintro IhB23 _ hB23 fhB23 rfl
      have t24 := fhB23 694 5 (by decide +kernel)
      exact rfl
    · intro c25
      exact rfl
set_option maxRecDepth 8000 in
theorem ct_City_runWork_0e434 {I : fH} {x1 : Int} (h0 : fB bsJ I) (ha1 : (0 ≤ x1 ∧ x1 ≤ 23)) : fC ρ base n F xTc vwCl xTys D dA la gJ (fbz bsJ znJ (fKc wz_791b2) I) xm_77 [.inr (.inr (some 513)), .inl x1] I (fun _ r => r = none) := by
  have hW : fzs wz_791b2 (fKc wz_791b2) := fKc_ok _
  refine f_meth (rb := rbJ) (J := []) 1 400 xG xin_77 x6_77 okJ (fB_self h0) ?_ ?_
  · exact fun q h => absurd h List.not_mem_nil
  · have hB0 := fB_self (zn := znJ) (K := fKc wz_791b2) h0
    refine And.intro ⟨rfl, by decide, by decide⟩ ?_
    refine And.intro ⟨rfl, by decide, by decide⟩ ?_
    refine fload1 rL_676_676_0_23_1_0 h0 hB0 ⟨by decide, by decide⟩ (by first | exact ⟨ha1.1, ha1.2⟩ | omega) ?_
    intro z1 lz1 uz1 qz1
    refine And.intro (by first | exact fi_ lz1 uz1 rfl | omega) (And.intro ?_ ?_)
    · refine And.intro (fun ex => ?_) (And.intro (fun ex => ?_) (And.intro (fun ex => ?_) (And.intro (fun ex => ?_) (And.intro (fun ex => ?_) (And.intro (fun ex => ?_) (True.intro))))))
      · skip
        refine Exists.intro xm_78 (And.intro mi_78 (And.intro ⟨rfl, rfl, rfl, rfl⟩ (And.intro rfl ?_)))
        refine fcall _ h0 (fzs_sub (by decide +kernel) hW) hB0 (ct_City_runSkin_4289c (fBz h0 hB0) (by first | exact ⟨ha1.1, ha1.2⟩ | omega)) ?_
        rintro IhB3 _ hB3 fhB3 rfl
        exact rfl
      · skip
        refine Exists.intro xm_82 (And.intro mi_82 (And.intro ⟨rfl, rfl, rfl, rfl⟩ (And.intro rfl ?_)))
        refine fcall _ h0 (fzs_sub (by decide +kernel) hW) hB0 (ct_City_runGarden_2acfe (fBz h0 hB0) (by first | exact ⟨ha1.1, ha1.2⟩ | omega)) ?_
        rintro IhB5 _ hB5 fhB5 rfl
        exact rfl
      · skip
        refine Exists.intro xm_85 (And.intro mi_85 (And.intro ⟨rfl, rfl, rfl, rfl⟩ (And.intro rfl ?_)))
        refine fcall _ h0 (fzs_sub (by decide +kernel) hW) hB0 (ct_City_runStill_08bd2 (fBz h0 hB0) (by first | exact ⟨ha1.1, ha1.2⟩ | omega)) ?_
        rintro IhB7 _ hB7 fhB7 rfl
        exact rfl
      · skip
        refine Exists.intro xm_86 (And.intro mi_86 (And.intro ⟨rfl, rfl, rfl, rfl⟩ (And.intro rfl ?_)))
        refine fcall _ h0 (fzs_sub (by decide +kernel) hW) hB0 (ct_City_runRotor_872a2 (fBz h0 hB0) (by first | exact ⟨ha1.1, ha1.2⟩ | omega)) ?_
        rintro IhB9 _ hB9 fhB9 rfl
        exact rfl
      · skip
        refine And.intro ⟨rfl, by decide, by decide⟩ ?_
        refine And.intro ⟨rfl, by decide, by decide⟩ ?_
        refine fload1 rL_684_684_0_23_1_0 h0 hB0 ⟨by decide, by decide⟩ (by first | exact ⟨ha1.1, ha1.2⟩ | omega) ?_
        intro z10 lz10 uz10 qz10
        intro z11 hz11 ez11 bz11
        clear ez11
        clear bz11
        refine fstore1 rS_684_684_0_23_1_0 (fzs_sub (by decide +kernel) hW) ⟨by decide, by decide⟩ (by first | exact ⟨ha1.1, ha1.2⟩ | omega) (by omega) ?_
        intro IhB12 ehB12 hB12
        have t13 := fup_self ehB12
        refine And.intro ⟨rfl, by decide, by decide⟩ ?_
        refine And.intro ⟨rfl, by decide, by decide⟩ ?_
        refine And.intro ⟨rfl, by decide, by decide⟩ ?_
        refine And.intro ⟨rfl, by decide, by decide⟩ ?_
        refine fload1 rL_684_684_0_23_1_0 h0 hB12 ⟨by decide, by decide⟩ (by first | exact ⟨ha1.1, ha1.2⟩ | omega) ?_
        intro z14 lz14 uz14 qz14
        refine And.intro (by first | exact fi_ lz14 uz14 rfl | omega) (And.intro ?_ ?_)
        · intro c15
          refine fstore1 rS_686_686_0_23_1_0 (fzs_sub (by decide +kernel) hW) ⟨by decide, by decide⟩ (by first | exact ⟨ha1.1, ha1.2⟩ | omega) (by omega) ?_
          intro IhB16 ehB16 hB16
          have t17 := fup_self ehB16
          exact rfl
        · intro c18
          refine fstore1 rS_686_686_0_23_1_0 (fzs_sub (by decide +kernel) hW) ⟨by decide, by decide⟩ (by first | exact ⟨ha1.1, ha1.2⟩ | omega) (by first | exact ⟨by decide, by decide⟩ | omega) ?_
          intro IhB19 ehB19 hB19
          have t20 := fup_self ehB19
          exact rfl
      · skip
        refine Exists.intro xm_87 (And.intro mi_87 (And.intro ⟨rfl, rfl, rfl, rfl⟩ (And.intro rfl ?_)))
        refine fcall _ h0 (fzs_sub (by decide +kernel) hW) hB0 (ct_City_runProbe_75b59 (fBz h0 hB0) (by first | exact ⟨ha1.1, ha1.2⟩ | omega)) ?_
        rintro IhB22 _ hB22 fhB22 rfl
        exact rfl
    · intro c23
      exact rfl
abbrev jc_City_passMinute_b0540_13 (I0 : fH) : Nat → fL → List fV → fH → Prop := fun m lv st I => ∃ (y1 : Int), lv = [(0, .inr (.inr (some 513))), (1, .inl y1)] ∧ st = [] ∧ (((0 ≤ y1 ∧ y1 ≤ 24) ∧ (I 513 9 = I0 513 9))) ∧ m = (26 + 1 * (24 - y1) : Int).toNat
abbrev jc_City_passMinute_b0540_75 (I0 : fH) : Nat → fL → List fV → fH → Prop := fun m lv st I => ∃ (y1 : Int), lv = [(0, .inr (.inr (some 513))), (1, .inl y1)] ∧ st = [] ∧ (((0 ≤ y1 ∧ y1 ≤ 24) ∧ (I 513 9 = I0 513 9))) ∧ m = (1 + 1 * (24 - y1) : Int).toNat
set_option maxRecDepth 8000 in
theorem ct_City_passMinute_b0540 {I : fH}  (h0 : fB bsJ I)  : fC ρ base n F xTc vwCl xTys D dA la gJ (fbz bsJ znJ (fKc wz_f7c52) I) xm_73 [.inr (.inr (some 513))] I (fun I' r => r = none ∧ (I 513 9 < 2147483647 → I' 513 9 = I 513 9 + 1)) := by
  have hW : fzs wz_f7c52 (fKc wz_f7c52) := fKc_ok _
  refine f_meth (rb := rbJ) (J := [(13, (jc_City_passMinute_b0540_13 I)), (75, (jc_City_passMinute_b0540_75 I))]) 51 400 xG xin_73 x6_73 okJ (fB_self h0) ?_ ?_
  · refine List.forall_mem_cons.mpr ⟨?_, List.forall_mem_cons.mpr ⟨?_, fun q h => absurd h List.not_mem_nil⟩⟩
    · rintro m _ _ I1 hB1 ⟨y1, rfl, rfl, hb, hm⟩
      refine And.intro ⟨rfl, by decide, by decide⟩ ?_
      refine And.intro ⟨rfl, by decide, by decide⟩ (fgetf fb_675_13 h0 hB1 ?_)
      intro z1 lz1 uz1 qz1
      refine And.intro (And.intro (by first | exact fi_ hb.1.1 hb.1.2 rfl | omega) (by first | exact fi_ lz1 uz1 rfl | omega)) (And.intro ?_ ?_)
      · intro c2
        refine And.intro ⟨rfl, by decide, by decide⟩ ?_
        refine Exists.intro xm_88 (And.intro mi_88 (And.intro ⟨rfl, rfl, rfl, rfl⟩ (And.intro rfl ?_)))
        refine fcall _ h0 (fzs_sub (by decide +kernel) hW) hB1 (ct_Cells_flowAll_87643 (fBz h0 hB1)) ?_
        rintro IhB4 _ hB4 fhB4 rfl
        have t5 := fhB4 513 9 (by decide +kernel)
        have t6 := fhB4 675 13 (by decide +kernel)
        refine And.intro ⟨rfl, by decide, by decide⟩ ?_
        refine Exists.intro xm_90 (And.intro mi_90 (And.intro ⟨rfl, rfl, rfl, rfl⟩ (And.intro rfl ?_)))
        refine fcall _ h0 (fzs_sub (by decide +kernel) hW) hB4 (ct_Cells_leakAll_a583d (fBz h0 hB4)) ?_
        rintro IhB8 _ hB8 fhB8 rfl
        have t9 := fhB8 513 9 (by decide +kernel)
        have t10 := fhB8 675 13 (by decide +kernel)
        exact fcutJ (I := IhB8) (j := (jc_City_passMinute_b0540_75 I)) (lv' := [(0, .inr (.inr (some 513))), (1, .inl _)]) (And.intro rfl (And.intro rfl True.intro)) ⟨_, rfl, rfl, by omega, rfl⟩ (by omega)
      · intro c11
        refine And.intro ⟨rfl, by decide, by decide⟩ ?_
        refine And.intro ⟨rfl, by decide, by decide⟩ ?_
        refine fload1 rL_679_679_0_23_1_0 h0 hB1 ⟨by decide, by decide⟩ (by first | exact ⟨hb.1.1, Int.le_trans (Int.le_sub_one_of_lt (Int.lt_of_lt_of_le c11 uz1)) (by decide)⟩ | omega) ?_
        intro z12 lz12 uz12 qz12
        refine And.intro (And.intro (by first | exact fi_ lz12 uz12 rfl | omega) (by first | exact ⟨by decide, by decide⟩ | omega)) (And.intro ?_ ?_)
        · intro c13
          exact fcutJ (I := I1) (j := (jc_City_passMinute_b0540_13 I)) (lv' := [(0, .inr (.inr (some 513))), (1, .inl _)]) (And.intro rfl (And.intro rfl True.intro)) ⟨_, rfl, rfl, by omega, rfl⟩ (by omega)
        · intro c14
          refine And.intro ⟨rfl, by decide, by decide⟩ ?_
          refine Exists.intro xm_50 (And.intro mi_50 (And.intro ⟨rfl, rfl, rfl, rfl⟩ (And.intro rfl ?_)))
          refine fcallp hB1 (ct_Works_isGone_bce90 (fBz h0 hB1) (by first | exact ⟨hb.1.1, Int.le_trans (Int.le_sub_one_of_lt (Int.lt_of_lt_of_le c11 uz1)) (by decide)⟩ | omega)) ?_
          rintro _ ⟨z15, rfl, hz15⟩
          refine And.intro (by omega) (And.intro ?_ ?_)
          · intro c16
            exact fcutJ (I := I1) (j := (jc_City_passMinute_b0540_13 I)) (lv' := [(0, .inr (.inr (some 513))), (1, .inl _)]) (And.intro rfl (And.intro rfl True.intro)) ⟨_, rfl, rfl, by omega, rfl⟩ (by omega)
          · intro c17
            refine Exists.intro xm_77 (And.intro mi_77 (And.intro ⟨rfl, rfl, rfl, rfl⟩ (And.intro rfl ?_)))
            refine fcall _ h0 (fzs_sub (by decide +kernel) hW) hB1 (ct_City_runWork_0e434 (fBz h0 hB1) (by first | exact ⟨hb.1.1, Int.le_trans (Int.le_sub_one_of_lt (Int.lt_of_lt_of_le c11 uz1)) (by decide)⟩ | omega)) ?_
            rintro IhB19 _ hB19 fhB19 rfl
            have t20 := fhB19 513 9 (by decide +kernel)
            have t21 := fhB19 675 13 (by decide +kernel)
            exact fcutJ (I := IhB19) (j := (jc_City_passMinute_b0540_13 I)) (lv' := [(0, .inr (.inr (some 513))), (1, .inl _)]) (And.intro rfl (And.intro rfl True.intro)) ⟨_, rfl, rfl, by omega, rfl⟩ (by omega)
    · rintro m _ _ I1 hB1 ⟨y1, rfl, rfl, hb, hm⟩
      refine And.intro ⟨rfl, by decide, by decide⟩ ?_
      refine And.intro ⟨rfl, by decide, by decide⟩ (fgetf fb_689_4 h0 hB1 ?_)
      intro z22 lz22 uz22 qz22
      refine And.intro (And.intro (by first | exact fi_ hb.1.1 hb.1.2 rfl | omega) (by first | exact fi_ lz22 uz22 rfl | omega)) (And.intro ?_ ?_)
      · intro c23
        refine Exists.intro xm_94 (And.intro mi_94 (And.intro ⟨rfl, rfl, rfl, rfl⟩ (And.intro rfl ?_)))
        refine fcall _ h0 (fzs_sub (by decide +kernel) hW) hB1 (ct_City_rise_ae6a0 (fBz h0 hB1)) ?_
        rintro IhB25 _ hB25 fhB25 rfl
        have t26 := fhB25 513 9 (by decide +kernel)
        have t27 := fhB25 689 4 (by decide +kernel)
        refine And.intro ⟨rfl, by decide, by decide⟩ (fgetf fb_513_6 h0 hB25 ?_)
        intro z28 lz28 uz28 qz28
        intro z29 hz29 ez29 bz29
        clear ez29
        try replace bz29 := bz29 (by omega)
        refine And.intro ⟨rfl, by decide, by decide⟩ (And.intro rfl (And.intro (Or.inl rfl) (fputf fb_513_6 (by decide +kernel) hW (by omega) ?_)))
        intro IhB30 ehB30 hB30
        have t31 := fup_at ehB30 6 (by first | rfl | omega)
        have t32 : IhB30 513 9 = IhB25 513 9 := (congrFun (congrFun ehB30 513) 9).trans (fup_ne (by first | decide | omega))
        have t33 : IhB30 689 4 = IhB25 689 4 := (congrFun (congrFun ehB30 689) 4).trans (fup_ne (by first | decide | omega))
        refine And.intro ⟨rfl, by decide, by decide⟩ ?_
        refine Exists.intro xm_95 (And.intro mi_95 (And.intro ⟨rfl, rfl, rfl, rfl⟩ (And.intro rfl ?_)))
        refine fcall _ h0 (fzs_sub (by decide +kernel) hW) hB30 (ct_Works_foulAll_2e164 (fBz h0 hB30)) ?_
        rintro IhB35 _ hB35 fhB35 rfl
        have t36 := fhB35 513 6 (by decide +kernel)
        have t37 := fhB35 513 9 (by decide +kernel)
        have t38 := fhB35 689 4 (by decide +kernel)
        refine And.intro ⟨rfl, by decide, by decide⟩ (fgetf fb_513_9 h0 hB35 ?_)
        intro z39 lz39 uz39 qz39
        intro z40 hz40 ez40 bz40
        clear ez40
        try replace bz40 := bz40 (by omega)
        refine And.intro ⟨rfl, by decide, by decide⟩ (And.intro rfl (And.intro (Or.inl rfl) (fputf fb_513_9 (by decide +kernel) hW (by omega) ?_)))
        intro IhB41 ehB41 hB41
        have t42 : IhB41 513 6 = IhB35 513 6 := (congrFun (congrFun ehB41 513) 6).trans (fup_ne (by first | decide | omega))
        have t43 := fup_at ehB41 9 (by first | rfl | omega)
        have t44 : IhB41 689 4 = IhB35 689 4 := (congrFun (congrFun ehB41 689) 4).trans (fup_ne (by first | decide | omega))
        refine And.intro ⟨rfl, by decide, by decide⟩ (fgetf fb_513_9 h0 hB41 ?_)
        intro z45 lz45 uz45 qz45
        refine And.intro (And.intro (by first | exact fi_ lz45 uz45 rfl | omega) (And.intro (by first | exact ⟨by decide, by decide⟩ | omega) (And.intro (by first | exact by decide | omega) rfl))) ?_
        intro z46 hz46 ez46 dz46
        refine And.intro (by omega) (And.intro ?_ ?_)
        · intro c47
          exact ⟨rfl, by omega⟩
        · intro c48
          refine Exists.intro xm_96 (And.intro mi_96 (And.intro ⟨rfl, rfl, rfl, rfl⟩ (And.intro rfl ?_)))
          refine fcall _ h0 (fzs_sub (by decide +kernel) hW) hB41 (ct_City_sendReports_305c9 (fBz h0 hB41)) ?_
          rintro IhB50 _ hB50 fhB50 rfl
          have t51 := fhB50 513 6 (by decide +kernel)
          have t52 := fhB50 513 9 (by decide +kernel)
          have t53 := fhB50 689 4 (by decide +kernel)
          exact ⟨rfl, by omega⟩
      · intro c54
        refine And.intro ⟨rfl, by decide, by decide⟩ ?_
        refine Exists.intro xm_21 (And.intro mi_21 (And.intro ⟨rfl, rfl, rfl, rfl⟩ (And.intro rfl ?_)))
        refine fcallp hB1 (ct_People_isDead_16e8f (fBz h0 hB1) (by first | exact ⟨hb.1.1, Int.le_trans (Int.le_sub_one_of_lt (Int.lt_of_lt_of_le c54 uz22)) (by decide)⟩ | omega)) ?_
        rintro _ ⟨z55, rfl, hz55⟩
        refine And.intro (by omega) (And.intro ?_ ?_)
        · intro c56
          exact fcutJ (I := I1) (j := (jc_City_passMinute_b0540_75 I)) (lv' := [(0, .inr (.inr (some 513))), (1, .inl _)]) (And.intro rfl (And.intro rfl True.intro)) ⟨_, rfl, rfl, by omega, rfl⟩ (by omega)
        · intro c57
          refine Exists.intro xm_91 (And.intro mi_91 (And.intro ⟨rfl, rfl, rfl, rfl⟩ (And.intro rfl ?_)))
          refine fcall _ h0 (fzs_sub (by decide +kernel) hW) hB1 (ct_City_breathe_fe888 (fBz h0 hB1) (by first | exact ⟨hb.1.1, Int.le_trans (Int.le_sub_one_of_lt (Int.lt_of_lt_of_le c54 uz22)) (by decide)⟩ | omega)) ?_
          rintro IhB59 _ hB59 fhB59 rfl
          have t60 := fhB59 513 9 (by decide +kernel)
          have t61 := fhB59 689 4 (by decide +kernel)
          exact fcutJ (I := IhB59) (j := (jc_City_passMinute_b0540_75 I)) (lv' := [(0, .inr (.inr (some 513))), (1, .inl _)]) (And.intro rfl (And.intro rfl True.intro)) ⟨_, rfl, rfl, by omega, rfl⟩ (by omega)
  · have hB0 := fB_self (zn := znJ) (K := fKc wz_f7c52) h0
    refine And.intro ⟨rfl, by decide, by decide⟩ ?_
    refine And.intro ⟨rfl, by decide, by decide⟩ (fgetf fb_513_9 h0 hB0 ?_)
    intro z62 lz62 uz62 qz62
    refine Exists.intro xm_74 (And.intro mi_74 (And.intro ⟨rfl, rfl, rfl, rfl⟩ (And.intro rfl ?_)))
    refine fcall _ h0 (fzs_sub (by decide +kernel) hW) hB0 (ct_Cells_takeReports_88f4c (fBz h0 hB0) (by first | exact ⟨lz62, uz62⟩ | omega)) ?_
    rintro IhB64 _ hB64 fhB64 rfl
    have t65 := fhB64 513 9 (by decide +kernel)
    exact fcutJ (I := IhB64) (j := (jc_City_passMinute_b0540_13 I)) (lv' := [(0, .inr (.inr (some 513))), (1, .inl _)]) (And.intro rfl (And.intro rfl True.intro)) ⟨_, rfl, rfl, by omega, rfl⟩ (by omega)
set_option maxRecDepth 8000 in
theorem ct_People_becomeAs_ae6e1 {I : fH}  (h0 : fB bsJ I)  : fC ρ base n F xTc vwCl xTys D dA la gJ (fbz bsJ znJ (fKc wz_5c8a7) I) xm_227 [.inr (.inr (some 689)), .inr (.inr (some 433))] I (fun _ r => r = none) := by
  have hW : fzs wz_5c8a7 (fKc wz_5c8a7) := fKc_ok _
  refine f_meth (rb := rbJ) (J := []) 1 400 xG xin_227 x6_227 okJ (fB_self h0) ?_ ?_
  · exact fun q h => absurd h List.not_mem_nil
  · have hB0 := fB_self (zn := znJ) (K := fKc wz_5c8a7) h0
    refine And.intro ⟨rfl, by decide, by decide⟩ ?_
    refine And.intro ⟨rfl, by decide, by decide⟩ ?_
    refine Exists.intro xm_75 (And.intro mi_75 (And.intro ⟨rfl, rfl, rfl, rfl⟩ (And.intro True.intro ?_)))
    refine fcall _ h0 (fzs_sub (by decide +kernel) hW) hB0 (ct_copyRow (W := [690]) (len := 24) (fBz h0 hB0) (frC_of (by decide +kernel))) ?_
    rintro IhB1 _ hB1 fhB1 ⟨rfl, ehB1⟩
    refine And.intro ⟨rfl, by decide, by decide⟩ ?_
    refine And.intro ⟨rfl, by decide, by decide⟩ ?_
    refine Exists.intro xm_75 (And.intro mi_75 (And.intro ⟨rfl, rfl, rfl, rfl⟩ (And.intro True.intro ?_)))
    refine fcall _ h0 (fzs_sub (by decide +kernel) hW) hB1 (ct_copyRow (W := [691]) (len := 24) (fBz h0 hB1) (frC_of (by decide +kernel))) ?_
    rintro IhB2 _ hB2 fhB2 ⟨rfl, ehB2⟩
    refine And.intro ⟨rfl, by decide, by decide⟩ ?_
    refine And.intro ⟨rfl, by decide, by decide⟩ ?_
    refine Exists.intro xm_75 (And.intro mi_75 (And.intro ⟨rfl, rfl, rfl, rfl⟩ (And.intro True.intro ?_)))
    refine fcall _ h0 (fzs_sub (by decide +kernel) hW) hB2 (ct_copyRow (W := [692]) (len := 24) (fBz h0 hB2) (frC_of (by decide +kernel))) ?_
    rintro IhB3 _ hB3 fhB3 ⟨rfl, ehB3⟩
    refine And.intro ⟨rfl, by decide, by decide⟩ ?_
    refine And.intro ⟨rfl, by decide, by decide⟩ ?_
    refine Exists.intro xm_75 (And.intro mi_75 (And.intro ⟨rfl, rfl, rfl, rfl⟩ (And.intro True.intro ?_)))
    refine fcall _ h0 (fzs_sub (by decide +kernel) hW) hB3 (ct_copyRow (W := [693]) (len := 24) (fBz h0 hB3) (frC_of (by decide +kernel))) ?_
    rintro IhB4 _ hB4 fhB4 ⟨rfl, ehB4⟩
    refine And.intro ⟨rfl, by decide, by decide⟩ (fgetf fb_433_4 h0 hB4 ?_)
    intro z5 lz5 uz5 qz5
    refine And.intro ⟨rfl, by decide, by decide⟩ (And.intro rfl (And.intro (Or.inl rfl) (fputf fb_689_4 (by decide +kernel) hW (by first | exact ⟨lz5, uz5⟩ | omega) ?_)))
    intro IhB6 ehB6 hB6
    have t7 : IhB6 433 4 = IhB4 433 4 := (congrFun (congrFun ehB6 433) 4).trans (fup_ne (by first | decide | omega))
    have t8 := fup_at ehB6 4 (by first | rfl | omega)
    exact rfl
set_option maxRecDepth 8000 in
theorem ct_Works_becomeAs_59e4c {I : fH}  (h0 : fB bsJ I)  : fC ρ base n F xTc vwCl xTys D dA la gJ (fbz bsJ znJ (fKc wz_1abc8) I) xm_226 [.inr (.inr (some 675)), .inr (.inr (some 419))] I (fun I' r => r = none ∧ (I' 675 13 = I 419 13) ∧ (∀ j : Nat, j < 24 → I' 676 j = I 420 j)) := by
  have hW : fzs wz_1abc8 (fKc wz_1abc8) := fKc_ok _
  refine f_meth (rb := rbJ) (J := []) 1 400 xG xin_226 x6_226 okJ (fB_self h0) ?_ ?_
  · exact fun q h => absurd h List.not_mem_nil
  · have hB0 := fB_self (zn := znJ) (K := fKc wz_1abc8) h0
    refine And.intro ⟨rfl, by decide, by decide⟩ ?_
    refine And.intro ⟨rfl, by decide, by decide⟩ ?_
    refine Exists.intro xm_75 (And.intro mi_75 (And.intro ⟨rfl, rfl, rfl, rfl⟩ (And.intro True.intro ?_)))
    refine fcall _ h0 (fzs_sub (by decide +kernel) hW) hB0 (ct_copyRow (W := [676]) (len := 24) (fBz h0 hB0) (frC_of (by decide +kernel))) ?_
    rintro IhB1 _ hB1 fhB1 ⟨rfl, ehB1⟩
    refine And.intro ⟨rfl, by decide, by decide⟩ ?_
    refine And.intro ⟨rfl, by decide, by decide⟩ ?_
    refine Exists.intro xm_75 (And.intro mi_75 (And.intro ⟨rfl, rfl, rfl, rfl⟩ (And.intro True.intro ?_)))
    refine fcall _ h0 (fzs_sub (by decide +kernel) hW) hB1 (ct_copyRow (W := [677]) (len := 24) (fBz h0 hB1) (frC_of (by decide +kernel))) ?_
    rintro IhB2 _ hB2 fhB2 ⟨rfl, ehB2⟩
    refine And.intro ⟨rfl, by decide, by decide⟩ ?_
    refine And.intro ⟨rfl, by decide, by decide⟩ ?_
    refine Exists.intro xm_75 (And.intro mi_75 (And.intro ⟨rfl, rfl, rfl, rfl⟩ (And.intro True.intro ?_)))
    refine fcall _ h0 (fzs_sub (by decide +kernel) hW) hB2 (ct_copyRow (W := [678]) (len := 24) (fBz h0 hB2) (frC_of (by decide +kernel))) ?_
    rintro IhB3 _ hB3 fhB3 ⟨rfl, ehB3⟩
    refine And.intro ⟨rfl, by decide, by decide⟩ ?_
    refine And.intro ⟨rfl, by decide, by decide⟩ ?_
    refine Exists.intro xm_75 (And.intro mi_75 (And.intro ⟨rfl, rfl, rfl, rfl⟩ (And.intro True.intro ?_)))
    refine fcall _ h0 (fzs_sub (by decide +kernel) hW) hB3 (ct_copyRow (W := [679]) (len := 24) (fBz h0 hB3) (frC_of (by decide +kernel))) ?_
    rintro IhB4 _ hB4 fhB4 ⟨rfl, ehB4⟩
    refine And.intro ⟨rfl, by decide, by decide⟩ ?_
    refine And.intro ⟨rfl, by decide, by decide⟩ ?_
    refine Exists.intro xm_75 (And.intro mi_75 (And.intro ⟨rfl, rfl, rfl, rfl⟩ (And.intro True.intro ?_)))
    refine fcall _ h0 (fzs_sub (by decide +kernel) hW) hB4 (ct_copyRow (W := [680]) (len := 24) (fBz h0 hB4) (frC_of (by decide +kernel))) ?_
    rintro IhB5 _ hB5 fhB5 ⟨rfl, ehB5⟩
    refine And.intro ⟨rfl, by decide, by decide⟩ ?_
    refine And.intro ⟨rfl, by decide, by decide⟩ ?_
    refine Exists.intro xm_75 (And.intro mi_75 (And.intro ⟨rfl, rfl, rfl, rfl⟩ (And.intro True.intro ?_)))
    refine fcall _ h0 (fzs_sub (by decide +kernel) hW) hB5 (ct_copyRow (W := [681]) (len := 24) (fBz h0 hB5) (frC_of (by decide +kernel))) ?_
    rintro IhB6 _ hB6 fhB6 ⟨rfl, ehB6⟩
    refine And.intro ⟨rfl, by decide, by decide⟩ ?_
    refine And.intro ⟨rfl, by decide, by decide⟩ ?_
    refine Exists.intro xm_75 (And.intro mi_75 (And.intro ⟨rfl, rfl, rfl, rfl⟩ (And.intro True.intro ?_)))
    refine fcall _ h0 (fzs_sub (by decide +kernel) hW) hB6 (ct_copyRow (W := [682]) (len := 24) (fBz h0 hB6) (frC_of (by decide +kernel))) ?_
    rintro IhB7 _ hB7 fhB7 ⟨rfl, ehB7⟩
    refine And.intro ⟨rfl, by decide, by decide⟩ ?_
    refine And.intro ⟨rfl, by decide, by decide⟩ ?_
    refine Exists.intro xm_75 (And.intro mi_75 (And.intro ⟨rfl, rfl, rfl, rfl⟩ (And.intro True.intro ?_)))
    refine fcall _ h0 (fzs_sub (by decide +kernel) hW) hB7 (ct_copyRow (W := [683]) (len := 24) (fBz h0 hB7) (frC_of (by decide +kernel))) ?_
    rintro IhB8 _ hB8 fhB8 ⟨rfl, ehB8⟩
    refine And.intro ⟨rfl, by decide, by decide⟩ ?_
    refine And.intro ⟨rfl, by decide, by decide⟩ ?_
    refine Exists.intro xm_75 (And.intro mi_75 (And.intro ⟨rfl, rfl, rfl, rfl⟩ (And.intro True.intro ?_)))
    refine fcall _ h0 (fzs_sub (by decide +kernel) hW) hB8 (ct_copyRow (W := [684]) (len := 24) (fBz h0 hB8) (frC_of (by decide +kernel))) ?_
    rintro IhB9 _ hB9 fhB9 ⟨rfl, ehB9⟩
    refine And.intro ⟨rfl, by decide, by decide⟩ ?_
    refine And.intro ⟨rfl, by decide, by decide⟩ ?_
    refine Exists.intro xm_75 (And.intro mi_75 (And.intro ⟨rfl, rfl, rfl, rfl⟩ (And.intro True.intro ?_)))
    refine fcall _ h0 (fzs_sub (by decide +kernel) hW) hB9 (ct_copyRow (W := [685]) (len := 24) (fBz h0 hB9) (frC_of (by decide +kernel))) ?_
    rintro IhB10 _ hB10 fhB10 ⟨rfl, ehB10⟩
    refine And.intro ⟨rfl, by decide, by decide⟩ ?_
    refine And.intro ⟨rfl, by decide, by decide⟩ ?_
    refine Exists.intro xm_75 (And.intro mi_75 (And.intro ⟨rfl, rfl, rfl, rfl⟩ (And.intro True.intro ?_)))
    refine fcall _ h0 (fzs_sub (by decide +kernel) hW) hB10 (ct_copyRow (W := [686]) (len := 24) (fBz h0 hB10) (frC_of (by decide +kernel))) ?_
    rintro IhB11 _ hB11 fhB11 ⟨rfl, ehB11⟩
    refine And.intro ⟨rfl, by decide, by decide⟩ ?_
    refine And.intro ⟨rfl, by decide, by decide⟩ ?_
    refine Exists.intro xm_75 (And.intro mi_75 (And.intro ⟨rfl, rfl, rfl, rfl⟩ (And.intro True.intro ?_)))
    refine fcall _ h0 (fzs_sub (by decide +kernel) hW) hB11 (ct_copyRow (W := [687]) (len := 24) (fBz h0 hB11) (frC_of (by decide +kernel))) ?_
    rintro IhB12 _ hB12 fhB12 ⟨rfl, ehB12⟩
    refine And.intro ⟨rfl, by decide, by decide⟩ ?_
    refine And.intro ⟨rfl, by decide, by decide⟩ ?_
    refine Exists.intro xm_75 (And.intro mi_75 (And.intro ⟨rfl, rfl, rfl, rfl⟩ (And.intro True.intro ?_)))
    refine fcall _ h0 (fzs_sub (by decide +kernel) hW) hB12 (ct_copyRow (W := [688]) (len := 24) (fBz h0 hB12) (frC_of (by decide +kernel))) ?_
    rintro IhB13 _ hB13 fhB13 ⟨rfl, ehB13⟩
    refine And.intro ⟨rfl, by decide, by decide⟩ (fgetf fb_419_13 h0 hB13 ?_)
    intro z14 lz14 uz14 qz14
    have k15 := fBz_eq hB13 (a := 419) (j := 13) (by decide +kernel)
    refine And.intro ⟨rfl, by decide, by decide⟩ (And.intro rfl (And.intro (Or.inl rfl) (fputf fb_675_13 (by decide +kernel) hW (by first | exact ⟨lz14, uz14⟩ | omega) ?_)))
    intro IhB16 ehB16 hB16
    have t17 := fup_at ehB16 13 (by first | rfl | omega)
    exact ⟨rfl, by omega, (fun j hj => ((fup_other ehB16 676 j (Or.inl (by omega))).trans (((congrFun (congrFun ehB13 676) j).trans (fcpy_ne (by omega))).trans (((congrFun (congrFun ehB12 676) j).trans (fcpy_ne (by omega))).trans (((congrFun (congrFun ehB11 676) j).trans (fcpy_ne (by omega))).trans (((congrFun (congrFun ehB10 676) j).trans (fcpy_ne (by omega))).trans (((congrFun (congrFun ehB9 676) j).trans (fcpy_ne (by omega))).trans (((congrFun (congrFun ehB8 676) j).trans (fcpy_ne (by omega))).trans (((congrFun (congrFun ehB7 676) j).trans (fcpy_ne (by omega))).trans (((congrFun (congrFun ehB6 676) j).trans (fcpy_ne (by omega))).trans (((congrFun (congrFun ehB5 676) j).trans (fcpy_ne (by omega))).trans (((congrFun (congrFun ehB4 676) j).trans (fcpy_ne (by omega))).trans (((congrFun (congrFun ehB3 676) j).trans (fcpy_ne (by omega))).trans (((congrFun (congrFun ehB2 676) j).trans (fcpy_ne (by omega))).trans ((congrFun (congrFun ehB1 676) j).trans (fcpy_at hj))))))))))))))))⟩
set_option maxRecDepth 8000 in
theorem ct_Cells_becomeAs_5a6fe {I : fH}  (h0 : fB bsJ I)  : fC ρ base n F xTc vwCl xTys D dA la gJ (fbz bsJ znJ (fKc wz_64c1d) I) xm_224 [.inr (.inr (some 514)), .inr (.inr (some 258))] I (fun I' r => r = none ∧ (I' 514 5 = I 258 5 ∧ I' 514 10 = I 258 10)) := by
  have hW : fzs wz_64c1d (fKc wz_64c1d) := fKc_ok _
  refine f_meth (rb := rbJ) (J := []) 1 400 xG xin_224 x6_224 okJ (fB_self h0) ?_ ?_
  · exact fun q h => absurd h List.not_mem_nil
  · have hB0 := fB_self (zn := znJ) (K := fKc wz_64c1d) h0
    refine And.intro ⟨rfl, by decide, by decide⟩ ?_
    refine And.intro ⟨rfl, by decide, by decide⟩ ?_
    refine Exists.intro xm_75 (And.intro mi_75 (And.intro ⟨rfl, rfl, rfl, rfl⟩ (And.intro True.intro ?_)))
    refine fcall _ h0 (fzs_sub (by decide +kernel) hW) hB0 (ct_copyRow (W := [515]) (len := 20) (fBz h0 hB0) (frC_of (by decide +kernel))) ?_
    rintro IhB1 _ hB1 fhB1 ⟨rfl, ehB1⟩
    refine And.intro ⟨rfl, by decide, by decide⟩ ?_
    refine And.intro ⟨rfl, by decide, by decide⟩ ?_
    refine Exists.intro xm_75 (And.intro mi_75 (And.intro ⟨rfl, rfl, rfl, rfl⟩ (And.intro True.intro ?_)))
    refine fcall _ h0 (fzs_sub (by decide +kernel) hW) hB1 (ct_copyRow (W := [516]) (len := 20) (fBz h0 hB1) (frC_of (by decide +kernel))) ?_
    rintro IhB2 _ hB2 fhB2 ⟨rfl, ehB2⟩
    refine And.intro ⟨rfl, by decide, by decide⟩ ?_
    refine And.intro ⟨rfl, by decide, by decide⟩ ?_
    refine Exists.intro xm_225 (And.intro mi_225 (And.intro ⟨rfl, rfl, rfl, rfl⟩ (And.intro True.intro ?_)))
    refine fcall _ h0 (fzs_sub (by decide +kernel) hW) hB2 (ct_copyRows (W := [517]) (m := 20) (len := 5) (ro := 262) (rd := 518) (fBz h0 hB2) (frCs_of ⟨rfl, rfl, rfl, rfl, by decide⟩ (by decide +kernel))) ?_
    rintro IhB3 _ hB3 fhB3 ⟨rfl, ehB3⟩
    refine And.intro ⟨rfl, by decide, by decide⟩ ?_
    refine And.intro ⟨rfl, by decide, by decide⟩ ?_
    refine Exists.intro xm_225 (And.intro mi_225 (And.intro ⟨rfl, rfl, rfl, rfl⟩ (And.intro True.intro ?_)))
    refine fcall _ h0 (fzs_sub (by decide +kernel) hW) hB3 (ct_copyRows (W := [538]) (m := 20) (len := 5) (ro := 283) (rd := 539) (fBz h0 hB3) (frCs_of ⟨rfl, rfl, rfl, rfl, by decide⟩ (by decide +kernel))) ?_
    rintro IhB4 _ hB4 fhB4 ⟨rfl, ehB4⟩
    refine And.intro ⟨rfl, by decide, by decide⟩ ?_
    refine And.intro ⟨rfl, by decide, by decide⟩ ?_
    refine Exists.intro xm_225 (And.intro mi_225 (And.intro ⟨rfl, rfl, rfl, rfl⟩ (And.intro True.intro ?_)))
    refine fcall _ h0 (fzs_sub (by decide +kernel) hW) hB4 (ct_copyRows (W := [559]) (m := 20) (len := 6) (ro := 304) (rd := 560) (fBz h0 hB4) (frCs_of ⟨rfl, rfl, rfl, rfl, by decide⟩ (by decide +kernel))) ?_
    rintro IhB5 _ hB5 fhB5 ⟨rfl, ehB5⟩
    refine And.intro ⟨rfl, by decide, by decide⟩ (fgetf fb_258_5 h0 hB5 ?_)
    intro z6 lz6 uz6 qz6
    have k7 := fBz_eq hB5 (a := 258) (j := 5) (by decide +kernel)
    refine And.intro ⟨rfl, by decide, by decide⟩ (And.intro rfl (And.intro (Or.inl rfl) (fputf fb_514_5 (by decide +kernel) hW (by first | exact ⟨lz6, uz6⟩ | omega) ?_)))
    intro IhB8 ehB8 hB8
    have t9 := fup_at ehB8 5 (by first | rfl | omega)
    refine And.intro ⟨rfl, by decide, by decide⟩ ?_
    refine And.intro ⟨rfl, by decide, by decide⟩ ?_
    refine Exists.intro xm_75 (And.intro mi_75 (And.intro ⟨rfl, rfl, rfl, rfl⟩ (And.intro True.intro ?_)))
    refine fcall _ h0 (fzs_sub (by decide +kernel) hW) hB8 (ct_copyRow (W := [580]) (len := 24) (fBz h0 hB8) (frC_of (by decide +kernel))) ?_
    rintro IhB10 _ hB10 fhB10 ⟨rfl, ehB10⟩
    have t11 := fhB10 514 5 (by decide +kernel)
    refine And.intro ⟨rfl, by decide, by decide⟩ ?_
    refine And.intro ⟨rfl, by decide, by decide⟩ ?_
    refine Exists.intro xm_75 (And.intro mi_75 (And.intro ⟨rfl, rfl, rfl, rfl⟩ (And.intro True.intro ?_)))
    refine fcall _ h0 (fzs_sub (by decide +kernel) hW) hB10 (ct_copyRow (W := [581]) (len := 24) (fBz h0 hB10) (frC_of (by decide +kernel))) ?_
    rintro IhB12 _ hB12 fhB12 ⟨rfl, ehB12⟩
    have t13 := fhB12 514 5 (by decide +kernel)
    refine And.intro ⟨rfl, by decide, by decide⟩ ?_
    refine And.intro ⟨rfl, by decide, by decide⟩ ?_
    refine Exists.intro xm_75 (And.intro mi_75 (And.intro ⟨rfl, rfl, rfl, rfl⟩ (And.intro True.intro ?_)))
    refine fcall _ h0 (fzs_sub (by decide +kernel) hW) hB12 (ct_copyRow (W := [582]) (len := 24) (fBz h0 hB12) (frC_of (by decide +kernel))) ?_
    rintro IhB14 _ hB14 fhB14 ⟨rfl, ehB14⟩
    have t15 := fhB14 514 5 (by decide +kernel)
    refine And.intro ⟨rfl, by decide, by decide⟩ ?_
    refine And.intro ⟨rfl, by decide, by decide⟩ ?_
    refine Exists.intro xm_75 (And.intro mi_75 (And.intro ⟨rfl, rfl, rfl, rfl⟩ (And.intro True.intro ?_)))
    refine fcall _ h0 (fzs_sub (by decide +kernel) hW) hB14 (ct_copyRow (W := [583]) (len := 24) (fBz h0 hB14) (frC_of (by decide +kernel))) ?_
    rintro IhB16 _ hB16 fhB16 ⟨rfl, ehB16⟩
    have t17 := fhB16 514 5 (by decide +kernel)
    refine And.intro ⟨rfl, by decide, by decide⟩ (fgetf fb_258_10 h0 hB16 ?_)
    intro z18 lz18 uz18 qz18
    have k19 := fBz_eq hB16 (a := 258) (j := 10) (by decide +kernel)
    refine And.intro ⟨rfl, by decide, by decide⟩ (And.intro rfl (And.intro (Or.inl rfl) (fputf fb_514_10 (by decide +kernel) hW (by first | exact ⟨lz18, uz18⟩ | omega) ?_)))
    intro IhB20 ehB20 hB20
    have t21 : IhB20 514 5 = IhB16 514 5 := (congrFun (congrFun ehB20 514) 5).trans (fup_ne (by first | decide | omega))
    have t22 := fup_at ehB20 10 (by first | rfl | omega)
    refine And.intro ⟨rfl, by decide, by decide⟩ ?_
    refine And.intro ⟨rfl, by decide, by decide⟩ ?_
    refine Exists.intro xm_225 (And.intro mi_225 (And.intro ⟨rfl, rfl, rfl, rfl⟩ (And.intro True.intro ?_)))
    refine fcall _ h0 (fzs_sub (by decide +kernel) hW) hB20 (ct_copyRows (W := [584]) (m := 90) (len := 8) (ro := 329) (rd := 585) (fBz h0 hB20) (frCs_of ⟨rfl, rfl, rfl, rfl, by decide⟩ (by decide +kernel))) ?_
    rintro IhB23 _ hB23 fhB23 ⟨rfl, ehB23⟩
    have t24 := fhB23 514 5 (by decide +kernel)
    have t25 := fhB23 514 10 (by decide +kernel)
    refine And.intro ⟨rfl, by decide, by decide⟩ (fgetf fb_258_12 h0 hB23 ?_)
    intro z26 lz26 uz26 qz26
    refine And.intro ⟨rfl, by decide, by decide⟩ (And.intro rfl (And.intro (Or.inl rfl) (fputf fb_514_12 (by decide +kernel) hW (by first | exact ⟨lz26, uz26⟩ | omega) ?_)))
    intro IhB27 ehB27 hB27
    have t28 : IhB27 514 5 = IhB23 514 5 := (congrFun (congrFun ehB27 514) 5).trans (fup_ne (by first | decide | omega))
    have t29 : IhB27 514 10 = IhB23 514 10 := (congrFun (congrFun ehB27 514) 10).trans (fup_ne (by first | decide | omega))
    have t30 := fup_at ehB27 12 (by first | rfl | omega)
    exact ⟨rfl, by omega⟩
set_option maxRecDepth 8000 in
theorem ct_City_becomeAs_a708a {I : fH}  (h0 : fB bsJ I)  : fC ρ base n F xTc vwCl xTys D dA la gJ (fbz bsJ znJ (fKc wz_7a224) I) xm_223 [.inr (.inr (some 513)), .inr (.inr (some 257))] I (fun I' r => r = none ∧ ((I' 514 5 = I 258 5 ∧ I' 514 10 = I 258 10 ∧ I' 513 9 = I 257 9) ∧ I' 675 13 = I 419 13) ∧ (∀ j : Nat, j < 24 → I' 676 j = I 420 j) ∧ (∀ i j : Nat, i < 3 → j < 61 → I' (696 + i) j = I (440 + i) j)) := by
  have hW : fzs wz_7a224 (fKc wz_7a224) := fKc_ok _
  refine f_meth (rb := rbJ) (J := []) 1 400 xG xin_223 x6_223 okJ (fB_self h0) ?_ ?_
  · exact fun q h => absurd h List.not_mem_nil
  · have hB0 := fB_self (zn := znJ) (K := fKc wz_7a224) h0
    refine And.intro ⟨rfl, by decide, by decide⟩ ?_
    refine And.intro ⟨rfl, by decide, by decide⟩ ?_
    refine Exists.intro xm_224 (And.intro mi_224 (And.intro ⟨rfl, rfl, rfl, rfl⟩ (And.intro rfl ?_)))
    refine fcall _ h0 (fzs_sub (by decide +kernel) hW) hB0 (ct_Cells_becomeAs_5a6fe (fBz h0 hB0)) ?_
    rintro IhB2 _ hB2 fhB2 ⟨rfl, hz1⟩
    refine And.intro ⟨rfl, by decide, by decide⟩ ?_
    refine And.intro ⟨rfl, by decide, by decide⟩ ?_
    refine Exists.intro xm_226 (And.intro mi_226 (And.intro ⟨rfl, rfl, rfl, rfl⟩ (And.intro rfl ?_)))
    refine fcall _ h0 (fzs_sub (by decide +kernel) hW) hB2 (ct_Works_becomeAs_59e4c (fBz h0 hB2)) ?_
    rintro IhB4 _ hB4 fhB4 ⟨rfl, hz3, g0z3⟩
    have t5 := fhB4 514 5 (by decide +kernel)
    have t6 := fhB4 514 10 (by decide +kernel)
    have w19 := fBz_eq hB2 (a := 419) (j := 13) (by decide +kernel)
    refine And.intro ⟨rfl, by decide, by decide⟩ ?_
    refine And.intro ⟨rfl, by decide, by decide⟩ ?_
    refine Exists.intro xm_227 (And.intro mi_227 (And.intro ⟨rfl, rfl, rfl, rfl⟩ (And.intro rfl ?_)))
    refine fcall _ h0 (fzs_sub (by decide +kernel) hW) hB4 (ct_People_becomeAs_ae6e1 (fBz h0 hB4)) ?_
    rintro IhB8 _ hB8 fhB8 rfl
    have t9 := fhB8 514 5 (by decide +kernel)
    have t10 := fhB8 514 10 (by decide +kernel)
    have t11 := fhB8 675 13 (by decide +kernel)
    refine And.intro ⟨rfl, by decide, by decide⟩ ?_
    refine And.intro ⟨rfl, by decide, by decide⟩ ?_
    refine Exists.intro xm_75 (And.intro mi_75 (And.intro ⟨rfl, rfl, rfl, rfl⟩ (And.intro True.intro ?_)))
    refine fcall _ h0 (fzs_sub (by decide +kernel) hW) hB8 (ct_copyRow (W := [694]) (len := 6) (fBz h0 hB8) (frC_of (by decide +kernel))) ?_
    rintro IhB12 _ hB12 fhB12 ⟨rfl, ehB12⟩
    have t13 := fhB12 514 5 (by decide +kernel)
    have t14 := fhB12 514 10 (by decide +kernel)
    have t15 := fhB12 675 13 (by decide +kernel)
    refine And.intro ⟨rfl, by decide, by decide⟩ ?_
    refine And.intro ⟨rfl, by decide, by decide⟩ ?_
    refine Exists.intro xm_225 (And.intro mi_225 (And.intro ⟨rfl, rfl, rfl, rfl⟩ (And.intro True.intro ?_)))
    refine fcall _ h0 (fzs_sub (by decide +kernel) hW) hB12 (ct_copyRows (W := [695]) (m := 3) (len := 61) (ro := 440) (rd := 696) (fBz h0 hB12) (frCs_of ⟨rfl, rfl, rfl, rfl, by decide⟩ (by decide +kernel))) ?_
    rintro IhB16 _ hB16 fhB16 ⟨rfl, ehB16⟩
    have t17 := fhB16 514 5 (by decide +kernel)
    have t18 := fhB16 514 10 (by decide +kernel)
    have t19 := fhB16 675 13 (by decide +kernel)
    refine And.intro ⟨rfl, by decide, by decide⟩ (fgetf fb_257_5 h0 hB16 ?_)
    intro z20 lz20 uz20 qz20
    refine And.intro ⟨rfl, by decide, by decide⟩ (And.intro rfl (And.intro (Or.inl rfl) (fputf fb_513_5 (by decide +kernel) hW (by first | exact ⟨lz20, uz20⟩ | omega) ?_)))
    intro IhB21 ehB21 hB21
    have t22 := fup_at ehB21 5 (by first | rfl | omega)
    have t23 : IhB21 514 5 = IhB16 514 5 := (congrFun (congrFun ehB21 514) 5).trans (fup_ne (by first | decide | omega))
    have t24 : IhB21 514 10 = IhB16 514 10 := (congrFun (congrFun ehB21 514) 10).trans (fup_ne (by first | decide | omega))
    have t25 : IhB21 675 13 = IhB16 675 13 := (congrFun (congrFun ehB21 675) 13).trans (fup_ne (by first | decide | omega))
    refine And.intro ⟨rfl, by decide, by decide⟩ (fgetf fb_257_6 h0 hB21 ?_)
    intro z26 lz26 uz26 qz26
    refine And.intro ⟨rfl, by decide, by decide⟩ (And.intro rfl (And.intro (Or.inl rfl) (fputf fb_513_6 (by decide +kernel) hW (by first | exact ⟨lz26, uz26⟩ | omega) ?_)))
    intro IhB27 ehB27 hB27
    have t28 : IhB27 513 5 = IhB21 513 5 := (congrFun (congrFun ehB27 513) 5).trans (fup_ne (by first | decide | omega))
    have t29 := fup_at ehB27 6 (by first | rfl | omega)
    have t30 : IhB27 514 5 = IhB21 514 5 := (congrFun (congrFun ehB27 514) 5).trans (fup_ne (by first | decide | omega))
    have t31 : IhB27 514 10 = IhB21 514 10 := (congrFun (congrFun ehB27 514) 10).trans (fup_ne (by first | decide | omega))
    have t32 : IhB27 675 13 = IhB21 675 13 := (congrFun (congrFun ehB27 675) 13).trans (fup_ne (by first | decide | omega))
    refine And.intro ⟨rfl, by decide, by decide⟩ (fgetf fb_257_7 h0 hB27 ?_)
    intro z33 lz33 uz33 qz33
    refine And.intro ⟨rfl, by decide, by decide⟩ (And.intro rfl (And.intro (Or.inl rfl) (fputf fb_513_7 (by decide +kernel) hW (by first | exact ⟨lz33, uz33⟩ | omega) ?_)))
    intro IhB34 ehB34 hB34
    have t35 : IhB34 513 5 = IhB27 513 5 := (congrFun (congrFun ehB34 513) 5).trans (fup_ne (by first | decide | omega))
    have t36 : IhB34 513 6 = IhB27 513 6 := (congrFun (congrFun ehB34 513) 6).trans (fup_ne (by first | decide | omega))
    have t37 := fup_at ehB34 7 (by first | rfl | omega)
    have t38 : IhB34 514 5 = IhB27 514 5 := (congrFun (congrFun ehB34 514) 5).trans (fup_ne (by first | decide | omega))
    have t39 : IhB34 514 10 = IhB27 514 10 := (congrFun (congrFun ehB34 514) 10).trans (fup_ne (by first | decide | omega))
    have t40 : IhB34 675 13 = IhB27 675 13 := (congrFun (congrFun ehB34 675) 13).trans (fup_ne (by first | decide | omega))
    refine And.intro ⟨rfl, by decide, by decide⟩ (fgetf fb_257_8 h0 hB34 ?_)
    intro z41 lz41 uz41 qz41
    refine And.intro ⟨rfl, by decide, by decide⟩ (And.intro rfl (And.intro (Or.inl rfl) (fputf fb_513_8 (by decide +kernel) hW (by first | exact ⟨lz41, uz41⟩ | omega) ?_)))
    intro IhB42 ehB42 hB42
    have t43 : IhB42 513 5 = IhB34 513 5 := (congrFun (congrFun ehB42 513) 5).trans (fup_ne (by first | decide | omega))
    have t44 : IhB42 513 6 = IhB34 513 6 := (congrFun (congrFun ehB42 513) 6).trans (fup_ne (by first | decide | omega))
    have t45 : IhB42 513 7 = IhB34 513 7 := (congrFun (congrFun ehB42 513) 7).trans (fup_ne (by first | decide | omega))
    have t46 := fup_at ehB42 8 (by first | rfl | omega)
    have t47 : IhB42 514 5 = IhB34 514 5 := (congrFun (congrFun ehB42 514) 5).trans (fup_ne (by first | decide | omega))
    have t48 : IhB42 514 10 = IhB34 514 10 := (congrFun (congrFun ehB42 514) 10).trans (fup_ne (by first | decide | omega))
    have t49 : IhB42 675 13 = IhB34 675 13 := (congrFun (congrFun ehB42 675) 13).trans (fup_ne (by first | decide | omega))
    refine And.intro ⟨rfl, by decide, by decide⟩ (fgetf fb_257_9 h0 hB42 ?_)
    intro z50 lz50 uz50 qz50
    have k51 := fBz_eq hB42 (a := 257) (j := 9) (by decide +kernel)
    refine And.intro ⟨rfl, by decide, by decide⟩ (And.intro rfl (And.intro (Or.inl rfl) (fputf fb_513_9 (by decide +kernel) hW (by first | exact ⟨lz50, uz50⟩ | omega) ?_)))
    intro IhB52 ehB52 hB52
    have t53 : IhB52 513 5 = IhB42 513 5 := (congrFun (congrFun ehB52 513) 5).trans (fup_ne (by first | decide | omega))
    have t54 : IhB52 513 6 = IhB42 513 6 := (congrFun (congrFun ehB52 513) 6).trans (fup_ne (by first | decide | omega))
    have t55 : IhB52 513 7 = IhB42 513 7 := (congrFun (congrFun ehB52 513) 7).trans (fup_ne (by first | decide | omega))
    have t56 : IhB52 513 8 = IhB42 513 8 := (congrFun (congrFun ehB52 513) 8).trans (fup_ne (by first | decide | omega))
    have t57 := fup_at ehB52 9 (by first | rfl | omega)
    have t58 : IhB52 514 5 = IhB42 514 5 := (congrFun (congrFun ehB52 514) 5).trans (fup_ne (by first | decide | omega))
    have t59 : IhB52 514 10 = IhB42 514 10 := (congrFun (congrFun ehB52 514) 10).trans (fup_ne (by first | decide | omega))
    have t60 : IhB52 675 13 = IhB42 675 13 := (congrFun (congrFun ehB52 675) 13).trans (fup_ne (by first | decide | omega))
    exact ⟨rfl, by omega, (fun j hj => ((fup_other ehB52 676 j (Or.inl (by omega))).trans ((fup_other ehB42 676 j (Or.inl (by omega))).trans ((fup_other ehB34 676 j (Or.inl (by omega))).trans ((fup_other ehB27 676 j (Or.inl (by omega))).trans ((fup_other ehB21 676 j (Or.inl (by omega))).trans ((fFr_at fhB16 676 (by decide +kernel) rfl j).trans (((congrFun (congrFun ehB12 676) j).trans (fcpy_ne (by omega))).trans ((fFr_at fhB8 676 (by decide +kernel) rfl j).trans ((g0z3 j hj).trans (fFr_at (fFr_of hB2) 420 (by decide +kernel) rfl j))))))))))), (fun i j hi hj => ((fup_other ehB52 (696 + i) j (Or.inl (by omega))).trans ((fup_other ehB42 (696 + i) j (Or.inl (by omega))).trans ((fup_other ehB34 (696 + i) j (Or.inl (by omega))).trans ((fup_other ehB27 (696 + i) j (Or.inl (by omega))).trans ((fup_other ehB21 (696 + i) j (Or.inl (by omega))).trans ((ehB16 i hi j hj).trans (fFr_rows (fFr_of hB12) (r := 440) (m := 3) (len := 61) (by decide +kernel) i j hi hj))))))))⟩
abbrev jc_Cells_oxygen_5c56e_4 : Nat → fL → List fV → fH → Prop := fun m lv st I => ∃ (y1 : Int) (y2 : Int), lv = [(0, .inr (.inr (some 514))), (1, .inl y1), (2, .inl y2)] ∧ st = [] ∧ ((((-2147483648) ≤ y1 ∧ y1 ≤ 2147483647) ∧ (0 ≤ y2 ∧ y2 ≤ 20))) ∧ m = (1 + 1 * (20 - y2) : Int).toNat
set_option maxRecDepth 8000 in
theorem ct_Cells_oxygen_5c56e {I : fH}  (h0 : fB bsJ I)  : fC ρ base n F xTc vwCl xTys D dA la gJ (fbz bsJ znJ (fKc []) I) xm_228 [.inr (.inr (some 514))] I (fun _ r => ∃ z, r = some (.inl z) ∧ ((-2147483648) ≤ z ∧ z ≤ 2147483647)) := by
  have hW : fzs [] (fKc []) := fKc_ok _
  refine f_meth (rb := rbJ) (J := [(4, jc_Cells_oxygen_5c56e_4)]) 22 400 xG xin_228 x6_228 okJ (fB_self h0) ?_ ?_
  · refine List.forall_mem_cons.mpr ⟨?_, fun q h => absurd h List.not_mem_nil⟩
    · rintro m _ _ I1 hB1 ⟨y1, y2, rfl, rfl, hb, hm⟩
      refine And.intro ⟨rfl, by decide, by decide⟩ (fgetf fb_514_5 h0 hB1 ?_)
      intro z1 lz1 uz1 qz1
      refine And.intro (And.intro (by first | exact fi_ hb.2.1 hb.2.2 rfl | omega) (by first | exact fi_ lz1 uz1 rfl | omega)) (And.intro ?_ ?_)
      · intro c2
        refine And.intro (True.intro) ?_
        exact ⟨_, rfl, (by first | exact ⟨hb.1.1, hb.1.2⟩ | omega)⟩
      · intro c3
        refine And.intro ⟨rfl, by decide, by decide⟩ ?_
        refine And.intro ⟨rfl, by decide⟩ (And.intro (by first | exact ⟨hb.2.1, Int.lt_of_le_of_lt (Int.le_sub_one_of_lt (Int.lt_of_lt_of_le c3 uz1)) (by decide)⟩ | omega) ?_)
        refine fload rL_518_537_0_4_1_0 h0 hB1 (by omega) ?_
        intro z4 lz4 uz4 qz4
        intro z5 hz5 ez5 bz5
        clear ez5
        clear bz5
        exact fcutJ (I := I1) (j := jc_Cells_oxygen_5c56e_4) (lv' := [(0, .inr (.inr (some 514))), (1, .inl _), (2, .inl _)]) (And.intro rfl (And.intro rfl (And.intro rfl True.intro))) ⟨_, _, rfl, rfl, by omega, rfl⟩ (by omega)
  · have hB0 := fB_self (zn := znJ) (K := fKc []) h0
    exact fcutJ (I := I) (j := jc_Cells_oxygen_5c56e_4) (lv' := [(0, .inr (.inr (some 514))), (1, .inl _), (2, .inl _)]) (And.intro rfl (And.intro rfl (And.intro rfl True.intro))) ⟨_, _, rfl, rfl, by omega, rfl⟩ (by omega)
abbrev jc_X_checkDay_bd195_34 : Nat → fL → List fV → fH → Prop := fun m lv st I => ∃ (y1 : Int) (y2 : Int) (y3 : Int) (y4 : Int), lv = [(0, .inr (.inr (some 0))), (1, .inl y1), (2, .inl y2), (3, .inl y3), (4, .inl y4)] ∧ st = [] ∧ (((1 ≤ y1 ∧ y1 ≤ 24) ∧ (0 ≤ y2 ∧ y2 ≤ 60) ∧ (0 ≤ y3 ∧ y3 ≤ 24) ∧ (0 ≤ y4 ∧ y4 ≤ 24) ∧ (1 ≤ I 0 6 ∧ I 0 6 ≤ 1))) ∧ m = (62 + 62 * (24 - y4) : Int).toNat
abbrev jc_X_checkDay_bd195_43 : Nat → fL → List fV → fH → Prop := fun m lv st I => ∃ (y1 : Int) (y2 : Int) (y3 : Int) (y4 : Int) (y5 : Int), lv = [(0, .inr (.inr (some 0))), (1, .inl y1), (2, .inl y2), (3, .inl y3), (4, .inl y4), (5, .inl y5)] ∧ st = [] ∧ (((1 ≤ y1 ∧ y1 ≤ 24) ∧ (0 ≤ y2 ∧ y2 ≤ 60) ∧ (1 ≤ y3 ∧ y3 ≤ 24) ∧ (0 ≤ y4 ∧ y4 ≤ 23) ∧ (0 ≤ y5 ∧ y5 ≤ 60) ∧ (1 ≤ I 0 6 ∧ I 0 6 ≤ 1))) ∧ m = (1 + 62 * (24 - y4) + 1 * (60 - y5) : Int).toNat
set_option maxRecDepth 8000 in
theorem ct_X_checkDay_bd195 {I : fH} {x1 : Int} {x2 : Int} (h0 : fB bsJ I) (ha1 : (1 ≤ x1 ∧ x1 ≤ 24)) (ha2 : (0 ≤ x2 ∧ x2 ≤ 60)) : fC ρ base n F xTc vwCl xTys D dA la gJ (fbz bsJ znJ (fKc wz_920bb) I) xm_222 [.inr (.inr (some 0)), .inl x1, .inl x2] I (fun _ r => ∃ z, r = some (.inl z) ∧ ((0 ≤ z ∧ z ≤ 49) ∨ z = (-1000000002))) := by
  have hW : fzs wz_920bb (fKc wz_920bb) := fKc_ok _
  refine f_meth (rb := rbJ) (J := [(34, jc_X_checkDay_bd195_34), (43, jc_X_checkDay_bd195_43)]) 1551 400 xG xin_222 x6_222 okJ (fB_self h0) ?_ ?_
  · refine List.forall_mem_cons.mpr ⟨?_, List.forall_mem_cons.mpr ⟨?_, fun q h => absurd h List.not_mem_nil⟩⟩
    · rintro m _ _ I1 hB1 ⟨y1, y2, y3, y4, rfl, rfl, hb, hm⟩
      refine And.intro (And.intro (by first | exact fi_ hb.2.2.2.1.1 hb.2.2.2.1.2 rfl | omega) (by first | exact fi_ hb.2.2.1.1 hb.2.2.1.2 rfl | omega)) (And.intro ?_ ?_)
      · intro c1
        refine Exists.intro xm_220 (And.intro mi_220 (And.intro ⟨rfl, rfl, rfl, rfl⟩ (And.intro rfl ?_)))
        refine fcallp hB1 (ct_X_firstWrong_4e02b (fBz h0 hB1) (by omega) (by first | exact ⟨hb.2.1.1, hb.2.1.2⟩ | omega)) ?_
        rintro _ ⟨z2, rfl, hz2⟩
        refine And.intro (True.intro) ?_
        exact ⟨_, rfl, by omega⟩
      · intro c3
        exact fcutJ (I := I1) (j := jc_X_checkDay_bd195_43) (lv' := [(0, .inr (.inr (some 0))), (1, .inl _), (2, .inl _), (3, .inl _), (4, .inl _), (5, .inl _)]) (And.intro rfl (And.intro rfl (And.intro rfl (And.intro rfl (And.intro rfl (And.intro rfl True.intro)))))) ⟨_, _, _, _, _, rfl, rfl, by omega, rfl⟩ (by omega)
    · rintro m _ _ I1 hB1 ⟨y1, y2, y3, y4, y5, rfl, rfl, hb, hm⟩
      refine And.intro (And.intro (by first | exact fi_ hb.2.2.2.2.1.1 hb.2.2.2.2.1.2 rfl | omega) (by first | exact ⟨by decide, by decide⟩ | omega)) (And.intro ?_ ?_)
      · intro c4
        refine And.intro ⟨rfl, by decide, by decide⟩ ?_
        refine And.intro ⟨rfl, by decide, by decide⟩ ?_
        refine And.intro ⟨rfl, by decide, by decide⟩ (fgetf fb_513_5 h0 hB1 ?_)
        intro z5 lz5 uz5 qz5
        refine fstore rS_739_739_0_59_1_0 (fzs_sub (by decide +kernel) hW) (by omega) (by first | exact ⟨Int.le_trans (by decide) lz5, Int.le_trans uz5 (by decide)⟩ | omega) ?_
        intro IhB6 ehB6 hB6
        have t7 := fup_self ehB6
        have t8 : IhB6 0 6 = I1 0 6 := (congrFun (congrFun ehB6 0) 6).trans (fup_ne (by first | exact Or.inl (by decide) | omega))
        have t9 : IhB6 513 5 = I1 513 5 := (congrFun (congrFun ehB6 513) 5).trans (fup_ne (by first | exact Or.inl (by decide) | omega))
        refine And.intro ⟨rfl, by decide, by decide⟩ ?_
        refine And.intro ⟨rfl, by decide, by decide⟩ ?_
        refine And.intro ⟨rfl, by decide, by decide⟩ ?_
        refine Exists.intro xm_228 (And.intro mi_228 (And.intro ⟨rfl, rfl, rfl, rfl⟩ (And.intro rfl ?_)))
        refine fcallp hB6 (ct_Cells_oxygen_5c56e (fBz h0 hB6)) ?_
        rintro _ ⟨z10, rfl, hz10⟩
        refine fstore rS_739_739_0_59_1_0 (fzs_sub (by decide +kernel) hW) (by omega) (by first | exact ⟨hz10.1, hz10.2⟩ | omega) ?_
        intro IhB11 ehB11 hB11
        have t12 := fup_self ehB11
        have t13 : IhB11 0 6 = IhB6 0 6 := (congrFun (congrFun ehB11 0) 6).trans (fup_ne (by first | exact Or.inl (by decide) | omega))
        have t14 : IhB11 513 5 = IhB6 513 5 := (congrFun (congrFun ehB11 513) 5).trans (fup_ne (by first | exact Or.inl (by decide) | omega))
        exact fcutJ (I := IhB11) (j := jc_X_checkDay_bd195_34) (lv' := [(0, .inr (.inr (some 0))), (1, .inl _), (2, .inl _), (3, .inl _), (4, .inl _)]) (And.intro rfl (And.intro rfl (And.intro rfl (And.intro rfl (And.intro rfl True.intro))))) ⟨_, _, _, _, rfl, rfl, by omega, rfl⟩ (by omega)
      · intro c15
        refine And.intro ⟨rfl, by decide, by decide⟩ ?_
        refine Exists.intro xm_73 (And.intro mi_73 (And.intro ⟨rfl, rfl, rfl, rfl⟩ (And.intro rfl ?_)))
        refine fcall _ h0 (fzs_sub (by decide +kernel) hW) hB1 (ct_City_passMinute_b0540 (fBz h0 hB1)) ?_
        rintro IhB17 _ hB17 fhB17 ⟨rfl, hz16⟩
        have t18 := fhB17 0 6 (by decide +kernel)
        exact fcutJ (I := IhB17) (j := jc_X_checkDay_bd195_43) (lv' := [(0, .inr (.inr (some 0))), (1, .inl _), (2, .inl _), (3, .inl _), (4, .inl _), (5, .inl _)]) (And.intro rfl (And.intro rfl (And.intro rfl (And.intro rfl (And.intro rfl (And.intro rfl True.intro)))))) ⟨_, _, _, _, _, rfl, rfl, by omega, rfl⟩ (by omega)
  · have hB0 := fB_self (zn := znJ) (K := fKc wz_920bb) h0
    refine And.intro ⟨rfl, by decide, by decide⟩ (fgetf fb_0_6 h0 hB0 ?_)
    intro z19 lz19 uz19 qz19
    refine And.intro (by first | exact fi_ lz19 uz19 rfl | omega) (And.intro ?_ ?_)
    · intro c20
      refine And.intro ⟨rfl, by decide, by decide⟩ ?_
      refine And.intro ⟨rfl, by decide, by decide⟩ ?_
      refine Exists.intro xm_223 (And.intro mi_223 (And.intro ⟨rfl, rfl, rfl, rfl⟩ (And.intro rfl ?_)))
      refine fcall _ h0 (fzs_sub (by decide +kernel) hW) hB0 (ct_City_becomeAs_a708a (fBz h0 hB0)) ?_
      rintro IhB22 _ hB22 fhB22 ⟨rfl, hz21, g0z21, g1z21⟩
      have t23 := fhB22 0 6 (by decide +kernel)
      refine And.intro (And.intro (by omega) (And.intro (by first | exact ⟨by decide, by decide⟩ | omega) (And.intro (by first | exact by decide | omega) rfl))) ?_
      intro z24 hz24 ez24 dz24
      have dz24 := dz24 (by omega) (by omega)
      change _ = _ / _ at dz24
      refine And.intro (And.intro (by first | exact fi_ ha1.1 ha1.2 rfl | omega) (And.intro (by omega) rfl)) ?_
      intro z25 hz25
      exact fcutJ (I := IhB22) (j := jc_X_checkDay_bd195_34) (lv' := [(0, .inr (.inr (some 0))), (1, .inl _), (2, .inl _), (3, .inl _), (4, .inl _)]) (And.intro rfl (And.intro rfl (And.intro rfl (And.intro rfl (And.intro rfl True.intro))))) ⟨_, _, _, _, rfl, rfl, by omega, rfl⟩ (by omega)
    · intro c26
      refine And.intro (True.intro) ?_
      exact ⟨_, rfl, by omega⟩
set_option maxRecDepth 8000 in
theorem ct_X_check_a63a8 {I : fH} {x1 : Int} {x2 : Int} {x3 : Int} (h0 : fB bsJ I) (ha1 : ((-2147483648) ≤ x1 ∧ x1 ≤ 2147483647)) (ha2 : ((-2147483648) ≤ x2 ∧ x2 ≤ 2147483647)) (ha3 : ((-2147483648) ≤ x3 ∧ x3 ≤ 2147483647)) : fC ρ base n F xTc vwCl xTys D dA la gJ (fbz bsJ znJ (fKc wz_04d21) I) xm_218 [.inr (.inr (some 0)), .inl x1, .inl x2, .inl x3] I (fun I' r => ∃ z, r = some (.inl z) ∧ (((-2147483648) ≤ z ∧ z ≤ 49) ∧ (I' 0 14 = 0))) := by
  have hW : fzs wz_04d21 (fKc wz_04d21) := fKc_ok _
  refine f_meth (rb := rbJ) (J := []) 1 400 xG xin_218 x6_218 okJ (fB_self h0) ?_ ?_
  · exact fun q h => absurd h List.not_mem_nil
  · have hB0 := fB_self (zn := znJ) (K := fKc wz_04d21) h0
    refine And.intro ⟨rfl, by decide, by decide⟩ (fgetf fb_0_14 h0 hB0 ?_)
    intro z1 lz1 uz1 qz1
    refine And.intro ⟨rfl, by decide, by decide⟩ (And.intro rfl (And.intro (Or.inl rfl) (fputf fb_0_14 (by decide +kernel) hW (by first | exact ⟨by decide, by decide⟩ | omega) ?_)))
    intro IhB2 ehB2 hB2
    have t3 := fup_at ehB2 14 (by first | rfl | omega)
    refine And.intro (by first | exact fi_ ha1.1 ha1.2 rfl | omega) (And.intro ?_ ?_)
    · refine And.intro (fun ex => ?_) (And.intro (fun ex => ?_) (And.intro (fun ex => ?_) (True.intro)))
      · skip
        refine Exists.intro xm_13 (And.intro mi_13 (And.intro ⟨rfl, rfl, rfl, rfl⟩ (And.intro True.intro ?_)))
        refine fcallp hB2 (ct_X_within_c27b1 (fBz h0 hB2) (by first | exact ⟨ha2.1, ha2.2⟩ | omega) (by first | exact ⟨by decide, by decide⟩ | omega) (by first | exact ⟨by decide, by decide⟩ | omega)) ?_
        rintro _ ⟨z4, rfl, hz4⟩
        refine And.intro (by omega) (And.intro ?_ ?_)
        · intro c5
          refine And.intro (True.intro) ?_
          exact ⟨_, rfl, by omega⟩
        · intro c6
          refine Exists.intro xm_13 (And.intro mi_13 (And.intro ⟨rfl, rfl, rfl, rfl⟩ (And.intro True.intro ?_)))
          refine fcallp hB2 (ct_X_within_c27b1 (fBz h0 hB2) (by first | exact ⟨ha3.1, ha3.2⟩ | omega) (by first | exact ⟨by decide, by decide⟩ | omega) (by first | exact ⟨by decide, by decide⟩ | omega)) ?_
          rintro _ ⟨z7, rfl, hz7⟩
          refine And.intro (by omega) (And.intro ?_ ?_)
          · intro c8
            refine And.intro (True.intro) ?_
            exact ⟨_, rfl, by omega⟩
          · intro c9
            refine Exists.intro xm_219 (And.intro mi_219 (And.intro ⟨rfl, rfl, rfl, rfl⟩ (And.intro rfl ?_)))
            refine fcall _ h0 (fzs_sub (by decide +kernel) hW) hB2 (ct_X_checkLoads_0f880 (fBz h0 hB2) (by first | exact ⟨Int.le_trans (by decide) (Int.le_trans (Int.le_refl _) hz4.1), Int.le_trans (Int.le_trans hz4.2 (Int.le_refl _)) (by decide)⟩ | omega) (by first | exact ⟨Int.le_trans (by decide) (Int.le_trans (Int.le_refl _) hz7.1), Int.le_trans (Int.le_trans hz7.2 (Int.le_refl _)) (by decide)⟩ | omega) (by first | exact ⟨lz1, uz1⟩ | omega)) ?_
            rintro IhB11 _ hB11 fhB11 ⟨z10, rfl, hz10⟩
            have t12 := fhB11 0 14 (by decide +kernel)
            refine And.intro (True.intro) ?_
            exact ⟨_, rfl, by omega⟩
      · skip
        refine Exists.intro xm_13 (And.intro mi_13 (And.intro ⟨rfl, rfl, rfl, rfl⟩ (And.intro True.intro ?_)))
        refine fcallp hB2 (ct_X_within_c27b1 (fBz h0 hB2) (by first | exact ⟨ha2.1, ha2.2⟩ | omega) (by first | exact ⟨by decide, by decide⟩ | omega) (by first | exact ⟨by decide, by decide⟩ | omega)) ?_
        rintro _ ⟨z13, rfl, hz13⟩
        refine And.intro (by omega) (And.intro ?_ ?_)
        · intro c14
          refine And.intro (True.intro) ?_
          exact ⟨_, rfl, by omega⟩
        · intro c15
          refine Exists.intro xm_221 (And.intro mi_221 (And.intro ⟨rfl, rfl, rfl, rfl⟩ (And.intro rfl ?_)))
          refine fcall _ h0 (fzs_sub (by decide +kernel) hW) hB2 (ct_X_checkOrder_93ad1 (fBz h0 hB2) (by first | exact ⟨Int.le_trans (by decide) (Int.le_trans (Int.le_refl _) hz13.1), Int.le_trans (Int.le_trans hz13.2 (Int.le_refl _)) (by decide)⟩ | omega) (by first | exact ⟨lz1, uz1⟩ | omega)) ?_
          rintro IhB17 _ hB17 fhB17 ⟨z16, rfl, hz16⟩
          have t18 := fhB17 0 14 (by decide +kernel)
          refine And.intro (True.intro) ?_
          exact ⟨_, rfl, by omega⟩
      · skip
        refine Exists.intro xm_13 (And.intro mi_13 (And.intro ⟨rfl, rfl, rfl, rfl⟩ (And.intro True.intro ?_)))
        refine fcallp hB2 (ct_X_within_c27b1 (fBz h0 hB2) (by first | exact ⟨ha2.1, ha2.2⟩ | omega) (by first | exact ⟨by decide, by decide⟩ | omega) (by first | exact ⟨by decide, by decide⟩ | omega)) ?_
        rintro _ ⟨z19, rfl, hz19⟩
        refine And.intro (by omega) (And.intro ?_ ?_)
        · intro c20
          refine And.intro (True.intro) ?_
          exact ⟨_, rfl, by omega⟩
        · intro c21
          refine Exists.intro xm_222 (And.intro mi_222 (And.intro ⟨rfl, rfl, rfl, rfl⟩ (And.intro rfl ?_)))
          refine fcall _ h0 (fzs_sub (by decide +kernel) hW) hB2 (ct_X_checkDay_bd195 (fBz h0 hB2) (by first | exact ⟨Int.le_trans (by decide) (Int.le_trans (Int.le_refl _) hz19.1), Int.le_trans (Int.le_trans hz19.2 (Int.le_refl _)) (by decide)⟩ | omega) (by first | exact ⟨lz1, uz1⟩ | omega)) ?_
          rintro IhB23 _ hB23 fhB23 ⟨z22, rfl, hz22⟩
          have t24 := fhB23 0 14 (by decide +kernel)
          refine And.intro (True.intro) ?_
          exact ⟨_, rfl, by omega⟩
    · intro c25
      refine And.intro (True.intro) ?_
      exact ⟨_, rfl, by omega⟩
set_option maxRecDepth 8000 in
theorem ct_M_dueIs_00623 {I : fH} {x1 : Int} {x2 : Int} (h0 : fB bsJ I) (ha1 : (0 ≤ x1 ∧ x1 ≤ 600)) (ha2 : ((-2147483648) ≤ x2 ∧ x2 ≤ 2147483647)) (hp0 : I 740 39 ≤ 58) : fC ρ base n F xTc vwCl xTys D dA la gJ (fbz bsJ znJ (fKc wz_518f7) I) xm_491 [.inr (.inr (some 740)), .inl x1, .inl x2] I (fun I' r => r = none ∧ I' 740 39 = I 740 39 + 2) := by
  have hW : fzs wz_518f7 (fKc wz_518f7) := fKc_ok _
  refine f_meth (rb := rbJ) (J := []) 1 400 xG xin_491 x6_491 okJ (fB_self h0) ?_ ?_
  · exact fun q h => absurd h List.not_mem_nil
  · have hB0 := fB_self (zn := znJ) (K := fKc wz_518f7) h0
    refine And.intro ⟨rfl, by decide, by decide⟩ ?_
    refine And.intro ⟨rfl, by decide, by decide⟩ (fgetf fb_740_39 h0 hB0 ?_)
    intro z1 lz1 uz1 qz1
    refine fstore rS_760_760_0_59_1_0 (fzs_sub (by decide +kernel) hW) (by omega) (by first | exact ⟨Int.le_trans (by decide) ha1.1, Int.le_trans ha1.2 (by decide)⟩ | omega) ?_
    intro IhB2 ehB2 hB2
    have t3 := fup_self ehB2
    have t4 : IhB2 740 39 = I 740 39 := (congrFun (congrFun ehB2 740) 39).trans (fup_ne (by first | exact Or.inl (by decide) | omega))
    refine And.intro ⟨rfl, by decide, by decide⟩ ?_
    refine And.intro ⟨rfl, by decide, by decide⟩ (fgetf fb_740_39 h0 hB2 ?_)
    intro z5 lz5 uz5 qz5
    refine fstore rS_760_760_0_59_1_0 (fzs_sub (by decide +kernel) hW) (by omega) (by first | exact ⟨ha2.1, ha2.2⟩ | omega) ?_
    intro IhB6 ehB6 hB6
    have t7 := fup_self ehB6
    have t8 : IhB6 740 39 = IhB2 740 39 := (congrFun (congrFun ehB6 740) 39).trans (fup_ne (by first | exact Or.inl (by decide) | omega))
    refine And.intro ⟨rfl, by decide, by decide⟩ (fgetf fb_740_39 h0 hB6 ?_)
    intro z9 lz9 uz9 qz9
    refine And.intro ⟨rfl, by decide, by decide⟩ (And.intro rfl (And.intro (Or.inl rfl) (fputf fb_740_39 (by decide +kernel) hW (by omega) ?_)))
    intro IhB10 ehB10 hB10
    have t11 := fup_at ehB10 39 (by first | rfl | omega)
    exact ⟨rfl, by omega⟩
abbrev jc_M_rowsOfLoads_5fe0b_31 (x1 : Int) (x2 : Int) : Nat → fL → List fV → fH → Prop := fun m lv st I => ∃ (y1 : Int) (y3 : Int) (y4 : Int), lv = [(0, .inr (.inr (some 740))), (1, .inl y1), (3, .inl y3), (4, .inl y4)] ∧ st = [] ∧ (((1 ≤ y1 ∧ y1 ≤ 24) ∧ (0 ≤ y3 ∧ y3 ≤ 300) ∧ (0 ≤ y4 ∧ y4 ≤ 24) ∧ (y3 ≤ x2) ∧ (y1 = x1) ∧ (I 740 39 = 2 * y4)) ∧ (∀ i b : Int, 0 ≤ i → i < x1 → 0 ≤ b → b ≤ x2 → sLd I i b) ∧ (y4 < x1 → I 756 (301 * y4 + y3).toNat ≠ 1000000)) ∧ m = (1 + 1 * (24 - y4) : Int).toNat
set_option maxRecDepth 8000 in
theorem ct_M_rowsOfLoads_5fe0b {I : fH} {x1 : Int} {x2 : Int} (h0 : fB bsJ I) (ha1 : ((-2147483648) ≤ x1 ∧ x1 ≤ 2147483647)) (ha2 : ((-2147483648) ≤ x2 ∧ x2 ≤ 2147483647)) (hp0 : I 740 39 = 0) : fC ρ base n F xTc vwCl xTys D dA la gJ (fbz bsJ znJ (fKc wz_7bd74) I) xm_490 [.inr (.inr (some 740)), .inl x1, .inl x2] I (fun _ r => ∃ z, r = some (.inl z) ∧ ((0 ≤ z ∧ z ≤ 0) ∨ z = (-1000000005) ∨ z = (-1000000001))) := by
  have hW : fzs wz_7bd74 (fKc wz_7bd74) := fKc_ok _
  refine f_meth (rb := rbJ) (J := [(31, (jc_M_rowsOfLoads_5fe0b_31 x1 x2))]) 26 400 xG xin_490 x6_490 okJ (fB_self h0) ?_ ?_
  · refine List.forall_mem_cons.mpr ⟨?_, fun q h => absurd h List.not_mem_nil⟩
    · rintro m _ _ I1 hB1 ⟨y1, y3, y4, rfl, rfl, ⟨hb, hx0, hx1⟩, hm⟩
      refine And.intro (And.intro (by first | exact fi_ hb.2.2.1.1 hb.2.2.1.2 rfl | omega) (by first | exact fi_ hb.1.1 hb.1.2 rfl | omega)) (And.intro ?_ ?_)
      · intro c1
        refine And.intro (True.intro) ?_
        exact ⟨_, rfl, by omega⟩
      · intro c2
        refine Exists.intro xm_469 (And.intro mi_469 (And.intro ⟨rfl, rfl, rfl, rfl⟩ (And.intro rfl ?_)))
        refine fcallp hB1 (ct_M_loadAt_deb31 (fBz h0 hB1) (by first | exact ⟨hb.2.2.1.1, Int.le_trans (Int.le_sub_one_of_lt (Int.lt_of_lt_of_le c2 hb.1.2)) (by decide)⟩ | omega) (by first | exact ⟨hb.2.1.1, hb.2.1.2⟩ | omega) (hx0 _ _ (by omega) (by omega) (by omega) (by omega))) ?_
        rintro _ ⟨z3, rfl, hz3, g0z3, g1z3⟩
        refine And.intro ⟨rfl, by decide, by decide⟩ ?_
        intro z4 hz4 ez4 bz4
        clear ez4
        have bz4 := bz4 (by omega)
        refine fload rL_741_741_4560_4563_1_0 h0 hB1 (by omega) ?_
        intro z5 lz5 uz5 qz5
        have w57 := fld_at qz5 (4560 + z3).toNat (by omega)
        have wg := ld_go (I := I1) (i := y4) (b := y3) (l := z3) (by rw [g0z3]; exact hx1 (by omega)) ((frL_at rL_741_741_4570_4665_1_0 (fBz h0 hB1) (a := 741) (i := 4570 + 4 * y4 + z3) (by omega)).2.1)
        have wg1 := wg.1
        intro z6 hz6 ez6 bz6
        clear ez6
        have bz6 := bz6 (by omega)
        refine Exists.intro xm_491 (And.intro mi_491 (And.intro ⟨rfl, rfl, rfl, rfl⟩ (And.intro rfl ?_)))
        refine fcall _ h0 (fzs_sub (by decide +kernel) hW) hB1 (ct_M_dueIs_00623 (fBz h0 hB1) (by first | exact ⟨hz3.1, Int.le_trans hz3.2 (by decide)⟩ | omega) (by omega) (by omega)) ?_
        rintro IhB8 _ hB8 fhB8 ⟨rfl, hz7⟩
        exact fcutJ (I := IhB8) (j := (jc_M_rowsOfLoads_5fe0b_31 x1 x2)) (lv' := [(0, .inr (.inr (some 740))), (1, .inl _), (3, .inl _), (4, .inl _)]) (And.intro rfl (And.intro rfl (And.intro rfl (And.intro rfl True.intro)))) ⟨_, _, _, rfl, rfl, ⟨by omega, (fun i b h1 h2 h3 h4 => ld_eq (fFr_S fhB8 (by decide +kernel)) (fFr_at fhB8 756 (by decide +kernel) rfl) (hx0 i b h1 h2 h3 h4)), (fun _ => by rw [fFr_at fhB8 756 (by decide +kernel) rfl]; exact ne_to wg.2 (by omega))⟩, rfl⟩ (by omega)
  · have hB0 := fB_self (zn := znJ) (K := fKc wz_7bd74) h0
    refine Exists.intro xm_465 (And.intro mi_465 (And.intro ⟨rfl, rfl, rfl, rfl⟩ (And.intro True.intro ?_)))
    refine fcallp hB0 (ct_M_isNight_38061 (fBz h0 hB0) (by first | exact ⟨ha1.1, ha1.2⟩ | omega) (by first | exact ⟨ha2.1, ha2.2⟩ | omega)) ?_
    rintro _ ⟨z9, rfl, hz9⟩
    refine And.intro (by omega) (And.intro ?_ ?_)
    · intro c10
      refine Exists.intro xm_466 (And.intro mi_466 (And.intro ⟨rfl, rfl, rfl, rfl⟩ (And.intro rfl ?_)))
      refine fcall _ h0 (fzs_sub (by decide +kernel) hW) hB0 (ct_M_findLoads_1f96d (fBz h0 hB0) (by omega) (by omega)) ?_
      rintro IhB12 _ hB12 fhB12 ⟨z11, rfl, hz11, g0z11, g1z11, g2z11⟩
      have t13 := fhB12 740 39 (by decide +kernel)
      refine And.intro (And.intro (by first | exact fi_ hz11.1 hz11.2 rfl | omega) (by first | exact ⟨by decide, by decide⟩ | omega)) (And.intro ?_ ?_)
      · intro c14
        exact fcutJ (I := IhB12) (j := (jc_M_rowsOfLoads_5fe0b_31 x1 x2)) (lv' := [(0, .inr (.inr (some 740))), (1, .inl _), (3, .inl _), (4, .inl _)]) (And.intro rfl (And.intro rfl (And.intro rfl (And.intro rfl True.intro)))) ⟨_, _, _, rfl, rfl, ⟨by omega, g0z11, (fun _ => ne_to (j := x2.toNat) (by omega) (by omega))⟩, rfl⟩ (by omega)
      · intro c15
        refine And.intro (True.intro) ?_
        exact ⟨_, rfl, by omega⟩
    · intro c16
      refine And.intro (True.intro) ?_
      exact ⟨_, rfl, by omega⟩
abbrev jc_M_oxygen_31ab3_4 : Nat → fL → List fV → fH → Prop := fun m lv st I => ∃ (y1 : Int) (y2 : Int), lv = [(0, .inr (.inr (some 740))), (1, .inl y1), (2, .inl y2)] ∧ st = [] ∧ ((((-2147483648) ≤ y1 ∧ y1 ≤ 2147483647) ∧ (0 ≤ y2 ∧ y2 ≤ 20))) ∧ m = (1 + 1 * (20 - y2) : Int).toNat
set_option maxRecDepth 8000 in
theorem ct_M_oxygen_31ab3 {I : fH}  (h0 : fB bsJ I)  : fC ρ base n F xTc vwCl xTys D dA la gJ (fbz bsJ znJ (fKc []) I) xm_494 [.inr (.inr (some 740))] I (fun _ r => ∃ z, r = some (.inl z) ∧ ((-2147483648) ≤ z ∧ z ≤ 2147483647)) := by
  have hW : fzs [] (fKc []) := fKc_ok _
  refine f_meth (rb := rbJ) (J := [(4, jc_M_oxygen_31ab3_4)]) 22 400 xG xin_494 x6_494 okJ (fB_self h0) ?_ ?_
  · refine List.forall_mem_cons.mpr ⟨?_, fun q h => absurd h List.not_mem_nil⟩
    · rintro m _ _ I1 hB1 ⟨y1, y2, rfl, rfl, hb, hm⟩
      refine And.intro ⟨rfl, by decide, by decide⟩ ?_
      refine fload1 rL_741_741_5_5_1_0 h0 hB1 ⟨by decide, by decide⟩ (by first | exact ⟨by decide, by decide⟩ | omega) ?_
      intro z1 lz1 uz1 qz1
      have pz1 := fld_at qz1 5 (by omega)
      refine And.intro (And.intro (by first | exact fi_ hb.2.1 hb.2.2 rfl | omega) (by first | exact fi_ lz1 uz1 rfl | omega)) (And.intro ?_ ?_)
      · intro c2
        refine And.intro (True.intro) ?_
        exact ⟨_, rfl, (by first | exact ⟨hb.1.1, hb.1.2⟩ | omega)⟩
      · intro c3
        refine And.intro ⟨rfl, by decide, by decide⟩ ?_
        refine Exists.intro xm_239 (And.intro mi_239 (And.intro ⟨rfl, rfl, rfl, rfl⟩ (And.intro rfl ?_)))
        refine fcallp hB1 (ct_M_cellAt_c15f4 (fBz h0 hB1) (by first | exact ⟨hb.2.1, Int.le_trans (Int.le_sub_one_of_lt (Int.lt_of_lt_of_le c3 uz1)) (by decide)⟩ | omega)) ?_
        rintro _ ⟨_, rfl, rfl⟩
        refine fload rL_741_741_31_411_20_0 h0 hB1 (by omega) ?_
        intro z5 lz5 uz5 qz5
        intro z6 hz6 ez6 bz6
        clear ez6
        clear bz6
        exact fcutJ (I := I1) (j := jc_M_oxygen_31ab3_4) (lv' := [(0, .inr (.inr (some 740))), (1, .inl _), (2, .inl _)]) (And.intro rfl (And.intro rfl (And.intro rfl True.intro))) ⟨_, _, rfl, rfl, by omega, rfl⟩ (by omega)
  · have hB0 := fB_self (zn := znJ) (K := fKc []) h0
    exact fcutJ (I := I) (j := jc_M_oxygen_31ab3_4) (lv' := [(0, .inr (.inr (some 740))), (1, .inl _), (2, .inl _)]) (And.intro rfl (And.intro rfl (And.intro rfl True.intro))) ⟨_, _, rfl, rfl, by omega, rfl⟩ (by omega)
abbrev jc_M_rowsOfDay_99311_27 (I0 : fH) : Nat → fL → List fV → fH → Prop := fun m lv st I => ∃ (y1 : Int) (y2 : Int), lv = [(0, .inr (.inr (some 740))), (1, .inl y1), (2, .inl y2)] ∧ st = [] ∧ (((1 ≤ y1 ∧ y1 ≤ 24) ∧ (0 ≤ y2 ∧ y2 ≤ 4900) ∧ (1 ≤ I 740 3 ∧ I 740 3 ≤ 1) ∧ (I0 740 3 = 1) ∧ (I 740 39 = 0)) ∧ (∀ j : Nat, (j : Int) < y2 → I 743 j = I0 741 j ∧ I 741 j = I0 742 j) ∧ (∀ j : Nat, y2 ≤ (j : Int) → I 741 j = I0 741 j)) ∧ m = (6452 + 1 * (4900 - y2) : Int).toNat
abbrev jc_M_rowsOfDay_99311_66 (I0 : fH) : Nat → fL → List fV → fH → Prop := fun m lv st I => ∃ (y1 : Int) (y2 : Int), lv = [(0, .inr (.inr (some 740))), (1, .inl y1), (2, .inl y2)] ∧ st = [] ∧ (((1 ≤ y1 ∧ y1 ≤ 24) ∧ (0 ≤ y2 ∧ y2 ≤ 24) ∧ (1 ≤ I 740 3 ∧ I 740 3 ≤ 1) ∧ (I0 740 3 = 1) ∧ (I 741 0 = I0 742 0 + 60 * y2) ∧ (I 740 39 = 2 * y2)) ∧ (∀ j : Nat, j < 4900 → I 743 j = I0 741 j) ∧ (sI I 741)) ∧ m = (4963 + 62 * (24 - y2) : Int).toNat
abbrev jc_M_rowsOfDay_99311_73 (I0 : fH) : Nat → fL → List fV → fH → Prop := fun m lv st I => ∃ (y1 : Int) (y2 : Int) (y3 : Int), lv = [(0, .inr (.inr (some 740))), (1, .inl y1), (2, .inl y2), (3, .inl y3)] ∧ st = [] ∧ (((1 ≤ y1 ∧ y1 ≤ 24) ∧ (0 ≤ y2 ∧ y2 ≤ 23) ∧ (0 ≤ y3 ∧ y3 ≤ 60) ∧ (1 ≤ I 740 3 ∧ I 740 3 ≤ 1) ∧ (I0 740 3 = 1) ∧ (I 741 0 = I0 742 0 + 60 * y2 + y3) ∧ (I 740 39 = 2 * y2)) ∧ (∀ j : Nat, j < 4900 → I 743 j = I0 741 j) ∧ (sI I 741)) ∧ m = (4902 + 62 * (24 - y2) + 1 * (60 - y3) : Int).toNat
abbrev jc_M_rowsOfDay_99311_111 (I0 : fH) : Nat → fL → List fV → fH → Prop := fun m lv st I => ∃ (y2 : Int), lv = [(0, .inr (.inr (some 740))), (2, .inl y2)] ∧ st = [] ∧ (((0 ≤ y2 ∧ y2 ≤ 4900) ∧ (1 ≤ I 740 3 ∧ I 740 3 ≤ 1) ∧ (I0 740 3 = 1)) ∧ (∀ j : Nat, j < 4900 → I 743 j = I0 741 j) ∧ (∀ j : Nat, (j : Int) < y2 → I 741 j = I0 741 j)) ∧ m = (1 + 1 * (4900 - y2) : Int).toNat
set_option maxRecDepth 8000 in
theorem ct_M_rowsOfDay_99311 {I : fH} {x1 : Int} (h0 : fB bsJ I) (ha1 : ((-2147483648) ≤ x1 ∧ x1 ≤ 2147483647)) (hp0 : I 740 39 = 0) (hp1 : kI I) : fC ρ base n F xTc vwCl xTys D dA la gJ (fbz bsJ znJ (fKc wz_376a3) I) xm_493 [.inr (.inr (some 740)), .inl x1] I (fun I' r => ∃ z, r = some (.inl z) ∧ ((0 ≤ z ∧ z ≤ 0) ∨ z = (-1000000002) ∨ z = (-1000000001)) ∧ (∀ j : Nat, j < 4900 → I' 741 j = I 741 j)) := by
  have hW : fzs wz_376a3 (fKc wz_376a3) := fKc_ok _
  refine f_meth (rb := rbJ) (J := [(27, (jc_M_rowsOfDay_99311_27 I)), (66, (jc_M_rowsOfDay_99311_66 I)), (73, (jc_M_rowsOfDay_99311_73 I)), (111, (jc_M_rowsOfDay_99311_111 I))]) 11353 400 xG xin_493 x6_493 okJ (fB_self h0) ?_ ?_
  · refine List.forall_mem_cons.mpr ⟨?_, List.forall_mem_cons.mpr ⟨?_, List.forall_mem_cons.mpr ⟨?_, List.forall_mem_cons.mpr ⟨?_, fun q h => absurd h List.not_mem_nil⟩⟩⟩⟩
    · rintro m _ _ I1 hB1 ⟨y1, y2, rfl, rfl, ⟨hb, hx0, hx1⟩, hm⟩
      have k1 := fBz_eq hB1 (a := 740) (j := 3) (by decide +kernel)
      obtain ⟨hk1, hk2, hk3⟩ := hp1 (by omega)
      refine And.intro (And.intro (by first | exact fi_ hb.2.1.1 hb.2.1.2 rfl | omega) (by first | exact ⟨by decide, by decide⟩ | omega)) (And.intro ?_ ?_)
      · intro c2
        have w0 := (hx0 0 (by omega)).2
        exact fcutJ (I := I1) (j := (jc_M_rowsOfDay_99311_66 I)) (lv' := [(0, .inr (.inr (some 740))), (1, .inl _), (2, .inl _)]) (And.intro rfl (And.intro rfl (And.intro rfl True.intro))) ⟨_, _, rfl, rfl, ⟨by omega, (fun j h => (hx0 j (by omega)).1), (sI_congr (sBd_of2 h0) (fun j hj => (hx0 j (by have := relb_lt hj; omega)).2) hk1)⟩, rfl⟩ (by omega)
      · intro c3
        refine And.intro ⟨rfl, by decide, by decide⟩ ?_
        refine And.intro ⟨rfl, by decide, by decide⟩ ?_
        refine fload1 rL_741_741_0_4899_1_0 h0 hB1 ⟨by decide, by decide⟩ (by first | exact ⟨hb.2.1.1, Int.le_trans (Int.le_sub_one_of_lt (Int.lt_of_lt_of_le c3 (Int.le_refl _))) (by decide)⟩ | omega) ?_
        intro z4 lz4 uz4 qz4
        refine fstoreX (fzs_sub (by decide +kernel) hW) (asd_st (fBz h0 hB1) qz4 (by omega)) ?_
        intro IhB5 ehB5 hB5
        have t6 := fup_self ehB5
        have t7 : IhB5 740 3 = I1 740 3 := (congrFun (congrFun ehB5 740) 3).trans (fup_ne (by first | exact Or.inl (by decide) | omega))
        have t8 : IhB5 740 39 = I1 740 39 := (congrFun (congrFun ehB5 740) 39).trans (fup_ne (by first | exact Or.inl (by decide) | omega))
        have k9 := fBz_eq hB5 (a := 740) (j := 3) (by decide +kernel)
        refine And.intro ⟨rfl, by decide, by decide⟩ ?_
        refine And.intro ⟨rfl, by decide, by decide⟩ ?_
        refine fload1 rL_742_742_0_4899_1_0 h0 hB5 ⟨by decide, by decide⟩ (by first | exact ⟨hb.2.1.1, Int.le_trans (Int.le_sub_one_of_lt (Int.lt_of_lt_of_le c3 (Int.le_refl _))) (by decide)⟩ | omega) ?_
        intro z10 lz10 uz10 qz10
        refine fstoreX (fzs_sub (by decide +kernel) hW) (img_bk (fBz h0 hB5) qz10 (by omega) (by rw [sM_keep hB5 (by decide +kernel)]; exact hk2)) ?_
        intro IhB11 ehB11 hB11
        have t12 := fup_self ehB11
        have t13 : IhB11 740 3 = IhB5 740 3 := (congrFun (congrFun ehB11 740) 3).trans (fup_ne (by first | exact Or.inl (by decide) | omega))
        have t14 : IhB11 740 39 = IhB5 740 39 := (congrFun (congrFun ehB11 740) 39).trans (fup_ne (by first | exact Or.inl (by decide) | omega))
        have k15 := fBz_eq hB11 (a := 740) (j := 3) (by decide +kernel)
        exact fcutJ (I := IhB11) (j := (jc_M_rowsOfDay_99311_27 I)) (lv' := [(0, .inr (.inr (some 740))), (1, .inl _), (2, .inl _)]) (And.intro rfl (And.intro rfl (And.intro rfl True.intro))) ⟨_, _, rfl, rfl, ⟨by omega, (fun j h => if ej : j = y2.toNat then (by rw [ej]; exact ⟨(fup_other ehB11 743 _ (Or.inl (by decide))).trans ((fup_self ehB5).trans (qz4.trans (hx1 _ (by omega)))), (fup_self ehB11).trans (qz10.trans (sM_keep hB5 (by decide +kernel) _))⟩) else ⟨(fup_other ehB11 743 j (Or.inl (by decide))).trans ((fup_other ehB5 743 j (Or.inr ej)).trans (hx0 j (by omega)).1), (fup_other ehB11 741 j (Or.inr ej)).trans ((fup_other ehB5 741 j (Or.inl (by decide))).trans (hx0 j (by omega)).2)⟩), (fun j h => (fup_other ehB11 741 j (Or.inr (by omega))).trans ((fup_other ehB5 741 j (Or.inl (by decide))).trans (hx1 j (by omega))))⟩, rfl⟩ (by omega)
    · rintro m _ _ I1 hB1 ⟨y1, y2, rfl, rfl, ⟨hb, hx0, hx1⟩, hm⟩
      have k16 := fBz_eq hB1 (a := 740) (j := 3) (by decide +kernel)
      obtain ⟨hk1, hk2, hk3⟩ := hp1 (by omega)
      refine And.intro (And.intro (by first | exact fi_ hb.2.1.1 hb.2.1.2 rfl | omega) (by first | exact fi_ hb.1.1 hb.1.2 rfl | omega)) (And.intro ?_ ?_)
      · intro c17
        exact fcutJ (I := I1) (j := (jc_M_rowsOfDay_99311_111 I)) (lv' := [(0, .inr (.inr (some 740))), (2, .inl _)]) (And.intro rfl (And.intro rfl True.intro)) ⟨_, rfl, rfl, ⟨by omega, hx0, (fun j h => absurd h (by omega))⟩, rfl⟩ (by omega)
      · intro c18
        exact fcutJ (I := I1) (j := (jc_M_rowsOfDay_99311_73 I)) (lv' := [(0, .inr (.inr (some 740))), (1, .inl _), (2, .inl _), (3, .inl _)]) (And.intro rfl (And.intro rfl (And.intro rfl (And.intro rfl True.intro)))) ⟨_, _, _, rfl, rfl, ⟨by omega, hx0, hx1⟩, rfl⟩ (by omega)
    · rintro m _ _ I1 hB1 ⟨y1, y2, y3, rfl, rfl, ⟨hb, hx0, hx1⟩, hm⟩
      have k19 := fBz_eq hB1 (a := 740) (j := 3) (by decide +kernel)
      obtain ⟨hk1, hk2, hk3⟩ := hp1 (by omega)
      refine And.intro (And.intro (by first | exact fi_ hb.2.2.1.1 hb.2.2.1.2 rfl | omega) (by first | exact ⟨by decide, by decide⟩ | omega)) (And.intro ?_ ?_)
      · intro c20
        refine And.intro ⟨rfl, by decide, by decide⟩ ?_
        refine fload1 rL_741_741_1_1_1_0 h0 hB1 ⟨by decide, by decide⟩ (by first | exact ⟨by decide, by decide⟩ | omega) ?_
        intro z21 lz21 uz21 qz21
        have pz21 := fld_at qz21 1 (by omega)
        refine Exists.intro xm_494 (And.intro mi_494 (And.intro ⟨rfl, rfl, rfl, rfl⟩ (And.intro rfl ?_)))
        refine fcallp hB1 (ct_M_oxygen_31ab3 (fBz h0 hB1)) ?_
        rintro _ ⟨z22, rfl, hz22⟩
        refine Exists.intro xm_491 (And.intro mi_491 (And.intro ⟨rfl, rfl, rfl, rfl⟩ (And.intro rfl ?_)))
        refine fcall _ h0 (fzs_sub (by decide +kernel) hW) hB1 (ct_M_dueIs_00623 (fBz h0 hB1) (by first | exact ⟨lz21, uz21⟩ | omega) (by first | exact ⟨hz22.1, hz22.2⟩ | omega) (by omega)) ?_
        rintro IhB24 _ hB24 fhB24 ⟨rfl, hz23⟩
        have t25 := fhB24 740 3 (by decide +kernel)
        have t26 := fhB24 741 1 (by decide +kernel)
        have k27 := fBz_eq hB24 (a := 740) (j := 3) (by decide +kernel)
        have w100 := fhB24 741 0 (by decide +kernel)
        exact fcutJ (I := IhB24) (j := (jc_M_rowsOfDay_99311_66 I)) (lv' := [(0, .inr (.inr (some 740))), (1, .inl _), (2, .inl _)]) (And.intro rfl (And.intro rfl (And.intro rfl True.intro))) ⟨_, _, rfl, rfl, ⟨by omega, (fun j h => (fFr_at fhB24 743 (by decide +kernel) rfl j).trans (hx0 j h)), (sI_fr hx1 (fBz h0 hB1) fhB24 (by decide +kernel))⟩, rfl⟩ (by omega)
      · intro c28
        refine Exists.intro xm_285 (And.intro mi_285 (And.intro ⟨rfl, rfl, rfl, rfl⟩ (And.intro rfl ?_)))
        refine fcall _ h0 (fzs_sub (by decide +kernel) hW) hB1 (ct_M_minute_7c04c (fBz h0 hB1) hx1 (by omega)) ?_
        rintro IhB30 _ hB30 fhB30 ⟨rfl, hz29⟩
        have t31 := fhB30 740 3 (by decide +kernel)
        have t32 := fhB30 740 39 (by decide +kernel)
        have k33 := fBz_eq hB30 (a := 740) (j := 3) (by decide +kernel)
        exact fcutJ (I := IhB30) (j := (jc_M_rowsOfDay_99311_73 I)) (lv' := [(0, .inr (.inr (some 740))), (1, .inl _), (2, .inl _), (3, .inl _)]) (And.intro rfl (And.intro rfl (And.intro rfl (And.intro rfl True.intro)))) ⟨_, _, _, rfl, rfl, ⟨by omega, (fun j h => (fFr_at fhB30 743 (by decide +kernel) rfl j).trans (hx0 j h)), (sI_fr hx1 (fBz h0 hB1) fhB30 (by decide +kernel))⟩, rfl⟩ (by omega)
    · rintro m _ _ I1 hB1 ⟨y2, rfl, rfl, ⟨hb, hx0, hx1⟩, hm⟩
      have k34 := fBz_eq hB1 (a := 740) (j := 3) (by decide +kernel)
      obtain ⟨hk1, hk2, hk3⟩ := hp1 (by omega)
      refine And.intro (And.intro (by first | exact fi_ hb.1.1 hb.1.2 rfl | omega) (by first | exact ⟨by decide, by decide⟩ | omega)) (And.intro ?_ ?_)
      · intro c35
        refine And.intro (True.intro) ?_
        exact ⟨_, rfl, by omega, (fun j h => hx1 j (by omega))⟩
      · intro c36
        refine And.intro ⟨rfl, by decide, by decide⟩ ?_
        refine And.intro ⟨rfl, by decide, by decide⟩ ?_
        refine fload1 rL_743_743_0_4899_1_0 h0 hB1 ⟨by decide, by decide⟩ (by first | exact ⟨hb.1.1, Int.le_trans (Int.le_sub_one_of_lt (Int.lt_of_lt_of_le c36 (Int.le_refl _))) (by decide)⟩ | omega) ?_
        intro z37 lz37 uz37 qz37
        refine fstoreX (fzs_sub (by decide +kernel) hW) (asd_bk h0 (fBz h0 hB1) qz37 (hx0 _ (by omega)) (by omega)) ?_
        intro IhB38 ehB38 hB38
        have t39 := fup_self ehB38
        have t40 : IhB38 740 3 = I1 740 3 := (congrFun (congrFun ehB38 740) 3).trans (fup_ne (by first | exact Or.inl (by decide) | omega))
        have t41 : IhB38 740 39 = I1 740 39 := (congrFun (congrFun ehB38 740) 39).trans (fup_ne (by first | exact Or.inl (by decide) | omega))
        have k42 := fBz_eq hB38 (a := 740) (j := 3) (by decide +kernel)
        exact fcutJ (I := IhB38) (j := (jc_M_rowsOfDay_99311_111 I)) (lv' := [(0, .inr (.inr (some 740))), (2, .inl _)]) (And.intro rfl (And.intro rfl True.intro)) ⟨_, rfl, rfl, ⟨by omega, (fun j h => (fup_other ehB38 743 j (Or.inl (by decide))).trans (hx0 j h)), (fun j h => if ej : j = y2.toNat then (by rw [ej]; exact (fup_self ehB38).trans (qz37.trans (hx0 _ (by omega)))) else (fup_other ehB38 741 j (Or.inr ej)).trans (hx1 j (by omega)))⟩, rfl⟩ (by omega)
  · have hB0 := fB_self (zn := znJ) (K := fKc wz_376a3) h0
    refine And.intro (by first | exact fi_ ha1.1 ha1.2 rfl | omega) ?_
    refine Exists.intro xm_238 (And.intro mi_238 (And.intro ⟨rfl, rfl, rfl, rfl⟩ (And.intro True.intro ?_)))
    refine fcallp hB0 (ct_M_isIn_27230 (fBz h0 hB0) (by first | exact ⟨ha1.1, ha1.2⟩ | omega) (by first | exact ⟨by decide, by decide⟩ | omega) (by first | exact ⟨by decide, by decide⟩ | omega)) ?_
    rintro _ ⟨z43, rfl, hz43⟩
    refine And.intro (by omega) (And.intro ?_ ?_)
    · intro c44
      refine And.intro ⟨rfl, by decide, by decide⟩ (fgetf fb_740_3 h0 hB0 ?_)
      intro z45 lz45 uz45 qz45
      refine And.intro (by first | exact fi_ lz45 uz45 rfl | omega) (And.intro ?_ ?_)
      · intro c46
        exact fcutJ (I := I) (j := (jc_M_rowsOfDay_99311_27 I)) (lv' := [(0, .inr (.inr (some 740))), (1, .inl _), (2, .inl _)]) (And.intro rfl (And.intro rfl (And.intro rfl True.intro))) ⟨_, _, rfl, rfl, ⟨by omega, (fun j h => absurd h (by omega)), (fun j _ => rfl)⟩, rfl⟩ (by omega)
      · intro c47
        refine And.intro (True.intro) ?_
        exact ⟨_, rfl, by omega, (fun _ _ => rfl)⟩
    · intro c48
      refine And.intro (True.intro) ?_
      exact ⟨_, rfl, by omega, (fun _ _ => rfl)⟩
abbrev jc_M_rowsOfOrder_afdec_24 : Nat → fL → List fV → fH → Prop := fun m lv st I => ∃ (y2 : Int) (y3 : Int) (y4 : Int), lv = [(0, .inr (.inr (some 740))), (2, .inl y2), (3, .inl y3), (4, .inl y4)] ∧ st = [] ∧ ((((0 ≤ y2 ∧ y2 ≤ 2147483647) ∨ y2 = (-1000000004) ∨ y2 = (-1000000002)) ∧ ((-2147483648) ≤ y3 ∧ y3 ≤ 2147483647) ∧ (0 ≤ y4 ∧ y4 ≤ 7) ∧ (I 740 39 = 2 * y4))) ∧ m = (1 + 1 * (7 - y4) : Int).toNat
set_option maxRecDepth 8000 in
theorem ct_M_rowsOfOrder_afdec {I : fH} {x1 : Int} (h0 : fB bsJ I) (ha1 : ((-2147483648) ≤ x1 ∧ x1 ≤ 2147483647)) (hp0 : I 740 39 = 0) : fC ρ base n F xTc vwCl xTys D dA la gJ (fbz bsJ znJ (fKc wz_96c9e) I) xm_492 [.inr (.inr (some 740)), .inl x1] I (fun _ r => ∃ z, r = some (.inl z) ∧ ((0 ≤ z ∧ z ≤ 0) ∨ z = (-1000000004) ∨ z = (-1000000002) ∨ z = (-1000000001))) := by
  have hW : fzs wz_96c9e (fKc wz_96c9e) := fKc_ok _
  refine f_meth (rb := rbJ) (J := [(24, jc_M_rowsOfOrder_afdec_24)]) 9 400 xG xin_492 x6_492 okJ (fB_self h0) ?_ ?_
  · refine List.forall_mem_cons.mpr ⟨?_, fun q h => absurd h List.not_mem_nil⟩
    · rintro m _ _ I1 hB1 ⟨y2, y3, y4, rfl, rfl, hb, hm⟩
      refine And.intro ⟨rfl, by decide, by decide⟩ ?_
      refine fload1 rL_741_741_12_12_1_0 h0 hB1 ⟨by decide, by decide⟩ (by first | exact ⟨by decide, by decide⟩ | omega) ?_
      intro z1 lz1 uz1 qz1
      have pz1 := fld_at qz1 12 (by omega)
      refine And.intro (And.intro (by first | exact fi_ hb.2.2.1.1 hb.2.2.1.2 rfl | omega) (by first | exact fi_ lz1 uz1 rfl | omega)) (And.intro ?_ ?_)
      · intro c2
        refine And.intro (by omega) (And.intro ?_ ?_)
        · intro c3
          refine And.intro (True.intro) ?_
          exact ⟨_, rfl, by omega⟩
        · intro c4
          refine And.intro (True.intro) ?_
          exact ⟨_, rfl, by omega⟩
      · intro c5
        refine And.intro (by omega) (And.intro ?_ ?_)
        · intro c6
          refine And.intro (by omega) (And.intro ?_ ?_)
          · intro c7
            refine And.intro (True.intro) ?_
            exact ⟨_, rfl, by omega⟩
          · intro c8
            refine And.intro (True.intro) ?_
            exact ⟨_, rfl, by omega⟩
        · intro c9
          refine And.intro ⟨rfl, by decide, by decide⟩ ?_
          refine And.intro ⟨rfl, by decide, by decide⟩ ?_
          refine fload1 rL_758_758_0_6_1_0 h0 hB1 ⟨by decide, by decide⟩ (by first | exact ⟨hb.2.2.1.1, Int.le_trans (Int.le_sub_one_of_lt (Int.lt_of_lt_of_le c5 uz1)) (by decide)⟩ | omega) ?_
          intro z10 lz10 uz10 qz10
          refine fload rL_741_741_4370_4388_3_0 h0 hB1 (by omega) ?_
          intro z11 lz11 uz11 qz11
          intro z12 hz12 ez12 bz12
          clear ez12
          try replace bz12 := bz12 (by omega)
          refine And.intro ⟨rfl, by decide, by decide⟩ ?_
          refine fload1 rL_758_758_0_6_1_0 h0 hB1 ⟨by decide, by decide⟩ (by first | exact ⟨hb.2.2.1.1, Int.le_trans (Int.le_sub_one_of_lt (Int.lt_of_lt_of_le c5 uz1)) (by decide)⟩ | omega) ?_
          intro z13 lz13 uz13 qz13
          refine Exists.intro xm_491 (And.intro mi_491 (And.intro ⟨rfl, rfl, rfl, rfl⟩ (And.intro rfl ?_)))
          refine fcall _ h0 (fzs_sub (by decide +kernel) hW) hB1 (ct_M_dueIs_00623 (fBz h0 hB1) (by first | exact ⟨lz13, Int.le_trans uz13 (by decide)⟩ | omega) (by omega) (by omega)) ?_
          rintro IhB15 _ hB15 fhB15 ⟨rfl, hz14⟩
          have t16 := fhB15 741 12 (by decide +kernel)
          exact fcutJ (I := IhB15) (j := jc_M_rowsOfOrder_afdec_24) (lv' := [(0, .inr (.inr (some 740))), (2, .inl _), (3, .inl _), (4, .inl _)]) (And.intro rfl (And.intro rfl (And.intro rfl (And.intro rfl True.intro)))) ⟨_, _, _, rfl, rfl, by omega, rfl⟩ (by omega)
  · have hB0 := fB_self (zn := znJ) (K := fKc wz_96c9e) h0
    refine Exists.intro xm_477 (And.intro mi_477 (And.intro ⟨rfl, rfl, rfl, rfl⟩ (And.intro True.intro ?_)))
    refine fcallp hB0 (ct_M_isYears_9dc65 (fBz h0 hB0) (by first | exact ⟨ha1.1, ha1.2⟩ | omega)) ?_
    rintro _ ⟨z17, rfl, hz17⟩
    refine And.intro (by omega) (And.intro ?_ ?_)
    · intro c18
      refine Exists.intro xm_478 (And.intro mi_478 (And.intro ⟨rfl, rfl, rfl, rfl⟩ (And.intro rfl ?_)))
      refine fcall _ h0 (fzs_sub (by decide +kernel) hW) hB0 (ct_M_findOrder_1fb74 (fBz h0 hB0) (by omega) (by first | exact ⟨by decide, by decide⟩ | omega)) ?_
      rintro IhB20 _ hB20 fhB20 ⟨z19, rfl, hz19, g0z19, g1z19⟩
      have t21 := fhB20 740 39 (by decide +kernel)
      exact fcutJ (I := IhB20) (j := jc_M_rowsOfOrder_afdec_24) (lv' := [(0, .inr (.inr (some 740))), (2, .inl _), (3, .inl _), (4, .inl _)]) (And.intro rfl (And.intro rfl (And.intro rfl (And.intro rfl True.intro)))) ⟨_, _, _, rfl, rfl, by omega, rfl⟩ (by omega)
    · intro c22
      refine And.intro (True.intro) ?_
      exact ⟨_, rfl, by omega⟩
abbrev jc_M_check_402b5_70 (I0 : fH) : Nat → fL → List fV → fH → Prop := fun m lv st I => ∃ (y4 : Int) (y6 : Int), lv = [(0, .inr (.inr (some 740))), (4, .inl y4), (6, .inl y6)] ∧ st = [] ∧ (((0 ≤ y4 ∧ y4 ≤ 60) ∧ (0 ≤ y6 ∧ y6 ≤ 60) ∧ (0 ≤ I 740 37 ∧ I 740 37 ≤ 0) ∧ (I 740 37 = 0)) ∧ (∀ j : Nat, j < 4900 → I 741 j = I0 741 j)) ∧ m = (1 + 1 * (60 - y6) : Int).toNat
set_option maxRecDepth 8000 in
theorem ct_M_check_402b5 {I : fH} {x1 : Int} {x2 : Int} {x3 : Int} (h0 : fB bsJ I) (ha1 : ((-2147483648) ≤ x1 ∧ x1 ≤ 2147483647)) (ha2 : ((-2147483648) ≤ x2 ∧ x2 ≤ 2147483647)) (ha3 : ((-2147483648) ≤ x3 ∧ x3 ≤ 2147483647)) (hp0 : kI I) : fC ρ base n F xTc vwCl xTys D dA la gJ (fbz bsJ znJ (fKc wz_a99d3) I) xm_489 [.inr (.inr (some 740)), .inl x1, .inl x2, .inl x3] I (fun I' r => ∃ z, r = some (.inl z) ∧ (((0 ≤ z ∧ z ≤ 61) ∨ z = (-1000000005) ∨ z = (-1000000004) ∨ z = (-1000000002) ∨ z = (-1000000001)) ∧ (I' 740 37 = 0)) ∧ (∀ j : Nat, j < 4900 → I' 741 j = I 741 j)) := by
  have hW : fzs wz_a99d3 (fKc wz_a99d3) := fKc_ok _
  refine f_meth (rb := rbJ) (J := [(70, (jc_M_check_402b5_70 I))]) 62 400 xG xin_489 x6_489 okJ (fB_self h0) ?_ ?_
  · refine List.forall_mem_cons.mpr ⟨?_, fun q h => absurd h List.not_mem_nil⟩
    · rintro m _ _ I1 hB1 ⟨y4, y6, rfl, rfl, ⟨hb, hx0⟩, hm⟩
      refine And.intro (And.intro (by first | exact fi_ hb.2.1.1 hb.2.1.2 rfl | omega) (by first | exact fi_ hb.1.1 hb.1.2 rfl | omega)) (And.intro ?_ ?_)
      · intro c1
        refine And.intro (And.intro (by first | exact fi_ hb.2.1.1 hb.2.1.2 rfl | omega) (by first | exact fi_ hb.1.1 hb.1.2 rfl | omega)) (And.intro ?_ ?_)
        · intro c2
          refine And.intro (True.intro) ?_
          exact ⟨_, rfl, by omega, hx0⟩
        · intro c3
          refine And.intro ⟨rfl, by decide, by decide⟩ (fgetf fb_740_39 h0 hB1 ?_)
          intro z4 lz4 uz4 qz4
          refine And.intro (And.intro (by first | exact fi_ hb.2.1.1 hb.2.1.2 rfl | omega) (by first | exact fi_ lz4 uz4 rfl | omega)) (And.intro ?_ ?_)
          · intro c5
            refine And.intro (True.intro) ?_
            exact ⟨_, rfl, by omega, hx0⟩
          · intro c6
            refine And.intro (True.intro) ?_
            exact ⟨_, rfl, by omega, hx0⟩
      · intro c7
        refine And.intro ⟨rfl, by decide, by decide⟩ (fgetf fb_740_39 h0 hB1 ?_)
        intro z8 lz8 uz8 qz8
        refine And.intro (And.intro (by first | exact fi_ hb.2.1.1 (Int.le_sub_one_of_lt (Int.lt_of_lt_of_le c7 hb.1.2)) rfl | omega) (by first | exact fi_ lz8 uz8 rfl | omega)) (And.intro ?_ ?_)
        · intro c9
          refine And.intro (And.intro (by first | exact fi_ hb.2.1.1 (Int.le_sub_one_of_lt (Int.lt_of_lt_of_le c7 hb.1.2)) rfl | omega) (by first | exact fi_ (Int.add_one_le_of_lt (Int.lt_of_le_of_lt hb.2.1.1 c7)) hb.1.2 rfl | omega)) (And.intro ?_ ?_)
          · intro c10
            refine And.intro (True.intro) ?_
            exact ⟨_, rfl, by omega, hx0⟩
          · intro c11
            refine And.intro ⟨rfl, by decide, by decide⟩ (fgetf fb_740_39 h0 hB1 ?_)
            intro z12 lz12 uz12 qz12
            refine And.intro (And.intro (by first | exact fi_ (Int.le_trans (Int.add_one_le_of_lt (Int.lt_of_le_of_lt hb.2.1.1 c7)) (Int.le_of_eq c11.symm)) (Int.le_sub_one_of_lt (Int.lt_of_lt_of_le c7 hb.1.2)) rfl | omega) (by first | exact fi_ lz12 uz12 rfl | omega)) (And.intro ?_ ?_)
            · intro c13
              refine And.intro (True.intro) ?_
              exact ⟨_, rfl, by omega, hx0⟩
            · intro c14
              refine And.intro (True.intro) ?_
              exact ⟨_, rfl, by omega, hx0⟩
        · intro c15
          refine And.intro ⟨rfl, by decide, by decide⟩ ?_
          refine fload1 rL_759_759_0_59_1_0 h0 hB1 ⟨by decide, by decide⟩ (by first | exact ⟨hb.2.1.1, Int.le_trans (Int.le_sub_one_of_lt (Int.lt_of_lt_of_le c7 hb.1.2)) (by decide)⟩ | omega) ?_
          intro z16 lz16 uz16 qz16
          refine And.intro ⟨rfl, by decide, by decide⟩ ?_
          refine fload1 rL_760_760_0_59_1_0 h0 hB1 ⟨by decide, by decide⟩ (by first | exact ⟨hb.2.1.1, Int.le_trans (Int.le_sub_one_of_lt (Int.lt_of_lt_of_le c7 hb.1.2)) (by decide)⟩ | omega) ?_
          intro z17 lz17 uz17 qz17
          refine And.intro (And.intro (by first | exact fi_ lz16 uz16 rfl | omega) (by first | exact fi_ lz17 uz17 rfl | omega)) (And.intro ?_ ?_)
          · intro c18
            refine And.intro (And.intro (by first | exact fi_ hb.2.1.1 (Int.le_sub_one_of_lt (Int.lt_of_lt_of_le c7 hb.1.2)) rfl | omega) (by first | exact fi_ (Int.add_one_le_of_lt (Int.lt_of_le_of_lt hb.2.1.1 c7)) hb.1.2 rfl | omega)) (And.intro ?_ ?_)
            · intro c19
              refine And.intro (True.intro) ?_
              exact ⟨_, rfl, by omega, hx0⟩
            · intro c20
              refine And.intro ⟨rfl, by decide, by decide⟩ (fgetf fb_740_39 h0 hB1 ?_)
              intro z21 lz21 uz21 qz21
              refine And.intro (And.intro (by first | exact fi_ (Int.le_trans (Int.add_one_le_of_lt (Int.lt_of_le_of_lt hb.2.1.1 c7)) (Int.le_of_eq c20.symm)) (Int.le_sub_one_of_lt (Int.lt_of_lt_of_le c7 hb.1.2)) rfl | omega) (by first | exact fi_ lz21 uz21 rfl | omega)) (And.intro ?_ ?_)
              · intro c22
                refine And.intro (True.intro) ?_
                exact ⟨_, rfl, by omega, hx0⟩
              · intro c23
                refine And.intro (True.intro) ?_
                exact ⟨_, rfl, by omega, hx0⟩
          · intro c24
            exact fcutJ (I := I1) (j := (jc_M_check_402b5_70 I)) (lv' := [(0, .inr (.inr (some 740))), (4, .inl _), (6, .inl _)]) (And.intro rfl (And.intro rfl (And.intro rfl True.intro))) ⟨_, _, rfl, rfl, ⟨by omega, hx0⟩, rfl⟩ (by omega)
  · have hB0 := fB_self (zn := znJ) (K := fKc wz_a99d3) h0
    refine And.intro ⟨rfl, by decide, by decide⟩ (fgetf fb_740_37 h0 hB0 ?_)
    intro z25 lz25 uz25 qz25
    refine And.intro ⟨rfl, by decide, by decide⟩ (And.intro rfl (And.intro (Or.inl rfl) (fputf fb_740_37 (by decide +kernel) hW (by first | exact ⟨by decide, by decide⟩ | omega) ?_)))
    intro IhB26 ehB26 hB26
    have t27 := fup_at ehB26 37 (by first | rfl | omega)
    have t28 : IhB26 740 39 = I 740 39 := (congrFun (congrFun ehB26 740) 39).trans (fup_ne (by first | decide | omega))
    refine And.intro ⟨rfl, by decide, by decide⟩ (And.intro rfl (And.intro (Or.inl rfl) (fputf fb_740_39 (by decide +kernel) hW (by first | exact ⟨by decide, by decide⟩ | omega) ?_)))
    intro IhB29 ehB29 hB29
    have t30 : IhB29 740 37 = IhB26 740 37 := (congrFun (congrFun ehB29 740) 37).trans (fup_ne (by first | decide | omega))
    have t31 := fup_at ehB29 39 (by first | rfl | omega)
    refine And.intro (by first | exact fi_ ha1.1 ha1.2 rfl | omega) (And.intro ?_ ?_)
    · intro c32
      refine And.intro (And.intro (by first | exact fi_ ha1.1 ha1.2 rfl | omega) (by first | exact ⟨by decide, by decide⟩ | omega)) (And.intro ?_ ?_)
      · intro c33
        refine And.intro (And.intro (by first | exact fi_ ha1.1 ha1.2 rfl | omega) (by first | exact ⟨by decide, by decide⟩ | omega)) (And.intro ?_ ?_)
        · intro c34
          refine And.intro (by first | exact ⟨by decide, by decide⟩ | omega) (And.intro ?_ ?_)
          · intro c35
            exact fcutJ (I := IhB29) (j := (jc_M_check_402b5_70 I)) (lv' := [(0, .inr (.inr (some 740))), (4, .inl _), (6, .inl _)]) (And.intro rfl (And.intro rfl (And.intro rfl True.intro))) ⟨_, _, rfl, rfl, ⟨by omega, (fun j h => by first | exact (fFr_S fnil0 (by decide +kernel) j).trans ((fup_other ehB29 741 j (Or.inl (by decide))).trans (fup_other ehB26 741 j (Or.inl (by decide)))) | exact (fFr_S fnil0 (by decide +kernel) j).trans ((fup_other ehB29 741 j (Or.inl (by decide))).trans (fup_other ehB26 741 j (Or.inl (by decide)))) | exact (g0nil0 j h).trans ((fup_other ehB29 741 j (Or.inl (by decide))).trans (fup_other ehB26 741 j (Or.inl (by decide)))) | exact ((fup_other ehB29 741 j (Or.inl (by decide))).trans (fup_other ehB26 741 j (Or.inl (by decide)))))⟩, rfl⟩ (by omega)
          · intro c36
            refine And.intro (True.intro) ?_
            exact ⟨_, rfl, by omega, (fun j h => by first | exact (fFr_S fnil0 (by decide +kernel) j).trans ((fup_other ehB29 741 j (Or.inl (by decide))).trans (fup_other ehB26 741 j (Or.inl (by decide)))) | exact (fFr_S fnil0 (by decide +kernel) j).trans ((fup_other ehB29 741 j (Or.inl (by decide))).trans (fup_other ehB26 741 j (Or.inl (by decide)))) | exact (g0nil0 j h).trans ((fup_other ehB29 741 j (Or.inl (by decide))).trans (fup_other ehB26 741 j (Or.inl (by decide)))) | exact ((fup_other ehB29 741 j (Or.inl (by decide))).trans (fup_other ehB26 741 j (Or.inl (by decide)))))⟩
        · intro c37
          refine Exists.intro xm_493 (And.intro mi_493 (And.intro ⟨rfl, rfl, rfl, rfl⟩ (And.intro rfl ?_)))
          refine fcall _ h0 (fzs_sub (by decide +kernel) hW) hB29 (ct_M_rowsOfDay_99311 (fBz h0 hB29) (by first | exact ⟨ha2.1, ha2.2⟩ | omega) (by omega) (kI_keep hp0 h0 hB29 (by decide +kernel) (by decide +kernel))) ?_
          rintro IhB39 _ hB39 fhB39 ⟨z38, rfl, hz38, g0z38⟩
          have t40 := fhB39 740 37 (by decide +kernel)
          refine And.intro (by omega) (And.intro ?_ ?_)
          · intro c41
            exact fcutJ (I := IhB39) (j := (jc_M_check_402b5_70 I)) (lv' := [(0, .inr (.inr (some 740))), (4, .inl _), (6, .inl _)]) (And.intro rfl (And.intro rfl (And.intro rfl True.intro))) ⟨_, _, rfl, rfl, ⟨by omega, (fun j h => by first | exact (fFr_S fnil0 (by decide +kernel) j).trans ((fup_other ehB29 741 j (Or.inl (by decide))).trans (fup_other ehB26 741 j (Or.inl (by decide)))) | exact (fFr_S fnil0 (by decide +kernel) j).trans ((fup_other ehB29 741 j (Or.inl (by decide))).trans (fup_other ehB26 741 j (Or.inl (by decide)))) | exact (g0z38 j h).trans ((fup_other ehB29 741 j (Or.inl (by decide))).trans (fup_other ehB26 741 j (Or.inl (by decide)))) | exact ((fup_other ehB29 741 j (Or.inl (by decide))).trans (fup_other ehB26 741 j (Or.inl (by decide)))))⟩, rfl⟩ (by omega)
          · intro c42
            refine And.intro (True.intro) ?_
            exact ⟨_, rfl, by omega, (fun j h => by first | exact (fFr_S fnil0 (by decide +kernel) j).trans ((fup_other ehB29 741 j (Or.inl (by decide))).trans (fup_other ehB26 741 j (Or.inl (by decide)))) | exact (fFr_S fnil0 (by decide +kernel) j).trans ((fup_other ehB29 741 j (Or.inl (by decide))).trans (fup_other ehB26 741 j (Or.inl (by decide)))) | exact (g0z38 j h).trans ((fup_other ehB29 741 j (Or.inl (by decide))).trans (fup_other ehB26 741 j (Or.inl (by decide)))) | exact ((fup_other ehB29 741 j (Or.inl (by decide))).trans (fup_other ehB26 741 j (Or.inl (by decide)))))⟩
      · intro c43
        refine Exists.intro xm_492 (And.intro mi_492 (And.intro ⟨rfl, rfl, rfl, rfl⟩ (And.intro rfl ?_)))
        refine fcall _ h0 (fzs_sub (by decide +kernel) hW) hB29 (ct_M_rowsOfOrder_afdec (fBz h0 hB29) (by first | exact ⟨ha2.1, ha2.2⟩ | omega) (by omega)) ?_
        rintro IhB45 _ hB45 fhB45 ⟨z44, rfl, hz44⟩
        have t46 := fhB45 740 37 (by decide +kernel)
        refine And.intro (by omega) (And.intro ?_ ?_)
        · intro c47
          exact fcutJ (I := IhB45) (j := (jc_M_check_402b5_70 I)) (lv' := [(0, .inr (.inr (some 740))), (4, .inl _), (6, .inl _)]) (And.intro rfl (And.intro rfl (And.intro rfl True.intro))) ⟨_, _, rfl, rfl, ⟨by omega, (fun j h => by first | exact (fFr_S fnil0 (by decide +kernel) j).trans ((fup_other ehB29 741 j (Or.inl (by decide))).trans (fup_other ehB26 741 j (Or.inl (by decide)))) | exact (fFr_S fhB45 (by decide +kernel) j).trans ((fup_other ehB29 741 j (Or.inl (by decide))).trans (fup_other ehB26 741 j (Or.inl (by decide)))) | exact (g0z38 j h).trans ((fup_other ehB29 741 j (Or.inl (by decide))).trans (fup_other ehB26 741 j (Or.inl (by decide)))) | exact ((fup_other ehB29 741 j (Or.inl (by decide))).trans (fup_other ehB26 741 j (Or.inl (by decide)))))⟩, rfl⟩ (by omega)
        · intro c48
          refine And.intro (True.intro) ?_
          exact ⟨_, rfl, by omega, (fun j h => by first | exact (fFr_S fnil0 (by decide +kernel) j).trans ((fup_other ehB29 741 j (Or.inl (by decide))).trans (fup_other ehB26 741 j (Or.inl (by decide)))) | exact (fFr_S fhB45 (by decide +kernel) j).trans ((fup_other ehB29 741 j (Or.inl (by decide))).trans (fup_other ehB26 741 j (Or.inl (by decide)))) | exact (g0z38 j h).trans ((fup_other ehB29 741 j (Or.inl (by decide))).trans (fup_other ehB26 741 j (Or.inl (by decide)))) | exact ((fup_other ehB29 741 j (Or.inl (by decide))).trans (fup_other ehB26 741 j (Or.inl (by decide)))))⟩
    · intro c49
      refine Exists.intro xm_490 (And.intro mi_490 (And.intro ⟨rfl, rfl, rfl, rfl⟩ (And.intro rfl ?_)))
      refine fcall _ h0 (fzs_sub (by decide +kernel) hW) hB29 (ct_M_rowsOfLoads_5fe0b (fBz h0 hB29) (by first | exact ⟨ha2.1, ha2.2⟩ | omega) (by first | exact ⟨ha3.1, ha3.2⟩ | omega) (by omega)) ?_
      rintro IhB51 _ hB51 fhB51 ⟨z50, rfl, hz50⟩
      have t52 := fhB51 740 37 (by decide +kernel)
      refine And.intro (by omega) (And.intro ?_ ?_)
      · intro c53
        exact fcutJ (I := IhB51) (j := (jc_M_check_402b5_70 I)) (lv' := [(0, .inr (.inr (some 740))), (4, .inl _), (6, .inl _)]) (And.intro rfl (And.intro rfl (And.intro rfl True.intro))) ⟨_, _, rfl, rfl, ⟨by omega, (fun j h => by first | exact (fFr_S fhB51 (by decide +kernel) j).trans ((fup_other ehB29 741 j (Or.inl (by decide))).trans (fup_other ehB26 741 j (Or.inl (by decide)))) | exact (fFr_S fhB45 (by decide +kernel) j).trans ((fup_other ehB29 741 j (Or.inl (by decide))).trans (fup_other ehB26 741 j (Or.inl (by decide)))) | exact (g0z38 j h).trans ((fup_other ehB29 741 j (Or.inl (by decide))).trans (fup_other ehB26 741 j (Or.inl (by decide)))) | exact ((fup_other ehB29 741 j (Or.inl (by decide))).trans (fup_other ehB26 741 j (Or.inl (by decide)))))⟩, rfl⟩ (by omega)
      · intro c54
        refine And.intro (True.intro) ?_
        exact ⟨_, rfl, by omega, (fun j h => by first | exact (fFr_S fhB51 (by decide +kernel) j).trans ((fup_other ehB29 741 j (Or.inl (by decide))).trans (fup_other ehB26 741 j (Or.inl (by decide)))) | exact (fFr_S fhB45 (by decide +kernel) j).trans ((fup_other ehB29 741 j (Or.inl (by decide))).trans (fup_other ehB26 741 j (Or.inl (by decide)))) | exact (g0z38 j h).trans ((fup_other ehB29 741 j (Or.inl (by decide))).trans (fup_other ehB26 741 j (Or.inl (by decide)))) | exact ((fup_other ehB29 741 j (Or.inl (by decide))).trans (fup_other ehB26 741 j (Or.inl (by decide)))))⟩
set_option maxRecDepth 8000 in
theorem ct_Desk_becomeAs_f61cf {I : fH}  (h0 : fB bsJ I)  : fC ρ base n F xTc vwCl xTys D dA la gJ (fbz bsJ znJ (fKc wz_77c59) I) xm_231 [.inr (.inr (some 467)), .inr (.inr (some 211))] I (fun I' r => r = none ∧ (I' 467 8 = I 211 8 ∧ I' 467 11 = I 211 11 ∧ I' 467 15 = I 211 15) ∧ (∀ i j : Nat, i < 8 → j < 12 → I' (469 + i) j = I (213 + i) j) ∧ (∀ j : Nat, j < 8 → I' 477 j = I 221 j) ∧ (∀ j : Nat, j < 48 → I' 478 j = I 222 j) ∧ (∀ j : Nat, j < 4 → I' 479 j = I 223 j) ∧ (∀ i j : Nat, i < 24 → j < 4 → I' (481 + i) j = I (225 + i) j) ∧ (∀ j : Nat, j < 6 → I' 505 j = I 249 j) ∧ (∀ j : Nat, j < 6 → I' 506 j = I 250 j) ∧ (∀ j : Nat, j < 6 → I' 507 j = I 251 j) ∧ (∀ j : Nat, j < 10 → I' 508 j = I 252 j) ∧ (∀ j : Nat, j < 10 → I' 509 j = I 253 j) ∧ (∀ j : Nat, j < 7 → I' 510 j = I 254 j) ∧ (∀ j : Nat, j < 7 → I' 511 j = I 255 j) ∧ (∀ j : Nat, j < 7 → I' 512 j = I 256 j)) := by
  have hW : fzs wz_77c59 (fKc wz_77c59) := fKc_ok _
  refine f_meth (rb := rbJ) (J := []) 1 400 xG xin_231 x6_231 okJ (fB_self h0) ?_ ?_
  · exact fun q h => absurd h List.not_mem_nil
  · have hB0 := fB_self (zn := znJ) (K := fKc wz_77c59) h0
    refine And.intro ⟨rfl, by decide, by decide⟩ ?_
    refine And.intro ⟨rfl, by decide, by decide⟩ ?_
    refine Exists.intro xm_225 (And.intro mi_225 (And.intro ⟨rfl, rfl, rfl, rfl⟩ (And.intro True.intro ?_)))
    refine fcall _ h0 (fzs_sub (by decide +kernel) hW) hB0 (ct_copyRows (W := [468]) (m := 8) (len := 12) (ro := 213) (rd := 469) (fBz h0 hB0) (frCs_of ⟨rfl, rfl, rfl, rfl, by decide⟩ (by decide +kernel))) ?_
    rintro IhB1 _ hB1 fhB1 ⟨rfl, ehB1⟩
    refine And.intro ⟨rfl, by decide, by decide⟩ ?_
    refine And.intro ⟨rfl, by decide, by decide⟩ ?_
    refine Exists.intro xm_75 (And.intro mi_75 (And.intro ⟨rfl, rfl, rfl, rfl⟩ (And.intro True.intro ?_)))
    refine fcall _ h0 (fzs_sub (by decide +kernel) hW) hB1 (ct_copyRow (W := [477]) (len := 8) (fBz h0 hB1) (frC_of (by decide +kernel))) ?_
    rintro IhB2 _ hB2 fhB2 ⟨rfl, ehB2⟩
    refine And.intro ⟨rfl, by decide, by decide⟩ ?_
    refine And.intro ⟨rfl, by decide, by decide⟩ ?_
    refine Exists.intro xm_75 (And.intro mi_75 (And.intro ⟨rfl, rfl, rfl, rfl⟩ (And.intro True.intro ?_)))
    refine fcall _ h0 (fzs_sub (by decide +kernel) hW) hB2 (ct_copyRow (W := [478]) (len := 48) (fBz h0 hB2) (frC_of (by decide +kernel))) ?_
    rintro IhB3 _ hB3 fhB3 ⟨rfl, ehB3⟩
    refine And.intro ⟨rfl, by decide, by decide⟩ ?_
    refine And.intro ⟨rfl, by decide, by decide⟩ ?_
    refine Exists.intro xm_75 (And.intro mi_75 (And.intro ⟨rfl, rfl, rfl, rfl⟩ (And.intro True.intro ?_)))
    refine fcall _ h0 (fzs_sub (by decide +kernel) hW) hB3 (ct_copyRow (W := [479]) (len := 4) (fBz h0 hB3) (frC_of (by decide +kernel))) ?_
    rintro IhB4 _ hB4 fhB4 ⟨rfl, ehB4⟩
    refine And.intro ⟨rfl, by decide, by decide⟩ ?_
    refine And.intro ⟨rfl, by decide, by decide⟩ ?_
    refine Exists.intro xm_225 (And.intro mi_225 (And.intro ⟨rfl, rfl, rfl, rfl⟩ (And.intro True.intro ?_)))
    refine fcall _ h0 (fzs_sub (by decide +kernel) hW) hB4 (ct_copyRows (W := [480]) (m := 24) (len := 4) (ro := 225) (rd := 481) (fBz h0 hB4) (frCs_of ⟨rfl, rfl, rfl, rfl, by decide⟩ (by decide +kernel))) ?_
    rintro IhB5 _ hB5 fhB5 ⟨rfl, ehB5⟩
    refine And.intro ⟨rfl, by decide, by decide⟩ ?_
    refine And.intro ⟨rfl, by decide, by decide⟩ ?_
    refine Exists.intro xm_75 (And.intro mi_75 (And.intro ⟨rfl, rfl, rfl, rfl⟩ (And.intro True.intro ?_)))
    refine fcall _ h0 (fzs_sub (by decide +kernel) hW) hB5 (ct_copyRow (W := [505]) (len := 6) (fBz h0 hB5) (frC_of (by decide +kernel))) ?_
    rintro IhB6 _ hB6 fhB6 ⟨rfl, ehB6⟩
    refine And.intro ⟨rfl, by decide, by decide⟩ ?_
    refine And.intro ⟨rfl, by decide, by decide⟩ ?_
    refine Exists.intro xm_75 (And.intro mi_75 (And.intro ⟨rfl, rfl, rfl, rfl⟩ (And.intro True.intro ?_)))
    refine fcall _ h0 (fzs_sub (by decide +kernel) hW) hB6 (ct_copyRow (W := [506]) (len := 6) (fBz h0 hB6) (frC_of (by decide +kernel))) ?_
    rintro IhB7 _ hB7 fhB7 ⟨rfl, ehB7⟩
    refine And.intro ⟨rfl, by decide, by decide⟩ ?_
    refine And.intro ⟨rfl, by decide, by decide⟩ ?_
    refine Exists.intro xm_75 (And.intro mi_75 (And.intro ⟨rfl, rfl, rfl, rfl⟩ (And.intro True.intro ?_)))
    refine fcall _ h0 (fzs_sub (by decide +kernel) hW) hB7 (ct_copyRow (W := [507]) (len := 6) (fBz h0 hB7) (frC_of (by decide +kernel))) ?_
    rintro IhB8 _ hB8 fhB8 ⟨rfl, ehB8⟩
    refine And.intro ⟨rfl, by decide, by decide⟩ (fgetf fb_211_8 h0 hB8 ?_)
    intro z9 lz9 uz9 qz9
    have k10 := fBz_eq hB8 (a := 211) (j := 8) (by decide +kernel)
    refine And.intro ⟨rfl, by decide, by decide⟩ (And.intro rfl (And.intro (Or.inl rfl) (fputf fb_467_8 (by decide +kernel) hW (by first | exact ⟨lz9, uz9⟩ | omega) ?_)))
    intro IhB11 ehB11 hB11
    have t12 := fup_at ehB11 8 (by first | rfl | omega)
    refine And.intro ⟨rfl, by decide, by decide⟩ ?_
    refine And.intro ⟨rfl, by decide, by decide⟩ ?_
    refine Exists.intro xm_75 (And.intro mi_75 (And.intro ⟨rfl, rfl, rfl, rfl⟩ (And.intro True.intro ?_)))
    refine fcall _ h0 (fzs_sub (by decide +kernel) hW) hB11 (ct_copyRow (W := [508]) (len := 10) (fBz h0 hB11) (frC_of (by decide +kernel))) ?_
    rintro IhB13 _ hB13 fhB13 ⟨rfl, ehB13⟩
    have t14 := fhB13 467 8 (by decide +kernel)
    refine And.intro ⟨rfl, by decide, by decide⟩ ?_
    refine And.intro ⟨rfl, by decide, by decide⟩ ?_
    refine Exists.intro xm_75 (And.intro mi_75 (And.intro ⟨rfl, rfl, rfl, rfl⟩ (And.intro True.intro ?_)))
    refine fcall _ h0 (fzs_sub (by decide +kernel) hW) hB13 (ct_copyRow (W := [509]) (len := 10) (fBz h0 hB13) (frC_of (by decide +kernel))) ?_
    rintro IhB15 _ hB15 fhB15 ⟨rfl, ehB15⟩
    have t16 := fhB15 467 8 (by decide +kernel)
    refine And.intro ⟨rfl, by decide, by decide⟩ (fgetf fb_211_11 h0 hB15 ?_)
    intro z17 lz17 uz17 qz17
    have k18 := fBz_eq hB15 (a := 211) (j := 11) (by decide +kernel)
    refine And.intro ⟨rfl, by decide, by decide⟩ (And.intro rfl (And.intro (Or.inl rfl) (fputf fb_467_11 (by decide +kernel) hW (by first | exact ⟨lz17, uz17⟩ | omega) ?_)))
    intro IhB19 ehB19 hB19
    have t20 : IhB19 467 8 = IhB15 467 8 := (congrFun (congrFun ehB19 467) 8).trans (fup_ne (by first | decide | omega))
    have t21 := fup_at ehB19 11 (by first | rfl | omega)
    refine And.intro ⟨rfl, by decide, by decide⟩ ?_
    refine And.intro ⟨rfl, by decide, by decide⟩ ?_
    refine Exists.intro xm_75 (And.intro mi_75 (And.intro ⟨rfl, rfl, rfl, rfl⟩ (And.intro True.intro ?_)))
    refine fcall _ h0 (fzs_sub (by decide +kernel) hW) hB19 (ct_copyRow (W := [510]) (len := 7) (fBz h0 hB19) (frC_of (by decide +kernel))) ?_
    rintro IhB22 _ hB22 fhB22 ⟨rfl, ehB22⟩
    have t23 := fhB22 467 8 (by decide +kernel)
    have t24 := fhB22 467 11 (by decide +kernel)
    refine And.intro ⟨rfl, by decide, by decide⟩ ?_
    refine And.intro ⟨rfl, by decide, by decide⟩ ?_
    refine Exists.intro xm_75 (And.intro mi_75 (And.intro ⟨rfl, rfl, rfl, rfl⟩ (And.intro True.intro ?_)))
    refine fcall _ h0 (fzs_sub (by decide +kernel) hW) hB22 (ct_copyRow (W := [511]) (len := 7) (fBz h0 hB22) (frC_of (by decide +kernel))) ?_
    rintro IhB25 _ hB25 fhB25 ⟨rfl, ehB25⟩
    have t26 := fhB25 467 8 (by decide +kernel)
    have t27 := fhB25 467 11 (by decide +kernel)
    refine And.intro ⟨rfl, by decide, by decide⟩ ?_
    refine And.intro ⟨rfl, by decide, by decide⟩ ?_
    refine Exists.intro xm_75 (And.intro mi_75 (And.intro ⟨rfl, rfl, rfl, rfl⟩ (And.intro True.intro ?_)))
    refine fcall _ h0 (fzs_sub (by decide +kernel) hW) hB25 (ct_copyRow (W := [512]) (len := 7) (fBz h0 hB25) (frC_of (by decide +kernel))) ?_
    rintro IhB28 _ hB28 fhB28 ⟨rfl, ehB28⟩
    have t29 := fhB28 467 8 (by decide +kernel)
    have t30 := fhB28 467 11 (by decide +kernel)
    refine And.intro ⟨rfl, by decide, by decide⟩ (fgetf fb_211_15 h0 hB28 ?_)
    intro z31 lz31 uz31 qz31
    have k32 := fBz_eq hB28 (a := 211) (j := 15) (by decide +kernel)
    refine And.intro ⟨rfl, by decide, by decide⟩ (And.intro rfl (And.intro (Or.inl rfl) (fputf fb_467_15 (by decide +kernel) hW (by first | exact ⟨lz31, uz31⟩ | omega) ?_)))
    intro IhB33 ehB33 hB33
    have t34 : IhB33 467 8 = IhB28 467 8 := (congrFun (congrFun ehB33 467) 8).trans (fup_ne (by first | decide | omega))
    have t35 : IhB33 467 11 = IhB28 467 11 := (congrFun (congrFun ehB33 467) 11).trans (fup_ne (by first | decide | omega))
    have t36 := fup_at ehB33 15 (by first | rfl | omega)
    exact ⟨rfl, by omega, (fun i j hi hj => ((fup_other ehB33 (469 + i) j (Or.inl (by omega))).trans (((congrFun (congrFun ehB28 (469 + i)) j).trans (fcpy_ne (by omega))).trans (((congrFun (congrFun ehB25 (469 + i)) j).trans (fcpy_ne (by omega))).trans (((congrFun (congrFun ehB22 (469 + i)) j).trans (fcpy_ne (by omega))).trans ((fup_other ehB19 (469 + i) j (Or.inl (by omega))).trans (((congrFun (congrFun ehB15 (469 + i)) j).trans (fcpy_ne (by omega))).trans (((congrFun (congrFun ehB13 (469 + i)) j).trans (fcpy_ne (by omega))).trans ((fup_other ehB11 (469 + i) j (Or.inl (by omega))).trans (((congrFun (congrFun ehB8 (469 + i)) j).trans (fcpy_ne (by omega))).trans (((congrFun (congrFun ehB7 (469 + i)) j).trans (fcpy_ne (by omega))).trans (((congrFun (congrFun ehB6 (469 + i)) j).trans (fcpy_ne (by omega))).trans ((fFr_rows fhB5 (r := 469) (m := 8) (len := 12) (by decide +kernel) i j hi hj).trans (((congrFun (congrFun ehB4 (469 + i)) j).trans (fcpy_ne (by omega))).trans (((congrFun (congrFun ehB3 (469 + i)) j).trans (fcpy_ne (by omega))).trans (((congrFun (congrFun ehB2 (469 + i)) j).trans (fcpy_ne (by omega))).trans (ehB1 i hi j hj))))))))))))))))), (fun j hj => ((fup_other ehB33 477 j (Or.inl (by omega))).trans (((congrFun (congrFun ehB28 477) j).trans (fcpy_ne (by omega))).trans (((congrFun (congrFun ehB25 477) j).trans (fcpy_ne (by omega))).trans (((congrFun (congrFun ehB22 477) j).trans (fcpy_ne (by omega))).trans ((fup_other ehB19 477 j (Or.inl (by omega))).trans (((congrFun (congrFun ehB15 477) j).trans (fcpy_ne (by omega))).trans (((congrFun (congrFun ehB13 477) j).trans (fcpy_ne (by omega))).trans ((fup_other ehB11 477 j (Or.inl (by omega))).trans (((congrFun (congrFun ehB8 477) j).trans (fcpy_ne (by omega))).trans (((congrFun (congrFun ehB7 477) j).trans (fcpy_ne (by omega))).trans (((congrFun (congrFun ehB6 477) j).trans (fcpy_ne (by omega))).trans ((fFr_at fhB5 477 (by decide +kernel) rfl j).trans (((congrFun (congrFun ehB4 477) j).trans (fcpy_ne (by omega))).trans (((congrFun (congrFun ehB3 477) j).trans (fcpy_ne (by omega))).trans (((congrFun (congrFun ehB2 477) j).trans (fcpy_at hj)).trans (fFr_at (fFr_of hB1) 221 (by decide +kernel) rfl j))))))))))))))))), (fun j hj => ((fup_other ehB33 478 j (Or.inl (by omega))).trans (((congrFun (congrFun ehB28 478) j).trans (fcpy_ne (by omega))).trans (((congrFun (congrFun ehB25 478) j).trans (fcpy_ne (by omega))).trans (((congrFun (congrFun ehB22 478) j).trans (fcpy_ne (by omega))).trans ((fup_other ehB19 478 j (Or.inl (by omega))).trans (((congrFun (congrFun ehB15 478) j).trans (fcpy_ne (by omega))).trans (((congrFun (congrFun ehB13 478) j).trans (fcpy_ne (by omega))).trans ((fup_other ehB11 478 j (Or.inl (by omega))).trans (((congrFun (congrFun ehB8 478) j).trans (fcpy_ne (by omega))).trans (((congrFun (congrFun ehB7 478) j).trans (fcpy_ne (by omega))).trans (((congrFun (congrFun ehB6 478) j).trans (fcpy_ne (by omega))).trans ((fFr_at fhB5 478 (by decide +kernel) rfl j).trans (((congrFun (congrFun ehB4 478) j).trans (fcpy_ne (by omega))).trans (((congrFun (congrFun ehB3 478) j).trans (fcpy_at hj)).trans (fFr_at (fFr_of hB2) 222 (by decide +kernel) rfl j)))))))))))))))), (fun j hj => ((fup_other ehB33 479 j (Or.inl (by omega))).trans (((congrFun (congrFun ehB28 479) j).trans (fcpy_ne (by omega))).trans (((congrFun (congrFun ehB25 479) j).trans (fcpy_ne (by omega))).trans (((congrFun (congrFun ehB22 479) j).trans (fcpy_ne (by omega))).trans ((fup_other ehB19 479 j (Or.inl (by omega))).trans (((congrFun (congrFun ehB15 479) j).trans (fcpy_ne (by omega))).trans (((congrFun (congrFun ehB13 479) j).trans (fcpy_ne (by omega))).trans ((fup_other ehB11 479 j (Or.inl (by omega))).trans (((congrFun (congrFun ehB8 479) j).trans (fcpy_ne (by omega))).trans (((congrFun (congrFun ehB7 479) j).trans (fcpy_ne (by omega))).trans (((congrFun (congrFun ehB6 479) j).trans (fcpy_ne (by omega))).trans ((fFr_at fhB5 479 (by decide +kernel) rfl j).trans (((congrFun (congrFun ehB4 479) j).trans (fcpy_at hj)).trans (fFr_at (fFr_of hB3) 223 (by decide +kernel) rfl j))))))))))))))), (fun i j hi hj => ((fup_other ehB33 (481 + i) j (Or.inl (by omega))).trans (((congrFun (congrFun ehB28 (481 + i)) j).trans (fcpy_ne (by omega))).trans (((congrFun (congrFun ehB25 (481 + i)) j).trans (fcpy_ne (by omega))).trans (((congrFun (congrFun ehB22 (481 + i)) j).trans (fcpy_ne (by omega))).trans ((fup_other ehB19 (481 + i) j (Or.inl (by omega))).trans (((congrFun (congrFun ehB15 (481 + i)) j).trans (fcpy_ne (by omega))).trans (((congrFun (congrFun ehB13 (481 + i)) j).trans (fcpy_ne (by omega))).trans ((fup_other ehB11 (481 + i) j (Or.inl (by omega))).trans (((congrFun (congrFun ehB8 (481 + i)) j).trans (fcpy_ne (by omega))).trans (((congrFun (congrFun ehB7 (481 + i)) j).trans (fcpy_ne (by omega))).trans (((congrFun (congrFun ehB6 (481 + i)) j).trans (fcpy_ne (by omega))).trans ((ehB5 i hi j hj).trans (fFr_rows (fFr_of hB4) (r := 225) (m := 24) (len := 4) (by decide +kernel) i j hi hj)))))))))))))), (fun j hj => ((fup_other ehB33 505 j (Or.inl (by omega))).trans (((congrFun (congrFun ehB28 505) j).trans (fcpy_ne (by omega))).trans (((congrFun (congrFun ehB25 505) j).trans (fcpy_ne (by omega))).trans (((congrFun (congrFun ehB22 505) j).trans (fcpy_ne (by omega))).trans ((fup_other ehB19 505 j (Or.inl (by omega))).trans (((congrFun (congrFun ehB15 505) j).trans (fcpy_ne (by omega))).trans (((congrFun (congrFun ehB13 505) j).trans (fcpy_ne (by omega))).trans ((fup_other ehB11 505 j (Or.inl (by omega))).trans (((congrFun (congrFun ehB8 505) j).trans (fcpy_ne (by omega))).trans (((congrFun (congrFun ehB7 505) j).trans (fcpy_ne (by omega))).trans (((congrFun (congrFun ehB6 505) j).trans (fcpy_at hj)).trans (fFr_at (fFr_of hB5) 249 (by decide +kernel) rfl j))))))))))))), (fun j hj => ((fup_other ehB33 506 j (Or.inl (by omega))).trans (((congrFun (congrFun ehB28 506) j).trans (fcpy_ne (by omega))).trans (((congrFun (congrFun ehB25 506) j).trans (fcpy_ne (by omega))).trans (((congrFun (congrFun ehB22 506) j).trans (fcpy_ne (by omega))).trans ((fup_other ehB19 506 j (Or.inl (by omega))).trans (((congrFun (congrFun ehB15 506) j).trans (fcpy_ne (by omega))).trans (((congrFun (congrFun ehB13 506) j).trans (fcpy_ne (by omega))).trans ((fup_other ehB11 506 j (Or.inl (by omega))).trans (((congrFun (congrFun ehB8 506) j).trans (fcpy_ne (by omega))).trans (((congrFun (congrFun ehB7 506) j).trans (fcpy_at hj)).trans (fFr_at (fFr_of hB6) 250 (by decide +kernel) rfl j)))))))))))), (fun j hj => ((fup_other ehB33 507 j (Or.inl (by omega))).trans (((congrFun (congrFun ehB28 507) j).trans (fcpy_ne (by omega))).trans (((congrFun (congrFun ehB25 507) j).trans (fcpy_ne (by omega))).trans (((congrFun (congrFun ehB22 507) j).trans (fcpy_ne (by omega))).trans ((fup_other ehB19 507 j (Or.inl (by omega))).trans (((congrFun (congrFun ehB15 507) j).trans (fcpy_ne (by omega))).trans (((congrFun (congrFun ehB13 507) j).trans (fcpy_ne (by omega))).trans ((fup_other ehB11 507 j (Or.inl (by omega))).trans (((congrFun (congrFun ehB8 507) j).trans (fcpy_at hj)).trans (fFr_at (fFr_of hB7) 251 (by decide +kernel) rfl j))))))))))), (fun j hj => ((fup_other ehB33 508 j (Or.inl (by omega))).trans (((congrFun (congrFun ehB28 508) j).trans (fcpy_ne (by omega))).trans (((congrFun (congrFun ehB25 508) j).trans (fcpy_ne (by omega))).trans (((congrFun (congrFun ehB22 508) j).trans (fcpy_ne (by omega))).trans ((fup_other ehB19 508 j (Or.inl (by omega))).trans (((congrFun (congrFun ehB15 508) j).trans (fcpy_ne (by omega))).trans (((congrFun (congrFun ehB13 508) j).trans (fcpy_at hj)).trans (fFr_at (fFr_of hB11) 252 (by decide +kernel) rfl j))))))))), (fun j hj => ((fup_other ehB33 509 j (Or.inl (by omega))).trans (((congrFun (congrFun ehB28 509) j).trans (fcpy_ne (by omega))).trans (((congrFun (congrFun ehB25 509) j).trans (fcpy_ne (by omega))).trans (((congrFun (congrFun ehB22 509) j).trans (fcpy_ne (by omega))).trans ((fup_other ehB19 509 j (Or.inl (by omega))).trans (((congrFun (congrFun ehB15 509) j).trans (fcpy_at hj)).trans (fFr_at (fFr_of hB13) 253 (by decide +kernel) rfl j)))))))), (fun j hj => ((fup_other ehB33 510 j (Or.inl (by omega))).trans (((congrFun (congrFun ehB28 510) j).trans (fcpy_ne (by omega))).trans (((congrFun (congrFun ehB25 510) j).trans (fcpy_ne (by omega))).trans (((congrFun (congrFun ehB22 510) j).trans (fcpy_at hj)).trans (fFr_at (fFr_of hB19) 254 (by decide +kernel) rfl j)))))), (fun j hj => ((fup_other ehB33 511 j (Or.inl (by omega))).trans (((congrFun (congrFun ehB28 511) j).trans (fcpy_ne (by omega))).trans (((congrFun (congrFun ehB25 511) j).trans (fcpy_at hj)).trans (fFr_at (fFr_of hB22) 255 (by decide +kernel) rfl j))))), (fun j hj => ((fup_other ehB33 512 j (Or.inl (by omega))).trans (((congrFun (congrFun ehB28 512) j).trans (fcpy_at hj)).trans (fFr_at (fFr_of hB25) 256 (by decide +kernel) rfl j))))⟩
set_option maxRecDepth 8000 in
theorem ct_People_becomeAs_f9dc9 {I : fH}  (h0 : fB bsJ I)  : fC ρ base n F xTc vwCl xTys D dA la gJ (fbz bsJ znJ (fKc wz_35895) I) xm_227 [.inr (.inr (some 433)), .inr (.inr (some 177))] I (fun _ r => r = none) := by
  have hW : fzs wz_35895 (fKc wz_35895) := fKc_ok _
  refine f_meth (rb := rbJ) (J := []) 1 400 xG xin_227 x6_227 okJ (fB_self h0) ?_ ?_
  · exact fun q h => absurd h List.not_mem_nil
  · have hB0 := fB_self (zn := znJ) (K := fKc wz_35895) h0
    refine And.intro ⟨rfl, by decide, by decide⟩ ?_
    refine And.intro ⟨rfl, by decide, by decide⟩ ?_
    refine Exists.intro xm_75 (And.intro mi_75 (And.intro ⟨rfl, rfl, rfl, rfl⟩ (And.intro True.intro ?_)))
    refine fcall _ h0 (fzs_sub (by decide +kernel) hW) hB0 (ct_copyRow (W := [434]) (len := 24) (fBz h0 hB0) (frC_of (by decide +kernel))) ?_
    rintro IhB1 _ hB1 fhB1 ⟨rfl, ehB1⟩
    refine And.intro ⟨rfl, by decide, by decide⟩ ?_
    refine And.intro ⟨rfl, by decide, by decide⟩ ?_
    refine Exists.intro xm_75 (And.intro mi_75 (And.intro ⟨rfl, rfl, rfl, rfl⟩ (And.intro True.intro ?_)))
    refine fcall _ h0 (fzs_sub (by decide +kernel) hW) hB1 (ct_copyRow (W := [435]) (len := 24) (fBz h0 hB1) (frC_of (by decide +kernel))) ?_
    rintro IhB2 _ hB2 fhB2 ⟨rfl, ehB2⟩
    refine And.intro ⟨rfl, by decide, by decide⟩ ?_
    refine And.intro ⟨rfl, by decide, by decide⟩ ?_
    refine Exists.intro xm_75 (And.intro mi_75 (And.intro ⟨rfl, rfl, rfl, rfl⟩ (And.intro True.intro ?_)))
    refine fcall _ h0 (fzs_sub (by decide +kernel) hW) hB2 (ct_copyRow (W := [436]) (len := 24) (fBz h0 hB2) (frC_of (by decide +kernel))) ?_
    rintro IhB3 _ hB3 fhB3 ⟨rfl, ehB3⟩
    refine And.intro ⟨rfl, by decide, by decide⟩ ?_
    refine And.intro ⟨rfl, by decide, by decide⟩ ?_
    refine Exists.intro xm_75 (And.intro mi_75 (And.intro ⟨rfl, rfl, rfl, rfl⟩ (And.intro True.intro ?_)))
    refine fcall _ h0 (fzs_sub (by decide +kernel) hW) hB3 (ct_copyRow (W := [437]) (len := 24) (fBz h0 hB3) (frC_of (by decide +kernel))) ?_
    rintro IhB4 _ hB4 fhB4 ⟨rfl, ehB4⟩
    refine And.intro ⟨rfl, by decide, by decide⟩ (fgetf fb_177_4 h0 hB4 ?_)
    intro z5 lz5 uz5 qz5
    refine And.intro ⟨rfl, by decide, by decide⟩ (And.intro rfl (And.intro (Or.inl rfl) (fputf fb_433_4 (by decide +kernel) hW (by first | exact ⟨lz5, uz5⟩ | omega) ?_)))
    intro IhB6 ehB6 hB6
    have t7 : IhB6 177 4 = IhB4 177 4 := (congrFun (congrFun ehB6 177) 4).trans (fup_ne (by first | decide | omega))
    have t8 := fup_at ehB6 4 (by first | rfl | omega)
    exact rfl
set_option maxRecDepth 8000 in
theorem ct_Works_becomeAs_81b4d {I : fH}  (h0 : fB bsJ I)  : fC ρ base n F xTc vwCl xTys D dA la gJ (fbz bsJ znJ (fKc wz_470c1) I) xm_226 [.inr (.inr (some 419)), .inr (.inr (some 163))] I (fun I' r => r = none ∧ (I' 419 13 = I 163 13) ∧ (∀ j : Nat, j < 24 → I' 420 j = I 164 j)) := by
  have hW : fzs wz_470c1 (fKc wz_470c1) := fKc_ok _
  refine f_meth (rb := rbJ) (J := []) 1 400 xG xin_226 x6_226 okJ (fB_self h0) ?_ ?_
  · exact fun q h => absurd h List.not_mem_nil
  · have hB0 := fB_self (zn := znJ) (K := fKc wz_470c1) h0
    refine And.intro ⟨rfl, by decide, by decide⟩ ?_
    refine And.intro ⟨rfl, by decide, by decide⟩ ?_
    refine Exists.intro xm_75 (And.intro mi_75 (And.intro ⟨rfl, rfl, rfl, rfl⟩ (And.intro True.intro ?_)))
    refine fcall _ h0 (fzs_sub (by decide +kernel) hW) hB0 (ct_copyRow (W := [420]) (len := 24) (fBz h0 hB0) (frC_of (by decide +kernel))) ?_
    rintro IhB1 _ hB1 fhB1 ⟨rfl, ehB1⟩
    refine And.intro ⟨rfl, by decide, by decide⟩ ?_
    refine And.intro ⟨rfl, by decide, by decide⟩ ?_
    refine Exists.intro xm_75 (And.intro mi_75 (And.intro ⟨rfl, rfl, rfl, rfl⟩ (And.intro True.intro ?_)))
    refine fcall _ h0 (fzs_sub (by decide +kernel) hW) hB1 (ct_copyRow (W := [421]) (len := 24) (fBz h0 hB1) (frC_of (by decide +kernel))) ?_
    rintro IhB2 _ hB2 fhB2 ⟨rfl, ehB2⟩
    refine And.intro ⟨rfl, by decide, by decide⟩ ?_
    refine And.intro ⟨rfl, by decide, by decide⟩ ?_
    refine Exists.intro xm_75 (And.intro mi_75 (And.intro ⟨rfl, rfl, rfl, rfl⟩ (And.intro True.intro ?_)))
    refine fcall _ h0 (fzs_sub (by decide +kernel) hW) hB2 (ct_copyRow (W := [422]) (len := 24) (fBz h0 hB2) (frC_of (by decide +kernel))) ?_
    rintro IhB3 _ hB3 fhB3 ⟨rfl, ehB3⟩
    refine And.intro ⟨rfl, by decide, by decide⟩ ?_
    refine And.intro ⟨rfl, by decide, by decide⟩ ?_
    refine Exists.intro xm_75 (And.intro mi_75 (And.intro ⟨rfl, rfl, rfl, rfl⟩ (And.intro True.intro ?_)))
    refine fcall _ h0 (fzs_sub (by decide +kernel) hW) hB3 (ct_copyRow (W := [423]) (len := 24) (fBz h0 hB3) (frC_of (by decide +kernel))) ?_
    rintro IhB4 _ hB4 fhB4 ⟨rfl, ehB4⟩
    refine And.intro ⟨rfl, by decide, by decide⟩ ?_
    refine And.intro ⟨rfl, by decide, by decide⟩ ?_
    refine Exists.intro xm_75 (And.intro mi_75 (And.intro ⟨rfl, rfl, rfl, rfl⟩ (And.intro True.intro ?_)))
    refine fcall _ h0 (fzs_sub (by decide +kernel) hW) hB4 (ct_copyRow (W := [424]) (len := 24) (fBz h0 hB4) (frC_of (by decide +kernel))) ?_
    rintro IhB5 _ hB5 fhB5 ⟨rfl, ehB5⟩
    refine And.intro ⟨rfl, by decide, by decide⟩ ?_
    refine And.intro ⟨rfl, by decide, by decide⟩ ?_
    refine Exists.intro xm_75 (And.intro mi_75 (And.intro ⟨rfl, rfl, rfl, rfl⟩ (And.intro True.intro ?_)))
    refine fcall _ h0 (fzs_sub (by decide +kernel) hW) hB5 (ct_copyRow (W := [425]) (len := 24) (fBz h0 hB5) (frC_of (by decide +kernel))) ?_
    rintro IhB6 _ hB6 fhB6 ⟨rfl, ehB6⟩
    refine And.intro ⟨rfl, by decide, by decide⟩ ?_
    refine And.intro ⟨rfl, by decide, by decide⟩ ?_
    refine Exists.intro xm_75 (And.intro mi_75 (And.intro ⟨rfl, rfl, rfl, rfl⟩ (And.intro True.intro ?_)))
    refine fcall _ h0 (fzs_sub (by decide +kernel) hW) hB6 (ct_copyRow (W := [426]) (len := 24) (fBz h0 hB6) (frC_of (by decide +kernel))) ?_
    rintro IhB7 _ hB7 fhB7 ⟨rfl, ehB7⟩
    refine And.intro ⟨rfl, by decide, by decide⟩ ?_
    refine And.intro ⟨rfl, by decide, by decide⟩ ?_
    refine Exists.intro xm_75 (And.intro mi_75 (And.intro ⟨rfl, rfl, rfl, rfl⟩ (And.intro True.intro ?_)))
    refine fcall _ h0 (fzs_sub (by decide +kernel) hW) hB7 (ct_copyRow (W := [427]) (len := 24) (fBz h0 hB7) (frC_of (by decide +kernel))) ?_
    rintro IhB8 _ hB8 fhB8 ⟨rfl, ehB8⟩
    refine And.intro ⟨rfl, by decide, by decide⟩ ?_
    refine And.intro ⟨rfl, by decide, by decide⟩ ?_
    refine Exists.intro xm_75 (And.intro mi_75 (And.intro ⟨rfl, rfl, rfl, rfl⟩ (And.intro True.intro ?_)))
    refine fcall _ h0 (fzs_sub (by decide +kernel) hW) hB8 (ct_copyRow (W := [428]) (len := 24) (fBz h0 hB8) (frC_of (by decide +kernel))) ?_
    rintro IhB9 _ hB9 fhB9 ⟨rfl, ehB9⟩
    refine And.intro ⟨rfl, by decide, by decide⟩ ?_
    refine And.intro ⟨rfl, by decide, by decide⟩ ?_
    refine Exists.intro xm_75 (And.intro mi_75 (And.intro ⟨rfl, rfl, rfl, rfl⟩ (And.intro True.intro ?_)))
    refine fcall _ h0 (fzs_sub (by decide +kernel) hW) hB9 (ct_copyRow (W := [429]) (len := 24) (fBz h0 hB9) (frC_of (by decide +kernel))) ?_
    rintro IhB10 _ hB10 fhB10 ⟨rfl, ehB10⟩
    refine And.intro ⟨rfl, by decide, by decide⟩ ?_
    refine And.intro ⟨rfl, by decide, by decide⟩ ?_
    refine Exists.intro xm_75 (And.intro mi_75 (And.intro ⟨rfl, rfl, rfl, rfl⟩ (And.intro True.intro ?_)))
    refine fcall _ h0 (fzs_sub (by decide +kernel) hW) hB10 (ct_copyRow (W := [430]) (len := 24) (fBz h0 hB10) (frC_of (by decide +kernel))) ?_
    rintro IhB11 _ hB11 fhB11 ⟨rfl, ehB11⟩
    refine And.intro ⟨rfl, by decide, by decide⟩ ?_
    refine And.intro ⟨rfl, by decide, by decide⟩ ?_
    refine Exists.intro xm_75 (And.intro mi_75 (And.intro ⟨rfl, rfl, rfl, rfl⟩ (And.intro True.intro ?_)))
    refine fcall _ h0 (fzs_sub (by decide +kernel) hW) hB11 (ct_copyRow (W := [431]) (len := 24) (fBz h0 hB11) (frC_of (by decide +kernel))) ?_
    rintro IhB12 _ hB12 fhB12 ⟨rfl, ehB12⟩
    refine And.intro ⟨rfl, by decide, by decide⟩ ?_
    refine And.intro ⟨rfl, by decide, by decide⟩ ?_
    refine Exists.intro xm_75 (And.intro mi_75 (And.intro ⟨rfl, rfl, rfl, rfl⟩ (And.intro True.intro ?_)))
    refine fcall _ h0 (fzs_sub (by decide +kernel) hW) hB12 (ct_copyRow (W := [432]) (len := 24) (fBz h0 hB12) (frC_of (by decide +kernel))) ?_
    rintro IhB13 _ hB13 fhB13 ⟨rfl, ehB13⟩
    refine And.intro ⟨rfl, by decide, by decide⟩ (fgetf fb_163_13 h0 hB13 ?_)
    intro z14 lz14 uz14 qz14
    have k15 := fBz_eq hB13 (a := 163) (j := 13) (by decide +kernel)
    refine And.intro ⟨rfl, by decide, by decide⟩ (And.intro rfl (And.intro (Or.inl rfl) (fputf fb_419_13 (by decide +kernel) hW (by first | exact ⟨lz14, uz14⟩ | omega) ?_)))
    intro IhB16 ehB16 hB16
    have t17 := fup_at ehB16 13 (by first | rfl | omega)
    exact ⟨rfl, by omega, (fun j hj => ((fup_other ehB16 420 j (Or.inl (by omega))).trans (((congrFun (congrFun ehB13 420) j).trans (fcpy_ne (by omega))).trans (((congrFun (congrFun ehB12 420) j).trans (fcpy_ne (by omega))).trans (((congrFun (congrFun ehB11 420) j).trans (fcpy_ne (by omega))).trans (((congrFun (congrFun ehB10 420) j).trans (fcpy_ne (by omega))).trans (((congrFun (congrFun ehB9 420) j).trans (fcpy_ne (by omega))).trans (((congrFun (congrFun ehB8 420) j).trans (fcpy_ne (by omega))).trans (((congrFun (congrFun ehB7 420) j).trans (fcpy_ne (by omega))).trans (((congrFun (congrFun ehB6 420) j).trans (fcpy_ne (by omega))).trans (((congrFun (congrFun ehB5 420) j).trans (fcpy_ne (by omega))).trans (((congrFun (congrFun ehB4 420) j).trans (fcpy_ne (by omega))).trans (((congrFun (congrFun ehB3 420) j).trans (fcpy_ne (by omega))).trans (((congrFun (congrFun ehB2 420) j).trans (fcpy_ne (by omega))).trans ((congrFun (congrFun ehB1 420) j).trans (fcpy_at hj))))))))))))))))⟩
set_option maxRecDepth 8000 in
theorem ct_Cells_becomeAs_a1cd9 {I : fH}  (h0 : fB bsJ I)  : fC ρ base n F xTc vwCl xTys D dA la gJ (fbz bsJ znJ (fKc wz_479cc) I) xm_224 [.inr (.inr (some 258)), .inr (.inr (some 2))] I (fun I' r => r = none ∧ (I' 258 5 = I 2 5 ∧ I' 258 10 = I 2 10)) := by
  have hW : fzs wz_479cc (fKc wz_479cc) := fKc_ok _
  refine f_meth (rb := rbJ) (J := []) 1 400 xG xin_224 x6_224 okJ (fB_self h0) ?_ ?_
  · exact fun q h => absurd h List.not_mem_nil
  · have hB0 := fB_self (zn := znJ) (K := fKc wz_479cc) h0
    refine And.intro ⟨rfl, by decide, by decide⟩ ?_
    refine And.intro ⟨rfl, by decide, by decide⟩ ?_
    refine Exists.intro xm_75 (And.intro mi_75 (And.intro ⟨rfl, rfl, rfl, rfl⟩ (And.intro True.intro ?_)))
    refine fcall _ h0 (fzs_sub (by decide +kernel) hW) hB0 (ct_copyRow (W := [259]) (len := 20) (fBz h0 hB0) (frC_of (by decide +kernel))) ?_
    rintro IhB1 _ hB1 fhB1 ⟨rfl, ehB1⟩
    refine And.intro ⟨rfl, by decide, by decide⟩ ?_
    refine And.intro ⟨rfl, by decide, by decide⟩ ?_
    refine Exists.intro xm_75 (And.intro mi_75 (And.intro ⟨rfl, rfl, rfl, rfl⟩ (And.intro True.intro ?_)))
    refine fcall _ h0 (fzs_sub (by decide +kernel) hW) hB1 (ct_copyRow (W := [260]) (len := 20) (fBz h0 hB1) (frC_of (by decide +kernel))) ?_
    rintro IhB2 _ hB2 fhB2 ⟨rfl, ehB2⟩
    refine And.intro ⟨rfl, by decide, by decide⟩ ?_
    refine And.intro ⟨rfl, by decide, by decide⟩ ?_
    refine Exists.intro xm_225 (And.intro mi_225 (And.intro ⟨rfl, rfl, rfl, rfl⟩ (And.intro True.intro ?_)))
    refine fcall _ h0 (fzs_sub (by decide +kernel) hW) hB2 (ct_copyRows (W := [261]) (m := 20) (len := 5) (ro := 6) (rd := 262) (fBz h0 hB2) (frCs_of ⟨rfl, rfl, rfl, rfl, by decide⟩ (by decide +kernel))) ?_
    rintro IhB3 _ hB3 fhB3 ⟨rfl, ehB3⟩
    refine And.intro ⟨rfl, by decide, by decide⟩ ?_
    refine And.intro ⟨rfl, by decide, by decide⟩ ?_
    refine Exists.intro xm_225 (And.intro mi_225 (And.intro ⟨rfl, rfl, rfl, rfl⟩ (And.intro True.intro ?_)))
    refine fcall _ h0 (fzs_sub (by decide +kernel) hW) hB3 (ct_copyRows (W := [282]) (m := 20) (len := 5) (ro := 27) (rd := 283) (fBz h0 hB3) (frCs_of ⟨rfl, rfl, rfl, rfl, by decide⟩ (by decide +kernel))) ?_
    rintro IhB4 _ hB4 fhB4 ⟨rfl, ehB4⟩
    refine And.intro ⟨rfl, by decide, by decide⟩ ?_
    refine And.intro ⟨rfl, by decide, by decide⟩ ?_
    refine Exists.intro xm_225 (And.intro mi_225 (And.intro ⟨rfl, rfl, rfl, rfl⟩ (And.intro True.intro ?_)))
    refine fcall _ h0 (fzs_sub (by decide +kernel) hW) hB4 (ct_copyRows (W := [303]) (m := 20) (len := 6) (ro := 48) (rd := 304) (fBz h0 hB4) (frCs_of ⟨rfl, rfl, rfl, rfl, by decide⟩ (by decide +kernel))) ?_
    rintro IhB5 _ hB5 fhB5 ⟨rfl, ehB5⟩
    refine And.intro ⟨rfl, by decide, by decide⟩ (fgetf fb_2_5 h0 hB5 ?_)
    intro z6 lz6 uz6 qz6
    have k7 := fBz_eq hB5 (a := 2) (j := 5) (by decide +kernel)
    refine And.intro ⟨rfl, by decide, by decide⟩ (And.intro rfl (And.intro (Or.inl rfl) (fputf fb_258_5 (by decide +kernel) hW (by first | exact ⟨lz6, uz6⟩ | omega) ?_)))
    intro IhB8 ehB8 hB8
    have t9 := fup_at ehB8 5 (by first | rfl | omega)
    refine And.intro ⟨rfl, by decide, by decide⟩ ?_
    refine And.intro ⟨rfl, by decide, by decide⟩ ?_
    refine Exists.intro xm_75 (And.intro mi_75 (And.intro ⟨rfl, rfl, rfl, rfl⟩ (And.intro True.intro ?_)))
    refine fcall _ h0 (fzs_sub (by decide +kernel) hW) hB8 (ct_copyRow (W := [324]) (len := 24) (fBz h0 hB8) (frC_of (by decide +kernel))) ?_
    rintro IhB10 _ hB10 fhB10 ⟨rfl, ehB10⟩
    have t11 := fhB10 258 5 (by decide +kernel)
    refine And.intro ⟨rfl, by decide, by decide⟩ ?_
    refine And.intro ⟨rfl, by decide, by decide⟩ ?_
    refine Exists.intro xm_75 (And.intro mi_75 (And.intro ⟨rfl, rfl, rfl, rfl⟩ (And.intro True.intro ?_)))
    refine fcall _ h0 (fzs_sub (by decide +kernel) hW) hB10 (ct_copyRow (W := [325]) (len := 24) (fBz h0 hB10) (frC_of (by decide +kernel))) ?_
    rintro IhB12 _ hB12 fhB12 ⟨rfl, ehB12⟩
    have t13 := fhB12 258 5 (by decide +kernel)
    refine And.intro ⟨rfl, by decide, by decide⟩ ?_
    refine And.intro ⟨rfl, by decide, by decide⟩ ?_
    refine Exists.intro xm_75 (And.intro mi_75 (And.intro ⟨rfl, rfl, rfl, rfl⟩ (And.intro True.intro ?_)))
    refine fcall _ h0 (fzs_sub (by decide +kernel) hW) hB12 (ct_copyRow (W := [326]) (len := 24) (fBz h0 hB12) (frC_of (by decide +kernel))) ?_
    rintro IhB14 _ hB14 fhB14 ⟨rfl, ehB14⟩
    have t15 := fhB14 258 5 (by decide +kernel)
    refine And.intro ⟨rfl, by decide, by decide⟩ ?_
    refine And.intro ⟨rfl, by decide, by decide⟩ ?_
    refine Exists.intro xm_75 (And.intro mi_75 (And.intro ⟨rfl, rfl, rfl, rfl⟩ (And.intro True.intro ?_)))
    refine fcall _ h0 (fzs_sub (by decide +kernel) hW) hB14 (ct_copyRow (W := [327]) (len := 24) (fBz h0 hB14) (frC_of (by decide +kernel))) ?_
    rintro IhB16 _ hB16 fhB16 ⟨rfl, ehB16⟩
    have t17 := fhB16 258 5 (by decide +kernel)
    refine And.intro ⟨rfl, by decide, by decide⟩ (fgetf fb_2_10 h0 hB16 ?_)
    intro z18 lz18 uz18 qz18
    have k19 := fBz_eq hB16 (a := 2) (j := 10) (by decide +kernel)
    refine And.intro ⟨rfl, by decide, by decide⟩ (And.intro rfl (And.intro (Or.inl rfl) (fputf fb_258_10 (by decide +kernel) hW (by first | exact ⟨lz18, uz18⟩ | omega) ?_)))
    intro IhB20 ehB20 hB20
    have t21 : IhB20 258 5 = IhB16 258 5 := (congrFun (congrFun ehB20 258) 5).trans (fup_ne (by first | decide | omega))
    have t22 := fup_at ehB20 10 (by first | rfl | omega)
    refine And.intro ⟨rfl, by decide, by decide⟩ ?_
    refine And.intro ⟨rfl, by decide, by decide⟩ ?_
    refine Exists.intro xm_225 (And.intro mi_225 (And.intro ⟨rfl, rfl, rfl, rfl⟩ (And.intro True.intro ?_)))
    refine fcall _ h0 (fzs_sub (by decide +kernel) hW) hB20 (ct_copyRows (W := [328]) (m := 90) (len := 8) (ro := 73) (rd := 329) (fBz h0 hB20) (frCs_of ⟨rfl, rfl, rfl, rfl, by decide⟩ (by decide +kernel))) ?_
    rintro IhB23 _ hB23 fhB23 ⟨rfl, ehB23⟩
    have t24 := fhB23 258 5 (by decide +kernel)
    have t25 := fhB23 258 10 (by decide +kernel)
    refine And.intro ⟨rfl, by decide, by decide⟩ (fgetf fb_2_12 h0 hB23 ?_)
    intro z26 lz26 uz26 qz26
    refine And.intro ⟨rfl, by decide, by decide⟩ (And.intro rfl (And.intro (Or.inl rfl) (fputf fb_258_12 (by decide +kernel) hW (by first | exact ⟨lz26, uz26⟩ | omega) ?_)))
    intro IhB27 ehB27 hB27
    have t28 : IhB27 258 5 = IhB23 258 5 := (congrFun (congrFun ehB27 258) 5).trans (fup_ne (by first | decide | omega))
    have t29 : IhB27 258 10 = IhB23 258 10 := (congrFun (congrFun ehB27 258) 10).trans (fup_ne (by first | decide | omega))
    have t30 := fup_at ehB27 12 (by first | rfl | omega)
    exact ⟨rfl, by omega⟩
set_option maxRecDepth 8000 in
theorem ct_City_becomeAs_6e1fc {I : fH}  (h0 : fB bsJ I)  : fC ρ base n F xTc vwCl xTys D dA la gJ (fbz bsJ znJ (fKc wz_7d688) I) xm_223 [.inr (.inr (some 257)), .inr (.inr (some 1))] I (fun I' r => r = none ∧ ((I' 258 5 = I 2 5 ∧ I' 258 10 = I 2 10 ∧ I' 257 9 = I 1 9) ∧ I' 419 13 = I 163 13) ∧ (∀ j : Nat, j < 24 → I' 420 j = I 164 j) ∧ (∀ i j : Nat, i < 3 → j < 61 → I' (440 + i) j = I (184 + i) j)) := by
  have hW : fzs wz_7d688 (fKc wz_7d688) := fKc_ok _
  refine f_meth (rb := rbJ) (J := []) 1 400 xG xin_223 x6_223 okJ (fB_self h0) ?_ ?_
  · exact fun q h => absurd h List.not_mem_nil
  · have hB0 := fB_self (zn := znJ) (K := fKc wz_7d688) h0
    refine And.intro ⟨rfl, by decide, by decide⟩ ?_
    refine And.intro ⟨rfl, by decide, by decide⟩ ?_
    refine Exists.intro xm_224 (And.intro mi_224 (And.intro ⟨rfl, rfl, rfl, rfl⟩ (And.intro rfl ?_)))
    refine fcall _ h0 (fzs_sub (by decide +kernel) hW) hB0 (ct_Cells_becomeAs_a1cd9 (fBz h0 hB0)) ?_
    rintro IhB2 _ hB2 fhB2 ⟨rfl, hz1⟩
    refine And.intro ⟨rfl, by decide, by decide⟩ ?_
    refine And.intro ⟨rfl, by decide, by decide⟩ ?_
    refine Exists.intro xm_226 (And.intro mi_226 (And.intro ⟨rfl, rfl, rfl, rfl⟩ (And.intro rfl ?_)))
    refine fcall _ h0 (fzs_sub (by decide +kernel) hW) hB2 (ct_Works_becomeAs_81b4d (fBz h0 hB2)) ?_
    rintro IhB4 _ hB4 fhB4 ⟨rfl, hz3, g0z3⟩
    have t5 := fhB4 258 5 (by decide +kernel)
    have t6 := fhB4 258 10 (by decide +kernel)
    have w19 := fBz_eq hB2 (a := 163) (j := 13) (by decide +kernel)
    refine And.intro ⟨rfl, by decide, by decide⟩ ?_
    refine And.intro ⟨rfl, by decide, by decide⟩ ?_
    refine Exists.intro xm_227 (And.intro mi_227 (And.intro ⟨rfl, rfl, rfl, rfl⟩ (And.intro rfl ?_)))
    refine fcall _ h0 (fzs_sub (by decide +kernel) hW) hB4 (ct_People_becomeAs_f9dc9 (fBz h0 hB4)) ?_
    rintro IhB8 _ hB8 fhB8 rfl
    have t9 := fhB8 258 5 (by decide +kernel)
    have t10 := fhB8 258 10 (by decide +kernel)
    have t11 := fhB8 419 13 (by decide +kernel)
    refine And.intro ⟨rfl, by decide, by decide⟩ ?_
    refine And.intro ⟨rfl, by decide, by decide⟩ ?_
    refine Exists.intro xm_75 (And.intro mi_75 (And.intro ⟨rfl, rfl, rfl, rfl⟩ (And.intro True.intro ?_)))
    refine fcall _ h0 (fzs_sub (by decide +kernel) hW) hB8 (ct_copyRow (W := [438]) (len := 6) (fBz h0 hB8) (frC_of (by decide +kernel))) ?_
    rintro IhB12 _ hB12 fhB12 ⟨rfl, ehB12⟩
    have t13 := fhB12 258 5 (by decide +kernel)
    have t14 := fhB12 258 10 (by decide +kernel)
    have t15 := fhB12 419 13 (by decide +kernel)
    refine And.intro ⟨rfl, by decide, by decide⟩ ?_
    refine And.intro ⟨rfl, by decide, by decide⟩ ?_
    refine Exists.intro xm_225 (And.intro mi_225 (And.intro ⟨rfl, rfl, rfl, rfl⟩ (And.intro True.intro ?_)))
    refine fcall _ h0 (fzs_sub (by decide +kernel) hW) hB12 (ct_copyRows (W := [439]) (m := 3) (len := 61) (ro := 184) (rd := 440) (fBz h0 hB12) (frCs_of ⟨rfl, rfl, rfl, rfl, by decide⟩ (by decide +kernel))) ?_
    rintro IhB16 _ hB16 fhB16 ⟨rfl, ehB16⟩
    have t17 := fhB16 258 5 (by decide +kernel)
    have t18 := fhB16 258 10 (by decide +kernel)
    have t19 := fhB16 419 13 (by decide +kernel)
    refine And.intro ⟨rfl, by decide, by decide⟩ (fgetf fb_1_5 h0 hB16 ?_)
    intro z20 lz20 uz20 qz20
    refine And.intro ⟨rfl, by decide, by decide⟩ (And.intro rfl (And.intro (Or.inl rfl) (fputf fb_257_5 (by decide +kernel) hW (by first | exact ⟨lz20, uz20⟩ | omega) ?_)))
    intro IhB21 ehB21 hB21
    have t22 := fup_at ehB21 5 (by first | rfl | omega)
    have t23 : IhB21 258 5 = IhB16 258 5 := (congrFun (congrFun ehB21 258) 5).trans (fup_ne (by first | decide | omega))
    have t24 : IhB21 258 10 = IhB16 258 10 := (congrFun (congrFun ehB21 258) 10).trans (fup_ne (by first | decide | omega))
    have t25 : IhB21 419 13 = IhB16 419 13 := (congrFun (congrFun ehB21 419) 13).trans (fup_ne (by first | decide | omega))
    refine And.intro ⟨rfl, by decide, by decide⟩ (fgetf fb_1_6 h0 hB21 ?_)
    intro z26 lz26 uz26 qz26
    refine And.intro ⟨rfl, by decide, by decide⟩ (And.intro rfl (And.intro (Or.inl rfl) (fputf fb_257_6 (by decide +kernel) hW (by first | exact ⟨lz26, uz26⟩ | omega) ?_)))
    intro IhB27 ehB27 hB27
    have t28 : IhB27 257 5 = IhB21 257 5 := (congrFun (congrFun ehB27 257) 5).trans (fup_ne (by first | decide | omega))
    have t29 := fup_at ehB27 6 (by first | rfl | omega)
    have t30 : IhB27 258 5 = IhB21 258 5 := (congrFun (congrFun ehB27 258) 5).trans (fup_ne (by first | decide | omega))
    have t31 : IhB27 258 10 = IhB21 258 10 := (congrFun (congrFun ehB27 258) 10).trans (fup_ne (by first | decide | omega))
    have t32 : IhB27 419 13 = IhB21 419 13 := (congrFun (congrFun ehB27 419) 13).trans (fup_ne (by first | decide | omega))
    refine And.intro ⟨rfl, by decide, by decide⟩ (fgetf fb_1_7 h0 hB27 ?_)
    intro z33 lz33 uz33 qz33
    refine And.intro ⟨rfl, by decide, by decide⟩ (And.intro rfl (And.intro (Or.inl rfl) (fputf fb_257_7 (by decide +kernel) hW (by first | exact ⟨lz33, uz33⟩ | omega) ?_)))
    intro IhB34 ehB34 hB34
    have t35 : IhB34 257 5 = IhB27 257 5 := (congrFun (congrFun ehB34 257) 5).trans (fup_ne (by first | decide | omega))
    have t36 : IhB34 257 6 = IhB27 257 6 := (congrFun (congrFun ehB34 257) 6).trans (fup_ne (by first | decide | omega))
    have t37 := fup_at ehB34 7 (by first | rfl | omega)
    have t38 : IhB34 258 5 = IhB27 258 5 := (congrFun (congrFun ehB34 258) 5).trans (fup_ne (by first | decide | omega))
    have t39 : IhB34 258 10 = IhB27 258 10 := (congrFun (congrFun ehB34 258) 10).trans (fup_ne (by first | decide | omega))
    have t40 : IhB34 419 13 = IhB27 419 13 := (congrFun (congrFun ehB34 419) 13).trans (fup_ne (by first | decide | omega))
    refine And.intro ⟨rfl, by decide, by decide⟩ (fgetf fb_1_8 h0 hB34 ?_)
    intro z41 lz41 uz41 qz41
    refine And.intro ⟨rfl, by decide, by decide⟩ (And.intro rfl (And.intro (Or.inl rfl) (fputf fb_257_8 (by decide +kernel) hW (by first | exact ⟨lz41, uz41⟩ | omega) ?_)))
    intro IhB42 ehB42 hB42
    have t43 : IhB42 257 5 = IhB34 257 5 := (congrFun (congrFun ehB42 257) 5).trans (fup_ne (by first | decide | omega))
    have t44 : IhB42 257 6 = IhB34 257 6 := (congrFun (congrFun ehB42 257) 6).trans (fup_ne (by first | decide | omega))
    have t45 : IhB42 257 7 = IhB34 257 7 := (congrFun (congrFun ehB42 257) 7).trans (fup_ne (by first | decide | omega))
    have t46 := fup_at ehB42 8 (by first | rfl | omega)
    have t47 : IhB42 258 5 = IhB34 258 5 := (congrFun (congrFun ehB42 258) 5).trans (fup_ne (by first | decide | omega))
    have t48 : IhB42 258 10 = IhB34 258 10 := (congrFun (congrFun ehB42 258) 10).trans (fup_ne (by first | decide | omega))
    have t49 : IhB42 419 13 = IhB34 419 13 := (congrFun (congrFun ehB42 419) 13).trans (fup_ne (by first | decide | omega))
    refine And.intro ⟨rfl, by decide, by decide⟩ (fgetf fb_1_9 h0 hB42 ?_)
    intro z50 lz50 uz50 qz50
    have k51 := fBz_eq hB42 (a := 1) (j := 9) (by decide +kernel)
    refine And.intro ⟨rfl, by decide, by decide⟩ (And.intro rfl (And.intro (Or.inl rfl) (fputf fb_257_9 (by decide +kernel) hW (by first | exact ⟨lz50, uz50⟩ | omega) ?_)))
    intro IhB52 ehB52 hB52
    have t53 : IhB52 257 5 = IhB42 257 5 := (congrFun (congrFun ehB52 257) 5).trans (fup_ne (by first | decide | omega))
    have t54 : IhB52 257 6 = IhB42 257 6 := (congrFun (congrFun ehB52 257) 6).trans (fup_ne (by first | decide | omega))
    have t55 : IhB52 257 7 = IhB42 257 7 := (congrFun (congrFun ehB52 257) 7).trans (fup_ne (by first | decide | omega))
    have t56 : IhB52 257 8 = IhB42 257 8 := (congrFun (congrFun ehB52 257) 8).trans (fup_ne (by first | decide | omega))
    have t57 := fup_at ehB52 9 (by first | rfl | omega)
    have t58 : IhB52 258 5 = IhB42 258 5 := (congrFun (congrFun ehB52 258) 5).trans (fup_ne (by first | decide | omega))
    have t59 : IhB52 258 10 = IhB42 258 10 := (congrFun (congrFun ehB52 258) 10).trans (fup_ne (by first | decide | omega))
    have t60 : IhB52 419 13 = IhB42 419 13 := (congrFun (congrFun ehB52 419) 13).trans (fup_ne (by first | decide | omega))
    exact ⟨rfl, by omega, (fun j hj => ((fup_other ehB52 420 j (Or.inl (by omega))).trans ((fup_other ehB42 420 j (Or.inl (by omega))).trans ((fup_other ehB34 420 j (Or.inl (by omega))).trans ((fup_other ehB27 420 j (Or.inl (by omega))).trans ((fup_other ehB21 420 j (Or.inl (by omega))).trans ((fFr_at fhB16 420 (by decide +kernel) rfl j).trans (((congrFun (congrFun ehB12 420) j).trans (fcpy_ne (by omega))).trans ((fFr_at fhB8 420 (by decide +kernel) rfl j).trans ((g0z3 j hj).trans (fFr_at (fFr_of hB2) 164 (by decide +kernel) rfl j))))))))))), (fun i j hi hj => ((fup_other ehB52 (440 + i) j (Or.inl (by omega))).trans ((fup_other ehB42 (440 + i) j (Or.inl (by omega))).trans ((fup_other ehB34 (440 + i) j (Or.inl (by omega))).trans ((fup_other ehB27 (440 + i) j (Or.inl (by omega))).trans ((fup_other ehB21 (440 + i) j (Or.inl (by omega))).trans ((ehB16 i hi j hj).trans (fFr_rows (fFr_of hB12) (r := 184) (m := 3) (len := 61) (by decide +kernel) i j hi hj))))))))⟩
set_option maxRecDepth 8000 in
theorem ct_Charter_becomeAs_02d9c {I : fH}  (h0 : fB bsJ I)  : fC ρ base n F xTc vwCl xTys D dA la gJ (fbz bsJ znJ (fKc wz_e7604) I) xm_230 [.inr (.inr (some 443)), .inr (.inr (some 187))] I (fun _ r => r = none) := by
  have hW : fzs wz_e7604 (fKc wz_e7604) := fKc_ok _
  refine f_meth (rb := rbJ) (J := []) 1 400 xG xin_230 x6_230 okJ (fB_self h0) ?_ ?_
  · exact fun q h => absurd h List.not_mem_nil
  · have hB0 := fB_self (zn := znJ) (K := fKc wz_e7604) h0
    refine And.intro ⟨rfl, by decide, by decide⟩ ?_
    refine And.intro ⟨rfl, by decide, by decide⟩ ?_
    refine Exists.intro xm_75 (And.intro mi_75 (And.intro ⟨rfl, rfl, rfl, rfl⟩ (And.intro True.intro ?_)))
    refine fcall _ h0 (fzs_sub (by decide +kernel) hW) hB0 (ct_copyRow (W := [444]) (len := 12) (fBz h0 hB0) (frC_of (by decide +kernel))) ?_
    rintro IhB1 _ hB1 fhB1 ⟨rfl, ehB1⟩
    refine And.intro ⟨rfl, by decide, by decide⟩ ?_
    refine And.intro ⟨rfl, by decide, by decide⟩ ?_
    refine Exists.intro xm_75 (And.intro mi_75 (And.intro ⟨rfl, rfl, rfl, rfl⟩ (And.intro True.intro ?_)))
    refine fcall _ h0 (fzs_sub (by decide +kernel) hW) hB1 (ct_copyRow (W := [445]) (len := 12) (fBz h0 hB1) (frC_of (by decide +kernel))) ?_
    rintro IhB2 _ hB2 fhB2 ⟨rfl, ehB2⟩
    refine And.intro ⟨rfl, by decide, by decide⟩ ?_
    refine And.intro ⟨rfl, by decide, by decide⟩ ?_
    refine Exists.intro xm_75 (And.intro mi_75 (And.intro ⟨rfl, rfl, rfl, rfl⟩ (And.intro True.intro ?_)))
    refine fcall _ h0 (fzs_sub (by decide +kernel) hW) hB2 (ct_copyRow (W := [446]) (len := 12) (fBz h0 hB2) (frC_of (by decide +kernel))) ?_
    rintro IhB3 _ hB3 fhB3 ⟨rfl, ehB3⟩
    refine And.intro ⟨rfl, by decide, by decide⟩ ?_
    refine And.intro ⟨rfl, by decide, by decide⟩ ?_
    refine Exists.intro xm_75 (And.intro mi_75 (And.intro ⟨rfl, rfl, rfl, rfl⟩ (And.intro True.intro ?_)))
    refine fcall _ h0 (fzs_sub (by decide +kernel) hW) hB3 (ct_copyRow (W := [447]) (len := 12) (fBz h0 hB3) (frC_of (by decide +kernel))) ?_
    rintro IhB4 _ hB4 fhB4 ⟨rfl, ehB4⟩
    refine And.intro ⟨rfl, by decide, by decide⟩ ?_
    refine And.intro ⟨rfl, by decide, by decide⟩ ?_
    refine Exists.intro xm_75 (And.intro mi_75 (And.intro ⟨rfl, rfl, rfl, rfl⟩ (And.intro True.intro ?_)))
    refine fcall _ h0 (fzs_sub (by decide +kernel) hW) hB4 (ct_copyRow (W := [448]) (len := 12) (fBz h0 hB4) (frC_of (by decide +kernel))) ?_
    rintro IhB5 _ hB5 fhB5 ⟨rfl, ehB5⟩
    refine And.intro ⟨rfl, by decide, by decide⟩ ?_
    refine And.intro ⟨rfl, by decide, by decide⟩ ?_
    refine Exists.intro xm_225 (And.intro mi_225 (And.intro ⟨rfl, rfl, rfl, rfl⟩ (And.intro True.intro ?_)))
    refine fcall _ h0 (fzs_sub (by decide +kernel) hW) hB5 (ct_copyRows (W := [449]) (m := 12) (len := 96) (ro := 194) (rd := 450) (fBz h0 hB5) (frCs_of ⟨rfl, rfl, rfl, rfl, by decide⟩ (by decide +kernel))) ?_
    rintro IhB6 _ hB6 fhB6 ⟨rfl, ehB6⟩
    refine And.intro ⟨rfl, by decide, by decide⟩ (fgetf fb_187_6 h0 hB6 ?_)
    intro z7 lz7 uz7 qz7
    refine And.intro ⟨rfl, by decide, by decide⟩ (And.intro rfl (And.intro (Or.inl rfl) (fputf fb_443_6 (by decide +kernel) hW (by first | exact ⟨lz7, uz7⟩ | omega) ?_)))
    intro IhB8 ehB8 hB8
    have t9 : IhB8 187 6 = IhB6 187 6 := (congrFun (congrFun ehB8 187) 6).trans (fup_ne (by first | decide | omega))
    have t10 := fup_at ehB8 6 (by first | rfl | omega)
    refine And.intro ⟨rfl, by decide, by decide⟩ (fgetf fb_187_7 h0 hB8 ?_)
    intro z11 lz11 uz11 qz11
    refine And.intro ⟨rfl, by decide, by decide⟩ (And.intro rfl (And.intro (Or.inl rfl) (fputf fb_443_7 (by decide +kernel) hW (by first | exact ⟨lz11, uz11⟩ | omega) ?_)))
    intro IhB12 ehB12 hB12
    have t13 : IhB12 187 6 = IhB8 187 6 := (congrFun (congrFun ehB12 187) 6).trans (fup_ne (by first | decide | omega))
    have t14 : IhB12 187 7 = IhB8 187 7 := (congrFun (congrFun ehB12 187) 7).trans (fup_ne (by first | decide | omega))
    have t15 : IhB12 443 6 = IhB8 443 6 := (congrFun (congrFun ehB12 443) 6).trans (fup_ne (by first | decide | omega))
    have t16 := fup_at ehB12 7 (by first | rfl | omega)
    refine And.intro ⟨rfl, by decide, by decide⟩ (fgetf fb_187_8 h0 hB12 ?_)
    intro z17 lz17 uz17 qz17
    refine And.intro ⟨rfl, by decide, by decide⟩ (And.intro rfl (And.intro (Or.inr ⟨rfl, by omega⟩) (fputf fb_443_8 (by decide +kernel) hW (by first | exact ⟨lz17, uz17⟩ | omega) ?_)))
    intro IhB18 ehB18 hB18
    have t19 : IhB18 187 6 = IhB12 187 6 := (congrFun (congrFun ehB18 187) 6).trans (fup_ne (by first | decide | omega))
    have t20 : IhB18 187 7 = IhB12 187 7 := (congrFun (congrFun ehB18 187) 7).trans (fup_ne (by first | decide | omega))
    have t21 : IhB18 187 8 = IhB12 187 8 := (congrFun (congrFun ehB18 187) 8).trans (fup_ne (by first | decide | omega))
    have t22 : IhB18 443 6 = IhB12 443 6 := (congrFun (congrFun ehB18 443) 6).trans (fup_ne (by first | decide | omega))
    have t23 : IhB18 443 7 = IhB12 443 7 := (congrFun (congrFun ehB18 443) 7).trans (fup_ne (by first | decide | omega))
    have t24 := fup_at ehB18 8 (by first | rfl | omega)
    refine And.intro ⟨rfl, by decide, by decide⟩ ?_
    refine And.intro ⟨rfl, by decide, by decide⟩ ?_
    refine Exists.intro xm_75 (And.intro mi_75 (And.intro ⟨rfl, rfl, rfl, rfl⟩ (And.intro True.intro ?_)))
    refine fcall _ h0 (fzs_sub (by decide +kernel) hW) hB18 (ct_copyRow (W := [462]) (len := 24) (fBz h0 hB18) (frC_of (by decide +kernel))) ?_
    rintro IhB25 _ hB25 fhB25 ⟨rfl, ehB25⟩
    have t26 := fhB25 187 6 (by decide +kernel)
    have t27 := fhB25 187 7 (by decide +kernel)
    have t28 := fhB25 187 8 (by decide +kernel)
    have t29 := fhB25 443 6 (by decide +kernel)
    have t30 := fhB25 443 7 (by decide +kernel)
    have t31 := fhB25 443 8 (by decide +kernel)
    exact rfl
set_option maxRecDepth 8000 in
theorem ct_X_keep_80613 {I : fH}  (h0 : fB bsJ I)  : fC ρ base n F xTc vwCl xTys D dA la gJ (fbz bsJ znJ (fKc wz_cdb06) I) xm_229 [.inr (.inr (some 0))] I (fun I' r => ∃ z, r = some (.inl z) ∧ (((-2147483648) ≤ z ∧ z ≤ 2147483647) ∧ (I' 257 9 = I 1 9 ∧ I' 258 5 = I 2 5 ∧ I' 258 10 = I 2 10 ∧ I' 467 8 = I 211 8 ∧ I' 467 11 = I 211 11 ∧ I' 467 15 = I 211 15 ∧ I' 0 6 = 1 ∧ z = I 1 9 ∧ I' 419 13 = I 163 13)) ∧ (∀ j : Nat, j < 24 → I' 420 j = I 164 j) ∧ (∀ i j : Nat, i < 3 → j < 61 → I' (440 + i) j = I (184 + i) j) ∧ (∀ i j : Nat, i < 8 → j < 12 → I' (469 + i) j = I (213 + i) j) ∧ (∀ j : Nat, j < 8 → I' 477 j = I 221 j) ∧ (∀ j : Nat, j < 48 → I' 478 j = I 222 j) ∧ (∀ j : Nat, j < 4 → I' 479 j = I 223 j) ∧ (∀ i j : Nat, i < 24 → j < 4 → I' (481 + i) j = I (225 + i) j) ∧ (∀ j : Nat, j < 6 → I' 505 j = I 249 j) ∧ (∀ j : Nat, j < 6 → I' 506 j = I 250 j) ∧ (∀ j : Nat, j < 6 → I' 507 j = I 251 j) ∧ (∀ j : Nat, j < 10 → I' 508 j = I 252 j) ∧ (∀ j : Nat, j < 10 → I' 509 j = I 253 j) ∧ (∀ j : Nat, j < 7 → I' 510 j = I 254 j) ∧ (∀ j : Nat, j < 7 → I' 511 j = I 255 j) ∧ (∀ j : Nat, j < 7 → I' 512 j = I 256 j)) := by
  have hW : fzs wz_cdb06 (fKc wz_cdb06) := fKc_ok _
  refine f_meth (rb := rbJ) (J := []) 1 400 xG xin_229 x6_229 okJ (fB_self h0) ?_ ?_
  · exact fun q h => absurd h List.not_mem_nil
  · have hB0 := fB_self (zn := znJ) (K := fKc wz_cdb06) h0
    refine And.intro ⟨rfl, by decide, by decide⟩ ?_
    refine And.intro ⟨rfl, by decide, by decide⟩ ?_
    refine Exists.intro xm_223 (And.intro mi_223 (And.intro ⟨rfl, rfl, rfl, rfl⟩ (And.intro rfl ?_)))
    refine fcall _ h0 (fzs_sub (by decide +kernel) hW) hB0 (ct_City_becomeAs_6e1fc (fBz h0 hB0)) ?_
    rintro IhB2 _ hB2 fhB2 ⟨rfl, hz1, g0z1, g1z1⟩
    have t3 := fhB2 0 6 (by decide +kernel)
    have t4 := fhB2 467 8 (by decide +kernel)
    have t5 := fhB2 467 11 (by decide +kernel)
    have t6 := fhB2 467 15 (by decide +kernel)
    have k7 := fBz_eq hB2 (a := 1) (j := 9) (by decide +kernel)
    have k8 := fBz_eq hB2 (a := 2) (j := 5) (by decide +kernel)
    have k9 := fBz_eq hB2 (a := 2) (j := 10) (by decide +kernel)
    have k10 := fBz_eq hB2 (a := 211) (j := 8) (by decide +kernel)
    have k11 := fBz_eq hB2 (a := 211) (j := 11) (by decide +kernel)
    have k12 := fBz_eq hB2 (a := 211) (j := 15) (by decide +kernel)
    have k13 := fBz_eq hB2 (a := 163) (j := 13) (by decide +kernel)
    refine And.intro ⟨rfl, by decide, by decide⟩ ?_
    refine And.intro ⟨rfl, by decide, by decide⟩ ?_
    refine Exists.intro xm_230 (And.intro mi_230 (And.intro ⟨rfl, rfl, rfl, rfl⟩ (And.intro rfl ?_)))
    refine fcall _ h0 (fzs_sub (by decide +kernel) hW) hB2 (ct_Charter_becomeAs_02d9c (fBz h0 hB2)) ?_
    rintro IhB15 _ hB15 fhB15 rfl
    have t16 := fhB15 0 6 (by decide +kernel)
    have t17 := fhB15 257 9 (by decide +kernel)
    have t18 := fhB15 258 5 (by decide +kernel)
    have t19 := fhB15 258 10 (by decide +kernel)
    have t20 := fhB15 419 13 (by decide +kernel)
    have t21 := fhB15 467 8 (by decide +kernel)
    have t22 := fhB15 467 11 (by decide +kernel)
    have t23 := fhB15 467 15 (by decide +kernel)
    have k24 := fBz_eq hB15 (a := 1) (j := 9) (by decide +kernel)
    have k25 := fBz_eq hB15 (a := 2) (j := 5) (by decide +kernel)
    have k26 := fBz_eq hB15 (a := 2) (j := 10) (by decide +kernel)
    have k27 := fBz_eq hB15 (a := 211) (j := 8) (by decide +kernel)
    have k28 := fBz_eq hB15 (a := 211) (j := 11) (by decide +kernel)
    have k29 := fBz_eq hB15 (a := 211) (j := 15) (by decide +kernel)
    have k30 := fBz_eq hB15 (a := 163) (j := 13) (by decide +kernel)
    refine And.intro ⟨rfl, by decide, by decide⟩ ?_
    refine And.intro ⟨rfl, by decide, by decide⟩ ?_
    refine Exists.intro xm_231 (And.intro mi_231 (And.intro ⟨rfl, rfl, rfl, rfl⟩ (And.intro rfl ?_)))
    refine fcall _ h0 (fzs_sub (by decide +kernel) hW) hB15 (ct_Desk_becomeAs_f61cf (fBz h0 hB15)) ?_
    rintro IhB32 _ hB32 fhB32 ⟨rfl, hz31, g0z31, g1z31, g2z31, g3z31, g4z31, g5z31, g6z31, g7z31, g8z31, g9z31, g10z31, g11z31, g12z31⟩
    have t33 := fhB32 0 6 (by decide +kernel)
    have t34 := fhB32 257 9 (by decide +kernel)
    have t35 := fhB32 258 5 (by decide +kernel)
    have t36 := fhB32 258 10 (by decide +kernel)
    have t37 := fhB32 419 13 (by decide +kernel)
    have k38 := fBz_eq hB32 (a := 1) (j := 9) (by decide +kernel)
    have k39 := fBz_eq hB32 (a := 2) (j := 5) (by decide +kernel)
    have k40 := fBz_eq hB32 (a := 2) (j := 10) (by decide +kernel)
    have k41 := fBz_eq hB32 (a := 211) (j := 8) (by decide +kernel)
    have k42 := fBz_eq hB32 (a := 211) (j := 11) (by decide +kernel)
    have k43 := fBz_eq hB32 (a := 211) (j := 15) (by decide +kernel)
    have k44 := fBz_eq hB32 (a := 163) (j := 13) (by decide +kernel)
    refine And.intro ⟨rfl, by decide, by decide⟩ (And.intro rfl (And.intro (Or.inr ⟨rfl, by decide, by decide⟩) (fputf fb_0_6 (by decide +kernel) hW (by first | exact ⟨by decide, by decide⟩ | omega) ?_)))
    intro IhB45 ehB45 hB45
    have t46 := fup_at ehB45 6 (by first | rfl | omega)
    have t47 : IhB45 257 9 = IhB32 257 9 := (congrFun (congrFun ehB45 257) 9).trans (fup_ne (by first | decide | omega))
    have t48 : IhB45 258 5 = IhB32 258 5 := (congrFun (congrFun ehB45 258) 5).trans (fup_ne (by first | decide | omega))
    have t49 : IhB45 258 10 = IhB32 258 10 := (congrFun (congrFun ehB45 258) 10).trans (fup_ne (by first | decide | omega))
    have t50 : IhB45 419 13 = IhB32 419 13 := (congrFun (congrFun ehB45 419) 13).trans (fup_ne (by first | decide | omega))
    have t51 : IhB45 467 8 = IhB32 467 8 := (congrFun (congrFun ehB45 467) 8).trans (fup_ne (by first | decide | omega))
    have t52 : IhB45 467 11 = IhB32 467 11 := (congrFun (congrFun ehB45 467) 11).trans (fup_ne (by first | decide | omega))
    have t53 : IhB45 467 15 = IhB32 467 15 := (congrFun (congrFun ehB45 467) 15).trans (fup_ne (by first | decide | omega))
    have k54 := fBz_eq hB45 (a := 1) (j := 9) (by decide +kernel)
    have k55 := fBz_eq hB45 (a := 2) (j := 5) (by decide +kernel)
    have k56 := fBz_eq hB45 (a := 2) (j := 10) (by decide +kernel)
    have k57 := fBz_eq hB45 (a := 211) (j := 8) (by decide +kernel)
    have k58 := fBz_eq hB45 (a := 211) (j := 11) (by decide +kernel)
    have k59 := fBz_eq hB45 (a := 211) (j := 15) (by decide +kernel)
    have k60 := fBz_eq hB45 (a := 163) (j := 13) (by decide +kernel)
    refine And.intro ⟨rfl, by decide, by decide⟩ ?_
    refine And.intro ⟨rfl, by decide, by decide⟩ (fgetf fb_1_9 h0 hB45 ?_)
    intro z61 lz61 uz61 qz61
    refine And.intro (True.intro) ?_
    exact ⟨_, rfl, by omega, (fun j hj => ((fup_other ehB45 420 j (Or.inl (by omega))).trans ((fFr_at fhB32 420 (by decide +kernel) rfl j).trans ((fFr_at fhB15 420 (by decide +kernel) rfl j).trans (g0z1 j hj))))), (fun i j hi hj => ((fup_other ehB45 (440 + i) j (Or.inl (by omega))).trans ((fFr_rows fhB32 (r := 440) (m := 3) (len := 61) (by decide +kernel) i j hi hj).trans ((fFr_rows fhB15 (r := 440) (m := 3) (len := 61) (by decide +kernel) i j hi hj).trans (g1z1 i j hi hj))))), (fun i j hi hj => ((fup_other ehB45 (469 + i) j (Or.inl (by omega))).trans ((g0z31 i j hi hj).trans (fFr_rows (fFr_of hB15) (r := 213) (m := 8) (len := 12) (by decide +kernel) i j hi hj)))), (fun j hj => ((fup_other ehB45 477 j (Or.inl (by omega))).trans ((g1z31 j hj).trans (fFr_at (fFr_of hB15) 221 (by decide +kernel) rfl j)))), (fun j hj => ((fup_other ehB45 478 j (Or.inl (by omega))).trans ((g2z31 j hj).trans (fFr_at (fFr_of hB15) 222 (by decide +kernel) rfl j)))), (fun j hj => ((fup_other ehB45 479 j (Or.inl (by omega))).trans ((g3z31 j hj).trans (fFr_at (fFr_of hB15) 223 (by decide +kernel) rfl j)))), (fun i j hi hj => ((fup_other ehB45 (481 + i) j (Or.inl (by omega))).trans ((g4z31 i j hi hj).trans (fFr_rows (fFr_of hB15) (r := 225) (m := 24) (len := 4) (by decide +kernel) i j hi hj)))), (fun j hj => ((fup_other ehB45 505 j (Or.inl (by omega))).trans ((g5z31 j hj).trans (fFr_at (fFr_of hB15) 249 (by decide +kernel) rfl j)))), (fun j hj => ((fup_other ehB45 506 j (Or.inl (by omega))).trans ((g6z31 j hj).trans (fFr_at (fFr_of hB15) 250 (by decide +kernel) rfl j)))), (fun j hj => ((fup_other ehB45 507 j (Or.inl (by omega))).trans ((g7z31 j hj).trans (fFr_at (fFr_of hB15) 251 (by decide +kernel) rfl j)))), (fun j hj => ((fup_other ehB45 508 j (Or.inl (by omega))).trans ((g8z31 j hj).trans (fFr_at (fFr_of hB15) 252 (by decide +kernel) rfl j)))), (fun j hj => ((fup_other ehB45 509 j (Or.inl (by omega))).trans ((g9z31 j hj).trans (fFr_at (fFr_of hB15) 253 (by decide +kernel) rfl j)))), (fun j hj => ((fup_other ehB45 510 j (Or.inl (by omega))).trans ((g10z31 j hj).trans (fFr_at (fFr_of hB15) 254 (by decide +kernel) rfl j)))), (fun j hj => ((fup_other ehB45 511 j (Or.inl (by omega))).trans ((g11z31 j hj).trans (fFr_at (fFr_of hB15) 255 (by decide +kernel) rfl j)))), (fun j hj => ((fup_other ehB45 512 j (Or.inl (by omega))).trans ((g12z31 j hj).trans (fFr_at (fFr_of hB15) 256 (by decide +kernel) rfl j))))⟩
abbrev jc_M_keep_1913a_7 (I0 : fH) : Nat → fL → List fV → fH → Prop := fun m lv st I => ∃ (y1 : Int), lv = [(0, .inr (.inr (some 740))), (1, .inl y1)] ∧ st = [] ∧ (((0 ≤ y1 ∧ y1 ≤ 4900) ∧ (1 ≤ I 740 3 ∧ I 740 3 ≤ 1) ∧ (I 740 3 = 1)) ∧ (∀ j : Nat, (j : Int) < y1 → I 742 j = I0 741 j)) ∧ m = (1 + 1 * (4900 - y1) : Int).toNat
set_option maxRecDepth 8000 in
theorem ct_M_keep_1913a {I : fH}  (h0 : fB bsJ I)  : fC ρ base n F xTc vwCl xTys D dA la gJ (fbz bsJ znJ (fKc wz_7d75a) I) xm_495 [.inr (.inr (some 740))] I (fun I' r => ∃ z, r = some (.inl z) ∧ ((0 ≤ z ∧ z ≤ 22000) ∧ ((I' 740 3 = 1) ∧ z = I 741 0)) ∧ (∀ j : Nat, j < 4900 → I' 742 j = I 741 j)) := by
  have hW : fzs wz_7d75a (fKc wz_7d75a) := fKc_ok _
  refine f_meth (rb := rbJ) (J := [(7, (jc_M_keep_1913a_7 I))]) 4902 400 xG xin_495 x6_495 okJ (fB_self h0) ?_ ?_
  · refine List.forall_mem_cons.mpr ⟨?_, fun q h => absurd h List.not_mem_nil⟩
    · rintro m _ _ I1 hB1 ⟨y1, rfl, rfl, ⟨hb, hx0⟩, hm⟩
      have k1 := fBz_eq hB1 (a := 741) (j := 0) (by decide +kernel)
      refine And.intro (And.intro (by first | exact fi_ hb.1.1 hb.1.2 rfl | omega) (by first | exact ⟨by decide, by decide⟩ | omega)) (And.intro ?_ ?_)
      · intro c2
        refine And.intro ⟨rfl, by decide, by decide⟩ ?_
        refine fload1 rL_741_741_0_0_1_0 h0 hB1 ⟨by decide, by decide⟩ (by first | exact ⟨by decide, by decide⟩ | omega) ?_
        intro z3 lz3 uz3 qz3
        have pz3 := fld_at qz3 0 (by omega)
        refine And.intro (True.intro) ?_
        exact ⟨_, rfl, by omega, (fun j h => hx0 j (by omega))⟩
      · intro c4
        refine And.intro ⟨rfl, by decide, by decide⟩ ?_
        refine And.intro ⟨rfl, by decide, by decide⟩ ?_
        refine fload1 rL_741_741_0_4899_1_0 h0 hB1 ⟨by decide, by decide⟩ (by first | exact ⟨hb.1.1, Int.le_trans (Int.le_sub_one_of_lt (Int.lt_of_lt_of_le c4 (Int.le_refl _))) (by decide)⟩ | omega) ?_
        intro z5 lz5 uz5 qz5
        refine fstoreX (fzs_sub (by decide +kernel) hW) (img_st (fBz h0 hB1) qz5 (by omega)) ?_
        intro IhB6 ehB6 hB6
        have t7 := fup_self ehB6
        have t8 : IhB6 740 3 = I1 740 3 := (congrFun (congrFun ehB6 740) 3).trans (fup_ne (by first | exact Or.inl (by decide) | omega))
        have k9 := fBz_eq hB6 (a := 741) (j := 0) (by decide +kernel)
        exact fcutJ (I := IhB6) (j := (jc_M_keep_1913a_7 I)) (lv' := [(0, .inr (.inr (some 740))), (1, .inl _)]) (And.intro rfl (And.intro rfl True.intro)) ⟨_, rfl, rfl, ⟨by omega, (fun j h => if ej : j = y1.toNat then (by rw [ej]; exact (fup_self ehB6).trans (qz5.trans (sS_keep hB1 (by decide +kernel) _))) else (fup_other ehB6 742 j (Or.inr ej)).trans (hx0 j (by omega)))⟩, rfl⟩ (by omega)
  · have hB0 := fB_self (zn := znJ) (K := fKc wz_7d75a) h0
    refine And.intro ⟨rfl, by decide, by decide⟩ (And.intro rfl (And.intro (Or.inr ⟨rfl, by decide, by decide⟩) (fputf fb_740_3 (by decide +kernel) hW (by first | exact ⟨by decide, by decide⟩ | omega) ?_)))
    intro IhB10 ehB10 hB10
    have t11 := fup_at ehB10 3 (by first | rfl | omega)
    have k12 := fBz_eq hB10 (a := 741) (j := 0) (by decide +kernel)
    exact fcutJ (I := IhB10) (j := (jc_M_keep_1913a_7 I)) (lv' := [(0, .inr (.inr (some 740))), (1, .inl _)]) (And.intro rfl (And.intro rfl True.intro)) ⟨_, rfl, rfl, ⟨by omega, (fun j h => absurd h (by omega))⟩, rfl⟩ (by omega)
set_option maxRecDepth 8000 in
theorem ct_Cells_becomeAs_587fd {I : fH}  (h0 : fB bsJ I)  : fC ρ base n F xTc vwCl xTys D dA la gJ (fbz bsJ znJ (fKc wz_52e23) I) xm_224 [.inr (.inr (some 2)), .inr (.inr (some 258))] I (fun I' r => r = none ∧ (I' 2 5 = I 258 5 ∧ I' 2 10 = I 258 10)) := by
  have hW : fzs wz_52e23 (fKc wz_52e23) := fKc_ok _
  refine f_meth (rb := rbJ) (J := []) 1 400 xG xin_224 x6_224 okJ (fB_self h0) ?_ ?_
  · exact fun q h => absurd h List.not_mem_nil
  · have hB0 := fB_self (zn := znJ) (K := fKc wz_52e23) h0
    refine And.intro ⟨rfl, by decide, by decide⟩ ?_
    refine And.intro ⟨rfl, by decide, by decide⟩ ?_
    refine Exists.intro xm_75 (And.intro mi_75 (And.intro ⟨rfl, rfl, rfl, rfl⟩ (And.intro True.intro ?_)))
    refine fcall _ h0 (fzs_sub (by decide +kernel) hW) hB0 (ct_copyRow (W := [3]) (len := 20) (fBz h0 hB0) (frC_of (by decide +kernel))) ?_
    rintro IhB1 _ hB1 fhB1 ⟨rfl, ehB1⟩
    refine And.intro ⟨rfl, by decide, by decide⟩ ?_
    refine And.intro ⟨rfl, by decide, by decide⟩ ?_
    refine Exists.intro xm_75 (And.intro mi_75 (And.intro ⟨rfl, rfl, rfl, rfl⟩ (And.intro True.intro ?_)))
    refine fcall _ h0 (fzs_sub (by decide +kernel) hW) hB1 (ct_copyRow (W := [4]) (len := 20) (fBz h0 hB1) (frC_of (by decide +kernel))) ?_
    rintro IhB2 _ hB2 fhB2 ⟨rfl, ehB2⟩
    refine And.intro ⟨rfl, by decide, by decide⟩ ?_
    refine And.intro ⟨rfl, by decide, by decide⟩ ?_
    refine Exists.intro xm_225 (And.intro mi_225 (And.intro ⟨rfl, rfl, rfl, rfl⟩ (And.intro True.intro ?_)))
    refine fcall _ h0 (fzs_sub (by decide +kernel) hW) hB2 (ct_copyRows (W := [5]) (m := 20) (len := 5) (ro := 262) (rd := 6) (fBz h0 hB2) (frCs_of ⟨rfl, rfl, rfl, rfl, by decide⟩ (by decide +kernel))) ?_
    rintro IhB3 _ hB3 fhB3 ⟨rfl, ehB3⟩
    refine And.intro ⟨rfl, by decide, by decide⟩ ?_
    refine And.intro ⟨rfl, by decide, by decide⟩ ?_
    refine Exists.intro xm_225 (And.intro mi_225 (And.intro ⟨rfl, rfl, rfl, rfl⟩ (And.intro True.intro ?_)))
    refine fcall _ h0 (fzs_sub (by decide +kernel) hW) hB3 (ct_copyRows (W := [26]) (m := 20) (len := 5) (ro := 283) (rd := 27) (fBz h0 hB3) (frCs_of ⟨rfl, rfl, rfl, rfl, by decide⟩ (by decide +kernel))) ?_
    rintro IhB4 _ hB4 fhB4 ⟨rfl, ehB4⟩
    refine And.intro ⟨rfl, by decide, by decide⟩ ?_
    refine And.intro ⟨rfl, by decide, by decide⟩ ?_
    refine Exists.intro xm_225 (And.intro mi_225 (And.intro ⟨rfl, rfl, rfl, rfl⟩ (And.intro True.intro ?_)))
    refine fcall _ h0 (fzs_sub (by decide +kernel) hW) hB4 (ct_copyRows (W := [47]) (m := 20) (len := 6) (ro := 304) (rd := 48) (fBz h0 hB4) (frCs_of ⟨rfl, rfl, rfl, rfl, by decide⟩ (by decide +kernel))) ?_
    rintro IhB5 _ hB5 fhB5 ⟨rfl, ehB5⟩
    refine And.intro ⟨rfl, by decide, by decide⟩ (fgetf fb_258_5 h0 hB5 ?_)
    intro z6 lz6 uz6 qz6
    have k7 := fBz_eq hB5 (a := 258) (j := 5) (by decide +kernel)
    refine And.intro ⟨rfl, by decide, by decide⟩ (And.intro rfl (And.intro (Or.inl rfl) (fputf fb_2_5 (by decide +kernel) hW (by first | exact ⟨lz6, uz6⟩ | omega) ?_)))
    intro IhB8 ehB8 hB8
    have t9 := fup_at ehB8 5 (by first | rfl | omega)
    refine And.intro ⟨rfl, by decide, by decide⟩ ?_
    refine And.intro ⟨rfl, by decide, by decide⟩ ?_
    refine Exists.intro xm_75 (And.intro mi_75 (And.intro ⟨rfl, rfl, rfl, rfl⟩ (And.intro True.intro ?_)))
    refine fcall _ h0 (fzs_sub (by decide +kernel) hW) hB8 (ct_copyRow (W := [68]) (len := 24) (fBz h0 hB8) (frC_of (by decide +kernel))) ?_
    rintro IhB10 _ hB10 fhB10 ⟨rfl, ehB10⟩
    have t11 := fhB10 2 5 (by decide +kernel)
    refine And.intro ⟨rfl, by decide, by decide⟩ ?_
    refine And.intro ⟨rfl, by decide, by decide⟩ ?_
    refine Exists.intro xm_75 (And.intro mi_75 (And.intro ⟨rfl, rfl, rfl, rfl⟩ (And.intro True.intro ?_)))
    refine fcall _ h0 (fzs_sub (by decide +kernel) hW) hB10 (ct_copyRow (W := [69]) (len := 24) (fBz h0 hB10) (frC_of (by decide +kernel))) ?_
    rintro IhB12 _ hB12 fhB12 ⟨rfl, ehB12⟩
    have t13 := fhB12 2 5 (by decide +kernel)
    refine And.intro ⟨rfl, by decide, by decide⟩ ?_
    refine And.intro ⟨rfl, by decide, by decide⟩ ?_
    refine Exists.intro xm_75 (And.intro mi_75 (And.intro ⟨rfl, rfl, rfl, rfl⟩ (And.intro True.intro ?_)))
    refine fcall _ h0 (fzs_sub (by decide +kernel) hW) hB12 (ct_copyRow (W := [70]) (len := 24) (fBz h0 hB12) (frC_of (by decide +kernel))) ?_
    rintro IhB14 _ hB14 fhB14 ⟨rfl, ehB14⟩
    have t15 := fhB14 2 5 (by decide +kernel)
    refine And.intro ⟨rfl, by decide, by decide⟩ ?_
    refine And.intro ⟨rfl, by decide, by decide⟩ ?_
    refine Exists.intro xm_75 (And.intro mi_75 (And.intro ⟨rfl, rfl, rfl, rfl⟩ (And.intro True.intro ?_)))
    refine fcall _ h0 (fzs_sub (by decide +kernel) hW) hB14 (ct_copyRow (W := [71]) (len := 24) (fBz h0 hB14) (frC_of (by decide +kernel))) ?_
    rintro IhB16 _ hB16 fhB16 ⟨rfl, ehB16⟩
    have t17 := fhB16 2 5 (by decide +kernel)
    refine And.intro ⟨rfl, by decide, by decide⟩ (fgetf fb_258_10 h0 hB16 ?_)
    intro z18 lz18 uz18 qz18
    have k19 := fBz_eq hB16 (a := 258) (j := 10) (by decide +kernel)
    refine And.intro ⟨rfl, by decide, by decide⟩ (And.intro rfl (And.intro (Or.inl rfl) (fputf fb_2_10 (by decide +kernel) hW (by first | exact ⟨lz18, uz18⟩ | omega) ?_)))
    intro IhB20 ehB20 hB20
    have t21 : IhB20 2 5 = IhB16 2 5 := (congrFun (congrFun ehB20 2) 5).trans (fup_ne (by first | decide | omega))
    have t22 := fup_at ehB20 10 (by first | rfl | omega)
    refine And.intro ⟨rfl, by decide, by decide⟩ ?_
    refine And.intro ⟨rfl, by decide, by decide⟩ ?_
    refine Exists.intro xm_225 (And.intro mi_225 (And.intro ⟨rfl, rfl, rfl, rfl⟩ (And.intro True.intro ?_)))
    refine fcall _ h0 (fzs_sub (by decide +kernel) hW) hB20 (ct_copyRows (W := [72]) (m := 90) (len := 8) (ro := 329) (rd := 73) (fBz h0 hB20) (frCs_of ⟨rfl, rfl, rfl, rfl, by decide⟩ (by decide +kernel))) ?_
    rintro IhB23 _ hB23 fhB23 ⟨rfl, ehB23⟩
    have t24 := fhB23 2 5 (by decide +kernel)
    have t25 := fhB23 2 10 (by decide +kernel)
    refine And.intro ⟨rfl, by decide, by decide⟩ (fgetf fb_258_12 h0 hB23 ?_)
    intro z26 lz26 uz26 qz26
    refine And.intro ⟨rfl, by decide, by decide⟩ (And.intro rfl (And.intro (Or.inl rfl) (fputf fb_2_12 (by decide +kernel) hW (by first | exact ⟨lz26, uz26⟩ | omega) ?_)))
    intro IhB27 ehB27 hB27
    have t28 : IhB27 2 5 = IhB23 2 5 := (congrFun (congrFun ehB27 2) 5).trans (fup_ne (by first | decide | omega))
    have t29 : IhB27 2 10 = IhB23 2 10 := (congrFun (congrFun ehB27 2) 10).trans (fup_ne (by first | decide | omega))
    have t30 := fup_at ehB27 12 (by first | rfl | omega)
    exact ⟨rfl, by omega⟩
set_option maxRecDepth 8000 in
theorem ct_People_becomeAs_faf7e {I : fH}  (h0 : fB bsJ I)  : fC ρ base n F xTc vwCl xTys D dA la gJ (fbz bsJ znJ (fKc wz_4ceb6) I) xm_227 [.inr (.inr (some 177)), .inr (.inr (some 433))] I (fun _ r => r = none) := by
  have hW : fzs wz_4ceb6 (fKc wz_4ceb6) := fKc_ok _
  refine f_meth (rb := rbJ) (J := []) 1 400 xG xin_227 x6_227 okJ (fB_self h0) ?_ ?_
  · exact fun q h => absurd h List.not_mem_nil
  · have hB0 := fB_self (zn := znJ) (K := fKc wz_4ceb6) h0
    refine And.intro ⟨rfl, by decide, by decide⟩ ?_
    refine And.intro ⟨rfl, by decide, by decide⟩ ?_
    refine Exists.intro xm_75 (And.intro mi_75 (And.intro ⟨rfl, rfl, rfl, rfl⟩ (And.intro True.intro ?_)))
    refine fcall _ h0 (fzs_sub (by decide +kernel) hW) hB0 (ct_copyRow (W := [178]) (len := 24) (fBz h0 hB0) (frC_of (by decide +kernel))) ?_
    rintro IhB1 _ hB1 fhB1 ⟨rfl, ehB1⟩
    refine And.intro ⟨rfl, by decide, by decide⟩ ?_
    refine And.intro ⟨rfl, by decide, by decide⟩ ?_
    refine Exists.intro xm_75 (And.intro mi_75 (And.intro ⟨rfl, rfl, rfl, rfl⟩ (And.intro True.intro ?_)))
    refine fcall _ h0 (fzs_sub (by decide +kernel) hW) hB1 (ct_copyRow (W := [179]) (len := 24) (fBz h0 hB1) (frC_of (by decide +kernel))) ?_
    rintro IhB2 _ hB2 fhB2 ⟨rfl, ehB2⟩
    refine And.intro ⟨rfl, by decide, by decide⟩ ?_
    refine And.intro ⟨rfl, by decide, by decide⟩ ?_
    refine Exists.intro xm_75 (And.intro mi_75 (And.intro ⟨rfl, rfl, rfl, rfl⟩ (And.intro True.intro ?_)))
    refine fcall _ h0 (fzs_sub (by decide +kernel) hW) hB2 (ct_copyRow (W := [180]) (len := 24) (fBz h0 hB2) (frC_of (by decide +kernel))) ?_
    rintro IhB3 _ hB3 fhB3 ⟨rfl, ehB3⟩
    refine And.intro ⟨rfl, by decide, by decide⟩ ?_
    refine And.intro ⟨rfl, by decide, by decide⟩ ?_
    refine Exists.intro xm_75 (And.intro mi_75 (And.intro ⟨rfl, rfl, rfl, rfl⟩ (And.intro True.intro ?_)))
    refine fcall _ h0 (fzs_sub (by decide +kernel) hW) hB3 (ct_copyRow (W := [181]) (len := 24) (fBz h0 hB3) (frC_of (by decide +kernel))) ?_
    rintro IhB4 _ hB4 fhB4 ⟨rfl, ehB4⟩
    refine And.intro ⟨rfl, by decide, by decide⟩ (fgetf fb_433_4 h0 hB4 ?_)
    intro z5 lz5 uz5 qz5
    refine And.intro ⟨rfl, by decide, by decide⟩ (And.intro rfl (And.intro (Or.inl rfl) (fputf fb_177_4 (by decide +kernel) hW (by first | exact ⟨lz5, uz5⟩ | omega) ?_)))
    intro IhB6 ehB6 hB6
    have t7 := fup_at ehB6 4 (by first | rfl | omega)
    have t8 : IhB6 433 4 = IhB4 433 4 := (congrFun (congrFun ehB6 433) 4).trans (fup_ne (by first | decide | omega))
    exact rfl
end CT

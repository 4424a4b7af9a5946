set_option linter.all false
/-! contracts (written by gen95.py) -/
abbrev wz_64c1d : List Nat := [515, 516, 517, 538, 559, 580, 581, 582, 583, 584, 11405, 11410, 11412]
theorem x6_224 : f60c xTc xTys xm_224 = true := by decide +kernel
theorem fb_258_5 : bsJ 258 5 = (0, 20) := by decide +kernel
theorem fb_258_10 : bsJ 258 10 = (0, 24) := by decide +kernel
theorem fb_258_12 : bsJ 258 12 = (0, 90) := by decide +kernel
abbrev wz_7a224 : List Nat := [515, 516, 517, 538, 559, 580, 581, 582, 583, 584, 676, 677, 678, 679, 680, 681, 682, 683, 684, 685, 686, 687, 688, 690, 691, 692, 693, 694, 695, 11305, 11306, 11307, 11308, 11309, 11405, 11410, 11412, 11513, 11604]
theorem x6_223 : f60c xTc xTys xm_223 = true := by decide +kernel
theorem fb_257_5 : bsJ 257 5 = (0, 600) := by decide +kernel
theorem fb_257_6 : bsJ 257 6 = ((-2147483648), 2147483647) := by decide +kernel
theorem fb_257_7 : bsJ 257 7 = (2, 9999) := by decide +kernel
theorem fb_257_8 : bsJ 257 8 = (0, 99) := by decide +kernel
theorem fb_257_9 : bsJ 257 9 = ((-2147483648), 2147483647) := by decide +kernel
theorem x6_228 : f60c xTc xTys xm_228 = true := by decide +kernel
abbrev wz_920bb : List Nat := [515, 516, 517, 538, 559, 580, 581, 582, 583, 584, 676, 677, 678, 679, 680, 681, 682, 683, 684, 685, 686, 687, 688, 690, 691, 692, 693, 694, 695, 739, 11305, 11306, 11307, 11308, 11309, 11405, 11410, 11412, 11513, 11604]
theorem x6_222 : f60c xTc xTys xm_222 = true := by decide +kernel
theorem fb_0_6 : bsJ 0 6 = (0, 1) := by decide +kernel
abbrev wz_04d21 : List Nat := [515, 516, 517, 538, 559, 580, 581, 582, 583, 584, 676, 677, 678, 679, 680, 681, 682, 683, 684, 685, 686, 687, 688, 690, 691, 692, 693, 694, 695, 733, 734, 736, 737, 739, 10014, 11305, 11306, 11307, 11308, 11309, 11405, 11410, 11412, 11513, 11604, 12102, 12103, 12104]
theorem x6_218 : f60c xTc xTys xm_218 = true := by decide +kernel
abbrev wz_518f7 : List Nat := [760, 12239]
theorem x6_491 : f60c xTc xTys xm_491 = true := by decide +kernel
theorem fb_740_39 : bsJ 740 39 = (0, 60) := by decide +kernel
theorem rS_760_760_0_59_1_0 : frS gJ bsJ znJ [760] 100 ((760, 760), (0, 59), (1, 0), ((-2147483648), 2147483647)) := frS_dflt (by decide) (by decide +kernel)
abbrev wz_7bd74 : List Nat := [756, 760, 12239]
theorem x6_490 : f60c xTc xTys xm_490 = true := by decide +kernel
theorem x6_494 : f60c xTc xTys xm_494 = true := by decide +kernel
abbrev wz_376a3 : List Nat := [743, 760, 12239, 20000, 20001, 20002, 20003, 20004, 20005, 20006, 20007, 20008, 20009, 20010, 20011, 20012, 20013, 20014, 20015, 20016, 20017, 20018, 20019, 20020, 20021, 20022, 20023, 20024, 20025, 20026, 20027, 20028, 20029, 20100, 20101, 20102, 20103, 20104, 20105, 20106, 20107, 20108, 20109, 20110, 20111, 20112, 20113, 20114, 20115, 20116, 20117, 20118, 20119, 20200, 20201, 20202, 20203, 20300, 20301, 20302, 20303, 20304, 20305, 20306, 20307, 20308, 20309, 20310, 20311, 20312, 20313, 20400, 20401, 20402, 20403, 20404, 20405, 20500, 20600, 20601, 20602, 20603, 20604, 20605, 20700, 20701, 20702, 20703, 20704, 20705, 20706, 20707, 20800, 20801, 20802, 20810, 20811, 20820, 20821, 20822, 20830, 20831, 20832, 20833, 20834, 20840, 20850]
theorem x6_493 : f60c xTc xTys xm_493 = true := by decide +kernel
theorem rL_742_742_0_4899_1_0 : frL gJ bsJ 100 ((742, 742), (0, 4899), (1, 0), ((-2147483648), 2147483647)) := frL_hull (by decide) (by decide +kernel)
theorem rL_743_743_0_4899_1_0 : frL gJ bsJ 100 ((743, 743), (0, 4899), (1, 0), ((-2147483648), 2147483647)) := frL_hull (by decide) (by decide +kernel)
theorem fb_740_3 : bsJ 740 3 = (0, 1) := by decide +kernel
abbrev wz_96c9e : List Nat := [757, 758, 760, 12233, 12234, 12235, 12239]
theorem x6_492 : f60c xTc xTys xm_492 = true := by decide +kernel
abbrev wz_a99d3 : List Nat := [743, 756, 757, 758, 760, 12233, 12234, 12235, 12237, 12239, 20000, 20001, 20002, 20003, 20004, 20005, 20006, 20007, 20008, 20009, 20010, 20011, 20012, 20013, 20014, 20015, 20016, 20017, 20018, 20019, 20020, 20021, 20022, 20023, 20024, 20025, 20026, 20027, 20028, 20029, 20100, 20101, 20102, 20103, 20104, 20105, 20106, 20107, 20108, 20109, 20110, 20111, 20112, 20113, 20114, 20115, 20116, 20117, 20118, 20119, 20200, 20201, 20202, 20203, 20300, 20301, 20302, 20303, 20304, 20305, 20306, 20307, 20308, 20309, 20310, 20311, 20312, 20313, 20400, 20401, 20402, 20403, 20404, 20405, 20500, 20600, 20601, 20602, 20603, 20604, 20605, 20700, 20701, 20702, 20703, 20704, 20705, 20706, 20707, 20800, 20801, 20802, 20810, 20811, 20820, 20821, 20822, 20830, 20831, 20832, 20833, 20834, 20840, 20850]
theorem x6_489 : f60c xTc xTys xm_489 = true := by decide +kernel
theorem rL_759_759_0_59_1_0 : frL gJ bsJ 100 ((759, 759), (0, 59), (1, 0), ((-2147483648), 2147483647)) := frL_hull (by decide) (by decide +kernel)
theorem rL_760_760_0_59_1_0 : frL gJ bsJ 100 ((760, 760), (0, 59), (1, 0), ((-2147483648), 2147483647)) := frL_hull (by decide) (by decide +kernel)
abbrev wz_77c59 : List Nat := [468, 477, 478, 479, 480, 505, 506, 507, 508, 509, 510, 511, 512, 11208, 11211, 11215]
theorem x6_231 : f60c xTc xTys xm_231 = true := by decide +kernel
theorem fb_467_8 : bsJ 467 8 = (0, 6) := by decide +kernel
theorem fb_467_11 : bsJ 467 11 = (0, 10) := by decide +kernel
theorem fb_467_15 : bsJ 467 15 = (0, 7) := by decide +kernel
abbrev wz_35895 : List Nat := [434, 435, 436, 437, 11004]
abbrev wz_470c1 : List Nat := [420, 421, 422, 423, 424, 425, 426, 427, 428, 429, 430, 431, 432, 10913]
abbrev wz_479cc : List Nat := [259, 260, 261, 282, 303, 324, 325, 326, 327, 328, 10805, 10810, 10812]
abbrev wz_7d688 : List Nat := [259, 260, 261, 282, 303, 324, 325, 326, 327, 328, 420, 421, 422, 423, 424, 425, 426, 427, 428, 429, 430, 431, 432, 434, 435, 436, 437, 438, 439, 10705, 10706, 10707, 10708, 10709, 10805, 10810, 10812, 10913, 11004]
abbrev wz_e7604 : List Nat := [444, 445, 446, 447, 448, 449, 462, 11106, 11107, 11108]
theorem x6_230 : f60c xTc xTys xm_230 = true := by decide +kernel
theorem fb_443_6 : bsJ 443 6 = (0, 12) := by decide +kernel
theorem fb_443_7 : bsJ 443 7 = ((-2147483648), 2147483647) := by decide +kernel
theorem fb_443_8 : bsJ 443 8 = (0, 1) := by decide +kernel
abbrev wz_cdb06 : List Nat := [259, 260, 261, 282, 303, 324, 325, 326, 327, 328, 420, 421, 422, 423, 424, 425, 426, 427, 428, 429, 430, 431, 432, 434, 435, 436, 437, 438, 439, 444, 445, 446, 447, 448, 449, 462, 468, 477, 478, 479, 480, 505, 506, 507, 508, 509, 510, 511, 512, 10006, 10705, 10706, 10707, 10708, 10709, 10805, 10810, 10812, 10913, 11004, 11106, 11107, 11108, 11208, 11211, 11215]
theorem x6_229 : f60c xTc xTys xm_229 = true := by decide +kernel
abbrev wz_7d75a : List Nat := [742, 12203]
theorem x6_495 : f60c xTc xTys xm_495 = true := by decide +kernel
abbrev wz_52e23 : List Nat := [3, 4, 5, 26, 47, 68, 69, 70, 71, 72, 10205, 10210, 10212]
abbrev wz_e3fbc : List Nat := [3, 4, 5, 26, 47, 68, 69, 70, 71, 72, 164, 165, 166, 167, 168, 169, 170, 171, 172, 173, 174, 175, 176, 178, 179, 180, 181, 182, 183, 10105, 10106, 10107, 10108, 10109, 10205, 10210, 10212, 10313, 10404]
abbrev wz_2d260 : List Nat := [188, 189, 190, 191, 192, 193, 206, 10506, 10507, 10508]
abbrev wz_ba624 : List Nat := [212, 221, 222, 223, 224, 249, 250, 251, 252, 253, 254, 255, 256, 10608, 10611, 10615]
abbrev wz_0c714 : List Nat := [3, 4, 5, 26, 47, 68, 69, 70, 71, 72, 164, 165, 166, 167, 168, 169, 170, 171, 172, 173, 174, 175, 176, 178, 179, 180, 181, 182, 183, 188, 189, 190, 191, 192, 193, 206, 212, 221, 222, 223, 224, 249, 250, 251, 252, 253, 254, 255, 256, 10105, 10106, 10107, 10108, 10109, 10205, 10210, 10212, 10313, 10404, 10506, 10507, 10508, 10608, 10611, 10615]
theorem x6_232 : f60c xTc xTys xm_232 = true := by decide +kernel
abbrev wz_6f285 : List Nat := [20000, 20001, 20002, 20003, 20004, 20005, 20006, 20007, 20008, 20009, 20010, 20011, 20012, 20013, 20014, 20015, 20016, 20017, 20018, 20019, 20020, 20021, 20022, 20023, 20024, 20025, 20026, 20027, 20028, 20029, 20100, 20101, 20102, 20103, 20104, 20105, 20106, 20107, 20108, 20109, 20110, 20111, 20112, 20113, 20114, 20115, 20116, 20117, 20118, 20119, 20200, 20201, 20202, 20203, 20300, 20301, 20302, 20303, 20304, 20305, 20306, 20307, 20308, 20309, 20310, 20311, 20312, 20313, 20400, 20401, 20402, 20403, 20404, 20405, 20500, 20600, 20601, 20602, 20603, 20604, 20605, 20700, 20701, 20702, 20703, 20704, 20705, 20706, 20707, 20800, 20801, 20802, 20810, 20811, 20820, 20821, 20822, 20830, 20831, 20832, 20833, 20834, 20840, 20850]
theorem x6_496 : f60c xTc xTys xm_496 = true := by decide +kernel
theorem x6_234 : f60c xTc xTys xm_234 = true := by decide +kernel
theorem x6_235 : f60c xTc xTys xm_235 = true := by decide +kernel
theorem x6_233 : f60c xTc xTys xm_233 = true := by decide +kernel
section CT
variable {ρ : Nat → Int32} {base n : Nat} {F : Nat → Prop} {D : va_G} {dA : Nat → ClassId} {la : Launch}
set_option maxRecDepth 8000 in
theorem ct_Cells_becomeAs_5a6fe {I : fH}  (h0 : fB bsJ I)  : fC ρ base n F xTc vwCl xTys D dA la gJ (fbz bsJ znJ (fKc wz_64c1d) I) xm_224 [.inr (.inr (some 514)), .inr (.inr (some 258))] I (fun I' r => r = none ∧ (I' 514 5 = I 258 5 ∧ I' 514 10 = I 258 10) ∧ (cop 512 256 cpC I I')) := by
  have hW : fzs wz_64c1d (fKc wz_64c1d) := fKc_ok _
  refine f_meth (rb := rbJ) (J := []) 1 400 xG xin_224 x6_224 okJ (fB_self h0) ?_ ?_
  · exact fun q h => absurd h List.not_mem_nil
  · have hB0 := fB_self (zn := znJ) (K := fKc wz_64c1d) h0
    refine And.intro ⟨rfl, by decide, by decide⟩ ?_
    refine And.intro ⟨rfl, by decide, by decide⟩ ?_
    refine Exists.intro xm_75 (And.intro mi_75 (And.intro ⟨rfl, rfl, rfl, rfl⟩ (And.intro True.intro ?_)))
    refine fcall _ h0 (fzs_sub (by decide +kernel) hW) hB0 (ct_copyRow (W := [515]) (len := 20) (fBz h0 hB0) (frC_of (by decide +kernel))) ?_
    rintro IhB1 _ hB1 fhB1 ⟨rfl, ehB1⟩
    have c8 := cop_row (d1 := 512) (d2 := 256) (a := 3) (n := 20) (cop_nil (d1 := 512) (d2 := 256) (K := I)) ehB1 rfl rfl rfl (fun j _ => rfl) (by decide +kernel)
    refine And.intro ⟨rfl, by decide, by decide⟩ ?_
    refine And.intro ⟨rfl, by decide, by decide⟩ ?_
    refine Exists.intro xm_75 (And.intro mi_75 (And.intro ⟨rfl, rfl, rfl, rfl⟩ (And.intro True.intro ?_)))
    refine fcall _ h0 (fzs_sub (by decide +kernel) hW) hB1 (ct_copyRow (W := [516]) (len := 20) (fBz h0 hB1) (frC_of (by decide +kernel))) ?_
    rintro IhB2 _ hB2 fhB2 ⟨rfl, ehB2⟩
    have c19 := cop_row (d1 := 512) (d2 := 256) (a := 4) (n := 20) c8 ehB2 rfl rfl rfl (fun j _ => fFr_at (fFr_of hB1) 260 (by decide +kernel) rfl j) (by decide +kernel)
    refine And.intro ⟨rfl, by decide, by decide⟩ ?_
    refine And.intro ⟨rfl, by decide, by decide⟩ ?_
    refine Exists.intro xm_225 (And.intro mi_225 (And.intro ⟨rfl, rfl, rfl, rfl⟩ (And.intro True.intro ?_)))
    refine fcall _ h0 (fzs_sub (by decide +kernel) hW) hB2 (ct_copyRows (W := [517]) (m := 20) (len := 5) (ro := 262) (rd := 518) (fBz h0 hB2) (frCs_of ⟨rfl, rfl, rfl, rfl, by decide⟩ (by decide +kernel))) ?_
    rintro IhB3 _ hB3 fhB3 ⟨rfl, ehB3⟩
    have c30 := cop_rows (d1 := 512) (d2 := 256) (a := 6) (m := 20) (n := 5) c19 fhB3 ehB3 rfl rfl (fun i j hi hj => fFr_rows (fFr_of hB2) (r := 262) (m := 20) (len := 5) (by decide +kernel) i j hi hj) (by decide) (by decide +kernel)
    refine And.intro ⟨rfl, by decide, by decide⟩ ?_
    refine And.intro ⟨rfl, by decide, by decide⟩ ?_
    refine Exists.intro xm_225 (And.intro mi_225 (And.intro ⟨rfl, rfl, rfl, rfl⟩ (And.intro True.intro ?_)))
    refine fcall _ h0 (fzs_sub (by decide +kernel) hW) hB3 (ct_copyRows (W := [538]) (m := 20) (len := 5) (ro := 283) (rd := 539) (fBz h0 hB3) (frCs_of ⟨rfl, rfl, rfl, rfl, by decide⟩ (by decide +kernel))) ?_
    rintro IhB4 _ hB4 fhB4 ⟨rfl, ehB4⟩
    have c41 := cop_rows (d1 := 512) (d2 := 256) (a := 27) (m := 20) (n := 5) c30 fhB4 ehB4 rfl rfl (fun i j hi hj => fFr_rows (fFr_of hB3) (r := 283) (m := 20) (len := 5) (by decide +kernel) i j hi hj) (by decide) (by decide +kernel)
    refine And.intro ⟨rfl, by decide, by decide⟩ ?_
    refine And.intro ⟨rfl, by decide, by decide⟩ ?_
    refine Exists.intro xm_225 (And.intro mi_225 (And.intro ⟨rfl, rfl, rfl, rfl⟩ (And.intro True.intro ?_)))
    refine fcall _ h0 (fzs_sub (by decide +kernel) hW) hB4 (ct_copyRows (W := [559]) (m := 20) (len := 6) (ro := 304) (rd := 560) (fBz h0 hB4) (frCs_of ⟨rfl, rfl, rfl, rfl, by decide⟩ (by decide +kernel))) ?_
    rintro IhB5 _ hB5 fhB5 ⟨rfl, ehB5⟩
    have c52 := cop_rows (d1 := 512) (d2 := 256) (a := 48) (m := 20) (n := 6) c41 fhB5 ehB5 rfl rfl (fun i j hi hj => fFr_rows (fFr_of hB4) (r := 304) (m := 20) (len := 6) (by decide +kernel) i j hi hj) (by decide) (by decide +kernel)
    refine And.intro ⟨rfl, by decide, by decide⟩ (fgetf fb_258_5 h0 hB5 ?_)
    intro z6 lz6 uz6 qz6
    have k7 := fBz_eq hB5 (a := 258) (j := 5) (by decide +kernel)
    refine And.intro ⟨rfl, by decide, by decide⟩ (And.intro rfl (And.intro (Or.inl rfl) (fputf fb_514_5 (by decide +kernel) hW (by first | exact ⟨lz6, uz6⟩ | omega) ?_)))
    intro IhB8 ehB8 hB8
    have t9 := fup_at ehB8 5 (by first | rfl | omega)
    have c60 := cop_fld (d1 := 512) (d2 := 256) (a := 2) (j0 := 5) c52 ehB8 rfl (qz6.trans (fBz_eq hB5 (a := 258) (j := 5) (by decide +kernel))) (by decide +kernel)
    refine And.intro ⟨rfl, by decide, by decide⟩ ?_
    refine And.intro ⟨rfl, by decide, by decide⟩ ?_
    refine Exists.intro xm_75 (And.intro mi_75 (And.intro ⟨rfl, rfl, rfl, rfl⟩ (And.intro True.intro ?_)))
    refine fcall _ h0 (fzs_sub (by decide +kernel) hW) hB8 (ct_copyRow (W := [580]) (len := 24) (fBz h0 hB8) (frC_of (by decide +kernel))) ?_
    rintro IhB10 _ hB10 fhB10 ⟨rfl, ehB10⟩
    have t11 := fhB10 514 5 (by decide +kernel)
    have c71 := cop_row (d1 := 512) (d2 := 256) (a := 68) (n := 24) c60 ehB10 rfl rfl rfl (fun j _ => fFr_at (fFr_of hB8) 324 (by decide +kernel) rfl j) (by decide +kernel)
    refine And.intro ⟨rfl, by decide, by decide⟩ ?_
    refine And.intro ⟨rfl, by decide, by decide⟩ ?_
    refine Exists.intro xm_75 (And.intro mi_75 (And.intro ⟨rfl, rfl, rfl, rfl⟩ (And.intro True.intro ?_)))
    refine fcall _ h0 (fzs_sub (by decide +kernel) hW) hB10 (ct_copyRow (W := [581]) (len := 24) (fBz h0 hB10) (frC_of (by decide +kernel))) ?_
    rintro IhB12 _ hB12 fhB12 ⟨rfl, ehB12⟩
    have t13 := fhB12 514 5 (by decide +kernel)
    have c82 := cop_row (d1 := 512) (d2 := 256) (a := 69) (n := 24) c71 ehB12 rfl rfl rfl (fun j _ => fFr_at (fFr_of hB10) 325 (by decide +kernel) rfl j) (by decide +kernel)
    refine And.intro ⟨rfl, by decide, by decide⟩ ?_
    refine And.intro ⟨rfl, by decide, by decide⟩ ?_
    refine Exists.intro xm_75 (And.intro mi_75 (And.intro ⟨rfl, rfl, rfl, rfl⟩ (And.intro True.intro ?_)))
    refine fcall _ h0 (fzs_sub (by decide +kernel) hW) hB12 (ct_copyRow (W := [582]) (len := 24) (fBz h0 hB12) (frC_of (by decide +kernel))) ?_
    rintro IhB14 _ hB14 fhB14 ⟨rfl, ehB14⟩
    have t15 := fhB14 514 5 (by decide +kernel)
    have c93 := cop_row (d1 := 512) (d2 := 256) (a := 70) (n := 24) c82 ehB14 rfl rfl rfl (fun j _ => fFr_at (fFr_of hB12) 326 (by decide +kernel) rfl j) (by decide +kernel)
    refine And.intro ⟨rfl, by decide, by decide⟩ ?_
    refine And.intro ⟨rfl, by decide, by decide⟩ ?_
    refine Exists.intro xm_75 (And.intro mi_75 (And.intro ⟨rfl, rfl, rfl, rfl⟩ (And.intro True.intro ?_)))
    refine fcall _ h0 (fzs_sub (by decide +kernel) hW) hB14 (ct_copyRow (W := [583]) (len := 24) (fBz h0 hB14) (frC_of (by decide +kernel))) ?_
    rintro IhB16 _ hB16 fhB16 ⟨rfl, ehB16⟩
    have t17 := fhB16 514 5 (by decide +kernel)
    have c104 := cop_row (d1 := 512) (d2 := 256) (a := 71) (n := 24) c93 ehB16 rfl rfl rfl (fun j _ => fFr_at (fFr_of hB14) 327 (by decide +kernel) rfl j) (by decide +kernel)
    refine And.intro ⟨rfl, by decide, by decide⟩ (fgetf fb_258_10 h0 hB16 ?_)
    intro z18 lz18 uz18 qz18
    have k19 := fBz_eq hB16 (a := 258) (j := 10) (by decide +kernel)
    refine And.intro ⟨rfl, by decide, by decide⟩ (And.intro rfl (And.intro (Or.inl rfl) (fputf fb_514_10 (by decide +kernel) hW (by first | exact ⟨lz18, uz18⟩ | omega) ?_)))
    intro IhB20 ehB20 hB20
    have t21 : IhB20 514 5 = IhB16 514 5 := (congrFun (congrFun ehB20 514) 5).trans (fup_ne (by first | decide | omega))
    have t22 := fup_at ehB20 10 (by first | rfl | omega)
    have c112 := cop_fld (d1 := 512) (d2 := 256) (a := 2) (j0 := 10) c104 ehB20 rfl (qz18.trans (fBz_eq hB16 (a := 258) (j := 10) (by decide +kernel))) (by decide +kernel)
    refine And.intro ⟨rfl, by decide, by decide⟩ ?_
    refine And.intro ⟨rfl, by decide, by decide⟩ ?_
    refine Exists.intro xm_225 (And.intro mi_225 (And.intro ⟨rfl, rfl, rfl, rfl⟩ (And.intro True.intro ?_)))
    refine fcall _ h0 (fzs_sub (by decide +kernel) hW) hB20 (ct_copyRows (W := [584]) (m := 90) (len := 8) (ro := 329) (rd := 585) (fBz h0 hB20) (frCs_of ⟨rfl, rfl, rfl, rfl, by decide⟩ (by decide +kernel))) ?_
    rintro IhB23 _ hB23 fhB23 ⟨rfl, ehB23⟩
    have t24 := fhB23 514 5 (by decide +kernel)
    have t25 := fhB23 514 10 (by decide +kernel)
    have c123 := cop_rows (d1 := 512) (d2 := 256) (a := 73) (m := 90) (n := 8) c112 fhB23 ehB23 rfl rfl (fun i j hi hj => fFr_rows (fFr_of hB20) (r := 329) (m := 90) (len := 8) (by decide +kernel) i j hi hj) (by decide) (by decide +kernel)
    refine And.intro ⟨rfl, by decide, by decide⟩ (fgetf fb_258_12 h0 hB23 ?_)
    intro z26 lz26 uz26 qz26
    refine And.intro ⟨rfl, by decide, by decide⟩ (And.intro rfl (And.intro (Or.inl rfl) (fputf fb_514_12 (by decide +kernel) hW (by first | exact ⟨lz26, uz26⟩ | omega) ?_)))
    intro IhB27 ehB27 hB27
    have t28 : IhB27 514 5 = IhB23 514 5 := (congrFun (congrFun ehB27 514) 5).trans (fup_ne (by first | decide | omega))
    have t29 : IhB27 514 10 = IhB23 514 10 := (congrFun (congrFun ehB27 514) 10).trans (fup_ne (by first | decide | omega))
    have t30 := fup_at ehB27 12 (by first | rfl | omega)
    have c131 := cop_fld (d1 := 512) (d2 := 256) (a := 2) (j0 := 12) c123 ehB27 rfl (qz26.trans (fBz_eq hB23 (a := 258) (j := 12) (by decide +kernel))) (by decide +kernel)
    exact ⟨rfl, by omega, c131⟩
set_option maxRecDepth 8000 in
theorem ct_City_becomeAs_a708a {I : fH}  (h0 : fB bsJ I)  : fC ρ base n F xTc vwCl xTys D dA la gJ (fbz bsJ znJ (fKc wz_7a224) I) xm_223 [.inr (.inr (some 513)), .inr (.inr (some 257))] I (fun I' r => r = none ∧ ((I' 514 5 = I 258 5 ∧ I' 514 10 = I 258 10 ∧ I' 513 9 = I 257 9) ∧ I' 675 13 = I 419 13) ∧ (∀ j : Nat, j < 24 → I' 676 j = I 420 j) ∧ (∀ i j : Nat, i < 3 → j < 61 → I' (696 + i) j = I (440 + i) j) ∧ (cR 512 I' = cR 256 I)) := by
  have hW : fzs wz_7a224 (fKc wz_7a224) := fKc_ok _
  refine f_meth (rb := rbJ) (J := []) 1 400 xG xin_223 x6_223 okJ (fB_self h0) ?_ ?_
  · exact fun q h => absurd h List.not_mem_nil
  · have hB0 := fB_self (zn := znJ) (K := fKc wz_7a224) h0
    refine And.intro ⟨rfl, by decide, by decide⟩ ?_
    refine And.intro ⟨rfl, by decide, by decide⟩ ?_
    refine Exists.intro xm_224 (And.intro mi_224 (And.intro ⟨rfl, rfl, rfl, rfl⟩ (And.intro rfl ?_)))
    refine fcall _ h0 (fzs_sub (by decide +kernel) hW) hB0 (ct_Cells_becomeAs_5a6fe (fBz h0 hB0)) ?_
    rintro IhB2 _ hB2 fhB2 ⟨rfl, hz1, g0z1⟩
    refine And.intro ⟨rfl, by decide, by decide⟩ ?_
    refine And.intro ⟨rfl, by decide, by decide⟩ ?_
    refine Exists.intro xm_226 (And.intro mi_226 (And.intro ⟨rfl, rfl, rfl, rfl⟩ (And.intro rfl ?_)))
    refine fcall _ h0 (fzs_sub (by decide +kernel) hW) hB2 (ct_Works_becomeAs_59e4c (fBz h0 hB2)) ?_
    rintro IhB4 _ hB4 fhB4 ⟨rfl, hz3, g0z3, g1z3⟩
    have t5 := fhB4 514 5 (by decide +kernel)
    have t6 := fhB4 514 10 (by decide +kernel)
    have w19 := fBz_eq hB2 (a := 419) (j := 13) (by decide +kernel)
    have c19 := cop_add g0z1 g1z3 fhB2 fhB4 (by decide +kernel) (by decide +kernel)
    refine And.intro ⟨rfl, by decide, by decide⟩ ?_
    refine And.intro ⟨rfl, by decide, by decide⟩ ?_
    refine Exists.intro xm_227 (And.intro mi_227 (And.intro ⟨rfl, rfl, rfl, rfl⟩ (And.intro rfl ?_)))
    refine fcall _ h0 (fzs_sub (by decide +kernel) hW) hB4 (ct_People_becomeAs_ae6e1 (fBz h0 hB4)) ?_
    rintro IhB8 _ hB8 fhB8 ⟨rfl, hz7, g0z7⟩
    have t9 := fhB8 514 5 (by decide +kernel)
    have t10 := fhB8 514 10 (by decide +kernel)
    have t11 := fhB8 675 13 (by decide +kernel)
    have c30 := cop_add c19 g0z7 (fFr_of hB4) fhB8 (by decide +kernel) (by decide +kernel)
    refine And.intro ⟨rfl, by decide, by decide⟩ ?_
    refine And.intro ⟨rfl, by decide, by decide⟩ ?_
    refine Exists.intro xm_75 (And.intro mi_75 (And.intro ⟨rfl, rfl, rfl, rfl⟩ (And.intro True.intro ?_)))
    refine fcall _ h0 (fzs_sub (by decide +kernel) hW) hB8 (ct_copyRow (W := [694]) (len := 6) (fBz h0 hB8) (frC_of (by decide +kernel))) ?_
    rintro IhB12 _ hB12 fhB12 ⟨rfl, ehB12⟩
    have t13 := fhB12 514 5 (by decide +kernel)
    have t14 := fhB12 514 10 (by decide +kernel)
    have t15 := fhB12 675 13 (by decide +kernel)
    have c41 := cop_row (d1 := 512) (d2 := 256) (a := 182) (n := 6) c30 ehB12 rfl rfl rfl (fun j _ => fFr_at (fFr_of hB8) 438 (by decide +kernel) rfl j) (by decide +kernel)
    refine And.intro ⟨rfl, by decide, by decide⟩ ?_
    refine And.intro ⟨rfl, by decide, by decide⟩ ?_
    refine Exists.intro xm_225 (And.intro mi_225 (And.intro ⟨rfl, rfl, rfl, rfl⟩ (And.intro True.intro ?_)))
    refine fcall _ h0 (fzs_sub (by decide +kernel) hW) hB12 (ct_copyRows (W := [695]) (m := 3) (len := 61) (ro := 440) (rd := 696) (fBz h0 hB12) (frCs_of ⟨rfl, rfl, rfl, rfl, by decide⟩ (by decide +kernel))) ?_
    rintro IhB16 _ hB16 fhB16 ⟨rfl, ehB16⟩
    have t17 := fhB16 514 5 (by decide +kernel)
    have t18 := fhB16 514 10 (by decide +kernel)
    have t19 := fhB16 675 13 (by decide +kernel)
    have c52 := cop_rows (d1 := 512) (d2 := 256) (a := 184) (m := 3) (n := 61) c41 fhB16 ehB16 rfl rfl (fun i j hi hj => fFr_rows (fFr_of hB12) (r := 440) (m := 3) (len := 61) (by decide +kernel) i j hi hj) (by decide) (by decide +kernel)
    refine And.intro ⟨rfl, by decide, by decide⟩ (fgetf fb_257_5 h0 hB16 ?_)
    intro z20 lz20 uz20 qz20
    refine And.intro ⟨rfl, by decide, by decide⟩ (And.intro rfl (And.intro (Or.inl rfl) (fputf fb_513_5 (by decide +kernel) hW (by first | exact ⟨lz20, uz20⟩ | omega) ?_)))
    intro IhB21 ehB21 hB21
    have t22 := fup_at ehB21 5 (by first | rfl | omega)
    have t23 : IhB21 514 5 = IhB16 514 5 := (congrFun (congrFun ehB21 514) 5).trans (fup_ne (by first | decide | omega))
    have t24 : IhB21 514 10 = IhB16 514 10 := (congrFun (congrFun ehB21 514) 10).trans (fup_ne (by first | decide | omega))
    have t25 : IhB21 675 13 = IhB16 675 13 := (congrFun (congrFun ehB21 675) 13).trans (fup_ne (by first | decide | omega))
    have c60 := cop_fld (d1 := 512) (d2 := 256) (a := 1) (j0 := 5) c52 ehB21 rfl (qz20.trans (fBz_eq hB16 (a := 257) (j := 5) (by decide +kernel))) (by decide +kernel)
    refine And.intro ⟨rfl, by decide, by decide⟩ (fgetf fb_257_6 h0 hB21 ?_)
    intro z26 lz26 uz26 qz26
    refine And.intro ⟨rfl, by decide, by decide⟩ (And.intro rfl (And.intro (Or.inl rfl) (fputf fb_513_6 (by decide +kernel) hW (by first | exact ⟨lz26, uz26⟩ | omega) ?_)))
    intro IhB27 ehB27 hB27
    have t28 : IhB27 513 5 = IhB21 513 5 := (congrFun (congrFun ehB27 513) 5).trans (fup_ne (by first | decide | omega))
    have t29 := fup_at ehB27 6 (by first | rfl | omega)
    have t30 : IhB27 514 5 = IhB21 514 5 := (congrFun (congrFun ehB27 514) 5).trans (fup_ne (by first | decide | omega))
    have t31 : IhB27 514 10 = IhB21 514 10 := (congrFun (congrFun ehB27 514) 10).trans (fup_ne (by first | decide | omega))
    have t32 : IhB27 675 13 = IhB21 675 13 := (congrFun (congrFun ehB27 675) 13).trans (fup_ne (by first | decide | omega))
    have c68 := cop_fld (d1 := 512) (d2 := 256) (a := 1) (j0 := 6) c60 ehB27 rfl (qz26.trans (fBz_eq hB21 (a := 257) (j := 6) (by decide +kernel))) (by decide +kernel)
    refine And.intro ⟨rfl, by decide, by decide⟩ (fgetf fb_257_7 h0 hB27 ?_)
    intro z33 lz33 uz33 qz33
    refine And.intro ⟨rfl, by decide, by decide⟩ (And.intro rfl (And.intro (Or.inl rfl) (fputf fb_513_7 (by decide +kernel) hW (by first | exact ⟨lz33, uz33⟩ | omega) ?_)))
    intro IhB34 ehB34 hB34
    have t35 : IhB34 513 5 = IhB27 513 5 := (congrFun (congrFun ehB34 513) 5).trans (fup_ne (by first | decide | omega))
    have t36 : IhB34 513 6 = IhB27 513 6 := (congrFun (congrFun ehB34 513) 6).trans (fup_ne (by first | decide | omega))
    have t37 := fup_at ehB34 7 (by first | rfl | omega)
    have t38 : IhB34 514 5 = IhB27 514 5 := (congrFun (congrFun ehB34 514) 5).trans (fup_ne (by first | decide | omega))
    have t39 : IhB34 514 10 = IhB27 514 10 := (congrFun (congrFun ehB34 514) 10).trans (fup_ne (by first | decide | omega))
    have t40 : IhB34 675 13 = IhB27 675 13 := (congrFun (congrFun ehB34 675) 13).trans (fup_ne (by first | decide | omega))
    have c76 := cop_fld (d1 := 512) (d2 := 256) (a := 1) (j0 := 7) c68 ehB34 rfl (qz33.trans (fBz_eq hB27 (a := 257) (j := 7) (by decide +kernel))) (by decide +kernel)
    refine And.intro ⟨rfl, by decide, by decide⟩ (fgetf fb_257_8 h0 hB34 ?_)
    intro z41 lz41 uz41 qz41
    refine And.intro ⟨rfl, by decide, by decide⟩ (And.intro rfl (And.intro (Or.inl rfl) (fputf fb_513_8 (by decide +kernel) hW (by first | exact ⟨lz41, uz41⟩ | omega) ?_)))
    intro IhB42 ehB42 hB42
    have t43 : IhB42 513 5 = IhB34 513 5 := (congrFun (congrFun ehB42 513) 5).trans (fup_ne (by first | decide | omega))
    have t44 : IhB42 513 6 = IhB34 513 6 := (congrFun (congrFun ehB42 513) 6).trans (fup_ne (by first | decide | omega))
    have t45 : IhB42 513 7 = IhB34 513 7 := (congrFun (congrFun ehB42 513) 7).trans (fup_ne (by first | decide | omega))
    have t46 := fup_at ehB42 8 (by first | rfl | omega)
    have t47 : IhB42 514 5 = IhB34 514 5 := (congrFun (congrFun ehB42 514) 5).trans (fup_ne (by first | decide | omega))
    have t48 : IhB42 514 10 = IhB34 514 10 := (congrFun (congrFun ehB42 514) 10).trans (fup_ne (by first | decide | omega))
    have t49 : IhB42 675 13 = IhB34 675 13 := (congrFun (congrFun ehB42 675) 13).trans (fup_ne (by first | decide | omega))
    have c84 := cop_fld (d1 := 512) (d2 := 256) (a := 1) (j0 := 8) c76 ehB42 rfl (qz41.trans (fBz_eq hB34 (a := 257) (j := 8) (by decide +kernel))) (by decide +kernel)
    refine And.intro ⟨rfl, by decide, by decide⟩ (fgetf fb_257_9 h0 hB42 ?_)
    intro z50 lz50 uz50 qz50
    have k51 := fBz_eq hB42 (a := 257) (j := 9) (by decide +kernel)
    refine And.intro ⟨rfl, by decide, by decide⟩ (And.intro rfl (And.intro (Or.inl rfl) (fputf fb_513_9 (by decide +kernel) hW (by first | exact ⟨lz50, uz50⟩ | omega) ?_)))
    intro IhB52 ehB52 hB52
    have t53 : IhB52 513 5 = IhB42 513 5 := (congrFun (congrFun ehB52 513) 5).trans (fup_ne (by first | decide | omega))
    have t54 : IhB52 513 6 = IhB42 513 6 := (congrFun (congrFun ehB52 513) 6).trans (fup_ne (by first | decide | omega))
    have t55 : IhB52 513 7 = IhB42 513 7 := (congrFun (congrFun ehB52 513) 7).trans (fup_ne (by first | decide | omega))
    have t56 : IhB52 513 8 = IhB42 513 8 := (congrFun (congrFun ehB52 513) 8).trans (fup_ne (by first | decide | omega))
    have t57 := fup_at ehB52 9 (by first | rfl | omega)
    have t58 : IhB52 514 5 = IhB42 514 5 := (congrFun (congrFun ehB52 514) 5).trans (fup_ne (by first | decide | omega))
    have t59 : IhB52 514 10 = IhB42 514 10 := (congrFun (congrFun ehB52 514) 10).trans (fup_ne (by first | decide | omega))
    have t60 : IhB52 675 13 = IhB42 675 13 := (congrFun (congrFun ehB52 675) 13).trans (fup_ne (by first | decide | omega))
    have c92 := cop_fld (d1 := 512) (d2 := 256) (a := 1) (j0 := 9) c84 ehB52 rfl (qz50.trans (fBz_eq hB42 (a := 257) (j := 9) (by decide +kernel))) (by decide +kernel)
    exact ⟨rfl, by omega, (fun j hj => ((fup_other ehB52 676 j (Or.inl (by omega))).trans ((fup_other ehB42 676 j (Or.inl (by omega))).trans ((fup_other ehB34 676 j (Or.inl (by omega))).trans ((fup_other ehB27 676 j (Or.inl (by omega))).trans ((fup_other ehB21 676 j (Or.inl (by omega))).trans ((fFr_at fhB16 676 (by decide +kernel) rfl j).trans (((congrFun (congrFun ehB12 676) j).trans (fcpy_ne (by omega))).trans ((fFr_at fhB8 676 (by decide +kernel) rfl j).trans ((g0z3 j hj).trans (fFr_at (fFr_of hB2) 420 (by decide +kernel) rfl j))))))))))), (fun i j hi hj => ((fup_other ehB52 (696 + i) j (Or.inl (by omega))).trans ((fup_other ehB42 (696 + i) j (Or.inl (by omega))).trans ((fup_other ehB34 (696 + i) j (Or.inl (by omega))).trans ((fup_other ehB27 (696 + i) j (Or.inl (by omega))).trans ((fup_other ehB21 (696 + i) j (Or.inl (by omega))).trans ((ehB16 i hi j hj).trans (fFr_rows (fFr_of hB12) (r := 440) (m := 3) (len := 61) (by decide +kernel) i j hi hj)))))))), (cR_cop (L := cpA) c92 cpA_ok)⟩
abbrev jc_Cells_oxygen_5c56e_4 : Nat → fL → List fV → fH → Prop := fun m lv st I => ∃ (y1 : Int) (y2 : Int), lv = [(0, .inr (.inr (some 514))), (1, .inl y1), (2, .inl y2)] ∧ st = [] ∧ ((((-2147483648) ≤ y1 ∧ y1 ≤ 2147483647) ∧ (0 ≤ y2 ∧ y2 ≤ 20))) ∧ m = (1 + 1 * (20 - y2) : Int).toNat
set_option maxRecDepth 8000 in
theorem ct_Cells_oxygen_5c56e {I : fH}  (h0 : fB bsJ I)  : fC ρ base n F xTc vwCl xTys D dA la gJ (fbz bsJ znJ (fKc []) I) xm_228 [.inr (.inr (some 514))] I (fun _ r => ∃ z, r = some (.inl z) ∧ ((-2147483648) ≤ z ∧ z ≤ 2147483647)) := by
  have hW : fzs [] (fKc []) := fKc_ok _
  refine f_meth (rb := rbJ) (J := [(4, jc_Cells_oxygen_5c56e_4)]) 22 400 xG xin_228 x6_228 okJ (fB_self h0) ?_ ?_
  · refine List.forall_mem_cons.mpr ⟨?_, fun q h => absurd h List.not_mem_nil⟩
    · rintro m _ _ I1 hB1 ⟨y1, y2, rfl, rfl, hb, hm⟩
      refine And.intro ⟨rfl, by decide, by decide⟩ (fgetf fb_514_5 h0 hB1 ?_)
      intro z1 lz1 uz1 qz1
      refine And.intro (And.intro (by first | exact fi_ hb.2.1 hb.2.2 rfl | omega) (by first | exact fi_ lz1 uz1 rfl | omega)) (And.intro ?_ ?_)
      · intro c2
        refine And.intro (True.intro) ?_
        exact ⟨_, rfl, (by first | exact ⟨hb.1.1, hb.1.2⟩ | omega)⟩
      · intro c3
        refine And.intro ⟨rfl, by decide, by decide⟩ ?_
        refine And.intro ⟨rfl, by decide⟩ (And.intro (by first | exact ⟨hb.2.1, Int.lt_of_le_of_lt (Int.le_sub_one_of_lt (Int.lt_of_lt_of_le c3 uz1)) (by decide)⟩ | omega) ?_)
        refine fload rL_518_537_0_4_1_0 h0 hB1 (by omega) ?_
        intro z4 lz4 uz4 qz4
        intro z5 hz5 ez5 bz5
        clear ez5
        clear bz5
        exact fcutJ (I := I1) (j := jc_Cells_oxygen_5c56e_4) (lv' := [(0, .inr (.inr (some 514))), (1, .inl _), (2, .inl _)]) (And.intro rfl (And.intro rfl (And.intro rfl True.intro))) ⟨_, _, rfl, rfl, by omega, rfl⟩ (by omega)
  · have hB0 := fB_self (zn := znJ) (K := fKc []) h0
    exact fcutJ (I := I) (j := jc_Cells_oxygen_5c56e_4) (lv' := [(0, .inr (.inr (some 514))), (1, .inl _), (2, .inl _)]) (And.intro rfl (And.intro rfl (And.intro rfl True.intro))) ⟨_, _, rfl, rfl, by omega, rfl⟩ (by omega)
abbrev jc_X_checkDay_bd195_34 (I0 : fH) : Nat → fL → List fV → fH → Prop := fun m lv st I => ∃ (y1 : Int) (y2 : Int) (y3 : Int) (y4 : Int), lv = [(0, .inr (.inr (some 0))), (1, .inl y1), (2, .inl y2), (3, .inl y3), (4, .inl y4)] ∧ st = [] ∧ (((1 ≤ y1 ∧ y1 ≤ 24) ∧ (0 ≤ y2 ∧ y2 ≤ 60) ∧ (0 ≤ y3 ∧ y3 ≤ 24) ∧ (0 ≤ y4 ∧ y4 ≤ 24) ∧ (1 ≤ I 0 6 ∧ I 0 6 ≤ 1) ∧ (0 ≤ I 513 9) ∧ (I 513 9 ≤ 22000 + 60 * y4)) ∧ (cR 512 I = nMin (cR 256 I0) (60 * y4).toNat) ∧ (okA (cR 512 I)) ∧ (okB (cR 512 I))) ∧ m = (62 + 62 * (24 - y4) : Int).toNat
abbrev jc_X_checkDay_bd195_43 (I0 : fH) : Nat → fL → List fV → fH → Prop := fun m lv st I => ∃ (y1 : Int) (y2 : Int) (y3 : Int) (y4 : Int) (y5 : Int), lv = [(0, .inr (.inr (some 0))), (1, .inl y1), (2, .inl y2), (3, .inl y3), (4, .inl y4), (5, .inl y5)] ∧ st = [] ∧ (((1 ≤ y1 ∧ y1 ≤ 24) ∧ (0 ≤ y2 ∧ y2 ≤ 60) ∧ (1 ≤ y3 ∧ y3 ≤ 24) ∧ (0 ≤ y4 ∧ y4 ≤ 23) ∧ (0 ≤ y5 ∧ y5 ≤ 60) ∧ (1 ≤ I 0 6 ∧ I 0 6 ≤ 1) ∧ (0 ≤ I 513 9) ∧ (I 513 9 ≤ 22000 + 60 * y4 + y5)) ∧ (cR 512 I = nMin (cR 256 I0) (60 * y4 + y5).toNat) ∧ (okA (cR 512 I)) ∧ (okB (cR 512 I))) ∧ m = (1 + 62 * (24 - y4) + 1 * (60 - y5) : Int).toNat
set_option maxRecDepth 8000 in
theorem ct_X_checkDay_bd195 {I : fH} {x1 : Int} {x2 : Int} (h0 : fB bsJ I) (ha1 : (1 ≤ x1 ∧ x1 ≤ 24)) (ha2 : (0 ≤ x2 ∧ x2 ≤ 60)) (hp0 : I 0 6 = 1 → okA (cR 256 I)) (hp1 : I 0 6 = 1 → okB (cR 256 I)) (hp2 : I 0 6 = 1 → okMi (cR 256 I)) : fC ρ base n F xTc vwCl xTys D dA la gJ (fbz bsJ znJ (fKc wz_920bb) I) xm_222 [.inr (.inr (some 0)), .inl x1, .inl x2] I (fun _ r => ∃ z, r = some (.inl z) ∧ ((0 ≤ z ∧ z ≤ 49) ∨ z = (-1000000002))) := by
  have hW : fzs wz_920bb (fKc wz_920bb) := fKc_ok _
  refine f_meth (rb := rbJ) (J := [(34, (jc_X_checkDay_bd195_34 I)), (43, (jc_X_checkDay_bd195_43 I))]) 1551 400 xG xin_222 x6_222 okJ (fB_self h0) ?_ ?_
  · refine List.forall_mem_cons.mpr ⟨?_, List.forall_mem_cons.mpr ⟨?_, fun q h => absurd h List.not_mem_nil⟩⟩
    · rintro m _ _ I1 hB1 ⟨y1, y2, y3, y4, rfl, rfl, ⟨hb, hx0, hx1, hx2⟩, hm⟩
      refine And.intro (And.intro (by first | exact fi_ hb.2.2.2.1.1 hb.2.2.2.1.2 rfl | omega) (by first | exact fi_ hb.2.2.1.1 hb.2.2.1.2 rfl | omega)) (And.intro ?_ ?_)
      · intro c1
        refine Exists.intro xm_220 (And.intro mi_220 (And.intro ⟨rfl, rfl, rfl, rfl⟩ (And.intro rfl ?_)))
        refine fcallp hB1 (ct_X_firstWrong_4e02b (fBz h0 hB1) (by omega) (by first | exact ⟨hb.2.1.1, hb.2.1.2⟩ | omega)) ?_
        rintro _ ⟨z2, rfl, hz2⟩
        refine And.intro (True.intro) ?_
        exact ⟨_, rfl, by omega⟩
      · intro c3
        exact fcutJ (I := I1) (j := (jc_X_checkDay_bd195_43 I)) (lv' := [(0, .inr (.inr (some 0))), (1, .inl _), (2, .inl _), (3, .inl _), (4, .inl _), (5, .inl _)]) (And.intro rfl (And.intro rfl (And.intro rfl (And.intro rfl (And.intro rfl (And.intro rfl True.intro)))))) ⟨_, _, _, _, _, rfl, rfl, ⟨by omega, (nMin_e hx0 (by omega)), hx1, hx2⟩, rfl⟩ (by omega)
    · rintro m _ _ I1 hB1 ⟨y1, y2, y3, y4, y5, rfl, rfl, ⟨hb, hx0, hx1, hx2⟩, hm⟩
      refine And.intro (And.intro (by first | exact fi_ hb.2.2.2.2.1.1 hb.2.2.2.2.1.2 rfl | omega) (by first | exact ⟨by decide, by decide⟩ | omega)) (And.intro ?_ ?_)
      · intro c4
        refine And.intro ⟨rfl, by decide, by decide⟩ ?_
        refine And.intro ⟨rfl, by decide, by decide⟩ ?_
        refine And.intro ⟨rfl, by decide, by decide⟩ (fgetf fb_513_5 h0 hB1 ?_)
        intro z5 lz5 uz5 qz5
        refine fstore rS_739_739_0_59_1_0 (fzs_sub (by decide +kernel) hW) (by omega) (by first | exact ⟨Int.le_trans (by decide) lz5, Int.le_trans uz5 (by decide)⟩ | omega) ?_
        intro IhB6 ehB6 hB6
        have t7 := fup_self ehB6
        have t8 : IhB6 0 6 = I1 0 6 := (congrFun (congrFun ehB6 0) 6).trans (fup_ne (by first | exact Or.inl (by decide) | omega))
        have t9 : IhB6 513 5 = I1 513 5 := (congrFun (congrFun ehB6 513) 5).trans (fup_ne (by first | exact Or.inl (by decide) | omega))
        have t10 : IhB6 513 9 = I1 513 9 := (congrFun (congrFun ehB6 513) 9).trans (fup_ne (by first | exact Or.inl (by decide) | omega))
        refine And.intro ⟨rfl, by decide, by decide⟩ ?_
        refine And.intro ⟨rfl, by decide, by decide⟩ ?_
        refine And.intro ⟨rfl, by decide, by decide⟩ ?_
        refine Exists.intro xm_228 (And.intro mi_228 (And.intro ⟨rfl, rfl, rfl, rfl⟩ (And.intro rfl ?_)))
        refine fcallp hB6 (ct_Cells_oxygen_5c56e (fBz h0 hB6)) ?_
        rintro _ ⟨z11, rfl, hz11⟩
        refine fstore rS_739_739_0_59_1_0 (fzs_sub (by decide +kernel) hW) (by omega) (by first | exact ⟨hz11.1, hz11.2⟩ | omega) ?_
        intro IhB12 ehB12 hB12
        have t13 := fup_self ehB12
        have t14 : IhB12 0 6 = IhB6 0 6 := (congrFun (congrFun ehB12 0) 6).trans (fup_ne (by first | exact Or.inl (by decide) | omega))
        have t15 : IhB12 513 5 = IhB6 513 5 := (congrFun (congrFun ehB12 513) 5).trans (fup_ne (by first | exact Or.inl (by decide) | omega))
        have t16 : IhB12 513 9 = IhB6 513 9 := (congrFun (congrFun ehB12 513) 9).trans (fup_ne (by first | exact Or.inl (by decide) | omega))
        exact fcutJ (I := IhB12) (j := (jc_X_checkDay_bd195_34 I)) (lv' := [(0, .inr (.inr (some 0))), (1, .inl _), (2, .inl _), (3, .inl _), (4, .inl _)]) (And.intro rfl (And.intro rfl (And.intro rfl (And.intro rfl (And.intro rfl True.intro))))) ⟨_, _, _, _, rfl, rfl, ⟨by omega, (((cR_ot ehB12 (Or.inr (by decide))).trans (cR_ot ehB6 (Or.inr (by decide)))).trans (nMin_e hx0 (by omega))), (by rw [cR_ot ehB12 (Or.inr (by decide)), cR_ot ehB6 (Or.inr (by decide))]; exact hx1), (by rw [cR_ot ehB12 (Or.inr (by decide)), cR_ot ehB6 (Or.inr (by decide))]; exact hx2)⟩, rfl⟩ (by omega)
      · intro c17
        refine And.intro ⟨rfl, by decide, by decide⟩ ?_
        refine Exists.intro xm_73 (And.intro mi_73 (And.intro ⟨rfl, rfl, rfl, rfl⟩ (And.intro rfl ?_)))
        refine fcall _ h0 (fzs_sub (by decide +kernel) hW) hB1 (ct_City_passMinute_b0540 (fBz h0 hB1) hx1 hx2 (by have q : I1 513 9 = gt (cR 512 I1) 0 := (cL_f (d := 512) (a := 1) (j := 9) (r := 0) (p := 0) (I := I1) (z := I1 513 9) (by decide +kernel) (by decide) rfl rfl); omega)) ?_
        rintro IhB19 _ hB19 fhB19 ⟨rfl, hz18, g0z18, g1z18, g2z18⟩
        have t20 := fhB19 0 6 (by decide +kernel)
        exact fcutJ (I := IhB19) (j := (jc_X_checkDay_bd195_43 I)) (lv' := [(0, .inr (.inr (some 0))), (1, .inl _), (2, .inl _), (3, .inl _), (4, .inl _), (5, .inl _)]) (And.intro rfl (And.intro rfl (And.intro rfl (And.intro rfl (And.intro rfl (And.intro rfl True.intro)))))) ⟨_, _, _, _, _, rfl, rfl, ⟨by omega, (nMin_S hx0 (by omega) (by omega) g2z18), g0z18, g1z18⟩, rfl⟩ (by omega)
  · have hB0 := fB_self (zn := znJ) (K := fKc wz_920bb) h0
    refine And.intro ⟨rfl, by decide, by decide⟩ (fgetf fb_0_6 h0 hB0 ?_)
    intro z21 lz21 uz21 qz21
    refine And.intro (by first | exact fi_ lz21 uz21 rfl | omega) (And.intro ?_ ?_)
    · intro c22
      refine And.intro ⟨rfl, by decide, by decide⟩ ?_
      refine And.intro ⟨rfl, by decide, by decide⟩ ?_
      refine Exists.intro xm_223 (And.intro mi_223 (And.intro ⟨rfl, rfl, rfl, rfl⟩ (And.intro rfl ?_)))
      refine fcall _ h0 (fzs_sub (by decide +kernel) hW) hB0 (ct_City_becomeAs_a708a (fBz h0 hB0)) ?_
      rintro IhB24 _ hB24 fhB24 ⟨rfl, hz23, g0z23, g1z23, g2z23⟩
      have t25 := fhB24 0 6 (by decide +kernel)
      have q18 : IhB24 513 9 = gt (cR 512 IhB24) 0 := (cL_f (d := 512) (a := 1) (j := 9) (r := 0) (p := 0) (I := IhB24) (z := IhB24 513 9) (by decide +kernel) (by decide) rfl rfl)
      rw [g2z23] at q18
      have p18 := hp2 (by omega)
      unfold okMi at p18
      refine And.intro (And.intro (by omega) (And.intro (by first | exact ⟨by decide, by decide⟩ | omega) (And.intro (by first | exact by decide | omega) rfl))) ?_
      intro z26 hz26 ez26 dz26
      have dz26 := dz26 (by omega) (by omega)
      change _ = _ / _ at dz26
      refine And.intro (And.intro (by first | exact fi_ ha1.1 ha1.2 rfl | omega) (And.intro (by omega) rfl)) ?_
      intro z27 hz27
      exact fcutJ (I := IhB24) (j := (jc_X_checkDay_bd195_34 I)) (lv' := [(0, .inr (.inr (some 0))), (1, .inl _), (2, .inl _), (3, .inl _), (4, .inl _)]) (And.intro rfl (And.intro rfl (And.intro rfl (And.intro rfl (And.intro rfl True.intro))))) ⟨_, _, _, _, rfl, rfl, ⟨by omega, (nMin_z g2z23 (by omega)), (by rw [g2z23]; exact hp0 (by omega)), (by rw [g2z23]; exact hp1 (by omega))⟩, rfl⟩ (by omega)
    · intro c28
      refine And.intro (True.intro) ?_
      exact ⟨_, rfl, by omega⟩
set_option maxRecDepth 8000 in
theorem ct_X_check_a63a8 {I : fH} {x1 : Int} {x2 : Int} {x3 : Int} (h0 : fB bsJ I) (ha1 : ((-2147483648) ≤ x1 ∧ x1 ≤ 2147483647)) (ha2 : ((-2147483648) ≤ x2 ∧ x2 ≤ 2147483647)) (ha3 : ((-2147483648) ≤ x3 ∧ x3 ≤ 2147483647)) (hp0 : I 0 6 = 1 → okA (cR 256 I)) (hp1 : I 0 6 = 1 → okB (cR 256 I)) (hp2 : I 0 6 = 1 → okMi (cR 256 I)) : fC ρ base n F xTc vwCl xTys D dA la gJ (fbz bsJ znJ (fKc wz_04d21) I) xm_218 [.inr (.inr (some 0)), .inl x1, .inl x2, .inl x3] I (fun I' r => ∃ z, r = some (.inl z) ∧ (((-2147483648) ≤ z ∧ z ≤ 49) ∧ (I' 0 14 = 0))) := by
  have hW : fzs wz_04d21 (fKc wz_04d21) := fKc_ok _
  refine f_meth (rb := rbJ) (J := []) 1 400 xG xin_218 x6_218 okJ (fB_self h0) ?_ ?_
  · exact fun q h => absurd h List.not_mem_nil
  · have hB0 := fB_self (zn := znJ) (K := fKc wz_04d21) h0
    refine And.intro ⟨rfl, by decide, by decide⟩ (fgetf fb_0_14 h0 hB0 ?_)
    intro z1 lz1 uz1 qz1
    refine And.intro ⟨rfl, by decide, by decide⟩ (And.intro rfl (And.intro (Or.inl rfl) (fputf fb_0_14 (by decide +kernel) hW (by first | exact ⟨by decide, by decide⟩ | omega) ?_)))
    intro IhB2 ehB2 hB2
    have t3 := fup_at ehB2 14 (by first | rfl | omega)
    refine And.intro (by first | exact fi_ ha1.1 ha1.2 rfl | omega) (And.intro ?_ ?_)
    · refine And.intro (fun ex => ?_) (And.intro (fun ex => ?_) (And.intro (fun ex => ?_) (True.intro)))
      · skip
        refine Exists.intro xm_13 (And.intro mi_13 (And.intro ⟨rfl, rfl, rfl, rfl⟩ (And.intro True.intro ?_)))
        refine fcallp hB2 (ct_X_within_c27b1 (fBz h0 hB2) (by first | exact ⟨ha2.1, ha2.2⟩ | omega) (by first | exact ⟨by decide, by decide⟩ | omega) (by first | exact ⟨by decide, by decide⟩ | omega)) ?_
        rintro _ ⟨z4, rfl, hz4⟩
        refine And.intro (by omega) (And.intro ?_ ?_)
        · intro c5
          refine And.intro (True.intro) ?_
          exact ⟨_, rfl, by omega⟩
        · intro c6
          refine Exists.intro xm_13 (And.intro mi_13 (And.intro ⟨rfl, rfl, rfl, rfl⟩ (And.intro True.intro ?_)))
          refine fcallp hB2 (ct_X_within_c27b1 (fBz h0 hB2) (by first | exact ⟨ha3.1, ha3.2⟩ | omega) (by first | exact ⟨by decide, by decide⟩ | omega) (by first | exact ⟨by decide, by decide⟩ | omega)) ?_
          rintro _ ⟨z7, rfl, hz7⟩
          refine And.intro (by omega) (And.intro ?_ ?_)
          · intro c8
            refine And.intro (True.intro) ?_
            exact ⟨_, rfl, by omega⟩
          · intro c9
            refine Exists.intro xm_219 (And.intro mi_219 (And.intro ⟨rfl, rfl, rfl, rfl⟩ (And.intro rfl ?_)))
            refine fcall _ h0 (fzs_sub (by decide +kernel) hW) hB2 (ct_X_checkLoads_0f880 (fBz h0 hB2) (by first | exact ⟨Int.le_trans (by decide) (Int.le_trans (Int.le_refl _) hz4.1), Int.le_trans (Int.le_trans hz4.2 (Int.le_refl _)) (by decide)⟩ | omega) (by first | exact ⟨Int.le_trans (by decide) (Int.le_trans (Int.le_refl _) hz7.1), Int.le_trans (Int.le_trans hz7.2 (Int.le_refl _)) (by decide)⟩ | omega) (by first | exact ⟨lz1, uz1⟩ | omega)) ?_
            rintro IhB11 _ hB11 fhB11 ⟨z10, rfl, hz10⟩
            have t12 := fhB11 0 14 (by decide +kernel)
            refine And.intro (True.intro) ?_
            exact ⟨_, rfl, by omega⟩
      · skip
        refine Exists.intro xm_13 (And.intro mi_13 (And.intro ⟨rfl, rfl, rfl, rfl⟩ (And.intro True.intro ?_)))
        refine fcallp hB2 (ct_X_within_c27b1 (fBz h0 hB2) (by first | exact ⟨ha2.1, ha2.2⟩ | omega) (by first | exact ⟨by decide, by decide⟩ | omega) (by first | exact ⟨by decide, by decide⟩ | omega)) ?_
        rintro _ ⟨z13, rfl, hz13⟩
        refine And.intro (by omega) (And.intro ?_ ?_)
        · intro c14
          refine And.intro (True.intro) ?_
          exact ⟨_, rfl, by omega⟩
        · intro c15
          refine Exists.intro xm_221 (And.intro mi_221 (And.intro ⟨rfl, rfl, rfl, rfl⟩ (And.intro rfl ?_)))
          refine fcall _ h0 (fzs_sub (by decide +kernel) hW) hB2 (ct_X_checkOrder_93ad1 (fBz h0 hB2) (by first | exact ⟨Int.le_trans (by decide) (Int.le_trans (Int.le_refl _) hz13.1), Int.le_trans (Int.le_trans hz13.2 (Int.le_refl _)) (by decide)⟩ | omega) (by first | exact ⟨lz1, uz1⟩ | omega)) ?_
          rintro IhB17 _ hB17 fhB17 ⟨z16, rfl, hz16⟩
          have t18 := fhB17 0 14 (by decide +kernel)
          refine And.intro (True.intro) ?_
          exact ⟨_, rfl, by omega⟩
      · skip
        refine Exists.intro xm_13 (And.intro mi_13 (And.intro ⟨rfl, rfl, rfl, rfl⟩ (And.intro True.intro ?_)))
        refine fcallp hB2 (ct_X_within_c27b1 (fBz h0 hB2) (by first | exact ⟨ha2.1, ha2.2⟩ | omega) (by first | exact ⟨by decide, by decide⟩ | omega) (by first | exact ⟨by decide, by decide⟩ | omega)) ?_
        rintro _ ⟨z19, rfl, hz19⟩
        refine And.intro (by omega) (And.intro ?_ ?_)
        · intro c20
          refine And.intro (True.intro) ?_
          exact ⟨_, rfl, by omega⟩
        · intro c21
          refine Exists.intro xm_222 (And.intro mi_222 (And.intro ⟨rfl, rfl, rfl, rfl⟩ (And.intro rfl ?_)))
          refine fcall _ h0 (fzs_sub (by decide +kernel) hW) hB2 (ct_X_checkDay_bd195 (fBz h0 hB2) (by first | exact ⟨Int.le_trans (by decide) (Int.le_trans (Int.le_refl _) hz19.1), Int.le_trans (Int.le_trans hz19.2 (Int.le_refl _)) (by decide)⟩ | omega) (by first | exact ⟨lz1, uz1⟩ | omega) (fun q => by rw [cR_ot ehB2 (Or.inl (by decide))]; exact hp0 (by rw [ehB2, fup_ne (Or.inr (by decide))] at q; exact q)) (fun q => by rw [cR_ot ehB2 (Or.inl (by decide))]; exact hp1 (by rw [ehB2, fup_ne (Or.inr (by decide))] at q; exact q)) (fun q => by rw [cR_ot ehB2 (Or.inl (by decide))]; exact hp2 (by rw [ehB2, fup_ne (Or.inr (by decide))] at q; exact q))) ?_
          rintro IhB23 _ hB23 fhB23 ⟨z22, rfl, hz22⟩
          have t24 := fhB23 0 14 (by decide +kernel)
          refine And.intro (True.intro) ?_
          exact ⟨_, rfl, by omega⟩
    · intro c25
      refine And.intro (True.intro) ?_
      exact ⟨_, rfl, by omega⟩
set_option maxRecDepth 8000 in
theorem ct_M_dueIs_00623 {I : fH} {x1 : Int} {x2 : Int} (h0 : fB bsJ I) (ha1 : (0 ≤ x1 ∧ x1 ≤ 600)) (ha2 : ((-2147483648) ≤ x2 ∧ x2 ≤ 2147483647)) (hp0 : I 740 39 ≤ 58) : fC ρ base n F xTc vwCl xTys D dA la gJ (fbz bsJ znJ (fKc wz_518f7) I) xm_491 [.inr (.inr (some 740)), .inl x1, .inl x2] I (fun I' r => r = none ∧ I' 740 39 = I 740 39 + 2) := by
  have hW : fzs wz_518f7 (fKc wz_518f7) := fKc_ok _
  refine f_meth (rb := rbJ) (J := []) 1 400 xG xin_491 x6_491 okJ (fB_self h0) ?_ ?_
  · exact fun q h => absurd h List.not_mem_nil
  · have hB0 := fB_self (zn := znJ) (K := fKc wz_518f7) h0
    refine And.intro ⟨rfl, by decide, by decide⟩ ?_
    refine And.intro ⟨rfl, by decide, by decide⟩ (fgetf fb_740_39 h0 hB0 ?_)
    intro z1 lz1 uz1 qz1
    refine fstore rS_760_760_0_59_1_0 (fzs_sub (by decide +kernel) hW) (by omega) (by first | exact ⟨Int.le_trans (by decide) ha1.1, Int.le_trans ha1.2 (by decide)⟩ | omega) ?_
    intro IhB2 ehB2 hB2
    have t3 := fup_self ehB2
    have t4 : IhB2 740 39 = I 740 39 := (congrFun (congrFun ehB2 740) 39).trans (fup_ne (by first | exact Or.inl (by decide) | omega))
    refine And.intro ⟨rfl, by decide, by decide⟩ ?_
    refine And.intro ⟨rfl, by decide, by decide⟩ (fgetf fb_740_39 h0 hB2 ?_)
    intro z5 lz5 uz5 qz5
    refine fstore rS_760_760_0_59_1_0 (fzs_sub (by decide +kernel) hW) (by omega) (by first | exact ⟨ha2.1, ha2.2⟩ | omega) ?_
    intro IhB6 ehB6 hB6
    have t7 := fup_self ehB6
    have t8 : IhB6 740 39 = IhB2 740 39 := (congrFun (congrFun ehB6 740) 39).trans (fup_ne (by first | exact Or.inl (by decide) | omega))
    refine And.intro ⟨rfl, by decide, by decide⟩ (fgetf fb_740_39 h0 hB6 ?_)
    intro z9 lz9 uz9 qz9
    refine And.intro ⟨rfl, by decide, by decide⟩ (And.intro rfl (And.intro (Or.inl rfl) (fputf fb_740_39 (by decide +kernel) hW (by omega) ?_)))
    intro IhB10 ehB10 hB10
    have t11 := fup_at ehB10 39 (by first | rfl | omega)
    exact ⟨rfl, by omega⟩
abbrev jc_M_rowsOfLoads_5fe0b_31 (x1 : Int) (x2 : Int) : Nat → fL → List fV → fH → Prop := fun m lv st I => ∃ (y1 : Int) (y3 : Int) (y4 : Int), lv = [(0, .inr (.inr (some 740))), (1, .inl y1), (3, .inl y3), (4, .inl y4)] ∧ st = [] ∧ (((1 ≤ y1 ∧ y1 ≤ 24) ∧ (0 ≤ y3 ∧ y3 ≤ 300) ∧ (0 ≤ y4 ∧ y4 ≤ 24) ∧ (y3 ≤ x2) ∧ (y1 = x1) ∧ (I 740 39 = 2 * y4)) ∧ (∀ i b : Int, 0 ≤ i → i < x1 → 0 ≤ b → b ≤ x2 → sLd I i b) ∧ (y4 < x1 → I 756 (301 * y4 + y3).toNat ≠ 1000000)) ∧ m = (1 + 1 * (24 - y4) : Int).toNat
set_option maxRecDepth 8000 in
theorem ct_M_rowsOfLoads_5fe0b {I : fH} {x1 : Int} {x2 : Int} (h0 : fB bsJ I) (ha1 : ((-2147483648) ≤ x1 ∧ x1 ≤ 2147483647)) (ha2 : ((-2147483648) ≤ x2 ∧ x2 ≤ 2147483647)) (hp0 : I 740 39 = 0) : fC ρ base n F xTc vwCl xTys D dA la gJ (fbz bsJ znJ (fKc wz_7bd74) I) xm_490 [.inr (.inr (some 740)), .inl x1, .inl x2] I (fun _ r => ∃ z, r = some (.inl z) ∧ ((0 ≤ z ∧ z ≤ 0) ∨ z = (-1000000005) ∨ z = (-1000000001))) := by
  have hW : fzs wz_7bd74 (fKc wz_7bd74) := fKc_ok _
  refine f_meth (rb := rbJ) (J := [(31, (jc_M_rowsOfLoads_5fe0b_31 x1 x2))]) 26 400 xG xin_490 x6_490 okJ (fB_self h0) ?_ ?_
  · refine List.forall_mem_cons.mpr ⟨?_, fun q h => absurd h List.not_mem_nil⟩
    · rintro m _ _ I1 hB1 ⟨y1, y3, y4, rfl, rfl, ⟨hb, hx0, hx1⟩, hm⟩
      refine And.intro (And.intro (by first | exact fi_ hb.2.2.1.1 hb.2.2.1.2 rfl | omega) (by first | exact fi_ hb.1.1 hb.1.2 rfl | omega)) (And.intro ?_ ?_)
      · intro c1
        refine And.intro (True.intro) ?_
        exact ⟨_, rfl, by omega⟩
      · intro c2
        refine Exists.intro xm_469 (And.intro mi_469 (And.intro ⟨rfl, rfl, rfl, rfl⟩ (And.intro rfl ?_)))
        refine fcallp hB1 (ct_M_loadAt_deb31 (fBz h0 hB1) (by first | exact ⟨hb.2.2.1.1, Int.le_trans (Int.le_sub_one_of_lt (Int.lt_of_lt_of_le c2 hb.1.2)) (by decide)⟩ | omega) (by first | exact ⟨hb.2.1.1, hb.2.1.2⟩ | omega) (hx0 _ _ (by omega) (by omega) (by omega) (by omega))) ?_
        rintro _ ⟨z3, rfl, hz3, g0z3, g1z3⟩
        refine And.intro ⟨rfl, by decide, by decide⟩ ?_
        intro z4 hz4 ez4 bz4
        clear ez4
        have bz4 := bz4 (by omega)
        refine fload rL_741_741_4560_4563_1_0 h0 hB1 (by omega) ?_
        intro z5 lz5 uz5 qz5
        have w57 := fld_at qz5 (4560 + z3).toNat (by omega)
        have wg := ld_go (I := I1) (i := y4) (b := y3) (l := z3) (by rw [g0z3]; exact hx1 (by omega)) ((frL_at rL_741_741_4570_4665_1_0 (fBz h0 hB1) (a := 741) (i := 4570 + 4 * y4 + z3) (by omega)).2.1)
        have wg1 := wg.1
        intro z6 hz6 ez6 bz6
        clear ez6
        have bz6 := bz6 (by omega)
        refine Exists.intro xm_491 (And.intro mi_491 (And.intro ⟨rfl, rfl, rfl, rfl⟩ (And.intro rfl ?_)))
        refine fcall _ h0 (fzs_sub (by decide +kernel) hW) hB1 (ct_M_dueIs_00623 (fBz h0 hB1) (by first | exact ⟨hz3.1, Int.le_trans hz3.2 (by decide)⟩ | omega) (by omega) (by omega)) ?_
        rintro IhB8 _ hB8 fhB8 ⟨rfl, hz7⟩
        exact fcutJ (I := IhB8) (j := (jc_M_rowsOfLoads_5fe0b_31 x1 x2)) (lv' := [(0, .inr (.inr (some 740))), (1, .inl _), (3, .inl _), (4, .inl _)]) (And.intro rfl (And.intro rfl (And.intro rfl (And.intro rfl True.intro)))) ⟨_, _, _, rfl, rfl, ⟨by omega, (fun i b h1 h2 h3 h4 => ld_eq (fFr_S fhB8 (by decide +kernel)) (fFr_at fhB8 756 (by decide +kernel) rfl) (hx0 i b h1 h2 h3 h4)), (fun _ => by rw [fFr_at fhB8 756 (by decide +kernel) rfl]; exact ne_to wg.2 (by omega))⟩, rfl⟩ (by omega)
  · have hB0 := fB_self (zn := znJ) (K := fKc wz_7bd74) h0
    refine Exists.intro xm_465 (And.intro mi_465 (And.intro ⟨rfl, rfl, rfl, rfl⟩ (And.intro True.intro ?_)))
    refine fcallp hB0 (ct_M_isNight_38061 (fBz h0 hB0) (by first | exact ⟨ha1.1, ha1.2⟩ | omega) (by first | exact ⟨ha2.1, ha2.2⟩ | omega)) ?_
    rintro _ ⟨z9, rfl, hz9⟩
    refine And.intro (by omega) (And.intro ?_ ?_)
    · intro c10
      refine Exists.intro xm_466 (And.intro mi_466 (And.intro ⟨rfl, rfl, rfl, rfl⟩ (And.intro rfl ?_)))
      refine fcall _ h0 (fzs_sub (by decide +kernel) hW) hB0 (ct_M_findLoads_1f96d (fBz h0 hB0) (by omega) (by omega)) ?_
      rintro IhB12 _ hB12 fhB12 ⟨z11, rfl, hz11, g0z11, g1z11, g2z11⟩
      have t13 := fhB12 740 39 (by decide +kernel)
      refine And.intro (And.intro (by first | exact fi_ hz11.1 hz11.2 rfl | omega) (by first | exact ⟨by decide, by decide⟩ | omega)) (And.intro ?_ ?_)
      · intro c14
        exact fcutJ (I := IhB12) (j := (jc_M_rowsOfLoads_5fe0b_31 x1 x2)) (lv' := [(0, .inr (.inr (some 740))), (1, .inl _), (3, .inl _), (4, .inl _)]) (And.intro rfl (And.intro rfl (And.intro rfl (And.intro rfl True.intro)))) ⟨_, _, _, rfl, rfl, ⟨by omega, g0z11, (fun _ => ne_to (j := x2.toNat) (by omega) (by omega))⟩, rfl⟩ (by omega)
      · intro c15
        refine And.intro (True.intro) ?_
        exact ⟨_, rfl, by omega⟩
    · intro c16
      refine And.intro (True.intro) ?_
      exact ⟨_, rfl, by omega⟩
abbrev jc_M_oxygen_31ab3_4 : Nat → fL → List fV → fH → Prop := fun m lv st I => ∃ (y1 : Int) (y2 : Int), lv = [(0, .inr (.inr (some 740))), (1, .inl y1), (2, .inl y2)] ∧ st = [] ∧ ((((-2147483648) ≤ y1 ∧ y1 ≤ 2147483647) ∧ (0 ≤ y2 ∧ y2 ≤ 20))) ∧ m = (1 + 1 * (20 - y2) : Int).toNat
set_option maxRecDepth 8000 in
theorem ct_M_oxygen_31ab3 {I : fH}  (h0 : fB bsJ I)  : fC ρ base n F xTc vwCl xTys D dA la gJ (fbz bsJ znJ (fKc []) I) xm_494 [.inr (.inr (some 740))] I (fun _ r => ∃ z, r = some (.inl z) ∧ ((-2147483648) ≤ z ∧ z ≤ 2147483647)) := by
  have hW : fzs [] (fKc []) := fKc_ok _
  refine f_meth (rb := rbJ) (J := [(4, jc_M_oxygen_31ab3_4)]) 22 400 xG xin_494 x6_494 okJ (fB_self h0) ?_ ?_
  · refine List.forall_mem_cons.mpr ⟨?_, fun q h => absurd h List.not_mem_nil⟩
    · rintro m _ _ I1 hB1 ⟨y1, y2, rfl, rfl, hb, hm⟩
      refine And.intro ⟨rfl, by decide, by decide⟩ ?_
      refine fload1 rL_741_741_5_5_1_0 h0 hB1 ⟨by decide, by decide⟩ (by first | exact ⟨by decide, by decide⟩ | omega) ?_
      intro z1 lz1 uz1 qz1
      have pz1 := fld_at qz1 5 (by omega)
      refine And.intro (And.intro (by first | exact fi_ hb.2.1 hb.2.2 rfl | omega) (by first | exact fi_ lz1 uz1 rfl | omega)) (And.intro ?_ ?_)
      · intro c2
        refine And.intro (True.intro) ?_
        exact ⟨_, rfl, (by first | exact ⟨hb.1.1, hb.1.2⟩ | omega)⟩
      · intro c3
        refine And.intro ⟨rfl, by decide, by decide⟩ ?_
        refine Exists.intro xm_239 (And.intro mi_239 (And.intro ⟨rfl, rfl, rfl, rfl⟩ (And.intro rfl ?_)))
        refine fcallp hB1 (ct_M_cellAt_c15f4 (fBz h0 hB1) (by first | exact ⟨hb.2.1, Int.le_trans (Int.le_sub_one_of_lt (Int.lt_of_lt_of_le c3 uz1)) (by decide)⟩ | omega)) ?_
        rintro _ ⟨_, rfl, rfl⟩
        refine fload rL_741_741_31_411_20_0 h0 hB1 (by omega) ?_
        intro z5 lz5 uz5 qz5
        intro z6 hz6 ez6 bz6
        clear ez6
        clear bz6
        exact fcutJ (I := I1) (j := jc_M_oxygen_31ab3_4) (lv' := [(0, .inr (.inr (some 740))), (1, .inl _), (2, .inl _)]) (And.intro rfl (And.intro rfl (And.intro rfl True.intro))) ⟨_, _, rfl, rfl, by omega, rfl⟩ (by omega)
  · have hB0 := fB_self (zn := znJ) (K := fKc []) h0
    exact fcutJ (I := I) (j := jc_M_oxygen_31ab3_4) (lv' := [(0, .inr (.inr (some 740))), (1, .inl _), (2, .inl _)]) (And.intro rfl (And.intro rfl (And.intro rfl True.intro))) ⟨_, _, rfl, rfl, by omega, rfl⟩ (by omega)
abbrev jc_M_rowsOfDay_99311_27 (I0 : fH) : Nat → fL → List fV → fH → Prop := fun m lv st I => ∃ (y1 : Int) (y2 : Int), lv = [(0, .inr (.inr (some 740))), (1, .inl y1), (2, .inl y2)] ∧ st = [] ∧ (((1 ≤ y1 ∧ y1 ≤ 24) ∧ (0 ≤ y2 ∧ y2 ≤ 4900) ∧ (1 ≤ I 740 3 ∧ I 740 3 ≤ 1) ∧ (I0 740 3 = 1) ∧ (I 740 39 = 0)) ∧ (∀ j : Nat, (j : Int) < y2 → I 743 j = I0 741 j ∧ I 741 j = I0 742 j) ∧ (∀ j : Nat, y2 ≤ (j : Int) → I 741 j = I0 741 j)) ∧ m = (6452 + 1 * (4900 - y2) : Int).toNat
abbrev jc_M_rowsOfDay_99311_66 (I0 : fH) : Nat → fL → List fV → fH → Prop := fun m lv st I => ∃ (y1 : Int) (y2 : Int), lv = [(0, .inr (.inr (some 740))), (1, .inl y1), (2, .inl y2)] ∧ st = [] ∧ (((1 ≤ y1 ∧ y1 ≤ 24) ∧ (0 ≤ y2 ∧ y2 ≤ 24) ∧ (1 ≤ I 740 3 ∧ I 740 3 ≤ 1) ∧ (I0 740 3 = 1) ∧ (I 741 0 = I0 742 0 + 60 * y2) ∧ (I 740 39 = 2 * y2)) ∧ (∀ j : Nat, j < 4900 → I 743 j = I0 741 j) ∧ (sI I 741) ∧ (mR I = nMin (iR I0) (60 * y2).toNat) ∧ (okA (mR I)) ∧ (okB (mR I))) ∧ m = (4963 + 62 * (24 - y2) : Int).toNat
abbrev jc_M_rowsOfDay_99311_73 (I0 : fH) : Nat → fL → List fV → fH → Prop := fun m lv st I => ∃ (y1 : Int) (y2 : Int) (y3 : Int), lv = [(0, .inr (.inr (some 740))), (1, .inl y1), (2, .inl y2), (3, .inl y3)] ∧ st = [] ∧ (((1 ≤ y1 ∧ y1 ≤ 24) ∧ (0 ≤ y2 ∧ y2 ≤ 23) ∧ (0 ≤ y3 ∧ y3 ≤ 60) ∧ (1 ≤ I 740 3 ∧ I 740 3 ≤ 1) ∧ (I0 740 3 = 1) ∧ (I 741 0 = I0 742 0 + 60 * y2 + y3) ∧ (I 740 39 = 2 * y2)) ∧ (∀ j : Nat, j < 4900 → I 743 j = I0 741 j) ∧ (sI I 741) ∧ (mR I = nMin (iR I0) (60 * y2 + y3).toNat) ∧ (okA (mR I)) ∧ (okB (mR I))) ∧ m = (4902 + 62 * (24 - y2) + 1 * (60 - y3) : Int).toNat
abbrev jc_M_rowsOfDay_99311_111 (I0 : fH) : Nat → fL → List fV → fH → Prop := fun m lv st I => ∃ (y2 : Int), lv = [(0, .inr (.inr (some 740))), (2, .inl y2)] ∧ st = [] ∧ (((0 ≤ y2 ∧ y2 ≤ 4900) ∧ (1 ≤ I 740 3 ∧ I 740 3 ≤ 1) ∧ (I0 740 3 = 1)) ∧ (∀ j : Nat, j < 4900 → I 743 j = I0 741 j) ∧ (∀ j : Nat, (j : Int) < y2 → I 741 j = I0 741 j)) ∧ m = (1 + 1 * (4900 - y2) : Int).toNat
set_option maxRecDepth 8000 in
theorem ct_M_rowsOfDay_99311 {I : fH} {x1 : Int} (h0 : fB bsJ I) (ha1 : ((-2147483648) ≤ x1 ∧ x1 ≤ 2147483647)) (hp0 : I 740 39 = 0) (hp1 : kI I) (hp2 : I 740 3 = 1 → okA (iR I)) (hp3 : I 740 3 = 1 → okB (iR I)) : fC ρ base n F xTc vwCl xTys D dA la gJ (fbz bsJ znJ (fKc wz_376a3) I) xm_493 [.inr (.inr (some 740)), .inl x1] I (fun I' r => ∃ z, r = some (.inl z) ∧ ((0 ≤ z ∧ z ≤ 0) ∨ z = (-1000000002) ∨ z = (-1000000001)) ∧ (∀ j : Nat, j < 4900 → I' 741 j = I 741 j)) := by
  have hW : fzs wz_376a3 (fKc wz_376a3) := fKc_ok _
  refine f_meth (rb := rbJ) (J := [(27, (jc_M_rowsOfDay_99311_27 I)), (66, (jc_M_rowsOfDay_99311_66 I)), (73, (jc_M_rowsOfDay_99311_73 I)), (111, (jc_M_rowsOfDay_99311_111 I))]) 11353 400 xG xin_493 x6_493 okJ (fB_self h0) ?_ ?_
  · refine List.forall_mem_cons.mpr ⟨?_, List.forall_mem_cons.mpr ⟨?_, List.forall_mem_cons.mpr ⟨?_, List.forall_mem_cons.mpr ⟨?_, fun q h => absurd h List.not_mem_nil⟩⟩⟩⟩
    · rintro m _ _ I1 hB1 ⟨y1, y2, rfl, rfl, ⟨hb, hx0, hx1⟩, hm⟩
      have k1 := fBz_eq hB1 (a := 740) (j := 3) (by decide +kernel)
      obtain ⟨hk1, hk2, hk3⟩ := hp1 (by omega)
      refine And.intro (And.intro (by first | exact fi_ hb.2.1.1 hb.2.1.2 rfl | omega) (by first | exact ⟨by decide, by decide⟩ | omega)) (And.intro ?_ ?_)
      · intro c2
        have w0 := (hx0 0 (by omega)).2
        exact fcutJ (I := I1) (j := (jc_M_rowsOfDay_99311_66 I)) (lv' := [(0, .inr (.inr (some 740))), (1, .inl _), (2, .inl _)]) (And.intro rfl (And.intro rfl (And.intro rfl True.intro))) ⟨_, _, rfl, rfl, ⟨by omega, (fun j h => (hx0 j (by omega)).1), (sI_congr (sBd_of2 h0) (fun j hj => (hx0 j (by have := relb_lt hj; omega)).2) hk1), (nMin_z (iR_from (I := I) (K := I1) (fun j hj => (hx0 j (by omega)).2)) (by omega)), (by rw [(iR_from (I := I) (K := I1) (fun j hj => (hx0 j (by omega)).2))]; exact hp2 (by omega)), (by rw [(iR_from (I := I) (K := I1) (fun j hj => (hx0 j (by omega)).2))]; exact hp3 (by omega))⟩, rfl⟩ (by omega)
      · intro c3
        refine And.intro ⟨rfl, by decide, by decide⟩ ?_
        refine And.intro ⟨rfl, by decide, by decide⟩ ?_
        refine fload1 rL_741_741_0_4899_1_0 h0 hB1 ⟨by decide, by decide⟩ (by first | exact ⟨hb.2.1.1, Int.le_trans (Int.le_sub_one_of_lt (Int.lt_of_lt_of_le c3 (Int.le_refl _))) (by decide)⟩ | omega) ?_
        intro z4 lz4 uz4 qz4
        refine fstoreX (fzs_sub (by decide +kernel) hW) (asd_st (fBz h0 hB1) qz4 (by omega)) ?_
        intro IhB5 ehB5 hB5
        have t6 := fup_self ehB5
        have t7 : IhB5 740 3 = I1 740 3 := (congrFun (congrFun ehB5 740) 3).trans (fup_ne (by first | exact Or.inl (by decide) | omega))
        have t8 : IhB5 740 39 = I1 740 39 := (congrFun (congrFun ehB5 740) 39).trans (fup_ne (by first | exact Or.inl (by decide) | omega))
        have k9 := fBz_eq hB5 (a := 740) (j := 3) (by decide +kernel)
        refine And.intro ⟨rfl, by decide, by decide⟩ ?_
        refine And.intro ⟨rfl, by decide, by decide⟩ ?_
        refine fload1 rL_742_742_0_4899_1_0 h0 hB5 ⟨by decide, by decide⟩ (by first | exact ⟨hb.2.1.1, Int.le_trans (Int.le_sub_one_of_lt (Int.lt_of_lt_of_le c3 (Int.le_refl _))) (by decide)⟩ | omega) ?_
        intro z10 lz10 uz10 qz10
        refine fstoreX (fzs_sub (by decide +kernel) hW) (img_bk (fBz h0 hB5) qz10 (by omega) (by rw [sM_keep hB5 (by decide +kernel)]; exact hk2)) ?_
        intro IhB11 ehB11 hB11
        have t12 := fup_self ehB11
        have t13 : IhB11 740 3 = IhB5 740 3 := (congrFun (congrFun ehB11 740) 3).trans (fup_ne (by first | exact Or.inl (by decide) | omega))
        have t14 : IhB11 740 39 = IhB5 740 39 := (congrFun (congrFun ehB11 740) 39).trans (fup_ne (by first | exact Or.inl (by decide) | omega))
        have k15 := fBz_eq hB11 (a := 740) (j := 3) (by decide +kernel)
        exact fcutJ (I := IhB11) (j := (jc_M_rowsOfDay_99311_27 I)) (lv' := [(0, .inr (.inr (some 740))), (1, .inl _), (2, .inl _)]) (And.intro rfl (And.intro rfl (And.intro rfl True.intro))) ⟨_, _, rfl, rfl, ⟨by omega, (fun j h => if ej : j = y2.toNat then (by rw [ej]; exact ⟨(fup_other ehB11 743 _ (Or.inl (by decide))).trans ((fup_self ehB5).trans (qz4.trans (hx1 _ (by omega)))), (fup_self ehB11).trans (qz10.trans (sM_keep hB5 (by decide +kernel) _))⟩) else ⟨(fup_other ehB11 743 j (Or.inl (by decide))).trans ((fup_other ehB5 743 j (Or.inr ej)).trans (hx0 j (by omega)).1), (fup_other ehB11 741 j (Or.inr ej)).trans ((fup_other ehB5 741 j (Or.inl (by decide))).trans (hx0 j (by omega)).2)⟩), (fun j h => (fup_other ehB11 741 j (Or.inr (by omega))).trans ((fup_other ehB5 741 j (Or.inl (by decide))).trans (hx1 j (by omega))))⟩, rfl⟩ (by omega)
    · rintro m _ _ I1 hB1 ⟨y1, y2, rfl, rfl, ⟨hb, hx0, hx1, hx2, hx3, hx4⟩, hm⟩
      have k16 := fBz_eq hB1 (a := 740) (j := 3) (by decide +kernel)
      obtain ⟨hk1, hk2, hk3⟩ := hp1 (by omega)
      refine And.intro (And.intro (by first | exact fi_ hb.2.1.1 hb.2.1.2 rfl | omega) (by first | exact fi_ hb.1.1 hb.1.2 rfl | omega)) (And.intro ?_ ?_)
      · intro c17
        exact fcutJ (I := I1) (j := (jc_M_rowsOfDay_99311_111 I)) (lv' := [(0, .inr (.inr (some 740))), (2, .inl _)]) (And.intro rfl (And.intro rfl True.intro)) ⟨_, rfl, rfl, ⟨by omega, hx0, (fun j h => absurd h (by omega))⟩, rfl⟩ (by omega)
      · intro c18
        exact fcutJ (I := I1) (j := (jc_M_rowsOfDay_99311_73 I)) (lv' := [(0, .inr (.inr (some 740))), (1, .inl _), (2, .inl _), (3, .inl _)]) (And.intro rfl (And.intro rfl (And.intro rfl (And.intro rfl True.intro)))) ⟨_, _, _, rfl, rfl, ⟨by omega, hx0, hx1, (nMin_e hx2 (by omega)), hx3, hx4⟩, rfl⟩ (by omega)
    · rintro m _ _ I1 hB1 ⟨y1, y2, y3, rfl, rfl, ⟨hb, hx0, hx1, hx2, hx3, hx4⟩, hm⟩
      have k19 := fBz_eq hB1 (a := 740) (j := 3) (by decide +kernel)
      obtain ⟨hk1, hk2, hk3⟩ := hp1 (by omega)
      refine And.intro (And.intro (by first | exact fi_ hb.2.2.1.1 hb.2.2.1.2 rfl | omega) (by first | exact ⟨by decide, by decide⟩ | omega)) (And.intro ?_ ?_)
      · intro c20
        refine And.intro ⟨rfl, by decide, by decide⟩ ?_
        refine fload1 rL_741_741_1_1_1_0 h0 hB1 ⟨by decide, by decide⟩ (by first | exact ⟨by decide, by decide⟩ | omega) ?_
        intro z21 lz21 uz21 qz21
        have pz21 := fld_at qz21 1 (by omega)
        refine Exists.intro xm_494 (And.intro mi_494 (And.intro ⟨rfl, rfl, rfl, rfl⟩ (And.intro rfl ?_)))
        refine fcallp hB1 (ct_M_oxygen_31ab3 (fBz h0 hB1)) ?_
        rintro _ ⟨z22, rfl, hz22⟩
        refine Exists.intro xm_491 (And.intro mi_491 (And.intro ⟨rfl, rfl, rfl, rfl⟩ (And.intro rfl ?_)))
        refine fcall _ h0 (fzs_sub (by decide +kernel) hW) hB1 (ct_M_dueIs_00623 (fBz h0 hB1) (by first | exact ⟨lz21, uz21⟩ | omega) (by first | exact ⟨hz22.1, hz22.2⟩ | omega) (by omega)) ?_
        rintro IhB24 _ hB24 fhB24 ⟨rfl, hz23⟩
        have t25 := fhB24 740 3 (by decide +kernel)
        have t26 := fhB24 741 1 (by decide +kernel)
        have k27 := fBz_eq hB24 (a := 740) (j := 3) (by decide +kernel)
        have w100 := fhB24 741 0 (by decide +kernel)
        exact fcutJ (I := IhB24) (j := (jc_M_rowsOfDay_99311_66 I)) (lv' := [(0, .inr (.inr (some 740))), (1, .inl _), (2, .inl _)]) (And.intro rfl (And.intro rfl (And.intro rfl True.intro))) ⟨_, _, rfl, rfl, ⟨by omega, (fun j h => (fFr_at fhB24 743 (by decide +kernel) rfl j).trans (hx0 j h)), (sI_fr hx1 (fBz h0 hB1) fhB24 (by decide +kernel)), ((mR_fr fhB24 (by decide +kernel)).trans (nMin_e hx2 (by omega))), (by rw [mR_fr fhB24 (by decide +kernel)]; exact hx3), (by rw [mR_fr fhB24 (by decide +kernel)]; exact hx4)⟩, rfl⟩ (by omega)
      · intro c28
        refine Exists.intro xm_285 (And.intro mi_285 (And.intro ⟨rfl, rfl, rfl, rfl⟩ (And.intro rfl ?_)))
        refine fcall _ h0 (fzs_sub (by decide +kernel) hW) hB1 (ct_M_minute_7c04c (fBz h0 hB1) hx1 (by omega) hx3 hx4 (by have q : I1 741 0 = gt (mR I1) 0 := (show I1 741 0 = gt (mR I1) 0 from (mR_ld (I := I1) (k := 0) (by decide +kernel)).symm); have q2 := fBd (show bsJ 741 0 = (0, 22000) by decide +kernel) (fBz h0 hB1); omega)) ?_
        rintro IhB30 _ hB30 fhB30 ⟨rfl, hz29, g0z29, g1z29, g2z29⟩
        have t31 := fhB30 740 3 (by decide +kernel)
        have t32 := fhB30 740 39 (by decide +kernel)
        have k33 := fBz_eq hB30 (a := 740) (j := 3) (by decide +kernel)
        exact fcutJ (I := IhB30) (j := (jc_M_rowsOfDay_99311_73 I)) (lv' := [(0, .inr (.inr (some 740))), (1, .inl _), (2, .inl _), (3, .inl _)]) (And.intro rfl (And.intro rfl (And.intro rfl (And.intro rfl True.intro)))) ⟨_, _, _, rfl, rfl, ⟨by omega, (fun j h => (fFr_at fhB30 743 (by decide +kernel) rfl j).trans (hx0 j h)), (sI_fr hx1 (fBz h0 hB1) fhB30 (by decide +kernel)), (nMin_S hx2 (by omega) (by omega) g2z29), g0z29, g1z29⟩, rfl⟩ (by omega)
    · rintro m _ _ I1 hB1 ⟨y2, rfl, rfl, ⟨hb, hx0, hx1⟩, hm⟩
      have k34 := fBz_eq hB1 (a := 740) (j := 3) (by decide +kernel)
      obtain ⟨hk1, hk2, hk3⟩ := hp1 (by omega)
      refine And.intro (And.intro (by first | exact fi_ hb.1.1 hb.1.2 rfl | omega) (by first | exact ⟨by decide, by decide⟩ | omega)) (And.intro ?_ ?_)
      · intro c35
        refine And.intro (True.intro) ?_
        exact ⟨_, rfl, by omega, (fun j h => hx1 j (by omega))⟩
      · intro c36
        refine And.intro ⟨rfl, by decide, by decide⟩ ?_
        refine And.intro ⟨rfl, by decide, by decide⟩ ?_
        refine fload1 rL_743_743_0_4899_1_0 h0 hB1 ⟨by decide, by decide⟩ (by first | exact ⟨hb.1.1, Int.le_trans (Int.le_sub_one_of_lt (Int.lt_of_lt_of_le c36 (Int.le_refl _))) (by decide)⟩ | omega) ?_
        intro z37 lz37 uz37 qz37
        refine fstoreX (fzs_sub (by decide +kernel) hW) (asd_bk h0 (fBz h0 hB1) qz37 (hx0 _ (by omega)) (by omega)) ?_
        intro IhB38 ehB38 hB38
        have t39 := fup_self ehB38
        have t40 : IhB38 740 3 = I1 740 3 := (congrFun (congrFun ehB38 740) 3).trans (fup_ne (by first | exact Or.inl (by decide) | omega))
        have t41 : IhB38 740 39 = I1 740 39 := (congrFun (congrFun ehB38 740) 39).trans (fup_ne (by first | exact Or.inl (by decide) | omega))
        have k42 := fBz_eq hB38 (a := 740) (j := 3) (by decide +kernel)
        exact fcutJ (I := IhB38) (j := (jc_M_rowsOfDay_99311_111 I)) (lv' := [(0, .inr (.inr (some 740))), (2, .inl _)]) (And.intro rfl (And.intro rfl True.intro)) ⟨_, rfl, rfl, ⟨by omega, (fun j h => (fup_other ehB38 743 j (Or.inl (by decide))).trans (hx0 j h)), (fun j h => if ej : j = y2.toNat then (by rw [ej]; exact (fup_self ehB38).trans (qz37.trans (hx0 _ (by omega)))) else (fup_other ehB38 741 j (Or.inr ej)).trans (hx1 j (by omega)))⟩, rfl⟩ (by omega)
  · have hB0 := fB_self (zn := znJ) (K := fKc wz_376a3) h0
    refine And.intro (by first | exact fi_ ha1.1 ha1.2 rfl | omega) ?_
    refine Exists.intro xm_238 (And.intro mi_238 (And.intro ⟨rfl, rfl, rfl, rfl⟩ (And.intro True.intro ?_)))
    refine fcallp hB0 (ct_M_isIn_27230 (fBz h0 hB0) (by first | exact ⟨ha1.1, ha1.2⟩ | omega) (by first | exact ⟨by decide, by decide⟩ | omega) (by first | exact ⟨by decide, by decide⟩ | omega)) ?_
    rintro _ ⟨z43, rfl, hz43⟩
    refine And.intro (by omega) (And.intro ?_ ?_)
    · intro c44
      refine And.intro ⟨rfl, by decide, by decide⟩ (fgetf fb_740_3 h0 hB0 ?_)
      intro z45 lz45 uz45 qz45
      refine And.intro (by first | exact fi_ lz45 uz45 rfl | omega) (And.intro ?_ ?_)
      · intro c46
        exact fcutJ (I := I) (j := (jc_M_rowsOfDay_99311_27 I)) (lv' := [(0, .inr (.inr (some 740))), (1, .inl _), (2, .inl _)]) (And.intro rfl (And.intro rfl (And.intro rfl True.intro))) ⟨_, _, rfl, rfl, ⟨by omega, (fun j h => absurd h (by omega)), (fun j _ => rfl)⟩, rfl⟩ (by omega)
      · intro c47
        refine And.intro (True.intro) ?_
        exact ⟨_, rfl, by omega, (fun _ _ => rfl)⟩
    · intro c48
      refine And.intro (True.intro) ?_
      exact ⟨_, rfl, by omega, (fun _ _ => rfl)⟩
abbrev jc_M_rowsOfOrder_afdec_24 : Nat → fL → List fV → fH → Prop := fun m lv st I => ∃ (y2 : Int) (y3 : Int) (y4 : Int), lv = [(0, .inr (.inr (some 740))), (2, .inl y2), (3, .inl y3), (4, .inl y4)] ∧ st = [] ∧ ((((0 ≤ y2 ∧ y2 ≤ 2147483647) ∨ y2 = (-1000000004) ∨ y2 = (-1000000002)) ∧ ((-2147483648) ≤ y3 ∧ y3 ≤ 2147483647) ∧ (0 ≤ y4 ∧ y4 ≤ 7) ∧ (I 740 39 = 2 * y4))) ∧ m = (1 + 1 * (7 - y4) : Int).toNat
set_option maxRecDepth 8000 in
theorem ct_M_rowsOfOrder_afdec {I : fH} {x1 : Int} (h0 : fB bsJ I) (ha1 : ((-2147483648) ≤ x1 ∧ x1 ≤ 2147483647)) (hp0 : I 740 39 = 0) : fC ρ base n F xTc vwCl xTys D dA la gJ (fbz bsJ znJ (fKc wz_96c9e) I) xm_492 [.inr (.inr (some 740)), .inl x1] I (fun _ r => ∃ z, r = some (.inl z) ∧ ((0 ≤ z ∧ z ≤ 0) ∨ z = (-1000000004) ∨ z = (-1000000002) ∨ z = (-1000000001))) := by
  have hW : fzs wz_96c9e (fKc wz_96c9e) := fKc_ok _
  refine f_meth (rb := rbJ) (J := [(24, jc_M_rowsOfOrder_afdec_24)]) 9 400 xG xin_492 x6_492 okJ (fB_self h0) ?_ ?_
  · refine List.forall_mem_cons.mpr ⟨?_, fun q h => absurd h List.not_mem_nil⟩
    · rintro m _ _ I1 hB1 ⟨y2, y3, y4, rfl, rfl, hb, hm⟩
      refine And.intro ⟨rfl, by decide, by decide⟩ ?_
      refine fload1 rL_741_741_12_12_1_0 h0 hB1 ⟨by decide, by decide⟩ (by first | exact ⟨by decide, by decide⟩ | omega) ?_
      intro z1 lz1 uz1 qz1
      have pz1 := fld_at qz1 12 (by omega)
      refine And.intro (And.intro (by first | exact fi_ hb.2.2.1.1 hb.2.2.1.2 rfl | omega) (by first | exact fi_ lz1 uz1 rfl | omega)) (And.intro ?_ ?_)
      · intro c2
        refine And.intro (by omega) (And.intro ?_ ?_)
        · intro c3
          refine And.intro (True.intro) ?_
          exact ⟨_, rfl, by omega⟩
        · intro c4
          refine And.intro (True.intro) ?_
          exact ⟨_, rfl, by omega⟩
      · intro c5
        refine And.intro (by omega) (And.intro ?_ ?_)
        · intro c6
          refine And.intro (by omega) (And.intro ?_ ?_)
          · intro c7
            refine And.intro (True.intro) ?_
            exact ⟨_, rfl, by omega⟩
          · intro c8
            refine And.intro (True.intro) ?_
            exact ⟨_, rfl, by omega⟩
        · intro c9
          refine And.intro ⟨rfl, by decide, by decide⟩ ?_
          refine And.intro ⟨rfl, by decide, by decide⟩ ?_
          refine fload1 rL_758_758_0_6_1_0 h0 hB1 ⟨by decide, by decide⟩ (by first | exact ⟨hb.2.2.1.1, Int.le_trans (Int.le_sub_one_of_lt (Int.lt_of_lt_of_le c5 uz1)) (by decide)⟩ | omega) ?_
          intro z10 lz10 uz10 qz10
          refine fload rL_741_741_4370_4388_3_0 h0 hB1 (by omega) ?_
          intro z11 lz11 uz11 qz11
          intro z12 hz12 ez12 bz12
          clear ez12
          try replace bz12 := bz12 (by omega)
          refine And.intro ⟨rfl, by decide, by decide⟩ ?_
          refine fload1 rL_758_758_0_6_1_0 h0 hB1 ⟨by decide, by decide⟩ (by first | exact ⟨hb.2.2.1.1, Int.le_trans (Int.le_sub_one_of_lt (Int.lt_of_lt_of_le c5 uz1)) (by decide)⟩ | omega) ?_
          intro z13 lz13 uz13 qz13
          refine Exists.intro xm_491 (And.intro mi_491 (And.intro ⟨rfl, rfl, rfl, rfl⟩ (And.intro rfl ?_)))
          refine fcall _ h0 (fzs_sub (by decide +kernel) hW) hB1 (ct_M_dueIs_00623 (fBz h0 hB1) (by first | exact ⟨lz13, Int.le_trans uz13 (by decide)⟩ | omega) (by omega) (by omega)) ?_
          rintro IhB15 _ hB15 fhB15 ⟨rfl, hz14⟩
          have t16 := fhB15 741 12 (by decide +kernel)
          exact fcutJ (I := IhB15) (j := jc_M_rowsOfOrder_afdec_24) (lv' := [(0, .inr (.inr (some 740))), (2, .inl _), (3, .inl _), (4, .inl _)]) (And.intro rfl (And.intro rfl (And.intro rfl (And.intro rfl True.intro)))) ⟨_, _, _, rfl, rfl, by omega, rfl⟩ (by omega)
  · have hB0 := fB_self (zn := znJ) (K := fKc wz_96c9e) h0
    refine Exists.intro xm_477 (And.intro mi_477 (And.intro ⟨rfl, rfl, rfl, rfl⟩ (And.intro True.intro ?_)))
    refine fcallp hB0 (ct_M_isYears_9dc65 (fBz h0 hB0) (by first | exact ⟨ha1.1, ha1.2⟩ | omega)) ?_
    rintro _ ⟨z17, rfl, hz17⟩
    refine And.intro (by omega) (And.intro ?_ ?_)
    · intro c18
      refine Exists.intro xm_478 (And.intro mi_478 (And.intro ⟨rfl, rfl, rfl, rfl⟩ (And.intro rfl ?_)))
      refine fcall _ h0 (fzs_sub (by decide +kernel) hW) hB0 (ct_M_findOrder_1fb74 (fBz h0 hB0) (by omega) (by first | exact ⟨by decide, by decide⟩ | omega)) ?_
      rintro IhB20 _ hB20 fhB20 ⟨z19, rfl, hz19, g0z19, g1z19⟩
      have t21 := fhB20 740 39 (by decide +kernel)
      exact fcutJ (I := IhB20) (j := jc_M_rowsOfOrder_afdec_24) (lv' := [(0, .inr (.inr (some 740))), (2, .inl _), (3, .inl _), (4, .inl _)]) (And.intro rfl (And.intro rfl (And.intro rfl (And.intro rfl True.intro)))) ⟨_, _, _, rfl, rfl, by omega, rfl⟩ (by omega)
    · intro c22
      refine And.intro (True.intro) ?_
      exact ⟨_, rfl, by omega⟩
abbrev jc_M_check_402b5_70 (I0 : fH) : Nat → fL → List fV → fH → Prop := fun m lv st I => ∃ (y4 : Int) (y6 : Int), lv = [(0, .inr (.inr (some 740))), (4, .inl y4), (6, .inl y6)] ∧ st = [] ∧ (((0 ≤ y4 ∧ y4 ≤ 60) ∧ (0 ≤ y6 ∧ y6 ≤ 60) ∧ (0 ≤ I 740 37 ∧ I 740 37 ≤ 0) ∧ (I 740 37 = 0)) ∧ (∀ j : Nat, j < 4900 → I 741 j = I0 741 j)) ∧ m = (1 + 1 * (60 - y6) : Int).toNat
set_option maxRecDepth 8000 in
theorem ct_M_check_402b5 {I : fH} {x1 : Int} {x2 : Int} {x3 : Int} (h0 : fB bsJ I) (ha1 : ((-2147483648) ≤ x1 ∧ x1 ≤ 2147483647)) (ha2 : ((-2147483648) ≤ x2 ∧ x2 ≤ 2147483647)) (ha3 : ((-2147483648) ≤ x3 ∧ x3 ≤ 2147483647)) (hp0 : kI I) (hp1 : I 740 3 = 1 → okA (iR I)) (hp2 : I 740 3 = 1 → okB (iR I)) : fC ρ base n F xTc vwCl xTys D dA la gJ (fbz bsJ znJ (fKc wz_a99d3) I) xm_489 [.inr (.inr (some 740)), .inl x1, .inl x2, .inl x3] I (fun I' r => ∃ z, r = some (.inl z) ∧ (((0 ≤ z ∧ z ≤ 61) ∨ z = (-1000000005) ∨ z = (-1000000004) ∨ z = (-1000000002) ∨ z = (-1000000001)) ∧ (I' 740 37 = 0)) ∧ (∀ j : Nat, j < 4900 → I' 741 j = I 741 j)) := by
  have hW : fzs wz_a99d3 (fKc wz_a99d3) := fKc_ok _
  refine f_meth (rb := rbJ) (J := [(70, (jc_M_check_402b5_70 I))]) 62 400 xG xin_489 x6_489 okJ (fB_self h0) ?_ ?_
  · refine List.forall_mem_cons.mpr ⟨?_, fun q h => absurd h List.not_mem_nil⟩
    · rintro m _ _ I1 hB1 ⟨y4, y6, rfl, rfl, ⟨hb, hx0⟩, hm⟩
      refine And.intro (And.intro (by first | exact fi_ hb.2.1.1 hb.2.1.2 rfl | omega) (by first | exact fi_ hb.1.1 hb.1.2 rfl | omega)) (And.intro ?_ ?_)
      · intro c1
        refine And.intro (And.intro (by first | exact fi_ hb.2.1.1 hb.2.1.2 rfl | omega) (by first | exact fi_ hb.1.1 hb.1.2 rfl | omega)) (And.intro ?_ ?_)
        · intro c2
          refine And.intro (True.intro) ?_
          exact ⟨_, rfl, by omega, hx0⟩
        · intro c3
          refine And.intro ⟨rfl, by decide, by decide⟩ (fgetf fb_740_39 h0 hB1 ?_)
          intro z4 lz4 uz4 qz4
          refine And.intro (And.intro (by first | exact fi_ hb.2.1.1 hb.2.1.2 rfl | omega) (by first | exact fi_ lz4 uz4 rfl | omega)) (And.intro ?_ ?_)
          · intro c5
            refine And.intro (True.intro) ?_
            exact ⟨_, rfl, by omega, hx0⟩
          · intro c6
            refine And.intro (True.intro) ?_
            exact ⟨_, rfl, by omega, hx0⟩
      · intro c7
        refine And.intro ⟨rfl, by decide, by decide⟩ (fgetf fb_740_39 h0 hB1 ?_)
        intro z8 lz8 uz8 qz8
        refine And.intro (And.intro (by first | exact fi_ hb.2.1.1 (Int.le_sub_one_of_lt (Int.lt_of_lt_of_le c7 hb.1.2)) rfl | omega) (by first | exact fi_ lz8 uz8 rfl | omega)) (And.intro ?_ ?_)
        · intro c9
          refine And.intro (And.intro (by first | exact fi_ hb.2.1.1 (Int.le_sub_one_of_lt (Int.lt_of_lt_of_le c7 hb.1.2)) rfl | omega) (by first | exact fi_ (Int.add_one_le_of_lt (Int.lt_of_le_of_lt hb.2.1.1 c7)) hb.1.2 rfl | omega)) (And.intro ?_ ?_)
          · intro c10
            refine And.intro (True.intro) ?_
            exact ⟨_, rfl, by omega, hx0⟩
          · intro c11
            refine And.intro ⟨rfl, by decide, by decide⟩ (fgetf fb_740_39 h0 hB1 ?_)
            intro z12 lz12 uz12 qz12
            refine And.intro (And.intro (by first | exact fi_ (Int.le_trans (Int.add_one_le_of_lt (Int.lt_of_le_of_lt hb.2.1.1 c7)) (Int.le_of_eq c11.symm)) (Int.le_sub_one_of_lt (Int.lt_of_lt_of_le c7 hb.1.2)) rfl | omega) (by first | exact fi_ lz12 uz12 rfl | omega)) (And.intro ?_ ?_)
            · intro c13
              refine And.intro (True.intro) ?_
              exact ⟨_, rfl, by omega, hx0⟩
            · intro c14
              refine And.intro (True.intro) ?_
              exact ⟨_, rfl, by omega, hx0⟩
        · intro c15
          refine And.intro ⟨rfl, by decide, by decide⟩ ?_
          refine fload1 rL_759_759_0_59_1_0 h0 hB1 ⟨by decide, by decide⟩ (by first | exact ⟨hb.2.1.1, Int.le_trans (Int.le_sub_one_of_lt (Int.lt_of_lt_of_le c7 hb.1.2)) (by decide)⟩ | omega) ?_
          intro z16 lz16 uz16 qz16
          refine And.intro ⟨rfl, by decide, by decide⟩ ?_
          refine fload1 rL_760_760_0_59_1_0 h0 hB1 ⟨by decide, by decide⟩ (by first | exact ⟨hb.2.1.1, Int.le_trans (Int.le_sub_one_of_lt (Int.lt_of_lt_of_le c7 hb.1.2)) (by decide)⟩ | omega) ?_
          intro z17 lz17 uz17 qz17
          refine And.intro (And.intro (by first | exact fi_ lz16 uz16 rfl | omega) (by first | exact fi_ lz17 uz17 rfl | omega)) (And.intro ?_ ?_)
          · intro c18
            refine And.intro (And.intro (by first | exact fi_ hb.2.1.1 (Int.le_sub_one_of_lt (Int.lt_of_lt_of_le c7 hb.1.2)) rfl | omega) (by first | exact fi_ (Int.add_one_le_of_lt (Int.lt_of_le_of_lt hb.2.1.1 c7)) hb.1.2 rfl | omega)) (And.intro ?_ ?_)
            · intro c19
              refine And.intro (True.intro) ?_
              exact ⟨_, rfl, by omega, hx0⟩
            · intro c20
              refine And.intro ⟨rfl, by decide, by decide⟩ (fgetf fb_740_39 h0 hB1 ?_)
              intro z21 lz21 uz21 qz21
              refine And.intro (And.intro (by first | exact fi_ (Int.le_trans (Int.add_one_le_of_lt (Int.lt_of_le_of_lt hb.2.1.1 c7)) (Int.le_of_eq c20.symm)) (Int.le_sub_one_of_lt (Int.lt_of_lt_of_le c7 hb.1.2)) rfl | omega) (by first | exact fi_ lz21 uz21 rfl | omega)) (And.intro ?_ ?_)
              · intro c22
                refine And.intro (True.intro) ?_
                exact ⟨_, rfl, by omega, hx0⟩
              · intro c23
                refine And.intro (True.intro) ?_
                exact ⟨_, rfl, by omega, hx0⟩
          · intro c24
            exact fcutJ (I := I1) (j := (jc_M_check_402b5_70 I)) (lv' := [(0, .inr (.inr (some 740))), (4, .inl _), (6, .inl _)]) (And.intro rfl (And.intro rfl (And.intro rfl True.intro))) ⟨_, _, rfl, rfl, ⟨by omega, hx0⟩, rfl⟩ (by omega)
  · have hB0 := fB_self (zn := znJ) (K := fKc wz_a99d3) h0
    refine And.intro ⟨rfl, by decide, by decide⟩ (fgetf fb_740_37 h0 hB0 ?_)
    intro z25 lz25 uz25 qz25
    refine And.intro ⟨rfl, by decide, by decide⟩ (And.intro rfl (And.intro (Or.inl rfl) (fputf fb_740_37 (by decide +kernel) hW (by first | exact ⟨by decide, by decide⟩ | omega) ?_)))
    intro IhB26 ehB26 hB26
    have t27 := fup_at ehB26 37 (by first | rfl | omega)
    have t28 : IhB26 740 39 = I 740 39 := (congrFun (congrFun ehB26 740) 39).trans (fup_ne (by first | decide | omega))
    refine And.intro ⟨rfl, by decide, by decide⟩ (And.intro rfl (And.intro (Or.inl rfl) (fputf fb_740_39 (by decide +kernel) hW (by first | exact ⟨by decide, by decide⟩ | omega) ?_)))
    intro IhB29 ehB29 hB29
    have t30 : IhB29 740 37 = IhB26 740 37 := (congrFun (congrFun ehB29 740) 37).trans (fup_ne (by first | decide | omega))
    have t31 := fup_at ehB29 39 (by first | rfl | omega)
    refine And.intro (by first | exact fi_ ha1.1 ha1.2 rfl | omega) (And.intro ?_ ?_)
    · intro c32
      refine And.intro (And.intro (by first | exact fi_ ha1.1 ha1.2 rfl | omega) (by first | exact ⟨by decide, by decide⟩ | omega)) (And.intro ?_ ?_)
      · intro c33
        refine And.intro (And.intro (by first | exact fi_ ha1.1 ha1.2 rfl | omega) (by first | exact ⟨by decide, by decide⟩ | omega)) (And.intro ?_ ?_)
        · intro c34
          refine And.intro (by first | exact ⟨by decide, by decide⟩ | omega) (And.intro ?_ ?_)
          · intro c35
            exact fcutJ (I := IhB29) (j := (jc_M_check_402b5_70 I)) (lv' := [(0, .inr (.inr (some 740))), (4, .inl _), (6, .inl _)]) (And.intro rfl (And.intro rfl (And.intro rfl True.intro))) ⟨_, _, rfl, rfl, ⟨by omega, (fun j h => by first | exact (fFr_S fnil0 (by decide +kernel) j).trans ((fup_other ehB29 741 j (Or.inl (by decide))).trans (fup_other ehB26 741 j (Or.inl (by decide)))) | exact (fFr_S fnil0 (by decide +kernel) j).trans ((fup_other ehB29 741 j (Or.inl (by decide))).trans (fup_other ehB26 741 j (Or.inl (by decide)))) | exact (g0nil0 j h).trans ((fup_other ehB29 741 j (Or.inl (by decide))).trans (fup_other ehB26 741 j (Or.inl (by decide)))) | exact ((fup_other ehB29 741 j (Or.inl (by decide))).trans (fup_other ehB26 741 j (Or.inl (by decide)))))⟩, rfl⟩ (by omega)
          · intro c36
            refine And.intro (True.intro) ?_
            exact ⟨_, rfl, by omega, (fun j h => by first | exact (fFr_S fnil0 (by decide +kernel) j).trans ((fup_other ehB29 741 j (Or.inl (by decide))).trans (fup_other ehB26 741 j (Or.inl (by decide)))) | exact (fFr_S fnil0 (by decide +kernel) j).trans ((fup_other ehB29 741 j (Or.inl (by decide))).trans (fup_other ehB26 741 j (Or.inl (by decide)))) | exact (g0nil0 j h).trans ((fup_other ehB29 741 j (Or.inl (by decide))).trans (fup_other ehB26 741 j (Or.inl (by decide)))) | exact ((fup_other ehB29 741 j (Or.inl (by decide))).trans (fup_other ehB26 741 j (Or.inl (by decide)))))⟩
        · intro c37
          refine Exists.intro xm_493 (And.intro mi_493 (And.intro ⟨rfl, rfl, rfl, rfl⟩ (And.intro rfl ?_)))
          refine fcall _ h0 (fzs_sub (by decide +kernel) hW) hB29 (ct_M_rowsOfDay_99311 (fBz h0 hB29) (by first | exact ⟨ha2.1, ha2.2⟩ | omega) (by omega) (kI_keep hp0 h0 hB29 (by decide +kernel) (by decide +kernel)) (fun q => by rw [iR_ot ehB29 (by decide), iR_ot ehB26 (by decide)]; exact hp1 (by rw [ehB29, fup_ne (Or.inr (by decide)), ehB26, fup_ne (Or.inr (by decide))] at q; exact q)) (fun q => by rw [iR_ot ehB29 (by decide), iR_ot ehB26 (by decide)]; exact hp2 (by rw [ehB29, fup_ne (Or.inr (by decide)), ehB26, fup_ne (Or.inr (by decide))] at q; exact q))) ?_
          rintro IhB39 _ hB39 fhB39 ⟨z38, rfl, hz38, g0z38⟩
          have t40 := fhB39 740 37 (by decide +kernel)
          refine And.intro (by omega) (And.intro ?_ ?_)
          · intro c41
            exact fcutJ (I := IhB39) (j := (jc_M_check_402b5_70 I)) (lv' := [(0, .inr (.inr (some 740))), (4, .inl _), (6, .inl _)]) (And.intro rfl (And.intro rfl (And.intro rfl True.intro))) ⟨_, _, rfl, rfl, ⟨by omega, (fun j h => by first | exact (fFr_S fnil0 (by decide +kernel) j).trans ((fup_other ehB29 741 j (Or.inl (by decide))).trans (fup_other ehB26 741 j (Or.inl (by decide)))) | exact (fFr_S fnil0 (by decide +kernel) j).trans ((fup_other ehB29 741 j (Or.inl (by decide))).trans (fup_other ehB26 741 j (Or.inl (by decide)))) | exact (g0z38 j h).trans ((fup_other ehB29 741 j (Or.inl (by decide))).trans (fup_other ehB26 741 j (Or.inl (by decide)))) | exact ((fup_other ehB29 741 j (Or.inl (by decide))).trans (fup_other ehB26 741 j (Or.inl (by decide)))))⟩, rfl⟩ (by omega)
          · intro c42
            refine And.intro (True.intro) ?_
            exact ⟨_, rfl, by omega, (fun j h => by first | exact (fFr_S fnil0 (by decide +kernel) j).trans ((fup_other ehB29 741 j (Or.inl (by decide))).trans (fup_other ehB26 741 j (Or.inl (by decide)))) | exact (fFr_S fnil0 (by decide +kernel) j).trans ((fup_other ehB29 741 j (Or.inl (by decide))).trans (fup_other ehB26 741 j (Or.inl (by decide)))) | exact (g0z38 j h).trans ((fup_other ehB29 741 j (Or.inl (by decide))).trans (fup_other ehB26 741 j (Or.inl (by decide)))) | exact ((fup_other ehB29 741 j (Or.inl (by decide))).trans (fup_other ehB26 741 j (Or.inl (by decide)))))⟩
      · intro c43
        refine Exists.intro xm_492 (And.intro mi_492 (And.intro ⟨rfl, rfl, rfl, rfl⟩ (And.intro rfl ?_)))
        refine fcall _ h0 (fzs_sub (by decide +kernel) hW) hB29 (ct_M_rowsOfOrder_afdec (fBz h0 hB29) (by first | exact ⟨ha2.1, ha2.2⟩ | omega) (by omega)) ?_
        rintro IhB45 _ hB45 fhB45 ⟨z44, rfl, hz44⟩
        have t46 := fhB45 740 37 (by decide +kernel)
        refine And.intro (by omega) (And.intro ?_ ?_)
        · intro c47
          exact fcutJ (I := IhB45) (j := (jc_M_check_402b5_70 I)) (lv' := [(0, .inr (.inr (some 740))), (4, .inl _), (6, .inl _)]) (And.intro rfl (And.intro rfl (And.intro rfl True.intro))) ⟨_, _, rfl, rfl, ⟨by omega, (fun j h => by first | exact (fFr_S fnil0 (by decide +kernel) j).trans ((fup_other ehB29 741 j (Or.inl (by decide))).trans (fup_other ehB26 741 j (Or.inl (by decide)))) | exact (fFr_S fhB45 (by decide +kernel) j).trans ((fup_other ehB29 741 j (Or.inl (by decide))).trans (fup_other ehB26 741 j (Or.inl (by decide)))) | exact (g0z38 j h).trans ((fup_other ehB29 741 j (Or.inl (by decide))).trans (fup_other ehB26 741 j (Or.inl (by decide)))) | exact ((fup_other ehB29 741 j (Or.inl (by decide))).trans (fup_other ehB26 741 j (Or.inl (by decide)))))⟩, rfl⟩ (by omega)
        · intro c48
          refine And.intro (True.intro) ?_
          exact ⟨_, rfl, by omega, (fun j h => by first | exact (fFr_S fnil0 (by decide +kernel) j).trans ((fup_other ehB29 741 j (Or.inl (by decide))).trans (fup_other ehB26 741 j (Or.inl (by decide)))) | exact (fFr_S fhB45 (by decide +kernel) j).trans ((fup_other ehB29 741 j (Or.inl (by decide))).trans (fup_other ehB26 741 j (Or.inl (by decide)))) | exact (g0z38 j h).trans ((fup_other ehB29 741 j (Or.inl (by decide))).trans (fup_other ehB26 741 j (Or.inl (by decide)))) | exact ((fup_other ehB29 741 j (Or.inl (by decide))).trans (fup_other ehB26 741 j (Or.inl (by decide)))))⟩
    · intro c49
      refine Exists.intro xm_490 (And.intro mi_490 (And.intro ⟨rfl, rfl, rfl, rfl⟩ (And.intro rfl ?_)))
      refine fcall _ h0 (fzs_sub (by decide +kernel) hW) hB29 (ct_M_rowsOfLoads_5fe0b (fBz h0 hB29) (by first | exact ⟨ha2.1, ha2.2⟩ | omega) (by first | exact ⟨ha3.1, ha3.2⟩ | omega) (by omega)) ?_
      rintro IhB51 _ hB51 fhB51 ⟨z50, rfl, hz50⟩
      have t52 := fhB51 740 37 (by decide +kernel)
      refine And.intro (by omega) (And.intro ?_ ?_)
      · intro c53
        exact fcutJ (I := IhB51) (j := (jc_M_check_402b5_70 I)) (lv' := [(0, .inr (.inr (some 740))), (4, .inl _), (6, .inl _)]) (And.intro rfl (And.intro rfl (And.intro rfl True.intro))) ⟨_, _, rfl, rfl, ⟨by omega, (fun j h => by first | exact (fFr_S fhB51 (by decide +kernel) j).trans ((fup_other ehB29 741 j (Or.inl (by decide))).trans (fup_other ehB26 741 j (Or.inl (by decide)))) | exact (fFr_S fhB45 (by decide +kernel) j).trans ((fup_other ehB29 741 j (Or.inl (by decide))).trans (fup_other ehB26 741 j (Or.inl (by decide)))) | exact (g0z38 j h).trans ((fup_other ehB29 741 j (Or.inl (by decide))).trans (fup_other ehB26 741 j (Or.inl (by decide)))) | exact ((fup_other ehB29 741 j (Or.inl (by decide))).trans (fup_other ehB26 741 j (Or.inl (by decide)))))⟩, rfl⟩ (by omega)
      · intro c54
        refine And.intro (True.intro) ?_
        exact ⟨_, rfl, by omega, (fun j h => by first | exact (fFr_S fhB51 (by decide +kernel) j).trans ((fup_other ehB29 741 j (Or.inl (by decide))).trans (fup_other ehB26 741 j (Or.inl (by decide)))) | exact (fFr_S fhB45 (by decide +kernel) j).trans ((fup_other ehB29 741 j (Or.inl (by decide))).trans (fup_other ehB26 741 j (Or.inl (by decide)))) | exact (g0z38 j h).trans ((fup_other ehB29 741 j (Or.inl (by decide))).trans (fup_other ehB26 741 j (Or.inl (by decide)))) | exact ((fup_other ehB29 741 j (Or.inl (by decide))).trans (fup_other ehB26 741 j (Or.inl (by decide)))))⟩
set_option maxRecDepth 8000 in
theorem ct_Desk_becomeAs_f61cf {I : fH}  (h0 : fB bsJ I)  : fC ρ base n F xTc vwCl xTys D dA la gJ (fbz bsJ znJ (fKc wz_77c59) I) xm_231 [.inr (.inr (some 467)), .inr (.inr (some 211))] I (fun I' r => r = none ∧ (I' 467 8 = I 211 8 ∧ I' 467 11 = I 211 11 ∧ I' 467 15 = I 211 15) ∧ (∀ i j : Nat, i < 8 → j < 12 → I' (469 + i) j = I (213 + i) j) ∧ (∀ j : Nat, j < 8 → I' 477 j = I 221 j) ∧ (∀ j : Nat, j < 48 → I' 478 j = I 222 j) ∧ (∀ j : Nat, j < 4 → I' 479 j = I 223 j) ∧ (∀ i j : Nat, i < 24 → j < 4 → I' (481 + i) j = I (225 + i) j) ∧ (∀ j : Nat, j < 6 → I' 505 j = I 249 j) ∧ (∀ j : Nat, j < 6 → I' 506 j = I 250 j) ∧ (∀ j : Nat, j < 6 → I' 507 j = I 251 j) ∧ (∀ j : Nat, j < 10 → I' 508 j = I 252 j) ∧ (∀ j : Nat, j < 10 → I' 509 j = I 253 j) ∧ (∀ j : Nat, j < 7 → I' 510 j = I 254 j) ∧ (∀ j : Nat, j < 7 → I' 511 j = I 255 j) ∧ (∀ j : Nat, j < 7 → I' 512 j = I 256 j)) := by
  have hW : fzs wz_77c59 (fKc wz_77c59) := fKc_ok _
  refine f_meth (rb := rbJ) (J := []) 1 400 xG xin_231 x6_231 okJ (fB_self h0) ?_ ?_
  · exact fun q h => absurd h List.not_mem_nil
  · have hB0 := fB_self (zn := znJ) (K := fKc wz_77c59) h0
    refine And.intro ⟨rfl, by decide, by decide⟩ ?_
    refine And.intro ⟨rfl, by decide, by decide⟩ ?_
    refine Exists.intro xm_225 (And.intro mi_225 (And.intro ⟨rfl, rfl, rfl, rfl⟩ (And.intro True.intro ?_)))
    refine fcall _ h0 (fzs_sub (by decide +kernel) hW) hB0 (ct_copyRows (W := [468]) (m := 8) (len := 12) (ro := 213) (rd := 469) (fBz h0 hB0) (frCs_of ⟨rfl, rfl, rfl, rfl, by decide⟩ (by decide +kernel))) ?_
    rintro IhB1 _ hB1 fhB1 ⟨rfl, ehB1⟩
    refine And.intro ⟨rfl, by decide, by decide⟩ ?_
    refine And.intro ⟨rfl, by decide, by decide⟩ ?_
    refine Exists.intro xm_75 (And.intro mi_75 (And.intro ⟨rfl, rfl, rfl, rfl⟩ (And.intro True.intro ?_)))
    refine fcall _ h0 (fzs_sub (by decide +kernel) hW) hB1 (ct_copyRow (W := [477]) (len := 8) (fBz h0 hB1) (frC_of (by decide +kernel))) ?_
    rintro IhB2 _ hB2 fhB2 ⟨rfl, ehB2⟩
    refine And.intro ⟨rfl, by decide, by decide⟩ ?_
    refine And.intro ⟨rfl, by decide, by decide⟩ ?_
    refine Exists.intro xm_75 (And.intro mi_75 (And.intro ⟨rfl, rfl, rfl, rfl⟩ (And.intro True.intro ?_)))
    refine fcall _ h0 (fzs_sub (by decide +kernel) hW) hB2 (ct_copyRow (W := [478]) (len := 48) (fBz h0 hB2) (frC_of (by decide +kernel))) ?_
    rintro IhB3 _ hB3 fhB3 ⟨rfl, ehB3⟩
    refine And.intro ⟨rfl, by decide, by decide⟩ ?_
    refine And.intro ⟨rfl, by decide, by decide⟩ ?_
    refine Exists.intro xm_75 (And.intro mi_75 (And.intro ⟨rfl, rfl, rfl, rfl⟩ (And.intro True.intro ?_)))
    refine fcall _ h0 (fzs_sub (by decide +kernel) hW) hB3 (ct_copyRow (W := [479]) (len := 4) (fBz h0 hB3) (frC_of (by decide +kernel))) ?_
    rintro IhB4 _ hB4 fhB4 ⟨rfl, ehB4⟩
    refine And.intro ⟨rfl, by decide, by decide⟩ ?_
    refine And.intro ⟨rfl, by decide, by decide⟩ ?_
    refine Exists.intro xm_225 (And.intro mi_225 (And.intro ⟨rfl, rfl, rfl, rfl⟩ (And.intro True.intro ?_)))
    refine fcall _ h0 (fzs_sub (by decide +kernel) hW) hB4 (ct_copyRows (W := [480]) (m := 24) (len := 4) (ro := 225) (rd := 481) (fBz h0 hB4) (frCs_of ⟨rfl, rfl, rfl, rfl, by decide⟩ (by decide +kernel))) ?_
    rintro IhB5 _ hB5 fhB5 ⟨rfl, ehB5⟩
    refine And.intro ⟨rfl, by decide, by decide⟩ ?_
    refine And.intro ⟨rfl, by decide, by decide⟩ ?_
    refine Exists.intro xm_75 (And.intro mi_75 (And.intro ⟨rfl, rfl, rfl, rfl⟩ (And.intro True.intro ?_)))
    refine fcall _ h0 (fzs_sub (by decide +kernel) hW) hB5 (ct_copyRow (W := [505]) (len := 6) (fBz h0 hB5) (frC_of (by decide +kernel))) ?_
    rintro IhB6 _ hB6 fhB6 ⟨rfl, ehB6⟩
    refine And.intro ⟨rfl, by decide, by decide⟩ ?_
    refine And.intro ⟨rfl, by decide, by decide⟩ ?_
    refine Exists.intro xm_75 (And.intro mi_75 (And.intro ⟨rfl, rfl, rfl, rfl⟩ (And.intro True.intro ?_)))
    refine fcall _ h0 (fzs_sub (by decide +kernel) hW) hB6 (ct_copyRow (W := [506]) (len := 6) (fBz h0 hB6) (frC_of (by decide +kernel))) ?_
    rintro IhB7 _ hB7 fhB7 ⟨rfl, ehB7⟩
    refine And.intro ⟨rfl, by decide, by decide⟩ ?_
    refine And.intro ⟨rfl, by decide, by decide⟩ ?_
    refine Exists.intro xm_75 (And.intro mi_75 (And.intro ⟨rfl, rfl, rfl, rfl⟩ (And.intro True.intro ?_)))
    refine fcall _ h0 (fzs_sub (by decide +kernel) hW) hB7 (ct_copyRow (W := [507]) (len := 6) (fBz h0 hB7) (frC_of (by decide +kernel))) ?_
    rintro IhB8 _ hB8 fhB8 ⟨rfl, ehB8⟩
    refine And.intro ⟨rfl, by decide, by decide⟩ (fgetf fb_211_8 h0 hB8 ?_)
    intro z9 lz9 uz9 qz9
    have k10 := fBz_eq hB8 (a := 211) (j := 8) (by decide +kernel)
    refine And.intro ⟨rfl, by decide, by decide⟩ (And.intro rfl (And.intro (Or.inl rfl) (fputf fb_467_8 (by decide +kernel) hW (by first | exact ⟨lz9, uz9⟩ | omega) ?_)))
    intro IhB11 ehB11 hB11
    have t12 := fup_at ehB11 8 (by first | rfl | omega)
    refine And.intro ⟨rfl, by decide, by decide⟩ ?_
    refine And.intro ⟨rfl, by decide, by decide⟩ ?_
    refine Exists.intro xm_75 (And.intro mi_75 (And.intro ⟨rfl, rfl, rfl, rfl⟩ (And.intro True.intro ?_)))
    refine fcall _ h0 (fzs_sub (by decide +kernel) hW) hB11 (ct_copyRow (W := [508]) (len := 10) (fBz h0 hB11) (frC_of (by decide +kernel))) ?_
    rintro IhB13 _ hB13 fhB13 ⟨rfl, ehB13⟩
    have t14 := fhB13 467 8 (by decide +kernel)
    refine And.intro ⟨rfl, by decide, by decide⟩ ?_
    refine And.intro ⟨rfl, by decide, by decide⟩ ?_
    refine Exists.intro xm_75 (And.intro mi_75 (And.intro ⟨rfl, rfl, rfl, rfl⟩ (And.intro True.intro ?_)))
    refine fcall _ h0 (fzs_sub (by decide +kernel) hW) hB13 (ct_copyRow (W := [509]) (len := 10) (fBz h0 hB13) (frC_of (by decide +kernel))) ?_
    rintro IhB15 _ hB15 fhB15 ⟨rfl, ehB15⟩
    have t16 := fhB15 467 8 (by decide +kernel)
    refine And.intro ⟨rfl, by decide, by decide⟩ (fgetf fb_211_11 h0 hB15 ?_)
    intro z17 lz17 uz17 qz17
    have k18 := fBz_eq hB15 (a := 211) (j := 11) (by decide +kernel)
    refine And.intro ⟨rfl, by decide, by decide⟩ (And.intro rfl (And.intro (Or.inl rfl) (fputf fb_467_11 (by decide +kernel) hW (by first | exact ⟨lz17, uz17⟩ | omega) ?_)))
    intro IhB19 ehB19 hB19
    have t20 : IhB19 467 8 = IhB15 467 8 := (congrFun (congrFun ehB19 467) 8).trans (fup_ne (by first | decide | omega))
    have t21 := fup_at ehB19 11 (by first | rfl | omega)
    refine And.intro ⟨rfl, by decide, by decide⟩ ?_
    refine And.intro ⟨rfl, by decide, by decide⟩ ?_
    refine Exists.intro xm_75 (And.intro mi_75 (And.intro ⟨rfl, rfl, rfl, rfl⟩ (And.intro True.intro ?_)))
    refine fcall _ h0 (fzs_sub (by decide +kernel) hW) hB19 (ct_copyRow (W := [510]) (len := 7) (fBz h0 hB19) (frC_of (by decide +kernel))) ?_
    rintro IhB22 _ hB22 fhB22 ⟨rfl, ehB22⟩
    have t23 := fhB22 467 8 (by decide +kernel)
    have t24 := fhB22 467 11 (by decide +kernel)
    refine And.intro ⟨rfl, by decide, by decide⟩ ?_
    refine And.intro ⟨rfl, by decide, by decide⟩ ?_
    refine Exists.intro xm_75 (And.intro mi_75 (And.intro ⟨rfl, rfl, rfl, rfl⟩ (And.intro True.intro ?_)))
    refine fcall _ h0 (fzs_sub (by decide +kernel) hW) hB22 (ct_copyRow (W := [511]) (len := 7) (fBz h0 hB22) (frC_of (by decide +kernel))) ?_
    rintro IhB25 _ hB25 fhB25 ⟨rfl, ehB25⟩
    have t26 := fhB25 467 8 (by decide +kernel)
    have t27 := fhB25 467 11 (by decide +kernel)
    refine And.intro ⟨rfl, by decide, by decide⟩ ?_
    refine And.intro ⟨rfl, by decide, by decide⟩ ?_
    refine Exists.intro xm_75 (And.intro mi_75 (And.intro ⟨rfl, rfl, rfl, rfl⟩ (And.intro True.intro ?_)))
    refine fcall _ h0 (fzs_sub (by decide +kernel) hW) hB25 (ct_copyRow (W := [512]) (len := 7) (fBz h0 hB25) (frC_of (by decide +kernel))) ?_
    rintro IhB28 _ hB28 fhB28 ⟨rfl, ehB28⟩
    have t29 := fhB28 467 8 (by decide +kernel)
    have t30 := fhB28 467 11 (by decide +kernel)
    refine And.intro ⟨rfl, by decide, by decide⟩ (fgetf fb_211_15 h0 hB28 ?_)
    intro z31 lz31 uz31 qz31
    have k32 := fBz_eq hB28 (a := 211) (j := 15) (by decide +kernel)
    refine And.intro ⟨rfl, by decide, by decide⟩ (And.intro rfl (And.intro (Or.inl rfl) (fputf fb_467_15 (by decide +kernel) hW (by first | exact ⟨lz31, uz31⟩ | omega) ?_)))
    intro IhB33 ehB33 hB33
    have t34 : IhB33 467 8 = IhB28 467 8 := (congrFun (congrFun ehB33 467) 8).trans (fup_ne (by first | decide | omega))
    have t35 : IhB33 467 11 = IhB28 467 11 := (congrFun (congrFun ehB33 467) 11).trans (fup_ne (by first | decide | omega))
    have t36 := fup_at ehB33 15 (by first | rfl | omega)
    exact ⟨rfl, by omega, (fun i j hi hj => ((fup_other ehB33 (469 + i) j (Or.inl (by omega))).trans (((congrFun (congrFun ehB28 (469 + i)) j).trans (fcpy_ne (by omega))).trans (((congrFun (congrFun ehB25 (469 + i)) j).trans (fcpy_ne (by omega))).trans (((congrFun (congrFun ehB22 (469 + i)) j).trans (fcpy_ne (by omega))).trans ((fup_other ehB19 (469 + i) j (Or.inl (by omega))).trans (((congrFun (congrFun ehB15 (469 + i)) j).trans (fcpy_ne (by omega))).trans (((congrFun (congrFun ehB13 (469 + i)) j).trans (fcpy_ne (by omega))).trans ((fup_other ehB11 (469 + i) j (Or.inl (by omega))).trans (((congrFun (congrFun ehB8 (469 + i)) j).trans (fcpy_ne (by omega))).trans (((congrFun (congrFun ehB7 (469 + i)) j).trans (fcpy_ne (by omega))).trans (((congrFun (congrFun ehB6 (469 + i)) j).trans (fcpy_ne (by omega))).trans ((fFr_rows fhB5 (r := 469) (m := 8) (len := 12) (by decide +kernel) i j hi hj).trans (((congrFun (congrFun ehB4 (469 + i)) j).trans (fcpy_ne (by omega))).trans (((congrFun (congrFun ehB3 (469 + i)) j).trans (fcpy_ne (by omega))).trans (((congrFun (congrFun ehB2 (469 + i)) j).trans (fcpy_ne (by omega))).trans (ehB1 i hi j hj))))))))))))))))), (fun j hj => ((fup_other ehB33 477 j (Or.inl (by omega))).trans (((congrFun (congrFun ehB28 477) j).trans (fcpy_ne (by omega))).trans (((congrFun (congrFun ehB25 477) j).trans (fcpy_ne (by omega))).trans (((congrFun (congrFun ehB22 477) j).trans (fcpy_ne (by omega))).trans ((fup_other ehB19 477 j (Or.inl (by omega))).trans (((congrFun (congrFun ehB15 477) j).trans (fcpy_ne (by omega))).trans (((congrFun (congrFun ehB13 477) j).trans (fcpy_ne (by omega))).trans ((fup_other ehB11 477 j (Or.inl (by omega))).trans (((congrFun (congrFun ehB8 477) j).trans (fcpy_ne (by omega))).trans (((congrFun (congrFun ehB7 477) j).trans (fcpy_ne (by omega))).trans (((congrFun (congrFun ehB6 477) j).trans (fcpy_ne (by omega))).trans ((fFr_at fhB5 477 (by decide +kernel) rfl j).trans (((congrFun (congrFun ehB4 477) j).trans (fcpy_ne (by omega))).trans (((congrFun (congrFun ehB3 477) j).trans (fcpy_ne (by omega))).trans (((congrFun (congrFun ehB2 477) j).trans (fcpy_at hj)).trans (fFr_at (fFr_of hB1) 221 (by decide +kernel) rfl j))))))))))))))))), (fun j hj => ((fup_other ehB33 478 j (Or.inl (by omega))).trans (((congrFun (congrFun ehB28 478) j).trans (fcpy_ne (by omega))).trans (((congrFun (congrFun ehB25 478) j).trans (fcpy_ne (by omega))).trans (((congrFun (congrFun ehB22 478) j).trans (fcpy_ne (by omega))).trans ((fup_other ehB19 478 j (Or.inl (by omega))).trans (((congrFun (congrFun ehB15 478) j).trans (fcpy_ne (by omega))).trans (((congrFun (congrFun ehB13 478) j).trans (fcpy_ne (by omega))).trans ((fup_other ehB11 478 j (Or.inl (by omega))).trans (((congrFun (congrFun ehB8 478) j).trans (fcpy_ne (by omega))).trans (((congrFun (congrFun ehB7 478) j).trans (fcpy_ne (by omega))).trans (((congrFun (congrFun ehB6 478) j).trans (fcpy_ne (by omega))).trans ((fFr_at fhB5 478 (by decide +kernel) rfl j).trans (((congrFun (congrFun ehB4 478) j).trans (fcpy_ne (by omega))).trans (((congrFun (congrFun ehB3 478) j).trans (fcpy_at hj)).trans (fFr_at (fFr_of hB2) 222 (by decide +kernel) rfl j)))))))))))))))), (fun j hj => ((fup_other ehB33 479 j (Or.inl (by omega))).trans (((congrFun (congrFun ehB28 479) j).trans (fcpy_ne (by omega))).trans (((congrFun (congrFun ehB25 479) j).trans (fcpy_ne (by omega))).trans (((congrFun (congrFun ehB22 479) j).trans (fcpy_ne (by omega))).trans ((fup_other ehB19 479 j (Or.inl (by omega))).trans (((congrFun (congrFun ehB15 479) j).trans (fcpy_ne (by omega))).trans (((congrFun (congrFun ehB13 479) j).trans (fcpy_ne (by omega))).trans ((fup_other ehB11 479 j (Or.inl (by omega))).trans (((congrFun (congrFun ehB8 479) j).trans (fcpy_ne (by omega))).trans (((congrFun (congrFun ehB7 479) j).trans (fcpy_ne (by omega))).trans (((congrFun (congrFun ehB6 479) j).trans (fcpy_ne (by omega))).trans ((fFr_at fhB5 479 (by decide +kernel) rfl j).trans (((congrFun (congrFun ehB4 479) j).trans (fcpy_at hj)).trans (fFr_at (fFr_of hB3) 223 (by decide +kernel) rfl j))))))))))))))), (fun i j hi hj => ((fup_other ehB33 (481 + i) j (Or.inl (by omega))).trans (((congrFun (congrFun ehB28 (481 + i)) j).trans (fcpy_ne (by omega))).trans (((congrFun (congrFun ehB25 (481 + i)) j).trans (fcpy_ne (by omega))).trans (((congrFun (congrFun ehB22 (481 + i)) j).trans (fcpy_ne (by omega))).trans ((fup_other ehB19 (481 + i) j (Or.inl (by omega))).trans (((congrFun (congrFun ehB15 (481 + i)) j).trans (fcpy_ne (by omega))).trans (((congrFun (congrFun ehB13 (481 + i)) j).trans (fcpy_ne (by omega))).trans ((fup_other ehB11 (481 + i) j (Or.inl (by omega))).trans (((congrFun (congrFun ehB8 (481 + i)) j).trans (fcpy_ne (by omega))).trans (((congrFun (congrFun ehB7 (481 + i)) j).trans (fcpy_ne (by omega))).trans (((congrFun (congrFun ehB6 (481 + i)) j).trans (fcpy_ne (by omega))).trans ((ehB5 i hi j hj).trans (fFr_rows (fFr_of hB4) (r := 225) (m := 24) (len := 4) (by decide +kernel) i j hi hj)))))))))))))), (fun j hj => ((fup_other ehB33 505 j (Or.inl (by omega))).trans (((congrFun (congrFun ehB28 505) j).trans (fcpy_ne (by omega))).trans (((congrFun (congrFun ehB25 505) j).trans (fcpy_ne (by omega))).trans (((congrFun (congrFun ehB22 505) j).trans (fcpy_ne (by omega))).trans ((fup_other ehB19 505 j (Or.inl (by omega))).trans (((congrFun (congrFun ehB15 505) j).trans (fcpy_ne (by omega))).trans (((congrFun (congrFun ehB13 505) j).trans (fcpy_ne (by omega))).trans ((fup_other ehB11 505 j (Or.inl (by omega))).trans (((congrFun (congrFun ehB8 505) j).trans (fcpy_ne (by omega))).trans (((congrFun (congrFun ehB7 505) j).trans (fcpy_ne (by omega))).trans (((congrFun (congrFun ehB6 505) j).trans (fcpy_at hj)).trans (fFr_at (fFr_of hB5) 249 (by decide +kernel) rfl j))))))))))))), (fun j hj => ((fup_other ehB33 506 j (Or.inl (by omega))).trans (((congrFun (congrFun ehB28 506) j).trans (fcpy_ne (by omega))).trans (((congrFun (congrFun ehB25 506) j).trans (fcpy_ne (by omega))).trans (((congrFun (congrFun ehB22 506) j).trans (fcpy_ne (by omega))).trans ((fup_other ehB19 506 j (Or.inl (by omega))).trans (((congrFun (congrFun ehB15 506) j).trans (fcpy_ne (by omega))).trans (((congrFun (congrFun ehB13 506) j).trans (fcpy_ne (by omega))).trans ((fup_other ehB11 506 j (Or.inl (by omega))).trans (((congrFun (congrFun ehB8 506) j).trans (fcpy_ne (by omega))).trans (((congrFun (congrFun ehB7 506) j).trans (fcpy_at hj)).trans (fFr_at (fFr_of hB6) 250 (by decide +kernel) rfl j)))))))))))), (fun j hj => ((fup_other ehB33 507 j (Or.inl (by omega))).trans (((congrFun (congrFun ehB28 507) j).trans (fcpy_ne (by omega))).trans (((congrFun (congrFun ehB25 507) j).trans (fcpy_ne (by omega))).trans (((congrFun (congrFun ehB22 507) j).trans (fcpy_ne (by omega))).trans ((fup_other ehB19 507 j (Or.inl (by omega))).trans (((congrFun (congrFun ehB15 507) j).trans (fcpy_ne (by omega))).trans (((congrFun (congrFun ehB13 507) j).trans (fcpy_ne (by omega))).trans ((fup_other ehB11 507 j (Or.inl (by omega))).trans (((congrFun (congrFun ehB8 507) j).trans (fcpy_at hj)).trans (fFr_at (fFr_of hB7) 251 (by decide +kernel) rfl j))))))))))), (fun j hj => ((fup_other ehB33 508 j (Or.inl (by omega))).trans (((congrFun (congrFun ehB28 508) j).trans (fcpy_ne (by omega))).trans (((congrFun (congrFun ehB25 508) j).trans (fcpy_ne (by omega))).trans (((congrFun (congrFun ehB22 508) j).trans (fcpy_ne (by omega))).trans ((fup_other ehB19 508 j (Or.inl (by omega))).trans (((congrFun (congrFun ehB15 508) j).trans (fcpy_ne (by omega))).trans (((congrFun (congrFun ehB13 508) j).trans (fcpy_at hj)).trans (fFr_at (fFr_of hB11) 252 (by decide +kernel) rfl j))))))))), (fun j hj => ((fup_other ehB33 509 j (Or.inl (by omega))).trans (((congrFun (congrFun ehB28 509) j).trans (fcpy_ne (by omega))).trans (((congrFun (congrFun ehB25 509) j).trans (fcpy_ne (by omega))).trans (((congrFun (congrFun ehB22 509) j).trans (fcpy_ne (by omega))).trans ((fup_other ehB19 509 j (Or.inl (by omega))).trans (((congrFun (congrFun ehB15 509) j).trans (fcpy_at hj)).trans (fFr_at (fFr_of hB13) 253 (by decide +kernel) rfl j)))))))), (fun j hj => ((fup_other ehB33 510 j (Or.inl (by omega))).trans (((congrFun (congrFun ehB28 510) j).trans (fcpy_ne (by omega))).trans (((congrFun (congrFun ehB25 510) j).trans (fcpy_ne (by omega))).trans (((congrFun (congrFun ehB22 510) j).trans (fcpy_at hj)).trans (fFr_at (fFr_of hB19) 254 (by decide +kernel) rfl j)))))), (fun j hj => ((fup_other ehB33 511 j (Or.inl (by omega))).trans (((congrFun (congrFun ehB28 511) j).trans (fcpy_ne (by omega))).trans (((congrFun (congrFun ehB25 511) j).trans (fcpy_at hj)).trans (fFr_at (fFr_of hB22) 255 (by decide +kernel) rfl j))))), (fun j hj => ((fup_other ehB33 512 j (Or.inl (by omega))).trans (((congrFun (congrFun ehB28 512) j).trans (fcpy_at hj)).trans (fFr_at (fFr_of hB25) 256 (by decide +kernel) rfl j))))⟩
set_option maxRecDepth 8000 in
theorem ct_People_becomeAs_f9dc9 {I : fH}  (h0 : fB bsJ I)  : fC ρ base n F xTc vwCl xTys D dA la gJ (fbz bsJ znJ (fKc wz_35895) I) xm_227 [.inr (.inr (some 433)), .inr (.inr (some 177))] I (fun I' r => r = none ∧ True ∧ (cop 256 0 cpP I I')) := by
  have hW : fzs wz_35895 (fKc wz_35895) := fKc_ok _
  refine f_meth (rb := rbJ) (J := []) 1 400 xG xin_227 x6_227 okJ (fB_self h0) ?_ ?_
  · exact fun q h => absurd h List.not_mem_nil
  · have hB0 := fB_self (zn := znJ) (K := fKc wz_35895) h0
    refine And.intro ⟨rfl, by decide, by decide⟩ ?_
    refine And.intro ⟨rfl, by decide, by decide⟩ ?_
    refine Exists.intro xm_75 (And.intro mi_75 (And.intro ⟨rfl, rfl, rfl, rfl⟩ (And.intro True.intro ?_)))
    refine fcall _ h0 (fzs_sub (by decide +kernel) hW) hB0 (ct_copyRow (W := [434]) (len := 24) (fBz h0 hB0) (frC_of (by decide +kernel))) ?_
    rintro IhB1 _ hB1 fhB1 ⟨rfl, ehB1⟩
    have c8 := cop_row (d1 := 256) (d2 := 0) (a := 178) (n := 24) (cop_nil (d1 := 256) (d2 := 0) (K := I)) ehB1 rfl rfl rfl (fun j _ => rfl) (by decide +kernel)
    refine And.intro ⟨rfl, by decide, by decide⟩ ?_
    refine And.intro ⟨rfl, by decide, by decide⟩ ?_
    refine Exists.intro xm_75 (And.intro mi_75 (And.intro ⟨rfl, rfl, rfl, rfl⟩ (And.intro True.intro ?_)))
    refine fcall _ h0 (fzs_sub (by decide +kernel) hW) hB1 (ct_copyRow (W := [435]) (len := 24) (fBz h0 hB1) (frC_of (by decide +kernel))) ?_
    rintro IhB2 _ hB2 fhB2 ⟨rfl, ehB2⟩
    have c19 := cop_row (d1 := 256) (d2 := 0) (a := 179) (n := 24) c8 ehB2 rfl rfl rfl (fun j _ => fFr_at (fFr_of hB1) 179 (by decide +kernel) rfl j) (by decide +kernel)
    refine And.intro ⟨rfl, by decide, by decide⟩ ?_
    refine And.intro ⟨rfl, by decide, by decide⟩ ?_
    refine Exists.intro xm_75 (And.intro mi_75 (And.intro ⟨rfl, rfl, rfl, rfl⟩ (And.intro True.intro ?_)))
    refine fcall _ h0 (fzs_sub (by decide +kernel) hW) hB2 (ct_copyRow (W := [436]) (len := 24) (fBz h0 hB2) (frC_of (by decide +kernel))) ?_
    rintro IhB3 _ hB3 fhB3 ⟨rfl, ehB3⟩
    have c30 := cop_row (d1 := 256) (d2 := 0) (a := 180) (n := 24) c19 ehB3 rfl rfl rfl (fun j _ => fFr_at (fFr_of hB2) 180 (by decide +kernel) rfl j) (by decide +kernel)
    refine And.intro ⟨rfl, by decide, by decide⟩ ?_
    refine And.intro ⟨rfl, by decide, by decide⟩ ?_
    refine Exists.intro xm_75 (And.intro mi_75 (And.intro ⟨rfl, rfl, rfl, rfl⟩ (And.intro True.intro ?_)))
    refine fcall _ h0 (fzs_sub (by decide +kernel) hW) hB3 (ct_copyRow (W := [437]) (len := 24) (fBz h0 hB3) (frC_of (by decide +kernel))) ?_
    rintro IhB4 _ hB4 fhB4 ⟨rfl, ehB4⟩
    have c41 := cop_row (d1 := 256) (d2 := 0) (a := 181) (n := 24) c30 ehB4 rfl rfl rfl (fun j _ => fFr_at (fFr_of hB3) 181 (by decide +kernel) rfl j) (by decide +kernel)
    refine And.intro ⟨rfl, by decide, by decide⟩ (fgetf fb_177_4 h0 hB4 ?_)
    intro z5 lz5 uz5 qz5
    refine And.intro ⟨rfl, by decide, by decide⟩ (And.intro rfl (And.intro (Or.inl rfl) (fputf fb_433_4 (by decide +kernel) hW (by first | exact ⟨lz5, uz5⟩ | omega) ?_)))
    intro IhB6 ehB6 hB6
    have t7 := fup_at ehB6 4 (by first | rfl | omega)
    have c49 := cop_fld (d1 := 256) (d2 := 0) (a := 177) (j0 := 4) c41 ehB6 rfl (qz5.trans (fBz_eq hB4 (a := 177) (j := 4) (by decide +kernel))) (by decide +kernel)
    exact ⟨rfl, True.intro, c49⟩
set_option maxRecDepth 8000 in
theorem ct_Works_becomeAs_81b4d {I : fH}  (h0 : fB bsJ I)  : fC ρ base n F xTc vwCl xTys D dA la gJ (fbz bsJ znJ (fKc wz_470c1) I) xm_226 [.inr (.inr (some 419)), .inr (.inr (some 163))] I (fun I' r => r = none ∧ (I' 419 13 = I 163 13) ∧ (∀ j : Nat, j < 24 → I' 420 j = I 164 j) ∧ (cop 256 0 cpW I I')) := by
  have hW : fzs wz_470c1 (fKc wz_470c1) := fKc_ok _
  refine f_meth (rb := rbJ) (J := []) 1 400 xG xin_226 x6_226 okJ (fB_self h0) ?_ ?_
  · exact fun q h => absurd h List.not_mem_nil
  · have hB0 := fB_self (zn := znJ) (K := fKc wz_470c1) h0
    refine And.intro ⟨rfl, by decide, by decide⟩ ?_
    refine And.intro ⟨rfl, by decide, by decide⟩ ?_
    refine Exists.intro xm_75 (And.intro mi_75 (And.intro ⟨rfl, rfl, rfl, rfl⟩ (And.intro True.intro ?_)))
    refine fcall _ h0 (fzs_sub (by decide +kernel) hW) hB0 (ct_copyRow (W := [420]) (len := 24) (fBz h0 hB0) (frC_of (by decide +kernel))) ?_
    rintro IhB1 _ hB1 fhB1 ⟨rfl, ehB1⟩
    have c8 := cop_row (d1 := 256) (d2 := 0) (a := 164) (n := 24) (cop_nil (d1 := 256) (d2 := 0) (K := I)) ehB1 rfl rfl rfl (fun j _ => rfl) (by decide +kernel)
    refine And.intro ⟨rfl, by decide, by decide⟩ ?_
    refine And.intro ⟨rfl, by decide, by decide⟩ ?_
    refine Exists.intro xm_75 (And.intro mi_75 (And.intro ⟨rfl, rfl, rfl, rfl⟩ (And.intro True.intro ?_)))
    refine fcall _ h0 (fzs_sub (by decide +kernel) hW) hB1 (ct_copyRow (W := [421]) (len := 24) (fBz h0 hB1) (frC_of (by decide +kernel))) ?_
    rintro IhB2 _ hB2 fhB2 ⟨rfl, ehB2⟩
    have c19 := cop_row (d1 := 256) (d2 := 0) (a := 165) (n := 24) c8 ehB2 rfl rfl rfl (fun j _ => fFr_at (fFr_of hB1) 165 (by decide +kernel) rfl j) (by decide +kernel)
    refine And.intro ⟨rfl, by decide, by decide⟩ ?_
    refine And.intro ⟨rfl, by decide, by decide⟩ ?_
    refine Exists.intro xm_75 (And.intro mi_75 (And.intro ⟨rfl, rfl, rfl, rfl⟩ (And.intro True.intro ?_)))
    refine fcall _ h0 (fzs_sub (by decide +kernel) hW) hB2 (ct_copyRow (W := [422]) (len := 24) (fBz h0 hB2) (frC_of (by decide +kernel))) ?_
    rintro IhB3 _ hB3 fhB3 ⟨rfl, ehB3⟩
    have c30 := cop_row (d1 := 256) (d2 := 0) (a := 166) (n := 24) c19 ehB3 rfl rfl rfl (fun j _ => fFr_at (fFr_of hB2) 166 (by decide +kernel) rfl j) (by decide +kernel)
    refine And.intro ⟨rfl, by decide, by decide⟩ ?_
    refine And.intro ⟨rfl, by decide, by decide⟩ ?_
    refine Exists.intro xm_75 (And.intro mi_75 (And.intro ⟨rfl, rfl, rfl, rfl⟩ (And.intro True.intro ?_)))
    refine fcall _ h0 (fzs_sub (by decide +kernel) hW) hB3 (ct_copyRow (W := [423]) (len := 24) (fBz h0 hB3) (frC_of (by decide +kernel))) ?_
    rintro IhB4 _ hB4 fhB4 ⟨rfl, ehB4⟩
    have c41 := cop_row (d1 := 256) (d2 := 0) (a := 167) (n := 24) c30 ehB4 rfl rfl rfl (fun j _ => fFr_at (fFr_of hB3) 167 (by decide +kernel) rfl j) (by decide +kernel)
    refine And.intro ⟨rfl, by decide, by decide⟩ ?_
    refine And.intro ⟨rfl, by decide, by decide⟩ ?_
    refine Exists.intro xm_75 (And.intro mi_75 (And.intro ⟨rfl, rfl, rfl, rfl⟩ (And.intro True.intro ?_)))
    refine fcall _ h0 (fzs_sub (by decide +kernel) hW) hB4 (ct_copyRow (W := [424]) (len := 24) (fBz h0 hB4) (frC_of (by decide +kernel))) ?_
    rintro IhB5 _ hB5 fhB5 ⟨rfl, ehB5⟩
    have c52 := cop_row (d1 := 256) (d2 := 0) (a := 168) (n := 24) c41 ehB5 rfl rfl rfl (fun j _ => fFr_at (fFr_of hB4) 168 (by decide +kernel) rfl j) (by decide +kernel)
    refine And.intro ⟨rfl, by decide, by decide⟩ ?_
    refine And.intro ⟨rfl, by decide, by decide⟩ ?_
    refine Exists.intro xm_75 (And.intro mi_75 (And.intro ⟨rfl, rfl, rfl, rfl⟩ (And.intro True.intro ?_)))
    refine fcall _ h0 (fzs_sub (by decide +kernel) hW) hB5 (ct_copyRow (W := [425]) (len := 24) (fBz h0 hB5) (frC_of (by decide +kernel))) ?_
    rintro IhB6 _ hB6 fhB6 ⟨rfl, ehB6⟩
    have c63 := cop_row (d1 := 256) (d2 := 0) (a := 169) (n := 24) c52 ehB6 rfl rfl rfl (fun j _ => fFr_at (fFr_of hB5) 169 (by decide +kernel) rfl j) (by decide +kernel)
    refine And.intro ⟨rfl, by decide, by decide⟩ ?_
    refine And.intro ⟨rfl, by decide, by decide⟩ ?_
    refine Exists.intro xm_75 (And.intro mi_75 (And.intro ⟨rfl, rfl, rfl, rfl⟩ (And.intro True.intro ?_)))
    refine fcall _ h0 (fzs_sub (by decide +kernel) hW) hB6 (ct_copyRow (W := [426]) (len := 24) (fBz h0 hB6) (frC_of (by decide +kernel))) ?_
    rintro IhB7 _ hB7 fhB7 ⟨rfl, ehB7⟩
    have c74 := cop_row (d1 := 256) (d2 := 0) (a := 170) (n := 24) c63 ehB7 rfl rfl rfl (fun j _ => fFr_at (fFr_of hB6) 170 (by decide +kernel) rfl j) (by decide +kernel)
    refine And.intro ⟨rfl, by decide, by decide⟩ ?_
    refine And.intro ⟨rfl, by decide, by decide⟩ ?_
    refine Exists.intro xm_75 (And.intro mi_75 (And.intro ⟨rfl, rfl, rfl, rfl⟩ (And.intro True.intro ?_)))
    refine fcall _ h0 (fzs_sub (by decide +kernel) hW) hB7 (ct_copyRow (W := [427]) (len := 24) (fBz h0 hB7) (frC_of (by decide +kernel))) ?_
    rintro IhB8 _ hB8 fhB8 ⟨rfl, ehB8⟩
    have c85 := cop_row (d1 := 256) (d2 := 0) (a := 171) (n := 24) c74 ehB8 rfl rfl rfl (fun j _ => fFr_at (fFr_of hB7) 171 (by decide +kernel) rfl j) (by decide +kernel)
    refine And.intro ⟨rfl, by decide, by decide⟩ ?_
    refine And.intro ⟨rfl, by decide, by decide⟩ ?_
    refine Exists.intro xm_75 (And.intro mi_75 (And.intro ⟨rfl, rfl, rfl, rfl⟩ (And.intro True.intro ?_)))
    refine fcall _ h0 (fzs_sub (by decide +kernel) hW) hB8 (ct_copyRow (W := [428]) (len := 24) (fBz h0 hB8) (frC_of (by decide +kernel))) ?_
    rintro IhB9 _ hB9 fhB9 ⟨rfl, ehB9⟩
    have c96 := cop_row (d1 := 256) (d2 := 0) (a := 172) (n := 24) c85 ehB9 rfl rfl rfl (fun j _ => fFr_at (fFr_of hB8) 172 (by decide +kernel) rfl j) (by decide +kernel)
    refine And.intro ⟨rfl, by decide, by decide⟩ ?_
    refine And.intro ⟨rfl, by decide, by decide⟩ ?_
    refine Exists.intro xm_75 (And.intro mi_75 (And.intro ⟨rfl, rfl, rfl, rfl⟩ (And.intro True.intro ?_)))
    refine fcall _ h0 (fzs_sub (by decide +kernel) hW) hB9 (ct_copyRow (W := [429]) (len := 24) (fBz h0 hB9) (frC_of (by decide +kernel))) ?_
    rintro IhB10 _ hB10 fhB10 ⟨rfl, ehB10⟩
    have c107 := cop_row (d1 := 256) (d2 := 0) (a := 173) (n := 24) c96 ehB10 rfl rfl rfl (fun j _ => fFr_at (fFr_of hB9) 173 (by decide +kernel) rfl j) (by decide +kernel)
    refine And.intro ⟨rfl, by decide, by decide⟩ ?_
    refine And.intro ⟨rfl, by decide, by decide⟩ ?_
    refine Exists.intro xm_75 (And.intro mi_75 (And.intro ⟨rfl, rfl, rfl, rfl⟩ (And.intro True.intro ?_)))
    refine fcall _ h0 (fzs_sub (by decide +kernel) hW) hB10 (ct_copyRow (W := [430]) (len := 24) (fBz h0 hB10) (frC_of (by decide +kernel))) ?_
    rintro IhB11 _ hB11 fhB11 ⟨rfl, ehB11⟩
    have c118 := cop_row (d1 := 256) (d2 := 0) (a := 174) (n := 24) c107 ehB11 rfl rfl rfl (fun j _ => fFr_at (fFr_of hB10) 174 (by decide +kernel) rfl j) (by decide +kernel)
    refine And.intro ⟨rfl, by decide, by decide⟩ ?_
    refine And.intro ⟨rfl, by decide, by decide⟩ ?_
    refine Exists.intro xm_75 (And.intro mi_75 (And.intro ⟨rfl, rfl, rfl, rfl⟩ (And.intro True.intro ?_)))
    refine fcall _ h0 (fzs_sub (by decide +kernel) hW) hB11 (ct_copyRow (W := [431]) (len := 24) (fBz h0 hB11) (frC_of (by decide +kernel))) ?_
    rintro IhB12 _ hB12 fhB12 ⟨rfl, ehB12⟩
    have c129 := cop_row (d1 := 256) (d2 := 0) (a := 175) (n := 24) c118 ehB12 rfl rfl rfl (fun j _ => fFr_at (fFr_of hB11) 175 (by decide +kernel) rfl j) (by decide +kernel)
    refine And.intro ⟨rfl, by decide, by decide⟩ ?_
    refine And.intro ⟨rfl, by decide, by decide⟩ ?_
    refine Exists.intro xm_75 (And.intro mi_75 (And.intro ⟨rfl, rfl, rfl, rfl⟩ (And.intro True.intro ?_)))
    refine fcall _ h0 (fzs_sub (by decide +kernel) hW) hB12 (ct_copyRow (W := [432]) (len := 24) (fBz h0 hB12) (frC_of (by decide +kernel))) ?_
    rintro IhB13 _ hB13 fhB13 ⟨rfl, ehB13⟩
    have c140 := cop_row (d1 := 256) (d2 := 0) (a := 176) (n := 24) c129 ehB13 rfl rfl rfl (fun j _ => fFr_at (fFr_of hB12) 176 (by decide +kernel) rfl j) (by decide +kernel)
    refine And.intro ⟨rfl, by decide, by decide⟩ (fgetf fb_163_13 h0 hB13 ?_)
    intro z14 lz14 uz14 qz14
    have k15 := fBz_eq hB13 (a := 163) (j := 13) (by decide +kernel)
    refine And.intro ⟨rfl, by decide, by decide⟩ (And.intro rfl (And.intro (Or.inl rfl) (fputf fb_419_13 (by decide +kernel) hW (by first | exact ⟨lz14, uz14⟩ | omega) ?_)))
    intro IhB16 ehB16 hB16
    have t17 := fup_at ehB16 13 (by first | rfl | omega)
    have c148 := cop_fld (d1 := 256) (d2 := 0) (a := 163) (j0 := 13) c140 ehB16 rfl (qz14.trans (fBz_eq hB13 (a := 163) (j := 13) (by decide +kernel))) (by decide +kernel)
    exact ⟨rfl, by omega, (fun j hj => ((fup_other ehB16 420 j (Or.inl (by omega))).trans (((congrFun (congrFun ehB13 420) j).trans (fcpy_ne (by omega))).trans (((congrFun (congrFun ehB12 420) j).trans (fcpy_ne (by omega))).trans (((congrFun (congrFun ehB11 420) j).trans (fcpy_ne (by omega))).trans (((congrFun (congrFun ehB10 420) j).trans (fcpy_ne (by omega))).trans (((congrFun (congrFun ehB9 420) j).trans (fcpy_ne (by omega))).trans (((congrFun (congrFun ehB8 420) j).trans (fcpy_ne (by omega))).trans (((congrFun (congrFun ehB7 420) j).trans (fcpy_ne (by omega))).trans (((congrFun (congrFun ehB6 420) j).trans (fcpy_ne (by omega))).trans (((congrFun (congrFun ehB5 420) j).trans (fcpy_ne (by omega))).trans (((congrFun (congrFun ehB4 420) j).trans (fcpy_ne (by omega))).trans (((congrFun (congrFun ehB3 420) j).trans (fcpy_ne (by omega))).trans (((congrFun (congrFun ehB2 420) j).trans (fcpy_ne (by omega))).trans ((congrFun (congrFun ehB1 420) j).trans (fcpy_at hj)))))))))))))))), c148⟩
set_option maxRecDepth 8000 in
theorem ct_Cells_becomeAs_a1cd9 {I : fH}  (h0 : fB bsJ I)  : fC ρ base n F xTc vwCl xTys D dA la gJ (fbz bsJ znJ (fKc wz_479cc) I) xm_224 [.inr (.inr (some 258)), .inr (.inr (some 2))] I (fun I' r => r = none ∧ (I' 258 5 = I 2 5 ∧ I' 258 10 = I 2 10) ∧ (cop 256 0 cpC I I')) := by
  have hW : fzs wz_479cc (fKc wz_479cc) := fKc_ok _
  refine f_meth (rb := rbJ) (J := []) 1 400 xG xin_224 x6_224 okJ (fB_self h0) ?_ ?_
  · exact fun q h => absurd h List.not_mem_nil
  · have hB0 := fB_self (zn := znJ) (K := fKc wz_479cc) h0
    refine And.intro ⟨rfl, by decide, by decide⟩ ?_
    refine And.intro ⟨rfl, by decide, by decide⟩ ?_
    refine Exists.intro xm_75 (And.intro mi_75 (And.intro ⟨rfl, rfl, rfl, rfl⟩ (And.intro True.intro ?_)))
    refine fcall _ h0 (fzs_sub (by decide +kernel) hW) hB0 (ct_copyRow (W := [259]) (len := 20) (fBz h0 hB0) (frC_of (by decide +kernel))) ?_
    rintro IhB1 _ hB1 fhB1 ⟨rfl, ehB1⟩
    have c8 := cop_row (d1 := 256) (d2 := 0) (a := 3) (n := 20) (cop_nil (d1 := 256) (d2 := 0) (K := I)) ehB1 rfl rfl rfl (fun j _ => rfl) (by decide +kernel)
    refine And.intro ⟨rfl, by decide, by decide⟩ ?_
    refine And.intro ⟨rfl, by decide, by decide⟩ ?_
    refine Exists.intro xm_75 (And.intro mi_75 (And.intro ⟨rfl, rfl, rfl, rfl⟩ (And.intro True.intro ?_)))
    refine fcall _ h0 (fzs_sub (by decide +kernel) hW) hB1 (ct_copyRow (W := [260]) (len := 20) (fBz h0 hB1) (frC_of (by decide +kernel))) ?_
    rintro IhB2 _ hB2 fhB2 ⟨rfl, ehB2⟩
    have c19 := cop_row (d1 := 256) (d2 := 0) (a := 4) (n := 20) c8 ehB2 rfl rfl rfl (fun j _ => fFr_at (fFr_of hB1) 4 (by decide +kernel) rfl j) (by decide +kernel)
    refine And.intro ⟨rfl, by decide, by decide⟩ ?_
    refine And.intro ⟨rfl, by decide, by decide⟩ ?_
    refine Exists.intro xm_225 (And.intro mi_225 (And.intro ⟨rfl, rfl, rfl, rfl⟩ (And.intro True.intro ?_)))
    refine fcall _ h0 (fzs_sub (by decide +kernel) hW) hB2 (ct_copyRows (W := [261]) (m := 20) (len := 5) (ro := 6) (rd := 262) (fBz h0 hB2) (frCs_of ⟨rfl, rfl, rfl, rfl, by decide⟩ (by decide +kernel))) ?_
    rintro IhB3 _ hB3 fhB3 ⟨rfl, ehB3⟩
    have c30 := cop_rows (d1 := 256) (d2 := 0) (a := 6) (m := 20) (n := 5) c19 fhB3 ehB3 rfl rfl (fun i j hi hj => fFr_rows (fFr_of hB2) (r := 6) (m := 20) (len := 5) (by decide +kernel) i j hi hj) (by decide) (by decide +kernel)
    refine And.intro ⟨rfl, by decide, by decide⟩ ?_
    refine And.intro ⟨rfl, by decide, by decide⟩ ?_
    refine Exists.intro xm_225 (And.intro mi_225 (And.intro ⟨rfl, rfl, rfl, rfl⟩ (And.intro True.intro ?_)))
    refine fcall _ h0 (fzs_sub (by decide +kernel) hW) hB3 (ct_copyRows (W := [282]) (m := 20) (len := 5) (ro := 27) (rd := 283) (fBz h0 hB3) (frCs_of ⟨rfl, rfl, rfl, rfl, by decide⟩ (by decide +kernel))) ?_
    rintro IhB4 _ hB4 fhB4 ⟨rfl, ehB4⟩
    have c41 := cop_rows (d1 := 256) (d2 := 0) (a := 27) (m := 20) (n := 5) c30 fhB4 ehB4 rfl rfl (fun i j hi hj => fFr_rows (fFr_of hB3) (r := 27) (m := 20) (len := 5) (by decide +kernel) i j hi hj) (by decide) (by decide +kernel)
    refine And.intro ⟨rfl, by decide, by decide⟩ ?_
    refine And.intro ⟨rfl, by decide, by decide⟩ ?_
    refine Exists.intro xm_225 (And.intro mi_225 (And.intro ⟨rfl, rfl, rfl, rfl⟩ (And.intro True.intro ?_)))
    refine fcall _ h0 (fzs_sub (by decide +kernel) hW) hB4 (ct_copyRows (W := [303]) (m := 20) (len := 6) (ro := 48) (rd := 304) (fBz h0 hB4) (frCs_of ⟨rfl, rfl, rfl, rfl, by decide⟩ (by decide +kernel))) ?_
    rintro IhB5 _ hB5 fhB5 ⟨rfl, ehB5⟩
    have c52 := cop_rows (d1 := 256) (d2 := 0) (a := 48) (m := 20) (n := 6) c41 fhB5 ehB5 rfl rfl (fun i j hi hj => fFr_rows (fFr_of hB4) (r := 48) (m := 20) (len := 6) (by decide +kernel) i j hi hj) (by decide) (by decide +kernel)
    refine And.intro ⟨rfl, by decide, by decide⟩ (fgetf fb_2_5 h0 hB5 ?_)
    intro z6 lz6 uz6 qz6
    have k7 := fBz_eq hB5 (a := 2) (j := 5) (by decide +kernel)
    refine And.intro ⟨rfl, by decide, by decide⟩ (And.intro rfl (And.intro (Or.inl rfl) (fputf fb_258_5 (by decide +kernel) hW (by first | exact ⟨lz6, uz6⟩ | omega) ?_)))
    intro IhB8 ehB8 hB8
    have t9 := fup_at ehB8 5 (by first | rfl | omega)
    have c60 := cop_fld (d1 := 256) (d2 := 0) (a := 2) (j0 := 5) c52 ehB8 rfl (qz6.trans (fBz_eq hB5 (a := 2) (j := 5) (by decide +kernel))) (by decide +kernel)
    refine And.intro ⟨rfl, by decide, by decide⟩ ?_
    refine And.intro ⟨rfl, by decide, by decide⟩ ?_
    refine Exists.intro xm_75 (And.intro mi_75 (And.intro ⟨rfl, rfl, rfl, rfl⟩ (And.intro True.intro ?_)))
    refine fcall _ h0 (fzs_sub (by decide +kernel) hW) hB8 (ct_copyRow (W := [324]) (len := 24) (fBz h0 hB8) (frC_of (by decide +kernel))) ?_
    rintro IhB10 _ hB10 fhB10 ⟨rfl, ehB10⟩
    have t11 := fhB10 258 5 (by decide +kernel)
    have c71 := cop_row (d1 := 256) (d2 := 0) (a := 68) (n := 24) c60 ehB10 rfl rfl rfl (fun j _ => fFr_at (fFr_of hB8) 68 (by decide +kernel) rfl j) (by decide +kernel)
    refine And.intro ⟨rfl, by decide, by decide⟩ ?_
    refine And.intro ⟨rfl, by decide, by decide⟩ ?_
    refine Exists.intro xm_75 (And.intro mi_75 (And.intro ⟨rfl, rfl, rfl, rfl⟩ (And.intro True.intro ?_)))
    refine fcall _ h0 (fzs_sub (by decide +kernel) hW) hB10 (ct_copyRow (W := [325]) (len := 24) (fBz h0 hB10) (frC_of (by decide +kernel))) ?_
    rintro IhB12 _ hB12 fhB12 ⟨rfl, ehB12⟩
    have t13 := fhB12 258 5 (by decide +kernel)
    have c82 := cop_row (d1 := 256) (d2 := 0) (a := 69) (n := 24) c71 ehB12 rfl rfl rfl (fun j _ => fFr_at (fFr_of hB10) 69 (by decide +kernel) rfl j) (by decide +kernel)
    refine And.intro ⟨rfl, by decide, by decide⟩ ?_
    refine And.intro ⟨rfl, by decide, by decide⟩ ?_
    refine Exists.intro xm_75 (And.intro mi_75 (And.intro ⟨rfl, rfl, rfl, rfl⟩ (And.intro True.intro ?_)))
    refine fcall _ h0 (fzs_sub (by decide +kernel) hW) hB12 (ct_copyRow (W := [326]) (len := 24) (fBz h0 hB12) (frC_of (by decide +kernel))) ?_
    rintro IhB14 _ hB14 fhB14 ⟨rfl, ehB14⟩
    have t15 := fhB14 258 5 (by decide +kernel)
    have c93 := cop_row (d1 := 256) (d2 := 0) (a := 70) (n := 24) c82 ehB14 rfl rfl rfl (fun j _ => fFr_at (fFr_of hB12) 70 (by decide +kernel) rfl j) (by decide +kernel)
    refine And.intro ⟨rfl, by decide, by decide⟩ ?_
    refine And.intro ⟨rfl, by decide, by decide⟩ ?_
    refine Exists.intro xm_75 (And.intro mi_75 (And.intro ⟨rfl, rfl, rfl, rfl⟩ (And.intro True.intro ?_)))
    refine fcall _ h0 (fzs_sub (by decide +kernel) hW) hB14 (ct_copyRow (W := [327]) (len := 24) (fBz h0 hB14) (frC_of (by decide +kernel))) ?_
    rintro IhB16 _ hB16 fhB16 ⟨rfl, ehB16⟩
    have t17 := fhB16 258 5 (by decide +kernel)
    have c104 := cop_row (d1 := 256) (d2 := 0) (a := 71) (n := 24) c93 ehB16 rfl rfl rfl (fun j _ => fFr_at (fFr_of hB14) 71 (by decide +kernel) rfl j) (by decide +kernel)
    refine And.intro ⟨rfl, by decide, by decide⟩ (fgetf fb_2_10 h0 hB16 ?_)
    intro z18 lz18 uz18 qz18
    have k19 := fBz_eq hB16 (a := 2) (j := 10) (by decide +kernel)
    refine And.intro ⟨rfl, by decide, by decide⟩ (And.intro rfl (And.intro (Or.inl rfl) (fputf fb_258_10 (by decide +kernel) hW (by first | exact ⟨lz18, uz18⟩ | omega) ?_)))
    intro IhB20 ehB20 hB20
    have t21 : IhB20 258 5 = IhB16 258 5 := (congrFun (congrFun ehB20 258) 5).trans (fup_ne (by first | decide | omega))
    have t22 := fup_at ehB20 10 (by first | rfl | omega)
    have c112 := cop_fld (d1 := 256) (d2 := 0) (a := 2) (j0 := 10) c104 ehB20 rfl (qz18.trans (fBz_eq hB16 (a := 2) (j := 10) (by decide +kernel))) (by decide +kernel)
    refine And.intro ⟨rfl, by decide, by decide⟩ ?_
    refine And.intro ⟨rfl, by decide, by decide⟩ ?_
    refine Exists.intro xm_225 (And.intro mi_225 (And.intro ⟨rfl, rfl, rfl, rfl⟩ (And.intro True.intro ?_)))
    refine fcall _ h0 (fzs_sub (by decide +kernel) hW) hB20 (ct_copyRows (W := [328]) (m := 90) (len := 8) (ro := 73) (rd := 329) (fBz h0 hB20) (frCs_of ⟨rfl, rfl, rfl, rfl, by decide⟩ (by decide +kernel))) ?_
    rintro IhB23 _ hB23 fhB23 ⟨rfl, ehB23⟩
    have t24 := fhB23 258 5 (by decide +kernel)
    have t25 := fhB23 258 10 (by decide +kernel)
    have c123 := cop_rows (d1 := 256) (d2 := 0) (a := 73) (m := 90) (n := 8) c112 fhB23 ehB23 rfl rfl (fun i j hi hj => fFr_rows (fFr_of hB20) (r := 73) (m := 90) (len := 8) (by decide +kernel) i j hi hj) (by decide) (by decide +kernel)
    refine And.intro ⟨rfl, by decide, by decide⟩ (fgetf fb_2_12 h0 hB23 ?_)
    intro z26 lz26 uz26 qz26
    refine And.intro ⟨rfl, by decide, by decide⟩ (And.intro rfl (And.intro (Or.inl rfl) (fputf fb_258_12 (by decide +kernel) hW (by first | exact ⟨lz26, uz26⟩ | omega) ?_)))
    intro IhB27 ehB27 hB27
    have t28 : IhB27 258 5 = IhB23 258 5 := (congrFun (congrFun ehB27 258) 5).trans (fup_ne (by first | decide | omega))
    have t29 : IhB27 258 10 = IhB23 258 10 := (congrFun (congrFun ehB27 258) 10).trans (fup_ne (by first | decide | omega))
    have t30 := fup_at ehB27 12 (by first | rfl | omega)
    have c131 := cop_fld (d1 := 256) (d2 := 0) (a := 2) (j0 := 12) c123 ehB27 rfl (qz26.trans (fBz_eq hB23 (a := 2) (j := 12) (by decide +kernel))) (by decide +kernel)
    exact ⟨rfl, by omega, c131⟩
set_option maxRecDepth 8000 in
theorem ct_City_becomeAs_6e1fc {I : fH}  (h0 : fB bsJ I)  : fC ρ base n F xTc vwCl xTys D dA la gJ (fbz bsJ znJ (fKc wz_7d688) I) xm_223 [.inr (.inr (some 257)), .inr (.inr (some 1))] I (fun I' r => r = none ∧ ((I' 258 5 = I 2 5 ∧ I' 258 10 = I 2 10 ∧ I' 257 9 = I 1 9) ∧ I' 419 13 = I 163 13) ∧ (∀ j : Nat, j < 24 → I' 420 j = I 164 j) ∧ (∀ i j : Nat, i < 3 → j < 61 → I' (440 + i) j = I (184 + i) j) ∧ (cR 256 I' = cR 0 I)) := by
  have hW : fzs wz_7d688 (fKc wz_7d688) := fKc_ok _
  refine f_meth (rb := rbJ) (J := []) 1 400 xG xin_223 x6_223 okJ (fB_self h0) ?_ ?_
  · exact fun q h => absurd h List.not_mem_nil
  · have hB0 := fB_self (zn := znJ) (K := fKc wz_7d688) h0
    refine And.intro ⟨rfl, by decide, by decide⟩ ?_
    refine And.intro ⟨rfl, by decide, by decide⟩ ?_
    refine Exists.intro xm_224 (And.intro mi_224 (And.intro ⟨rfl, rfl, rfl, rfl⟩ (And.intro rfl ?_)))
    refine fcall _ h0 (fzs_sub (by decide +kernel) hW) hB0 (ct_Cells_becomeAs_a1cd9 (fBz h0 hB0)) ?_
    rintro IhB2 _ hB2 fhB2 ⟨rfl, hz1, g0z1⟩
    refine And.intro ⟨rfl, by decide, by decide⟩ ?_
    refine And.intro ⟨rfl, by decide, by decide⟩ ?_
    refine Exists.intro xm_226 (And.intro mi_226 (And.intro ⟨rfl, rfl, rfl, rfl⟩ (And.intro rfl ?_)))
    refine fcall _ h0 (fzs_sub (by decide +kernel) hW) hB2 (ct_Works_becomeAs_81b4d (fBz h0 hB2)) ?_
    rintro IhB4 _ hB4 fhB4 ⟨rfl, hz3, g0z3, g1z3⟩
    have t5 := fhB4 258 5 (by decide +kernel)
    have t6 := fhB4 258 10 (by decide +kernel)
    have w19 := fBz_eq hB2 (a := 163) (j := 13) (by decide +kernel)
    have c19 := cop_add g0z1 g1z3 fhB2 fhB4 (by decide +kernel) (by decide +kernel)
    refine And.intro ⟨rfl, by decide, by decide⟩ ?_
    refine And.intro ⟨rfl, by decide, by decide⟩ ?_
    refine Exists.intro xm_227 (And.intro mi_227 (And.intro ⟨rfl, rfl, rfl, rfl⟩ (And.intro rfl ?_)))
    refine fcall _ h0 (fzs_sub (by decide +kernel) hW) hB4 (ct_People_becomeAs_f9dc9 (fBz h0 hB4)) ?_
    rintro IhB8 _ hB8 fhB8 ⟨rfl, hz7, g0z7⟩
    have t9 := fhB8 258 5 (by decide +kernel)
    have t10 := fhB8 258 10 (by decide +kernel)
    have t11 := fhB8 419 13 (by decide +kernel)
    have c30 := cop_add c19 g0z7 (fFr_of hB4) fhB8 (by decide +kernel) (by decide +kernel)
    refine And.intro ⟨rfl, by decide, by decide⟩ ?_
    refine And.intro ⟨rfl, by decide, by decide⟩ ?_
    refine Exists.intro xm_75 (And.intro mi_75 (And.intro ⟨rfl, rfl, rfl, rfl⟩ (And.intro True.intro ?_)))
    refine fcall _ h0 (fzs_sub (by decide +kernel) hW) hB8 (ct_copyRow (W := [438]) (len := 6) (fBz h0 hB8) (frC_of (by decide +kernel))) ?_
    rintro IhB12 _ hB12 fhB12 ⟨rfl, ehB12⟩
    have t13 := fhB12 258 5 (by decide +kernel)
    have t14 := fhB12 258 10 (by decide +kernel)
    have t15 := fhB12 419 13 (by decide +kernel)
    have c41 := cop_row (d1 := 256) (d2 := 0) (a := 182) (n := 6) c30 ehB12 rfl rfl rfl (fun j _ => fFr_at (fFr_of hB8) 182 (by decide +kernel) rfl j) (by decide +kernel)
    refine And.intro ⟨rfl, by decide, by decide⟩ ?_
    refine And.intro ⟨rfl, by decide, by decide⟩ ?_
    refine Exists.intro xm_225 (And.intro mi_225 (And.intro ⟨rfl, rfl, rfl, rfl⟩ (And.intro True.intro ?_)))
    refine fcall _ h0 (fzs_sub (by decide +kernel) hW) hB12 (ct_copyRows (W := [439]) (m := 3) (len := 61) (ro := 184) (rd := 440) (fBz h0 hB12) (frCs_of ⟨rfl, rfl, rfl, rfl, by decide⟩ (by decide +kernel))) ?_
    rintro IhB16 _ hB16 fhB16 ⟨rfl, ehB16⟩
    have t17 := fhB16 258 5 (by decide +kernel)
    have t18 := fhB16 258 10 (by decide +kernel)
    have t19 := fhB16 419 13 (by decide +kernel)
    have c52 := cop_rows (d1 := 256) (d2 := 0) (a := 184) (m := 3) (n := 61) c41 fhB16 ehB16 rfl rfl (fun i j hi hj => fFr_rows (fFr_of hB12) (r := 184) (m := 3) (len := 61) (by decide +kernel) i j hi hj) (by decide) (by decide +kernel)
    refine And.intro ⟨rfl, by decide, by decide⟩ (fgetf fb_1_5 h0 hB16 ?_)
    intro z20 lz20 uz20 qz20
    refine And.intro ⟨rfl, by decide, by decide⟩ (And.intro rfl (And.intro (Or.inl rfl) (fputf fb_257_5 (by decide +kernel) hW (by first | exact ⟨lz20, uz20⟩ | omega) ?_)))
    intro IhB21 ehB21 hB21
    have t22 := fup_at ehB21 5 (by first | rfl | omega)
    have t23 : IhB21 258 5 = IhB16 258 5 := (congrFun (congrFun ehB21 258) 5).trans (fup_ne (by first | decide | omega))
    have t24 : IhB21 258 10 = IhB16 258 10 := (congrFun (congrFun ehB21 258) 10).trans (fup_ne (by first | decide | omega))
    have t25 : IhB21 419 13 = IhB16 419 13 := (congrFun (congrFun ehB21 419) 13).trans (fup_ne (by first | decide | omega))
    have c60 := cop_fld (d1 := 256) (d2 := 0) (a := 1) (j0 := 5) c52 ehB21 rfl (qz20.trans (fBz_eq hB16 (a := 1) (j := 5) (by decide +kernel))) (by decide +kernel)
    refine And.intro ⟨rfl, by decide, by decide⟩ (fgetf fb_1_6 h0 hB21 ?_)
    intro z26 lz26 uz26 qz26
    refine And.intro ⟨rfl, by decide, by decide⟩ (And.intro rfl (And.intro (Or.inl rfl) (fputf fb_257_6 (by decide +kernel) hW (by first | exact ⟨lz26, uz26⟩ | omega) ?_)))
    intro IhB27 ehB27 hB27
    have t28 : IhB27 257 5 = IhB21 257 5 := (congrFun (congrFun ehB27 257) 5).trans (fup_ne (by first | decide | omega))
    have t29 := fup_at ehB27 6 (by first | rfl | omega)
    have t30 : IhB27 258 5 = IhB21 258 5 := (congrFun (congrFun ehB27 258) 5).trans (fup_ne (by first | decide | omega))
    have t31 : IhB27 258 10 = IhB21 258 10 := (congrFun (congrFun ehB27 258) 10).trans (fup_ne (by first | decide | omega))
    have t32 : IhB27 419 13 = IhB21 419 13 := (congrFun (congrFun ehB27 419) 13).trans (fup_ne (by first | decide | omega))
    have c68 := cop_fld (d1 := 256) (d2 := 0) (a := 1) (j0 := 6) c60 ehB27 rfl (qz26.trans (fBz_eq hB21 (a := 1) (j := 6) (by decide +kernel))) (by decide +kernel)
    refine And.intro ⟨rfl, by decide, by decide⟩ (fgetf fb_1_7 h0 hB27 ?_)
    intro z33 lz33 uz33 qz33
    refine And.intro ⟨rfl, by decide, by decide⟩ (And.intro rfl (And.intro (Or.inl rfl) (fputf fb_257_7 (by decide +kernel) hW (by first | exact ⟨lz33, uz33⟩ | omega) ?_)))
    intro IhB34 ehB34 hB34
    have t35 : IhB34 257 5 = IhB27 257 5 := (congrFun (congrFun ehB34 257) 5).trans (fup_ne (by first | decide | omega))
    have t36 : IhB34 257 6 = IhB27 257 6 := (congrFun (congrFun ehB34 257) 6).trans (fup_ne (by first | decide | omega))
    have t37 := fup_at ehB34 7 (by first | rfl | omega)
    have t38 : IhB34 258 5 = IhB27 258 5 := (congrFun (congrFun ehB34 258) 5).trans (fup_ne (by first | decide | omega))
    have t39 : IhB34 258 10 = IhB27 258 10 := (congrFun (congrFun ehB34 258) 10).trans (fup_ne (by first | decide | omega))
    have t40 : IhB34 419 13 = IhB27 419 13 := (congrFun (congrFun ehB34 419) 13).trans (fup_ne (by first | decide | omega))
    have c76 := cop_fld (d1 := 256) (d2 := 0) (a := 1) (j0 := 7) c68 ehB34 rfl (qz33.trans (fBz_eq hB27 (a := 1) (j := 7) (by decide +kernel))) (by decide +kernel)
    refine And.intro ⟨rfl, by decide, by decide⟩ (fgetf fb_1_8 h0 hB34 ?_)
    intro z41 lz41 uz41 qz41
    refine And.intro ⟨rfl, by decide, by decide⟩ (And.intro rfl (And.intro (Or.inl rfl) (fputf fb_257_8 (by decide +kernel) hW (by first | exact ⟨lz41, uz41⟩ | omega) ?_)))
    intro IhB42 ehB42 hB42
    have t43 : IhB42 257 5 = IhB34 257 5 := (congrFun (congrFun ehB42 257) 5).trans (fup_ne (by first | decide | omega))
    have t44 : IhB42 257 6 = IhB34 257 6 := (congrFun (congrFun ehB42 257) 6).trans (fup_ne (by first | decide | omega))
    have t45 : IhB42 257 7 = IhB34 257 7 := (congrFun (congrFun ehB42 257) 7).trans (fup_ne (by first | decide | omega))
    have t46 := fup_at ehB42 8 (by first | rfl | omega)
    have t47 : IhB42 258 5 = IhB34 258 5 := (congrFun (congrFun ehB42 258) 5).trans (fup_ne (by first | decide | omega))
    have t48 : IhB42 258 10 = IhB34 258 10 := (congrFun (congrFun ehB42 258) 10).trans (fup_ne (by first | decide | omega))
    have t49 : IhB42 419 13 = IhB34 419 13 := (congrFun (congrFun ehB42 419) 13).trans (fup_ne (by first | decide | omega))
    have c84 := cop_fld (d1 := 256) (d2 := 0) (a := 1) (j0 := 8) c76 ehB42 rfl (qz41.trans (fBz_eq hB34 (a := 1) (j := 8) (by decide +kernel))) (by decide +kernel)
    refine And.intro ⟨rfl, by decide, by decide⟩ (fgetf fb_1_9 h0 hB42 ?_)
    intro z50 lz50 uz50 qz50
    have k51 := fBz_eq hB42 (a := 1) (j := 9) (by decide +kernel)
    refine And.intro ⟨rfl, by decide, by decide⟩ (And.intro rfl (And.intro (Or.inl rfl) (fputf fb_257_9 (by decide +kernel) hW (by first | exact ⟨lz50, uz50⟩ | omega) ?_)))
    intro IhB52 ehB52 hB52
    have t53 : IhB52 257 5 = IhB42 257 5 := (congrFun (congrFun ehB52 257) 5).trans (fup_ne (by first | decide | omega))
    have t54 : IhB52 257 6 = IhB42 257 6 := (congrFun (congrFun ehB52 257) 6).trans (fup_ne (by first | decide | omega))
    have t55 : IhB52 257 7 = IhB42 257 7 := (congrFun (congrFun ehB52 257) 7).trans (fup_ne (by first | decide | omega))
    have t56 : IhB52 257 8 = IhB42 257 8 := (congrFun (congrFun ehB52 257) 8).trans (fup_ne (by first | decide | omega))
    have t57 := fup_at ehB52 9 (by first | rfl | omega)
    have t58 : IhB52 258 5 = IhB42 258 5 := (congrFun (congrFun ehB52 258) 5).trans (fup_ne (by first | decide | omega))
    have t59 : IhB52 258 10 = IhB42 258 10 := (congrFun (congrFun ehB52 258) 10).trans (fup_ne (by first | decide | omega))
    have t60 : IhB52 419 13 = IhB42 419 13 := (congrFun (congrFun ehB52 419) 13).trans (fup_ne (by first | decide | omega))
    have c92 := cop_fld (d1 := 256) (d2 := 0) (a := 1) (j0 := 9) c84 ehB52 rfl (qz50.trans (fBz_eq hB42 (a := 1) (j := 9) (by decide +kernel))) (by decide +kernel)
    exact ⟨rfl, by omega, (fun j hj => ((fup_other ehB52 420 j (Or.inl (by omega))).trans ((fup_other ehB42 420 j (Or.inl (by omega))).trans ((fup_other ehB34 420 j (Or.inl (by omega))).trans ((fup_other ehB27 420 j (Or.inl (by omega))).trans ((fup_other ehB21 420 j (Or.inl (by omega))).trans ((fFr_at fhB16 420 (by decide +kernel) rfl j).trans (((congrFun (congrFun ehB12 420) j).trans (fcpy_ne (by omega))).trans ((fFr_at fhB8 420 (by decide +kernel) rfl j).trans ((g0z3 j hj).trans (fFr_at (fFr_of hB2) 164 (by decide +kernel) rfl j))))))))))), (fun i j hi hj => ((fup_other ehB52 (440 + i) j (Or.inl (by omega))).trans ((fup_other ehB42 (440 + i) j (Or.inl (by omega))).trans ((fup_other ehB34 (440 + i) j (Or.inl (by omega))).trans ((fup_other ehB27 (440 + i) j (Or.inl (by omega))).trans ((fup_other ehB21 (440 + i) j (Or.inl (by omega))).trans ((ehB16 i hi j hj).trans (fFr_rows (fFr_of hB12) (r := 184) (m := 3) (len := 61) (by decide +kernel) i j hi hj)))))))), (cR_cop (L := cpA) c92 cpA_ok)⟩
set_option maxRecDepth 8000 in
theorem ct_Charter_becomeAs_02d9c {I : fH}  (h0 : fB bsJ I) (hp0 : (cLw 0 I).vote < 12) : fC ρ base n F xTc vwCl xTys D dA la gJ (fbz bsJ znJ (fKc wz_e7604) I) xm_230 [.inr (.inr (some 443)), .inr (.inr (some 187))] I (fun I' r => r = none ∧ (I' 443 6 = I 187 6) ∧ (cLw 256 I' = cLw 0 I)) := by
  have hW : fzs wz_e7604 (fKc wz_e7604) := fKc_ok _
  refine f_meth (rb := rbJ) (J := []) 1 400 xG xin_230 x6_230 okJ (fB_self h0) ?_ ?_
  · exact fun q h => absurd h List.not_mem_nil
  · have hB0 := fB_self (zn := znJ) (K := fKc wz_e7604) h0
    refine And.intro ⟨rfl, by decide, by decide⟩ ?_
    refine And.intro ⟨rfl, by decide, by decide⟩ ?_
    refine Exists.intro xm_75 (And.intro mi_75 (And.intro ⟨rfl, rfl, rfl, rfl⟩ (And.intro True.intro ?_)))
    refine fcall _ h0 (fzs_sub (by decide +kernel) hW) hB0 (ct_copyRow (W := [444]) (len := 12) (fBz h0 hB0) (frC_of (by decide +kernel))) ?_
    rintro IhB1 _ hB1 fhB1 ⟨rfl, ehB1⟩
    have c8 := cop_row (d1 := 256) (d2 := 0) (a := 188) (n := 12) (cop_nil (d1 := 256) (d2 := 0) (K := I)) ehB1 rfl rfl rfl (fun j _ => rfl) (by decide +kernel)
    refine And.intro ⟨rfl, by decide, by decide⟩ ?_
    refine And.intro ⟨rfl, by decide, by decide⟩ ?_
    refine Exists.intro xm_75 (And.intro mi_75 (And.intro ⟨rfl, rfl, rfl, rfl⟩ (And.intro True.intro ?_)))
    refine fcall _ h0 (fzs_sub (by decide +kernel) hW) hB1 (ct_copyRow (W := [445]) (len := 12) (fBz h0 hB1) (frC_of (by decide +kernel))) ?_
    rintro IhB2 _ hB2 fhB2 ⟨rfl, ehB2⟩
    have c19 := cop_row (d1 := 256) (d2 := 0) (a := 189) (n := 12) c8 ehB2 rfl rfl rfl (fun j _ => fFr_at (fFr_of hB1) 189 (by decide +kernel) rfl j) (by decide +kernel)
    refine And.intro ⟨rfl, by decide, by decide⟩ ?_
    refine And.intro ⟨rfl, by decide, by decide⟩ ?_
    refine Exists.intro xm_75 (And.intro mi_75 (And.intro ⟨rfl, rfl, rfl, rfl⟩ (And.intro True.intro ?_)))
    refine fcall _ h0 (fzs_sub (by decide +kernel) hW) hB2 (ct_copyRow (W := [446]) (len := 12) (fBz h0 hB2) (frC_of (by decide +kernel))) ?_
    rintro IhB3 _ hB3 fhB3 ⟨rfl, ehB3⟩
    have c30 := cop_row (d1 := 256) (d2 := 0) (a := 190) (n := 12) c19 ehB3 rfl rfl rfl (fun j _ => fFr_at (fFr_of hB2) 190 (by decide +kernel) rfl j) (by decide +kernel)
    refine And.intro ⟨rfl, by decide, by decide⟩ ?_
    refine And.intro ⟨rfl, by decide, by decide⟩ ?_
    refine Exists.intro xm_75 (And.intro mi_75 (And.intro ⟨rfl, rfl, rfl, rfl⟩ (And.intro True.intro ?_)))
    refine fcall _ h0 (fzs_sub (by decide +kernel) hW) hB3 (ct_copyRow (W := [447]) (len := 12) (fBz h0 hB3) (frC_of (by decide +kernel))) ?_
    rintro IhB4 _ hB4 fhB4 ⟨rfl, ehB4⟩
    have c41 := cop_row (d1 := 256) (d2 := 0) (a := 191) (n := 12) c30 ehB4 rfl rfl rfl (fun j _ => fFr_at (fFr_of hB3) 191 (by decide +kernel) rfl j) (by decide +kernel)
    refine And.intro ⟨rfl, by decide, by decide⟩ ?_
    refine And.intro ⟨rfl, by decide, by decide⟩ ?_
    refine Exists.intro xm_75 (And.intro mi_75 (And.intro ⟨rfl, rfl, rfl, rfl⟩ (And.intro True.intro ?_)))
    refine fcall _ h0 (fzs_sub (by decide +kernel) hW) hB4 (ct_copyRow (W := [448]) (len := 12) (fBz h0 hB4) (frC_of (by decide +kernel))) ?_
    rintro IhB5 _ hB5 fhB5 ⟨rfl, ehB5⟩
    have c52 := cop_row (d1 := 256) (d2 := 0) (a := 192) (n := 12) c41 ehB5 rfl rfl rfl (fun j _ => fFr_at (fFr_of hB4) 192 (by decide +kernel) rfl j) (by decide +kernel)
    refine And.intro ⟨rfl, by decide, by decide⟩ ?_
    refine And.intro ⟨rfl, by decide, by decide⟩ ?_
    refine Exists.intro xm_225 (And.intro mi_225 (And.intro ⟨rfl, rfl, rfl, rfl⟩ (And.intro True.intro ?_)))
    refine fcall _ h0 (fzs_sub (by decide +kernel) hW) hB5 (ct_copyRows (W := [449]) (m := 12) (len := 96) (ro := 194) (rd := 450) (fBz h0 hB5) (frCs_of ⟨rfl, rfl, rfl, rfl, by decide⟩ (by decide +kernel))) ?_
    rintro IhB6 _ hB6 fhB6 ⟨rfl, ehB6⟩
    have c63 := cop_rows (d1 := 256) (d2 := 0) (a := 194) (m := 12) (n := 96) c52 fhB6 ehB6 rfl rfl (fun i j hi hj => fFr_rows (fFr_of hB5) (r := 194) (m := 12) (len := 96) (by decide +kernel) i j hi hj) (by decide) (by decide +kernel)
    refine And.intro ⟨rfl, by decide, by decide⟩ (fgetf fb_187_6 h0 hB6 ?_)
    intro z7 lz7 uz7 qz7
    have k8 := fBz_eq hB6 (a := 187) (j := 6) (by decide +kernel)
    refine And.intro ⟨rfl, by decide, by decide⟩ (And.intro rfl (And.intro (Or.inl rfl) (fputf fb_443_6 (by decide +kernel) hW (by first | exact ⟨lz7, uz7⟩ | omega) ?_)))
    intro IhB9 ehB9 hB9
    have t10 := fup_at ehB9 6 (by first | rfl | omega)
    have c71 := cop_fld (d1 := 256) (d2 := 0) (a := 187) (j0 := 6) c63 ehB9 rfl (qz7.trans (fBz_eq hB6 (a := 187) (j := 6) (by decide +kernel))) (by decide +kernel)
    refine And.intro ⟨rfl, by decide, by decide⟩ (fgetf fb_187_7 h0 hB9 ?_)
    intro z11 lz11 uz11 qz11
    refine And.intro ⟨rfl, by decide, by decide⟩ (And.intro rfl (And.intro (Or.inl rfl) (fputf fb_443_7 (by decide +kernel) hW (by first | exact ⟨lz11, uz11⟩ | omega) ?_)))
    intro IhB12 ehB12 hB12
    have t13 : IhB12 443 6 = IhB9 443 6 := (congrFun (congrFun ehB12 443) 6).trans (fup_ne (by first | decide | omega))
    have t14 := fup_at ehB12 7 (by first | rfl | omega)
    have c79 := cop_fld (d1 := 256) (d2 := 0) (a := 187) (j0 := 7) c71 ehB12 rfl (qz11.trans (fBz_eq hB9 (a := 187) (j := 7) (by decide +kernel))) (by decide +kernel)
    refine And.intro ⟨rfl, by decide, by decide⟩ (fgetf fb_187_8 h0 hB12 ?_)
    intro z15 lz15 uz15 qz15
    refine And.intro ⟨rfl, by decide, by decide⟩ (And.intro rfl (And.intro (Or.inr ⟨rfl, by omega⟩) (fputf fb_443_8 (by decide +kernel) hW (by first | exact ⟨lz15, uz15⟩ | omega) ?_)))
    intro IhB16 ehB16 hB16
    have t17 : IhB16 443 6 = IhB12 443 6 := (congrFun (congrFun ehB16 443) 6).trans (fup_ne (by first | decide | omega))
    have t18 : IhB16 443 7 = IhB12 443 7 := (congrFun (congrFun ehB16 443) 7).trans (fup_ne (by first | decide | omega))
    have t19 := fup_at ehB16 8 (by first | rfl | omega)
    have c87 := cop_fld (d1 := 256) (d2 := 0) (a := 187) (j0 := 8) c79 ehB16 rfl (qz15.trans (fBz_eq hB12 (a := 187) (j := 8) (by decide +kernel))) (by decide +kernel)
    refine And.intro ⟨rfl, by decide, by decide⟩ ?_
    refine And.intro ⟨rfl, by decide, by decide⟩ ?_
    refine Exists.intro xm_75 (And.intro mi_75 (And.intro ⟨rfl, rfl, rfl, rfl⟩ (And.intro True.intro ?_)))
    refine fcall _ h0 (fzs_sub (by decide +kernel) hW) hB16 (ct_copyRow (W := [462]) (len := 24) (fBz h0 hB16) (frC_of (by decide +kernel))) ?_
    rintro IhB20 _ hB20 fhB20 ⟨rfl, ehB20⟩
    have t21 := fhB20 443 6 (by decide +kernel)
    have t22 := fhB20 443 7 (by decide +kernel)
    have t23 := fhB20 443 8 (by decide +kernel)
    have c98 := cop_row (d1 := 256) (d2 := 0) (a := 206) (n := 24) c87 ehB20 rfl rfl rfl (fun j _ => fFr_at (fFr_of hB16) 206 (by decide +kernel) rfl j) (by decide +kernel)
    exact ⟨rfl, by omega, (cLw_cop c98 hp0)⟩
set_option maxRecDepth 8000 in
theorem ct_X_keep_80613 {I : fH}  (h0 : fB bsJ I) (hp0 : (cLw 0 I).vote < 12) : fC ρ base n F xTc vwCl xTys D dA la gJ (fbz bsJ znJ (fKc wz_cdb06) I) xm_229 [.inr (.inr (some 0))] I (fun I' r => ∃ z, r = some (.inl z) ∧ (((-2147483648) ≤ z ∧ z ≤ 2147483647) ∧ (I' 257 9 = I 1 9 ∧ I' 258 5 = I 2 5 ∧ I' 258 10 = I 2 10 ∧ I' 467 8 = I 211 8 ∧ I' 467 11 = I 211 11 ∧ I' 467 15 = I 211 15 ∧ I' 0 6 = 1 ∧ z = I 1 9 ∧ I' 419 13 = I 163 13 ∧ I' 443 6 = I 187 6)) ∧ (∀ j : Nat, j < 24 → I' 420 j = I 164 j) ∧ (∀ i j : Nat, i < 3 → j < 61 → I' (440 + i) j = I (184 + i) j) ∧ (∀ i j : Nat, i < 8 → j < 12 → I' (469 + i) j = I (213 + i) j) ∧ (∀ j : Nat, j < 8 → I' 477 j = I 221 j) ∧ (∀ j : Nat, j < 48 → I' 478 j = I 222 j) ∧ (∀ j : Nat, j < 4 → I' 479 j = I 223 j) ∧ (∀ i j : Nat, i < 24 → j < 4 → I' (481 + i) j = I (225 + i) j) ∧ (∀ j : Nat, j < 6 → I' 505 j = I 249 j) ∧ (∀ j : Nat, j < 6 → I' 506 j = I 250 j) ∧ (∀ j : Nat, j < 6 → I' 507 j = I 251 j) ∧ (∀ j : Nat, j < 10 → I' 508 j = I 252 j) ∧ (∀ j : Nat, j < 10 → I' 509 j = I 253 j) ∧ (∀ j : Nat, j < 7 → I' 510 j = I 254 j) ∧ (∀ j : Nat, j < 7 → I' 511 j = I 255 j) ∧ (∀ j : Nat, j < 7 → I' 512 j = I 256 j) ∧ (cR 256 I' = cR 0 I) ∧ (cR 0 I' = cR 0 I) ∧ (cLw 256 I' = cLw 0 I) ∧ (cLw 0 I' = cLw 0 I)) := by
  have hW : fzs wz_cdb06 (fKc wz_cdb06) := fKc_ok _
  refine f_meth (rb := rbJ) (J := []) 1 400 xG xin_229 x6_229 okJ (fB_self h0) ?_ ?_
  · exact fun q h => absurd h List.not_mem_nil
  · have hB0 := fB_self (zn := znJ) (K := fKc wz_cdb06) h0
    refine And.intro ⟨rfl, by decide, by decide⟩ ?_
    refine And.intro ⟨rfl, by decide, by decide⟩ ?_
    refine Exists.intro xm_223 (And.intro mi_223 (And.intro ⟨rfl, rfl, rfl, rfl⟩ (And.intro rfl ?_)))
    refine fcall _ h0 (fzs_sub (by decide +kernel) hW) hB0 (ct_City_becomeAs_6e1fc (fBz h0 hB0)) ?_
    rintro IhB2 _ hB2 fhB2 ⟨rfl, hz1, g0z1, g1z1, g2z1⟩
    have t3 := fhB2 0 6 (by decide +kernel)
    have t4 := fhB2 443 6 (by decide +kernel)
    have t5 := fhB2 467 8 (by decide +kernel)
    have t6 := fhB2 467 11 (by decide +kernel)
    have t7 := fhB2 467 15 (by decide +kernel)
    have k8 := fBz_eq hB2 (a := 1) (j := 9) (by decide +kernel)
    have k9 := fBz_eq hB2 (a := 2) (j := 5) (by decide +kernel)
    have k10 := fBz_eq hB2 (a := 2) (j := 10) (by decide +kernel)
    have k11 := fBz_eq hB2 (a := 211) (j := 8) (by decide +kernel)
    have k12 := fBz_eq hB2 (a := 211) (j := 11) (by decide +kernel)
    have k13 := fBz_eq hB2 (a := 211) (j := 15) (by decide +kernel)
    have k14 := fBz_eq hB2 (a := 163) (j := 13) (by decide +kernel)
    have k15 := fBz_eq hB2 (a := 187) (j := 6) (by decide +kernel)
    refine And.intro ⟨rfl, by decide, by decide⟩ ?_
    refine And.intro ⟨rfl, by decide, by decide⟩ ?_
    refine Exists.intro xm_230 (And.intro mi_230 (And.intro ⟨rfl, rfl, rfl, rfl⟩ (And.intro rfl ?_)))
    refine fcall _ h0 (fzs_sub (by decide +kernel) hW) hB2 (ct_Charter_becomeAs_02d9c (fBz h0 hB2) (by rw [(cLw_fr lZ0_ok fhB2 (by decide +kernel))]; exact hp0)) ?_
    rintro IhB17 _ hB17 fhB17 ⟨rfl, hz16, g0z16⟩
    have t18 := fhB17 0 6 (by decide +kernel)
    have t19 := fhB17 257 9 (by decide +kernel)
    have t20 := fhB17 258 5 (by decide +kernel)
    have t21 := fhB17 258 10 (by decide +kernel)
    have t22 := fhB17 419 13 (by decide +kernel)
    have t23 := fhB17 467 8 (by decide +kernel)
    have t24 := fhB17 467 11 (by decide +kernel)
    have t25 := fhB17 467 15 (by decide +kernel)
    have k26 := fBz_eq hB17 (a := 1) (j := 9) (by decide +kernel)
    have k27 := fBz_eq hB17 (a := 2) (j := 5) (by decide +kernel)
    have k28 := fBz_eq hB17 (a := 2) (j := 10) (by decide +kernel)
    have k29 := fBz_eq hB17 (a := 211) (j := 8) (by decide +kernel)
    have k30 := fBz_eq hB17 (a := 211) (j := 11) (by decide +kernel)
    have k31 := fBz_eq hB17 (a := 211) (j := 15) (by decide +kernel)
    have k32 := fBz_eq hB17 (a := 163) (j := 13) (by decide +kernel)
    have k33 := fBz_eq hB17 (a := 187) (j := 6) (by decide +kernel)
    refine And.intro ⟨rfl, by decide, by decide⟩ ?_
    refine And.intro ⟨rfl, by decide, by decide⟩ ?_
    refine Exists.intro xm_231 (And.intro mi_231 (And.intro ⟨rfl, rfl, rfl, rfl⟩ (And.intro rfl ?_)))
    refine fcall _ h0 (fzs_sub (by decide +kernel) hW) hB17 (ct_Desk_becomeAs_f61cf (fBz h0 hB17)) ?_
    rintro IhB35 _ hB35 fhB35 ⟨rfl, hz34, g0z34, g1z34, g2z34, g3z34, g4z34, g5z34, g6z34, g7z34, g8z34, g9z34, g10z34, g11z34, g12z34⟩
    have t36 := fhB35 0 6 (by decide +kernel)
    have t37 := fhB35 257 9 (by decide +kernel)
    have t38 := fhB35 258 5 (by decide +kernel)
    have t39 := fhB35 258 10 (by decide +kernel)
    have t40 := fhB35 419 13 (by decide +kernel)
    have t41 := fhB35 443 6 (by decide +kernel)
    have k42 := fBz_eq hB35 (a := 1) (j := 9) (by decide +kernel)
    have k43 := fBz_eq hB35 (a := 2) (j := 5) (by decide +kernel)
    have k44 := fBz_eq hB35 (a := 2) (j := 10) (by decide +kernel)
    have k45 := fBz_eq hB35 (a := 211) (j := 8) (by decide +kernel)
    have k46 := fBz_eq hB35 (a := 211) (j := 11) (by decide +kernel)
    have k47 := fBz_eq hB35 (a := 211) (j := 15) (by decide +kernel)
    have k48 := fBz_eq hB35 (a := 163) (j := 13) (by decide +kernel)
    have k49 := fBz_eq hB35 (a := 187) (j := 6) (by decide +kernel)
    refine And.intro ⟨rfl, by decide, by decide⟩ (And.intro rfl (And.intro (Or.inr ⟨rfl, by decide, by decide⟩) (fputf fb_0_6 (by decide +kernel) hW (by first | exact ⟨by decide, by decide⟩ | omega) ?_)))
    intro IhB50 ehB50 hB50
    have t51 := fup_at ehB50 6 (by first | rfl | omega)
    have t52 : IhB50 257 9 = IhB35 257 9 := (congrFun (congrFun ehB50 257) 9).trans (fup_ne (by first | decide | omega))
    have t53 : IhB50 258 5 = IhB35 258 5 := (congrFun (congrFun ehB50 258) 5).trans (fup_ne (by first | decide | omega))
    have t54 : IhB50 258 10 = IhB35 258 10 := (congrFun (congrFun ehB50 258) 10).trans (fup_ne (by first | decide | omega))
    have t55 : IhB50 419 13 = IhB35 419 13 := (congrFun (congrFun ehB50 419) 13).trans (fup_ne (by first | decide | omega))
    have t56 : IhB50 443 6 = IhB35 443 6 := (congrFun (congrFun ehB50 443) 6).trans (fup_ne (by first | decide | omega))
    have t57 : IhB50 467 8 = IhB35 467 8 := (congrFun (congrFun ehB50 467) 8).trans (fup_ne (by first | decide | omega))
    have t58 : IhB50 467 11 = IhB35 467 11 := (congrFun (congrFun ehB50 467) 11).trans (fup_ne (by first | decide | omega))
    have t59 : IhB50 467 15 = IhB35 467 15 := (congrFun (congrFun ehB50 467) 15).trans (fup_ne (by first | decide | omega))
    have k60 := fBz_eq hB50 (a := 1) (j := 9) (by decide +kernel)
    have k61 := fBz_eq hB50 (a := 2) (j := 5) (by decide +kernel)
    have k62 := fBz_eq hB50 (a := 2) (j := 10) (by decide +kernel)
    have k63 := fBz_eq hB50 (a := 211) (j := 8) (by decide +kernel)
    have k64 := fBz_eq hB50 (a := 211) (j := 11) (by decide +kernel)
    have k65 := fBz_eq hB50 (a := 211) (j := 15) (by decide +kernel)
    have k66 := fBz_eq hB50 (a := 163) (j := 13) (by decide +kernel)
    have k67 := fBz_eq hB50 (a := 187) (j := 6) (by decide +kernel)
    refine And.intro ⟨rfl, by decide, by decide⟩ ?_
    refine And.intro ⟨rfl, by decide, by decide⟩ (fgetf fb_1_9 h0 hB50 ?_)
    intro z68 lz68 uz68 qz68
    refine And.intro (True.intro) ?_
    exact ⟨_, rfl, by omega, (fun j hj => ((fup_other ehB50 420 j (Or.inl (by omega))).trans ((fFr_at fhB35 420 (by decide +kernel) rfl j).trans ((fFr_at fhB17 420 (by decide +kernel) rfl j).trans (g0z1 j hj))))), (fun i j hi hj => ((fup_other ehB50 (440 + i) j (Or.inl (by omega))).trans ((fFr_rows fhB35 (r := 440) (m := 3) (len := 61) (by decide +kernel) i j hi hj).trans ((fFr_rows fhB17 (r := 440) (m := 3) (len := 61) (by decide +kernel) i j hi hj).trans (g1z1 i j hi hj))))), (fun i j hi hj => ((fup_other ehB50 (469 + i) j (Or.inl (by omega))).trans ((g0z34 i j hi hj).trans (fFr_rows (fFr_of hB17) (r := 213) (m := 8) (len := 12) (by decide +kernel) i j hi hj)))), (fun j hj => ((fup_other ehB50 477 j (Or.inl (by omega))).trans ((g1z34 j hj).trans (fFr_at (fFr_of hB17) 221 (by decide +kernel) rfl j)))), (fun j hj => ((fup_other ehB50 478 j (Or.inl (by omega))).trans ((g2z34 j hj).trans (fFr_at (fFr_of hB17) 222 (by decide +kernel) rfl j)))), (fun j hj => ((fup_other ehB50 479 j (Or.inl (by omega))).trans ((g3z34 j hj).trans (fFr_at (fFr_of hB17) 223 (by decide +kernel) rfl j)))), (fun i j hi hj => ((fup_other ehB50 (481 + i) j (Or.inl (by omega))).trans ((g4z34 i j hi hj).trans (fFr_rows (fFr_of hB17) (r := 225) (m := 24) (len := 4) (by decide +kernel) i j hi hj)))), (fun j hj => ((fup_other ehB50 505 j (Or.inl (by omega))).trans ((g5z34 j hj).trans (fFr_at (fFr_of hB17) 249 (by decide +kernel) rfl j)))), (fun j hj => ((fup_other ehB50 506 j (Or.inl (by omega))).trans ((g6z34 j hj).trans (fFr_at (fFr_of hB17) 250 (by decide +kernel) rfl j)))), (fun j hj => ((fup_other ehB50 507 j (Or.inl (by omega))).trans ((g7z34 j hj).trans (fFr_at (fFr_of hB17) 251 (by decide +kernel) rfl j)))), (fun j hj => ((fup_other ehB50 508 j (Or.inl (by omega))).trans ((g8z34 j hj).trans (fFr_at (fFr_of hB17) 252 (by decide +kernel) rfl j)))), (fun j hj => ((fup_other ehB50 509 j (Or.inl (by omega))).trans ((g9z34 j hj).trans (fFr_at (fFr_of hB17) 253 (by decide +kernel) rfl j)))), (fun j hj => ((fup_other ehB50 510 j (Or.inl (by omega))).trans ((g10z34 j hj).trans (fFr_at (fFr_of hB17) 254 (by decide +kernel) rfl j)))), (fun j hj => ((fup_other ehB50 511 j (Or.inl (by omega))).trans ((g11z34 j hj).trans (fFr_at (fFr_of hB17) 255 (by decide +kernel) rfl j)))), (fun j hj => ((fup_other ehB50 512 j (Or.inl (by omega))).trans ((g12z34 j hj).trans (fFr_at (fFr_of hB17) 256 (by decide +kernel) rfl j)))), ((cR_o0 ehB50 (by decide)).trans ((cR_fr cZ256_ok fhB35 (by decide +kernel)).trans ((cR_fr cZ256_ok fhB17 (by decide +kernel)).trans g2z1))), ((cR_o0 ehB50 (by decide)).trans ((cR_fr cZ0_ok fhB35 (by decide +kernel)).trans ((cR_fr cZ0_ok fhB17 (by decide +kernel)).trans (cR_fr cZ0_ok fhB2 (by decide +kernel))))), ((cLw_o0 (d := 256) ehB50 (by decide)).trans ((cLw_fr lZ256_ok fhB35 (by decide +kernel)).trans (g0z16.trans (cLw_fr lZ0_ok fhB2 (by decide +kernel))))), ((cLw_o0 (d := 0) ehB50 (by decide)).trans ((cLw_fr lZ0_ok fhB35 (by decide +kernel)).trans ((cLw_fr lZ0_ok fhB17 (by decide +kernel)).trans (cLw_fr lZ0_ok fhB2 (by decide +kernel)))))⟩
abbrev jc_M_keep_1913a_7 (I0 : fH) : Nat → fL → List fV → fH → Prop := fun m lv st I => ∃ (y1 : Int), lv = [(0, .inr (.inr (some 740))), (1, .inl y1)] ∧ st = [] ∧ (((0 ≤ y1 ∧ y1 ≤ 4900) ∧ (1 ≤ I 740 3 ∧ I 740 3 ≤ 1) ∧ (I 740 3 = 1)) ∧ (∀ j : Nat, (j : Int) < y1 → I 742 j = I0 741 j)) ∧ m = (1 + 1 * (4900 - y1) : Int).toNat
set_option maxRecDepth 8000 in
theorem ct_M_keep_1913a {I : fH}  (h0 : fB bsJ I)  : fC ρ base n F xTc vwCl xTys D dA la gJ (fbz bsJ znJ (fKc wz_7d75a) I) xm_495 [.inr (.inr (some 740))] I (fun I' r => ∃ z, r = some (.inl z) ∧ ((0 ≤ z ∧ z ≤ 22000) ∧ ((I' 740 3 = 1) ∧ z = I 741 0)) ∧ (∀ j : Nat, j < 4900 → I' 742 j = I 741 j)) := by
  have hW : fzs wz_7d75a (fKc wz_7d75a) := fKc_ok _
  refine f_meth (rb := rbJ) (J := [(7, (jc_M_keep_1913a_7 I))]) 4902 400 xG xin_495 x6_495 okJ (fB_self h0) ?_ ?_
  · refine List.forall_mem_cons.mpr ⟨?_, fun q h => absurd h List.not_mem_nil⟩
    · rintro m _ _ I1 hB1 ⟨y1, rfl, rfl, ⟨hb, hx0⟩, hm⟩
      have k1 := fBz_eq hB1 (a := 741) (j := 0) (by decide +kernel)
      refine And.intro (And.intro (by first | exact fi_ hb.1.1 hb.1.2 rfl | omega) (by first | exact ⟨by decide, by decide⟩ | omega)) (And.intro ?_ ?_)
      · intro c2
        refine And.intro ⟨rfl, by decide, by decide⟩ ?_
        refine fload1 rL_741_741_0_0_1_0 h0 hB1 ⟨by decide, by decide⟩ (by first | exact ⟨by decide, by decide⟩ | omega) ?_
        intro z3 lz3 uz3 qz3
        have pz3 := fld_at qz3 0 (by omega)
        refine And.intro (True.intro) ?_
        exact ⟨_, rfl, by omega, (fun j h => hx0 j (by omega))⟩
      · intro c4
        refine And.intro ⟨rfl, by decide, by decide⟩ ?_
        refine And.intro ⟨rfl, by decide, by decide⟩ ?_
        refine fload1 rL_741_741_0_4899_1_0 h0 hB1 ⟨by decide, by decide⟩ (by first | exact ⟨hb.1.1, Int.le_trans (Int.le_sub_one_of_lt (Int.lt_of_lt_of_le c4 (Int.le_refl _))) (by decide)⟩ | omega) ?_
        intro z5 lz5 uz5 qz5
        refine fstoreX (fzs_sub (by decide +kernel) hW) (img_st (fBz h0 hB1) qz5 (by omega)) ?_
        intro IhB6 ehB6 hB6
        have t7 := fup_self ehB6
        have t8 : IhB6 740 3 = I1 740 3 := (congrFun (congrFun ehB6 740) 3).trans (fup_ne (by first | exact Or.inl (by decide) | omega))
        have k9 := fBz_eq hB6 (a := 741) (j := 0) (by decide +kernel)
        exact fcutJ (I := IhB6) (j := (jc_M_keep_1913a_7 I)) (lv' := [(0, .inr (.inr (some 740))), (1, .inl _)]) (And.intro rfl (And.intro rfl True.intro)) ⟨_, rfl, rfl, ⟨by omega, (fun j h => if ej : j = y1.toNat then (by rw [ej]; exact (fup_self ehB6).trans (qz5.trans (sS_keep hB1 (by decide +kernel) _))) else (fup_other ehB6 742 j (Or.inr ej)).trans (hx0 j (by omega)))⟩, rfl⟩ (by omega)
  · have hB0 := fB_self (zn := znJ) (K := fKc wz_7d75a) h0
    refine And.intro ⟨rfl, by decide, by decide⟩ (And.intro rfl (And.intro (Or.inr ⟨rfl, by decide, by decide⟩) (fputf fb_740_3 (by decide +kernel) hW (by first | exact ⟨by decide, by decide⟩ | omega) ?_)))
    intro IhB10 ehB10 hB10
    have t11 := fup_at ehB10 3 (by first | rfl | omega)
    have k12 := fBz_eq hB10 (a := 741) (j := 0) (by decide +kernel)
    exact fcutJ (I := IhB10) (j := (jc_M_keep_1913a_7 I)) (lv' := [(0, .inr (.inr (some 740))), (1, .inl _)]) (And.intro rfl (And.intro rfl True.intro)) ⟨_, rfl, rfl, ⟨by omega, (fun j h => absurd h (by omega))⟩, rfl⟩ (by omega)
set_option maxRecDepth 8000 in
theorem ct_Cells_becomeAs_587fd {I : fH}  (h0 : fB bsJ I)  : fC ρ base n F xTc vwCl xTys D dA la gJ (fbz bsJ znJ (fKc wz_52e23) I) xm_224 [.inr (.inr (some 2)), .inr (.inr (some 258))] I (fun I' r => r = none ∧ (I' 2 5 = I 258 5 ∧ I' 2 10 = I 258 10) ∧ (cop 0 256 cpC I I')) := by
  have hW : fzs wz_52e23 (fKc wz_52e23) := fKc_ok _
  refine f_meth (rb := rbJ) (J := []) 1 400 xG xin_224 x6_224 okJ (fB_self h0) ?_ ?_
  · exact fun q h => absurd h List.not_mem_nil
  · have hB0 := fB_self (zn := znJ) (K := fKc wz_52e23) h0
    refine And.intro ⟨rfl, by decide, by decide⟩ ?_
    refine And.intro ⟨rfl, by decide, by decide⟩ ?_
    refine Exists.intro xm_75 (And.intro mi_75 (And.intro ⟨rfl, rfl, rfl, rfl⟩ (And.intro True.intro ?_)))
    refine fcall _ h0 (fzs_sub (by decide +kernel) hW) hB0 (ct_copyRow (W := [3]) (len := 20) (fBz h0 hB0) (frC_of (by decide +kernel))) ?_
    rintro IhB1 _ hB1 fhB1 ⟨rfl, ehB1⟩
    have c8 := cop_row (d1 := 0) (d2 := 256) (a := 3) (n := 20) (cop_nil (d1 := 0) (d2 := 256) (K := I)) ehB1 rfl rfl rfl (fun j _ => rfl) (by decide +kernel)
    refine And.intro ⟨rfl, by decide, by decide⟩ ?_
    refine And.intro ⟨rfl, by decide, by decide⟩ ?_
    refine Exists.intro xm_75 (And.intro mi_75 (And.intro ⟨rfl, rfl, rfl, rfl⟩ (And.intro True.intro ?_)))
    refine fcall _ h0 (fzs_sub (by decide +kernel) hW) hB1 (ct_copyRow (W := [4]) (len := 20) (fBz h0 hB1) (frC_of (by decide +kernel))) ?_
    rintro IhB2 _ hB2 fhB2 ⟨rfl, ehB2⟩
    have c19 := cop_row (d1 := 0) (d2 := 256) (a := 4) (n := 20) c8 ehB2 rfl rfl rfl (fun j _ => fFr_at (fFr_of hB1) 260 (by decide +kernel) rfl j) (by decide +kernel)
    refine And.intro ⟨rfl, by decide, by decide⟩ ?_
    refine And.intro ⟨rfl, by decide, by decide⟩ ?_
    refine Exists.intro xm_225 (And.intro mi_225 (And.intro ⟨rfl, rfl, rfl, rfl⟩ (And.intro True.intro ?_)))
    refine fcall _ h0 (fzs_sub (by decide +kernel) hW) hB2 (ct_copyRows (W := [5]) (m := 20) (len := 5) (ro := 262) (rd := 6) (fBz h0 hB2) (frCs_of ⟨rfl, rfl, rfl, rfl, by decide⟩ (by decide +kernel))) ?_
    rintro IhB3 _ hB3 fhB3 ⟨rfl, ehB3⟩
    have c30 := cop_rows (d1 := 0) (d2 := 256) (a := 6) (m := 20) (n := 5) c19 fhB3 ehB3 rfl rfl (fun i j hi hj => fFr_rows (fFr_of hB2) (r := 262) (m := 20) (len := 5) (by decide +kernel) i j hi hj) (by decide) (by decide +kernel)
    refine And.intro ⟨rfl, by decide, by decide⟩ ?_
    refine And.intro ⟨rfl, by decide, by decide⟩ ?_
    refine Exists.intro xm_225 (And.intro mi_225 (And.intro ⟨rfl, rfl, rfl, rfl⟩ (And.intro True.intro ?_)))
    refine fcall _ h0 (fzs_sub (by decide +kernel) hW) hB3 (ct_copyRows (W := [26]) (m := 20) (len := 5) (ro := 283) (rd := 27) (fBz h0 hB3) (frCs_of ⟨rfl, rfl, rfl, rfl, by decide⟩ (by decide +kernel))) ?_
    rintro IhB4 _ hB4 fhB4 ⟨rfl, ehB4⟩
    have c41 := cop_rows (d1 := 0) (d2 := 256) (a := 27) (m := 20) (n := 5) c30 fhB4 ehB4 rfl rfl (fun i j hi hj => fFr_rows (fFr_of hB3) (r := 283) (m := 20) (len := 5) (by decide +kernel) i j hi hj) (by decide) (by decide +kernel)
    refine And.intro ⟨rfl, by decide, by decide⟩ ?_
    refine And.intro ⟨rfl, by decide, by decide⟩ ?_
    refine Exists.intro xm_225 (And.intro mi_225 (And.intro ⟨rfl, rfl, rfl, rfl⟩ (And.intro True.intro ?_)))
    refine fcall _ h0 (fzs_sub (by decide +kernel) hW) hB4 (ct_copyRows (W := [47]) (m := 20) (len := 6) (ro := 304) (rd := 48) (fBz h0 hB4) (frCs_of ⟨rfl, rfl, rfl, rfl, by decide⟩ (by decide +kernel))) ?_
    rintro IhB5 _ hB5 fhB5 ⟨rfl, ehB5⟩
    have c52 := cop_rows (d1 := 0) (d2 := 256) (a := 48) (m := 20) (n := 6) c41 fhB5 ehB5 rfl rfl (fun i j hi hj => fFr_rows (fFr_of hB4) (r := 304) (m := 20) (len := 6) (by decide +kernel) i j hi hj) (by decide) (by decide +kernel)
    refine And.intro ⟨rfl, by decide, by decide⟩ (fgetf fb_258_5 h0 hB5 ?_)
    intro z6 lz6 uz6 qz6
    have k7 := fBz_eq hB5 (a := 258) (j := 5) (by decide +kernel)
    refine And.intro ⟨rfl, by decide, by decide⟩ (And.intro rfl (And.intro (Or.inl rfl) (fputf fb_2_5 (by decide +kernel) hW (by first | exact ⟨lz6, uz6⟩ | omega) ?_)))
    intro IhB8 ehB8 hB8
    have t9 := fup_at ehB8 5 (by first | rfl | omega)
    have c60 := cop_fld (d1 := 0) (d2 := 256) (a := 2) (j0 := 5) c52 ehB8 rfl (qz6.trans (fBz_eq hB5 (a := 258) (j := 5) (by decide +kernel))) (by decide +kernel)
    refine And.intro ⟨rfl, by decide, by decide⟩ ?_
    refine And.intro ⟨rfl, by decide, by decide⟩ ?_
    refine Exists.intro xm_75 (And.intro mi_75 (And.intro ⟨rfl, rfl, rfl, rfl⟩ (And.intro True.intro ?_)))
    refine fcall _ h0 (fzs_sub (by decide +kernel) hW) hB8 (ct_copyRow (W := [68]) (len := 24) (fBz h0 hB8) (frC_of (by decide +kernel))) ?_
    rintro IhB10 _ hB10 fhB10 ⟨rfl, ehB10⟩
    have t11 := fhB10 2 5 (by decide +kernel)
    have c71 := cop_row (d1 := 0) (d2 := 256) (a := 68) (n := 24) c60 ehB10 rfl rfl rfl (fun j _ => fFr_at (fFr_of hB8) 324 (by decide +kernel) rfl j) (by decide +kernel)
    refine And.intro ⟨rfl, by decide, by decide⟩ ?_
    refine And.intro ⟨rfl, by decide, by decide⟩ ?_
    refine Exists.intro xm_75 (And.intro mi_75 (And.intro ⟨rfl, rfl, rfl, rfl⟩ (And.intro True.intro ?_)))
    refine fcall _ h0 (fzs_sub (by decide +kernel) hW) hB10 (ct_copyRow (W := [69]) (len := 24) (fBz h0 hB10) (frC_of (by decide +kernel))) ?_
    rintro IhB12 _ hB12 fhB12 ⟨rfl, ehB12⟩
    have t13 := fhB12 2 5 (by decide +kernel)
    have c82 := cop_row (d1 := 0) (d2 := 256) (a := 69) (n := 24) c71 ehB12 rfl rfl rfl (fun j _ => fFr_at (fFr_of hB10) 325 (by decide +kernel) rfl j) (by decide +kernel)
    refine And.intro ⟨rfl, by decide, by decide⟩ ?_
    refine And.intro ⟨rfl, by decide, by decide⟩ ?_
    refine Exists.intro xm_75 (And.intro mi_75 (And.intro ⟨rfl, rfl, rfl, rfl⟩ (And.intro True.intro ?_)))
    refine fcall _ h0 (fzs_sub (by decide +kernel) hW) hB12 (ct_copyRow (W := [70]) (len := 24) (fBz h0 hB12) (frC_of (by decide +kernel))) ?_
    rintro IhB14 _ hB14 fhB14 ⟨rfl, ehB14⟩
    have t15 := fhB14 2 5 (by decide +kernel)
    have c93 := cop_row (d1 := 0) (d2 := 256) (a := 70) (n := 24) c82 ehB14 rfl rfl rfl (fun j _ => fFr_at (fFr_of hB12) 326 (by decide +kernel) rfl j) (by decide +kernel)
    refine And.intro ⟨rfl, by decide, by decide⟩ ?_
    refine And.intro ⟨rfl, by decide, by decide⟩ ?_
    refine Exists.intro xm_75 (And.intro mi_75 (And.intro ⟨rfl, rfl, rfl, rfl⟩ (And.intro True.intro ?_)))
    refine fcall _ h0 (fzs_sub (by decide +kernel) hW) hB14 (ct_copyRow (W := [71]) (len := 24) (fBz h0 hB14) (frC_of (by decide +kernel))) ?_
    rintro IhB16 _ hB16 fhB16 ⟨rfl, ehB16⟩
    have t17 := fhB16 2 5 (by decide +kernel)
    have c104 := cop_row (d1 := 0) (d2 := 256) (a := 71) (n := 24) c93 ehB16 rfl rfl rfl (fun j _ => fFr_at (fFr_of hB14) 327 (by decide +kernel) rfl j) (by decide +kernel)
    refine And.intro ⟨rfl, by decide, by decide⟩ (fgetf fb_258_10 h0 hB16 ?_)
    intro z18 lz18 uz18 qz18
    have k19 := fBz_eq hB16 (a := 258) (j := 10) (by decide +kernel)
    refine And.intro ⟨rfl, by decide, by decide⟩ (And.intro rfl (And.intro (Or.inl rfl) (fputf fb_2_10 (by decide +kernel) hW (by first | exact ⟨lz18, uz18⟩ | omega) ?_)))
    intro IhB20 ehB20 hB20
    have t21 : IhB20 2 5 = IhB16 2 5 := (congrFun (congrFun ehB20 2) 5).trans (fup_ne (by first | decide | omega))
    have t22 := fup_at ehB20 10 (by first | rfl | omega)
    have c112 := cop_fld (d1 := 0) (d2 := 256) (a := 2) (j0 := 10) c104 ehB20 rfl (qz18.trans (fBz_eq hB16 (a := 258) (j := 10) (by decide +kernel))) (by decide +kernel)
    refine And.intro ⟨rfl, by decide, by decide⟩ ?_
    refine And.intro ⟨rfl, by decide, by decide⟩ ?_
    refine Exists.intro xm_225 (And.intro mi_225 (And.intro ⟨rfl, rfl, rfl, rfl⟩ (And.intro True.intro ?_)))
    refine fcall _ h0 (fzs_sub (by decide +kernel) hW) hB20 (ct_copyRows (W := [72]) (m := 90) (len := 8) (ro := 329) (rd := 73) (fBz h0 hB20) (frCs_of ⟨rfl, rfl, rfl, rfl, by decide⟩ (by decide +kernel))) ?_
    rintro IhB23 _ hB23 fhB23 ⟨rfl, ehB23⟩
    have t24 := fhB23 2 5 (by decide +kernel)
    have t25 := fhB23 2 10 (by decide +kernel)
    have c123 := cop_rows (d1 := 0) (d2 := 256) (a := 73) (m := 90) (n := 8) c112 fhB23 ehB23 rfl rfl (fun i j hi hj => fFr_rows (fFr_of hB20) (r := 329) (m := 90) (len := 8) (by decide +kernel) i j hi hj) (by decide) (by decide +kernel)
    refine And.intro ⟨rfl, by decide, by decide⟩ (fgetf fb_258_12 h0 hB23 ?_)
    intro z26 lz26 uz26 qz26
    refine And.intro ⟨rfl, by decide, by decide⟩ (And.intro rfl (And.intro (Or.inl rfl) (fputf fb_2_12 (by decide +kernel) hW (by first | exact ⟨lz26, uz26⟩ | omega) ?_)))
    intro IhB27 ehB27 hB27
    have t28 : IhB27 2 5 = IhB23 2 5 := (congrFun (congrFun ehB27 2) 5).trans (fup_ne (by first | decide | omega))
    have t29 : IhB27 2 10 = IhB23 2 10 := (congrFun (congrFun ehB27 2) 10).trans (fup_ne (by first | decide | omega))
    have t30 := fup_at ehB27 12 (by first | rfl | omega)
    have c131 := cop_fld (d1 := 0) (d2 := 256) (a := 2) (j0 := 12) c123 ehB27 rfl (qz26.trans (fBz_eq hB23 (a := 258) (j := 12) (by decide +kernel))) (by decide +kernel)
    exact ⟨rfl, by omega, c131⟩
set_option maxRecDepth 8000 in
theorem ct_People_becomeAs_faf7e {I : fH}  (h0 : fB bsJ I)  : fC ρ base n F xTc vwCl xTys D dA la gJ (fbz bsJ znJ (fKc wz_4ceb6) I) xm_227 [.inr (.inr (some 177)), .inr (.inr (some 433))] I (fun I' r => r = none ∧ True ∧ (cop 0 256 cpP I I')) := by
  have hW : fzs wz_4ceb6 (fKc wz_4ceb6) := fKc_ok _
  refine f_meth (rb := rbJ) (J := []) 1 400 xG xin_227 x6_227 okJ (fB_self h0) ?_ ?_
  · exact fun q h => absurd h List.not_mem_nil
  · have hB0 := fB_self (zn := znJ) (K := fKc wz_4ceb6) h0
    refine And.intro ⟨rfl, by decide, by decide⟩ ?_
    refine And.intro ⟨rfl, by decide, by decide⟩ ?_
    refine Exists.intro xm_75 (And.intro mi_75 (And.intro ⟨rfl, rfl, rfl, rfl⟩ (And.intro True.intro ?_)))
    refine fcall _ h0 (fzs_sub (by decide +kernel) hW) hB0 (ct_copyRow (W := [178]) (len := 24) (fBz h0 hB0) (frC_of (by decide +kernel))) ?_
    rintro IhB1 _ hB1 fhB1 ⟨rfl, ehB1⟩
    have c8 := cop_row (d1 := 0) (d2 := 256) (a := 178) (n := 24) (cop_nil (d1 := 0) (d2 := 256) (K := I)) ehB1 rfl rfl rfl (fun j _ => rfl) (by decide +kernel)
    refine And.intro ⟨rfl, by decide, by decide⟩ ?_
    refine And.intro ⟨rfl, by decide, by decide⟩ ?_
    refine Exists.intro xm_75 (And.intro mi_75 (And.intro ⟨rfl, rfl, rfl, rfl⟩ (And.intro True.intro ?_)))
    refine fcall _ h0 (fzs_sub (by decide +kernel) hW) hB1 (ct_copyRow (W := [179]) (len := 24) (fBz h0 hB1) (frC_of (by decide +kernel))) ?_
    rintro IhB2 _ hB2 fhB2 ⟨rfl, ehB2⟩
    have c19 := cop_row (d1 := 0) (d2 := 256) (a := 179) (n := 24) c8 ehB2 rfl rfl rfl (fun j _ => fFr_at (fFr_of hB1) 435 (by decide +kernel) rfl j) (by decide +kernel)
    refine And.intro ⟨rfl, by decide, by decide⟩ ?_
    refine And.intro ⟨rfl, by decide, by decide⟩ ?_
    refine Exists.intro xm_75 (And.intro mi_75 (And.intro ⟨rfl, rfl, rfl, rfl⟩ (And.intro True.intro ?_)))
    refine fcall _ h0 (fzs_sub (by decide +kernel) hW) hB2 (ct_copyRow (W := [180]) (len := 24) (fBz h0 hB2) (frC_of (by decide +kernel))) ?_
    rintro IhB3 _ hB3 fhB3 ⟨rfl, ehB3⟩
    have c30 := cop_row (d1 := 0) (d2 := 256) (a := 180) (n := 24) c19 ehB3 rfl rfl rfl (fun j _ => fFr_at (fFr_of hB2) 436 (by decide +kernel) rfl j) (by decide +kernel)
    refine And.intro ⟨rfl, by decide, by decide⟩ ?_
    refine And.intro ⟨rfl, by decide, by decide⟩ ?_
    refine Exists.intro xm_75 (And.intro mi_75 (And.intro ⟨rfl, rfl, rfl, rfl⟩ (And.intro True.intro ?_)))
    refine fcall _ h0 (fzs_sub (by decide +kernel) hW) hB3 (ct_copyRow (W := [181]) (len := 24) (fBz h0 hB3) (frC_of (by decide +kernel))) ?_
    rintro IhB4 _ hB4 fhB4 ⟨rfl, ehB4⟩
    have c41 := cop_row (d1 := 0) (d2 := 256) (a := 181) (n := 24) c30 ehB4 rfl rfl rfl (fun j _ => fFr_at (fFr_of hB3) 437 (by decide +kernel) rfl j) (by decide +kernel)
    refine And.intro ⟨rfl, by decide, by decide⟩ (fgetf fb_433_4 h0 hB4 ?_)
    intro z5 lz5 uz5 qz5
    refine And.intro ⟨rfl, by decide, by decide⟩ (And.intro rfl (And.intro (Or.inl rfl) (fputf fb_177_4 (by decide +kernel) hW (by first | exact ⟨lz5, uz5⟩ | omega) ?_)))
    intro IhB6 ehB6 hB6
    have t7 := fup_at ehB6 4 (by first | rfl | omega)
    have c49 := cop_fld (d1 := 0) (d2 := 256) (a := 177) (j0 := 4) c41 ehB6 rfl (qz5.trans (fBz_eq hB4 (a := 433) (j := 4) (by decide +kernel))) (by decide +kernel)
    exact ⟨rfl, True.intro, c49⟩
set_option maxRecDepth 8000 in
theorem ct_Works_becomeAs_67631 {I : fH}  (h0 : fB bsJ I)  : fC ρ base n F xTc vwCl xTys D dA la gJ (fbz bsJ znJ (fKc wz_53189) I) xm_226 [.inr (.inr (some 163)), .inr (.inr (some 419))] I (fun I' r => r = none ∧ (I' 163 13 = I 419 13) ∧ (∀ j : Nat, j < 24 → I' 164 j = I 420 j) ∧ (cop 0 256 cpW I I')) := by
  have hW : fzs wz_53189 (fKc wz_53189) := fKc_ok _
  refine f_meth (rb := rbJ) (J := []) 1 400 xG xin_226 x6_226 okJ (fB_self h0) ?_ ?_
  · exact fun q h => absurd h List.not_mem_nil
  · have hB0 := fB_self (zn := znJ) (K := fKc wz_53189) h0
    refine And.intro ⟨rfl, by decide, by decide⟩ ?_
    refine And.intro ⟨rfl, by decide, by decide⟩ ?_
    refine Exists.intro xm_75 (And.intro mi_75 (And.intro ⟨rfl, rfl, rfl, rfl⟩ (And.intro True.intro ?_)))
    refine fcall _ h0 (fzs_sub (by decide +kernel) hW) hB0 (ct_copyRow (W := [164]) (len := 24) (fBz h0 hB0) (frC_of (by decide +kernel))) ?_
    rintro IhB1 _ hB1 fhB1 ⟨rfl, ehB1⟩
    have c8 := cop_row (d1 := 0) (d2 := 256) (a := 164) (n := 24) (cop_nil (d1 := 0) (d2 := 256) (K := I)) ehB1 rfl rfl rfl (fun j _ => rfl) (by decide +kernel)
    refine And.intro ⟨rfl, by decide, by decide⟩ ?_
    refine And.intro ⟨rfl, by decide, by decide⟩ ?_
    refine Exists.intro xm_75 (And.intro mi_75 (And.intro ⟨rfl, rfl, rfl, rfl⟩ (And.intro True.intro ?_)))
    refine fcall _ h0 (fzs_sub (by decide +kernel) hW) hB1 (ct_copyRow (W := [165]) (len := 24) (fBz h0 hB1) (frC_of (by decide +kernel))) ?_
    rintro IhB2 _ hB2 fhB2 ⟨rfl, ehB2⟩
    have c19 := cop_row (d1 := 0) (d2 := 256) (a := 165) (n := 24) c8 ehB2 rfl rfl rfl (fun j _ => fFr_at (fFr_of hB1) 421 (by decide +kernel) rfl j) (by decide +kernel)
    refine And.intro ⟨rfl, by decide, by decide⟩ ?_
    refine And.intro ⟨rfl, by decide, by decide⟩ ?_
    refine Exists.intro xm_75 (And.intro mi_75 (And.intro ⟨rfl, rfl, rfl, rfl⟩ (And.intro True.intro ?_)))
    refine fcall _ h0 (fzs_sub (by decide +kernel) hW) hB2 (ct_copyRow (W := [166]) (len := 24) (fBz h0 hB2) (frC_of (by decide +kernel))) ?_
    rintro IhB3 _ hB3 fhB3 ⟨rfl, ehB3⟩
    have c30 := cop_row (d1 := 0) (d2 := 256) (a := 166) (n := 24) c19 ehB3 rfl rfl rfl (fun j _ => fFr_at (fFr_of hB2) 422 (by decide +kernel) rfl j) (by decide +kernel)
    refine And.intro ⟨rfl, by decide, by decide⟩ ?_
    refine And.intro ⟨rfl, by decide, by decide⟩ ?_
    refine Exists.intro xm_75 (And.intro mi_75 (And.intro ⟨rfl, rfl, rfl, rfl⟩ (And.intro True.intro ?_)))
    refine fcall _ h0 (fzs_sub (by decide +kernel) hW) hB3 (ct_copyRow (W := [167]) (len := 24) (fBz h0 hB3) (frC_of (by decide +kernel))) ?_
    rintro IhB4 _ hB4 fhB4 ⟨rfl, ehB4⟩
    have c41 := cop_row (d1 := 0) (d2 := 256) (a := 167) (n := 24) c30 ehB4 rfl rfl rfl (fun j _ => fFr_at (fFr_of hB3) 423 (by decide +kernel) rfl j) (by decide +kernel)
    refine And.intro ⟨rfl, by decide, by decide⟩ ?_
    refine And.intro ⟨rfl, by decide, by decide⟩ ?_
    refine Exists.intro xm_75 (And.intro mi_75 (And.intro ⟨rfl, rfl, rfl, rfl⟩ (And.intro True.intro ?_)))
    refine fcall _ h0 (fzs_sub (by decide +kernel) hW) hB4 (ct_copyRow (W := [168]) (len := 24) (fBz h0 hB4) (frC_of (by decide +kernel))) ?_
    rintro IhB5 _ hB5 fhB5 ⟨rfl, ehB5⟩
    have c52 := cop_row (d1 := 0) (d2 := 256) (a := 168) (n := 24) c41 ehB5 rfl rfl rfl (fun j _ => fFr_at (fFr_of hB4) 424 (by decide +kernel) rfl j) (by decide +kernel)
    refine And.intro ⟨rfl, by decide, by decide⟩ ?_
    refine And.intro ⟨rfl, by decide, by decide⟩ ?_
    refine Exists.intro xm_75 (And.intro mi_75 (And.intro ⟨rfl, rfl, rfl, rfl⟩ (And.intro True.intro ?_)))
    refine fcall _ h0 (fzs_sub (by decide +kernel) hW) hB5 (ct_copyRow (W := [169]) (len := 24) (fBz h0 hB5) (frC_of (by decide +kernel))) ?_
    rintro IhB6 _ hB6 fhB6 ⟨rfl, ehB6⟩
    have c63 := cop_row (d1 := 0) (d2 := 256) (a := 169) (n := 24) c52 ehB6 rfl rfl rfl (fun j _ => fFr_at (fFr_of hB5) 425 (by decide +kernel) rfl j) (by decide +kernel)
    refine And.intro ⟨rfl, by decide, by decide⟩ ?_
    refine And.intro ⟨rfl, by decide, by decide⟩ ?_
    refine Exists.intro xm_75 (And.intro mi_75 (And.intro ⟨rfl, rfl, rfl, rfl⟩ (And.intro True.intro ?_)))
    refine fcall _ h0 (fzs_sub (by decide +kernel) hW) hB6 (ct_copyRow (W := [170]) (len := 24) (fBz h0 hB6) (frC_of (by decide +kernel))) ?_
    rintro IhB7 _ hB7 fhB7 ⟨rfl, ehB7⟩
    have c74 := cop_row (d1 := 0) (d2 := 256) (a := 170) (n := 24) c63 ehB7 rfl rfl rfl (fun j _ => fFr_at (fFr_of hB6) 426 (by decide +kernel) rfl j) (by decide +kernel)
    refine And.intro ⟨rfl, by decide, by decide⟩ ?_
    refine And.intro ⟨rfl, by decide, by decide⟩ ?_
    refine Exists.intro xm_75 (And.intro mi_75 (And.intro ⟨rfl, rfl, rfl, rfl⟩ (And.intro True.intro ?_)))
    refine fcall _ h0 (fzs_sub (by decide +kernel) hW) hB7 (ct_copyRow (W := [171]) (len := 24) (fBz h0 hB7) (frC_of (by decide +kernel))) ?_
    rintro IhB8 _ hB8 fhB8 ⟨rfl, ehB8⟩
    have c85 := cop_row (d1 := 0) (d2 := 256) (a := 171) (n := 24) c74 ehB8 rfl rfl rfl (fun j _ => fFr_at (fFr_of hB7) 427 (by decide +kernel) rfl j) (by decide +kernel)
    refine And.intro ⟨rfl, by decide, by decide⟩ ?_
    refine And.intro ⟨rfl, by decide, by decide⟩ ?_
    refine Exists.intro xm_75 (And.intro mi_75 (And.intro ⟨rfl, rfl, rfl, rfl⟩ (And.intro True.intro ?_)))
    refine fcall _ h0 (fzs_sub (by decide +kernel) hW) hB8 (ct_copyRow (W := [172]) (len := 24) (fBz h0 hB8) (frC_of (by decide +kernel))) ?_
    rintro IhB9 _ hB9 fhB9 ⟨rfl, ehB9⟩
    have c96 := cop_row (d1 := 0) (d2 := 256) (a := 172) (n := 24) c85 ehB9 rfl rfl rfl (fun j _ => fFr_at (fFr_of hB8) 428 (by decide +kernel) rfl j) (by decide +kernel)
    refine And.intro ⟨rfl, by decide, by decide⟩ ?_
    refine And.intro ⟨rfl, by decide, by decide⟩ ?_
    refine Exists.intro xm_75 (And.intro mi_75 (And.intro ⟨rfl, rfl, rfl, rfl⟩ (And.intro True.intro ?_)))
    refine fcall _ h0 (fzs_sub (by decide +kernel) hW) hB9 (ct_copyRow (W := [173]) (len := 24) (fBz h0 hB9) (frC_of (by decide +kernel))) ?_
    rintro IhB10 _ hB10 fhB10 ⟨rfl, ehB10⟩
    have c107 := cop_row (d1 := 0) (d2 := 256) (a := 173) (n := 24) c96 ehB10 rfl rfl rfl (fun j _ => fFr_at (fFr_of hB9) 429 (by decide +kernel) rfl j) (by decide +kernel)
    refine And.intro ⟨rfl, by decide, by decide⟩ ?_
    refine And.intro ⟨rfl, by decide, by decide⟩ ?_
    refine Exists.intro xm_75 (And.intro mi_75 (And.intro ⟨rfl, rfl, rfl, rfl⟩ (And.intro True.intro ?_)))
    refine fcall _ h0 (fzs_sub (by decide +kernel) hW) hB10 (ct_copyRow (W := [174]) (len := 24) (fBz h0 hB10) (frC_of (by decide +kernel))) ?_
    rintro IhB11 _ hB11 fhB11 ⟨rfl, ehB11⟩
    have c118 := cop_row (d1 := 0) (d2 := 256) (a := 174) (n := 24) c107 ehB11 rfl rfl rfl (fun j _ => fFr_at (fFr_of hB10) 430 (by decide +kernel) rfl j) (by decide +kernel)
    refine And.intro ⟨rfl, by decide, by decide⟩ ?_
    refine And.intro ⟨rfl, by decide, by decide⟩ ?_
    refine Exists.intro xm_75 (And.intro mi_75 (And.intro ⟨rfl, rfl, rfl, rfl⟩ (And.intro True.intro ?_)))
    refine fcall _ h0 (fzs_sub (by decide +kernel) hW) hB11 (ct_copyRow (W := [175]) (len := 24) (fBz h0 hB11) (frC_of (by decide +kernel))) ?_
    rintro IhB12 _ hB12 fhB12 ⟨rfl, ehB12⟩
    have c129 := cop_row (d1 := 0) (d2 := 256) (a := 175) (n := 24) c118 ehB12 rfl rfl rfl (fun j _ => fFr_at (fFr_of hB11) 431 (by decide +kernel) rfl j) (by decide +kernel)
    refine And.intro ⟨rfl, by decide, by decide⟩ ?_
    refine And.intro ⟨rfl, by decide, by decide⟩ ?_
    refine Exists.intro xm_75 (And.intro mi_75 (And.intro ⟨rfl, rfl, rfl, rfl⟩ (And.intro True.intro ?_)))
    refine fcall _ h0 (fzs_sub (by decide +kernel) hW) hB12 (ct_copyRow (W := [176]) (len := 24) (fBz h0 hB12) (frC_of (by decide +kernel))) ?_
    rintro IhB13 _ hB13 fhB13 ⟨rfl, ehB13⟩
    have c140 := cop_row (d1 := 0) (d2 := 256) (a := 176) (n := 24) c129 ehB13 rfl rfl rfl (fun j _ => fFr_at (fFr_of hB12) 432 (by decide +kernel) rfl j) (by decide +kernel)
    refine And.intro ⟨rfl, by decide, by decide⟩ (fgetf fb_419_13 h0 hB13 ?_)
    intro z14 lz14 uz14 qz14
    have k15 := fBz_eq hB13 (a := 419) (j := 13) (by decide +kernel)
    refine And.intro ⟨rfl, by decide, by decide⟩ (And.intro rfl (And.intro (Or.inl rfl) (fputf fb_163_13 (by decide +kernel) hW (by first | exact ⟨lz14, uz14⟩ | omega) ?_)))
    intro IhB16 ehB16 hB16
    have t17 := fup_at ehB16 13 (by first | rfl | omega)
    have c148 := cop_fld (d1 := 0) (d2 := 256) (a := 163) (j0 := 13) c140 ehB16 rfl (qz14.trans (fBz_eq hB13 (a := 419) (j := 13) (by decide +kernel))) (by decide +kernel)
    exact ⟨rfl, by omega, (fun j hj => ((fup_other ehB16 164 j (Or.inl (by omega))).trans (((congrFun (congrFun ehB13 164) j).trans (fcpy_ne (by omega))).trans (((congrFun (congrFun ehB12 164) j).trans (fcpy_ne (by omega))).trans (((congrFun (congrFun ehB11 164) j).trans (fcpy_ne (by omega))).trans (((congrFun (congrFun ehB10 164) j).trans (fcpy_ne (by omega))).trans (((congrFun (congrFun ehB9 164) j).trans (fcpy_ne (by omega))).trans (((congrFun (congrFun ehB8 164) j).trans (fcpy_ne (by omega))).trans (((congrFun (congrFun ehB7 164) j).trans (fcpy_ne (by omega))).trans (((congrFun (congrFun ehB6 164) j).trans (fcpy_ne (by omega))).trans (((congrFun (congrFun ehB5 164) j).trans (fcpy_ne (by omega))).trans (((congrFun (congrFun ehB4 164) j).trans (fcpy_ne (by omega))).trans (((congrFun (congrFun ehB3 164) j).trans (fcpy_ne (by omega))).trans (((congrFun (congrFun ehB2 164) j).trans (fcpy_ne (by omega))).trans ((congrFun (congrFun ehB1 164) j).trans (fcpy_at hj)))))))))))))))), c148⟩
set_option maxRecDepth 8000 in
theorem ct_City_becomeAs_a5ef7 {I : fH}  (h0 : fB bsJ I)  : fC ρ base n F xTc vwCl xTys D dA la gJ (fbz bsJ znJ (fKc wz_e3fbc) I) xm_223 [.inr (.inr (some 1)), .inr (.inr (some 257))] I (fun I' r => r = none ∧ ((I' 2 5 = I 258 5 ∧ I' 2 10 = I 258 10 ∧ I' 1 9 = I 257 9) ∧ I' 163 13 = I 419 13) ∧ (∀ j : Nat, j < 24 → I' 164 j = I 420 j) ∧ (∀ i j : Nat, i < 3 → j < 61 → I' (184 + i) j = I (440 + i) j) ∧ (cR 0 I' = cR 256 I)) := by
  have hW : fzs wz_e3fbc (fKc wz_e3fbc) := fKc_ok _
  refine f_meth (rb := rbJ) (J := []) 1 400 xG xin_223 x6_223 okJ (fB_self h0) ?_ ?_
  · exact fun q h => absurd h List.not_mem_nil
  · have hB0 := fB_self (zn := znJ) (K := fKc wz_e3fbc) h0
    refine And.intro ⟨rfl, by decide, by decide⟩ ?_
    refine And.intro ⟨rfl, by decide, by decide⟩ ?_
    refine Exists.intro xm_224 (And.intro mi_224 (And.intro ⟨rfl, rfl, rfl, rfl⟩ (And.intro rfl ?_)))
    refine fcall _ h0 (fzs_sub (by decide +kernel) hW) hB0 (ct_Cells_becomeAs_587fd (fBz h0 hB0)) ?_
    rintro IhB2 _ hB2 fhB2 ⟨rfl, hz1, g0z1⟩
    refine And.intro ⟨rfl, by decide, by decide⟩ ?_
    refine And.intro ⟨rfl, by decide, by decide⟩ ?_
    refine Exists.intro xm_226 (And.intro mi_226 (And.intro ⟨rfl, rfl, rfl, rfl⟩ (And.intro rfl ?_)))
    refine fcall _ h0 (fzs_sub (by decide +kernel) hW) hB2 (ct_Works_becomeAs_67631 (fBz h0 hB2)) ?_
    rintro IhB4 _ hB4 fhB4 ⟨rfl, hz3, g0z3, g1z3⟩
    have t5 := fhB4 2 5 (by decide +kernel)
    have t6 := fhB4 2 10 (by decide +kernel)
    have w19 := fBz_eq hB2 (a := 419) (j := 13) (by decide +kernel)
    have c19 := cop_add g0z1 g1z3 fhB2 fhB4 (by decide +kernel) (by decide +kernel)
    refine And.intro ⟨rfl, by decide, by decide⟩ ?_
    refine And.intro ⟨rfl, by decide, by decide⟩ ?_
    refine Exists.intro xm_227 (And.intro mi_227 (And.intro ⟨rfl, rfl, rfl, rfl⟩ (And.intro rfl ?_)))
    refine fcall _ h0 (fzs_sub (by decide +kernel) hW) hB4 (ct_People_becomeAs_faf7e (fBz h0 hB4)) ?_
    rintro IhB8 _ hB8 fhB8 ⟨rfl, hz7, g0z7⟩
    have t9 := fhB8 2 5 (by decide +kernel)
    have t10 := fhB8 2 10 (by decide +kernel)
    have t11 := fhB8 163 13 (by decide +kernel)
    have c30 := cop_add c19 g0z7 (fFr_of hB4) fhB8 (by decide +kernel) (by decide +kernel)
    refine And.intro ⟨rfl, by decide, by decide⟩ ?_
    refine And.intro ⟨rfl, by decide, by decide⟩ ?_
    refine Exists.intro xm_75 (And.intro mi_75 (And.intro ⟨rfl, rfl, rfl, rfl⟩ (And.intro True.intro ?_)))
    refine fcall _ h0 (fzs_sub (by decide +kernel) hW) hB8 (ct_copyRow (W := [182]) (len := 6) (fBz h0 hB8) (frC_of (by decide +kernel))) ?_
    rintro IhB12 _ hB12 fhB12 ⟨rfl, ehB12⟩
    have t13 := fhB12 2 5 (by decide +kernel)
    have t14 := fhB12 2 10 (by decide +kernel)
    have t15 := fhB12 163 13 (by decide +kernel)
    have c41 := cop_row (d1 := 0) (d2 := 256) (a := 182) (n := 6) c30 ehB12 rfl rfl rfl (fun j _ => fFr_at (fFr_of hB8) 438 (by decide +kernel) rfl j) (by decide +kernel)
    refine And.intro ⟨rfl, by decide, by decide⟩ ?_
    refine And.intro ⟨rfl, by decide, by decide⟩ ?_
    refine Exists.intro xm_225 (And.intro mi_225 (And.intro ⟨rfl, rfl, rfl, rfl⟩ (And.intro True.intro ?_)))
    refine fcall _ h0 (fzs_sub (by decide +kernel) hW) hB12 (ct_copyRows (W := [183]) (m := 3) (len := 61) (ro := 440) (rd := 184) (fBz h0 hB12) (frCs_of ⟨rfl, rfl, rfl, rfl, by decide⟩ (by decide +kernel))) ?_
    rintro IhB16 _ hB16 fhB16 ⟨rfl, ehB16⟩
    have t17 := fhB16 2 5 (by decide +kernel)
    have t18 := fhB16 2 10 (by decide +kernel)
    have t19 := fhB16 163 13 (by decide +kernel)
    have c52 := cop_rows (d1 := 0) (d2 := 256) (a := 184) (m := 3) (n := 61) c41 fhB16 ehB16 rfl rfl (fun i j hi hj => fFr_rows (fFr_of hB12) (r := 440) (m := 3) (len := 61) (by decide +kernel) i j hi hj) (by decide) (by decide +kernel)
    refine And.intro ⟨rfl, by decide, by decide⟩ (fgetf fb_257_5 h0 hB16 ?_)
    intro z20 lz20 uz20 qz20
    refine And.intro ⟨rfl, by decide, by decide⟩ (And.intro rfl (And.intro (Or.inl rfl) (fputf fb_1_5 (by decide +kernel) hW (by first | exact ⟨lz20, uz20⟩ | omega) ?_)))
    intro IhB21 ehB21 hB21
    have t22 := fup_at ehB21 5 (by first | rfl | omega)
    have t23 : IhB21 2 5 = IhB16 2 5 := (congrFun (congrFun ehB21 2) 5).trans (fup_ne (by first | decide | omega))
    have t24 : IhB21 2 10 = IhB16 2 10 := (congrFun (congrFun ehB21 2) 10).trans (fup_ne (by first | decide | omega))
    have t25 : IhB21 163 13 = IhB16 163 13 := (congrFun (congrFun ehB21 163) 13).trans (fup_ne (by first | decide | omega))
    have c60 := cop_fld (d1 := 0) (d2 := 256) (a := 1) (j0 := 5) c52 ehB21 rfl (qz20.trans (fBz_eq hB16 (a := 257) (j := 5) (by decide +kernel))) (by decide +kernel)
    refine And.intro ⟨rfl, by decide, by decide⟩ (fgetf fb_257_6 h0 hB21 ?_)
    intro z26 lz26 uz26 qz26
    refine And.intro ⟨rfl, by decide, by decide⟩ (And.intro rfl (And.intro (Or.inl rfl) (fputf fb_1_6 (by decide +kernel) hW (by first | exact ⟨lz26, uz26⟩ | omega) ?_)))
    intro IhB27 ehB27 hB27
    have t28 : IhB27 1 5 = IhB21 1 5 := (congrFun (congrFun ehB27 1) 5).trans (fup_ne (by first | decide | omega))
    have t29 := fup_at ehB27 6 (by first | rfl | omega)
    have t30 : IhB27 2 5 = IhB21 2 5 := (congrFun (congrFun ehB27 2) 5).trans (fup_ne (by first | decide | omega))
    have t31 : IhB27 2 10 = IhB21 2 10 := (congrFun (congrFun ehB27 2) 10).trans (fup_ne (by first | decide | omega))
    have t32 : IhB27 163 13 = IhB21 163 13 := (congrFun (congrFun ehB27 163) 13).trans (fup_ne (by first | decide | omega))
    have c68 := cop_fld (d1 := 0) (d2 := 256) (a := 1) (j0 := 6) c60 ehB27 rfl (qz26.trans (fBz_eq hB21 (a := 257) (j := 6) (by decide +kernel))) (by decide +kernel)
    refine And.intro ⟨rfl, by decide, by decide⟩ (fgetf fb_257_7 h0 hB27 ?_)
    intro z33 lz33 uz33 qz33
    refine And.intro ⟨rfl, by decide, by decide⟩ (And.intro rfl (And.intro (Or.inl rfl) (fputf fb_1_7 (by decide +kernel) hW (by first | exact ⟨lz33, uz33⟩ | omega) ?_)))
    intro IhB34 ehB34 hB34
    have t35 : IhB34 1 5 = IhB27 1 5 := (congrFun (congrFun ehB34 1) 5).trans (fup_ne (by first | decide | omega))
    have t36 : IhB34 1 6 = IhB27 1 6 := (congrFun (congrFun ehB34 1) 6).trans (fup_ne (by first | decide | omega))
    have t37 := fup_at ehB34 7 (by first | rfl | omega)
    have t38 : IhB34 2 5 = IhB27 2 5 := (congrFun (congrFun ehB34 2) 5).trans (fup_ne (by first | decide | omega))
    have t39 : IhB34 2 10 = IhB27 2 10 := (congrFun (congrFun ehB34 2) 10).trans (fup_ne (by first | decide | omega))
    have t40 : IhB34 163 13 = IhB27 163 13 := (congrFun (congrFun ehB34 163) 13).trans (fup_ne (by first | decide | omega))
    have c76 := cop_fld (d1 := 0) (d2 := 256) (a := 1) (j0 := 7) c68 ehB34 rfl (qz33.trans (fBz_eq hB27 (a := 257) (j := 7) (by decide +kernel))) (by decide +kernel)
    refine And.intro ⟨rfl, by decide, by decide⟩ (fgetf fb_257_8 h0 hB34 ?_)
    intro z41 lz41 uz41 qz41
    refine And.intro ⟨rfl, by decide, by decide⟩ (And.intro rfl (And.intro (Or.inl rfl) (fputf fb_1_8 (by decide +kernel) hW (by first | exact ⟨lz41, uz41⟩ | omega) ?_)))
    intro IhB42 ehB42 hB42
    have t43 : IhB42 1 5 = IhB34 1 5 := (congrFun (congrFun ehB42 1) 5).trans (fup_ne (by first | decide | omega))
    have t44 : IhB42 1 6 = IhB34 1 6 := (congrFun (congrFun ehB42 1) 6).trans (fup_ne (by first | decide | omega))
    have t45 : IhB42 1 7 = IhB34 1 7 := (congrFun (congrFun ehB42 1) 7).trans (fup_ne (by first | decide | omega))
    have t46 := fup_at ehB42 8 (by first | rfl | omega)
    have t47 : IhB42 2 5 = IhB34 2 5 := (congrFun (congrFun ehB42 2) 5).trans (fup_ne (by first | decide | omega))
    have t48 : IhB42 2 10 = IhB34 2 10 := (congrFun (congrFun ehB42 2) 10).trans (fup_ne (by first | decide | omega))
    have t49 : IhB42 163 13 = IhB34 163 13 := (congrFun (congrFun ehB42 163) 13).trans (fup_ne (by first | decide | omega))
    have c84 := cop_fld (d1 := 0) (d2 := 256) (a := 1) (j0 := 8) c76 ehB42 rfl (qz41.trans (fBz_eq hB34 (a := 257) (j := 8) (by decide +kernel))) (by decide +kernel)
    refine And.intro ⟨rfl, by decide, by decide⟩ (fgetf fb_257_9 h0 hB42 ?_)
    intro z50 lz50 uz50 qz50
    have k51 := fBz_eq hB42 (a := 257) (j := 9) (by decide +kernel)
    refine And.intro ⟨rfl, by decide, by decide⟩ (And.intro rfl (And.intro (Or.inl rfl) (fputf fb_1_9 (by decide +kernel) hW (by first | exact ⟨lz50, uz50⟩ | omega) ?_)))
    intro IhB52 ehB52 hB52
    have t53 : IhB52 1 5 = IhB42 1 5 := (congrFun (congrFun ehB52 1) 5).trans (fup_ne (by first | decide | omega))
    have t54 : IhB52 1 6 = IhB42 1 6 := (congrFun (congrFun ehB52 1) 6).trans (fup_ne (by first | decide | omega))
    have t55 : IhB52 1 7 = IhB42 1 7 := (congrFun (congrFun ehB52 1) 7).trans (fup_ne (by first | decide | omega))
    have t56 : IhB52 1 8 = IhB42 1 8 := (congrFun (congrFun ehB52 1) 8).trans (fup_ne (by first | decide | omega))
    have t57 := fup_at ehB52 9 (by first | rfl | omega)
    have t58 : IhB52 2 5 = IhB42 2 5 := (congrFun (congrFun ehB52 2) 5).trans (fup_ne (by first | decide | omega))
    have t59 : IhB52 2 10 = IhB42 2 10 := (congrFun (congrFun ehB52 2) 10).trans (fup_ne (by first | decide | omega))
    have t60 : IhB52 163 13 = IhB42 163 13 := (congrFun (congrFun ehB52 163) 13).trans (fup_ne (by first | decide | omega))
    have c92 := cop_fld (d1 := 0) (d2 := 256) (a := 1) (j0 := 9) c84 ehB52 rfl (qz50.trans (fBz_eq hB42 (a := 257) (j := 9) (by decide +kernel))) (by decide +kernel)
    exact ⟨rfl, by omega, (fun j hj => ((fup_other ehB52 164 j (Or.inl (by omega))).trans ((fup_other ehB42 164 j (Or.inl (by omega))).trans ((fup_other ehB34 164 j (Or.inl (by omega))).trans ((fup_other ehB27 164 j (Or.inl (by omega))).trans ((fup_other ehB21 164 j (Or.inl (by omega))).trans ((fFr_at fhB16 164 (by decide +kernel) rfl j).trans (((congrFun (congrFun ehB12 164) j).trans (fcpy_ne (by omega))).trans ((fFr_at fhB8 164 (by decide +kernel) rfl j).trans ((g0z3 j hj).trans (fFr_at (fFr_of hB2) 420 (by decide +kernel) rfl j))))))))))), (fun i j hi hj => ((fup_other ehB52 (184 + i) j (Or.inl (by omega))).trans ((fup_other ehB42 (184 + i) j (Or.inl (by omega))).trans ((fup_other ehB34 (184 + i) j (Or.inl (by omega))).trans ((fup_other ehB27 (184 + i) j (Or.inl (by omega))).trans ((fup_other ehB21 (184 + i) j (Or.inl (by omega))).trans ((ehB16 i hi j hj).trans (fFr_rows (fFr_of hB12) (r := 440) (m := 3) (len := 61) (by decide +kernel) i j hi hj)))))))), (cR_cop (L := cpA) c92 cpA_ok)⟩
set_option maxRecDepth 8000 in
theorem ct_Charter_becomeAs_58e13 {I : fH}  (h0 : fB bsJ I) (hp0 : (cLw 256 I).vote < 12) : fC ρ base n F xTc vwCl xTys D dA la gJ (fbz bsJ znJ (fKc wz_2d260) I) xm_230 [.inr (.inr (some 187)), .inr (.inr (some 443))] I (fun I' r => r = none ∧ (I' 187 6 = I 443 6) ∧ (cLw 0 I' = cLw 256 I)) := by
  have hW : fzs wz_2d260 (fKc wz_2d260) := fKc_ok _
  refine f_meth (rb := rbJ) (J := []) 1 400 xG xin_230 x6_230 okJ (fB_self h0) ?_ ?_
  · exact fun q h => absurd h List.not_mem_nil
  · have hB0 := fB_self (zn := znJ) (K := fKc wz_2d260) h0
    refine And.intro ⟨rfl, by decide, by decide⟩ ?_
    refine And.intro ⟨rfl, by decide, by decide⟩ ?_
    refine Exists.intro xm_75 (And.intro mi_75 (And.intro ⟨rfl, rfl, rfl, rfl⟩ (And.intro True.intro ?_)))
    refine fcall _ h0 (fzs_sub (by decide +kernel) hW) hB0 (ct_copyRow (W := [188]) (len := 12) (fBz h0 hB0) (frC_of (by decide +kernel))) ?_
    rintro IhB1 _ hB1 fhB1 ⟨rfl, ehB1⟩
    have c8 := cop_row (d1 := 0) (d2 := 256) (a := 188) (n := 12) (cop_nil (d1 := 0) (d2 := 256) (K := I)) ehB1 rfl rfl rfl (fun j _ => rfl) (by decide +kernel)
    refine And.intro ⟨rfl, by decide, by decide⟩ ?_
    refine And.intro ⟨rfl, by decide, by decide⟩ ?_
    refine Exists.intro xm_75 (And.intro mi_75 (And.intro ⟨rfl, rfl, rfl, rfl⟩ (And.intro True.intro ?_)))
    refine fcall _ h0 (fzs_sub (by decide +kernel) hW) hB1 (ct_copyRow (W := [189]) (len := 12) (fBz h0 hB1) (frC_of (by decide +kernel))) ?_
    rintro IhB2 _ hB2 fhB2 ⟨rfl, ehB2⟩
    have c19 := cop_row (d1 := 0) (d2 := 256) (a := 189) (n := 12) c8 ehB2 rfl rfl rfl (fun j _ => fFr_at (fFr_of hB1) 445 (by decide +kernel) rfl j) (by decide +kernel)
    refine And.intro ⟨rfl, by decide, by decide⟩ ?_
    refine And.intro ⟨rfl, by decide, by decide⟩ ?_
    refine Exists.intro xm_75 (And.intro mi_75 (And.intro ⟨rfl, rfl, rfl, rfl⟩ (And.intro True.intro ?_)))
    refine fcall _ h0 (fzs_sub (by decide +kernel) hW) hB2 (ct_copyRow (W := [190]) (len := 12) (fBz h0 hB2) (frC_of (by decide +kernel))) ?_
    rintro IhB3 _ hB3 fhB3 ⟨rfl, ehB3⟩
    have c30 := cop_row (d1 := 0) (d2 := 256) (a := 190) (n := 12) c19 ehB3 rfl rfl rfl (fun j _ => fFr_at (fFr_of hB2) 446 (by decide +kernel) rfl j) (by decide +kernel)
    refine And.intro ⟨rfl, by decide, by decide⟩ ?_
    refine And.intro ⟨rfl, by decide, by decide⟩ ?_
    refine Exists.intro xm_75 (And.intro mi_75 (And.intro ⟨rfl, rfl, rfl, rfl⟩ (And.intro True.intro ?_)))
    refine fcall _ h0 (fzs_sub (by decide +kernel) hW) hB3 (ct_copyRow (W := [191]) (len := 12) (fBz h0 hB3) (frC_of (by decide +kernel))) ?_
    rintro IhB4 _ hB4 fhB4 ⟨rfl, ehB4⟩
    have c41 := cop_row (d1 := 0) (d2 := 256) (a := 191) (n := 12) c30 ehB4 rfl rfl rfl (fun j _ => fFr_at (fFr_of hB3) 447 (by decide +kernel) rfl j) (by decide +kernel)
    refine And.intro ⟨rfl, by decide, by decide⟩ ?_
    refine And.intro ⟨rfl, by decide, by decide⟩ ?_
    refine Exists.intro xm_75 (And.intro mi_75 (And.intro ⟨rfl, rfl, rfl, rfl⟩ (And.intro True.intro ?_)))
    refine fcall _ h0 (fzs_sub (by decide +kernel) hW) hB4 (ct_copyRow (W := [192]) (len := 12) (fBz h0 hB4) (frC_of (by decide +kernel))) ?_
    rintro IhB5 _ hB5 fhB5 ⟨rfl, ehB5⟩
    have c52 := cop_row (d1 := 0) (d2 := 256) (a := 192) (n := 12) c41 ehB5 rfl rfl rfl (fun j _ => fFr_at (fFr_of hB4) 448 (by decide +kernel) rfl j) (by decide +kernel)
    refine And.intro ⟨rfl, by decide, by decide⟩ ?_
    refine And.intro ⟨rfl, by decide, by decide⟩ ?_
    refine Exists.intro xm_225 (And.intro mi_225 (And.intro ⟨rfl, rfl, rfl, rfl⟩ (And.intro True.intro ?_)))
    refine fcall _ h0 (fzs_sub (by decide +kernel) hW) hB5 (ct_copyRows (W := [193]) (m := 12) (len := 96) (ro := 450) (rd := 194) (fBz h0 hB5) (frCs_of ⟨rfl, rfl, rfl, rfl, by decide⟩ (by decide +kernel))) ?_
    rintro IhB6 _ hB6 fhB6 ⟨rfl, ehB6⟩
    have c63 := cop_rows (d1 := 0) (d2 := 256) (a := 194) (m := 12) (n := 96) c52 fhB6 ehB6 rfl rfl (fun i j hi hj => fFr_rows (fFr_of hB5) (r := 450) (m := 12) (len := 96) (by decide +kernel) i j hi hj) (by decide) (by decide +kernel)
    refine And.intro ⟨rfl, by decide, by decide⟩ (fgetf fb_443_6 h0 hB6 ?_)
    intro z7 lz7 uz7 qz7
    have k8 := fBz_eq hB6 (a := 443) (j := 6) (by decide +kernel)
    refine And.intro ⟨rfl, by decide, by decide⟩ (And.intro rfl (And.intro (Or.inl rfl) (fputf fb_187_6 (by decide +kernel) hW (by first | exact ⟨lz7, uz7⟩ | omega) ?_)))
    intro IhB9 ehB9 hB9
    have t10 := fup_at ehB9 6 (by first | rfl | omega)
    have c71 := cop_fld (d1 := 0) (d2 := 256) (a := 187) (j0 := 6) c63 ehB9 rfl (qz7.trans (fBz_eq hB6 (a := 443) (j := 6) (by decide +kernel))) (by decide +kernel)
    refine And.intro ⟨rfl, by decide, by decide⟩ (fgetf fb_443_7 h0 hB9 ?_)
    intro z11 lz11 uz11 qz11
    refine And.intro ⟨rfl, by decide, by decide⟩ (And.intro rfl (And.intro (Or.inl rfl) (fputf fb_187_7 (by decide +kernel) hW (by first | exact ⟨lz11, uz11⟩ | omega) ?_)))
    intro IhB12 ehB12 hB12
    have t13 : IhB12 187 6 = IhB9 187 6 := (congrFun (congrFun ehB12 187) 6).trans (fup_ne (by first | decide | omega))
    have t14 := fup_at ehB12 7 (by first | rfl | omega)
    have c79 := cop_fld (d1 := 0) (d2 := 256) (a := 187) (j0 := 7) c71 ehB12 rfl (qz11.trans (fBz_eq hB9 (a := 443) (j := 7) (by decide +kernel))) (by decide +kernel)
    refine And.intro ⟨rfl, by decide, by decide⟩ (fgetf fb_443_8 h0 hB12 ?_)
    intro z15 lz15 uz15 qz15
    refine And.intro ⟨rfl, by decide, by decide⟩ (And.intro rfl (And.intro (Or.inr ⟨rfl, by omega⟩) (fputf fb_187_8 (by decide +kernel) hW (by first | exact ⟨lz15, uz15⟩ | omega) ?_)))
    intro IhB16 ehB16 hB16
    have t17 : IhB16 187 6 = IhB12 187 6 := (congrFun (congrFun ehB16 187) 6).trans (fup_ne (by first | decide | omega))
    have t18 : IhB16 187 7 = IhB12 187 7 := (congrFun (congrFun ehB16 187) 7).trans (fup_ne (by first | decide | omega))
    have t19 := fup_at ehB16 8 (by first | rfl | omega)
    have c87 := cop_fld (d1 := 0) (d2 := 256) (a := 187) (j0 := 8) c79 ehB16 rfl (qz15.trans (fBz_eq hB12 (a := 443) (j := 8) (by decide +kernel))) (by decide +kernel)
    refine And.intro ⟨rfl, by decide, by decide⟩ ?_
    refine And.intro ⟨rfl, by decide, by decide⟩ ?_
    refine Exists.intro xm_75 (And.intro mi_75 (And.intro ⟨rfl, rfl, rfl, rfl⟩ (And.intro True.intro ?_)))
    refine fcall _ h0 (fzs_sub (by decide +kernel) hW) hB16 (ct_copyRow (W := [206]) (len := 24) (fBz h0 hB16) (frC_of (by decide +kernel))) ?_
    rintro IhB20 _ hB20 fhB20 ⟨rfl, ehB20⟩
    have t21 := fhB20 187 6 (by decide +kernel)
    have t22 := fhB20 187 7 (by decide +kernel)
    have t23 := fhB20 187 8 (by decide +kernel)
    have c98 := cop_row (d1 := 0) (d2 := 256) (a := 206) (n := 24) c87 ehB20 rfl rfl rfl (fun j _ => fFr_at (fFr_of hB16) 462 (by decide +kernel) rfl j) (by decide +kernel)
    exact ⟨rfl, by omega, (cLw_cop c98 hp0)⟩
set_option maxRecDepth 8000 in
theorem ct_Desk_becomeAs_db7c8 {I : fH}  (h0 : fB bsJ I)  : fC ρ base n F xTc vwCl xTys D dA la gJ (fbz bsJ znJ (fKc wz_ba624) I) xm_231 [.inr (.inr (some 211)), .inr (.inr (some 467))] I (fun I' r => r = none ∧ (I' 211 8 = I 467 8 ∧ I' 211 11 = I 467 11 ∧ I' 211 15 = I 467 15) ∧ (∀ i j : Nat, i < 8 → j < 12 → I' (213 + i) j = I (469 + i) j) ∧ (∀ j : Nat, j < 8 → I' 221 j = I 477 j) ∧ (∀ j : Nat, j < 48 → I' 222 j = I 478 j) ∧ (∀ j : Nat, j < 4 → I' 223 j = I 479 j) ∧ (∀ i j : Nat, i < 24 → j < 4 → I' (225 + i) j = I (481 + i) j) ∧ (∀ j : Nat, j < 6 → I' 249 j = I 505 j) ∧ (∀ j : Nat, j < 6 → I' 250 j = I 506 j) ∧ (∀ j : Nat, j < 6 → I' 251 j = I 507 j) ∧ (∀ j : Nat, j < 10 → I' 252 j = I 508 j) ∧ (∀ j : Nat, j < 10 → I' 253 j = I 509 j) ∧ (∀ j : Nat, j < 7 → I' 254 j = I 510 j) ∧ (∀ j : Nat, j < 7 → I' 255 j = I 511 j) ∧ (∀ j : Nat, j < 7 → I' 256 j = I 512 j)) := by
  have hW : fzs wz_ba624 (fKc wz_ba624) := fKc_ok _
  refine f_meth (rb := rbJ) (J := []) 1 400 xG xin_231 x6_231 okJ (fB_self h0) ?_ ?_
  · exact fun q h => absurd h List.not_mem_nil
  · have hB0 := fB_self (zn := znJ) (K := fKc wz_ba624) h0
    refine And.intro ⟨rfl, by decide, by decide⟩ ?_
    refine And.intro ⟨rfl, by decide, by decide⟩ ?_
    refine Exists.intro xm_225 (And.intro mi_225 (And.intro ⟨rfl, rfl, rfl, rfl⟩ (And.intro True.intro ?_)))
    refine fcall _ h0 (fzs_sub (by decide +kernel) hW) hB0 (ct_copyRows (W := [212]) (m := 8) (len := 12) (ro := 469) (rd := 213) (fBz h0 hB0) (frCs_of ⟨rfl, rfl, rfl, rfl, by decide⟩ (by decide +kernel))) ?_
    rintro IhB1 _ hB1 fhB1 ⟨rfl, ehB1⟩
    refine And.intro ⟨rfl, by decide, by decide⟩ ?_
    refine And.intro ⟨rfl, by decide, by decide⟩ ?_
    refine Exists.intro xm_75 (And.intro mi_75 (And.intro ⟨rfl, rfl, rfl, rfl⟩ (And.intro True.intro ?_)))
    refine fcall _ h0 (fzs_sub (by decide +kernel) hW) hB1 (ct_copyRow (W := [221]) (len := 8) (fBz h0 hB1) (frC_of (by decide +kernel))) ?_
    rintro IhB2 _ hB2 fhB2 ⟨rfl, ehB2⟩
    refine And.intro ⟨rfl, by decide, by decide⟩ ?_
    refine And.intro ⟨rfl, by decide, by decide⟩ ?_
    refine Exists.intro xm_75 (And.intro mi_75 (And.intro ⟨rfl, rfl, rfl, rfl⟩ (And.intro True.intro ?_)))
    refine fcall _ h0 (fzs_sub (by decide +kernel) hW) hB2 (ct_copyRow (W := [222]) (len := 48) (fBz h0 hB2) (frC_of (by decide +kernel))) ?_
    rintro IhB3 _ hB3 fhB3 ⟨rfl, ehB3⟩
    refine And.intro ⟨rfl, by decide, by decide⟩ ?_
    refine And.intro ⟨rfl, by decide, by decide⟩ ?_
    refine Exists.intro xm_75 (And.intro mi_75 (And.intro ⟨rfl, rfl, rfl, rfl⟩ (And.intro True.intro ?_)))
    refine fcall _ h0 (fzs_sub (by decide +kernel) hW) hB3 (ct_copyRow (W := [223]) (len := 4) (fBz h0 hB3) (frC_of (by decide +kernel))) ?_
    rintro IhB4 _ hB4 fhB4 ⟨rfl, ehB4⟩
    refine And.intro ⟨rfl, by decide, by decide⟩ ?_
    refine And.intro ⟨rfl, by decide, by decide⟩ ?_
    refine Exists.intro xm_225 (And.intro mi_225 (And.intro ⟨rfl, rfl, rfl, rfl⟩ (And.intro True.intro ?_)))
    refine fcall _ h0 (fzs_sub (by decide +kernel) hW) hB4 (ct_copyRows (W := [224]) (m := 24) (len := 4) (ro := 481) (rd := 225) (fBz h0 hB4) (frCs_of ⟨rfl, rfl, rfl, rfl, by decide⟩ (by decide +kernel))) ?_
    rintro IhB5 _ hB5 fhB5 ⟨rfl, ehB5⟩
    refine And.intro ⟨rfl, by decide, by decide⟩ ?_
    refine And.intro ⟨rfl, by decide, by decide⟩ ?_
    refine Exists.intro xm_75 (And.intro mi_75 (And.intro ⟨rfl, rfl, rfl, rfl⟩ (And.intro True.intro ?_)))
    refine fcall _ h0 (fzs_sub (by decide +kernel) hW) hB5 (ct_copyRow (W := [249]) (len := 6) (fBz h0 hB5) (frC_of (by decide +kernel))) ?_
    rintro IhB6 _ hB6 fhB6 ⟨rfl, ehB6⟩
    refine And.intro ⟨rfl, by decide, by decide⟩ ?_
    refine And.intro ⟨rfl, by decide, by decide⟩ ?_
    refine Exists.intro xm_75 (And.intro mi_75 (And.intro ⟨rfl, rfl, rfl, rfl⟩ (And.intro True.intro ?_)))
    refine fcall _ h0 (fzs_sub (by decide +kernel) hW) hB6 (ct_copyRow (W := [250]) (len := 6) (fBz h0 hB6) (frC_of (by decide +kernel))) ?_
    rintro IhB7 _ hB7 fhB7 ⟨rfl, ehB7⟩
    refine And.intro ⟨rfl, by decide, by decide⟩ ?_
    refine And.intro ⟨rfl, by decide, by decide⟩ ?_
    refine Exists.intro xm_75 (And.intro mi_75 (And.intro ⟨rfl, rfl, rfl, rfl⟩ (And.intro True.intro ?_)))
    refine fcall _ h0 (fzs_sub (by decide +kernel) hW) hB7 (ct_copyRow (W := [251]) (len := 6) (fBz h0 hB7) (frC_of (by decide +kernel))) ?_
    rintro IhB8 _ hB8 fhB8 ⟨rfl, ehB8⟩
    refine And.intro ⟨rfl, by decide, by decide⟩ (fgetf fb_467_8 h0 hB8 ?_)
    intro z9 lz9 uz9 qz9
    have k10 := fBz_eq hB8 (a := 467) (j := 8) (by decide +kernel)
    refine And.intro ⟨rfl, by decide, by decide⟩ (And.intro rfl (And.intro (Or.inl rfl) (fputf fb_211_8 (by decide +kernel) hW (by first | exact ⟨lz9, uz9⟩ | omega) ?_)))
    intro IhB11 ehB11 hB11
    have t12 := fup_at ehB11 8 (by first | rfl | omega)
    refine And.intro ⟨rfl, by decide, by decide⟩ ?_
    refine And.intro ⟨rfl, by decide, by decide⟩ ?_
    refine Exists.intro xm_75 (And.intro mi_75 (And.intro ⟨rfl, rfl, rfl, rfl⟩ (And.intro True.intro ?_)))
    refine fcall _ h0 (fzs_sub (by decide +kernel) hW) hB11 (ct_copyRow (W := [252]) (len := 10) (fBz h0 hB11) (frC_of (by decide +kernel))) ?_
    rintro IhB13 _ hB13 fhB13 ⟨rfl, ehB13⟩
    have t14 := fhB13 211 8 (by decide +kernel)
    refine And.intro ⟨rfl, by decide, by decide⟩ ?_
    refine And.intro ⟨rfl, by decide, by decide⟩ ?_
    refine Exists.intro xm_75 (And.intro mi_75 (And.intro ⟨rfl, rfl, rfl, rfl⟩ (And.intro True.intro ?_)))
    refine fcall _ h0 (fzs_sub (by decide +kernel) hW) hB13 (ct_copyRow (W := [253]) (len := 10) (fBz h0 hB13) (frC_of (by decide +kernel))) ?_
    rintro IhB15 _ hB15 fhB15 ⟨rfl, ehB15⟩
    have t16 := fhB15 211 8 (by decide +kernel)
    refine And.intro ⟨rfl, by decide, by decide⟩ (fgetf fb_467_11 h0 hB15 ?_)
    intro z17 lz17 uz17 qz17
    have k18 := fBz_eq hB15 (a := 467) (j := 11) (by decide +kernel)
    refine And.intro ⟨rfl, by decide, by decide⟩ (And.intro rfl (And.intro (Or.inl rfl) (fputf fb_211_11 (by decide +kernel) hW (by first | exact ⟨lz17, uz17⟩ | omega) ?_)))
    intro IhB19 ehB19 hB19
    have t20 : IhB19 211 8 = IhB15 211 8 := (congrFun (congrFun ehB19 211) 8).trans (fup_ne (by first | decide | omega))
    have t21 := fup_at ehB19 11 (by first | rfl | omega)
    refine And.intro ⟨rfl, by decide, by decide⟩ ?_
    refine And.intro ⟨rfl, by decide, by decide⟩ ?_
    refine Exists.intro xm_75 (And.intro mi_75 (And.intro ⟨rfl, rfl, rfl, rfl⟩ (And.intro True.intro ?_)))
    refine fcall _ h0 (fzs_sub (by decide +kernel) hW) hB19 (ct_copyRow (W := [254]) (len := 7) (fBz h0 hB19) (frC_of (by decide +kernel))) ?_
    rintro IhB22 _ hB22 fhB22 ⟨rfl, ehB22⟩
    have t23 := fhB22 211 8 (by decide +kernel)
    have t24 := fhB22 211 11 (by decide +kernel)
    refine And.intro ⟨rfl, by decide, by decide⟩ ?_
    refine And.intro ⟨rfl, by decide, by decide⟩ ?_
    refine Exists.intro xm_75 (And.intro mi_75 (And.intro ⟨rfl, rfl, rfl, rfl⟩ (And.intro True.intro ?_)))
    refine fcall _ h0 (fzs_sub (by decide +kernel) hW) hB22 (ct_copyRow (W := [255]) (len := 7) (fBz h0 hB22) (frC_of (by decide +kernel))) ?_
    rintro IhB25 _ hB25 fhB25 ⟨rfl, ehB25⟩
    have t26 := fhB25 211 8 (by decide +kernel)
    have t27 := fhB25 211 11 (by decide +kernel)
    refine And.intro ⟨rfl, by decide, by decide⟩ ?_
    refine And.intro ⟨rfl, by decide, by decide⟩ ?_
    refine Exists.intro xm_75 (And.intro mi_75 (And.intro ⟨rfl, rfl, rfl, rfl⟩ (And.intro True.intro ?_)))
    refine fcall _ h0 (fzs_sub (by decide +kernel) hW) hB25 (ct_copyRow (W := [256]) (len := 7) (fBz h0 hB25) (frC_of (by decide +kernel))) ?_
    rintro IhB28 _ hB28 fhB28 ⟨rfl, ehB28⟩
    have t29 := fhB28 211 8 (by decide +kernel)
    have t30 := fhB28 211 11 (by decide +kernel)
    refine And.intro ⟨rfl, by decide, by decide⟩ (fgetf fb_467_15 h0 hB28 ?_)
    intro z31 lz31 uz31 qz31
    have k32 := fBz_eq hB28 (a := 467) (j := 15) (by decide +kernel)
    refine And.intro ⟨rfl, by decide, by decide⟩ (And.intro rfl (And.intro (Or.inl rfl) (fputf fb_211_15 (by decide +kernel) hW (by first | exact ⟨lz31, uz31⟩ | omega) ?_)))
    intro IhB33 ehB33 hB33
    have t34 : IhB33 211 8 = IhB28 211 8 := (congrFun (congrFun ehB33 211) 8).trans (fup_ne (by first | decide | omega))
    have t35 : IhB33 211 11 = IhB28 211 11 := (congrFun (congrFun ehB33 211) 11).trans (fup_ne (by first | decide | omega))
    have t36 := fup_at ehB33 15 (by first | rfl | omega)
    exact ⟨rfl, by omega, (fun i j hi hj => ((fup_other ehB33 (213 + i) j (Or.inl (by omega))).trans (((congrFun (congrFun ehB28 (213 + i)) j).trans (fcpy_ne (by omega))).trans (((congrFun (congrFun ehB25 (213 + i)) j).trans (fcpy_ne (by omega))).trans (((congrFun (congrFun ehB22 (213 + i)) j).trans (fcpy_ne (by omega))).trans ((fup_other ehB19 (213 + i) j (Or.inl (by omega))).trans (((congrFun (congrFun ehB15 (213 + i)) j).trans (fcpy_ne (by omega))).trans (((congrFun (congrFun ehB13 (213 + i)) j).trans (fcpy_ne (by omega))).trans ((fup_other ehB11 (213 + i) j (Or.inl (by omega))).trans (((congrFun (congrFun ehB8 (213 + i)) j).trans (fcpy_ne (by omega))).trans (((congrFun (congrFun ehB7 (213 + i)) j).trans (fcpy_ne (by omega))).trans (((congrFun (congrFun ehB6 (213 + i)) j).trans (fcpy_ne (by omega))).trans ((fFr_rows fhB5 (r := 213) (m := 8) (len := 12) (by decide +kernel) i j hi hj).trans (((congrFun (congrFun ehB4 (213 + i)) j).trans (fcpy_ne (by omega))).trans (((congrFun (congrFun ehB3 (213 + i)) j).trans (fcpy_ne (by omega))).trans (((congrFun (congrFun ehB2 (213 + i)) j).trans (fcpy_ne (by omega))).trans (ehB1 i hi j hj))))))))))))))))), (fun j hj => ((fup_other ehB33 221 j (Or.inl (by omega))).trans (((congrFun (congrFun ehB28 221) j).trans (fcpy_ne (by omega))).trans (((congrFun (congrFun ehB25 221) j).trans (fcpy_ne (by omega))).trans (((congrFun (congrFun ehB22 221) j).trans (fcpy_ne (by omega))).trans ((fup_other ehB19 221 j (Or.inl (by omega))).trans (((congrFun (congrFun ehB15 221) j).trans (fcpy_ne (by omega))).trans (((congrFun (congrFun ehB13 221) j).trans (fcpy_ne (by omega))).trans ((fup_other ehB11 221 j (Or.inl (by omega))).trans (((congrFun (congrFun ehB8 221) j).trans (fcpy_ne (by omega))).trans (((congrFun (congrFun ehB7 221) j).trans (fcpy_ne (by omega))).trans (((congrFun (congrFun ehB6 221) j).trans (fcpy_ne (by omega))).trans ((fFr_at fhB5 221 (by decide +kernel) rfl j).trans (((congrFun (congrFun ehB4 221) j).trans (fcpy_ne (by omega))).trans (((congrFun (congrFun ehB3 221) j).trans (fcpy_ne (by omega))).trans (((congrFun (congrFun ehB2 221) j).trans (fcpy_at hj)).trans (fFr_at (fFr_of hB1) 477 (by decide +kernel) rfl j))))))))))))))))), (fun j hj => ((fup_other ehB33 222 j (Or.inl (by omega))).trans (((congrFun (congrFun ehB28 222) j).trans (fcpy_ne (by omega))).trans (((congrFun (congrFun ehB25 222) j).trans (fcpy_ne (by omega))).trans (((congrFun (congrFun ehB22 222) j).trans (fcpy_ne (by omega))).trans ((fup_other ehB19 222 j (Or.inl (by omega))).trans (((congrFun (congrFun ehB15 222) j).trans (fcpy_ne (by omega))).trans (((congrFun (congrFun ehB13 222) j).trans (fcpy_ne (by omega))).trans ((fup_other ehB11 222 j (Or.inl (by omega))).trans (((congrFun (congrFun ehB8 222) j).trans (fcpy_ne (by omega))).trans (((congrFun (congrFun ehB7 222) j).trans (fcpy_ne (by omega))).trans (((congrFun (congrFun ehB6 222) j).trans (fcpy_ne (by omega))).trans ((fFr_at fhB5 222 (by decide +kernel) rfl j).trans (((congrFun (congrFun ehB4 222) j).trans (fcpy_ne (by omega))).trans (((congrFun (congrFun ehB3 222) j).trans (fcpy_at hj)).trans (fFr_at (fFr_of hB2) 478 (by decide +kernel) rfl j)))))))))))))))), (fun j hj => ((fup_other ehB33 223 j (Or.inl (by omega))).trans (((congrFun (congrFun ehB28 223) j).trans (fcpy_ne (by omega))).trans (((congrFun (congrFun ehB25 223) j).trans (fcpy_ne (by omega))).trans (((congrFun (congrFun ehB22 223) j).trans (fcpy_ne (by omega))).trans ((fup_other ehB19 223 j (Or.inl (by omega))).trans (((congrFun (congrFun ehB15 223) j).trans (fcpy_ne (by omega))).trans (((congrFun (congrFun ehB13 223) j).trans (fcpy_ne (by omega))).trans ((fup_other ehB11 223 j (Or.inl (by omega))).trans (((congrFun (congrFun ehB8 223) j).trans (fcpy_ne (by omega))).trans (((congrFun (congrFun ehB7 223) j).trans (fcpy_ne (by omega))).trans (((congrFun (congrFun ehB6 223) j).trans (fcpy_ne (by omega))).trans ((fFr_at fhB5 223 (by decide +kernel) rfl j).trans (((congrFun (congrFun ehB4 223) j).trans (fcpy_at hj)).trans (fFr_at (fFr_of hB3) 479 (by decide +kernel) rfl j))))))))))))))), (fun i j hi hj => ((fup_other ehB33 (225 + i) j (Or.inl (by omega))).trans (((congrFun (congrFun ehB28 (225 + i)) j).trans (fcpy_ne (by omega))).trans (((congrFun (congrFun ehB25 (225 + i)) j).trans (fcpy_ne (by omega))).trans (((congrFun (congrFun ehB22 (225 + i)) j).trans (fcpy_ne (by omega))).trans ((fup_other ehB19 (225 + i) j (Or.inl (by omega))).trans (((congrFun (congrFun ehB15 (225 + i)) j).trans (fcpy_ne (by omega))).trans (((congrFun (congrFun ehB13 (225 + i)) j).trans (fcpy_ne (by omega))).trans ((fup_other ehB11 (225 + i) j (Or.inl (by omega))).trans (((congrFun (congrFun ehB8 (225 + i)) j).trans (fcpy_ne (by omega))).trans (((congrFun (congrFun ehB7 (225 + i)) j).trans (fcpy_ne (by omega))).trans (((congrFun (congrFun ehB6 (225 + i)) j).trans (fcpy_ne (by omega))).trans ((ehB5 i hi j hj).trans (fFr_rows (fFr_of hB4) (r := 481) (m := 24) (len := 4) (by decide +kernel) i j hi hj)))))))))))))), (fun j hj => ((fup_other ehB33 249 j (Or.inl (by omega))).trans (((congrFun (congrFun ehB28 249) j).trans (fcpy_ne (by omega))).trans (((congrFun (congrFun ehB25 249) j).trans (fcpy_ne (by omega))).trans (((congrFun (congrFun ehB22 249) j).trans (fcpy_ne (by omega))).trans ((fup_other ehB19 249 j (Or.inl (by omega))).trans (((congrFun (congrFun ehB15 249) j).trans (fcpy_ne (by omega))).trans (((congrFun (congrFun ehB13 249) j).trans (fcpy_ne (by omega))).trans ((fup_other ehB11 249 j (Or.inl (by omega))).trans (((congrFun (congrFun ehB8 249) j).trans (fcpy_ne (by omega))).trans (((congrFun (congrFun ehB7 249) j).trans (fcpy_ne (by omega))).trans (((congrFun (congrFun ehB6 249) j).trans (fcpy_at hj)).trans (fFr_at (fFr_of hB5) 505 (by decide +kernel) rfl j))))))))))))), (fun j hj => ((fup_other ehB33 250 j (Or.inl (by omega))).trans (((congrFun (congrFun ehB28 250) j).trans (fcpy_ne (by omega))).trans (((congrFun (congrFun ehB25 250) j).trans (fcpy_ne (by omega))).trans (((congrFun (congrFun ehB22 250) j).trans (fcpy_ne (by omega))).trans ((fup_other ehB19 250 j (Or.inl (by omega))).trans (((congrFun (congrFun ehB15 250) j).trans (fcpy_ne (by omega))).trans (((congrFun (congrFun ehB13 250) j).trans (fcpy_ne (by omega))).trans ((fup_other ehB11 250 j (Or.inl (by omega))).trans (((congrFun (congrFun ehB8 250) j).trans (fcpy_ne (by omega))).trans (((congrFun (congrFun ehB7 250) j).trans (fcpy_at hj)).trans (fFr_at (fFr_of hB6) 506 (by decide +kernel) rfl j)))))))))))), (fun j hj => ((fup_other ehB33 251 j (Or.inl (by omega))).trans (((congrFun (congrFun ehB28 251) j).trans (fcpy_ne (by omega))).trans (((congrFun (congrFun ehB25 251) j).trans (fcpy_ne (by omega))).trans (((congrFun (congrFun ehB22 251) j).trans (fcpy_ne (by omega))).trans ((fup_other ehB19 251 j (Or.inl (by omega))).trans (((congrFun (congrFun ehB15 251) j).trans (fcpy_ne (by omega))).trans (((congrFun (congrFun ehB13 251) j).trans (fcpy_ne (by omega))).trans ((fup_other ehB11 251 j (Or.inl (by omega))).trans (((congrFun (congrFun ehB8 251) j).trans (fcpy_at hj)).trans (fFr_at (fFr_of hB7) 507 (by decide +kernel) rfl j))))))))))), (fun j hj => ((fup_other ehB33 252 j (Or.inl (by omega))).trans (((congrFun (congrFun ehB28 252) j).trans (fcpy_ne (by omega))).trans (((congrFun (congrFun ehB25 252) j).trans (fcpy_ne (by omega))).trans (((congrFun (congrFun ehB22 252) j).trans (fcpy_ne (by omega))).trans ((fup_other ehB19 252 j (Or.inl (by omega))).trans (((congrFun (congrFun ehB15 252) j).trans (fcpy_ne (by omega))).trans (((congrFun (congrFun ehB13 252) j).trans (fcpy_at hj)).trans (fFr_at (fFr_of hB11) 508 (by decide +kernel) rfl j))))))))), (fun j hj => ((fup_other ehB33 253 j (Or.inl (by omega))).trans (((congrFun (congrFun ehB28 253) j).trans (fcpy_ne (by omega))).trans (((congrFun (congrFun ehB25 253) j).trans (fcpy_ne (by omega))).trans (((congrFun (congrFun ehB22 253) j).trans (fcpy_ne (by omega))).trans ((fup_other ehB19 253 j (Or.inl (by omega))).trans (((congrFun (congrFun ehB15 253) j).trans (fcpy_at hj)).trans (fFr_at (fFr_of hB13) 509 (by decide +kernel) rfl j)))))))), (fun j hj => ((fup_other ehB33 254 j (Or.inl (by omega))).trans (((congrFun (congrFun ehB28 254) j).trans (fcpy_ne (by omega))).trans (((congrFun (congrFun ehB25 254) j).trans (fcpy_ne (by omega))).trans (((congrFun (congrFun ehB22 254) j).trans (fcpy_at hj)).trans (fFr_at (fFr_of hB19) 510 (by decide +kernel) rfl j)))))), (fun j hj => ((fup_other ehB33 255 j (Or.inl (by omega))).trans (((congrFun (congrFun ehB28 255) j).trans (fcpy_ne (by omega))).trans (((congrFun (congrFun ehB25 255) j).trans (fcpy_at hj)).trans (fFr_at (fFr_of hB22) 511 (by decide +kernel) rfl j))))), (fun j hj => ((fup_other ehB33 256 j (Or.inl (by omega))).trans (((congrFun (congrFun ehB28 256) j).trans (fcpy_at hj)).trans (fFr_at (fFr_of hB25) 512 (by decide +kernel) rfl j))))⟩
set_option maxRecDepth 8000 in
theorem ct_X_back_43189 {I : fH}  (h0 : fB bsJ I) (hp0 : I 0 6 = 1 → (cLw 256 I).vote < 12) : fC ρ base n F xTc vwCl xTys D dA la gJ (fbz bsJ znJ (fKc wz_0c714) I) xm_232 [.inr (.inr (some 0))] I (fun I' r => ∃ z, r = some (.inl z) ∧ (((-2147483648) ≤ z ∧ z ≤ 2147483647) ∧ ((((I 0 6 = 1 → I' 1 9 = I 257 9 ∧ I' 2 5 = I 258 5 ∧ I' 2 10 = I 258 10 ∧ I' 211 8 = I 467 8 ∧ I' 211 11 = I 467 11 ∧ I' 211 15 = I 467 15 ∧ z = I 257 9) ∧ (I 0 6 ≠ 1 → I' 1 9 = I 1 9 ∧ I' 2 5 = I 2 5 ∧ I' 2 10 = I 2 10 ∧ I' 211 8 = I 211 8 ∧ I' 211 11 = I 211 11 ∧ I' 211 15 = I 211 15 ∧ z = (-1000000002))) ∧ (I 0 6 = 1 → I' 163 13 = I 419 13) ∧ (I 0 6 ≠ 1 → I' 163 13 = I 163 13)) ∧ (I 0 6 = 1 → I' 187 6 = I 443 6) ∧ (I 0 6 ≠ 1 → I' 187 6 = I 187 6))) ∧ (I 0 6 ≠ 1 → I' = I) ∧ (I 0 6 = 1 → ∀ j : Nat, j < 24 → I' 164 j = I 420 j) ∧ (I 0 6 = 1 → ∀ i j : Nat, i < 3 → j < 61 → I' (184 + i) j = I (440 + i) j) ∧ (I 0 6 = 1 → ∀ i j : Nat, i < 8 → j < 12 → I' (213 + i) j = I (469 + i) j) ∧ (I 0 6 = 1 → ∀ j : Nat, j < 8 → I' 221 j = I 477 j) ∧ (I 0 6 = 1 → ∀ j : Nat, j < 48 → I' 222 j = I 478 j) ∧ (I 0 6 = 1 → ∀ j : Nat, j < 4 → I' 223 j = I 479 j) ∧ (I 0 6 = 1 → ∀ i j : Nat, i < 24 → j < 4 → I' (225 + i) j = I (481 + i) j) ∧ (I 0 6 = 1 → ∀ j : Nat, j < 6 → I' 249 j = I 505 j) ∧ (I 0 6 = 1 → ∀ j : Nat, j < 6 → I' 250 j = I 506 j) ∧ (I 0 6 = 1 → ∀ j : Nat, j < 6 → I' 251 j = I 507 j) ∧ (I 0 6 = 1 → ∀ j : Nat, j < 10 → I' 252 j = I 508 j) ∧ (I 0 6 = 1 → ∀ j : Nat, j < 10 → I' 253 j = I 509 j) ∧ (I 0 6 = 1 → ∀ j : Nat, j < 7 → I' 254 j = I 510 j) ∧ (I 0 6 = 1 → ∀ j : Nat, j < 7 → I' 255 j = I 511 j) ∧ (I 0 6 = 1 → ∀ j : Nat, j < 7 → I' 256 j = I 512 j) ∧ (I 0 6 = 1 → cR 0 I' = cR 256 I) ∧ (cR 256 I' = cR 256 I) ∧ (I 0 6 = 1 → cLw 0 I' = cLw 256 I) ∧ (cLw 256 I' = cLw 256 I)) := by
  have hW : fzs wz_0c714 (fKc wz_0c714) := fKc_ok _
  refine f_meth (rb := rbJ) (J := []) 1 400 xG xin_232 x6_232 okJ (fB_self h0) ?_ ?_
  · exact fun q h => absurd h List.not_mem_nil
  · have hB0 := fB_self (zn := znJ) (K := fKc wz_0c714) h0
    refine And.intro ⟨rfl, by decide, by decide⟩ (fgetf fb_0_6 h0 hB0 ?_)
    intro z1 lz1 uz1 qz1
    refine And.intro (by first | exact fi_ lz1 uz1 rfl | omega) (And.intro ?_ ?_)
    · intro c2
      refine And.intro ⟨rfl, by decide, by decide⟩ ?_
      refine And.intro ⟨rfl, by decide, by decide⟩ ?_
      refine Exists.intro xm_223 (And.intro mi_223 (And.intro ⟨rfl, rfl, rfl, rfl⟩ (And.intro rfl ?_)))
      refine fcall _ h0 (fzs_sub (by decide +kernel) hW) hB0 (ct_City_becomeAs_a5ef7 (fBz h0 hB0)) ?_
      rintro IhB4 _ hB4 fhB4 ⟨rfl, hz3, g0z3, g1z3, g2z3⟩
      have t5 := fhB4 0 6 (by decide +kernel)
      have t6 := fhB4 187 6 (by decide +kernel)
      have t7 := fhB4 211 8 (by decide +kernel)
      have t8 := fhB4 211 11 (by decide +kernel)
      have t9 := fhB4 211 15 (by decide +kernel)
      have k10 := fBz_eq hB4 (a := 257) (j := 9) (by decide +kernel)
      have k11 := fBz_eq hB4 (a := 258) (j := 5) (by decide +kernel)
      have k12 := fBz_eq hB4 (a := 258) (j := 10) (by decide +kernel)
      have k13 := fBz_eq hB4 (a := 467) (j := 8) (by decide +kernel)
      have k14 := fBz_eq hB4 (a := 467) (j := 11) (by decide +kernel)
      have k15 := fBz_eq hB4 (a := 467) (j := 15) (by decide +kernel)
      have k16 := fBz_eq hB4 (a := 0) (j := 6) (by decide +kernel)
      have k17 := fBz_eq hB4 (a := 419) (j := 13) (by decide +kernel)
      have k18 := fBz_eq hB4 (a := 443) (j := 6) (by decide +kernel)
      refine And.intro ⟨rfl, by decide, by decide⟩ ?_
      refine And.intro ⟨rfl, by decide, by decide⟩ ?_
      refine Exists.intro xm_230 (And.intro mi_230 (And.intro ⟨rfl, rfl, rfl, rfl⟩ (And.intro rfl ?_)))
      refine fcall _ h0 (fzs_sub (by decide +kernel) hW) hB4 (ct_Charter_becomeAs_58e13 (fBz h0 hB4) (by rw [(cLw_fr lZ256_ok fhB4 (by decide +kernel))]; exact hp0 (by omega))) ?_
      rintro IhB20 _ hB20 fhB20 ⟨rfl, hz19, g0z19⟩
      have t21 := fhB20 0 6 (by decide +kernel)
      have t22 := fhB20 1 9 (by decide +kernel)
      have t23 := fhB20 2 5 (by decide +kernel)
      have t24 := fhB20 2 10 (by decide +kernel)
      have t25 := fhB20 163 13 (by decide +kernel)
      have t26 := fhB20 211 8 (by decide +kernel)
      have t27 := fhB20 211 11 (by decide +kernel)
      have t28 := fhB20 211 15 (by decide +kernel)
      have k29 := fBz_eq hB20 (a := 257) (j := 9) (by decide +kernel)
      have k30 := fBz_eq hB20 (a := 258) (j := 5) (by decide +kernel)
      have k31 := fBz_eq hB20 (a := 258) (j := 10) (by decide +kernel)
      have k32 := fBz_eq hB20 (a := 467) (j := 8) (by decide +kernel)
      have k33 := fBz_eq hB20 (a := 467) (j := 11) (by decide +kernel)
      have k34 := fBz_eq hB20 (a := 467) (j := 15) (by decide +kernel)
      have k35 := fBz_eq hB20 (a := 0) (j := 6) (by decide +kernel)
      have k36 := fBz_eq hB20 (a := 419) (j := 13) (by decide +kernel)
      have k37 := fBz_eq hB20 (a := 443) (j := 6) (by decide +kernel)
      refine And.intro ⟨rfl, by decide, by decide⟩ ?_
      refine And.intro ⟨rfl, by decide, by decide⟩ ?_
      refine Exists.intro xm_231 (And.intro mi_231 (And.intro ⟨rfl, rfl, rfl, rfl⟩ (And.intro rfl ?_)))
      refine fcall _ h0 (fzs_sub (by decide +kernel) hW) hB20 (ct_Desk_becomeAs_db7c8 (fBz h0 hB20)) ?_
      rintro IhB39 _ hB39 fhB39 ⟨rfl, hz38, g0z38, g1z38, g2z38, g3z38, g4z38, g5z38, g6z38, g7z38, g8z38, g9z38, g10z38, g11z38, g12z38⟩
      have t40 := fhB39 0 6 (by decide +kernel)
      have t41 := fhB39 1 9 (by decide +kernel)
      have t42 := fhB39 2 5 (by decide +kernel)
      have t43 := fhB39 2 10 (by decide +kernel)
      have t44 := fhB39 163 13 (by decide +kernel)
      have t45 := fhB39 187 6 (by decide +kernel)
      have k46 := fBz_eq hB39 (a := 257) (j := 9) (by decide +kernel)
      have k47 := fBz_eq hB39 (a := 258) (j := 5) (by decide +kernel)
      have k48 := fBz_eq hB39 (a := 258) (j := 10) (by decide +kernel)
      have k49 := fBz_eq hB39 (a := 467) (j := 8) (by decide +kernel)
      have k50 := fBz_eq hB39 (a := 467) (j := 11) (by decide +kernel)
      have k51 := fBz_eq hB39 (a := 467) (j := 15) (by decide +kernel)
      have k52 := fBz_eq hB39 (a := 0) (j := 6) (by decide +kernel)
      have k53 := fBz_eq hB39 (a := 419) (j := 13) (by decide +kernel)
      have k54 := fBz_eq hB39 (a := 443) (j := 6) (by decide +kernel)
      refine And.intro ⟨rfl, by decide, by decide⟩ ?_
      refine And.intro ⟨rfl, by decide, by decide⟩ (fgetf fb_1_9 h0 hB39 ?_)
      intro z55 lz55 uz55 qz55
      refine And.intro (True.intro) ?_
      exact ⟨_, rfl, by omega, (fun q => absurd q (by omega)), (fun _ => (fun j hj => ((fFr_at fhB39 164 (by decide +kernel) rfl j).trans ((fFr_at fhB20 164 (by decide +kernel) rfl j).trans (g0z3 j hj))))), (fun _ => (fun i j hi hj => ((fFr_rows fhB39 (r := 184) (m := 3) (len := 61) (by decide +kernel) i j hi hj).trans ((fFr_rows fhB20 (r := 184) (m := 3) (len := 61) (by decide +kernel) i j hi hj).trans (g1z3 i j hi hj))))), (fun _ => (fun i j hi hj => ((g0z38 i j hi hj).trans (fFr_rows (fFr_of hB20) (r := 469) (m := 8) (len := 12) (by decide +kernel) i j hi hj)))), (fun _ => (fun j hj => ((g1z38 j hj).trans (fFr_at (fFr_of hB20) 477 (by decide +kernel) rfl j)))), (fun _ => (fun j hj => ((g2z38 j hj).trans (fFr_at (fFr_of hB20) 478 (by decide +kernel) rfl j)))), (fun _ => (fun j hj => ((g3z38 j hj).trans (fFr_at (fFr_of hB20) 479 (by decide +kernel) rfl j)))), (fun _ => (fun i j hi hj => ((g4z38 i j hi hj).trans (fFr_rows (fFr_of hB20) (r := 481) (m := 24) (len := 4) (by decide +kernel) i j hi hj)))), (fun _ => (fun j hj => ((g5z38 j hj).trans (fFr_at (fFr_of hB20) 505 (by decide +kernel) rfl j)))), (fun _ => (fun j hj => ((g6z38 j hj).trans (fFr_at (fFr_of hB20) 506 (by decide +kernel) rfl j)))), (fun _ => (fun j hj => ((g7z38 j hj).trans (fFr_at (fFr_of hB20) 507 (by decide +kernel) rfl j)))), (fun _ => (fun j hj => ((g8z38 j hj).trans (fFr_at (fFr_of hB20) 508 (by decide +kernel) rfl j)))), (fun _ => (fun j hj => ((g9z38 j hj).trans (fFr_at (fFr_of hB20) 509 (by decide +kernel) rfl j)))), (fun _ => (fun j hj => ((g10z38 j hj).trans (fFr_at (fFr_of hB20) 510 (by decide +kernel) rfl j)))), (fun _ => (fun j hj => ((g11z38 j hj).trans (fFr_at (fFr_of hB20) 511 (by decide +kernel) rfl j)))), (fun _ => (fun j hj => ((g12z38 j hj).trans (fFr_at (fFr_of hB20) 512 (by decide +kernel) rfl j)))), (fun _ => (cR_fr cZ0_ok fhB39 (by decide +kernel)).trans ((cR_fr cZ0_ok fhB20 (by decide +kernel)).trans g2z3)), ((cR_fr cZ256_ok fhB39 (by decide +kernel)).trans ((cR_fr cZ256_ok fhB20 (by decide +kernel)).trans (cR_fr cZ256_ok fhB4 (by decide +kernel)))), (fun _ => (cLw_fr lZ0_ok fhB39 (by decide +kernel)).trans (g0z19.trans (cLw_fr lZ256_ok fhB4 (by decide +kernel)))), ((cLw_fr lZ256_ok fhB39 (by decide +kernel)).trans ((cLw_fr lZ256_ok fhB20 (by decide +kernel)).trans (cLw_fr lZ256_ok fhB4 (by decide +kernel))))⟩
    · intro c56
      refine And.intro (True.intro) ?_
      exact ⟨_, rfl, by omega, (fun _ => rfl), (fun q => absurd q (by omega)), (fun q => absurd q (by omega)), (fun q => absurd q (by omega)), (fun q => absurd q (by omega)), (fun q => absurd q (by omega)), (fun q => absurd q (by omega)), (fun q => absurd q (by omega)), (fun q => absurd q (by omega)), (fun q => absurd q (by omega)), (fun q => absurd q (by omega)), (fun q => absurd q (by omega)), (fun q => absurd q (by omega)), (fun q => absurd q (by omega)), (fun q => absurd q (by omega)), (fun q => absurd q (by omega)), (fun q => absurd q (by omega)), rfl, (fun q => absurd q (by omega)), rfl⟩
abbrev jc_M_back_d558f_12 (I0 : fH) : Nat → fL → List fV → fH → Prop := fun m lv st I => ∃ (y1 : Int), lv = [(0, .inr (.inr (some 740))), (1, .inl y1)] ∧ st = [] ∧ (((0 ≤ y1 ∧ y1 ≤ 4900) ∧ (1 ≤ I 740 3 ∧ I 740 3 ≤ 1) ∧ (I0 740 3 = 1)) ∧ (∀ j : Nat, (j : Int) < y1 → I 741 j = I0 742 j)) ∧ m = (1 + 1 * (4900 - y1) : Int).toNat
set_option maxRecDepth 8000 in
theorem ct_M_back_d558f {I : fH}  (h0 : fB bsJ I) (hp0 : I 740 3 = 1 → 2 ≤ I 742 3) : fC ρ base n F xTc vwCl xTys D dA la gJ (fbz bsJ znJ (fKc wz_6f285) I) xm_496 [.inr (.inr (some 740))] I (fun I' r => ∃ z, r = some (.inl z) ∧ (((0 ≤ z ∧ z ≤ 22000) ∨ z = (-1000000002)) ∧ ((I 740 3 = 1 → z = I 742 0) ∧ (I 740 3 ≠ 1 → z = (-1000000002)))) ∧ ((I 740 3 = 1 → ∀ j : Nat, j < 4900 → I' 741 j = I 742 j) ∧ (I 740 3 ≠ 1 → ∀ j, I' 741 j = I 741 j))) := by
  have hW : fzs wz_6f285 (fKc wz_6f285) := fKc_ok _
  refine f_meth (rb := rbJ) (J := [(12, (jc_M_back_d558f_12 I))]) 4902 400 xG xin_496 x6_496 okJ (fB_self h0) ?_ ?_
  · refine List.forall_mem_cons.mpr ⟨?_, fun q h => absurd h List.not_mem_nil⟩
    · rintro m _ _ I1 hB1 ⟨y1, rfl, rfl, ⟨hb, hx0⟩, hm⟩
      have k1 := fBz_eq hB1 (a := 740) (j := 3) (by decide +kernel)
      have k2 := fBz_eq hB1 (a := 742) (j := 3) (by decide +kernel)
      have k3 := fBz_eq hB1 (a := 742) (j := 0) (by decide +kernel)
      refine And.intro (And.intro (by first | exact fi_ hb.1.1 hb.1.2 rfl | omega) (by first | exact ⟨by decide, by decide⟩ | omega)) (And.intro ?_ ?_)
      · intro c4
        refine And.intro ⟨rfl, by decide, by decide⟩ ?_
        refine fload1 rL_741_741_0_0_1_0 h0 hB1 ⟨by decide, by decide⟩ (by first | exact ⟨by decide, by decide⟩ | omega) ?_
        intro z5 lz5 uz5 qz5
        have pz5 := fld_at qz5 0 (by omega)
        refine And.intro (True.intro) ?_
        have w0 := hx0 0 (by omega)
        exact ⟨_, rfl, by omega, ⟨fun _ j h => hx0 j (by omega), fun q => absurd q (by omega)⟩⟩
      · intro c6
        refine And.intro ⟨rfl, by decide, by decide⟩ ?_
        refine And.intro ⟨rfl, by decide, by decide⟩ ?_
        refine fload1 rL_742_742_0_4899_1_0 h0 hB1 ⟨by decide, by decide⟩ (by first | exact ⟨hb.1.1, Int.le_trans (Int.le_sub_one_of_lt (Int.lt_of_lt_of_le c6 (Int.le_refl _))) (by decide)⟩ | omega) ?_
        intro z7 lz7 uz7 qz7
        refine fstoreX (fzs_sub (by decide +kernel) hW) (img_bk (fBz h0 hB1) qz7 (by omega) (by omega)) ?_
        intro IhB8 ehB8 hB8
        have t9 := fup_self ehB8
        have t10 : IhB8 740 3 = I1 740 3 := (congrFun (congrFun ehB8 740) 3).trans (fup_ne (by first | exact Or.inl (by decide) | omega))
        have k11 := fBz_eq hB8 (a := 740) (j := 3) (by decide +kernel)
        have k12 := fBz_eq hB8 (a := 742) (j := 3) (by decide +kernel)
        have k13 := fBz_eq hB8 (a := 742) (j := 0) (by decide +kernel)
        exact fcutJ (I := IhB8) (j := (jc_M_back_d558f_12 I)) (lv' := [(0, .inr (.inr (some 740))), (1, .inl _)]) (And.intro rfl (And.intro rfl True.intro)) ⟨_, rfl, rfl, ⟨by omega, (fun j h => if ej : j = y1.toNat then (by rw [ej]; exact (fup_self ehB8).trans (qz7.trans (sM_keep hB1 (by decide +kernel) _))) else (fup_other ehB8 741 j (Or.inr ej)).trans (hx0 j (by omega)))⟩, rfl⟩ (by omega)
  · have hB0 := fB_self (zn := znJ) (K := fKc wz_6f285) h0
    refine And.intro ⟨rfl, by decide, by decide⟩ (fgetf fb_740_3 h0 hB0 ?_)
    intro z14 lz14 uz14 qz14
    refine And.intro (by first | exact fi_ lz14 uz14 rfl | omega) (And.intro ?_ ?_)
    · intro c15
      exact fcutJ (I := I) (j := (jc_M_back_d558f_12 I)) (lv' := [(0, .inr (.inr (some 740))), (1, .inl _)]) (And.intro rfl (And.intro rfl True.intro)) ⟨_, rfl, rfl, ⟨by omega, (fun j h => absurd h (by omega))⟩, rfl⟩ (by omega)
    · intro c16
      refine And.intro (True.intro) ?_
      exact ⟨_, rfl, by omega, ⟨fun q => absurd q (by omega), fun _ _ => rfl⟩⟩
abbrev jc_Works_goneOnes_af75c_4 (I0 : fH) : Nat → fL → List fV → fH → Prop := fun m lv st I => ∃ (y1 : Int) (y2 : Int), lv = [(0, .inr (.inr (some 163))), (1, .inl y1), (2, .inl y2)] ∧ st = [] ∧ (((0 ≤ y1 ∧ y1 ≤ 24) ∧ (0 ≤ y2 ∧ y2 ≤ 24) ∧ (0 ≤ y1) ∧ (y1 ≤ y2) ∧ (y2 ≤ I0 163 13)) ∧ (y1 = sm (sGn (cR 0 I0)) y2.toNat)) ∧ m = (1 + 1 * (24 - y2) : Int).toNat
set_option maxRecDepth 8000 in
theorem ct_Works_goneOnes_af75c {I : fH}  (h0 : fB bsJ I)  : fC ρ base n F xTc vwCl xTys D dA la gJ (fbz bsJ znJ (fKc []) I) xm_234 [.inr (.inr (some 163))] I (fun _ r => ∃ z, r = some (.inl z) ∧ (0 ≤ z ∧ z ≤ 24) ∧ (z = sm (sGn (cR 0 I)) (gt (cR 0 I) 7).toNat)) := by
  have hW : fzs [] (fKc []) := fKc_ok _
  refine f_meth (rb := rbJ) (J := [(4, (jc_Works_goneOnes_af75c_4 I))]) 26 400 xG xin_234 x6_234 okJ (fB_self h0) ?_ ?_
  · refine List.forall_mem_cons.mpr ⟨?_, fun q h => absurd h List.not_mem_nil⟩
    · rintro m _ _ I1 hB1 ⟨y1, y2, rfl, rfl, ⟨hb, hx0⟩, hm⟩
      have eJ : I1 = I := fFr_nil (fFr_of hB1)
      have k1 := fBz_eq hB1 (a := 163) (j := 13) (by decide +kernel)
      have b2 := fBd fb_163_13 (fBz h0 hB1)
      have w7 := (cL_f (d := 0) (a := 163) (j := 13) (r := 7) (p := 7) (I := I) (z := I 163 13) (by decide +kernel) (by decide) rfl rfl)
      refine And.intro ⟨rfl, by decide, by decide⟩ (fgetf fb_163_13 h0 hB1 ?_)
      intro z3 lz3 uz3 qz3
      have v6 := cL_f (d := 0) (a := 163) (j := 13) (r := 7) (p := 7) (by decide +kernel) (by decide) qz3 rfl
      rw [eJ] at v6
      refine And.intro (And.intro (by first | exact fi_ hb.2.1.1 hb.2.1.2 rfl | omega) (by first | exact fi_ lz3 uz3 rfl | omega)) (And.intro ?_ ?_)
      · intro c4
        refine And.intro (True.intro) ?_
        exact ⟨_, rfl, (by first | exact ⟨hb.1.1, hb.1.2⟩ | omega), (sm_fin hx0 (by omega))⟩
      · intro c5
        refine And.intro ⟨rfl, by decide, by decide⟩ ?_
        refine fload1 rL_174_174_0_23_1_0 h0 hB1 ⟨by decide, by decide⟩ (by first | exact ⟨hb.2.1.1, Int.le_trans (Int.le_sub_one_of_lt (Int.lt_of_lt_of_le c5 uz3)) (by decide)⟩ | omega) ?_
        intro z6 lz6 uz6 qz6
        have v18 := cL_a (d := 0) (a := 174) (n := 24) (b := 538) (m := 14) (by decide +kernel) (by decide) qz6 (by omega) rfl
        rw [eJ] at v18
        intro z7 hz7 ez7 bz7
        clear ez7
        have bz7 := bz7 (by omega)
        exact fcutJ (I := I1) (j := (jc_Works_goneOnes_af75c_4 I)) (lv' := [(0, .inr (.inr (some 163))), (1, .inl _), (2, .inl _)]) (And.intro rfl (And.intro rfl (And.intro rfl True.intro))) ⟨_, _, rfl, rfl, ⟨by omega, (sm_at (v := z6) hx0 (by omega) (by omega) (sGn_v v18 (by omega) (by omega) (by omega)) (by omega))⟩, rfl⟩ (by omega)
  · have hB0 := fB_self (zn := znJ) (K := fKc []) h0
    have b8 := fBd fb_163_13 (fBz h0 hB0)
    exact fcutJ (I := I) (j := (jc_Works_goneOnes_af75c_4 I)) (lv' := [(0, .inr (.inr (some 163))), (1, .inl _), (2, .inl _)]) (And.intro rfl (And.intro rfl (And.intro rfl True.intro))) ⟨_, _, rfl, rfl, ⟨by omega, rfl⟩, rfl⟩ (by omega)
abbrev jc_Charter_inForceAt_64286_4 (x1 : Int) (I0 : fH) : Nat → fL → List fV → fH → Prop := fun m lv st I => ∃ (y1 : Int) (y2 : Int) (y3 : Int), lv = [(0, .inr (.inr (some 187))), (1, .inl y1), (2, .inl y2), (3, .inl y3)] ∧ st = [] ∧ ((((-2147483648) ≤ y1 ∧ y1 ≤ 2147483647) ∧ (0 ≤ y2 ∧ y2 ≤ 12) ∧ (0 ≤ y3 ∧ y3 ≤ 12) ∧ (y1 = x1) ∧ (y2 ≤ y3) ∧ (0 ≤ y2) ∧ (y3 ≤ I0 187 6)) ∧ (y2 = sm (sIf (cLw 0 I0) x1) y3.toNat)) ∧ m = (1 + 1 * (12 - y3) : Int).toNat
set_option maxRecDepth 8000 in
theorem ct_Charter_inForceAt_64286 {I : fH} {x1 : Int} (h0 : fB bsJ I) (ha1 : ((-2147483648) ≤ x1 ∧ x1 ≤ 2147483647)) (hp0 : okL (cLw 0 I)) : fC ρ base n F xTc vwCl xTys D dA la gJ (fbz bsJ znJ (fKc []) I) xm_235 [.inr (.inr (some 187)), .inl x1] I (fun _ r => ∃ z, r = some (.inl z) ∧ (0 ≤ z ∧ z ≤ 12) ∧ (z = sm (sIf (cLw 0 I) x1) (cLw 0 I).n.toNat)) := by
  have hW : fzs [] (fKc []) := fKc_ok _
  refine f_meth (rb := rbJ) (J := [(4, (jc_Charter_inForceAt_64286_4 x1 I))]) 14 400 xG xin_235 x6_235 okJ (fB_self h0) ?_ ?_
  · refine List.forall_mem_cons.mpr ⟨?_, fun q h => absurd h List.not_mem_nil⟩
    · rintro m _ _ I1 hB1 ⟨y1, y2, y3, rfl, rfl, ⟨hb, hx0⟩, hm⟩
      have k1 := fBz_eq hB1 (a := 187) (j := 6) (by decide +kernel)
      have b2 := fBd fb_187_6 (fBz h0 hB1)
      have eL : cLw 0 I1 = cLw 0 I := (cLw_fr lZ0_ok (fFr_of hB1) (by decide +kernel))
      have e1 : y1 = x1 := by omega
      refine And.intro ⟨rfl, by decide, by decide⟩ (fgetf fb_187_6 h0 hB1 ?_)
      intro z3 lz3 uz3 qz3
      refine And.intro (And.intro (by first | exact fi_ hb.2.2.1.1 hb.2.2.1.2 rfl | omega) (by first | exact fi_ lz3 uz3 rfl | omega)) (And.intro ?_ ?_)
      · intro c4
        refine And.intro (True.intro) ?_
        exact ⟨_, rfl, (by first | exact ⟨hb.2.1.1, hb.2.1.2⟩ | omega), (sm_fin hx0 (by show y3 = I 187 6; omega))⟩
      · intro c5
        refine Exists.intro xm_35 (And.intro mi_35 (And.intro ⟨rfl, rfl, rfl, rfl⟩ (And.intro rfl ?_)))
        refine fcallp hB1 (ct_Charter_isInForce_ea4ee (fBz h0 hB1) (by first | exact ⟨hb.2.2.1.1, Int.le_trans (Int.le_sub_one_of_lt (Int.lt_of_lt_of_le c5 uz3)) (by decide)⟩ | omega) (by first | exact ⟨hb.1.1, hb.1.2⟩ | omega) (by rw [eL]; exact hp0) (by show y3 < I1 187 6; omega)) ?_
        rintro _ ⟨z6, rfl, hz6, g0z6⟩
        rw [eL, e1] at g0z6
        refine And.intro (by omega) (And.intro ?_ ?_)
        · intro c7
          exact fcutJ (I := I1) (j := (jc_Charter_inForceAt_64286_4 x1 I)) (lv' := [(0, .inr (.inr (some 187))), (1, .inl _), (2, .inl _), (3, .inl _)]) (And.intro rfl (And.intro rfl (And.intro rfl (And.intro rfl True.intro)))) ⟨_, _, _, rfl, rfl, ⟨by omega, (sm_at (v := 0) hx0 (by omega) (by omega) (sIf_0 (g0z6.elim (fun q => absurd q.1 (by omega)) (fun q => q.2)) rfl) (by omega))⟩, rfl⟩ (by omega)
        · intro c8
          intro z9 hz9 bz9
          have bz9 := bz9 (by omega)
          exact fcutJ (I := I1) (j := (jc_Charter_inForceAt_64286_4 x1 I)) (lv' := [(0, .inr (.inr (some 187))), (1, .inl _), (2, .inl _), (3, .inl _)]) (And.intro rfl (And.intro rfl (And.intro rfl (And.intro rfl True.intro)))) ⟨_, _, _, rfl, rfl, ⟨by omega, (sm_at (v := 1) hx0 (by omega) (by omega) (sIf_1 (g0z6.elim (fun q => q.2) (fun q => absurd q.1 (by omega))) rfl) (by omega))⟩, rfl⟩ (by omega)
  · have hB0 := fB_self (zn := znJ) (K := fKc []) h0
    have b10 := fBd fb_187_6 (fBz h0 hB0)
    exact fcutJ (I := I) (j := (jc_Charter_inForceAt_64286_4 x1 I)) (lv' := [(0, .inr (.inr (some 187))), (1, .inl _), (2, .inl _), (3, .inl _)]) (And.intro rfl (And.intro rfl (And.intro rfl (And.intro rfl True.intro)))) ⟨_, _, _, rfl, rfl, ⟨by omega, rfl⟩, rfl⟩ (by omega)
set_option maxRecDepth 8000 in
theorem ct_X_count_87bea {I : fH} {x1 : Int} (h0 : fB bsJ I) (ha1 : ((-2147483648) ≤ x1 ∧ x1 ≤ 2147483647)) (hp0 : okL (cLw 0 I)) (hp1 : -1 ≤ (cLw 0 I).vote) : fC ρ base n F xTc vwCl xTys D dA la gJ (fbz bsJ znJ (fKc []) I) xm_233 [.inr (.inr (some 0)), .inl x1] I (fun _ r => ∃ z, r = some (.inl z) ∧ (((-24) ≤ z ∧ z ≤ 96) ∨ z = (-1000000001)) ∧ (qnR (cR 0 I) (cLw 0 I) x1 z) ∧ ((x1 = 8 → z = I 211 8) ∧ (x1 = 9 → z = I 211 11) ∧ (x1 = 10 → z = I 211 15) ∧ (x1 = 12 → z = I 0 14) ∧ (x1 = 13 → z = I 699 1) ∧ (¬ (0 ≤ x1 ∧ x1 ≤ 14) → z = (-1000000001)))) := by
  have hW : fzs [] (fKc []) := fKc_ok _
  refine f_meth (rb := rbJ) (J := []) 1 400 xG xin_233 x6_233 okJ (fB_self h0) ?_ ?_
  · exact fun q h => absurd h List.not_mem_nil
  · have hB0 := fB_self (zn := znJ) (K := fKc []) h0
    have w905 : I 2 5 = gt (cR 0 I) 5 := (cL_f (d := 0) (a := 2) (j := 5) (r := 5) (p := 5) (I := I) (z := I 2 5) (by decide +kernel) (by decide) rfl rfl)
    have w906 : I 2 10 = gt (cR 0 I) 6 := (cL_f (d := 0) (a := 2) (j := 10) (r := 6) (p := 6) (I := I) (z := I 2 10) (by decide +kernel) (by decide) rfl rfl)
    have w907 : I 163 13 = gt (cR 0 I) 7 := (cL_f (d := 0) (a := 163) (j := 13) (r := 7) (p := 7) (I := I) (z := I 163 13) (by decide +kernel) (by decide) rfl rfl)
    have w908 : I 177 4 = gt (cR 0 I) 8 := (cL_f (d := 0) (a := 177) (j := 4) (r := 8) (p := 8) (I := I) (z := I 177 4) (by decide +kernel) (by decide) rfl rfl)
    have w913 : I 2 12 = gt (cR 0 I) 13 := (cL_f (d := 0) (a := 2) (j := 12) (r := 13) (p := 13) (I := I) (z := I 2 12) (by decide +kernel) (by decide) rfl rfl)
    refine And.intro (by first | exact fi_ ha1.1 ha1.2 rfl | omega) (And.intro ?_ ?_)
    · refine And.intro (fun ex => ?_) (And.intro (fun ex => ?_) (And.intro (fun ex => ?_) (And.intro (fun ex => ?_) (And.intro (fun ex => ?_) (And.intro (fun ex => ?_) (And.intro (fun ex => ?_) (And.intro (fun ex => ?_) (And.intro (fun ex => ?_) (And.intro (fun ex => ?_) (And.intro (fun ex => ?_) (And.intro (fun ex => ?_) (And.intro (fun ex => ?_) (And.intro (fun ex => ?_) (And.intro (fun ex => ?_) (True.intro)))))))))))))))
      · skip
        refine And.intro ⟨rfl, by decide, by decide⟩ ?_
        refine And.intro ⟨rfl, by decide, by decide⟩ ?_
        refine And.intro ⟨rfl, by decide, by decide⟩ (fgetf fb_2_5 h0 hB0 ?_)
        intro z1 lz1 uz1 qz1
        have v83 := cL_f (d := 0) (a := 2) (j := 5) (r := 5) (p := 5) (by decide +kernel) (by decide) qz1 rfl
        refine And.intro (True.intro) ?_
        exact ⟨_, rfl, by omega, (qnR_k (K := 0) (by omega) (by show _ = gt (cR 0 I) 5; omega)), ⟨by intro q; omega, by intro q; omega, by intro q; omega, by intro q; omega, by intro q; omega, by intro q; omega⟩⟩
      · skip
        refine And.intro ⟨rfl, by decide, by decide⟩ ?_
        refine And.intro ⟨rfl, by decide, by decide⟩ ?_
        refine And.intro ⟨rfl, by decide, by decide⟩ (fgetf fb_2_10 h0 hB0 ?_)
        intro z2 lz2 uz2 qz2
        have v94 := cL_f (d := 0) (a := 2) (j := 10) (r := 6) (p := 6) (by decide +kernel) (by decide) qz2 rfl
        refine And.intro (True.intro) ?_
        exact ⟨_, rfl, by omega, (qnR_k (K := 1) (by omega) (by show _ = gt (cR 0 I) 6; omega)), ⟨by intro q; omega, by intro q; omega, by intro q; omega, by intro q; omega, by intro q; omega, by intro q; omega⟩⟩
      · skip
        refine And.intro ⟨rfl, by decide, by decide⟩ ?_
        refine And.intro ⟨rfl, by decide, by decide⟩ ?_
        refine And.intro ⟨rfl, by decide, by decide⟩ (fgetf fb_163_13 h0 hB0 ?_)
        intro z3 lz3 uz3 qz3
        have v105 := cL_f (d := 0) (a := 163) (j := 13) (r := 7) (p := 7) (by decide +kernel) (by decide) qz3 rfl
        refine And.intro (True.intro) ?_
        exact ⟨_, rfl, by omega, (qnR_k (K := 2) (by omega) (by show _ = gt (cR 0 I) 7; omega)), ⟨by intro q; omega, by intro q; omega, by intro q; omega, by intro q; omega, by intro q; omega, by intro q; omega⟩⟩
      · skip
        refine And.intro ⟨rfl, by decide, by decide⟩ ?_
        refine And.intro ⟨rfl, by decide, by decide⟩ ?_
        refine Exists.intro xm_234 (And.intro mi_234 (And.intro ⟨rfl, rfl, rfl, rfl⟩ (And.intro rfl ?_)))
        refine fcallp hB0 (ct_Works_goneOnes_af75c (fBz h0 hB0)) ?_
        rintro _ ⟨z4, rfl, hz4, g0z4⟩
        refine And.intro (True.intro) ?_
        exact ⟨_, rfl, by omega, (qnR_k (K := 3) (by omega) g0z4), ⟨by intro q; omega, by intro q; omega, by intro q; omega, by intro q; omega, by intro q; omega, by intro q; omega⟩⟩
      · skip
        refine And.intro ⟨rfl, by decide, by decide⟩ ?_
        refine And.intro ⟨rfl, by decide, by decide⟩ ?_
        refine And.intro ⟨rfl, by decide, by decide⟩ (fgetf fb_177_4 h0 hB0 ?_)
        intro z5 lz5 uz5 qz5
        have v127 := cL_f (d := 0) (a := 177) (j := 4) (r := 8) (p := 8) (by decide +kernel) (by decide) qz5 rfl
        refine And.intro (True.intro) ?_
        exact ⟨_, rfl, by omega, (qnR_k (K := 4) (by omega) (by show _ = gt (cR 0 I) 8; omega)), ⟨by intro q; omega, by intro q; omega, by intro q; omega, by intro q; omega, by intro q; omega, by intro q; omega⟩⟩
      · skip
        refine And.intro ⟨rfl, by decide, by decide⟩ ?_
        refine And.intro ⟨rfl, by decide, by decide⟩ ?_
        refine And.intro ⟨rfl, by decide, by decide⟩ (fgetf fb_177_4 h0 hB0 ?_)
        intro z6 lz6 uz6 qz6
        have v138 := cL_f (d := 0) (a := 177) (j := 4) (r := 8) (p := 8) (by decide +kernel) (by decide) qz6 rfl
        refine And.intro ⟨rfl, by decide, by decide⟩ ?_
        refine And.intro ⟨rfl, by decide, by decide⟩ ?_
        refine Exists.intro xm_67 (And.intro mi_67 (And.intro ⟨rfl, rfl, rfl, rfl⟩ (And.intro rfl ?_)))
        refine fcallp hB0 (ct_People_living_beea0 (fBz h0 hB0)) ?_
        rintro _ ⟨z7, rfl, hz7, g0z7⟩
        intro z8 hz8 ez8 bz8
        clear ez8
        have bz8 := bz8 (by omega)
        refine And.intro (True.intro) ?_
        exact ⟨_, rfl, by omega, (qnR_k (K := 5) (by omega) (qn_5 (n := z6) g0z7 (by omega) (by omega) (by omega))), ⟨by intro q; omega, by intro q; omega, by intro q; omega, by intro q; omega, by intro q; omega, by intro q; omega⟩⟩
      · skip
        refine And.intro ⟨rfl, by decide, by decide⟩ ?_
        refine And.intro ⟨rfl, by decide, by decide⟩ (fgetf fb_187_6 h0 hB0 ?_)
        intro z9 lz9 uz9 qz9
        refine And.intro (True.intro) ?_
        exact ⟨_, rfl, by omega, (qnR_k (K := 6) (by omega) (by show _ = I 187 6; omega)), ⟨by intro q; omega, by intro q; omega, by intro q; omega, by intro q; omega, by intro q; omega, by intro q; omega⟩⟩
      · skip
        refine And.intro ⟨rfl, by decide, by decide⟩ ?_
        refine And.intro ⟨rfl, by decide, by decide⟩ ?_
        refine Exists.intro xm_32 (And.intro mi_32 (And.intro ⟨rfl, rfl, rfl, rfl⟩ (And.intro rfl ?_)))
        refine fcallp hB0 (ct_City_hour_b7a7b (fBz h0 hB0)) ?_
        rintro _ ⟨z10, rfl, hz10, g0z10⟩
        refine Exists.intro xm_235 (And.intro mi_235 (And.intro ⟨rfl, rfl, rfl, rfl⟩ (And.intro rfl ?_)))
        refine fcallp hB0 (ct_Charter_inForceAt_64286 (fBz h0 hB0) (by first | exact ⟨hz10.1, hz10.2⟩ | omega) hp0) ?_
        rintro _ ⟨z11, rfl, hz11, g0z11⟩
        refine And.intro (True.intro) ?_
        exact ⟨_, rfl, by omega, (qnR_k (K := 7) (by omega) (by have q := g0z11; rw [g0z10] at q; exact q)), ⟨by intro q; omega, by intro q; omega, by intro q; omega, by intro q; omega, by intro q; omega, by intro q; omega⟩⟩
      · skip
        refine And.intro ⟨rfl, by decide, by decide⟩ ?_
        refine And.intro ⟨rfl, by decide, by decide⟩ (fgetf fb_211_8 h0 hB0 ?_)
        intro z12 lz12 uz12 qz12
        refine And.intro (True.intro) ?_
        exact ⟨_, rfl, by omega, (qnR_k (K := 8) (by omega) True.intro), ⟨by intro q; omega, by intro q; omega, by intro q; omega, by intro q; omega, by intro q; omega, by intro q; omega⟩⟩
      · skip
        refine And.intro ⟨rfl, by decide, by decide⟩ ?_
        refine And.intro ⟨rfl, by decide, by decide⟩ (fgetf fb_211_11 h0 hB0 ?_)
        intro z13 lz13 uz13 qz13
        refine And.intro (True.intro) ?_
        exact ⟨_, rfl, by omega, (qnR_k (K := 9) (by omega) True.intro), ⟨by intro q; omega, by intro q; omega, by intro q; omega, by intro q; omega, by intro q; omega, by intro q; omega⟩⟩
      · skip
        refine And.intro ⟨rfl, by decide, by decide⟩ ?_
        refine And.intro ⟨rfl, by decide, by decide⟩ (fgetf fb_211_15 h0 hB0 ?_)
        intro z14 lz14 uz14 qz14
        refine And.intro (True.intro) ?_
        exact ⟨_, rfl, by omega, (qnR_k (K := 10) (by omega) True.intro), ⟨by intro q; omega, by intro q; omega, by intro q; omega, by intro q; omega, by intro q; omega, by intro q; omega⟩⟩
      · skip
        refine And.intro ⟨rfl, by decide, by decide⟩ ?_
        refine And.intro ⟨rfl, by decide, by decide⟩ ?_
        refine And.intro ⟨rfl, by decide, by decide⟩ (fgetf fb_2_12 h0 hB0 ?_)
        intro z15 lz15 uz15 qz15
        have v207 := cL_f (d := 0) (a := 2) (j := 12) (r := 13) (p := 13) (by decide +kernel) (by decide) qz15 rfl
        refine And.intro (True.intro) ?_
        exact ⟨_, rfl, by omega, (qnR_k (K := 11) (by omega) (by show _ = gt (cR 0 I) 13; omega)), ⟨by intro q; omega, by intro q; omega, by intro q; omega, by intro q; omega, by intro q; omega, by intro q; omega⟩⟩
      · skip
        refine And.intro ⟨rfl, by decide, by decide⟩ (fgetf fb_0_14 h0 hB0 ?_)
        intro z16 lz16 uz16 qz16
        refine And.intro (True.intro) ?_
        exact ⟨_, rfl, by omega, (qnR_k (K := 12) (by omega) True.intro), ⟨by intro q; omega, by intro q; omega, by intro q; omega, by intro q; omega, by intro q; omega, by intro q; omega⟩⟩
      · skip
        refine And.intro ⟨rfl, by decide, by decide⟩ ?_
        refine And.intro ⟨rfl, by decide, by decide⟩ (fgetf fb_699_1 h0 hB0 ?_)
        intro z17 lz17 uz17 qz17
        refine And.intro (True.intro) ?_
        exact ⟨_, rfl, by omega, (qnR_k (K := 13) (by omega) True.intro), ⟨by intro q; omega, by intro q; omega, by intro q; omega, by intro q; omega, by intro q; omega, by intro q; omega⟩⟩
      · skip
        refine And.intro ⟨rfl, by decide, by decide⟩ ?_
        refine And.intro ⟨rfl, by decide, by decide⟩ (fgetf fb_187_7 h0 hB0 ?_)
        intro z18 lz18 uz18 qz18
        refine And.intro (And.intro (by first | exact fi_ lz18 uz18 rfl | omega) (by first | exact ⟨by decide, by decide⟩ | omega)) (And.intro ?_ ?_)
        · intro c19
          refine And.intro (True.intro) ?_
          exact ⟨_, rfl, by omega, (qnR_k (K := 14) (by omega) (show _ = (if nv (I 187 7) < 0 then (0 : Int) else 1) from qn_14y (by omega) hp1)), ⟨by intro q; omega, by intro q; omega, by intro q; omega, by intro q; omega, by intro q; omega, by intro q; omega⟩⟩
        · intro c20
          refine And.intro (True.intro) ?_
          exact ⟨_, rfl, by omega, (qnR_k (K := 14) (by omega) (show _ = (if nv (I 187 7) < 0 then (0 : Int) else 1) from qn_14n (by omega))), ⟨by intro q; omega, by intro q; omega, by intro q; omega, by intro q; omega, by intro q; omega, by intro q; omega⟩⟩
    · intro c21
      simp only [List.length_cons, List.length_nil] at c21
      refine And.intro (True.intro) ?_
      exact ⟨_, rfl, by omega, (qnR_o (by omega)), ⟨by intro q; omega, by intro q; omega, by intro q; omega, by intro q; omega, by intro q; omega, by intro q; omega⟩⟩
end CT

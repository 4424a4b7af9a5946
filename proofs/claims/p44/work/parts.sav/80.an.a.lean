set_option linter.all false
/-! contracts (written by gen95.py) -/
theorem x6_220 : f60c xTc xTys xm_220 = true := by decide +kernel
theorem rL_738_738_0_59_1_0 : frL gJ bsJ 100 ((738, 738), (0, 59), (1, 0), ((-2147483648), 2147483647)) := frL_hull (by decide) (by decide +kernel)
theorem rL_739_739_0_59_1_0 : frL gJ bsJ 100 ((739, 739), (0, 59), (1, 0), ((-2147483648), 2147483647)) := frL_hull (by decide) (by decide +kernel)
abbrev wz_b577c : List Nat := [733, 734, 739]
theorem x6_219 : f60c xTc xTys xm_219 = true := by decide +kernel
theorem rS_739_739_0_59_1_0 : frS gJ bsJ znJ [739] 100 ((739, 739), (0, 59), (1, 0), ((-2147483648), 2147483647)) := frS_dflt (by decide) (by decide +kernel)
abbrev wz_324de : List Nat := [736, 737, 739, 12102, 12103, 12104]
theorem x6_221 : f60c xTc xTys xm_221 = true := by decide +kernel
abbrev wz_7eac0 : List Nat := [517, 538]
theorem rL_518_537_0_4_1_0 : frL gJ bsJ 100 ((518, 537), (0, 4), (1, 0), (0, 999999)) := frL_of (by decide +kernel)
theorem rS_518_537_0_4_1_0 : frS gJ bsJ znJ [517] 100 ((518, 537), (0, 4), (1, 0), (0, 999999)) := frS_of (by decide +kernel)
theorem rL_539_558_0_4_1_0 : frL gJ bsJ 100 ((539, 558), (0, 4), (1, 0), ((-2147483648), 2147483647)) := frL_hull (by decide) (by decide +kernel)
theorem rS_539_558_0_4_1_0 : frS gJ bsJ znJ [538] 100 ((539, 558), (0, 4), (1, 0), ((-2147483648), 2147483647)) := frS_dflt (by decide) (by decide +kernel)
theorem rL_515_515_0_19_1_0 : frL gJ bsJ 100 ((515, 515), (0, 19), (1, 0), (0, 999)) := frL_of (by decide +kernel)
theorem rL_582_582_0_23_1_0 : frL gJ bsJ 100 ((582, 582), (0, 23), (1, 0), (0, 9)) := frL_of (by decide +kernel)
theorem rL_580_580_0_23_1_0 : frL gJ bsJ 100 ((580, 580), (0, 23), (1, 0), (0, 19)) := frL_of (by decide +kernel)
theorem rL_581_581_0_23_1_0 : frL gJ bsJ 100 ((581, 581), (0, 23), (1, 0), (0, 19)) := frL_of (by decide +kernel)
theorem fb_514_10 : bsJ 514 10 = (0, 24) := by decide +kernel
theorem rL_583_583_0_23_1_0 : frL gJ bsJ 100 ((583, 583), (0, 23), (1, 0), (0, 1)) := frL_of (by decide +kernel)
theorem rL_693_693_0_23_1_0 : frL gJ bsJ 100 ((693, 693), (0, 23), (1, 0), (0, 100)) := frL_of (by decide +kernel)
theorem fb_514_5 : bsJ 514 5 = (0, 20) := by decide +kernel
theorem rL_516_516_0_19_1_0 : frL gJ bsJ 100 ((516, 516), (0, 19), (1, 0), (0, 99)) := frL_of (by decide +kernel)
abbrev wz_4c809 : List Nat := [680, 682]
theorem fb_675_13 : bsJ 675 13 = (0, 24) := by decide +kernel
theorem rL_686_686_0_23_1_0 : frL gJ bsJ 100 ((686, 686), (0, 23), (1, 0), (0, 1)) := frL_of (by decide +kernel)
theorem rL_682_682_0_23_1_0 : frL gJ bsJ 100 ((682, 682), (0, 23), (1, 0), ((-2147483648), 2147483647)) := frL_hull (by decide) (by decide +kernel)
theorem rL_681_681_0_23_1_0 : frL gJ bsJ 100 ((681, 681), (0, 23), (1, 0), (0, 99)) := frL_of (by decide +kernel)
theorem rS_682_682_0_23_1_0 : frS gJ bsJ znJ [682] 100 ((682, 682), (0, 23), (1, 0), ((-2147483648), 2147483647)) := frS_dflt (by decide) (by decide +kernel)
theorem rL_680_680_0_23_1_0 : frL gJ bsJ 100 ((680, 680), (0, 23), (1, 0), (0, 100)) := frL_of (by decide +kernel)
theorem rS_680_680_0_23_1_0 : frS gJ bsJ znJ [680] 100 ((680, 680), (0, 23), (1, 0), (0, 100)) := frS_of (by decide +kernel)
theorem fb_689_4 : bsJ 689 4 = (0, 24) := by decide +kernel
theorem rL_692_692_0_23_1_0 : frL gJ bsJ 100 ((692, 692), (0, 23), (1, 0), (0, 19)) := frL_of (by decide +kernel)
theorem rL_691_691_0_23_1_0 : frL gJ bsJ 100 ((691, 691), (0, 23), (1, 0), (0, 3)) := frL_of (by decide +kernel)
abbrev wz_3ed0a : List Nat := [559, 584, 11412]
theorem fb_514_12 : bsJ 514 12 = (0, 90) := by decide +kernel
theorem rgG_518_537 {o : Nat} (h1 : 518 ≤ o) (h2 : o ≤ 537) : gJ.1 o = some (100, 5) ∧ ∀ j, j < 5 → gJ.2 o j = none := frG_of (a0 := 518) (a1 := 537) (by decide +kernel) h1 h2
theorem rgG_585_674 {o : Nat} (h1 : 585 ≤ o) (h2 : o ≤ 674) : gJ.1 o = some (100, 8) ∧ ∀ j, j < 8 → gJ.2 o j = none := frG_of (a0 := 585) (a1 := 674) (by decide +kernel) h1 h2
theorem rS_585_674_0_4_1_0 : frS gJ bsJ znJ [584] 100 ((585, 674), (0, 4), (1, 0), ((-2147483648), 2147483647)) := frS_of (by decide +kernel)
theorem rS_585_674_5_5_1_0 : frS gJ bsJ znJ [584] 100 ((585, 674), (5, 5), (1, 0), ((-2147483648), 2147483647)) := frS_of (by decide +kernel)
theorem rS_585_674_6_6_1_0 : frS gJ bsJ znJ [584] 100 ((585, 674), (6, 6), (1, 0), ((-2147483648), 2147483647)) := frS_of (by decide +kernel)
theorem rS_585_674_7_7_1_0 : frS gJ bsJ znJ [584] 100 ((585, 674), (7, 7), (1, 0), (0, 19)) := frS_of (by decide +kernel)
theorem rgG_560_579 {o : Nat} (h1 : 560 ≤ o) (h2 : o ≤ 579) : gJ.1 o = some (100, 6) ∧ ∀ j, j < 6 → gJ.2 o j = none := frG_of (a0 := 560) (a1 := 579) (by decide +kernel) h1 h2
theorem rS_560_579_0_5_1_0 : frS gJ bsJ znJ [559] 100 ((560, 579), (0, 5), (1, 0), ((-2147483648), 2147483647)) := frS_dflt (by decide) (by decide +kernel)
theorem fb_513_9 : bsJ 513 9 = ((-2147483648), 2147483647) := by decide +kernel
theorem fb_513_8 : bsJ 513 8 = (0, 99) := by decide +kernel
abbrev wz_10d1b : List Nat := [559]
theorem rL_585_674_7_7_1_0 : frL gJ bsJ 100 ((585, 674), (7, 7), (1, 0), (0, 19)) := frL_of (by decide +kernel)
theorem rL_585_674_5_5_1_0 : frL gJ bsJ 100 ((585, 674), (5, 5), (1, 0), ((-2147483648), 2147483647)) := frL_hull (by decide) (by decide +kernel)
theorem rL_560_579_0_5_1_0 : frL gJ bsJ 100 ((560, 579), (0, 5), (1, 0), ((-2147483648), 2147483647)) := frL_hull (by decide) (by decide +kernel)
theorem rL_585_674_0_5_1_0 : frL gJ bsJ 100 ((585, 674), (0, 5), (1, 0), ((-2147483648), 2147483647)) := frL_hull (by decide) (by decide +kernel)
theorem rL_585_674_6_6_1_0 : frL gJ bsJ 100 ((585, 674), (6, 6), (1, 0), ((-2147483648), 2147483647)) := frL_hull (by decide) (by decide +kernel)
theorem rL_690_690_0_23_1_0 : frL gJ bsJ 100 ((690, 690), (0, 23), (1, 0), (0, 99)) := frL_of (by decide +kernel)
abbrev wz_e70f1 : List Nat := [693]
theorem rS_693_693_0_23_1_0 : frS gJ bsJ znJ [693] 100 ((693, 693), (0, 23), (1, 0), (0, 100)) := frS_of (by decide +kernel)
abbrev wz_edb18 : List Nat := [517, 538, 693]
theorem fb_513_5 : bsJ 513 5 = (0, 600) := by decide +kernel
theorem rL_676_676_0_23_1_0 : frL gJ bsJ 100 ((676, 676), (0, 23), (1, 0), (0, 6)) := frL_of (by decide +kernel)
theorem rL_684_684_0_23_1_0 : frL gJ bsJ 100 ((684, 684), (0, 23), (1, 0), (0, 99999)) := frL_of (by decide +kernel)
theorem rL_696_696_0_60_1_0 : frL gJ bsJ 100 ((696, 696), (0, 60), (1, 0), (0, 9999)) := frL_of (by decide +kernel)
theorem rL_687_687_0_23_1_0 : frL gJ bsJ 100 ((687, 687), (0, 23), (1, 0), ((-1000000005), 60)) := frL_of (by decide +kernel)
theorem rL_678_678_0_23_1_0 : frL gJ bsJ 100 ((678, 678), (0, 23), (1, 0), (0, 9999)) := frL_of (by decide +kernel)
theorem rL_694_694_0_5_1_0 : frL gJ bsJ 100 ((694, 694), (0, 5), (1, 0), (0, 999999)) := frL_of (by decide +kernel)
abbrev wz_007ef : List Nat := [11305]
abbrev wz_59734 : List Nat := [538, 684]
theorem rS_684_684_0_23_1_0 : frS gJ bsJ znJ [684] 100 ((684, 684), (0, 23), (1, 0), (0, 99999)) := frS_of (by decide +kernel)
theorem rL_677_677_0_23_1_0 : frL gJ bsJ 100 ((677, 677), (0, 23), (1, 0), (0, 19)) := frL_of (by decide +kernel)
theorem rL_683_683_0_23_1_0 : frL gJ bsJ 100 ((683, 683), (0, 23), (1, 0), (0, 99999)) := frL_of (by decide +kernel)
theorem rL_679_679_0_23_1_0 : frL gJ bsJ 100 ((679, 679), (0, 23), (1, 0), (0, 1)) := frL_of (by decide +kernel)
abbrev wz_e4d0d : List Nat := [683, 685]
theorem rL_685_685_0_23_1_0 : frL gJ bsJ 100 ((685, 685), (0, 23), (1, 0), (0, 99)) := frL_of (by decide +kernel)
theorem rS_683_683_0_23_1_0 : frS gJ bsJ znJ [683] 100 ((683, 683), (0, 23), (1, 0), (0, 99999)) := frS_of (by decide +kernel)
theorem rS_685_685_0_23_1_0 : frS gJ bsJ znJ [685] 100 ((685, 685), (0, 23), (1, 0), (0, 99)) := frS_of (by decide +kernel)
abbrev wz_a2d33 : List Nat := [538, 683, 684, 685]
theorem rL_698_698_0_60_1_0 : frL gJ bsJ 100 ((698, 698), (0, 60), (1, 0), (0, 9999)) := frL_of (by decide +kernel)
theorem fb_513_7 : bsJ 513 7 = (2, 9999) := by decide +kernel
theorem fb_513_6 : bsJ 513 6 = ((-2147483648), 2147483647) := by decide +kernel
abbrev wz_8d85d : List Nat := [686, 687, 688]
theorem rS_687_687_0_23_1_0 : frS gJ bsJ znJ [687] 100 ((687, 687), (0, 23), (1, 0), ((-1000000005), 60)) := frS_of (by decide +kernel)
theorem rL_688_688_0_23_1_0 : frL gJ bsJ 100 ((688, 688), (0, 23), (1, 0), ((-2147483648), 2147483647)) := frL_hull (by decide) (by decide +kernel)
theorem rL_697_697_0_60_1_0 : frL gJ bsJ 100 ((697, 697), (0, 60), (1, 0), (0, 9999)) := frL_of (by decide +kernel)
theorem rS_688_688_0_23_1_0 : frS gJ bsJ znJ [688] 100 ((688, 688), (0, 23), (1, 0), ((-2147483648), 2147483647)) := frS_dflt (by decide) (by decide +kernel)
theorem rS_686_686_0_23_1_0 : frS gJ bsJ znJ [686] 100 ((686, 686), (0, 23), (1, 0), (0, 1)) := frS_of (by decide +kernel)
abbrev wz_a50d7 : List Nat := [694, 11306]
theorem rS_694_694_0_5_1_0 : frS gJ bsJ znJ [694] 100 ((694, 694), (0, 5), (1, 0), (0, 999999)) := frS_of (by decide +kernel)
abbrev wz_7903c : List Nat := [517, 538, 694]
abbrev wz_791b2 : List Nat := [517, 538, 683, 684, 685, 686, 687, 688, 694, 11306]
abbrev wz_f7c52 : List Nat := [517, 538, 559, 584, 680, 682, 683, 684, 685, 686, 687, 688, 693, 694, 11305, 11306, 11309, 11412]
abbrev wz_5c8a7 : List Nat := [690, 691, 692, 693, 11604]
theorem x6_227 : f60c xTc xTys xm_227 = true := by decide +kernel
theorem fb_433_4 : bsJ 433 4 = (0, 24) := by decide +kernel
abbrev wz_1abc8 : List Nat := [676, 677, 678, 679, 680, 681, 682, 683, 684, 685, 686, 687, 688, 11513]
theorem x6_226 : f60c xTc xTys xm_226 = true := by decide +kernel
theorem fb_419_13 : bsJ 419 13 = (0, 24) := by decide +kernel
section CT
variable {ρ : Nat → Int32} {base n : Nat} {F : Nat → Prop} {D : va_G} {dA : Nat → ClassId} {la : Launch}
abbrev jc_X_firstWrong_4e02b_9 : Nat → fL → List fV → fH → Prop := fun m lv st I => ∃ (y1 : Int) (y2 : Int) (y3 : Int) (y4 : Int), lv = [(0, .inr (.inr (some 0))), (1, .inl y1), (2, .inl y2), (3, .inl y3), (4, .inl y4)] ∧ st = [] ∧ ((((0 ≤ y1 ∧ y1 ≤ 48) ∧ (y1 - 0) % 2 ≤ 0) ∧ (0 ≤ y2 ∧ y2 ≤ 60) ∧ (0 ≤ y3 ∧ y3 ≤ 48) ∧ (0 ≤ y4 ∧ y4 ≤ 48))) ∧ m = (1 + 1 * (48 - y4) : Int).toNat
set_option maxRecDepth 8000 in
theorem ct_X_firstWrong_4e02b {I : fH} {x1 : Int} {x2 : Int} (h0 : fB bsJ I) (ha1 : ((0 ≤ x1 ∧ x1 ≤ 48) ∧ (x1 - 0) % 2 ≤ 0)) (ha2 : (0 ≤ x2 ∧ x2 ≤ 60)) : fC ρ base n F xTc vwCl xTys D dA la gJ (fbz bsJ znJ (fKc []) I) xm_220 [.inr (.inr (some 0)), .inl x1, .inl x2] I (fun _ r => ∃ z, r = some (.inl z) ∧ (0 ≤ z ∧ z ≤ 49)) := by
  have hW : fzs [] (fKc []) := fKc_ok _
  refine f_meth (rb := rbJ) (J := [(9, jc_X_firstWrong_4e02b_9)]) 50 400 xG xin_220 x6_220 okJ (fB_self h0) ?_ ?_
  · refine List.forall_mem_cons.mpr ⟨?_, fun q h => absurd h List.not_mem_nil⟩
    · rintro m _ _ I1 hB1 ⟨y1, y2, y3, y4, rfl, rfl, hb, hm⟩
      refine And.intro (And.intro (by first | exact fi_ hb.2.2.2.1 hb.2.2.2.2 rfl | omega) (by first | exact fi_ hb.2.2.1.1 hb.2.2.1.2 rfl | omega)) (And.intro ?_ ?_)
      · intro c1
        refine And.intro (And.intro (by first | exact fi_ hb.1.1.1 hb.1.1.2 rfl | omega) (by first | exact fi_ hb.2.1.1 hb.2.1.2 rfl | omega)) (And.intro ?_ ?_)
        · intro c2
          refine And.intro (True.intro) ?_
          exact ⟨_, rfl, by omega⟩
        · intro c3
          refine And.intro (True.intro) ?_
          exact ⟨_, rfl, (by first | exact ⟨by decide, by decide⟩ | omega)⟩
      · intro c4
        refine And.intro ⟨rfl, by decide, by decide⟩ ?_
        refine fload1 rL_738_738_0_59_1_0 h0 hB1 ⟨by decide, by decide⟩ (by first | exact ⟨hb.2.2.2.1, Int.le_trans (Int.le_sub_one_of_lt (Int.lt_of_lt_of_le c4 hb.2.2.1.2)) (by decide)⟩ | omega) ?_
        intro z5 lz5 uz5 qz5
        refine And.intro ⟨rfl, by decide, by decide⟩ ?_
        refine fload1 rL_739_739_0_59_1_0 h0 hB1 ⟨by decide, by decide⟩ (by first | exact ⟨hb.2.2.2.1, Int.le_trans (Int.le_sub_one_of_lt (Int.lt_of_lt_of_le c4 hb.2.2.1.2)) (by decide)⟩ | omega) ?_
        intro z6 lz6 uz6 qz6
        refine And.intro (And.intro (by first | exact fi_ lz5 uz5 rfl | omega) (by first | exact fi_ lz6 uz6 rfl | omega)) (And.intro ?_ ?_)
        · intro c7
          exact fcutJ (I := I1) (j := jc_X_firstWrong_4e02b_9) (lv' := [(0, .inr (.inr (some 0))), (1, .inl _), (2, .inl _), (3, .inl _), (4, .inl _)]) (And.intro rfl (And.intro rfl (And.intro rfl (And.intro rfl (And.intro rfl True.intro))))) ⟨_, _, _, _, rfl, rfl, by omega, rfl⟩ (by omega)
        · intro c8
          refine And.intro (True.intro) ?_
          exact ⟨_, rfl, by omega⟩
  · have hB0 := fB_self (zn := znJ) (K := fKc []) h0
    refine And.intro (And.intro (by first | exact fi_ ha1.1.1 ha1.1.2 rfl | omega) (And.intro (by first | exact fi_ ha2.1 ha2.2 rfl | omega) rfl)) ?_
    intro z9 hz9
    exact fcutJ (I := I) (j := jc_X_firstWrong_4e02b_9) (lv' := [(0, .inr (.inr (some 0))), (1, .inl _), (2, .inl _), (3, .inl _), (4, .inl _)]) (And.intro rfl (And.intro rfl (And.intro rfl (And.intro rfl (And.intro rfl True.intro))))) ⟨_, _, _, _, rfl, rfl, by omega, rfl⟩ (by omega)
abbrev jc_X_checkLoads_0f880_29 : Nat → fL → List fV → fH → Prop := fun m lv st I => ∃ (y1 : Int) (y2 : Int) (y3 : Int) (y4 : Int) (y5 : Int), lv = [(0, .inr (.inr (some 0))), (1, .inl y1), (2, .inl y2), (3, .inl y3), (4, .inl y4), (5, .inl y5)] ∧ st = [] ∧ (((1 ≤ y1 ∧ y1 ≤ 24) ∧ (0 ≤ y2 ∧ y2 ≤ 300) ∧ (0 ≤ y3 ∧ y3 ≤ 60) ∧ ((-2147483648) ≤ y4 ∧ y4 ≤ 2147483647) ∧ (0 ≤ y5 ∧ y5 ≤ 24))) ∧ m = (1 + 1 * (24 - y5) : Int).toNat
set_option maxRecDepth 8000 in
theorem ct_X_checkLoads_0f880 {I : fH} {x1 : Int} {x2 : Int} {x3 : Int} (h0 : fB bsJ I) (ha1 : (1 ≤ x1 ∧ x1 ≤ 24)) (ha2 : (0 ≤ x2 ∧ x2 ≤ 300)) (ha3 : (0 ≤ x3 ∧ x3 ≤ 60)) : fC ρ base n F xTc vwCl xTys D dA la gJ (fbz bsJ znJ (fKc wz_b577c) I) xm_219 [.inr (.inr (some 0)), .inl x1, .inl x2, .inl x3] I (fun _ r => ∃ z, r = some (.inl z) ∧ ((0 ≤ z ∧ z ≤ 49) ∨ z = (-1000000005))) := by
  have hW : fzs wz_b577c (fKc wz_b577c) := fKc_ok _
  refine f_meth (rb := rbJ) (J := [(29, jc_X_checkLoads_0f880_29)]) 26 400 xG xin_219 x6_219 okJ (fB_self h0) ?_ ?_
  · refine List.forall_mem_cons.mpr ⟨?_, fun q h => absurd h List.not_mem_nil⟩
    · rintro m _ _ I1 hB1 ⟨y1, y2, y3, y4, y5, rfl, rfl, hb, hm⟩
      refine And.intro (And.intro (by first | exact fi_ hb.2.2.2.2.1 hb.2.2.2.2.2 rfl | omega) (by first | exact fi_ hb.1.1 hb.1.2 rfl | omega)) (And.intro ?_ ?_)
      · intro c1
        refine Exists.intro xm_220 (And.intro mi_220 (And.intro ⟨rfl, rfl, rfl, rfl⟩ (And.intro rfl ?_)))
        refine fcallp hB1 (ct_X_firstWrong_4e02b (fBz h0 hB1) (by omega) (by first | exact ⟨hb.2.2.1.1, hb.2.2.1.2⟩ | omega)) ?_
        rintro _ ⟨z2, rfl, hz2⟩
        refine And.intro (True.intro) ?_
        exact ⟨_, rfl, by omega⟩
      · intro c3
        refine And.intro ⟨rfl, by decide, by decide⟩ ?_
        refine Exists.intro xm_192 (And.intro mi_192 (And.intro ⟨rfl, rfl, rfl, rfl⟩ (And.intro rfl ?_)))
        refine fcallp hB1 (ct_Dark_loadAt_007b1 (fBz h0 hB1) (by first | exact ⟨hb.2.1.1, hb.2.1.2⟩ | omega) (by first | exact ⟨hb.2.2.2.2.1, Int.le_trans (Int.le_sub_one_of_lt (Int.lt_of_lt_of_le c3 hb.1.2)) (by decide)⟩ | omega)) ?_
        rintro _ ⟨z4, rfl, hz4, g0z4⟩
        refine And.intro ⟨rfl, by decide, by decide⟩ ?_
        refine And.intro ⟨rfl, by decide, by decide⟩ ?_
        refine fload1 rL_223_223_0_3_1_0 h0 hB1 ⟨by decide, by decide⟩ (by first | exact ⟨hz4.1, hz4.2⟩ | omega) ?_
        intro z5 lz5 uz5 qz5
        intro z6 hz6 ez6 bz6
        clear ez6
        clear bz6
        refine And.intro ⟨rfl, by decide, by decide⟩ ?_
        refine fstore rS_739_739_0_59_1_0 (fzs_sub (by decide +kernel) hW) (by omega) (by first | exact ⟨Int.le_trans (by decide) hz4.1, Int.le_trans hz4.2 (by decide)⟩ | omega) ?_
        intro IhB7 ehB7 hB7
        have t8 := fup_self ehB7
        refine And.intro ⟨rfl, by decide, by decide⟩ ?_
        refine fstore rS_739_739_0_59_1_0 (fzs_sub (by decide +kernel) hW) (by omega) (by omega) ?_
        intro IhB9 ehB9 hB9
        have t10 := fup_self ehB9
        exact fcutJ (I := IhB9) (j := jc_X_checkLoads_0f880_29) (lv' := [(0, .inr (.inr (some 0))), (1, .inl _), (2, .inl _), (3, .inl _), (4, .inl _), (5, .inl _)]) (And.intro rfl (And.intro rfl (And.intro rfl (And.intro rfl (And.intro rfl (And.intro rfl True.intro)))))) ⟨_, _, _, _, _, rfl, rfl, by omega, rfl⟩ (by omega)
  · have hB0 := fB_self (zn := znJ) (K := fKc wz_b577c) h0
    refine And.intro ⟨rfl, by decide, by decide⟩ ?_
    refine And.intro ⟨rfl, by decide, by decide⟩ ?_
    refine Exists.intro xm_189 (And.intro mi_189 (And.intro ⟨rfl, rfl, rfl, rfl⟩ (And.intro rfl ?_)))
    refine fcall _ h0 (fzs_sub (by decide +kernel) hW) hB0 (ct_Dark_leastHarm_e9db9 (fBz h0 hB0) (by first | exact ⟨ha1.1, ha1.2⟩ | omega) (by first | exact ⟨ha2.1, ha2.2⟩ | omega)) ?_
    rintro IhB12 _ hB12 fhB12 ⟨z11, rfl, hz11, g0z11, g1z11⟩
    refine And.intro (And.intro (by first | exact fi_ hz11.1 hz11.2 rfl | omega) (by first | exact ⟨by decide, by decide⟩ | omega)) (And.intro ?_ ?_)
    · intro c13
      exact fcutJ (I := IhB12) (j := jc_X_checkLoads_0f880_29) (lv' := [(0, .inr (.inr (some 0))), (1, .inl _), (2, .inl _), (3, .inl _), (4, .inl _), (5, .inl _)]) (And.intro rfl (And.intro rfl (And.intro rfl (And.intro rfl (And.intro rfl (And.intro rfl True.intro)))))) ⟨_, _, _, _, _, rfl, rfl, by omega, rfl⟩ (by omega)
    · intro c14
      refine And.intro (True.intro) ?_
      exact ⟨_, rfl, by omega⟩
abbrev jc_X_checkOrder_93ad1_28 : Nat → fL → List fV → fH → Prop := fun m lv st I => ∃ (y2 : Int) (y4 : Int) (y5 : Int), lv = [(0, .inr (.inr (some 0))), (2, .inl y2), (4, .inl y4), (5, .inl y5)] ∧ st = [] ∧ (((0 ≤ y2 ∧ y2 ≤ 60) ∧ ((-2147483648) ≤ y4 ∧ y4 ≤ 2147483647) ∧ (0 ≤ y5 ∧ y5 ≤ 7))) ∧ m = (1 + 1 * (7 - y5) : Int).toNat
set_option maxRecDepth 8000 in
theorem ct_X_checkOrder_93ad1 {I : fH} {x1 : Int} {x2 : Int} (h0 : fB bsJ I) (ha1 : (1 ≤ x1 ∧ x1 ≤ 60)) (ha2 : (0 ≤ x2 ∧ x2 ≤ 60)) : fC ρ base n F xTc vwCl xTys D dA la gJ (fbz bsJ znJ (fKc wz_324de) I) xm_221 [.inr (.inr (some 0)), .inl x1, .inl x2] I (fun _ r => ∃ z, r = some (.inl z) ∧ ((-2147483648) ≤ z ∧ z ≤ 49)) := by
  have hW : fzs wz_324de (fKc wz_324de) := fKc_ok _
  refine f_meth (rb := rbJ) (J := [(28, jc_X_checkOrder_93ad1_28)]) 9 400 xG xin_221 x6_221 okJ (fB_self h0) ?_ ?_
  · refine List.forall_mem_cons.mpr ⟨?_, fun q h => absurd h List.not_mem_nil⟩
    · rintro m _ _ I1 hB1 ⟨y2, y4, y5, rfl, rfl, hb, hm⟩
      refine And.intro ⟨rfl, by decide, by decide⟩ ?_
      refine And.intro ⟨rfl, by decide, by decide⟩ (fgetf fb_211_15 h0 hB1 ?_)
      intro z1 lz1 uz1 qz1
      refine And.intro (And.intro (by first | exact fi_ hb.2.2.1 hb.2.2.2 rfl | omega) (by first | exact fi_ lz1 uz1 rfl | omega)) (And.intro ?_ ?_)
      · intro c2
        refine And.intro ⟨rfl, by decide, by decide⟩ ?_
        refine And.intro ⟨rfl, by decide, by decide⟩ (fgetf fb_211_15 h0 hB1 ?_)
        intro z3 lz3 uz3 qz3
        refine Exists.intro xm_220 (And.intro mi_220 (And.intro ⟨rfl, rfl, rfl, rfl⟩ (And.intro rfl ?_)))
        refine fcallp hB1 (ct_X_firstWrong_4e02b (fBz h0 hB1) (by omega) (by first | exact ⟨hb.1.1, hb.1.2⟩ | omega)) ?_
        rintro _ ⟨z4, rfl, hz4⟩
        refine And.intro (True.intro) ?_
        exact ⟨_, rfl, (by first | exact ⟨Int.le_trans (by decide) hz4.1, hz4.2⟩ | omega)⟩
      · intro c5
        refine And.intro ⟨rfl, by decide, by decide⟩ ?_
        refine And.intro ⟨rfl, by decide, by decide⟩ ?_
        refine And.intro ⟨rfl, by decide, by decide⟩ ?_
        refine And.intro ⟨rfl, by decide, by decide⟩ ?_
        refine fload1 rL_736_736_0_6_1_0 h0 hB1 ⟨by decide, by decide⟩ (by first | exact ⟨hb.2.2.1, Int.le_trans (Int.le_sub_one_of_lt (Int.lt_of_lt_of_le c5 uz1)) (by decide)⟩ | omega) ?_
        intro z6 lz6 uz6 qz6
        refine fload1 rL_254_254_0_6_1_0 h0 hB1 ⟨by decide, by decide⟩ (by first | exact ⟨lz6, uz6⟩ | omega) ?_
        intro z7 lz7 uz7 qz7
        intro z8 hz8 ez8 bz8
        clear ez8
        clear bz8
        refine And.intro ⟨rfl, by decide, by decide⟩ ?_
        refine And.intro ⟨rfl, by decide, by decide⟩ ?_
        refine And.intro ⟨rfl, by decide, by decide⟩ ?_
        refine fload1 rL_736_736_0_6_1_0 h0 hB1 ⟨by decide, by decide⟩ (by first | exact ⟨hb.2.2.1, Int.le_trans (Int.le_sub_one_of_lt (Int.lt_of_lt_of_le c5 uz1)) (by decide)⟩ | omega) ?_
        intro z9 lz9 uz9 qz9
        refine fstore rS_739_739_0_59_1_0 (fzs_sub (by decide +kernel) hW) (by omega) (by first | exact ⟨Int.le_trans (by decide) lz9, Int.le_trans uz9 (by decide)⟩ | omega) ?_
        intro IhB10 ehB10 hB10
        have t11 := fup_self ehB10
        have t12 : IhB10 211 15 = I1 211 15 := (congrFun (congrFun ehB10 211) 15).trans (fup_ne (by first | exact Or.inl (by decide) | omega))
        refine And.intro ⟨rfl, by decide, by decide⟩ ?_
        refine fstore rS_739_739_0_59_1_0 (fzs_sub (by decide +kernel) hW) (by omega) (by omega) ?_
        intro IhB13 ehB13 hB13
        have t14 := fup_self ehB13
        have t15 : IhB13 211 15 = IhB10 211 15 := (congrFun (congrFun ehB13 211) 15).trans (fup_ne (by first | exact Or.inl (by decide) | omega))
        exact fcutJ (I := IhB13) (j := jc_X_checkOrder_93ad1_28) (lv' := [(0, .inr (.inr (some 0))), (2, .inl _), (4, .inl _), (5, .inl _)]) (And.intro rfl (And.intro rfl (And.intro rfl (And.intro rfl True.intro)))) ⟨_, _, _, rfl, rfl, by omega, rfl⟩ (by omega)
  · have hB0 := fB_self (zn := znJ) (K := fKc wz_324de) h0
    refine And.intro ⟨rfl, by decide, by decide⟩ ?_
    refine And.intro ⟨rfl, by decide, by decide⟩ ?_
    refine Exists.intro xm_206 (And.intro mi_206 (And.intro ⟨rfl, rfl, rfl, rfl⟩ (And.intro rfl ?_)))
    refine fcall _ h0 (fzs_sub (by decide +kernel) hW) hB0 (ct_Order_bestSum_ae03f (fBz h0 hB0) (by first | exact ⟨ha1.1, ha1.2⟩ | omega) (by first | exact ⟨by decide, by decide⟩ | omega)) ?_
    rintro IhB17 _ hB17 fhB17 ⟨z16, rfl, hz16, g0z16, g1z16⟩
    refine And.intro (by first | exact fi_ hz16.1 hz16.2 rfl | omega) (And.intro ?_ ?_)
    · intro c18
      exact fcutJ (I := IhB17) (j := jc_X_checkOrder_93ad1_28) (lv' := [(0, .inr (.inr (some 0))), (2, .inl _), (4, .inl _), (5, .inl _)]) (And.intro rfl (And.intro rfl (And.intro rfl (And.intro rfl True.intro)))) ⟨_, _, _, rfl, rfl, by omega, rfl⟩ (by omega)
    · intro c19
      refine And.intro (True.intro) ?_
      exact ⟨_, rfl, (by first | exact ⟨hz16.1, Int.le_trans (Int.le_sub_one_of_lt (Int.lt_of_lt_of_le c19 (Int.le_refl _))) (by decide)⟩ | omega)⟩
set_option maxRecDepth 8000 in
theorem ct_Cells_addAir_f5ee0 {I : fH} {x1 : Int} {x2 : Int} {x3 : Int} (h0 : fB bsJ I) (ha1 : (0 ≤ x1 ∧ x1 ≤ 19)) (ha2 : (0 ≤ x2 ∧ x2 ≤ 4)) (ha3 : ((-49999) ≤ x3 ∧ x3 ≤ 999999)) (hp0 : 0 ≤ x3) (hp1 : x3 ≤ 999999) : fC ρ base n F xTc vwCl xTys D dA la gJ (fbz bsJ znJ (fKc wz_7eac0) I) xm_84 [.inr (.inr (some 514)), .inl x1, .inl x2, .inl x3] I (fun I' r => r = none ∧ True ∧ (cR 512 I' = sCo (cR 512 I) x1 x2 x3)) := by
  have hW : fzs wz_7eac0 (fKc wz_7eac0) := fKc_ok _
  refine f_meth (rb := rbJ) (J := []) 1 400 xG xin_84 x6_84 okJ (fB_self h0) ?_ ?_
  · exact fun q h => absurd h List.not_mem_nil
  · have hB0 := fB_self (zn := znJ) (K := fKc wz_7eac0) h0
    refine And.intro ⟨rfl, by decide, by decide⟩ ?_
    refine And.intro ⟨rfl, by decide⟩ (And.intro (by first | exact ⟨ha1.1, Int.lt_of_le_of_lt ha1.2 (by decide)⟩ | omega) ?_)
    refine fload rL_518_537_0_4_1_0 h0 hB0 (by omega) ?_
    intro z1 lz1 uz1 qz1
    have v7 := cL_r (d := 512) (a := 6) (nr := 20) (n := 5) (b := 31) (mr := 20) (m := 1) (by decide +kernel) (by decide) qz1 (by omega) (by omega) rfl
    intro z2 hz2 ez2 bz2
    have bz2 := bz2 (by omega)
    refine And.intro ⟨rfl, by decide, by decide⟩ ?_
    refine And.intro ⟨rfl, by decide⟩ (And.intro (by first | exact ⟨ha1.1, Int.lt_of_le_of_lt ha1.2 (by decide)⟩ | omega) ?_)
    refine And.intro (And.intro (by omega) (And.intro (by first | exact ⟨by decide, by decide⟩ | omega) rfl)) ?_
    intro z3 hz3
    refine fstore rS_518_537_0_4_1_0 (fzs_sub (by decide +kernel) hW) (by omega) (by omega) ?_
    intro IhB4 ehB4 hB4
    have t5 := fup_self ehB4
    have r26 := cS_r (d := 512) (a := 6) (nr := 20) (n := 5) (b := 31) (mr := 20) (m := 1) (by decide +kernel) (by decide) ehB4 (by omega) (by omega) rfl
    refine And.intro (by omega) (And.intro ?_ ?_)
    · intro c6
      exact ⟨rfl, True.intro, (by rw [r26]; exact sCo_A (cR_fin cF512_ok h0 _) (by omega) (by omega) (by omega) (by omega) (by omega))⟩
    · intro c7
      refine And.intro ⟨rfl, by decide, by decide⟩ ?_
      refine And.intro ⟨rfl, by decide⟩ (And.intro (by first | exact ⟨ha1.1, Int.lt_of_le_of_lt ha1.2 (by decide)⟩ | omega) ?_)
      refine fload rL_539_558_0_4_1_0 h0 hB4 (by omega) ?_
      intro z8 lz8 uz8 qz8
      have v42 := cL_r (d := 512) (a := 27) (nr := 20) (n := 5) (b := 37) (mr := 20) (m := 1) (by decide +kernel) (by decide) qz8 (by omega) (by omega) rfl
      rw [r26] at v42
      intro z9 hz9 ez9 bz9
      try replace bz9 := bz9 (by omega)
      refine fstore rS_539_558_0_4_1_0 (fzs_sub (by decide +kernel) hW) (by omega) (by omega) ?_
      intro IhB10 ehB10 hB10
      have t11 := fup_self ehB10
      have r49 := cS_r (d := 512) (a := 27) (nr := 20) (n := 5) (b := 37) (mr := 20) (m := 1) (by decide +kernel) (by decide) ehB10 (by omega) (by omega) rfl
      exact ⟨rfl, True.intro, (by rw [r49, r26]; exact sCo_B (by omega) (by omega) (by omega) (by omega) (by omega) (by omega) hz9 ez9 v42 (by omega))⟩
abbrev jc_Cells_flow_6f8f5_38 (x1 : Int) (I0 : fH) : Nat → fL → List fV → fH → Prop := fun m lv st I => ∃ (y1 : Int) (y2 : Int) (y3 : Int) (y4 : Int) (y5 : Int), lv = [(0, .inr (.inr (some 514))), (1, .inl y1), (2, .inl y2), (3, .inl y3), (4, .inl y4), (5, .inl y5)] ∧ st = [] ∧ (((0 ≤ y1 ∧ y1 ≤ 23) ∧ (0 ≤ y2 ∧ y2 ≤ 19) ∧ (0 ≤ y3 ∧ y3 ≤ 19) ∧ (1 ≤ y4 ∧ y4 ≤ 1998) ∧ (0 ≤ y5 ∧ y5 ≤ 5) ∧ (y4 = I 515 y2.toNat + I 515 y3.toNat) ∧ (y1 = x1) ∧ (y2 = I0 580 x1.toNat) ∧ (y3 = I0 581 x1.toNat)) ∧ ((cR 512 I) = nf (sFg x1) (cR 512 I0) y5.toNat)) ∧ m = (1 + 1 * (5 - y5) : Int).toNat
set_option maxRecDepth 8000 in
theorem ct_Cells_flow_6f8f5 {I : fH} {x1 : Int} (h0 : fB bsJ I) (ha1 : (0 ≤ x1 ∧ x1 ≤ 23)) : fC ρ base n F xTc vwCl xTys D dA la gJ (fbz bsJ znJ (fKc wz_7eac0) I) xm_89 [.inr (.inr (some 514)), .inl x1] I (fun I' r => r = none ∧ True ∧ (cR 512 I' = sFl (cR 512 I) x1)) := by
  have hW : fzs wz_7eac0 (fKc wz_7eac0) := fKc_ok _
  refine f_meth (rb := rbJ) (J := [(38, (jc_Cells_flow_6f8f5_38 x1 I))]) 7 400 xG xin_89 x6_89 okJ (fB_self h0) ?_ ?_
  · refine List.forall_mem_cons.mpr ⟨?_, fun q h => absurd h List.not_mem_nil⟩
    · rintro m _ _ I1 hB1 ⟨y1, y2, y3, y4, y5, rfl, rfl, ⟨hb, hx0⟩, hm⟩
      have wa : gt (cR 512 I1) (430 + 4 * x1) = y2 := (cG_fr (d := 512) (i0 := 430) (i1 := 522) (m := 4) (q := 0) (by decide +kernel) (fFr_of hB1) (by omega)).trans ((cL_a (d := 512) (a := 68) (n := 24) (b := 430) (m := 4) (z := I 580 x1.toNat) (i := x1) (by decide +kernel) (by decide) rfl (by omega) (by omega)).symm.trans (by omega))
      have wb : gt (cR 512 I1) (431 + 4 * x1) = y3 := (cG_fr (d := 512) (i0 := 431) (i1 := 523) (m := 4) (q := 0) (by decide +kernel) (fFr_of hB1) (by omega)).trans ((cL_a (d := 512) (a := 69) (n := 24) (b := 431) (m := 4) (z := I 581 x1.toNat) (i := x1) (by decide +kernel) (by decide) rfl (by omega) (by omega)).symm.trans (by omega))
      refine And.intro (And.intro (by first | exact fi_ hb.2.2.2.2.1.1 hb.2.2.2.2.1.2 rfl | omega) (by first | exact ⟨by decide, by decide⟩ | omega)) (And.intro ?_ ?_)
      · intro c1
        exact ⟨rfl, True.intro, (by have e5 : y5 = 5 := (by omega); have q := hx0; rw [e5] at q; exact q)⟩
      · intro c2
        refine And.intro ⟨rfl, by decide, by decide⟩ ?_
        refine And.intro ⟨rfl, by decide⟩ (And.intro (by first | exact ⟨hb.2.1.1, Int.lt_of_le_of_lt hb.2.1.2 (by decide)⟩ | omega) ?_)
        refine fload rL_518_537_0_4_1_0 h0 hB1 (by omega) ?_
        intro z3 lz3 uz3 qz3
        have v52 := cL_r (d := 512) (a := 6) (nr := 20) (n := 5) (b := 31) (mr := 20) (m := 1) (by decide +kernel) (by decide) qz3 (by omega) (by omega) rfl
        refine And.intro ⟨rfl, by decide, by decide⟩ ?_
        refine fload1 rL_515_515_0_19_1_0 h0 hB1 ⟨by decide, by decide⟩ (by first | exact ⟨hb.2.2.1.1, hb.2.2.1.2⟩ | omega) ?_
        intro z4 lz4 uz4 qz4
        have v58 := cL_a (d := 512) (a := 3) (n := 20) (b := 30) (m := 20) (by decide +kernel) (by decide) qz4 (by omega) rfl
        intro z5 hz5 ez5 bz5
        clear ez5
        try replace bz5 := bz5 (by omega)
        have m59 := mul_rng lz3 uz3 lz4 uz4
        have k59 := bz5 ⟨by omega, by omega⟩
        refine And.intro ⟨rfl, by decide, by decide⟩ ?_
        refine And.intro ⟨rfl, by decide⟩ (And.intro (by first | exact ⟨hb.2.2.1.1, Int.lt_of_le_of_lt hb.2.2.1.2 (by decide)⟩ | omega) ?_)
        refine fload rL_518_537_0_4_1_0 h0 hB1 (by omega) ?_
        intro z6 lz6 uz6 qz6
        have v68 := cL_r (d := 512) (a := 6) (nr := 20) (n := 5) (b := 31) (mr := 20) (m := 1) (by decide +kernel) (by decide) qz6 (by omega) (by omega) rfl
        refine And.intro ⟨rfl, by decide, by decide⟩ ?_
        refine fload1 rL_515_515_0_19_1_0 h0 hB1 ⟨by decide, by decide⟩ (by first | exact ⟨hb.2.1.1, hb.2.1.2⟩ | omega) ?_
        intro z7 lz7 uz7 qz7
        have v74 := cL_a (d := 512) (a := 3) (n := 20) (b := 30) (m := 20) (by decide +kernel) (by decide) qz7 (by omega) rfl
        intro z8 hz8 ez8 bz8
        clear ez8
        try replace bz8 := bz8 (by omega)
        have m75 := mul_rng lz6 uz6 lz7 uz7
        have k75 := bz8 ⟨by omega, by omega⟩
        intro z9 hz9 ez9 bz9
        clear ez9
        have bz9 := bz9 (by omega)
        refine And.intro (And.intro (by omega) (And.intro (by first | exact fi_ hb.2.2.2.1.1 hb.2.2.2.1.2 rfl | omega) (And.intro (by omega) rfl))) ?_
        intro z10 hz10 ez10 dz10
        have d79 := xdv_t (by omega) (by omega) (by omega) hz10 ez10
        have f79 := fl_al lz3 lz6 lz7 lz4 (show 0 < z7 + z4 by omega) rfl (show z9 = z3 * z4 - z6 * z7 by omega)
        rw [show z7 + z4 = y4 by omega, ← d79] at f79
        refine And.intro ⟨rfl, by decide, by decide⟩ ?_
        refine fload1 rL_582_582_0_23_1_0 h0 hB1 ⟨by decide, by decide⟩ (by first | exact ⟨hb.1.1, hb.1.2⟩ | omega) ?_
        intro z11 lz11 uz11 qz11
        have v89 := cL_a (d := 512) (a := 70) (n := 24) (b := 432) (m := 4) (by decide +kernel) (by decide) qz11 (by omega) rfl
        intro z12 hz12 ez12 bz12
        clear ez12
        try replace bz12 := bz12 (by omega)
        have g90 := fl_go lz3 lz6 f79 ⟨lz11, uz11⟩
        have k90 := bz12 ⟨by omega, by omega⟩
        refine And.intro (And.intro (by omega) (And.intro (by first | exact ⟨by decide, by decide⟩ | omega) (And.intro (by first | exact by decide | omega) rfl))) ?_
        intro z13 hz13 ez13 dz13
        have d93 := xdv_t (by omega) (by omega) (by decide) hz13 ez13
        have f93 : -z6 ≤ z13 ∧ z13 ≤ z3 := by
            rw [d93, k90]
            exact g90.2
        refine And.intro (by omega) (And.intro ?_ ?_)
        · intro c14
          refine And.intro ⟨rfl, by decide, by decide⟩ ?_
          refine And.intro ⟨rfl, by decide⟩ (And.intro (by first | exact ⟨hb.2.2.1.1, Int.lt_of_le_of_lt hb.2.2.1.2 (by decide)⟩ | omega) ?_)
          refine fload rL_518_537_0_4_1_0 h0 hB1 (by omega) ?_
          intro z15 lz15 uz15 qz15
          have v136 := cL_r (d := 512) (a := 6) (nr := 20) (n := 5) (b := 31) (mr := 20) (m := 1) (by decide +kernel) (by decide) qz15 (by omega) (by omega) rfl
          intro z16 hz16 ez16 bz16
          clear ez16
          have bz16 := bz16 (by omega)
          refine fstore rS_518_537_0_4_1_0 (fzs_sub (by decide +kernel) hW) (by omega) (by omega) ?_
          intro IhB17 ehB17 hB17
          have t18 := fup_self ehB17
          have r140 := cS_r (d := 512) (a := 6) (nr := 20) (n := 5) (b := 31) (mr := 20) (m := 1) (by decide +kernel) (by decide) ehB17 (by omega) (by omega) rfl
          intro z19 hz19 ez19 bz19
          clear ez19
          have bz19 := bz19 rfl (by omega)
          refine Exists.intro xm_84 (And.intro mi_84 (And.intro ⟨rfl, rfl, rfl, rfl⟩ (And.intro rfl ?_)))
          refine fcall _ h0 (fzs_sub (by decide +kernel) hW) hB17 (ct_Cells_addAir_f5ee0 (fBz h0 hB17) (by first | exact ⟨hb.2.1.1, hb.2.1.2⟩ | omega) (by first | exact ⟨hb.2.2.2.2.1.1, Int.le_trans (Int.le_sub_one_of_lt (Int.lt_of_lt_of_le c2 (Int.le_refl _))) (by decide)⟩ | omega) (by omega) (by omega) (by omega)) ?_
          rintro IhB21 _ hB21 fhB21 ⟨rfl, hz20, g0z20⟩
          have c2 := (fFr_at fhB21 515 (by decide +kernel) rfl y2.toNat).trans (fup_other ehB17 515 y2.toNat (Or.inl (by omega)))
          have c3 := (fFr_at fhB21 515 (by decide +kernel) rfl y3.toNat).trans (fup_other ehB17 515 y3.toNat (Or.inl (by omega)))
          exact fcutJ (I := IhB21) (j := (jc_Cells_flow_6f8f5_38 x1 I)) (lv' := [(0, .inr (.inr (some 514))), (1, .inl _), (2, .inl _), (3, .inl _), (4, .inl _), (5, .inl _)]) (And.intro rfl (And.intro rfl (And.intro rfl (And.intro rfl (And.intro rfl (And.intro rfl True.intro)))))) ⟨_, _, _, _, _, rfl, rfl, ⟨by omega, (nf_row hx0 (by omega) (by omega) (by rw [g0z20, r140]; exact sFg_neg wa wb (sFx_of wa wb v52 (by omega) v58 (by omega) v68 (by omega) v74 (by omega) v89 (by omega) (show z9 = z3 * z4 - z6 * z7 by omega) (show y4 = z7 + z4 by omega) d79 k90 d93) (by omega) (by omega) (by omega) (by omega) (by omega)))⟩, rfl⟩ (by omega)
        · intro c22
          refine And.intro ⟨rfl, by decide, by decide⟩ ?_
          refine And.intro ⟨rfl, by decide⟩ (And.intro (by first | exact ⟨hb.2.1.1, Int.lt_of_le_of_lt hb.2.1.2 (by decide)⟩ | omega) ?_)
          refine fload rL_518_537_0_4_1_0 h0 hB1 (by omega) ?_
          intro z23 lz23 uz23 qz23
          have v110 := cL_r (d := 512) (a := 6) (nr := 20) (n := 5) (b := 31) (mr := 20) (m := 1) (by decide +kernel) (by decide) qz23 (by omega) (by omega) rfl
          intro z24 hz24 ez24 bz24
          clear ez24
          have bz24 := bz24 (by omega)
          refine fstore rS_518_537_0_4_1_0 (fzs_sub (by decide +kernel) hW) (by omega) (by omega) ?_
          intro IhB25 ehB25 hB25
          have t26 := fup_self ehB25
          have r114 := cS_r (d := 512) (a := 6) (nr := 20) (n := 5) (b := 31) (mr := 20) (m := 1) (by decide +kernel) (by decide) ehB25 (by omega) (by omega) rfl
          refine Exists.intro xm_84 (And.intro mi_84 (And.intro ⟨rfl, rfl, rfl, rfl⟩ (And.intro rfl ?_)))
          refine fcall _ h0 (fzs_sub (by decide +kernel) hW) hB25 (ct_Cells_addAir_f5ee0 (fBz h0 hB25) (by first | exact ⟨hb.2.2.1.1, hb.2.2.1.2⟩ | omega) (by first | exact ⟨hb.2.2.2.2.1.1, Int.le_trans (Int.le_sub_one_of_lt (Int.lt_of_lt_of_le c2 (Int.le_refl _))) (by decide)⟩ | omega) (by omega) (by omega) (by omega)) ?_
          rintro IhB28 _ hB28 fhB28 ⟨rfl, hz27, g0z27⟩
          have c2 := (fFr_at fhB28 515 (by decide +kernel) rfl y2.toNat).trans (fup_other ehB25 515 y2.toNat (Or.inl (by omega)))
          have c3 := (fFr_at fhB28 515 (by decide +kernel) rfl y3.toNat).trans (fup_other ehB25 515 y3.toNat (Or.inl (by omega)))
          exact fcutJ (I := IhB28) (j := (jc_Cells_flow_6f8f5_38 x1 I)) (lv' := [(0, .inr (.inr (some 514))), (1, .inl _), (2, .inl _), (3, .inl _), (4, .inl _), (5, .inl _)]) (And.intro rfl (And.intro rfl (And.intro rfl (And.intro rfl (And.intro rfl (And.intro rfl True.intro)))))) ⟨_, _, _, _, _, rfl, rfl, ⟨by omega, (nf_row hx0 (by omega) (by omega) (by rw [g0z27, r114]; exact sFg_pos wa wb (sFx_of wa wb v52 (by omega) v58 (by omega) v68 (by omega) v74 (by omega) v89 (by omega) (show z9 = z3 * z4 - z6 * z7 by omega) (show y4 = z7 + z4 by omega) d79 k90 d93) (by omega) (by omega) (by omega) (by omega)))⟩, rfl⟩ (by omega)
  · have hB0 := fB_self (zn := znJ) (K := fKc wz_7eac0) h0
    refine And.intro ⟨rfl, by decide, by decide⟩ ?_
    refine fload1 rL_580_580_0_23_1_0 h0 hB0 ⟨by decide, by decide⟩ (by first | exact ⟨ha1.1, ha1.2⟩ | omega) ?_
    intro z29 lz29 uz29 qz29
    have v5 := cL_a (d := 512) (a := 68) (n := 24) (b := 430) (m := 4) (by decide +kernel) (by decide) qz29 (by omega) rfl
    refine And.intro ⟨rfl, by decide, by decide⟩ ?_
    refine fload1 rL_581_581_0_23_1_0 h0 hB0 ⟨by decide, by decide⟩ (by first | exact ⟨ha1.1, ha1.2⟩ | omega) ?_
    intro z30 lz30 uz30 qz30
    have v12 := cL_a (d := 512) (a := 69) (n := 24) (b := 431) (m := 4) (by decide +kernel) (by decide) qz30 (by omega) rfl
    refine And.intro ⟨rfl, by decide, by decide⟩ ?_
    refine fload1 rL_515_515_0_19_1_0 h0 hB0 ⟨by decide, by decide⟩ (by first | exact ⟨lz29, uz29⟩ | omega) ?_
    intro z31 lz31 uz31 qz31
    have v19 := cL_a (d := 512) (a := 3) (n := 20) (b := 30) (m := 20) (by decide +kernel) (by decide) qz31 (by omega) rfl
    refine And.intro ⟨rfl, by decide, by decide⟩ ?_
    refine fload1 rL_515_515_0_19_1_0 h0 hB0 ⟨by decide, by decide⟩ (by first | exact ⟨lz30, uz30⟩ | omega) ?_
    intro z32 lz32 uz32 qz32
    have v25 := cL_a (d := 512) (a := 3) (n := 20) (b := 30) (m := 20) (by decide +kernel) (by decide) qz32 (by omega) rfl
    intro z33 hz33 ez33 bz33
    clear ez33
    have bz33 := bz33 (by omega)
    refine And.intro (by omega) (And.intro ?_ ?_)
    · intro c34
      exact fcutJ (I := I) (j := (jc_Cells_flow_6f8f5_38 x1 I)) (lv' := [(0, .inr (.inr (some 514))), (1, .inl _), (2, .inl _), (3, .inl _), (4, .inl _), (5, .inl _)]) (And.intro rfl (And.intro rfl (And.intro rfl (And.intro rfl (And.intro rfl (And.intro rfl True.intro)))))) ⟨_, _, _, _, _, rfl, rfl, ⟨by omega, rfl⟩, rfl⟩ (by omega)
    · intro c35
      exact ⟨rfl, True.intro, (sFl_0 (a := z29) (b := z30) (gt_at v5 (by omega)).symm (gt_at v12 (by omega)).symm (by omega) (by omega) (by have q1 := gt_at v19 (show _ = 30 + 20 * z29 by omega); have q2 := gt_at v25 (show _ = 30 + 20 * z30 by omega); omega) (fun k => (cR_fin cF512_ok h0 k)) (fun g hg => (cR_rng (d := 512) (i0 := 31) (i1 := 415) (m := 20) (q := 4) (lo := 0) (hi := 999999) (by decide +kernel) h0 (by omega)).2)).symm⟩
abbrev jc_Cells_flowAll_87643_2 (I0 : fH) : Nat → fL → List fV → fH → Prop := fun m lv st I => ∃ (y1 : Int), lv = [(0, .inr (.inr (some 514))), (1, .inl y1)] ∧ st = [] ∧ (((0 ≤ y1 ∧ y1 ≤ 24) ∧ (y1 ≤ I0 514 10)) ∧ ((cR 512 I) = nf sFl1 (cR 512 I0) y1.toNat)) ∧ m = (1 + 1 * (24 - y1) : Int).toNat
set_option maxRecDepth 8000 in
theorem ct_Cells_flowAll_87643 {I : fH}  (h0 : fB bsJ I)  : fC ρ base n F xTc vwCl xTys D dA la gJ (fbz bsJ znJ (fKc wz_7eac0) I) xm_88 [.inr (.inr (some 514))] I (fun I' r => r = none ∧ True ∧ (cR 512 I' = sMi2 (cR 512 I))) := by
  have hW : fzs wz_7eac0 (fKc wz_7eac0) := fKc_ok _
  refine f_meth (rb := rbJ) (J := [(2, (jc_Cells_flowAll_87643_2 I))]) 26 400 xG xin_88 x6_88 okJ (fB_self h0) ?_ ?_
  · refine List.forall_mem_cons.mpr ⟨?_, fun q h => absurd h List.not_mem_nil⟩
    · rintro m _ _ I1 hB1 ⟨y1, rfl, rfl, ⟨hb, hx0⟩, hm⟩
      have k1 := fBz_eq hB1 (a := 514) (j := 10) (by decide +kernel)
      have b2 := fBd fb_514_10 (fBz h0 hB1)
      refine And.intro ⟨rfl, by decide, by decide⟩ (fgetf fb_514_10 h0 hB1 ?_)
      intro z3 lz3 uz3 qz3
      have v4 := cL_f (d := 512) (a := 2) (j := 10) (r := 6) (p := 6) (by decide +kernel) (by decide) qz3 rfl
      refine And.intro (And.intro (by first | exact fi_ hb.1.1 hb.1.2 rfl | omega) (by first | exact fi_ lz3 uz3 rfl | omega)) (And.intro ?_ ?_)
      · intro c4
        have w6 := (cL_f (d := 512) (a := 2) (j := 10) (r := 6) (p := 6) (I := I) (z := I 514 10) (by decide +kernel) (by decide) rfl rfl)
        exact ⟨rfl, True.intro, (nf_end hx0 (by omega))⟩
      · intro c5
        refine And.intro ⟨rfl, by decide, by decide⟩ ?_
        refine fload1 rL_583_583_0_23_1_0 h0 hB1 ⟨by decide, by decide⟩ (by first | exact ⟨hb.1.1, Int.le_trans (Int.le_sub_one_of_lt (Int.lt_of_lt_of_le c5 uz3)) (by decide)⟩ | omega) ?_
        intro z6 lz6 uz6 qz6
        have v15 := cL_a (d := 512) (a := 71) (n := 24) (b := 433) (m := 4) (by decide +kernel) (by decide) qz6 (by omega) rfl
        refine And.intro (And.intro (by first | exact fi_ lz6 uz6 rfl | omega) (by first | exact ⟨by decide, by decide⟩ | omega)) (And.intro ?_ ?_)
        · intro c7
          exact fcutJ (I := I1) (j := (jc_Cells_flowAll_87643_2 I)) (lv' := [(0, .inr (.inr (some 514))), (1, .inl _)]) (And.intro rfl (And.intro rfl True.intro)) ⟨_, rfl, rfl, ⟨by omega, (nf_row hx0 (by omega) (by omega) (by exact sFl1_n (u := y1) v15 (by omega) (by omega) (by omega)))⟩, rfl⟩ (by omega)
        · intro c8
          refine Exists.intro xm_89 (And.intro mi_89 (And.intro ⟨rfl, rfl, rfl, rfl⟩ (And.intro rfl ?_)))
          refine fcall _ h0 (fzs_sub (by decide +kernel) hW) hB1 (ct_Cells_flow_6f8f5 (fBz h0 hB1) (by first | exact ⟨hb.1.1, Int.le_trans (Int.le_sub_one_of_lt (Int.lt_of_lt_of_le c5 uz3)) (by decide)⟩ | omega)) ?_
          rintro IhB10 _ hB10 fhB10 ⟨rfl, hz9, g0z9⟩
          have t11 := fhB10 514 10 (by decide +kernel)
          have k12 := fBz_eq hB10 (a := 514) (j := 10) (by decide +kernel)
          exact fcutJ (I := IhB10) (j := (jc_Cells_flowAll_87643_2 I)) (lv' := [(0, .inr (.inr (some 514))), (1, .inl _)]) (And.intro rfl (And.intro rfl True.intro)) ⟨_, rfl, rfl, ⟨by omega, (nf_row hx0 (by omega) (by omega) (by rw [g0z9]; exact sFl1_y v15 (by omega) (by omega) (by omega)))⟩, rfl⟩ (by omega)
  · have hB0 := fB_self (zn := znJ) (K := fKc wz_7eac0) h0
    have b13 := fBd fb_514_10 (fBz h0 hB0)
    exact fcutJ (I := I) (j := (jc_Cells_flowAll_87643_2 I)) (lv' := [(0, .inr (.inr (some 514))), (1, .inl _)]) (And.intro rfl (And.intro rfl True.intro)) ⟨_, rfl, rfl, ⟨by omega, rfl⟩, rfl⟩ (by omega)
set_option maxRecDepth 8000 in
theorem ct_People_isDead_16e8f {I : fH} {x1 : Int} (h0 : fB bsJ I) (ha1 : (0 ≤ x1 ∧ x1 ≤ 23)) : fC ρ base n F xTc vwCl xTys D dA la gJ (fbz bsJ znJ (fKc []) I) xm_21 [.inr (.inr (some 689)), .inl x1] I (fun _ r => ∃ z, r = some (.inl z) ∧ (0 ≤ z ∧ z ≤ 1) ∧ ((z = 1 ∧ sDd (cR 512 I) x1) ∨ (z = 0 ∧ ¬ sDd (cR 512 I) x1))) := by
  have hW : fzs [] (fKc []) := fKc_ok _
  refine f_meth (rb := rbJ) (J := []) 1 400 xG xin_21 x6_21 okJ (fB_self h0) ?_ ?_
  · exact fun q h => absurd h List.not_mem_nil
  · have hB0 := fB_self (zn := znJ) (K := fKc []) h0
    refine And.intro ⟨rfl, by decide, by decide⟩ ?_
    refine fload1 rL_693_693_0_23_1_0 h0 hB0 ⟨by decide, by decide⟩ (by first | exact ⟨ha1.1, ha1.2⟩ | omega) ?_
    intro z1 lz1 uz1 qz1
    have v5 := cL_a (d := 512) (a := 181) (n := 24) (b := 873) (m := 6) (by decide +kernel) (by decide) qz1 (by omega) rfl
    refine And.intro (And.intro (by first | exact fi_ lz1 uz1 rfl | omega) (by first | exact ⟨by decide, by decide⟩ | omega)) (And.intro ?_ ?_)
    · intro c2
      refine And.intro (⟨by omega, by omega⟩) ?_
      exact ⟨_, rfl, by omega, (sDd_of v5 (by omega) (by omega))⟩
    · intro c3
      refine And.intro (⟨by decide, by decide⟩) ?_
      exact ⟨_, rfl, (by first | exact ⟨by decide, by decide⟩ | omega), (sDd_of v5 (by omega) (by omega))⟩
abbrev jc_Cells_leakAll_a583d_2 (I0 : fH) : Nat → fL → List fV → fH → Prop := fun m lv st I => ∃ (y1 : Int), lv = [(0, .inr (.inr (some 514))), (1, .inl y1)] ∧ st = [] ∧ (((0 ≤ y1 ∧ y1 ≤ 20) ∧ (y1 ≤ I0 514 5)) ∧ ((cR 512 I) = nf sLk (cR 512 I0) y1.toNat)) ∧ m = (7 + 7 * (20 - y1) : Int).toNat
abbrev jc_Cells_leakAll_a583d_12 (I0 : fH) : Nat → fL → List fV → fH → Prop := fun m lv st I => ∃ (y1 : Int) (y2 : Int), lv = [(0, .inr (.inr (some 514))), (1, .inl y1), (2, .inl y2)] ∧ st = [] ∧ (((0 ≤ y1 ∧ y1 ≤ 19) ∧ (0 ≤ y2 ∧ y2 ≤ 5) ∧ (1 ≤ I 514 5 ∧ I 514 5 ≤ 20) ∧ (y1 + 1 ≤ I0 514 5)) ∧ ((cR 512 I) = nf (sLkg y1) (nf sLk (cR 512 I0) y1.toNat) y2.toNat)) ∧ m = (1 + 7 * (20 - y1) + 1 * (5 - y2) : Int).toNat
set_option maxRecDepth 8000 in
theorem ct_Cells_leakAll_a583d {I : fH}  (h0 : fB bsJ I)  : fC ρ base n F xTc vwCl xTys D dA la gJ (fbz bsJ znJ (fKc wz_7eac0) I) xm_90 [.inr (.inr (some 514))] I (fun I' r => r = none ∧ True ∧ (cR 512 I' = sMi3 (cR 512 I))) := by
  have hW : fzs wz_7eac0 (fKc wz_7eac0) := fKc_ok _
  refine f_meth (rb := rbJ) (J := [(2, (jc_Cells_leakAll_a583d_2 I)), (12, (jc_Cells_leakAll_a583d_12 I))]) 148 400 xG xin_90 x6_90 okJ (fB_self h0) ?_ ?_
  · refine List.forall_mem_cons.mpr ⟨?_, List.forall_mem_cons.mpr ⟨?_, fun q h => absurd h List.not_mem_nil⟩⟩
    · rintro m _ _ I1 hB1 ⟨y1, rfl, rfl, ⟨hb, hx0⟩, hm⟩
      have k1 := fBz_eq hB1 (a := 514) (j := 5) (by decide +kernel)
      have b2 := fBd fb_514_5 (fBz h0 hB1)
      refine And.intro ⟨rfl, by decide, by decide⟩ (fgetf fb_514_5 h0 hB1 ?_)
      intro z3 lz3 uz3 qz3
      have v4 := cL_f (d := 512) (a := 2) (j := 5) (r := 5) (p := 5) (by decide +kernel) (by decide) qz3 rfl
      refine And.intro (And.intro (by first | exact fi_ hb.1.1 hb.1.2 rfl | omega) (by first | exact fi_ lz3 uz3 rfl | omega)) (And.intro ?_ ?_)
      · intro c4
        have w5 := (cL_f (d := 512) (a := 2) (j := 5) (r := 5) (p := 5) (I := I) (z := I 514 5) (by decide +kernel) (by decide) rfl rfl)
        exact ⟨rfl, True.intro, (nf_end hx0 (by omega))⟩
      · intro c5
        exact fcutJ (I := I1) (j := (jc_Cells_leakAll_a583d_12 I)) (lv' := [(0, .inr (.inr (some 514))), (1, .inl _), (2, .inl _)]) (And.intro rfl (And.intro rfl (And.intro rfl True.intro))) ⟨_, _, rfl, rfl, ⟨by omega, hx0⟩, rfl⟩ (by omega)
    · rintro m _ _ I1 hB1 ⟨y1, y2, rfl, rfl, ⟨hb, hx0⟩, hm⟩
      have k6 := fBz_eq hB1 (a := 514) (j := 5) (by decide +kernel)
      have b7 := fBd fb_514_5 (fBz h0 hB1)
      refine And.intro (And.intro (by first | exact fi_ hb.2.1.1 hb.2.1.2 rfl | omega) (by first | exact ⟨by decide, by decide⟩ | omega)) (And.intro ?_ ?_)
      · intro c8
        exact fcutJ (I := I1) (j := (jc_Cells_leakAll_a583d_2 I)) (lv' := [(0, .inr (.inr (some 514))), (1, .inl _)]) (And.intro rfl (And.intro rfl True.intro)) ⟨_, rfl, rfl, ⟨by omega, (nf_row rfl (by omega) (by omega) (sLk_end hx0 (by omega) (by omega)))⟩, rfl⟩ (by omega)
      · intro c9
        refine And.intro ⟨rfl, by decide, by decide⟩ ?_
        refine And.intro ⟨rfl, by decide⟩ (And.intro (by first | exact ⟨hb.1.1, Int.lt_of_le_of_lt hb.1.2 (by decide)⟩ | omega) ?_)
        refine fload rL_518_537_0_4_1_0 h0 hB1 (by omega) ?_
        intro z10 lz10 uz10 qz10
        have v24 := cL_r (d := 512) (a := 6) (nr := 20) (n := 5) (b := 31) (mr := 20) (m := 1) (by decide +kernel) (by decide) qz10 (by omega) (by omega) rfl
        refine And.intro ⟨rfl, by decide, by decide⟩ ?_
        refine fload1 rL_516_516_0_19_1_0 h0 hB1 ⟨by decide, by decide⟩ (by first | exact ⟨hb.1.1, hb.1.2⟩ | omega) ?_
        intro z11 lz11 uz11 qz11
        have v30 := cL_a (d := 512) (a := 4) (n := 20) (b := 36) (m := 20) (by decide +kernel) (by decide) qz11 (by omega) rfl
        intro z12 hz12 ez12 bz12
        try replace bz12 := bz12 (by omega)
        have m31 := mul_rng lz10 uz10 lz11 uz11
        have k31 := bz12 ⟨by omega, by omega⟩
        have n31 := Int.mul_le_mul_of_nonneg_left (a := z11) (b := 99) uz11 lz10
        refine And.intro (And.intro (by omega) (And.intro (by first | exact ⟨by decide, by decide⟩ | omega) (And.intro (by first | exact by decide | omega) rfl))) ?_
        intro z13 hz13 ez13 dz13
        have dz13 := dz13 (by omega) (by omega)
        change _ = _ / _ at dz13
        refine And.intro ⟨rfl, by decide, by decide⟩ ?_
        refine And.intro ⟨rfl, by decide⟩ (And.intro (by first | exact ⟨hb.1.1, Int.lt_of_le_of_lt hb.1.2 (by decide)⟩ | omega) ?_)
        refine fload rL_518_537_0_4_1_0 h0 hB1 (by omega) ?_
        intro z14 lz14 uz14 qz14
        have v45 := cL_r (d := 512) (a := 6) (nr := 20) (n := 5) (b := 31) (mr := 20) (m := 1) (by decide +kernel) (by decide) qz14 (by omega) (by omega) rfl
        intro z15 hz15 ez15 bz15
        have bz15 := bz15 (by omega)
        refine fstore rS_518_537_0_4_1_0 (fzs_sub (by decide +kernel) hW) (by omega) (by omega) ?_
        intro IhB16 ehB16 hB16
        have t17 := fup_self ehB16
        have t18 : IhB16 514 5 = I1 514 5 := (congrFun (congrFun ehB16 514) 5).trans (fup_ne (by first | exact Or.inl (by decide) | omega))
        have k19 := fBz_eq hB16 (a := 514) (j := 5) (by decide +kernel)
        have r48 := cS_r (d := 512) (a := 6) (nr := 20) (n := 5) (b := 31) (mr := 20) (m := 1) (by decide +kernel) (by decide) ehB16 (by omega) (by omega) rfl
        refine And.intro ⟨rfl, by decide, by decide⟩ ?_
        refine And.intro ⟨rfl, by decide⟩ (And.intro (by first | exact ⟨hb.1.1, Int.lt_of_le_of_lt hb.1.2 (by decide)⟩ | omega) ?_)
        refine fload rL_539_558_0_4_1_0 h0 hB16 (by omega) ?_
        intro z20 lz20 uz20 qz20
        have v57 := cL_r (d := 512) (a := 27) (nr := 20) (n := 5) (b := 37) (mr := 20) (m := 1) (by decide +kernel) (by decide) qz20 (by omega) (by omega) rfl
        rw [r48] at v57
        intro z21 hz21 ez21 bz21
        try replace bz21 := bz21 (by omega)
        refine fstore rS_539_558_0_4_1_0 (fzs_sub (by decide +kernel) hW) (by omega) (by omega) ?_
        intro IhB22 ehB22 hB22
        have t23 := fup_self ehB22
        have t24 : IhB22 514 5 = IhB16 514 5 := (congrFun (congrFun ehB22 514) 5).trans (fup_ne (by first | exact Or.inl (by decide) | omega))
        have k25 := fBz_eq hB22 (a := 514) (j := 5) (by decide +kernel)
        have r60 := cS_r (d := 512) (a := 27) (nr := 20) (n := 5) (b := 37) (mr := 20) (m := 1) (by decide +kernel) (by decide) ehB22 (by omega) (by omega) rfl
        exact fcutJ (I := IhB22) (j := (jc_Cells_leakAll_a583d_12 I)) (lv' := [(0, .inr (.inr (some 514))), (1, .inl _), (2, .inl _)]) (And.intro rfl (And.intro rfl (And.intro rfl True.intro))) ⟨_, _, rfl, rfl, ⟨by omega, (nf_row hx0 (by omega) (by omega) (by rw [r60, r48]; exact (sLkg_of (by omega) (by omega) v24 (by omega) v30 (by omega) k31 (by omega) (by omega) (by omega) (by omega) hz21 ez21 v57)))⟩, rfl⟩ (by omega)
  · have hB0 := fB_self (zn := znJ) (K := fKc wz_7eac0) h0
    have b26 := fBd fb_514_5 (fBz h0 hB0)
    exact fcutJ (I := I) (j := (jc_Cells_leakAll_a583d_2 I)) (lv' := [(0, .inr (.inr (some 514))), (1, .inl _)]) (And.intro rfl (And.intro rfl True.intro)) ⟨_, rfl, rfl, ⟨by omega, rfl⟩, rfl⟩ (by omega)
abbrev jc_Works_foulAll_2e164_2 (I0 : fH) : Nat → fL → List fV → fH → Prop := fun m lv st I => ∃ (y1 : Int), lv = [(0, .inr (.inr (some 675))), (1, .inl y1)] ∧ st = [] ∧ (((0 ≤ y1 ∧ y1 ≤ 24) ∧ (y1 ≤ I0 675 13)) ∧ ((cR 512 I) = nf sFo1 (cR 512 I0) y1.toNat)) ∧ m = (1 + 1 * (24 - y1) : Int).toNat
set_option maxRecDepth 8000 in
theorem ct_Works_foulAll_2e164 {I : fH}  (h0 : fB bsJ I) (hp0 : okA (cR 512 I)) : fC ρ base n F xTc vwCl xTys D dA la gJ (fbz bsJ znJ (fKc wz_4c809) I) xm_95 [.inr (.inr (some 675))] I (fun I' r => r = none ∧ True ∧ (cR 512 I' = sMi6 (cR 512 I))) := by
  have hW : fzs wz_4c809 (fKc wz_4c809) := fKc_ok _
  refine f_meth (rb := rbJ) (J := [(2, (jc_Works_foulAll_2e164_2 I))]) 26 400 xG xin_95 x6_95 okJ (fB_self h0) ?_ ?_
  · refine List.forall_mem_cons.mpr ⟨?_, fun q h => absurd h List.not_mem_nil⟩
    · rintro m _ _ I1 hB1 ⟨y1, rfl, rfl, ⟨hb, hx0⟩, hm⟩
      have k1 := fBz_eq hB1 (a := 675) (j := 13) (by decide +kernel)
      have b2 := fBd fb_675_13 (fBz h0 hB1)
      have wk : okA (cR 512 I1) := (by rw [hx0]; exact okA_fo hp0)
      refine And.intro ⟨rfl, by decide, by decide⟩ (fgetf fb_675_13 h0 hB1 ?_)
      intro z3 lz3 uz3 qz3
      have v4 := cL_f (d := 512) (a := 163) (j := 13) (r := 7) (p := 7) (by decide +kernel) (by decide) qz3 rfl
      refine And.intro (And.intro (by first | exact fi_ hb.1.1 hb.1.2 rfl | omega) (by first | exact fi_ lz3 uz3 rfl | omega)) (And.intro ?_ ?_)
      · intro c4
        have w7 := (cL_f (d := 512) (a := 163) (j := 13) (r := 7) (p := 7) (I := I) (z := I 675 13) (by decide +kernel) (by decide) rfl rfl)
        exact ⟨rfl, True.intro, (nf_end hx0 (by omega))⟩
      · intro c5
        refine And.intro ⟨rfl, by decide, by decide⟩ ?_
        refine fload1 rL_686_686_0_23_1_0 h0 hB1 ⟨by decide, by decide⟩ (by first | exact ⟨hb.1.1, Int.le_trans (Int.le_sub_one_of_lt (Int.lt_of_lt_of_le c5 uz3)) (by decide)⟩ | omega) ?_
        intro z6 lz6 uz6 qz6
        have v15 := cL_a (d := 512) (a := 174) (n := 24) (b := 538) (m := 14) (by decide +kernel) (by decide) qz6 (by omega) rfl
        refine And.intro (by first | exact fi_ lz6 uz6 rfl | omega) (And.intro ?_ ?_)
        · intro c7
          exact fcutJ (I := I1) (j := (jc_Works_foulAll_2e164_2 I)) (lv' := [(0, .inr (.inr (some 675))), (1, .inl _)]) (And.intro rfl (And.intro rfl True.intro)) ⟨_, rfl, rfl, ⟨by omega, (nf_row hx0 (by omega) (by omega) (by exact (sFo1_n (u := y1) v15 (by omega) (by omega) (by omega))))⟩, rfl⟩ (by omega)
        · intro c8
          refine And.intro ⟨rfl, by decide, by decide⟩ ?_
          refine fload1 rL_682_682_0_23_1_0 h0 hB1 ⟨by decide, by decide⟩ (by first | exact ⟨hb.1.1, Int.le_trans (Int.le_sub_one_of_lt (Int.lt_of_lt_of_le c5 uz3)) (by decide)⟩ | omega) ?_
          intro z9 lz9 uz9 qz9
          have v25 := cL_a (d := 512) (a := 170) (n := 24) (b := 542) (m := 14) (by decide +kernel) (by decide) qz9 (by omega) rfl
          have w25 := okA_sum (w := y1) wk v25 (by omega) (by omega)
          refine And.intro ⟨rfl, by decide, by decide⟩ ?_
          refine fload1 rL_681_681_0_23_1_0 h0 hB1 ⟨by decide, by decide⟩ (by first | exact ⟨hb.1.1, Int.le_trans (Int.le_sub_one_of_lt (Int.lt_of_lt_of_le c5 uz3)) (by decide)⟩ | omega) ?_
          intro z10 lz10 uz10 qz10
          have v31 := cL_a (d := 512) (a := 169) (n := 24) (b := 541) (m := 14) (by decide +kernel) (by decide) qz10 (by omega) rfl
          intro z11 hz11 ez11 bz11
          clear ez11
          try replace bz11 := bz11 (by omega)
          refine fstore1 rS_682_682_0_23_1_0 (fzs_sub (by decide +kernel) hW) ⟨by decide, by decide⟩ (by first | exact ⟨hb.1.1, Int.le_trans (Int.le_sub_one_of_lt (Int.lt_of_lt_of_le c5 uz3)) (by decide)⟩ | omega) (by omega) ?_
          intro IhB12 ehB12 hB12
          have t13 := fup_self ehB12
          have t14 : IhB12 675 13 = I1 675 13 := (congrFun (congrFun ehB12 675) 13).trans (fup_ne (by first | exact Or.inl (by decide) | omega))
          have k15 := fBz_eq hB12 (a := 675) (j := 13) (by decide +kernel)
          have r33 := cS_a (d := 512) (a := 170) (n := 24) (b := 542) (m := 14) (by decide +kernel) (by decide) ehB12 (by omega) rfl
          refine And.intro ⟨rfl, by decide, by decide⟩ ?_
          refine And.intro ⟨rfl, by decide, by decide⟩ ?_
          refine fload1 rL_680_680_0_23_1_0 h0 hB12 ⟨by decide, by decide⟩ (by first | exact ⟨hb.1.1, Int.le_trans (Int.le_sub_one_of_lt (Int.lt_of_lt_of_le c5 uz3)) (by decide)⟩ | omega) ?_
          intro z16 lz16 uz16 qz16
          have v46 := cL_a (d := 512) (a := 168) (n := 24) (b := 534) (m := 14) (by decide +kernel) (by decide) qz16 (by omega) rfl
          rw [r33] at v46
          refine And.intro ⟨rfl, by decide, by decide⟩ ?_
          refine fload1 rL_682_682_0_23_1_0 h0 hB12 ⟨by decide, by decide⟩ (by first | exact ⟨hb.1.1, Int.le_trans (Int.le_sub_one_of_lt (Int.lt_of_lt_of_le c5 uz3)) (by decide)⟩ | omega) ?_
          intro z17 lz17 uz17 qz17
          have v52 := cL_a (d := 512) (a := 170) (n := 24) (b := 542) (m := 14) (by decide +kernel) (by decide) qz17 (by omega) rfl
          rw [r33] at v52
          have w52 := gt_e (by omega) (by omega) v52
          refine And.intro (And.intro (by first | exact fi_ lz17 uz17 rfl | omega) (And.intro (by first | exact ⟨by decide, by decide⟩ | omega) (And.intro (by first | exact by decide | omega) rfl))) ?_
          intro z18 hz18 ez18 dz18
          have dz18 := dz18 (by omega) (by omega)
          change _ = _ / _ at dz18
          intro z19 hz19 ez19 bz19
          clear ez19
          try replace bz19 := bz19 (by omega)
          refine And.intro (And.intro (by first | exact ⟨by decide, by decide⟩ | omega) (And.intro (by omega) rfl)) ?_
          intro z20 hz20
          refine fstore1 rS_680_680_0_23_1_0 (fzs_sub (by decide +kernel) hW) ⟨by decide, by decide⟩ (by first | exact ⟨hb.1.1, Int.le_trans (Int.le_sub_one_of_lt (Int.lt_of_lt_of_le c5 uz3)) (by decide)⟩ | omega) (by omega) ?_
          intro IhB21 ehB21 hB21
          have t22 := fup_self ehB21
          have t23 : IhB21 675 13 = IhB12 675 13 := (congrFun (congrFun ehB21 675) 13).trans (fup_ne (by first | exact Or.inl (by decide) | omega))
          have k24 := fBz_eq hB21 (a := 675) (j := 13) (by decide +kernel)
          have r60 := cS_a (d := 512) (a := 168) (n := 24) (b := 534) (m := 14) (by decide +kernel) (by decide) ehB21 (by omega) rfl
          refine And.intro ⟨rfl, by decide, by decide⟩ ?_
          refine fload1 rL_682_682_0_23_1_0 h0 hB21 ⟨by decide, by decide⟩ (by first | exact ⟨hb.1.1, Int.le_trans (Int.le_sub_one_of_lt (Int.lt_of_lt_of_le c5 uz3)) (by decide)⟩ | omega) ?_
          intro z25 lz25 uz25 qz25
          have v67 := cL_a (d := 512) (a := 170) (n := 24) (b := 542) (m := 14) (by decide +kernel) (by decide) qz25 (by omega) rfl
          rw [r60, r33] at v67
          have w67 := gt_e (by omega) (by omega) (gt_n (by omega) (by omega) v67)
          refine And.intro (And.intro (by first | exact fi_ lz25 uz25 rfl | omega) (And.intro (by first | exact ⟨by decide, by decide⟩ | omega) (And.intro (by first | exact by decide | omega) rfl))) ?_
          intro z26 hz26 ez26 dz26
          have dz26 := dz26 (by omega) (by omega)
          change _ = _ % _ at dz26
          refine fstore1 rS_682_682_0_23_1_0 (fzs_sub (by decide +kernel) hW) ⟨by decide, by decide⟩ (by first | exact ⟨hb.1.1, Int.le_trans (Int.le_sub_one_of_lt (Int.lt_of_lt_of_le c5 uz3)) (by decide)⟩ | omega) (by omega) ?_
          intro IhB27 ehB27 hB27
          have t28 := fup_self ehB27
          have t29 : IhB27 675 13 = IhB21 675 13 := (congrFun (congrFun ehB27 675) 13).trans (fup_ne (by first | exact Or.inl (by decide) | omega))
          have k30 := fBz_eq hB27 (a := 675) (j := 13) (by decide +kernel)
          have r71 := cS_a (d := 512) (a := 170) (n := 24) (b := 542) (m := 14) (by decide +kernel) (by decide) ehB27 (by omega) rfl
          exact fcutJ (I := IhB27) (j := (jc_Works_foulAll_2e164_2 I)) (lv' := [(0, .inr (.inr (some 675))), (1, .inl _)]) (And.intro rfl (And.intro rfl True.intro)) ⟨_, rfl, rfl, ⟨by omega, (nf_row hx0 (by omega) (by omega) (by rw [r71, r60, r33]; exact ((sFo_of (w := y1) (by omega) v25 (by omega) v31 (by omega) (by omega) (by omega) v46 (by omega) (gt_e (by omega) (by omega) v52) (by omega) (mn_le (by omega) (by omega) (by omega)) (by omega) (gt_e (by omega) (by omega) (gt_n (by omega) (by omega) v67)) (by omega)).trans (sFo1_y v15 (by omega) (by omega) (by omega)))))⟩, rfl⟩ (by omega)
  · have hB0 := fB_self (zn := znJ) (K := fKc wz_4c809) h0
    have b31 := fBd fb_675_13 (fBz h0 hB0)
    exact fcutJ (I := I) (j := (jc_Works_foulAll_2e164_2 I)) (lv' := [(0, .inr (.inr (some 675))), (1, .inl _)]) (And.intro rfl (And.intro rfl True.intro)) ⟨_, rfl, rfl, ⟨by omega, rfl⟩, rfl⟩ (by omega)
end CT

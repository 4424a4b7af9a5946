/-! contracts (written by gen95.py) -/
theorem x6_485 : f60c xTc xTys xm_485 = true := by decide +kernel
theorem x6_486 : f60c xTc xTys xm_486 = true := by decide +kernel
theorem x6_478 : f60c xTc xTys xm_478 = true := by decide +kernel
theorem x6_477 : f60c xTc xTys xm_477 = true := by decide +kernel
theorem x6_476 : f60c xTc xTys xm_476 = true := by decide +kernel
theorem x6_216 : f60c xTc xTys xm_216 = true := by decide +kernel
theorem rL_736_736_0_6_1_0 : frL gJ bsJ 100 ((736, 736), (0, 6), (1, 0), (0, 6)) := frL_of (by decide +kernel)
theorem x6_487 : f60c xTc xTys xm_487 = true := by decide +kernel
theorem rL_758_758_0_6_1_0 : frL gJ bsJ 100 ((758, 758), (0, 6), (1, 0), (0, 6)) := frL_of (by decide +kernel)
abbrev wz_ea84a : List Nat := [738, 10014]
theorem x6_217 : f60c xTc xTys xm_217 = true := by decide +kernel
theorem fb_0_14 : bsJ 0 14 = (0, 60) := by decide +kernel
theorem rS_738_738_0_59_1_0 : frS gJ bsJ znJ [738] 100 ((738, 738), (0, 59), (1, 0), ((-2147483648), 2147483647)) := frS_dflt (by decide) (by decide +kernel)
abbrev wz_f12ac : List Nat := [759, 12237]
theorem x6_488 : f60c xTc xTys xm_488 = true := by decide +kernel
theorem fb_740_37 : bsJ 740 37 = (0, 60) := by decide +kernel
theorem rS_759_759_0_59_1_0 : frS gJ bsJ znJ [759] 100 ((759, 759), (0, 59), (1, 0), ((-2147483648), 2147483647)) := frS_dflt (by decide) (by decide +kernel)
theorem x6_220 : f60c xTc xTys xm_220 = true := by decide +kernel
theorem rL_738_738_0_59_1_0 : frL gJ bsJ 100 ((738, 738), (0, 59), (1, 0), ((-2147483648), 2147483647)) := frL_hull (by decide) (by decide +kernel)
theorem rL_739_739_0_59_1_0 : frL gJ bsJ 100 ((739, 739), (0, 59), (1, 0), ((-2147483648), 2147483647)) := frL_hull (by decide) (by decide +kernel)
abbrev wz_b577c : List Nat := [733, 734, 739]
theorem x6_219 : f60c xTc xTys xm_219 = true := by decide +kernel
theorem rS_739_739_0_59_1_0 : frS gJ bsJ znJ [739] 100 ((739, 739), (0, 59), (1, 0), ((-2147483648), 2147483647)) := frS_dflt (by decide) (by decide +kernel)
abbrev wz_324de : List Nat := [736, 737, 739, 12102, 12103, 12104]
theorem x6_221 : f60c xTc xTys xm_221 = true := by decide +kernel
abbrev wz_7eac0 : List Nat := [517, 538]
theorem rL_518_537_0_4_1_0 : frL gJ bsJ 100 ((518, 537), (0, 4), (1, 0), ((-2147483648), 2147483647)) := frL_hull (by decide) (by decide +kernel)
theorem rS_518_537_0_4_1_0 : frS gJ bsJ znJ [517] 100 ((518, 537), (0, 4), (1, 0), ((-2147483648), 2147483647)) := frS_dflt (by decide) (by decide +kernel)
theorem rL_539_558_0_4_1_0 : frL gJ bsJ 100 ((539, 558), (0, 4), (1, 0), ((-2147483648), 2147483647)) := frL_hull (by decide) (by decide +kernel)
theorem rS_539_558_0_4_1_0 : frS gJ bsJ znJ [538] 100 ((539, 558), (0, 4), (1, 0), ((-2147483648), 2147483647)) := frS_dflt (by decide) (by decide +kernel)
theorem rL_515_515_0_19_1_0 : frL gJ bsJ 100 ((515, 515), (0, 19), (1, 0), ((-2147483648), 2147483647)) := frL_hull (by decide) (by decide +kernel)
theorem rL_582_582_0_23_1_0 : frL gJ bsJ 100 ((582, 582), (0, 23), (1, 0), ((-2147483648), 2147483647)) := frL_hull (by decide) (by decide +kernel)
theorem rL_580_580_0_23_1_0 : frL gJ bsJ 100 ((580, 580), (0, 23), (1, 0), (0, 19)) := frL_of (by decide +kernel)
theorem rL_581_581_0_23_1_0 : frL gJ bsJ 100 ((581, 581), (0, 23), (1, 0), (0, 19)) := frL_of (by decide +kernel)
theorem fb_514_10 : bsJ 514 10 = (0, 24) := by decide +kernel
theorem rL_583_583_0_23_1_0 : frL gJ bsJ 100 ((583, 583), (0, 23), (1, 0), ((-2147483648), 2147483647)) := frL_hull (by decide) (by decide +kernel)
theorem rL_693_693_0_23_1_0 : frL gJ bsJ 100 ((693, 693), (0, 23), (1, 0), ((-2147483648), 2147483647)) := frL_hull (by decide) (by decide +kernel)
theorem fb_514_5 : bsJ 514 5 = (0, 20) := by decide +kernel
theorem rL_516_516_0_19_1_0 : frL gJ bsJ 100 ((516, 516), (0, 19), (1, 0), ((-2147483648), 2147483647)) := frL_hull (by decide) (by decide +kernel)
abbrev wz_4c809 : List Nat := [680, 682]
theorem fb_675_13 : bsJ 675 13 = (0, 24) := by decide +kernel
theorem rL_686_686_0_23_1_0 : frL gJ bsJ 100 ((686, 686), (0, 23), (1, 0), ((-2147483648), 2147483647)) := frL_hull (by decide) (by decide +kernel)
theorem rL_682_682_0_23_1_0 : frL gJ bsJ 100 ((682, 682), (0, 23), (1, 0), ((-2147483648), 2147483647)) := frL_hull (by decide) (by decide +kernel)
theorem rL_681_681_0_23_1_0 : frL gJ bsJ 100 ((681, 681), (0, 23), (1, 0), ((-2147483648), 2147483647)) := frL_hull (by decide) (by decide +kernel)
theorem rS_682_682_0_23_1_0 : frS gJ bsJ znJ [682] 100 ((682, 682), (0, 23), (1, 0), ((-2147483648), 2147483647)) := frS_dflt (by decide) (by decide +kernel)
theorem rL_680_680_0_23_1_0 : frL gJ bsJ 100 ((680, 680), (0, 23), (1, 0), ((-2147483648), 2147483647)) := frL_hull (by decide) (by decide +kernel)
theorem rS_680_680_0_23_1_0 : frS gJ bsJ znJ [680] 100 ((680, 680), (0, 23), (1, 0), ((-2147483648), 2147483647)) := frS_dflt (by decide) (by decide +kernel)
theorem fb_689_4 : bsJ 689 4 = (0, 24) := by decide +kernel
theorem rL_692_692_0_23_1_0 : frL gJ bsJ 100 ((692, 692), (0, 23), (1, 0), (0, 19)) := frL_of (by decide +kernel)
theorem rL_691_691_0_23_1_0 : frL gJ bsJ 100 ((691, 691), (0, 23), (1, 0), ((-2147483648), 2147483647)) := frL_hull (by decide) (by decide +kernel)
abbrev wz_3ed0a : List Nat := [559, 584, 11412]
theorem fb_514_12 : bsJ 514 12 = (0, 90) := by decide +kernel
theorem rgG_518_537 {o : Nat} (h1 : 518 ≤ o) (h2 : o ≤ 537) : gJ.1 o = some (100, 5) ∧ ∀ j, j < 5 → gJ.2 o j = none := frG_of (a0 := 518) (a1 := 537) (by decide +kernel) h1 h2
theorem rgG_585_674 {o : Nat} (h1 : 585 ≤ o) (h2 : o ≤ 674) : gJ.1 o = some (100, 8) ∧ ∀ j, j < 8 → gJ.2 o j = none := frG_of (a0 := 585) (a1 := 674) (by decide +kernel) h1 h2
theorem rS_585_674_0_4_1_0 : frS gJ bsJ znJ [584] 100 ((585, 674), (0, 4), (1, 0), ((-2147483648), 2147483647)) := frS_of (by decide +kernel)
theorem rS_585_674_5_5_1_0 : frS gJ bsJ znJ [584] 100 ((585, 674), (5, 5), (1, 0), ((-2147483648), 2147483647)) := frS_of (by decide +kernel)
theorem rS_585_674_6_6_1_0 : frS gJ bsJ znJ [584] 100 ((585, 674), (6, 6), (1, 0), ((-2147483648), 2147483647)) := frS_of (by decide +kernel)
theorem rS_585_674_7_7_1_0 : frS gJ bsJ znJ [584] 100 ((585, 674), (7, 7), (1, 0), (0, 19)) := frS_of (by decide +kernel)
theorem rgG_560_579 {o : Nat} (h1 : 560 ≤ o) (h2 : o ≤ 579) : gJ.1 o = some (100, 6) ∧ ∀ j, j < 6 → gJ.2 o j = none := frG_of (a0 := 560) (a1 := 579) (by decide +kernel) h1 h2
theorem rS_560_579_0_5_1_0 : frS gJ bsJ znJ [559] 100 ((560, 579), (0, 5), (1, 0), ((-2147483648), 2147483647)) := frS_dflt (by decide) (by decide +kernel)
theorem fb_513_9 : bsJ 513 9 = ((-2147483648), 2147483647) := by decide +kernel
theorem fb_513_8 : bsJ 513 8 = ((-2147483648), 2147483647) := by decide +kernel
abbrev wz_10d1b : List Nat := [559]
theorem rL_585_674_7_7_1_0 : frL gJ bsJ 100 ((585, 674), (7, 7), (1, 0), (0, 19)) := frL_of (by decide +kernel)
theorem rL_585_674_5_5_1_0 : frL gJ bsJ 100 ((585, 674), (5, 5), (1, 0), ((-2147483648), 2147483647)) := frL_hull (by decide) (by decide +kernel)
theorem rL_560_579_0_5_1_0 : frL gJ bsJ 100 ((560, 579), (0, 5), (1, 0), ((-2147483648), 2147483647)) := frL_hull (by decide) (by decide +kernel)
theorem rL_585_674_0_5_1_0 : frL gJ bsJ 100 ((585, 674), (0, 5), (1, 0), ((-2147483648), 2147483647)) := frL_hull (by decide) (by decide +kernel)
theorem rL_585_674_6_6_1_0 : frL gJ bsJ 100 ((585, 674), (6, 6), (1, 0), ((-2147483648), 2147483647)) := frL_hull (by decide) (by decide +kernel)
theorem rL_690_690_0_23_1_0 : frL gJ bsJ 100 ((690, 690), (0, 23), (1, 0), ((-2147483648), 2147483647)) := frL_hull (by decide) (by decide +kernel)
abbrev wz_e70f1 : List Nat := [693]
theorem rS_693_693_0_23_1_0 : frS gJ bsJ znJ [693] 100 ((693, 693), (0, 23), (1, 0), ((-2147483648), 2147483647)) := frS_dflt (by decide) (by decide +kernel)
abbrev wz_edb18 : List Nat := [517, 538, 693]
theorem fb_513_5 : bsJ 513 5 = (0, 600) := by decide +kernel
theorem rL_676_676_0_23_1_0 : frL gJ bsJ 100 ((676, 676), (0, 23), (1, 0), ((-2147483648), 2147483647)) := frL_hull (by decide) (by decide +kernel)
theorem rL_684_684_0_23_1_0 : frL gJ bsJ 100 ((684, 684), (0, 23), (1, 0), ((-2147483648), 2147483647)) := frL_hull (by decide) (by decide +kernel)
theorem rL_696_696_0_60_1_0 : frL gJ bsJ 100 ((696, 696), (0, 60), (1, 0), ((-2147483648), 2147483647)) := frL_hull (by decide) (by decide +kernel)
theorem rL_687_687_0_23_1_0 : frL gJ bsJ 100 ((687, 687), (0, 23), (1, 0), ((-1000000005), 60)) := frL_of (by decide +kernel)
theorem rL_678_678_0_23_1_0 : frL gJ bsJ 100 ((678, 678), (0, 23), (1, 0), ((-2147483648), 2147483647)) := frL_hull (by decide) (by decide +kernel)
theorem rL_694_694_0_5_1_0 : frL gJ bsJ 100 ((694, 694), (0, 5), (1, 0), ((-2147483648), 2147483647)) := frL_hull (by decide) (by decide +kernel)
abbrev wz_007ef : List Nat := [11305]
abbrev wz_59734 : List Nat := [538, 684]
theorem rS_684_684_0_23_1_0 : frS gJ bsJ znJ [684] 100 ((684, 684), (0, 23), (1, 0), ((-2147483648), 2147483647)) := frS_dflt (by decide) (by decide +kernel)
theorem rL_677_677_0_23_1_0 : frL gJ bsJ 100 ((677, 677), (0, 23), (1, 0), (0, 19)) := frL_of (by decide +kernel)
theorem rL_683_683_0_23_1_0 : frL gJ bsJ 100 ((683, 683), (0, 23), (1, 0), ((-2147483648), 2147483647)) := frL_hull (by decide) (by decide +kernel)
theorem rL_679_679_0_23_1_0 : frL gJ bsJ 100 ((679, 679), (0, 23), (1, 0), ((-2147483648), 2147483647)) := frL_hull (by decide) (by decide +kernel)
abbrev wz_e4d0d : List Nat := [683, 685]
theorem rL_685_685_0_23_1_0 : frL gJ bsJ 100 ((685, 685), (0, 23), (1, 0), ((-2147483648), 2147483647)) := frL_hull (by decide) (by decide +kernel)
theorem rS_683_683_0_23_1_0 : frS gJ bsJ znJ [683] 100 ((683, 683), (0, 23), (1, 0), ((-2147483648), 2147483647)) := frS_dflt (by decide) (by decide +kernel)
theorem rS_685_685_0_23_1_0 : frS gJ bsJ znJ [685] 100 ((685, 685), (0, 23), (1, 0), ((-2147483648), 2147483647)) := frS_dflt (by decide) (by decide +kernel)
abbrev wz_a2d33 : List Nat := [538, 683, 684, 685]
theorem rL_698_698_0_60_1_0 : frL gJ bsJ 100 ((698, 698), (0, 60), (1, 0), ((-2147483648), 2147483647)) := frL_hull (by decide) (by decide +kernel)
theorem fb_513_7 : bsJ 513 7 = ((-2147483648), 2147483647) := by decide +kernel
theorem fb_513_6 : bsJ 513 6 = ((-2147483648), 2147483647) := by decide +kernel
abbrev wz_8d85d : List Nat := [686, 687, 688]
theorem rS_687_687_0_23_1_0 : frS gJ bsJ znJ [687] 100 ((687, 687), (0, 23), (1, 0), ((-1000000005), 60)) := frS_of (by decide +kernel)
theorem rL_688_688_0_23_1_0 : frL gJ bsJ 100 ((688, 688), (0, 23), (1, 0), ((-2147483648), 2147483647)) := frL_hull (by decide) (by decide +kernel)
theorem rL_697_697_0_60_1_0 : frL gJ bsJ 100 ((697, 697), (0, 60), (1, 0), ((-2147483648), 2147483647)) := frL_hull (by decide) (by decide +kernel)
theorem rS_688_688_0_23_1_0 : frS gJ bsJ znJ [688] 100 ((688, 688), (0, 23), (1, 0), ((-2147483648), 2147483647)) := frS_dflt (by decide) (by decide +kernel)
theorem rS_686_686_0_23_1_0 : frS gJ bsJ znJ [686] 100 ((686, 686), (0, 23), (1, 0), ((-2147483648), 2147483647)) := frS_dflt (by decide) (by decide +kernel)
abbrev wz_a50d7 : List Nat := [694, 11306]
theorem rS_694_694_0_5_1_0 : frS gJ bsJ znJ [694] 100 ((694, 694), (0, 5), (1, 0), ((-2147483648), 2147483647)) := frS_dflt (by decide) (by decide +kernel)
abbrev wz_7903c : List Nat := [517, 538, 694]
abbrev wz_791b2 : List Nat := [517, 538, 683, 684, 685, 686, 687, 688, 694, 11306]
section CT
variable {ρ : Nat → Int32} {base n : Nat} {F : Nat → Prop} {D : va_G} {dA : Nat → ClassId} {la : Launch}
abbrev jc_M_seek_58809_29 : Nat → fL → List fV → fH → Prop := fun m lv st I => ∃ (y2 : Int) (y6 : Int), lv = [(0, .inr (.inr (some 740))), (2, .inl y2), (6, .inl y6)] ∧ st = [] ∧ (((1 ≤ y2 ∧ y2 ≤ 1) ∧ (0 ≤ y6 ∧ y6 ≤ 1) ∧ ((-2147483647) ≤ I 740 33 ∧ I 740 33 ≤ 2147483647) ∧ (1 ≤ I 741 12 ∧ I 741 12 ≤ 1))) ∧ m = (9 + 1 * (1 - y6) : Int).toNat
abbrev jc_M_seek_58809_59 : Nat → fL → List fV → fH → Prop := fun m lv st I => ∃ (y1 : Int) (y2 : Int) (y3 : Int) (y4 : Int) (y5 : Int) (y6 : Int), lv = [(0, .inr (.inr (some 740))), (1, .inl y1), (2, .inl y2), (3, .inl y3), (4, .inl y4), (5, .inl y5), (6, .inl y6)] ∧ st = [] ∧ (((1 ≤ y1 ∧ y1 ≤ 60) ∧ (1 ≤ y2 ∧ y2 ≤ 1) ∧ ((-2147483648) ≤ y3 ∧ y3 ≤ 2147483647) ∧ (0 ≤ y4 ∧ y4 ≤ 9) ∧ ((-2147483648) ≤ y5 ∧ y5 ≤ 2147483647) ∧ (0 ≤ y6 ∧ y6 ≤ 7) ∧ (y2 < I 741 12))) ∧ m = (1 + 1 * (7 - y6) : Int).toNat
set_option maxRecDepth 8000 in
theorem ct_M_seek_58809 {I : fH} {x1 : Int} {x2 : Int} {x3 : Int} {x4 : Int} {x5 : Int} (h0 : fB bsJ I) (ha1 : (1 ≤ x1 ∧ x1 ≤ 60)) (ha2 : (1 ≤ x2 ∧ x2 ≤ 1)) (ha3 : ((-2147483648) ≤ x3 ∧ x3 ≤ 2147483647)) (ha4 : (0 ≤ x4 ∧ x4 ≤ 9)) (ha5 : ((-2147483648) ≤ x5 ∧ x5 ≤ 2147483647)) (hp0 : x2 = 1) (hp1 : x2 ≤ I 741 12) : fC ρ base n F xTc vwCl xTys D dA la gJ (fbz bsJ znJ (fKc wz_4d25e) I) xm_485 [.inr (.inr (some 740)), .inl x1, .inl x2, .inl x3, .inl x4, .inl x5] I (fun _ r => r = none) := by
  have hW : fzs wz_4d25e (fKc wz_4d25e) := fKc_ok _
  refine f_meth (rb := rbJ) (J := [(29, jc_M_seek_58809_29), (59, jc_M_seek_58809_59)]) 11 400 xG xin_485 x6_485 okJ (fB_self h0) ?_ ?_
  · refine List.forall_mem_cons.mpr ⟨?_, List.forall_mem_cons.mpr ⟨?_, fun q h => absurd h List.not_mem_nil⟩⟩
    · rintro m _ _ I1 hB1 ⟨y2, y6, rfl, rfl, hb, hm⟩
      have k1 := fBz_eq hB1 (a := 741) (j := 12) (by decide +kernel)
      refine And.intro (by omega) (And.intro ?_ ?_)
      · intro c2
        exact rfl
      · intro c3
        refine And.intro ⟨rfl, by decide, by decide⟩ ?_
        refine And.intro ⟨rfl, by decide, by decide⟩ ?_
        refine fload rL_757_757_0_6_1_0 h0 hB1 (by omega) ?_
        intro z4 lz4 uz4 qz4
        have pz4 := fld_at qz4 0 (by omega)
        refine fstore rS_758_758_0_6_1_0 (fzs_sub (by decide +kernel) hW) (by omega) (by omega) ?_
        intro IhB5 ehB5 hB5
        have t6 := fup_self ehB5
        have t7 : IhB5 740 33 = I1 740 33 := (congrFun (congrFun ehB5 740) 33).trans (fup_ne (by omega))
        have t8 : IhB5 741 12 = I1 741 12 := (congrFun (congrFun ehB5 741) 12).trans (fup_ne (by omega))
        have t9 : IhB5 757 0 = I1 757 0 := (congrFun (congrFun ehB5 757) 0).trans (fup_ne (by omega))
        have t10 := fup_at ehB5 0 (by omega)
        have k11 := fBz_eq hB5 (a := 741) (j := 12) (by decide +kernel)
        exact fcutJ (I := IhB5) (j := jc_M_seek_58809_29) (lv' := [(0, .inr (.inr (some 740))), (2, .inl _), (6, .inl _)]) (And.intro rfl (And.intro rfl (And.intro rfl True.intro))) ⟨_, _, rfl, rfl, by omega, rfl⟩ (by omega)
    · rintro m _ _ I1 hB1 ⟨y1, y2, y3, y4, y5, y6, rfl, rfl, hb, hm⟩
      have k12 := fBz_eq hB1 (a := 741) (j := 12) (by decide +kernel)
      refine And.intro ⟨rfl, by decide, by decide⟩ ?_
      refine fload rL_741_741_12_12_1_0 h0 hB1 (by omega) ?_
      intro z13 lz13 uz13 qz13
      have pz13 := fld_at qz13 12 (by omega)
      refine And.intro (by omega) (And.intro ?_ ?_)
      · intro c14
        exact rfl
      · intro c15
        refine And.intro ⟨rfl, by decide, by decide⟩ (fgetf fb_740_35 h0 hB1 ?_)
        intro z16 lz16 uz16 qz16
        refine And.intro (by omega) (And.intro ?_ ?_)
        · intro c17
          exact rfl
        · intro c18
          intro z19 hz19 ez19
          intro z20 hz20 ez20 bz20
          clear ez20
          have bz20 := bz20 (by omega)
          refine And.intro (by omega) (And.intro ?_ ?_)
          · intro c21
            exact fcutJ (I := I1) (j := jc_M_seek_58809_59) (lv' := [(0, .inr (.inr (some 740))), (1, .inl _), (2, .inl _), (3, .inl _), (4, .inl _), (5, .inl _), (6, .inl _)]) (And.intro rfl (And.intro rfl (And.intro rfl (And.intro rfl (And.intro rfl (And.intro rfl (And.intro rfl True.intro))))))) ⟨_, _, _, _, _, _, rfl, rfl, by omega, rfl⟩ (by omega)
          · intro c22
            refine And.intro ⟨rfl, by decide, by decide⟩ ?_
            refine fload rL_741_741_4372_4390_3_0 h0 hB1 (by omega) ?_
            intro z23 lz23 uz23 qz23
            intro z24 hz24 ez24
            intro z25 hz25 ez25 bz25
            clear ez25
            clear bz25
            refine And.intro (by omega) (And.intro ?_ ?_)
            · intro c26
              refine And.intro ⟨rfl, by decide, by decide⟩ (fgetf fb_740_34 h0 hB1 ?_)
              intro z27 lz27 uz27 qz27
              refine And.intro (by omega) (And.intro ?_ ?_)
              · intro c28
                refine And.intro ⟨rfl, by decide, by decide⟩ (And.intro rfl (And.intro (Or.inr ⟨rfl, by omega⟩) (fputf fb_740_35 (by decide +kernel) hW (by omega) ?_)))
                intro IhB29 ehB29 hB29
                have t30 : IhB29 740 34 = I1 740 34 := (congrFun (congrFun ehB29 740) 34).trans (fup_ne (by omega))
                have t31 := fup_at ehB29 35 (by omega)
                have t32 : IhB29 741 12 = I1 741 12 := (congrFun (congrFun ehB29 741) 12).trans (fup_ne (by omega))
                have k33 := fBz_eq hB29 (a := 741) (j := 12) (by decide +kernel)
                refine And.intro ⟨rfl, by decide, by decide⟩ (fgetf fb_740_35 h0 hB29 ?_)
                intro z34 lz34 uz34 qz34
                refine And.intro (by omega) (And.intro ?_ ?_)
                · intro c35
                  exact fcutJ (I := IhB29) (j := jc_M_seek_58809_59) (lv' := [(0, .inr (.inr (some 740))), (1, .inl _), (2, .inl _), (3, .inl _), (4, .inl _), (5, .inl _), (6, .inl _)]) (And.intro rfl (And.intro rfl (And.intro rfl (And.intro rfl (And.intro rfl (And.intro rfl (And.intro rfl True.intro))))))) ⟨_, _, _, _, _, _, rfl, rfl, by omega, rfl⟩ (by omega)
                · intro c36
                  refine And.intro ⟨rfl, by decide, by decide⟩ (fgetf fb_740_34 h0 hB29 ?_)
                  intro z37 lz37 uz37 qz37
                  intro z38 hz38 ez38 bz38
                  clear ez38
                  try replace bz38 := bz38 (by omega)
                  refine And.intro ⟨rfl, by decide, by decide⟩ (And.intro rfl (And.intro (Or.inl rfl) (fputf fb_740_34 (by decide +kernel) hW (by omega) ?_)))
                  intro IhB39 ehB39 hB39
                  have t40 := fup_at ehB39 34 (by omega)
                  have t41 : IhB39 740 35 = IhB29 740 35 := (congrFun (congrFun ehB39 740) 35).trans (fup_ne (by omega))
                  have t42 : IhB39 741 12 = IhB29 741 12 := (congrFun (congrFun ehB39 741) 12).trans (fup_ne (by omega))
                  have k43 := fBz_eq hB39 (a := 741) (j := 12) (by decide +kernel)
                  refine And.intro ⟨rfl, by decide, by decide⟩ ?_
                  refine fstore rS_757_757_0_6_1_0 (fzs_sub (by decide +kernel) hW) (by omega) (by omega) ?_
                  intro IhB44 ehB44 hB44
                  have t45 := fup_self ehB44
                  have t46 : IhB44 740 34 = IhB39 740 34 := (congrFun (congrFun ehB44 740) 34).trans (fup_ne (by omega))
                  have t47 : IhB44 740 35 = IhB39 740 35 := (congrFun (congrFun ehB44 740) 35).trans (fup_ne (by omega))
                  have t48 : IhB44 741 12 = IhB39 741 12 := (congrFun (congrFun ehB44 741) 12).trans (fup_ne (by omega))
                  have k49 := fBz_eq hB44 (a := 741) (j := 12) (by decide +kernel)
                  refine And.intro ⟨rfl, by decide, by decide⟩ ?_
                  refine fload rL_741_741_4370_4388_3_0 h0 hB44 (by omega) ?_
                  intro z50 lz50 uz50 qz50
                  intro z51 hz51 ez51 bz51
                  clear ez51
                  have bz51 := bz51 (by omega)
                  intro z52 hz52 ez52
                  intro z53 hz53 ez53
                  refine And.intro (by omega) (And.intro ?_ ?_)
                  · intro c54
                    intro z55 hz55 ez55 bz55
                    clear ez55
                    try replace bz55 := bz55 (by omega)
                    refine Exists.intro xm_484 (And.intro mi_484 (And.intro ⟨rfl, rfl, rfl, rfl⟩ (And.intro rfl ?_)))
                    refine fcall _ h0 (fzs_sub (by decide +kernel) hW) hB44 (ct_M_seek_92ac3 (fBz h0 hB44) (by omega) (by omega) (by omega) (by omega) (by omega) (by omega) (by omega)) ?_
                    rintro IhB57 _ hB57 fhB57 rfl
                    have t58 := fhB57 741 12 (by decide +kernel)
                    have k59 := fBz_eq hB57 (a := 741) (j := 12) (by decide +kernel)
                    exact fcutJ (I := IhB57) (j := jc_M_seek_58809_59) (lv' := [(0, .inr (.inr (some 740))), (1, .inl _), (2, .inl _), (3, .inl _), (4, .inl _), (5, .inl _), (6, .inl _)]) (And.intro rfl (And.intro rfl (And.intro rfl (And.intro rfl (And.intro rfl (And.intro rfl (And.intro rfl True.intro))))))) ⟨_, _, _, _, _, _, rfl, rfl, by omega, rfl⟩ (by omega)
                  · intro c60
                    refine And.intro ⟨rfl, by decide, by decide⟩ ?_
                    refine fload rL_741_741_4371_4389_3_0 h0 hB44 (by omega) ?_
                    intro z61 lz61 uz61 qz61
                    intro z62 hz62 ez62 bz62
                    clear ez62
                    have bz62 := bz62 (by omega)
                    intro z63 hz63 ez63 bz63
                    clear ez63
                    try replace bz63 := bz63 (by omega)
                    intro z64 hz64 ez64 bz64
                    clear ez64
                    try replace bz64 := bz64 (by omega)
                    refine Exists.intro xm_484 (And.intro mi_484 (And.intro ⟨rfl, rfl, rfl, rfl⟩ (And.intro rfl ?_)))
                    refine fcall _ h0 (fzs_sub (by decide +kernel) hW) hB44 (ct_M_seek_92ac3 (fBz h0 hB44) (by omega) (by omega) (by omega) (by omega) (by omega) (by omega) (by omega)) ?_
                    rintro IhB66 _ hB66 fhB66 rfl
                    have t67 := fhB66 741 12 (by decide +kernel)
                    have k68 := fBz_eq hB66 (a := 741) (j := 12) (by decide +kernel)
                    exact fcutJ (I := IhB66) (j := jc_M_seek_58809_59) (lv' := [(0, .inr (.inr (some 740))), (1, .inl _), (2, .inl _), (3, .inl _), (4, .inl _), (5, .inl _), (6, .inl _)]) (And.intro rfl (And.intro rfl (And.intro rfl (And.intro rfl (And.intro rfl (And.intro rfl (And.intro rfl True.intro))))))) ⟨_, _, _, _, _, _, rfl, rfl, by omega, rfl⟩ (by omega)
              · intro c69
                refine And.intro ⟨rfl, by decide, by decide⟩ (And.intro rfl (And.intro (Or.inr ⟨rfl, by omega⟩) (fputf fb_740_35 (by decide +kernel) hW (by omega) ?_)))
                intro IhB70 ehB70 hB70
                have t71 : IhB70 740 34 = I1 740 34 := (congrFun (congrFun ehB70 740) 34).trans (fup_ne (by omega))
                have t72 := fup_at ehB70 35 (by omega)
                have t73 : IhB70 741 12 = I1 741 12 := (congrFun (congrFun ehB70 741) 12).trans (fup_ne (by omega))
                have k74 := fBz_eq hB70 (a := 741) (j := 12) (by decide +kernel)
                refine And.intro ⟨rfl, by decide, by decide⟩ (fgetf fb_740_35 h0 hB70 ?_)
                intro z75 lz75 uz75 qz75
                refine And.intro (by omega) (And.intro ?_ ?_)
                · intro c76
                  exact fcutJ (I := IhB70) (j := jc_M_seek_58809_59) (lv' := [(0, .inr (.inr (some 740))), (1, .inl _), (2, .inl _), (3, .inl _), (4, .inl _), (5, .inl _), (6, .inl _)]) (And.intro rfl (And.intro rfl (And.intro rfl (And.intro rfl (And.intro rfl (And.intro rfl (And.intro rfl True.intro))))))) ⟨_, _, _, _, _, _, rfl, rfl, by omega, rfl⟩ (by omega)
                · intro c77
                  refine And.intro ⟨rfl, by decide, by decide⟩ (fgetf fb_740_34 h0 hB70 ?_)
                  intro z78 lz78 uz78 qz78
                  intro z79 hz79 ez79 bz79
                  clear ez79
                  try replace bz79 := bz79 (by omega)
                  refine And.intro ⟨rfl, by decide, by decide⟩ (And.intro rfl (And.intro (Or.inl rfl) (fputf fb_740_34 (by decide +kernel) hW (by omega) ?_)))
                  intro IhB80 ehB80 hB80
                  have t81 := fup_at ehB80 34 (by omega)
                  have t82 : IhB80 740 35 = IhB70 740 35 := (congrFun (congrFun ehB80 740) 35).trans (fup_ne (by omega))
                  have t83 : IhB80 741 12 = IhB70 741 12 := (congrFun (congrFun ehB80 741) 12).trans (fup_ne (by omega))
                  have k84 := fBz_eq hB80 (a := 741) (j := 12) (by decide +kernel)
                  refine And.intro ⟨rfl, by decide, by decide⟩ ?_
                  refine fstore rS_757_757_0_6_1_0 (fzs_sub (by decide +kernel) hW) (by omega) (by omega) ?_
                  intro IhB85 ehB85 hB85
                  have t86 := fup_self ehB85
                  have t87 : IhB85 740 34 = IhB80 740 34 := (congrFun (congrFun ehB85 740) 34).trans (fup_ne (by omega))
                  have t88 : IhB85 740 35 = IhB80 740 35 := (congrFun (congrFun ehB85 740) 35).trans (fup_ne (by omega))
                  have t89 : IhB85 741 12 = IhB80 741 12 := (congrFun (congrFun ehB85 741) 12).trans (fup_ne (by omega))
                  have k90 := fBz_eq hB85 (a := 741) (j := 12) (by decide +kernel)
                  refine And.intro ⟨rfl, by decide, by decide⟩ ?_
                  refine fload rL_741_741_4370_4388_3_0 h0 hB85 (by omega) ?_
                  intro z91 lz91 uz91 qz91
                  intro z92 hz92 ez92 bz92
                  clear ez92
                  have bz92 := bz92 (by omega)
                  intro z93 hz93 ez93
                  intro z94 hz94 ez94
                  refine And.intro (by omega) (And.intro ?_ ?_)
                  · intro c95
                    intro z96 hz96 ez96 bz96
                    clear ez96
                    try replace bz96 := bz96 (by omega)
                    refine Exists.intro xm_484 (And.intro mi_484 (And.intro ⟨rfl, rfl, rfl, rfl⟩ (And.intro rfl ?_)))
                    refine fcall _ h0 (fzs_sub (by decide +kernel) hW) hB85 (ct_M_seek_92ac3 (fBz h0 hB85) (by omega) (by omega) (by omega) (by omega) (by omega) (by omega) (by omega)) ?_
                    rintro IhB98 _ hB98 fhB98 rfl
                    have t99 := fhB98 741 12 (by decide +kernel)
                    have k100 := fBz_eq hB98 (a := 741) (j := 12) (by decide +kernel)
                    exact fcutJ (I := IhB98) (j := jc_M_seek_58809_59) (lv' := [(0, .inr (.inr (some 740))), (1, .inl _), (2, .inl _), (3, .inl _), (4, .inl _), (5, .inl _), (6, .inl _)]) (And.intro rfl (And.intro rfl (And.intro rfl (And.intro rfl (And.intro rfl (And.intro rfl (And.intro rfl True.intro))))))) ⟨_, _, _, _, _, _, rfl, rfl, by omega, rfl⟩ (by omega)
                  · intro c101
                    refine And.intro ⟨rfl, by decide, by decide⟩ ?_
                    refine fload rL_741_741_4371_4389_3_0 h0 hB85 (by omega) ?_
                    intro z102 lz102 uz102 qz102
                    intro z103 hz103 ez103 bz103
                    clear ez103
                    have bz103 := bz103 (by omega)
                    intro z104 hz104 ez104 bz104
                    clear ez104
                    try replace bz104 := bz104 (by omega)
                    intro z105 hz105 ez105 bz105
                    clear ez105
                    try replace bz105 := bz105 (by omega)
                    refine Exists.intro xm_484 (And.intro mi_484 (And.intro ⟨rfl, rfl, rfl, rfl⟩ (And.intro rfl ?_)))
                    refine fcall _ h0 (fzs_sub (by decide +kernel) hW) hB85 (ct_M_seek_92ac3 (fBz h0 hB85) (by omega) (by omega) (by omega) (by omega) (by omega) (by omega) (by omega)) ?_
                    rintro IhB107 _ hB107 fhB107 rfl
                    have t108 := fhB107 741 12 (by decide +kernel)
                    have k109 := fBz_eq hB107 (a := 741) (j := 12) (by decide +kernel)
                    exact fcutJ (I := IhB107) (j := jc_M_seek_58809_59) (lv' := [(0, .inr (.inr (some 740))), (1, .inl _), (2, .inl _), (3, .inl _), (4, .inl _), (5, .inl _), (6, .inl _)]) (And.intro rfl (And.intro rfl (And.intro rfl (And.intro rfl (And.intro rfl (And.intro rfl (And.intro rfl True.intro))))))) ⟨_, _, _, _, _, _, rfl, rfl, by omega, rfl⟩ (by omega)
            · intro c110
              exact fcutJ (I := I1) (j := jc_M_seek_58809_59) (lv' := [(0, .inr (.inr (some 740))), (1, .inl _), (2, .inl _), (3, .inl _), (4, .inl _), (5, .inl _), (6, .inl _)]) (And.intro rfl (And.intro rfl (And.intro rfl (And.intro rfl (And.intro rfl (And.intro rfl (And.intro rfl True.intro))))))) ⟨_, _, _, _, _, _, rfl, rfl, by omega, rfl⟩ (by omega)
  · have hB0 := fB_self (zn := znJ) (K := fKc wz_4d25e) h0
    refine And.intro ⟨rfl, by decide, by decide⟩ ?_
    refine fload rL_741_741_12_12_1_0 h0 hB0 (by omega) ?_
    intro z111 lz111 uz111 qz111
    have pz111 := fld_at qz111 12 (by omega)
    refine And.intro (by omega) (And.intro ?_ ?_)
    · intro c112
      exact fcutJ (I := I) (j := jc_M_seek_58809_59) (lv' := [(0, .inr (.inr (some 740))), (1, .inl _), (2, .inl _), (3, .inl _), (4, .inl _), (5, .inl _), (6, .inl _)]) (And.intro rfl (And.intro rfl (And.intro rfl (And.intro rfl (And.intro rfl (And.intro rfl (And.intro rfl True.intro))))))) ⟨_, _, _, _, _, _, rfl, rfl, by omega, rfl⟩ (by omega)
    · intro c113
      refine And.intro ⟨rfl, by decide, by decide⟩ (fgetf fb_740_33 h0 hB0 ?_)
      intro z114 lz114 uz114 qz114
      refine And.intro (by omega) (And.intro ?_ ?_)
      · intro c115
        exact rfl
      · intro c116
        refine And.intro ⟨rfl, by decide, by decide⟩ (And.intro rfl (And.intro (Or.inl rfl) (fputf fb_740_33 (by decide +kernel) hW (by omega) ?_)))
        intro IhB117 ehB117 hB117
        have t118 := fup_at ehB117 33 (by omega)
        have t119 : IhB117 741 12 = I 741 12 := (congrFun (congrFun ehB117 741) 12).trans (fup_ne (by omega))
        have k120 := fBz_eq hB117 (a := 741) (j := 12) (by decide +kernel)
        exact fcutJ (I := IhB117) (j := jc_M_seek_58809_29) (lv' := [(0, .inr (.inr (some 740))), (2, .inl _), (6, .inl _)]) (And.intro rfl (And.intro rfl (And.intro rfl True.intro))) ⟨_, _, rfl, rfl, by omega, rfl⟩ (by omega)
abbrev jc_M_seek_71684_59 : Nat → fL → List fV → fH → Prop := fun m lv st I => ∃ (y1 : Int) (y2 : Int) (y3 : Int) (y4 : Int) (y5 : Int) (y6 : Int), lv = [(0, .inr (.inr (some 740))), (1, .inl y1), (2, .inl y2), (3, .inl y3), (4, .inl y4), (5, .inl y5), (6, .inl y6)] ∧ st = [] ∧ (((1 ≤ y1 ∧ y1 ≤ 60) ∧ (0 ≤ y2 ∧ y2 ≤ 0) ∧ (0 ≤ y3 ∧ y3 ≤ 0) ∧ (0 ≤ y4 ∧ y4 ≤ 0) ∧ (0 ≤ y5 ∧ y5 ≤ 0) ∧ (0 ≤ y6 ∧ y6 ≤ 7) ∧ (1 ≤ I 741 12 ∧ I 741 12 ≤ 7) ∧ (y2 < I 741 12))) ∧ m = (1 + 1 * (7 - y6) : Int).toNat
set_option maxRecDepth 8000 in
theorem ct_M_seek_71684 {I : fH} {x1 : Int} {x2 : Int} {x3 : Int} {x4 : Int} {x5 : Int} (h0 : fB bsJ I) (ha1 : (1 ≤ x1 ∧ x1 ≤ 60)) (ha2 : (0 ≤ x2 ∧ x2 ≤ 0)) (ha3 : (0 ≤ x3 ∧ x3 ≤ 0)) (ha4 : (0 ≤ x4 ∧ x4 ≤ 0)) (ha5 : (0 ≤ x5 ∧ x5 ≤ 0)) (hp0 : x2 = 0) (hp1 : x2 ≤ I 741 12) : fC ρ base n F xTc vwCl xTys D dA la gJ (fbz bsJ znJ (fKc wz_4d25e) I) xm_486 [.inr (.inr (some 740)), .inl x1, .inl x2, .inl x3, .inl x4, .inl x5] I (fun _ r => r = none) := by
  have hW : fzs wz_4d25e (fKc wz_4d25e) := fKc_ok _
  refine f_meth (rb := rbJ) (J := [(59, jc_M_seek_71684_59)]) 9 400 xG xin_486 x6_486 okJ (fB_self h0) ?_ ?_
  · refine List.forall_mem_cons.mpr ⟨?_, fun q h => absurd h List.not_mem_nil⟩
    · rintro m _ _ I1 hB1 ⟨y1, y2, y3, y4, y5, y6, rfl, rfl, hb, hm⟩
      have k1 := fBz_eq hB1 (a := 741) (j := 12) (by decide +kernel)
      refine And.intro ⟨rfl, by decide, by decide⟩ ?_
      refine fload rL_741_741_12_12_1_0 h0 hB1 (by omega) ?_
      intro z2 lz2 uz2 qz2
      have pz2 := fld_at qz2 12 (by omega)
      refine And.intro (by omega) (And.intro ?_ ?_)
      · intro c3
        exact rfl
      · intro c4
        refine And.intro ⟨rfl, by decide, by decide⟩ (fgetf fb_740_35 h0 hB1 ?_)
        intro z5 lz5 uz5 qz5
        refine And.intro (by omega) (And.intro ?_ ?_)
        · intro c6
          exact rfl
        · intro c7
          intro z8 hz8 ez8
          intro z9 hz9 ez9 bz9
          clear ez9
          have bz9 := bz9 (by omega)
          refine And.intro (by omega) (And.intro ?_ ?_)
          · intro c10
            exact fcutJ (I := I1) (j := jc_M_seek_71684_59) (lv' := [(0, .inr (.inr (some 740))), (1, .inl _), (2, .inl _), (3, .inl _), (4, .inl _), (5, .inl _), (6, .inl _)]) (And.intro rfl (And.intro rfl (And.intro rfl (And.intro rfl (And.intro rfl (And.intro rfl (And.intro rfl True.intro))))))) ⟨_, _, _, _, _, _, rfl, rfl, by omega, rfl⟩ (by omega)
          · intro c11
            refine And.intro ⟨rfl, by decide, by decide⟩ ?_
            refine fload rL_741_741_4372_4390_3_0 h0 hB1 (by omega) ?_
            intro z12 lz12 uz12 qz12
            intro z13 hz13 ez13
            intro z14 hz14 ez14 bz14
            clear ez14
            clear bz14
            refine And.intro (by omega) (And.intro ?_ ?_)
            · intro c15
              refine And.intro ⟨rfl, by decide, by decide⟩ (fgetf fb_740_34 h0 hB1 ?_)
              intro z16 lz16 uz16 qz16
              refine And.intro (by omega) (And.intro ?_ ?_)
              · intro c17
                refine And.intro ⟨rfl, by decide, by decide⟩ (And.intro rfl (And.intro (Or.inr ⟨rfl, by omega⟩) (fputf fb_740_35 (by decide +kernel) hW (by omega) ?_)))
                intro IhB18 ehB18 hB18
                have t19 : IhB18 740 34 = I1 740 34 := (congrFun (congrFun ehB18 740) 34).trans (fup_ne (by omega))
                have t20 := fup_at ehB18 35 (by omega)
                have t21 : IhB18 741 12 = I1 741 12 := (congrFun (congrFun ehB18 741) 12).trans (fup_ne (by omega))
                have k22 := fBz_eq hB18 (a := 741) (j := 12) (by decide +kernel)
                refine And.intro ⟨rfl, by decide, by decide⟩ (fgetf fb_740_35 h0 hB18 ?_)
                intro z23 lz23 uz23 qz23
                refine And.intro (by omega) (And.intro ?_ ?_)
                · intro c24
                  exact fcutJ (I := IhB18) (j := jc_M_seek_71684_59) (lv' := [(0, .inr (.inr (some 740))), (1, .inl _), (2, .inl _), (3, .inl _), (4, .inl _), (5, .inl _), (6, .inl _)]) (And.intro rfl (And.intro rfl (And.intro rfl (And.intro rfl (And.intro rfl (And.intro rfl (And.intro rfl True.intro))))))) ⟨_, _, _, _, _, _, rfl, rfl, by omega, rfl⟩ (by omega)
                · intro c25
                  refine And.intro ⟨rfl, by decide, by decide⟩ (fgetf fb_740_34 h0 hB18 ?_)
                  intro z26 lz26 uz26 qz26
                  intro z27 hz27 ez27 bz27
                  clear ez27
                  try replace bz27 := bz27 (by omega)
                  refine And.intro ⟨rfl, by decide, by decide⟩ (And.intro rfl (And.intro (Or.inl rfl) (fputf fb_740_34 (by decide +kernel) hW (by omega) ?_)))
                  intro IhB28 ehB28 hB28
                  have t29 := fup_at ehB28 34 (by omega)
                  have t30 : IhB28 740 35 = IhB18 740 35 := (congrFun (congrFun ehB28 740) 35).trans (fup_ne (by omega))
                  have t31 : IhB28 741 12 = IhB18 741 12 := (congrFun (congrFun ehB28 741) 12).trans (fup_ne (by omega))
                  have k32 := fBz_eq hB28 (a := 741) (j := 12) (by decide +kernel)
                  refine And.intro ⟨rfl, by decide, by decide⟩ ?_
                  refine fstore rS_757_757_0_6_1_0 (fzs_sub (by decide +kernel) hW) (by omega) (by omega) ?_
                  intro IhB33 ehB33 hB33
                  have t34 := fup_self ehB33
                  have t35 : IhB33 740 34 = IhB28 740 34 := (congrFun (congrFun ehB33 740) 34).trans (fup_ne (by omega))
                  have t36 : IhB33 740 35 = IhB28 740 35 := (congrFun (congrFun ehB33 740) 35).trans (fup_ne (by omega))
                  have t37 : IhB33 741 12 = IhB28 741 12 := (congrFun (congrFun ehB33 741) 12).trans (fup_ne (by omega))
                  have k38 := fBz_eq hB33 (a := 741) (j := 12) (by decide +kernel)
                  refine And.intro ⟨rfl, by decide, by decide⟩ ?_
                  refine fload rL_741_741_4370_4388_3_0 h0 hB33 (by omega) ?_
                  intro z39 lz39 uz39 qz39
                  intro z40 hz40 ez40 bz40
                  clear ez40
                  have bz40 := bz40 (by omega)
                  intro z41 hz41 ez41
                  intro z42 hz42 ez42
                  refine And.intro (by omega) (And.intro ?_ ?_)
                  · intro c43
                    intro z44 hz44 ez44 bz44
                    clear ez44
                    try replace bz44 := bz44 (by omega)
                    refine Exists.intro xm_485 (And.intro mi_485 (And.intro ⟨rfl, rfl, rfl, rfl⟩ (And.intro rfl ?_)))
                    refine fcall _ h0 (fzs_sub (by decide +kernel) hW) hB33 (ct_M_seek_58809 (fBz h0 hB33) (by omega) (by omega) (by omega) (by omega) (by omega) (by omega) (by omega)) ?_
                    rintro IhB46 _ hB46 fhB46 rfl
                    have t47 := fhB46 741 12 (by decide +kernel)
                    have k48 := fBz_eq hB46 (a := 741) (j := 12) (by decide +kernel)
                    exact fcutJ (I := IhB46) (j := jc_M_seek_71684_59) (lv' := [(0, .inr (.inr (some 740))), (1, .inl _), (2, .inl _), (3, .inl _), (4, .inl _), (5, .inl _), (6, .inl _)]) (And.intro rfl (And.intro rfl (And.intro rfl (And.intro rfl (And.intro rfl (And.intro rfl (And.intro rfl True.intro))))))) ⟨_, _, _, _, _, _, rfl, rfl, by omega, rfl⟩ (by omega)
                  · intro c49
                    refine And.intro ⟨rfl, by decide, by decide⟩ ?_
                    refine fload rL_741_741_4371_4389_3_0 h0 hB33 (by omega) ?_
                    intro z50 lz50 uz50 qz50
                    intro z51 hz51 ez51 bz51
                    clear ez51
                    have bz51 := bz51 (by omega)
                    intro z52 hz52 ez52 bz52
                    clear ez52
                    try replace bz52 := bz52 (by omega)
                    intro z53 hz53 ez53 bz53
                    clear ez53
                    try replace bz53 := bz53 (by omega)
                    refine Exists.intro xm_485 (And.intro mi_485 (And.intro ⟨rfl, rfl, rfl, rfl⟩ (And.intro rfl ?_)))
                    refine fcall _ h0 (fzs_sub (by decide +kernel) hW) hB33 (ct_M_seek_58809 (fBz h0 hB33) (by omega) (by omega) (by omega) (by omega) (by omega) (by omega) (by omega)) ?_
                    rintro IhB55 _ hB55 fhB55 rfl
                    have t56 := fhB55 741 12 (by decide +kernel)
                    have k57 := fBz_eq hB55 (a := 741) (j := 12) (by decide +kernel)
                    exact fcutJ (I := IhB55) (j := jc_M_seek_71684_59) (lv' := [(0, .inr (.inr (some 740))), (1, .inl _), (2, .inl _), (3, .inl _), (4, .inl _), (5, .inl _), (6, .inl _)]) (And.intro rfl (And.intro rfl (And.intro rfl (And.intro rfl (And.intro rfl (And.intro rfl (And.intro rfl True.intro))))))) ⟨_, _, _, _, _, _, rfl, rfl, by omega, rfl⟩ (by omega)
              · intro c58
                refine And.intro ⟨rfl, by decide, by decide⟩ (And.intro rfl (And.intro (Or.inr ⟨rfl, by omega⟩) (fputf fb_740_35 (by decide +kernel) hW (by omega) ?_)))
                intro IhB59 ehB59 hB59
                have t60 : IhB59 740 34 = I1 740 34 := (congrFun (congrFun ehB59 740) 34).trans (fup_ne (by omega))
                have t61 := fup_at ehB59 35 (by omega)
                have t62 : IhB59 741 12 = I1 741 12 := (congrFun (congrFun ehB59 741) 12).trans (fup_ne (by omega))
                have k63 := fBz_eq hB59 (a := 741) (j := 12) (by decide +kernel)
                refine And.intro ⟨rfl, by decide, by decide⟩ (fgetf fb_740_35 h0 hB59 ?_)
                intro z64 lz64 uz64 qz64
                refine And.intro (by omega) (And.intro ?_ ?_)
                · intro c65
                  exact fcutJ (I := IhB59) (j := jc_M_seek_71684_59) (lv' := [(0, .inr (.inr (some 740))), (1, .inl _), (2, .inl _), (3, .inl _), (4, .inl _), (5, .inl _), (6, .inl _)]) (And.intro rfl (And.intro rfl (And.intro rfl (And.intro rfl (And.intro rfl (And.intro rfl (And.intro rfl True.intro))))))) ⟨_, _, _, _, _, _, rfl, rfl, by omega, rfl⟩ (by omega)
                · intro c66
                  refine And.intro ⟨rfl, by decide, by decide⟩ (fgetf fb_740_34 h0 hB59 ?_)
                  intro z67 lz67 uz67 qz67
                  intro z68 hz68 ez68 bz68
                  clear ez68
                  try replace bz68 := bz68 (by omega)
                  refine And.intro ⟨rfl, by decide, by decide⟩ (And.intro rfl (And.intro (Or.inl rfl) (fputf fb_740_34 (by decide +kernel) hW (by omega) ?_)))
                  intro IhB69 ehB69 hB69
                  have t70 := fup_at ehB69 34 (by omega)
                  have t71 : IhB69 740 35 = IhB59 740 35 := (congrFun (congrFun ehB69 740) 35).trans (fup_ne (by omega))
                  have t72 : IhB69 741 12 = IhB59 741 12 := (congrFun (congrFun ehB69 741) 12).trans (fup_ne (by omega))
                  have k73 := fBz_eq hB69 (a := 741) (j := 12) (by decide +kernel)
                  refine And.intro ⟨rfl, by decide, by decide⟩ ?_
                  refine fstore rS_757_757_0_6_1_0 (fzs_sub (by decide +kernel) hW) (by omega) (by omega) ?_
                  intro IhB74 ehB74 hB74
                  have t75 := fup_self ehB74
                  have t76 : IhB74 740 34 = IhB69 740 34 := (congrFun (congrFun ehB74 740) 34).trans (fup_ne (by omega))
                  have t77 : IhB74 740 35 = IhB69 740 35 := (congrFun (congrFun ehB74 740) 35).trans (fup_ne (by omega))
                  have t78 : IhB74 741 12 = IhB69 741 12 := (congrFun (congrFun ehB74 741) 12).trans (fup_ne (by omega))
                  have k79 := fBz_eq hB74 (a := 741) (j := 12) (by decide +kernel)
                  refine And.intro ⟨rfl, by decide, by decide⟩ ?_
                  refine fload rL_741_741_4370_4388_3_0 h0 hB74 (by omega) ?_
                  intro z80 lz80 uz80 qz80
                  intro z81 hz81 ez81 bz81
                  clear ez81
                  have bz81 := bz81 (by omega)
                  intro z82 hz82 ez82
                  intro z83 hz83 ez83
                  refine And.intro (by omega) (And.intro ?_ ?_)
                  · intro c84
                    intro z85 hz85 ez85 bz85
                    clear ez85
                    try replace bz85 := bz85 (by omega)
                    refine Exists.intro xm_485 (And.intro mi_485 (And.intro ⟨rfl, rfl, rfl, rfl⟩ (And.intro rfl ?_)))
                    refine fcall _ h0 (fzs_sub (by decide +kernel) hW) hB74 (ct_M_seek_58809 (fBz h0 hB74) (by omega) (by omega) (by omega) (by omega) (by omega) (by omega) (by omega)) ?_
                    rintro IhB87 _ hB87 fhB87 rfl
                    have t88 := fhB87 741 12 (by decide +kernel)
                    have k89 := fBz_eq hB87 (a := 741) (j := 12) (by decide +kernel)
                    exact fcutJ (I := IhB87) (j := jc_M_seek_71684_59) (lv' := [(0, .inr (.inr (some 740))), (1, .inl _), (2, .inl _), (3, .inl _), (4, .inl _), (5, .inl _), (6, .inl _)]) (And.intro rfl (And.intro rfl (And.intro rfl (And.intro rfl (And.intro rfl (And.intro rfl (And.intro rfl True.intro))))))) ⟨_, _, _, _, _, _, rfl, rfl, by omega, rfl⟩ (by omega)
                  · intro c90
                    refine And.intro ⟨rfl, by decide, by decide⟩ ?_
                    refine fload rL_741_741_4371_4389_3_0 h0 hB74 (by omega) ?_
                    intro z91 lz91 uz91 qz91
                    intro z92 hz92 ez92 bz92
                    clear ez92
                    have bz92 := bz92 (by omega)
                    intro z93 hz93 ez93 bz93
                    clear ez93
                    try replace bz93 := bz93 (by omega)
                    intro z94 hz94 ez94 bz94
                    clear ez94
                    try replace bz94 := bz94 (by omega)
                    refine Exists.intro xm_485 (And.intro mi_485 (And.intro ⟨rfl, rfl, rfl, rfl⟩ (And.intro rfl ?_)))
                    refine fcall _ h0 (fzs_sub (by decide +kernel) hW) hB74 (ct_M_seek_58809 (fBz h0 hB74) (by omega) (by omega) (by omega) (by omega) (by omega) (by omega) (by omega)) ?_
                    rintro IhB96 _ hB96 fhB96 rfl
                    have t97 := fhB96 741 12 (by decide +kernel)
                    have k98 := fBz_eq hB96 (a := 741) (j := 12) (by decide +kernel)
                    exact fcutJ (I := IhB96) (j := jc_M_seek_71684_59) (lv' := [(0, .inr (.inr (some 740))), (1, .inl _), (2, .inl _), (3, .inl _), (4, .inl _), (5, .inl _), (6, .inl _)]) (And.intro rfl (And.intro rfl (And.intro rfl (And.intro rfl (And.intro rfl (And.intro rfl (And.intro rfl True.intro))))))) ⟨_, _, _, _, _, _, rfl, rfl, by omega, rfl⟩ (by omega)
            · intro c99
              exact fcutJ (I := I1) (j := jc_M_seek_71684_59) (lv' := [(0, .inr (.inr (some 740))), (1, .inl _), (2, .inl _), (3, .inl _), (4, .inl _), (5, .inl _), (6, .inl _)]) (And.intro rfl (And.intro rfl (And.intro rfl (And.intro rfl (And.intro rfl (And.intro rfl (And.intro rfl True.intro))))))) ⟨_, _, _, _, _, _, rfl, rfl, by omega, rfl⟩ (by omega)
  · have hB0 := fB_self (zn := znJ) (K := fKc wz_4d25e) h0
    refine And.intro ⟨rfl, by decide, by decide⟩ ?_
    refine fload rL_741_741_12_12_1_0 h0 hB0 (by omega) ?_
    intro z100 lz100 uz100 qz100
    have pz100 := fld_at qz100 12 (by omega)
    refine And.intro (by omega) (And.intro ?_ ?_)
    · intro c101
      exact fcutJ (I := I) (j := jc_M_seek_71684_59) (lv' := [(0, .inr (.inr (some 740))), (1, .inl _), (2, .inl _), (3, .inl _), (4, .inl _), (5, .inl _), (6, .inl _)]) (And.intro rfl (And.intro rfl (And.intro rfl (And.intro rfl (And.intro rfl (And.intro rfl (And.intro rfl True.intro))))))) ⟨_, _, _, _, _, _, rfl, rfl, by omega, rfl⟩ (by omega)
    · intro c102
      refine And.intro ⟨rfl, by decide, by decide⟩ (fgetf fb_740_33 h0 hB0 ?_)
      intro z103 lz103 uz103 qz103
      refine And.intro (by omega) (And.intro ?_ ?_)
      · intro c104
        exact rfl
      · intro c105
        refine And.intro ⟨rfl, by decide, by decide⟩ (And.intro rfl (And.intro (Or.inl rfl) (fputf fb_740_33 (by decide +kernel) hW (by omega) ?_)))
        intro IhB106 ehB106 hB106
        have t107 := fup_at ehB106 33 (by omega)
        have t108 : IhB106 741 12 = I 741 12 := (congrFun (congrFun ehB106 741) 12).trans (fup_ne (by omega))
        have k109 := fBz_eq hB106 (a := 741) (j := 12) (by decide +kernel)
        refine And.intro (by omega) (And.intro ?_ ?_)
        · intro c110
          exact rfl
        · intro c111
          exfalso
          omega
set_option maxRecDepth 8000 in
theorem ct_M_findOrder_1fb74 {I : fH} {x1 : Int} {x2 : Int} (h0 : fB bsJ I) (ha1 : (1 ≤ x1 ∧ x1 ≤ 60)) (ha2 : (1 ≤ x2 ∧ x2 ≤ 20000)) : fC ρ base n F xTc vwCl xTys D dA la gJ (fbz bsJ znJ (fKc wz_4d25e) I) xm_478 [.inr (.inr (some 740)), .inl x1, .inl x2] I (fun _ r => ∃ z, r = some (.inl z) ∧ ((0 ≤ z ∧ z ≤ 2147483647) ∨ z = (-1000000004) ∨ z = (-1000000002))) := by
  have hW : fzs wz_4d25e (fKc wz_4d25e) := fKc_ok _
  refine f_meth (rb := rbJ) (J := []) 1 400 xG xin_478 x6_478 okJ (fB_self h0) ?_ ?_
  · exact fun q h => absurd h List.not_mem_nil
  · have hB0 := fB_self (zn := znJ) (K := fKc wz_4d25e) h0
    refine And.intro ⟨rfl, by decide, by decide⟩ (And.intro rfl (And.intro (Or.inl rfl) (fputf fb_740_33 (by decide +kernel) hW (by omega) ?_)))
    intro IhB1 ehB1 hB1
    have t2 := fup_at ehB1 33 (by omega)
    refine And.intro ⟨rfl, by decide, by decide⟩ (And.intro rfl (And.intro (Or.inl rfl) (fputf fb_740_34 (by decide +kernel) hW (by omega) ?_)))
    intro IhB3 ehB3 hB3
    have t4 : IhB3 740 33 = IhB1 740 33 := (congrFun (congrFun ehB3 740) 33).trans (fup_ne (by omega))
    have t5 := fup_at ehB3 34 (by omega)
    refine And.intro ⟨rfl, by decide, by decide⟩ (And.intro rfl (And.intro (Or.inr ⟨rfl, by omega⟩) (fputf fb_740_35 (by decide +kernel) hW (by omega) ?_)))
    intro IhB6 ehB6 hB6
    have t7 : IhB6 740 33 = IhB3 740 33 := (congrFun (congrFun ehB6 740) 33).trans (fup_ne (by omega))
    have t8 : IhB6 740 34 = IhB3 740 34 := (congrFun (congrFun ehB6 740) 34).trans (fup_ne (by omega))
    have t9 := fup_at ehB6 35 (by omega)
    have b12 := fBd fb_741_12 (fBz h0 hB6)
    refine Exists.intro xm_486 (And.intro mi_486 (And.intro ⟨rfl, rfl, rfl, rfl⟩ (And.intro rfl ?_)))
    refine fcall _ h0 (fzs_sub (by decide +kernel) hW) hB6 (ct_M_seek_71684 (fBz h0 hB6) (by omega) (by omega) (by omega) (by omega) (by omega) (by omega) (by omega)) ?_
    rintro IhB11 _ hB11 fhB11 rfl
    refine And.intro ⟨rfl, by decide, by decide⟩ (fgetf fb_740_35 h0 hB11 ?_)
    intro z12 lz12 uz12 qz12
    refine And.intro (by omega) (And.intro ?_ ?_)
    · intro c13
      refine And.intro ⟨rfl, by decide, by decide⟩ (fgetf fb_740_33 h0 hB11 ?_)
      intro z14 lz14 uz14 qz14
      refine And.intro (by omega) (And.intro ?_ ?_)
      · intro c15
        refine And.intro ⟨rfl, by decide, by decide⟩ (fgetf fb_740_33 h0 hB11 ?_)
        intro z16 lz16 uz16 qz16
        refine And.intro (True.intro) ?_
        exact ⟨_, rfl, by omega⟩
      · intro c17
        refine And.intro (True.intro) ?_
        exact ⟨_, rfl, by omega⟩
    · intro c18
      refine And.intro (True.intro) ?_
      exact ⟨_, rfl, by omega⟩
set_option maxRecDepth 8000 in
theorem ct_M_isYears_9dc65 {I : fH} {x0 : Int} (h0 : fB bsJ I) (ha0 : ((-2147483648) ≤ x0 ∧ x0 ≤ 2147483647)) : fC ρ base n F xTc vwCl xTys D dA la gJ (fbz bsJ znJ (fKc []) I) xm_477 [.inl x0] I (fun _ r => ∃ z, r = some (.inl z) ∧ ((z = 1 ∧ 1 ≤ x0 ∧ x0 ≤ 60) ∨ z = 0)) := by
  have hW : fzs [] (fKc []) := fKc_ok _
  refine f_meth (rb := rbJ) (J := []) 1 400 xG xin_477 x6_477 okJ (fB_self h0) ?_ ?_
  · exact fun q h => absurd h List.not_mem_nil
  · have hB0 := fB_self (zn := znJ) (K := fKc []) h0
    refine And.intro (by omega) ?_
    refine Exists.intro xm_238 (And.intro mi_238 (And.intro ⟨rfl, rfl, rfl, rfl⟩ (And.intro True.intro ?_)))
    refine fcallp hB0 (ct_M_isIn_27230 (fBz h0 hB0) (by omega) (by omega) (by omega)) ?_
    rintro _ ⟨z1, rfl, hz1⟩
    refine And.intro (⟨by omega, by omega⟩) ?_
    exact ⟨_, rfl, by omega⟩
set_option maxRecDepth 8000 in
theorem ct_M_plan_47fe7 {I : fH} {x1 : Int} {x2 : Int} (h0 : fB bsJ I) (ha1 : ((-2147483648) ≤ x1 ∧ x1 ≤ 2147483647)) (ha2 : ((-2147483648) ≤ x2 ∧ x2 ≤ 2147483647)) : fC ρ base n F xTc vwCl xTys D dA la gJ (fbz bsJ znJ (fKc wz_4d25e) I) xm_476 [.inr (.inr (some 740)), .inl x1, .inl x2] I (fun _ r => ∃ z, r = some (.inl z) ∧ ((0 ≤ z ∧ z ≤ 2147483647) ∨ z = (-1000000004) ∨ z = (-1000000002) ∨ z = (-1000000001))) := by
  have hW : fzs wz_4d25e (fKc wz_4d25e) := fKc_ok _
  refine f_meth (rb := rbJ) (J := []) 1 400 xG xin_476 x6_476 okJ (fB_self h0) ?_ ?_
  · exact fun q h => absurd h List.not_mem_nil
  · have hB0 := fB_self (zn := znJ) (K := fKc wz_4d25e) h0
    refine Exists.intro xm_477 (And.intro mi_477 (And.intro ⟨rfl, rfl, rfl, rfl⟩ (And.intro True.intro ?_)))
    refine fcallp hB0 (ct_M_isYears_9dc65 (fBz h0 hB0) (by omega)) ?_
    rintro _ ⟨z1, rfl, hz1⟩
    refine And.intro (by omega) (And.intro ?_ ?_)
    · intro c2
      refine And.intro (True.intro) ?_
      exact ⟨_, rfl, by omega⟩
    · intro c3
      refine And.intro (by omega) ?_
      refine Exists.intro xm_238 (And.intro mi_238 (And.intro ⟨rfl, rfl, rfl, rfl⟩ (And.intro True.intro ?_)))
      refine fcallp hB0 (ct_M_isIn_27230 (fBz h0 hB0) (by omega) (by omega) (by omega)) ?_
      rintro _ ⟨z4, rfl, hz4⟩
      refine And.intro (by omega) (And.intro ?_ ?_)
      · intro c5
        refine And.intro (True.intro) ?_
        exact ⟨_, rfl, by omega⟩
      · intro c6
        refine Exists.intro xm_478 (And.intro mi_478 (And.intro ⟨rfl, rfl, rfl, rfl⟩ (And.intro rfl ?_)))
        refine fcall _ h0 (fzs_sub (by decide +kernel) hW) hB0 (ct_M_findOrder_1fb74 (fBz h0 hB0) (by omega) (by omega)) ?_
        rintro IhB8 _ hB8 fhB8 ⟨z7, rfl, hz7⟩
        refine And.intro (True.intro) ?_
        exact ⟨_, rfl, by omega⟩
set_option maxRecDepth 8000 in
theorem ct_X_planned_1f2a9 {I : fH} {x1 : Int} {x2 : Int} (h0 : fB bsJ I) (ha1 : ((-2147483648) ≤ x1 ∧ x1 ≤ 2147483647)) (ha2 : ((-2147483648) ≤ x2 ∧ x2 ≤ 2147483647)) : fC ρ base n F xTc vwCl xTys D dA la gJ (fbz bsJ znJ (fKc wz_79e74) I) xm_216 [.inr (.inr (some 0)), .inl x1, .inl x2] I (fun _ r => ∃ z, r = some (.inl z) ∧ ((-2147483648) ≤ z ∧ z ≤ 6)) := by
  have hW : fzs wz_79e74 (fKc wz_79e74) := fKc_ok _
  refine f_meth (rb := rbJ) (J := []) 1 400 xG xin_216 x6_216 okJ (fB_self h0) ?_ ?_
  · exact fun q h => absurd h List.not_mem_nil
  · have hB0 := fB_self (zn := znJ) (K := fKc wz_79e74) h0
    refine Exists.intro xm_13 (And.intro mi_13 (And.intro ⟨rfl, rfl, rfl, rfl⟩ (And.intro True.intro ?_)))
    refine fcallp hB0 (ct_X_within_c27b1 (fBz h0 hB0) (by omega) (by omega) (by omega)) ?_
    rintro _ ⟨z1, rfl, hz1⟩
    refine And.intro (by omega) (And.intro ?_ ?_)
    · intro c2
      refine And.intro (True.intro) ?_
      exact ⟨_, rfl, by omega⟩
    · intro c3
      refine And.intro (by omega) (And.intro ?_ ?_)
      · intro c4
        refine And.intro ⟨rfl, by decide, by decide⟩ ?_
        refine And.intro ⟨rfl, by decide, by decide⟩ ?_
        refine Exists.intro xm_206 (And.intro mi_206 (And.intro ⟨rfl, rfl, rfl, rfl⟩ (And.intro rfl ?_)))
        refine fcall _ h0 (fzs_sub (by decide +kernel) hW) hB0 (ct_Order_bestSum_ae03f (fBz h0 hB0) (by omega) (by omega)) ?_
        rintro IhB6 _ hB6 fhB6 ⟨z5, rfl, hz5⟩
        refine And.intro (by omega) (And.intro ?_ ?_)
        · intro c7
          refine And.intro ⟨rfl, by decide, by decide⟩ ?_
          refine And.intro ⟨rfl, by decide, by decide⟩ (fgetf fb_211_15 h0 hB6 ?_)
          intro z8 lz8 uz8 qz8
          refine And.intro (by omega) (And.intro ?_ ?_)
          · intro c9
            refine And.intro (True.intro) ?_
            exact ⟨_, rfl, by omega⟩
          · intro c10
            refine And.intro ⟨rfl, by decide, by decide⟩ ?_
            refine And.intro ⟨rfl, by decide, by decide⟩ ?_
            refine fload rL_736_736_0_6_1_0 h0 hB6 (by omega) ?_
            intro z11 lz11 uz11 qz11
            refine And.intro (True.intro) ?_
            exact ⟨_, rfl, by omega⟩
        · intro c12
          refine And.intro (True.intro) ?_
          exact ⟨_, rfl, by omega⟩
      · intro c13
        refine And.intro (True.intro) ?_
        exact ⟨_, rfl, by omega⟩
set_option maxRecDepth 8000 in
theorem ct_M_planned_1c024 {I : fH} {x1 : Int} {x2 : Int} (h0 : fB bsJ I) (ha1 : ((-2147483648) ≤ x1 ∧ x1 ≤ 2147483647)) (ha2 : ((-2147483648) ≤ x2 ∧ x2 ≤ 2147483647)) : fC ρ base n F xTc vwCl xTys D dA la gJ (fbz bsJ znJ (fKc wz_4d25e) I) xm_487 [.inr (.inr (some 740)), .inl x1, .inl x2] I (fun _ r => ∃ z, r = some (.inl z) ∧ ((0 ≤ z ∧ z ≤ 6) ∨ z = (-1000000005) ∨ z = (-1000000004) ∨ z = (-1000000002) ∨ z = (-1000000001))) := by
  have hW : fzs wz_4d25e (fKc wz_4d25e) := fKc_ok _
  refine f_meth (rb := rbJ) (J := []) 1 400 xG xin_487 x6_487 okJ (fB_self h0) ?_ ?_
  · exact fun q h => absurd h List.not_mem_nil
  · have hB0 := fB_self (zn := znJ) (K := fKc wz_4d25e) h0
    refine Exists.intro xm_477 (And.intro mi_477 (And.intro ⟨rfl, rfl, rfl, rfl⟩ (And.intro True.intro ?_)))
    refine fcallp hB0 (ct_M_isYears_9dc65 (fBz h0 hB0) (by omega)) ?_
    rintro _ ⟨z1, rfl, hz1⟩
    refine And.intro (by omega) (And.intro ?_ ?_)
    · intro c2
      refine And.intro (True.intro) ?_
      exact ⟨_, rfl, by omega⟩
    · intro c3
      refine And.intro (by omega) (And.intro ?_ ?_)
      · intro c4
        refine Exists.intro xm_478 (And.intro mi_478 (And.intro ⟨rfl, rfl, rfl, rfl⟩ (And.intro rfl ?_)))
        refine fcall _ h0 (fzs_sub (by decide +kernel) hW) hB0 (ct_M_findOrder_1fb74 (fBz h0 hB0) (by omega) (by omega)) ?_
        rintro IhB6 _ hB6 fhB6 ⟨z5, rfl, hz5⟩
        refine And.intro (by omega) (And.intro ?_ ?_)
        · intro c7
          refine And.intro ⟨rfl, by decide, by decide⟩ ?_
          refine fload rL_741_741_12_12_1_0 h0 hB6 (by omega) ?_
          intro z8 lz8 uz8 qz8
          have pz8 := fld_at qz8 12 (by omega)
          refine And.intro (by omega) (And.intro ?_ ?_)
          · intro c9
            refine And.intro (True.intro) ?_
            exact ⟨_, rfl, by omega⟩
          · intro c10
            refine And.intro ⟨rfl, by decide, by decide⟩ ?_
            refine fload rL_758_758_0_6_1_0 h0 hB6 (by omega) ?_
            intro z11 lz11 uz11 qz11
            refine And.intro (True.intro) ?_
            exact ⟨_, rfl, by omega⟩
        · intro c12
          refine And.intro (True.intro) ?_
          exact ⟨_, rfl, by omega⟩
      · intro c13
        refine And.intro (True.intro) ?_
        exact ⟨_, rfl, by omega⟩
set_option maxRecDepth 8000 in
theorem ct_X_tell_f2ca8 {I : fH} {x1 : Int} (h0 : fB bsJ I) (ha1 : ((-2147483648) ≤ x1 ∧ x1 ≤ 2147483647)) : fC ρ base n F xTc vwCl xTys D dA la gJ (fbz bsJ znJ (fKc wz_ea84a) I) xm_217 [.inr (.inr (some 0)), .inl x1] I (fun I' r => ∃ z, r = some (.inl z) ∧ (((1 ≤ z ∧ z ≤ 60) ∨ z = (-1000000003)) ∧ ((I 0 14 < 60 → I' 0 14 = I 0 14 + 1 ∧ z = I 0 14 + 1) ∧ (60 ≤ I 0 14 → I' 0 14 = I 0 14 ∧ z = (-1000000003))))) := by
  have hW : fzs wz_ea84a (fKc wz_ea84a) := fKc_ok _
  refine f_meth (rb := rbJ) (J := []) 1 400 xG xin_217 x6_217 okJ (fB_self h0) ?_ ?_
  · exact fun q h => absurd h List.not_mem_nil
  · have hB0 := fB_self (zn := znJ) (K := fKc wz_ea84a) h0
    refine And.intro ⟨rfl, by decide, by decide⟩ (fgetf fb_0_14 h0 hB0 ?_)
    intro z1 lz1 uz1 qz1
    refine And.intro (by omega) (And.intro ?_ ?_)
    · intro c2
      refine And.intro ⟨rfl, by decide, by decide⟩ ?_
      refine And.intro ⟨rfl, by decide, by decide⟩ (fgetf fb_0_14 h0 hB0 ?_)
      intro z3 lz3 uz3 qz3
      refine fstore rS_738_738_0_59_1_0 (fzs_sub (by decide +kernel) hW) (by omega) (by omega) ?_
      intro IhB4 ehB4 hB4
      have t5 := fup_self ehB4
      have t6 : IhB4 0 14 = I 0 14 := (congrFun (congrFun ehB4 0) 14).trans (fup_ne (by omega))
      refine And.intro ⟨rfl, by decide, by decide⟩ (fgetf fb_0_14 h0 hB4 ?_)
      intro z7 lz7 uz7 qz7
      refine And.intro ⟨rfl, by decide, by decide⟩ (And.intro rfl (And.intro (Or.inl rfl) (fputf fb_0_14 (by decide +kernel) hW (by omega) ?_)))
      intro IhB8 ehB8 hB8
      have t9 := fup_at ehB8 14 (by omega)
      refine And.intro ⟨rfl, by decide, by decide⟩ (fgetf fb_0_14 h0 hB8 ?_)
      intro z10 lz10 uz10 qz10
      refine And.intro (True.intro) ?_
      exact ⟨_, rfl, by omega⟩
    · intro c11
      refine And.intro (True.intro) ?_
      exact ⟨_, rfl, by omega⟩
set_option maxRecDepth 8000 in
theorem ct_M_tell_9320d {I : fH} {x1 : Int} (h0 : fB bsJ I) (ha1 : ((-2147483648) ≤ x1 ∧ x1 ≤ 2147483647)) : fC ρ base n F xTc vwCl xTys D dA la gJ (fbz bsJ znJ (fKc wz_f12ac) I) xm_488 [.inr (.inr (some 740)), .inl x1] I (fun I' r => ∃ z, r = some (.inl z) ∧ (((1 ≤ z ∧ z ≤ 60) ∨ z = (-1000000003)) ∧ ((I 740 37 < 60 → I' 740 37 = I 740 37 + 1 ∧ z = I 740 37 + 1) ∧ (60 ≤ I 740 37 → I' 740 37 = I 740 37 ∧ z = (-1000000003))))) := by
  have hW : fzs wz_f12ac (fKc wz_f12ac) := fKc_ok _
  refine f_meth (rb := rbJ) (J := []) 1 400 xG xin_488 x6_488 okJ (fB_self h0) ?_ ?_
  · exact fun q h => absurd h List.not_mem_nil
  · have hB0 := fB_self (zn := znJ) (K := fKc wz_f12ac) h0
    refine And.intro ⟨rfl, by decide, by decide⟩ (fgetf fb_740_37 h0 hB0 ?_)
    intro z1 lz1 uz1 qz1
    refine And.intro (by omega) (And.intro ?_ ?_)
    · intro c2
      refine And.intro ⟨rfl, by decide, by decide⟩ ?_
      refine And.intro ⟨rfl, by decide, by decide⟩ (fgetf fb_740_37 h0 hB0 ?_)
      intro z3 lz3 uz3 qz3
      refine fstore rS_759_759_0_59_1_0 (fzs_sub (by decide +kernel) hW) (by omega) (by omega) ?_
      intro IhB4 ehB4 hB4
      have t5 := fup_self ehB4
      have t6 : IhB4 740 37 = I 740 37 := (congrFun (congrFun ehB4 740) 37).trans (fup_ne (by omega))
      refine And.intro ⟨rfl, by decide, by decide⟩ (fgetf fb_740_37 h0 hB4 ?_)
      intro z7 lz7 uz7 qz7
      refine And.intro ⟨rfl, by decide, by decide⟩ (And.intro rfl (And.intro (Or.inl rfl) (fputf fb_740_37 (by decide +kernel) hW (by omega) ?_)))
      intro IhB8 ehB8 hB8
      have t9 := fup_at ehB8 37 (by omega)
      refine And.intro ⟨rfl, by decide, by decide⟩ (fgetf fb_740_37 h0 hB8 ?_)
      intro z10 lz10 uz10 qz10
      refine And.intro (True.intro) ?_
      exact ⟨_, rfl, by omega⟩
    · intro c11
      refine And.intro (True.intro) ?_
      exact ⟨_, rfl, by omega⟩
abbrev jc_X_firstWrong_4e02b_9 : Nat → fL → List fV → fH → Prop := fun m lv st I => ∃ (y1 : Int) (y2 : Int) (y3 : Int) (y4 : Int), lv = [(0, .inr (.inr (some 0))), (1, .inl y1), (2, .inl y2), (3, .inl y3), (4, .inl y4)] ∧ st = [] ∧ ((((0 ≤ y1 ∧ y1 ≤ 48) ∧ (y1 - 0) % 2 ≤ 0) ∧ (0 ≤ y2 ∧ y2 ≤ 60) ∧ (0 ≤ y3 ∧ y3 ≤ 48) ∧ (0 ≤ y4 ∧ y4 ≤ 48))) ∧ m = (1 + 1 * (48 - y4) : Int).toNat
set_option maxRecDepth 8000 in
theorem ct_X_firstWrong_4e02b {I : fH} {x1 : Int} {x2 : Int} (h0 : fB bsJ I) (ha1 : ((0 ≤ x1 ∧ x1 ≤ 48) ∧ (x1 - 0) % 2 ≤ 0)) (ha2 : (0 ≤ x2 ∧ x2 ≤ 60)) : fC ρ base n F xTc vwCl xTys D dA la gJ (fbz bsJ znJ (fKc []) I) xm_220 [.inr (.inr (some 0)), .inl x1, .inl x2] I (fun _ r => ∃ z, r = some (.inl z) ∧ (0 ≤ z ∧ z ≤ 49)) := by
  have hW : fzs [] (fKc []) := fKc_ok _
  refine f_meth (rb := rbJ) (J := [(9, jc_X_firstWrong_4e02b_9)]) 50 400 xG xin_220 x6_220 okJ (fB_self h0) ?_ ?_
  · refine List.forall_mem_cons.mpr ⟨?_, fun q h => absurd h List.not_mem_nil⟩
    · rintro m _ _ I1 hB1 ⟨y1, y2, y3, y4, rfl, rfl, hb, hm⟩
      refine And.intro (by omega) (And.intro ?_ ?_)
      · intro c1
        refine And.intro (by omega) (And.intro ?_ ?_)
        · intro c2
          refine And.intro (True.intro) ?_
          exact ⟨_, rfl, by omega⟩
        · intro c3
          refine And.intro (True.intro) ?_
          exact ⟨_, rfl, by omega⟩
      · intro c4
        refine And.intro ⟨rfl, by decide, by decide⟩ ?_
        refine fload rL_738_738_0_59_1_0 h0 hB1 (by omega) ?_
        intro z5 lz5 uz5 qz5
        refine And.intro ⟨rfl, by decide, by decide⟩ ?_
        refine fload rL_739_739_0_59_1_0 h0 hB1 (by omega) ?_
        intro z6 lz6 uz6 qz6
        refine And.intro (by omega) (And.intro ?_ ?_)
        · intro c7
          exact fcutJ (I := I1) (j := jc_X_firstWrong_4e02b_9) (lv' := [(0, .inr (.inr (some 0))), (1, .inl _), (2, .inl _), (3, .inl _), (4, .inl _)]) (And.intro rfl (And.intro rfl (And.intro rfl (And.intro rfl (And.intro rfl True.intro))))) ⟨_, _, _, _, rfl, rfl, by omega, rfl⟩ (by omega)
        · intro c8
          refine And.intro (True.intro) ?_
          exact ⟨_, rfl, by omega⟩
  · have hB0 := fB_self (zn := znJ) (K := fKc []) h0
    refine And.intro (And.intro (by omega) (And.intro (by omega) rfl)) ?_
    intro z9 hz9
    exact fcutJ (I := I) (j := jc_X_firstWrong_4e02b_9) (lv' := [(0, .inr (.inr (some 0))), (1, .inl _), (2, .inl _), (3, .inl _), (4, .inl _)]) (And.intro rfl (And.intro rfl (And.intro rfl (And.intro rfl (And.intro rfl True.intro))))) ⟨_, _, _, _, rfl, rfl, by omega, rfl⟩ (by omega)
abbrev jc_X_checkLoads_0f880_29 : Nat → fL → List fV → fH → Prop := fun m lv st I => ∃ (y1 : Int) (y2 : Int) (y3 : Int) (y4 : Int) (y5 : Int), lv = [(0, .inr (.inr (some 0))), (1, .inl y1), (2, .inl y2), (3, .inl y3), (4, .inl y4), (5, .inl y5)] ∧ st = [] ∧ (((1 ≤ y1 ∧ y1 ≤ 24) ∧ (0 ≤ y2 ∧ y2 ≤ 300) ∧ (0 ≤ y3 ∧ y3 ≤ 60) ∧ ((-2147483648) ≤ y4 ∧ y4 ≤ 2147483647) ∧ (0 ≤ y5 ∧ y5 ≤ 24))) ∧ m = (1 + 1 * (24 - y5) : Int).toNat
set_option maxRecDepth 8000 in
theorem ct_X_checkLoads_0f880 {I : fH} {x1 : Int} {x2 : Int} {x3 : Int} (h0 : fB bsJ I) (ha1 : (1 ≤ x1 ∧ x1 ≤ 24)) (ha2 : (0 ≤ x2 ∧ x2 ≤ 300)) (ha3 : (0 ≤ x3 ∧ x3 ≤ 60)) : fC ρ base n F xTc vwCl xTys D dA la gJ (fbz bsJ znJ (fKc wz_b577c) I) xm_219 [.inr (.inr (some 0)), .inl x1, .inl x2, .inl x3] I (fun _ r => ∃ z, r = some (.inl z) ∧ ((0 ≤ z ∧ z ≤ 49) ∨ z = (-1000000005))) := by
  have hW : fzs wz_b577c (fKc wz_b577c) := fKc_ok _
  refine f_meth (rb := rbJ) (J := [(29, jc_X_checkLoads_0f880_29)]) 26 400 xG xin_219 x6_219 okJ (fB_self h0) ?_ ?_
  · refine List.forall_mem_cons.mpr ⟨?_, fun q h => absurd h List.not_mem_nil⟩
    · rintro m _ _ I1 hB1 ⟨y1, y2, y3, y4, y5, rfl, rfl, hb, hm⟩
      refine And.intro (by omega) (And.intro ?_ ?_)
      · intro c1
        refine Exists.intro xm_220 (And.intro mi_220 (And.intro ⟨rfl, rfl, rfl, rfl⟩ (And.intro rfl ?_)))
        refine fcallp hB1 (ct_X_firstWrong_4e02b (fBz h0 hB1) (by omega) (by omega)) ?_
        rintro _ ⟨z2, rfl, hz2⟩
        refine And.intro (True.intro) ?_
        exact ⟨_, rfl, by omega⟩
      · intro c3
        refine And.intro ⟨rfl, by decide, by decide⟩ ?_
        refine Exists.intro xm_192 (And.intro mi_192 (And.intro ⟨rfl, rfl, rfl, rfl⟩ (And.intro rfl ?_)))
        refine fcallp hB1 (ct_Dark_loadAt_007b1 (fBz h0 hB1) (by omega) (by omega)) ?_
        rintro _ ⟨z4, rfl, hz4⟩
        refine And.intro ⟨rfl, by decide, by decide⟩ ?_
        refine And.intro ⟨rfl, by decide, by decide⟩ ?_
        refine fload rL_223_223_0_3_1_0 h0 hB1 (by omega) ?_
        intro z5 lz5 uz5 qz5
        intro z6 hz6 ez6 bz6
        clear ez6
        clear bz6
        refine And.intro ⟨rfl, by decide, by decide⟩ ?_
        refine fstore rS_739_739_0_59_1_0 (fzs_sub (by decide +kernel) hW) (by omega) (by omega) ?_
        intro IhB7 ehB7 hB7
        have t8 := fup_self ehB7
        refine And.intro ⟨rfl, by decide, by decide⟩ ?_
        refine fstore rS_739_739_0_59_1_0 (fzs_sub (by decide +kernel) hW) (by omega) (by omega) ?_
        intro IhB9 ehB9 hB9
        have t10 := fup_self ehB9
        exact fcutJ (I := IhB9) (j := jc_X_checkLoads_0f880_29) (lv' := [(0, .inr (.inr (some 0))), (1, .inl _), (2, .inl _), (3, .inl _), (4, .inl _), (5, .inl _)]) (And.intro rfl (And.intro rfl (And.intro rfl (And.intro rfl (And.intro rfl (And.intro rfl True.intro)))))) ⟨_, _, _, _, _, rfl, rfl, by omega, rfl⟩ (by omega)
  · have hB0 := fB_self (zn := znJ) (K := fKc wz_b577c) h0
    refine And.intro ⟨rfl, by decide, by decide⟩ ?_
    refine And.intro ⟨rfl, by decide, by decide⟩ ?_
    refine Exists.intro xm_189 (And.intro mi_189 (And.intro ⟨rfl, rfl, rfl, rfl⟩ (And.intro rfl ?_)))
    refine fcall _ h0 (fzs_sub (by decide +kernel) hW) hB0 (ct_Dark_leastHarm_e9db9 (fBz h0 hB0) (by omega) (by omega)) ?_
    rintro IhB12 _ hB12 fhB12 ⟨z11, rfl, hz11⟩
    refine And.intro (by omega) (And.intro ?_ ?_)
    · intro c13
      exact fcutJ (I := IhB12) (j := jc_X_checkLoads_0f880_29) (lv' := [(0, .inr (.inr (some 0))), (1, .inl _), (2, .inl _), (3, .inl _), (4, .inl _), (5, .inl _)]) (And.intro rfl (And.intro rfl (And.intro rfl (And.intro rfl (And.intro rfl (And.intro rfl True.intro)))))) ⟨_, _, _, _, _, rfl, rfl, by omega, rfl⟩ (by omega)
    · intro c14
      refine And.intro (True.intro) ?_
      exact ⟨_, rfl, by omega⟩
abbrev jc_X_checkOrder_93ad1_28 : Nat → fL → List fV → fH → Prop := fun m lv st I => ∃ (y2 : Int) (y4 : Int) (y5 : Int), lv = [(0, .inr (.inr (some 0))), (2, .inl y2), (4, .inl y4), (5, .inl y5)] ∧ st = [] ∧ (((0 ≤ y2 ∧ y2 ≤ 60) ∧ ((-2147483648) ≤ y4 ∧ y4 ≤ 2147483647) ∧ (0 ≤ y5 ∧ y5 ≤ 7))) ∧ m = (1 + 1 * (7 - y5) : Int).toNat
set_option maxRecDepth 8000 in
theorem ct_X_checkOrder_93ad1 {I : fH} {x1 : Int} {x2 : Int} (h0 : fB bsJ I) (ha1 : (1 ≤ x1 ∧ x1 ≤ 60)) (ha2 : (0 ≤ x2 ∧ x2 ≤ 60)) : fC ρ base n F xTc vwCl xTys D dA la gJ (fbz bsJ znJ (fKc wz_324de) I) xm_221 [.inr (.inr (some 0)), .inl x1, .inl x2] I (fun _ r => ∃ z, r = some (.inl z) ∧ ((-2147483648) ≤ z ∧ z ≤ 49)) := by
  have hW : fzs wz_324de (fKc wz_324de) := fKc_ok _
  refine f_meth (rb := rbJ) (J := [(28, jc_X_checkOrder_93ad1_28)]) 9 400 xG xin_221 x6_221 okJ (fB_self h0) ?_ ?_
  · refine List.forall_mem_cons.mpr ⟨?_, fun q h => absurd h List.not_mem_nil⟩
    · rintro m _ _ I1 hB1 ⟨y2, y4, y5, rfl, rfl, hb, hm⟩
      refine And.intro ⟨rfl, by decide, by decide⟩ ?_
      refine And.intro ⟨rfl, by decide, by decide⟩ (fgetf fb_211_15 h0 hB1 ?_)
      intro z1 lz1 uz1 qz1
      refine And.intro (by omega) (And.intro ?_ ?_)
      · intro c2
        refine And.intro ⟨rfl, by decide, by decide⟩ ?_
        refine And.intro ⟨rfl, by decide, by decide⟩ (fgetf fb_211_15 h0 hB1 ?_)
        intro z3 lz3 uz3 qz3
        refine Exists.intro xm_220 (And.intro mi_220 (And.intro ⟨rfl, rfl, rfl, rfl⟩ (And.intro rfl ?_)))
        refine fcallp hB1 (ct_X_firstWrong_4e02b (fBz h0 hB1) (by omega) (by omega)) ?_
        rintro _ ⟨z4, rfl, hz4⟩
        refine And.intro (True.intro) ?_
        exact ⟨_, rfl, by omega⟩
      · intro c5
        refine And.intro ⟨rfl, by decide, by decide⟩ ?_
        refine And.intro ⟨rfl, by decide, by decide⟩ ?_
        refine And.intro ⟨rfl, by decide, by decide⟩ ?_
        refine And.intro ⟨rfl, by decide, by decide⟩ ?_
        refine fload rL_736_736_0_6_1_0 h0 hB1 (by omega) ?_
        intro z6 lz6 uz6 qz6
        refine fload rL_254_254_0_6_1_0 h0 hB1 (by omega) ?_
        intro z7 lz7 uz7 qz7
        intro z8 hz8 ez8 bz8
        clear ez8
        clear bz8
        refine And.intro ⟨rfl, by decide, by decide⟩ ?_
        refine And.intro ⟨rfl, by decide, by decide⟩ ?_
        refine And.intro ⟨rfl, by decide, by decide⟩ ?_
        refine fload rL_736_736_0_6_1_0 h0 hB1 (by omega) ?_
        intro z9 lz9 uz9 qz9
        refine fstore rS_739_739_0_59_1_0 (fzs_sub (by decide +kernel) hW) (by omega) (by omega) ?_
        intro IhB10 ehB10 hB10
        have t11 := fup_self ehB10
        have t12 : IhB10 211 15 = I1 211 15 := (congrFun (congrFun ehB10 211) 15).trans (fup_ne (by omega))
        refine And.intro ⟨rfl, by decide, by decide⟩ ?_
        refine fstore rS_739_739_0_59_1_0 (fzs_sub (by decide +kernel) hW) (by omega) (by omega) ?_
        intro IhB13 ehB13 hB13
        have t14 := fup_self ehB13
        have t15 : IhB13 211 15 = IhB10 211 15 := (congrFun (congrFun ehB13 211) 15).trans (fup_ne (by omega))
        exact fcutJ (I := IhB13) (j := jc_X_checkOrder_93ad1_28) (lv' := [(0, .inr (.inr (some 0))), (2, .inl _), (4, .inl _), (5, .inl _)]) (And.intro rfl (And.intro rfl (And.intro rfl (And.intro rfl True.intro)))) ⟨_, _, _, rfl, rfl, by omega, rfl⟩ (by omega)
  · have hB0 := fB_self (zn := znJ) (K := fKc wz_324de) h0
    refine And.intro ⟨rfl, by decide, by decide⟩ ?_
    refine And.intro ⟨rfl, by decide, by decide⟩ ?_
    refine Exists.intro xm_206 (And.intro mi_206 (And.intro ⟨rfl, rfl, rfl, rfl⟩ (And.intro rfl ?_)))
    refine fcall _ h0 (fzs_sub (by decide +kernel) hW) hB0 (ct_Order_bestSum_ae03f (fBz h0 hB0) (by omega) (by omega)) ?_
    rintro IhB17 _ hB17 fhB17 ⟨z16, rfl, hz16⟩
    refine And.intro (by omega) (And.intro ?_ ?_)
    · intro c18
      exact fcutJ (I := IhB17) (j := jc_X_checkOrder_93ad1_28) (lv' := [(0, .inr (.inr (some 0))), (2, .inl _), (4, .inl _), (5, .inl _)]) (And.intro rfl (And.intro rfl (And.intro rfl (And.intro rfl True.intro)))) ⟨_, _, _, rfl, rfl, by omega, rfl⟩ (by omega)
    · intro c19
      refine And.intro (True.intro) ?_
      exact ⟨_, rfl, by omega⟩
set_option maxRecDepth 8000 in
theorem ct_Cells_addAir_f5ee0 {I : fH} {x1 : Int} {x2 : Int} {x3 : Int} (h0 : fB bsJ I) (ha1 : (0 ≤ x1 ∧ x1 ≤ 19)) (ha2 : (0 ≤ x2 ∧ x2 ≤ 4)) (ha3 : ((-2147483648) ≤ x3 ∧ x3 ≤ 2147483647)) : fC ρ base n F xTc vwCl xTys D dA la gJ (fbz bsJ znJ (fKc wz_7eac0) I) xm_84 [.inr (.inr (some 514)), .inl x1, .inl x2, .inl x3] I (fun _ r => r = none) := by
  have hW : fzs wz_7eac0 (fKc wz_7eac0) := fKc_ok _
  refine f_meth (rb := rbJ) (J := []) 1 400 xG xin_84 x6_84 okJ (fB_self h0) ?_ ?_
  · exact fun q h => absurd h List.not_mem_nil
  · have hB0 := fB_self (zn := znJ) (K := fKc wz_7eac0) h0
    refine And.intro ⟨rfl, by decide, by decide⟩ ?_
    refine And.intro ⟨rfl, by decide⟩ (And.intro (by omega) ?_)
    refine fload rL_518_537_0_4_1_0 h0 hB0 (by omega) ?_
    intro z1 lz1 uz1 qz1
    intro z2 hz2 ez2 bz2
    clear ez2
    clear bz2
    refine And.intro ⟨rfl, by decide, by decide⟩ ?_
    refine And.intro ⟨rfl, by decide⟩ (And.intro (by omega) ?_)
    refine And.intro (And.intro (by omega) (And.intro (by omega) rfl)) ?_
    intro z3 hz3
    refine fstore rS_518_537_0_4_1_0 (fzs_sub (by decide +kernel) hW) (by omega) (by omega) ?_
    intro IhB4 ehB4 hB4
    have t5 := fup_self ehB4
    refine And.intro (by omega) (And.intro ?_ ?_)
    · intro c6
      exact rfl
    · intro c7
      refine And.intro ⟨rfl, by decide, by decide⟩ ?_
      refine And.intro ⟨rfl, by decide⟩ (And.intro (by omega) ?_)
      refine fload rL_539_558_0_4_1_0 h0 hB4 (by omega) ?_
      intro z8 lz8 uz8 qz8
      intro z9 hz9 ez9 bz9
      clear ez9
      clear bz9
      refine fstore rS_539_558_0_4_1_0 (fzs_sub (by decide +kernel) hW) (by omega) (by omega) ?_
      intro IhB10 ehB10 hB10
      have t11 := fup_self ehB10
      exact rfl
abbrev jc_Cells_flow_6f8f5_38 : Nat → fL → List fV → fH → Prop := fun m lv st I => ∃ (y1 : Int) (y2 : Int) (y3 : Int) (y4 : Int) (y5 : Int), lv = [(0, .inr (.inr (some 514))), (1, .inl y1), (2, .inl y2), (3, .inl y3), (4, .inl y4), (5, .inl y5)] ∧ st = [] ∧ (((0 ≤ y1 ∧ y1 ≤ 23) ∧ (0 ≤ y2 ∧ y2 ≤ 19) ∧ (0 ≤ y3 ∧ y3 ≤ 19) ∧ (1 ≤ y4 ∧ y4 ≤ 2147483647) ∧ (0 ≤ y5 ∧ y5 ≤ 5))) ∧ m = (1 + 1 * (5 - y5) : Int).toNat
set_option maxRecDepth 8000 in
theorem ct_Cells_flow_6f8f5 {I : fH} {x1 : Int} (h0 : fB bsJ I) (ha1 : (0 ≤ x1 ∧ x1 ≤ 23)) : fC ρ base n F xTc vwCl xTys D dA la gJ (fbz bsJ znJ (fKc wz_7eac0) I) xm_89 [.inr (.inr (some 514)), .inl x1] I (fun _ r => r = none) := by
  have hW : fzs wz_7eac0 (fKc wz_7eac0) := fKc_ok _
  refine f_meth (rb := rbJ) (J := [(38, jc_Cells_flow_6f8f5_38)]) 7 400 xG xin_89 x6_89 okJ (fB_self h0) ?_ ?_
  · refine List.forall_mem_cons.mpr ⟨?_, fun q h => absurd h List.not_mem_nil⟩
    · rintro m _ _ I1 hB1 ⟨y1, y2, y3, y4, y5, rfl, rfl, hb, hm⟩
      refine And.intro (by omega) (And.intro ?_ ?_)
      · intro c1
        exact rfl
      · intro c2
        refine And.intro ⟨rfl, by decide, by decide⟩ ?_
        refine And.intro ⟨rfl, by decide⟩ (And.intro (by omega) ?_)
        refine fload rL_518_537_0_4_1_0 h0 hB1 (by omega) ?_
        intro z3 lz3 uz3 qz3
        refine And.intro ⟨rfl, by decide, by decide⟩ ?_
        refine fload rL_515_515_0_19_1_0 h0 hB1 (by omega) ?_
        intro z4 lz4 uz4 qz4
        intro z5 hz5 ez5 bz5
        clear ez5
        clear bz5
        refine And.intro ⟨rfl, by decide, by decide⟩ ?_
        refine And.intro ⟨rfl, by decide⟩ (And.intro (by omega) ?_)
        refine fload rL_518_537_0_4_1_0 h0 hB1 (by omega) ?_
        intro z6 lz6 uz6 qz6
        refine And.intro ⟨rfl, by decide, by decide⟩ ?_
        refine fload rL_515_515_0_19_1_0 h0 hB1 (by omega) ?_
        intro z7 lz7 uz7 qz7
        intro z8 hz8 ez8 bz8
        clear ez8
        clear bz8
        intro z9 hz9 ez9 bz9
        clear ez9
        clear bz9
        refine And.intro (And.intro (by omega) (And.intro (by omega) (And.intro (by omega) rfl))) ?_
        intro z10 hz10 ez10 dz10
        refine And.intro ⟨rfl, by decide, by decide⟩ ?_
        refine fload rL_582_582_0_23_1_0 h0 hB1 (by omega) ?_
        intro z11 lz11 uz11 qz11
        intro z12 hz12 ez12 bz12
        clear ez12
        clear bz12
        refine And.intro (And.intro (by omega) (And.intro (by omega) (And.intro (by omega) rfl))) ?_
        intro z13 hz13 ez13 dz13
        refine And.intro (by omega) (And.intro ?_ ?_)
        · intro c14
          refine And.intro ⟨rfl, by decide, by decide⟩ ?_
          refine And.intro ⟨rfl, by decide⟩ (And.intro (by omega) ?_)
          refine fload rL_518_537_0_4_1_0 h0 hB1 (by omega) ?_
          intro z15 lz15 uz15 qz15
          intro z16 hz16 ez16 bz16
          clear ez16
          clear bz16
          refine fstore rS_518_537_0_4_1_0 (fzs_sub (by decide +kernel) hW) (by omega) (by omega) ?_
          intro IhB17 ehB17 hB17
          have t18 := fup_self ehB17
          intro z19 hz19 ez19 bz19
          clear ez19
          clear bz19
          refine Exists.intro xm_84 (And.intro mi_84 (And.intro ⟨rfl, rfl, rfl, rfl⟩ (And.intro rfl ?_)))
          refine fcall _ h0 (fzs_sub (by decide +kernel) hW) hB17 (ct_Cells_addAir_f5ee0 (fBz h0 hB17) (by omega) (by omega) (by omega)) ?_
          rintro IhB21 _ hB21 fhB21 rfl
          exact fcutJ (I := IhB21) (j := jc_Cells_flow_6f8f5_38) (lv' := [(0, .inr (.inr (some 514))), (1, .inl _), (2, .inl _), (3, .inl _), (4, .inl _), (5, .inl _)]) (And.intro rfl (And.intro rfl (And.intro rfl (And.intro rfl (And.intro rfl (And.intro rfl True.intro)))))) ⟨_, _, _, _, _, rfl, rfl, by omega, rfl⟩ (by omega)
        · intro c22
          refine And.intro ⟨rfl, by decide, by decide⟩ ?_
          refine And.intro ⟨rfl, by decide⟩ (And.intro (by omega) ?_)
          refine fload rL_518_537_0_4_1_0 h0 hB1 (by omega) ?_
          intro z23 lz23 uz23 qz23
          intro z24 hz24 ez24 bz24
          clear ez24
          clear bz24
          refine fstore rS_518_537_0_4_1_0 (fzs_sub (by decide +kernel) hW) (by omega) (by omega) ?_
          intro IhB25 ehB25 hB25
          have t26 := fup_self ehB25
          refine Exists.intro xm_84 (And.intro mi_84 (And.intro ⟨rfl, rfl, rfl, rfl⟩ (And.intro rfl ?_)))
          refine fcall _ h0 (fzs_sub (by decide +kernel) hW) hB25 (ct_Cells_addAir_f5ee0 (fBz h0 hB25) (by omega) (by omega) (by omega)) ?_
          rintro IhB28 _ hB28 fhB28 rfl
          exact fcutJ (I := IhB28) (j := jc_Cells_flow_6f8f5_38) (lv' := [(0, .inr (.inr (some 514))), (1, .inl _), (2, .inl _), (3, .inl _), (4, .inl _), (5, .inl _)]) (And.intro rfl (And.intro rfl (And.intro rfl (And.intro rfl (And.intro rfl (And.intro rfl True.intro)))))) ⟨_, _, _, _, _, rfl, rfl, by omega, rfl⟩ (by omega)
  · have hB0 := fB_self (zn := znJ) (K := fKc wz_7eac0) h0
    refine And.intro ⟨rfl, by decide, by decide⟩ ?_
    refine fload rL_580_580_0_23_1_0 h0 hB0 (by omega) ?_
    intro z29 lz29 uz29 qz29
    refine And.intro ⟨rfl, by decide, by decide⟩ ?_
    refine fload rL_581_581_0_23_1_0 h0 hB0 (by omega) ?_
    intro z30 lz30 uz30 qz30
    refine And.intro ⟨rfl, by decide, by decide⟩ ?_
    refine fload rL_515_515_0_19_1_0 h0 hB0 (by omega) ?_
    intro z31 lz31 uz31 qz31
    refine And.intro ⟨rfl, by decide, by decide⟩ ?_
    refine fload rL_515_515_0_19_1_0 h0 hB0 (by omega) ?_
    intro z32 lz32 uz32 qz32
    intro z33 hz33 ez33 bz33
    clear ez33
    clear bz33
    refine And.intro (by omega) (And.intro ?_ ?_)
    · intro c34
      exact fcutJ (I := I) (j := jc_Cells_flow_6f8f5_38) (lv' := [(0, .inr (.inr (some 514))), (1, .inl _), (2, .inl _), (3, .inl _), (4, .inl _), (5, .inl _)]) (And.intro rfl (And.intro rfl (And.intro rfl (And.intro rfl (And.intro rfl (And.intro rfl True.intro)))))) ⟨_, _, _, _, _, rfl, rfl, by omega, rfl⟩ (by omega)
    · intro c35
      exact rfl
abbrev jc_Cells_flowAll_87643_2 : Nat → fL → List fV → fH → Prop := fun m lv st I => ∃ (y1 : Int), lv = [(0, .inr (.inr (some 514))), (1, .inl y1)] ∧ st = [] ∧ (((0 ≤ y1 ∧ y1 ≤ 24))) ∧ m = (1 + 1 * (24 - y1) : Int).toNat
set_option maxRecDepth 8000 in
theorem ct_Cells_flowAll_87643 {I : fH}  (h0 : fB bsJ I)  : fC ρ base n F xTc vwCl xTys D dA la gJ (fbz bsJ znJ (fKc wz_7eac0) I) xm_88 [.inr (.inr (some 514))] I (fun _ r => r = none) := by
  have hW : fzs wz_7eac0 (fKc wz_7eac0) := fKc_ok _
  refine f_meth (rb := rbJ) (J := [(2, jc_Cells_flowAll_87643_2)]) 26 400 xG xin_88 x6_88 okJ (fB_self h0) ?_ ?_
  · refine List.forall_mem_cons.mpr ⟨?_, fun q h => absurd h List.not_mem_nil⟩
    · rintro m _ _ I1 hB1 ⟨y1, rfl, rfl, hb, hm⟩
      refine And.intro ⟨rfl, by decide, by decide⟩ (fgetf fb_514_10 h0 hB1 ?_)
      intro z1 lz1 uz1 qz1
      refine And.intro (by omega) (And.intro ?_ ?_)
      · intro c2
        exact rfl
      · intro c3
        refine And.intro ⟨rfl, by decide, by decide⟩ ?_
        refine fload rL_583_583_0_23_1_0 h0 hB1 (by omega) ?_
        intro z4 lz4 uz4 qz4
        refine And.intro (by omega) (And.intro ?_ ?_)
        · intro c5
          exact fcutJ (I := I1) (j := jc_Cells_flowAll_87643_2) (lv' := [(0, .inr (.inr (some 514))), (1, .inl _)]) (And.intro rfl (And.intro rfl True.intro)) ⟨_, rfl, rfl, by omega, rfl⟩ (by omega)
        · intro c6
          refine Exists.intro xm_89 (And.intro mi_89 (And.intro ⟨rfl, rfl, rfl, rfl⟩ (And.intro rfl ?_)))
          refine fcall _ h0 (fzs_sub (by decide +kernel) hW) hB1 (ct_Cells_flow_6f8f5 (fBz h0 hB1) (by omega)) ?_
          rintro IhB8 _ hB8 fhB8 rfl
          have t9 := fhB8 514 10 (by decide +kernel)
          exact fcutJ (I := IhB8) (j := jc_Cells_flowAll_87643_2) (lv' := [(0, .inr (.inr (some 514))), (1, .inl _)]) (And.intro rfl (And.intro rfl True.intro)) ⟨_, rfl, rfl, by omega, rfl⟩ (by omega)
  · have hB0 := fB_self (zn := znJ) (K := fKc wz_7eac0) h0
    exact fcutJ (I := I) (j := jc_Cells_flowAll_87643_2) (lv' := [(0, .inr (.inr (some 514))), (1, .inl _)]) (And.intro rfl (And.intro rfl True.intro)) ⟨_, rfl, rfl, by omega, rfl⟩ (by omega)
set_option maxRecDepth 8000 in
theorem ct_People_isDead_16e8f {I : fH} {x1 : Int} (h0 : fB bsJ I) (ha1 : (0 ≤ x1 ∧ x1 ≤ 23)) : fC ρ base n F xTc vwCl xTys D dA la gJ (fbz bsJ znJ (fKc []) I) xm_21 [.inr (.inr (some 689)), .inl x1] I (fun _ r => ∃ z, r = some (.inl z) ∧ (0 ≤ z ∧ z ≤ 1)) := by
  have hW : fzs [] (fKc []) := fKc_ok _
  refine f_meth (rb := rbJ) (J := []) 1 400 xG xin_21 x6_21 okJ (fB_self h0) ?_ ?_
  · exact fun q h => absurd h List.not_mem_nil
  · have hB0 := fB_self (zn := znJ) (K := fKc []) h0
    refine And.intro ⟨rfl, by decide, by decide⟩ ?_
    refine fload rL_693_693_0_23_1_0 h0 hB0 (by omega) ?_
    intro z1 lz1 uz1 qz1
    refine And.intro (by omega) (And.intro ?_ ?_)
    · intro c2
      refine And.intro (⟨by omega, by omega⟩) ?_
      exact ⟨_, rfl, by omega⟩
    · intro c3
      refine And.intro (⟨by omega, by omega⟩) ?_
      exact ⟨_, rfl, by omega⟩
abbrev jc_Cells_leakAll_a583d_2 : Nat → fL → List fV → fH → Prop := fun m lv st I => ∃ (y1 : Int), lv = [(0, .inr (.inr (some 514))), (1, .inl y1)] ∧ st = [] ∧ (((0 ≤ y1 ∧ y1 ≤ 20))) ∧ m = (7 + 7 * (20 - y1) : Int).toNat
abbrev jc_Cells_leakAll_a583d_12 : Nat → fL → List fV → fH → Prop := fun m lv st I => ∃ (y1 : Int) (y2 : Int), lv = [(0, .inr (.inr (some 514))), (1, .inl y1), (2, .inl y2)] ∧ st = [] ∧ (((0 ≤ y1 ∧ y1 ≤ 19) ∧ (0 ≤ y2 ∧ y2 ≤ 5) ∧ (1 ≤ I 514 5 ∧ I 514 5 ≤ 20))) ∧ m = (1 + 7 * (20 - y1) + 1 * (5 - y2) : Int).toNat
set_option maxRecDepth 8000 in
theorem ct_Cells_leakAll_a583d {I : fH}  (h0 : fB bsJ I)  : fC ρ base n F xTc vwCl xTys D dA la gJ (fbz bsJ znJ (fKc wz_7eac0) I) xm_90 [.inr (.inr (some 514))] I (fun _ r => r = none) := by
  have hW : fzs wz_7eac0 (fKc wz_7eac0) := fKc_ok _
  refine f_meth (rb := rbJ) (J := [(2, jc_Cells_leakAll_a583d_2), (12, jc_Cells_leakAll_a583d_12)]) 148 400 xG xin_90 x6_90 okJ (fB_self h0) ?_ ?_
  · refine List.forall_mem_cons.mpr ⟨?_, List.forall_mem_cons.mpr ⟨?_, fun q h => absurd h List.not_mem_nil⟩⟩
    · rintro m _ _ I1 hB1 ⟨y1, rfl, rfl, hb, hm⟩
      refine And.intro ⟨rfl, by decide, by decide⟩ (fgetf fb_514_5 h0 hB1 ?_)
      intro z1 lz1 uz1 qz1
      refine And.intro (by omega) (And.intro ?_ ?_)
      · intro c2
        exact rfl
      · intro c3
        exact fcutJ (I := I1) (j := jc_Cells_leakAll_a583d_12) (lv' := [(0, .inr (.inr (some 514))), (1, .inl _), (2, .inl _)]) (And.intro rfl (And.intro rfl (And.intro rfl True.intro))) ⟨_, _, rfl, rfl, by omega, rfl⟩ (by omega)
    · rintro m _ _ I1 hB1 ⟨y1, y2, rfl, rfl, hb, hm⟩
      refine And.intro (by omega) (And.intro ?_ ?_)
      · intro c4
        exact fcutJ (I := I1) (j := jc_Cells_leakAll_a583d_2) (lv' := [(0, .inr (.inr (some 514))), (1, .inl _)]) (And.intro rfl (And.intro rfl True.intro)) ⟨_, rfl, rfl, by omega, rfl⟩ (by omega)
      · intro c5
        refine And.intro ⟨rfl, by decide, by decide⟩ ?_
        refine And.intro ⟨rfl, by decide⟩ (And.intro (by omega) ?_)
        refine fload rL_518_537_0_4_1_0 h0 hB1 (by omega) ?_
        intro z6 lz6 uz6 qz6
        refine And.intro ⟨rfl, by decide, by decide⟩ ?_
        refine fload rL_516_516_0_19_1_0 h0 hB1 (by omega) ?_
        intro z7 lz7 uz7 qz7
        intro z8 hz8 ez8 bz8
        clear ez8
        clear bz8
        refine And.intro (And.intro (by omega) (And.intro (by omega) (And.intro (by omega) rfl))) ?_
        intro z9 hz9 ez9 dz9
        refine And.intro ⟨rfl, by decide, by decide⟩ ?_
        refine And.intro ⟨rfl, by decide⟩ (And.intro (by omega) ?_)
        refine fload rL_518_537_0_4_1_0 h0 hB1 (by omega) ?_
        intro z10 lz10 uz10 qz10
        intro z11 hz11 ez11 bz11
        clear ez11
        clear bz11
        refine fstore rS_518_537_0_4_1_0 (fzs_sub (by decide +kernel) hW) (by omega) (by omega) ?_
        intro IhB12 ehB12 hB12
        have t13 := fup_self ehB12
        have t14 : IhB12 514 5 = I1 514 5 := (congrFun (congrFun ehB12 514) 5).trans (fup_ne (by omega))
        refine And.intro ⟨rfl, by decide, by decide⟩ ?_
        refine And.intro ⟨rfl, by decide⟩ (And.intro (by omega) ?_)
        refine fload rL_539_558_0_4_1_0 h0 hB12 (by omega) ?_
        intro z15 lz15 uz15 qz15
        intro z16 hz16 ez16 bz16
        clear ez16
        clear bz16
        refine fstore rS_539_558_0_4_1_0 (fzs_sub (by decide +kernel) hW) (by omega) (by omega) ?_
        intro IhB17 ehB17 hB17
        have t18 := fup_self ehB17
        have t19 : IhB17 514 5 = IhB12 514 5 := (congrFun (congrFun ehB17 514) 5).trans (fup_ne (by omega))
        exact fcutJ (I := IhB17) (j := jc_Cells_leakAll_a583d_12) (lv' := [(0, .inr (.inr (some 514))), (1, .inl _), (2, .inl _)]) (And.intro rfl (And.intro rfl (And.intro rfl True.intro))) ⟨_, _, rfl, rfl, by omega, rfl⟩ (by omega)
  · have hB0 := fB_self (zn := znJ) (K := fKc wz_7eac0) h0
    exact fcutJ (I := I) (j := jc_Cells_leakAll_a583d_2) (lv' := [(0, .inr (.inr (some 514))), (1, .inl _)]) (And.intro rfl (And.intro rfl True.intro)) ⟨_, rfl, rfl, by omega, rfl⟩ (by omega)
abbrev jc_Works_foulAll_2e164_2 : Nat → fL → List fV → fH → Prop := fun m lv st I => ∃ (y1 : Int), lv = [(0, .inr (.inr (some 675))), (1, .inl y1)] ∧ st = [] ∧ (((0 ≤ y1 ∧ y1 ≤ 24))) ∧ m = (1 + 1 * (24 - y1) : Int).toNat
set_option maxRecDepth 8000 in
theorem ct_Works_foulAll_2e164 {I : fH}  (h0 : fB bsJ I)  : fC ρ base n F xTc vwCl xTys D dA la gJ (fbz bsJ znJ (fKc wz_4c809) I) xm_95 [.inr (.inr (some 675))] I (fun _ r => r = none) := by
  have hW : fzs wz_4c809 (fKc wz_4c809) := fKc_ok _
  refine f_meth (rb := rbJ) (J := [(2, jc_Works_foulAll_2e164_2)]) 26 400 xG xin_95 x6_95 okJ (fB_self h0) ?_ ?_
  · refine List.forall_mem_cons.mpr ⟨?_, fun q h => absurd h List.not_mem_nil⟩
    · rintro m _ _ I1 hB1 ⟨y1, rfl, rfl, hb, hm⟩
      refine And.intro ⟨rfl, by decide, by decide⟩ (fgetf fb_675_13 h0 hB1 ?_)
      intro z1 lz1 uz1 qz1
      refine And.intro (by omega) (And.intro ?_ ?_)
      · intro c2
        exact rfl
      · intro c3
        refine And.intro ⟨rfl, by decide, by decide⟩ ?_
        refine fload rL_686_686_0_23_1_0 h0 hB1 (by omega) ?_
        intro z4 lz4 uz4 qz4
        refine And.intro (by omega) (And.intro ?_ ?_)
        · intro c5
          exact fcutJ (I := I1) (j := jc_Works_foulAll_2e164_2) (lv' := [(0, .inr (.inr (some 675))), (1, .inl _)]) (And.intro rfl (And.intro rfl True.intro)) ⟨_, rfl, rfl, by omega, rfl⟩ (by omega)
        · intro c6
          refine And.intro ⟨rfl, by decide, by decide⟩ ?_
          refine fload rL_682_682_0_23_1_0 h0 hB1 (by omega) ?_
          intro z7 lz7 uz7 qz7
          refine And.intro ⟨rfl, by decide, by decide⟩ ?_
          refine fload rL_681_681_0_23_1_0 h0 hB1 (by omega) ?_
          intro z8 lz8 uz8 qz8
          intro z9 hz9 ez9 bz9
          clear ez9
          clear bz9
          refine fstore rS_682_682_0_23_1_0 (fzs_sub (by decide +kernel) hW) (by omega) (by omega) ?_
          intro IhB10 ehB10 hB10
          have t11 := fup_self ehB10
          have t12 : IhB10 675 13 = I1 675 13 := (congrFun (congrFun ehB10 675) 13).trans (fup_ne (by omega))
          refine And.intro ⟨rfl, by decide, by decide⟩ ?_
          refine And.intro ⟨rfl, by decide, by decide⟩ ?_
          refine fload rL_680_680_0_23_1_0 h0 hB10 (by omega) ?_
          intro z13 lz13 uz13 qz13
          refine And.intro ⟨rfl, by decide, by decide⟩ ?_
          refine fload rL_682_682_0_23_1_0 h0 hB10 (by omega) ?_
          intro z14 lz14 uz14 qz14
          refine And.intro (And.intro (by omega) (And.intro (by omega) (And.intro (by omega) rfl))) ?_
          intro z15 hz15 ez15 dz15
          intro z16 hz16 ez16 bz16
          clear ez16
          clear bz16
          refine And.intro (And.intro (by omega) (And.intro (by omega) rfl)) ?_
          intro z17 hz17
          refine fstore rS_680_680_0_23_1_0 (fzs_sub (by decide +kernel) hW) (by omega) (by omega) ?_
          intro IhB18 ehB18 hB18
          have t19 := fup_self ehB18
          have t20 : IhB18 675 13 = IhB10 675 13 := (congrFun (congrFun ehB18 675) 13).trans (fup_ne (by omega))
          refine And.intro ⟨rfl, by decide, by decide⟩ ?_
          refine fload rL_682_682_0_23_1_0 h0 hB18 (by omega) ?_
          intro z21 lz21 uz21 qz21
          refine And.intro (And.intro (by omega) (And.intro (by omega) (And.intro (by omega) rfl))) ?_
          intro z22 hz22 ez22 dz22
          refine fstore rS_682_682_0_23_1_0 (fzs_sub (by decide +kernel) hW) (by omega) (by omega) ?_
          intro IhB23 ehB23 hB23
          have t24 := fup_self ehB23
          have t25 : IhB23 675 13 = IhB18 675 13 := (congrFun (congrFun ehB23 675) 13).trans (fup_ne (by omega))
          exact fcutJ (I := IhB23) (j := jc_Works_foulAll_2e164_2) (lv' := [(0, .inr (.inr (some 675))), (1, .inl _)]) (And.intro rfl (And.intro rfl True.intro)) ⟨_, rfl, rfl, by omega, rfl⟩ (by omega)
  · have hB0 := fB_self (zn := znJ) (K := fKc wz_4c809) h0
    exact fcutJ (I := I) (j := jc_Works_foulAll_2e164_2) (lv' := [(0, .inr (.inr (some 675))), (1, .inl _)]) (And.intro rfl (And.intro rfl True.intro)) ⟨_, rfl, rfl, by omega, rfl⟩ (by omega)
set_option maxRecDepth 8000 in
theorem ct_Works_isGone_bce90 {I : fH} {x1 : Int} (h0 : fB bsJ I) (ha1 : (0 ≤ x1 ∧ x1 ≤ 23)) : fC ρ base n F xTc vwCl xTys D dA la gJ (fbz bsJ znJ (fKc []) I) xm_50 [.inr (.inr (some 675)), .inl x1] I (fun _ r => ∃ z, r = some (.inl z) ∧ (0 ≤ z ∧ z ≤ 1)) := by
  have hW : fzs [] (fKc []) := fKc_ok _
  refine f_meth (rb := rbJ) (J := []) 1 400 xG xin_50 x6_50 okJ (fB_self h0) ?_ ?_
  · exact fun q h => absurd h List.not_mem_nil
  · have hB0 := fB_self (zn := znJ) (K := fKc []) h0
    refine And.intro ⟨rfl, by decide, by decide⟩ ?_
    refine fload rL_686_686_0_23_1_0 h0 hB0 (by omega) ?_
    intro z1 lz1 uz1 qz1
    refine And.intro (by omega) (And.intro ?_ ?_)
    · intro c2
      refine And.intro (⟨by omega, by omega⟩) ?_
      exact ⟨_, rfl, by omega⟩
    · intro c3
      refine And.intro (⟨by omega, by omega⟩) ?_
      exact ⟨_, rfl, by omega⟩
abbrev jc_People_isWatched_98c46_2 : Nat → fL → List fV → fH → Prop := fun m lv st I => ∃ (y1 : Int) (y2 : Int), lv = [(0, .inr (.inr (some 689))), (1, .inl y1), (2, .inl y2)] ∧ st = [] ∧ (((0 ≤ y1 ∧ y1 ≤ 19) ∧ (0 ≤ y2 ∧ y2 ≤ 24))) ∧ m = (1 + 1 * (24 - y2) : Int).toNat
set_option maxRecDepth 8000 in
theorem ct_People_isWatched_98c46 {I : fH} {x1 : Int} (h0 : fB bsJ I) (ha1 : (0 ≤ x1 ∧ x1 ≤ 19)) : fC ρ base n F xTc vwCl xTys D dA la gJ (fbz bsJ znJ (fKc []) I) xm_97 [.inr (.inr (some 689)), .inl x1] I (fun _ r => ∃ z, r = some (.inl z) ∧ (0 ≤ z ∧ z ≤ 1)) := by
  have hW : fzs [] (fKc []) := fKc_ok _
  refine f_meth (rb := rbJ) (J := [(2, jc_People_isWatched_98c46_2)]) 26 400 xG xin_97 x6_97 okJ (fB_self h0) ?_ ?_
  · refine List.forall_mem_cons.mpr ⟨?_, fun q h => absurd h List.not_mem_nil⟩
    · rintro m _ _ I1 hB1 ⟨y1, y2, rfl, rfl, hb, hm⟩
      refine And.intro ⟨rfl, by decide, by decide⟩ (fgetf fb_689_4 h0 hB1 ?_)
      intro z1 lz1 uz1 qz1
      refine And.intro (by omega) (And.intro ?_ ?_)
      · intro c2
        refine And.intro (⟨by omega, by omega⟩) ?_
        exact ⟨_, rfl, by omega⟩
      · intro c3
        refine And.intro ⟨rfl, by decide, by decide⟩ ?_
        refine fload rL_692_692_0_23_1_0 h0 hB1 (by omega) ?_
        intro z4 lz4 uz4 qz4
        refine And.intro (by omega) (And.intro ?_ ?_)
        · intro c5
          exact fcutJ (I := I1) (j := jc_People_isWatched_98c46_2) (lv' := [(0, .inr (.inr (some 689))), (1, .inl _), (2, .inl _)]) (And.intro rfl (And.intro rfl (And.intro rfl True.intro))) ⟨_, _, rfl, rfl, by omega, rfl⟩ (by omega)
        · intro c6
          refine And.intro ⟨rfl, by decide, by decide⟩ ?_
          refine fload rL_691_691_0_23_1_0 h0 hB1 (by omega) ?_
          intro z7 lz7 uz7 qz7
          refine And.intro (by omega) (And.intro ?_ ?_)
          · intro c8
            exact fcutJ (I := I1) (j := jc_People_isWatched_98c46_2) (lv' := [(0, .inr (.inr (some 689))), (1, .inl _), (2, .inl _)]) (And.intro rfl (And.intro rfl (And.intro rfl True.intro))) ⟨_, _, rfl, rfl, by omega, rfl⟩ (by omega)
          · intro c9
            refine Exists.intro xm_21 (And.intro mi_21 (And.intro ⟨rfl, rfl, rfl, rfl⟩ (And.intro rfl ?_)))
            refine fcallp hB1 (ct_People_isDead_16e8f (fBz h0 hB1) (by omega)) ?_
            rintro _ ⟨z10, rfl, hz10⟩
            refine And.intro (by omega) (And.intro ?_ ?_)
            · intro c11
              exact fcutJ (I := I1) (j := jc_People_isWatched_98c46_2) (lv' := [(0, .inr (.inr (some 689))), (1, .inl _), (2, .inl _)]) (And.intro rfl (And.intro rfl (And.intro rfl True.intro))) ⟨_, _, rfl, rfl, by omega, rfl⟩ (by omega)
            · intro c12
              refine And.intro (⟨by omega, by omega⟩) ?_
              exact ⟨_, rfl, by omega⟩
  · have hB0 := fB_self (zn := znJ) (K := fKc []) h0
    exact fcutJ (I := I) (j := jc_People_isWatched_98c46_2) (lv' := [(0, .inr (.inr (some 689))), (1, .inl _), (2, .inl _)]) (And.intro rfl (And.intro rfl (And.intro rfl True.intro))) ⟨_, _, rfl, rfl, by omega, rfl⟩ (by omega)
set_option maxRecDepth 8000 in
theorem ct_Cells_sendReport_31df9 {I : fH} {x1 : Int} {x2 : Int} {x3 : Int} (h0 : fB bsJ I) (ha1 : (0 ≤ x1 ∧ x1 ≤ 19)) (ha2 : ((-2147483648) ≤ x2 ∧ x2 ≤ 2147483647)) (ha3 : ((-2147483648) ≤ x3 ∧ x3 ≤ 2147483647)) : fC ρ base n F xTc vwCl xTys D dA la gJ (fbz bsJ znJ (fKc wz_3ed0a) I) xm_98 [.inr (.inr (some 514)), .inl x1, .inl x2, .inl x3] I (fun _ r => r = none) := by
  have hW : fzs wz_3ed0a (fKc wz_3ed0a) := fKc_ok _
  refine f_meth (rb := rbJ) (J := []) 1 400 xG xin_98 x6_98 okJ (fB_self h0) ?_ ?_
  · exact fun q h => absurd h List.not_mem_nil
  · have hB0 := fB_self (zn := znJ) (K := fKc wz_3ed0a) h0
    refine And.intro (by omega) (And.intro ?_ ?_)
    · intro c1
      refine And.intro ⟨rfl, by decide, by decide⟩ (fgetf fb_514_12 h0 hB0 ?_)
      intro z2 lz2 uz2 qz2
      refine And.intro (by omega) (And.intro ?_ ?_)
      · intro c3
        exact rfl
      · intro c4
        refine And.intro ⟨rfl, by decide, by decide⟩ ?_
        refine And.intro ⟨rfl, by decide, by decide⟩ (fgetf fb_514_12 h0 hB0 ?_)
        intro z5 lz5 uz5 qz5
        refine And.intro ⟨rfl, by decide⟩ (And.intro (by omega) ?_)
        refine And.intro ⟨rfl, by decide, by decide⟩ ?_
        refine And.intro ⟨rfl, by decide⟩ (And.intro (by omega) ?_)
        refine And.intro (fcopyU (rgG_518_537 (by omega) (by omega)) (rgG_585_674 (by omega) (by omega)) rL_518_537_0_4_1_0 rS_585_674_0_4_1_0 (fzs_sub (by decide +kernel) hW) h0 hB0 (by omega) (by omega) (by omega) (by omega)) (And.intro rfl ?_)
        intro IhB6 ehB6 hB6
        have t7 : IhB6 514 12 = I 514 12 := (congrFun (congrFun ehB6 514) 12).trans (fcpy_ne (by omega))
        refine fstore rS_585_674_5_5_1_0 (fzs_sub (by decide +kernel) hW) (by omega) (by omega) ?_
        intro IhB8 ehB8 hB8
        have t9 := fup_self ehB8
        have t10 : IhB8 514 12 = IhB6 514 12 := (congrFun (congrFun ehB8 514) 12).trans (fup_ne (by omega))
        intro z11 hz11 ez11 bz11
        clear ez11
        clear bz11
        refine fstore rS_585_674_6_6_1_0 (fzs_sub (by decide +kernel) hW) (by omega) (by omega) ?_
        intro IhB12 ehB12 hB12
        have t13 := fup_self ehB12
        have t14 : IhB12 514 12 = IhB8 514 12 := (congrFun (congrFun ehB12 514) 12).trans (fup_ne (by omega))
        refine fstore rS_585_674_7_7_1_0 (fzs_sub (by decide +kernel) hW) (by omega) (by omega) ?_
        intro IhB15 ehB15 hB15
        have t16 := fup_self ehB15
        have t17 : IhB15 514 12 = IhB12 514 12 := (congrFun (congrFun ehB15 514) 12).trans (fup_ne (by omega))
        refine And.intro ⟨rfl, by decide, by decide⟩ (fgetf fb_514_12 h0 hB15 ?_)
        intro z18 lz18 uz18 qz18
        refine And.intro ⟨rfl, by decide, by decide⟩ (And.intro rfl (And.intro (Or.inl rfl) (fputf fb_514_12 (by decide +kernel) hW (by omega) ?_)))
        intro IhB19 ehB19 hB19
        exact rfl
    · intro c20
      refine And.intro ⟨rfl, by decide, by decide⟩ ?_
      refine And.intro ⟨rfl, by decide⟩ (And.intro (by omega) ?_)
      refine And.intro ⟨rfl, by decide, by decide⟩ ?_
      refine And.intro ⟨rfl, by decide⟩ (And.intro (by omega) ?_)
      refine And.intro (fcopyU (rgG_518_537 (by omega) (by omega)) (rgG_560_579 (by omega) (by omega)) rL_518_537_0_4_1_0 rS_560_579_0_5_1_0 (fzs_sub (by decide +kernel) hW) h0 hB0 (by omega) (by omega) (by omega) (by omega)) (And.intro rfl ?_)
      intro IhB21 ehB21 hB21
      refine And.intro ⟨rfl, by decide, by decide⟩ ?_
      refine And.intro ⟨rfl, by decide⟩ (And.intro (by omega) ?_)
      refine fstore rS_560_579_0_5_1_0 (fzs_sub (by decide +kernel) hW) (by omega) (by omega) ?_
      intro IhB22 ehB22 hB22
      have t23 := fup_self ehB22
      exact rfl
abbrev jc_City_sendReports_305c9_2 : Nat → fL → List fV → fH → Prop := fun m lv st I => ∃ (y1 : Int), lv = [(0, .inr (.inr (some 513))), (1, .inl y1)] ∧ st = [] ∧ (((0 ≤ y1 ∧ y1 ≤ 20))) ∧ m = (1 + 1 * (20 - y1) : Int).toNat
set_option maxRecDepth 8000 in
theorem ct_City_sendReports_305c9 {I : fH}  (h0 : fB bsJ I)  : fC ρ base n F xTc vwCl xTys D dA la gJ (fbz bsJ znJ (fKc wz_3ed0a) I) xm_96 [.inr (.inr (some 513))] I (fun _ r => r = none) := by
  have hW : fzs wz_3ed0a (fKc wz_3ed0a) := fKc_ok _
  refine f_meth (rb := rbJ) (J := [(2, jc_City_sendReports_305c9_2)]) 22 400 xG xin_96 x6_96 okJ (fB_self h0) ?_ ?_
  · refine List.forall_mem_cons.mpr ⟨?_, fun q h => absurd h List.not_mem_nil⟩
    · rintro m _ _ I1 hB1 ⟨y1, rfl, rfl, hb, hm⟩
      refine And.intro ⟨rfl, by decide, by decide⟩ ?_
      refine And.intro ⟨rfl, by decide, by decide⟩ (fgetf fb_514_5 h0 hB1 ?_)
      intro z1 lz1 uz1 qz1
      refine And.intro (by omega) (And.intro ?_ ?_)
      · intro c2
        exact rfl
      · intro c3
        refine And.intro ⟨rfl, by decide, by decide⟩ ?_
        refine Exists.intro xm_97 (And.intro mi_97 (And.intro ⟨rfl, rfl, rfl, rfl⟩ (And.intro rfl ?_)))
        refine fcallp hB1 (ct_People_isWatched_98c46 (fBz h0 hB1) (by omega)) ?_
        rintro _ ⟨z4, rfl, hz4⟩
        refine And.intro (by omega) (And.intro ?_ ?_)
        · intro c5
          exact fcutJ (I := I1) (j := jc_City_sendReports_305c9_2) (lv' := [(0, .inr (.inr (some 513))), (1, .inl _)]) (And.intro rfl (And.intro rfl True.intro)) ⟨_, rfl, rfl, by omega, rfl⟩ (by omega)
        · intro c6
          refine And.intro ⟨rfl, by decide, by decide⟩ ?_
          refine And.intro ⟨rfl, by decide, by decide⟩ (fgetf fb_513_9 h0 hB1 ?_)
          intro z7 lz7 uz7 qz7
          refine And.intro ⟨rfl, by decide, by decide⟩ (fgetf fb_513_8 h0 hB1 ?_)
          intro z8 lz8 uz8 qz8
          refine Exists.intro xm_98 (And.intro mi_98 (And.intro ⟨rfl, rfl, rfl, rfl⟩ (And.intro rfl ?_)))
          refine fcall _ h0 (fzs_sub (by decide +kernel) hW) hB1 (ct_Cells_sendReport_31df9 (fBz h0 hB1) (by omega) (by omega) (by omega)) ?_
          rintro IhB10 _ hB10 fhB10 rfl
          have t11 := fhB10 514 5 (by decide +kernel)
          exact fcutJ (I := IhB10) (j := jc_City_sendReports_305c9_2) (lv' := [(0, .inr (.inr (some 513))), (1, .inl _)]) (And.intro rfl (And.intro rfl True.intro)) ⟨_, rfl, rfl, by omega, rfl⟩ (by omega)
  · have hB0 := fB_self (zn := znJ) (K := fKc wz_3ed0a) h0
    exact fcutJ (I := I) (j := jc_City_sendReports_305c9_2) (lv' := [(0, .inr (.inr (some 513))), (1, .inl _)]) (And.intro rfl (And.intro rfl True.intro)) ⟨_, rfl, rfl, by omega, rfl⟩ (by omega)
set_option maxRecDepth 8000 in
theorem ct_Cells_hear_45721 {I : fH} {x1 : Nat} (h0 : fB bsJ I) (ha1 : (585 ≤ x1 ∧ x1 ≤ 674)) : fC ρ base n F xTc vwCl xTys D dA la gJ (fbz bsJ znJ (fKc wz_10d1b) I) xm_76 [.inr (.inr (some 514)), .inr (.inr (some x1))] I (fun _ r => r = none) := by
  have hW : fzs wz_10d1b (fKc wz_10d1b) := fKc_ok _
  refine f_meth (rb := rbJ) (J := []) 1 400 xG xin_76 x6_76 okJ (fB_self h0) ?_ ?_
  · exact fun q h => absurd h List.not_mem_nil
  · have hB0 := fB_self (zn := znJ) (K := fKc wz_10d1b) h0
    refine fload rL_585_674_7_7_1_0 h0 hB0 (by omega) ?_
    intro z1 lz1 uz1 qz1
    refine fload rL_585_674_5_5_1_0 h0 hB0 (by omega) ?_
    intro z2 lz2 uz2 qz2
    refine And.intro ⟨rfl, by decide, by decide⟩ ?_
    refine And.intro ⟨rfl, by decide⟩ (And.intro (by omega) ?_)
    refine fload rL_560_579_0_5_1_0 h0 hB0 (by omega) ?_
    intro z3 lz3 uz3 qz3
    refine And.intro (by omega) (And.intro ?_ ?_)
    · intro c4
      exact rfl
    · intro c5
      refine And.intro ⟨rfl, by decide, by decide⟩ ?_
      refine And.intro ⟨rfl, by decide⟩ (And.intro (by omega) ?_)
      refine And.intro (fcopyU (rgG_585_674 (by omega) (by omega)) (rgG_560_579 (by omega) (by omega)) rL_585_674_0_5_1_0 rS_560_579_0_5_1_0 (fzs_sub (by decide +kernel) hW) h0 hB0 (by omega) (by omega) (by omega) (by omega)) (And.intro rfl ?_)
      intro IhB6 ehB6 hB6
      exact rfl
abbrev jc_Cells_takeReports_88f4c_4 : Nat → fL → List fV → fH → Prop := fun m lv st I => ∃ (y1 : Int) (y2 : Int) (y3 : Int), lv = [(0, .inr (.inr (some 514))), (1, .inl y1), (2, .inl y2), (3, .inl y3)] ∧ st = [] ∧ ((((-2147483648) ≤ y1 ∧ y1 ≤ 2147483647) ∧ (0 ≤ y2 ∧ y2 ≤ 90) ∧ (0 ≤ y3 ∧ y3 ≤ 90) ∧ (y2 ≤ y3))) ∧ m = (1 + 1 * (90 - y3) : Int).toNat
set_option maxRecDepth 8000 in
theorem ct_Cells_takeReports_88f4c {I : fH} {x1 : Int} (h0 : fB bsJ I) (ha1 : ((-2147483648) ≤ x1 ∧ x1 ≤ 2147483647)) : fC ρ base n F xTc vwCl xTys D dA la gJ (fbz bsJ znJ (fKc wz_3ed0a) I) xm_74 [.inr (.inr (some 514)), .inl x1] I (fun _ r => r = none) := by
  have hW : fzs wz_3ed0a (fKc wz_3ed0a) := fKc_ok _
  refine f_meth (rb := rbJ) (J := [(4, jc_Cells_takeReports_88f4c_4)]) 92 400 xG xin_74 x6_74 okJ (fB_self h0) ?_ ?_
  · refine List.forall_mem_cons.mpr ⟨?_, fun q h => absurd h List.not_mem_nil⟩
    · rintro m _ _ I1 hB1 ⟨y1, y2, y3, rfl, rfl, hb, hm⟩
      refine And.intro ⟨rfl, by decide, by decide⟩ (fgetf fb_514_12 h0 hB1 ?_)
      intro z1 lz1 uz1 qz1
      refine And.intro (by omega) (And.intro ?_ ?_)
      · intro c2
        refine And.intro ⟨rfl, by decide, by decide⟩ (And.intro rfl (And.intro (Or.inl rfl) (fputf fb_514_12 (by decide +kernel) hW (by omega) ?_)))
        intro IhB3 ehB3 hB3
        have t4 := fup_at ehB3 12 (by omega)
        exact rfl
      · intro c5
        refine And.intro ⟨rfl, by decide, by decide⟩ ?_
        refine And.intro ⟨rfl, by decide⟩ (And.intro (by omega) ?_)
        refine fload rL_585_674_6_6_1_0 h0 hB1 (by omega) ?_
        intro z6 lz6 uz6 qz6
        refine And.intro (by omega) (And.intro ?_ ?_)
        · intro c7
          refine Exists.intro xm_76 (And.intro mi_76 (And.intro ⟨rfl, rfl, rfl, rfl⟩ (And.intro rfl ?_)))
          refine fcall _ h0 (fzs_sub (by decide +kernel) hW) hB1 (ct_Cells_hear_45721 (fBz h0 hB1) (by omega)) ?_
          rintro IhB9 _ hB9 fhB9 rfl
          have t10 := fhB9 514 12 (by decide +kernel)
          exact fcutJ (I := IhB9) (j := jc_Cells_takeReports_88f4c_4) (lv' := [(0, .inr (.inr (some 514))), (1, .inl _), (2, .inl _), (3, .inl _)]) (And.intro rfl (And.intro rfl (And.intro rfl (And.intro rfl True.intro)))) ⟨_, _, _, rfl, rfl, by omega, rfl⟩ (by omega)
        · intro c11
          refine And.intro ⟨rfl, by decide, by decide⟩ ?_
          refine And.intro ⟨rfl, by decide⟩ (And.intro (by omega) ?_)
          refine Exists.intro xm_75 (And.intro mi_75 (And.intro ⟨rfl, rfl, rfl, rfl⟩ (And.intro True.intro ?_)))
          refine fcall _ h0 (fzs_sub (by decide +kernel) hW) hB1 (ct_copyRow (W := [584]) (len := 8) (fBz h0 hB1) (frCx (a0 := 585) (a1 := 674) (by decide +kernel) (by omega) (by omega))) ?_
          rintro IhB12 _ hB12 fhB12 ⟨rfl, ehB12⟩
          have t13 := fhB12 514 12 (by decide +kernel)
          intro z14 hz14 bz14
          have bz14 := bz14 (by omega)
          exact fcutJ (I := IhB12) (j := jc_Cells_takeReports_88f4c_4) (lv' := [(0, .inr (.inr (some 514))), (1, .inl _), (2, .inl _), (3, .inl _)]) (And.intro rfl (And.intro rfl (And.intro rfl (And.intro rfl True.intro)))) ⟨_, _, _, rfl, rfl, by omega, rfl⟩ (by omega)
  · have hB0 := fB_self (zn := znJ) (K := fKc wz_3ed0a) h0
    exact fcutJ (I := I) (j := jc_Cells_takeReports_88f4c_4) (lv' := [(0, .inr (.inr (some 514))), (1, .inl _), (2, .inl _), (3, .inl _)]) (And.intro rfl (And.intro rfl (And.intro rfl (And.intro rfl True.intro)))) ⟨_, _, _, rfl, rfl, by omega, rfl⟩ (by omega)
set_option maxRecDepth 8000 in
theorem ct_People_needOf_66c94 {I : fH} {x1 : Int} (h0 : fB bsJ I) (ha1 : (0 ≤ x1 ∧ x1 ≤ 23)) : fC ρ base n F xTc vwCl xTys D dA la gJ (fbz bsJ znJ (fKc []) I) xm_92 [.inr (.inr (some 689)), .inl x1] I (fun _ r => ∃ z, r = some (.inl z) ∧ (1 ≤ z ∧ z ≤ 2)) := by
  have hW : fzs [] (fKc []) := fKc_ok _
  refine f_meth (rb := rbJ) (J := []) 1 400 xG xin_92 x6_92 okJ (fB_self h0) ?_ ?_
  · exact fun q h => absurd h List.not_mem_nil
  · have hB0 := fB_self (zn := znJ) (K := fKc []) h0
    refine And.intro ⟨rfl, by decide, by decide⟩ ?_
    refine fload rL_690_690_0_23_1_0 h0 hB0 (by omega) ?_
    intro z1 lz1 uz1 qz1
    refine And.intro (by omega) (And.intro ?_ ?_)
    · intro c2
      refine And.intro (True.intro) ?_
      exact ⟨_, rfl, by omega⟩
    · intro c3
      refine And.intro (True.intro) ?_
      exact ⟨_, rfl, by omega⟩
set_option maxRecDepth 8000 in
theorem ct_People_sicken_4d132 {I : fH} {x1 : Int} {x2 : Int} (h0 : fB bsJ I) (ha1 : (0 ≤ x1 ∧ x1 ≤ 23)) (ha2 : ((-1) ≤ x2 ∧ x2 ≤ 8)) : fC ρ base n F xTc vwCl xTys D dA la gJ (fbz bsJ znJ (fKc wz_e70f1) I) xm_93 [.inr (.inr (some 689)), .inl x1, .inl x2] I (fun _ r => r = none) := by
  have hW : fzs wz_e70f1 (fKc wz_e70f1) := fKc_ok _
  refine f_meth (rb := rbJ) (J := []) 1 400 xG xin_93 x6_93 okJ (fB_self h0) ?_ ?_
  · exact fun q h => absurd h List.not_mem_nil
  · have hB0 := fB_self (zn := znJ) (K := fKc wz_e70f1) h0
    refine And.intro ⟨rfl, by decide, by decide⟩ ?_
    refine And.intro ⟨rfl, by decide, by decide⟩ ?_
    refine fload rL_693_693_0_23_1_0 h0 hB0 (by omega) ?_
    intro z1 lz1 uz1 qz1
    intro z2 hz2 ez2 bz2
    clear ez2
    clear bz2
    refine And.intro (And.intro (by omega) (And.intro (by omega) rfl)) ?_
    intro z3 hz3
    refine And.intro (And.intro (by omega) (And.intro (by omega) rfl)) ?_
    intro z4 hz4
    refine fstore rS_693_693_0_23_1_0 (fzs_sub (by decide +kernel) hW) (by omega) (by omega) ?_
    intro IhB5 ehB5 hB5
    have t6 := fup_self ehB5
    exact rfl
set_option maxRecDepth 8000 in
theorem ct_City_breathe_fe888 {I : fH} {x1 : Int} (h0 : fB bsJ I) (ha1 : (0 ≤ x1 ∧ x1 ≤ 23)) : fC ρ base n F xTc vwCl xTys D dA la gJ (fbz bsJ znJ (fKc wz_edb18) I) xm_91 [.inr (.inr (some 513)), .inl x1] I (fun _ r => r = none) := by
  have hW : fzs wz_edb18 (fKc wz_edb18) := fKc_ok _
  refine f_meth (rb := rbJ) (J := []) 1 400 xG xin_91 x6_91 okJ (fB_self h0) ?_ ?_
  · exact fun q h => absurd h List.not_mem_nil
  · have hB0 := fB_self (zn := znJ) (K := fKc wz_edb18) h0
    refine And.intro ⟨rfl, by decide, by decide⟩ ?_
    refine And.intro ⟨rfl, by decide, by decide⟩ ?_
    refine fload rL_692_692_0_23_1_0 h0 hB0 (by omega) ?_
    intro z1 lz1 uz1 qz1
    refine And.intro ⟨rfl, by decide, by decide⟩ ?_
    refine Exists.intro xm_92 (And.intro mi_92 (And.intro ⟨rfl, rfl, rfl, rfl⟩ (And.intro rfl ?_)))
    refine fcallp hB0 (ct_People_needOf_66c94 (fBz h0 hB0) (by omega)) ?_
    rintro _ ⟨z2, rfl, hz2⟩
    refine And.intro ⟨rfl, by decide, by decide⟩ ?_
    refine And.intro ⟨rfl, by decide, by decide⟩ ?_
    refine And.intro ⟨rfl, by decide⟩ (And.intro (by omega) ?_)
    refine fload rL_518_537_0_4_1_0 h0 hB0 (by omega) ?_
    intro z3 lz3 uz3 qz3
    refine And.intro (And.intro (by omega) (And.intro (by omega) rfl)) ?_
    intro z4 hz4
    refine And.intro ⟨rfl, by decide, by decide⟩ ?_
    refine And.intro ⟨rfl, by decide, by decide⟩ ?_
    refine And.intro ⟨rfl, by decide⟩ (And.intro (by omega) ?_)
    refine fload rL_518_537_0_4_1_0 h0 hB0 (by omega) ?_
    intro z5 lz5 uz5 qz5
    intro z6 hz6 ez6 bz6
    clear ez6
    clear bz6
    refine fstore rS_518_537_0_4_1_0 (fzs_sub (by decide +kernel) hW) (by omega) (by omega) ?_
    intro IhB7 ehB7 hB7
    have t8 := fup_self ehB7
    refine And.intro ⟨rfl, by decide, by decide⟩ ?_
    refine And.intro (And.intro (by omega) (And.intro (by omega) (And.intro (by omega) rfl))) ?_
    intro z9 hz9 ez9 dz9
    refine Exists.intro xm_84 (And.intro mi_84 (And.intro ⟨rfl, rfl, rfl, rfl⟩ (And.intro rfl ?_)))
    refine fcall _ h0 (fzs_sub (by decide +kernel) hW) hB7 (ct_Cells_addAir_f5ee0 (fBz h0 hB7) (by omega) (by omega) (by omega)) ?_
    rintro IhB11 _ hB11 fhB11 rfl
    refine And.intro ⟨rfl, by decide, by decide⟩ ?_
    refine And.intro (And.intro (by omega) (And.intro (by omega) (And.intro (by omega) rfl))) ?_
    intro z12 hz12 ez12 dz12
    intro z13 hz13 ez13 bz13
    clear ez13
    clear bz13
    refine Exists.intro xm_84 (And.intro mi_84 (And.intro ⟨rfl, rfl, rfl, rfl⟩ (And.intro rfl ?_)))
    refine fcall _ h0 (fzs_sub (by decide +kernel) hW) hB11 (ct_Cells_addAir_f5ee0 (fBz h0 hB11) (by omega) (by omega) (by omega)) ?_
    rintro IhB15 _ hB15 fhB15 rfl
    refine And.intro (by omega) (And.intro ?_ ?_)
    · intro c16
      refine And.intro ⟨rfl, by decide, by decide⟩ ?_
      refine And.intro ⟨rfl, by decide, by decide⟩ ?_
      refine And.intro ⟨rfl, by decide⟩ (And.intro (by omega) ?_)
      refine fload rL_518_537_0_4_1_0 h0 hB15 (by omega) ?_
      intro z17 lz17 uz17 qz17
      refine And.intro ⟨rfl, by decide, by decide⟩ ?_
      refine And.intro ⟨rfl, by decide, by decide⟩ ?_
      refine fload rL_515_515_0_19_1_0 h0 hB15 (by omega) ?_
      intro z18 lz18 uz18 qz18
      refine And.intro (by omega) (And.intro ?_ ?_)
      · intro c19
        refine And.intro ⟨rfl, by decide, by decide⟩ ?_
        refine And.intro (by omega) (And.intro ?_ ?_)
        · intro c20
          refine Exists.intro xm_93 (And.intro mi_93 (And.intro ⟨rfl, rfl, rfl, rfl⟩ (And.intro rfl ?_)))
          refine fcall _ h0 (fzs_sub (by decide +kernel) hW) hB15 (ct_People_sicken_4d132 (fBz h0 hB15) (by omega) (by omega)) ?_
          rintro IhB22 _ hB22 fhB22 rfl
          exact rfl
        · intro c23
          refine Exists.intro xm_93 (And.intro mi_93 (And.intro ⟨rfl, rfl, rfl, rfl⟩ (And.intro rfl ?_)))
          refine fcall _ h0 (fzs_sub (by decide +kernel) hW) hB15 (ct_People_sicken_4d132 (fBz h0 hB15) (by omega) (by omega)) ?_
          rintro IhB25 _ hB25 fhB25 rfl
          exact rfl
      · intro c26
        refine And.intro ⟨rfl, by decide, by decide⟩ ?_
        refine And.intro (by omega) (And.intro ?_ ?_)
        · intro c27
          refine Exists.intro xm_93 (And.intro mi_93 (And.intro ⟨rfl, rfl, rfl, rfl⟩ (And.intro rfl ?_)))
          refine fcall _ h0 (fzs_sub (by decide +kernel) hW) hB15 (ct_People_sicken_4d132 (fBz h0 hB15) (by omega) (by omega)) ?_
          rintro IhB29 _ hB29 fhB29 rfl
          exact rfl
        · intro c30
          refine Exists.intro xm_93 (And.intro mi_93 (And.intro ⟨rfl, rfl, rfl, rfl⟩ (And.intro rfl ?_)))
          refine fcall _ h0 (fzs_sub (by decide +kernel) hW) hB15 (ct_People_sicken_4d132 (fBz h0 hB15) (by omega) (by omega)) ?_
          rintro IhB32 _ hB32 fhB32 rfl
          exact rfl
    · intro c33
      refine And.intro ⟨rfl, by decide, by decide⟩ ?_
      refine And.intro ⟨rfl, by decide, by decide⟩ ?_
      refine And.intro ⟨rfl, by decide⟩ (And.intro (by omega) ?_)
      refine fload rL_518_537_0_4_1_0 h0 hB15 (by omega) ?_
      intro z34 lz34 uz34 qz34
      refine And.intro ⟨rfl, by decide, by decide⟩ ?_
      refine And.intro ⟨rfl, by decide, by decide⟩ ?_
      refine fload rL_515_515_0_19_1_0 h0 hB15 (by omega) ?_
      intro z35 lz35 uz35 qz35
      refine And.intro (by omega) (And.intro ?_ ?_)
      · intro c36
        refine And.intro ⟨rfl, by decide, by decide⟩ ?_
        refine And.intro (by omega) (And.intro ?_ ?_)
        · intro c37
          refine Exists.intro xm_93 (And.intro mi_93 (And.intro ⟨rfl, rfl, rfl, rfl⟩ (And.intro rfl ?_)))
          refine fcall _ h0 (fzs_sub (by decide +kernel) hW) hB15 (ct_People_sicken_4d132 (fBz h0 hB15) (by omega) (by omega)) ?_
          rintro IhB39 _ hB39 fhB39 rfl
          exact rfl
        · intro c40
          refine Exists.intro xm_93 (And.intro mi_93 (And.intro ⟨rfl, rfl, rfl, rfl⟩ (And.intro rfl ?_)))
          refine fcall _ h0 (fzs_sub (by decide +kernel) hW) hB15 (ct_People_sicken_4d132 (fBz h0 hB15) (by omega) (by omega)) ?_
          rintro IhB42 _ hB42 fhB42 rfl
          exact rfl
      · intro c43
        refine And.intro ⟨rfl, by decide, by decide⟩ ?_
        refine And.intro (by omega) (And.intro ?_ ?_)
        · intro c44
          refine Exists.intro xm_93 (And.intro mi_93 (And.intro ⟨rfl, rfl, rfl, rfl⟩ (And.intro rfl ?_)))
          refine fcall _ h0 (fzs_sub (by decide +kernel) hW) hB15 (ct_People_sicken_4d132 (fBz h0 hB15) (by omega) (by omega)) ?_
          rintro IhB46 _ hB46 fhB46 rfl
          exact rfl
        · intro c47
          refine Exists.intro xm_93 (And.intro mi_93 (And.intro ⟨rfl, rfl, rfl, rfl⟩ (And.intro rfl ?_)))
          refine fcall _ h0 (fzs_sub (by decide +kernel) hW) hB15 (ct_People_sicken_4d132 (fBz h0 hB15) (by omega) (by omega)) ?_
          rintro IhB49 _ hB49 fhB49 rfl
          exact rfl
set_option maxRecDepth 8000 in
theorem ct_City_level_cee1f {I : fH}  (h0 : fB bsJ I)  : fC ρ base n F xTc vwCl xTys D dA la gJ (fbz bsJ znJ (fKc []) I) xm_31 [.inr (.inr (some 513))] I (fun _ r => ∃ z, r = some (.inl z) ∧ (0 ≤ z ∧ z ≤ 60)) := by
  have hW : fzs [] (fKc []) := fKc_ok _
  refine f_meth (rb := rbJ) (J := []) 1 400 xG xin_31 x6_31 okJ (fB_self h0) ?_ ?_
  · exact fun q h => absurd h List.not_mem_nil
  · have hB0 := fB_self (zn := znJ) (K := fKc []) h0
    refine And.intro ⟨rfl, by decide, by decide⟩ (fgetf fb_513_5 h0 hB0 ?_)
    intro z1 lz1 uz1 qz1
    refine And.intro (And.intro (by omega) (And.intro (by omega) (And.intro (by omega) rfl))) ?_
    intro z2 hz2 ez2 dz2
    have dz2 := dz2 (by omega) (by omega)
    change _ = _ / _ at dz2
    refine And.intro (True.intro) ?_
    exact ⟨_, rfl, by omega⟩
set_option maxRecDepth 8000 in
theorem ct_Works_isSkin_984b7 {I : fH} {x1 : Int} (h0 : fB bsJ I) (ha1 : (0 ≤ x1 ∧ x1 ≤ 23)) : fC ρ base n F xTc vwCl xTys D dA la gJ (fbz bsJ znJ (fKc []) I) xm_64 [.inr (.inr (some 675)), .inl x1] I (fun _ r => ∃ z, r = some (.inl z) ∧ (0 ≤ z ∧ z ≤ 1)) := by
  have hW : fzs [] (fKc []) := fKc_ok _
  refine f_meth (rb := rbJ) (J := []) 1 400 xG xin_64 x6_64 okJ (fB_self h0) ?_ ?_
  · exact fun q h => absurd h List.not_mem_nil
  · have hB0 := fB_self (zn := znJ) (K := fKc []) h0
    refine And.intro ⟨rfl, by decide, by decide⟩ ?_
    refine fload rL_676_676_0_23_1_0 h0 hB0 (by omega) ?_
    intro z1 lz1 uz1 qz1
    refine And.intro (by omega) (And.intro ?_ ?_)
    · intro c2
      refine And.intro (⟨by omega, by omega⟩) ?_
      exact ⟨_, rfl, by omega⟩
    · intro c3
      refine And.intro ⟨rfl, by decide, by decide⟩ ?_
      refine fload rL_686_686_0_23_1_0 h0 hB0 (by omega) ?_
      intro z4 lz4 uz4 qz4
      refine And.intro (by omega) (And.intro ?_ ?_)
      · intro c5
        refine And.intro (⟨by omega, by omega⟩) ?_
        exact ⟨_, rfl, by omega⟩
      · intro c6
        refine And.intro (⟨by omega, by omega⟩) ?_
        exact ⟨_, rfl, by omega⟩
set_option maxRecDepth 8000 in
theorem ct_City_liftOf_6cbf4 {I : fH} {x1 : Int} (h0 : fB bsJ I) (ha1 : (0 ≤ x1 ∧ x1 ≤ 23)) : fC ρ base n F xTc vwCl xTys D dA la gJ (fbz bsJ znJ (fKc []) I) xm_63 [.inr (.inr (some 513)), .inl x1] I (fun _ r => ∃ z, r = some (.inl z) ∧ ((-2147483648) ≤ z ∧ z ≤ 2147483647)) := by
  have hW : fzs [] (fKc []) := fKc_ok _
  refine f_meth (rb := rbJ) (J := []) 1 400 xG xin_63 x6_63 okJ (fB_self h0) ?_ ?_
  · exact fun q h => absurd h List.not_mem_nil
  · have hB0 := fB_self (zn := znJ) (K := fKc []) h0
    refine And.intro ⟨rfl, by decide, by decide⟩ ?_
    refine Exists.intro xm_64 (And.intro mi_64 (And.intro ⟨rfl, rfl, rfl, rfl⟩ (And.intro rfl ?_)))
    refine fcallp hB0 (ct_Works_isSkin_984b7 (fBz h0 hB0) (by omega)) ?_
    rintro _ ⟨z1, rfl, hz1⟩
    refine And.intro (by omega) (And.intro ?_ ?_)
    · intro c2
      refine And.intro (True.intro) ?_
      exact ⟨_, rfl, by omega⟩
    · intro c3
      refine And.intro ⟨rfl, by decide, by decide⟩ ?_
      refine And.intro ⟨rfl, by decide, by decide⟩ ?_
      refine fload rL_684_684_0_23_1_0 h0 hB0 (by omega) ?_
      intro z4 lz4 uz4 qz4
      refine And.intro ⟨rfl, by decide, by decide⟩ ?_
      refine And.intro ⟨rfl, by decide⟩ (And.intro (by omega) ?_)
      refine Exists.intro xm_31 (And.intro mi_31 (And.intro ⟨rfl, rfl, rfl, rfl⟩ (And.intro rfl ?_)))
      refine fcallp hB0 (ct_City_level_cee1f (fBz h0 hB0)) ?_
      rintro _ ⟨z5, rfl, hz5⟩
      refine fload rL_696_696_0_60_1_0 h0 hB0 (by omega) ?_
      intro z6 lz6 uz6 qz6
      intro z7 hz7 ez7 bz7
      clear ez7
      clear bz7
      refine And.intro (And.intro (by omega) (And.intro (by omega) (And.intro (by omega) rfl))) ?_
      intro z8 hz8 ez8 dz8
      refine And.intro (True.intro) ?_
      exact ⟨_, rfl, by omega⟩
abbrev jc_City_lift_1f18c_4 : Nat → fL → List fV → fH → Prop := fun m lv st I => ∃ (y1 : Int) (y2 : Int), lv = [(0, .inr (.inr (some 513))), (1, .inl y1), (2, .inl y2)] ∧ st = [] ∧ ((((-2147483648) ≤ y1 ∧ y1 ≤ 2147483647) ∧ (0 ≤ y2 ∧ y2 ≤ 24))) ∧ m = (1 + 1 * (24 - y2) : Int).toNat
set_option maxRecDepth 8000 in
theorem ct_City_lift_1f18c {I : fH}  (h0 : fB bsJ I)  : fC ρ base n F xTc vwCl xTys D dA la gJ (fbz bsJ znJ (fKc []) I) xm_62 [.inr (.inr (some 513))] I (fun _ r => ∃ z, r = some (.inl z) ∧ ((-2147483648) ≤ z ∧ z ≤ 2147483647)) := by
  have hW : fzs [] (fKc []) := fKc_ok _
  refine f_meth (rb := rbJ) (J := [(4, jc_City_lift_1f18c_4)]) 26 400 xG xin_62 x6_62 okJ (fB_self h0) ?_ ?_
  · refine List.forall_mem_cons.mpr ⟨?_, fun q h => absurd h List.not_mem_nil⟩
    · rintro m _ _ I1 hB1 ⟨y1, y2, rfl, rfl, hb, hm⟩
      refine And.intro ⟨rfl, by decide, by decide⟩ ?_
      refine And.intro ⟨rfl, by decide, by decide⟩ (fgetf fb_675_13 h0 hB1 ?_)
      intro z1 lz1 uz1 qz1
      refine And.intro (by omega) (And.intro ?_ ?_)
      · intro c2
        refine And.intro (True.intro) ?_
        exact ⟨_, rfl, by omega⟩
      · intro c3
        refine Exists.intro xm_63 (And.intro mi_63 (And.intro ⟨rfl, rfl, rfl, rfl⟩ (And.intro rfl ?_)))
        refine fcallp hB1 (ct_City_liftOf_6cbf4 (fBz h0 hB1) (by omega)) ?_
        rintro _ ⟨z4, rfl, hz4⟩
        intro z5 hz5 ez5 bz5
        clear ez5
        clear bz5
        exact fcutJ (I := I1) (j := jc_City_lift_1f18c_4) (lv' := [(0, .inr (.inr (some 513))), (1, .inl _), (2, .inl _)]) (And.intro rfl (And.intro rfl (And.intro rfl True.intro))) ⟨_, _, rfl, rfl, by omega, rfl⟩ (by omega)
  · have hB0 := fB_self (zn := znJ) (K := fKc []) h0
    exact fcutJ (I := I) (j := jc_City_lift_1f18c_4) (lv' := [(0, .inr (.inr (some 513))), (1, .inl _), (2, .inl _)]) (And.intro rfl (And.intro rfl (And.intro rfl True.intro))) ⟨_, _, rfl, rfl, by omega, rfl⟩ (by omega)
abbrev jc_People_living_f14dc_4 : Nat → fL → List fV → fH → Prop := fun m lv st I => ∃ (y1 : Int) (y2 : Int), lv = [(0, .inr (.inr (some 689))), (1, .inl y1), (2, .inl y2)] ∧ st = [] ∧ ((((-2147483648) ≤ y1 ∧ y1 ≤ 2147483647) ∧ (0 ≤ y2 ∧ y2 ≤ 24))) ∧ m = (1 + 1 * (24 - y2) : Int).toNat
set_option maxRecDepth 8000 in
theorem ct_People_living_f14dc {I : fH}  (h0 : fB bsJ I)  : fC ρ base n F xTc vwCl xTys D dA la gJ (fbz bsJ znJ (fKc []) I) xm_67 [.inr (.inr (some 689))] I (fun _ r => ∃ z, r = some (.inl z) ∧ ((-2147483648) ≤ z ∧ z ≤ 2147483647)) := by
  have hW : fzs [] (fKc []) := fKc_ok _
  refine f_meth (rb := rbJ) (J := [(4, jc_People_living_f14dc_4)]) 26 400 xG xin_67 x6_67 okJ (fB_self h0) ?_ ?_
  · refine List.forall_mem_cons.mpr ⟨?_, fun q h => absurd h List.not_mem_nil⟩
    · rintro m _ _ I1 hB1 ⟨y1, y2, rfl, rfl, hb, hm⟩
      refine And.intro ⟨rfl, by decide, by decide⟩ (fgetf fb_689_4 h0 hB1 ?_)
      intro z1 lz1 uz1 qz1
      refine And.intro (by omega) (And.intro ?_ ?_)
      · intro c2
        refine And.intro (True.intro) ?_
        exact ⟨_, rfl, by omega⟩
      · intro c3
        refine Exists.intro xm_21 (And.intro mi_21 (And.intro ⟨rfl, rfl, rfl, rfl⟩ (And.intro rfl ?_)))
        refine fcallp hB1 (ct_People_isDead_16e8f (fBz h0 hB1) (by omega)) ?_
        rintro _ ⟨z4, rfl, hz4⟩
        refine And.intro (by omega) (And.intro ?_ ?_)
        · intro c5
          exact fcutJ (I := I1) (j := jc_People_living_f14dc_4) (lv' := [(0, .inr (.inr (some 689))), (1, .inl _), (2, .inl _)]) (And.intro rfl (And.intro rfl (And.intro rfl True.intro))) ⟨_, _, rfl, rfl, by omega, rfl⟩ (by omega)
        · intro c6
          intro z7 hz7 bz7
          clear bz7
          exact fcutJ (I := I1) (j := jc_People_living_f14dc_4) (lv' := [(0, .inr (.inr (some 689))), (1, .inl _), (2, .inl _)]) (And.intro rfl (And.intro rfl (And.intro rfl True.intro))) ⟨_, _, rfl, rfl, by omega, rfl⟩ (by omega)
  · have hB0 := fB_self (zn := znJ) (K := fKc []) h0
    exact fcutJ (I := I) (j := jc_People_living_f14dc_4) (lv' := [(0, .inr (.inr (some 689))), (1, .inl _), (2, .inl _)]) (And.intro rfl (And.intro rfl (And.intro rfl True.intro))) ⟨_, _, rfl, rfl, by omega, rfl⟩ (by omega)
set_option maxRecDepth 8000 in
theorem ct_Works_isDropped_e5842 {I : fH} {x1 : Int} (h0 : fB bsJ I) (ha1 : (0 ≤ x1 ∧ x1 ≤ 23)) : fC ρ base n F xTc vwCl xTys D dA la gJ (fbz bsJ znJ (fKc []) I) xm_55 [.inr (.inr (some 675)), .inl x1] I (fun _ r => ∃ z, r = some (.inl z) ∧ (0 ≤ z ∧ z ≤ 1)) := by
  have hW : fzs [] (fKc []) := fKc_ok _
  refine f_meth (rb := rbJ) (J := []) 1 400 xG xin_55 x6_55 okJ (fB_self h0) ?_ ?_
  · exact fun q h => absurd h List.not_mem_nil
  · have hB0 := fB_self (zn := znJ) (K := fKc []) h0
    refine And.intro ⟨rfl, by decide, by decide⟩ ?_
    refine fload rL_687_687_0_23_1_0 h0 hB0 (by omega) ?_
    intro z1 lz1 uz1 qz1
    refine And.intro (by omega) (And.intro ?_ ?_)
    · intro c2
      refine And.intro (⟨by omega, by omega⟩) ?_
      exact ⟨_, rfl, by omega⟩
    · intro c3
      refine And.intro (⟨by omega, by omega⟩) ?_
      exact ⟨_, rfl, by omega⟩
set_option maxRecDepth 8000 in
theorem ct_Works_weightOf_23190 {I : fH} {x1 : Int} (h0 : fB bsJ I) (ha1 : (0 ≤ x1 ∧ x1 ≤ 23)) : fC ρ base n F xTc vwCl xTys D dA la gJ (fbz bsJ znJ (fKc []) I) xm_68 [.inr (.inr (some 675)), .inl x1] I (fun _ r => ∃ z, r = some (.inl z) ∧ ((-2147483648) ≤ z ∧ z ≤ 2147483647)) := by
  have hW : fzs [] (fKc []) := fKc_ok _
  refine f_meth (rb := rbJ) (J := []) 1 400 xG xin_68 x6_68 okJ (fB_self h0) ?_ ?_
  · exact fun q h => absurd h List.not_mem_nil
  · have hB0 := fB_self (zn := znJ) (K := fKc []) h0
    refine Exists.intro xm_50 (And.intro mi_50 (And.intro ⟨rfl, rfl, rfl, rfl⟩ (And.intro rfl ?_)))
    refine fcallp hB0 (ct_Works_isGone_bce90 (fBz h0 hB0) (by omega)) ?_
    rintro _ ⟨z1, rfl, hz1⟩
    refine And.intro (by omega) (And.intro ?_ ?_)
    · intro c2
      refine And.intro (True.intro) ?_
      exact ⟨_, rfl, by omega⟩
    · intro c3
      refine Exists.intro xm_55 (And.intro mi_55 (And.intro ⟨rfl, rfl, rfl, rfl⟩ (And.intro rfl ?_)))
      refine fcallp hB0 (ct_Works_isDropped_e5842 (fBz h0 hB0) (by omega)) ?_
      rintro _ ⟨z4, rfl, hz4⟩
      refine And.intro (by omega) (And.intro ?_ ?_)
      · intro c5
        refine And.intro ⟨rfl, by decide, by decide⟩ ?_
        refine fload rL_678_678_0_23_1_0 h0 hB0 (by omega) ?_
        intro z6 lz6 uz6 qz6
        refine And.intro (True.intro) ?_
        exact ⟨_, rfl, by omega⟩
      · intro c7
        refine And.intro (True.intro) ?_
        exact ⟨_, rfl, by omega⟩
abbrev jc_Cells_gases_f9efb_4 : Nat → fL → List fV → fH → Prop := fun m lv st I => ∃ (y1 : Int) (y2 : Int), lv = [(0, .inr (.inr (some 514))), (1, .inl y1), (2, .inl y2)] ∧ st = [] ∧ ((((-2147483648) ≤ y1 ∧ y1 ≤ 2147483647) ∧ (0 ≤ y2 ∧ y2 ≤ 20))) ∧ m = (6 + 6 * (20 - y2) : Int).toNat
abbrev jc_Cells_gases_f9efb_14 : Nat → fL → List fV → fH → Prop := fun m lv st I => ∃ (y1 : Int) (y2 : Int) (y3 : Int), lv = [(0, .inr (.inr (some 514))), (1, .inl y1), (2, .inl y2), (3, .inl y3)] ∧ st = [] ∧ ((((-2147483648) ≤ y1 ∧ y1 ≤ 2147483647) ∧ (0 ≤ y2 ∧ y2 ≤ 19) ∧ (0 ≤ y3 ∧ y3 ≤ 4) ∧ (1 ≤ I 514 5 ∧ I 514 5 ≤ 20))) ∧ m = (1 + 6 * (20 - y2) + 1 * (4 - y3) : Int).toNat
set_option maxRecDepth 8000 in
theorem ct_Cells_gases_f9efb {I : fH}  (h0 : fB bsJ I)  : fC ρ base n F xTc vwCl xTys D dA la gJ (fbz bsJ znJ (fKc []) I) xm_66 [.inr (.inr (some 514))] I (fun _ r => ∃ z, r = some (.inl z) ∧ ((-2147483648) ≤ z ∧ z ≤ 2147483647)) := by
  have hW : fzs [] (fKc []) := fKc_ok _
  refine f_meth (rb := rbJ) (J := [(4, jc_Cells_gases_f9efb_4), (14, jc_Cells_gases_f9efb_14)]) 127 400 xG xin_66 x6_66 okJ (fB_self h0) ?_ ?_
  · refine List.forall_mem_cons.mpr ⟨?_, List.forall_mem_cons.mpr ⟨?_, fun q h => absurd h List.not_mem_nil⟩⟩
    · rintro m _ _ I1 hB1 ⟨y1, y2, rfl, rfl, hb, hm⟩
      refine And.intro ⟨rfl, by decide, by decide⟩ (fgetf fb_514_5 h0 hB1 ?_)
      intro z1 lz1 uz1 qz1
      refine And.intro (by omega) (And.intro ?_ ?_)
      · intro c2
        refine And.intro (True.intro) ?_
        exact ⟨_, rfl, by omega⟩
      · intro c3
        exact fcutJ (I := I1) (j := jc_Cells_gases_f9efb_14) (lv' := [(0, .inr (.inr (some 514))), (1, .inl _), (2, .inl _), (3, .inl _)]) (And.intro rfl (And.intro rfl (And.intro rfl (And.intro rfl True.intro)))) ⟨_, _, _, rfl, rfl, by omega, rfl⟩ (by omega)
    · rintro m _ _ I1 hB1 ⟨y1, y2, y3, rfl, rfl, hb, hm⟩
      refine And.intro (by omega) (And.intro ?_ ?_)
      · intro c4
        exact fcutJ (I := I1) (j := jc_Cells_gases_f9efb_4) (lv' := [(0, .inr (.inr (some 514))), (1, .inl _), (2, .inl _)]) (And.intro rfl (And.intro rfl (And.intro rfl True.intro))) ⟨_, _, rfl, rfl, by omega, rfl⟩ (by omega)
      · intro c5
        refine And.intro ⟨rfl, by decide, by decide⟩ ?_
        refine And.intro ⟨rfl, by decide⟩ (And.intro (by omega) ?_)
        refine fload rL_518_537_0_4_1_0 h0 hB1 (by omega) ?_
        intro z6 lz6 uz6 qz6
        intro z7 hz7 ez7 bz7
        clear ez7
        clear bz7
        exact fcutJ (I := I1) (j := jc_Cells_gases_f9efb_14) (lv' := [(0, .inr (.inr (some 514))), (1, .inl _), (2, .inl _), (3, .inl _)]) (And.intro rfl (And.intro rfl (And.intro rfl (And.intro rfl True.intro)))) ⟨_, _, _, rfl, rfl, by omega, rfl⟩ (by omega)
  · have hB0 := fB_self (zn := znJ) (K := fKc []) h0
    exact fcutJ (I := I) (j := jc_Cells_gases_f9efb_4) (lv' := [(0, .inr (.inr (some 514))), (1, .inl _), (2, .inl _)]) (And.intro rfl (And.intro rfl (And.intro rfl True.intro))) ⟨_, _, rfl, rfl, by omega, rfl⟩ (by omega)
abbrev jc_City_weight_9bc16_10 : Nat → fL → List fV → fH → Prop := fun m lv st I => ∃ (y1 : Int) (y2 : Int), lv = [(0, .inr (.inr (some 513))), (1, .inl y1), (2, .inl y2)] ∧ st = [] ∧ ((((-2147483648) ≤ y1 ∧ y1 ≤ 2147483647) ∧ (0 ≤ y2 ∧ y2 ≤ 5))) ∧ m = (26 + 1 * (5 - y2) : Int).toNat
abbrev jc_City_weight_9bc16_48 : Nat → fL → List fV → fH → Prop := fun m lv st I => ∃ (y2 : Int) (y3 : Int), lv = [(0, .inr (.inr (some 513))), (2, .inl y2), (3, .inl y3)] ∧ st = [] ∧ ((((-2147483648) ≤ y2 ∧ y2 ≤ 2147483647) ∧ (0 ≤ y3 ∧ y3 ≤ 24))) ∧ m = (1 + 1 * (24 - y3) : Int).toNat
set_option maxRecDepth 8000 in
theorem ct_City_weight_9bc16 {I : fH}  (h0 : fB bsJ I)  : fC ρ base n F xTc vwCl xTys D dA la gJ (fbz bsJ znJ (fKc []) I) xm_65 [.inr (.inr (some 513))] I (fun _ r => ∃ z, r = some (.inl z) ∧ ((-2147483648) ≤ z ∧ z ≤ 2147483647)) := by
  have hW : fzs [] (fKc []) := fKc_ok _
  refine f_meth (rb := rbJ) (J := [(10, jc_City_weight_9bc16_10), (48, jc_City_weight_9bc16_48)]) 32 400 xG xin_65 x6_65 okJ (fB_self h0) ?_ ?_
  · refine List.forall_mem_cons.mpr ⟨?_, List.forall_mem_cons.mpr ⟨?_, fun q h => absurd h List.not_mem_nil⟩⟩
    · rintro m _ _ I1 hB1 ⟨y1, y2, rfl, rfl, hb, hm⟩
      refine And.intro (by omega) (And.intro ?_ ?_)
      · intro c1
        refine And.intro ⟨rfl, by decide, by decide⟩ ?_
        refine Exists.intro xm_67 (And.intro mi_67 (And.intro ⟨rfl, rfl, rfl, rfl⟩ (And.intro rfl ?_)))
        refine fcallp hB1 (ct_People_living_f14dc (fBz h0 hB1)) ?_
        rintro _ ⟨z2, rfl, hz2⟩
        intro z3 hz3 ez3 bz3
        clear ez3
        clear bz3
        refine And.intro (And.intro (by omega) (And.intro (by omega) (And.intro (by omega) rfl))) ?_
        intro z4 hz4 ez4 dz4
        intro z5 hz5 ez5 bz5
        clear ez5
        clear bz5
        exact fcutJ (I := I1) (j := jc_City_weight_9bc16_48) (lv' := [(0, .inr (.inr (some 513))), (2, .inl _), (3, .inl _)]) (And.intro rfl (And.intro rfl (And.intro rfl True.intro))) ⟨_, _, rfl, rfl, by omega, rfl⟩ (by omega)
      · intro c6
        refine And.intro ⟨rfl, by decide, by decide⟩ ?_
        refine fload rL_694_694_0_5_1_0 h0 hB1 (by omega) ?_
        intro z7 lz7 uz7 qz7
        intro z8 hz8 ez8 bz8
        clear ez8
        clear bz8
        exact fcutJ (I := I1) (j := jc_City_weight_9bc16_10) (lv' := [(0, .inr (.inr (some 513))), (1, .inl _), (2, .inl _)]) (And.intro rfl (And.intro rfl (And.intro rfl True.intro))) ⟨_, _, rfl, rfl, by omega, rfl⟩ (by omega)
    · rintro m _ _ I1 hB1 ⟨y2, y3, rfl, rfl, hb, hm⟩
      refine And.intro ⟨rfl, by decide, by decide⟩ ?_
      refine And.intro ⟨rfl, by decide, by decide⟩ (fgetf fb_675_13 h0 hB1 ?_)
      intro z9 lz9 uz9 qz9
      refine And.intro (by omega) (And.intro ?_ ?_)
      · intro c10
        refine And.intro (True.intro) ?_
        exact ⟨_, rfl, by omega⟩
      · intro c11
        refine And.intro ⟨rfl, by decide, by decide⟩ ?_
        refine Exists.intro xm_68 (And.intro mi_68 (And.intro ⟨rfl, rfl, rfl, rfl⟩ (And.intro rfl ?_)))
        refine fcallp hB1 (ct_Works_weightOf_23190 (fBz h0 hB1) (by omega)) ?_
        rintro _ ⟨z12, rfl, hz12⟩
        intro z13 hz13 ez13 bz13
        clear ez13
        clear bz13
        exact fcutJ (I := I1) (j := jc_City_weight_9bc16_48) (lv' := [(0, .inr (.inr (some 513))), (2, .inl _), (3, .inl _)]) (And.intro rfl (And.intro rfl (And.intro rfl True.intro))) ⟨_, _, rfl, rfl, by omega, rfl⟩ (by omega)
  · have hB0 := fB_self (zn := znJ) (K := fKc []) h0
    refine And.intro ⟨rfl, by decide, by decide⟩ ?_
    refine Exists.intro xm_66 (And.intro mi_66 (And.intro ⟨rfl, rfl, rfl, rfl⟩ (And.intro rfl ?_)))
    refine fcallp hB0 (ct_Cells_gases_f9efb (fBz h0 hB0)) ?_
    rintro _ ⟨z14, rfl, hz14⟩
    exact fcutJ (I := I) (j := jc_City_weight_9bc16_10) (lv' := [(0, .inr (.inr (some 513))), (1, .inl _), (2, .inl _)]) (And.intro rfl (And.intro rfl (And.intro rfl True.intro))) ⟨_, _, rfl, rfl, by omega, rfl⟩ (by omega)
set_option maxRecDepth 8000 in
theorem ct_City_rise_ae6a0 {I : fH}  (h0 : fB bsJ I)  : fC ρ base n F xTc vwCl xTys D dA la gJ (fbz bsJ znJ (fKc wz_007ef) I) xm_94 [.inr (.inr (some 513))] I (fun _ r => r = none) := by
  have hW : fzs wz_007ef (fKc wz_007ef) := fKc_ok _
  refine f_meth (rb := rbJ) (J := []) 1 400 xG xin_94 x6_94 okJ (fB_self h0) ?_ ?_
  · exact fun q h => absurd h List.not_mem_nil
  · have hB0 := fB_self (zn := znJ) (K := fKc wz_007ef) h0
    refine Exists.intro xm_62 (And.intro mi_62 (And.intro ⟨rfl, rfl, rfl, rfl⟩ (And.intro rfl ?_)))
    refine fcallp hB0 (ct_City_lift_1f18c (fBz h0 hB0)) ?_
    rintro _ ⟨z1, rfl, hz1⟩
    refine Exists.intro xm_65 (And.intro mi_65 (And.intro ⟨rfl, rfl, rfl, rfl⟩ (And.intro rfl ?_)))
    refine fcallp hB0 (ct_City_weight_9bc16 (fBz h0 hB0)) ?_
    rintro _ ⟨z2, rfl, hz2⟩
    intro z3 hz3 ez3 bz3
    clear ez3
    try replace bz3 := bz3 (by omega)
    refine And.intro (And.intro (by omega) (And.intro (by omega) (And.intro (by omega) rfl))) ?_
    intro z4 hz4 ez4 dz4
    refine And.intro (And.intro (by omega) (And.intro (by omega) rfl)) ?_
    intro z5 hz5
    refine And.intro (And.intro (by omega) (And.intro (by omega) rfl)) ?_
    intro z6 hz6
    refine And.intro ⟨rfl, by decide, by decide⟩ (fgetf fb_513_5 h0 hB0 ?_)
    intro z7 lz7 uz7 qz7
    refine And.intro (And.intro (by omega) (And.intro (by omega) rfl)) ?_
    intro z8 hz8
    refine And.intro (And.intro (by omega) (And.intro (by omega) rfl)) ?_
    intro z9 hz9
    refine And.intro ⟨rfl, by decide, by decide⟩ (And.intro rfl (And.intro (Or.inl rfl) (fputf fb_513_5 (by decide +kernel) hW (by omega) ?_)))
    intro IhB10 ehB10 hB10
    have t11 := fup_at ehB10 5 (by omega)
    exact rfl
set_option maxRecDepth 8000 in
theorem ct_City_loseGas_9b857 {I : fH} {x1 : Int} {x2 : Int} (h0 : fB bsJ I) (ha1 : (0 ≤ x1 ∧ x1 ≤ 23)) (ha2 : ((-2147483648) ≤ x2 ∧ x2 ≤ 2147483647)) : fC ρ base n F xTc vwCl xTys D dA la gJ (fbz bsJ znJ (fKc wz_59734) I) xm_81 [.inr (.inr (some 513)), .inl x1, .inl x2] I (fun _ r => r = none) := by
  have hW : fzs wz_59734 (fKc wz_59734) := fKc_ok _
  refine f_meth (rb := rbJ) (J := []) 1 400 xG xin_81 x6_81 okJ (fB_self h0) ?_ ?_
  · exact fun q h => absurd h List.not_mem_nil
  · have hB0 := fB_self (zn := znJ) (K := fKc wz_59734) h0
    refine And.intro ⟨rfl, by decide, by decide⟩ ?_
    refine And.intro ⟨rfl, by decide, by decide⟩ ?_
    refine fload rL_684_684_0_23_1_0 h0 hB0 (by omega) ?_
    intro z1 lz1 uz1 qz1
    intro z2 hz2 ez2 bz2
    clear ez2
    clear bz2
    refine fstore rS_684_684_0_23_1_0 (fzs_sub (by decide +kernel) hW) (by omega) (by omega) ?_
    intro IhB3 ehB3 hB3
    have t4 := fup_self ehB3
    refine And.intro ⟨rfl, by decide, by decide⟩ ?_
    refine And.intro ⟨rfl, by decide, by decide⟩ ?_
    refine And.intro ⟨rfl, by decide, by decide⟩ ?_
    refine And.intro ⟨rfl, by decide, by decide⟩ ?_
    refine fload rL_677_677_0_23_1_0 h0 hB3 (by omega) ?_
    intro z5 lz5 uz5 qz5
    refine And.intro ⟨rfl, by decide⟩ (And.intro (by omega) ?_)
    refine fload rL_539_558_0_4_1_0 h0 hB3 (by omega) ?_
    intro z6 lz6 uz6 qz6
    intro z7 hz7 ez7 bz7
    clear ez7
    clear bz7
    refine fstore rS_539_558_0_4_1_0 (fzs_sub (by decide +kernel) hW) (by omega) (by omega) ?_
    intro IhB8 ehB8 hB8
    have t9 := fup_self ehB8
    exact rfl
abbrev jc_Works_isPatched_0f28c_2 : Nat → fL → List fV → fH → Prop := fun m lv st I => ∃ (y1 : Int) (y2 : Int), lv = [(0, .inr (.inr (some 675))), (1, .inl y1), (2, .inl y2)] ∧ st = [] ∧ (((0 ≤ y1 ∧ y1 ≤ 23) ∧ (0 ≤ y2 ∧ y2 ≤ 24))) ∧ m = (1 + 1 * (24 - y2) : Int).toNat
set_option maxRecDepth 8000 in
theorem ct_Works_isPatched_0f28c {I : fH} {x1 : Int} (h0 : fB bsJ I) (ha1 : (0 ≤ x1 ∧ x1 ≤ 23)) : fC ρ base n F xTc vwCl xTys D dA la gJ (fbz bsJ znJ (fKc []) I) xm_79 [.inr (.inr (some 675)), .inl x1] I (fun _ r => ∃ z, r = some (.inl z) ∧ (0 ≤ z ∧ z ≤ 1)) := by
  have hW : fzs [] (fKc []) := fKc_ok _
  refine f_meth (rb := rbJ) (J := [(2, jc_Works_isPatched_0f28c_2)]) 26 400 xG xin_79 x6_79 okJ (fB_self h0) ?_ ?_
  · refine List.forall_mem_cons.mpr ⟨?_, fun q h => absurd h List.not_mem_nil⟩
    · rintro m _ _ I1 hB1 ⟨y1, y2, rfl, rfl, hb, hm⟩
      refine And.intro ⟨rfl, by decide, by decide⟩ (fgetf fb_675_13 h0 hB1 ?_)
      intro z1 lz1 uz1 qz1
      refine And.intro (by omega) (And.intro ?_ ?_)
      · intro c2
        refine And.intro (⟨by omega, by omega⟩) ?_
        exact ⟨_, rfl, by omega⟩
      · intro c3
        refine And.intro ⟨rfl, by decide, by decide⟩ ?_
        refine fload rL_676_676_0_23_1_0 h0 hB1 (by omega) ?_
        intro z4 lz4 uz4 qz4
        refine And.intro (by omega) (And.intro ?_ ?_)
        · intro c5
          exact fcutJ (I := I1) (j := jc_Works_isPatched_0f28c_2) (lv' := [(0, .inr (.inr (some 675))), (1, .inl _), (2, .inl _)]) (And.intro rfl (And.intro rfl (And.intro rfl True.intro))) ⟨_, _, rfl, rfl, by omega, rfl⟩ (by omega)
        · intro c6
          refine And.intro ⟨rfl, by decide, by decide⟩ ?_
          refine fload rL_683_683_0_23_1_0 h0 hB1 (by omega) ?_
          intro z7 lz7 uz7 qz7
          refine And.intro (by omega) (And.intro ?_ ?_)
          · intro c8
            exact fcutJ (I := I1) (j := jc_Works_isPatched_0f28c_2) (lv' := [(0, .inr (.inr (some 675))), (1, .inl _), (2, .inl _)]) (And.intro rfl (And.intro rfl (And.intro rfl True.intro))) ⟨_, _, rfl, rfl, by omega, rfl⟩ (by omega)
          · intro c9
            refine And.intro ⟨rfl, by decide, by decide⟩ ?_
            refine fload rL_679_679_0_23_1_0 h0 hB1 (by omega) ?_
            intro z10 lz10 uz10 qz10
            refine And.intro (by omega) (And.intro ?_ ?_)
            · intro c11
              exact fcutJ (I := I1) (j := jc_Works_isPatched_0f28c_2) (lv' := [(0, .inr (.inr (some 675))), (1, .inl _), (2, .inl _)]) (And.intro rfl (And.intro rfl (And.intro rfl True.intro))) ⟨_, _, rfl, rfl, by omega, rfl⟩ (by omega)
            · intro c12
              refine And.intro ⟨rfl, by decide, by decide⟩ ?_
              refine fload rL_686_686_0_23_1_0 h0 hB1 (by omega) ?_
              intro z13 lz13 uz13 qz13
              refine And.intro (by omega) (And.intro ?_ ?_)
              · intro c14
                exact fcutJ (I := I1) (j := jc_Works_isPatched_0f28c_2) (lv' := [(0, .inr (.inr (some 675))), (1, .inl _), (2, .inl _)]) (And.intro rfl (And.intro rfl (And.intro rfl True.intro))) ⟨_, _, rfl, rfl, by omega, rfl⟩ (by omega)
              · intro c15
                refine And.intro (⟨by omega, by omega⟩) ?_
                exact ⟨_, rfl, by omega⟩
  · have hB0 := fB_self (zn := znJ) (K := fKc []) h0
    exact fcutJ (I := I) (j := jc_Works_isPatched_0f28c_2) (lv' := [(0, .inr (.inr (some 675))), (1, .inl _), (2, .inl _)]) (And.intro rfl (And.intro rfl (And.intro rfl True.intro))) ⟨_, _, rfl, rfl, by omega, rfl⟩ (by omega)
set_option maxRecDepth 8000 in
theorem ct_Works_wear_b8097 {I : fH} {x1 : Int} {x2 : Int} (h0 : fB bsJ I) (ha1 : (0 ≤ x1 ∧ x1 ≤ 23)) (ha2 : ((-2147483648) ≤ x2 ∧ x2 ≤ 2147483647)) : fC ρ base n F xTc vwCl xTys D dA la gJ (fbz bsJ znJ (fKc wz_e4d0d) I) xm_80 [.inr (.inr (some 675)), .inl x1, .inl x2] I (fun _ r => r = none) := by
  have hW : fzs wz_e4d0d (fKc wz_e4d0d) := fKc_ok _
  refine f_meth (rb := rbJ) (J := []) 1 400 xG xin_80 x6_80 okJ (fB_self h0) ?_ ?_
  · exact fun q h => absurd h List.not_mem_nil
  · have hB0 := fB_self (zn := znJ) (K := fKc wz_e4d0d) h0
    refine And.intro ⟨rfl, by decide, by decide⟩ ?_
    refine fload rL_685_685_0_23_1_0 h0 hB0 (by omega) ?_
    intro z1 lz1 uz1 qz1
    intro z2 hz2 ez2 bz2
    clear ez2
    try replace bz2 := bz2 (by omega)
    refine And.intro (And.intro (by omega) (And.intro (by omega) (And.intro (by omega) rfl))) ?_
    intro z3 hz3 ez3 dz3
    refine And.intro ⟨rfl, by decide, by decide⟩ ?_
    refine fload rL_683_683_0_23_1_0 h0 hB0 (by omega) ?_
    intro z4 lz4 uz4 qz4
    refine And.intro (And.intro (by omega) (And.intro (by omega) rfl)) ?_
    intro z5 hz5
    refine And.intro ⟨rfl, by decide, by decide⟩ ?_
    refine fload rL_683_683_0_23_1_0 h0 hB0 (by omega) ?_
    intro z6 lz6 uz6 qz6
    intro z7 hz7 ez7 bz7
    clear ez7
    try replace bz7 := bz7 (by omega)
    refine fstore rS_683_683_0_23_1_0 (fzs_sub (by decide +kernel) hW) (by omega) (by omega) ?_
    intro IhB8 ehB8 hB8
    have t9 := fup_self ehB8
    intro z10 hz10 ez10 bz10
    clear ez10
    try replace bz10 := bz10 (by omega)
    intro z11 hz11 ez11 bz11
    clear ez11
    try replace bz11 := bz11 (by omega)
    refine And.intro ⟨rfl, by decide, by decide⟩ ?_
    refine And.intro (And.intro (by omega) (And.intro (by omega) rfl)) ?_
    intro z12 hz12
    refine fstore rS_685_685_0_23_1_0 (fzs_sub (by decide +kernel) hW) (by omega) (by omega) ?_
    intro IhB13 ehB13 hB13
    have t14 := fup_self ehB13
    exact rfl
set_option maxRecDepth 8000 in
theorem ct_City_runSkin_4289c {I : fH} {x1 : Int} (h0 : fB bsJ I) (ha1 : (0 ≤ x1 ∧ x1 ≤ 23)) : fC ρ base n F xTc vwCl xTys D dA la gJ (fbz bsJ znJ (fKc wz_a2d33) I) xm_78 [.inr (.inr (some 513)), .inl x1] I (fun _ r => r = none) := by
  have hW : fzs wz_a2d33 (fKc wz_a2d33) := fKc_ok _
  refine f_meth (rb := rbJ) (J := []) 1 400 xG xin_78 x6_78 okJ (fB_self h0) ?_ ?_
  · exact fun q h => absurd h List.not_mem_nil
  · have hB0 := fB_self (zn := znJ) (K := fKc wz_a2d33) h0
    refine And.intro ⟨rfl, by decide, by decide⟩ ?_
    refine Exists.intro xm_79 (And.intro mi_79 (And.intro ⟨rfl, rfl, rfl, rfl⟩ (And.intro rfl ?_)))
    refine fcallp hB0 (ct_Works_isPatched_0f28c (fBz h0 hB0) (by omega)) ?_
    rintro _ ⟨z1, rfl, hz1⟩
    refine And.intro (by omega) (And.intro ?_ ?_)
    · intro c2
      refine And.intro ⟨rfl, by decide, by decide⟩ ?_
      refine And.intro ⟨rfl, by decide, by decide⟩ ?_
      refine And.intro ⟨rfl, by decide⟩ (And.intro (by omega) ?_)
      refine Exists.intro xm_31 (And.intro mi_31 (And.intro ⟨rfl, rfl, rfl, rfl⟩ (And.intro rfl ?_)))
      refine fcallp hB0 (ct_City_level_cee1f (fBz h0 hB0)) ?_
      rintro _ ⟨z3, rfl, hz3⟩
      refine fload rL_698_698_0_60_1_0 h0 hB0 (by omega) ?_
      intro z4 lz4 uz4 qz4
      refine And.intro (And.intro (by omega) (And.intro (by omega) (And.intro (by omega) rfl))) ?_
      intro z5 hz5 ez5 dz5
      refine Exists.intro xm_80 (And.intro mi_80 (And.intro ⟨rfl, rfl, rfl, rfl⟩ (And.intro rfl ?_)))
      refine fcall _ h0 (fzs_sub (by decide +kernel) hW) hB0 (ct_Works_wear_b8097 (fBz h0 hB0) (by omega) (by omega)) ?_
      rintro IhB7 _ hB7 fhB7 rfl
      refine And.intro ⟨rfl, by decide, by decide⟩ ?_
      refine And.intro ⟨rfl, by decide, by decide⟩ ?_
      refine fload rL_683_683_0_23_1_0 h0 hB7 (by omega) ?_
      intro z8 lz8 uz8 qz8
      refine And.intro (by omega) (And.intro ?_ ?_)
      · intro c9
        exact rfl
      · intro c10
        refine And.intro ⟨rfl, by decide, by decide⟩ ?_
        refine And.intro ⟨rfl, by decide, by decide⟩ ?_
        refine fload rL_684_684_0_23_1_0 h0 hB7 (by omega) ?_
        intro z11 lz11 uz11 qz11
        refine And.intro (And.intro (by omega) (And.intro (by omega) (And.intro (by omega) rfl))) ?_
        intro z12 hz12 ez12 dz12
        intro z13 hz13 ez13 bz13
        clear ez13
        clear bz13
        refine And.intro (And.intro (by omega) (And.intro (by omega) rfl)) ?_
        intro z14 hz14
        refine Exists.intro xm_81 (And.intro mi_81 (And.intro ⟨rfl, rfl, rfl, rfl⟩ (And.intro rfl ?_)))
        refine fcall _ h0 (fzs_sub (by decide +kernel) hW) hB7 (ct_City_loseGas_9b857 (fBz h0 hB7) (by omega) (by omega)) ?_
        rintro IhB16 _ hB16 fhB16 rfl
        exact rfl
    · intro c17
      exact rfl
set_option maxRecDepth 8000 in
theorem ct_Works_partForFoul_82e3d {I : fH} {x1 : Int} (h0 : fB bsJ I) (ha1 : (0 ≤ x1 ∧ x1 ≤ 23)) : fC ρ base n F xTc vwCl xTys D dA la gJ (fbz bsJ znJ (fKc []) I) xm_83 [.inr (.inr (some 675)), .inl x1] I (fun _ r => ∃ z, r = some (.inl z) ∧ ((-2147483648) ≤ z ∧ z ≤ 2147483647)) := by
  have hW : fzs [] (fKc []) := fKc_ok _
  refine f_meth (rb := rbJ) (J := []) 1 400 xG xin_83 x6_83 okJ (fB_self h0) ?_ ?_
  · exact fun q h => absurd h List.not_mem_nil
  · have hB0 := fB_self (zn := znJ) (K := fKc []) h0
    refine And.intro ⟨rfl, by decide, by decide⟩ ?_
    refine fload rL_683_683_0_23_1_0 h0 hB0 (by omega) ?_
    intro z1 lz1 uz1 qz1
    refine And.intro ⟨rfl, by decide, by decide⟩ ?_
    refine fload rL_680_680_0_23_1_0 h0 hB0 (by omega) ?_
    intro z2 lz2 uz2 qz2
    intro z3 hz3 ez3 bz3
    clear ez3
    clear bz3
    intro z4 hz4 ez4 bz4
    clear ez4
    clear bz4
    refine And.intro (And.intro (by omega) (And.intro (by omega) (And.intro (by omega) rfl))) ?_
    intro z5 hz5 ez5 dz5
    refine And.intro (True.intro) ?_
    exact ⟨_, rfl, by omega⟩
set_option maxRecDepth 8000 in
theorem ct_City_isDayAt_d574d {I : fH} {x1 : Int} (h0 : fB bsJ I) (ha1 : ((-2147483648) ≤ x1 ∧ x1 ≤ 2147483647)) : fC ρ base n F xTc vwCl xTys D dA la gJ (fbz bsJ znJ (fKc []) I) xm_70 [.inr (.inr (some 513)), .inl x1] I (fun _ r => ∃ z, r = some (.inl z) ∧ (0 ≤ z ∧ z ≤ 1)) := by
  have hW : fzs [] (fKc []) := fKc_ok _
  refine f_meth (rb := rbJ) (J := []) 1 400 xG xin_70 x6_70 okJ (fB_self h0) ?_ ?_
  · exact fun q h => absurd h List.not_mem_nil
  · have hB0 := fB_self (zn := znJ) (K := fKc []) h0
    refine And.intro ⟨rfl, by decide, by decide⟩ (fgetf fb_513_7 h0 hB0 ?_)
    intro z1 lz1 uz1 qz1
    refine And.intro (by omega) (And.intro ?_ ?_)
    · intro c2
      refine And.intro (⟨by omega, by omega⟩) ?_
      exact ⟨_, rfl, by omega⟩
    · intro c3
      refine And.intro ⟨rfl, by decide, by decide⟩ (fgetf fb_513_7 h0 hB0 ?_)
      intro z4 lz4 uz4 qz4
      refine And.intro (And.intro (by omega) (And.intro (by omega) (And.intro (by omega) rfl))) ?_
      intro z5 hz5 ez5 dz5
      refine And.intro ⟨rfl, by decide, by decide⟩ (fgetf fb_513_7 h0 hB0 ?_)
      intro z6 lz6 uz6 qz6
      refine And.intro (And.intro (by omega) (And.intro (by omega) (And.intro (by omega) rfl))) ?_
      intro z7 hz7 ez7 dz7
      have dz7 := dz7 (by omega) (by omega)
      change _ = _ / _ at dz7
      refine And.intro (by omega) (And.intro ?_ ?_)
      · intro c8
        refine And.intro (⟨by omega, by omega⟩) ?_
        exact ⟨_, rfl, by omega⟩
      · intro c9
        refine And.intro (⟨by omega, by omega⟩) ?_
        exact ⟨_, rfl, by omega⟩
set_option maxRecDepth 8000 in
theorem ct_City_isDay_d6f98 {I : fH}  (h0 : fB bsJ I)  : fC ρ base n F xTc vwCl xTys D dA la gJ (fbz bsJ znJ (fKc []) I) xm_69 [.inr (.inr (some 513))] I (fun _ r => ∃ z, r = some (.inl z) ∧ (0 ≤ z ∧ z ≤ 1)) := by
  have hW : fzs [] (fKc []) := fKc_ok _
  refine f_meth (rb := rbJ) (J := []) 1 400 xG xin_69 x6_69 okJ (fB_self h0) ?_ ?_
  · exact fun q h => absurd h List.not_mem_nil
  · have hB0 := fB_self (zn := znJ) (K := fKc []) h0
    refine And.intro ⟨rfl, by decide, by decide⟩ (fgetf fb_513_6 h0 hB0 ?_)
    intro z1 lz1 uz1 qz1
    refine Exists.intro xm_70 (And.intro mi_70 (And.intro ⟨rfl, rfl, rfl, rfl⟩ (And.intro rfl ?_)))
    refine fcallp hB0 (ct_City_isDayAt_d574d (fBz h0 hB0) (by omega)) ?_
    rintro _ ⟨z2, rfl, hz2⟩
    refine And.intro (⟨by omega, by omega⟩) ?_
    exact ⟨_, rfl, by omega⟩
set_option maxRecDepth 8000 in
theorem ct_City_runGarden_2acfe {I : fH} {x1 : Int} (h0 : fB bsJ I) (ha1 : (0 ≤ x1 ∧ x1 ≤ 23)) : fC ρ base n F xTc vwCl xTys D dA la gJ (fbz bsJ znJ (fKc wz_7eac0) I) xm_82 [.inr (.inr (some 513)), .inl x1] I (fun _ r => r = none) := by
  have hW : fzs wz_7eac0 (fKc wz_7eac0) := fKc_ok _
  refine f_meth (rb := rbJ) (J := []) 1 400 xG xin_82 x6_82 okJ (fB_self h0) ?_ ?_
  · exact fun q h => absurd h List.not_mem_nil
  · have hB0 := fB_self (zn := znJ) (K := fKc wz_7eac0) h0
    refine Exists.intro xm_69 (And.intro mi_69 (And.intro ⟨rfl, rfl, rfl, rfl⟩ (And.intro rfl ?_)))
    refine fcallp hB0 (ct_City_isDay_d6f98 (fBz h0 hB0)) ?_
    rintro _ ⟨z1, rfl, hz1⟩
    refine And.intro (by omega) (And.intro ?_ ?_)
    · intro c2
      refine And.intro ⟨rfl, by decide, by decide⟩ ?_
      refine And.intro ⟨rfl, by decide, by decide⟩ ?_
      refine fload rL_677_677_0_23_1_0 h0 hB0 (by omega) ?_
      intro z3 lz3 uz3 qz3
      refine And.intro ⟨rfl, by decide, by decide⟩ ?_
      refine Exists.intro xm_83 (And.intro mi_83 (And.intro ⟨rfl, rfl, rfl, rfl⟩ (And.intro rfl ?_)))
      refine fcallp hB0 (ct_Works_partForFoul_82e3d (fBz h0 hB0) (by omega)) ?_
      rintro _ ⟨z4, rfl, hz4⟩
      refine And.intro ⟨rfl, by decide, by decide⟩ ?_
      refine And.intro ⟨rfl, by decide, by decide⟩ ?_
      refine And.intro ⟨rfl, by decide⟩ (And.intro (by omega) ?_)
      refine fload rL_518_537_0_4_1_0 h0 hB0 (by omega) ?_
      intro z5 lz5 uz5 qz5
      refine And.intro (And.intro (by omega) (And.intro (by omega) rfl)) ?_
      intro z6 hz6
      refine And.intro ⟨rfl, by decide, by decide⟩ ?_
      refine And.intro ⟨rfl, by decide, by decide⟩ ?_
      refine And.intro ⟨rfl, by decide⟩ (And.intro (by omega) ?_)
      refine fload rL_518_537_0_4_1_0 h0 hB0 (by omega) ?_
      intro z7 lz7 uz7 qz7
      intro z8 hz8 ez8 bz8
      clear ez8
      clear bz8
      refine fstore rS_518_537_0_4_1_0 (fzs_sub (by decide +kernel) hW) (by omega) (by omega) ?_
      intro IhB9 ehB9 hB9
      have t10 := fup_self ehB9
      refine And.intro ⟨rfl, by decide, by decide⟩ ?_
      refine Exists.intro xm_84 (And.intro mi_84 (And.intro ⟨rfl, rfl, rfl, rfl⟩ (And.intro rfl ?_)))
      refine fcall _ h0 (fzs_sub (by decide +kernel) hW) hB9 (ct_Cells_addAir_f5ee0 (fBz h0 hB9) (by omega) (by omega) (by omega)) ?_
      rintro IhB12 _ hB12 fhB12 rfl
      exact rfl
    · intro c13
      exact rfl
set_option maxRecDepth 8000 in
theorem ct_City_runProbe_75b59 {I : fH} {x1 : Int} (h0 : fB bsJ I) (ha1 : (0 ≤ x1 ∧ x1 ≤ 23)) : fC ρ base n F xTc vwCl xTys D dA la gJ (fbz bsJ znJ (fKc wz_8d85d) I) xm_87 [.inr (.inr (some 513)), .inl x1] I (fun _ r => r = none) := by
  have hW : fzs wz_8d85d (fKc wz_8d85d) := fKc_ok _
  refine f_meth (rb := rbJ) (J := []) 1 400 xG xin_87 x6_87 okJ (fB_self h0) ?_ ?_
  · exact fun q h => absurd h List.not_mem_nil
  · have hB0 := fB_self (zn := znJ) (K := fKc wz_8d85d) h0
    refine And.intro ⟨rfl, by decide, by decide⟩ ?_
    refine Exists.intro xm_55 (And.intro mi_55 (And.intro ⟨rfl, rfl, rfl, rfl⟩ (And.intro rfl ?_)))
    refine fcallp hB0 (ct_Works_isDropped_e5842 (fBz h0 hB0) (by omega)) ?_
    rintro _ ⟨z1, rfl, hz1⟩
    refine And.intro (by omega) (And.intro ?_ ?_)
    · intro c2
      exact rfl
    · intro c3
      refine And.intro ⟨rfl, by decide, by decide⟩ ?_
      refine And.intro ⟨rfl, by decide, by decide⟩ ?_
      refine And.intro ⟨rfl, by decide, by decide⟩ ?_
      refine And.intro ⟨rfl, by decide, by decide⟩ ?_
      refine fload rL_687_687_0_23_1_0 h0 hB0 (by omega) ?_
      intro z4 lz4 uz4 qz4
      refine And.intro (And.intro (by omega) (And.intro (by omega) rfl)) ?_
      intro z5 hz5
      refine fstore rS_687_687_0_23_1_0 (fzs_sub (by decide +kernel) hW) (by omega) (by omega) ?_
      intro IhB6 ehB6 hB6
      have t7 := fup_self ehB6
      refine And.intro ⟨rfl, by decide, by decide⟩ ?_
      refine And.intro ⟨rfl, by decide, by decide⟩ ?_
      refine fload rL_688_688_0_23_1_0 h0 hB6 (by omega) ?_
      intro z8 lz8 uz8 qz8
      refine And.intro ⟨rfl, by decide, by decide⟩ ?_
      refine And.intro ⟨rfl, by decide⟩ (And.intro (by omega) ?_)
      refine And.intro ⟨rfl, by decide, by decide⟩ ?_
      refine And.intro ⟨rfl, by decide, by decide⟩ ?_
      refine fload rL_687_687_0_23_1_0 h0 hB6 (by omega) ?_
      intro z9 lz9 uz9 qz9
      refine fload rL_697_697_0_60_1_0 h0 hB6 (by omega) ?_
      intro z10 lz10 uz10 qz10
      intro z11 hz11 ez11 bz11
      clear ez11
      clear bz11
      refine fstore rS_688_688_0_23_1_0 (fzs_sub (by decide +kernel) hW) (by omega) (by omega) ?_
      intro IhB12 ehB12 hB12
      have t13 := fup_self ehB12
      refine And.intro ⟨rfl, by decide, by decide⟩ ?_
      refine And.intro ⟨rfl, by decide, by decide⟩ ?_
      refine And.intro ⟨rfl, by decide, by decide⟩ ?_
      refine And.intro ⟨rfl, by decide, by decide⟩ ?_
      refine fload rL_688_688_0_23_1_0 h0 hB12 (by omega) ?_
      intro z14 lz14 uz14 qz14
      refine And.intro ⟨rfl, by decide, by decide⟩ ?_
      refine And.intro ⟨rfl, by decide, by decide⟩ ?_
      refine fload rL_683_683_0_23_1_0 h0 hB12 (by omega) ?_
      intro z15 lz15 uz15 qz15
      refine And.intro (by omega) (And.intro ?_ ?_)
      · intro c16
        refine fstore rS_686_686_0_23_1_0 (fzs_sub (by decide +kernel) hW) (by omega) (by omega) ?_
        intro IhB17 ehB17 hB17
        have t18 := fup_self ehB17
        exact rfl
      · intro c19
        refine fstore rS_686_686_0_23_1_0 (fzs_sub (by decide +kernel) hW) (by omega) (by omega) ?_
        intro IhB20 ehB20 hB20
        have t21 := fup_self ehB20
        exact rfl
set_option maxRecDepth 8000 in
theorem ct_City_runRotor_872a2 {I : fH} {x1 : Int} (h0 : fB bsJ I) (ha1 : (0 ≤ x1 ∧ x1 ≤ 23)) : fC ρ base n F xTc vwCl xTys D dA la gJ (fbz bsJ znJ (fKc wz_a50d7) I) xm_86 [.inr (.inr (some 513)), .inl x1] I (fun _ r => r = none) := by
  have hW : fzs wz_a50d7 (fKc wz_a50d7) := fKc_ok _
  refine f_meth (rb := rbJ) (J := []) 1 400 xG xin_86 x6_86 okJ (fB_self h0) ?_ ?_
  · exact fun q h => absurd h List.not_mem_nil
  · have hB0 := fB_self (zn := znJ) (K := fKc wz_a50d7) h0
    refine And.intro ⟨rfl, by decide, by decide⟩ ?_
    refine fload rL_694_694_0_5_1_0 h0 hB0 (by omega) ?_
    intro z1 lz1 uz1 qz1
    have pz1 := fld_at qz1 5 (by omega)
    refine And.intro ⟨rfl, by decide, by decide⟩ ?_
    refine And.intro ⟨rfl, by decide, by decide⟩ ?_
    refine fload rL_683_683_0_23_1_0 h0 hB0 (by omega) ?_
    intro z2 lz2 uz2 qz2
    refine And.intro (by omega) (And.intro ?_ ?_)
    · intro c3
      exact rfl
    · intro c4
      refine And.intro ⟨rfl, by decide, by decide⟩ ?_
      refine fload rL_694_694_0_5_1_0 h0 hB0 (by omega) ?_
      intro z5 lz5 uz5 qz5
      have pz5 := fld_at qz5 5 (by omega)
      refine And.intro ⟨rfl, by decide, by decide⟩ ?_
      refine And.intro ⟨rfl, by decide, by decide⟩ ?_
      refine fload rL_683_683_0_23_1_0 h0 hB0 (by omega) ?_
      intro z6 lz6 uz6 qz6
      intro z7 hz7 ez7 bz7
      clear ez7
      clear bz7
      refine fstore rS_694_694_0_5_1_0 (fzs_sub (by decide +kernel) hW) (by omega) (by omega) ?_
      intro IhB8 ehB8 hB8
      have t9 := fup_self ehB8
      have t10 := fup_at ehB8 5 (by omega)
      refine And.intro ⟨rfl, by decide, by decide⟩ (fgetf fb_513_6 h0 hB8 ?_)
      intro z11 lz11 uz11 qz11
      intro z12 hz12 ez12 bz12
      clear ez12
      clear bz12
      refine And.intro ⟨rfl, by decide, by decide⟩ (And.intro rfl (And.intro (Or.inl rfl) (fputf fb_513_6 (by decide +kernel) hW (by omega) ?_)))
      intro IhB13 ehB13 hB13
      have t14 : IhB13 694 5 = IhB8 694 5 := (congrFun (congrFun ehB13 694) 5).trans (fup_ne (by omega))
      exact rfl
set_option maxRecDepth 8000 in
theorem ct_City_runStill_08bd2 {I : fH} {x1 : Int} (h0 : fB bsJ I) (ha1 : (0 ≤ x1 ∧ x1 ≤ 23)) : fC ρ base n F xTc vwCl xTys D dA la gJ (fbz bsJ znJ (fKc wz_7903c) I) xm_85 [.inr (.inr (some 513)), .inl x1] I (fun _ r => r = none) := by
  have hW : fzs wz_7903c (fKc wz_7903c) := fKc_ok _
  refine f_meth (rb := rbJ) (J := []) 1 400 xG xin_85 x6_85 okJ (fB_self h0) ?_ ?_
  · exact fun q h => absurd h List.not_mem_nil
  · have hB0 := fB_self (zn := znJ) (K := fKc wz_7903c) h0
    refine And.intro ⟨rfl, by decide, by decide⟩ ?_
    refine fload rL_694_694_0_5_1_0 h0 hB0 (by omega) ?_
    intro z1 lz1 uz1 qz1
    have pz1 := fld_at qz1 5 (by omega)
    refine And.intro (by omega) (And.intro ?_ ?_)
    · intro c2
      refine And.intro ⟨rfl, by decide, by decide⟩ ?_
      refine fload rL_694_694_0_5_1_0 h0 hB0 (by omega) ?_
      intro z3 lz3 uz3 qz3
      have pz3 := fld_at qz3 5 (by omega)
      refine fstore rS_694_694_0_5_1_0 (fzs_sub (by decide +kernel) hW) (by omega) (by omega) ?_
      intro IhB4 ehB4 hB4
      have t5 := fup_self ehB4
      have t6 := fup_at ehB4 5 (by omega)
      refine And.intro ⟨rfl, by decide, by decide⟩ ?_
      refine And.intro ⟨rfl, by decide, by decide⟩ ?_
      refine fload rL_677_677_0_23_1_0 h0 hB4 (by omega) ?_
      intro z7 lz7 uz7 qz7
      refine And.intro ⟨rfl, by decide, by decide⟩ ?_
      refine Exists.intro xm_83 (And.intro mi_83 (And.intro ⟨rfl, rfl, rfl, rfl⟩ (And.intro rfl ?_)))
      refine fcallp hB4 (ct_Works_partForFoul_82e3d (fBz h0 hB4) (by omega)) ?_
      rintro _ ⟨z8, rfl, hz8⟩
      refine And.intro ⟨rfl, by decide, by decide⟩ ?_
      refine And.intro ⟨rfl, by decide, by decide⟩ ?_
      refine And.intro ⟨rfl, by decide⟩ (And.intro (by omega) ?_)
      refine fload rL_518_537_0_4_1_0 h0 hB4 (by omega) ?_
      intro z9 lz9 uz9 qz9
      refine And.intro (And.intro (by omega) (And.intro (by omega) rfl)) ?_
      intro z10 hz10
      refine And.intro ⟨rfl, by decide, by decide⟩ ?_
      refine And.intro ⟨rfl, by decide, by decide⟩ ?_
      refine And.intro ⟨rfl, by decide⟩ (And.intro (by omega) ?_)
      refine fload rL_518_537_0_4_1_0 h0 hB4 (by omega) ?_
      intro z11 lz11 uz11 qz11
      intro z12 hz12 ez12 bz12
      clear ez12
      clear bz12
      refine fstore rS_518_537_0_4_1_0 (fzs_sub (by decide +kernel) hW) (by omega) (by omega) ?_
      intro IhB13 ehB13 hB13
      have t14 := fup_self ehB13
      have t15 : IhB13 694 5 = IhB4 694 5 := (congrFun (congrFun ehB13 694) 5).trans (fup_ne (by omega))
      refine And.intro ⟨rfl, by decide, by decide⟩ ?_
      refine And.intro (And.intro (by omega) (And.intro (by omega) (And.intro (by omega) rfl))) ?_
      intro z16 hz16 ez16 dz16
      refine Exists.intro xm_84 (And.intro mi_84 (And.intro ⟨rfl, rfl, rfl, rfl⟩ (And.intro rfl ?_)))
      refine fcall _ h0 (fzs_sub (by decide +kernel) hW) hB13 (ct_Cells_addAir_f5ee0 (fBz h0 hB13) (by omega) (by omega) (by omega)) ?_
      rintro IhB18 _ hB18 fhB18 rfl
      have t19 := fhB18 694 5 (by decide +kernel)
      refine And.intro ⟨rfl, by decide, by decide⟩ ?_
      refine And.intro (And.intro (by omega) (And.intro (by omega) (And.intro (by omega) rfl))) ?_
      intro z20 hz20 ez20 dz20
      intro z21 hz21 ez21 bz21
      clear ez21
      clear bz21
      refine Exists.intro xm_84 (And.intro mi_84 (And.intro ⟨rfl, rfl, rfl, rfl⟩ (And.intro rfl ?_)))
      refine fcall _ h0 (fzs_sub (by decide +kernel) hW) hB18 (ct_Cells_addAir_f5ee0 (fBz h0 hB18) (by omega) (by omega) (by omega)) ?_
      rintro IhB23 _ hB23 fhB23 rfl
      have t24 := fhB23 694 5 (by decide +kernel)
      exact rfl
    · intro c25
      exact rfl
set_option maxRecDepth 8000 in
theorem ct_City_runWork_0e434 {I : fH} {x1 : Int} (h0 : fB bsJ I) (ha1 : (0 ≤ x1 ∧ x1 ≤ 23)) : fC ρ base n F xTc vwCl xTys D dA la gJ (fbz bsJ znJ (fKc wz_791b2) I) xm_77 [.inr (.inr (some 513)), .inl x1] I (fun _ r => r = none) := by
  have hW : fzs wz_791b2 (fKc wz_791b2) := fKc_ok _
  refine f_meth (rb := rbJ) (J := []) 1 400 xG xin_77 x6_77 okJ (fB_self h0) ?_ ?_
  · exact fun q h => absurd h List.not_mem_nil
  · have hB0 := fB_self (zn := znJ) (K := fKc wz_791b2) h0
    refine And.intro ⟨rfl, by decide, by decide⟩ ?_
    refine And.intro ⟨rfl, by decide, by decide⟩ ?_
    refine fload rL_676_676_0_23_1_0 h0 hB0 (by omega) ?_
    intro z1 lz1 uz1 qz1
    refine And.intro (by omega) (And.intro ?_ ?_)
    · refine And.intro (fun ex => ?_) (And.intro (fun ex => ?_) (And.intro (fun ex => ?_) (And.intro (fun ex => ?_) (And.intro (fun ex => ?_) (And.intro (fun ex => ?_) (True.intro))))))
      · skip
        refine Exists.intro xm_78 (And.intro mi_78 (And.intro ⟨rfl, rfl, rfl, rfl⟩ (And.intro rfl ?_)))
        refine fcall _ h0 (fzs_sub (by decide +kernel) hW) hB0 (ct_City_runSkin_4289c (fBz h0 hB0) (by omega)) ?_
        rintro IhB3 _ hB3 fhB3 rfl
        exact rfl
      · skip
        refine Exists.intro xm_82 (And.intro mi_82 (And.intro ⟨rfl, rfl, rfl, rfl⟩ (And.intro rfl ?_)))
        refine fcall _ h0 (fzs_sub (by decide +kernel) hW) hB0 (ct_City_runGarden_2acfe (fBz h0 hB0) (by omega)) ?_
        rintro IhB5 _ hB5 fhB5 rfl
        exact rfl
      · skip
        refine Exists.intro xm_85 (And.intro mi_85 (And.intro ⟨rfl, rfl, rfl, rfl⟩ (And.intro rfl ?_)))
        refine fcall _ h0 (fzs_sub (by decide +kernel) hW) hB0 (ct_City_runStill_08bd2 (fBz h0 hB0) (by omega)) ?_
        rintro IhB7 _ hB7 fhB7 rfl
        exact rfl
      · skip
        refine Exists.intro xm_86 (And.intro mi_86 (And.intro ⟨rfl, rfl, rfl, rfl⟩ (And.intro rfl ?_)))
        refine fcall _ h0 (fzs_sub (by decide +kernel) hW) hB0 (ct_City_runRotor_872a2 (fBz h0 hB0) (by omega)) ?_
        rintro IhB9 _ hB9 fhB9 rfl
        exact rfl
      · skip
        refine And.intro ⟨rfl, by decide, by decide⟩ ?_
        refine And.intro ⟨rfl, by decide, by decide⟩ ?_
        refine fload rL_684_684_0_23_1_0 h0 hB0 (by omega) ?_
        intro z10 lz10 uz10 qz10
        intro z11 hz11 ez11 bz11
        clear ez11
        clear bz11
        refine fstore rS_684_684_0_23_1_0 (fzs_sub (by decide +kernel) hW) (by omega) (by omega) ?_
        intro IhB12 ehB12 hB12
        have t13 := fup_self ehB12
        refine And.intro ⟨rfl, by decide, by decide⟩ ?_
        refine And.intro ⟨rfl, by decide, by decide⟩ ?_
        refine And.intro ⟨rfl, by decide, by decide⟩ ?_
        refine And.intro ⟨rfl, by decide, by decide⟩ ?_
        refine fload rL_684_684_0_23_1_0 h0 hB12 (by omega) ?_
        intro z14 lz14 uz14 qz14
        refine And.intro (by omega) (And.intro ?_ ?_)
        · intro c15
          refine fstore rS_686_686_0_23_1_0 (fzs_sub (by decide +kernel) hW) (by omega) (by omega) ?_
          intro IhB16 ehB16 hB16
          have t17 := fup_self ehB16
          exact rfl
        · intro c18
          refine fstore rS_686_686_0_23_1_0 (fzs_sub (by decide +kernel) hW) (by omega) (by omega) ?_
          intro IhB19 ehB19 hB19
          have t20 := fup_self ehB19
          exact rfl
      · skip
        refine Exists.intro xm_87 (And.intro mi_87 (And.intro ⟨rfl, rfl, rfl, rfl⟩ (And.intro rfl ?_)))
        refine fcall _ h0 (fzs_sub (by decide +kernel) hW) hB0 (ct_City_runProbe_75b59 (fBz h0 hB0) (by omega)) ?_
        rintro IhB22 _ hB22 fhB22 rfl
        exact rfl
    · intro c23
      exact rfl
end CT

set_option linter.all false
/-! contracts (written by gen95.py) -/
theorem x6_483 : f60c xTc xTys xm_483 = true := by decide +kernel
theorem x6_484 : f60c xTc xTys xm_484 = true := by decide +kernel
theorem x6_485 : f60c xTc xTys xm_485 = true := by decide +kernel
theorem x6_486 : f60c xTc xTys xm_486 = true := by decide +kernel
theorem x6_478 : f60c xTc xTys xm_478 = true := by decide +kernel
theorem x6_477 : f60c xTc xTys xm_477 = true := by decide +kernel
theorem x6_476 : f60c xTc xTys xm_476 = true := by decide +kernel
theorem x6_216 : f60c xTc xTys xm_216 = true := by decide +kernel
theorem rL_736_736_0_6_1_0 : frL gJ bsJ 100 ((736, 736), (0, 6), (1, 0), (0, 6)) := frL_of (by decide +kernel)
theorem x6_487 : f60c xTc xTys xm_487 = true := by decide +kernel
theorem rL_758_758_0_6_1_0 : frL gJ bsJ 100 ((758, 758), (0, 6), (1, 0), (0, 6)) := frL_of (by decide +kernel)
abbrev wz_ea84a : List Nat := [738, 10014]
theorem x6_217 : f60c xTc xTys xm_217 = true := by decide +kernel
theorem fb_0_14 : bsJ 0 14 = (0, 60) := by decide +kernel
theorem rS_738_738_0_59_1_0 : frS gJ bsJ znJ [738] 100 ((738, 738), (0, 59), (1, 0), ((-2147483648), 2147483647)) := frS_dflt (by decide) (by decide +kernel)
abbrev wz_f12ac : List Nat := [759, 12237]
theorem x6_488 : f60c xTc xTys xm_488 = true := by decide +kernel
theorem fb_740_37 : bsJ 740 37 = (0, 60) := by decide +kernel
theorem rS_759_759_0_59_1_0 : frS gJ bsJ znJ [759] 100 ((759, 759), (0, 59), (1, 0), ((-2147483648), 2147483647)) := frS_dflt (by decide) (by decide +kernel)
theorem x6_220 : f60c xTc xTys xm_220 = true := by decide +kernel
theorem rL_738_738_0_59_1_0 : frL gJ bsJ 100 ((738, 738), (0, 59), (1, 0), ((-2147483648), 2147483647)) := frL_hull (by decide) (by decide +kernel)
theorem rL_739_739_0_59_1_0 : frL gJ bsJ 100 ((739, 739), (0, 59), (1, 0), ((-2147483648), 2147483647)) := frL_hull (by decide) (by decide +kernel)
abbrev wz_b577c : List Nat := [733, 734, 739]
theorem x6_219 : f60c xTc xTys xm_219 = true := by decide +kernel
theorem rS_739_739_0_59_1_0 : frS gJ bsJ znJ [739] 100 ((739, 739), (0, 59), (1, 0), ((-2147483648), 2147483647)) := frS_dflt (by decide) (by decide +kernel)
abbrev wz_324de : List Nat := [736, 737, 739, 12102, 12103, 12104]
theorem x6_221 : f60c xTc xTys xm_221 = true := by decide +kernel
abbrev wz_7eac0 : List Nat := [517, 538]
theorem rL_518_537_0_4_1_0 : frL gJ bsJ 100 ((518, 537), (0, 4), (1, 0), ((-2147483648), 2147483647)) := frL_hull (by decide) (by decide +kernel)
theorem rS_518_537_0_4_1_0 : frS gJ bsJ znJ [517] 100 ((518, 537), (0, 4), (1, 0), ((-2147483648), 2147483647)) := frS_dflt (by decide) (by decide +kernel)
theorem rL_539_558_0_4_1_0 : frL gJ bsJ 100 ((539, 558), (0, 4), (1, 0), ((-2147483648), 2147483647)) := frL_hull (by decide) (by decide +kernel)
theorem rS_539_558_0_4_1_0 : frS gJ bsJ znJ [538] 100 ((539, 558), (0, 4), (1, 0), ((-2147483648), 2147483647)) := frS_dflt (by decide) (by decide +kernel)
theorem rL_515_515_0_19_1_0 : frL gJ bsJ 100 ((515, 515), (0, 19), (1, 0), ((-2147483648), 2147483647)) := frL_hull (by decide) (by decide +kernel)
theorem rL_582_582_0_23_1_0 : frL gJ bsJ 100 ((582, 582), (0, 23), (1, 0), ((-2147483648), 2147483647)) := frL_hull (by decide) (by decide +kernel)
theorem rL_580_580_0_23_1_0 : frL gJ bsJ 100 ((580, 580), (0, 23), (1, 0), (0, 19)) := frL_of (by decide +kernel)
theorem rL_581_581_0_23_1_0 : frL gJ bsJ 100 ((581, 581), (0, 23), (1, 0), (0, 19)) := frL_of (by decide +kernel)
theorem fb_514_10 : bsJ 514 10 = (0, 24) := by decide +kernel
theorem rL_583_583_0_23_1_0 : frL gJ bsJ 100 ((583, 583), (0, 23), (1, 0), ((-2147483648), 2147483647)) := frL_hull (by decide) (by decide +kernel)
theorem rL_693_693_0_23_1_0 : frL gJ bsJ 100 ((693, 693), (0, 23), (1, 0), ((-2147483648), 2147483647)) := frL_hull (by decide) (by decide +kernel)
theorem fb_514_5 : bsJ 514 5 = (0, 20) := by decide +kernel
theorem rL_516_516_0_19_1_0 : frL gJ bsJ 100 ((516, 516), (0, 19), (1, 0), ((-2147483648), 2147483647)) := frL_hull (by decide) (by decide +kernel)
abbrev wz_4c809 : List Nat := [680, 682]
theorem fb_675_13 : bsJ 675 13 = (0, 24) := by decide +kernel
theorem rL_686_686_0_23_1_0 : frL gJ bsJ 100 ((686, 686), (0, 23), (1, 0), ((-2147483648), 2147483647)) := frL_hull (by decide) (by decide +kernel)
theorem rL_682_682_0_23_1_0 : frL gJ bsJ 100 ((682, 682), (0, 23), (1, 0), ((-2147483648), 2147483647)) := frL_hull (by decide) (by decide +kernel)
theorem rL_681_681_0_23_1_0 : frL gJ bsJ 100 ((681, 681), (0, 23), (1, 0), ((-2147483648), 2147483647)) := frL_hull (by decide) (by decide +kernel)
theorem rS_682_682_0_23_1_0 : frS gJ bsJ znJ [682] 100 ((682, 682), (0, 23), (1, 0), ((-2147483648), 2147483647)) := frS_dflt (by decide) (by decide +kernel)
theorem rL_680_680_0_23_1_0 : frL gJ bsJ 100 ((680, 680), (0, 23), (1, 0), ((-2147483648), 2147483647)) := frL_hull (by decide) (by decide +kernel)
theorem rS_680_680_0_23_1_0 : frS gJ bsJ znJ [680] 100 ((680, 680), (0, 23), (1, 0), ((-2147483648), 2147483647)) := frS_dflt (by decide) (by decide +kernel)
theorem fb_689_4 : bsJ 689 4 = (0, 24) := by decide +kernel
theorem rL_692_692_0_23_1_0 : frL gJ bsJ 100 ((692, 692), (0, 23), (1, 0), (0, 19)) := frL_of (by decide +kernel)
theorem rL_691_691_0_23_1_0 : frL gJ bsJ 100 ((691, 691), (0, 23), (1, 0), ((-2147483648), 2147483647)) := frL_hull (by decide) (by decide +kernel)
abbrev wz_3ed0a : List Nat := [559, 584, 11412]
theorem fb_514_12 : bsJ 514 12 = (0, 90) := by decide +kernel
theorem rgG_518_537 {o : Nat} (h1 : 518 ≤ o) (h2 : o ≤ 537) : gJ.1 o = some (100, 5) ∧ ∀ j, j < 5 → gJ.2 o j = none := frG_of (a0 := 518) (a1 := 537) (by decide +kernel) h1 h2
theorem rgG_585_674 {o : Nat} (h1 : 585 ≤ o) (h2 : o ≤ 674) : gJ.1 o = some (100, 8) ∧ ∀ j, j < 8 → gJ.2 o j = none := frG_of (a0 := 585) (a1 := 674) (by decide +kernel) h1 h2
theorem rS_585_674_0_4_1_0 : frS gJ bsJ znJ [584] 100 ((585, 674), (0, 4), (1, 0), ((-2147483648), 2147483647)) := frS_of (by decide +kernel)
theorem rS_585_674_5_5_1_0 : frS gJ bsJ znJ [584] 100 ((585, 674), (5, 5), (1, 0), ((-2147483648), 2147483647)) := frS_of (by decide +kernel)
theorem rS_585_674_6_6_1_0 : frS gJ bsJ znJ [584] 100 ((585, 674), (6, 6), (1, 0), ((-2147483648), 2147483647)) := frS_of (by decide +kernel)
theorem rS_585_674_7_7_1_0 : frS gJ bsJ znJ [584] 100 ((585, 674), (7, 7), (1, 0), (0, 19)) := frS_of (by decide +kernel)
theorem rgG_560_579 {o : Nat} (h1 : 560 ≤ o) (h2 : o ≤ 579) : gJ.1 o = some (100, 6) ∧ ∀ j, j < 6 → gJ.2 o j = none := frG_of (a0 := 560) (a1 := 579) (by decide +kernel) h1 h2
theorem rS_560_579_0_5_1_0 : frS gJ bsJ znJ [559] 100 ((560, 579), (0, 5), (1, 0), ((-2147483648), 2147483647)) := frS_dflt (by decide) (by decide +kernel)
theorem fb_513_9 : bsJ 513 9 = ((-2147483648), 2147483647) := by decide +kernel
theorem fb_513_8 : bsJ 513 8 = ((-2147483648), 2147483647) := by decide +kernel
abbrev wz_10d1b : List Nat := [559]
theorem rL_585_674_7_7_1_0 : frL gJ bsJ 100 ((585, 674), (7, 7), (1, 0), (0, 19)) := frL_of (by decide +kernel)
theorem rL_585_674_5_5_1_0 : frL gJ bsJ 100 ((585, 674), (5, 5), (1, 0), ((-2147483648), 2147483647)) := frL_hull (by decide) (by decide +kernel)
theorem rL_560_579_0_5_1_0 : frL gJ bsJ 100 ((560, 579), (0, 5), (1, 0), ((-2147483648), 2147483647)) := frL_hull (by decide) (by decide +kernel)
theorem rL_585_674_0_5_1_0 : frL gJ bsJ 100 ((585, 674), (0, 5), (1, 0), ((-2147483648), 2147483647)) := frL_hull (by decide) (by decide +kernel)
theorem rL_585_674_6_6_1_0 : frL gJ bsJ 100 ((585, 674), (6, 6), (1, 0), ((-2147483648), 2147483647)) := frL_hull (by decide) (by decide +kernel)
theorem rL_690_690_0_23_1_0 : frL gJ bsJ 100 ((690, 690), (0, 23), (1, 0), ((-2147483648), 2147483647)) := frL_hull (by decide) (by decide +kernel)
abbrev wz_e70f1 : List Nat := [693]
theorem rS_693_693_0_23_1_0 : frS gJ bsJ znJ [693] 100 ((693, 693), (0, 23), (1, 0), ((-2147483648), 2147483647)) := frS_dflt (by decide) (by decide +kernel)
abbrev wz_edb18 : List Nat := [517, 538, 693]
theorem fb_513_5 : bsJ 513 5 = (0, 600) := by decide +kernel
theorem rL_676_676_0_23_1_0 : frL gJ bsJ 100 ((676, 676), (0, 23), (1, 0), ((-2147483648), 2147483647)) := frL_hull (by decide) (by decide +kernel)
theorem rL_684_684_0_23_1_0 : frL gJ bsJ 100 ((684, 684), (0, 23), (1, 0), ((-2147483648), 2147483647)) := frL_hull (by decide) (by decide +kernel)
theorem rL_696_696_0_60_1_0 : frL gJ bsJ 100 ((696, 696), (0, 60), (1, 0), ((-2147483648), 2147483647)) := frL_hull (by decide) (by decide +kernel)
theorem rL_687_687_0_23_1_0 : frL gJ bsJ 100 ((687, 687), (0, 23), (1, 0), ((-1000000005), 60)) := frL_of (by decide +kernel)
theorem rL_678_678_0_23_1_0 : frL gJ bsJ 100 ((678, 678), (0, 23), (1, 0), ((-2147483648), 2147483647)) := frL_hull (by decide) (by decide +kernel)
section CT
variable {ρ : Nat → Int32} {base n : Nat} {F : Nat → Prop} {D : va_G} {dA : Nat → ClassId} {la : Launch}
abbrev jc_M_seek_6e4c8_29 (x2 : Int) (x5 : Int) (I0 : fH) : Nat → fL → List fV → fH → Prop := fun m lv st I => ∃ (y2 : Int) (y6 : Int), lv = [(0, .inr (.inr (some 740))), (2, .inl y2), (6, .inl y6)] ∧ st = [] ∧ (((3 ≤ y2 ∧ y2 ≤ 3) ∧ (0 ≤ y6 ∧ y6 ≤ 3) ∧ ((-2147483647) ≤ I 740 33 ∧ I 740 33 ≤ 2147483647) ∧ (3 ≤ I 741 12 ∧ I 741 12 ≤ 3) ∧ (y2 = x2) ∧ (x2 = I0 741 12) ∧ (I 740 33 = x5) ∧ (I0 740 33 < x5) ∧ (I 740 34 = I0 740 34) ∧ (I 740 35 = I0 740 35) ∧ (y6 ≤ x2)) ∧ (∀ i : Nat, (i : Int) < y6 → I 758 i = I0 757 i) ∧ (∀ i : Nat, I 757 i = I0 757 i)) ∧ m = (9 + 1 * (3 - y6) : Int).toNat
abbrev jc_M_seek_6e4c8_59 (x1 : Int) (x2 : Int) (x3 : Int) (x4 : Int) (x5 : Int) (I0 : fH) : Nat → fL → List fV → fH → Prop := fun m lv st I => ∃ (y1 : Int) (y2 : Int) (y3 : Int) (y4 : Int) (y5 : Int) (y6 : Int), lv = [(0, .inr (.inr (some 740))), (1, .inl y1), (2, .inl y2), (3, .inl y3), (4, .inl y4), (5, .inl y5), (6, .inl y6)] ∧ st = [] ∧ (((1 ≤ y1 ∧ y1 ≤ 60) ∧ (3 ≤ y2 ∧ y2 ≤ 3) ∧ ((-2147483648) ≤ y3 ∧ y3 ≤ 2147483647) ∧ (0 ≤ y4 ∧ y4 ≤ 27) ∧ ((-2147483648) ≤ y5 ∧ y5 ≤ 2147483647) ∧ (0 ≤ y6 ∧ y6 ≤ 7) ∧ (y2 < I 741 12) ∧ (y1 = x1) ∧ (y2 = x2) ∧ (y3 = x3) ∧ (y4 = x4) ∧ (y5 = x5) ∧ (x2 < I0 741 12) ∧ (y6 ≤ I0 741 12)) ∧ (∀ (p : Nat → Int) (s : sSt), (∀ i : Nat, (i : Int) < x2 → I0 757 i = p i) → skQ (I0 741 12).toNat s I0 → skQ (I0 741 12).toNat (nf (sGo (fun b => I0 741 (4370 + 3 * b)) (fun b => I0 741 (4371 + 3 * b)) (fun b => I0 741 (4372 + 3 * b)) x1 (sSk (I0 741 12).toNat (fun b => I0 741 (4370 + 3 * b)) (fun b => I0 741 (4371 + 3 * b)) (fun b => I0 741 (4372 + 3 * b)) x1 3) x2.toNat x3 x4 x5 p) s y6.toNat) I) ∧ (∀ i : Nat, (i : Int) < x2 → I 757 i = I0 757 i)) ∧ m = (1 + 1 * (7 - y6) : Int).toNat
set_option maxRecDepth 8000 in
theorem ct_M_seek_6e4c8 {I : fH} {x1 : Int} {x2 : Int} {x3 : Int} {x4 : Int} {x5 : Int} (h0 : fB bsJ I) (ha1 : (1 ≤ x1 ∧ x1 ≤ 60)) (ha2 : (3 ≤ x2 ∧ x2 ≤ 3)) (ha3 : ((-2147483648) ≤ x3 ∧ x3 ≤ 2147483647)) (ha4 : (0 ≤ x4 ∧ x4 ≤ 27)) (ha5 : ((-2147483648) ≤ x5 ∧ x5 ≤ 2147483647)) (hp0 : x2 = 3) (hp1 : x2 ≤ I 741 12) (hp2 : 0 ≤ x5 ∧ x5 ≤ 5940 * x2) : fC ρ base n F xTc vwCl xTys D dA la gJ (fbz bsJ znJ (fKc wz_4d25e) I) xm_483 [.inr (.inr (some 740)), .inl x1, .inl x2, .inl x3, .inl x4, .inl x5] I (fun I' r => r = none ∧ True ∧ (∀ (p : Nat → Int) (s : sSt), (∀ i : Nat, (i : Int) < x2 → I 757 i = p i) → skQ (I 741 12).toNat s I → skQ (I 741 12).toNat (sSk (I 741 12).toNat (fun b => I 741 (4370 + 3 * b)) (fun b => I 741 (4371 + 3 * b)) (fun b => I 741 (4372 + 3 * b)) x1 4 x2.toNat x3 x4 x5 p s) I') ∧ (∀ i : Nat, (i : Int) < x2 → I' 757 i = I 757 i)) := by
  have hW : fzs wz_4d25e (fKc wz_4d25e) := fKc_ok _
  refine f_meth (rb := rbJ) (J := [(29, (jc_M_seek_6e4c8_29 x2 x5 I)), (59, (jc_M_seek_6e4c8_59 x1 x2 x3 x4 x5 I))]) 13 400 xG xin_483 x6_483 okJ (fB_self h0) ?_ ?_
  · refine List.forall_mem_cons.mpr ⟨?_, List.forall_mem_cons.mpr ⟨?_, fun q h => absurd h List.not_mem_nil⟩⟩
    · rintro m _ _ I1 hB1 ⟨y2, y6, rfl, rfl, ⟨hb, hx0, hx1⟩, hm⟩
      have k1 := fBz_eq hB1 (a := 741) (j := 12) (by decide +kernel)
      have b2 := fBd fb_741_12 (fBz h0 hB1)
      have b3 := fBd fb_740_35 (fBz h0 hB1)
      refine And.intro (And.intro (by first | exact fi_ hb.2.1.1 hb.2.1.2 rfl | omega) (by first | exact fi_ hb.1.1 hb.1.2 rfl | omega)) (And.intro ?_ ?_)
      · intro c4
        exact ⟨rfl, True.intro, (fun p s hp hs => by rw [sk_tk (by omega)]; first | exact tq_yes hs (by omega) (by omega) (fun i hi => hp i (by omega)) (by omega) (by omega) (by omega) (fun i hi => hx0 i (by omega)) | exact tq_yes hs (by omega) (by omega) (fun i hi => hp i (by omega)) (by omega) (by omega) (by omega) (fun i hi => absurd hi (by omega)) | exact tq_no hs (by omega) (by omega)), (by first | exact (fun i _ => hx1 i) | exact (fun i _ => rfl) | exact (fun i _ => fup_other enil0 757 i (Or.inl (by decide))))⟩
      · intro c5
        refine And.intro ⟨rfl, by decide, by decide⟩ ?_
        refine And.intro ⟨rfl, by decide, by decide⟩ ?_
        refine fload1 rL_757_757_0_6_1_0 h0 hB1 ⟨by decide, by decide⟩ (by first | exact ⟨hb.2.1.1, Int.le_trans (Int.le_sub_one_of_lt (Int.lt_of_lt_of_le c5 hb.1.2)) (by decide)⟩ | omega) ?_
        intro z6 lz6 uz6 qz6
        refine fstore1 rS_758_758_0_6_1_0 (fzs_sub (by decide +kernel) hW) ⟨by decide, by decide⟩ (by first | exact ⟨hb.2.1.1, Int.le_trans (Int.le_sub_one_of_lt (Int.lt_of_lt_of_le c5 hb.1.2)) (by decide)⟩ | omega) (by first | exact ⟨lz6, uz6⟩ | omega) ?_
        intro IhB7 ehB7 hB7
        have t8 := fup_self ehB7
        have t9 : IhB7 740 33 = I1 740 33 := (congrFun (congrFun ehB7 740) 33).trans (fup_ne (by first | exact Or.inl (by decide) | omega))
        have t10 : IhB7 740 34 = I1 740 34 := (congrFun (congrFun ehB7 740) 34).trans (fup_ne (by first | exact Or.inl (by decide) | omega))
        have t11 : IhB7 740 35 = I1 740 35 := (congrFun (congrFun ehB7 740) 35).trans (fup_ne (by first | exact Or.inl (by decide) | omega))
        have t12 : IhB7 741 12 = I1 741 12 := (congrFun (congrFun ehB7 741) 12).trans (fup_ne (by first | exact Or.inl (by decide) | omega))
        have k13 := fBz_eq hB7 (a := 741) (j := 12) (by decide +kernel)
        exact fcutJ (I := IhB7) (j := (jc_M_seek_6e4c8_29 x2 x5 I)) (lv' := [(0, .inr (.inr (some 740))), (2, .inl _), (6, .inl _)]) (And.intro rfl (And.intro rfl (And.intro rfl True.intro))) ⟨_, _, rfl, rfl, ⟨by omega, (fun i h => if ei : i = y6.toNat then (by rw [ei]; exact (fup_self ehB7).trans (qz6.trans (hx1 _))) else (fup_other ehB7 758 i (Or.inr ei)).trans (hx0 i (by omega))), (fun i => (fup_other ehB7 757 i (Or.inl (by decide))).trans (hx1 i))⟩, rfl⟩ (by omega)
    · rintro m _ _ I1 hB1 ⟨y1, y2, y3, y4, y5, y6, rfl, rfl, ⟨hb, hx0, hx1⟩, hm⟩
      have k14 := fBz_eq hB1 (a := 741) (j := 12) (by decide +kernel)
      have b15 := fBd fb_741_12 (fBz h0 hB1)
      have b16 := fBd fb_740_35 (fBz h0 hB1)
      have ey1 : x1 = y1 := by omega
      subst ey1
      have ey2 : x2 = y2 := by omega
      subst ey2
      have ey3 : x3 = y3 := by omega
      subst ey3
      have ey4 : x4 = y4 := by omega
      subst ey4
      have ey5 : x5 = y5 := by omega
      subst ey5
      have sS := fFr_S (fFr_of hB1) (by decide +kernel)
      refine And.intro ⟨rfl, by decide, by decide⟩ ?_
      refine fload1 rL_741_741_12_12_1_0 h0 hB1 ⟨by decide, by decide⟩ (by first | exact ⟨by decide, by decide⟩ | omega) ?_
      intro z17 lz17 uz17 qz17
      have pz17 := fld_at qz17 12 (by omega)
      refine And.intro (And.intro (by first | exact fi_ hb.2.2.2.2.2.1.1 hb.2.2.2.2.2.1.2 rfl | omega) (by first | exact fi_ lz17 uz17 rfl | omega)) (And.intro ?_ ?_)
      · intro c18
        exact ⟨rfl, True.intro, (fun p s hp hs => by first | (exfalso; omega) | (rw [sk_go (by omega)]; exact sq_end (hx0 p s hp hs) (by omega) (by omega))), hx1⟩
      · intro c19
        refine And.intro ⟨rfl, by decide, by decide⟩ (fgetf fb_740_35 h0 hB1 ?_)
        intro z20 lz20 uz20 qz20
        refine And.intro (by first | exact fi_ lz20 uz20 rfl | omega) (And.intro ?_ ?_)
        · intro c21
          exact ⟨rfl, True.intro, (fun p s hp hs => by first | (exfalso; omega) | (rw [sk_go (by omega)]; exact sq_end (hx0 p s hp hs) (by omega) (by omega))), hx1⟩
        · intro c22
          intro z23 hz23 ez23
          intro z24 hz24 ez24 bz24
          have bz24 := bz24 (by omega)
          have wb := bt_of hz24 ez23 ez24 (by omega)
          refine And.intro (And.intro (by first | exact fi_ bz24.1 bz24.2 rfl | omega) (by first | exact ⟨by decide, by decide⟩ | omega)) (And.intro ?_ ?_)
          · intro c25
            exact fcutJ (I := I1) (j := (jc_M_seek_6e4c8_59 x1 x2 x3 x4 x5 I)) (lv' := [(0, .inr (.inr (some 740))), (1, .inl _), (2, .inl _), (3, .inl _), (4, .inl _), (5, .inl _), (6, .inl _)]) (And.intro rfl (And.intro rfl (And.intro rfl (And.intro rfl (And.intro rfl (And.intro rfl (And.intro rfl True.intro))))))) ⟨_, _, _, _, _, _, rfl, rfl, ⟨by omega, (fun p s hp hs => by have hq := (hx0 p s hp hs).1; first | exact nf_skQ (qo_no (hx0 p s hp hs) (fun q => by have q1 := q.1; omega)) (by omega) (by omega) | exact nf_skQ (qo_no (hx0 p s hp hs) (fun q => by have q2 := q.2; omega)) (by omega) (by omega) | exact nf_skQ (qo_spent (hx0 p s hp hs) (by omega) (by omega) ⟨by omega, by omega⟩ rfl enil0) (by omega) (by omega) | exact nf_skQ (qo_rec (hx0 p s hp hs) (by omega) (by omega) ⟨by omega, by omega⟩ (g0nil0 (sUp p x2.toNat ((y6.toNat : Nat) : Int)) _ (path_uq enil0 enil0 enil0 (fun i hi => (hx1 i hi).trans (hp i hi)) (by omega) rfl (by omega)) (qo_in (hx0 p s hp hs) (by omega) (by omega) rfl (by omega) enil0 enil0 enil0))) (by omega) (by omega) | (exfalso; omega)), (fun i hi => by first | exact (g1nil0 i (by omega)).trans ((fup_other enil0 757 i (Or.inr (by omega))).trans ((fup_other enil0 757 i (Or.inl (by decide))).trans ((fup_other enil0 757 i (Or.inl (by decide))).trans (hx1 i hi)))) | exact ((fup_other enil0 757 i (Or.inl (by decide))).trans (hx1 i hi)) | exact hx1 i hi | (exfalso; omega))⟩, rfl⟩ (by omega)
          · intro c26
            refine And.intro ⟨rfl, by decide, by decide⟩ ?_
            refine fload rL_741_741_4372_4390_3_0 h0 hB1 (by omega) ?_
            intro z27 lz27 uz27 qz27
            intro z28 hz28 ez28
            intro z29 hz29 ez29 bz29
            clear bz29
            have wa := sAh_of hz29 ez28 ez29
            rw [fld_at qz27 (4372 + 3 * y6.toNat) (by omega), sS] at wa
            refine And.intro (by omega) (And.intro ?_ ?_)
            · intro c30
              refine And.intro ⟨rfl, by decide, by decide⟩ (fgetf fb_740_34 h0 hB1 ?_)
              intro z31 lz31 uz31 qz31
              refine And.intro (by first | exact fi_ lz31 uz31 rfl | omega) (And.intro ?_ ?_)
              · intro c32
                refine And.intro ⟨rfl, by decide, by decide⟩ (And.intro rfl (And.intro (Or.inr ⟨rfl, by omega⟩) (fputf fb_740_35 (by decide +kernel) hW (by omega) ?_)))
                intro IhB33 ehB33 hB33
                have t34 : IhB33 740 33 = I1 740 33 := (congrFun (congrFun ehB33 740) 33).trans (fup_ne (by first | decide | omega))
                have t35 : IhB33 740 34 = I1 740 34 := (congrFun (congrFun ehB33 740) 34).trans (fup_ne (by first | decide | omega))
                have t36 := fup_at ehB33 35 (by first | rfl | omega)
                have t37 : IhB33 741 12 = I1 741 12 := (congrFun (congrFun ehB33 741) 12).trans (fup_ne (by first | decide | omega))
                have k38 := fBz_eq hB33 (a := 741) (j := 12) (by decide +kernel)
                refine And.intro ⟨rfl, by decide, by decide⟩ (fgetf fb_740_35 h0 hB33 ?_)
                intro z39 lz39 uz39 qz39
                refine And.intro (by first | exact fi_ lz39 uz39 rfl | omega) (And.intro ?_ ?_)
                · intro c40
                  exact fcutJ (I := IhB33) (j := (jc_M_seek_6e4c8_59 x1 x2 x3 x4 x5 I)) (lv' := [(0, .inr (.inr (some 740))), (1, .inl _), (2, .inl _), (3, .inl _), (4, .inl _), (5, .inl _), (6, .inl _)]) (And.intro rfl (And.intro rfl (And.intro rfl (And.intro rfl (And.intro rfl (And.intro rfl (And.intro rfl True.intro))))))) ⟨_, _, _, _, _, _, rfl, rfl, ⟨by omega, (fun p s hp hs => by have hq := (hx0 p s hp hs).1; first | exact nf_skQ (qo_no (hx0 p s hp hs) (fun q => by have q1 := q.1; omega)) (by omega) (by omega) | exact nf_skQ (qo_no (hx0 p s hp hs) (fun q => by have q2 := q.2; omega)) (by omega) (by omega) | exact nf_skQ (qo_spent (hx0 p s hp hs) (by omega) (by omega) ⟨by omega, by omega⟩ rfl ehB33) (by omega) (by omega) | exact nf_skQ (qo_rec (hx0 p s hp hs) (by omega) (by omega) ⟨by omega, by omega⟩ (g0nil0 (sUp p x2.toNat ((y6.toNat : Nat) : Int)) _ (path_uq ehB33 enil0 enil0 (fun i hi => (hx1 i hi).trans (hp i hi)) (by omega) rfl (by omega)) (qo_in (hx0 p s hp hs) (by omega) (by omega) rfl (by omega) ehB33 enil0 enil0))) (by omega) (by omega) | (exfalso; omega)), (fun i hi => by first | exact (g1nil0 i (by omega)).trans ((fup_other enil0 757 i (Or.inr (by omega))).trans ((fup_other enil0 757 i (Or.inl (by decide))).trans ((fup_other ehB33 757 i (Or.inl (by decide))).trans (hx1 i hi)))) | exact ((fup_other ehB33 757 i (Or.inl (by decide))).trans (hx1 i hi)) | exact hx1 i hi | (exfalso; omega))⟩, rfl⟩ (by omega)
                · intro c41
                  refine And.intro ⟨rfl, by decide, by decide⟩ (fgetf fb_740_34 h0 hB33 ?_)
                  intro z42 lz42 uz42 qz42
                  intro z43 hz43 ez43 bz43
                  try replace bz43 := bz43 (by omega)
                  refine And.intro ⟨rfl, by decide, by decide⟩ (And.intro rfl (And.intro (Or.inl rfl) (fputf fb_740_34 (by decide +kernel) hW (by omega) ?_)))
                  intro IhB44 ehB44 hB44
                  have t45 : IhB44 740 33 = IhB33 740 33 := (congrFun (congrFun ehB44 740) 33).trans (fup_ne (by first | decide | omega))
                  have t46 := fup_at ehB44 34 (by first | rfl | omega)
                  have t47 : IhB44 740 35 = IhB33 740 35 := (congrFun (congrFun ehB44 740) 35).trans (fup_ne (by first | decide | omega))
                  have t48 : IhB44 741 12 = IhB33 741 12 := (congrFun (congrFun ehB44 741) 12).trans (fup_ne (by first | decide | omega))
                  have k49 := fBz_eq hB44 (a := 741) (j := 12) (by decide +kernel)
                  refine And.intro ⟨rfl, by decide, by decide⟩ ?_
                  refine fstore1 rS_757_757_0_6_1_0 (fzs_sub (by decide +kernel) hW) ⟨by decide, by decide⟩ (by first | exact ⟨Int.le_trans (by decide) hb.2.1.1, Int.le_trans hb.2.1.2 (by decide)⟩ | omega) (by first | exact ⟨hb.2.2.2.2.2.1.1, Int.le_trans (Int.le_sub_one_of_lt (Int.lt_of_lt_of_le c19 uz17)) (by decide)⟩ | omega) ?_
                  intro IhB50 ehB50 hB50
                  have t51 := fup_self ehB50
                  have t52 : IhB50 740 33 = IhB44 740 33 := (congrFun (congrFun ehB50 740) 33).trans (fup_ne (by first | exact Or.inl (by decide) | omega))
                  have t53 : IhB50 740 34 = IhB44 740 34 := (congrFun (congrFun ehB50 740) 34).trans (fup_ne (by first | exact Or.inl (by decide) | omega))
                  have t54 : IhB50 740 35 = IhB44 740 35 := (congrFun (congrFun ehB50 740) 35).trans (fup_ne (by first | exact Or.inl (by decide) | omega))
                  have t55 : IhB50 741 12 = IhB44 741 12 := (congrFun (congrFun ehB50 741) 12).trans (fup_ne (by first | exact Or.inl (by decide) | omega))
                  have k56 := fBz_eq hB50 (a := 741) (j := 12) (by decide +kernel)
                  refine And.intro ⟨rfl, by decide, by decide⟩ ?_
                  refine fload rL_741_741_4370_4388_3_0 h0 hB50 (by omega) ?_
                  intro z57 lz57 uz57 qz57
                  have s4 : ∀ j, IhB50 741 j = I 741 j := fun j => (fup_other ehB50 741 j (Or.inl (by decide))).trans ((fup_other ehB44 741 j (Or.inl (by decide))).trans ((fup_other ehB33 741 j (Or.inl (by decide))).trans (sS j)))
                  have w166 := (fld_at qz57 (4370 + 3 * y6.toNat) (by omega)).trans (s4 _)
                  intro z58 hz58 ez58 bz58
                  have bz58 := bz58 (by omega)
                  intro z59 hz59 ez59
                  intro z60 hz60 ez60
                  refine And.intro (by omega) (And.intro ?_ ?_)
                  · intro c61
                    intro z62 hz62 ez62 bz62
                    try replace bz62 := bz62 (by omega)
                    refine Exists.intro xm_482 (And.intro mi_482 (And.intro ⟨rfl, rfl, rfl, rfl⟩ (And.intro rfl ?_)))
                    refine fcall _ h0 (fzs_sub (by decide +kernel) hW) hB50 (ct_M_seek_2af86 (fBz h0 hB50) (by first | exact ⟨hb.1.1, hb.1.2⟩ | omega) (by omega) (by omega) (by omega) (by omega) (by omega) (by omega) (by omega)) ?_
                    rintro IhB64 _ hB64 fhB64 ⟨rfl, hz63, g0z63, g1z63⟩
                    have t65 := fhB64 741 12 (by decide +kernel)
                    have k66 := fBz_eq hB64 (a := 741) (j := 12) (by decide +kernel)
                    have wd := sDn_of hz60 (by omega) ez59 ez60
                    have we : z58 = x4 + I 741 (4370 + 3 * y6.toNat) := by omega
                    have ws : z62 = x5 + sMo x1 (x4 + I 741 (4370 + 3 * y6.toNat)) (I 741 (4371 + 3 * y6.toNat)) := by first | (have q := mo_of (span := x1) (e := x4 + I 741 (4370 + 3 * y6.toNat)) w204 (by omega); rw [w199] at q; omega) | (have q : sMo x1 (x4 + I 741 (4370 + 3 * y6.toNat)) (I 741 (4371 + 3 * y6.toNat)) = 0 := if_pos (by omega); omega)
                    simp only [s4] at g0z63
                    rw [wd, we, ws, show (x2 + ((1 : Nat) : Int)).toNat = x2.toNat + 1 by omega] at g0z63
                    exact fcutJ (I := IhB64) (j := (jc_M_seek_6e4c8_59 x1 x2 x3 x4 x5 I)) (lv' := [(0, .inr (.inr (some 740))), (1, .inl _), (2, .inl _), (3, .inl _), (4, .inl _), (5, .inl _), (6, .inl _)]) (And.intro rfl (And.intro rfl (And.intro rfl (And.intro rfl (And.intro rfl (And.intro rfl (And.intro rfl True.intro))))))) ⟨_, _, _, _, _, _, rfl, rfl, ⟨by omega, (fun p s hp hs => by have hq := (hx0 p s hp hs).1; first | exact nf_skQ (qo_no (hx0 p s hp hs) (fun q => by have q1 := q.1; omega)) (by omega) (by omega) | exact nf_skQ (qo_no (hx0 p s hp hs) (fun q => by have q2 := q.2; omega)) (by omega) (by omega) | exact nf_skQ (qo_spent (hx0 p s hp hs) (by omega) (by omega) ⟨by omega, by omega⟩ rfl ehB33) (by omega) (by omega) | exact nf_skQ (qo_rec (hx0 p s hp hs) (by omega) (by omega) ⟨by omega, by omega⟩ (g0z63 (sUp p x2.toNat ((y6.toNat : Nat) : Int)) _ (path_uq ehB33 ehB44 ehB50 (fun i hi => (hx1 i hi).trans (hp i hi)) (by omega) rfl (by omega)) (qo_in (hx0 p s hp hs) (by omega) (by omega) rfl (by omega) ehB33 ehB44 ehB50))) (by omega) (by omega) | (exfalso; omega)), (fun i hi => by first | exact (g1z63 i (by omega)).trans ((fup_other ehB50 757 i (Or.inr (by omega))).trans ((fup_other ehB44 757 i (Or.inl (by decide))).trans ((fup_other ehB33 757 i (Or.inl (by decide))).trans (hx1 i hi)))) | exact ((fup_other ehB33 757 i (Or.inl (by decide))).trans (hx1 i hi)) | exact hx1 i hi | (exfalso; omega))⟩, rfl⟩ (by omega)
                  · intro c67
                    refine And.intro ⟨rfl, by decide, by decide⟩ ?_
                    refine fload rL_741_741_4371_4389_3_0 h0 hB50 (by omega) ?_
                    intro z68 lz68 uz68 qz68
                    have w199 := (fld_at qz68 (4371 + 3 * y6.toNat) (by omega)).trans (s4 _)
                    intro z69 hz69 ez69 bz69
                    have bz69 := bz69 (by omega)
                    intro z70 hz70 ez70 bz70
                    try replace bz70 := bz70 (by omega)
                    have w203 := mul_bd (a := z68) (b := z69) (by omega) (by omega)
                    have w204 : z70 = z68 * z69 := by first | exact bz70 (by omega) | exact bz70
                    intro z71 hz71 ez71 bz71
                    try replace bz71 := bz71 (by omega)
                    refine Exists.intro xm_482 (And.intro mi_482 (And.intro ⟨rfl, rfl, rfl, rfl⟩ (And.intro rfl ?_)))
                    refine fcall _ h0 (fzs_sub (by decide +kernel) hW) hB50 (ct_M_seek_2af86 (fBz h0 hB50) (by first | exact ⟨hb.1.1, hb.1.2⟩ | omega) (by omega) (by omega) (by omega) (by omega) (by omega) (by omega) (by omega)) ?_
                    rintro IhB73 _ hB73 fhB73 ⟨rfl, hz72, g0z72, g1z72⟩
                    have t74 := fhB73 741 12 (by decide +kernel)
                    have k75 := fBz_eq hB73 (a := 741) (j := 12) (by decide +kernel)
                    have wd := sDn_of hz60 (by omega) ez59 ez60
                    have we : z58 = x4 + I 741 (4370 + 3 * y6.toNat) := by omega
                    have ws : z71 = x5 + sMo x1 (x4 + I 741 (4370 + 3 * y6.toNat)) (I 741 (4371 + 3 * y6.toNat)) := by first | (have q := mo_of (span := x1) (e := x4 + I 741 (4370 + 3 * y6.toNat)) w204 (by omega); rw [w199] at q; omega) | (have q : sMo x1 (x4 + I 741 (4370 + 3 * y6.toNat)) (I 741 (4371 + 3 * y6.toNat)) = 0 := if_pos (by omega); omega)
                    simp only [s4] at g0z72
                    rw [wd, we, ws, show (x2 + ((1 : Nat) : Int)).toNat = x2.toNat + 1 by omega] at g0z72
                    exact fcutJ (I := IhB73) (j := (jc_M_seek_6e4c8_59 x1 x2 x3 x4 x5 I)) (lv' := [(0, .inr (.inr (some 740))), (1, .inl _), (2, .inl _), (3, .inl _), (4, .inl _), (5, .inl _), (6, .inl _)]) (And.intro rfl (And.intro rfl (And.intro rfl (And.intro rfl (And.intro rfl (And.intro rfl (And.intro rfl True.intro))))))) ⟨_, _, _, _, _, _, rfl, rfl, ⟨by omega, (fun p s hp hs => by have hq := (hx0 p s hp hs).1; first | exact nf_skQ (qo_no (hx0 p s hp hs) (fun q => by have q1 := q.1; omega)) (by omega) (by omega) | exact nf_skQ (qo_no (hx0 p s hp hs) (fun q => by have q2 := q.2; omega)) (by omega) (by omega) | exact nf_skQ (qo_spent (hx0 p s hp hs) (by omega) (by omega) ⟨by omega, by omega⟩ rfl ehB33) (by omega) (by omega) | exact nf_skQ (qo_rec (hx0 p s hp hs) (by omega) (by omega) ⟨by omega, by omega⟩ (g0z72 (sUp p x2.toNat ((y6.toNat : Nat) : Int)) _ (path_uq ehB33 ehB44 ehB50 (fun i hi => (hx1 i hi).trans (hp i hi)) (by omega) rfl (by omega)) (qo_in (hx0 p s hp hs) (by omega) (by omega) rfl (by omega) ehB33 ehB44 ehB50))) (by omega) (by omega) | (exfalso; omega)), (fun i hi => by first | exact (g1z72 i (by omega)).trans ((fup_other ehB50 757 i (Or.inr (by omega))).trans ((fup_other ehB44 757 i (Or.inl (by decide))).trans ((fup_other ehB33 757 i (Or.inl (by decide))).trans (hx1 i hi)))) | exact ((fup_other ehB33 757 i (Or.inl (by decide))).trans (hx1 i hi)) | exact hx1 i hi | (exfalso; omega))⟩, rfl⟩ (by omega)
              · intro c76
                refine And.intro ⟨rfl, by decide, by decide⟩ (And.intro rfl (And.intro (Or.inr ⟨rfl, by decide, by decide⟩) (fputf fb_740_35 (by decide +kernel) hW (by first | exact ⟨by decide, by decide⟩ | omega) ?_)))
                intro IhB77 ehB77 hB77
                have t78 : IhB77 740 33 = I1 740 33 := (congrFun (congrFun ehB77 740) 33).trans (fup_ne (by first | decide | omega))
                have t79 : IhB77 740 34 = I1 740 34 := (congrFun (congrFun ehB77 740) 34).trans (fup_ne (by first | decide | omega))
                have t80 := fup_at ehB77 35 (by first | rfl | omega)
                have t81 : IhB77 741 12 = I1 741 12 := (congrFun (congrFun ehB77 741) 12).trans (fup_ne (by first | decide | omega))
                have k82 := fBz_eq hB77 (a := 741) (j := 12) (by decide +kernel)
                refine And.intro ⟨rfl, by decide, by decide⟩ (fgetf fb_740_35 h0 hB77 ?_)
                intro z83 lz83 uz83 qz83
                refine And.intro (by first | exact fi_ lz83 uz83 rfl | omega) (And.intro ?_ ?_)
                · intro c84
                  exact fcutJ (I := IhB77) (j := (jc_M_seek_6e4c8_59 x1 x2 x3 x4 x5 I)) (lv' := [(0, .inr (.inr (some 740))), (1, .inl _), (2, .inl _), (3, .inl _), (4, .inl _), (5, .inl _), (6, .inl _)]) (And.intro rfl (And.intro rfl (And.intro rfl (And.intro rfl (And.intro rfl (And.intro rfl (And.intro rfl True.intro))))))) ⟨_, _, _, _, _, _, rfl, rfl, ⟨by omega, (fun p s hp hs => by have hq := (hx0 p s hp hs).1; first | exact nf_skQ (qo_no (hx0 p s hp hs) (fun q => by have q1 := q.1; omega)) (by omega) (by omega) | exact nf_skQ (qo_no (hx0 p s hp hs) (fun q => by have q2 := q.2; omega)) (by omega) (by omega) | exact nf_skQ (qo_spent (hx0 p s hp hs) (by omega) (by omega) ⟨by omega, by omega⟩ rfl ehB77) (by omega) (by omega) | exact nf_skQ (qo_rec (hx0 p s hp hs) (by omega) (by omega) ⟨by omega, by omega⟩ (g0z72 (sUp p x2.toNat ((y6.toNat : Nat) : Int)) _ (path_uq ehB77 ehB44 ehB50 (fun i hi => (hx1 i hi).trans (hp i hi)) (by omega) rfl (by omega)) (qo_in (hx0 p s hp hs) (by omega) (by omega) rfl (by omega) ehB77 ehB44 ehB50))) (by omega) (by omega) | (exfalso; omega)), (fun i hi => by first | exact (g1z72 i (by omega)).trans ((fup_other ehB50 757 i (Or.inr (by omega))).trans ((fup_other ehB44 757 i (Or.inl (by decide))).trans ((fup_other ehB77 757 i (Or.inl (by decide))).trans (hx1 i hi)))) | exact ((fup_other ehB77 757 i (Or.inl (by decide))).trans (hx1 i hi)) | exact hx1 i hi | (exfalso; omega))⟩, rfl⟩ (by omega)
                · intro c85
                  refine And.intro ⟨rfl, by decide, by decide⟩ (fgetf fb_740_34 h0 hB77 ?_)
                  intro z86 lz86 uz86 qz86
                  intro z87 hz87 ez87 bz87
                  try replace bz87 := bz87 (by omega)
                  refine And.intro ⟨rfl, by decide, by decide⟩ (And.intro rfl (And.intro (Or.inl rfl) (fputf fb_740_34 (by decide +kernel) hW (by omega) ?_)))
                  intro IhB88 ehB88 hB88
                  have t89 : IhB88 740 33 = IhB77 740 33 := (congrFun (congrFun ehB88 740) 33).trans (fup_ne (by first | decide | omega))
                  have t90 := fup_at ehB88 34 (by first | rfl | omega)
                  have t91 : IhB88 740 35 = IhB77 740 35 := (congrFun (congrFun ehB88 740) 35).trans (fup_ne (by first | decide | omega))
                  have t92 : IhB88 741 12 = IhB77 741 12 := (congrFun (congrFun ehB88 741) 12).trans (fup_ne (by first | decide | omega))
                  have k93 := fBz_eq hB88 (a := 741) (j := 12) (by decide +kernel)
                  refine And.intro ⟨rfl, by decide, by decide⟩ ?_
                  refine fstore1 rS_757_757_0_6_1_0 (fzs_sub (by decide +kernel) hW) ⟨by decide, by decide⟩ (by first | exact ⟨Int.le_trans (by decide) hb.2.1.1, Int.le_trans hb.2.1.2 (by decide)⟩ | omega) (by first | exact ⟨hb.2.2.2.2.2.1.1, Int.le_trans (Int.le_sub_one_of_lt (Int.lt_of_lt_of_le c19 uz17)) (by decide)⟩ | omega) ?_
                  intro IhB94 ehB94 hB94
                  have t95 := fup_self ehB94
                  have t96 : IhB94 740 33 = IhB88 740 33 := (congrFun (congrFun ehB94 740) 33).trans (fup_ne (by first | exact Or.inl (by decide) | omega))
                  have t97 : IhB94 740 34 = IhB88 740 34 := (congrFun (congrFun ehB94 740) 34).trans (fup_ne (by first | exact Or.inl (by decide) | omega))
                  have t98 : IhB94 740 35 = IhB88 740 35 := (congrFun (congrFun ehB94 740) 35).trans (fup_ne (by first | exact Or.inl (by decide) | omega))
                  have t99 : IhB94 741 12 = IhB88 741 12 := (congrFun (congrFun ehB94 741) 12).trans (fup_ne (by first | exact Or.inl (by decide) | omega))
                  have k100 := fBz_eq hB94 (a := 741) (j := 12) (by decide +kernel)
                  refine And.intro ⟨rfl, by decide, by decide⟩ ?_
                  refine fload rL_741_741_4370_4388_3_0 h0 hB94 (by omega) ?_
                  intro z101 lz101 uz101 qz101
                  have s4 : ∀ j, IhB94 741 j = I 741 j := fun j => (fup_other ehB94 741 j (Or.inl (by decide))).trans ((fup_other ehB88 741 j (Or.inl (by decide))).trans ((fup_other ehB77 741 j (Or.inl (by decide))).trans (sS j)))
                  have w166 := (fld_at qz101 (4370 + 3 * y6.toNat) (by omega)).trans (s4 _)
                  intro z102 hz102 ez102 bz102
                  have bz102 := bz102 (by omega)
                  intro z103 hz103 ez103
                  intro z104 hz104 ez104
                  refine And.intro (by omega) (And.intro ?_ ?_)
                  · intro c105
                    intro z106 hz106 ez106 bz106
                    try replace bz106 := bz106 (by omega)
                    refine Exists.intro xm_482 (And.intro mi_482 (And.intro ⟨rfl, rfl, rfl, rfl⟩ (And.intro rfl ?_)))
                    refine fcall _ h0 (fzs_sub (by decide +kernel) hW) hB94 (ct_M_seek_2af86 (fBz h0 hB94) (by first | exact ⟨hb.1.1, hb.1.2⟩ | omega) (by omega) (by omega) (by omega) (by omega) (by omega) (by omega) (by omega)) ?_
                    rintro IhB108 _ hB108 fhB108 ⟨rfl, hz107, g0z107, g1z107⟩
                    have t109 := fhB108 741 12 (by decide +kernel)
                    have k110 := fBz_eq hB108 (a := 741) (j := 12) (by decide +kernel)
                    have wd := sDn_of hz104 (by omega) ez103 ez104
                    have we : z102 = x4 + I 741 (4370 + 3 * y6.toNat) := by omega
                    have ws : z106 = x5 + sMo x1 (x4 + I 741 (4370 + 3 * y6.toNat)) (I 741 (4371 + 3 * y6.toNat)) := by first | (have q := mo_of (span := x1) (e := x4 + I 741 (4370 + 3 * y6.toNat)) w204 (by omega); rw [w199] at q; omega) | (have q : sMo x1 (x4 + I 741 (4370 + 3 * y6.toNat)) (I 741 (4371 + 3 * y6.toNat)) = 0 := if_pos (by omega); omega)
                    simp only [s4] at g0z107
                    rw [wd, we, ws, show (x2 + ((1 : Nat) : Int)).toNat = x2.toNat + 1 by omega] at g0z107
                    exact fcutJ (I := IhB108) (j := (jc_M_seek_6e4c8_59 x1 x2 x3 x4 x5 I)) (lv' := [(0, .inr (.inr (some 740))), (1, .inl _), (2, .inl _), (3, .inl _), (4, .inl _), (5, .inl _), (6, .inl _)]) (And.intro rfl (And.intro rfl (And.intro rfl (And.intro rfl (And.intro rfl (And.intro rfl (And.intro rfl True.intro))))))) ⟨_, _, _, _, _, _, rfl, rfl, ⟨by omega, (fun p s hp hs => by have hq := (hx0 p s hp hs).1; first | exact nf_skQ (qo_no (hx0 p s hp hs) (fun q => by have q1 := q.1; omega)) (by omega) (by omega) | exact nf_skQ (qo_no (hx0 p s hp hs) (fun q => by have q2 := q.2; omega)) (by omega) (by omega) | exact nf_skQ (qo_spent (hx0 p s hp hs) (by omega) (by omega) ⟨by omega, by omega⟩ rfl ehB77) (by omega) (by omega) | exact nf_skQ (qo_rec (hx0 p s hp hs) (by omega) (by omega) ⟨by omega, by omega⟩ (g0z107 (sUp p x2.toNat ((y6.toNat : Nat) : Int)) _ (path_uq ehB77 ehB88 ehB94 (fun i hi => (hx1 i hi).trans (hp i hi)) (by omega) rfl (by omega)) (qo_in (hx0 p s hp hs) (by omega) (by omega) rfl (by omega) ehB77 ehB88 ehB94))) (by omega) (by omega) | (exfalso; omega)), (fun i hi => by first | exact (g1z107 i (by omega)).trans ((fup_other ehB94 757 i (Or.inr (by omega))).trans ((fup_other ehB88 757 i (Or.inl (by decide))).trans ((fup_other ehB77 757 i (Or.inl (by decide))).trans (hx1 i hi)))) | exact ((fup_other ehB77 757 i (Or.inl (by decide))).trans (hx1 i hi)) | exact hx1 i hi | (exfalso; omega))⟩, rfl⟩ (by omega)
                  · intro c111
                    refine And.intro ⟨rfl, by decide, by decide⟩ ?_
                    refine fload rL_741_741_4371_4389_3_0 h0 hB94 (by omega) ?_
                    intro z112 lz112 uz112 qz112
                    have w199 := (fld_at qz112 (4371 + 3 * y6.toNat) (by omega)).trans (s4 _)
                    intro z113 hz113 ez113 bz113
                    have bz113 := bz113 (by omega)
                    intro z114 hz114 ez114 bz114
                    try replace bz114 := bz114 (by omega)
                    have w203 := mul_bd (a := z112) (b := z113) (by omega) (by omega)
                    have w204 : z114 = z112 * z113 := by first | exact bz114 (by omega) | exact bz114
                    intro z115 hz115 ez115 bz115
                    try replace bz115 := bz115 (by omega)
                    refine Exists.intro xm_482 (And.intro mi_482 (And.intro ⟨rfl, rfl, rfl, rfl⟩ (And.intro rfl ?_)))
                    refine fcall _ h0 (fzs_sub (by decide +kernel) hW) hB94 (ct_M_seek_2af86 (fBz h0 hB94) (by first | exact ⟨hb.1.1, hb.1.2⟩ | omega) (by omega) (by omega) (by omega) (by omega) (by omega) (by omega) (by omega)) ?_
                    rintro IhB117 _ hB117 fhB117 ⟨rfl, hz116, g0z116, g1z116⟩
                    have t118 := fhB117 741 12 (by decide +kernel)
                    have k119 := fBz_eq hB117 (a := 741) (j := 12) (by decide +kernel)
                    have wd := sDn_of hz104 (by omega) ez103 ez104
                    have we : z102 = x4 + I 741 (4370 + 3 * y6.toNat) := by omega
                    have ws : z115 = x5 + sMo x1 (x4 + I 741 (4370 + 3 * y6.toNat)) (I 741 (4371 + 3 * y6.toNat)) := by first | (have q := mo_of (span := x1) (e := x4 + I 741 (4370 + 3 * y6.toNat)) w204 (by omega); rw [w199] at q; omega) | (have q : sMo x1 (x4 + I 741 (4370 + 3 * y6.toNat)) (I 741 (4371 + 3 * y6.toNat)) = 0 := if_pos (by omega); omega)
                    simp only [s4] at g0z116
                    rw [wd, we, ws, show (x2 + ((1 : Nat) : Int)).toNat = x2.toNat + 1 by omega] at g0z116
                    exact fcutJ (I := IhB117) (j := (jc_M_seek_6e4c8_59 x1 x2 x3 x4 x5 I)) (lv' := [(0, .inr (.inr (some 740))), (1, .inl _), (2, .inl _), (3, .inl _), (4, .inl _), (5, .inl _), (6, .inl _)]) (And.intro rfl (And.intro rfl (And.intro rfl (And.intro rfl (And.intro rfl (And.intro rfl (And.intro rfl True.intro))))))) ⟨_, _, _, _, _, _, rfl, rfl, ⟨by omega, (fun p s hp hs => by have hq := (hx0 p s hp hs).1; first | exact nf_skQ (qo_no (hx0 p s hp hs) (fun q => by have q1 := q.1; omega)) (by omega) (by omega) | exact nf_skQ (qo_no (hx0 p s hp hs) (fun q => by have q2 := q.2; omega)) (by omega) (by omega) | exact nf_skQ (qo_spent (hx0 p s hp hs) (by omega) (by omega) ⟨by omega, by omega⟩ rfl ehB77) (by omega) (by omega) | exact nf_skQ (qo_rec (hx0 p s hp hs) (by omega) (by omega) ⟨by omega, by omega⟩ (g0z116 (sUp p x2.toNat ((y6.toNat : Nat) : Int)) _ (path_uq ehB77 ehB88 ehB94 (fun i hi => (hx1 i hi).trans (hp i hi)) (by omega) rfl (by omega)) (qo_in (hx0 p s hp hs) (by omega) (by omega) rfl (by omega) ehB77 ehB88 ehB94))) (by omega) (by omega) | (exfalso; omega)), (fun i hi => by first | exact (g1z116 i (by omega)).trans ((fup_other ehB94 757 i (Or.inr (by omega))).trans ((fup_other ehB88 757 i (Or.inl (by decide))).trans ((fup_other ehB77 757 i (Or.inl (by decide))).trans (hx1 i hi)))) | exact ((fup_other ehB77 757 i (Or.inl (by decide))).trans (hx1 i hi)) | exact hx1 i hi | (exfalso; omega))⟩, rfl⟩ (by omega)
            · intro c120
              exact fcutJ (I := I1) (j := (jc_M_seek_6e4c8_59 x1 x2 x3 x4 x5 I)) (lv' := [(0, .inr (.inr (some 740))), (1, .inl _), (2, .inl _), (3, .inl _), (4, .inl _), (5, .inl _), (6, .inl _)]) (And.intro rfl (And.intro rfl (And.intro rfl (And.intro rfl (And.intro rfl (And.intro rfl (And.intro rfl True.intro))))))) ⟨_, _, _, _, _, _, rfl, rfl, ⟨by omega, (fun p s hp hs => by have hq := (hx0 p s hp hs).1; first | exact nf_skQ (qo_no (hx0 p s hp hs) (fun q => by have q1 := q.1; omega)) (by omega) (by omega) | exact nf_skQ (qo_no (hx0 p s hp hs) (fun q => by have q2 := q.2; omega)) (by omega) (by omega) | exact nf_skQ (qo_spent (hx0 p s hp hs) (by omega) (by omega) ⟨by omega, by omega⟩ rfl ehB77) (by omega) (by omega) | exact nf_skQ (qo_rec (hx0 p s hp hs) (by omega) (by omega) ⟨by omega, by omega⟩ (g0z116 (sUp p x2.toNat ((y6.toNat : Nat) : Int)) _ (path_uq ehB77 ehB88 ehB94 (fun i hi => (hx1 i hi).trans (hp i hi)) (by omega) rfl (by omega)) (qo_in (hx0 p s hp hs) (by omega) (by omega) rfl (by omega) ehB77 ehB88 ehB94))) (by omega) (by omega) | (exfalso; omega)), (fun i hi => by first | exact (g1z116 i (by omega)).trans ((fup_other ehB94 757 i (Or.inr (by omega))).trans ((fup_other ehB88 757 i (Or.inl (by decide))).trans ((fup_other ehB77 757 i (Or.inl (by decide))).trans (hx1 i hi)))) | exact ((fup_other ehB77 757 i (Or.inl (by decide))).trans (hx1 i hi)) | exact hx1 i hi | (exfalso; omega))⟩, rfl⟩ (by omega)
  · have hB0 := fB_self (zn := znJ) (K := fKc wz_4d25e) h0
    have b121 := fBd fb_741_12 (fBz h0 hB0)
    have b122 := fBd fb_740_35 (fBz h0 hB0)
    refine And.intro ⟨rfl, by decide, by decide⟩ ?_
    refine fload1 rL_741_741_12_12_1_0 h0 hB0 ⟨by decide, by decide⟩ (by first | exact ⟨by decide, by decide⟩ | omega) ?_
    intro z123 lz123 uz123 qz123
    have pz123 := fld_at qz123 12 (by omega)
    refine And.intro (And.intro (by first | exact fi_ ha2.1 ha2.2 rfl | omega) (by first | exact fi_ lz123 uz123 rfl | omega)) (And.intro ?_ ?_)
    · intro c124
      exact fcutJ (I := I) (j := (jc_M_seek_6e4c8_59 x1 x2 x3 x4 x5 I)) (lv' := [(0, .inr (.inr (some 740))), (1, .inl _), (2, .inl _), (3, .inl _), (4, .inl _), (5, .inl _), (6, .inl _)]) (And.intro rfl (And.intro rfl (And.intro rfl (And.intro rfl (And.intro rfl (And.intro rfl (And.intro rfl True.intro))))))) ⟨_, _, _, _, _, _, rfl, rfl, ⟨by omega, (fun p s hp hs => hs), (fun i _ => rfl)⟩, rfl⟩ (by omega)
    · intro c125
      refine And.intro ⟨rfl, by decide, by decide⟩ (fgetf fb_740_33 h0 hB0 ?_)
      intro z126 lz126 uz126 qz126
      refine And.intro (And.intro (by first | exact fi_ ha5.1 ha5.2 rfl | omega) (by first | exact fi_ lz126 uz126 rfl | omega)) (And.intro ?_ ?_)
      · intro c127
        exact ⟨rfl, True.intro, (fun p s hp hs => by rw [sk_tk (by omega)]; first | exact tq_yes hs (by omega) (by omega) (fun i hi => hp i (by omega)) (by omega) (by omega) (by omega) (fun i hi => hx0 i (by omega)) | exact tq_yes hs (by omega) (by omega) (fun i hi => hp i (by omega)) (by omega) (by omega) (by omega) (fun i hi => absurd hi (by omega)) | exact tq_no hs (by omega) (by omega)), (by first | exact (fun i _ => hx1 i) | exact (fun i _ => rfl) | exact (fun i _ => fup_other enil0 757 i (Or.inl (by decide))))⟩
      · intro c128
        refine And.intro ⟨rfl, by decide, by decide⟩ (And.intro rfl (And.intro (Or.inl rfl) (fputf fb_740_33 (by decide +kernel) hW (by first | exact ⟨Int.le_trans (by decide) (Int.add_one_le_of_lt (Int.lt_of_le_of_lt lz126 c128)), ha5.2⟩ | omega) ?_)))
        intro IhB129 ehB129 hB129
        have t130 := fup_at ehB129 33 (by first | rfl | omega)
        have t131 : IhB129 740 34 = I 740 34 := (congrFun (congrFun ehB129 740) 34).trans (fup_ne (by first | decide | omega))
        have t132 : IhB129 740 35 = I 740 35 := (congrFun (congrFun ehB129 740) 35).trans (fup_ne (by first | decide | omega))
        have t133 : IhB129 741 12 = I 741 12 := (congrFun (congrFun ehB129 741) 12).trans (fup_ne (by first | decide | omega))
        have k134 := fBz_eq hB129 (a := 741) (j := 12) (by decide +kernel)
        exact fcutJ (I := IhB129) (j := (jc_M_seek_6e4c8_29 x2 x5 I)) (lv' := [(0, .inr (.inr (some 740))), (2, .inl _), (6, .inl _)]) (And.intro rfl (And.intro rfl (And.intro rfl True.intro))) ⟨_, _, rfl, rfl, ⟨by omega, (fun i h => absurd h (by omega)), (fun i => fup_other ehB129 757 i (Or.inl (by decide)))⟩, rfl⟩ (by omega)
abbrev jc_M_seek_92ac3_29 (x2 : Int) (x5 : Int) (I0 : fH) : Nat → fL → List fV → fH → Prop := fun m lv st I => ∃ (y2 : Int) (y6 : Int), lv = [(0, .inr (.inr (some 740))), (2, .inl y2), (6, .inl y6)] ∧ st = [] ∧ (((2 ≤ y2 ∧ y2 ≤ 2) ∧ (0 ≤ y6 ∧ y6 ≤ 2) ∧ ((-2147483647) ≤ I 740 33 ∧ I 740 33 ≤ 2147483647) ∧ (2 ≤ I 741 12 ∧ I 741 12 ≤ 2) ∧ (y2 = x2) ∧ (x2 = I0 741 12) ∧ (I 740 33 = x5) ∧ (I0 740 33 < x5) ∧ (I 740 34 = I0 740 34) ∧ (I 740 35 = I0 740 35) ∧ (y6 ≤ x2)) ∧ (∀ i : Nat, (i : Int) < y6 → I 758 i = I0 757 i) ∧ (∀ i : Nat, I 757 i = I0 757 i)) ∧ m = (9 + 1 * (2 - y6) : Int).toNat
abbrev jc_M_seek_92ac3_59 (x1 : Int) (x2 : Int) (x3 : Int) (x4 : Int) (x5 : Int) (I0 : fH) : Nat → fL → List fV → fH → Prop := fun m lv st I => ∃ (y1 : Int) (y2 : Int) (y3 : Int) (y4 : Int) (y5 : Int) (y6 : Int), lv = [(0, .inr (.inr (some 740))), (1, .inl y1), (2, .inl y2), (3, .inl y3), (4, .inl y4), (5, .inl y5), (6, .inl y6)] ∧ st = [] ∧ (((1 ≤ y1 ∧ y1 ≤ 60) ∧ (2 ≤ y2 ∧ y2 ≤ 2) ∧ ((-2147483648) ≤ y3 ∧ y3 ≤ 2147483647) ∧ (0 ≤ y4 ∧ y4 ≤ 18) ∧ ((-2147483648) ≤ y5 ∧ y5 ≤ 2147483647) ∧ (0 ≤ y6 ∧ y6 ≤ 7) ∧ (y2 < I 741 12) ∧ (y1 = x1) ∧ (y2 = x2) ∧ (y3 = x3) ∧ (y4 = x4) ∧ (y5 = x5) ∧ (x2 < I0 741 12) ∧ (y6 ≤ I0 741 12)) ∧ (∀ (p : Nat → Int) (s : sSt), (∀ i : Nat, (i : Int) < x2 → I0 757 i = p i) → skQ (I0 741 12).toNat s I0 → skQ (I0 741 12).toNat (nf (sGo (fun b => I0 741 (4370 + 3 * b)) (fun b => I0 741 (4371 + 3 * b)) (fun b => I0 741 (4372 + 3 * b)) x1 (sSk (I0 741 12).toNat (fun b => I0 741 (4370 + 3 * b)) (fun b => I0 741 (4371 + 3 * b)) (fun b => I0 741 (4372 + 3 * b)) x1 4) x2.toNat x3 x4 x5 p) s y6.toNat) I) ∧ (∀ i : Nat, (i : Int) < x2 → I 757 i = I0 757 i)) ∧ m = (1 + 1 * (7 - y6) : Int).toNat
set_option maxRecDepth 8000 in
theorem ct_M_seek_92ac3 {I : fH} {x1 : Int} {x2 : Int} {x3 : Int} {x4 : Int} {x5 : Int} (h0 : fB bsJ I) (ha1 : (1 ≤ x1 ∧ x1 ≤ 60)) (ha2 : (2 ≤ x2 ∧ x2 ≤ 2)) (ha3 : ((-2147483648) ≤ x3 ∧ x3 ≤ 2147483647)) (ha4 : (0 ≤ x4 ∧ x4 ≤ 18)) (ha5 : ((-2147483648) ≤ x5 ∧ x5 ≤ 2147483647)) (hp0 : x2 = 2) (hp1 : x2 ≤ I 741 12) (hp2 : 0 ≤ x5 ∧ x5 ≤ 5940 * x2) : fC ρ base n F xTc vwCl xTys D dA la gJ (fbz bsJ znJ (fKc wz_4d25e) I) xm_484 [.inr (.inr (some 740)), .inl x1, .inl x2, .inl x3, .inl x4, .inl x5] I (fun I' r => r = none ∧ True ∧ (∀ (p : Nat → Int) (s : sSt), (∀ i : Nat, (i : Int) < x2 → I 757 i = p i) → skQ (I 741 12).toNat s I → skQ (I 741 12).toNat (sSk (I 741 12).toNat (fun b => I 741 (4370 + 3 * b)) (fun b => I 741 (4371 + 3 * b)) (fun b => I 741 (4372 + 3 * b)) x1 5 x2.toNat x3 x4 x5 p s) I') ∧ (∀ i : Nat, (i : Int) < x2 → I' 757 i = I 757 i)) := by
  have hW : fzs wz_4d25e (fKc wz_4d25e) := fKc_ok _
  refine f_meth (rb := rbJ) (J := [(29, (jc_M_seek_92ac3_29 x2 x5 I)), (59, (jc_M_seek_92ac3_59 x1 x2 x3 x4 x5 I))]) 12 400 xG xin_484 x6_484 okJ (fB_self h0) ?_ ?_
  · refine List.forall_mem_cons.mpr ⟨?_, List.forall_mem_cons.mpr ⟨?_, fun q h => absurd h List.not_mem_nil⟩⟩
    · rintro m _ _ I1 hB1 ⟨y2, y6, rfl, rfl, ⟨hb, hx0, hx1⟩, hm⟩
      have k1 := fBz_eq hB1 (a := 741) (j := 12) (by decide +kernel)
      have b2 := fBd fb_741_12 (fBz h0 hB1)
      have b3 := fBd fb_740_35 (fBz h0 hB1)
      refine And.intro (And.intro (by first | exact fi_ hb.2.1.1 hb.2.1.2 rfl | omega) (by first | exact fi_ hb.1.1 hb.1.2 rfl | omega)) (And.intro ?_ ?_)
      · intro c4
        exact ⟨rfl, True.intro, (fun p s hp hs => by rw [sk_tk (by omega)]; first | exact tq_yes hs (by omega) (by omega) (fun i hi => hp i (by omega)) (by omega) (by omega) (by omega) (fun i hi => hx0 i (by omega)) | exact tq_yes hs (by omega) (by omega) (fun i hi => hp i (by omega)) (by omega) (by omega) (by omega) (fun i hi => absurd hi (by omega)) | exact tq_no hs (by omega) (by omega)), (by first | exact (fun i _ => hx1 i) | exact (fun i _ => rfl) | exact (fun i _ => fup_other enil0 757 i (Or.inl (by decide))))⟩
      · intro c5
        refine And.intro ⟨rfl, by decide, by decide⟩ ?_
        refine And.intro ⟨rfl, by decide, by decide⟩ ?_
        refine fload1 rL_757_757_0_6_1_0 h0 hB1 ⟨by decide, by decide⟩ (by first | exact ⟨hb.2.1.1, Int.le_trans (Int.le_sub_one_of_lt (Int.lt_of_lt_of_le c5 hb.1.2)) (by decide)⟩ | omega) ?_
        intro z6 lz6 uz6 qz6
        refine fstore1 rS_758_758_0_6_1_0 (fzs_sub (by decide +kernel) hW) ⟨by decide, by decide⟩ (by first | exact ⟨hb.2.1.1, Int.le_trans (Int.le_sub_one_of_lt (Int.lt_of_lt_of_le c5 hb.1.2)) (by decide)⟩ | omega) (by first | exact ⟨lz6, uz6⟩ | omega) ?_
        intro IhB7 ehB7 hB7
        have t8 := fup_self ehB7
        have t9 : IhB7 740 33 = I1 740 33 := (congrFun (congrFun ehB7 740) 33).trans (fup_ne (by first | exact Or.inl (by decide) | omega))
        have t10 : IhB7 740 34 = I1 740 34 := (congrFun (congrFun ehB7 740) 34).trans (fup_ne (by first | exact Or.inl (by decide) | omega))
        have t11 : IhB7 740 35 = I1 740 35 := (congrFun (congrFun ehB7 740) 35).trans (fup_ne (by first | exact Or.inl (by decide) | omega))
        have t12 : IhB7 741 12 = I1 741 12 := (congrFun (congrFun ehB7 741) 12).trans (fup_ne (by first | exact Or.inl (by decide) | omega))
        have k13 := fBz_eq hB7 (a := 741) (j := 12) (by decide +kernel)
        exact fcutJ (I := IhB7) (j := (jc_M_seek_92ac3_29 x2 x5 I)) (lv' := [(0, .inr (.inr (some 740))), (2, .inl _), (6, .inl _)]) (And.intro rfl (And.intro rfl (And.intro rfl True.intro))) ⟨_, _, rfl, rfl, ⟨by omega, (fun i h => if ei : i = y6.toNat then (by rw [ei]; exact (fup_self ehB7).trans (qz6.trans (hx1 _))) else (fup_other ehB7 758 i (Or.inr ei)).trans (hx0 i (by omega))), (fun i => (fup_other ehB7 757 i (Or.inl (by decide))).trans (hx1 i))⟩, rfl⟩ (by omega)
    · rintro m _ _ I1 hB1 ⟨y1, y2, y3, y4, y5, y6, rfl, rfl, ⟨hb, hx0, hx1⟩, hm⟩
      have k14 := fBz_eq hB1 (a := 741) (j := 12) (by decide +kernel)
      have b15 := fBd fb_741_12 (fBz h0 hB1)
      have b16 := fBd fb_740_35 (fBz h0 hB1)
      have ey1 : x1 = y1 := by omega
      subst ey1
      have ey2 : x2 = y2 := by omega
      subst ey2
      have ey3 : x3 = y3 := by omega
      subst ey3
      have ey4 : x4 = y4 := by omega
      subst ey4
      have ey5 : x5 = y5 := by omega
      subst ey5
      have sS := fFr_S (fFr_of hB1) (by decide +kernel)
      refine And.intro ⟨rfl, by decide, by decide⟩ ?_
      refine fload1 rL_741_741_12_12_1_0 h0 hB1 ⟨by decide, by decide⟩ (by first | exact ⟨by decide, by decide⟩ | omega) ?_
      intro z17 lz17 uz17 qz17
      have pz17 := fld_at qz17 12 (by omega)
      refine And.intro (And.intro (by first | exact fi_ hb.2.2.2.2.2.1.1 hb.2.2.2.2.2.1.2 rfl | omega) (by first | exact fi_ lz17 uz17 rfl | omega)) (And.intro ?_ ?_)
      · intro c18
        exact ⟨rfl, True.intro, (fun p s hp hs => by first | (exfalso; omega) | (rw [sk_go (by omega)]; exact sq_end (hx0 p s hp hs) (by omega) (by omega))), hx1⟩
      · intro c19
        refine And.intro ⟨rfl, by decide, by decide⟩ (fgetf fb_740_35 h0 hB1 ?_)
        intro z20 lz20 uz20 qz20
        refine And.intro (by first | exact fi_ lz20 uz20 rfl | omega) (And.intro ?_ ?_)
        · intro c21
          exact ⟨rfl, True.intro, (fun p s hp hs => by first | (exfalso; omega) | (rw [sk_go (by omega)]; exact sq_end (hx0 p s hp hs) (by omega) (by omega))), hx1⟩
        · intro c22
          intro z23 hz23 ez23
          intro z24 hz24 ez24 bz24
          have bz24 := bz24 (by omega)
          have wb := bt_of hz24 ez23 ez24 (by omega)
          refine And.intro (And.intro (by first | exact fi_ bz24.1 bz24.2 rfl | omega) (by first | exact ⟨by decide, by decide⟩ | omega)) (And.intro ?_ ?_)
          · intro c25
            exact fcutJ (I := I1) (j := (jc_M_seek_92ac3_59 x1 x2 x3 x4 x5 I)) (lv' := [(0, .inr (.inr (some 740))), (1, .inl _), (2, .inl _), (3, .inl _), (4, .inl _), (5, .inl _), (6, .inl _)]) (And.intro rfl (And.intro rfl (And.intro rfl (And.intro rfl (And.intro rfl (And.intro rfl (And.intro rfl True.intro))))))) ⟨_, _, _, _, _, _, rfl, rfl, ⟨by omega, (fun p s hp hs => by have hq := (hx0 p s hp hs).1; first | exact nf_skQ (qo_no (hx0 p s hp hs) (fun q => by have q1 := q.1; omega)) (by omega) (by omega) | exact nf_skQ (qo_no (hx0 p s hp hs) (fun q => by have q2 := q.2; omega)) (by omega) (by omega) | exact nf_skQ (qo_spent (hx0 p s hp hs) (by omega) (by omega) ⟨by omega, by omega⟩ rfl enil0) (by omega) (by omega) | exact nf_skQ (qo_rec (hx0 p s hp hs) (by omega) (by omega) ⟨by omega, by omega⟩ (g0nil0 (sUp p x2.toNat ((y6.toNat : Nat) : Int)) _ (path_uq enil0 enil0 enil0 (fun i hi => (hx1 i hi).trans (hp i hi)) (by omega) rfl (by omega)) (qo_in (hx0 p s hp hs) (by omega) (by omega) rfl (by omega) enil0 enil0 enil0))) (by omega) (by omega) | (exfalso; omega)), (fun i hi => by first | exact (g1nil0 i (by omega)).trans ((fup_other enil0 757 i (Or.inr (by omega))).trans ((fup_other enil0 757 i (Or.inl (by decide))).trans ((fup_other enil0 757 i (Or.inl (by decide))).trans (hx1 i hi)))) | exact ((fup_other enil0 757 i (Or.inl (by decide))).trans (hx1 i hi)) | exact hx1 i hi | (exfalso; omega))⟩, rfl⟩ (by omega)
          · intro c26
            refine And.intro ⟨rfl, by decide, by decide⟩ ?_
            refine fload rL_741_741_4372_4390_3_0 h0 hB1 (by omega) ?_
            intro z27 lz27 uz27 qz27
            intro z28 hz28 ez28
            intro z29 hz29 ez29 bz29
            clear bz29
            have wa := sAh_of hz29 ez28 ez29
            rw [fld_at qz27 (4372 + 3 * y6.toNat) (by omega), sS] at wa
            refine And.intro (by omega) (And.intro ?_ ?_)
            · intro c30
              refine And.intro ⟨rfl, by decide, by decide⟩ (fgetf fb_740_34 h0 hB1 ?_)
              intro z31 lz31 uz31 qz31
              refine And.intro (by first | exact fi_ lz31 uz31 rfl | omega) (And.intro ?_ ?_)
              · intro c32
                refine And.intro ⟨rfl, by decide, by decide⟩ (And.intro rfl (And.intro (Or.inr ⟨rfl, by omega⟩) (fputf fb_740_35 (by decide +kernel) hW (by omega) ?_)))
                intro IhB33 ehB33 hB33
                have t34 : IhB33 740 33 = I1 740 33 := (congrFun (congrFun ehB33 740) 33).trans (fup_ne (by first | decide | omega))
                have t35 : IhB33 740 34 = I1 740 34 := (congrFun (congrFun ehB33 740) 34).trans (fup_ne (by first | decide | omega))
                have t36 := fup_at ehB33 35 (by first | rfl | omega)
                have t37 : IhB33 741 12 = I1 741 12 := (congrFun (congrFun ehB33 741) 12).trans (fup_ne (by first | decide | omega))
                have k38 := fBz_eq hB33 (a := 741) (j := 12) (by decide +kernel)
                refine And.intro ⟨rfl, by decide, by decide⟩ (fgetf fb_740_35 h0 hB33 ?_)
                intro z39 lz39 uz39 qz39
                refine And.intro (by first | exact fi_ lz39 uz39 rfl | omega) (And.intro ?_ ?_)
                · intro c40
                  exact fcutJ (I := IhB33) (j := (jc_M_seek_92ac3_59 x1 x2 x3 x4 x5 I)) (lv' := [(0, .inr (.inr (some 740))), (1, .inl _), (2, .inl _), (3, .inl _), (4, .inl _), (5, .inl _), (6, .inl _)]) (And.intro rfl (And.intro rfl (And.intro rfl (And.intro rfl (And.intro rfl (And.intro rfl (And.intro rfl True.intro))))))) ⟨_, _, _, _, _, _, rfl, rfl, ⟨by omega, (fun p s hp hs => by have hq := (hx0 p s hp hs).1; first | exact nf_skQ (qo_no (hx0 p s hp hs) (fun q => by have q1 := q.1; omega)) (by omega) (by omega) | exact nf_skQ (qo_no (hx0 p s hp hs) (fun q => by have q2 := q.2; omega)) (by omega) (by omega) | exact nf_skQ (qo_spent (hx0 p s hp hs) (by omega) (by omega) ⟨by omega, by omega⟩ rfl ehB33) (by omega) (by omega) | exact nf_skQ (qo_rec (hx0 p s hp hs) (by omega) (by omega) ⟨by omega, by omega⟩ (g0nil0 (sUp p x2.toNat ((y6.toNat : Nat) : Int)) _ (path_uq ehB33 enil0 enil0 (fun i hi => (hx1 i hi).trans (hp i hi)) (by omega) rfl (by omega)) (qo_in (hx0 p s hp hs) (by omega) (by omega) rfl (by omega) ehB33 enil0 enil0))) (by omega) (by omega) | (exfalso; omega)), (fun i hi => by first | exact (g1nil0 i (by omega)).trans ((fup_other enil0 757 i (Or.inr (by omega))).trans ((fup_other enil0 757 i (Or.inl (by decide))).trans ((fup_other ehB33 757 i (Or.inl (by decide))).trans (hx1 i hi)))) | exact ((fup_other ehB33 757 i (Or.inl (by decide))).trans (hx1 i hi)) | exact hx1 i hi | (exfalso; omega))⟩, rfl⟩ (by omega)
                · intro c41
                  refine And.intro ⟨rfl, by decide, by decide⟩ (fgetf fb_740_34 h0 hB33 ?_)
                  intro z42 lz42 uz42 qz42
                  intro z43 hz43 ez43 bz43
                  try replace bz43 := bz43 (by omega)
                  refine And.intro ⟨rfl, by decide, by decide⟩ (And.intro rfl (And.intro (Or.inl rfl) (fputf fb_740_34 (by decide +kernel) hW (by omega) ?_)))
                  intro IhB44 ehB44 hB44
                  have t45 : IhB44 740 33 = IhB33 740 33 := (congrFun (congrFun ehB44 740) 33).trans (fup_ne (by first | decide | omega))
                  have t46 := fup_at ehB44 34 (by first | rfl | omega)
                  have t47 : IhB44 740 35 = IhB33 740 35 := (congrFun (congrFun ehB44 740) 35).trans (fup_ne (by first | decide | omega))
                  have t48 : IhB44 741 12 = IhB33 741 12 := (congrFun (congrFun ehB44 741) 12).trans (fup_ne (by first | decide | omega))
                  have k49 := fBz_eq hB44 (a := 741) (j := 12) (by decide +kernel)
                  refine And.intro ⟨rfl, by decide, by decide⟩ ?_
                  refine fstore1 rS_757_757_0_6_1_0 (fzs_sub (by decide +kernel) hW) ⟨by decide, by decide⟩ (by first | exact ⟨Int.le_trans (by decide) hb.2.1.1, Int.le_trans hb.2.1.2 (by decide)⟩ | omega) (by first | exact ⟨hb.2.2.2.2.2.1.1, Int.le_trans (Int.le_sub_one_of_lt (Int.lt_of_lt_of_le c19 uz17)) (by decide)⟩ | omega) ?_
                  intro IhB50 ehB50 hB50
                  have t51 := fup_self ehB50
                  have t52 : IhB50 740 33 = IhB44 740 33 := (congrFun (congrFun ehB50 740) 33).trans (fup_ne (by first | exact Or.inl (by decide) | omega))
                  have t53 : IhB50 740 34 = IhB44 740 34 := (congrFun (congrFun ehB50 740) 34).trans (fup_ne (by first | exact Or.inl (by decide) | omega))
                  have t54 : IhB50 740 35 = IhB44 740 35 := (congrFun (congrFun ehB50 740) 35).trans (fup_ne (by first | exact Or.inl (by decide) | omega))
                  have t55 : IhB50 741 12 = IhB44 741 12 := (congrFun (congrFun ehB50 741) 12).trans (fup_ne (by first | exact Or.inl (by decide) | omega))
                  have k56 := fBz_eq hB50 (a := 741) (j := 12) (by decide +kernel)
                  refine And.intro ⟨rfl, by decide, by decide⟩ ?_
                  refine fload rL_741_741_4370_4388_3_0 h0 hB50 (by omega) ?_
                  intro z57 lz57 uz57 qz57
                  have s4 : ∀ j, IhB50 741 j = I 741 j := fun j => (fup_other ehB50 741 j (Or.inl (by decide))).trans ((fup_other ehB44 741 j (Or.inl (by decide))).trans ((fup_other ehB33 741 j (Or.inl (by decide))).trans (sS j)))
                  have w166 := (fld_at qz57 (4370 + 3 * y6.toNat) (by omega)).trans (s4 _)
                  intro z58 hz58 ez58 bz58
                  have bz58 := bz58 (by omega)
                  intro z59 hz59 ez59
                  intro z60 hz60 ez60
                  refine And.intro (by omega) (And.intro ?_ ?_)
                  · intro c61
                    intro z62 hz62 ez62 bz62
                    try replace bz62 := bz62 (by omega)
                    refine Exists.intro xm_483 (And.intro mi_483 (And.intro ⟨rfl, rfl, rfl, rfl⟩ (And.intro rfl ?_)))
                    refine fcall _ h0 (fzs_sub (by decide +kernel) hW) hB50 (ct_M_seek_6e4c8 (fBz h0 hB50) (by first | exact ⟨hb.1.1, hb.1.2⟩ | omega) (by omega) (by omega) (by omega) (by omega) (by omega) (by omega) (by omega)) ?_
                    rintro IhB64 _ hB64 fhB64 ⟨rfl, hz63, g0z63, g1z63⟩
                    have t65 := fhB64 741 12 (by decide +kernel)
                    have k66 := fBz_eq hB64 (a := 741) (j := 12) (by decide +kernel)
                    have wd := sDn_of hz60 (by omega) ez59 ez60
                    have we : z58 = x4 + I 741 (4370 + 3 * y6.toNat) := by omega
                    have ws : z62 = x5 + sMo x1 (x4 + I 741 (4370 + 3 * y6.toNat)) (I 741 (4371 + 3 * y6.toNat)) := by first | (have q := mo_of (span := x1) (e := x4 + I 741 (4370 + 3 * y6.toNat)) w204 (by omega); rw [w199] at q; omega) | (have q : sMo x1 (x4 + I 741 (4370 + 3 * y6.toNat)) (I 741 (4371 + 3 * y6.toNat)) = 0 := if_pos (by omega); omega)
                    simp only [s4] at g0z63
                    rw [wd, we, ws, show (x2 + ((1 : Nat) : Int)).toNat = x2.toNat + 1 by omega] at g0z63
                    exact fcutJ (I := IhB64) (j := (jc_M_seek_92ac3_59 x1 x2 x3 x4 x5 I)) (lv' := [(0, .inr (.inr (some 740))), (1, .inl _), (2, .inl _), (3, .inl _), (4, .inl _), (5, .inl _), (6, .inl _)]) (And.intro rfl (And.intro rfl (And.intro rfl (And.intro rfl (And.intro rfl (And.intro rfl (And.intro rfl True.intro))))))) ⟨_, _, _, _, _, _, rfl, rfl, ⟨by omega, (fun p s hp hs => by have hq := (hx0 p s hp hs).1; first | exact nf_skQ (qo_no (hx0 p s hp hs) (fun q => by have q1 := q.1; omega)) (by omega) (by omega) | exact nf_skQ (qo_no (hx0 p s hp hs) (fun q => by have q2 := q.2; omega)) (by omega) (by omega) | exact nf_skQ (qo_spent (hx0 p s hp hs) (by omega) (by omega) ⟨by omega, by omega⟩ rfl ehB33) (by omega) (by omega) | exact nf_skQ (qo_rec (hx0 p s hp hs) (by omega) (by omega) ⟨by omega, by omega⟩ (g0z63 (sUp p x2.toNat ((y6.toNat : Nat) : Int)) _ (path_uq ehB33 ehB44 ehB50 (fun i hi => (hx1 i hi).trans (hp i hi)) (by omega) rfl (by omega)) (qo_in (hx0 p s hp hs) (by omega) (by omega) rfl (by omega) ehB33 ehB44 ehB50))) (by omega) (by omega) | (exfalso; omega)), (fun i hi => by first | exact (g1z63 i (by omega)).trans ((fup_other ehB50 757 i (Or.inr (by omega))).trans ((fup_other ehB44 757 i (Or.inl (by decide))).trans ((fup_other ehB33 757 i (Or.inl (by decide))).trans (hx1 i hi)))) | exact ((fup_other ehB33 757 i (Or.inl (by decide))).trans (hx1 i hi)) | exact hx1 i hi | (exfalso; omega))⟩, rfl⟩ (by omega)
                  · intro c67
                    refine And.intro ⟨rfl, by decide, by decide⟩ ?_
                    refine fload rL_741_741_4371_4389_3_0 h0 hB50 (by omega) ?_
                    intro z68 lz68 uz68 qz68
                    have w199 := (fld_at qz68 (4371 + 3 * y6.toNat) (by omega)).trans (s4 _)
                    intro z69 hz69 ez69 bz69
                    have bz69 := bz69 (by omega)
                    intro z70 hz70 ez70 bz70
                    try replace bz70 := bz70 (by omega)
                    have w203 := mul_bd (a := z68) (b := z69) (by omega) (by omega)
                    have w204 : z70 = z68 * z69 := by first | exact bz70 (by omega) | exact bz70
                    intro z71 hz71 ez71 bz71
                    try replace bz71 := bz71 (by omega)
                    refine Exists.intro xm_483 (And.intro mi_483 (And.intro ⟨rfl, rfl, rfl, rfl⟩ (And.intro rfl ?_)))
                    refine fcall _ h0 (fzs_sub (by decide +kernel) hW) hB50 (ct_M_seek_6e4c8 (fBz h0 hB50) (by first | exact ⟨hb.1.1, hb.1.2⟩ | omega) (by omega) (by omega) (by omega) (by omega) (by omega) (by omega) (by omega)) ?_
                    rintro IhB73 _ hB73 fhB73 ⟨rfl, hz72, g0z72, g1z72⟩
                    have t74 := fhB73 741 12 (by decide +kernel)
                    have k75 := fBz_eq hB73 (a := 741) (j := 12) (by decide +kernel)
                    have wd := sDn_of hz60 (by omega) ez59 ez60
                    have we : z58 = x4 + I 741 (4370 + 3 * y6.toNat) := by omega
                    have ws : z71 = x5 + sMo x1 (x4 + I 741 (4370 + 3 * y6.toNat)) (I 741 (4371 + 3 * y6.toNat)) := by first | (have q := mo_of (span := x1) (e := x4 + I 741 (4370 + 3 * y6.toNat)) w204 (by omega); rw [w199] at q; omega) | (have q : sMo x1 (x4 + I 741 (4370 + 3 * y6.toNat)) (I 741 (4371 + 3 * y6.toNat)) = 0 := if_pos (by omega); omega)
                    simp only [s4] at g0z72
                    rw [wd, we, ws, show (x2 + ((1 : Nat) : Int)).toNat = x2.toNat + 1 by omega] at g0z72
                    exact fcutJ (I := IhB73) (j := (jc_M_seek_92ac3_59 x1 x2 x3 x4 x5 I)) (lv' := [(0, .inr (.inr (some 740))), (1, .inl _), (2, .inl _), (3, .inl _), (4, .inl _), (5, .inl _), (6, .inl _)]) (And.intro rfl (And.intro rfl (And.intro rfl (And.intro rfl (And.intro rfl (And.intro rfl (And.intro rfl True.intro))))))) ⟨_, _, _, _, _, _, rfl, rfl, ⟨by omega, (fun p s hp hs => by have hq := (hx0 p s hp hs).1; first | exact nf_skQ (qo_no (hx0 p s hp hs) (fun q => by have q1 := q.1; omega)) (by omega) (by omega) | exact nf_skQ (qo_no (hx0 p s hp hs) (fun q => by have q2 := q.2; omega)) (by omega) (by omega) | exact nf_skQ (qo_spent (hx0 p s hp hs) (by omega) (by omega) ⟨by omega, by omega⟩ rfl ehB33) (by omega) (by omega) | exact nf_skQ (qo_rec (hx0 p s hp hs) (by omega) (by omega) ⟨by omega, by omega⟩ (g0z72 (sUp p x2.toNat ((y6.toNat : Nat) : Int)) _ (path_uq ehB33 ehB44 ehB50 (fun i hi => (hx1 i hi).trans (hp i hi)) (by omega) rfl (by omega)) (qo_in (hx0 p s hp hs) (by omega) (by omega) rfl (by omega) ehB33 ehB44 ehB50))) (by omega) (by omega) | (exfalso; omega)), (fun i hi => by first | exact (g1z72 i (by omega)).trans ((fup_other ehB50 757 i (Or.inr (by omega))).trans ((fup_other ehB44 757 i (Or.inl (by decide))).trans ((fup_other ehB33 757 i (Or.inl (by decide))).trans (hx1 i hi)))) | exact ((fup_other ehB33 757 i (Or.inl (by decide))).trans (hx1 i hi)) | exact hx1 i hi | (exfalso; omega))⟩, rfl⟩ (by omega)
              · intro c76
                refine And.intro ⟨rfl, by decide, by decide⟩ (And.intro rfl (And.intro (Or.inr ⟨rfl, by decide, by decide⟩) (fputf fb_740_35 (by decide +kernel) hW (by first | exact ⟨by decide, by decide⟩ | omega) ?_)))
                intro IhB77 ehB77 hB77
                have t78 : IhB77 740 33 = I1 740 33 := (congrFun (congrFun ehB77 740) 33).trans (fup_ne (by first | decide | omega))
                have t79 : IhB77 740 34 = I1 740 34 := (congrFun (congrFun ehB77 740) 34).trans (fup_ne (by first | decide | omega))
                have t80 := fup_at ehB77 35 (by first | rfl | omega)
                have t81 : IhB77 741 12 = I1 741 12 := (congrFun (congrFun ehB77 741) 12).trans (fup_ne (by first | decide | omega))
                have k82 := fBz_eq hB77 (a := 741) (j := 12) (by decide +kernel)
                refine And.intro ⟨rfl, by decide, by decide⟩ (fgetf fb_740_35 h0 hB77 ?_)
                intro z83 lz83 uz83 qz83
                refine And.intro (by first | exact fi_ lz83 uz83 rfl | omega) (And.intro ?_ ?_)
                · intro c84
                  exact fcutJ (I := IhB77) (j := (jc_M_seek_92ac3_59 x1 x2 x3 x4 x5 I)) (lv' := [(0, .inr (.inr (some 740))), (1, .inl _), (2, .inl _), (3, .inl _), (4, .inl _), (5, .inl _), (6, .inl _)]) (And.intro rfl (And.intro rfl (And.intro rfl (And.intro rfl (And.intro rfl (And.intro rfl (And.intro rfl True.intro))))))) ⟨_, _, _, _, _, _, rfl, rfl, ⟨by omega, (fun p s hp hs => by have hq := (hx0 p s hp hs).1; first | exact nf_skQ (qo_no (hx0 p s hp hs) (fun q => by have q1 := q.1; omega)) (by omega) (by omega) | exact nf_skQ (qo_no (hx0 p s hp hs) (fun q => by have q2 := q.2; omega)) (by omega) (by omega) | exact nf_skQ (qo_spent (hx0 p s hp hs) (by omega) (by omega) ⟨by omega, by omega⟩ rfl ehB77) (by omega) (by omega) | exact nf_skQ (qo_rec (hx0 p s hp hs) (by omega) (by omega) ⟨by omega, by omega⟩ (g0z72 (sUp p x2.toNat ((y6.toNat : Nat) : Int)) _ (path_uq ehB77 ehB44 ehB50 (fun i hi => (hx1 i hi).trans (hp i hi)) (by omega) rfl (by omega)) (qo_in (hx0 p s hp hs) (by omega) (by omega) rfl (by omega) ehB77 ehB44 ehB50))) (by omega) (by omega) | (exfalso; omega)), (fun i hi => by first | exact (g1z72 i (by omega)).trans ((fup_other ehB50 757 i (Or.inr (by omega))).trans ((fup_other ehB44 757 i (Or.inl (by decide))).trans ((fup_other ehB77 757 i (Or.inl (by decide))).trans (hx1 i hi)))) | exact ((fup_other ehB77 757 i (Or.inl (by decide))).trans (hx1 i hi)) | exact hx1 i hi | (exfalso; omega))⟩, rfl⟩ (by omega)
                · intro c85
                  refine And.intro ⟨rfl, by decide, by decide⟩ (fgetf fb_740_34 h0 hB77 ?_)
                  intro z86 lz86 uz86 qz86
                  intro z87 hz87 ez87 bz87
                  try replace bz87 := bz87 (by omega)
                  refine And.intro ⟨rfl, by decide, by decide⟩ (And.intro rfl (And.intro (Or.inl rfl) (fputf fb_740_34 (by decide +kernel) hW (by omega) ?_)))
                  intro IhB88 ehB88 hB88
                  have t89 : IhB88 740 33 = IhB77 740 33 := (congrFun (congrFun ehB88 740) 33).trans (fup_ne (by first | decide | omega))
                  have t90 := fup_at ehB88 34 (by first | rfl | omega)
                  have t91 : IhB88 740 35 = IhB77 740 35 := (congrFun (congrFun ehB88 740) 35).trans (fup_ne (by first | decide | omega))
                  have t92 : IhB88 741 12 = IhB77 741 12 := (congrFun (congrFun ehB88 741) 12).trans (fup_ne (by first | decide | omega))
                  have k93 := fBz_eq hB88 (a := 741) (j := 12) (by decide +kernel)
                  refine And.intro ⟨rfl, by decide, by decide⟩ ?_
                  refine fstore1 rS_757_757_0_6_1_0 (fzs_sub (by decide +kernel) hW) ⟨by decide, by decide⟩ (by first | exact ⟨Int.le_trans (by decide) hb.2.1.1, Int.le_trans hb.2.1.2 (by decide)⟩ | omega) (by first | exact ⟨hb.2.2.2.2.2.1.1, Int.le_trans (Int.le_sub_one_of_lt (Int.lt_of_lt_of_le c19 uz17)) (by decide)⟩ | omega) ?_
                  intro IhB94 ehB94 hB94
                  have t95 := fup_self ehB94
                  have t96 : IhB94 740 33 = IhB88 740 33 := (congrFun (congrFun ehB94 740) 33).trans (fup_ne (by first | exact Or.inl (by decide) | omega))
                  have t97 : IhB94 740 34 = IhB88 740 34 := (congrFun (congrFun ehB94 740) 34).trans (fup_ne (by first | exact Or.inl (by decide) | omega))
                  have t98 : IhB94 740 35 = IhB88 740 35 := (congrFun (congrFun ehB94 740) 35).trans (fup_ne (by first | exact Or.inl (by decide) | omega))
                  have t99 : IhB94 741 12 = IhB88 741 12 := (congrFun (congrFun ehB94 741) 12).trans (fup_ne (by first | exact Or.inl (by decide) | omega))
                  have k100 := fBz_eq hB94 (a := 741) (j := 12) (by decide +kernel)
                  refine And.intro ⟨rfl, by decide, by decide⟩ ?_
                  refine fload rL_741_741_4370_4388_3_0 h0 hB94 (by omega) ?_
                  intro z101 lz101 uz101 qz101
                  have s4 : ∀ j, IhB94 741 j = I 741 j := fun j => (fup_other ehB94 741 j (Or.inl (by decide))).trans ((fup_other ehB88 741 j (Or.inl (by decide))).trans ((fup_other ehB77 741 j (Or.inl (by decide))).trans (sS j)))
                  have w166 := (fld_at qz101 (4370 + 3 * y6.toNat) (by omega)).trans (s4 _)
                  intro z102 hz102 ez102 bz102
                  have bz102 := bz102 (by omega)
                  intro z103 hz103 ez103
                  intro z104 hz104 ez104
                  refine And.intro (by omega) (And.intro ?_ ?_)
                  · intro c105
                    intro z106 hz106 ez106 bz106
                    try replace bz106 := bz106 (by omega)
                    refine Exists.intro xm_483 (And.intro mi_483 (And.intro ⟨rfl, rfl, rfl, rfl⟩ (And.intro rfl ?_)))
                    refine fcall _ h0 (fzs_sub (by decide +kernel) hW) hB94 (ct_M_seek_6e4c8 (fBz h0 hB94) (by first | exact ⟨hb.1.1, hb.1.2⟩ | omega) (by omega) (by omega) (by omega) (by omega) (by omega) (by omega) (by omega)) ?_
                    rintro IhB108 _ hB108 fhB108 ⟨rfl, hz107, g0z107, g1z107⟩
                    have t109 := fhB108 741 12 (by decide +kernel)
                    have k110 := fBz_eq hB108 (a := 741) (j := 12) (by decide +kernel)
                    have wd := sDn_of hz104 (by omega) ez103 ez104
                    have we : z102 = x4 + I 741 (4370 + 3 * y6.toNat) := by omega
                    have ws : z106 = x5 + sMo x1 (x4 + I 741 (4370 + 3 * y6.toNat)) (I 741 (4371 + 3 * y6.toNat)) := by first | (have q := mo_of (span := x1) (e := x4 + I 741 (4370 + 3 * y6.toNat)) w204 (by omega); rw [w199] at q; omega) | (have q : sMo x1 (x4 + I 741 (4370 + 3 * y6.toNat)) (I 741 (4371 + 3 * y6.toNat)) = 0 := if_pos (by omega); omega)
                    simp only [s4] at g0z107
                    rw [wd, we, ws, show (x2 + ((1 : Nat) : Int)).toNat = x2.toNat + 1 by omega] at g0z107
                    exact fcutJ (I := IhB108) (j := (jc_M_seek_92ac3_59 x1 x2 x3 x4 x5 I)) (lv' := [(0, .inr (.inr (some 740))), (1, .inl _), (2, .inl _), (3, .inl _), (4, .inl _), (5, .inl _), (6, .inl _)]) (And.intro rfl (And.intro rfl (And.intro rfl (And.intro rfl (And.intro rfl (And.intro rfl (And.intro rfl True.intro))))))) ⟨_, _, _, _, _, _, rfl, rfl, ⟨by omega, (fun p s hp hs => by have hq := (hx0 p s hp hs).1; first | exact nf_skQ (qo_no (hx0 p s hp hs) (fun q => by have q1 := q.1; omega)) (by omega) (by omega) | exact nf_skQ (qo_no (hx0 p s hp hs) (fun q => by have q2 := q.2; omega)) (by omega) (by omega) | exact nf_skQ (qo_spent (hx0 p s hp hs) (by omega) (by omega) ⟨by omega, by omega⟩ rfl ehB77) (by omega) (by omega) | exact nf_skQ (qo_rec (hx0 p s hp hs) (by omega) (by omega) ⟨by omega, by omega⟩ (g0z107 (sUp p x2.toNat ((y6.toNat : Nat) : Int)) _ (path_uq ehB77 ehB88 ehB94 (fun i hi => (hx1 i hi).trans (hp i hi)) (by omega) rfl (by omega)) (qo_in (hx0 p s hp hs) (by omega) (by omega) rfl (by omega) ehB77 ehB88 ehB94))) (by omega) (by omega) | (exfalso; omega)), (fun i hi => by first | exact (g1z107 i (by omega)).trans ((fup_other ehB94 757 i (Or.inr (by omega))).trans ((fup_other ehB88 757 i (Or.inl (by decide))).trans ((fup_other ehB77 757 i (Or.inl (by decide))).trans (hx1 i hi)))) | exact ((fup_other ehB77 757 i (Or.inl (by decide))).trans (hx1 i hi)) | exact hx1 i hi | (exfalso; omega))⟩, rfl⟩ (by omega)
                  · intro c111
                    refine And.intro ⟨rfl, by decide, by decide⟩ ?_
                    refine fload rL_741_741_4371_4389_3_0 h0 hB94 (by omega) ?_
                    intro z112 lz112 uz112 qz112
                    have w199 := (fld_at qz112 (4371 + 3 * y6.toNat) (by omega)).trans (s4 _)
                    intro z113 hz113 ez113 bz113
                    have bz113 := bz113 (by omega)
                    intro z114 hz114 ez114 bz114
                    try replace bz114 := bz114 (by omega)
                    have w203 := mul_bd (a := z112) (b := z113) (by omega) (by omega)
                    have w204 : z114 = z112 * z113 := by first | exact bz114 (by omega) | exact bz114
                    intro z115 hz115 ez115 bz115
                    try replace bz115 := bz115 (by omega)
                    refine Exists.intro xm_483 (And.intro mi_483 (And.intro ⟨rfl, rfl, rfl, rfl⟩ (And.intro rfl ?_)))
                    refine fcall _ h0 (fzs_sub (by decide +kernel) hW) hB94 (ct_M_seek_6e4c8 (fBz h0 hB94) (by first | exact ⟨hb.1.1, hb.1.2⟩ | omega) (by omega) (by omega) (by omega) (by omega) (by omega) (by omega) (by omega)) ?_
                    rintro IhB117 _ hB117 fhB117 ⟨rfl, hz116, g0z116, g1z116⟩
                    have t118 := fhB117 741 12 (by decide +kernel)
                    have k119 := fBz_eq hB117 (a := 741) (j := 12) (by decide +kernel)
                    have wd := sDn_of hz104 (by omega) ez103 ez104
                    have we : z102 = x4 + I 741 (4370 + 3 * y6.toNat) := by omega
                    have ws : z115 = x5 + sMo x1 (x4 + I 741 (4370 + 3 * y6.toNat)) (I 741 (4371 + 3 * y6.toNat)) := by first | (have q := mo_of (span := x1) (e := x4 + I 741 (4370 + 3 * y6.toNat)) w204 (by omega); rw [w199] at q; omega) | (have q : sMo x1 (x4 + I 741 (4370 + 3 * y6.toNat)) (I 741 (4371 + 3 * y6.toNat)) = 0 := if_pos (by omega); omega)
                    simp only [s4] at g0z116
                    rw [wd, we, ws, show (x2 + ((1 : Nat) : Int)).toNat = x2.toNat + 1 by omega] at g0z116
                    exact fcutJ (I := IhB117) (j := (jc_M_seek_92ac3_59 x1 x2 x3 x4 x5 I)) (lv' := [(0, .inr (.inr (some 740))), (1, .inl _), (2, .inl _), (3, .inl _), (4, .inl _), (5, .inl _), (6, .inl _)]) (And.intro rfl (And.intro rfl (And.intro rfl (And.intro rfl (And.intro rfl (And.intro rfl (And.intro rfl True.intro))))))) ⟨_, _, _, _, _, _, rfl, rfl, ⟨by omega, (fun p s hp hs => by have hq := (hx0 p s hp hs).1; first | exact nf_skQ (qo_no (hx0 p s hp hs) (fun q => by have q1 := q.1; omega)) (by omega) (by omega) | exact nf_skQ (qo_no (hx0 p s hp hs) (fun q => by have q2 := q.2; omega)) (by omega) (by omega) | exact nf_skQ (qo_spent (hx0 p s hp hs) (by omega) (by omega) ⟨by omega, by omega⟩ rfl ehB77) (by omega) (by omega) | exact nf_skQ (qo_rec (hx0 p s hp hs) (by omega) (by omega) ⟨by omega, by omega⟩ (g0z116 (sUp p x2.toNat ((y6.toNat : Nat) : Int)) _ (path_uq ehB77 ehB88 ehB94 (fun i hi => (hx1 i hi).trans (hp i hi)) (by omega) rfl (by omega)) (qo_in (hx0 p s hp hs) (by omega) (by omega) rfl (by omega) ehB77 ehB88 ehB94))) (by omega) (by omega) | (exfalso; omega)), (fun i hi => by first | exact (g1z116 i (by omega)).trans ((fup_other ehB94 757 i (Or.inr (by omega))).trans ((fup_other ehB88 757 i (Or.inl (by decide))).trans ((fup_other ehB77 757 i (Or.inl (by decide))).trans (hx1 i hi)))) | exact ((fup_other ehB77 757 i (Or.inl (by decide))).trans (hx1 i hi)) | exact hx1 i hi | (exfalso; omega))⟩, rfl⟩ (by omega)
            · intro c120
              exact fcutJ (I := I1) (j := (jc_M_seek_92ac3_59 x1 x2 x3 x4 x5 I)) (lv' := [(0, .inr (.inr (some 740))), (1, .inl _), (2, .inl _), (3, .inl _), (4, .inl _), (5, .inl _), (6, .inl _)]) (And.intro rfl (And.intro rfl (And.intro rfl (And.intro rfl (And.intro rfl (And.intro rfl (And.intro rfl True.intro))))))) ⟨_, _, _, _, _, _, rfl, rfl, ⟨by omega, (fun p s hp hs => by have hq := (hx0 p s hp hs).1; first | exact nf_skQ (qo_no (hx0 p s hp hs) (fun q => by have q1 := q.1; omega)) (by omega) (by omega) | exact nf_skQ (qo_no (hx0 p s hp hs) (fun q => by have q2 := q.2; omega)) (by omega) (by omega) | exact nf_skQ (qo_spent (hx0 p s hp hs) (by omega) (by omega) ⟨by omega, by omega⟩ rfl ehB77) (by omega) (by omega) | exact nf_skQ (qo_rec (hx0 p s hp hs) (by omega) (by omega) ⟨by omega, by omega⟩ (g0z116 (sUp p x2.toNat ((y6.toNat : Nat) : Int)) _ (path_uq ehB77 ehB88 ehB94 (fun i hi => (hx1 i hi).trans (hp i hi)) (by omega) rfl (by omega)) (qo_in (hx0 p s hp hs) (by omega) (by omega) rfl (by omega) ehB77 ehB88 ehB94))) (by omega) (by omega) | (exfalso; omega)), (fun i hi => by first | exact (g1z116 i (by omega)).trans ((fup_other ehB94 757 i (Or.inr (by omega))).trans ((fup_other ehB88 757 i (Or.inl (by decide))).trans ((fup_other ehB77 757 i (Or.inl (by decide))).trans (hx1 i hi)))) | exact ((fup_other ehB77 757 i (Or.inl (by decide))).trans (hx1 i hi)) | exact hx1 i hi | (exfalso; omega))⟩, rfl⟩ (by omega)
  · have hB0 := fB_self (zn := znJ) (K := fKc wz_4d25e) h0
    have b121 := fBd fb_741_12 (fBz h0 hB0)
    have b122 := fBd fb_740_35 (fBz h0 hB0)
    refine And.intro ⟨rfl, by decide, by decide⟩ ?_
    refine fload1 rL_741_741_12_12_1_0 h0 hB0 ⟨by decide, by decide⟩ (by first | exact ⟨by decide, by decide⟩ | omega) ?_
    intro z123 lz123 uz123 qz123
    have pz123 := fld_at qz123 12 (by omega)
    refine And.intro (And.intro (by first | exact fi_ ha2.1 ha2.2 rfl | omega) (by first | exact fi_ lz123 uz123 rfl | omega)) (And.intro ?_ ?_)
    · intro c124
      exact fcutJ (I := I) (j := (jc_M_seek_92ac3_59 x1 x2 x3 x4 x5 I)) (lv' := [(0, .inr (.inr (some 740))), (1, .inl _), (2, .inl _), (3, .inl _), (4, .inl _), (5, .inl _), (6, .inl _)]) (And.intro rfl (And.intro rfl (And.intro rfl (And.intro rfl (And.intro rfl (And.intro rfl (And.intro rfl True.intro))))))) ⟨_, _, _, _, _, _, rfl, rfl, ⟨by omega, (fun p s hp hs => hs), (fun i _ => rfl)⟩, rfl⟩ (by omega)
    · intro c125
      refine And.intro ⟨rfl, by decide, by decide⟩ (fgetf fb_740_33 h0 hB0 ?_)
      intro z126 lz126 uz126 qz126
      refine And.intro (And.intro (by first | exact fi_ ha5.1 ha5.2 rfl | omega) (by first | exact fi_ lz126 uz126 rfl | omega)) (And.intro ?_ ?_)
      · intro c127
        exact ⟨rfl, True.intro, (fun p s hp hs => by rw [sk_tk (by omega)]; first | exact tq_yes hs (by omega) (by omega) (fun i hi => hp i (by omega)) (by omega) (by omega) (by omega) (fun i hi => hx0 i (by omega)) | exact tq_yes hs (by omega) (by omega) (fun i hi => hp i (by omega)) (by omega) (by omega) (by omega) (fun i hi => absurd hi (by omega)) | exact tq_no hs (by omega) (by omega)), (by first | exact (fun i _ => hx1 i) | exact (fun i _ => rfl) | exact (fun i _ => fup_other enil0 757 i (Or.inl (by decide))))⟩
      · intro c128
        refine And.intro ⟨rfl, by decide, by decide⟩ (And.intro rfl (And.intro (Or.inl rfl) (fputf fb_740_33 (by decide +kernel) hW (by first | exact ⟨Int.le_trans (by decide) (Int.add_one_le_of_lt (Int.lt_of_le_of_lt lz126 c128)), ha5.2⟩ | omega) ?_)))
        intro IhB129 ehB129 hB129
        have t130 := fup_at ehB129 33 (by first | rfl | omega)
        have t131 : IhB129 740 34 = I 740 34 := (congrFun (congrFun ehB129 740) 34).trans (fup_ne (by first | decide | omega))
        have t132 : IhB129 740 35 = I 740 35 := (congrFun (congrFun ehB129 740) 35).trans (fup_ne (by first | decide | omega))
        have t133 : IhB129 741 12 = I 741 12 := (congrFun (congrFun ehB129 741) 12).trans (fup_ne (by first | decide | omega))
        have k134 := fBz_eq hB129 (a := 741) (j := 12) (by decide +kernel)
        exact fcutJ (I := IhB129) (j := (jc_M_seek_92ac3_29 x2 x5 I)) (lv' := [(0, .inr (.inr (some 740))), (2, .inl _), (6, .inl _)]) (And.intro rfl (And.intro rfl (And.intro rfl True.intro))) ⟨_, _, rfl, rfl, ⟨by omega, (fun i h => absurd h (by omega)), (fun i => fup_other ehB129 757 i (Or.inl (by decide)))⟩, rfl⟩ (by omega)
abbrev jc_M_seek_58809_29 (x2 : Int) (x5 : Int) (I0 : fH) : Nat → fL → List fV → fH → Prop := fun m lv st I => ∃ (y2 : Int) (y6 : Int), lv = [(0, .inr (.inr (some 740))), (2, .inl y2), (6, .inl y6)] ∧ st = [] ∧ (((1 ≤ y2 ∧ y2 ≤ 1) ∧ (0 ≤ y6 ∧ y6 ≤ 1) ∧ ((-2147483647) ≤ I 740 33 ∧ I 740 33 ≤ 2147483647) ∧ (1 ≤ I 741 12 ∧ I 741 12 ≤ 1) ∧ (y2 = x2) ∧ (x2 = I0 741 12) ∧ (I 740 33 = x5) ∧ (I0 740 33 < x5) ∧ (I 740 34 = I0 740 34) ∧ (I 740 35 = I0 740 35) ∧ (y6 ≤ x2)) ∧ (∀ i : Nat, (i : Int) < y6 → I 758 i = I0 757 i) ∧ (∀ i : Nat, I 757 i = I0 757 i)) ∧ m = (9 + 1 * (1 - y6) : Int).toNat
abbrev jc_M_seek_58809_59 (x1 : Int) (x2 : Int) (x3 : Int) (x4 : Int) (x5 : Int) (I0 : fH) : Nat → fL → List fV → fH → Prop := fun m lv st I => ∃ (y1 : Int) (y2 : Int) (y3 : Int) (y4 : Int) (y5 : Int) (y6 : Int), lv = [(0, .inr (.inr (some 740))), (1, .inl y1), (2, .inl y2), (3, .inl y3), (4, .inl y4), (5, .inl y5), (6, .inl y6)] ∧ st = [] ∧ (((1 ≤ y1 ∧ y1 ≤ 60) ∧ (1 ≤ y2 ∧ y2 ≤ 1) ∧ ((-2147483648) ≤ y3 ∧ y3 ≤ 2147483647) ∧ (0 ≤ y4 ∧ y4 ≤ 9) ∧ ((-2147483648) ≤ y5 ∧ y5 ≤ 2147483647) ∧ (0 ≤ y6 ∧ y6 ≤ 7) ∧ (y2 < I 741 12) ∧ (y1 = x1) ∧ (y2 = x2) ∧ (y3 = x3) ∧ (y4 = x4) ∧ (y5 = x5) ∧ (x2 < I0 741 12) ∧ (y6 ≤ I0 741 12)) ∧ (∀ (p : Nat → Int) (s : sSt), (∀ i : Nat, (i : Int) < x2 → I0 757 i = p i) → skQ (I0 741 12).toNat s I0 → skQ (I0 741 12).toNat (nf (sGo (fun b => I0 741 (4370 + 3 * b)) (fun b => I0 741 (4371 + 3 * b)) (fun b => I0 741 (4372 + 3 * b)) x1 (sSk (I0 741 12).toNat (fun b => I0 741 (4370 + 3 * b)) (fun b => I0 741 (4371 + 3 * b)) (fun b => I0 741 (4372 + 3 * b)) x1 5) x2.toNat x3 x4 x5 p) s y6.toNat) I) ∧ (∀ i : Nat, (i : Int) < x2 → I 757 i = I0 757 i)) ∧ m = (1 + 1 * (7 - y6) : Int).toNat
set_option maxRecDepth 8000 in
theorem ct_M_seek_58809 {I : fH} {x1 : Int} {x2 : Int} {x3 : Int} {x4 : Int} {x5 : Int} (h0 : fB bsJ I) (ha1 : (1 ≤ x1 ∧ x1 ≤ 60)) (ha2 : (1 ≤ x2 ∧ x2 ≤ 1)) (ha3 : ((-2147483648) ≤ x3 ∧ x3 ≤ 2147483647)) (ha4 : (0 ≤ x4 ∧ x4 ≤ 9)) (ha5 : ((-2147483648) ≤ x5 ∧ x5 ≤ 2147483647)) (hp0 : x2 = 1) (hp1 : x2 ≤ I 741 12) (hp2 : 0 ≤ x5 ∧ x5 ≤ 5940 * x2) : fC ρ base n F xTc vwCl xTys D dA la gJ (fbz bsJ znJ (fKc wz_4d25e) I) xm_485 [.inr (.inr (some 740)), .inl x1, .inl x2, .inl x3, .inl x4, .inl x5] I (fun I' r => r = none ∧ True ∧ (∀ (p : Nat → Int) (s : sSt), (∀ i : Nat, (i : Int) < x2 → I 757 i = p i) → skQ (I 741 12).toNat s I → skQ (I 741 12).toNat (sSk (I 741 12).toNat (fun b => I 741 (4370 + 3 * b)) (fun b => I 741 (4371 + 3 * b)) (fun b => I 741 (4372 + 3 * b)) x1 6 x2.toNat x3 x4 x5 p s) I') ∧ (∀ i : Nat, (i : Int) < x2 → I' 757 i = I 757 i)) := by
  have hW : fzs wz_4d25e (fKc wz_4d25e) := fKc_ok _
  refine f_meth (rb := rbJ) (J := [(29, (jc_M_seek_58809_29 x2 x5 I)), (59, (jc_M_seek_58809_59 x1 x2 x3 x4 x5 I))]) 11 400 xG xin_485 x6_485 okJ (fB_self h0) ?_ ?_
  · refine List.forall_mem_cons.mpr ⟨?_, List.forall_mem_cons.mpr ⟨?_, fun q h => absurd h List.not_mem_nil⟩⟩
    · rintro m _ _ I1 hB1 ⟨y2, y6, rfl, rfl, ⟨hb, hx0, hx1⟩, hm⟩
      have k1 := fBz_eq hB1 (a := 741) (j := 12) (by decide +kernel)
      have b2 := fBd fb_741_12 (fBz h0 hB1)
      have b3 := fBd fb_740_35 (fBz h0 hB1)
      refine And.intro (And.intro (by first | exact fi_ hb.2.1.1 hb.2.1.2 rfl | omega) (by first | exact fi_ hb.1.1 hb.1.2 rfl | omega)) (And.intro ?_ ?_)
      · intro c4
        exact ⟨rfl, True.intro, (fun p s hp hs => by rw [sk_tk (by omega)]; first | exact tq_yes hs (by omega) (by omega) (fun i hi => hp i (by omega)) (by omega) (by omega) (by omega) (fun i hi => hx0 i (by omega)) | exact tq_yes hs (by omega) (by omega) (fun i hi => hp i (by omega)) (by omega) (by omega) (by omega) (fun i hi => absurd hi (by omega)) | exact tq_no hs (by omega) (by omega)), (by first | exact (fun i _ => hx1 i) | exact (fun i _ => rfl) | exact (fun i _ => fup_other enil0 757 i (Or.inl (by decide))))⟩
      · intro c5
        refine And.intro ⟨rfl, by decide, by decide⟩ ?_
        refine And.intro ⟨rfl, by decide, by decide⟩ ?_
        refine fload1 rL_757_757_0_6_1_0 h0 hB1 ⟨by decide, by decide⟩ (by first | exact ⟨hb.2.1.1, Int.le_trans (Int.le_sub_one_of_lt (Int.lt_of_lt_of_le c5 hb.1.2)) (by decide)⟩ | omega) ?_
        intro z6 lz6 uz6 qz6
        have pz6 := fld_at qz6 0 (by omega)
        refine fstore1 rS_758_758_0_6_1_0 (fzs_sub (by decide +kernel) hW) ⟨by decide, by decide⟩ (by first | exact ⟨hb.2.1.1, Int.le_trans (Int.le_sub_one_of_lt (Int.lt_of_lt_of_le c5 hb.1.2)) (by decide)⟩ | omega) (by first | exact ⟨lz6, uz6⟩ | omega) ?_
        intro IhB7 ehB7 hB7
        have t8 := fup_self ehB7
        have t9 : IhB7 740 33 = I1 740 33 := (congrFun (congrFun ehB7 740) 33).trans (fup_ne (by first | decide | omega))
        have t10 : IhB7 740 34 = I1 740 34 := (congrFun (congrFun ehB7 740) 34).trans (fup_ne (by first | decide | omega))
        have t11 : IhB7 740 35 = I1 740 35 := (congrFun (congrFun ehB7 740) 35).trans (fup_ne (by first | decide | omega))
        have t12 : IhB7 741 12 = I1 741 12 := (congrFun (congrFun ehB7 741) 12).trans (fup_ne (by first | decide | omega))
        have t13 : IhB7 757 0 = I1 757 0 := (congrFun (congrFun ehB7 757) 0).trans (fup_ne (by first | decide | omega))
        have t14 := fup_at ehB7 0 (by first | rfl | omega)
        have k15 := fBz_eq hB7 (a := 741) (j := 12) (by decide +kernel)
        exact fcutJ (I := IhB7) (j := (jc_M_seek_58809_29 x2 x5 I)) (lv' := [(0, .inr (.inr (some 740))), (2, .inl _), (6, .inl _)]) (And.intro rfl (And.intro rfl (And.intro rfl True.intro))) ⟨_, _, rfl, rfl, ⟨by omega, (fun i h => if ei : i = y6.toNat then (by rw [ei]; exact (fup_self ehB7).trans (qz6.trans (hx1 _))) else (fup_other ehB7 758 i (Or.inr ei)).trans (hx0 i (by omega))), (fun i => (fup_other ehB7 757 i (Or.inl (by decide))).trans (hx1 i))⟩, rfl⟩ (by omega)
    · rintro m _ _ I1 hB1 ⟨y1, y2, y3, y4, y5, y6, rfl, rfl, ⟨hb, hx0, hx1⟩, hm⟩
      have k16 := fBz_eq hB1 (a := 741) (j := 12) (by decide +kernel)
      have b17 := fBd fb_741_12 (fBz h0 hB1)
      have b18 := fBd fb_740_35 (fBz h0 hB1)
      have ey1 : x1 = y1 := by omega
      subst ey1
      have ey2 : x2 = y2 := by omega
      subst ey2
      have ey3 : x3 = y3 := by omega
      subst ey3
      have ey4 : x4 = y4 := by omega
      subst ey4
      have ey5 : x5 = y5 := by omega
      subst ey5
      have sS := fFr_S (fFr_of hB1) (by decide +kernel)
      refine And.intro ⟨rfl, by decide, by decide⟩ ?_
      refine fload1 rL_741_741_12_12_1_0 h0 hB1 ⟨by decide, by decide⟩ (by first | exact ⟨by decide, by decide⟩ | omega) ?_
      intro z19 lz19 uz19 qz19
      have pz19 := fld_at qz19 12 (by omega)
      refine And.intro (And.intro (by first | exact fi_ hb.2.2.2.2.2.1.1 hb.2.2.2.2.2.1.2 rfl | omega) (by first | exact fi_ lz19 uz19 rfl | omega)) (And.intro ?_ ?_)
      · intro c20
        exact ⟨rfl, True.intro, (fun p s hp hs => by first | (exfalso; omega) | (rw [sk_go (by omega)]; exact sq_end (hx0 p s hp hs) (by omega) (by omega))), hx1⟩
      · intro c21
        refine And.intro ⟨rfl, by decide, by decide⟩ (fgetf fb_740_35 h0 hB1 ?_)
        intro z22 lz22 uz22 qz22
        refine And.intro (by first | exact fi_ lz22 uz22 rfl | omega) (And.intro ?_ ?_)
        · intro c23
          exact ⟨rfl, True.intro, (fun p s hp hs => by first | (exfalso; omega) | (rw [sk_go (by omega)]; exact sq_end (hx0 p s hp hs) (by omega) (by omega))), hx1⟩
        · intro c24
          intro z25 hz25 ez25
          intro z26 hz26 ez26 bz26
          have bz26 := bz26 (by omega)
          have wb := bt_of hz26 ez25 ez26 (by omega)
          refine And.intro (And.intro (by first | exact fi_ bz26.1 bz26.2 rfl | omega) (by first | exact ⟨by decide, by decide⟩ | omega)) (And.intro ?_ ?_)
          · intro c27
            exact fcutJ (I := I1) (j := (jc_M_seek_58809_59 x1 x2 x3 x4 x5 I)) (lv' := [(0, .inr (.inr (some 740))), (1, .inl _), (2, .inl _), (3, .inl _), (4, .inl _), (5, .inl _), (6, .inl _)]) (And.intro rfl (And.intro rfl (And.intro rfl (And.intro rfl (And.intro rfl (And.intro rfl (And.intro rfl True.intro))))))) ⟨_, _, _, _, _, _, rfl, rfl, ⟨by omega, (fun p s hp hs => by have hq := (hx0 p s hp hs).1; first | exact nf_skQ (qo_no (hx0 p s hp hs) (fun q => by have q1 := q.1; omega)) (by omega) (by omega) | exact nf_skQ (qo_no (hx0 p s hp hs) (fun q => by have q2 := q.2; omega)) (by omega) (by omega) | exact nf_skQ (qo_spent (hx0 p s hp hs) (by omega) (by omega) ⟨by omega, by omega⟩ rfl enil0) (by omega) (by omega) | exact nf_skQ (qo_rec (hx0 p s hp hs) (by omega) (by omega) ⟨by omega, by omega⟩ (g0nil0 (sUp p x2.toNat ((y6.toNat : Nat) : Int)) _ (path_uq enil0 enil0 enil0 (fun i hi => (hx1 i hi).trans (hp i hi)) (by omega) rfl (by omega)) (qo_in (hx0 p s hp hs) (by omega) (by omega) rfl (by omega) enil0 enil0 enil0))) (by omega) (by omega) | (exfalso; omega)), (fun i hi => by first | exact (g1nil0 i (by omega)).trans ((fup_other enil0 757 i (Or.inr (by omega))).trans ((fup_other enil0 757 i (Or.inl (by decide))).trans ((fup_other enil0 757 i (Or.inl (by decide))).trans (hx1 i hi)))) | exact ((fup_other enil0 757 i (Or.inl (by decide))).trans (hx1 i hi)) | exact hx1 i hi | (exfalso; omega))⟩, rfl⟩ (by omega)
          · intro c28
            refine And.intro ⟨rfl, by decide, by decide⟩ ?_
            refine fload rL_741_741_4372_4390_3_0 h0 hB1 (by omega) ?_
            intro z29 lz29 uz29 qz29
            intro z30 hz30 ez30
            intro z31 hz31 ez31 bz31
            clear bz31
            have wa := sAh_of hz31 ez30 ez31
            rw [fld_at qz29 (4372 + 3 * y6.toNat) (by omega), sS] at wa
            refine And.intro (by omega) (And.intro ?_ ?_)
            · intro c32
              refine And.intro ⟨rfl, by decide, by decide⟩ (fgetf fb_740_34 h0 hB1 ?_)
              intro z33 lz33 uz33 qz33
              refine And.intro (by first | exact fi_ lz33 uz33 rfl | omega) (And.intro ?_ ?_)
              · intro c34
                refine And.intro ⟨rfl, by decide, by decide⟩ (And.intro rfl (And.intro (Or.inr ⟨rfl, by omega⟩) (fputf fb_740_35 (by decide +kernel) hW (by omega) ?_)))
                intro IhB35 ehB35 hB35
                have t36 : IhB35 740 33 = I1 740 33 := (congrFun (congrFun ehB35 740) 33).trans (fup_ne (by first | decide | omega))
                have t37 : IhB35 740 34 = I1 740 34 := (congrFun (congrFun ehB35 740) 34).trans (fup_ne (by first | decide | omega))
                have t38 := fup_at ehB35 35 (by first | rfl | omega)
                have t39 : IhB35 741 12 = I1 741 12 := (congrFun (congrFun ehB35 741) 12).trans (fup_ne (by first | decide | omega))
                have k40 := fBz_eq hB35 (a := 741) (j := 12) (by decide +kernel)
                refine And.intro ⟨rfl, by decide, by decide⟩ (fgetf fb_740_35 h0 hB35 ?_)
                intro z41 lz41 uz41 qz41
                refine And.intro (by first | exact fi_ lz41 uz41 rfl | omega) (And.intro ?_ ?_)
                · intro c42
                  exact fcutJ (I := IhB35) (j := (jc_M_seek_58809_59 x1 x2 x3 x4 x5 I)) (lv' := [(0, .inr (.inr (some 740))), (1, .inl _), (2, .inl _), (3, .inl _), (4, .inl _), (5, .inl _), (6, .inl _)]) (And.intro rfl (And.intro rfl (And.intro rfl (And.intro rfl (And.intro rfl (And.intro rfl (And.intro rfl True.intro))))))) ⟨_, _, _, _, _, _, rfl, rfl, ⟨by omega, (fun p s hp hs => by have hq := (hx0 p s hp hs).1; first | exact nf_skQ (qo_no (hx0 p s hp hs) (fun q => by have q1 := q.1; omega)) (by omega) (by omega) | exact nf_skQ (qo_no (hx0 p s hp hs) (fun q => by have q2 := q.2; omega)) (by omega) (by omega) | exact nf_skQ (qo_spent (hx0 p s hp hs) (by omega) (by omega) ⟨by omega, by omega⟩ rfl ehB35) (by omega) (by omega) | exact nf_skQ (qo_rec (hx0 p s hp hs) (by omega) (by omega) ⟨by omega, by omega⟩ (g0nil0 (sUp p x2.toNat ((y6.toNat : Nat) : Int)) _ (path_uq ehB35 enil0 enil0 (fun i hi => (hx1 i hi).trans (hp i hi)) (by omega) rfl (by omega)) (qo_in (hx0 p s hp hs) (by omega) (by omega) rfl (by omega) ehB35 enil0 enil0))) (by omega) (by omega) | (exfalso; omega)), (fun i hi => by first | exact (g1nil0 i (by omega)).trans ((fup_other enil0 757 i (Or.inr (by omega))).trans ((fup_other enil0 757 i (Or.inl (by decide))).trans ((fup_other ehB35 757 i (Or.inl (by decide))).trans (hx1 i hi)))) | exact ((fup_other ehB35 757 i (Or.inl (by decide))).trans (hx1 i hi)) | exact hx1 i hi | (exfalso; omega))⟩, rfl⟩ (by omega)
                · intro c43
                  refine And.intro ⟨rfl, by decide, by decide⟩ (fgetf fb_740_34 h0 hB35 ?_)
                  intro z44 lz44 uz44 qz44
                  intro z45 hz45 ez45 bz45
                  try replace bz45 := bz45 (by omega)
                  refine And.intro ⟨rfl, by decide, by decide⟩ (And.intro rfl (And.intro (Or.inl rfl) (fputf fb_740_34 (by decide +kernel) hW (by omega) ?_)))
                  intro IhB46 ehB46 hB46
                  have t47 : IhB46 740 33 = IhB35 740 33 := (congrFun (congrFun ehB46 740) 33).trans (fup_ne (by first | decide | omega))
                  have t48 := fup_at ehB46 34 (by first | rfl | omega)
                  have t49 : IhB46 740 35 = IhB35 740 35 := (congrFun (congrFun ehB46 740) 35).trans (fup_ne (by first | decide | omega))
                  have t50 : IhB46 741 12 = IhB35 741 12 := (congrFun (congrFun ehB46 741) 12).trans (fup_ne (by first | decide | omega))
                  have k51 := fBz_eq hB46 (a := 741) (j := 12) (by decide +kernel)
                  refine And.intro ⟨rfl, by decide, by decide⟩ ?_
                  refine fstore1 rS_757_757_0_6_1_0 (fzs_sub (by decide +kernel) hW) ⟨by decide, by decide⟩ (by first | exact ⟨Int.le_trans (by decide) hb.2.1.1, Int.le_trans hb.2.1.2 (by decide)⟩ | omega) (by first | exact ⟨hb.2.2.2.2.2.1.1, Int.le_trans (Int.le_sub_one_of_lt (Int.lt_of_lt_of_le c21 uz19)) (by decide)⟩ | omega) ?_
                  intro IhB52 ehB52 hB52
                  have t53 := fup_self ehB52
                  have t54 : IhB52 740 33 = IhB46 740 33 := (congrFun (congrFun ehB52 740) 33).trans (fup_ne (by first | exact Or.inl (by decide) | omega))
                  have t55 : IhB52 740 34 = IhB46 740 34 := (congrFun (congrFun ehB52 740) 34).trans (fup_ne (by first | exact Or.inl (by decide) | omega))
                  have t56 : IhB52 740 35 = IhB46 740 35 := (congrFun (congrFun ehB52 740) 35).trans (fup_ne (by first | exact Or.inl (by decide) | omega))
                  have t57 : IhB52 741 12 = IhB46 741 12 := (congrFun (congrFun ehB52 741) 12).trans (fup_ne (by first | exact Or.inl (by decide) | omega))
                  have k58 := fBz_eq hB52 (a := 741) (j := 12) (by decide +kernel)
                  refine And.intro ⟨rfl, by decide, by decide⟩ ?_
                  refine fload rL_741_741_4370_4388_3_0 h0 hB52 (by omega) ?_
                  intro z59 lz59 uz59 qz59
                  have s4 : ∀ j, IhB52 741 j = I 741 j := fun j => (fup_other ehB52 741 j (Or.inl (by decide))).trans ((fup_other ehB46 741 j (Or.inl (by decide))).trans ((fup_other ehB35 741 j (Or.inl (by decide))).trans (sS j)))
                  have w166 := (fld_at qz59 (4370 + 3 * y6.toNat) (by omega)).trans (s4 _)
                  intro z60 hz60 ez60 bz60
                  have bz60 := bz60 (by omega)
                  intro z61 hz61 ez61
                  intro z62 hz62 ez62
                  refine And.intro (by omega) (And.intro ?_ ?_)
                  · intro c63
                    intro z64 hz64 ez64 bz64
                    try replace bz64 := bz64 (by omega)
                    refine Exists.intro xm_484 (And.intro mi_484 (And.intro ⟨rfl, rfl, rfl, rfl⟩ (And.intro rfl ?_)))
                    refine fcall _ h0 (fzs_sub (by decide +kernel) hW) hB52 (ct_M_seek_92ac3 (fBz h0 hB52) (by first | exact ⟨hb.1.1, hb.1.2⟩ | omega) (by omega) (by omega) (by omega) (by omega) (by omega) (by omega) (by omega)) ?_
                    rintro IhB66 _ hB66 fhB66 ⟨rfl, hz65, g0z65, g1z65⟩
                    have t67 := fhB66 741 12 (by decide +kernel)
                    have k68 := fBz_eq hB66 (a := 741) (j := 12) (by decide +kernel)
                    have wd := sDn_of hz62 (by omega) ez61 ez62
                    have we : z60 = x4 + I 741 (4370 + 3 * y6.toNat) := by omega
                    have ws : z64 = x5 + sMo x1 (x4 + I 741 (4370 + 3 * y6.toNat)) (I 741 (4371 + 3 * y6.toNat)) := by first | (have q := mo_of (span := x1) (e := x4 + I 741 (4370 + 3 * y6.toNat)) w204 (by omega); rw [w199] at q; omega) | (have q : sMo x1 (x4 + I 741 (4370 + 3 * y6.toNat)) (I 741 (4371 + 3 * y6.toNat)) = 0 := if_pos (by omega); omega)
                    simp only [s4] at g0z65
                    rw [wd, we, ws, show (x2 + ((1 : Nat) : Int)).toNat = x2.toNat + 1 by omega] at g0z65
                    exact fcutJ (I := IhB66) (j := (jc_M_seek_58809_59 x1 x2 x3 x4 x5 I)) (lv' := [(0, .inr (.inr (some 740))), (1, .inl _), (2, .inl _), (3, .inl _), (4, .inl _), (5, .inl _), (6, .inl _)]) (And.intro rfl (And.intro rfl (And.intro rfl (And.intro rfl (And.intro rfl (And.intro rfl (And.intro rfl True.intro))))))) ⟨_, _, _, _, _, _, rfl, rfl, ⟨by omega, (fun p s hp hs => by have hq := (hx0 p s hp hs).1; first | exact nf_skQ (qo_no (hx0 p s hp hs) (fun q => by have q1 := q.1; omega)) (by omega) (by omega) | exact nf_skQ (qo_no (hx0 p s hp hs) (fun q => by have q2 := q.2; omega)) (by omega) (by omega) | exact nf_skQ (qo_spent (hx0 p s hp hs) (by omega) (by omega) ⟨by omega, by omega⟩ rfl ehB35) (by omega) (by omega) | exact nf_skQ (qo_rec (hx0 p s hp hs) (by omega) (by omega) ⟨by omega, by omega⟩ (g0z65 (sUp p x2.toNat ((y6.toNat : Nat) : Int)) _ (path_uq ehB35 ehB46 ehB52 (fun i hi => (hx1 i hi).trans (hp i hi)) (by omega) rfl (by omega)) (qo_in (hx0 p s hp hs) (by omega) (by omega) rfl (by omega) ehB35 ehB46 ehB52))) (by omega) (by omega) | (exfalso; omega)), (fun i hi => by first | exact (g1z65 i (by omega)).trans ((fup_other ehB52 757 i (Or.inr (by omega))).trans ((fup_other ehB46 757 i (Or.inl (by decide))).trans ((fup_other ehB35 757 i (Or.inl (by decide))).trans (hx1 i hi)))) | exact ((fup_other ehB35 757 i (Or.inl (by decide))).trans (hx1 i hi)) | exact hx1 i hi | (exfalso; omega))⟩, rfl⟩ (by omega)
                  · intro c69
                    refine And.intro ⟨rfl, by decide, by decide⟩ ?_
                    refine fload rL_741_741_4371_4389_3_0 h0 hB52 (by omega) ?_
                    intro z70 lz70 uz70 qz70
                    have w199 := (fld_at qz70 (4371 + 3 * y6.toNat) (by omega)).trans (s4 _)
                    intro z71 hz71 ez71 bz71
                    have bz71 := bz71 (by omega)
                    intro z72 hz72 ez72 bz72
                    try replace bz72 := bz72 (by omega)
                    have w203 := mul_bd (a := z70) (b := z71) (by omega) (by omega)
                    have w204 : z72 = z70 * z71 := by first | exact bz72 (by omega) | exact bz72
                    intro z73 hz73 ez73 bz73
                    try replace bz73 := bz73 (by omega)
                    refine Exists.intro xm_484 (And.intro mi_484 (And.intro ⟨rfl, rfl, rfl, rfl⟩ (And.intro rfl ?_)))
                    refine fcall _ h0 (fzs_sub (by decide +kernel) hW) hB52 (ct_M_seek_92ac3 (fBz h0 hB52) (by first | exact ⟨hb.1.1, hb.1.2⟩ | omega) (by omega) (by omega) (by omega) (by omega) (by omega) (by omega) (by omega)) ?_
                    rintro IhB75 _ hB75 fhB75 ⟨rfl, hz74, g0z74, g1z74⟩
                    have t76 := fhB75 741 12 (by decide +kernel)
                    have k77 := fBz_eq hB75 (a := 741) (j := 12) (by decide +kernel)
                    have wd := sDn_of hz62 (by omega) ez61 ez62
                    have we : z60 = x4 + I 741 (4370 + 3 * y6.toNat) := by omega
                    have ws : z73 = x5 + sMo x1 (x4 + I 741 (4370 + 3 * y6.toNat)) (I 741 (4371 + 3 * y6.toNat)) := by first | (have q := mo_of (span := x1) (e := x4 + I 741 (4370 + 3 * y6.toNat)) w204 (by omega); rw [w199] at q; omega) | (have q : sMo x1 (x4 + I 741 (4370 + 3 * y6.toNat)) (I 741 (4371 + 3 * y6.toNat)) = 0 := if_pos (by omega); omega)
                    simp only [s4] at g0z74
                    rw [wd, we, ws, show (x2 + ((1 : Nat) : Int)).toNat = x2.toNat + 1 by omega] at g0z74
                    exact fcutJ (I := IhB75) (j := (jc_M_seek_58809_59 x1 x2 x3 x4 x5 I)) (lv' := [(0, .inr (.inr (some 740))), (1, .inl _), (2, .inl _), (3, .inl _), (4, .inl _), (5, .inl _), (6, .inl _)]) (And.intro rfl (And.intro rfl (And.intro rfl (And.intro rfl (And.intro rfl (And.intro rfl (And.intro rfl True.intro))))))) ⟨_, _, _, _, _, _, rfl, rfl, ⟨by omega, (fun p s hp hs => by have hq := (hx0 p s hp hs).1; first | exact nf_skQ (qo_no (hx0 p s hp hs) (fun q => by have q1 := q.1; omega)) (by omega) (by omega) | exact nf_skQ (qo_no (hx0 p s hp hs) (fun q => by have q2 := q.2; omega)) (by omega) (by omega) | exact nf_skQ (qo_spent (hx0 p s hp hs) (by omega) (by omega) ⟨by omega, by omega⟩ rfl ehB35) (by omega) (by omega) | exact nf_skQ (qo_rec (hx0 p s hp hs) (by omega) (by omega) ⟨by omega, by omega⟩ (g0z74 (sUp p x2.toNat ((y6.toNat : Nat) : Int)) _ (path_uq ehB35 ehB46 ehB52 (fun i hi => (hx1 i hi).trans (hp i hi)) (by omega) rfl (by omega)) (qo_in (hx0 p s hp hs) (by omega) (by omega) rfl (by omega) ehB35 ehB46 ehB52))) (by omega) (by omega) | (exfalso; omega)), (fun i hi => by first | exact (g1z74 i (by omega)).trans ((fup_other ehB52 757 i (Or.inr (by omega))).trans ((fup_other ehB46 757 i (Or.inl (by decide))).trans ((fup_other ehB35 757 i (Or.inl (by decide))).trans (hx1 i hi)))) | exact ((fup_other ehB35 757 i (Or.inl (by decide))).trans (hx1 i hi)) | exact hx1 i hi | (exfalso; omega))⟩, rfl⟩ (by omega)
              · intro c78
                refine And.intro ⟨rfl, by decide, by decide⟩ (And.intro rfl (And.intro (Or.inr ⟨rfl, by decide, by decide⟩) (fputf fb_740_35 (by decide +kernel) hW (by first | exact ⟨by decide, by decide⟩ | omega) ?_)))
                intro IhB79 ehB79 hB79
                have t80 : IhB79 740 33 = I1 740 33 := (congrFun (congrFun ehB79 740) 33).trans (fup_ne (by first | decide | omega))
                have t81 : IhB79 740 34 = I1 740 34 := (congrFun (congrFun ehB79 740) 34).trans (fup_ne (by first | decide | omega))
                have t82 := fup_at ehB79 35 (by first | rfl | omega)
                have t83 : IhB79 741 12 = I1 741 12 := (congrFun (congrFun ehB79 741) 12).trans (fup_ne (by first | decide | omega))
                have k84 := fBz_eq hB79 (a := 741) (j := 12) (by decide +kernel)
                refine And.intro ⟨rfl, by decide, by decide⟩ (fgetf fb_740_35 h0 hB79 ?_)
                intro z85 lz85 uz85 qz85
                refine And.intro (by first | exact fi_ lz85 uz85 rfl | omega) (And.intro ?_ ?_)
                · intro c86
                  exact fcutJ (I := IhB79) (j := (jc_M_seek_58809_59 x1 x2 x3 x4 x5 I)) (lv' := [(0, .inr (.inr (some 740))), (1, .inl _), (2, .inl _), (3, .inl _), (4, .inl _), (5, .inl _), (6, .inl _)]) (And.intro rfl (And.intro rfl (And.intro rfl (And.intro rfl (And.intro rfl (And.intro rfl (And.intro rfl True.intro))))))) ⟨_, _, _, _, _, _, rfl, rfl, ⟨by omega, (fun p s hp hs => by have hq := (hx0 p s hp hs).1; first | exact nf_skQ (qo_no (hx0 p s hp hs) (fun q => by have q1 := q.1; omega)) (by omega) (by omega) | exact nf_skQ (qo_no (hx0 p s hp hs) (fun q => by have q2 := q.2; omega)) (by omega) (by omega) | exact nf_skQ (qo_spent (hx0 p s hp hs) (by omega) (by omega) ⟨by omega, by omega⟩ rfl ehB79) (by omega) (by omega) | exact nf_skQ (qo_rec (hx0 p s hp hs) (by omega) (by omega) ⟨by omega, by omega⟩ (g0z74 (sUp p x2.toNat ((y6.toNat : Nat) : Int)) _ (path_uq ehB79 ehB46 ehB52 (fun i hi => (hx1 i hi).trans (hp i hi)) (by omega) rfl (by omega)) (qo_in (hx0 p s hp hs) (by omega) (by omega) rfl (by omega) ehB79 ehB46 ehB52))) (by omega) (by omega) | (exfalso; omega)), (fun i hi => by first | exact (g1z74 i (by omega)).trans ((fup_other ehB52 757 i (Or.inr (by omega))).trans ((fup_other ehB46 757 i (Or.inl (by decide))).trans ((fup_other ehB79 757 i (Or.inl (by decide))).trans (hx1 i hi)))) | exact ((fup_other ehB79 757 i (Or.inl (by decide))).trans (hx1 i hi)) | exact hx1 i hi | (exfalso; omega))⟩, rfl⟩ (by omega)
                · intro c87
                  refine And.intro ⟨rfl, by decide, by decide⟩ (fgetf fb_740_34 h0 hB79 ?_)
                  intro z88 lz88 uz88 qz88
                  intro z89 hz89 ez89 bz89
                  try replace bz89 := bz89 (by omega)
                  refine And.intro ⟨rfl, by decide, by decide⟩ (And.intro rfl (And.intro (Or.inl rfl) (fputf fb_740_34 (by decide +kernel) hW (by omega) ?_)))
                  intro IhB90 ehB90 hB90
                  have t91 : IhB90 740 33 = IhB79 740 33 := (congrFun (congrFun ehB90 740) 33).trans (fup_ne (by first | decide | omega))
                  have t92 := fup_at ehB90 34 (by first | rfl | omega)
                  have t93 : IhB90 740 35 = IhB79 740 35 := (congrFun (congrFun ehB90 740) 35).trans (fup_ne (by first | decide | omega))
                  have t94 : IhB90 741 12 = IhB79 741 12 := (congrFun (congrFun ehB90 741) 12).trans (fup_ne (by first | decide | omega))
                  have k95 := fBz_eq hB90 (a := 741) (j := 12) (by decide +kernel)
                  refine And.intro ⟨rfl, by decide, by decide⟩ ?_
                  refine fstore1 rS_757_757_0_6_1_0 (fzs_sub (by decide +kernel) hW) ⟨by decide, by decide⟩ (by first | exact ⟨Int.le_trans (by decide) hb.2.1.1, Int.le_trans hb.2.1.2 (by decide)⟩ | omega) (by first | exact ⟨hb.2.2.2.2.2.1.1, Int.le_trans (Int.le_sub_one_of_lt (Int.lt_of_lt_of_le c21 uz19)) (by decide)⟩ | omega) ?_
                  intro IhB96 ehB96 hB96
                  have t97 := fup_self ehB96
                  have t98 : IhB96 740 33 = IhB90 740 33 := (congrFun (congrFun ehB96 740) 33).trans (fup_ne (by first | exact Or.inl (by decide) | omega))
                  have t99 : IhB96 740 34 = IhB90 740 34 := (congrFun (congrFun ehB96 740) 34).trans (fup_ne (by first | exact Or.inl (by decide) | omega))
                  have t100 : IhB96 740 35 = IhB90 740 35 := (congrFun (congrFun ehB96 740) 35).trans (fup_ne (by first | exact Or.inl (by decide) | omega))
                  have t101 : IhB96 741 12 = IhB90 741 12 := (congrFun (congrFun ehB96 741) 12).trans (fup_ne (by first | exact Or.inl (by decide) | omega))
                  have k102 := fBz_eq hB96 (a := 741) (j := 12) (by decide +kernel)
                  refine And.intro ⟨rfl, by decide, by decide⟩ ?_
                  refine fload rL_741_741_4370_4388_3_0 h0 hB96 (by omega) ?_
                  intro z103 lz103 uz103 qz103
                  have s4 : ∀ j, IhB96 741 j = I 741 j := fun j => (fup_other ehB96 741 j (Or.inl (by decide))).trans ((fup_other ehB90 741 j (Or.inl (by decide))).trans ((fup_other ehB79 741 j (Or.inl (by decide))).trans (sS j)))
                  have w166 := (fld_at qz103 (4370 + 3 * y6.toNat) (by omega)).trans (s4 _)
                  intro z104 hz104 ez104 bz104
                  have bz104 := bz104 (by omega)
                  intro z105 hz105 ez105
                  intro z106 hz106 ez106
                  refine And.intro (by omega) (And.intro ?_ ?_)
                  · intro c107
                    intro z108 hz108 ez108 bz108
                    try replace bz108 := bz108 (by omega)
                    refine Exists.intro xm_484 (And.intro mi_484 (And.intro ⟨rfl, rfl, rfl, rfl⟩ (And.intro rfl ?_)))
                    refine fcall _ h0 (fzs_sub (by decide +kernel) hW) hB96 (ct_M_seek_92ac3 (fBz h0 hB96) (by first | exact ⟨hb.1.1, hb.1.2⟩ | omega) (by omega) (by omega) (by omega) (by omega) (by omega) (by omega) (by omega)) ?_
                    rintro IhB110 _ hB110 fhB110 ⟨rfl, hz109, g0z109, g1z109⟩
                    have t111 := fhB110 741 12 (by decide +kernel)
                    have k112 := fBz_eq hB110 (a := 741) (j := 12) (by decide +kernel)
                    have wd := sDn_of hz106 (by omega) ez105 ez106
                    have we : z104 = x4 + I 741 (4370 + 3 * y6.toNat) := by omega
                    have ws : z108 = x5 + sMo x1 (x4 + I 741 (4370 + 3 * y6.toNat)) (I 741 (4371 + 3 * y6.toNat)) := by first | (have q := mo_of (span := x1) (e := x4 + I 741 (4370 + 3 * y6.toNat)) w204 (by omega); rw [w199] at q; omega) | (have q : sMo x1 (x4 + I 741 (4370 + 3 * y6.toNat)) (I 741 (4371 + 3 * y6.toNat)) = 0 := if_pos (by omega); omega)
                    simp only [s4] at g0z109
                    rw [wd, we, ws, show (x2 + ((1 : Nat) : Int)).toNat = x2.toNat + 1 by omega] at g0z109
                    exact fcutJ (I := IhB110) (j := (jc_M_seek_58809_59 x1 x2 x3 x4 x5 I)) (lv' := [(0, .inr (.inr (some 740))), (1, .inl _), (2, .inl _), (3, .inl _), (4, .inl _), (5, .inl _), (6, .inl _)]) (And.intro rfl (And.intro rfl (And.intro rfl (And.intro rfl (And.intro rfl (And.intro rfl (And.intro rfl True.intro))))))) ⟨_, _, _, _, _, _, rfl, rfl, ⟨by omega, (fun p s hp hs => by have hq := (hx0 p s hp hs).1; first | exact nf_skQ (qo_no (hx0 p s hp hs) (fun q => by have q1 := q.1; omega)) (by omega) (by omega) | exact nf_skQ (qo_no (hx0 p s hp hs) (fun q => by have q2 := q.2; omega)) (by omega) (by omega) | exact nf_skQ (qo_spent (hx0 p s hp hs) (by omega) (by omega) ⟨by omega, by omega⟩ rfl ehB79) (by omega) (by omega) | exact nf_skQ (qo_rec (hx0 p s hp hs) (by omega) (by omega) ⟨by omega, by omega⟩ (g0z109 (sUp p x2.toNat ((y6.toNat : Nat) : Int)) _ (path_uq ehB79 ehB90 ehB96 (fun i hi => (hx1 i hi).trans (hp i hi)) (by omega) rfl (by omega)) (qo_in (hx0 p s hp hs) (by omega) (by omega) rfl (by omega) ehB79 ehB90 ehB96))) (by omega) (by omega) | (exfalso; omega)), (fun i hi => by first | exact (g1z109 i (by omega)).trans ((fup_other ehB96 757 i (Or.inr (by omega))).trans ((fup_other ehB90 757 i (Or.inl (by decide))).trans ((fup_other ehB79 757 i (Or.inl (by decide))).trans (hx1 i hi)))) | exact ((fup_other ehB79 757 i (Or.inl (by decide))).trans (hx1 i hi)) | exact hx1 i hi | (exfalso; omega))⟩, rfl⟩ (by omega)
                  · intro c113
                    refine And.intro ⟨rfl, by decide, by decide⟩ ?_
                    refine fload rL_741_741_4371_4389_3_0 h0 hB96 (by omega) ?_
                    intro z114 lz114 uz114 qz114
                    have w199 := (fld_at qz114 (4371 + 3 * y6.toNat) (by omega)).trans (s4 _)
                    intro z115 hz115 ez115 bz115
                    have bz115 := bz115 (by omega)
                    intro z116 hz116 ez116 bz116
                    try replace bz116 := bz116 (by omega)
                    have w203 := mul_bd (a := z114) (b := z115) (by omega) (by omega)
                    have w204 : z116 = z114 * z115 := by first | exact bz116 (by omega) | exact bz116
                    intro z117 hz117 ez117 bz117
                    try replace bz117 := bz117 (by omega)
                    refine Exists.intro xm_484 (And.intro mi_484 (And.intro ⟨rfl, rfl, rfl, rfl⟩ (And.intro rfl ?_)))
                    refine fcall _ h0 (fzs_sub (by decide +kernel) hW) hB96 (ct_M_seek_92ac3 (fBz h0 hB96) (by first | exact ⟨hb.1.1, hb.1.2⟩ | omega) (by omega) (by omega) (by omega) (by omega) (by omega) (by omega) (by omega)) ?_
                    rintro IhB119 _ hB119 fhB119 ⟨rfl, hz118, g0z118, g1z118⟩
                    have t120 := fhB119 741 12 (by decide +kernel)
                    have k121 := fBz_eq hB119 (a := 741) (j := 12) (by decide +kernel)
                    have wd := sDn_of hz106 (by omega) ez105 ez106
                    have we : z104 = x4 + I 741 (4370 + 3 * y6.toNat) := by omega
                    have ws : z117 = x5 + sMo x1 (x4 + I 741 (4370 + 3 * y6.toNat)) (I 741 (4371 + 3 * y6.toNat)) := by first | (have q := mo_of (span := x1) (e := x4 + I 741 (4370 + 3 * y6.toNat)) w204 (by omega); rw [w199] at q; omega) | (have q : sMo x1 (x4 + I 741 (4370 + 3 * y6.toNat)) (I 741 (4371 + 3 * y6.toNat)) = 0 := if_pos (by omega); omega)
                    simp only [s4] at g0z118
                    rw [wd, we, ws, show (x2 + ((1 : Nat) : Int)).toNat = x2.toNat + 1 by omega] at g0z118
                    exact fcutJ (I := IhB119) (j := (jc_M_seek_58809_59 x1 x2 x3 x4 x5 I)) (lv' := [(0, .inr (.inr (some 740))), (1, .inl _), (2, .inl _), (3, .inl _), (4, .inl _), (5, .inl _), (6, .inl _)]) (And.intro rfl (And.intro rfl (And.intro rfl (And.intro rfl (And.intro rfl (And.intro rfl (And.intro rfl True.intro))))))) ⟨_, _, _, _, _, _, rfl, rfl, ⟨by omega, (fun p s hp hs => by have hq := (hx0 p s hp hs).1; first | exact nf_skQ (qo_no (hx0 p s hp hs) (fun q => by have q1 := q.1; omega)) (by omega) (by omega) | exact nf_skQ (qo_no (hx0 p s hp hs) (fun q => by have q2 := q.2; omega)) (by omega) (by omega) | exact nf_skQ (qo_spent (hx0 p s hp hs) (by omega) (by omega) ⟨by omega, by omega⟩ rfl ehB79) (by omega) (by omega) | exact nf_skQ (qo_rec (hx0 p s hp hs) (by omega) (by omega) ⟨by omega, by omega⟩ (g0z118 (sUp p x2.toNat ((y6.toNat : Nat) : Int)) _ (path_uq ehB79 ehB90 ehB96 (fun i hi => (hx1 i hi).trans (hp i hi)) (by omega) rfl (by omega)) (qo_in (hx0 p s hp hs) (by omega) (by omega) rfl (by omega) ehB79 ehB90 ehB96))) (by omega) (by omega) | (exfalso; omega)), (fun i hi => by first | exact (g1z118 i (by omega)).trans ((fup_other ehB96 757 i (Or.inr (by omega))).trans ((fup_other ehB90 757 i (Or.inl (by decide))).trans ((fup_other ehB79 757 i (Or.inl (by decide))).trans (hx1 i hi)))) | exact ((fup_other ehB79 757 i (Or.inl (by decide))).trans (hx1 i hi)) | exact hx1 i hi | (exfalso; omega))⟩, rfl⟩ (by omega)
            · intro c122
              exact fcutJ (I := I1) (j := (jc_M_seek_58809_59 x1 x2 x3 x4 x5 I)) (lv' := [(0, .inr (.inr (some 740))), (1, .inl _), (2, .inl _), (3, .inl _), (4, .inl _), (5, .inl _), (6, .inl _)]) (And.intro rfl (And.intro rfl (And.intro rfl (And.intro rfl (And.intro rfl (And.intro rfl (And.intro rfl True.intro))))))) ⟨_, _, _, _, _, _, rfl, rfl, ⟨by omega, (fun p s hp hs => by have hq := (hx0 p s hp hs).1; first | exact nf_skQ (qo_no (hx0 p s hp hs) (fun q => by have q1 := q.1; omega)) (by omega) (by omega) | exact nf_skQ (qo_no (hx0 p s hp hs) (fun q => by have q2 := q.2; omega)) (by omega) (by omega) | exact nf_skQ (qo_spent (hx0 p s hp hs) (by omega) (by omega) ⟨by omega, by omega⟩ rfl ehB79) (by omega) (by omega) | exact nf_skQ (qo_rec (hx0 p s hp hs) (by omega) (by omega) ⟨by omega, by omega⟩ (g0z118 (sUp p x2.toNat ((y6.toNat : Nat) : Int)) _ (path_uq ehB79 ehB90 ehB96 (fun i hi => (hx1 i hi).trans (hp i hi)) (by omega) rfl (by omega)) (qo_in (hx0 p s hp hs) (by omega) (by omega) rfl (by omega) ehB79 ehB90 ehB96))) (by omega) (by omega) | (exfalso; omega)), (fun i hi => by first | exact (g1z118 i (by omega)).trans ((fup_other ehB96 757 i (Or.inr (by omega))).trans ((fup_other ehB90 757 i (Or.inl (by decide))).trans ((fup_other ehB79 757 i (Or.inl (by decide))).trans (hx1 i hi)))) | exact ((fup_other ehB79 757 i (Or.inl (by decide))).trans (hx1 i hi)) | exact hx1 i hi | (exfalso; omega))⟩, rfl⟩ (by omega)
  · have hB0 := fB_self (zn := znJ) (K := fKc wz_4d25e) h0
    have b123 := fBd fb_741_12 (fBz h0 hB0)
    have b124 := fBd fb_740_35 (fBz h0 hB0)
    refine And.intro ⟨rfl, by decide, by decide⟩ ?_
    refine fload1 rL_741_741_12_12_1_0 h0 hB0 ⟨by decide, by decide⟩ (by first | exact ⟨by decide, by decide⟩ | omega) ?_
    intro z125 lz125 uz125 qz125
    have pz125 := fld_at qz125 12 (by omega)
    refine And.intro (And.intro (by first | exact fi_ ha2.1 ha2.2 rfl | omega) (by first | exact fi_ lz125 uz125 rfl | omega)) (And.intro ?_ ?_)
    · intro c126
      exact fcutJ (I := I) (j := (jc_M_seek_58809_59 x1 x2 x3 x4 x5 I)) (lv' := [(0, .inr (.inr (some 740))), (1, .inl _), (2, .inl _), (3, .inl _), (4, .inl _), (5, .inl _), (6, .inl _)]) (And.intro rfl (And.intro rfl (And.intro rfl (And.intro rfl (And.intro rfl (And.intro rfl (And.intro rfl True.intro))))))) ⟨_, _, _, _, _, _, rfl, rfl, ⟨by omega, (fun p s hp hs => hs), (fun i _ => rfl)⟩, rfl⟩ (by omega)
    · intro c127
      refine And.intro ⟨rfl, by decide, by decide⟩ (fgetf fb_740_33 h0 hB0 ?_)
      intro z128 lz128 uz128 qz128
      refine And.intro (And.intro (by first | exact fi_ ha5.1 ha5.2 rfl | omega) (by first | exact fi_ lz128 uz128 rfl | omega)) (And.intro ?_ ?_)
      · intro c129
        exact ⟨rfl, True.intro, (fun p s hp hs => by rw [sk_tk (by omega)]; first | exact tq_yes hs (by omega) (by omega) (fun i hi => hp i (by omega)) (by omega) (by omega) (by omega) (fun i hi => hx0 i (by omega)) | exact tq_yes hs (by omega) (by omega) (fun i hi => hp i (by omega)) (by omega) (by omega) (by omega) (fun i hi => absurd hi (by omega)) | exact tq_no hs (by omega) (by omega)), (by first | exact (fun i _ => hx1 i) | exact (fun i _ => rfl) | exact (fun i _ => fup_other enil0 757 i (Or.inl (by decide))))⟩
      · intro c130
        refine And.intro ⟨rfl, by decide, by decide⟩ (And.intro rfl (And.intro (Or.inl rfl) (fputf fb_740_33 (by decide +kernel) hW (by first | exact ⟨Int.le_trans (by decide) (Int.add_one_le_of_lt (Int.lt_of_le_of_lt lz128 c130)), ha5.2⟩ | omega) ?_)))
        intro IhB131 ehB131 hB131
        have t132 := fup_at ehB131 33 (by first | rfl | omega)
        have t133 : IhB131 740 34 = I 740 34 := (congrFun (congrFun ehB131 740) 34).trans (fup_ne (by first | decide | omega))
        have t134 : IhB131 740 35 = I 740 35 := (congrFun (congrFun ehB131 740) 35).trans (fup_ne (by first | decide | omega))
        have t135 : IhB131 741 12 = I 741 12 := (congrFun (congrFun ehB131 741) 12).trans (fup_ne (by first | decide | omega))
        have k136 := fBz_eq hB131 (a := 741) (j := 12) (by decide +kernel)
        exact fcutJ (I := IhB131) (j := (jc_M_seek_58809_29 x2 x5 I)) (lv' := [(0, .inr (.inr (some 740))), (2, .inl _), (6, .inl _)]) (And.intro rfl (And.intro rfl (And.intro rfl True.intro))) ⟨_, _, rfl, rfl, ⟨by omega, (fun i h => absurd h (by omega)), (fun i => fup_other ehB131 757 i (Or.inl (by decide)))⟩, rfl⟩ (by omega)
abbrev jc_M_seek_71684_59 (x1 : Int) (x2 : Int) (x3 : Int) (x4 : Int) (x5 : Int) (I0 : fH) : Nat → fL → List fV → fH → Prop := fun m lv st I => ∃ (y1 : Int) (y2 : Int) (y3 : Int) (y4 : Int) (y5 : Int) (y6 : Int), lv = [(0, .inr (.inr (some 740))), (1, .inl y1), (2, .inl y2), (3, .inl y3), (4, .inl y4), (5, .inl y5), (6, .inl y6)] ∧ st = [] ∧ (((1 ≤ y1 ∧ y1 ≤ 60) ∧ (0 ≤ y2 ∧ y2 ≤ 0) ∧ (0 ≤ y3 ∧ y3 ≤ 0) ∧ (0 ≤ y4 ∧ y4 ≤ 0) ∧ (0 ≤ y5 ∧ y5 ≤ 0) ∧ (0 ≤ y6 ∧ y6 ≤ 7) ∧ (1 ≤ I 741 12 ∧ I 741 12 ≤ 7) ∧ (y2 < I 741 12) ∧ (y1 = x1) ∧ (y2 = x2) ∧ (y3 = x3) ∧ (y4 = x4) ∧ (y5 = x5) ∧ (x2 < I0 741 12) ∧ (y6 ≤ I0 741 12)) ∧ (∀ (p : Nat → Int) (s : sSt), (∀ i : Nat, (i : Int) < x2 → I0 757 i = p i) → skQ (I0 741 12).toNat s I0 → skQ (I0 741 12).toNat (nf (sGo (fun b => I0 741 (4370 + 3 * b)) (fun b => I0 741 (4371 + 3 * b)) (fun b => I0 741 (4372 + 3 * b)) x1 (sSk (I0 741 12).toNat (fun b => I0 741 (4370 + 3 * b)) (fun b => I0 741 (4371 + 3 * b)) (fun b => I0 741 (4372 + 3 * b)) x1 6) x2.toNat x3 x4 x5 p) s y6.toNat) I) ∧ (∀ i : Nat, (i : Int) < x2 → I 757 i = I0 757 i)) ∧ m = (1 + 1 * (7 - y6) : Int).toNat
set_option maxRecDepth 8000 in
theorem ct_M_seek_71684 {I : fH} {x1 : Int} {x2 : Int} {x3 : Int} {x4 : Int} {x5 : Int} (h0 : fB bsJ I) (ha1 : (1 ≤ x1 ∧ x1 ≤ 60)) (ha2 : (0 ≤ x2 ∧ x2 ≤ 0)) (ha3 : (0 ≤ x3 ∧ x3 ≤ 0)) (ha4 : (0 ≤ x4 ∧ x4 ≤ 0)) (ha5 : (0 ≤ x5 ∧ x5 ≤ 0)) (hp0 : x2 = 0) (hp1 : x2 ≤ I 741 12) (hp2 : 0 ≤ x5 ∧ x5 ≤ 5940 * x2) : fC ρ base n F xTc vwCl xTys D dA la gJ (fbz bsJ znJ (fKc wz_4d25e) I) xm_486 [.inr (.inr (some 740)), .inl x1, .inl x2, .inl x3, .inl x4, .inl x5] I (fun I' r => r = none ∧ True ∧ (∀ (p : Nat → Int) (s : sSt), (∀ i : Nat, (i : Int) < x2 → I 757 i = p i) → skQ (I 741 12).toNat s I → skQ (I 741 12).toNat (sSk (I 741 12).toNat (fun b => I 741 (4370 + 3 * b)) (fun b => I 741 (4371 + 3 * b)) (fun b => I 741 (4372 + 3 * b)) x1 7 x2.toNat x3 x4 x5 p s) I') ∧ (∀ i : Nat, (i : Int) < x2 → I' 757 i = I 757 i)) := by
  have hW : fzs wz_4d25e (fKc wz_4d25e) := fKc_ok _
  refine f_meth (rb := rbJ) (J := [(59, (jc_M_seek_71684_59 x1 x2 x3 x4 x5 I))]) 9 400 xG xin_486 x6_486 okJ (fB_self h0) ?_ ?_
  · refine List.forall_mem_cons.mpr ⟨?_, fun q h => absurd h List.not_mem_nil⟩
    · rintro m _ _ I1 hB1 ⟨y1, y2, y3, y4, y5, y6, rfl, rfl, ⟨hb, hx0, hx1⟩, hm⟩
      have k1 := fBz_eq hB1 (a := 741) (j := 12) (by decide +kernel)
      have b2 := fBd fb_741_12 (fBz h0 hB1)
      have b3 := fBd fb_740_35 (fBz h0 hB1)
      have ey1 : x1 = y1 := by omega
      subst ey1
      have ey2 : x2 = y2 := by omega
      subst ey2
      have ey3 : x3 = y3 := by omega
      subst ey3
      have ey4 : x4 = y4 := by omega
      subst ey4
      have ey5 : x5 = y5 := by omega
      subst ey5
      have sS := fFr_S (fFr_of hB1) (by decide +kernel)
      refine And.intro ⟨rfl, by decide, by decide⟩ ?_
      refine fload1 rL_741_741_12_12_1_0 h0 hB1 ⟨by decide, by decide⟩ (by first | exact ⟨by decide, by decide⟩ | omega) ?_
      intro z4 lz4 uz4 qz4
      have pz4 := fld_at qz4 12 (by omega)
      refine And.intro (And.intro (by first | exact fi_ hb.2.2.2.2.2.1.1 hb.2.2.2.2.2.1.2 rfl | omega) (by first | exact fi_ lz4 uz4 rfl | omega)) (And.intro ?_ ?_)
      · intro c5
        exact ⟨rfl, True.intro, (fun p s hp hs => by first | (exfalso; omega) | (rw [sk_go (by omega)]; exact sq_end (hx0 p s hp hs) (by omega) (by omega))), hx1⟩
      · intro c6
        refine And.intro ⟨rfl, by decide, by decide⟩ (fgetf fb_740_35 h0 hB1 ?_)
        intro z7 lz7 uz7 qz7
        refine And.intro (by first | exact fi_ lz7 uz7 rfl | omega) (And.intro ?_ ?_)
        · intro c8
          exact ⟨rfl, True.intro, (fun p s hp hs => by first | (exfalso; omega) | (rw [sk_go (by omega)]; exact sq_end (hx0 p s hp hs) (by omega) (by omega))), hx1⟩
        · intro c9
          intro z10 hz10 ez10
          intro z11 hz11 ez11 bz11
          have bz11 := bz11 (by omega)
          have wb := bt_of hz11 ez10 ez11 (by omega)
          refine And.intro (And.intro (by first | exact fi_ bz11.1 bz11.2 rfl | omega) (by first | exact ⟨by decide, by decide⟩ | omega)) (And.intro ?_ ?_)
          · intro c12
            exact fcutJ (I := I1) (j := (jc_M_seek_71684_59 x1 x2 x3 x4 x5 I)) (lv' := [(0, .inr (.inr (some 740))), (1, .inl _), (2, .inl _), (3, .inl _), (4, .inl _), (5, .inl _), (6, .inl _)]) (And.intro rfl (And.intro rfl (And.intro rfl (And.intro rfl (And.intro rfl (And.intro rfl (And.intro rfl True.intro))))))) ⟨_, _, _, _, _, _, rfl, rfl, ⟨by omega, (fun p s hp hs => by have hq := (hx0 p s hp hs).1; first | exact nf_skQ (qo_no (hx0 p s hp hs) (fun q => by have q1 := q.1; omega)) (by omega) (by omega) | exact nf_skQ (qo_no (hx0 p s hp hs) (fun q => by have q2 := q.2; omega)) (by omega) (by omega) | exact nf_skQ (qo_spent (hx0 p s hp hs) (by omega) (by omega) ⟨by omega, by omega⟩ rfl enil0) (by omega) (by omega) | exact nf_skQ (qo_rec (hx0 p s hp hs) (by omega) (by omega) ⟨by omega, by omega⟩ (g0nil0 (sUp p x2.toNat ((y6.toNat : Nat) : Int)) _ (path_uq enil0 enil0 enil0 (fun i hi => (hx1 i hi).trans (hp i hi)) (by omega) rfl (by omega)) (qo_in (hx0 p s hp hs) (by omega) (by omega) rfl (by omega) enil0 enil0 enil0))) (by omega) (by omega) | (exfalso; omega)), (fun i hi => by first | exact (g1nil0 i (by omega)).trans ((fup_other enil0 757 i (Or.inr (by omega))).trans ((fup_other enil0 757 i (Or.inl (by decide))).trans ((fup_other enil0 757 i (Or.inl (by decide))).trans (hx1 i hi)))) | exact ((fup_other enil0 757 i (Or.inl (by decide))).trans (hx1 i hi)) | exact hx1 i hi | (exfalso; omega))⟩, rfl⟩ (by omega)
          · intro c13
            refine And.intro ⟨rfl, by decide, by decide⟩ ?_
            refine fload rL_741_741_4372_4390_3_0 h0 hB1 (by omega) ?_
            intro z14 lz14 uz14 qz14
            intro z15 hz15 ez15
            intro z16 hz16 ez16 bz16
            clear bz16
            have wa := sAh_of hz16 ez15 ez16
            rw [fld_at qz14 (4372 + 3 * y6.toNat) (by omega), sS] at wa
            refine And.intro (by omega) (And.intro ?_ ?_)
            · intro c17
              refine And.intro ⟨rfl, by decide, by decide⟩ (fgetf fb_740_34 h0 hB1 ?_)
              intro z18 lz18 uz18 qz18
              refine And.intro (by first | exact fi_ lz18 uz18 rfl | omega) (And.intro ?_ ?_)
              · intro c19
                refine And.intro ⟨rfl, by decide, by decide⟩ (And.intro rfl (And.intro (Or.inr ⟨rfl, by omega⟩) (fputf fb_740_35 (by decide +kernel) hW (by omega) ?_)))
                intro IhB20 ehB20 hB20
                have t21 : IhB20 740 33 = I1 740 33 := (congrFun (congrFun ehB20 740) 33).trans (fup_ne (by first | decide | omega))
                have t22 : IhB20 740 34 = I1 740 34 := (congrFun (congrFun ehB20 740) 34).trans (fup_ne (by first | decide | omega))
                have t23 := fup_at ehB20 35 (by first | rfl | omega)
                have t24 : IhB20 741 12 = I1 741 12 := (congrFun (congrFun ehB20 741) 12).trans (fup_ne (by first | decide | omega))
                have k25 := fBz_eq hB20 (a := 741) (j := 12) (by decide +kernel)
                refine And.intro ⟨rfl, by decide, by decide⟩ (fgetf fb_740_35 h0 hB20 ?_)
                intro z26 lz26 uz26 qz26
                refine And.intro (by first | exact fi_ lz26 uz26 rfl | omega) (And.intro ?_ ?_)
                · intro c27
                  exact fcutJ (I := IhB20) (j := (jc_M_seek_71684_59 x1 x2 x3 x4 x5 I)) (lv' := [(0, .inr (.inr (some 740))), (1, .inl _), (2, .inl _), (3, .inl _), (4, .inl _), (5, .inl _), (6, .inl _)]) (And.intro rfl (And.intro rfl (And.intro rfl (And.intro rfl (And.intro rfl (And.intro rfl (And.intro rfl True.intro))))))) ⟨_, _, _, _, _, _, rfl, rfl, ⟨by omega, (fun p s hp hs => by have hq := (hx0 p s hp hs).1; first | exact nf_skQ (qo_no (hx0 p s hp hs) (fun q => by have q1 := q.1; omega)) (by omega) (by omega) | exact nf_skQ (qo_no (hx0 p s hp hs) (fun q => by have q2 := q.2; omega)) (by omega) (by omega) | exact nf_skQ (qo_spent (hx0 p s hp hs) (by omega) (by omega) ⟨by omega, by omega⟩ rfl ehB20) (by omega) (by omega) | exact nf_skQ (qo_rec (hx0 p s hp hs) (by omega) (by omega) ⟨by omega, by omega⟩ (g0nil0 (sUp p x2.toNat ((y6.toNat : Nat) : Int)) _ (path_uq ehB20 enil0 enil0 (fun i hi => (hx1 i hi).trans (hp i hi)) (by omega) rfl (by omega)) (qo_in (hx0 p s hp hs) (by omega) (by omega) rfl (by omega) ehB20 enil0 enil0))) (by omega) (by omega) | (exfalso; omega)), (fun i hi => by first | exact (g1nil0 i (by omega)).trans ((fup_other enil0 757 i (Or.inr (by omega))).trans ((fup_other enil0 757 i (Or.inl (by decide))).trans ((fup_other ehB20 757 i (Or.inl (by decide))).trans (hx1 i hi)))) | exact ((fup_other ehB20 757 i (Or.inl (by decide))).trans (hx1 i hi)) | exact hx1 i hi | (exfalso; omega))⟩, rfl⟩ (by omega)
                · intro c28
                  refine And.intro ⟨rfl, by decide, by decide⟩ (fgetf fb_740_34 h0 hB20 ?_)
                  intro z29 lz29 uz29 qz29
                  intro z30 hz30 ez30 bz30
                  try replace bz30 := bz30 (by omega)
                  refine And.intro ⟨rfl, by decide, by decide⟩ (And.intro rfl (And.intro (Or.inl rfl) (fputf fb_740_34 (by decide +kernel) hW (by omega) ?_)))
                  intro IhB31 ehB31 hB31
                  have t32 : IhB31 740 33 = IhB20 740 33 := (congrFun (congrFun ehB31 740) 33).trans (fup_ne (by first | decide | omega))
                  have t33 := fup_at ehB31 34 (by first | rfl | omega)
                  have t34 : IhB31 740 35 = IhB20 740 35 := (congrFun (congrFun ehB31 740) 35).trans (fup_ne (by first | decide | omega))
                  have t35 : IhB31 741 12 = IhB20 741 12 := (congrFun (congrFun ehB31 741) 12).trans (fup_ne (by first | decide | omega))
                  have k36 := fBz_eq hB31 (a := 741) (j := 12) (by decide +kernel)
                  refine And.intro ⟨rfl, by decide, by decide⟩ ?_
                  refine fstore1 rS_757_757_0_6_1_0 (fzs_sub (by decide +kernel) hW) ⟨by decide, by decide⟩ (by first | exact ⟨hb.2.1.1, Int.le_trans hb.2.1.2 (by decide)⟩ | omega) (by first | exact ⟨hb.2.2.2.2.2.1.1, Int.le_trans (Int.le_sub_one_of_lt (Int.lt_of_lt_of_le c6 uz4)) (by decide)⟩ | omega) ?_
                  intro IhB37 ehB37 hB37
                  have t38 := fup_self ehB37
                  have t39 : IhB37 740 33 = IhB31 740 33 := (congrFun (congrFun ehB37 740) 33).trans (fup_ne (by first | exact Or.inl (by decide) | omega))
                  have t40 : IhB37 740 34 = IhB31 740 34 := (congrFun (congrFun ehB37 740) 34).trans (fup_ne (by first | exact Or.inl (by decide) | omega))
                  have t41 : IhB37 740 35 = IhB31 740 35 := (congrFun (congrFun ehB37 740) 35).trans (fup_ne (by first | exact Or.inl (by decide) | omega))
                  have t42 : IhB37 741 12 = IhB31 741 12 := (congrFun (congrFun ehB37 741) 12).trans (fup_ne (by first | exact Or.inl (by decide) | omega))
                  have k43 := fBz_eq hB37 (a := 741) (j := 12) (by decide +kernel)
                  refine And.intro ⟨rfl, by decide, by decide⟩ ?_
                  refine fload rL_741_741_4370_4388_3_0 h0 hB37 (by omega) ?_
                  intro z44 lz44 uz44 qz44
                  have s4 : ∀ j, IhB37 741 j = I 741 j := fun j => (fup_other ehB37 741 j (Or.inl (by decide))).trans ((fup_other ehB31 741 j (Or.inl (by decide))).trans ((fup_other ehB20 741 j (Or.inl (by decide))).trans (sS j)))
                  have w166 := (fld_at qz44 (4370 + 3 * y6.toNat) (by omega)).trans (s4 _)
                  intro z45 hz45 ez45 bz45
                  have bz45 := bz45 (by omega)
                  intro z46 hz46 ez46
                  intro z47 hz47 ez47
                  refine And.intro (by omega) (And.intro ?_ ?_)
                  · intro c48
                    intro z49 hz49 ez49 bz49
                    try replace bz49 := bz49 (by omega)
                    refine Exists.intro xm_485 (And.intro mi_485 (And.intro ⟨rfl, rfl, rfl, rfl⟩ (And.intro rfl ?_)))
                    refine fcall _ h0 (fzs_sub (by decide +kernel) hW) hB37 (ct_M_seek_58809 (fBz h0 hB37) (by first | exact ⟨hb.1.1, hb.1.2⟩ | omega) (by omega) (by omega) (by omega) (by omega) (by omega) (by omega) (by omega)) ?_
                    rintro IhB51 _ hB51 fhB51 ⟨rfl, hz50, g0z50, g1z50⟩
                    have t52 := fhB51 741 12 (by decide +kernel)
                    have k53 := fBz_eq hB51 (a := 741) (j := 12) (by decide +kernel)
                    have wd := sDn_of hz47 (by omega) ez46 ez47
                    have we : z45 = x4 + I 741 (4370 + 3 * y6.toNat) := by omega
                    have ws : z49 = x5 + sMo x1 (x4 + I 741 (4370 + 3 * y6.toNat)) (I 741 (4371 + 3 * y6.toNat)) := by first | (have q := mo_of (span := x1) (e := x4 + I 741 (4370 + 3 * y6.toNat)) w204 (by omega); rw [w199] at q; omega) | (have q : sMo x1 (x4 + I 741 (4370 + 3 * y6.toNat)) (I 741 (4371 + 3 * y6.toNat)) = 0 := if_pos (by omega); omega)
                    simp only [s4] at g0z50
                    rw [wd, we, ws, show (x2 + ((1 : Nat) : Int)).toNat = x2.toNat + 1 by omega] at g0z50
                    exact fcutJ (I := IhB51) (j := (jc_M_seek_71684_59 x1 x2 x3 x4 x5 I)) (lv' := [(0, .inr (.inr (some 740))), (1, .inl _), (2, .inl _), (3, .inl _), (4, .inl _), (5, .inl _), (6, .inl _)]) (And.intro rfl (And.intro rfl (And.intro rfl (And.intro rfl (And.intro rfl (And.intro rfl (And.intro rfl True.intro))))))) ⟨_, _, _, _, _, _, rfl, rfl, ⟨by omega, (fun p s hp hs => by have hq := (hx0 p s hp hs).1; first | exact nf_skQ (qo_no (hx0 p s hp hs) (fun q => by have q1 := q.1; omega)) (by omega) (by omega) | exact nf_skQ (qo_no (hx0 p s hp hs) (fun q => by have q2 := q.2; omega)) (by omega) (by omega) | exact nf_skQ (qo_spent (hx0 p s hp hs) (by omega) (by omega) ⟨by omega, by omega⟩ rfl ehB20) (by omega) (by omega) | exact nf_skQ (qo_rec (hx0 p s hp hs) (by omega) (by omega) ⟨by omega, by omega⟩ (g0z50 (sUp p x2.toNat ((y6.toNat : Nat) : Int)) _ (path_uq ehB20 ehB31 ehB37 (fun i hi => (hx1 i hi).trans (hp i hi)) (by omega) rfl (by omega)) (qo_in (hx0 p s hp hs) (by omega) (by omega) rfl (by omega) ehB20 ehB31 ehB37))) (by omega) (by omega) | (exfalso; omega)), (fun i hi => by first | exact (g1z50 i (by omega)).trans ((fup_other ehB37 757 i (Or.inr (by omega))).trans ((fup_other ehB31 757 i (Or.inl (by decide))).trans ((fup_other ehB20 757 i (Or.inl (by decide))).trans (hx1 i hi)))) | exact ((fup_other ehB20 757 i (Or.inl (by decide))).trans (hx1 i hi)) | exact hx1 i hi | (exfalso; omega))⟩, rfl⟩ (by omega)
                  · intro c54
                    refine And.intro ⟨rfl, by decide, by decide⟩ ?_
                    refine fload rL_741_741_4371_4389_3_0 h0 hB37 (by omega) ?_
                    intro z55 lz55 uz55 qz55
                    have w199 := (fld_at qz55 (4371 + 3 * y6.toNat) (by omega)).trans (s4 _)
                    intro z56 hz56 ez56 bz56
                    have bz56 := bz56 (by omega)
                    intro z57 hz57 ez57 bz57
                    try replace bz57 := bz57 (by omega)
                    have w203 := mul_bd (a := z55) (b := z56) (by omega) (by omega)
                    have w204 : z57 = z55 * z56 := by first | exact bz57 (by omega) | exact bz57
                    intro z58 hz58 ez58 bz58
                    try replace bz58 := bz58 (by omega)
                    refine Exists.intro xm_485 (And.intro mi_485 (And.intro ⟨rfl, rfl, rfl, rfl⟩ (And.intro rfl ?_)))
                    refine fcall _ h0 (fzs_sub (by decide +kernel) hW) hB37 (ct_M_seek_58809 (fBz h0 hB37) (by first | exact ⟨hb.1.1, hb.1.2⟩ | omega) (by omega) (by omega) (by omega) (by omega) (by omega) (by omega) (by omega)) ?_
                    rintro IhB60 _ hB60 fhB60 ⟨rfl, hz59, g0z59, g1z59⟩
                    have t61 := fhB60 741 12 (by decide +kernel)
                    have k62 := fBz_eq hB60 (a := 741) (j := 12) (by decide +kernel)
                    have wd := sDn_of hz47 (by omega) ez46 ez47
                    have we : z45 = x4 + I 741 (4370 + 3 * y6.toNat) := by omega
                    have ws : z58 = x5 + sMo x1 (x4 + I 741 (4370 + 3 * y6.toNat)) (I 741 (4371 + 3 * y6.toNat)) := by first | (have q := mo_of (span := x1) (e := x4 + I 741 (4370 + 3 * y6.toNat)) w204 (by omega); rw [w199] at q; omega) | (have q : sMo x1 (x4 + I 741 (4370 + 3 * y6.toNat)) (I 741 (4371 + 3 * y6.toNat)) = 0 := if_pos (by omega); omega)
                    simp only [s4] at g0z59
                    rw [wd, we, ws, show (x2 + ((1 : Nat) : Int)).toNat = x2.toNat + 1 by omega] at g0z59
                    exact fcutJ (I := IhB60) (j := (jc_M_seek_71684_59 x1 x2 x3 x4 x5 I)) (lv' := [(0, .inr (.inr (some 740))), (1, .inl _), (2, .inl _), (3, .inl _), (4, .inl _), (5, .inl _), (6, .inl _)]) (And.intro rfl (And.intro rfl (And.intro rfl (And.intro rfl (And.intro rfl (And.intro rfl (And.intro rfl True.intro))))))) ⟨_, _, _, _, _, _, rfl, rfl, ⟨by omega, (fun p s hp hs => by have hq := (hx0 p s hp hs).1; first | exact nf_skQ (qo_no (hx0 p s hp hs) (fun q => by have q1 := q.1; omega)) (by omega) (by omega) | exact nf_skQ (qo_no (hx0 p s hp hs) (fun q => by have q2 := q.2; omega)) (by omega) (by omega) | exact nf_skQ (qo_spent (hx0 p s hp hs) (by omega) (by omega) ⟨by omega, by omega⟩ rfl ehB20) (by omega) (by omega) | exact nf_skQ (qo_rec (hx0 p s hp hs) (by omega) (by omega) ⟨by omega, by omega⟩ (g0z59 (sUp p x2.toNat ((y6.toNat : Nat) : Int)) _ (path_uq ehB20 ehB31 ehB37 (fun i hi => (hx1 i hi).trans (hp i hi)) (by omega) rfl (by omega)) (qo_in (hx0 p s hp hs) (by omega) (by omega) rfl (by omega) ehB20 ehB31 ehB37))) (by omega) (by omega) | (exfalso; omega)), (fun i hi => by first | exact (g1z59 i (by omega)).trans ((fup_other ehB37 757 i (Or.inr (by omega))).trans ((fup_other ehB31 757 i (Or.inl (by decide))).trans ((fup_other ehB20 757 i (Or.inl (by decide))).trans (hx1 i hi)))) | exact ((fup_other ehB20 757 i (Or.inl (by decide))).trans (hx1 i hi)) | exact hx1 i hi | (exfalso; omega))⟩, rfl⟩ (by omega)
              · intro c63
                refine And.intro ⟨rfl, by decide, by decide⟩ (And.intro rfl (And.intro (Or.inr ⟨rfl, by decide, by decide⟩) (fputf fb_740_35 (by decide +kernel) hW (by first | exact ⟨by decide, by decide⟩ | omega) ?_)))
                intro IhB64 ehB64 hB64
                have t65 : IhB64 740 33 = I1 740 33 := (congrFun (congrFun ehB64 740) 33).trans (fup_ne (by first | decide | omega))
                have t66 : IhB64 740 34 = I1 740 34 := (congrFun (congrFun ehB64 740) 34).trans (fup_ne (by first | decide | omega))
                have t67 := fup_at ehB64 35 (by first | rfl | omega)
                have t68 : IhB64 741 12 = I1 741 12 := (congrFun (congrFun ehB64 741) 12).trans (fup_ne (by first | decide | omega))
                have k69 := fBz_eq hB64 (a := 741) (j := 12) (by decide +kernel)
                refine And.intro ⟨rfl, by decide, by decide⟩ (fgetf fb_740_35 h0 hB64 ?_)
                intro z70 lz70 uz70 qz70
                refine And.intro (by first | exact fi_ lz70 uz70 rfl | omega) (And.intro ?_ ?_)
                · intro c71
                  exact fcutJ (I := IhB64) (j := (jc_M_seek_71684_59 x1 x2 x3 x4 x5 I)) (lv' := [(0, .inr (.inr (some 740))), (1, .inl _), (2, .inl _), (3, .inl _), (4, .inl _), (5, .inl _), (6, .inl _)]) (And.intro rfl (And.intro rfl (And.intro rfl (And.intro rfl (And.intro rfl (And.intro rfl (And.intro rfl True.intro))))))) ⟨_, _, _, _, _, _, rfl, rfl, ⟨by omega, (fun p s hp hs => by have hq := (hx0 p s hp hs).1; first | exact nf_skQ (qo_no (hx0 p s hp hs) (fun q => by have q1 := q.1; omega)) (by omega) (by omega) | exact nf_skQ (qo_no (hx0 p s hp hs) (fun q => by have q2 := q.2; omega)) (by omega) (by omega) | exact nf_skQ (qo_spent (hx0 p s hp hs) (by omega) (by omega) ⟨by omega, by omega⟩ rfl ehB64) (by omega) (by omega) | exact nf_skQ (qo_rec (hx0 p s hp hs) (by omega) (by omega) ⟨by omega, by omega⟩ (g0z59 (sUp p x2.toNat ((y6.toNat : Nat) : Int)) _ (path_uq ehB64 ehB31 ehB37 (fun i hi => (hx1 i hi).trans (hp i hi)) (by omega) rfl (by omega)) (qo_in (hx0 p s hp hs) (by omega) (by omega) rfl (by omega) ehB64 ehB31 ehB37))) (by omega) (by omega) | (exfalso; omega)), (fun i hi => by first | exact (g1z59 i (by omega)).trans ((fup_other ehB37 757 i (Or.inr (by omega))).trans ((fup_other ehB31 757 i (Or.inl (by decide))).trans ((fup_other ehB64 757 i (Or.inl (by decide))).trans (hx1 i hi)))) | exact ((fup_other ehB64 757 i (Or.inl (by decide))).trans (hx1 i hi)) | exact hx1 i hi | (exfalso; omega))⟩, rfl⟩ (by omega)
                · intro c72
                  refine And.intro ⟨rfl, by decide, by decide⟩ (fgetf fb_740_34 h0 hB64 ?_)
                  intro z73 lz73 uz73 qz73
                  intro z74 hz74 ez74 bz74
                  try replace bz74 := bz74 (by omega)
                  refine And.intro ⟨rfl, by decide, by decide⟩ (And.intro rfl (And.intro (Or.inl rfl) (fputf fb_740_34 (by decide +kernel) hW (by omega) ?_)))
                  intro IhB75 ehB75 hB75
                  have t76 : IhB75 740 33 = IhB64 740 33 := (congrFun (congrFun ehB75 740) 33).trans (fup_ne (by first | decide | omega))
                  have t77 := fup_at ehB75 34 (by first | rfl | omega)
                  have t78 : IhB75 740 35 = IhB64 740 35 := (congrFun (congrFun ehB75 740) 35).trans (fup_ne (by first | decide | omega))
                  have t79 : IhB75 741 12 = IhB64 741 12 := (congrFun (congrFun ehB75 741) 12).trans (fup_ne (by first | decide | omega))
                  have k80 := fBz_eq hB75 (a := 741) (j := 12) (by decide +kernel)
                  refine And.intro ⟨rfl, by decide, by decide⟩ ?_
                  refine fstore1 rS_757_757_0_6_1_0 (fzs_sub (by decide +kernel) hW) ⟨by decide, by decide⟩ (by first | exact ⟨hb.2.1.1, Int.le_trans hb.2.1.2 (by decide)⟩ | omega) (by first | exact ⟨hb.2.2.2.2.2.1.1, Int.le_trans (Int.le_sub_one_of_lt (Int.lt_of_lt_of_le c6 uz4)) (by decide)⟩ | omega) ?_
                  intro IhB81 ehB81 hB81
                  have t82 := fup_self ehB81
                  have t83 : IhB81 740 33 = IhB75 740 33 := (congrFun (congrFun ehB81 740) 33).trans (fup_ne (by first | exact Or.inl (by decide) | omega))
                  have t84 : IhB81 740 34 = IhB75 740 34 := (congrFun (congrFun ehB81 740) 34).trans (fup_ne (by first | exact Or.inl (by decide) | omega))
                  have t85 : IhB81 740 35 = IhB75 740 35 := (congrFun (congrFun ehB81 740) 35).trans (fup_ne (by first | exact Or.inl (by decide) | omega))
                  have t86 : IhB81 741 12 = IhB75 741 12 := (congrFun (congrFun ehB81 741) 12).trans (fup_ne (by first | exact Or.inl (by decide) | omega))
                  have k87 := fBz_eq hB81 (a := 741) (j := 12) (by decide +kernel)
                  refine And.intro ⟨rfl, by decide, by decide⟩ ?_
                  refine fload rL_741_741_4370_4388_3_0 h0 hB81 (by omega) ?_
                  intro z88 lz88 uz88 qz88
                  have s4 : ∀ j, IhB81 741 j = I 741 j := fun j => (fup_other ehB81 741 j (Or.inl (by decide))).trans ((fup_other ehB75 741 j (Or.inl (by decide))).trans ((fup_other ehB64 741 j (Or.inl (by decide))).trans (sS j)))
                  have w166 := (fld_at qz88 (4370 + 3 * y6.toNat) (by omega)).trans (s4 _)
                  intro z89 hz89 ez89 bz89
                  have bz89 := bz89 (by omega)
                  intro z90 hz90 ez90
                  intro z91 hz91 ez91
                  refine And.intro (by omega) (And.intro ?_ ?_)
                  · intro c92
                    intro z93 hz93 ez93 bz93
                    try replace bz93 := bz93 (by omega)
                    refine Exists.intro xm_485 (And.intro mi_485 (And.intro ⟨rfl, rfl, rfl, rfl⟩ (And.intro rfl ?_)))
                    refine fcall _ h0 (fzs_sub (by decide +kernel) hW) hB81 (ct_M_seek_58809 (fBz h0 hB81) (by first | exact ⟨hb.1.1, hb.1.2⟩ | omega) (by omega) (by omega) (by omega) (by omega) (by omega) (by omega) (by omega)) ?_
                    rintro IhB95 _ hB95 fhB95 ⟨rfl, hz94, g0z94, g1z94⟩
                    have t96 := fhB95 741 12 (by decide +kernel)
                    have k97 := fBz_eq hB95 (a := 741) (j := 12) (by decide +kernel)
                    have wd := sDn_of hz91 (by omega) ez90 ez91
                    have we : z89 = x4 + I 741 (4370 + 3 * y6.toNat) := by omega
                    have ws : z93 = x5 + sMo x1 (x4 + I 741 (4370 + 3 * y6.toNat)) (I 741 (4371 + 3 * y6.toNat)) := by first | (have q := mo_of (span := x1) (e := x4 + I 741 (4370 + 3 * y6.toNat)) w204 (by omega); rw [w199] at q; omega) | (have q : sMo x1 (x4 + I 741 (4370 + 3 * y6.toNat)) (I 741 (4371 + 3 * y6.toNat)) = 0 := if_pos (by omega); omega)
                    simp only [s4] at g0z94
                    rw [wd, we, ws, show (x2 + ((1 : Nat) : Int)).toNat = x2.toNat + 1 by omega] at g0z94
                    exact fcutJ (I := IhB95) (j := (jc_M_seek_71684_59 x1 x2 x3 x4 x5 I)) (lv' := [(0, .inr (.inr (some 740))), (1, .inl _), (2, .inl _), (3, .inl _), (4, .inl _), (5, .inl _), (6, .inl _)]) (And.intro rfl (And.intro rfl (And.intro rfl (And.intro rfl (And.intro rfl (And.intro rfl (And.intro rfl True.intro))))))) ⟨_, _, _, _, _, _, rfl, rfl, ⟨by omega, (fun p s hp hs => by have hq := (hx0 p s hp hs).1; first | exact nf_skQ (qo_no (hx0 p s hp hs) (fun q => by have q1 := q.1; omega)) (by omega) (by omega) | exact nf_skQ (qo_no (hx0 p s hp hs) (fun q => by have q2 := q.2; omega)) (by omega) (by omega) | exact nf_skQ (qo_spent (hx0 p s hp hs) (by omega) (by omega) ⟨by omega, by omega⟩ rfl ehB64) (by omega) (by omega) | exact nf_skQ (qo_rec (hx0 p s hp hs) (by omega) (by omega) ⟨by omega, by omega⟩ (g0z94 (sUp p x2.toNat ((y6.toNat : Nat) : Int)) _ (path_uq ehB64 ehB75 ehB81 (fun i hi => (hx1 i hi).trans (hp i hi)) (by omega) rfl (by omega)) (qo_in (hx0 p s hp hs) (by omega) (by omega) rfl (by omega) ehB64 ehB75 ehB81))) (by omega) (by omega) | (exfalso; omega)), (fun i hi => by first | exact (g1z94 i (by omega)).trans ((fup_other ehB81 757 i (Or.inr (by omega))).trans ((fup_other ehB75 757 i (Or.inl (by decide))).trans ((fup_other ehB64 757 i (Or.inl (by decide))).trans (hx1 i hi)))) | exact ((fup_other ehB64 757 i (Or.inl (by decide))).trans (hx1 i hi)) | exact hx1 i hi | (exfalso; omega))⟩, rfl⟩ (by omega)
                  · intro c98
                    refine And.intro ⟨rfl, by decide, by decide⟩ ?_
                    refine fload rL_741_741_4371_4389_3_0 h0 hB81 (by omega) ?_
                    intro z99 lz99 uz99 qz99
                    have w199 := (fld_at qz99 (4371 + 3 * y6.toNat) (by omega)).trans (s4 _)
                    intro z100 hz100 ez100 bz100
                    have bz100 := bz100 (by omega)
                    intro z101 hz101 ez101 bz101
                    try replace bz101 := bz101 (by omega)
                    have w203 := mul_bd (a := z99) (b := z100) (by omega) (by omega)
                    have w204 : z101 = z99 * z100 := by first | exact bz101 (by omega) | exact bz101
                    intro z102 hz102 ez102 bz102
                    try replace bz102 := bz102 (by omega)
                    refine Exists.intro xm_485 (And.intro mi_485 (And.intro ⟨rfl, rfl, rfl, rfl⟩ (And.intro rfl ?_)))
                    refine fcall _ h0 (fzs_sub (by decide +kernel) hW) hB81 (ct_M_seek_58809 (fBz h0 hB81) (by first | exact ⟨hb.1.1, hb.1.2⟩ | omega) (by omega) (by omega) (by omega) (by omega) (by omega) (by omega) (by omega)) ?_
                    rintro IhB104 _ hB104 fhB104 ⟨rfl, hz103, g0z103, g1z103⟩
                    have t105 := fhB104 741 12 (by decide +kernel)
                    have k106 := fBz_eq hB104 (a := 741) (j := 12) (by decide +kernel)
                    have wd := sDn_of hz91 (by omega) ez90 ez91
                    have we : z89 = x4 + I 741 (4370 + 3 * y6.toNat) := by omega
                    have ws : z102 = x5 + sMo x1 (x4 + I 741 (4370 + 3 * y6.toNat)) (I 741 (4371 + 3 * y6.toNat)) := by first | (have q := mo_of (span := x1) (e := x4 + I 741 (4370 + 3 * y6.toNat)) w204 (by omega); rw [w199] at q; omega) | (have q : sMo x1 (x4 + I 741 (4370 + 3 * y6.toNat)) (I 741 (4371 + 3 * y6.toNat)) = 0 := if_pos (by omega); omega)
                    simp only [s4] at g0z103
                    rw [wd, we, ws, show (x2 + ((1 : Nat) : Int)).toNat = x2.toNat + 1 by omega] at g0z103
                    exact fcutJ (I := IhB104) (j := (jc_M_seek_71684_59 x1 x2 x3 x4 x5 I)) (lv' := [(0, .inr (.inr (some 740))), (1, .inl _), (2, .inl _), (3, .inl _), (4, .inl _), (5, .inl _), (6, .inl _)]) (And.intro rfl (And.intro rfl (And.intro rfl (And.intro rfl (And.intro rfl (And.intro rfl (And.intro rfl True.intro))))))) ⟨_, _, _, _, _, _, rfl, rfl, ⟨by omega, (fun p s hp hs => by have hq := (hx0 p s hp hs).1; first | exact nf_skQ (qo_no (hx0 p s hp hs) (fun q => by have q1 := q.1; omega)) (by omega) (by omega) | exact nf_skQ (qo_no (hx0 p s hp hs) (fun q => by have q2 := q.2; omega)) (by omega) (by omega) | exact nf_skQ (qo_spent (hx0 p s hp hs) (by omega) (by omega) ⟨by omega, by omega⟩ rfl ehB64) (by omega) (by omega) | exact nf_skQ (qo_rec (hx0 p s hp hs) (by omega) (by omega) ⟨by omega, by omega⟩ (g0z103 (sUp p x2.toNat ((y6.toNat : Nat) : Int)) _ (path_uq ehB64 ehB75 ehB81 (fun i hi => (hx1 i hi).trans (hp i hi)) (by omega) rfl (by omega)) (qo_in (hx0 p s hp hs) (by omega) (by omega) rfl (by omega) ehB64 ehB75 ehB81))) (by omega) (by omega) | (exfalso; omega)), (fun i hi => by first | exact (g1z103 i (by omega)).trans ((fup_other ehB81 757 i (Or.inr (by omega))).trans ((fup_other ehB75 757 i (Or.inl (by decide))).trans ((fup_other ehB64 757 i (Or.inl (by decide))).trans (hx1 i hi)))) | exact ((fup_other ehB64 757 i (Or.inl (by decide))).trans (hx1 i hi)) | exact hx1 i hi | (exfalso; omega))⟩, rfl⟩ (by omega)
            · intro c107
              exact fcutJ (I := I1) (j := (jc_M_seek_71684_59 x1 x2 x3 x4 x5 I)) (lv' := [(0, .inr (.inr (some 740))), (1, .inl _), (2, .inl _), (3, .inl _), (4, .inl _), (5, .inl _), (6, .inl _)]) (And.intro rfl (And.intro rfl (And.intro rfl (And.intro rfl (And.intro rfl (And.intro rfl (And.intro rfl True.intro))))))) ⟨_, _, _, _, _, _, rfl, rfl, ⟨by omega, (fun p s hp hs => by have hq := (hx0 p s hp hs).1; first | exact nf_skQ (qo_no (hx0 p s hp hs) (fun q => by have q1 := q.1; omega)) (by omega) (by omega) | exact nf_skQ (qo_no (hx0 p s hp hs) (fun q => by have q2 := q.2; omega)) (by omega) (by omega) | exact nf_skQ (qo_spent (hx0 p s hp hs) (by omega) (by omega) ⟨by omega, by omega⟩ rfl ehB64) (by omega) (by omega) | exact nf_skQ (qo_rec (hx0 p s hp hs) (by omega) (by omega) ⟨by omega, by omega⟩ (g0z103 (sUp p x2.toNat ((y6.toNat : Nat) : Int)) _ (path_uq ehB64 ehB75 ehB81 (fun i hi => (hx1 i hi).trans (hp i hi)) (by omega) rfl (by omega)) (qo_in (hx0 p s hp hs) (by omega) (by omega) rfl (by omega) ehB64 ehB75 ehB81))) (by omega) (by omega) | (exfalso; omega)), (fun i hi => by first | exact (g1z103 i (by omega)).trans ((fup_other ehB81 757 i (Or.inr (by omega))).trans ((fup_other ehB75 757 i (Or.inl (by decide))).trans ((fup_other ehB64 757 i (Or.inl (by decide))).trans (hx1 i hi)))) | exact ((fup_other ehB64 757 i (Or.inl (by decide))).trans (hx1 i hi)) | exact hx1 i hi | (exfalso; omega))⟩, rfl⟩ (by omega)
  · have hB0 := fB_self (zn := znJ) (K := fKc wz_4d25e) h0
    have b108 := fBd fb_741_12 (fBz h0 hB0)
    have b109 := fBd fb_740_35 (fBz h0 hB0)
    refine And.intro ⟨rfl, by decide, by decide⟩ ?_
    refine fload1 rL_741_741_12_12_1_0 h0 hB0 ⟨by decide, by decide⟩ (by first | exact ⟨by decide, by decide⟩ | omega) ?_
    intro z110 lz110 uz110 qz110
    have pz110 := fld_at qz110 12 (by omega)
    refine And.intro (And.intro (by first | exact fi_ ha2.1 ha2.2 rfl | omega) (by first | exact fi_ lz110 uz110 rfl | omega)) (And.intro ?_ ?_)
    · intro c111
      exact fcutJ (I := I) (j := (jc_M_seek_71684_59 x1 x2 x3 x4 x5 I)) (lv' := [(0, .inr (.inr (some 740))), (1, .inl _), (2, .inl _), (3, .inl _), (4, .inl _), (5, .inl _), (6, .inl _)]) (And.intro rfl (And.intro rfl (And.intro rfl (And.intro rfl (And.intro rfl (And.intro rfl (And.intro rfl True.intro))))))) ⟨_, _, _, _, _, _, rfl, rfl, ⟨by omega, (fun p s hp hs => hs), (fun i _ => rfl)⟩, rfl⟩ (by omega)
    · intro c112
      refine And.intro ⟨rfl, by decide, by decide⟩ (fgetf fb_740_33 h0 hB0 ?_)
      intro z113 lz113 uz113 qz113
      refine And.intro (And.intro (by first | exact fi_ ha5.1 ha5.2 rfl | omega) (by first | exact fi_ lz113 uz113 rfl | omega)) (And.intro ?_ ?_)
      · intro c114
        exact ⟨rfl, True.intro, (fun p s hp hs => by rw [sk_tk (by omega)]; first | exact tq_yes hs (by omega) (by omega) (fun i hi => hp i (by omega)) (by omega) (by omega) (by omega) (fun i hi => hx0 i (by omega)) | exact tq_yes hs (by omega) (by omega) (fun i hi => hp i (by omega)) (by omega) (by omega) (by omega) (fun i hi => absurd hi (by omega)) | exact tq_no hs (by omega) (by omega)), (by first | exact (fun i _ => hx1 i) | exact (fun i _ => rfl) | exact (fun i _ => fup_other enil0 757 i (Or.inl (by decide))))⟩
      · intro c115
        refine And.intro ⟨rfl, by decide, by decide⟩ (And.intro rfl (And.intro (Or.inl rfl) (fputf fb_740_33 (by decide +kernel) hW (by first | exact ⟨Int.le_trans (by decide) ha5.1, Int.le_trans ha5.2 (by decide)⟩ | omega) ?_)))
        intro IhB116 ehB116 hB116
        have t117 := fup_at ehB116 33 (by first | rfl | omega)
        have t118 : IhB116 740 34 = I 740 34 := (congrFun (congrFun ehB116 740) 34).trans (fup_ne (by first | decide | omega))
        have t119 : IhB116 740 35 = I 740 35 := (congrFun (congrFun ehB116 740) 35).trans (fup_ne (by first | decide | omega))
        have t120 : IhB116 741 12 = I 741 12 := (congrFun (congrFun ehB116 741) 12).trans (fup_ne (by first | decide | omega))
        have k121 := fBz_eq hB116 (a := 741) (j := 12) (by decide +kernel)
        refine And.intro (And.intro (by first | exact ⟨by decide, by decide⟩ | omega) (by first | exact fi_ ha2.1 ha2.2 rfl | omega)) (And.intro ?_ ?_)
        · intro c122
          exact ⟨rfl, True.intro, (fun p s hp hs => by rw [sk_tk (by omega)]; first | exact tq_yes hs (by omega) (by omega) (fun i hi => hp i (by omega)) (by omega) (by omega) (by omega) (fun i hi => hx0 i (by omega)) | exact tq_yes hs (by omega) (by omega) (fun i hi => hp i (by omega)) (by omega) (by omega) (by omega) (fun i hi => absurd hi (by omega)) | exact tq_no hs (by omega) (by omega)), (by first | exact (fun i _ => hx1 i) | exact (fun i _ => rfl) | exact (fun i _ => fup_other ehB116 757 i (Or.inl (by decide))))⟩
        · intro c123
          exfalso
          omega
set_option maxRecDepth 8000 in
theorem ct_M_findOrder_1fb74 {I : fH} {x1 : Int} {x2 : Int} (h0 : fB bsJ I) (ha1 : (1 ≤ x1 ∧ x1 ≤ 60)) (ha2 : (1 ≤ x2 ∧ x2 ≤ 20000)) : fC ρ base n F xTc vwCl xTys D dA la gJ (fbz bsJ znJ (fKc wz_4d25e) I) xm_478 [.inr (.inr (some 740)), .inl x1, .inl x2] I (fun I' r => ∃ z, r = some (.inl z) ∧ ((0 ≤ z ∧ z ≤ 2147483647) ∨ z = (-1000000004) ∨ z = (-1000000002)) ∧ (z = bsZ (bsF (I 741 12).toNat (fun b => I 741 (4370 + 3 * b)) (fun b => I 741 (4371 + 3 * b)) (fun b => I 741 (4372 + 3 * b)) x1 x2)) ∧ ((bsF (I 741 12).toNat (fun b => I 741 (4370 + 3 * b)) (fun b => I 741 (4371 + 3 * b)) (fun b => I 741 (4372 + 3 * b)) x1 x2).2.1 ≠ -1000000002 → ∀ i : Nat, i < (I 741 12).toNat → I' 758 i = (bsF (I 741 12).toNat (fun b => I 741 (4370 + 3 * b)) (fun b => I 741 (4371 + 3 * b)) (fun b => I 741 (4372 + 3 * b)) x1 x2).2.2 i)) := by
  have hW : fzs wz_4d25e (fKc wz_4d25e) := fKc_ok _
  refine f_meth (rb := rbJ) (J := []) 1 400 xG xin_478 x6_478 okJ (fB_self h0) ?_ ?_
  · exact fun q h => absurd h List.not_mem_nil
  · have hB0 := fB_self (zn := znJ) (K := fKc wz_4d25e) h0
    have b1 := fBd fb_741_12 (fBz h0 hB0)
    have b2 := fBd fb_740_35 (fBz h0 hB0)
    refine And.intro ⟨rfl, by decide, by decide⟩ (And.intro rfl (And.intro (Or.inl rfl) (fputf fb_740_33 (by decide +kernel) hW (by first | exact ⟨by decide, by decide⟩ | omega) ?_)))
    intro IhB3 ehB3 hB3
    have t4 := fup_at ehB3 33 (by first | rfl | omega)
    have t5 : IhB3 740 34 = I 740 34 := (congrFun (congrFun ehB3 740) 34).trans (fup_ne (by first | decide | omega))
    have t6 : IhB3 740 35 = I 740 35 := (congrFun (congrFun ehB3 740) 35).trans (fup_ne (by first | decide | omega))
    refine And.intro ⟨rfl, by decide, by decide⟩ (And.intro rfl (And.intro (Or.inl rfl) (fputf fb_740_34 (by decide +kernel) hW (by first | exact ⟨Int.le_trans (by decide) ha2.1, Int.le_trans ha2.2 (by decide)⟩ | omega) ?_)))
    intro IhB7 ehB7 hB7
    have t8 : IhB7 740 33 = IhB3 740 33 := (congrFun (congrFun ehB7 740) 33).trans (fup_ne (by first | decide | omega))
    have t9 := fup_at ehB7 34 (by first | rfl | omega)
    have t10 : IhB7 740 35 = IhB3 740 35 := (congrFun (congrFun ehB7 740) 35).trans (fup_ne (by first | decide | omega))
    refine And.intro ⟨rfl, by decide, by decide⟩ (And.intro rfl (And.intro (Or.inr ⟨rfl, by decide, by decide⟩) (fputf fb_740_35 (by decide +kernel) hW (by first | exact ⟨by decide, by decide⟩ | omega) ?_)))
    intro IhB11 ehB11 hB11
    have t12 : IhB11 740 33 = IhB7 740 33 := (congrFun (congrFun ehB11 740) 33).trans (fup_ne (by first | decide | omega))
    have t13 : IhB11 740 34 = IhB7 740 34 := (congrFun (congrFun ehB11 740) 34).trans (fup_ne (by first | decide | omega))
    have t14 := fup_at ehB11 35 (by first | rfl | omega)
    have b12 := fBd fb_741_12 (fBz h0 hB11)
    refine Exists.intro xm_486 (And.intro mi_486 (And.intro ⟨rfl, rfl, rfl, rfl⟩ (And.intro rfl ?_)))
    refine fcall _ h0 (fzs_sub (by decide +kernel) hW) hB11 (ct_M_seek_71684 (fBz h0 hB11) (by first | exact ⟨ha1.1, ha1.2⟩ | omega) (by first | exact ⟨by decide, by decide⟩ | omega) (by first | exact ⟨by decide, by decide⟩ | omega) (by first | exact ⟨by decide, by decide⟩ | omega) (by first | exact ⟨by decide, by decide⟩ | omega) (by omega) (by omega) (by omega)) ?_
    rintro IhB16 _ hB16 fhB16 ⟨rfl, hz15, g0z15, g1z15⟩
    have s4 : ∀ j, IhB11 741 j = I 741 j := fun j => (fup_other ehB11 741 j (Or.inl (by decide))).trans ((fup_other ehB7 741 j (Or.inl (by decide))).trans (fup_other ehB3 741 j (Or.inl (by decide))))
    simp only [s4] at g0z15
    have w21 := g0z15 (fun _ => 0) (x2, -1000000002, fun _ => 0) (fun i hi => absurd hi (by omega)) (bq_in (by omega) (by omega) (by omega) (by omega))
    refine And.intro ⟨rfl, by decide, by decide⟩ (fgetf fb_740_35 h0 hB16 ?_)
    intro z17 lz17 uz17 qz17
    refine And.intro (by first | exact fi_ lz17 uz17 rfl | omega) (And.intro ?_ ?_)
    · intro c18
      refine And.intro ⟨rfl, by decide, by decide⟩ (fgetf fb_740_33 h0 hB16 ?_)
      intro z19 lz19 uz19 qz19
      refine And.intro (by first | exact fi_ lz19 uz19 rfl | omega) (And.intro ?_ ?_)
      · intro c20
        refine And.intro ⟨rfl, by decide, by decide⟩ (fgetf fb_740_33 h0 hB16 ?_)
        intro z21 lz21 uz21 qz21
        refine And.intro (True.intro) ?_
        exact ⟨_, rfl, by omega, (bq_z w21 (by omega)), w21.2.2⟩
      · intro c22
        refine And.intro (True.intro) ?_
        exact ⟨_, rfl, by omega, (bq_z w21 (by omega)), w21.2.2⟩
    · intro c23
      refine And.intro (True.intro) ?_
      exact ⟨_, rfl, by omega, (bq_z w21 (by omega)), w21.2.2⟩
set_option maxRecDepth 8000 in
theorem ct_M_isYears_9dc65 {I : fH} {x0 : Int} (h0 : fB bsJ I) (ha0 : ((-2147483648) ≤ x0 ∧ x0 ≤ 2147483647)) : fC ρ base n F xTc vwCl xTys D dA la gJ (fbz bsJ znJ (fKc []) I) xm_477 [.inl x0] I (fun _ r => ∃ z, r = some (.inl z) ∧ (((z = 1 ∧ 1 ≤ x0 ∧ x0 ≤ 60) ∨ z = 0) ∧ (z = 0 → ¬ (1 ≤ x0 ∧ x0 ≤ 60)))) := by
  have hW : fzs [] (fKc []) := fKc_ok _
  refine f_meth (rb := rbJ) (J := []) 1 400 xG xin_477 x6_477 okJ (fB_self h0) ?_ ?_
  · exact fun q h => absurd h List.not_mem_nil
  · have hB0 := fB_self (zn := znJ) (K := fKc []) h0
    refine And.intro (by first | exact fi_ ha0.1 ha0.2 rfl | omega) ?_
    refine Exists.intro xm_238 (And.intro mi_238 (And.intro ⟨rfl, rfl, rfl, rfl⟩ (And.intro True.intro ?_)))
    refine fcallp hB0 (ct_M_isIn_27230 (fBz h0 hB0) (by first | exact ⟨ha0.1, ha0.2⟩ | omega) (by first | exact ⟨by decide, by decide⟩ | omega) (by first | exact ⟨by decide, by decide⟩ | omega)) ?_
    rintro _ ⟨z1, rfl, hz1⟩
    refine And.intro (⟨by omega, by omega⟩) ?_
    exact ⟨_, rfl, by omega⟩
set_option maxRecDepth 8000 in
theorem ct_M_plan_47fe7 {I : fH} {x1 : Int} {x2 : Int} (h0 : fB bsJ I) (ha1 : ((-2147483648) ≤ x1 ∧ x1 ≤ 2147483647)) (ha2 : ((-2147483648) ≤ x2 ∧ x2 ≤ 2147483647)) : fC ρ base n F xTc vwCl xTys D dA la gJ (fbz bsJ znJ (fKc wz_4d25e) I) xm_476 [.inr (.inr (some 740)), .inl x1, .inl x2] I (fun _ r => ∃ z, r = some (.inl z) ∧ ((0 ≤ z ∧ z ≤ 2147483647) ∨ z = (-1000000004) ∨ z = (-1000000002) ∨ z = (-1000000001)) ∧ (((1 ≤ x1 ∧ x1 ≤ 60 ∧ 1 ≤ x2 ∧ x2 ≤ 20000) ∧ z = bsZ (bsF (I 741 12).toNat (fun b => I 741 (4370 + 3 * b)) (fun b => I 741 (4371 + 3 * b)) (fun b => I 741 (4372 + 3 * b)) x1 x2)) ∨ (¬ (1 ≤ x1 ∧ x1 ≤ 60 ∧ 1 ≤ x2 ∧ x2 ≤ 20000) ∧ z = (-1000000001)))) := by
  have hW : fzs wz_4d25e (fKc wz_4d25e) := fKc_ok _
  refine f_meth (rb := rbJ) (J := []) 1 400 xG xin_476 x6_476 okJ (fB_self h0) ?_ ?_
  · exact fun q h => absurd h List.not_mem_nil
  · have hB0 := fB_self (zn := znJ) (K := fKc wz_4d25e) h0
    refine Exists.intro xm_477 (And.intro mi_477 (And.intro ⟨rfl, rfl, rfl, rfl⟩ (And.intro True.intro ?_)))
    refine fcallp hB0 (ct_M_isYears_9dc65 (fBz h0 hB0) (by first | exact ⟨ha1.1, ha1.2⟩ | omega)) ?_
    rintro _ ⟨z1, rfl, hz1⟩
    refine And.intro (by omega) (And.intro ?_ ?_)
    · intro c2
      refine And.intro (True.intro) ?_
      exact ⟨_, rfl, by omega, (by first | exact Or.inl ⟨by omega, g0nil0⟩ | exact Or.inr ⟨by omega, by omega⟩)⟩
    · intro c3
      refine And.intro (by first | exact fi_ ha2.1 ha2.2 rfl | omega) ?_
      refine Exists.intro xm_238 (And.intro mi_238 (And.intro ⟨rfl, rfl, rfl, rfl⟩ (And.intro True.intro ?_)))
      refine fcallp hB0 (ct_M_isIn_27230 (fBz h0 hB0) (by first | exact ⟨ha2.1, ha2.2⟩ | omega) (by first | exact ⟨by decide, by decide⟩ | omega) (by first | exact ⟨by decide, by decide⟩ | omega)) ?_
      rintro _ ⟨z4, rfl, hz4⟩
      refine And.intro (by omega) (And.intro ?_ ?_)
      · intro c5
        refine And.intro (True.intro) ?_
        exact ⟨_, rfl, by omega, (by first | exact Or.inl ⟨by omega, g0nil0⟩ | exact Or.inr ⟨by omega, by omega⟩)⟩
      · intro c6
        refine Exists.intro xm_478 (And.intro mi_478 (And.intro ⟨rfl, rfl, rfl, rfl⟩ (And.intro rfl ?_)))
        refine fcall _ h0 (fzs_sub (by decide +kernel) hW) hB0 (ct_M_findOrder_1fb74 (fBz h0 hB0) (by omega) (by first | exact ⟨Int.le_trans (by decide) (Int.le_trans (Int.le_refl _) hz4.1), Int.le_trans (Int.le_trans hz4.2 (Int.le_refl _)) (by decide)⟩ | omega)) ?_
        rintro IhB8 _ hB8 fhB8 ⟨z7, rfl, hz7, g0z7, g1z7⟩
        refine And.intro (True.intro) ?_
        exact ⟨_, rfl, by omega, (by first | exact Or.inl ⟨by omega, g0z7⟩ | exact Or.inr ⟨by omega, by omega⟩)⟩
set_option maxRecDepth 8000 in
theorem ct_X_planned_1f2a9 {I : fH} {x1 : Int} {x2 : Int} (h0 : fB bsJ I) (ha1 : ((-2147483648) ≤ x1 ∧ x1 ≤ 2147483647)) (ha2 : ((-2147483648) ≤ x2 ∧ x2 ≤ 2147483647)) : fC ρ base n F xTc vwCl xTys D dA la gJ (fbz bsJ znJ (fKc wz_79e74) I) xm_216 [.inr (.inr (some 0)), .inl x1, .inl x2] I (fun _ r => ∃ z, r = some (.inl z) ∧ ((-2147483648) ≤ z ∧ z ≤ 6) ∧ (((1 ≤ x1 ∧ x1 ≤ 60 ∧ 0 ≤ x2) ∧ ((bsZ (bsF (I 211 15).toNat (I 254) (I 255) (I 256) x1 ((20000 : Nat) : Int)) < 0 ∧ z = bsZ (bsF (I 211 15).toNat (I 254) (I 255) (I 256) x1 ((20000 : Nat) : Int))) ∨ (0 ≤ bsZ (bsF (I 211 15).toNat (I 254) (I 255) (I 256) x1 ((20000 : Nat) : Int)) ∧ x2 < I 211 15 ∧ z = (bsF (I 211 15).toNat (I 254) (I 255) (I 256) x1 ((20000 : Nat) : Int)).2.2 x2.toNat) ∨ (0 ≤ bsZ (bsF (I 211 15).toNat (I 254) (I 255) (I 256) x1 ((20000 : Nat) : Int)) ∧ I 211 15 ≤ x2 ∧ z = -1000000005))) ∨ (¬ (1 ≤ x1 ∧ x1 ≤ 60 ∧ 0 ≤ x2) ∧ z = (-1000000001)))) := by
  have hW : fzs wz_79e74 (fKc wz_79e74) := fKc_ok _
  refine f_meth (rb := rbJ) (J := []) 1 400 xG xin_216 x6_216 okJ (fB_self h0) ?_ ?_
  · exact fun q h => absurd h List.not_mem_nil
  · have hB0 := fB_self (zn := znJ) (K := fKc wz_79e74) h0
    refine Exists.intro xm_13 (And.intro mi_13 (And.intro ⟨rfl, rfl, rfl, rfl⟩ (And.intro True.intro ?_)))
    refine fcallp hB0 (ct_X_within_c27b1 (fBz h0 hB0) (by first | exact ⟨ha1.1, ha1.2⟩ | omega) (by first | exact ⟨by decide, by decide⟩ | omega) (by first | exact ⟨by decide, by decide⟩ | omega)) ?_
    rintro _ ⟨z1, rfl, hz1⟩
    refine And.intro (by omega) (And.intro ?_ ?_)
    · intro c2
      refine And.intro (True.intro) ?_
      exact ⟨_, rfl, (by first | exact ⟨by decide, by decide⟩ | omega), (by first | exact Or.inr ⟨by omega, by omega⟩ | exact Or.inl ⟨by omega, Or.inl ⟨by rw [← g0nil0]; omega, g0nil0⟩⟩ | exact Or.inl ⟨by omega, Or.inr (Or.inl ⟨by rw [← g0nil0]; omega, by omega, qnil0.trans (g1nil0 (bs_ok (by rw [← g0nil0]; omega)) _ (by omega))⟩)⟩ | exact Or.inl ⟨by omega, Or.inr (Or.inr ⟨by rw [← g0nil0]; omega, by omega, by omega⟩)⟩)⟩
    · intro c3
      refine And.intro (by first | exact fi_ ha2.1 ha2.2 rfl | omega) (And.intro ?_ ?_)
      · intro c4
        refine And.intro ⟨rfl, by decide, by decide⟩ ?_
        refine And.intro ⟨rfl, by decide, by decide⟩ ?_
        refine Exists.intro xm_206 (And.intro mi_206 (And.intro ⟨rfl, rfl, rfl, rfl⟩ (And.intro rfl ?_)))
        refine fcall _ h0 (fzs_sub (by decide +kernel) hW) hB0 (ct_Order_bestSum_ae03f (fBz h0 hB0) (by first | exact ⟨Int.le_trans (by decide) (Int.le_trans (Int.le_refl _) hz1.1), Int.le_trans (Int.le_trans hz1.2 (Int.le_refl _)) (by decide)⟩ | omega) (by first | exact ⟨by decide, by decide⟩ | omega)) ?_
        rintro IhB6 _ hB6 fhB6 ⟨z5, rfl, hz5, g0z5, g1z5⟩
        have k7 := fBz_eq hB6 (a := 211) (j := 15) (by decide +kernel)
        refine And.intro (by first | exact fi_ hz5.1 hz5.2 rfl | omega) (And.intro ?_ ?_)
        · intro c8
          refine And.intro ⟨rfl, by decide, by decide⟩ ?_
          refine And.intro ⟨rfl, by decide, by decide⟩ (fgetf fb_211_15 h0 hB6 ?_)
          intro z9 lz9 uz9 qz9
          refine And.intro (And.intro (by first | exact fi_ (Int.le_trans (Int.le_refl _) c4) ha2.2 rfl | omega) (by first | exact fi_ lz9 uz9 rfl | omega)) (And.intro ?_ ?_)
          · intro c10
            refine And.intro (True.intro) ?_
            exact ⟨_, rfl, by omega, (by first | exact Or.inr ⟨by omega, by omega⟩ | exact Or.inl ⟨by omega, Or.inl ⟨by rw [← g0z5]; omega, g0z5⟩⟩ | exact Or.inl ⟨by omega, Or.inr (Or.inl ⟨by rw [← g0z5]; omega, by omega, qnil0.trans (g1z5 (bs_ok (by rw [← g0z5]; omega)) _ (by omega))⟩)⟩ | exact Or.inl ⟨by omega, Or.inr (Or.inr ⟨by rw [← g0z5]; omega, by omega, by omega⟩)⟩)⟩
          · intro c11
            refine And.intro ⟨rfl, by decide, by decide⟩ ?_
            refine And.intro ⟨rfl, by decide, by decide⟩ ?_
            refine fload1 rL_736_736_0_6_1_0 h0 hB6 ⟨by decide, by decide⟩ (by first | exact ⟨Int.le_trans (by decide) (Int.le_trans (Int.le_refl _) c4), Int.le_trans (Int.le_sub_one_of_lt (Int.lt_of_lt_of_le c11 uz9)) (by decide)⟩ | omega) ?_
            intro z12 lz12 uz12 qz12
            refine And.intro (True.intro) ?_
            exact ⟨_, rfl, (by first | exact ⟨Int.le_trans (by decide) lz12, uz12⟩ | omega), (by first | exact Or.inr ⟨by omega, by omega⟩ | exact Or.inl ⟨by omega, Or.inl ⟨by rw [← g0z5]; omega, g0z5⟩⟩ | exact Or.inl ⟨by omega, Or.inr (Or.inl ⟨by rw [← g0z5]; omega, by omega, qz12.trans (g1z5 (bs_ok (by rw [← g0z5]; omega)) _ (by omega))⟩)⟩ | exact Or.inl ⟨by omega, Or.inr (Or.inr ⟨by rw [← g0z5]; omega, by omega, by omega⟩)⟩)⟩
        · intro c13
          refine And.intro (True.intro) ?_
          exact ⟨_, rfl, (by first | exact ⟨hz5.1, Int.le_trans (Int.le_sub_one_of_lt (Int.lt_of_lt_of_le c13 (Int.le_refl _))) (by decide)⟩ | omega), (by first | exact Or.inr ⟨by omega, by omega⟩ | exact Or.inl ⟨by omega, Or.inl ⟨by rw [← g0z5]; omega, g0z5⟩⟩ | exact Or.inl ⟨by omega, Or.inr (Or.inl ⟨by rw [← g0z5]; omega, by omega, qz12.trans (g1z5 (bs_ok (by rw [← g0z5]; omega)) _ (by omega))⟩)⟩ | exact Or.inl ⟨by omega, Or.inr (Or.inr ⟨by rw [← g0z5]; omega, by omega, by omega⟩)⟩)⟩
      · intro c14
        refine And.intro (True.intro) ?_
        exact ⟨_, rfl, (by first | exact ⟨by decide, by decide⟩ | omega), (by first | exact Or.inr ⟨by omega, by omega⟩ | exact Or.inl ⟨by omega, Or.inl ⟨by rw [← g0z5]; omega, g0z5⟩⟩ | exact Or.inl ⟨by omega, Or.inr (Or.inl ⟨by rw [← g0z5]; omega, by omega, qz12.trans (g1z5 (bs_ok (by rw [← g0z5]; omega)) _ (by omega))⟩)⟩ | exact Or.inl ⟨by omega, Or.inr (Or.inr ⟨by rw [← g0z5]; omega, by omega, by omega⟩)⟩)⟩
set_option maxRecDepth 8000 in
theorem ct_M_planned_1c024 {I : fH} {x1 : Int} {x2 : Int} (h0 : fB bsJ I) (ha1 : ((-2147483648) ≤ x1 ∧ x1 ≤ 2147483647)) (ha2 : ((-2147483648) ≤ x2 ∧ x2 ≤ 2147483647)) : fC ρ base n F xTc vwCl xTys D dA la gJ (fbz bsJ znJ (fKc wz_4d25e) I) xm_487 [.inr (.inr (some 740)), .inl x1, .inl x2] I (fun _ r => ∃ z, r = some (.inl z) ∧ ((0 ≤ z ∧ z ≤ 6) ∨ z = (-1000000005) ∨ z = (-1000000004) ∨ z = (-1000000002) ∨ z = (-1000000001)) ∧ (((1 ≤ x1 ∧ x1 ≤ 60 ∧ 0 ≤ x2) ∧ ((bsZ (bsF (I 741 12).toNat (fun b => I 741 (4370 + 3 * b)) (fun b => I 741 (4371 + 3 * b)) (fun b => I 741 (4372 + 3 * b)) x1 ((20000 : Nat) : Int)) < 0 ∧ z = bsZ (bsF (I 741 12).toNat (fun b => I 741 (4370 + 3 * b)) (fun b => I 741 (4371 + 3 * b)) (fun b => I 741 (4372 + 3 * b)) x1 ((20000 : Nat) : Int))) ∨ (0 ≤ bsZ (bsF (I 741 12).toNat (fun b => I 741 (4370 + 3 * b)) (fun b => I 741 (4371 + 3 * b)) (fun b => I 741 (4372 + 3 * b)) x1 ((20000 : Nat) : Int)) ∧ x2 < I 741 12 ∧ z = (bsF (I 741 12).toNat (fun b => I 741 (4370 + 3 * b)) (fun b => I 741 (4371 + 3 * b)) (fun b => I 741 (4372 + 3 * b)) x1 ((20000 : Nat) : Int)).2.2 x2.toNat) ∨ (0 ≤ bsZ (bsF (I 741 12).toNat (fun b => I 741 (4370 + 3 * b)) (fun b => I 741 (4371 + 3 * b)) (fun b => I 741 (4372 + 3 * b)) x1 ((20000 : Nat) : Int)) ∧ I 741 12 ≤ x2 ∧ z = -1000000005))) ∨ (¬ (1 ≤ x1 ∧ x1 ≤ 60 ∧ 0 ≤ x2) ∧ z = (-1000000001)))) := by
  have hW : fzs wz_4d25e (fKc wz_4d25e) := fKc_ok _
  refine f_meth (rb := rbJ) (J := []) 1 400 xG xin_487 x6_487 okJ (fB_self h0) ?_ ?_
  · exact fun q h => absurd h List.not_mem_nil
  · have hB0 := fB_self (zn := znJ) (K := fKc wz_4d25e) h0
    refine Exists.intro xm_477 (And.intro mi_477 (And.intro ⟨rfl, rfl, rfl, rfl⟩ (And.intro True.intro ?_)))
    refine fcallp hB0 (ct_M_isYears_9dc65 (fBz h0 hB0) (by first | exact ⟨ha1.1, ha1.2⟩ | omega)) ?_
    rintro _ ⟨z1, rfl, hz1⟩
    refine And.intro (by omega) (And.intro ?_ ?_)
    · intro c2
      refine And.intro (True.intro) ?_
      exact ⟨_, rfl, by omega, (by first | exact Or.inr ⟨by omega, by omega⟩ | exact Or.inl ⟨by omega, Or.inl ⟨by rw [← g0nil0]; omega, g0nil0⟩⟩ | exact Or.inl ⟨by omega, Or.inr (Or.inl ⟨by rw [← g0nil0]; omega, by omega, qnil0.trans (g1nil0 (bs_ok (by rw [← g0nil0]; omega)) _ (by omega))⟩)⟩ | exact Or.inl ⟨by omega, Or.inr (Or.inr ⟨by rw [← g0nil0]; omega, by omega, by omega⟩)⟩)⟩
    · intro c3
      refine And.intro (by first | exact fi_ ha2.1 ha2.2 rfl | omega) (And.intro ?_ ?_)
      · intro c4
        refine Exists.intro xm_478 (And.intro mi_478 (And.intro ⟨rfl, rfl, rfl, rfl⟩ (And.intro rfl ?_)))
        refine fcall _ h0 (fzs_sub (by decide +kernel) hW) hB0 (ct_M_findOrder_1fb74 (fBz h0 hB0) (by omega) (by first | exact ⟨by decide, by decide⟩ | omega)) ?_
        rintro IhB6 _ hB6 fhB6 ⟨z5, rfl, hz5, g0z5, g1z5⟩
        have k7 := fBz_eq hB6 (a := 741) (j := 12) (by decide +kernel)
        refine And.intro (by omega) (And.intro ?_ ?_)
        · intro c8
          refine And.intro ⟨rfl, by decide, by decide⟩ ?_
          refine fload1 rL_741_741_12_12_1_0 h0 hB6 ⟨by decide, by decide⟩ (by first | exact ⟨by decide, by decide⟩ | omega) ?_
          intro z9 lz9 uz9 qz9
          have pz9 := fld_at qz9 12 (by omega)
          refine And.intro (And.intro (by first | exact fi_ (Int.le_trans (Int.le_refl _) c4) ha2.2 rfl | omega) (by first | exact fi_ lz9 uz9 rfl | omega)) (And.intro ?_ ?_)
          · intro c10
            refine And.intro (True.intro) ?_
            exact ⟨_, rfl, by omega, (by first | exact Or.inr ⟨by omega, by omega⟩ | exact Or.inl ⟨by omega, Or.inl ⟨by rw [← g0z5]; omega, g0z5⟩⟩ | exact Or.inl ⟨by omega, Or.inr (Or.inl ⟨by rw [← g0z5]; omega, by omega, qnil0.trans (g1z5 (bs_ok (by rw [← g0z5]; omega)) _ (by omega))⟩)⟩ | exact Or.inl ⟨by omega, Or.inr (Or.inr ⟨by rw [← g0z5]; omega, by omega, by omega⟩)⟩)⟩
          · intro c11
            refine And.intro ⟨rfl, by decide, by decide⟩ ?_
            refine fload1 rL_758_758_0_6_1_0 h0 hB6 ⟨by decide, by decide⟩ (by first | exact ⟨Int.le_trans (by decide) (Int.le_trans (Int.le_refl _) c4), Int.le_trans (Int.le_sub_one_of_lt (Int.lt_of_lt_of_le c11 uz9)) (by decide)⟩ | omega) ?_
            intro z12 lz12 uz12 qz12
            refine And.intro (True.intro) ?_
            exact ⟨_, rfl, by omega, (by first | exact Or.inr ⟨by omega, by omega⟩ | exact Or.inl ⟨by omega, Or.inl ⟨by rw [← g0z5]; omega, g0z5⟩⟩ | exact Or.inl ⟨by omega, Or.inr (Or.inl ⟨by rw [← g0z5]; omega, by omega, qz12.trans (g1z5 (bs_ok (by rw [← g0z5]; omega)) _ (by omega))⟩)⟩ | exact Or.inl ⟨by omega, Or.inr (Or.inr ⟨by rw [← g0z5]; omega, by omega, by omega⟩)⟩)⟩
        · intro c13
          refine And.intro (True.intro) ?_
          exact ⟨_, rfl, by omega, (by first | exact Or.inr ⟨by omega, by omega⟩ | exact Or.inl ⟨by omega, Or.inl ⟨by rw [← g0z5]; omega, g0z5⟩⟩ | exact Or.inl ⟨by omega, Or.inr (Or.inl ⟨by rw [← g0z5]; omega, by omega, qz12.trans (g1z5 (bs_ok (by rw [← g0z5]; omega)) _ (by omega))⟩)⟩ | exact Or.inl ⟨by omega, Or.inr (Or.inr ⟨by rw [← g0z5]; omega, by omega, by omega⟩)⟩)⟩
      · intro c14
        refine And.intro (True.intro) ?_
        exact ⟨_, rfl, by omega, (by first | exact Or.inr ⟨by omega, by omega⟩ | exact Or.inl ⟨by omega, Or.inl ⟨by rw [← g0z5]; omega, g0z5⟩⟩ | exact Or.inl ⟨by omega, Or.inr (Or.inl ⟨by rw [← g0z5]; omega, by omega, qz12.trans (g1z5 (bs_ok (by rw [← g0z5]; omega)) _ (by omega))⟩)⟩ | exact Or.inl ⟨by omega, Or.inr (Or.inr ⟨by rw [← g0z5]; omega, by omega, by omega⟩)⟩)⟩
set_option maxRecDepth 8000 in
theorem ct_X_tell_f2ca8 {I : fH} {x1 : Int} (h0 : fB bsJ I) (ha1 : ((-2147483648) ≤ x1 ∧ x1 ≤ 2147483647)) : fC ρ base n F xTc vwCl xTys D dA la gJ (fbz bsJ znJ (fKc wz_ea84a) I) xm_217 [.inr (.inr (some 0)), .inl x1] I (fun I' r => ∃ z, r = some (.inl z) ∧ (((1 ≤ z ∧ z ≤ 60) ∨ z = (-1000000003)) ∧ ((I 0 14 < 60 → I' 0 14 = I 0 14 + 1 ∧ z = I 0 14 + 1) ∧ (60 ≤ I 0 14 → I' 0 14 = I 0 14 ∧ z = (-1000000003))))) := by
  have hW : fzs wz_ea84a (fKc wz_ea84a) := fKc_ok _
  refine f_meth (rb := rbJ) (J := []) 1 400 xG xin_217 x6_217 okJ (fB_self h0) ?_ ?_
  · exact fun q h => absurd h List.not_mem_nil
  · have hB0 := fB_self (zn := znJ) (K := fKc wz_ea84a) h0
    refine And.intro ⟨rfl, by decide, by decide⟩ (fgetf fb_0_14 h0 hB0 ?_)
    intro z1 lz1 uz1 qz1
    refine And.intro (And.intro (by first | exact fi_ lz1 uz1 rfl | omega) (by first | exact ⟨by decide, by decide⟩ | omega)) (And.intro ?_ ?_)
    · intro c2
      refine And.intro ⟨rfl, by decide, by decide⟩ ?_
      refine And.intro ⟨rfl, by decide, by decide⟩ (fgetf fb_0_14 h0 hB0 ?_)
      intro z3 lz3 uz3 qz3
      refine fstore rS_738_738_0_59_1_0 (fzs_sub (by decide +kernel) hW) (by omega) (by first | exact ⟨ha1.1, ha1.2⟩ | omega) ?_
      intro IhB4 ehB4 hB4
      have t5 := fup_self ehB4
      have t6 : IhB4 0 14 = I 0 14 := (congrFun (congrFun ehB4 0) 14).trans (fup_ne (by first | exact Or.inl (by decide) | omega))
      refine And.intro ⟨rfl, by decide, by decide⟩ (fgetf fb_0_14 h0 hB4 ?_)
      intro z7 lz7 uz7 qz7
      refine And.intro ⟨rfl, by decide, by decide⟩ (And.intro rfl (And.intro (Or.inl rfl) (fputf fb_0_14 (by decide +kernel) hW (by omega) ?_)))
      intro IhB8 ehB8 hB8
      have t9 := fup_at ehB8 14 (by first | rfl | omega)
      refine And.intro ⟨rfl, by decide, by decide⟩ (fgetf fb_0_14 h0 hB8 ?_)
      intro z10 lz10 uz10 qz10
      refine And.intro (True.intro) ?_
      exact ⟨_, rfl, by omega⟩
    · intro c11
      refine And.intro (True.intro) ?_
      exact ⟨_, rfl, by omega⟩
set_option maxRecDepth 8000 in
theorem ct_M_tell_9320d {I : fH} {x1 : Int} (h0 : fB bsJ I) (ha1 : ((-2147483648) ≤ x1 ∧ x1 ≤ 2147483647)) : fC ρ base n F xTc vwCl xTys D dA la gJ (fbz bsJ znJ (fKc wz_f12ac) I) xm_488 [.inr (.inr (some 740)), .inl x1] I (fun I' r => ∃ z, r = some (.inl z) ∧ (((1 ≤ z ∧ z ≤ 60) ∨ z = (-1000000003)) ∧ ((I 740 37 < 60 → I' 740 37 = I 740 37 + 1 ∧ z = I 740 37 + 1) ∧ (60 ≤ I 740 37 → I' 740 37 = I 740 37 ∧ z = (-1000000003))))) := by
  have hW : fzs wz_f12ac (fKc wz_f12ac) := fKc_ok _
  refine f_meth (rb := rbJ) (J := []) 1 400 xG xin_488 x6_488 okJ (fB_self h0) ?_ ?_
  · exact fun q h => absurd h List.not_mem_nil
  · have hB0 := fB_self (zn := znJ) (K := fKc wz_f12ac) h0
    refine And.intro ⟨rfl, by decide, by decide⟩ (fgetf fb_740_37 h0 hB0 ?_)
    intro z1 lz1 uz1 qz1
    refine And.intro (And.intro (by first | exact fi_ lz1 uz1 rfl | omega) (by first | exact ⟨by decide, by decide⟩ | omega)) (And.intro ?_ ?_)
    · intro c2
      refine And.intro ⟨rfl, by decide, by decide⟩ ?_
      refine And.intro ⟨rfl, by decide, by decide⟩ (fgetf fb_740_37 h0 hB0 ?_)
      intro z3 lz3 uz3 qz3
      refine fstore rS_759_759_0_59_1_0 (fzs_sub (by decide +kernel) hW) (by omega) (by first | exact ⟨ha1.1, ha1.2⟩ | omega) ?_
      intro IhB4 ehB4 hB4
      have t5 := fup_self ehB4
      have t6 : IhB4 740 37 = I 740 37 := (congrFun (congrFun ehB4 740) 37).trans (fup_ne (by first | exact Or.inl (by decide) | omega))
      refine And.intro ⟨rfl, by decide, by decide⟩ (fgetf fb_740_37 h0 hB4 ?_)
      intro z7 lz7 uz7 qz7
      refine And.intro ⟨rfl, by decide, by decide⟩ (And.intro rfl (And.intro (Or.inl rfl) (fputf fb_740_37 (by decide +kernel) hW (by omega) ?_)))
      intro IhB8 ehB8 hB8
      have t9 := fup_at ehB8 37 (by first | rfl | omega)
      refine And.intro ⟨rfl, by decide, by decide⟩ (fgetf fb_740_37 h0 hB8 ?_)
      intro z10 lz10 uz10 qz10
      refine And.intro (True.intro) ?_
      exact ⟨_, rfl, by omega⟩
    · intro c11
      refine And.intro (True.intro) ?_
      exact ⟨_, rfl, by omega⟩
abbrev jc_X_firstWrong_4e02b_9 : Nat → fL → List fV → fH → Prop := fun m lv st I => ∃ (y1 : Int) (y2 : Int) (y3 : Int) (y4 : Int), lv = [(0, .inr (.inr (some 0))), (1, .inl y1), (2, .inl y2), (3, .inl y3), (4, .inl y4)] ∧ st = [] ∧ ((((0 ≤ y1 ∧ y1 ≤ 48) ∧ (y1 - 0) % 2 ≤ 0) ∧ (0 ≤ y2 ∧ y2 ≤ 60) ∧ (0 ≤ y3 ∧ y3 ≤ 48) ∧ (0 ≤ y4 ∧ y4 ≤ 48))) ∧ m = (1 + 1 * (48 - y4) : Int).toNat
set_option maxRecDepth 8000 in
theorem ct_X_firstWrong_4e02b {I : fH} {x1 : Int} {x2 : Int} (h0 : fB bsJ I) (ha1 : ((0 ≤ x1 ∧ x1 ≤ 48) ∧ (x1 - 0) % 2 ≤ 0)) (ha2 : (0 ≤ x2 ∧ x2 ≤ 60)) : fC ρ base n F xTc vwCl xTys D dA la gJ (fbz bsJ znJ (fKc []) I) xm_220 [.inr (.inr (some 0)), .inl x1, .inl x2] I (fun _ r => ∃ z, r = some (.inl z) ∧ (0 ≤ z ∧ z ≤ 49)) := by
  have hW : fzs [] (fKc []) := fKc_ok _
  refine f_meth (rb := rbJ) (J := [(9, jc_X_firstWrong_4e02b_9)]) 50 400 xG xin_220 x6_220 okJ (fB_self h0) ?_ ?_
  · refine List.forall_mem_cons.mpr ⟨?_, fun q h => absurd h List.not_mem_nil⟩
    · rintro m _ _ I1 hB1 ⟨y1, y2, y3, y4, rfl, rfl, hb, hm⟩
      refine And.intro (And.intro (by first | exact fi_ hb.2.2.2.1 hb.2.2.2.2 rfl | omega) (by first | exact fi_ hb.2.2.1.1 hb.2.2.1.2 rfl | omega)) (And.intro ?_ ?_)
      · intro c1
        refine And.intro (And.intro (by first | exact fi_ hb.1.1.1 hb.1.1.2 rfl | omega) (by first | exact fi_ hb.2.1.1 hb.2.1.2 rfl | omega)) (And.intro ?_ ?_)
        · intro c2
          refine And.intro (True.intro) ?_
          exact ⟨_, rfl, by omega⟩
        · intro c3
          refine And.intro (True.intro) ?_
          exact ⟨_, rfl, (by first | exact ⟨by decide, by decide⟩ | omega)⟩
      · intro c4
        refine And.intro ⟨rfl, by decide, by decide⟩ ?_
        refine fload1 rL_738_738_0_59_1_0 h0 hB1 ⟨by decide, by decide⟩ (by first | exact ⟨hb.2.2.2.1, Int.le_trans (Int.le_sub_one_of_lt (Int.lt_of_lt_of_le c4 hb.2.2.1.2)) (by decide)⟩ | omega) ?_
        intro z5 lz5 uz5 qz5
        refine And.intro ⟨rfl, by decide, by decide⟩ ?_
        refine fload1 rL_739_739_0_59_1_0 h0 hB1 ⟨by decide, by decide⟩ (by first | exact ⟨hb.2.2.2.1, Int.le_trans (Int.le_sub_one_of_lt (Int.lt_of_lt_of_le c4 hb.2.2.1.2)) (by decide)⟩ | omega) ?_
        intro z6 lz6 uz6 qz6
        refine And.intro (And.intro (by first | exact fi_ lz5 uz5 rfl | omega) (by first | exact fi_ lz6 uz6 rfl | omega)) (And.intro ?_ ?_)
        · intro c7
          exact fcutJ (I := I1) (j := jc_X_firstWrong_4e02b_9) (lv' := [(0, .inr (.inr (some 0))), (1, .inl _), (2, .inl _), (3, .inl _), (4, .inl _)]) (And.intro rfl (And.intro rfl (And.intro rfl (And.intro rfl (And.intro rfl True.intro))))) ⟨_, _, _, _, rfl, rfl, by omega, rfl⟩ (by omega)
        · intro c8
          refine And.intro (True.intro) ?_
          exact ⟨_, rfl, by omega⟩
  · have hB0 := fB_self (zn := znJ) (K := fKc []) h0
    refine And.intro (And.intro (by first | exact fi_ ha1.1.1 ha1.1.2 rfl | omega) (And.intro (by first | exact fi_ ha2.1 ha2.2 rfl | omega) rfl)) ?_
    intro z9 hz9
    exact fcutJ (I := I) (j := jc_X_firstWrong_4e02b_9) (lv' := [(0, .inr (.inr (some 0))), (1, .inl _), (2, .inl _), (3, .inl _), (4, .inl _)]) (And.intro rfl (And.intro rfl (And.intro rfl (And.intro rfl (And.intro rfl True.intro))))) ⟨_, _, _, _, rfl, rfl, by omega, rfl⟩ (by omega)
abbrev jc_X_checkLoads_0f880_29 : Nat → fL → List fV → fH → Prop := fun m lv st I => ∃ (y1 : Int) (y2 : Int) (y3 : Int) (y4 : Int) (y5 : Int), lv = [(0, .inr (.inr (some 0))), (1, .inl y1), (2, .inl y2), (3, .inl y3), (4, .inl y4), (5, .inl y5)] ∧ st = [] ∧ (((1 ≤ y1 ∧ y1 ≤ 24) ∧ (0 ≤ y2 ∧ y2 ≤ 300) ∧ (0 ≤ y3 ∧ y3 ≤ 60) ∧ ((-2147483648) ≤ y4 ∧ y4 ≤ 2147483647) ∧ (0 ≤ y5 ∧ y5 ≤ 24))) ∧ m = (1 + 1 * (24 - y5) : Int).toNat
set_option maxRecDepth 8000 in
theorem ct_X_checkLoads_0f880 {I : fH} {x1 : Int} {x2 : Int} {x3 : Int} (h0 : fB bsJ I) (ha1 : (1 ≤ x1 ∧ x1 ≤ 24)) (ha2 : (0 ≤ x2 ∧ x2 ≤ 300)) (ha3 : (0 ≤ x3 ∧ x3 ≤ 60)) : fC ρ base n F xTc vwCl xTys D dA la gJ (fbz bsJ znJ (fKc wz_b577c) I) xm_219 [.inr (.inr (some 0)), .inl x1, .inl x2, .inl x3] I (fun _ r => ∃ z, r = some (.inl z) ∧ ((0 ≤ z ∧ z ≤ 49) ∨ z = (-1000000005))) := by
  have hW : fzs wz_b577c (fKc wz_b577c) := fKc_ok _
  refine f_meth (rb := rbJ) (J := [(29, jc_X_checkLoads_0f880_29)]) 26 400 xG xin_219 x6_219 okJ (fB_self h0) ?_ ?_
  · refine List.forall_mem_cons.mpr ⟨?_, fun q h => absurd h List.not_mem_nil⟩
    · rintro m _ _ I1 hB1 ⟨y1, y2, y3, y4, y5, rfl, rfl, hb, hm⟩
      refine And.intro (And.intro (by first | exact fi_ hb.2.2.2.2.1 hb.2.2.2.2.2 rfl | omega) (by first | exact fi_ hb.1.1 hb.1.2 rfl | omega)) (And.intro ?_ ?_)
      · intro c1
        refine Exists.intro xm_220 (And.intro mi_220 (And.intro ⟨rfl, rfl, rfl, rfl⟩ (And.intro rfl ?_)))
        refine fcallp hB1 (ct_X_firstWrong_4e02b (fBz h0 hB1) (by omega) (by first | exact ⟨hb.2.2.1.1, hb.2.2.1.2⟩ | omega)) ?_
        rintro _ ⟨z2, rfl, hz2⟩
        refine And.intro (True.intro) ?_
        exact ⟨_, rfl, by omega⟩
      · intro c3
        refine And.intro ⟨rfl, by decide, by decide⟩ ?_
        refine Exists.intro xm_192 (And.intro mi_192 (And.intro ⟨rfl, rfl, rfl, rfl⟩ (And.intro rfl ?_)))
        refine fcallp hB1 (ct_Dark_loadAt_007b1 (fBz h0 hB1) (by first | exact ⟨hb.2.1.1, hb.2.1.2⟩ | omega) (by first | exact ⟨hb.2.2.2.2.1, Int.le_trans (Int.le_sub_one_of_lt (Int.lt_of_lt_of_le c3 hb.1.2)) (by decide)⟩ | omega)) ?_
        rintro _ ⟨z4, rfl, hz4, g0z4⟩
        refine And.intro ⟨rfl, by decide, by decide⟩ ?_
        refine And.intro ⟨rfl, by decide, by decide⟩ ?_
        refine fload1 rL_223_223_0_3_1_0 h0 hB1 ⟨by decide, by decide⟩ (by first | exact ⟨hz4.1, hz4.2⟩ | omega) ?_
        intro z5 lz5 uz5 qz5
        intro z6 hz6 ez6 bz6
        clear ez6
        clear bz6
        refine And.intro ⟨rfl, by decide, by decide⟩ ?_
        refine fstore rS_739_739_0_59_1_0 (fzs_sub (by decide +kernel) hW) (by omega) (by first | exact ⟨Int.le_trans (by decide) hz4.1, Int.le_trans hz4.2 (by decide)⟩ | omega) ?_
        intro IhB7 ehB7 hB7
        have t8 := fup_self ehB7
        refine And.intro ⟨rfl, by decide, by decide⟩ ?_
        refine fstore rS_739_739_0_59_1_0 (fzs_sub (by decide +kernel) hW) (by omega) (by omega) ?_
        intro IhB9 ehB9 hB9
        have t10 := fup_self ehB9
        exact fcutJ (I := IhB9) (j := jc_X_checkLoads_0f880_29) (lv' := [(0, .inr (.inr (some 0))), (1, .inl _), (2, .inl _), (3, .inl _), (4, .inl _), (5, .inl _)]) (And.intro rfl (And.intro rfl (And.intro rfl (And.intro rfl (And.intro rfl (And.intro rfl True.intro)))))) ⟨_, _, _, _, _, rfl, rfl, by omega, rfl⟩ (by omega)
  · have hB0 := fB_self (zn := znJ) (K := fKc wz_b577c) h0
    refine And.intro ⟨rfl, by decide, by decide⟩ ?_
    refine And.intro ⟨rfl, by decide, by decide⟩ ?_
    refine Exists.intro xm_189 (And.intro mi_189 (And.intro ⟨rfl, rfl, rfl, rfl⟩ (And.intro rfl ?_)))
    refine fcall _ h0 (fzs_sub (by decide +kernel) hW) hB0 (ct_Dark_leastHarm_e9db9 (fBz h0 hB0) (by first | exact ⟨ha1.1, ha1.2⟩ | omega) (by first | exact ⟨ha2.1, ha2.2⟩ | omega)) ?_
    rintro IhB12 _ hB12 fhB12 ⟨z11, rfl, hz11, g0z11, g1z11⟩
    refine And.intro (And.intro (by first | exact fi_ hz11.1 hz11.2 rfl | omega) (by first | exact ⟨by decide, by decide⟩ | omega)) (And.intro ?_ ?_)
    · intro c13
      exact fcutJ (I := IhB12) (j := jc_X_checkLoads_0f880_29) (lv' := [(0, .inr (.inr (some 0))), (1, .inl _), (2, .inl _), (3, .inl _), (4, .inl _), (5, .inl _)]) (And.intro rfl (And.intro rfl (And.intro rfl (And.intro rfl (And.intro rfl (And.intro rfl True.intro)))))) ⟨_, _, _, _, _, rfl, rfl, by omega, rfl⟩ (by omega)
    · intro c14
      refine And.intro (True.intro) ?_
      exact ⟨_, rfl, by omega⟩
abbrev jc_X_checkOrder_93ad1_28 : Nat → fL → List fV → fH → Prop := fun m lv st I => ∃ (y2 : Int) (y4 : Int) (y5 : Int), lv = [(0, .inr (.inr (some 0))), (2, .inl y2), (4, .inl y4), (5, .inl y5)] ∧ st = [] ∧ (((0 ≤ y2 ∧ y2 ≤ 60) ∧ ((-2147483648) ≤ y4 ∧ y4 ≤ 2147483647) ∧ (0 ≤ y5 ∧ y5 ≤ 7))) ∧ m = (1 + 1 * (7 - y5) : Int).toNat
set_option maxRecDepth 8000 in
theorem ct_X_checkOrder_93ad1 {I : fH} {x1 : Int} {x2 : Int} (h0 : fB bsJ I) (ha1 : (1 ≤ x1 ∧ x1 ≤ 60)) (ha2 : (0 ≤ x2 ∧ x2 ≤ 60)) : fC ρ base n F xTc vwCl xTys D dA la gJ (fbz bsJ znJ (fKc wz_324de) I) xm_221 [.inr (.inr (some 0)), .inl x1, .inl x2] I (fun _ r => ∃ z, r = some (.inl z) ∧ ((-2147483648) ≤ z ∧ z ≤ 49)) := by
  have hW : fzs wz_324de (fKc wz_324de) := fKc_ok _
  refine f_meth (rb := rbJ) (J := [(28, jc_X_checkOrder_93ad1_28)]) 9 400 xG xin_221 x6_221 okJ (fB_self h0) ?_ ?_
  · refine List.forall_mem_cons.mpr ⟨?_, fun q h => absurd h List.not_mem_nil⟩
    · rintro m _ _ I1 hB1 ⟨y2, y4, y5, rfl, rfl, hb, hm⟩
      refine And.intro ⟨rfl, by decide, by decide⟩ ?_
      refine And.intro ⟨rfl, by decide, by decide⟩ (fgetf fb_211_15 h0 hB1 ?_)
      intro z1 lz1 uz1 qz1
      refine And.intro (And.intro (by first | exact fi_ hb.2.2.1 hb.2.2.2 rfl | omega) (by first | exact fi_ lz1 uz1 rfl | omega)) (And.intro ?_ ?_)
      · intro c2
        refine And.intro ⟨rfl, by decide, by decide⟩ ?_
        refine And.intro ⟨rfl, by decide, by decide⟩ (fgetf fb_211_15 h0 hB1 ?_)
        intro z3 lz3 uz3 qz3
        refine Exists.intro xm_220 (And.intro mi_220 (And.intro ⟨rfl, rfl, rfl, rfl⟩ (And.intro rfl ?_)))
        refine fcallp hB1 (ct_X_firstWrong_4e02b (fBz h0 hB1) (by omega) (by first | exact ⟨hb.1.1, hb.1.2⟩ | omega)) ?_
        rintro _ ⟨z4, rfl, hz4⟩
        refine And.intro (True.intro) ?_
        exact ⟨_, rfl, (by first | exact ⟨Int.le_trans (by decide) hz4.1, hz4.2⟩ | omega)⟩
      · intro c5
        refine And.intro ⟨rfl, by decide, by decide⟩ ?_
        refine And.intro ⟨rfl, by decide, by decide⟩ ?_
        refine And.intro ⟨rfl, by decide, by decide⟩ ?_
        refine And.intro ⟨rfl, by decide, by decide⟩ ?_
        refine fload1 rL_736_736_0_6_1_0 h0 hB1 ⟨by decide, by decide⟩ (by first | exact ⟨hb.2.2.1, Int.le_trans (Int.le_sub_one_of_lt (Int.lt_of_lt_of_le c5 uz1)) (by decide)⟩ | omega) ?_
        intro z6 lz6 uz6 qz6
        refine fload1 rL_254_254_0_6_1_0 h0 hB1 ⟨by decide, by decide⟩ (by first | exact ⟨lz6, uz6⟩ | omega) ?_
        intro z7 lz7 uz7 qz7
        intro z8 hz8 ez8 bz8
        clear ez8
        clear bz8
        refine And.intro ⟨rfl, by decide, by decide⟩ ?_
        refine And.intro ⟨rfl, by decide, by decide⟩ ?_
        refine And.intro ⟨rfl, by decide, by decide⟩ ?_
        refine fload1 rL_736_736_0_6_1_0 h0 hB1 ⟨by decide, by decide⟩ (by first | exact ⟨hb.2.2.1, Int.le_trans (Int.le_sub_one_of_lt (Int.lt_of_lt_of_le c5 uz1)) (by decide)⟩ | omega) ?_
        intro z9 lz9 uz9 qz9
        refine fstore rS_739_739_0_59_1_0 (fzs_sub (by decide +kernel) hW) (by omega) (by first | exact ⟨Int.le_trans (by decide) lz9, Int.le_trans uz9 (by decide)⟩ | omega) ?_
        intro IhB10 ehB10 hB10
        have t11 := fup_self ehB10
        have t12 : IhB10 211 15 = I1 211 15 := (congrFun (congrFun ehB10 211) 15).trans (fup_ne (by first | exact Or.inl (by decide) | omega))
        refine And.intro ⟨rfl, by decide, by decide⟩ ?_
        refine fstore rS_739_739_0_59_1_0 (fzs_sub (by decide +kernel) hW) (by omega) (by omega) ?_
        intro IhB13 ehB13 hB13
        have t14 := fup_self ehB13
        have t15 : IhB13 211 15 = IhB10 211 15 := (congrFun (congrFun ehB13 211) 15).trans (fup_ne (by first | exact Or.inl (by decide) | omega))
        exact fcutJ (I := IhB13) (j := jc_X_checkOrder_93ad1_28) (lv' := [(0, .inr (.inr (some 0))), (2, .inl _), (4, .inl _), (5, .inl _)]) (And.intro rfl (And.intro rfl (And.intro rfl (And.intro rfl True.intro)))) ⟨_, _, _, rfl, rfl, by omega, rfl⟩ (by omega)
  · have hB0 := fB_self (zn := znJ) (K := fKc wz_324de) h0
    refine And.intro ⟨rfl, by decide, by decide⟩ ?_
    refine And.intro ⟨rfl, by decide, by decide⟩ ?_
    refine Exists.intro xm_206 (And.intro mi_206 (And.intro ⟨rfl, rfl, rfl, rfl⟩ (And.intro rfl ?_)))
    refine fcall _ h0 (fzs_sub (by decide +kernel) hW) hB0 (ct_Order_bestSum_ae03f (fBz h0 hB0) (by first | exact ⟨ha1.1, ha1.2⟩ | omega) (by first | exact ⟨by decide, by decide⟩ | omega)) ?_
    rintro IhB17 _ hB17 fhB17 ⟨z16, rfl, hz16, g0z16, g1z16⟩
    refine And.intro (by first | exact fi_ hz16.1 hz16.2 rfl | omega) (And.intro ?_ ?_)
    · intro c18
      exact fcutJ (I := IhB17) (j := jc_X_checkOrder_93ad1_28) (lv' := [(0, .inr (.inr (some 0))), (2, .inl _), (4, .inl _), (5, .inl _)]) (And.intro rfl (And.intro rfl (And.intro rfl (And.intro rfl True.intro)))) ⟨_, _, _, rfl, rfl, by omega, rfl⟩ (by omega)
    · intro c19
      refine And.intro (True.intro) ?_
      exact ⟨_, rfl, (by first | exact ⟨hz16.1, Int.le_trans (Int.le_sub_one_of_lt (Int.lt_of_lt_of_le c19 (Int.le_refl _))) (by decide)⟩ | omega)⟩
set_option maxRecDepth 8000 in
theorem ct_Cells_addAir_f5ee0 {I : fH} {x1 : Int} {x2 : Int} {x3 : Int} (h0 : fB bsJ I) (ha1 : (0 ≤ x1 ∧ x1 ≤ 19)) (ha2 : (0 ≤ x2 ∧ x2 ≤ 4)) (ha3 : ((-2147483648) ≤ x3 ∧ x3 ≤ 2147483647)) : fC ρ base n F xTc vwCl xTys D dA la gJ (fbz bsJ znJ (fKc wz_7eac0) I) xm_84 [.inr (.inr (some 514)), .inl x1, .inl x2, .inl x3] I (fun _ r => r = none) := by
  have hW : fzs wz_7eac0 (fKc wz_7eac0) := fKc_ok _
  refine f_meth (rb := rbJ) (J := []) 1 400 xG xin_84 x6_84 okJ (fB_self h0) ?_ ?_
  · exact fun q h => absurd h List.not_mem_nil
  · have hB0 := fB_self (zn := znJ) (K := fKc wz_7eac0) h0
    refine And.intro ⟨rfl, by decide, by decide⟩ ?_
    refine And.intro ⟨rfl, by decide⟩ (And.intro (by first | exact ⟨ha1.1, Int.lt_of_le_of_lt ha1.2 (by decide)⟩ | omega) ?_)
    refine fload rL_518_537_0_4_1_0 h0 hB0 (by omega) ?_
    intro z1 lz1 uz1 qz1
    intro z2 hz2 ez2 bz2
    clear ez2
    clear bz2
    refine And.intro ⟨rfl, by decide, by decide⟩ ?_
    refine And.intro ⟨rfl, by decide⟩ (And.intro (by first | exact ⟨ha1.1, Int.lt_of_le_of_lt ha1.2 (by decide)⟩ | omega) ?_)
    refine And.intro (And.intro (by omega) (And.intro (by first | exact ⟨by decide, by decide⟩ | omega) rfl)) ?_
    intro z3 hz3
    refine fstore rS_518_537_0_4_1_0 (fzs_sub (by decide +kernel) hW) (by omega) (by omega) ?_
    intro IhB4 ehB4 hB4
    have t5 := fup_self ehB4
    refine And.intro (by omega) (And.intro ?_ ?_)
    · intro c6
      exact rfl
    · intro c7
      refine And.intro ⟨rfl, by decide, by decide⟩ ?_
      refine And.intro ⟨rfl, by decide⟩ (And.intro (by first | exact ⟨ha1.1, Int.lt_of_le_of_lt ha1.2 (by decide)⟩ | omega) ?_)
      refine fload rL_539_558_0_4_1_0 h0 hB4 (by omega) ?_
      intro z8 lz8 uz8 qz8
      intro z9 hz9 ez9 bz9
      clear ez9
      clear bz9
      refine fstore rS_539_558_0_4_1_0 (fzs_sub (by decide +kernel) hW) (by omega) (by omega) ?_
      intro IhB10 ehB10 hB10
      have t11 := fup_self ehB10
      exact rfl
abbrev jc_Cells_flow_6f8f5_38 : Nat → fL → List fV → fH → Prop := fun m lv st I => ∃ (y1 : Int) (y2 : Int) (y3 : Int) (y4 : Int) (y5 : Int), lv = [(0, .inr (.inr (some 514))), (1, .inl y1), (2, .inl y2), (3, .inl y3), (4, .inl y4), (5, .inl y5)] ∧ st = [] ∧ (((0 ≤ y1 ∧ y1 ≤ 23) ∧ (0 ≤ y2 ∧ y2 ≤ 19) ∧ (0 ≤ y3 ∧ y3 ≤ 19) ∧ (1 ≤ y4 ∧ y4 ≤ 2147483647) ∧ (0 ≤ y5 ∧ y5 ≤ 5))) ∧ m = (1 + 1 * (5 - y5) : Int).toNat
set_option maxRecDepth 8000 in
theorem ct_Cells_flow_6f8f5 {I : fH} {x1 : Int} (h0 : fB bsJ I) (ha1 : (0 ≤ x1 ∧ x1 ≤ 23)) : fC ρ base n F xTc vwCl xTys D dA la gJ (fbz bsJ znJ (fKc wz_7eac0) I) xm_89 [.inr (.inr (some 514)), .inl x1] I (fun _ r => r = none) := by
  have hW : fzs wz_7eac0 (fKc wz_7eac0) := fKc_ok _
  refine f_meth (rb := rbJ) (J := [(38, jc_Cells_flow_6f8f5_38)]) 7 400 xG xin_89 x6_89 okJ (fB_self h0) ?_ ?_
  · refine List.forall_mem_cons.mpr ⟨?_, fun q h => absurd h List.not_mem_nil⟩
    · rintro m _ _ I1 hB1 ⟨y1, y2, y3, y4, y5, rfl, rfl, hb, hm⟩
      refine And.intro (And.intro (by first | exact fi_ hb.2.2.2.2.1 hb.2.2.2.2.2 rfl | omega) (by first | exact ⟨by decide, by decide⟩ | omega)) (And.intro ?_ ?_)
      · intro c1
        exact rfl
      · intro c2
        refine And.intro ⟨rfl, by decide, by decide⟩ ?_
        refine And.intro ⟨rfl, by decide⟩ (And.intro (by first | exact ⟨hb.2.1.1, Int.lt_of_le_of_lt hb.2.1.2 (by decide)⟩ | omega) ?_)
        refine fload rL_518_537_0_4_1_0 h0 hB1 (by omega) ?_
        intro z3 lz3 uz3 qz3
        refine And.intro ⟨rfl, by decide, by decide⟩ ?_
        refine fload1 rL_515_515_0_19_1_0 h0 hB1 ⟨by decide, by decide⟩ (by first | exact ⟨hb.2.2.1.1, hb.2.2.1.2⟩ | omega) ?_
        intro z4 lz4 uz4 qz4
        intro z5 hz5 ez5 bz5
        clear ez5
        clear bz5
        refine And.intro ⟨rfl, by decide, by decide⟩ ?_
        refine And.intro ⟨rfl, by decide⟩ (And.intro (by first | exact ⟨hb.2.2.1.1, Int.lt_of_le_of_lt hb.2.2.1.2 (by decide)⟩ | omega) ?_)
        refine fload rL_518_537_0_4_1_0 h0 hB1 (by omega) ?_
        intro z6 lz6 uz6 qz6
        refine And.intro ⟨rfl, by decide, by decide⟩ ?_
        refine fload1 rL_515_515_0_19_1_0 h0 hB1 ⟨by decide, by decide⟩ (by first | exact ⟨hb.2.1.1, hb.2.1.2⟩ | omega) ?_
        intro z7 lz7 uz7 qz7
        intro z8 hz8 ez8 bz8
        clear ez8
        clear bz8
        intro z9 hz9 ez9 bz9
        clear ez9
        clear bz9
        refine And.intro (And.intro (by omega) (And.intro (by first | exact fi_ hb.2.2.2.1.1 hb.2.2.2.1.2 rfl | omega) (And.intro (by omega) rfl))) ?_
        intro z10 hz10 ez10 dz10
        refine And.intro ⟨rfl, by decide, by decide⟩ ?_
        refine fload1 rL_582_582_0_23_1_0 h0 hB1 ⟨by decide, by decide⟩ (by first | exact ⟨hb.1.1, hb.1.2⟩ | omega) ?_
        intro z11 lz11 uz11 qz11
        intro z12 hz12 ez12 bz12
        clear ez12
        clear bz12
        refine And.intro (And.intro (by omega) (And.intro (by first | exact ⟨by decide, by decide⟩ | omega) (And.intro (by first | exact by decide | omega) rfl))) ?_
        intro z13 hz13 ez13 dz13
        refine And.intro (by omega) (And.intro ?_ ?_)
        · intro c14
          refine And.intro ⟨rfl, by decide, by decide⟩ ?_
          refine And.intro ⟨rfl, by decide⟩ (And.intro (by first | exact ⟨hb.2.2.1.1, Int.lt_of_le_of_lt hb.2.2.1.2 (by decide)⟩ | omega) ?_)
          refine fload rL_518_537_0_4_1_0 h0 hB1 (by omega) ?_
          intro z15 lz15 uz15 qz15
          intro z16 hz16 ez16 bz16
          clear ez16
          clear bz16
          refine fstore rS_518_537_0_4_1_0 (fzs_sub (by decide +kernel) hW) (by omega) (by omega) ?_
          intro IhB17 ehB17 hB17
          have t18 := fup_self ehB17
          intro z19 hz19 ez19 bz19
          clear ez19
          clear bz19
          refine Exists.intro xm_84 (And.intro mi_84 (And.intro ⟨rfl, rfl, rfl, rfl⟩ (And.intro rfl ?_)))
          refine fcall _ h0 (fzs_sub (by decide +kernel) hW) hB17 (ct_Cells_addAir_f5ee0 (fBz h0 hB17) (by first | exact ⟨hb.2.1.1, hb.2.1.2⟩ | omega) (by first | exact ⟨hb.2.2.2.2.1, Int.le_trans (Int.le_sub_one_of_lt (Int.lt_of_lt_of_le c2 (Int.le_refl _))) (by decide)⟩ | omega) (by omega)) ?_
          rintro IhB21 _ hB21 fhB21 rfl
          exact fcutJ (I := IhB21) (j := jc_Cells_flow_6f8f5_38) (lv' := [(0, .inr (.inr (some 514))), (1, .inl _), (2, .inl _), (3, .inl _), (4, .inl _), (5, .inl _)]) (And.intro rfl (And.intro rfl (And.intro rfl (And.intro rfl (And.intro rfl (And.intro rfl True.intro)))))) ⟨_, _, _, _, _, rfl, rfl, by omega, rfl⟩ (by omega)
        · intro c22
          refine And.intro ⟨rfl, by decide, by decide⟩ ?_
          refine And.intro ⟨rfl, by decide⟩ (And.intro (by first | exact ⟨hb.2.1.1, Int.lt_of_le_of_lt hb.2.1.2 (by decide)⟩ | omega) ?_)
          refine fload rL_518_537_0_4_1_0 h0 hB1 (by omega) ?_
          intro z23 lz23 uz23 qz23
          intro z24 hz24 ez24 bz24
          clear ez24
          clear bz24
          refine fstore rS_518_537_0_4_1_0 (fzs_sub (by decide +kernel) hW) (by omega) (by omega) ?_
          intro IhB25 ehB25 hB25
          have t26 := fup_self ehB25
          refine Exists.intro xm_84 (And.intro mi_84 (And.intro ⟨rfl, rfl, rfl, rfl⟩ (And.intro rfl ?_)))
          refine fcall _ h0 (fzs_sub (by decide +kernel) hW) hB25 (ct_Cells_addAir_f5ee0 (fBz h0 hB25) (by first | exact ⟨hb.2.2.1.1, hb.2.2.1.2⟩ | omega) (by first | exact ⟨hb.2.2.2.2.1, Int.le_trans (Int.le_sub_one_of_lt (Int.lt_of_lt_of_le c2 (Int.le_refl _))) (by decide)⟩ | omega) (by omega)) ?_
          rintro IhB28 _ hB28 fhB28 rfl
          exact fcutJ (I := IhB28) (j := jc_Cells_flow_6f8f5_38) (lv' := [(0, .inr (.inr (some 514))), (1, .inl _), (2, .inl _), (3, .inl _), (4, .inl _), (5, .inl _)]) (And.intro rfl (And.intro rfl (And.intro rfl (And.intro rfl (And.intro rfl (And.intro rfl True.intro)))))) ⟨_, _, _, _, _, rfl, rfl, by omega, rfl⟩ (by omega)
  · have hB0 := fB_self (zn := znJ) (K := fKc wz_7eac0) h0
    refine And.intro ⟨rfl, by decide, by decide⟩ ?_
    refine fload1 rL_580_580_0_23_1_0 h0 hB0 ⟨by decide, by decide⟩ (by first | exact ⟨ha1.1, ha1.2⟩ | omega) ?_
    intro z29 lz29 uz29 qz29
    refine And.intro ⟨rfl, by decide, by decide⟩ ?_
    refine fload1 rL_581_581_0_23_1_0 h0 hB0 ⟨by decide, by decide⟩ (by first | exact ⟨ha1.1, ha1.2⟩ | omega) ?_
    intro z30 lz30 uz30 qz30
    refine And.intro ⟨rfl, by decide, by decide⟩ ?_
    refine fload1 rL_515_515_0_19_1_0 h0 hB0 ⟨by decide, by decide⟩ (by first | exact ⟨lz29, uz29⟩ | omega) ?_
    intro z31 lz31 uz31 qz31
    refine And.intro ⟨rfl, by decide, by decide⟩ ?_
    refine fload1 rL_515_515_0_19_1_0 h0 hB0 ⟨by decide, by decide⟩ (by first | exact ⟨lz30, uz30⟩ | omega) ?_
    intro z32 lz32 uz32 qz32
    intro z33 hz33 ez33 bz33
    clear ez33
    clear bz33
    refine And.intro (by omega) (And.intro ?_ ?_)
    · intro c34
      exact fcutJ (I := I) (j := jc_Cells_flow_6f8f5_38) (lv' := [(0, .inr (.inr (some 514))), (1, .inl _), (2, .inl _), (3, .inl _), (4, .inl _), (5, .inl _)]) (And.intro rfl (And.intro rfl (And.intro rfl (And.intro rfl (And.intro rfl (And.intro rfl True.intro)))))) ⟨_, _, _, _, _, rfl, rfl, by omega, rfl⟩ (by omega)
    · intro c35
      exact rfl
abbrev jc_Cells_flowAll_87643_2 : Nat → fL → List fV → fH → Prop := fun m lv st I => ∃ (y1 : Int), lv = [(0, .inr (.inr (some 514))), (1, .inl y1)] ∧ st = [] ∧ (((0 ≤ y1 ∧ y1 ≤ 24))) ∧ m = (1 + 1 * (24 - y1) : Int).toNat
set_option maxRecDepth 8000 in
theorem ct_Cells_flowAll_87643 {I : fH}  (h0 : fB bsJ I)  : fC ρ base n F xTc vwCl xTys D dA la gJ (fbz bsJ znJ (fKc wz_7eac0) I) xm_88 [.inr (.inr (some 514))] I (fun _ r => r = none) := by
  have hW : fzs wz_7eac0 (fKc wz_7eac0) := fKc_ok _
  refine f_meth (rb := rbJ) (J := [(2, jc_Cells_flowAll_87643_2)]) 26 400 xG xin_88 x6_88 okJ (fB_self h0) ?_ ?_
  · refine List.forall_mem_cons.mpr ⟨?_, fun q h => absurd h List.not_mem_nil⟩
    · rintro m _ _ I1 hB1 ⟨y1, rfl, rfl, hb, hm⟩
      refine And.intro ⟨rfl, by decide, by decide⟩ (fgetf fb_514_10 h0 hB1 ?_)
      intro z1 lz1 uz1 qz1
      refine And.intro (And.intro (by first | exact fi_ hb.1 hb.2 rfl | omega) (by first | exact fi_ lz1 uz1 rfl | omega)) (And.intro ?_ ?_)
      · intro c2
        exact rfl
      · intro c3
        refine And.intro ⟨rfl, by decide, by decide⟩ ?_
        refine fload1 rL_583_583_0_23_1_0 h0 hB1 ⟨by decide, by decide⟩ (by first | exact ⟨hb.1, Int.le_trans (Int.le_sub_one_of_lt (Int.lt_of_lt_of_le c3 uz1)) (by decide)⟩ | omega) ?_
        intro z4 lz4 uz4 qz4
        refine And.intro (And.intro (by first | exact fi_ lz4 uz4 rfl | omega) (by first | exact ⟨by decide, by decide⟩ | omega)) (And.intro ?_ ?_)
        · intro c5
          exact fcutJ (I := I1) (j := jc_Cells_flowAll_87643_2) (lv' := [(0, .inr (.inr (some 514))), (1, .inl _)]) (And.intro rfl (And.intro rfl True.intro)) ⟨_, rfl, rfl, by omega, rfl⟩ (by omega)
        · intro c6
          refine Exists.intro xm_89 (And.intro mi_89 (And.intro ⟨rfl, rfl, rfl, rfl⟩ (And.intro rfl ?_)))
          refine fcall _ h0 (fzs_sub (by decide +kernel) hW) hB1 (ct_Cells_flow_6f8f5 (fBz h0 hB1) (by first | exact ⟨hb.1, Int.le_trans (Int.le_sub_one_of_lt (Int.lt_of_lt_of_le c3 uz1)) (by decide)⟩ | omega)) ?_
          rintro IhB8 _ hB8 fhB8 rfl
          have t9 := fhB8 514 10 (by decide +kernel)
          exact fcutJ (I := IhB8) (j := jc_Cells_flowAll_87643_2) (lv' := [(0, .inr (.inr (some 514))), (1, .inl _)]) (And.intro rfl (And.intro rfl True.intro)) ⟨_, rfl, rfl, by omega, rfl⟩ (by omega)
  · have hB0 := fB_self (zn := znJ) (K := fKc wz_7eac0) h0
    exact fcutJ (I := I) (j := jc_Cells_flowAll_87643_2) (lv' := [(0, .inr (.inr (some 514))), (1, .inl _)]) (And.intro rfl (And.intro rfl True.intro)) ⟨_, rfl, rfl, by omega, rfl⟩ (by omega)
set_option maxRecDepth 8000 in
theorem ct_People_isDead_16e8f {I : fH} {x1 : Int} (h0 : fB bsJ I) (ha1 : (0 ≤ x1 ∧ x1 ≤ 23)) : fC ρ base n F xTc vwCl xTys D dA la gJ (fbz bsJ znJ (fKc []) I) xm_21 [.inr (.inr (some 689)), .inl x1] I (fun _ r => ∃ z, r = some (.inl z) ∧ (0 ≤ z ∧ z ≤ 1)) := by
  have hW : fzs [] (fKc []) := fKc_ok _
  refine f_meth (rb := rbJ) (J := []) 1 400 xG xin_21 x6_21 okJ (fB_self h0) ?_ ?_
  · exact fun q h => absurd h List.not_mem_nil
  · have hB0 := fB_self (zn := znJ) (K := fKc []) h0
    refine And.intro ⟨rfl, by decide, by decide⟩ ?_
    refine fload1 rL_693_693_0_23_1_0 h0 hB0 ⟨by decide, by decide⟩ (by first | exact ⟨ha1.1, ha1.2⟩ | omega) ?_
    intro z1 lz1 uz1 qz1
    refine And.intro (And.intro (by first | exact fi_ lz1 uz1 rfl | omega) (by first | exact ⟨by decide, by decide⟩ | omega)) (And.intro ?_ ?_)
    · intro c2
      refine And.intro (⟨by omega, by omega⟩) ?_
      exact ⟨_, rfl, by omega⟩
    · intro c3
      refine And.intro (⟨by decide, by decide⟩) ?_
      exact ⟨_, rfl, (by first | exact ⟨by decide, by decide⟩ | omega)⟩
abbrev jc_Cells_leakAll_a583d_2 : Nat → fL → List fV → fH → Prop := fun m lv st I => ∃ (y1 : Int), lv = [(0, .inr (.inr (some 514))), (1, .inl y1)] ∧ st = [] ∧ (((0 ≤ y1 ∧ y1 ≤ 20))) ∧ m = (7 + 7 * (20 - y1) : Int).toNat
abbrev jc_Cells_leakAll_a583d_12 : Nat → fL → List fV → fH → Prop := fun m lv st I => ∃ (y1 : Int) (y2 : Int), lv = [(0, .inr (.inr (some 514))), (1, .inl y1), (2, .inl y2)] ∧ st = [] ∧ (((0 ≤ y1 ∧ y1 ≤ 19) ∧ (0 ≤ y2 ∧ y2 ≤ 5) ∧ (1 ≤ I 514 5 ∧ I 514 5 ≤ 20))) ∧ m = (1 + 7 * (20 - y1) + 1 * (5 - y2) : Int).toNat
set_option maxRecDepth 8000 in
theorem ct_Cells_leakAll_a583d {I : fH}  (h0 : fB bsJ I)  : fC ρ base n F xTc vwCl xTys D dA la gJ (fbz bsJ znJ (fKc wz_7eac0) I) xm_90 [.inr (.inr (some 514))] I (fun _ r => r = none) := by
  have hW : fzs wz_7eac0 (fKc wz_7eac0) := fKc_ok _
  refine f_meth (rb := rbJ) (J := [(2, jc_Cells_leakAll_a583d_2), (12, jc_Cells_leakAll_a583d_12)]) 148 400 xG xin_90 x6_90 okJ (fB_self h0) ?_ ?_
  · refine List.forall_mem_cons.mpr ⟨?_, List.forall_mem_cons.mpr ⟨?_, fun q h => absurd h List.not_mem_nil⟩⟩
    · rintro m _ _ I1 hB1 ⟨y1, rfl, rfl, hb, hm⟩
      refine And.intro ⟨rfl, by decide, by decide⟩ (fgetf fb_514_5 h0 hB1 ?_)
      intro z1 lz1 uz1 qz1
      refine And.intro (And.intro (by first | exact fi_ hb.1 hb.2 rfl | omega) (by first | exact fi_ lz1 uz1 rfl | omega)) (And.intro ?_ ?_)
      · intro c2
        exact rfl
      · intro c3
        exact fcutJ (I := I1) (j := jc_Cells_leakAll_a583d_12) (lv' := [(0, .inr (.inr (some 514))), (1, .inl _), (2, .inl _)]) (And.intro rfl (And.intro rfl (And.intro rfl True.intro))) ⟨_, _, rfl, rfl, by omega, rfl⟩ (by omega)
    · rintro m _ _ I1 hB1 ⟨y1, y2, rfl, rfl, hb, hm⟩
      refine And.intro (And.intro (by first | exact fi_ hb.2.1.1 hb.2.1.2 rfl | omega) (by first | exact ⟨by decide, by decide⟩ | omega)) (And.intro ?_ ?_)
      · intro c4
        exact fcutJ (I := I1) (j := jc_Cells_leakAll_a583d_2) (lv' := [(0, .inr (.inr (some 514))), (1, .inl _)]) (And.intro rfl (And.intro rfl True.intro)) ⟨_, rfl, rfl, by omega, rfl⟩ (by omega)
      · intro c5
        refine And.intro ⟨rfl, by decide, by decide⟩ ?_
        refine And.intro ⟨rfl, by decide⟩ (And.intro (by first | exact ⟨hb.1.1, Int.lt_of_le_of_lt hb.1.2 (by decide)⟩ | omega) ?_)
        refine fload rL_518_537_0_4_1_0 h0 hB1 (by omega) ?_
        intro z6 lz6 uz6 qz6
        refine And.intro ⟨rfl, by decide, by decide⟩ ?_
        refine fload1 rL_516_516_0_19_1_0 h0 hB1 ⟨by decide, by decide⟩ (by first | exact ⟨hb.1.1, hb.1.2⟩ | omega) ?_
        intro z7 lz7 uz7 qz7
        intro z8 hz8 ez8 bz8
        clear ez8
        clear bz8
        refine And.intro (And.intro (by omega) (And.intro (by first | exact ⟨by decide, by decide⟩ | omega) (And.intro (by first | exact by decide | omega) rfl))) ?_
        intro z9 hz9 ez9 dz9
        refine And.intro ⟨rfl, by decide, by decide⟩ ?_
        refine And.intro ⟨rfl, by decide⟩ (And.intro (by first | exact ⟨hb.1.1, Int.lt_of_le_of_lt hb.1.2 (by decide)⟩ | omega) ?_)
        refine fload rL_518_537_0_4_1_0 h0 hB1 (by omega) ?_
        intro z10 lz10 uz10 qz10
        intro z11 hz11 ez11 bz11
        clear ez11
        clear bz11
        refine fstore rS_518_537_0_4_1_0 (fzs_sub (by decide +kernel) hW) (by omega) (by omega) ?_
        intro IhB12 ehB12 hB12
        have t13 := fup_self ehB12
        have t14 : IhB12 514 5 = I1 514 5 := (congrFun (congrFun ehB12 514) 5).trans (fup_ne (by first | exact Or.inl (by decide) | omega))
        refine And.intro ⟨rfl, by decide, by decide⟩ ?_
        refine And.intro ⟨rfl, by decide⟩ (And.intro (by first | exact ⟨hb.1.1, Int.lt_of_le_of_lt hb.1.2 (by decide)⟩ | omega) ?_)
        refine fload rL_539_558_0_4_1_0 h0 hB12 (by omega) ?_
        intro z15 lz15 uz15 qz15
        intro z16 hz16 ez16 bz16
        clear ez16
        clear bz16
        refine fstore rS_539_558_0_4_1_0 (fzs_sub (by decide +kernel) hW) (by omega) (by omega) ?_
        intro IhB17 ehB17 hB17
        have t18 := fup_self ehB17
        have t19 : IhB17 514 5 = IhB12 514 5 := (congrFun (congrFun ehB17 514) 5).trans (fup_ne (by first | exact Or.inl (by decide) | omega))
        exact fcutJ (I := IhB17) (j := jc_Cells_leakAll_a583d_12) (lv' := [(0, .inr (.inr (some 514))), (1, .inl _), (2, .inl _)]) (And.intro rfl (And.intro rfl (And.intro rfl True.intro))) ⟨_, _, rfl, rfl, by omega, rfl⟩ (by omega)
  · have hB0 := fB_self (zn := znJ) (K := fKc wz_7eac0) h0
    exact fcutJ (I := I) (j := jc_Cells_leakAll_a583d_2) (lv' := [(0, .inr (.inr (some 514))), (1, .inl _)]) (And.intro rfl (And.intro rfl True.intro)) ⟨_, rfl, rfl, by omega, rfl⟩ (by omega)
abbrev jc_Works_foulAll_2e164_2 : Nat → fL → List fV → fH → Prop := fun m lv st I => ∃ (y1 : Int), lv = [(0, .inr (.inr (some 675))), (1, .inl y1)] ∧ st = [] ∧ (((0 ≤ y1 ∧ y1 ≤ 24))) ∧ m = (1 + 1 * (24 - y1) : Int).toNat
set_option maxRecDepth 8000 in
theorem ct_Works_foulAll_2e164 {I : fH}  (h0 : fB bsJ I)  : fC ρ base n F xTc vwCl xTys D dA la gJ (fbz bsJ znJ (fKc wz_4c809) I) xm_95 [.inr (.inr (some 675))] I (fun _ r => r = none) := by
  have hW : fzs wz_4c809 (fKc wz_4c809) := fKc_ok _
  refine f_meth (rb := rbJ) (J := [(2, jc_Works_foulAll_2e164_2)]) 26 400 xG xin_95 x6_95 okJ (fB_self h0) ?_ ?_
  · refine List.forall_mem_cons.mpr ⟨?_, fun q h => absurd h List.not_mem_nil⟩
    · rintro m _ _ I1 hB1 ⟨y1, rfl, rfl, hb, hm⟩
      refine And.intro ⟨rfl, by decide, by decide⟩ (fgetf fb_675_13 h0 hB1 ?_)
      intro z1 lz1 uz1 qz1
      refine And.intro (And.intro (by first | exact fi_ hb.1 hb.2 rfl | omega) (by first | exact fi_ lz1 uz1 rfl | omega)) (And.intro ?_ ?_)
      · intro c2
        exact rfl
      · intro c3
        refine And.intro ⟨rfl, by decide, by decide⟩ ?_
        refine fload1 rL_686_686_0_23_1_0 h0 hB1 ⟨by decide, by decide⟩ (by first | exact ⟨hb.1, Int.le_trans (Int.le_sub_one_of_lt (Int.lt_of_lt_of_le c3 uz1)) (by decide)⟩ | omega) ?_
        intro z4 lz4 uz4 qz4
        refine And.intro (by first | exact fi_ lz4 uz4 rfl | omega) (And.intro ?_ ?_)
        · intro c5
          exact fcutJ (I := I1) (j := jc_Works_foulAll_2e164_2) (lv' := [(0, .inr (.inr (some 675))), (1, .inl _)]) (And.intro rfl (And.intro rfl True.intro)) ⟨_, rfl, rfl, by omega, rfl⟩ (by omega)
        · intro c6
          refine And.intro ⟨rfl, by decide, by decide⟩ ?_
          refine fload1 rL_682_682_0_23_1_0 h0 hB1 ⟨by decide, by decide⟩ (by first | exact ⟨hb.1, Int.le_trans (Int.le_sub_one_of_lt (Int.lt_of_lt_of_le c3 uz1)) (by decide)⟩ | omega) ?_
          intro z7 lz7 uz7 qz7
          refine And.intro ⟨rfl, by decide, by decide⟩ ?_
          refine fload1 rL_681_681_0_23_1_0 h0 hB1 ⟨by decide, by decide⟩ (by first | exact ⟨hb.1, Int.le_trans (Int.le_sub_one_of_lt (Int.lt_of_lt_of_le c3 uz1)) (by decide)⟩ | omega) ?_
          intro z8 lz8 uz8 qz8
          intro z9 hz9 ez9 bz9
          clear ez9
          clear bz9
          refine fstore1 rS_682_682_0_23_1_0 (fzs_sub (by decide +kernel) hW) ⟨by decide, by decide⟩ (by first | exact ⟨hb.1, Int.le_trans (Int.le_sub_one_of_lt (Int.lt_of_lt_of_le c3 uz1)) (by decide)⟩ | omega) (by omega) ?_
          intro IhB10 ehB10 hB10
          have t11 := fup_self ehB10
          have t12 : IhB10 675 13 = I1 675 13 := (congrFun (congrFun ehB10 675) 13).trans (fup_ne (by first | exact Or.inl (by decide) | omega))
          refine And.intro ⟨rfl, by decide, by decide⟩ ?_
          refine And.intro ⟨rfl, by decide, by decide⟩ ?_
          refine fload1 rL_680_680_0_23_1_0 h0 hB10 ⟨by decide, by decide⟩ (by first | exact ⟨hb.1, Int.le_trans (Int.le_sub_one_of_lt (Int.lt_of_lt_of_le c3 uz1)) (by decide)⟩ | omega) ?_
          intro z13 lz13 uz13 qz13
          refine And.intro ⟨rfl, by decide, by decide⟩ ?_
          refine fload1 rL_682_682_0_23_1_0 h0 hB10 ⟨by decide, by decide⟩ (by first | exact ⟨hb.1, Int.le_trans (Int.le_sub_one_of_lt (Int.lt_of_lt_of_le c3 uz1)) (by decide)⟩ | omega) ?_
          intro z14 lz14 uz14 qz14
          refine And.intro (And.intro (by first | exact fi_ lz14 uz14 rfl | omega) (And.intro (by first | exact ⟨by decide, by decide⟩ | omega) (And.intro (by first | exact by decide | omega) rfl))) ?_
          intro z15 hz15 ez15 dz15
          intro z16 hz16 ez16 bz16
          clear ez16
          clear bz16
          refine And.intro (And.intro (by first | exact ⟨by decide, by decide⟩ | omega) (And.intro (by omega) rfl)) ?_
          intro z17 hz17
          refine fstore1 rS_680_680_0_23_1_0 (fzs_sub (by decide +kernel) hW) ⟨by decide, by decide⟩ (by first | exact ⟨hb.1, Int.le_trans (Int.le_sub_one_of_lt (Int.lt_of_lt_of_le c3 uz1)) (by decide)⟩ | omega) (by omega) ?_
          intro IhB18 ehB18 hB18
          have t19 := fup_self ehB18
          have t20 : IhB18 675 13 = IhB10 675 13 := (congrFun (congrFun ehB18 675) 13).trans (fup_ne (by first | exact Or.inl (by decide) | omega))
          refine And.intro ⟨rfl, by decide, by decide⟩ ?_
          refine fload1 rL_682_682_0_23_1_0 h0 hB18 ⟨by decide, by decide⟩ (by first | exact ⟨hb.1, Int.le_trans (Int.le_sub_one_of_lt (Int.lt_of_lt_of_le c3 uz1)) (by decide)⟩ | omega) ?_
          intro z21 lz21 uz21 qz21
          refine And.intro (And.intro (by first | exact fi_ lz21 uz21 rfl | omega) (And.intro (by first | exact ⟨by decide, by decide⟩ | omega) (And.intro (by first | exact by decide | omega) rfl))) ?_
          intro z22 hz22 ez22 dz22
          refine fstore1 rS_682_682_0_23_1_0 (fzs_sub (by decide +kernel) hW) ⟨by decide, by decide⟩ (by first | exact ⟨hb.1, Int.le_trans (Int.le_sub_one_of_lt (Int.lt_of_lt_of_le c3 uz1)) (by decide)⟩ | omega) (by omega) ?_
          intro IhB23 ehB23 hB23
          have t24 := fup_self ehB23
          have t25 : IhB23 675 13 = IhB18 675 13 := (congrFun (congrFun ehB23 675) 13).trans (fup_ne (by first | exact Or.inl (by decide) | omega))
          exact fcutJ (I := IhB23) (j := jc_Works_foulAll_2e164_2) (lv' := [(0, .inr (.inr (some 675))), (1, .inl _)]) (And.intro rfl (And.intro rfl True.intro)) ⟨_, rfl, rfl, by omega, rfl⟩ (by omega)
  · have hB0 := fB_self (zn := znJ) (K := fKc wz_4c809) h0
    exact fcutJ (I := I) (j := jc_Works_foulAll_2e164_2) (lv' := [(0, .inr (.inr (some 675))), (1, .inl _)]) (And.intro rfl (And.intro rfl True.intro)) ⟨_, rfl, rfl, by omega, rfl⟩ (by omega)
set_option maxRecDepth 8000 in
theorem ct_Works_isGone_bce90 {I : fH} {x1 : Int} (h0 : fB bsJ I) (ha1 : (0 ≤ x1 ∧ x1 ≤ 23)) : fC ρ base n F xTc vwCl xTys D dA la gJ (fbz bsJ znJ (fKc []) I) xm_50 [.inr (.inr (some 675)), .inl x1] I (fun _ r => ∃ z, r = some (.inl z) ∧ (0 ≤ z ∧ z ≤ 1)) := by
  have hW : fzs [] (fKc []) := fKc_ok _
  refine f_meth (rb := rbJ) (J := []) 1 400 xG xin_50 x6_50 okJ (fB_self h0) ?_ ?_
  · exact fun q h => absurd h List.not_mem_nil
  · have hB0 := fB_self (zn := znJ) (K := fKc []) h0
    refine And.intro ⟨rfl, by decide, by decide⟩ ?_
    refine fload1 rL_686_686_0_23_1_0 h0 hB0 ⟨by decide, by decide⟩ (by first | exact ⟨ha1.1, ha1.2⟩ | omega) ?_
    intro z1 lz1 uz1 qz1
    refine And.intro (And.intro (by first | exact fi_ lz1 uz1 rfl | omega) (by first | exact ⟨by decide, by decide⟩ | omega)) (And.intro ?_ ?_)
    · intro c2
      refine And.intro (⟨by omega, by omega⟩) ?_
      exact ⟨_, rfl, by omega⟩
    · intro c3
      refine And.intro (⟨by decide, by decide⟩) ?_
      exact ⟨_, rfl, (by first | exact ⟨by decide, by decide⟩ | omega)⟩
abbrev jc_People_isWatched_98c46_2 : Nat → fL → List fV → fH → Prop := fun m lv st I => ∃ (y1 : Int) (y2 : Int), lv = [(0, .inr (.inr (some 689))), (1, .inl y1), (2, .inl y2)] ∧ st = [] ∧ (((0 ≤ y1 ∧ y1 ≤ 19) ∧ (0 ≤ y2 ∧ y2 ≤ 24))) ∧ m = (1 + 1 * (24 - y2) : Int).toNat
set_option maxRecDepth 8000 in
theorem ct_People_isWatched_98c46 {I : fH} {x1 : Int} (h0 : fB bsJ I) (ha1 : (0 ≤ x1 ∧ x1 ≤ 19)) : fC ρ base n F xTc vwCl xTys D dA la gJ (fbz bsJ znJ (fKc []) I) xm_97 [.inr (.inr (some 689)), .inl x1] I (fun _ r => ∃ z, r = some (.inl z) ∧ (0 ≤ z ∧ z ≤ 1)) := by
  have hW : fzs [] (fKc []) := fKc_ok _
  refine f_meth (rb := rbJ) (J := [(2, jc_People_isWatched_98c46_2)]) 26 400 xG xin_97 x6_97 okJ (fB_self h0) ?_ ?_
  · refine List.forall_mem_cons.mpr ⟨?_, fun q h => absurd h List.not_mem_nil⟩
    · rintro m _ _ I1 hB1 ⟨y1, y2, rfl, rfl, hb, hm⟩
      refine And.intro ⟨rfl, by decide, by decide⟩ (fgetf fb_689_4 h0 hB1 ?_)
      intro z1 lz1 uz1 qz1
      refine And.intro (And.intro (by first | exact fi_ hb.2.1 hb.2.2 rfl | omega) (by first | exact fi_ lz1 uz1 rfl | omega)) (And.intro ?_ ?_)
      · intro c2
        refine And.intro (⟨by decide, by decide⟩) ?_
        exact ⟨_, rfl, (by first | exact ⟨by decide, by decide⟩ | omega)⟩
      · intro c3
        refine And.intro ⟨rfl, by decide, by decide⟩ ?_
        refine fload1 rL_692_692_0_23_1_0 h0 hB1 ⟨by decide, by decide⟩ (by first | exact ⟨hb.2.1, Int.le_trans (Int.le_sub_one_of_lt (Int.lt_of_lt_of_le c3 uz1)) (by decide)⟩ | omega) ?_
        intro z4 lz4 uz4 qz4
        refine And.intro (And.intro (by first | exact fi_ lz4 uz4 rfl | omega) (by first | exact fi_ hb.1.1 hb.1.2 rfl | omega)) (And.intro ?_ ?_)
        · intro c5
          exact fcutJ (I := I1) (j := jc_People_isWatched_98c46_2) (lv' := [(0, .inr (.inr (some 689))), (1, .inl _), (2, .inl _)]) (And.intro rfl (And.intro rfl (And.intro rfl True.intro))) ⟨_, _, rfl, rfl, by omega, rfl⟩ (by omega)
        · intro c6
          refine And.intro ⟨rfl, by decide, by decide⟩ ?_
          refine fload1 rL_691_691_0_23_1_0 h0 hB1 ⟨by decide, by decide⟩ (by first | exact ⟨hb.2.1, Int.le_trans (Int.le_sub_one_of_lt (Int.lt_of_lt_of_le c3 uz1)) (by decide)⟩ | omega) ?_
          intro z7 lz7 uz7 qz7
          refine And.intro (And.intro (by first | exact fi_ lz7 uz7 rfl | omega) (by first | exact ⟨by decide, by decide⟩ | omega)) (And.intro ?_ ?_)
          · intro c8
            exact fcutJ (I := I1) (j := jc_People_isWatched_98c46_2) (lv' := [(0, .inr (.inr (some 689))), (1, .inl _), (2, .inl _)]) (And.intro rfl (And.intro rfl (And.intro rfl True.intro))) ⟨_, _, rfl, rfl, by omega, rfl⟩ (by omega)
          · intro c9
            refine Exists.intro xm_21 (And.intro mi_21 (And.intro ⟨rfl, rfl, rfl, rfl⟩ (And.intro rfl ?_)))
            refine fcallp hB1 (ct_People_isDead_16e8f (fBz h0 hB1) (by first | exact ⟨hb.2.1, Int.le_trans (Int.le_sub_one_of_lt (Int.lt_of_lt_of_le c3 uz1)) (by decide)⟩ | omega)) ?_
            rintro _ ⟨z10, rfl, hz10⟩
            refine And.intro (by omega) (And.intro ?_ ?_)
            · intro c11
              exact fcutJ (I := I1) (j := jc_People_isWatched_98c46_2) (lv' := [(0, .inr (.inr (some 689))), (1, .inl _), (2, .inl _)]) (And.intro rfl (And.intro rfl (And.intro rfl True.intro))) ⟨_, _, rfl, rfl, by omega, rfl⟩ (by omega)
            · intro c12
              refine And.intro (⟨by decide, by decide⟩) ?_
              exact ⟨_, rfl, (by first | exact ⟨by decide, by decide⟩ | omega)⟩
  · have hB0 := fB_self (zn := znJ) (K := fKc []) h0
    exact fcutJ (I := I) (j := jc_People_isWatched_98c46_2) (lv' := [(0, .inr (.inr (some 689))), (1, .inl _), (2, .inl _)]) (And.intro rfl (And.intro rfl (And.intro rfl True.intro))) ⟨_, _, rfl, rfl, by omega, rfl⟩ (by omega)
set_option maxRecDepth 8000 in
theorem ct_Cells_sendReport_31df9 {I : fH} {x1 : Int} {x2 : Int} {x3 : Int} (h0 : fB bsJ I) (ha1 : (0 ≤ x1 ∧ x1 ≤ 19)) (ha2 : ((-2147483648) ≤ x2 ∧ x2 ≤ 2147483647)) (ha3 : ((-2147483648) ≤ x3 ∧ x3 ≤ 2147483647)) : fC ρ base n F xTc vwCl xTys D dA la gJ (fbz bsJ znJ (fKc wz_3ed0a) I) xm_98 [.inr (.inr (some 514)), .inl x1, .inl x2, .inl x3] I (fun _ r => r = none) := by
  have hW : fzs wz_3ed0a (fKc wz_3ed0a) := fKc_ok _
  refine f_meth (rb := rbJ) (J := []) 1 400 xG xin_98 x6_98 okJ (fB_self h0) ?_ ?_
  · exact fun q h => absurd h List.not_mem_nil
  · have hB0 := fB_self (zn := znJ) (K := fKc wz_3ed0a) h0
    refine And.intro (by first | exact fi_ ha3.1 ha3.2 rfl | omega) (And.intro ?_ ?_)
    · intro c1
      refine And.intro ⟨rfl, by decide, by decide⟩ (fgetf fb_514_12 h0 hB0 ?_)
      intro z2 lz2 uz2 qz2
      refine And.intro (And.intro (by first | exact fi_ lz2 uz2 rfl | omega) (by first | exact ⟨by decide, by decide⟩ | omega)) (And.intro ?_ ?_)
      · intro c3
        exact rfl
      · intro c4
        refine And.intro ⟨rfl, by decide, by decide⟩ ?_
        refine And.intro ⟨rfl, by decide, by decide⟩ (fgetf fb_514_12 h0 hB0 ?_)
        intro z5 lz5 uz5 qz5
        refine And.intro ⟨rfl, by decide⟩ (And.intro (by omega) ?_)
        refine And.intro ⟨rfl, by decide, by decide⟩ ?_
        refine And.intro ⟨rfl, by decide⟩ (And.intro (by first | exact ⟨ha1.1, Int.lt_of_le_of_lt ha1.2 (by decide)⟩ | omega) ?_)
        refine And.intro (fcopyU (rgG_518_537 (by omega) (by omega)) (rgG_585_674 (by omega) (by omega)) rL_518_537_0_4_1_0 rS_585_674_0_4_1_0 (fzs_sub (by decide +kernel) hW) h0 hB0 (by omega) (by omega) (by omega) (by omega)) (And.intro rfl ?_)
        intro IhB6 ehB6 hB6
        have t7 : IhB6 514 12 = I 514 12 := (congrFun (congrFun ehB6 514) 12).trans (fcpy_ne (by omega))
        refine fstore rS_585_674_5_5_1_0 (fzs_sub (by decide +kernel) hW) (by omega) (by first | exact ⟨ha2.1, ha2.2⟩ | omega) ?_
        intro IhB8 ehB8 hB8
        have t9 := fup_self ehB8
        have t10 : IhB8 514 12 = IhB6 514 12 := (congrFun (congrFun ehB8 514) 12).trans (fup_ne (by first | exact Or.inl (by decide) | omega))
        intro z11 hz11 ez11 bz11
        clear ez11
        clear bz11
        refine fstore rS_585_674_6_6_1_0 (fzs_sub (by decide +kernel) hW) (by omega) (by omega) ?_
        intro IhB12 ehB12 hB12
        have t13 := fup_self ehB12
        have t14 : IhB12 514 12 = IhB8 514 12 := (congrFun (congrFun ehB12 514) 12).trans (fup_ne (by first | exact Or.inl (by decide) | omega))
        refine fstore rS_585_674_7_7_1_0 (fzs_sub (by decide +kernel) hW) (by omega) (by first | exact ⟨ha1.1, ha1.2⟩ | omega) ?_
        intro IhB15 ehB15 hB15
        have t16 := fup_self ehB15
        have t17 : IhB15 514 12 = IhB12 514 12 := (congrFun (congrFun ehB15 514) 12).trans (fup_ne (by first | exact Or.inl (by decide) | omega))
        refine And.intro ⟨rfl, by decide, by decide⟩ (fgetf fb_514_12 h0 hB15 ?_)
        intro z18 lz18 uz18 qz18
        refine And.intro ⟨rfl, by decide, by decide⟩ (And.intro rfl (And.intro (Or.inl rfl) (fputf fb_514_12 (by decide +kernel) hW (by omega) ?_)))
        intro IhB19 ehB19 hB19
        exact rfl
    · intro c20
      refine And.intro ⟨rfl, by decide, by decide⟩ ?_
      refine And.intro ⟨rfl, by decide⟩ (And.intro (by first | exact ⟨ha1.1, Int.lt_of_le_of_lt ha1.2 (by decide)⟩ | omega) ?_)
      refine And.intro ⟨rfl, by decide, by decide⟩ ?_
      refine And.intro ⟨rfl, by decide⟩ (And.intro (by first | exact ⟨ha1.1, Int.lt_of_le_of_lt ha1.2 (by decide)⟩ | omega) ?_)
      refine And.intro (fcopyU (rgG_518_537 (by omega) (by omega)) (rgG_560_579 (by omega) (by omega)) rL_518_537_0_4_1_0 rS_560_579_0_5_1_0 (fzs_sub (by decide +kernel) hW) h0 hB0 (by omega) (by omega) (by omega) (by omega)) (And.intro rfl ?_)
      intro IhB21 ehB21 hB21
      refine And.intro ⟨rfl, by decide, by decide⟩ ?_
      refine And.intro ⟨rfl, by decide⟩ (And.intro (by first | exact ⟨ha1.1, Int.lt_of_le_of_lt ha1.2 (by decide)⟩ | omega) ?_)
      refine fstore rS_560_579_0_5_1_0 (fzs_sub (by decide +kernel) hW) (by omega) (by first | exact ⟨ha2.1, ha2.2⟩ | omega) ?_
      intro IhB22 ehB22 hB22
      have t23 := fup_self ehB22
      exact rfl
abbrev jc_City_sendReports_305c9_2 : Nat → fL → List fV → fH → Prop := fun m lv st I => ∃ (y1 : Int), lv = [(0, .inr (.inr (some 513))), (1, .inl y1)] ∧ st = [] ∧ (((0 ≤ y1 ∧ y1 ≤ 20))) ∧ m = (1 + 1 * (20 - y1) : Int).toNat
set_option maxRecDepth 8000 in
theorem ct_City_sendReports_305c9 {I : fH}  (h0 : fB bsJ I)  : fC ρ base n F xTc vwCl xTys D dA la gJ (fbz bsJ znJ (fKc wz_3ed0a) I) xm_96 [.inr (.inr (some 513))] I (fun _ r => r = none) := by
  have hW : fzs wz_3ed0a (fKc wz_3ed0a) := fKc_ok _
  refine f_meth (rb := rbJ) (J := [(2, jc_City_sendReports_305c9_2)]) 22 400 xG xin_96 x6_96 okJ (fB_self h0) ?_ ?_
  · refine List.forall_mem_cons.mpr ⟨?_, fun q h => absurd h List.not_mem_nil⟩
    · rintro m _ _ I1 hB1 ⟨y1, rfl, rfl, hb, hm⟩
      refine And.intro ⟨rfl, by decide, by decide⟩ ?_
      refine And.intro ⟨rfl, by decide, by decide⟩ (fgetf fb_514_5 h0 hB1 ?_)
      intro z1 lz1 uz1 qz1
      refine And.intro (And.intro (by first | exact fi_ hb.1 hb.2 rfl | omega) (by first | exact fi_ lz1 uz1 rfl | omega)) (And.intro ?_ ?_)
      · intro c2
        exact rfl
      · intro c3
        refine And.intro ⟨rfl, by decide, by decide⟩ ?_
        refine Exists.intro xm_97 (And.intro mi_97 (And.intro ⟨rfl, rfl, rfl, rfl⟩ (And.intro rfl ?_)))
        refine fcallp hB1 (ct_People_isWatched_98c46 (fBz h0 hB1) (by first | exact ⟨hb.1, Int.le_trans (Int.le_sub_one_of_lt (Int.lt_of_lt_of_le c3 uz1)) (by decide)⟩ | omega)) ?_
        rintro _ ⟨z4, rfl, hz4⟩
        refine And.intro (by omega) (And.intro ?_ ?_)
        · intro c5
          exact fcutJ (I := I1) (j := jc_City_sendReports_305c9_2) (lv' := [(0, .inr (.inr (some 513))), (1, .inl _)]) (And.intro rfl (And.intro rfl True.intro)) ⟨_, rfl, rfl, by omega, rfl⟩ (by omega)
        · intro c6
          refine And.intro ⟨rfl, by decide, by decide⟩ ?_
          refine And.intro ⟨rfl, by decide, by decide⟩ (fgetf fb_513_9 h0 hB1 ?_)
          intro z7 lz7 uz7 qz7
          refine And.intro ⟨rfl, by decide, by decide⟩ (fgetf fb_513_8 h0 hB1 ?_)
          intro z8 lz8 uz8 qz8
          refine Exists.intro xm_98 (And.intro mi_98 (And.intro ⟨rfl, rfl, rfl, rfl⟩ (And.intro rfl ?_)))
          refine fcall _ h0 (fzs_sub (by decide +kernel) hW) hB1 (ct_Cells_sendReport_31df9 (fBz h0 hB1) (by first | exact ⟨hb.1, Int.le_trans (Int.le_sub_one_of_lt (Int.lt_of_lt_of_le c3 uz1)) (by decide)⟩ | omega) (by first | exact ⟨lz7, uz7⟩ | omega) (by first | exact ⟨lz8, uz8⟩ | omega)) ?_
          rintro IhB10 _ hB10 fhB10 rfl
          have t11 := fhB10 514 5 (by decide +kernel)
          exact fcutJ (I := IhB10) (j := jc_City_sendReports_305c9_2) (lv' := [(0, .inr (.inr (some 513))), (1, .inl _)]) (And.intro rfl (And.intro rfl True.intro)) ⟨_, rfl, rfl, by omega, rfl⟩ (by omega)
  · have hB0 := fB_self (zn := znJ) (K := fKc wz_3ed0a) h0
    exact fcutJ (I := I) (j := jc_City_sendReports_305c9_2) (lv' := [(0, .inr (.inr (some 513))), (1, .inl _)]) (And.intro rfl (And.intro rfl True.intro)) ⟨_, rfl, rfl, by omega, rfl⟩ (by omega)
set_option maxRecDepth 8000 in
theorem ct_Cells_hear_45721 {I : fH} {x1 : Nat} (h0 : fB bsJ I) (ha1 : (585 ≤ x1 ∧ x1 ≤ 674)) : fC ρ base n F xTc vwCl xTys D dA la gJ (fbz bsJ znJ (fKc wz_10d1b) I) xm_76 [.inr (.inr (some 514)), .inr (.inr (some x1))] I (fun _ r => r = none) := by
  have hW : fzs wz_10d1b (fKc wz_10d1b) := fKc_ok _
  refine f_meth (rb := rbJ) (J := []) 1 400 xG xin_76 x6_76 okJ (fB_self h0) ?_ ?_
  · exact fun q h => absurd h List.not_mem_nil
  · have hB0 := fB_self (zn := znJ) (K := fKc wz_10d1b) h0
    refine fload rL_585_674_7_7_1_0 h0 hB0 (by omega) ?_
    intro z1 lz1 uz1 qz1
    refine fload rL_585_674_5_5_1_0 h0 hB0 (by omega) ?_
    intro z2 lz2 uz2 qz2
    refine And.intro ⟨rfl, by decide, by decide⟩ ?_
    refine And.intro ⟨rfl, by decide⟩ (And.intro (by first | exact ⟨lz1, Int.lt_of_le_of_lt uz1 (by decide)⟩ | omega) ?_)
    refine fload rL_560_579_0_5_1_0 h0 hB0 (by omega) ?_
    intro z3 lz3 uz3 qz3
    refine And.intro (And.intro (by first | exact fi_ lz2 uz2 rfl | omega) (by first | exact fi_ lz3 uz3 rfl | omega)) (And.intro ?_ ?_)
    · intro c4
      exact rfl
    · intro c5
      refine And.intro ⟨rfl, by decide, by decide⟩ ?_
      refine And.intro ⟨rfl, by decide⟩ (And.intro (by first | exact ⟨lz1, Int.lt_of_le_of_lt uz1 (by decide)⟩ | omega) ?_)
      refine And.intro (fcopyU (rgG_585_674 (by omega) (by omega)) (rgG_560_579 (by omega) (by omega)) rL_585_674_0_5_1_0 rS_560_579_0_5_1_0 (fzs_sub (by decide +kernel) hW) h0 hB0 (by omega) (by omega) (by omega) (by omega)) (And.intro rfl ?_)
      intro IhB6 ehB6 hB6
      exact rfl
abbrev jc_Cells_takeReports_88f4c_4 : Nat → fL → List fV → fH → Prop := fun m lv st I => ∃ (y1 : Int) (y2 : Int) (y3 : Int), lv = [(0, .inr (.inr (some 514))), (1, .inl y1), (2, .inl y2), (3, .inl y3)] ∧ st = [] ∧ ((((-2147483648) ≤ y1 ∧ y1 ≤ 2147483647) ∧ (0 ≤ y2 ∧ y2 ≤ 90) ∧ (0 ≤ y3 ∧ y3 ≤ 90) ∧ (y2 ≤ y3))) ∧ m = (1 + 1 * (90 - y3) : Int).toNat
set_option maxRecDepth 8000 in
theorem ct_Cells_takeReports_88f4c {I : fH} {x1 : Int} (h0 : fB bsJ I) (ha1 : ((-2147483648) ≤ x1 ∧ x1 ≤ 2147483647)) : fC ρ base n F xTc vwCl xTys D dA la gJ (fbz bsJ znJ (fKc wz_3ed0a) I) xm_74 [.inr (.inr (some 514)), .inl x1] I (fun _ r => r = none) := by
  have hW : fzs wz_3ed0a (fKc wz_3ed0a) := fKc_ok _
  refine f_meth (rb := rbJ) (J := [(4, jc_Cells_takeReports_88f4c_4)]) 92 400 xG xin_74 x6_74 okJ (fB_self h0) ?_ ?_
  · refine List.forall_mem_cons.mpr ⟨?_, fun q h => absurd h List.not_mem_nil⟩
    · rintro m _ _ I1 hB1 ⟨y1, y2, y3, rfl, rfl, hb, hm⟩
      refine And.intro ⟨rfl, by decide, by decide⟩ (fgetf fb_514_12 h0 hB1 ?_)
      intro z1 lz1 uz1 qz1
      refine And.intro (And.intro (by first | exact fi_ hb.2.2.1.1 hb.2.2.1.2 rfl | omega) (by first | exact fi_ lz1 uz1 rfl | omega)) (And.intro ?_ ?_)
      · intro c2
        refine And.intro ⟨rfl, by decide, by decide⟩ (And.intro rfl (And.intro (Or.inl rfl) (fputf fb_514_12 (by decide +kernel) hW (by first | exact ⟨hb.2.1.1, hb.2.1.2⟩ | omega) ?_)))
        intro IhB3 ehB3 hB3
        have t4 := fup_at ehB3 12 (by first | rfl | omega)
        exact rfl
      · intro c5
        refine And.intro ⟨rfl, by decide, by decide⟩ ?_
        refine And.intro ⟨rfl, by decide⟩ (And.intro (by first | exact ⟨hb.2.2.1.1, Int.lt_of_le_of_lt (Int.le_sub_one_of_lt (Int.lt_of_lt_of_le c5 uz1)) (by decide)⟩ | omega) ?_)
        refine fload rL_585_674_6_6_1_0 h0 hB1 (by omega) ?_
        intro z6 lz6 uz6 qz6
        refine And.intro (And.intro (by first | exact fi_ lz6 uz6 rfl | omega) (by first | exact fi_ hb.1.1 hb.1.2 rfl | omega)) (And.intro ?_ ?_)
        · intro c7
          refine Exists.intro xm_76 (And.intro mi_76 (And.intro ⟨rfl, rfl, rfl, rfl⟩ (And.intro rfl ?_)))
          refine fcall _ h0 (fzs_sub (by decide +kernel) hW) hB1 (ct_Cells_hear_45721 (fBz h0 hB1) (by omega)) ?_
          rintro IhB9 _ hB9 fhB9 rfl
          have t10 := fhB9 514 12 (by decide +kernel)
          exact fcutJ (I := IhB9) (j := jc_Cells_takeReports_88f4c_4) (lv' := [(0, .inr (.inr (some 514))), (1, .inl _), (2, .inl _), (3, .inl _)]) (And.intro rfl (And.intro rfl (And.intro rfl (And.intro rfl True.intro)))) ⟨_, _, _, rfl, rfl, by omega, rfl⟩ (by omega)
        · intro c11
          refine And.intro ⟨rfl, by decide, by decide⟩ ?_
          refine And.intro ⟨rfl, by decide⟩ (And.intro (by omega) ?_)
          refine Exists.intro xm_75 (And.intro mi_75 (And.intro ⟨rfl, rfl, rfl, rfl⟩ (And.intro True.intro ?_)))
          refine fcall _ h0 (fzs_sub (by decide +kernel) hW) hB1 (ct_copyRow (W := [584]) (len := 8) (fBz h0 hB1) (frCx (a0 := 585) (a1 := 674) (by decide +kernel) (by omega) (by omega))) ?_
          rintro IhB12 _ hB12 fhB12 ⟨rfl, ehB12⟩
          have t13 := fhB12 514 12 (by decide +kernel)
          intro z14 hz14 bz14
          have bz14 := bz14 (by omega)
          exact fcutJ (I := IhB12) (j := jc_Cells_takeReports_88f4c_4) (lv' := [(0, .inr (.inr (some 514))), (1, .inl _), (2, .inl _), (3, .inl _)]) (And.intro rfl (And.intro rfl (And.intro rfl (And.intro rfl True.intro)))) ⟨_, _, _, rfl, rfl, by omega, rfl⟩ (by omega)
  · have hB0 := fB_self (zn := znJ) (K := fKc wz_3ed0a) h0
    exact fcutJ (I := I) (j := jc_Cells_takeReports_88f4c_4) (lv' := [(0, .inr (.inr (some 514))), (1, .inl _), (2, .inl _), (3, .inl _)]) (And.intro rfl (And.intro rfl (And.intro rfl (And.intro rfl True.intro)))) ⟨_, _, _, rfl, rfl, by omega, rfl⟩ (by omega)
set_option maxRecDepth 8000 in
theorem ct_People_needOf_66c94 {I : fH} {x1 : Int} (h0 : fB bsJ I) (ha1 : (0 ≤ x1 ∧ x1 ≤ 23)) : fC ρ base n F xTc vwCl xTys D dA la gJ (fbz bsJ znJ (fKc []) I) xm_92 [.inr (.inr (some 689)), .inl x1] I (fun _ r => ∃ z, r = some (.inl z) ∧ (1 ≤ z ∧ z ≤ 2)) := by
  have hW : fzs [] (fKc []) := fKc_ok _
  refine f_meth (rb := rbJ) (J := []) 1 400 xG xin_92 x6_92 okJ (fB_self h0) ?_ ?_
  · exact fun q h => absurd h List.not_mem_nil
  · have hB0 := fB_self (zn := znJ) (K := fKc []) h0
    refine And.intro ⟨rfl, by decide, by decide⟩ ?_
    refine fload1 rL_690_690_0_23_1_0 h0 hB0 ⟨by decide, by decide⟩ (by first | exact ⟨ha1.1, ha1.2⟩ | omega) ?_
    intro z1 lz1 uz1 qz1
    refine And.intro (And.intro (by first | exact fi_ lz1 uz1 rfl | omega) (by first | exact ⟨by decide, by decide⟩ | omega)) (And.intro ?_ ?_)
    · intro c2
      refine And.intro (True.intro) ?_
      exact ⟨_, rfl, by omega⟩
    · intro c3
      refine And.intro (True.intro) ?_
      exact ⟨_, rfl, (by first | exact ⟨by decide, by decide⟩ | omega)⟩
set_option maxRecDepth 8000 in
theorem ct_People_sicken_4d132 {I : fH} {x1 : Int} {x2 : Int} (h0 : fB bsJ I) (ha1 : (0 ≤ x1 ∧ x1 ≤ 23)) (ha2 : ((-1) ≤ x2 ∧ x2 ≤ 8)) : fC ρ base n F xTc vwCl xTys D dA la gJ (fbz bsJ znJ (fKc wz_e70f1) I) xm_93 [.inr (.inr (some 689)), .inl x1, .inl x2] I (fun _ r => r = none) := by
  have hW : fzs wz_e70f1 (fKc wz_e70f1) := fKc_ok _
  refine f_meth (rb := rbJ) (J := []) 1 400 xG xin_93 x6_93 okJ (fB_self h0) ?_ ?_
  · exact fun q h => absurd h List.not_mem_nil
  · have hB0 := fB_self (zn := znJ) (K := fKc wz_e70f1) h0
    refine And.intro ⟨rfl, by decide, by decide⟩ ?_
    refine And.intro ⟨rfl, by decide, by decide⟩ ?_
    refine fload1 rL_693_693_0_23_1_0 h0 hB0 ⟨by decide, by decide⟩ (by first | exact ⟨ha1.1, ha1.2⟩ | omega) ?_
    intro z1 lz1 uz1 qz1
    intro z2 hz2 ez2 bz2
    clear ez2
    clear bz2
    refine And.intro (And.intro (by first | exact ⟨by decide, by decide⟩ | omega) (And.intro (by omega) rfl)) ?_
    intro z3 hz3
    refine And.intro (And.intro (by first | exact ⟨by decide, by decide⟩ | omega) (And.intro (by omega) rfl)) ?_
    intro z4 hz4
    refine fstore1 rS_693_693_0_23_1_0 (fzs_sub (by decide +kernel) hW) ⟨by decide, by decide⟩ (by first | exact ⟨ha1.1, ha1.2⟩ | omega) (by omega) ?_
    intro IhB5 ehB5 hB5
    have t6 := fup_self ehB5
    exact rfl
set_option maxRecDepth 8000 in
theorem ct_City_breathe_fe888 {I : fH} {x1 : Int} (h0 : fB bsJ I) (ha1 : (0 ≤ x1 ∧ x1 ≤ 23)) : fC ρ base n F xTc vwCl xTys D dA la gJ (fbz bsJ znJ (fKc wz_edb18) I) xm_91 [.inr (.inr (some 513)), .inl x1] I (fun _ r => r = none) := by
  have hW : fzs wz_edb18 (fKc wz_edb18) := fKc_ok _
  refine f_meth (rb := rbJ) (J := []) 1 400 xG xin_91 x6_91 okJ (fB_self h0) ?_ ?_
  · exact fun q h => absurd h List.not_mem_nil
  · have hB0 := fB_self (zn := znJ) (K := fKc wz_edb18) h0
    refine And.intro ⟨rfl, by decide, by decide⟩ ?_
    refine And.intro ⟨rfl, by decide, by decide⟩ ?_
    refine fload1 rL_692_692_0_23_1_0 h0 hB0 ⟨by decide, by decide⟩ (by first | exact ⟨ha1.1, ha1.2⟩ | omega) ?_
    intro z1 lz1 uz1 qz1
    refine And.intro ⟨rfl, by decide, by decide⟩ ?_
    refine Exists.intro xm_92 (And.intro mi_92 (And.intro ⟨rfl, rfl, rfl, rfl⟩ (And.intro rfl ?_)))
    refine fcallp hB0 (ct_People_needOf_66c94 (fBz h0 hB0) (by first | exact ⟨ha1.1, ha1.2⟩ | omega)) ?_
    rintro _ ⟨z2, rfl, hz2⟩
    refine And.intro ⟨rfl, by decide, by decide⟩ ?_
    refine And.intro ⟨rfl, by decide, by decide⟩ ?_
    refine And.intro ⟨rfl, by decide⟩ (And.intro (by first | exact ⟨lz1, Int.lt_of_le_of_lt uz1 (by decide)⟩ | omega) ?_)
    refine fload rL_518_537_0_4_1_0 h0 hB0 (by omega) ?_
    intro z3 lz3 uz3 qz3
    refine And.intro (And.intro (by first | exact fi_ hz2.1 hz2.2 rfl | omega) (And.intro (by first | exact fi_ lz3 uz3 rfl | omega) rfl)) ?_
    intro z4 hz4
    refine And.intro ⟨rfl, by decide, by decide⟩ ?_
    refine And.intro ⟨rfl, by decide, by decide⟩ ?_
    refine And.intro ⟨rfl, by decide⟩ (And.intro (by first | exact ⟨lz1, Int.lt_of_le_of_lt uz1 (by decide)⟩ | omega) ?_)
    refine fload rL_518_537_0_4_1_0 h0 hB0 (by omega) ?_
    intro z5 lz5 uz5 qz5
    intro z6 hz6 ez6 bz6
    clear ez6
    clear bz6
    refine fstore rS_518_537_0_4_1_0 (fzs_sub (by decide +kernel) hW) (by omega) (by omega) ?_
    intro IhB7 ehB7 hB7
    have t8 := fup_self ehB7
    refine And.intro ⟨rfl, by decide, by decide⟩ ?_
    refine And.intro (And.intro (by omega) (And.intro (by first | exact ⟨by decide, by decide⟩ | omega) (And.intro (by first | exact by decide | omega) rfl))) ?_
    intro z9 hz9 ez9 dz9
    refine Exists.intro xm_84 (And.intro mi_84 (And.intro ⟨rfl, rfl, rfl, rfl⟩ (And.intro rfl ?_)))
    refine fcall _ h0 (fzs_sub (by decide +kernel) hW) hB7 (ct_Cells_addAir_f5ee0 (fBz h0 hB7) (by first | exact ⟨lz1, uz1⟩ | omega) (by first | exact ⟨by decide, by decide⟩ | omega) (by omega)) ?_
    rintro IhB11 _ hB11 fhB11 rfl
    refine And.intro ⟨rfl, by decide, by decide⟩ ?_
    refine And.intro (And.intro (by omega) (And.intro (by first | exact ⟨by decide, by decide⟩ | omega) (And.intro (by first | exact by decide | omega) rfl))) ?_
    intro z12 hz12 ez12 dz12
    intro z13 hz13 ez13 bz13
    clear ez13
    clear bz13
    refine Exists.intro xm_84 (And.intro mi_84 (And.intro ⟨rfl, rfl, rfl, rfl⟩ (And.intro rfl ?_)))
    refine fcall _ h0 (fzs_sub (by decide +kernel) hW) hB11 (ct_Cells_addAir_f5ee0 (fBz h0 hB11) (by first | exact ⟨lz1, uz1⟩ | omega) (by first | exact ⟨by decide, by decide⟩ | omega) (by omega)) ?_
    rintro IhB15 _ hB15 fhB15 rfl
    refine And.intro (by omega) (And.intro ?_ ?_)
    · intro c16
      refine And.intro ⟨rfl, by decide, by decide⟩ ?_
      refine And.intro ⟨rfl, by decide, by decide⟩ ?_
      refine And.intro ⟨rfl, by decide⟩ (And.intro (by first | exact ⟨lz1, Int.lt_of_le_of_lt uz1 (by decide)⟩ | omega) ?_)
      refine fload rL_518_537_0_4_1_0 h0 hB15 (by omega) ?_
      intro z17 lz17 uz17 qz17
      refine And.intro ⟨rfl, by decide, by decide⟩ ?_
      refine And.intro ⟨rfl, by decide, by decide⟩ ?_
      refine fload1 rL_515_515_0_19_1_0 h0 hB15 ⟨by decide, by decide⟩ (by first | exact ⟨lz1, uz1⟩ | omega) ?_
      intro z18 lz18 uz18 qz18
      refine And.intro (And.intro (by first | exact fi_ lz17 uz17 rfl | omega) (by first | exact fi_ lz18 uz18 rfl | omega)) (And.intro ?_ ?_)
      · intro c19
        refine And.intro ⟨rfl, by decide, by decide⟩ ?_
        refine And.intro (by omega) (And.intro ?_ ?_)
        · intro c20
          refine Exists.intro xm_93 (And.intro mi_93 (And.intro ⟨rfl, rfl, rfl, rfl⟩ (And.intro rfl ?_)))
          refine fcall _ h0 (fzs_sub (by decide +kernel) hW) hB15 (ct_People_sicken_4d132 (fBz h0 hB15) (by first | exact ⟨ha1.1, ha1.2⟩ | omega) (by omega)) ?_
          rintro IhB22 _ hB22 fhB22 rfl
          exact rfl
        · intro c23
          refine Exists.intro xm_93 (And.intro mi_93 (And.intro ⟨rfl, rfl, rfl, rfl⟩ (And.intro rfl ?_)))
          refine fcall _ h0 (fzs_sub (by decide +kernel) hW) hB15 (ct_People_sicken_4d132 (fBz h0 hB15) (by first | exact ⟨ha1.1, ha1.2⟩ | omega) (by first | exact ⟨by decide, by decide⟩ | omega)) ?_
          rintro IhB25 _ hB25 fhB25 rfl
          exact rfl
      · intro c26
        refine And.intro ⟨rfl, by decide, by decide⟩ ?_
        refine And.intro (by omega) (And.intro ?_ ?_)
        · intro c27
          refine Exists.intro xm_93 (And.intro mi_93 (And.intro ⟨rfl, rfl, rfl, rfl⟩ (And.intro rfl ?_)))
          refine fcall _ h0 (fzs_sub (by decide +kernel) hW) hB15 (ct_People_sicken_4d132 (fBz h0 hB15) (by first | exact ⟨ha1.1, ha1.2⟩ | omega) (by omega)) ?_
          rintro IhB29 _ hB29 fhB29 rfl
          exact rfl
        · intro c30
          refine Exists.intro xm_93 (And.intro mi_93 (And.intro ⟨rfl, rfl, rfl, rfl⟩ (And.intro rfl ?_)))
          refine fcall _ h0 (fzs_sub (by decide +kernel) hW) hB15 (ct_People_sicken_4d132 (fBz h0 hB15) (by first | exact ⟨ha1.1, ha1.2⟩ | omega) (by first | exact ⟨by decide, by decide⟩ | omega)) ?_
          rintro IhB32 _ hB32 fhB32 rfl
          exact rfl
    · intro c33
      refine And.intro ⟨rfl, by decide, by decide⟩ ?_
      refine And.intro ⟨rfl, by decide, by decide⟩ ?_
      refine And.intro ⟨rfl, by decide⟩ (And.intro (by first | exact ⟨lz1, Int.lt_of_le_of_lt uz1 (by decide)⟩ | omega) ?_)
      refine fload rL_518_537_0_4_1_0 h0 hB15 (by omega) ?_
      intro z34 lz34 uz34 qz34
      refine And.intro ⟨rfl, by decide, by decide⟩ ?_
      refine And.intro ⟨rfl, by decide, by decide⟩ ?_
      refine fload1 rL_515_515_0_19_1_0 h0 hB15 ⟨by decide, by decide⟩ (by first | exact ⟨lz1, uz1⟩ | omega) ?_
      intro z35 lz35 uz35 qz35
      refine And.intro (And.intro (by first | exact fi_ lz34 uz34 rfl | omega) (by first | exact fi_ lz35 uz35 rfl | omega)) (And.intro ?_ ?_)
      · intro c36
        refine And.intro ⟨rfl, by decide, by decide⟩ ?_
        refine And.intro (by first | exact ⟨by decide, by decide⟩ | omega) (And.intro ?_ ?_)
        · intro c37
          refine Exists.intro xm_93 (And.intro mi_93 (And.intro ⟨rfl, rfl, rfl, rfl⟩ (And.intro rfl ?_)))
          refine fcall _ h0 (fzs_sub (by decide +kernel) hW) hB15 (ct_People_sicken_4d132 (fBz h0 hB15) (by first | exact ⟨ha1.1, ha1.2⟩ | omega) (by first | exact ⟨by decide, by decide⟩ | omega)) ?_
          rintro IhB39 _ hB39 fhB39 rfl
          exact rfl
        · intro c40
          refine Exists.intro xm_93 (And.intro mi_93 (And.intro ⟨rfl, rfl, rfl, rfl⟩ (And.intro rfl ?_)))
          refine fcall _ h0 (fzs_sub (by decide +kernel) hW) hB15 (ct_People_sicken_4d132 (fBz h0 hB15) (by first | exact ⟨ha1.1, ha1.2⟩ | omega) (by first | exact ⟨by decide, by decide⟩ | omega)) ?_
          rintro IhB42 _ hB42 fhB42 rfl
          exact rfl
      · intro c43
        refine And.intro ⟨rfl, by decide, by decide⟩ ?_
        refine And.intro (by omega) (And.intro ?_ ?_)
        · intro c44
          refine Exists.intro xm_93 (And.intro mi_93 (And.intro ⟨rfl, rfl, rfl, rfl⟩ (And.intro rfl ?_)))
          refine fcall _ h0 (fzs_sub (by decide +kernel) hW) hB15 (ct_People_sicken_4d132 (fBz h0 hB15) (by first | exact ⟨ha1.1, ha1.2⟩ | omega) (by omega)) ?_
          rintro IhB46 _ hB46 fhB46 rfl
          exact rfl
        · intro c47
          refine Exists.intro xm_93 (And.intro mi_93 (And.intro ⟨rfl, rfl, rfl, rfl⟩ (And.intro rfl ?_)))
          refine fcall _ h0 (fzs_sub (by decide +kernel) hW) hB15 (ct_People_sicken_4d132 (fBz h0 hB15) (by first | exact ⟨ha1.1, ha1.2⟩ | omega) (by first | exact ⟨by decide, by decide⟩ | omega)) ?_
          rintro IhB49 _ hB49 fhB49 rfl
          exact rfl
set_option maxRecDepth 8000 in
theorem ct_City_level_cee1f {I : fH}  (h0 : fB bsJ I)  : fC ρ base n F xTc vwCl xTys D dA la gJ (fbz bsJ znJ (fKc []) I) xm_31 [.inr (.inr (some 513))] I (fun _ r => ∃ z, r = some (.inl z) ∧ (0 ≤ z ∧ z ≤ 60)) := by
  have hW : fzs [] (fKc []) := fKc_ok _
  refine f_meth (rb := rbJ) (J := []) 1 400 xG xin_31 x6_31 okJ (fB_self h0) ?_ ?_
  · exact fun q h => absurd h List.not_mem_nil
  · have hB0 := fB_self (zn := znJ) (K := fKc []) h0
    refine And.intro ⟨rfl, by decide, by decide⟩ (fgetf fb_513_5 h0 hB0 ?_)
    intro z1 lz1 uz1 qz1
    refine And.intro (And.intro (by first | exact fi_ lz1 uz1 rfl | omega) (And.intro (by first | exact ⟨by decide, by decide⟩ | omega) (And.intro (by first | exact by decide | omega) rfl))) ?_
    intro z2 hz2 ez2 dz2
    have dz2 := dz2 (by omega) (by omega)
    change _ = _ / _ at dz2
    refine And.intro (True.intro) ?_
    exact ⟨_, rfl, by omega⟩
set_option maxRecDepth 8000 in
theorem ct_Works_isSkin_984b7 {I : fH} {x1 : Int} (h0 : fB bsJ I) (ha1 : (0 ≤ x1 ∧ x1 ≤ 23)) : fC ρ base n F xTc vwCl xTys D dA la gJ (fbz bsJ znJ (fKc []) I) xm_64 [.inr (.inr (some 675)), .inl x1] I (fun _ r => ∃ z, r = some (.inl z) ∧ (0 ≤ z ∧ z ≤ 1)) := by
  have hW : fzs [] (fKc []) := fKc_ok _
  refine f_meth (rb := rbJ) (J := []) 1 400 xG xin_64 x6_64 okJ (fB_self h0) ?_ ?_
  · exact fun q h => absurd h List.not_mem_nil
  · have hB0 := fB_self (zn := znJ) (K := fKc []) h0
    refine And.intro ⟨rfl, by decide, by decide⟩ ?_
    refine fload1 rL_676_676_0_23_1_0 h0 hB0 ⟨by decide, by decide⟩ (by first | exact ⟨ha1.1, ha1.2⟩ | omega) ?_
    intro z1 lz1 uz1 qz1
    refine And.intro (And.intro (by first | exact fi_ lz1 uz1 rfl | omega) (by first | exact ⟨by decide, by decide⟩ | omega)) (And.intro ?_ ?_)
    · intro c2
      refine And.intro (⟨by omega, by omega⟩) ?_
      exact ⟨_, rfl, by omega⟩
    · intro c3
      refine And.intro ⟨rfl, by decide, by decide⟩ ?_
      refine fload1 rL_686_686_0_23_1_0 h0 hB0 ⟨by decide, by decide⟩ (by first | exact ⟨ha1.1, ha1.2⟩ | omega) ?_
      intro z4 lz4 uz4 qz4
      refine And.intro (by first | exact fi_ lz4 uz4 rfl | omega) (And.intro ?_ ?_)
      · intro c5
        refine And.intro (⟨by omega, by omega⟩) ?_
        exact ⟨_, rfl, by omega⟩
      · intro c6
        refine And.intro (⟨by decide, by decide⟩) ?_
        exact ⟨_, rfl, (by first | exact ⟨by decide, by decide⟩ | omega)⟩
set_option maxRecDepth 8000 in
theorem ct_City_liftOf_6cbf4 {I : fH} {x1 : Int} (h0 : fB bsJ I) (ha1 : (0 ≤ x1 ∧ x1 ≤ 23)) : fC ρ base n F xTc vwCl xTys D dA la gJ (fbz bsJ znJ (fKc []) I) xm_63 [.inr (.inr (some 513)), .inl x1] I (fun _ r => ∃ z, r = some (.inl z) ∧ ((-2147483648) ≤ z ∧ z ≤ 2147483647)) := by
  have hW : fzs [] (fKc []) := fKc_ok _
  refine f_meth (rb := rbJ) (J := []) 1 400 xG xin_63 x6_63 okJ (fB_self h0) ?_ ?_
  · exact fun q h => absurd h List.not_mem_nil
  · have hB0 := fB_self (zn := znJ) (K := fKc []) h0
    refine And.intro ⟨rfl, by decide, by decide⟩ ?_
    refine Exists.intro xm_64 (And.intro mi_64 (And.intro ⟨rfl, rfl, rfl, rfl⟩ (And.intro rfl ?_)))
    refine fcallp hB0 (ct_Works_isSkin_984b7 (fBz h0 hB0) (by first | exact ⟨ha1.1, ha1.2⟩ | omega)) ?_
    rintro _ ⟨z1, rfl, hz1⟩
    refine And.intro (by omega) (And.intro ?_ ?_)
    · intro c2
      refine And.intro (True.intro) ?_
      exact ⟨_, rfl, by omega⟩
    · intro c3
      refine And.intro ⟨rfl, by decide, by decide⟩ ?_
      refine And.intro ⟨rfl, by decide, by decide⟩ ?_
      refine fload1 rL_684_684_0_23_1_0 h0 hB0 ⟨by decide, by decide⟩ (by first | exact ⟨ha1.1, ha1.2⟩ | omega) ?_
      intro z4 lz4 uz4 qz4
      refine And.intro ⟨rfl, by decide, by decide⟩ ?_
      refine And.intro ⟨rfl, by decide⟩ (And.intro (by first | exact ⟨by decide, by decide⟩ | omega) ?_)
      refine Exists.intro xm_31 (And.intro mi_31 (And.intro ⟨rfl, rfl, rfl, rfl⟩ (And.intro rfl ?_)))
      refine fcallp hB0 (ct_City_level_cee1f (fBz h0 hB0)) ?_
      rintro _ ⟨z5, rfl, hz5⟩
      refine fload1 rL_696_696_0_60_1_0 h0 hB0 ⟨by decide, by decide⟩ (by first | exact ⟨hz5.1, hz5.2⟩ | omega) ?_
      intro z6 lz6 uz6 qz6
      intro z7 hz7 ez7 bz7
      clear ez7
      clear bz7
      refine And.intro (And.intro (by omega) (And.intro (by first | exact ⟨by decide, by decide⟩ | omega) (And.intro (by first | exact by decide | omega) rfl))) ?_
      intro z8 hz8 ez8 dz8
      refine And.intro (True.intro) ?_
      exact ⟨_, rfl, by omega⟩
abbrev jc_City_lift_1f18c_4 : Nat → fL → List fV → fH → Prop := fun m lv st I => ∃ (y1 : Int) (y2 : Int), lv = [(0, .inr (.inr (some 513))), (1, .inl y1), (2, .inl y2)] ∧ st = [] ∧ ((((-2147483648) ≤ y1 ∧ y1 ≤ 2147483647) ∧ (0 ≤ y2 ∧ y2 ≤ 24))) ∧ m = (1 + 1 * (24 - y2) : Int).toNat
set_option maxRecDepth 8000 in
theorem ct_City_lift_1f18c {I : fH}  (h0 : fB bsJ I)  : fC ρ base n F xTc vwCl xTys D dA la gJ (fbz bsJ znJ (fKc []) I) xm_62 [.inr (.inr (some 513))] I (fun _ r => ∃ z, r = some (.inl z) ∧ ((-2147483648) ≤ z ∧ z ≤ 2147483647)) := by
  have hW : fzs [] (fKc []) := fKc_ok _
  refine f_meth (rb := rbJ) (J := [(4, jc_City_lift_1f18c_4)]) 26 400 xG xin_62 x6_62 okJ (fB_self h0) ?_ ?_
  · refine List.forall_mem_cons.mpr ⟨?_, fun q h => absurd h List.not_mem_nil⟩
    · rintro m _ _ I1 hB1 ⟨y1, y2, rfl, rfl, hb, hm⟩
      refine And.intro ⟨rfl, by decide, by decide⟩ ?_
      refine And.intro ⟨rfl, by decide, by decide⟩ (fgetf fb_675_13 h0 hB1 ?_)
      intro z1 lz1 uz1 qz1
      refine And.intro (And.intro (by first | exact fi_ hb.2.1 hb.2.2 rfl | omega) (by first | exact fi_ lz1 uz1 rfl | omega)) (And.intro ?_ ?_)
      · intro c2
        refine And.intro (True.intro) ?_
        exact ⟨_, rfl, (by first | exact ⟨hb.1.1, hb.1.2⟩ | omega)⟩
      · intro c3
        refine Exists.intro xm_63 (And.intro mi_63 (And.intro ⟨rfl, rfl, rfl, rfl⟩ (And.intro rfl ?_)))
        refine fcallp hB1 (ct_City_liftOf_6cbf4 (fBz h0 hB1) (by first | exact ⟨hb.2.1, Int.le_trans (Int.le_sub_one_of_lt (Int.lt_of_lt_of_le c3 uz1)) (by decide)⟩ | omega)) ?_
        rintro _ ⟨z4, rfl, hz4⟩
        intro z5 hz5 ez5 bz5
        clear ez5
        clear bz5
        exact fcutJ (I := I1) (j := jc_City_lift_1f18c_4) (lv' := [(0, .inr (.inr (some 513))), (1, .inl _), (2, .inl _)]) (And.intro rfl (And.intro rfl (And.intro rfl True.intro))) ⟨_, _, rfl, rfl, by omega, rfl⟩ (by omega)
  · have hB0 := fB_self (zn := znJ) (K := fKc []) h0
    exact fcutJ (I := I) (j := jc_City_lift_1f18c_4) (lv' := [(0, .inr (.inr (some 513))), (1, .inl _), (2, .inl _)]) (And.intro rfl (And.intro rfl (And.intro rfl True.intro))) ⟨_, _, rfl, rfl, by omega, rfl⟩ (by omega)
abbrev jc_People_living_f14dc_4 : Nat → fL → List fV → fH → Prop := fun m lv st I => ∃ (y1 : Int) (y2 : Int), lv = [(0, .inr (.inr (some 689))), (1, .inl y1), (2, .inl y2)] ∧ st = [] ∧ ((((-2147483648) ≤ y1 ∧ y1 ≤ 2147483647) ∧ (0 ≤ y2 ∧ y2 ≤ 24))) ∧ m = (1 + 1 * (24 - y2) : Int).toNat
set_option maxRecDepth 8000 in
theorem ct_People_living_f14dc {I : fH}  (h0 : fB bsJ I)  : fC ρ base n F xTc vwCl xTys D dA la gJ (fbz bsJ znJ (fKc []) I) xm_67 [.inr (.inr (some 689))] I (fun _ r => ∃ z, r = some (.inl z) ∧ ((-2147483648) ≤ z ∧ z ≤ 2147483647)) := by
  have hW : fzs [] (fKc []) := fKc_ok _
  refine f_meth (rb := rbJ) (J := [(4, jc_People_living_f14dc_4)]) 26 400 xG xin_67 x6_67 okJ (fB_self h0) ?_ ?_
  · refine List.forall_mem_cons.mpr ⟨?_, fun q h => absurd h List.not_mem_nil⟩
    · rintro m _ _ I1 hB1 ⟨y1, y2, rfl, rfl, hb, hm⟩
      refine And.intro ⟨rfl, by decide, by decide⟩ (fgetf fb_689_4 h0 hB1 ?_)
      intro z1 lz1 uz1 qz1
      refine And.intro (And.intro (by first | exact fi_ hb.2.1 hb.2.2 rfl | omega) (by first | exact fi_ lz1 uz1 rfl | omega)) (And.intro ?_ ?_)
      · intro c2
        refine And.intro (True.intro) ?_
        exact ⟨_, rfl, (by first | exact ⟨hb.1.1, hb.1.2⟩ | omega)⟩
      · intro c3
        refine Exists.intro xm_21 (And.intro mi_21 (And.intro ⟨rfl, rfl, rfl, rfl⟩ (And.intro rfl ?_)))
        refine fcallp hB1 (ct_People_isDead_16e8f (fBz h0 hB1) (by first | exact ⟨hb.2.1, Int.le_trans (Int.le_sub_one_of_lt (Int.lt_of_lt_of_le c3 uz1)) (by decide)⟩ | omega)) ?_
        rintro _ ⟨z4, rfl, hz4⟩
        refine And.intro (by omega) (And.intro ?_ ?_)
        · intro c5
          exact fcutJ (I := I1) (j := jc_People_living_f14dc_4) (lv' := [(0, .inr (.inr (some 689))), (1, .inl _), (2, .inl _)]) (And.intro rfl (And.intro rfl (And.intro rfl True.intro))) ⟨_, _, rfl, rfl, by omega, rfl⟩ (by omega)
        · intro c6
          intro z7 hz7 bz7
          clear bz7
          exact fcutJ (I := I1) (j := jc_People_living_f14dc_4) (lv' := [(0, .inr (.inr (some 689))), (1, .inl _), (2, .inl _)]) (And.intro rfl (And.intro rfl (And.intro rfl True.intro))) ⟨_, _, rfl, rfl, by omega, rfl⟩ (by omega)
  · have hB0 := fB_self (zn := znJ) (K := fKc []) h0
    exact fcutJ (I := I) (j := jc_People_living_f14dc_4) (lv' := [(0, .inr (.inr (some 689))), (1, .inl _), (2, .inl _)]) (And.intro rfl (And.intro rfl (And.intro rfl True.intro))) ⟨_, _, rfl, rfl, by omega, rfl⟩ (by omega)
set_option maxRecDepth 8000 in
theorem ct_Works_isDropped_e5842 {I : fH} {x1 : Int} (h0 : fB bsJ I) (ha1 : (0 ≤ x1 ∧ x1 ≤ 23)) : fC ρ base n F xTc vwCl xTys D dA la gJ (fbz bsJ znJ (fKc []) I) xm_55 [.inr (.inr (some 675)), .inl x1] I (fun _ r => ∃ z, r = some (.inl z) ∧ (0 ≤ z ∧ z ≤ 1)) := by
  have hW : fzs [] (fKc []) := fKc_ok _
  refine f_meth (rb := rbJ) (J := []) 1 400 xG xin_55 x6_55 okJ (fB_self h0) ?_ ?_
  · exact fun q h => absurd h List.not_mem_nil
  · have hB0 := fB_self (zn := znJ) (K := fKc []) h0
    refine And.intro ⟨rfl, by decide, by decide⟩ ?_
    refine fload1 rL_687_687_0_23_1_0 h0 hB0 ⟨by decide, by decide⟩ (by first | exact ⟨ha1.1, ha1.2⟩ | omega) ?_
    intro z1 lz1 uz1 qz1
    refine And.intro (And.intro (by first | exact fi_ lz1 uz1 rfl | omega) (by first | exact ⟨by decide, by decide⟩ | omega)) (And.intro ?_ ?_)
    · intro c2
      refine And.intro (⟨by omega, by omega⟩) ?_
      exact ⟨_, rfl, by omega⟩
    · intro c3
      refine And.intro (⟨by decide, by decide⟩) ?_
      exact ⟨_, rfl, (by first | exact ⟨by decide, by decide⟩ | omega)⟩
set_option maxRecDepth 8000 in
theorem ct_Works_weightOf_23190 {I : fH} {x1 : Int} (h0 : fB bsJ I) (ha1 : (0 ≤ x1 ∧ x1 ≤ 23)) : fC ρ base n F xTc vwCl xTys D dA la gJ (fbz bsJ znJ (fKc []) I) xm_68 [.inr (.inr (some 675)), .inl x1] I (fun _ r => ∃ z, r = some (.inl z) ∧ ((-2147483648) ≤ z ∧ z ≤ 2147483647)) := by
  have hW : fzs [] (fKc []) := fKc_ok _
  refine f_meth (rb := rbJ) (J := []) 1 400 xG xin_68 x6_68 okJ (fB_self h0) ?_ ?_
  · exact fun q h => absurd h List.not_mem_nil
  · have hB0 := fB_self (zn := znJ) (K := fKc []) h0
    refine Exists.intro xm_50 (And.intro mi_50 (And.intro ⟨rfl, rfl, rfl, rfl⟩ (And.intro rfl ?_)))
    refine fcallp hB0 (ct_Works_isGone_bce90 (fBz h0 hB0) (by first | exact ⟨ha1.1, ha1.2⟩ | omega)) ?_
    rintro _ ⟨z1, rfl, hz1⟩
    refine And.intro (by omega) (And.intro ?_ ?_)
    · intro c2
      refine And.intro (True.intro) ?_
      exact ⟨_, rfl, (by first | exact ⟨by decide, by decide⟩ | omega)⟩
    · intro c3
      refine Exists.intro xm_55 (And.intro mi_55 (And.intro ⟨rfl, rfl, rfl, rfl⟩ (And.intro rfl ?_)))
      refine fcallp hB0 (ct_Works_isDropped_e5842 (fBz h0 hB0) (by first | exact ⟨ha1.1, ha1.2⟩ | omega)) ?_
      rintro _ ⟨z4, rfl, hz4⟩
      refine And.intro (by omega) (And.intro ?_ ?_)
      · intro c5
        refine And.intro ⟨rfl, by decide, by decide⟩ ?_
        refine fload1 rL_678_678_0_23_1_0 h0 hB0 ⟨by decide, by decide⟩ (by first | exact ⟨ha1.1, ha1.2⟩ | omega) ?_
        intro z6 lz6 uz6 qz6
        refine And.intro (True.intro) ?_
        exact ⟨_, rfl, (by first | exact ⟨lz6, uz6⟩ | omega)⟩
      · intro c7
        refine And.intro (True.intro) ?_
        exact ⟨_, rfl, (by first | exact ⟨by decide, by decide⟩ | omega)⟩
abbrev jc_Cells_gases_f9efb_4 : Nat → fL → List fV → fH → Prop := fun m lv st I => ∃ (y1 : Int) (y2 : Int), lv = [(0, .inr (.inr (some 514))), (1, .inl y1), (2, .inl y2)] ∧ st = [] ∧ ((((-2147483648) ≤ y1 ∧ y1 ≤ 2147483647) ∧ (0 ≤ y2 ∧ y2 ≤ 20))) ∧ m = (6 + 6 * (20 - y2) : Int).toNat
abbrev jc_Cells_gases_f9efb_14 : Nat → fL → List fV → fH → Prop := fun m lv st I => ∃ (y1 : Int) (y2 : Int) (y3 : Int), lv = [(0, .inr (.inr (some 514))), (1, .inl y1), (2, .inl y2), (3, .inl y3)] ∧ st = [] ∧ ((((-2147483648) ≤ y1 ∧ y1 ≤ 2147483647) ∧ (0 ≤ y2 ∧ y2 ≤ 19) ∧ (0 ≤ y3 ∧ y3 ≤ 4) ∧ (1 ≤ I 514 5 ∧ I 514 5 ≤ 20))) ∧ m = (1 + 6 * (20 - y2) + 1 * (4 - y3) : Int).toNat
set_option maxRecDepth 8000 in
theorem ct_Cells_gases_f9efb {I : fH}  (h0 : fB bsJ I)  : fC ρ base n F xTc vwCl xTys D dA la gJ (fbz bsJ znJ (fKc []) I) xm_66 [.inr (.inr (some 514))] I (fun _ r => ∃ z, r = some (.inl z) ∧ ((-2147483648) ≤ z ∧ z ≤ 2147483647)) := by
  have hW : fzs [] (fKc []) := fKc_ok _
  refine f_meth (rb := rbJ) (J := [(4, jc_Cells_gases_f9efb_4), (14, jc_Cells_gases_f9efb_14)]) 127 400 xG xin_66 x6_66 okJ (fB_self h0) ?_ ?_
  · refine List.forall_mem_cons.mpr ⟨?_, List.forall_mem_cons.mpr ⟨?_, fun q h => absurd h List.not_mem_nil⟩⟩
    · rintro m _ _ I1 hB1 ⟨y1, y2, rfl, rfl, hb, hm⟩
      refine And.intro ⟨rfl, by decide, by decide⟩ (fgetf fb_514_5 h0 hB1 ?_)
      intro z1 lz1 uz1 qz1
      refine And.intro (And.intro (by first | exact fi_ hb.2.1 hb.2.2 rfl | omega) (by first | exact fi_ lz1 uz1 rfl | omega)) (And.intro ?_ ?_)
      · intro c2
        refine And.intro (True.intro) ?_
        exact ⟨_, rfl, (by first | exact ⟨hb.1.1, hb.1.2⟩ | omega)⟩
      · intro c3
        exact fcutJ (I := I1) (j := jc_Cells_gases_f9efb_14) (lv' := [(0, .inr (.inr (some 514))), (1, .inl _), (2, .inl _), (3, .inl _)]) (And.intro rfl (And.intro rfl (And.intro rfl (And.intro rfl True.intro)))) ⟨_, _, _, rfl, rfl, by omega, rfl⟩ (by omega)
    · rintro m _ _ I1 hB1 ⟨y1, y2, y3, rfl, rfl, hb, hm⟩
      refine And.intro (And.intro (by first | exact fi_ hb.2.2.1.1 hb.2.2.1.2 rfl | omega) (by first | exact ⟨by decide, by decide⟩ | omega)) (And.intro ?_ ?_)
      · intro c4
        exact fcutJ (I := I1) (j := jc_Cells_gases_f9efb_4) (lv' := [(0, .inr (.inr (some 514))), (1, .inl _), (2, .inl _)]) (And.intro rfl (And.intro rfl (And.intro rfl True.intro))) ⟨_, _, rfl, rfl, by omega, rfl⟩ (by omega)
      · intro c5
        refine And.intro ⟨rfl, by decide, by decide⟩ ?_
        refine And.intro ⟨rfl, by decide⟩ (And.intro (by first | exact ⟨hb.2.1.1, Int.lt_of_le_of_lt hb.2.1.2 (by decide)⟩ | omega) ?_)
        refine fload rL_518_537_0_4_1_0 h0 hB1 (by omega) ?_
        intro z6 lz6 uz6 qz6
        intro z7 hz7 ez7 bz7
        clear ez7
        clear bz7
        exact fcutJ (I := I1) (j := jc_Cells_gases_f9efb_14) (lv' := [(0, .inr (.inr (some 514))), (1, .inl _), (2, .inl _), (3, .inl _)]) (And.intro rfl (And.intro rfl (And.intro rfl (And.intro rfl True.intro)))) ⟨_, _, _, rfl, rfl, by omega, rfl⟩ (by omega)
  · have hB0 := fB_self (zn := znJ) (K := fKc []) h0
    exact fcutJ (I := I) (j := jc_Cells_gases_f9efb_4) (lv' := [(0, .inr (.inr (some 514))), (1, .inl _), (2, .inl _)]) (And.intro rfl (And.intro rfl (And.intro rfl True.intro))) ⟨_, _, rfl, rfl, by omega, rfl⟩ (by omega)
end CT

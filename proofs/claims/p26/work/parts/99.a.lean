/-! contracts (written by gen95.py) -/
theorem x6_238 : f60c xTc xTys xm_238 = true := by decide +kernel
theorem x6_239 : f60c xTc xTys xm_239 = true := by decide +kernel
abbrev wz_97606 : List Nat := [20005, 20100, 20101, 20102, 20103, 20104, 20105, 20106, 20107, 20108, 20109, 20110, 20111, 20112, 20113, 20114, 20115, 20116, 20117, 20118, 20119]
theorem x6_237 : f60c xTc xTys xm_237 = true := by decide +kernel
theorem rS_741_741_30_410_20_0 : frS gJ bsJ znJ [20100] 100 ((741, 741), (30, 410), (20, 0), (0, 999)) := frS_of (by decide +kernel)
theorem rS_741_741_47_427_20_0 : frS gJ bsJ znJ [20117] 100 ((741, 741), (47, 427), (20, 0), ((-2147483648), 2147483647)) := frS_of (by decide +kernel)
theorem rL_741_741_5_5_1_0 : frL gJ bsJ 100 ((741, 741), (5, 5), (1, 0), (0, 20)) := frL_of (by decide +kernel)
theorem rS_741_741_5_5_1_0 : frS gJ bsJ znJ [20005] 100 ((741, 741), (5, 5), (1, 0), (0, 20)) := frS_of (by decide +kernel)
theorem rS_741_741_30_429_20_19 : frS gJ bsJ znJ [20100, 20101, 20102, 20103, 20104, 20105, 20106, 20107, 20108, 20109, 20110, 20111, 20112, 20113, 20114, 20115, 20116, 20117, 20118, 20119] 100 ((741, 741), (30, 429), (20, 19), (0, 999)) := frS_of (by decide +kernel)
theorem x6_241 : f60c xTc xTys xm_241 = true := by decide +kernel
abbrev wz_6b8d1 : List Nat := [20006, 20200, 20201, 20202, 20203]
theorem x6_249 : f60c xTc xTys xm_249 = true := by decide +kernel
theorem rL_741_741_6_6_1_0 : frL gJ bsJ 100 ((741, 741), (6, 6), (1, 0), (0, 24)) := frL_of (by decide +kernel)
theorem rS_741_741_430_522_4_0 : frS gJ bsJ znJ [20200] 100 ((741, 741), (430, 522), (4, 0), (0, 19)) := frS_of (by decide +kernel)
theorem rS_741_741_431_523_4_0 : frS gJ bsJ znJ [20201] 100 ((741, 741), (431, 523), (4, 0), (0, 19)) := frS_of (by decide +kernel)
theorem rS_741_741_432_524_4_0 : frS gJ bsJ znJ [20202] 100 ((741, 741), (432, 524), (4, 0), ((-2147483648), 2147483647)) := frS_of (by decide +kernel)
theorem rS_741_741_433_525_4_0 : frS gJ bsJ znJ [20203] 100 ((741, 741), (433, 525), (4, 0), ((-2147483648), 2147483647)) := frS_of (by decide +kernel)
theorem rS_741_741_6_6_1_0 : frS gJ bsJ znJ [20006] 100 ((741, 741), (6, 6), (1, 0), (0, 24)) := frS_of (by decide +kernel)
theorem x6_291 : f60c xTc xTys xm_291 = true := by decide +kernel
theorem x6_318 : f60c xTc xTys xm_318 = true := by decide +kernel
theorem fb_740_11 : bsJ 740 11 = ((-2147483648), 2147483647) := by decide +kernel
theorem fb_740_9 : bsJ 740 9 = (0, 96) := by decide +kernel
theorem rL_747_747_0_95_1_0 : frL gJ bsJ 100 ((747, 747), (0, 95), (1, 0), ((-2147483648), 2147483647)) := frL_hull (by decide) (by decide +kernel)
theorem fb_740_10 : bsJ 740 10 = (0, 96) := by decide +kernel
theorem x6_317 : f60c xTc xTys xm_317 = true := by decide +kernel
abbrev wz_69d61 : List Nat := [12227, 12228]
theorem x6_460 : f60c xTc xTys xm_460 = true := by decide +kernel
theorem fb_740_28 : bsJ 740 28 = ((-2147483648), 2147483647) := by decide +kernel
theorem fb_740_27 : bsJ 740 27 = ((-2147483648), 2147483647) := by decide +kernel
theorem rL_741_741_4510_4557_1_0 : frL gJ bsJ 100 ((741, 741), (4510, 4557), (1, 0), ((-2147483648), 2147483647)) := frL_hull (by decide) (by decide +kernel)
theorem x6_467 : f60c xTc xTys xm_467 = true := by decide +kernel
theorem rL_741_741_4560_4563_1_0 : frL gJ bsJ 100 ((741, 741), (4560, 4563), (1, 0), (0, 99)) := frL_of (by decide +kernel)
theorem rL_741_741_4570_4665_1_0 : frL gJ bsJ 100 ((741, 741), (4570, 4665), (1, 0), (0, 999)) := frL_of (by decide +kernel)
theorem rL_756_756_0_7524_1_0 : frL gJ bsJ 100 ((756, 756), (0, 7524), (1, 0), (0, 1000000)) := frL_of (by decide +kernel)
abbrev wz_ce28c : List Nat := [756]
theorem x6_466 : f60c xTc xTys xm_466 = true := by decide +kernel
theorem rS_756_756_0_7524_1_0 : frS gJ bsJ znJ [756] 100 ((756, 756), (0, 7524), (1, 0), (0, 1000000)) := frS_of (by decide +kernel)
theorem x6_465 : f60c xTc xTys xm_465 = true := by decide +kernel
theorem x6_469 : f60c xTc xTys xm_469 = true := by decide +kernel
theorem x6_468 : f60c xTc xTys xm_468 = true := by decide +kernel
abbrev wz_ac3fb : List Nat := [20010, 20800, 20801, 20802]
theorem x6_471 : f60c xTc xTys xm_471 = true := by decide +kernel
theorem rL_741_741_10_10_1_0 : frL gJ bsJ 100 ((741, 741), (10, 10), (1, 0), (0, 6)) := frL_of (by decide +kernel)
theorem rS_741_741_4330_4345_3_0 : frS gJ bsJ znJ [20800] 100 ((741, 741), (4330, 4345), (3, 0), ((-2147483648), 2147483647)) := frS_of (by decide +kernel)
theorem rS_741_741_4331_4346_3_0 : frS gJ bsJ znJ [20801] 100 ((741, 741), (4331, 4346), (3, 0), ((-2147483648), 2147483647)) := frS_of (by decide +kernel)
theorem rS_741_741_4332_4347_3_0 : frS gJ bsJ znJ [20802] 100 ((741, 741), (4332, 4347), (3, 0), ((-2147483648), 2147483647)) := frS_of (by decide +kernel)
theorem rS_741_741_10_10_1_0 : frS gJ bsJ znJ [20010] 100 ((741, 741), (10, 10), (1, 0), (0, 6)) := frS_of (by decide +kernel)
abbrev wz_4d25e : List Nat := [757, 758, 12233, 12234, 12235]
theorem x6_479 : f60c xTc xTys xm_479 = true := by decide +kernel
theorem rL_757_757_0_6_1_0 : frL gJ bsJ 100 ((757, 757), (0, 6), (1, 0), (0, 6)) := frL_of (by decide +kernel)
theorem rS_758_758_0_6_1_0 : frS gJ bsJ znJ [758] 100 ((758, 758), (0, 6), (1, 0), (0, 6)) := frS_of (by decide +kernel)
theorem rL_741_741_12_12_1_0 : frL gJ bsJ 100 ((741, 741), (12, 12), (1, 0), (0, 7)) := frL_of (by decide +kernel)
theorem fb_740_35 : bsJ 740 35 = (0, 1) := by decide +kernel
theorem rL_741_741_4372_4390_3_0 : frL gJ bsJ 100 ((741, 741), (4372, 4390), (3, 0), ((-2147483648), 2147483647)) := frL_hull (by decide) (by decide +kernel)
theorem fb_740_34 : bsJ 740 34 = ((-2147483648), 2147483647) := by decide +kernel
theorem rS_757_757_0_6_1_0 : frS gJ bsJ znJ [757] 100 ((757, 757), (0, 6), (1, 0), (0, 6)) := frS_of (by decide +kernel)
theorem rL_741_741_4370_4388_3_0 : frL gJ bsJ 100 ((741, 741), (4370, 4388), (3, 0), ((-2147483648), 2147483647)) := frL_hull (by decide) (by decide +kernel)
theorem rL_741_741_4371_4389_3_0 : frL gJ bsJ 100 ((741, 741), (4371, 4389), (3, 0), ((-2147483648), 2147483647)) := frL_hull (by decide) (by decide +kernel)
theorem fb_740_33 : bsJ 740 33 = ((-2147483648), 2147483647) := by decide +kernel
theorem x6_480 : f60c xTc xTys xm_480 = true := by decide +kernel
theorem x6_481 : f60c xTc xTys xm_481 = true := by decide +kernel
theorem x6_482 : f60c xTc xTys xm_482 = true := by decide +kernel
theorem x6_483 : f60c xTc xTys xm_483 = true := by decide +kernel
section CT
variable {ρ : Nat → Int32} {base n : Nat} {F : Nat → Prop} {D : va_G} {dA : Nat → ClassId} {la : Launch}
set_option maxRecDepth 8000 in
theorem ct_M_isIn_27230 {I : fH} {x0 : Int} {x1 : Int} {x2 : Int} (h0 : fB bsJ I) (ha0 : ((-2147483648) ≤ x0 ∧ x0 ≤ 2147483647)) (ha1 : ((-100000) ≤ x1 ∧ x1 ≤ 97)) (ha2 : ((-1) ≤ x2 ∧ x2 ≤ 999999)) : fC ρ base n F xTc vwCl xTys D dA la gJ (fbz bsJ znJ (fKc []) I) xm_238 [.inr (.inl x0), .inr (.inl x1), .inr (.inl x2)] I (fun _ r => ∃ z, r = some (.inl z) ∧ ((z = 1 ∧ x1 ≤ x0 ∧ x0 ≤ x2) ∨ (z = 0 ∧ (x0 < x1 ∨ x2 < x0)))) := by
  have hW : fzs [] (fKc []) := fKc_ok _
  refine f_meth (rb := rbJ) (J := []) 1 400 xG xin_238 x6_238 okJ (fB_self h0) ?_ ?_
  · exact fun q h => absurd h List.not_mem_nil
  · have hB0 := fB_self (zn := znJ) (K := fKc []) h0
    refine And.intro (And.intro (by omega) (by omega)) ?_
    intro z1 hz1
    refine And.intro (by omega) (And.intro ?_ ?_)
    · intro c2
      refine And.intro (⟨by omega, by omega⟩) ?_
      exact ⟨_, rfl, by omega⟩
    · intro c3
      refine And.intro (And.intro (by omega) (by omega)) ?_
      intro z4 hz4
      refine And.intro (by omega) (And.intro ?_ ?_)
      · intro c5
        refine And.intro (⟨by omega, by omega⟩) ?_
        exact ⟨_, rfl, by omega⟩
      · intro c6
        refine And.intro (⟨by omega, by omega⟩) ?_
        exact ⟨_, rfl, by omega⟩
set_option maxRecDepth 8000 in
theorem ct_M_cellAt_c15f4 {I : fH} {x1 : Int} (h0 : fB bsJ I) (ha1 : (0 ≤ x1 ∧ x1 ≤ 19)) : fC ρ base n F xTc vwCl xTys D dA la gJ (fbz bsJ znJ (fKc []) I) xm_239 [.inr (.inr (some 740)), .inl x1] I (fun _ r => ∃ z, r = some (.inl z) ∧ (z = 30 + 20 * x1)) := by
  have hW : fzs [] (fKc []) := fKc_ok _
  refine f_meth (rb := rbJ) (J := []) 1 400 xG xin_239 x6_239 okJ (fB_self h0) ?_ ?_
  · exact fun q h => absurd h List.not_mem_nil
  · have hB0 := fB_self (zn := znJ) (K := fKc []) h0
    refine And.intro (True.intro) ?_
    exact ⟨_, rfl, by omega⟩
abbrev jc_M_cell_185e1_42 (I0 : fH) : Nat → fL → List fV → fH → Prop := fun m lv st I => ∃ (y1 : Int) (y2 : Int) (y3 : Int), lv = [(0, .inr (.inr (some 740))), (1, .inl y1), (2, .inl y2), (3, .inl y3)] ∧ st = [] ∧ (((1 ≤ y1 ∧ y1 ≤ 999) ∧ ((30 ≤ y2 ∧ y2 ≤ 410) ∧ (y2 - 30) % 20 ≤ 0) ∧ (0 ≤ y3 ∧ y3 ≤ 20) ∧ (0 ≤ I 741 5 ∧ I 741 5 ≤ 19) ∧ (y2 = 30 + 20 * I0 741 5) ∧ (0 ≤ I0 741 5) ∧ (I0 741 5 ≤ 19)) ∧ (∀ j : Nat, ((j : Int) < 30 + 20 * I0 741 5 ∨ 50 + 20 * I0 741 5 ≤ (j : Int)) → I 741 j = I0 741 j)) ∧ m = (1 + 1 * (20 - y3) : Int).toNat
set_option maxRecDepth 8000 in
theorem ct_M_cell_185e1 {I : fH} {x1 : Int} (h0 : fB bsJ I) (ha1 : ((-2147483648) ≤ x1 ∧ x1 ≤ 2147483647)) (hp0 : sI I 741) : fC ρ base n F xTc vwCl xTys D dA la gJ (fbz bsJ znJ (fKc wz_97606) I) xm_237 [.inr (.inr (some 740)), .inl x1] I (fun I' r => ∃ z, r = some (.inl z) ∧ ((0 ≤ z ∧ z ≤ 19) ∨ z = (-1000000003) ∨ z = (-1000000001)) ∧ (sI I' 741)) := by
  have hW : fzs wz_97606 (fKc wz_97606) := fKc_ok _
  refine f_meth (rb := rbJ) (J := [(42, (jc_M_cell_185e1_42 I))]) 22 400 xG xin_237 x6_237 okJ (fB_self h0) ?_ ?_
  · refine List.forall_mem_cons.mpr ⟨?_, fun q h => absurd h List.not_mem_nil⟩
    · rintro m _ _ I1 hB1 ⟨y1, y2, y3, rfl, rfl, ⟨hb, hx0⟩, hm⟩
      refine And.intro (by omega) (And.intro ?_ ?_)
      · intro c1
        have w5 := hx0 5 (by omega)
        refine And.intro ⟨rfl, by decide, by decide⟩ ?_
        refine fstore rS_741_741_30_410_20_0 (fzs_sub (by decide +kernel) hW) (by omega) (by omega) ?_
        intro IhB2 ehB2 hB2
        have t3 := fup_self ehB2
        have t4 : IhB2 741 5 = I1 741 5 := (congrFun (congrFun ehB2 741) 5).trans (fup_ne (by omega))
        refine And.intro ⟨rfl, by decide, by decide⟩ ?_
        refine fstore rS_741_741_47_427_20_0 (fzs_sub (by decide +kernel) hW) (by omega) (by omega) ?_
        intro IhB5 ehB5 hB5
        have t6 := fup_self ehB5
        have t7 : IhB5 741 5 = IhB2 741 5 := (congrFun (congrFun ehB5 741) 5).trans (fup_ne (by omega))
        refine And.intro ⟨rfl, by decide, by decide⟩ ?_
        refine fload rL_741_741_5_5_1_0 h0 hB5 (by omega) ?_
        intro z8 lz8 uz8 qz8
        have pz8 := fld_at qz8 5 (by omega)
        refine fstore rS_741_741_5_5_1_0 (fzs_sub (by decide +kernel) hW) (by omega) (by omega) ?_
        intro IhB9 ehB9 hB9
        have t10 := fup_self ehB9
        have t11 := fup_at ehB9 5 (by omega)
        refine And.intro ⟨rfl, by decide, by decide⟩ ?_
        refine fload rL_741_741_5_5_1_0 h0 hB9 (by omega) ?_
        intro z12 lz12 uz12 qz12
        have pz12 := fld_at qz12 5 (by omega)
        refine And.intro (True.intro) ?_
        exact ⟨_, rfl, by omega, (sI_cell (sBd_of h0) (by omega) (fun j h hj => ((fup_other ehB9 741 j (Or.inr (by omega))).trans ((fup_other ehB5 741 j (Or.inr (by omega))).trans ((fup_other ehB2 741 j (Or.inr (by omega))).trans (hx0 j h))))) (by rw [(fup_other ehB9 741 (30 + 20 * I 741 5).toNat (Or.inr (by omega))), (fup_other ehB5 741 (30 + 20 * I 741 5).toNat (Or.inr (by omega))), fup_at ehB2 (30 + 20 * I 741 5).toNat (by omega)]; omega) (by omega) hp0)⟩
      · intro c13
        refine And.intro ⟨rfl, by decide, by decide⟩ ?_
        refine fstore rS_741_741_30_429_20_19 (fzs_sub (by decide +kernel) hW) (by omega) (by omega) ?_
        intro IhB14 ehB14 hB14
        have t15 := fup_self ehB14
        have t16 : IhB14 741 5 = I1 741 5 := (congrFun (congrFun ehB14 741) 5).trans (fup_ne (by omega))
        exact fcutJ (I := IhB14) (j := (jc_M_cell_185e1_42 I)) (lv' := [(0, .inr (.inr (some 740))), (1, .inl _), (2, .inl _), (3, .inl _)]) (And.intro rfl (And.intro rfl (And.intro rfl (And.intro rfl True.intro)))) ⟨_, _, _, rfl, rfl, ⟨by omega, (fun j h => (fup_other ehB14 741 j (Or.inr (by omega))).trans (hx0 j h))⟩, rfl⟩ (by omega)
  · have hB0 := fB_self (zn := znJ) (K := fKc wz_97606) h0
    refine And.intro (by omega) ?_
    refine Exists.intro xm_238 (And.intro mi_238 (And.intro ⟨rfl, rfl, rfl, rfl⟩ (And.intro True.intro ?_)))
    refine fcallp hB0 (ct_M_isIn_27230 (fBz h0 hB0) (by omega) (by omega) (by omega)) ?_
    rintro _ ⟨z17, rfl, hz17⟩
    refine And.intro (by omega) (And.intro ?_ ?_)
    · intro c18
      refine And.intro ⟨rfl, by decide, by decide⟩ ?_
      refine fload rL_741_741_5_5_1_0 h0 hB0 (by omega) ?_
      intro z19 lz19 uz19 qz19
      have pz19 := fld_at qz19 5 (by omega)
      refine And.intro (by omega) (And.intro ?_ ?_)
      · intro c20
        refine And.intro ⟨rfl, by decide, by decide⟩ ?_
        refine fload rL_741_741_5_5_1_0 h0 hB0 (by omega) ?_
        intro z21 lz21 uz21 qz21
        have pz21 := fld_at qz21 5 (by omega)
        refine Exists.intro xm_239 (And.intro mi_239 (And.intro ⟨rfl, rfl, rfl, rfl⟩ (And.intro rfl ?_)))
        refine fcallp hB0 (ct_M_cellAt_c15f4 (fBz h0 hB0) (by omega)) ?_
        rintro _ ⟨_, rfl, rfl⟩
        exact fcutJ (I := I) (j := (jc_M_cell_185e1_42 I)) (lv' := [(0, .inr (.inr (some 740))), (1, .inl _), (2, .inl _), (3, .inl _)]) (And.intro rfl (And.intro rfl (And.intro rfl (And.intro rfl True.intro)))) ⟨_, _, _, rfl, rfl, ⟨by omega, (fun j _ => rfl)⟩, rfl⟩ (by omega)
      · intro c23
        refine And.intro (True.intro) ?_
        exact ⟨_, rfl, by omega, hp0⟩
    · intro c24
      refine And.intro (True.intro) ?_
      exact ⟨_, rfl, by omega, hp0⟩
set_option maxRecDepth 8000 in
theorem ct_M_isCell_45859 {I : fH} {x1 : Int} (h0 : fB bsJ I) (ha1 : ((-2147483648) ≤ x1 ∧ x1 ≤ 2147483647)) : fC ρ base n F xTc vwCl xTys D dA la gJ (fbz bsJ znJ (fKc []) I) xm_241 [.inr (.inr (some 740)), .inl x1] I (fun _ r => ∃ z, r = some (.inl z) ∧ (((z = 1 ∧ 0 ≤ x1 ∧ x1 ≤ 19) ∨ z = 0) ∧ (z = 1 → x1 < I 741 5))) := by
  have hW : fzs [] (fKc []) := fKc_ok _
  refine f_meth (rb := rbJ) (J := []) 1 400 xG xin_241 x6_241 okJ (fB_self h0) ?_ ?_
  · exact fun q h => absurd h List.not_mem_nil
  · have hB0 := fB_self (zn := znJ) (K := fKc []) h0
    refine And.intro (by omega) ?_
    refine And.intro ⟨rfl, by decide, by decide⟩ ?_
    refine fload rL_741_741_5_5_1_0 h0 hB0 (by omega) ?_
    intro z1 lz1 uz1 qz1
    have pz1 := fld_at qz1 5 (by omega)
    refine And.intro (by omega) ?_
    refine Exists.intro xm_238 (And.intro mi_238 (And.intro ⟨rfl, rfl, rfl, rfl⟩ (And.intro True.intro ?_)))
    refine fcallp hB0 (ct_M_isIn_27230 (fBz h0 hB0) (by omega) (by omega) (by omega)) ?_
    rintro _ ⟨z2, rfl, hz2⟩
    refine And.intro (⟨by omega, by omega⟩) ?_
    exact ⟨_, rfl, by omega⟩
set_option maxRecDepth 8000 in
theorem ct_M_lock_29b98 {I : fH} {x1 : Int} {x2 : Int} {x3 : Int} (h0 : fB bsJ I) (ha1 : ((-2147483648) ≤ x1 ∧ x1 ≤ 2147483647)) (ha2 : ((-2147483648) ≤ x2 ∧ x2 ≤ 2147483647)) (ha3 : ((-2147483648) ≤ x3 ∧ x3 ≤ 2147483647)) (hp0 : sI I 741) : fC ρ base n F xTc vwCl xTys D dA la gJ (fbz bsJ znJ (fKc wz_6b8d1) I) xm_249 [.inr (.inr (some 740)), .inl x1, .inl x2, .inl x3] I (fun I' r => ∃ z, r = some (.inl z) ∧ ((0 ≤ z ∧ z ≤ 23) ∨ z = (-1000000003) ∨ z = (-1000000001)) ∧ (sI I' 741)) := by
  have hW : fzs wz_6b8d1 (fKc wz_6b8d1) := fKc_ok _
  refine f_meth (rb := rbJ) (J := []) 1 400 xG xin_249 x6_249 okJ (fB_self h0) ?_ ?_
  · exact fun q h => absurd h List.not_mem_nil
  · have hB0 := fB_self (zn := znJ) (K := fKc wz_6b8d1) h0
    refine Exists.intro xm_241 (And.intro mi_241 (And.intro ⟨rfl, rfl, rfl, rfl⟩ (And.intro rfl ?_)))
    refine fcallp hB0 (ct_M_isCell_45859 (fBz h0 hB0) (by omega)) ?_
    rintro _ ⟨z1, rfl, hz1⟩
    refine And.intro (by omega) (And.intro ?_ ?_)
    · intro c2
      refine And.intro (True.intro) ?_
      exact ⟨_, rfl, by omega, hp0⟩
    · intro c3
      refine Exists.intro xm_241 (And.intro mi_241 (And.intro ⟨rfl, rfl, rfl, rfl⟩ (And.intro rfl ?_)))
      refine fcallp hB0 (ct_M_isCell_45859 (fBz h0 hB0) (by omega)) ?_
      rintro _ ⟨z4, rfl, hz4⟩
      refine And.intro (by omega) (And.intro ?_ ?_)
      · intro c5
        refine And.intro (True.intro) ?_
        exact ⟨_, rfl, by omega, hp0⟩
      · intro c6
        refine And.intro (by omega) (And.intro ?_ ?_)
        · intro c7
          refine And.intro (True.intro) ?_
          exact ⟨_, rfl, by omega, hp0⟩
        · intro c8
          refine And.intro (by omega) ?_
          refine Exists.intro xm_238 (And.intro mi_238 (And.intro ⟨rfl, rfl, rfl, rfl⟩ (And.intro True.intro ?_)))
          refine fcallp hB0 (ct_M_isIn_27230 (fBz h0 hB0) (by omega) (by omega) (by omega)) ?_
          rintro _ ⟨z9, rfl, hz9⟩
          refine And.intro (by omega) (And.intro ?_ ?_)
          · intro c10
            refine And.intro ⟨rfl, by decide, by decide⟩ ?_
            refine fload rL_741_741_6_6_1_0 h0 hB0 (by omega) ?_
            intro z11 lz11 uz11 qz11
            have pz11 := fld_at qz11 6 (by omega)
            refine And.intro (by omega) (And.intro ?_ ?_)
            · intro c12
              refine And.intro ⟨rfl, by decide, by decide⟩ ?_
              refine fload rL_741_741_6_6_1_0 h0 hB0 (by omega) ?_
              intro z13 lz13 uz13 qz13
              have pz13 := fld_at qz13 6 (by omega)
              refine And.intro ⟨rfl, by decide, by decide⟩ ?_
              refine fstore rS_741_741_430_522_4_0 (fzs_sub (by decide +kernel) hW) (by omega) (by omega) ?_
              intro IhB14 ehB14 hB14
              have t15 := fup_self ehB14
              have t16 : IhB14 741 6 = I 741 6 := (congrFun (congrFun ehB14 741) 6).trans (fup_ne (by omega))
              refine And.intro ⟨rfl, by decide, by decide⟩ ?_
              refine fstore rS_741_741_431_523_4_0 (fzs_sub (by decide +kernel) hW) (by omega) (by omega) ?_
              intro IhB17 ehB17 hB17
              have t18 := fup_self ehB17
              have t19 : IhB17 741 6 = IhB14 741 6 := (congrFun (congrFun ehB17 741) 6).trans (fup_ne (by omega))
              refine And.intro ⟨rfl, by decide, by decide⟩ ?_
              refine fstore rS_741_741_432_524_4_0 (fzs_sub (by decide +kernel) hW) (by omega) (by omega) ?_
              intro IhB20 ehB20 hB20
              have t21 := fup_self ehB20
              have t22 : IhB20 741 6 = IhB17 741 6 := (congrFun (congrFun ehB20 741) 6).trans (fup_ne (by omega))
              refine And.intro ⟨rfl, by decide, by decide⟩ ?_
              refine fstore rS_741_741_433_525_4_0 (fzs_sub (by decide +kernel) hW) (by omega) (by omega) ?_
              intro IhB23 ehB23 hB23
              have t24 := fup_self ehB23
              have t25 : IhB23 741 6 = IhB20 741 6 := (congrFun (congrFun ehB23 741) 6).trans (fup_ne (by omega))
              refine And.intro ⟨rfl, by decide, by decide⟩ ?_
              refine fload rL_741_741_6_6_1_0 h0 hB23 (by omega) ?_
              intro z26 lz26 uz26 qz26
              have pz26 := fld_at qz26 6 (by omega)
              refine fstore rS_741_741_6_6_1_0 (fzs_sub (by decide +kernel) hW) (by omega) (by omega) ?_
              intro IhB27 ehB27 hB27
              have t28 := fup_self ehB27
              have t29 := fup_at ehB27 6 (by omega)
              refine And.intro ⟨rfl, by decide, by decide⟩ ?_
              refine fload rL_741_741_6_6_1_0 h0 hB27 (by omega) ?_
              intro z30 lz30 uz30 qz30
              have pz30 := fld_at qz30 6 (by omega)
              refine And.intro (True.intro) ?_
              exact ⟨_, rfl, by omega, (sI_lock (sBd_of h0) (by omega) (fun j h hj => ((fup_other ehB27 741 j (Or.inr (by omega))).trans ((fup_other ehB23 741 j (Or.inr (by omega))).trans ((fup_other ehB20 741 j (Or.inr (by omega))).trans ((fup_other ehB17 741 j (Or.inr (by omega))).trans (fup_other ehB14 741 j (Or.inr (by omega)))))))) (by rw [(fup_other ehB27 741 (430 + 4 * I 741 6).toNat (Or.inr (by omega))), (fup_other ehB23 741 (430 + 4 * I 741 6).toNat (Or.inr (by omega))), (fup_other ehB20 741 (430 + 4 * I 741 6).toNat (Or.inr (by omega))), (fup_other ehB17 741 (430 + 4 * I 741 6).toNat (Or.inr (by omega))), fup_at ehB14 (430 + 4 * I 741 6).toNat (by omega)]; omega) (by rw [(fup_other ehB27 741 (431 + 4 * I 741 6).toNat (Or.inr (by omega))), (fup_other ehB23 741 (431 + 4 * I 741 6).toNat (Or.inr (by omega))), (fup_other ehB20 741 (431 + 4 * I 741 6).toNat (Or.inr (by omega))), fup_at ehB17 (431 + 4 * I 741 6).toNat (by omega)]; omega) (by omega) hp0)⟩
            · intro c31
              refine And.intro (True.intro) ?_
              exact ⟨_, rfl, by omega, hp0⟩
          · intro c32
            refine And.intro (True.intro) ?_
            exact ⟨_, rfl, by omega, hp0⟩
set_option maxRecDepth 8000 in
theorem ct_M_least_31c1d {I : fH} {x0 : Int} {x1 : Int} (h0 : fB bsJ I) (ha0 : ((-2147483648) ≤ x0 ∧ x0 ≤ 2147483647)) (ha1 : ((-2147483648) ≤ x1 ∧ x1 ≤ 2147483647)) : fC ρ base n F xTc vwCl xTys D dA la gJ (fbz bsJ znJ (fKc []) I) xm_291 [.inl x0, .inl x1] I (fun _ r => ∃ z, r = some (.inl z) ∧ (((-2147483648) ≤ z ∧ z ≤ 2147483647) ∧ (z ≤ x0 ∧ z ≤ x1 ∧ (z = x0 ∨ z = x1)))) := by
  have hW : fzs [] (fKc []) := fKc_ok _
  refine f_meth (rb := rbJ) (J := []) 1 400 xG xin_291 x6_291 okJ (fB_self h0) ?_ ?_
  · exact fun q h => absurd h List.not_mem_nil
  · have hB0 := fB_self (zn := znJ) (K := fKc []) h0
    refine And.intro (by omega) (And.intro ?_ ?_)
    · intro c1
      refine And.intro (True.intro) ?_
      exact ⟨_, rfl, by omega⟩
    · intro c2
      refine And.intro (True.intro) ?_
      exact ⟨_, rfl, by omega⟩
set_option maxRecDepth 8000 in
theorem ct_M_isWordAt_4e115 {I : fH} {x1 : Int} {x2 : Int} {x3 : Int} {x4 : Int} {x5 : Int} (h0 : fB bsJ I) (ha1 : (98 ≤ x1 ∧ x1 ≤ 118)) (ha2 : (97 ≤ x2 ∧ x2 ≤ 112)) (ha3 : (97 ≤ x3 ∧ x3 ≤ 116)) (ha4 : (100 ≤ x4 ∧ x4 ≤ 116)) (ha5 : (0 ≤ x5 ∧ x5 ≤ 104)) (hp0 : I 740 9 ≤ I 740 10 ∧ I 740 10 ≤ 96) : fC ρ base n F xTc vwCl xTys D dA la gJ (fbz bsJ znJ (fKc []) I) xm_318 [.inr (.inr (some 740)), .inl x1, .inl x2, .inl x3, .inl x4, .inl x5] I (fun _ r => ∃ z, r = some (.inl z) ∧ (0 ≤ z ∧ z ≤ 1)) := by
  have hW : fzs [] (fKc []) := fKc_ok _
  refine f_meth (rb := rbJ) (J := []) 1 400 xG xin_318 x6_318 okJ (fB_self h0) ?_ ?_
  · exact fun q h => absurd h List.not_mem_nil
  · have hB0 := fB_self (zn := znJ) (K := fKc []) h0
    refine And.intro (by omega) (And.intro ?_ ?_)
    · intro c1
      refine And.intro ⟨rfl, by decide, by decide⟩ (fgetf fb_740_11 h0 hB0 ?_)
      intro z2 lz2 uz2 qz2
      refine And.intro (by omega) (And.intro ?_ ?_)
      · intro c3
        refine And.intro (by omega) (And.intro ?_ ?_)
        · intro c4
          refine And.intro (⟨by omega, by omega⟩) ?_
          exact ⟨_, rfl, by omega⟩
        · intro c5
          refine And.intro (by omega) (And.intro ?_ ?_)
          · intro c6
            refine And.intro (⟨by omega, by omega⟩) ?_
            exact ⟨_, rfl, by omega⟩
          · intro c7
            refine And.intro ⟨rfl, by decide, by decide⟩ ?_
            refine And.intro ⟨rfl, by decide, by decide⟩ (fgetf fb_740_9 h0 hB0 ?_)
            intro z8 lz8 uz8 qz8
            refine fload rL_747_747_0_95_1_0 h0 hB0 (by omega) ?_
            intro z9 lz9 uz9 qz9
            refine And.intro (by omega) (And.intro ?_ ?_)
            · intro c10
              refine And.intro (⟨by omega, by omega⟩) ?_
              exact ⟨_, rfl, by omega⟩
            · intro c11
              refine And.intro (⟨by omega, by omega⟩) ?_
              exact ⟨_, rfl, by omega⟩
      · intro c12
        refine And.intro ⟨rfl, by decide, by decide⟩ (fgetf fb_740_10 h0 hB0 ?_)
        intro z13 lz13 uz13 qz13
        refine And.intro ⟨rfl, by decide, by decide⟩ (fgetf fb_740_9 h0 hB0 ?_)
        intro z14 lz14 uz14 qz14
        refine And.intro (by omega) (And.intro ?_ ?_)
        · intro c15
          refine And.intro (by omega) (And.intro ?_ ?_)
          · intro c16
            refine And.intro (⟨by omega, by omega⟩) ?_
            exact ⟨_, rfl, by omega⟩
          · intro c17
            refine And.intro (by omega) (And.intro ?_ ?_)
            · intro c18
              refine And.intro (⟨by omega, by omega⟩) ?_
              exact ⟨_, rfl, by omega⟩
            · intro c19
              refine And.intro ⟨rfl, by decide, by decide⟩ ?_
              refine And.intro ⟨rfl, by decide, by decide⟩ (fgetf fb_740_9 h0 hB0 ?_)
              intro z20 lz20 uz20 qz20
              refine fload rL_747_747_0_95_1_0 h0 hB0 (by omega) ?_
              intro z21 lz21 uz21 qz21
              refine And.intro (by omega) (And.intro ?_ ?_)
              · intro c22
                refine And.intro (⟨by omega, by omega⟩) ?_
                exact ⟨_, rfl, by omega⟩
              · intro c23
                refine And.intro (⟨by omega, by omega⟩) ?_
                exact ⟨_, rfl, by omega⟩
        · intro c24
          refine And.intro ⟨rfl, by decide, by decide⟩ ?_
          refine And.intro ⟨rfl, by decide, by decide⟩ (fgetf fb_740_9 h0 hB0 ?_)
          intro z25 lz25 uz25 qz25
          refine fload rL_747_747_0_95_1_0 h0 hB0 (by omega) ?_
          intro z26 lz26 uz26 qz26
          refine And.intro (by omega) (And.intro ?_ ?_)
          · intro c27
            refine And.intro (by omega) (And.intro ?_ ?_)
            · intro c28
              refine And.intro (⟨by omega, by omega⟩) ?_
              exact ⟨_, rfl, by omega⟩
            · intro c29
              refine And.intro (by omega) (And.intro ?_ ?_)
              · intro c30
                refine And.intro (⟨by omega, by omega⟩) ?_
                exact ⟨_, rfl, by omega⟩
              · intro c31
                refine And.intro ⟨rfl, by decide, by decide⟩ ?_
                refine And.intro ⟨rfl, by decide, by decide⟩ (fgetf fb_740_9 h0 hB0 ?_)
                intro z32 lz32 uz32 qz32
                refine fload rL_747_747_0_95_1_0 h0 hB0 (by omega) ?_
                intro z33 lz33 uz33 qz33
                refine And.intro (by omega) (And.intro ?_ ?_)
                · intro c34
                  refine And.intro (⟨by omega, by omega⟩) ?_
                  exact ⟨_, rfl, by omega⟩
                · intro c35
                  refine And.intro (⟨by omega, by omega⟩) ?_
                  exact ⟨_, rfl, by omega⟩
          · intro c36
            refine And.intro ⟨rfl, by decide, by decide⟩ ?_
            refine And.intro ⟨rfl, by decide, by decide⟩ (fgetf fb_740_9 h0 hB0 ?_)
            intro z37 lz37 uz37 qz37
            refine fload rL_747_747_0_95_1_0 h0 hB0 (by omega) ?_
            intro z38 lz38 uz38 qz38
            refine And.intro (by omega) (And.intro ?_ ?_)
            · intro c39
              refine And.intro (by omega) (And.intro ?_ ?_)
              · intro c40
                refine And.intro (⟨by omega, by omega⟩) ?_
                exact ⟨_, rfl, by omega⟩
              · intro c41
                refine And.intro (by omega) (And.intro ?_ ?_)
                · intro c42
                  refine And.intro (⟨by omega, by omega⟩) ?_
                  exact ⟨_, rfl, by omega⟩
                · intro c43
                  refine And.intro ⟨rfl, by decide, by decide⟩ ?_
                  refine And.intro ⟨rfl, by decide, by decide⟩ (fgetf fb_740_9 h0 hB0 ?_)
                  intro z44 lz44 uz44 qz44
                  refine fload rL_747_747_0_95_1_0 h0 hB0 (by omega) ?_
                  intro z45 lz45 uz45 qz45
                  refine And.intro (by omega) (And.intro ?_ ?_)
                  · intro c46
                    refine And.intro (⟨by omega, by omega⟩) ?_
                    exact ⟨_, rfl, by omega⟩
                  · intro c47
                    refine And.intro (⟨by omega, by omega⟩) ?_
                    exact ⟨_, rfl, by omega⟩
            · intro c48
              refine And.intro ⟨rfl, by decide, by decide⟩ ?_
              refine And.intro ⟨rfl, by decide, by decide⟩ (fgetf fb_740_9 h0 hB0 ?_)
              intro z49 lz49 uz49 qz49
              refine fload rL_747_747_0_95_1_0 h0 hB0 (by omega) ?_
              intro z50 lz50 uz50 qz50
              refine And.intro (by omega) (And.intro ?_ ?_)
              · intro c51
                refine And.intro (by omega) (And.intro ?_ ?_)
                · intro c52
                  refine And.intro (⟨by omega, by omega⟩) ?_
                  exact ⟨_, rfl, by omega⟩
                · intro c53
                  refine And.intro (by omega) (And.intro ?_ ?_)
                  · intro c54
                    refine And.intro (⟨by omega, by omega⟩) ?_
                    exact ⟨_, rfl, by omega⟩
                  · intro c55
                    refine And.intro ⟨rfl, by decide, by decide⟩ ?_
                    refine And.intro ⟨rfl, by decide, by decide⟩ (fgetf fb_740_9 h0 hB0 ?_)
                    intro z56 lz56 uz56 qz56
                    refine fload rL_747_747_0_95_1_0 h0 hB0 (by omega) ?_
                    intro z57 lz57 uz57 qz57
                    refine And.intro (by omega) (And.intro ?_ ?_)
                    · intro c58
                      refine And.intro (⟨by omega, by omega⟩) ?_
                      exact ⟨_, rfl, by omega⟩
                    · intro c59
                      refine And.intro (⟨by omega, by omega⟩) ?_
                      exact ⟨_, rfl, by omega⟩
              · intro c60
                refine And.intro ⟨rfl, by decide, by decide⟩ ?_
                refine And.intro ⟨rfl, by decide, by decide⟩ (fgetf fb_740_9 h0 hB0 ?_)
                intro z61 lz61 uz61 qz61
                refine fload rL_747_747_0_95_1_0 h0 hB0 (by omega) ?_
                intro z62 lz62 uz62 qz62
                refine And.intro (by omega) (And.intro ?_ ?_)
                · intro c63
                  refine And.intro (by omega) (And.intro ?_ ?_)
                  · intro c64
                    refine And.intro (⟨by omega, by omega⟩) ?_
                    exact ⟨_, rfl, by omega⟩
                  · intro c65
                    refine And.intro (by omega) (And.intro ?_ ?_)
                    · intro c66
                      refine And.intro (⟨by omega, by omega⟩) ?_
                      exact ⟨_, rfl, by omega⟩
                    · intro c67
                      refine And.intro ⟨rfl, by decide, by decide⟩ ?_
                      refine And.intro ⟨rfl, by decide, by decide⟩ (fgetf fb_740_9 h0 hB0 ?_)
                      intro z68 lz68 uz68 qz68
                      refine fload rL_747_747_0_95_1_0 h0 hB0 (by omega) ?_
                      intro z69 lz69 uz69 qz69
                      refine And.intro (by omega) (And.intro ?_ ?_)
                      · intro c70
                        refine And.intro (⟨by omega, by omega⟩) ?_
                        exact ⟨_, rfl, by omega⟩
                      · intro c71
                        refine And.intro (⟨by omega, by omega⟩) ?_
                        exact ⟨_, rfl, by omega⟩
                · intro c72
                  refine And.intro (by omega) (And.intro ?_ ?_)
                  · intro c73
                    refine And.intro (⟨by omega, by omega⟩) ?_
                    exact ⟨_, rfl, by omega⟩
                  · intro c74
                    refine And.intro (by omega) (And.intro ?_ ?_)
                    · intro c75
                      refine And.intro (⟨by omega, by omega⟩) ?_
                      exact ⟨_, rfl, by omega⟩
                    · intro c76
                      refine And.intro ⟨rfl, by decide, by decide⟩ ?_
                      refine And.intro ⟨rfl, by decide, by decide⟩ (fgetf fb_740_9 h0 hB0 ?_)
                      intro z77 lz77 uz77 qz77
                      refine fload rL_747_747_0_95_1_0 h0 hB0 (by omega) ?_
                      intro z78 lz78 uz78 qz78
                      refine And.intro (by omega) (And.intro ?_ ?_)
                      · intro c79
                        refine And.intro (⟨by omega, by omega⟩) ?_
                        exact ⟨_, rfl, by omega⟩
                      · intro c80
                        refine And.intro (⟨by omega, by omega⟩) ?_
                        exact ⟨_, rfl, by omega⟩
    · intro c81
      refine And.intro ⟨rfl, by decide, by decide⟩ (fgetf fb_740_11 h0 hB0 ?_)
      intro z82 lz82 uz82 qz82
      refine And.intro (by omega) (And.intro ?_ ?_)
      · intro c83
        refine And.intro (by omega) (And.intro ?_ ?_)
        · intro c84
          refine And.intro (⟨by omega, by omega⟩) ?_
          exact ⟨_, rfl, by omega⟩
        · intro c85
          refine And.intro (by omega) (And.intro ?_ ?_)
          · intro c86
            refine And.intro (⟨by omega, by omega⟩) ?_
            exact ⟨_, rfl, by omega⟩
          · intro c87
            refine And.intro ⟨rfl, by decide, by decide⟩ ?_
            refine And.intro ⟨rfl, by decide, by decide⟩ (fgetf fb_740_9 h0 hB0 ?_)
            intro z88 lz88 uz88 qz88
            refine fload rL_747_747_0_95_1_0 h0 hB0 (by omega) ?_
            intro z89 lz89 uz89 qz89
            refine And.intro (by omega) (And.intro ?_ ?_)
            · intro c90
              refine And.intro (⟨by omega, by omega⟩) ?_
              exact ⟨_, rfl, by omega⟩
            · intro c91
              refine And.intro (⟨by omega, by omega⟩) ?_
              exact ⟨_, rfl, by omega⟩
      · intro c92
        refine And.intro ⟨rfl, by decide, by decide⟩ (fgetf fb_740_10 h0 hB0 ?_)
        intro z93 lz93 uz93 qz93
        refine And.intro ⟨rfl, by decide, by decide⟩ (fgetf fb_740_9 h0 hB0 ?_)
        intro z94 lz94 uz94 qz94
        refine And.intro (by omega) (And.intro ?_ ?_)
        · intro c95
          refine And.intro (by omega) (And.intro ?_ ?_)
          · intro c96
            refine And.intro (⟨by omega, by omega⟩) ?_
            exact ⟨_, rfl, by omega⟩
          · intro c97
            refine And.intro (by omega) (And.intro ?_ ?_)
            · intro c98
              refine And.intro (⟨by omega, by omega⟩) ?_
              exact ⟨_, rfl, by omega⟩
            · intro c99
              refine And.intro ⟨rfl, by decide, by decide⟩ ?_
              refine And.intro ⟨rfl, by decide, by decide⟩ (fgetf fb_740_9 h0 hB0 ?_)
              intro z100 lz100 uz100 qz100
              refine fload rL_747_747_0_95_1_0 h0 hB0 (by omega) ?_
              intro z101 lz101 uz101 qz101
              refine And.intro (by omega) (And.intro ?_ ?_)
              · intro c102
                refine And.intro (⟨by omega, by omega⟩) ?_
                exact ⟨_, rfl, by omega⟩
              · intro c103
                refine And.intro (⟨by omega, by omega⟩) ?_
                exact ⟨_, rfl, by omega⟩
        · intro c104
          refine And.intro ⟨rfl, by decide, by decide⟩ ?_
          refine And.intro ⟨rfl, by decide, by decide⟩ (fgetf fb_740_9 h0 hB0 ?_)
          intro z105 lz105 uz105 qz105
          refine fload rL_747_747_0_95_1_0 h0 hB0 (by omega) ?_
          intro z106 lz106 uz106 qz106
          refine And.intro (by omega) (And.intro ?_ ?_)
          · intro c107
            refine And.intro (by omega) (And.intro ?_ ?_)
            · intro c108
              refine And.intro (⟨by omega, by omega⟩) ?_
              exact ⟨_, rfl, by omega⟩
            · intro c109
              refine And.intro (by omega) (And.intro ?_ ?_)
              · intro c110
                refine And.intro (⟨by omega, by omega⟩) ?_
                exact ⟨_, rfl, by omega⟩
              · intro c111
                refine And.intro ⟨rfl, by decide, by decide⟩ ?_
                refine And.intro ⟨rfl, by decide, by decide⟩ (fgetf fb_740_9 h0 hB0 ?_)
                intro z112 lz112 uz112 qz112
                refine fload rL_747_747_0_95_1_0 h0 hB0 (by omega) ?_
                intro z113 lz113 uz113 qz113
                refine And.intro (by omega) (And.intro ?_ ?_)
                · intro c114
                  refine And.intro (⟨by omega, by omega⟩) ?_
                  exact ⟨_, rfl, by omega⟩
                · intro c115
                  refine And.intro (⟨by omega, by omega⟩) ?_
                  exact ⟨_, rfl, by omega⟩
          · intro c116
            refine And.intro ⟨rfl, by decide, by decide⟩ ?_
            refine And.intro ⟨rfl, by decide, by decide⟩ (fgetf fb_740_9 h0 hB0 ?_)
            intro z117 lz117 uz117 qz117
            refine fload rL_747_747_0_95_1_0 h0 hB0 (by omega) ?_
            intro z118 lz118 uz118 qz118
            refine And.intro (by omega) (And.intro ?_ ?_)
            · intro c119
              refine And.intro (by omega) (And.intro ?_ ?_)
              · intro c120
                refine And.intro (⟨by omega, by omega⟩) ?_
                exact ⟨_, rfl, by omega⟩
              · intro c121
                refine And.intro (by omega) (And.intro ?_ ?_)
                · intro c122
                  refine And.intro (⟨by omega, by omega⟩) ?_
                  exact ⟨_, rfl, by omega⟩
                · intro c123
                  refine And.intro ⟨rfl, by decide, by decide⟩ ?_
                  refine And.intro ⟨rfl, by decide, by decide⟩ (fgetf fb_740_9 h0 hB0 ?_)
                  intro z124 lz124 uz124 qz124
                  refine fload rL_747_747_0_95_1_0 h0 hB0 (by omega) ?_
                  intro z125 lz125 uz125 qz125
                  refine And.intro (by omega) (And.intro ?_ ?_)
                  · intro c126
                    refine And.intro (⟨by omega, by omega⟩) ?_
                    exact ⟨_, rfl, by omega⟩
                  · intro c127
                    refine And.intro (⟨by omega, by omega⟩) ?_
                    exact ⟨_, rfl, by omega⟩
            · intro c128
              refine And.intro ⟨rfl, by decide, by decide⟩ ?_
              refine And.intro ⟨rfl, by decide, by decide⟩ (fgetf fb_740_9 h0 hB0 ?_)
              intro z129 lz129 uz129 qz129
              refine fload rL_747_747_0_95_1_0 h0 hB0 (by omega) ?_
              intro z130 lz130 uz130 qz130
              refine And.intro (by omega) (And.intro ?_ ?_)
              · intro c131
                refine And.intro (by omega) (And.intro ?_ ?_)
                · intro c132
                  refine And.intro (⟨by omega, by omega⟩) ?_
                  exact ⟨_, rfl, by omega⟩
                · intro c133
                  refine And.intro (by omega) (And.intro ?_ ?_)
                  · intro c134
                    refine And.intro (⟨by omega, by omega⟩) ?_
                    exact ⟨_, rfl, by omega⟩
                  · intro c135
                    refine And.intro ⟨rfl, by decide, by decide⟩ ?_
                    refine And.intro ⟨rfl, by decide, by decide⟩ (fgetf fb_740_9 h0 hB0 ?_)
                    intro z136 lz136 uz136 qz136
                    refine fload rL_747_747_0_95_1_0 h0 hB0 (by omega) ?_
                    intro z137 lz137 uz137 qz137
                    refine And.intro (by omega) (And.intro ?_ ?_)
                    · intro c138
                      refine And.intro (⟨by omega, by omega⟩) ?_
                      exact ⟨_, rfl, by omega⟩
                    · intro c139
                      refine And.intro (⟨by omega, by omega⟩) ?_
                      exact ⟨_, rfl, by omega⟩
              · intro c140
                refine And.intro ⟨rfl, by decide, by decide⟩ ?_
                refine And.intro ⟨rfl, by decide, by decide⟩ (fgetf fb_740_9 h0 hB0 ?_)
                intro z141 lz141 uz141 qz141
                refine fload rL_747_747_0_95_1_0 h0 hB0 (by omega) ?_
                intro z142 lz142 uz142 qz142
                refine And.intro (by omega) (And.intro ?_ ?_)
                · intro c143
                  refine And.intro (by omega) (And.intro ?_ ?_)
                  · intro c144
                    refine And.intro (⟨by omega, by omega⟩) ?_
                    exact ⟨_, rfl, by omega⟩
                  · intro c145
                    refine And.intro (by omega) (And.intro ?_ ?_)
                    · intro c146
                      refine And.intro (⟨by omega, by omega⟩) ?_
                      exact ⟨_, rfl, by omega⟩
                    · intro c147
                      refine And.intro ⟨rfl, by decide, by decide⟩ ?_
                      refine And.intro ⟨rfl, by decide, by decide⟩ (fgetf fb_740_9 h0 hB0 ?_)
                      intro z148 lz148 uz148 qz148
                      refine fload rL_747_747_0_95_1_0 h0 hB0 (by omega) ?_
                      intro z149 lz149 uz149 qz149
                      refine And.intro (by omega) (And.intro ?_ ?_)
                      · intro c150
                        refine And.intro (⟨by omega, by omega⟩) ?_
                        exact ⟨_, rfl, by omega⟩
                      · intro c151
                        refine And.intro (⟨by omega, by omega⟩) ?_
                        exact ⟨_, rfl, by omega⟩
                · intro c152
                  refine And.intro (by omega) (And.intro ?_ ?_)
                  · intro c153
                    refine And.intro (⟨by omega, by omega⟩) ?_
                    exact ⟨_, rfl, by omega⟩
                  · intro c154
                    refine And.intro (by omega) (And.intro ?_ ?_)
                    · intro c155
                      refine And.intro (⟨by omega, by omega⟩) ?_
                      exact ⟨_, rfl, by omega⟩
                    · intro c156
                      refine And.intro ⟨rfl, by decide, by decide⟩ ?_
                      refine And.intro ⟨rfl, by decide, by decide⟩ (fgetf fb_740_9 h0 hB0 ?_)
                      intro z157 lz157 uz157 qz157
                      refine fload rL_747_747_0_95_1_0 h0 hB0 (by omega) ?_
                      intro z158 lz158 uz158 qz158
                      refine And.intro (by omega) (And.intro ?_ ?_)
                      · intro c159
                        refine And.intro (⟨by omega, by omega⟩) ?_
                        exact ⟨_, rfl, by omega⟩
                      · intro c160
                        refine And.intro (⟨by omega, by omega⟩) ?_
                        exact ⟨_, rfl, by omega⟩
set_option maxRecDepth 8000 in
theorem ct_M_key_09703 {I : fH}  (h0 : fB bsJ I) (hp0 : I 740 9 ≤ I 740 10 ∧ I 740 10 ≤ 96) : fC ρ base n F xTc vwCl xTys D dA la gJ (fbz bsJ znJ (fKc []) I) xm_317 [.inr (.inr (some 740))] I (fun _ r => ∃ z, r = some (.inl z) ∧ ((-1) ≤ z ∧ z ≤ 5)) := by
  have hW : fzs [] (fKc []) := fKc_ok _
  refine f_meth (rb := rbJ) (J := []) 1 400 xG xin_317 x6_317 okJ (fB_self h0) ?_ ?_
  · exact fun q h => absurd h List.not_mem_nil
  · have hB0 := fB_self (zn := znJ) (K := fKc []) h0
    refine Exists.intro xm_318 (And.intro mi_318 (And.intro ⟨rfl, rfl, rfl, rfl⟩ (And.intro rfl ?_)))
    refine fcallp hB0 (ct_M_isWordAt_4e115 (fBz h0 hB0) (by omega) (by omega) (by omega) (by omega) (by omega) (by omega)) ?_
    rintro _ ⟨z1, rfl, hz1⟩
    refine And.intro (by omega) (And.intro ?_ ?_)
    · intro c2
      refine Exists.intro xm_318 (And.intro mi_318 (And.intro ⟨rfl, rfl, rfl, rfl⟩ (And.intro rfl ?_)))
      refine fcallp hB0 (ct_M_isWordAt_4e115 (fBz h0 hB0) (by omega) (by omega) (by omega) (by omega) (by omega) (by omega)) ?_
      rintro _ ⟨z3, rfl, hz3⟩
      refine And.intro (by omega) (And.intro ?_ ?_)
      · intro c4
        refine Exists.intro xm_318 (And.intro mi_318 (And.intro ⟨rfl, rfl, rfl, rfl⟩ (And.intro rfl ?_)))
        refine fcallp hB0 (ct_M_isWordAt_4e115 (fBz h0 hB0) (by omega) (by omega) (by omega) (by omega) (by omega) (by omega)) ?_
        rintro _ ⟨z5, rfl, hz5⟩
        refine And.intro (by omega) (And.intro ?_ ?_)
        · intro c6
          refine Exists.intro xm_318 (And.intro mi_318 (And.intro ⟨rfl, rfl, rfl, rfl⟩ (And.intro rfl ?_)))
          refine fcallp hB0 (ct_M_isWordAt_4e115 (fBz h0 hB0) (by omega) (by omega) (by omega) (by omega) (by omega) (by omega)) ?_
          rintro _ ⟨z7, rfl, hz7⟩
          refine And.intro (by omega) (And.intro ?_ ?_)
          · intro c8
            refine Exists.intro xm_318 (And.intro mi_318 (And.intro ⟨rfl, rfl, rfl, rfl⟩ (And.intro rfl ?_)))
            refine fcallp hB0 (ct_M_isWordAt_4e115 (fBz h0 hB0) (by omega) (by omega) (by omega) (by omega) (by omega) (by omega)) ?_
            rintro _ ⟨z9, rfl, hz9⟩
            refine And.intro (by omega) (And.intro ?_ ?_)
            · intro c10
              refine Exists.intro xm_318 (And.intro mi_318 (And.intro ⟨rfl, rfl, rfl, rfl⟩ (And.intro rfl ?_)))
              refine fcallp hB0 (ct_M_isWordAt_4e115 (fBz h0 hB0) (by omega) (by omega) (by omega) (by omega) (by omega) (by omega)) ?_
              rintro _ ⟨z11, rfl, hz11⟩
              refine And.intro (by omega) (And.intro ?_ ?_)
              · intro c12
                refine And.intro (True.intro) ?_
                exact ⟨_, rfl, by omega⟩
              · intro c13
                refine And.intro (True.intro) ?_
                exact ⟨_, rfl, by omega⟩
            · intro c14
              refine And.intro (True.intro) ?_
              exact ⟨_, rfl, by omega⟩
          · intro c15
            refine And.intro (True.intro) ?_
            exact ⟨_, rfl, by omega⟩
        · intro c16
          refine And.intro (True.intro) ?_
          exact ⟨_, rfl, by omega⟩
      · intro c17
        refine And.intro (True.intro) ?_
        exact ⟨_, rfl, by omega⟩
    · intro c18
      refine And.intro (True.intro) ?_
      exact ⟨_, rfl, by omega⟩
abbrev jc_M_weathers_325ea_25 : Nat → fL → List fV → fH → Prop := fun m lv st I => lv = [(0, .inr (.inr (some 740)))] ∧ st = [] ∧ (True) ∧ m = (1 + 1 * I 740 28 : Int).toNat
set_option maxRecDepth 8000 in
theorem ct_M_weathers_325ea {I : fH} {x1 : Int} (h0 : fB bsJ I) (ha1 : (0 ≤ x1 ∧ x1 ≤ 47)) : fC ρ base n F xTc vwCl xTys D dA la gJ (fbz bsJ znJ (fKc wz_69d61) I) xm_460 [.inr (.inr (some 740)), .inl x1] I (fun _ r => r = none) := by
  have hW : fzs wz_69d61 (fKc wz_69d61) := fKc_ok _
  refine f_meth (rb := rbJ) (J := [(25, jc_M_weathers_325ea_25)]) 2147483650 400 xG xin_460 x6_460 okJ (fB_self h0) ?_ ?_
  · refine List.forall_mem_cons.mpr ⟨?_, fun q h => absurd h List.not_mem_nil⟩
    · rintro m _ _ I1 hB1 ⟨rfl, rfl, hb, hm⟩
      refine And.intro ⟨rfl, by decide, by decide⟩ (fgetf fb_740_28 h0 hB1 ?_)
      intro z1 lz1 uz1 qz1
      refine And.intro (by omega) (And.intro ?_ ?_)
      · intro c2
        exact rfl
      · intro c3
        refine And.intro ⟨rfl, by decide, by decide⟩ (fgetf fb_740_28 h0 hB1 ?_)
        intro z4 lz4 uz4 qz4
        refine And.intro ⟨rfl, by decide, by decide⟩ (And.intro rfl (And.intro (Or.inl rfl) (fputf fb_740_28 (by decide +kernel) hW (by omega) ?_)))
        intro IhB5 ehB5 hB5
        have t6 := fup_at ehB5 28 (by omega)
        refine And.intro ⟨rfl, by decide, by decide⟩ (fgetf fb_740_27 h0 hB5 ?_)
        intro z7 lz7 uz7 qz7
        intro z8 hz8 ez8 bz8
        clear ez8
        try replace bz8 := bz8 (by omega)
        refine And.intro ⟨rfl, by decide, by decide⟩ (And.intro rfl (And.intro (Or.inl rfl) (fputf fb_740_27 (by decide +kernel) hW (by omega) ?_)))
        intro IhB9 ehB9 hB9
        have t10 := fup_at ehB9 27 (by omega)
        have t11 : IhB9 740 28 = IhB5 740 28 := (congrFun (congrFun ehB9 740) 28).trans (fup_ne (by omega))
        exact fcutJ (I := IhB9) (j := jc_M_weathers_325ea_25) (lv' := [(0, .inr (.inr (some 740)))]) (And.intro rfl True.intro) ⟨rfl, rfl, True.intro, rfl⟩ (by omega)
  · have hB0 := fB_self (zn := znJ) (K := fKc wz_69d61) h0
    refine And.intro ⟨rfl, by decide, by decide⟩ (fgetf fb_740_28 h0 hB0 ?_)
    intro z12 lz12 uz12 qz12
    refine And.intro ⟨rfl, by decide, by decide⟩ ?_
    refine fload rL_741_741_4510_4557_1_0 h0 hB0 (by omega) ?_
    intro z13 lz13 uz13 qz13
    intro z14 hz14 ez14 bz14
    clear ez14
    try replace bz14 := bz14 (by omega)
    refine And.intro (And.intro (by omega) (And.intro (by omega) (And.intro (by omega) rfl))) ?_
    intro z15 hz15 ez15 dz15
    intro z16 hz16 ez16 bz16
    clear ez16
    try replace bz16 := bz16 (by omega)
    refine And.intro ⟨rfl, by decide, by decide⟩ (And.intro rfl (And.intro (Or.inl rfl) (fputf fb_740_28 (by decide +kernel) hW (by omega) ?_)))
    intro IhB17 ehB17 hB17
    have t18 := fup_at ehB17 28 (by omega)
    exact fcutJ (I := IhB17) (j := jc_M_weathers_325ea_25) (lv' := [(0, .inr (.inr (some 740)))]) (And.intro rfl True.intro) ⟨rfl, rfl, True.intro, rfl⟩ (by omega)
set_option maxRecDepth 8000 in
theorem ct_M_harmBy_4eb55 {I : fH} {x1 : Int} {x2 : Int} {x3 : Int} (h0 : fB bsJ I) (ha1 : (0 ≤ x1 ∧ x1 ≤ 23)) (ha2 : (0 ≤ x2 ∧ x2 ≤ 300)) (ha3 : (0 ≤ x3 ∧ x3 ≤ 3)) : fC ρ base n F xTc vwCl xTys D dA la gJ (fbz bsJ znJ (fKc []) I) xm_467 [.inr (.inr (some 740)), .inl x1, .inl x2, .inl x3] I (fun _ r => ∃ z, r = some (.inl z) ∧ (((-2147483648) ≤ z ∧ z ≤ 2147483647) ∧ (0 ≤ z ∧ z ≤ 1000000)) ∧ (z = hbv I x1 x2 x3)) := by
  have hW : fzs [] (fKc []) := fKc_ok _
  refine f_meth (rb := rbJ) (J := []) 1 400 xG xin_467 x6_467 okJ (fB_self h0) ?_ ?_
  · exact fun q h => absurd h List.not_mem_nil
  · have hB0 := fB_self (zn := znJ) (K := fKc []) h0
    refine And.intro ⟨rfl, by decide, by decide⟩ ?_
    intro z1 hz1 ez1 bz1
    clear ez1
    have bz1 := bz1 (by omega)
    refine fload rL_741_741_4560_4563_1_0 h0 hB0 (by omega) ?_
    intro z2 lz2 uz2 qz2
    have w10 := fld_at qz2 (4560 + x3).toNat (by omega)
    intro z3 hz3 ez3 bz3
    clear ez3
    have bz3 := bz3 (by omega)
    refine And.intro (by omega) (And.intro ?_ ?_)
    · intro c4
      refine And.intro ⟨rfl, by decide, by decide⟩ ?_
      intro z5 hz5 ez5 bz5
      clear ez5
      have bz5 := bz5 (by omega)
      refine fload rL_741_741_4570_4665_1_0 h0 hB0 (by omega) ?_
      intro z6 lz6 uz6 qz6
      have w41 := fld_at qz6 (4570 + 4 * x1 + x3).toNat (by omega)
      refine And.intro ⟨rfl, by decide, by decide⟩ ?_
      intro z7 hz7 ez7 bz7
      clear ez7
      have bz7 := bz7 (by omega)
      refine fload rL_756_756_0_7524_1_0 h0 hB0 (by omega) ?_
      intro z8 lz8 uz8 qz8
      have w56 := fld_at qz8 (301 * (x1 + 1) + (x2 - I 741 (4560 + x3).toNat)).toNat (by omega)
      intro z9 hz9 ez9 bz9
      clear ez9
      have bz9 := bz9 (by omega)
      refine Exists.intro xm_291 (And.intro mi_291 (And.intro ⟨rfl, rfl, rfl, rfl⟩ (And.intro True.intro ?_)))
      refine fcallp hB0 (ct_M_least_31c1d (fBz h0 hB0) (by omega) (by omega)) ?_
      rintro _ ⟨z10, rfl, hz10⟩
      refine And.intro (True.intro) ?_
      exact ⟨_, rfl, by omega, (by unfold hbv; split <;> first | omega | (split <;> omega))⟩
    · intro c11
      refine And.intro (True.intro) ?_
      exact ⟨_, rfl, by omega, (by unfold hbv; split <;> first | omega | (split <;> omega))⟩
abbrev jc_M_findLoads_1f96d_2 (x1 : Int) (x2 : Int) : Nat → fL → List fV → fH → Prop := fun m lv st I => ∃ (y1 : Int) (y2 : Int) (y3 : Int), lv = [(0, .inr (.inr (some 740))), (1, .inl y1), (2, .inl y2), (3, .inl y3)] ∧ st = [] ∧ (((1 ≤ y1 ∧ y1 ≤ 24) ∧ (0 ≤ y2 ∧ y2 ≤ 300) ∧ (0 ≤ y3 ∧ y3 ≤ 301) ∧ (y1 = x1) ∧ (y2 = x2))) ∧ m = (45326 + 1 * (301 - y3) : Int).toNat
abbrev jc_M_findLoads_1f96d_30 (x1 : Int) (x2 : Int) : Nat → fL → List fV → fH → Prop := fun m lv st I => ∃ (y2 : Int) (y3 : Int), lv = [(0, .inr (.inr (some 740))), (2, .inl y2), (3, .inl y3)] ∧ st = [] ∧ (((0 ≤ y2 ∧ y2 ≤ 300) ∧ ((-1) ≤ y3 ∧ y3 ≤ 23) ∧ (y2 = x2)) ∧ (∀ i b : Int, y3 < i → i < x1 → 0 ≤ b → b ≤ x2 → sLd I i b)) ∧ m = (1813 + 1813 * (y3 - (-1)) : Int).toNat
abbrev jc_M_findLoads_1f96d_37 (x1 : Int) (x2 : Int) : Nat → fL → List fV → fH → Prop := fun m lv st I => ∃ (y2 : Int) (y3 : Int) (y4 : Int), lv = [(0, .inr (.inr (some 740))), (2, .inl y2), (3, .inl y3), (4, .inl y4)] ∧ st = [] ∧ (((0 ≤ y2 ∧ y2 ≤ 300) ∧ (0 ≤ y3 ∧ y3 ≤ 23) ∧ (0 ≤ y4 ∧ y4 ≤ 301) ∧ (y2 = x2)) ∧ (∀ i b : Int, y3 < i → i < x1 → 0 ≤ b → b ≤ x2 → sLd I i b) ∧ (∀ b : Int, 0 ≤ b → b < y4 → sLd I y3 b)) ∧ m = (6 + 1813 * (y3 - (-1)) + 6 * (301 - y4) : Int).toNat
abbrev jc_M_findLoads_1f96d_51 (x1 : Int) (x2 : Int) : Nat → fL → List fV → fH → Prop := fun m lv st I => ∃ (y2 : Int) (y3 : Int) (y4 : Int) (y5 : Int) (y6 : Int), lv = [(0, .inr (.inr (some 740))), (2, .inl y2), (3, .inl y3), (4, .inl y4), (5, .inl y5), (6, .inl y6)] ∧ st = [] ∧ (((0 ≤ y2 ∧ y2 ≤ 300) ∧ (0 ≤ y3 ∧ y3 ≤ 23) ∧ (0 ≤ y4 ∧ y4 ≤ 300) ∧ (0 ≤ y5 ∧ y5 ≤ 1000000) ∧ (0 ≤ y6 ∧ y6 ≤ 4) ∧ (y2 = x2)) ∧ (∀ i b : Int, y3 < i → i < x1 → 0 ≤ b → b ≤ x2 → sLd I i b) ∧ (∀ b : Int, 0 ≤ b → b < y4 → sLd I y3 b) ∧ (sBst I y3 y4 y5 y6)) ∧ m = (1 + 1813 * (y3 - (-1)) + 6 * (301 - y4) + 1 * (4 - y6) : Int).toNat
set_option maxRecDepth 8000 in
theorem ct_M_findLoads_1f96d {I : fH} {x1 : Int} {x2 : Int} (h0 : fB bsJ I) (ha1 : (1 ≤ x1 ∧ x1 ≤ 24)) (ha2 : (0 ≤ x2 ∧ x2 ≤ 300)) : fC ρ base n F xTc vwCl xTys D dA la gJ (fbz bsJ znJ (fKc wz_ce28c) I) xm_466 [.inr (.inr (some 740)), .inl x1, .inl x2] I (fun I' r => ∃ z, r = some (.inl z) ∧ (0 ≤ z ∧ z ≤ 1000000) ∧ (∀ i b : Int, 0 ≤ i → i < x1 → 0 ≤ b → b ≤ x2 → sLd I' i b) ∧ (z = I' 756 x2.toNat)) := by
  have hW : fzs wz_ce28c (fKc wz_ce28c) := fKc_ok _
  refine f_meth (rb := rbJ) (J := [(2, (jc_M_findLoads_1f96d_2 x1 x2)), (30, (jc_M_findLoads_1f96d_30 x1 x2)), (37, (jc_M_findLoads_1f96d_37 x1 x2)), (51, (jc_M_findLoads_1f96d_51 x1 x2))]) 45628 400 xG xin_466 x6_466 okJ (fB_self h0) ?_ ?_
  · refine List.forall_mem_cons.mpr ⟨?_, List.forall_mem_cons.mpr ⟨?_, List.forall_mem_cons.mpr ⟨?_, List.forall_mem_cons.mpr ⟨?_, fun q h => absurd h List.not_mem_nil⟩⟩⟩⟩
    · rintro m _ _ I1 hB1 ⟨y1, y2, y3, rfl, rfl, hb, hm⟩
      refine And.intro (by omega) (And.intro ?_ ?_)
      · intro c1
        exact fcutJ (I := I1) (j := (jc_M_findLoads_1f96d_30 x1 x2)) (lv' := [(0, .inr (.inr (some 740))), (2, .inl _), (3, .inl _)]) (And.intro rfl (And.intro rfl (And.intro rfl True.intro))) ⟨_, _, rfl, rfl, ⟨by omega, (fun i b h1 h2 => absurd h1 (by omega))⟩, rfl⟩ (by omega)
      · intro c2
        refine And.intro ⟨rfl, by decide, by decide⟩ ?_
        refine fstore rS_756_756_0_7524_1_0 (fzs_sub (by decide +kernel) hW) (by omega) (by omega) ?_
        intro IhB3 ehB3 hB3
        have t4 := fup_self ehB3
        exact fcutJ (I := IhB3) (j := (jc_M_findLoads_1f96d_2 x1 x2)) (lv' := [(0, .inr (.inr (some 740))), (1, .inl _), (2, .inl _), (3, .inl _)]) (And.intro rfl (And.intro rfl (And.intro rfl (And.intro rfl True.intro)))) ⟨_, _, _, rfl, rfl, by omega, rfl⟩ (by omega)
    · rintro m _ _ I1 hB1 ⟨y2, y3, rfl, rfl, ⟨hb, hx0⟩, hm⟩
      refine And.intro (by omega) (And.intro ?_ ?_)
      · intro c5
        refine And.intro ⟨rfl, by decide, by decide⟩ ?_
        refine fload rL_756_756_0_7524_1_0 h0 hB1 (by omega) ?_
        intro z6 lz6 uz6 qz6
        refine And.intro (True.intro) ?_
        exact ⟨_, rfl, by omega, (fun i b h1 h2 h3 h4 => hx0 i b (by omega) (by omega) h3 (by omega)), (fld_at qz6 x2.toNat (by omega))⟩
      · intro c7
        exact fcutJ (I := I1) (j := (jc_M_findLoads_1f96d_37 x1 x2)) (lv' := [(0, .inr (.inr (some 740))), (2, .inl _), (3, .inl _), (4, .inl _)]) (And.intro rfl (And.intro rfl (And.intro rfl (And.intro rfl True.intro)))) ⟨_, _, _, rfl, rfl, ⟨by omega, hx0, (fun b h1 h2 => absurd h2 (by omega))⟩, rfl⟩ (by omega)
    · rintro m _ _ I1 hB1 ⟨y2, y3, y4, rfl, rfl, ⟨hb, hx0, hx1⟩, hm⟩
      refine And.intro (by omega) (And.intro ?_ ?_)
      · intro c8
        exact fcutJ (I := I1) (j := (jc_M_findLoads_1f96d_30 x1 x2)) (lv' := [(0, .inr (.inr (some 740))), (2, .inl _), (3, .inl _)]) (And.intro rfl (And.intro rfl (And.intro rfl True.intro))) ⟨_, _, rfl, rfl, ⟨by omega, (fun i b h1 h2 h3 h4 => if ei : i = y3 then (by rw [ei]; exact hx1 b h3 (by omega)) else hx0 i b (by omega) h2 h3 h4)⟩, rfl⟩ (by omega)
      · intro c9
        exact fcutJ (I := I1) (j := (jc_M_findLoads_1f96d_51 x1 x2)) (lv' := [(0, .inr (.inr (some 740))), (2, .inl _), (3, .inl _), (4, .inl _), (5, .inl _), (6, .inl _)]) (And.intro rfl (And.intro rfl (And.intro rfl (And.intro rfl (And.intro rfl (And.intro rfl True.intro)))))) ⟨_, _, _, _, _, rfl, rfl, ⟨by omega, hx0, hx1, (sBst_0 (by omega) (by omega))⟩, rfl⟩ (by omega)
    · rintro m _ _ I1 hB1 ⟨y2, y3, y4, y5, y6, rfl, rfl, ⟨hb, hx0, hx1, hx2⟩, hm⟩
      refine And.intro (by omega) (And.intro ?_ ?_)
      · intro c10
        refine And.intro ⟨rfl, by decide, by decide⟩ ?_
        refine fstore rS_756_756_0_7524_1_0 (fzs_sub (by decide +kernel) hW) (by omega) (by omega) ?_
        intro IhB11 ehB11 hB11
        have t12 := fup_self ehB11
        exact fcutJ (I := IhB11) (j := (jc_M_findLoads_1f96d_37 x1 x2)) (lv' := [(0, .inr (.inr (some 740))), (2, .inl _), (3, .inl _), (4, .inl _)]) (And.intro rfl (And.intro rfl (And.intro rfl (And.intro rfl True.intro)))) ⟨_, _, _, rfl, rfl, ⟨by omega, (fun i b h1 h2 h3 h4 => ld_keep (i0 := y3) (b0 := y4) ehB11 (by omega) (by omega) (by omega) (by omega) (hx0 i b h1 h2 h3 h4)), (fun b h1 h2 => if eb : b = y4 then (by rw [eb]; exact ld_new ehB11 (by omega) (sBst_get hx2 (by omega))) else ld_keep (i0 := y3) (b0 := y4) ehB11 (by omega) (by omega) (by omega) (by omega) (hx1 b h1 (by omega)))⟩, rfl⟩ (by omega)
      · intro c13
        refine Exists.intro xm_467 (And.intro mi_467 (And.intro ⟨rfl, rfl, rfl, rfl⟩ (And.intro rfl ?_)))
        refine fcallp hB1 (ct_M_harmBy_4eb55 (fBz h0 hB1) (by omega) (by omega) (by omega)) ?_
        rintro _ ⟨z14, rfl, hz14, g0z14⟩
        refine Exists.intro xm_291 (And.intro mi_291 (And.intro ⟨rfl, rfl, rfl, rfl⟩ (And.intro True.intro ?_)))
        refine fcallp hB1 (ct_M_least_31c1d (fBz h0 hB1) (by omega) (by omega)) ?_
        rintro _ ⟨z15, rfl, hz15⟩
        exact fcutJ (I := I1) (j := (jc_M_findLoads_1f96d_51 x1 x2)) (lv' := [(0, .inr (.inr (some 740))), (2, .inl _), (3, .inl _), (4, .inl _), (5, .inl _), (6, .inl _)]) (And.intro rfl (And.intro rfl (And.intro rfl (And.intro rfl (And.intro rfl (And.intro rfl True.intro)))))) ⟨_, _, _, _, _, rfl, rfl, ⟨by omega, hx0, hx1, (sBst_step hx2 g0z14 (by omega) (by omega) (by omega))⟩, rfl⟩ (by omega)
  · have hB0 := fB_self (zn := znJ) (K := fKc wz_ce28c) h0
    exact fcutJ (I := I) (j := (jc_M_findLoads_1f96d_2 x1 x2)) (lv' := [(0, .inr (.inr (some 740))), (1, .inl _), (2, .inl _), (3, .inl _)]) (And.intro rfl (And.intro rfl (And.intro rfl (And.intro rfl True.intro)))) ⟨_, _, _, rfl, rfl, by omega, rfl⟩ (by omega)
set_option maxRecDepth 8000 in
theorem ct_M_isNight_38061 {I : fH} {x0 : Int} {x1 : Int} (h0 : fB bsJ I) (ha0 : ((-2147483648) ≤ x0 ∧ x0 ≤ 2147483647)) (ha1 : ((-2147483648) ≤ x1 ∧ x1 ≤ 2147483647)) : fC ρ base n F xTc vwCl xTys D dA la gJ (fbz bsJ znJ (fKc []) I) xm_465 [.inl x0, .inl x1] I (fun _ r => ∃ z, r = some (.inl z) ∧ ((z = 1 ∧ 1 ≤ x0 ∧ x0 ≤ 24 ∧ 0 ≤ x1 ∧ x1 ≤ 300) ∨ z = 0)) := by
  have hW : fzs [] (fKc []) := fKc_ok _
  refine f_meth (rb := rbJ) (J := []) 1 400 xG xin_465 x6_465 okJ (fB_self h0) ?_ ?_
  · exact fun q h => absurd h List.not_mem_nil
  · have hB0 := fB_self (zn := znJ) (K := fKc []) h0
    refine And.intro (by omega) ?_
    refine Exists.intro xm_238 (And.intro mi_238 (And.intro ⟨rfl, rfl, rfl, rfl⟩ (And.intro True.intro ?_)))
    refine fcallp hB0 (ct_M_isIn_27230 (fBz h0 hB0) (by omega) (by omega) (by omega)) ?_
    rintro _ ⟨z1, rfl, hz1⟩
    refine And.intro (by omega) (And.intro ?_ ?_)
    · intro c2
      refine And.intro (⟨by omega, by omega⟩) ?_
      exact ⟨_, rfl, by omega⟩
    · intro c3
      refine And.intro (by omega) ?_
      refine Exists.intro xm_238 (And.intro mi_238 (And.intro ⟨rfl, rfl, rfl, rfl⟩ (And.intro True.intro ?_)))
      refine fcallp hB0 (ct_M_isIn_27230 (fBz h0 hB0) (by omega) (by omega) (by omega)) ?_
      rintro _ ⟨z4, rfl, hz4⟩
      refine And.intro (by omega) (And.intro ?_ ?_)
      · intro c5
        refine And.intro (⟨by omega, by omega⟩) ?_
        exact ⟨_, rfl, by omega⟩
      · intro c6
        refine And.intro (⟨by omega, by omega⟩) ?_
        exact ⟨_, rfl, by omega⟩
abbrev jc_M_loadAt_deb31_2 (x1 : Int) (x2 : Int) (I0 : fH) : Nat → fL → List fV → fH → Prop := fun m lv st I => ∃ (y1 : Int) (y2 : Int) (y3 : Int), lv = [(0, .inr (.inr (some 740))), (1, .inl y1), (2, .inl y2), (3, .inl y3)] ∧ st = [] ∧ (((0 ≤ y1 ∧ y1 ≤ 23) ∧ (0 ≤ y2 ∧ y2 ≤ 300) ∧ (0 ≤ y3 ∧ y3 ≤ 3) ∧ (y1 = x1) ∧ (y2 = x2)) ∧ (∀ l : Int, 0 ≤ l → l < y3 → hbv I0 x1 x2 l ≠ I0 756 (301 * x1 + x2).toNat)) ∧ m = (1 + 1 * (3 - y3) : Int).toNat
set_option maxRecDepth 8000 in
theorem ct_M_loadAt_deb31 {I : fH} {x1 : Int} {x2 : Int} (h0 : fB bsJ I) (ha1 : (0 ≤ x1 ∧ x1 ≤ 23)) (ha2 : (0 ≤ x2 ∧ x2 ≤ 300)) (hp0 : sLd I x1 x2) : fC ρ base n F xTc vwCl xTys D dA la gJ (fbz bsJ znJ (fKc []) I) xm_469 [.inr (.inr (some 740)), .inl x1, .inl x2] I (fun _ r => ∃ z, r = some (.inl z) ∧ (0 ≤ z ∧ z ≤ 3) ∧ (hbv I x1 x2 z = I 756 (301 * x1 + x2).toNat)) := by
  have hW : fzs [] (fKc []) := fKc_ok _
  refine f_meth (rb := rbJ) (J := [(2, (jc_M_loadAt_deb31_2 x1 x2 I))]) 5 400 xG xin_469 x6_469 okJ (fB_self h0) ?_ ?_
  · refine List.forall_mem_cons.mpr ⟨?_, fun q h => absurd h List.not_mem_nil⟩
    · rintro m _ _ I1 hB1 ⟨y1, y2, y3, rfl, rfl, ⟨hb, hx0⟩, hm⟩
      have eI : I1 = I := fFr_nil (fFr_of hB1)
      have ey1 : y1 = x1 := by omega
      have ey2 : y2 = x2 := by omega
      obtain ⟨l0, hl0, he0⟩ := hp0
      refine Exists.intro xm_467 (And.intro mi_467 (And.intro ⟨rfl, rfl, rfl, rfl⟩ (And.intro rfl ?_)))
      refine fcallp hB1 (ct_M_harmBy_4eb55 (fBz h0 hB1) (by omega) (by omega) (by omega)) ?_
      rintro _ ⟨z1, rfl, hz1, g0z1⟩
      rw [eI, ey1, ey2] at g0z1
      refine And.intro ⟨rfl, by decide, by decide⟩ ?_
      intro z2 hz2 ez2 bz2
      clear ez2
      have bz2 := bz2 (by omega)
      refine fload rL_756_756_0_7524_1_0 h0 hB1 (by omega) ?_
      intro z3 lz3 uz3 qz3
      have wv := fld_at qz3 (301 * x1 + x2).toNat (by omega)
      rw [eI] at wv
      have wl : l0 = y3 → z1 = z3 := fun q => by rw [g0z1, wv, ← q]; exact he0
      have wm : ¬ l0 < y3 := fun q => hx0 l0 hl0.1 q he0
      refine And.intro (by omega) (And.intro ?_ ?_)
      · intro c4
        refine And.intro (True.intro) ?_
        exact ⟨_, rfl, by omega, (by rw [← g0z1, ← wv]; omega)⟩
      · intro c5
        intro z6 hz6 bz6
        have bz6 := bz6 (by omega)
        exact fcutJ (I := I1) (j := (jc_M_loadAt_deb31_2 x1 x2 I)) (lv' := [(0, .inr (.inr (some 740))), (1, .inl _), (2, .inl _), (3, .inl _)]) (And.intro rfl (And.intro rfl (And.intro rfl (And.intro rfl True.intro)))) ⟨_, _, _, rfl, rfl, ⟨by omega, (fun l h1 h2 => if el : l = y3 then (by rw [el, ← g0z1, ← wv]; omega) else hx0 l h1 (by omega))⟩, rfl⟩ (by omega)
  · have hB0 := fB_self (zn := znJ) (K := fKc []) h0
    exact fcutJ (I := I) (j := (jc_M_loadAt_deb31_2 x1 x2 I)) (lv' := [(0, .inr (.inr (some 740))), (1, .inl _), (2, .inl _), (3, .inl _)]) (And.intro rfl (And.intro rfl (And.intro rfl (And.intro rfl True.intro)))) ⟨_, _, _, rfl, rfl, ⟨by omega, (fun l h1 h2 => absurd h2 (by omega))⟩, rfl⟩ (by omega)
abbrev jc_M_load_94669_45 (x1 : Int) (x2 : Int) : Nat → fL → List fV → fH → Prop := fun m lv st I => ∃ (y3 : Int) (y4 : Int) (y5 : Int), lv = [(0, .inr (.inr (some 740))), (3, .inl y3), (4, .inl y4), (5, .inl y5)] ∧ st = [] ∧ (((0 ≤ y3 ∧ y3 ≤ 23) ∧ (0 ≤ y4 ∧ y4 ≤ 300) ∧ (0 ≤ y5 ∧ y5 ≤ 23) ∧ (y4 ≤ x2) ∧ (y5 ≤ y3) ∧ (y3 < x1)) ∧ (∀ i b : Int, 0 ≤ i → i < x1 → 0 ≤ b → b ≤ x2 → sLd I i b) ∧ (I 756 (301 * y5 + y4).toNat ≠ 1000000)) ∧ m = (1 + 1 * (23 - y5) : Int).toNat
set_option maxRecDepth 8000 in
theorem ct_M_load_94669 {I : fH} {x1 : Int} {x2 : Int} {x3 : Int} (h0 : fB bsJ I) (ha1 : ((-2147483648) ≤ x1 ∧ x1 ≤ 2147483647)) (ha2 : ((-2147483648) ≤ x2 ∧ x2 ≤ 2147483647)) (ha3 : ((-2147483648) ≤ x3 ∧ x3 ≤ 2147483647)) : fC ρ base n F xTc vwCl xTys D dA la gJ (fbz bsJ znJ (fKc wz_ce28c) I) xm_468 [.inr (.inr (some 740)), .inl x1, .inl x2, .inl x3] I (fun _ r => ∃ z, r = some (.inl z) ∧ ((0 ≤ z ∧ z ≤ 3) ∨ z = (-1000000005) ∨ z = (-1000000001))) := by
  have hW : fzs wz_ce28c (fKc wz_ce28c) := fKc_ok _
  refine f_meth (rb := rbJ) (J := [(45, (jc_M_load_94669_45 x1 x2))]) 25 400 xG xin_468 x6_468 okJ (fB_self h0) ?_ ?_
  · refine List.forall_mem_cons.mpr ⟨?_, fun q h => absurd h List.not_mem_nil⟩
    · rintro m _ _ I1 hB1 ⟨y3, y4, y5, rfl, rfl, ⟨hb, hx0, hx1⟩, hm⟩
      refine And.intro (by omega) (And.intro ?_ ?_)
      · intro c1
        refine Exists.intro xm_469 (And.intro mi_469 (And.intro ⟨rfl, rfl, rfl, rfl⟩ (And.intro rfl ?_)))
        refine fcallp hB1 (ct_M_loadAt_deb31 (fBz h0 hB1) (by omega) (by omega) (hx0 _ _ (by omega) (by omega) (by omega) (by omega))) ?_
        rintro _ ⟨z2, rfl, hz2, g0z2⟩
        refine And.intro (True.intro) ?_
        exact ⟨_, rfl, by omega⟩
      · intro c3
        refine And.intro ⟨rfl, by decide, by decide⟩ ?_
        refine Exists.intro xm_469 (And.intro mi_469 (And.intro ⟨rfl, rfl, rfl, rfl⟩ (And.intro rfl ?_)))
        refine fcallp hB1 (ct_M_loadAt_deb31 (fBz h0 hB1) (by omega) (by omega) (hx0 _ _ (by omega) (by omega) (by omega) (by omega))) ?_
        rintro _ ⟨z4, rfl, hz4, g0z4⟩
        intro z5 hz5 ez5 bz5
        clear ez5
        have bz5 := bz5 (by omega)
        refine fload rL_741_741_4560_4563_1_0 h0 hB1 (by omega) ?_
        intro z6 lz6 uz6 qz6
        have w69 := fld_at qz6 (4560 + z4).toNat (by omega)
        have wg := ld_go (I := I1) (i := y5) (b := y4) (l := z4) (by rw [g0z4]; exact hx1) ((frL_at rL_741_741_4570_4665_1_0 (fBz h0 hB1) (a := 741) (i := 4570 + 4 * y5 + z4) (by omega)).2.1)
        have wg1 := wg.1
        intro z7 hz7 ez7 bz7
        clear ez7
        have bz7 := bz7 (by omega)
        exact fcutJ (I := I1) (j := (jc_M_load_94669_45 x1 x2)) (lv' := [(0, .inr (.inr (some 740))), (3, .inl _), (4, .inl _), (5, .inl _)]) (And.intro rfl (And.intro rfl (And.intro rfl (And.intro rfl True.intro)))) ⟨_, _, _, rfl, rfl, ⟨by omega, hx0, (ne_to wg.2 (by omega))⟩, rfl⟩ (by omega)
  · have hB0 := fB_self (zn := znJ) (K := fKc wz_ce28c) h0
    refine Exists.intro xm_465 (And.intro mi_465 (And.intro ⟨rfl, rfl, rfl, rfl⟩ (And.intro True.intro ?_)))
    refine fcallp hB0 (ct_M_isNight_38061 (fBz h0 hB0) (by omega) (by omega)) ?_
    rintro _ ⟨z8, rfl, hz8⟩
    refine And.intro (by omega) (And.intro ?_ ?_)
    · intro c9
      refine And.intro (True.intro) ?_
      exact ⟨_, rfl, by omega⟩
    · intro c10
      refine And.intro (by omega) ?_
      refine And.intro (by omega) ?_
      refine Exists.intro xm_238 (And.intro mi_238 (And.intro ⟨rfl, rfl, rfl, rfl⟩ (And.intro True.intro ?_)))
      refine fcallp hB0 (ct_M_isIn_27230 (fBz h0 hB0) (by omega) (by omega) (by omega)) ?_
      rintro _ ⟨z11, rfl, hz11⟩
      refine And.intro (by omega) (And.intro ?_ ?_)
      · intro c12
        refine Exists.intro xm_466 (And.intro mi_466 (And.intro ⟨rfl, rfl, rfl, rfl⟩ (And.intro rfl ?_)))
        refine fcall _ h0 (fzs_sub (by decide +kernel) hW) hB0 (ct_M_findLoads_1f96d (fBz h0 hB0) (by omega) (by omega)) ?_
        rintro IhB14 _ hB14 fhB14 ⟨z13, rfl, hz13, g0z13, g1z13⟩
        refine And.intro (by omega) (And.intro ?_ ?_)
        · intro c15
          exact fcutJ (I := IhB14) (j := (jc_M_load_94669_45 x1 x2)) (lv' := [(0, .inr (.inr (some 740))), (3, .inl _), (4, .inl _), (5, .inl _)]) (And.intro rfl (And.intro rfl (And.intro rfl (And.intro rfl True.intro)))) ⟨_, _, _, rfl, rfl, ⟨by omega, g0z13, (ne_to (j := x2.toNat) (by omega) (by omega))⟩, rfl⟩ (by omega)
        · intro c16
          refine And.intro (True.intro) ?_
          exact ⟨_, rfl, by omega⟩
      · intro c17
        refine And.intro (True.intro) ?_
        exact ⟨_, rfl, by omega⟩
set_option maxRecDepth 8000 in
theorem ct_M_ship_fd85e {I : fH} {x1 : Int} {x2 : Int} {x3 : Int} (h0 : fB bsJ I) (ha1 : ((-2147483648) ≤ x1 ∧ x1 ≤ 2147483647)) (ha2 : ((-2147483648) ≤ x2 ∧ x2 ≤ 2147483647)) (ha3 : ((-2147483648) ≤ x3 ∧ x3 ≤ 2147483647)) (hp0 : sI I 741) : fC ρ base n F xTc vwCl xTys D dA la gJ (fbz bsJ znJ (fKc wz_ac3fb) I) xm_471 [.inr (.inr (some 740)), .inl x1, .inl x2, .inl x3] I (fun I' r => ∃ z, r = some (.inl z) ∧ ((0 ≤ z ∧ z ≤ 5) ∨ z = (-1000000003) ∨ z = (-1000000001)) ∧ (sI I' 741)) := by
  have hW : fzs wz_ac3fb (fKc wz_ac3fb) := fKc_ok _
  refine f_meth (rb := rbJ) (J := []) 1 400 xG xin_471 x6_471 okJ (fB_self h0) ?_ ?_
  · exact fun q h => absurd h List.not_mem_nil
  · have hB0 := fB_self (zn := znJ) (K := fKc wz_ac3fb) h0
    refine And.intro (by omega) ?_
    refine Exists.intro xm_238 (And.intro mi_238 (And.intro ⟨rfl, rfl, rfl, rfl⟩ (And.intro True.intro ?_)))
    refine fcallp hB0 (ct_M_isIn_27230 (fBz h0 hB0) (by omega) (by omega) (by omega)) ?_
    rintro _ ⟨z1, rfl, hz1⟩
    refine And.intro (by omega) (And.intro ?_ ?_)
    · intro c2
      refine And.intro (True.intro) ?_
      exact ⟨_, rfl, by omega, hp0⟩
    · intro c3
      refine And.intro (by omega) ?_
      refine Exists.intro xm_238 (And.intro mi_238 (And.intro ⟨rfl, rfl, rfl, rfl⟩ (And.intro True.intro ?_)))
      refine fcallp hB0 (ct_M_isIn_27230 (fBz h0 hB0) (by omega) (by omega) (by omega)) ?_
      rintro _ ⟨z4, rfl, hz4⟩
      refine And.intro (by omega) (And.intro ?_ ?_)
      · intro c5
        refine And.intro (True.intro) ?_
        exact ⟨_, rfl, by omega, hp0⟩
      · intro c6
        refine And.intro (by omega) ?_
        refine Exists.intro xm_238 (And.intro mi_238 (And.intro ⟨rfl, rfl, rfl, rfl⟩ (And.intro True.intro ?_)))
        refine fcallp hB0 (ct_M_isIn_27230 (fBz h0 hB0) (by omega) (by omega) (by omega)) ?_
        rintro _ ⟨z7, rfl, hz7⟩
        refine And.intro (by omega) (And.intro ?_ ?_)
        · intro c8
          refine And.intro ⟨rfl, by decide, by decide⟩ ?_
          refine fload rL_741_741_10_10_1_0 h0 hB0 (by omega) ?_
          intro z9 lz9 uz9 qz9
          have pz9 := fld_at qz9 10 (by omega)
          refine And.intro (by omega) (And.intro ?_ ?_)
          · intro c10
            refine And.intro ⟨rfl, by decide, by decide⟩ ?_
            refine fload rL_741_741_10_10_1_0 h0 hB0 (by omega) ?_
            intro z11 lz11 uz11 qz11
            have pz11 := fld_at qz11 10 (by omega)
            refine And.intro ⟨rfl, by decide, by decide⟩ ?_
            refine fstore rS_741_741_4330_4345_3_0 (fzs_sub (by decide +kernel) hW) (by omega) (by omega) ?_
            intro IhB12 ehB12 hB12
            have t13 := fup_self ehB12
            have t14 : IhB12 741 10 = I 741 10 := (congrFun (congrFun ehB12 741) 10).trans (fup_ne (by omega))
            refine And.intro ⟨rfl, by decide, by decide⟩ ?_
            refine fstore rS_741_741_4331_4346_3_0 (fzs_sub (by decide +kernel) hW) (by omega) (by omega) ?_
            intro IhB15 ehB15 hB15
            have t16 := fup_self ehB15
            have t17 : IhB15 741 10 = IhB12 741 10 := (congrFun (congrFun ehB15 741) 10).trans (fup_ne (by omega))
            refine And.intro ⟨rfl, by decide, by decide⟩ ?_
            refine fstore rS_741_741_4332_4347_3_0 (fzs_sub (by decide +kernel) hW) (by omega) (by omega) ?_
            intro IhB18 ehB18 hB18
            have t19 := fup_self ehB18
            have t20 : IhB18 741 10 = IhB15 741 10 := (congrFun (congrFun ehB18 741) 10).trans (fup_ne (by omega))
            refine And.intro ⟨rfl, by decide, by decide⟩ ?_
            refine fload rL_741_741_10_10_1_0 h0 hB18 (by omega) ?_
            intro z21 lz21 uz21 qz21
            have pz21 := fld_at qz21 10 (by omega)
            refine fstore rS_741_741_10_10_1_0 (fzs_sub (by decide +kernel) hW) (by omega) (by omega) ?_
            intro IhB22 ehB22 hB22
            have t23 := fup_self ehB22
            have t24 := fup_at ehB22 10 (by omega)
            refine And.intro ⟨rfl, by decide, by decide⟩ ?_
            refine fload rL_741_741_10_10_1_0 h0 hB22 (by omega) ?_
            intro z25 lz25 uz25 qz25
            have pz25 := fld_at qz25 10 (by omega)
            refine And.intro (True.intro) ?_
            exact ⟨_, rfl, by omega, (sI_ship (sBd_of h0) (by omega) (fun j h hj => ((fup_other ehB22 741 j (Or.inr (by omega))).trans ((fup_other ehB18 741 j (Or.inr (by omega))).trans ((fup_other ehB15 741 j (Or.inr (by omega))).trans (fup_other ehB12 741 j (Or.inr (by omega))))))) (by rw [(fup_other ehB22 741 (4330 + 3 * I 741 10).toNat (Or.inr (by omega))), (fup_other ehB18 741 (4330 + 3 * I 741 10).toNat (Or.inr (by omega))), (fup_other ehB15 741 (4330 + 3 * I 741 10).toNat (Or.inr (by omega))), fup_at ehB12 (4330 + 3 * I 741 10).toNat (by omega)]; omega) (by omega) hp0)⟩
          · intro c26
            refine And.intro (True.intro) ?_
            exact ⟨_, rfl, by omega, hp0⟩
        · intro c27
          refine And.intro (True.intro) ?_
          exact ⟨_, rfl, by omega, hp0⟩
abbrev jc_M_seek_c83ec_29 : Nat → fL → List fV → fH → Prop := fun m lv st I => ∃ (y2 : Int) (y6 : Int), lv = [(0, .inr (.inr (some 740))), (2, .inl y2), (6, .inl y6)] ∧ st = [] ∧ (((7 ≤ y2 ∧ y2 ≤ 7) ∧ (0 ≤ y6 ∧ y6 ≤ 7) ∧ ((-2147483647) ≤ I 740 33 ∧ I 740 33 ≤ 2147483647) ∧ (7 ≤ I 741 12 ∧ I 741 12 ≤ 7))) ∧ m = (8 + 1 * (7 - y6) : Int).toNat
abbrev jc_M_seek_c83ec_59 : Nat → fL → List fV → fH → Prop := fun m lv st I => ∃ (y1 : Int) (y2 : Int) (y3 : Int) (y4 : Int) (y5 : Int) (y6 : Int), lv = [(0, .inr (.inr (some 740))), (1, .inl y1), (2, .inl y2), (3, .inl y3), (4, .inl y4), (5, .inl y5), (6, .inl y6)] ∧ st = [] ∧ (((1 ≤ y1 ∧ y1 ≤ 60) ∧ (7 ≤ y2 ∧ y2 ≤ 7) ∧ ((-2147483648) ≤ y3 ∧ y3 ≤ 2147483647) ∧ ((-2147483648) ≤ y4 ∧ y4 ≤ 2147483647) ∧ ((-2147483648) ≤ y5 ∧ y5 ≤ 2147483647) ∧ (0 ≤ y6 ∧ y6 ≤ 6) ∧ (0 ≤ I 741 12 ∧ I 741 12 ≤ 6) ∧ (y2 < I 741 12))) ∧ m = (1 + 1 * (6 - y6) : Int).toNat
set_option maxRecDepth 8000 in
theorem ct_M_seek_c83ec {I : fH} {x1 : Int} {x2 : Int} {x3 : Int} {x4 : Int} {x5 : Int} (h0 : fB bsJ I) (ha1 : (1 ≤ x1 ∧ x1 ≤ 60)) (ha2 : (7 ≤ x2 ∧ x2 ≤ 7)) (ha3 : ((-2147483648) ≤ x3 ∧ x3 ≤ 2147483647)) (ha4 : ((-2147483648) ≤ x4 ∧ x4 ≤ 2147483647)) (ha5 : ((-2147483648) ≤ x5 ∧ x5 ≤ 2147483647)) (hp0 : x2 = 7) (hp1 : x2 ≤ I 741 12) : fC ρ base n F xTc vwCl xTys D dA la gJ (fbz bsJ znJ (fKc wz_4d25e) I) xm_479 [.inr (.inr (some 740)), .inl x1, .inl x2, .inl x3, .inl x4, .inl x5] I (fun _ r => r = none) := by
  have hW : fzs wz_4d25e (fKc wz_4d25e) := fKc_ok _
  refine f_meth (rb := rbJ) (J := [(29, jc_M_seek_c83ec_29), (59, jc_M_seek_c83ec_59)]) 16 400 xG xin_479 x6_479 okJ (fB_self h0) ?_ ?_
  · refine List.forall_mem_cons.mpr ⟨?_, List.forall_mem_cons.mpr ⟨?_, fun q h => absurd h List.not_mem_nil⟩⟩
    · rintro m _ _ I1 hB1 ⟨y2, y6, rfl, rfl, hb, hm⟩
      have k1 := fBz_eq hB1 (a := 741) (j := 12) (by decide +kernel)
      refine And.intro (by omega) (And.intro ?_ ?_)
      · intro c2
        exact rfl
      · intro c3
        refine And.intro ⟨rfl, by decide, by decide⟩ ?_
        refine And.intro ⟨rfl, by decide, by decide⟩ ?_
        refine fload rL_757_757_0_6_1_0 h0 hB1 (by omega) ?_
        intro z4 lz4 uz4 qz4
        refine fstore rS_758_758_0_6_1_0 (fzs_sub (by decide +kernel) hW) (by omega) (by omega) ?_
        intro IhB5 ehB5 hB5
        have t6 := fup_self ehB5
        have t7 : IhB5 740 33 = I1 740 33 := (congrFun (congrFun ehB5 740) 33).trans (fup_ne (by omega))
        have t8 : IhB5 741 12 = I1 741 12 := (congrFun (congrFun ehB5 741) 12).trans (fup_ne (by omega))
        have k9 := fBz_eq hB5 (a := 741) (j := 12) (by decide +kernel)
        exact fcutJ (I := IhB5) (j := jc_M_seek_c83ec_29) (lv' := [(0, .inr (.inr (some 740))), (2, .inl _), (6, .inl _)]) (And.intro rfl (And.intro rfl (And.intro rfl True.intro))) ⟨_, _, rfl, rfl, by omega, rfl⟩ (by omega)
    · rintro m _ _ I1 hB1 ⟨y1, y2, y3, y4, y5, y6, rfl, rfl, hb, hm⟩
      have k10 := fBz_eq hB1 (a := 741) (j := 12) (by decide +kernel)
      refine And.intro ⟨rfl, by decide, by decide⟩ ?_
      refine fload rL_741_741_12_12_1_0 h0 hB1 (by omega) ?_
      intro z11 lz11 uz11 qz11
      have pz11 := fld_at qz11 12 (by omega)
      refine And.intro (by omega) (And.intro ?_ ?_)
      · intro c12
        exact rfl
      · intro c13
        refine And.intro ⟨rfl, by decide, by decide⟩ (fgetf fb_740_35 h0 hB1 ?_)
        intro z14 lz14 uz14 qz14
        refine And.intro (by omega) (And.intro ?_ ?_)
        · intro c15
          exact rfl
        · intro c16
          intro z17 hz17 ez17
          intro z18 hz18 ez18 bz18
          clear ez18
          have bz18 := bz18 (by omega)
          refine And.intro (by omega) (And.intro ?_ ?_)
          · intro c19
            exact fcutJ (I := I1) (j := jc_M_seek_c83ec_59) (lv' := [(0, .inr (.inr (some 740))), (1, .inl _), (2, .inl _), (3, .inl _), (4, .inl _), (5, .inl _), (6, .inl _)]) (And.intro rfl (And.intro rfl (And.intro rfl (And.intro rfl (And.intro rfl (And.intro rfl (And.intro rfl True.intro))))))) ⟨_, _, _, _, _, _, rfl, rfl, by omega, rfl⟩ (by omega)
          · intro c20
            refine And.intro ⟨rfl, by decide, by decide⟩ ?_
            refine fload rL_741_741_4372_4390_3_0 h0 hB1 (by omega) ?_
            intro z21 lz21 uz21 qz21
            intro z22 hz22 ez22
            intro z23 hz23 ez23 bz23
            clear ez23
            clear bz23
            refine And.intro (by omega) (And.intro ?_ ?_)
            · intro c24
              refine And.intro ⟨rfl, by decide, by decide⟩ (fgetf fb_740_34 h0 hB1 ?_)
              intro z25 lz25 uz25 qz25
              refine And.intro (by omega) (And.intro ?_ ?_)
              · intro c26
                refine And.intro ⟨rfl, by decide, by decide⟩ (And.intro rfl (And.intro (Or.inr ⟨rfl, by omega⟩) (fputf fb_740_35 (by decide +kernel) hW (by omega) ?_)))
                intro IhB27 ehB27 hB27
                have t28 : IhB27 740 34 = I1 740 34 := (congrFun (congrFun ehB27 740) 34).trans (fup_ne (by omega))
                have t29 := fup_at ehB27 35 (by omega)
                have t30 : IhB27 741 12 = I1 741 12 := (congrFun (congrFun ehB27 741) 12).trans (fup_ne (by omega))
                have k31 := fBz_eq hB27 (a := 741) (j := 12) (by decide +kernel)
                refine And.intro ⟨rfl, by decide, by decide⟩ (fgetf fb_740_35 h0 hB27 ?_)
                intro z32 lz32 uz32 qz32
                refine And.intro (by omega) (And.intro ?_ ?_)
                · intro c33
                  exact fcutJ (I := IhB27) (j := jc_M_seek_c83ec_59) (lv' := [(0, .inr (.inr (some 740))), (1, .inl _), (2, .inl _), (3, .inl _), (4, .inl _), (5, .inl _), (6, .inl _)]) (And.intro rfl (And.intro rfl (And.intro rfl (And.intro rfl (And.intro rfl (And.intro rfl (And.intro rfl True.intro))))))) ⟨_, _, _, _, _, _, rfl, rfl, by omega, rfl⟩ (by omega)
                · intro c34
                  refine And.intro ⟨rfl, by decide, by decide⟩ (fgetf fb_740_34 h0 hB27 ?_)
                  intro z35 lz35 uz35 qz35
                  intro z36 hz36 ez36 bz36
                  clear ez36
                  try replace bz36 := bz36 (by omega)
                  refine And.intro ⟨rfl, by decide, by decide⟩ (And.intro rfl (And.intro (Or.inl rfl) (fputf fb_740_34 (by decide +kernel) hW (by omega) ?_)))
                  intro IhB37 ehB37 hB37
                  have t38 := fup_at ehB37 34 (by omega)
                  have t39 : IhB37 740 35 = IhB27 740 35 := (congrFun (congrFun ehB37 740) 35).trans (fup_ne (by omega))
                  have t40 : IhB37 741 12 = IhB27 741 12 := (congrFun (congrFun ehB37 741) 12).trans (fup_ne (by omega))
                  have k41 := fBz_eq hB37 (a := 741) (j := 12) (by decide +kernel)
                  refine And.intro ⟨rfl, by decide, by decide⟩ ?_
                  refine fstore rS_757_757_0_6_1_0 (fzs_sub (by decide +kernel) hW) (by omega) (by omega) ?_
                  intro IhB42 ehB42 hB42
                  have t43 := fup_self ehB42
                  have t44 : IhB42 740 34 = IhB37 740 34 := (congrFun (congrFun ehB42 740) 34).trans (fup_ne (by omega))
                  have t45 : IhB42 740 35 = IhB37 740 35 := (congrFun (congrFun ehB42 740) 35).trans (fup_ne (by omega))
                  have t46 : IhB42 741 12 = IhB37 741 12 := (congrFun (congrFun ehB42 741) 12).trans (fup_ne (by omega))
                  have k47 := fBz_eq hB42 (a := 741) (j := 12) (by decide +kernel)
                  refine And.intro ⟨rfl, by decide, by decide⟩ ?_
                  refine fload rL_741_741_4370_4388_3_0 h0 hB42 (by omega) ?_
                  intro z48 lz48 uz48 qz48
                  intro z49 hz49 ez49 bz49
                  clear ez49
                  try replace bz49 := bz49 (by omega)
                  intro z50 hz50 ez50
                  intro z51 hz51 ez51
                  refine And.intro (by omega) (And.intro ?_ ?_)
                  · intro c52
                    intro z53 hz53 ez53 bz53
                    clear ez53
                    try replace bz53 := bz53 (by omega)
                    exfalso
                    omega
                  · intro c54
                    refine And.intro ⟨rfl, by decide, by decide⟩ ?_
                    refine fload rL_741_741_4371_4389_3_0 h0 hB42 (by omega) ?_
                    intro z55 lz55 uz55 qz55
                    intro z56 hz56 ez56 bz56
                    clear ez56
                    try replace bz56 := bz56 (by omega)
                    intro z57 hz57 ez57 bz57
                    clear ez57
                    try replace bz57 := bz57 (by omega)
                    intro z58 hz58 ez58 bz58
                    clear ez58
                    try replace bz58 := bz58 (by omega)
                    exfalso
                    omega
              · intro c59
                refine And.intro ⟨rfl, by decide, by decide⟩ (And.intro rfl (And.intro (Or.inr ⟨rfl, by omega⟩) (fputf fb_740_35 (by decide +kernel) hW (by omega) ?_)))
                intro IhB60 ehB60 hB60
                have t61 : IhB60 740 34 = I1 740 34 := (congrFun (congrFun ehB60 740) 34).trans (fup_ne (by omega))
                have t62 := fup_at ehB60 35 (by omega)
                have t63 : IhB60 741 12 = I1 741 12 := (congrFun (congrFun ehB60 741) 12).trans (fup_ne (by omega))
                have k64 := fBz_eq hB60 (a := 741) (j := 12) (by decide +kernel)
                refine And.intro ⟨rfl, by decide, by decide⟩ (fgetf fb_740_35 h0 hB60 ?_)
                intro z65 lz65 uz65 qz65
                refine And.intro (by omega) (And.intro ?_ ?_)
                · intro c66
                  exact fcutJ (I := IhB60) (j := jc_M_seek_c83ec_59) (lv' := [(0, .inr (.inr (some 740))), (1, .inl _), (2, .inl _), (3, .inl _), (4, .inl _), (5, .inl _), (6, .inl _)]) (And.intro rfl (And.intro rfl (And.intro rfl (And.intro rfl (And.intro rfl (And.intro rfl (And.intro rfl True.intro))))))) ⟨_, _, _, _, _, _, rfl, rfl, by omega, rfl⟩ (by omega)
                · intro c67
                  refine And.intro ⟨rfl, by decide, by decide⟩ (fgetf fb_740_34 h0 hB60 ?_)
                  intro z68 lz68 uz68 qz68
                  intro z69 hz69 ez69 bz69
                  clear ez69
                  try replace bz69 := bz69 (by omega)
                  refine And.intro ⟨rfl, by decide, by decide⟩ (And.intro rfl (And.intro (Or.inl rfl) (fputf fb_740_34 (by decide +kernel) hW (by omega) ?_)))
                  intro IhB70 ehB70 hB70
                  have t71 := fup_at ehB70 34 (by omega)
                  have t72 : IhB70 740 35 = IhB60 740 35 := (congrFun (congrFun ehB70 740) 35).trans (fup_ne (by omega))
                  have t73 : IhB70 741 12 = IhB60 741 12 := (congrFun (congrFun ehB70 741) 12).trans (fup_ne (by omega))
                  have k74 := fBz_eq hB70 (a := 741) (j := 12) (by decide +kernel)
                  refine And.intro ⟨rfl, by decide, by decide⟩ ?_
                  refine fstore rS_757_757_0_6_1_0 (fzs_sub (by decide +kernel) hW) (by omega) (by omega) ?_
                  intro IhB75 ehB75 hB75
                  have t76 := fup_self ehB75
                  have t77 : IhB75 740 34 = IhB70 740 34 := (congrFun (congrFun ehB75 740) 34).trans (fup_ne (by omega))
                  have t78 : IhB75 740 35 = IhB70 740 35 := (congrFun (congrFun ehB75 740) 35).trans (fup_ne (by omega))
                  have t79 : IhB75 741 12 = IhB70 741 12 := (congrFun (congrFun ehB75 741) 12).trans (fup_ne (by omega))
                  have k80 := fBz_eq hB75 (a := 741) (j := 12) (by decide +kernel)
                  refine And.intro ⟨rfl, by decide, by decide⟩ ?_
                  refine fload rL_741_741_4370_4388_3_0 h0 hB75 (by omega) ?_
                  intro z81 lz81 uz81 qz81
                  intro z82 hz82 ez82 bz82
                  clear ez82
                  try replace bz82 := bz82 (by omega)
                  intro z83 hz83 ez83
                  intro z84 hz84 ez84
                  refine And.intro (by omega) (And.intro ?_ ?_)
                  · intro c85
                    intro z86 hz86 ez86 bz86
                    clear ez86
                    try replace bz86 := bz86 (by omega)
                    exfalso
                    omega
                  · intro c87
                    refine And.intro ⟨rfl, by decide, by decide⟩ ?_
                    refine fload rL_741_741_4371_4389_3_0 h0 hB75 (by omega) ?_
                    intro z88 lz88 uz88 qz88
                    intro z89 hz89 ez89 bz89
                    clear ez89
                    try replace bz89 := bz89 (by omega)
                    intro z90 hz90 ez90 bz90
                    clear ez90
                    try replace bz90 := bz90 (by omega)
                    intro z91 hz91 ez91 bz91
                    clear ez91
                    try replace bz91 := bz91 (by omega)
                    exfalso
                    omega
            · intro c92
              exact fcutJ (I := I1) (j := jc_M_seek_c83ec_59) (lv' := [(0, .inr (.inr (some 740))), (1, .inl _), (2, .inl _), (3, .inl _), (4, .inl _), (5, .inl _), (6, .inl _)]) (And.intro rfl (And.intro rfl (And.intro rfl (And.intro rfl (And.intro rfl (And.intro rfl (And.intro rfl True.intro))))))) ⟨_, _, _, _, _, _, rfl, rfl, by omega, rfl⟩ (by omega)
  · have hB0 := fB_self (zn := znJ) (K := fKc wz_4d25e) h0
    refine And.intro ⟨rfl, by decide, by decide⟩ ?_
    refine fload rL_741_741_12_12_1_0 h0 hB0 (by omega) ?_
    intro z93 lz93 uz93 qz93
    have pz93 := fld_at qz93 12 (by omega)
    refine And.intro (by omega) (And.intro ?_ ?_)
    · intro c94
      exact fcutJ (I := I) (j := jc_M_seek_c83ec_59) (lv' := [(0, .inr (.inr (some 740))), (1, .inl _), (2, .inl _), (3, .inl _), (4, .inl _), (5, .inl _), (6, .inl _)]) (And.intro rfl (And.intro rfl (And.intro rfl (And.intro rfl (And.intro rfl (And.intro rfl (And.intro rfl True.intro))))))) ⟨_, _, _, _, _, _, rfl, rfl, by omega, rfl⟩ (by omega)
    · intro c95
      refine And.intro ⟨rfl, by decide, by decide⟩ (fgetf fb_740_33 h0 hB0 ?_)
      intro z96 lz96 uz96 qz96
      refine And.intro (by omega) (And.intro ?_ ?_)
      · intro c97
        exact rfl
      · intro c98
        refine And.intro ⟨rfl, by decide, by decide⟩ (And.intro rfl (And.intro (Or.inl rfl) (fputf fb_740_33 (by decide +kernel) hW (by omega) ?_)))
        intro IhB99 ehB99 hB99
        have t100 := fup_at ehB99 33 (by omega)
        have t101 : IhB99 741 12 = I 741 12 := (congrFun (congrFun ehB99 741) 12).trans (fup_ne (by omega))
        have k102 := fBz_eq hB99 (a := 741) (j := 12) (by decide +kernel)
        exact fcutJ (I := IhB99) (j := jc_M_seek_c83ec_29) (lv' := [(0, .inr (.inr (some 740))), (2, .inl _), (6, .inl _)]) (And.intro rfl (And.intro rfl (And.intro rfl True.intro))) ⟨_, _, rfl, rfl, by omega, rfl⟩ (by omega)
abbrev jc_M_seek_ae1ea_29 : Nat → fL → List fV → fH → Prop := fun m lv st I => ∃ (y2 : Int) (y6 : Int), lv = [(0, .inr (.inr (some 740))), (2, .inl y2), (6, .inl y6)] ∧ st = [] ∧ (((6 ≤ y2 ∧ y2 ≤ 6) ∧ (0 ≤ y6 ∧ y6 ≤ 6) ∧ ((-2147483647) ≤ I 740 33 ∧ I 740 33 ≤ 2147483647) ∧ (6 ≤ I 741 12 ∧ I 741 12 ≤ 6))) ∧ m = (9 + 1 * (6 - y6) : Int).toNat
abbrev jc_M_seek_ae1ea_59 : Nat → fL → List fV → fH → Prop := fun m lv st I => ∃ (y1 : Int) (y2 : Int) (y3 : Int) (y4 : Int) (y5 : Int) (y6 : Int), lv = [(0, .inr (.inr (some 740))), (1, .inl y1), (2, .inl y2), (3, .inl y3), (4, .inl y4), (5, .inl y5), (6, .inl y6)] ∧ st = [] ∧ (((1 ≤ y1 ∧ y1 ≤ 60) ∧ (6 ≤ y2 ∧ y2 ≤ 6) ∧ ((-2147483648) ≤ y3 ∧ y3 ≤ 2147483647) ∧ ((-2147483648) ≤ y4 ∧ y4 ≤ 2147483647) ∧ ((-2147483648) ≤ y5 ∧ y5 ≤ 2147483647) ∧ (0 ≤ y6 ∧ y6 ≤ 7) ∧ (y2 < I 741 12))) ∧ m = (1 + 1 * (7 - y6) : Int).toNat
set_option maxRecDepth 8000 in
theorem ct_M_seek_ae1ea {I : fH} {x1 : Int} {x2 : Int} {x3 : Int} {x4 : Int} {x5 : Int} (h0 : fB bsJ I) (ha1 : (1 ≤ x1 ∧ x1 ≤ 60)) (ha2 : (6 ≤ x2 ∧ x2 ≤ 6)) (ha3 : ((-2147483648) ≤ x3 ∧ x3 ≤ 2147483647)) (ha4 : ((-2147483648) ≤ x4 ∧ x4 ≤ 2147483647)) (ha5 : ((-2147483648) ≤ x5 ∧ x5 ≤ 2147483647)) (hp0 : x2 = 6) (hp1 : x2 ≤ I 741 12) : fC ρ base n F xTc vwCl xTys D dA la gJ (fbz bsJ znJ (fKc wz_4d25e) I) xm_480 [.inr (.inr (some 740)), .inl x1, .inl x2, .inl x3, .inl x4, .inl x5] I (fun _ r => r = none) := by
  have hW : fzs wz_4d25e (fKc wz_4d25e) := fKc_ok _
  refine f_meth (rb := rbJ) (J := [(29, jc_M_seek_ae1ea_29), (59, jc_M_seek_ae1ea_59)]) 16 400 xG xin_480 x6_480 okJ (fB_self h0) ?_ ?_
  · refine List.forall_mem_cons.mpr ⟨?_, List.forall_mem_cons.mpr ⟨?_, fun q h => absurd h List.not_mem_nil⟩⟩
    · rintro m _ _ I1 hB1 ⟨y2, y6, rfl, rfl, hb, hm⟩
      have k1 := fBz_eq hB1 (a := 741) (j := 12) (by decide +kernel)
      refine And.intro (by omega) (And.intro ?_ ?_)
      · intro c2
        exact rfl
      · intro c3
        refine And.intro ⟨rfl, by decide, by decide⟩ ?_
        refine And.intro ⟨rfl, by decide, by decide⟩ ?_
        refine fload rL_757_757_0_6_1_0 h0 hB1 (by omega) ?_
        intro z4 lz4 uz4 qz4
        refine fstore rS_758_758_0_6_1_0 (fzs_sub (by decide +kernel) hW) (by omega) (by omega) ?_
        intro IhB5 ehB5 hB5
        have t6 := fup_self ehB5
        have t7 : IhB5 740 33 = I1 740 33 := (congrFun (congrFun ehB5 740) 33).trans (fup_ne (by omega))
        have t8 : IhB5 741 12 = I1 741 12 := (congrFun (congrFun ehB5 741) 12).trans (fup_ne (by omega))
        have k9 := fBz_eq hB5 (a := 741) (j := 12) (by decide +kernel)
        exact fcutJ (I := IhB5) (j := jc_M_seek_ae1ea_29) (lv' := [(0, .inr (.inr (some 740))), (2, .inl _), (6, .inl _)]) (And.intro rfl (And.intro rfl (And.intro rfl True.intro))) ⟨_, _, rfl, rfl, by omega, rfl⟩ (by omega)
    · rintro m _ _ I1 hB1 ⟨y1, y2, y3, y4, y5, y6, rfl, rfl, hb, hm⟩
      have k10 := fBz_eq hB1 (a := 741) (j := 12) (by decide +kernel)
      refine And.intro ⟨rfl, by decide, by decide⟩ ?_
      refine fload rL_741_741_12_12_1_0 h0 hB1 (by omega) ?_
      intro z11 lz11 uz11 qz11
      have pz11 := fld_at qz11 12 (by omega)
      refine And.intro (by omega) (And.intro ?_ ?_)
      · intro c12
        exact rfl
      · intro c13
        refine And.intro ⟨rfl, by decide, by decide⟩ (fgetf fb_740_35 h0 hB1 ?_)
        intro z14 lz14 uz14 qz14
        refine And.intro (by omega) (And.intro ?_ ?_)
        · intro c15
          exact rfl
        · intro c16
          intro z17 hz17 ez17
          intro z18 hz18 ez18 bz18
          clear ez18
          have bz18 := bz18 (by omega)
          refine And.intro (by omega) (And.intro ?_ ?_)
          · intro c19
            exact fcutJ (I := I1) (j := jc_M_seek_ae1ea_59) (lv' := [(0, .inr (.inr (some 740))), (1, .inl _), (2, .inl _), (3, .inl _), (4, .inl _), (5, .inl _), (6, .inl _)]) (And.intro rfl (And.intro rfl (And.intro rfl (And.intro rfl (And.intro rfl (And.intro rfl (And.intro rfl True.intro))))))) ⟨_, _, _, _, _, _, rfl, rfl, by omega, rfl⟩ (by omega)
          · intro c20
            refine And.intro ⟨rfl, by decide, by decide⟩ ?_
            refine fload rL_741_741_4372_4390_3_0 h0 hB1 (by omega) ?_
            intro z21 lz21 uz21 qz21
            intro z22 hz22 ez22
            intro z23 hz23 ez23 bz23
            clear ez23
            clear bz23
            refine And.intro (by omega) (And.intro ?_ ?_)
            · intro c24
              refine And.intro ⟨rfl, by decide, by decide⟩ (fgetf fb_740_34 h0 hB1 ?_)
              intro z25 lz25 uz25 qz25
              refine And.intro (by omega) (And.intro ?_ ?_)
              · intro c26
                refine And.intro ⟨rfl, by decide, by decide⟩ (And.intro rfl (And.intro (Or.inr ⟨rfl, by omega⟩) (fputf fb_740_35 (by decide +kernel) hW (by omega) ?_)))
                intro IhB27 ehB27 hB27
                have t28 : IhB27 740 34 = I1 740 34 := (congrFun (congrFun ehB27 740) 34).trans (fup_ne (by omega))
                have t29 := fup_at ehB27 35 (by omega)
                have t30 : IhB27 741 12 = I1 741 12 := (congrFun (congrFun ehB27 741) 12).trans (fup_ne (by omega))
                have k31 := fBz_eq hB27 (a := 741) (j := 12) (by decide +kernel)
                refine And.intro ⟨rfl, by decide, by decide⟩ (fgetf fb_740_35 h0 hB27 ?_)
                intro z32 lz32 uz32 qz32
                refine And.intro (by omega) (And.intro ?_ ?_)
                · intro c33
                  exact fcutJ (I := IhB27) (j := jc_M_seek_ae1ea_59) (lv' := [(0, .inr (.inr (some 740))), (1, .inl _), (2, .inl _), (3, .inl _), (4, .inl _), (5, .inl _), (6, .inl _)]) (And.intro rfl (And.intro rfl (And.intro rfl (And.intro rfl (And.intro rfl (And.intro rfl (And.intro rfl True.intro))))))) ⟨_, _, _, _, _, _, rfl, rfl, by omega, rfl⟩ (by omega)
                · intro c34
                  refine And.intro ⟨rfl, by decide, by decide⟩ (fgetf fb_740_34 h0 hB27 ?_)
                  intro z35 lz35 uz35 qz35
                  intro z36 hz36 ez36 bz36
                  clear ez36
                  try replace bz36 := bz36 (by omega)
                  refine And.intro ⟨rfl, by decide, by decide⟩ (And.intro rfl (And.intro (Or.inl rfl) (fputf fb_740_34 (by decide +kernel) hW (by omega) ?_)))
                  intro IhB37 ehB37 hB37
                  have t38 := fup_at ehB37 34 (by omega)
                  have t39 : IhB37 740 35 = IhB27 740 35 := (congrFun (congrFun ehB37 740) 35).trans (fup_ne (by omega))
                  have t40 : IhB37 741 12 = IhB27 741 12 := (congrFun (congrFun ehB37 741) 12).trans (fup_ne (by omega))
                  have k41 := fBz_eq hB37 (a := 741) (j := 12) (by decide +kernel)
                  refine And.intro ⟨rfl, by decide, by decide⟩ ?_
                  refine fstore rS_757_757_0_6_1_0 (fzs_sub (by decide +kernel) hW) (by omega) (by omega) ?_
                  intro IhB42 ehB42 hB42
                  have t43 := fup_self ehB42
                  have t44 : IhB42 740 34 = IhB37 740 34 := (congrFun (congrFun ehB42 740) 34).trans (fup_ne (by omega))
                  have t45 : IhB42 740 35 = IhB37 740 35 := (congrFun (congrFun ehB42 740) 35).trans (fup_ne (by omega))
                  have t46 : IhB42 741 12 = IhB37 741 12 := (congrFun (congrFun ehB42 741) 12).trans (fup_ne (by omega))
                  have k47 := fBz_eq hB42 (a := 741) (j := 12) (by decide +kernel)
                  refine And.intro ⟨rfl, by decide, by decide⟩ ?_
                  refine fload rL_741_741_4370_4388_3_0 h0 hB42 (by omega) ?_
                  intro z48 lz48 uz48 qz48
                  intro z49 hz49 ez49 bz49
                  clear ez49
                  try replace bz49 := bz49 (by omega)
                  intro z50 hz50 ez50
                  intro z51 hz51 ez51
                  refine And.intro (by omega) (And.intro ?_ ?_)
                  · intro c52
                    intro z53 hz53 ez53 bz53
                    clear ez53
                    try replace bz53 := bz53 (by omega)
                    refine Exists.intro xm_479 (And.intro mi_479 (And.intro ⟨rfl, rfl, rfl, rfl⟩ (And.intro rfl ?_)))
                    refine fcall _ h0 (fzs_sub (by decide +kernel) hW) hB42 (ct_M_seek_c83ec (fBz h0 hB42) (by omega) (by omega) (by omega) (by omega) (by omega) (by omega) (by omega)) ?_
                    rintro IhB55 _ hB55 fhB55 rfl
                    have t56 := fhB55 741 12 (by decide +kernel)
                    have k57 := fBz_eq hB55 (a := 741) (j := 12) (by decide +kernel)
                    exact fcutJ (I := IhB55) (j := jc_M_seek_ae1ea_59) (lv' := [(0, .inr (.inr (some 740))), (1, .inl _), (2, .inl _), (3, .inl _), (4, .inl _), (5, .inl _), (6, .inl _)]) (And.intro rfl (And.intro rfl (And.intro rfl (And.intro rfl (And.intro rfl (And.intro rfl (And.intro rfl True.intro))))))) ⟨_, _, _, _, _, _, rfl, rfl, by omega, rfl⟩ (by omega)
                  · intro c58
                    refine And.intro ⟨rfl, by decide, by decide⟩ ?_
                    refine fload rL_741_741_4371_4389_3_0 h0 hB42 (by omega) ?_
                    intro z59 lz59 uz59 qz59
                    intro z60 hz60 ez60 bz60
                    clear ez60
                    try replace bz60 := bz60 (by omega)
                    intro z61 hz61 ez61 bz61
                    clear ez61
                    try replace bz61 := bz61 (by omega)
                    intro z62 hz62 ez62 bz62
                    clear ez62
                    try replace bz62 := bz62 (by omega)
                    refine Exists.intro xm_479 (And.intro mi_479 (And.intro ⟨rfl, rfl, rfl, rfl⟩ (And.intro rfl ?_)))
                    refine fcall _ h0 (fzs_sub (by decide +kernel) hW) hB42 (ct_M_seek_c83ec (fBz h0 hB42) (by omega) (by omega) (by omega) (by omega) (by omega) (by omega) (by omega)) ?_
                    rintro IhB64 _ hB64 fhB64 rfl
                    have t65 := fhB64 741 12 (by decide +kernel)
                    have k66 := fBz_eq hB64 (a := 741) (j := 12) (by decide +kernel)
                    exact fcutJ (I := IhB64) (j := jc_M_seek_ae1ea_59) (lv' := [(0, .inr (.inr (some 740))), (1, .inl _), (2, .inl _), (3, .inl _), (4, .inl _), (5, .inl _), (6, .inl _)]) (And.intro rfl (And.intro rfl (And.intro rfl (And.intro rfl (And.intro rfl (And.intro rfl (And.intro rfl True.intro))))))) ⟨_, _, _, _, _, _, rfl, rfl, by omega, rfl⟩ (by omega)
              · intro c67
                refine And.intro ⟨rfl, by decide, by decide⟩ (And.intro rfl (And.intro (Or.inr ⟨rfl, by omega⟩) (fputf fb_740_35 (by decide +kernel) hW (by omega) ?_)))
                intro IhB68 ehB68 hB68
                have t69 : IhB68 740 34 = I1 740 34 := (congrFun (congrFun ehB68 740) 34).trans (fup_ne (by omega))
                have t70 := fup_at ehB68 35 (by omega)
                have t71 : IhB68 741 12 = I1 741 12 := (congrFun (congrFun ehB68 741) 12).trans (fup_ne (by omega))
                have k72 := fBz_eq hB68 (a := 741) (j := 12) (by decide +kernel)
                refine And.intro ⟨rfl, by decide, by decide⟩ (fgetf fb_740_35 h0 hB68 ?_)
                intro z73 lz73 uz73 qz73
                refine And.intro (by omega) (And.intro ?_ ?_)
                · intro c74
                  exact fcutJ (I := IhB68) (j := jc_M_seek_ae1ea_59) (lv' := [(0, .inr (.inr (some 740))), (1, .inl _), (2, .inl _), (3, .inl _), (4, .inl _), (5, .inl _), (6, .inl _)]) (And.intro rfl (And.intro rfl (And.intro rfl (And.intro rfl (And.intro rfl (And.intro rfl (And.intro rfl True.intro))))))) ⟨_, _, _, _, _, _, rfl, rfl, by omega, rfl⟩ (by omega)
                · intro c75
                  refine And.intro ⟨rfl, by decide, by decide⟩ (fgetf fb_740_34 h0 hB68 ?_)
                  intro z76 lz76 uz76 qz76
                  intro z77 hz77 ez77 bz77
                  clear ez77
                  try replace bz77 := bz77 (by omega)
                  refine And.intro ⟨rfl, by decide, by decide⟩ (And.intro rfl (And.intro (Or.inl rfl) (fputf fb_740_34 (by decide +kernel) hW (by omega) ?_)))
                  intro IhB78 ehB78 hB78
                  have t79 := fup_at ehB78 34 (by omega)
                  have t80 : IhB78 740 35 = IhB68 740 35 := (congrFun (congrFun ehB78 740) 35).trans (fup_ne (by omega))
                  have t81 : IhB78 741 12 = IhB68 741 12 := (congrFun (congrFun ehB78 741) 12).trans (fup_ne (by omega))
                  have k82 := fBz_eq hB78 (a := 741) (j := 12) (by decide +kernel)
                  refine And.intro ⟨rfl, by decide, by decide⟩ ?_
                  refine fstore rS_757_757_0_6_1_0 (fzs_sub (by decide +kernel) hW) (by omega) (by omega) ?_
                  intro IhB83 ehB83 hB83
                  have t84 := fup_self ehB83
                  have t85 : IhB83 740 34 = IhB78 740 34 := (congrFun (congrFun ehB83 740) 34).trans (fup_ne (by omega))
                  have t86 : IhB83 740 35 = IhB78 740 35 := (congrFun (congrFun ehB83 740) 35).trans (fup_ne (by omega))
                  have t87 : IhB83 741 12 = IhB78 741 12 := (congrFun (congrFun ehB83 741) 12).trans (fup_ne (by omega))
                  have k88 := fBz_eq hB83 (a := 741) (j := 12) (by decide +kernel)
                  refine And.intro ⟨rfl, by decide, by decide⟩ ?_
                  refine fload rL_741_741_4370_4388_3_0 h0 hB83 (by omega) ?_
                  intro z89 lz89 uz89 qz89
                  intro z90 hz90 ez90 bz90
                  clear ez90
                  try replace bz90 := bz90 (by omega)
                  intro z91 hz91 ez91
                  intro z92 hz92 ez92
                  refine And.intro (by omega) (And.intro ?_ ?_)
                  · intro c93
                    intro z94 hz94 ez94 bz94
                    clear ez94
                    try replace bz94 := bz94 (by omega)
                    refine Exists.intro xm_479 (And.intro mi_479 (And.intro ⟨rfl, rfl, rfl, rfl⟩ (And.intro rfl ?_)))
                    refine fcall _ h0 (fzs_sub (by decide +kernel) hW) hB83 (ct_M_seek_c83ec (fBz h0 hB83) (by omega) (by omega) (by omega) (by omega) (by omega) (by omega) (by omega)) ?_
                    rintro IhB96 _ hB96 fhB96 rfl
                    have t97 := fhB96 741 12 (by decide +kernel)
                    have k98 := fBz_eq hB96 (a := 741) (j := 12) (by decide +kernel)
                    exact fcutJ (I := IhB96) (j := jc_M_seek_ae1ea_59) (lv' := [(0, .inr (.inr (some 740))), (1, .inl _), (2, .inl _), (3, .inl _), (4, .inl _), (5, .inl _), (6, .inl _)]) (And.intro rfl (And.intro rfl (And.intro rfl (And.intro rfl (And.intro rfl (And.intro rfl (And.intro rfl True.intro))))))) ⟨_, _, _, _, _, _, rfl, rfl, by omega, rfl⟩ (by omega)
                  · intro c99
                    refine And.intro ⟨rfl, by decide, by decide⟩ ?_
                    refine fload rL_741_741_4371_4389_3_0 h0 hB83 (by omega) ?_
                    intro z100 lz100 uz100 qz100
                    intro z101 hz101 ez101 bz101
                    clear ez101
                    try replace bz101 := bz101 (by omega)
                    intro z102 hz102 ez102 bz102
                    clear ez102
                    try replace bz102 := bz102 (by omega)
                    intro z103 hz103 ez103 bz103
                    clear ez103
                    try replace bz103 := bz103 (by omega)
                    refine Exists.intro xm_479 (And.intro mi_479 (And.intro ⟨rfl, rfl, rfl, rfl⟩ (And.intro rfl ?_)))
                    refine fcall _ h0 (fzs_sub (by decide +kernel) hW) hB83 (ct_M_seek_c83ec (fBz h0 hB83) (by omega) (by omega) (by omega) (by omega) (by omega) (by omega) (by omega)) ?_
                    rintro IhB105 _ hB105 fhB105 rfl
                    have t106 := fhB105 741 12 (by decide +kernel)
                    have k107 := fBz_eq hB105 (a := 741) (j := 12) (by decide +kernel)
                    exact fcutJ (I := IhB105) (j := jc_M_seek_ae1ea_59) (lv' := [(0, .inr (.inr (some 740))), (1, .inl _), (2, .inl _), (3, .inl _), (4, .inl _), (5, .inl _), (6, .inl _)]) (And.intro rfl (And.intro rfl (And.intro rfl (And.intro rfl (And.intro rfl (And.intro rfl (And.intro rfl True.intro))))))) ⟨_, _, _, _, _, _, rfl, rfl, by omega, rfl⟩ (by omega)
            · intro c108
              exact fcutJ (I := I1) (j := jc_M_seek_ae1ea_59) (lv' := [(0, .inr (.inr (some 740))), (1, .inl _), (2, .inl _), (3, .inl _), (4, .inl _), (5, .inl _), (6, .inl _)]) (And.intro rfl (And.intro rfl (And.intro rfl (And.intro rfl (And.intro rfl (And.intro rfl (And.intro rfl True.intro))))))) ⟨_, _, _, _, _, _, rfl, rfl, by omega, rfl⟩ (by omega)
  · have hB0 := fB_self (zn := znJ) (K := fKc wz_4d25e) h0
    refine And.intro ⟨rfl, by decide, by decide⟩ ?_
    refine fload rL_741_741_12_12_1_0 h0 hB0 (by omega) ?_
    intro z109 lz109 uz109 qz109
    have pz109 := fld_at qz109 12 (by omega)
    refine And.intro (by omega) (And.intro ?_ ?_)
    · intro c110
      exact fcutJ (I := I) (j := jc_M_seek_ae1ea_59) (lv' := [(0, .inr (.inr (some 740))), (1, .inl _), (2, .inl _), (3, .inl _), (4, .inl _), (5, .inl _), (6, .inl _)]) (And.intro rfl (And.intro rfl (And.intro rfl (And.intro rfl (And.intro rfl (And.intro rfl (And.intro rfl True.intro))))))) ⟨_, _, _, _, _, _, rfl, rfl, by omega, rfl⟩ (by omega)
    · intro c111
      refine And.intro ⟨rfl, by decide, by decide⟩ (fgetf fb_740_33 h0 hB0 ?_)
      intro z112 lz112 uz112 qz112
      refine And.intro (by omega) (And.intro ?_ ?_)
      · intro c113
        exact rfl
      · intro c114
        refine And.intro ⟨rfl, by decide, by decide⟩ (And.intro rfl (And.intro (Or.inl rfl) (fputf fb_740_33 (by decide +kernel) hW (by omega) ?_)))
        intro IhB115 ehB115 hB115
        have t116 := fup_at ehB115 33 (by omega)
        have t117 : IhB115 741 12 = I 741 12 := (congrFun (congrFun ehB115 741) 12).trans (fup_ne (by omega))
        have k118 := fBz_eq hB115 (a := 741) (j := 12) (by decide +kernel)
        exact fcutJ (I := IhB115) (j := jc_M_seek_ae1ea_29) (lv' := [(0, .inr (.inr (some 740))), (2, .inl _), (6, .inl _)]) (And.intro rfl (And.intro rfl (And.intro rfl True.intro))) ⟨_, _, rfl, rfl, by omega, rfl⟩ (by omega)
abbrev jc_M_seek_5a34b_29 : Nat → fL → List fV → fH → Prop := fun m lv st I => ∃ (y2 : Int) (y6 : Int), lv = [(0, .inr (.inr (some 740))), (2, .inl y2), (6, .inl y6)] ∧ st = [] ∧ (((5 ≤ y2 ∧ y2 ≤ 5) ∧ (0 ≤ y6 ∧ y6 ≤ 5) ∧ ((-2147483647) ≤ I 740 33 ∧ I 740 33 ≤ 2147483647) ∧ (5 ≤ I 741 12 ∧ I 741 12 ≤ 5))) ∧ m = (9 + 1 * (5 - y6) : Int).toNat
abbrev jc_M_seek_5a34b_59 : Nat → fL → List fV → fH → Prop := fun m lv st I => ∃ (y1 : Int) (y2 : Int) (y3 : Int) (y4 : Int) (y5 : Int) (y6 : Int), lv = [(0, .inr (.inr (some 740))), (1, .inl y1), (2, .inl y2), (3, .inl y3), (4, .inl y4), (5, .inl y5), (6, .inl y6)] ∧ st = [] ∧ (((1 ≤ y1 ∧ y1 ≤ 60) ∧ (5 ≤ y2 ∧ y2 ≤ 5) ∧ ((-2147483648) ≤ y3 ∧ y3 ≤ 2147483647) ∧ ((-2147483648) ≤ y4 ∧ y4 ≤ 2147483647) ∧ ((-2147483648) ≤ y5 ∧ y5 ≤ 2147483647) ∧ (0 ≤ y6 ∧ y6 ≤ 7) ∧ (y2 < I 741 12))) ∧ m = (1 + 1 * (7 - y6) : Int).toNat
set_option maxRecDepth 8000 in
theorem ct_M_seek_5a34b {I : fH} {x1 : Int} {x2 : Int} {x3 : Int} {x4 : Int} {x5 : Int} (h0 : fB bsJ I) (ha1 : (1 ≤ x1 ∧ x1 ≤ 60)) (ha2 : (5 ≤ x2 ∧ x2 ≤ 5)) (ha3 : ((-2147483648) ≤ x3 ∧ x3 ≤ 2147483647)) (ha4 : ((-2147483648) ≤ x4 ∧ x4 ≤ 2147483647)) (ha5 : ((-2147483648) ≤ x5 ∧ x5 ≤ 2147483647)) (hp0 : x2 = 5) (hp1 : x2 ≤ I 741 12) : fC ρ base n F xTc vwCl xTys D dA la gJ (fbz bsJ znJ (fKc wz_4d25e) I) xm_481 [.inr (.inr (some 740)), .inl x1, .inl x2, .inl x3, .inl x4, .inl x5] I (fun _ r => r = none) := by
  have hW : fzs wz_4d25e (fKc wz_4d25e) := fKc_ok _
  refine f_meth (rb := rbJ) (J := [(29, jc_M_seek_5a34b_29), (59, jc_M_seek_5a34b_59)]) 15 400 xG xin_481 x6_481 okJ (fB_self h0) ?_ ?_
  · refine List.forall_mem_cons.mpr ⟨?_, List.forall_mem_cons.mpr ⟨?_, fun q h => absurd h List.not_mem_nil⟩⟩
    · rintro m _ _ I1 hB1 ⟨y2, y6, rfl, rfl, hb, hm⟩
      have k1 := fBz_eq hB1 (a := 741) (j := 12) (by decide +kernel)
      refine And.intro (by omega) (And.intro ?_ ?_)
      · intro c2
        exact rfl
      · intro c3
        refine And.intro ⟨rfl, by decide, by decide⟩ ?_
        refine And.intro ⟨rfl, by decide, by decide⟩ ?_
        refine fload rL_757_757_0_6_1_0 h0 hB1 (by omega) ?_
        intro z4 lz4 uz4 qz4
        refine fstore rS_758_758_0_6_1_0 (fzs_sub (by decide +kernel) hW) (by omega) (by omega) ?_
        intro IhB5 ehB5 hB5
        have t6 := fup_self ehB5
        have t7 : IhB5 740 33 = I1 740 33 := (congrFun (congrFun ehB5 740) 33).trans (fup_ne (by omega))
        have t8 : IhB5 741 12 = I1 741 12 := (congrFun (congrFun ehB5 741) 12).trans (fup_ne (by omega))
        have k9 := fBz_eq hB5 (a := 741) (j := 12) (by decide +kernel)
        exact fcutJ (I := IhB5) (j := jc_M_seek_5a34b_29) (lv' := [(0, .inr (.inr (some 740))), (2, .inl _), (6, .inl _)]) (And.intro rfl (And.intro rfl (And.intro rfl True.intro))) ⟨_, _, rfl, rfl, by omega, rfl⟩ (by omega)
    · rintro m _ _ I1 hB1 ⟨y1, y2, y3, y4, y5, y6, rfl, rfl, hb, hm⟩
      have k10 := fBz_eq hB1 (a := 741) (j := 12) (by decide +kernel)
      refine And.intro ⟨rfl, by decide, by decide⟩ ?_
      refine fload rL_741_741_12_12_1_0 h0 hB1 (by omega) ?_
      intro z11 lz11 uz11 qz11
      have pz11 := fld_at qz11 12 (by omega)
      refine And.intro (by omega) (And.intro ?_ ?_)
      · intro c12
        exact rfl
      · intro c13
        refine And.intro ⟨rfl, by decide, by decide⟩ (fgetf fb_740_35 h0 hB1 ?_)
        intro z14 lz14 uz14 qz14
        refine And.intro (by omega) (And.intro ?_ ?_)
        · intro c15
          exact rfl
        · intro c16
          intro z17 hz17 ez17
          intro z18 hz18 ez18 bz18
          clear ez18
          have bz18 := bz18 (by omega)
          refine And.intro (by omega) (And.intro ?_ ?_)
          · intro c19
            exact fcutJ (I := I1) (j := jc_M_seek_5a34b_59) (lv' := [(0, .inr (.inr (some 740))), (1, .inl _), (2, .inl _), (3, .inl _), (4, .inl _), (5, .inl _), (6, .inl _)]) (And.intro rfl (And.intro rfl (And.intro rfl (And.intro rfl (And.intro rfl (And.intro rfl (And.intro rfl True.intro))))))) ⟨_, _, _, _, _, _, rfl, rfl, by omega, rfl⟩ (by omega)
          · intro c20
            refine And.intro ⟨rfl, by decide, by decide⟩ ?_
            refine fload rL_741_741_4372_4390_3_0 h0 hB1 (by omega) ?_
            intro z21 lz21 uz21 qz21
            intro z22 hz22 ez22
            intro z23 hz23 ez23 bz23
            clear ez23
            clear bz23
            refine And.intro (by omega) (And.intro ?_ ?_)
            · intro c24
              refine And.intro ⟨rfl, by decide, by decide⟩ (fgetf fb_740_34 h0 hB1 ?_)
              intro z25 lz25 uz25 qz25
              refine And.intro (by omega) (And.intro ?_ ?_)
              · intro c26
                refine And.intro ⟨rfl, by decide, by decide⟩ (And.intro rfl (And.intro (Or.inr ⟨rfl, by omega⟩) (fputf fb_740_35 (by decide +kernel) hW (by omega) ?_)))
                intro IhB27 ehB27 hB27
                have t28 : IhB27 740 34 = I1 740 34 := (congrFun (congrFun ehB27 740) 34).trans (fup_ne (by omega))
                have t29 := fup_at ehB27 35 (by omega)
                have t30 : IhB27 741 12 = I1 741 12 := (congrFun (congrFun ehB27 741) 12).trans (fup_ne (by omega))
                have k31 := fBz_eq hB27 (a := 741) (j := 12) (by decide +kernel)
                refine And.intro ⟨rfl, by decide, by decide⟩ (fgetf fb_740_35 h0 hB27 ?_)
                intro z32 lz32 uz32 qz32
                refine And.intro (by omega) (And.intro ?_ ?_)
                · intro c33
                  exact fcutJ (I := IhB27) (j := jc_M_seek_5a34b_59) (lv' := [(0, .inr (.inr (some 740))), (1, .inl _), (2, .inl _), (3, .inl _), (4, .inl _), (5, .inl _), (6, .inl _)]) (And.intro rfl (And.intro rfl (And.intro rfl (And.intro rfl (And.intro rfl (And.intro rfl (And.intro rfl True.intro))))))) ⟨_, _, _, _, _, _, rfl, rfl, by omega, rfl⟩ (by omega)
                · intro c34
                  refine And.intro ⟨rfl, by decide, by decide⟩ (fgetf fb_740_34 h0 hB27 ?_)
                  intro z35 lz35 uz35 qz35
                  intro z36 hz36 ez36 bz36
                  clear ez36
                  try replace bz36 := bz36 (by omega)
                  refine And.intro ⟨rfl, by decide, by decide⟩ (And.intro rfl (And.intro (Or.inl rfl) (fputf fb_740_34 (by decide +kernel) hW (by omega) ?_)))
                  intro IhB37 ehB37 hB37
                  have t38 := fup_at ehB37 34 (by omega)
                  have t39 : IhB37 740 35 = IhB27 740 35 := (congrFun (congrFun ehB37 740) 35).trans (fup_ne (by omega))
                  have t40 : IhB37 741 12 = IhB27 741 12 := (congrFun (congrFun ehB37 741) 12).trans (fup_ne (by omega))
                  have k41 := fBz_eq hB37 (a := 741) (j := 12) (by decide +kernel)
                  refine And.intro ⟨rfl, by decide, by decide⟩ ?_
                  refine fstore rS_757_757_0_6_1_0 (fzs_sub (by decide +kernel) hW) (by omega) (by omega) ?_
                  intro IhB42 ehB42 hB42
                  have t43 := fup_self ehB42
                  have t44 : IhB42 740 34 = IhB37 740 34 := (congrFun (congrFun ehB42 740) 34).trans (fup_ne (by omega))
                  have t45 : IhB42 740 35 = IhB37 740 35 := (congrFun (congrFun ehB42 740) 35).trans (fup_ne (by omega))
                  have t46 : IhB42 741 12 = IhB37 741 12 := (congrFun (congrFun ehB42 741) 12).trans (fup_ne (by omega))
                  have k47 := fBz_eq hB42 (a := 741) (j := 12) (by decide +kernel)
                  refine And.intro ⟨rfl, by decide, by decide⟩ ?_
                  refine fload rL_741_741_4370_4388_3_0 h0 hB42 (by omega) ?_
                  intro z48 lz48 uz48 qz48
                  intro z49 hz49 ez49 bz49
                  clear ez49
                  try replace bz49 := bz49 (by omega)
                  intro z50 hz50 ez50
                  intro z51 hz51 ez51
                  refine And.intro (by omega) (And.intro ?_ ?_)
                  · intro c52
                    intro z53 hz53 ez53 bz53
                    clear ez53
                    try replace bz53 := bz53 (by omega)
                    refine Exists.intro xm_480 (And.intro mi_480 (And.intro ⟨rfl, rfl, rfl, rfl⟩ (And.intro rfl ?_)))
                    refine fcall _ h0 (fzs_sub (by decide +kernel) hW) hB42 (ct_M_seek_ae1ea (fBz h0 hB42) (by omega) (by omega) (by omega) (by omega) (by omega) (by omega) (by omega)) ?_
                    rintro IhB55 _ hB55 fhB55 rfl
                    have t56 := fhB55 741 12 (by decide +kernel)
                    have k57 := fBz_eq hB55 (a := 741) (j := 12) (by decide +kernel)
                    exact fcutJ (I := IhB55) (j := jc_M_seek_5a34b_59) (lv' := [(0, .inr (.inr (some 740))), (1, .inl _), (2, .inl _), (3, .inl _), (4, .inl _), (5, .inl _), (6, .inl _)]) (And.intro rfl (And.intro rfl (And.intro rfl (And.intro rfl (And.intro rfl (And.intro rfl (And.intro rfl True.intro))))))) ⟨_, _, _, _, _, _, rfl, rfl, by omega, rfl⟩ (by omega)
                  · intro c58
                    refine And.intro ⟨rfl, by decide, by decide⟩ ?_
                    refine fload rL_741_741_4371_4389_3_0 h0 hB42 (by omega) ?_
                    intro z59 lz59 uz59 qz59
                    intro z60 hz60 ez60 bz60
                    clear ez60
                    try replace bz60 := bz60 (by omega)
                    intro z61 hz61 ez61 bz61
                    clear ez61
                    try replace bz61 := bz61 (by omega)
                    intro z62 hz62 ez62 bz62
                    clear ez62
                    try replace bz62 := bz62 (by omega)
                    refine Exists.intro xm_480 (And.intro mi_480 (And.intro ⟨rfl, rfl, rfl, rfl⟩ (And.intro rfl ?_)))
                    refine fcall _ h0 (fzs_sub (by decide +kernel) hW) hB42 (ct_M_seek_ae1ea (fBz h0 hB42) (by omega) (by omega) (by omega) (by omega) (by omega) (by omega) (by omega)) ?_
                    rintro IhB64 _ hB64 fhB64 rfl
                    have t65 := fhB64 741 12 (by decide +kernel)
                    have k66 := fBz_eq hB64 (a := 741) (j := 12) (by decide +kernel)
                    exact fcutJ (I := IhB64) (j := jc_M_seek_5a34b_59) (lv' := [(0, .inr (.inr (some 740))), (1, .inl _), (2, .inl _), (3, .inl _), (4, .inl _), (5, .inl _), (6, .inl _)]) (And.intro rfl (And.intro rfl (And.intro rfl (And.intro rfl (And.intro rfl (And.intro rfl (And.intro rfl True.intro))))))) ⟨_, _, _, _, _, _, rfl, rfl, by omega, rfl⟩ (by omega)
              · intro c67
                refine And.intro ⟨rfl, by decide, by decide⟩ (And.intro rfl (And.intro (Or.inr ⟨rfl, by omega⟩) (fputf fb_740_35 (by decide +kernel) hW (by omega) ?_)))
                intro IhB68 ehB68 hB68
                have t69 : IhB68 740 34 = I1 740 34 := (congrFun (congrFun ehB68 740) 34).trans (fup_ne (by omega))
                have t70 := fup_at ehB68 35 (by omega)
                have t71 : IhB68 741 12 = I1 741 12 := (congrFun (congrFun ehB68 741) 12).trans (fup_ne (by omega))
                have k72 := fBz_eq hB68 (a := 741) (j := 12) (by decide +kernel)
                refine And.intro ⟨rfl, by decide, by decide⟩ (fgetf fb_740_35 h0 hB68 ?_)
                intro z73 lz73 uz73 qz73
                refine And.intro (by omega) (And.intro ?_ ?_)
                · intro c74
                  exact fcutJ (I := IhB68) (j := jc_M_seek_5a34b_59) (lv' := [(0, .inr (.inr (some 740))), (1, .inl _), (2, .inl _), (3, .inl _), (4, .inl _), (5, .inl _), (6, .inl _)]) (And.intro rfl (And.intro rfl (And.intro rfl (And.intro rfl (And.intro rfl (And.intro rfl (And.intro rfl True.intro))))))) ⟨_, _, _, _, _, _, rfl, rfl, by omega, rfl⟩ (by omega)
                · intro c75
                  refine And.intro ⟨rfl, by decide, by decide⟩ (fgetf fb_740_34 h0 hB68 ?_)
                  intro z76 lz76 uz76 qz76
                  intro z77 hz77 ez77 bz77
                  clear ez77
                  try replace bz77 := bz77 (by omega)
                  refine And.intro ⟨rfl, by decide, by decide⟩ (And.intro rfl (And.intro (Or.inl rfl) (fputf fb_740_34 (by decide +kernel) hW (by omega) ?_)))
                  intro IhB78 ehB78 hB78
                  have t79 := fup_at ehB78 34 (by omega)
                  have t80 : IhB78 740 35 = IhB68 740 35 := (congrFun (congrFun ehB78 740) 35).trans (fup_ne (by omega))
                  have t81 : IhB78 741 12 = IhB68 741 12 := (congrFun (congrFun ehB78 741) 12).trans (fup_ne (by omega))
                  have k82 := fBz_eq hB78 (a := 741) (j := 12) (by decide +kernel)
                  refine And.intro ⟨rfl, by decide, by decide⟩ ?_
                  refine fstore rS_757_757_0_6_1_0 (fzs_sub (by decide +kernel) hW) (by omega) (by omega) ?_
                  intro IhB83 ehB83 hB83
                  have t84 := fup_self ehB83
                  have t85 : IhB83 740 34 = IhB78 740 34 := (congrFun (congrFun ehB83 740) 34).trans (fup_ne (by omega))
                  have t86 : IhB83 740 35 = IhB78 740 35 := (congrFun (congrFun ehB83 740) 35).trans (fup_ne (by omega))
                  have t87 : IhB83 741 12 = IhB78 741 12 := (congrFun (congrFun ehB83 741) 12).trans (fup_ne (by omega))
                  have k88 := fBz_eq hB83 (a := 741) (j := 12) (by decide +kernel)
                  refine And.intro ⟨rfl, by decide, by decide⟩ ?_
                  refine fload rL_741_741_4370_4388_3_0 h0 hB83 (by omega) ?_
                  intro z89 lz89 uz89 qz89
                  intro z90 hz90 ez90 bz90
                  clear ez90
                  try replace bz90 := bz90 (by omega)
                  intro z91 hz91 ez91
                  intro z92 hz92 ez92
                  refine And.intro (by omega) (And.intro ?_ ?_)
                  · intro c93
                    intro z94 hz94 ez94 bz94
                    clear ez94
                    try replace bz94 := bz94 (by omega)
                    refine Exists.intro xm_480 (And.intro mi_480 (And.intro ⟨rfl, rfl, rfl, rfl⟩ (And.intro rfl ?_)))
                    refine fcall _ h0 (fzs_sub (by decide +kernel) hW) hB83 (ct_M_seek_ae1ea (fBz h0 hB83) (by omega) (by omega) (by omega) (by omega) (by omega) (by omega) (by omega)) ?_
                    rintro IhB96 _ hB96 fhB96 rfl
                    have t97 := fhB96 741 12 (by decide +kernel)
                    have k98 := fBz_eq hB96 (a := 741) (j := 12) (by decide +kernel)
                    exact fcutJ (I := IhB96) (j := jc_M_seek_5a34b_59) (lv' := [(0, .inr (.inr (some 740))), (1, .inl _), (2, .inl _), (3, .inl _), (4, .inl _), (5, .inl _), (6, .inl _)]) (And.intro rfl (And.intro rfl (And.intro rfl (And.intro rfl (And.intro rfl (And.intro rfl (And.intro rfl True.intro))))))) ⟨_, _, _, _, _, _, rfl, rfl, by omega, rfl⟩ (by omega)
                  · intro c99
                    refine And.intro ⟨rfl, by decide, by decide⟩ ?_
                    refine fload rL_741_741_4371_4389_3_0 h0 hB83 (by omega) ?_
                    intro z100 lz100 uz100 qz100
                    intro z101 hz101 ez101 bz101
                    clear ez101
                    try replace bz101 := bz101 (by omega)
                    intro z102 hz102 ez102 bz102
                    clear ez102
                    try replace bz102 := bz102 (by omega)
                    intro z103 hz103 ez103 bz103
                    clear ez103
                    try replace bz103 := bz103 (by omega)
                    refine Exists.intro xm_480 (And.intro mi_480 (And.intro ⟨rfl, rfl, rfl, rfl⟩ (And.intro rfl ?_)))
                    refine fcall _ h0 (fzs_sub (by decide +kernel) hW) hB83 (ct_M_seek_ae1ea (fBz h0 hB83) (by omega) (by omega) (by omega) (by omega) (by omega) (by omega) (by omega)) ?_
                    rintro IhB105 _ hB105 fhB105 rfl
                    have t106 := fhB105 741 12 (by decide +kernel)
                    have k107 := fBz_eq hB105 (a := 741) (j := 12) (by decide +kernel)
                    exact fcutJ (I := IhB105) (j := jc_M_seek_5a34b_59) (lv' := [(0, .inr (.inr (some 740))), (1, .inl _), (2, .inl _), (3, .inl _), (4, .inl _), (5, .inl _), (6, .inl _)]) (And.intro rfl (And.intro rfl (And.intro rfl (And.intro rfl (And.intro rfl (And.intro rfl (And.intro rfl True.intro))))))) ⟨_, _, _, _, _, _, rfl, rfl, by omega, rfl⟩ (by omega)
            · intro c108
              exact fcutJ (I := I1) (j := jc_M_seek_5a34b_59) (lv' := [(0, .inr (.inr (some 740))), (1, .inl _), (2, .inl _), (3, .inl _), (4, .inl _), (5, .inl _), (6, .inl _)]) (And.intro rfl (And.intro rfl (And.intro rfl (And.intro rfl (And.intro rfl (And.intro rfl (And.intro rfl True.intro))))))) ⟨_, _, _, _, _, _, rfl, rfl, by omega, rfl⟩ (by omega)
  · have hB0 := fB_self (zn := znJ) (K := fKc wz_4d25e) h0
    refine And.intro ⟨rfl, by decide, by decide⟩ ?_
    refine fload rL_741_741_12_12_1_0 h0 hB0 (by omega) ?_
    intro z109 lz109 uz109 qz109
    have pz109 := fld_at qz109 12 (by omega)
    refine And.intro (by omega) (And.intro ?_ ?_)
    · intro c110
      exact fcutJ (I := I) (j := jc_M_seek_5a34b_59) (lv' := [(0, .inr (.inr (some 740))), (1, .inl _), (2, .inl _), (3, .inl _), (4, .inl _), (5, .inl _), (6, .inl _)]) (And.intro rfl (And.intro rfl (And.intro rfl (And.intro rfl (And.intro rfl (And.intro rfl (And.intro rfl True.intro))))))) ⟨_, _, _, _, _, _, rfl, rfl, by omega, rfl⟩ (by omega)
    · intro c111
      refine And.intro ⟨rfl, by decide, by decide⟩ (fgetf fb_740_33 h0 hB0 ?_)
      intro z112 lz112 uz112 qz112
      refine And.intro (by omega) (And.intro ?_ ?_)
      · intro c113
        exact rfl
      · intro c114
        refine And.intro ⟨rfl, by decide, by decide⟩ (And.intro rfl (And.intro (Or.inl rfl) (fputf fb_740_33 (by decide +kernel) hW (by omega) ?_)))
        intro IhB115 ehB115 hB115
        have t116 := fup_at ehB115 33 (by omega)
        have t117 : IhB115 741 12 = I 741 12 := (congrFun (congrFun ehB115 741) 12).trans (fup_ne (by omega))
        have k118 := fBz_eq hB115 (a := 741) (j := 12) (by decide +kernel)
        exact fcutJ (I := IhB115) (j := jc_M_seek_5a34b_29) (lv' := [(0, .inr (.inr (some 740))), (2, .inl _), (6, .inl _)]) (And.intro rfl (And.intro rfl (And.intro rfl True.intro))) ⟨_, _, rfl, rfl, by omega, rfl⟩ (by omega)
abbrev jc_M_seek_2af86_29 : Nat → fL → List fV → fH → Prop := fun m lv st I => ∃ (y2 : Int) (y6 : Int), lv = [(0, .inr (.inr (some 740))), (2, .inl y2), (6, .inl y6)] ∧ st = [] ∧ (((4 ≤ y2 ∧ y2 ≤ 4) ∧ (0 ≤ y6 ∧ y6 ≤ 4) ∧ ((-2147483647) ≤ I 740 33 ∧ I 740 33 ≤ 2147483647) ∧ (4 ≤ I 741 12 ∧ I 741 12 ≤ 4))) ∧ m = (9 + 1 * (4 - y6) : Int).toNat
abbrev jc_M_seek_2af86_59 : Nat → fL → List fV → fH → Prop := fun m lv st I => ∃ (y1 : Int) (y2 : Int) (y3 : Int) (y4 : Int) (y5 : Int) (y6 : Int), lv = [(0, .inr (.inr (some 740))), (1, .inl y1), (2, .inl y2), (3, .inl y3), (4, .inl y4), (5, .inl y5), (6, .inl y6)] ∧ st = [] ∧ (((1 ≤ y1 ∧ y1 ≤ 60) ∧ (4 ≤ y2 ∧ y2 ≤ 4) ∧ ((-2147483648) ≤ y3 ∧ y3 ≤ 2147483647) ∧ ((-2147483648) ≤ y4 ∧ y4 ≤ 2147483647) ∧ ((-2147483648) ≤ y5 ∧ y5 ≤ 2147483647) ∧ (0 ≤ y6 ∧ y6 ≤ 7) ∧ (y2 < I 741 12))) ∧ m = (1 + 1 * (7 - y6) : Int).toNat
set_option maxRecDepth 8000 in
theorem ct_M_seek_2af86 {I : fH} {x1 : Int} {x2 : Int} {x3 : Int} {x4 : Int} {x5 : Int} (h0 : fB bsJ I) (ha1 : (1 ≤ x1 ∧ x1 ≤ 60)) (ha2 : (4 ≤ x2 ∧ x2 ≤ 4)) (ha3 : ((-2147483648) ≤ x3 ∧ x3 ≤ 2147483647)) (ha4 : ((-2147483648) ≤ x4 ∧ x4 ≤ 2147483647)) (ha5 : ((-2147483648) ≤ x5 ∧ x5 ≤ 2147483647)) (hp0 : x2 = 4) (hp1 : x2 ≤ I 741 12) : fC ρ base n F xTc vwCl xTys D dA la gJ (fbz bsJ znJ (fKc wz_4d25e) I) xm_482 [.inr (.inr (some 740)), .inl x1, .inl x2, .inl x3, .inl x4, .inl x5] I (fun _ r => r = none) := by
  have hW : fzs wz_4d25e (fKc wz_4d25e) := fKc_ok _
  refine f_meth (rb := rbJ) (J := [(29, jc_M_seek_2af86_29), (59, jc_M_seek_2af86_59)]) 14 400 xG xin_482 x6_482 okJ (fB_self h0) ?_ ?_
  · refine List.forall_mem_cons.mpr ⟨?_, List.forall_mem_cons.mpr ⟨?_, fun q h => absurd h List.not_mem_nil⟩⟩
    · rintro m _ _ I1 hB1 ⟨y2, y6, rfl, rfl, hb, hm⟩
      have k1 := fBz_eq hB1 (a := 741) (j := 12) (by decide +kernel)
      refine And.intro (by omega) (And.intro ?_ ?_)
      · intro c2
        exact rfl
      · intro c3
        refine And.intro ⟨rfl, by decide, by decide⟩ ?_
        refine And.intro ⟨rfl, by decide, by decide⟩ ?_
        refine fload rL_757_757_0_6_1_0 h0 hB1 (by omega) ?_
        intro z4 lz4 uz4 qz4
        refine fstore rS_758_758_0_6_1_0 (fzs_sub (by decide +kernel) hW) (by omega) (by omega) ?_
        intro IhB5 ehB5 hB5
        have t6 := fup_self ehB5
        have t7 : IhB5 740 33 = I1 740 33 := (congrFun (congrFun ehB5 740) 33).trans (fup_ne (by omega))
        have t8 : IhB5 741 12 = I1 741 12 := (congrFun (congrFun ehB5 741) 12).trans (fup_ne (by omega))
        have k9 := fBz_eq hB5 (a := 741) (j := 12) (by decide +kernel)
        exact fcutJ (I := IhB5) (j := jc_M_seek_2af86_29) (lv' := [(0, .inr (.inr (some 740))), (2, .inl _), (6, .inl _)]) (And.intro rfl (And.intro rfl (And.intro rfl True.intro))) ⟨_, _, rfl, rfl, by omega, rfl⟩ (by omega)
    · rintro m _ _ I1 hB1 ⟨y1, y2, y3, y4, y5, y6, rfl, rfl, hb, hm⟩
      have k10 := fBz_eq hB1 (a := 741) (j := 12) (by decide +kernel)
      refine And.intro ⟨rfl, by decide, by decide⟩ ?_
      refine fload rL_741_741_12_12_1_0 h0 hB1 (by omega) ?_
      intro z11 lz11 uz11 qz11
      have pz11 := fld_at qz11 12 (by omega)
      refine And.intro (by omega) (And.intro ?_ ?_)
      · intro c12
        exact rfl
      · intro c13
        refine And.intro ⟨rfl, by decide, by decide⟩ (fgetf fb_740_35 h0 hB1 ?_)
        intro z14 lz14 uz14 qz14
        refine And.intro (by omega) (And.intro ?_ ?_)
        · intro c15
          exact rfl
        · intro c16
          intro z17 hz17 ez17
          intro z18 hz18 ez18 bz18
          clear ez18
          have bz18 := bz18 (by omega)
          refine And.intro (by omega) (And.intro ?_ ?_)
          · intro c19
            exact fcutJ (I := I1) (j := jc_M_seek_2af86_59) (lv' := [(0, .inr (.inr (some 740))), (1, .inl _), (2, .inl _), (3, .inl _), (4, .inl _), (5, .inl _), (6, .inl _)]) (And.intro rfl (And.intro rfl (And.intro rfl (And.intro rfl (And.intro rfl (And.intro rfl (And.intro rfl True.intro))))))) ⟨_, _, _, _, _, _, rfl, rfl, by omega, rfl⟩ (by omega)
          · intro c20
            refine And.intro ⟨rfl, by decide, by decide⟩ ?_
            refine fload rL_741_741_4372_4390_3_0 h0 hB1 (by omega) ?_
            intro z21 lz21 uz21 qz21
            intro z22 hz22 ez22
            intro z23 hz23 ez23 bz23
            clear ez23
            clear bz23
            refine And.intro (by omega) (And.intro ?_ ?_)
            · intro c24
              refine And.intro ⟨rfl, by decide, by decide⟩ (fgetf fb_740_34 h0 hB1 ?_)
              intro z25 lz25 uz25 qz25
              refine And.intro (by omega) (And.intro ?_ ?_)
              · intro c26
                refine And.intro ⟨rfl, by decide, by decide⟩ (And.intro rfl (And.intro (Or.inr ⟨rfl, by omega⟩) (fputf fb_740_35 (by decide +kernel) hW (by omega) ?_)))
                intro IhB27 ehB27 hB27
                have t28 : IhB27 740 34 = I1 740 34 := (congrFun (congrFun ehB27 740) 34).trans (fup_ne (by omega))
                have t29 := fup_at ehB27 35 (by omega)
                have t30 : IhB27 741 12 = I1 741 12 := (congrFun (congrFun ehB27 741) 12).trans (fup_ne (by omega))
                have k31 := fBz_eq hB27 (a := 741) (j := 12) (by decide +kernel)
                refine And.intro ⟨rfl, by decide, by decide⟩ (fgetf fb_740_35 h0 hB27 ?_)
                intro z32 lz32 uz32 qz32
                refine And.intro (by omega) (And.intro ?_ ?_)
                · intro c33
                  exact fcutJ (I := IhB27) (j := jc_M_seek_2af86_59) (lv' := [(0, .inr (.inr (some 740))), (1, .inl _), (2, .inl _), (3, .inl _), (4, .inl _), (5, .inl _), (6, .inl _)]) (And.intro rfl (And.intro rfl (And.intro rfl (And.intro rfl (And.intro rfl (And.intro rfl (And.intro rfl True.intro))))))) ⟨_, _, _, _, _, _, rfl, rfl, by omega, rfl⟩ (by omega)
                · intro c34
                  refine And.intro ⟨rfl, by decide, by decide⟩ (fgetf fb_740_34 h0 hB27 ?_)
                  intro z35 lz35 uz35 qz35
                  intro z36 hz36 ez36 bz36
                  clear ez36
                  try replace bz36 := bz36 (by omega)
                  refine And.intro ⟨rfl, by decide, by decide⟩ (And.intro rfl (And.intro (Or.inl rfl) (fputf fb_740_34 (by decide +kernel) hW (by omega) ?_)))
                  intro IhB37 ehB37 hB37
                  have t38 := fup_at ehB37 34 (by omega)
                  have t39 : IhB37 740 35 = IhB27 740 35 := (congrFun (congrFun ehB37 740) 35).trans (fup_ne (by omega))
                  have t40 : IhB37 741 12 = IhB27 741 12 := (congrFun (congrFun ehB37 741) 12).trans (fup_ne (by omega))
                  have k41 := fBz_eq hB37 (a := 741) (j := 12) (by decide +kernel)
                  refine And.intro ⟨rfl, by decide, by decide⟩ ?_
                  refine fstore rS_757_757_0_6_1_0 (fzs_sub (by decide +kernel) hW) (by omega) (by omega) ?_
                  intro IhB42 ehB42 hB42
                  have t43 := fup_self ehB42
                  have t44 : IhB42 740 34 = IhB37 740 34 := (congrFun (congrFun ehB42 740) 34).trans (fup_ne (by omega))
                  have t45 : IhB42 740 35 = IhB37 740 35 := (congrFun (congrFun ehB42 740) 35).trans (fup_ne (by omega))
                  have t46 : IhB42 741 12 = IhB37 741 12 := (congrFun (congrFun ehB42 741) 12).trans (fup_ne (by omega))
                  have k47 := fBz_eq hB42 (a := 741) (j := 12) (by decide +kernel)
                  refine And.intro ⟨rfl, by decide, by decide⟩ ?_
                  refine fload rL_741_741_4370_4388_3_0 h0 hB42 (by omega) ?_
                  intro z48 lz48 uz48 qz48
                  intro z49 hz49 ez49 bz49
                  clear ez49
                  try replace bz49 := bz49 (by omega)
                  intro z50 hz50 ez50
                  intro z51 hz51 ez51
                  refine And.intro (by omega) (And.intro ?_ ?_)
                  · intro c52
                    intro z53 hz53 ez53 bz53
                    clear ez53
                    try replace bz53 := bz53 (by omega)
                    refine Exists.intro xm_481 (And.intro mi_481 (And.intro ⟨rfl, rfl, rfl, rfl⟩ (And.intro rfl ?_)))
                    refine fcall _ h0 (fzs_sub (by decide +kernel) hW) hB42 (ct_M_seek_5a34b (fBz h0 hB42) (by omega) (by omega) (by omega) (by omega) (by omega) (by omega) (by omega)) ?_
                    rintro IhB55 _ hB55 fhB55 rfl
                    have t56 := fhB55 741 12 (by decide +kernel)
                    have k57 := fBz_eq hB55 (a := 741) (j := 12) (by decide +kernel)
                    exact fcutJ (I := IhB55) (j := jc_M_seek_2af86_59) (lv' := [(0, .inr (.inr (some 740))), (1, .inl _), (2, .inl _), (3, .inl _), (4, .inl _), (5, .inl _), (6, .inl _)]) (And.intro rfl (And.intro rfl (And.intro rfl (And.intro rfl (And.intro rfl (And.intro rfl (And.intro rfl True.intro))))))) ⟨_, _, _, _, _, _, rfl, rfl, by omega, rfl⟩ (by omega)
                  · intro c58
                    refine And.intro ⟨rfl, by decide, by decide⟩ ?_
                    refine fload rL_741_741_4371_4389_3_0 h0 hB42 (by omega) ?_
                    intro z59 lz59 uz59 qz59
                    intro z60 hz60 ez60 bz60
                    clear ez60
                    try replace bz60 := bz60 (by omega)
                    intro z61 hz61 ez61 bz61
                    clear ez61
                    try replace bz61 := bz61 (by omega)
                    intro z62 hz62 ez62 bz62
                    clear ez62
                    try replace bz62 := bz62 (by omega)
                    refine Exists.intro xm_481 (And.intro mi_481 (And.intro ⟨rfl, rfl, rfl, rfl⟩ (And.intro rfl ?_)))
                    refine fcall _ h0 (fzs_sub (by decide +kernel) hW) hB42 (ct_M_seek_5a34b (fBz h0 hB42) (by omega) (by omega) (by omega) (by omega) (by omega) (by omega) (by omega)) ?_
                    rintro IhB64 _ hB64 fhB64 rfl
                    have t65 := fhB64 741 12 (by decide +kernel)
                    have k66 := fBz_eq hB64 (a := 741) (j := 12) (by decide +kernel)
                    exact fcutJ (I := IhB64) (j := jc_M_seek_2af86_59) (lv' := [(0, .inr (.inr (some 740))), (1, .inl _), (2, .inl _), (3, .inl _), (4, .inl _), (5, .inl _), (6, .inl _)]) (And.intro rfl (And.intro rfl (And.intro rfl (And.intro rfl (And.intro rfl (And.intro rfl (And.intro rfl True.intro))))))) ⟨_, _, _, _, _, _, rfl, rfl, by omega, rfl⟩ (by omega)
              · intro c67
                refine And.intro ⟨rfl, by decide, by decide⟩ (And.intro rfl (And.intro (Or.inr ⟨rfl, by omega⟩) (fputf fb_740_35 (by decide +kernel) hW (by omega) ?_)))
                intro IhB68 ehB68 hB68
                have t69 : IhB68 740 34 = I1 740 34 := (congrFun (congrFun ehB68 740) 34).trans (fup_ne (by omega))
                have t70 := fup_at ehB68 35 (by omega)
                have t71 : IhB68 741 12 = I1 741 12 := (congrFun (congrFun ehB68 741) 12).trans (fup_ne (by omega))
                have k72 := fBz_eq hB68 (a := 741) (j := 12) (by decide +kernel)
                refine And.intro ⟨rfl, by decide, by decide⟩ (fgetf fb_740_35 h0 hB68 ?_)
                intro z73 lz73 uz73 qz73
                refine And.intro (by omega) (And.intro ?_ ?_)
                · intro c74
                  exact fcutJ (I := IhB68) (j := jc_M_seek_2af86_59) (lv' := [(0, .inr (.inr (some 740))), (1, .inl _), (2, .inl _), (3, .inl _), (4, .inl _), (5, .inl _), (6, .inl _)]) (And.intro rfl (And.intro rfl (And.intro rfl (And.intro rfl (And.intro rfl (And.intro rfl (And.intro rfl True.intro))))))) ⟨_, _, _, _, _, _, rfl, rfl, by omega, rfl⟩ (by omega)
                · intro c75
                  refine And.intro ⟨rfl, by decide, by decide⟩ (fgetf fb_740_34 h0 hB68 ?_)
                  intro z76 lz76 uz76 qz76
                  intro z77 hz77 ez77 bz77
                  clear ez77
                  try replace bz77 := bz77 (by omega)
                  refine And.intro ⟨rfl, by decide, by decide⟩ (And.intro rfl (And.intro (Or.inl rfl) (fputf fb_740_34 (by decide +kernel) hW (by omega) ?_)))
                  intro IhB78 ehB78 hB78
                  have t79 := fup_at ehB78 34 (by omega)
                  have t80 : IhB78 740 35 = IhB68 740 35 := (congrFun (congrFun ehB78 740) 35).trans (fup_ne (by omega))
                  have t81 : IhB78 741 12 = IhB68 741 12 := (congrFun (congrFun ehB78 741) 12).trans (fup_ne (by omega))
                  have k82 := fBz_eq hB78 (a := 741) (j := 12) (by decide +kernel)
                  refine And.intro ⟨rfl, by decide, by decide⟩ ?_
                  refine fstore rS_757_757_0_6_1_0 (fzs_sub (by decide +kernel) hW) (by omega) (by omega) ?_
                  intro IhB83 ehB83 hB83
                  have t84 := fup_self ehB83
                  have t85 : IhB83 740 34 = IhB78 740 34 := (congrFun (congrFun ehB83 740) 34).trans (fup_ne (by omega))
                  have t86 : IhB83 740 35 = IhB78 740 35 := (congrFun (congrFun ehB83 740) 35).trans (fup_ne (by omega))
                  have t87 : IhB83 741 12 = IhB78 741 12 := (congrFun (congrFun ehB83 741) 12).trans (fup_ne (by omega))
                  have k88 := fBz_eq hB83 (a := 741) (j := 12) (by decide +kernel)
                  refine And.intro ⟨rfl, by decide, by decide⟩ ?_
                  refine fload rL_741_741_4370_4388_3_0 h0 hB83 (by omega) ?_
                  intro z89 lz89 uz89 qz89
                  intro z90 hz90 ez90 bz90
                  clear ez90
                  try replace bz90 := bz90 (by omega)
                  intro z91 hz91 ez91
                  intro z92 hz92 ez92
                  refine And.intro (by omega) (And.intro ?_ ?_)
                  · intro c93
                    intro z94 hz94 ez94 bz94
                    clear ez94
                    try replace bz94 := bz94 (by omega)
                    refine Exists.intro xm_481 (And.intro mi_481 (And.intro ⟨rfl, rfl, rfl, rfl⟩ (And.intro rfl ?_)))
                    refine fcall _ h0 (fzs_sub (by decide +kernel) hW) hB83 (ct_M_seek_5a34b (fBz h0 hB83) (by omega) (by omega) (by omega) (by omega) (by omega) (by omega) (by omega)) ?_
                    rintro IhB96 _ hB96 fhB96 rfl
                    have t97 := fhB96 741 12 (by decide +kernel)
                    have k98 := fBz_eq hB96 (a := 741) (j := 12) (by decide +kernel)
                    exact fcutJ (I := IhB96) (j := jc_M_seek_2af86_59) (lv' := [(0, .inr (.inr (some 740))), (1, .inl _), (2, .inl _), (3, .inl _), (4, .inl _), (5, .inl _), (6, .inl _)]) (And.intro rfl (And.intro rfl (And.intro rfl (And.intro rfl (And.intro rfl (And.intro rfl (And.intro rfl True.intro))))))) ⟨_, _, _, _, _, _, rfl, rfl, by omega, rfl⟩ (by omega)
                  · intro c99
                    refine And.intro ⟨rfl, by decide, by decide⟩ ?_
                    refine fload rL_741_741_4371_4389_3_0 h0 hB83 (by omega) ?_
                    intro z100 lz100 uz100 qz100
                    intro z101 hz101 ez101 bz101
                    clear ez101
                    try replace bz101 := bz101 (by omega)
                    intro z102 hz102 ez102 bz102
                    clear ez102
                    try replace bz102 := bz102 (by omega)
                    intro z103 hz103 ez103 bz103
                    clear ez103
                    try replace bz103 := bz103 (by omega)
                    refine Exists.intro xm_481 (And.intro mi_481 (And.intro ⟨rfl, rfl, rfl, rfl⟩ (And.intro rfl ?_)))
                    refine fcall _ h0 (fzs_sub (by decide +kernel) hW) hB83 (ct_M_seek_5a34b (fBz h0 hB83) (by omega) (by omega) (by omega) (by omega) (by omega) (by omega) (by omega)) ?_
                    rintro IhB105 _ hB105 fhB105 rfl
                    have t106 := fhB105 741 12 (by decide +kernel)
                    have k107 := fBz_eq hB105 (a := 741) (j := 12) (by decide +kernel)
                    exact fcutJ (I := IhB105) (j := jc_M_seek_2af86_59) (lv' := [(0, .inr (.inr (some 740))), (1, .inl _), (2, .inl _), (3, .inl _), (4, .inl _), (5, .inl _), (6, .inl _)]) (And.intro rfl (And.intro rfl (And.intro rfl (And.intro rfl (And.intro rfl (And.intro rfl (And.intro rfl True.intro))))))) ⟨_, _, _, _, _, _, rfl, rfl, by omega, rfl⟩ (by omega)
            · intro c108
              exact fcutJ (I := I1) (j := jc_M_seek_2af86_59) (lv' := [(0, .inr (.inr (some 740))), (1, .inl _), (2, .inl _), (3, .inl _), (4, .inl _), (5, .inl _), (6, .inl _)]) (And.intro rfl (And.intro rfl (And.intro rfl (And.intro rfl (And.intro rfl (And.intro rfl (And.intro rfl True.intro))))))) ⟨_, _, _, _, _, _, rfl, rfl, by omega, rfl⟩ (by omega)
  · have hB0 := fB_self (zn := znJ) (K := fKc wz_4d25e) h0
    refine And.intro ⟨rfl, by decide, by decide⟩ ?_
    refine fload rL_741_741_12_12_1_0 h0 hB0 (by omega) ?_
    intro z109 lz109 uz109 qz109
    have pz109 := fld_at qz109 12 (by omega)
    refine And.intro (by omega) (And.intro ?_ ?_)
    · intro c110
      exact fcutJ (I := I) (j := jc_M_seek_2af86_59) (lv' := [(0, .inr (.inr (some 740))), (1, .inl _), (2, .inl _), (3, .inl _), (4, .inl _), (5, .inl _), (6, .inl _)]) (And.intro rfl (And.intro rfl (And.intro rfl (And.intro rfl (And.intro rfl (And.intro rfl (And.intro rfl True.intro))))))) ⟨_, _, _, _, _, _, rfl, rfl, by omega, rfl⟩ (by omega)
    · intro c111
      refine And.intro ⟨rfl, by decide, by decide⟩ (fgetf fb_740_33 h0 hB0 ?_)
      intro z112 lz112 uz112 qz112
      refine And.intro (by omega) (And.intro ?_ ?_)
      · intro c113
        exact rfl
      · intro c114
        refine And.intro ⟨rfl, by decide, by decide⟩ (And.intro rfl (And.intro (Or.inl rfl) (fputf fb_740_33 (by decide +kernel) hW (by omega) ?_)))
        intro IhB115 ehB115 hB115
        have t116 := fup_at ehB115 33 (by omega)
        have t117 : IhB115 741 12 = I 741 12 := (congrFun (congrFun ehB115 741) 12).trans (fup_ne (by omega))
        have k118 := fBz_eq hB115 (a := 741) (j := 12) (by decide +kernel)
        exact fcutJ (I := IhB115) (j := jc_M_seek_2af86_29) (lv' := [(0, .inr (.inr (some 740))), (2, .inl _), (6, .inl _)]) (And.intro rfl (And.intro rfl (And.intro rfl True.intro))) ⟨_, _, rfl, rfl, by omega, rfl⟩ (by omega)
abbrev jc_M_seek_6e4c8_29 : Nat → fL → List fV → fH → Prop := fun m lv st I => ∃ (y2 : Int) (y6 : Int), lv = [(0, .inr (.inr (some 740))), (2, .inl y2), (6, .inl y6)] ∧ st = [] ∧ (((3 ≤ y2 ∧ y2 ≤ 3) ∧ (0 ≤ y6 ∧ y6 ≤ 3) ∧ ((-2147483647) ≤ I 740 33 ∧ I 740 33 ≤ 2147483647) ∧ (3 ≤ I 741 12 ∧ I 741 12 ≤ 3))) ∧ m = (9 + 1 * (3 - y6) : Int).toNat
abbrev jc_M_seek_6e4c8_59 : Nat → fL → List fV → fH → Prop := fun m lv st I => ∃ (y1 : Int) (y2 : Int) (y3 : Int) (y4 : Int) (y5 : Int) (y6 : Int), lv = [(0, .inr (.inr (some 740))), (1, .inl y1), (2, .inl y2), (3, .inl y3), (4, .inl y4), (5, .inl y5), (6, .inl y6)] ∧ st = [] ∧ (((1 ≤ y1 ∧ y1 ≤ 60) ∧ (3 ≤ y2 ∧ y2 ≤ 3) ∧ ((-2147483648) ≤ y3 ∧ y3 ≤ 2147483647) ∧ ((-2147483648) ≤ y4 ∧ y4 ≤ 2147483647) ∧ ((-2147483648) ≤ y5 ∧ y5 ≤ 2147483647) ∧ (0 ≤ y6 ∧ y6 ≤ 7) ∧ (y2 < I 741 12))) ∧ m = (1 + 1 * (7 - y6) : Int).toNat
set_option maxRecDepth 8000 in
theorem ct_M_seek_6e4c8 {I : fH} {x1 : Int} {x2 : Int} {x3 : Int} {x4 : Int} {x5 : Int} (h0 : fB bsJ I) (ha1 : (1 ≤ x1 ∧ x1 ≤ 60)) (ha2 : (3 ≤ x2 ∧ x2 ≤ 3)) (ha3 : ((-2147483648) ≤ x3 ∧ x3 ≤ 2147483647)) (ha4 : ((-2147483648) ≤ x4 ∧ x4 ≤ 2147483647)) (ha5 : ((-2147483648) ≤ x5 ∧ x5 ≤ 2147483647)) (hp0 : x2 = 3) (hp1 : x2 ≤ I 741 12) : fC ρ base n F xTc vwCl xTys D dA la gJ (fbz bsJ znJ (fKc wz_4d25e) I) xm_483 [.inr (.inr (some 740)), .inl x1, .inl x2, .inl x3, .inl x4, .inl x5] I (fun _ r => r = none) := by
  have hW : fzs wz_4d25e (fKc wz_4d25e) := fKc_ok _
  refine f_meth (rb := rbJ) (J := [(29, jc_M_seek_6e4c8_29), (59, jc_M_seek_6e4c8_59)]) 13 400 xG xin_483 x6_483 okJ (fB_self h0) ?_ ?_
  · refine List.forall_mem_cons.mpr ⟨?_, List.forall_mem_cons.mpr ⟨?_, fun q h => absurd h List.not_mem_nil⟩⟩
    · rintro m _ _ I1 hB1 ⟨y2, y6, rfl, rfl, hb, hm⟩
      have k1 := fBz_eq hB1 (a := 741) (j := 12) (by decide +kernel)
      refine And.intro (by omega) (And.intro ?_ ?_)
      · intro c2
        exact rfl
      · intro c3
        refine And.intro ⟨rfl, by decide, by decide⟩ ?_
        refine And.intro ⟨rfl, by decide, by decide⟩ ?_
        refine fload rL_757_757_0_6_1_0 h0 hB1 (by omega) ?_
        intro z4 lz4 uz4 qz4
        refine fstore rS_758_758_0_6_1_0 (fzs_sub (by decide +kernel) hW) (by omega) (by omega) ?_
        intro IhB5 ehB5 hB5
        have t6 := fup_self ehB5
        have t7 : IhB5 740 33 = I1 740 33 := (congrFun (congrFun ehB5 740) 33).trans (fup_ne (by omega))
        have t8 : IhB5 741 12 = I1 741 12 := (congrFun (congrFun ehB5 741) 12).trans (fup_ne (by omega))
        have k9 := fBz_eq hB5 (a := 741) (j := 12) (by decide +kernel)
        exact fcutJ (I := IhB5) (j := jc_M_seek_6e4c8_29) (lv' := [(0, .inr (.inr (some 740))), (2, .inl _), (6, .inl _)]) (And.intro rfl (And.intro rfl (And.intro rfl True.intro))) ⟨_, _, rfl, rfl, by omega, rfl⟩ (by omega)
    · rintro m _ _ I1 hB1 ⟨y1, y2, y3, y4, y5, y6, rfl, rfl, hb, hm⟩
      have k10 := fBz_eq hB1 (a := 741) (j := 12) (by decide +kernel)
      refine And.intro ⟨rfl, by decide, by decide⟩ ?_
      refine fload rL_741_741_12_12_1_0 h0 hB1 (by omega) ?_
      intro z11 lz11 uz11 qz11
      have pz11 := fld_at qz11 12 (by omega)
      refine And.intro (by omega) (And.intro ?_ ?_)
      · intro c12
        exact rfl
      · intro c13
        refine And.intro ⟨rfl, by decide, by decide⟩ (fgetf fb_740_35 h0 hB1 ?_)
        intro z14 lz14 uz14 qz14
        refine And.intro (by omega) (And.intro ?_ ?_)
        · intro c15
          exact rfl
        · intro c16
          intro z17 hz17 ez17
          intro z18 hz18 ez18 bz18
          clear ez18
          have bz18 := bz18 (by omega)
          refine And.intro (by omega) (And.intro ?_ ?_)
          · intro c19
            exact fcutJ (I := I1) (j := jc_M_seek_6e4c8_59) (lv' := [(0, .inr (.inr (some 740))), (1, .inl _), (2, .inl _), (3, .inl _), (4, .inl _), (5, .inl _), (6, .inl _)]) (And.intro rfl (And.intro rfl (And.intro rfl (And.intro rfl (And.intro rfl (And.intro rfl (And.intro rfl True.intro))))))) ⟨_, _, _, _, _, _, rfl, rfl, by omega, rfl⟩ (by omega)
          · intro c20
            refine And.intro ⟨rfl, by decide, by decide⟩ ?_
            refine fload rL_741_741_4372_4390_3_0 h0 hB1 (by omega) ?_
            intro z21 lz21 uz21 qz21
            intro z22 hz22 ez22
            intro z23 hz23 ez23 bz23
            clear ez23
            clear bz23
            refine And.intro (by omega) (And.intro ?_ ?_)
            · intro c24
              refine And.intro ⟨rfl, by decide, by decide⟩ (fgetf fb_740_34 h0 hB1 ?_)
              intro z25 lz25 uz25 qz25
              refine And.intro (by omega) (And.intro ?_ ?_)
              · intro c26
                refine And.intro ⟨rfl, by decide, by decide⟩ (And.intro rfl (And.intro (Or.inr ⟨rfl, by omega⟩) (fputf fb_740_35 (by decide +kernel) hW (by omega) ?_)))
                intro IhB27 ehB27 hB27
                have t28 : IhB27 740 34 = I1 740 34 := (congrFun (congrFun ehB27 740) 34).trans (fup_ne (by omega))
                have t29 := fup_at ehB27 35 (by omega)
                have t30 : IhB27 741 12 = I1 741 12 := (congrFun (congrFun ehB27 741) 12).trans (fup_ne (by omega))
                have k31 := fBz_eq hB27 (a := 741) (j := 12) (by decide +kernel)
                refine And.intro ⟨rfl, by decide, by decide⟩ (fgetf fb_740_35 h0 hB27 ?_)
                intro z32 lz32 uz32 qz32
                refine And.intro (by omega) (And.intro ?_ ?_)
                · intro c33
                  exact fcutJ (I := IhB27) (j := jc_M_seek_6e4c8_59) (lv' := [(0, .inr (.inr (some 740))), (1, .inl _), (2, .inl _), (3, .inl _), (4, .inl _), (5, .inl _), (6, .inl _)]) (And.intro rfl (And.intro rfl (And.intro rfl (And.intro rfl (And.intro rfl (And.intro rfl (And.intro rfl True.intro))))))) ⟨_, _, _, _, _, _, rfl, rfl, by omega, rfl⟩ (by omega)
                · intro c34
                  refine And.intro ⟨rfl, by decide, by decide⟩ (fgetf fb_740_34 h0 hB27 ?_)
                  intro z35 lz35 uz35 qz35
                  intro z36 hz36 ez36 bz36
                  clear ez36
                  try replace bz36 := bz36 (by omega)
                  refine And.intro ⟨rfl, by decide, by decide⟩ (And.intro rfl (And.intro (Or.inl rfl) (fputf fb_740_34 (by decide +kernel) hW (by omega) ?_)))
                  intro IhB37 ehB37 hB37
                  have t38 := fup_at ehB37 34 (by omega)
                  have t39 : IhB37 740 35 = IhB27 740 35 := (congrFun (congrFun ehB37 740) 35).trans (fup_ne (by omega))
                  have t40 : IhB37 741 12 = IhB27 741 12 := (congrFun (congrFun ehB37 741) 12).trans (fup_ne (by omega))
                  have k41 := fBz_eq hB37 (a := 741) (j := 12) (by decide +kernel)
                  refine And.intro ⟨rfl, by decide, by decide⟩ ?_
                  refine fstore rS_757_757_0_6_1_0 (fzs_sub (by decide +kernel) hW) (by omega) (by omega) ?_
                  intro IhB42 ehB42 hB42
                  have t43 := fup_self ehB42
                  have t44 : IhB42 740 34 = IhB37 740 34 := (congrFun (congrFun ehB42 740) 34).trans (fup_ne (by omega))
                  have t45 : IhB42 740 35 = IhB37 740 35 := (congrFun (congrFun ehB42 740) 35).trans (fup_ne (by omega))
                  have t46 : IhB42 741 12 = IhB37 741 12 := (congrFun (congrFun ehB42 741) 12).trans (fup_ne (by omega))
                  have k47 := fBz_eq hB42 (a := 741) (j := 12) (by decide +kernel)
                  refine And.intro ⟨rfl, by decide, by decide⟩ ?_
                  refine fload rL_741_741_4370_4388_3_0 h0 hB42 (by omega) ?_
                  intro z48 lz48 uz48 qz48
                  intro z49 hz49 ez49 bz49
                  clear ez49
                  try replace bz49 := bz49 (by omega)
                  intro z50 hz50 ez50
                  intro z51 hz51 ez51
                  refine And.intro (by omega) (And.intro ?_ ?_)
                  · intro c52
                    intro z53 hz53 ez53 bz53
                    clear ez53
                    try replace bz53 := bz53 (by omega)
                    refine Exists.intro xm_482 (And.intro mi_482 (And.intro ⟨rfl, rfl, rfl, rfl⟩ (And.intro rfl ?_)))
                    refine fcall _ h0 (fzs_sub (by decide +kernel) hW) hB42 (ct_M_seek_2af86 (fBz h0 hB42) (by omega) (by omega) (by omega) (by omega) (by omega) (by omega) (by omega)) ?_
                    rintro IhB55 _ hB55 fhB55 rfl
                    have t56 := fhB55 741 12 (by decide +kernel)
                    have k57 := fBz_eq hB55 (a := 741) (j := 12) (by decide +kernel)
                    exact fcutJ (I := IhB55) (j := jc_M_seek_6e4c8_59) (lv' := [(0, .inr (.inr (some 740))), (1, .inl _), (2, .inl _), (3, .inl _), (4, .inl _), (5, .inl _), (6, .inl _)]) (And.intro rfl (And.intro rfl (And.intro rfl (And.intro rfl (And.intro rfl (And.intro rfl (And.intro rfl True.intro))))))) ⟨_, _, _, _, _, _, rfl, rfl, by omega, rfl⟩ (by omega)
                  · intro c58
                    refine And.intro ⟨rfl, by decide, by decide⟩ ?_
                    refine fload rL_741_741_4371_4389_3_0 h0 hB42 (by omega) ?_
                    intro z59 lz59 uz59 qz59
                    intro z60 hz60 ez60 bz60
                    clear ez60
                    try replace bz60 := bz60 (by omega)
                    intro z61 hz61 ez61 bz61
                    clear ez61
                    try replace bz61 := bz61 (by omega)
                    intro z62 hz62 ez62 bz62
                    clear ez62
                    try replace bz62 := bz62 (by omega)
                    refine Exists.intro xm_482 (And.intro mi_482 (And.intro ⟨rfl, rfl, rfl, rfl⟩ (And.intro rfl ?_)))
                    refine fcall _ h0 (fzs_sub (by decide +kernel) hW) hB42 (ct_M_seek_2af86 (fBz h0 hB42) (by omega) (by omega) (by omega) (by omega) (by omega) (by omega) (by omega)) ?_
                    rintro IhB64 _ hB64 fhB64 rfl
                    have t65 := fhB64 741 12 (by decide +kernel)
                    have k66 := fBz_eq hB64 (a := 741) (j := 12) (by decide +kernel)
                    exact fcutJ (I := IhB64) (j := jc_M_seek_6e4c8_59) (lv' := [(0, .inr (.inr (some 740))), (1, .inl _), (2, .inl _), (3, .inl _), (4, .inl _), (5, .inl _), (6, .inl _)]) (And.intro rfl (And.intro rfl (And.intro rfl (And.intro rfl (And.intro rfl (And.intro rfl (And.intro rfl True.intro))))))) ⟨_, _, _, _, _, _, rfl, rfl, by omega, rfl⟩ (by omega)
              · intro c67
                refine And.intro ⟨rfl, by decide, by decide⟩ (And.intro rfl (And.intro (Or.inr ⟨rfl, by omega⟩) (fputf fb_740_35 (by decide +kernel) hW (by omega) ?_)))
                intro IhB68 ehB68 hB68
                have t69 : IhB68 740 34 = I1 740 34 := (congrFun (congrFun ehB68 740) 34).trans (fup_ne (by omega))
                have t70 := fup_at ehB68 35 (by omega)
                have t71 : IhB68 741 12 = I1 741 12 := (congrFun (congrFun ehB68 741) 12).trans (fup_ne (by omega))
                have k72 := fBz_eq hB68 (a := 741) (j := 12) (by decide +kernel)
                refine And.intro ⟨rfl, by decide, by decide⟩ (fgetf fb_740_35 h0 hB68 ?_)
                intro z73 lz73 uz73 qz73
                refine And.intro (by omega) (And.intro ?_ ?_)
                · intro c74
                  exact fcutJ (I := IhB68) (j := jc_M_seek_6e4c8_59) (lv' := [(0, .inr (.inr (some 740))), (1, .inl _), (2, .inl _), (3, .inl _), (4, .inl _), (5, .inl _), (6, .inl _)]) (And.intro rfl (And.intro rfl (And.intro rfl (And.intro rfl (And.intro rfl (And.intro rfl (And.intro rfl True.intro))))))) ⟨_, _, _, _, _, _, rfl, rfl, by omega, rfl⟩ (by omega)
                · intro c75
                  refine And.intro ⟨rfl, by decide, by decide⟩ (fgetf fb_740_34 h0 hB68 ?_)
                  intro z76 lz76 uz76 qz76
                  intro z77 hz77 ez77 bz77
                  clear ez77
                  try replace bz77 := bz77 (by omega)
                  refine And.intro ⟨rfl, by decide, by decide⟩ (And.intro rfl (And.intro (Or.inl rfl) (fputf fb_740_34 (by decide +kernel) hW (by omega) ?_)))
                  intro IhB78 ehB78 hB78
                  have t79 := fup_at ehB78 34 (by omega)
                  have t80 : IhB78 740 35 = IhB68 740 35 := (congrFun (congrFun ehB78 740) 35).trans (fup_ne (by omega))
                  have t81 : IhB78 741 12 = IhB68 741 12 := (congrFun (congrFun ehB78 741) 12).trans (fup_ne (by omega))
                  have k82 := fBz_eq hB78 (a := 741) (j := 12) (by decide +kernel)
                  refine And.intro ⟨rfl, by decide, by decide⟩ ?_
                  refine fstore rS_757_757_0_6_1_0 (fzs_sub (by decide +kernel) hW) (by omega) (by omega) ?_
                  intro IhB83 ehB83 hB83
                  have t84 := fup_self ehB83
                  have t85 : IhB83 740 34 = IhB78 740 34 := (congrFun (congrFun ehB83 740) 34).trans (fup_ne (by omega))
                  have t86 : IhB83 740 35 = IhB78 740 35 := (congrFun (congrFun ehB83 740) 35).trans (fup_ne (by omega))
                  have t87 : IhB83 741 12 = IhB78 741 12 := (congrFun (congrFun ehB83 741) 12).trans (fup_ne (by omega))
                  have k88 := fBz_eq hB83 (a := 741) (j := 12) (by decide +kernel)
                  refine And.intro ⟨rfl, by decide, by decide⟩ ?_
                  refine fload rL_741_741_4370_4388_3_0 h0 hB83 (by omega) ?_
                  intro z89 lz89 uz89 qz89
                  intro z90 hz90 ez90 bz90
                  clear ez90
                  try replace bz90 := bz90 (by omega)
                  intro z91 hz91 ez91
                  intro z92 hz92 ez92
                  refine And.intro (by omega) (And.intro ?_ ?_)
                  · intro c93
                    intro z94 hz94 ez94 bz94
                    clear ez94
                    try replace bz94 := bz94 (by omega)
                    refine Exists.intro xm_482 (And.intro mi_482 (And.intro ⟨rfl, rfl, rfl, rfl⟩ (And.intro rfl ?_)))
                    refine fcall _ h0 (fzs_sub (by decide +kernel) hW) hB83 (ct_M_seek_2af86 (fBz h0 hB83) (by omega) (by omega) (by omega) (by omega) (by omega) (by omega) (by omega)) ?_
                    rintro IhB96 _ hB96 fhB96 rfl
                    have t97 := fhB96 741 12 (by decide +kernel)
                    have k98 := fBz_eq hB96 (a := 741) (j := 12) (by decide +kernel)
                    exact fcutJ (I := IhB96) (j := jc_M_seek_6e4c8_59) (lv' := [(0, .inr (.inr (some 740))), (1, .inl _), (2, .inl _), (3, .inl _), (4, .inl _), (5, .inl _), (6, .inl _)]) (And.intro rfl (And.intro rfl (And.intro rfl (And.intro rfl (And.intro rfl (And.intro rfl (And.intro rfl True.intro))))))) ⟨_, _, _, _, _, _, rfl, rfl, by omega, rfl⟩ (by omega)
                  · intro c99
                    refine And.intro ⟨rfl, by decide, by decide⟩ ?_
                    refine fload rL_741_741_4371_4389_3_0 h0 hB83 (by omega) ?_
                    intro z100 lz100 uz100 qz100
                    intro z101 hz101 ez101 bz101
                    clear ez101
                    try replace bz101 := bz101 (by omega)
                    intro z102 hz102 ez102 bz102
                    clear ez102
                    try replace bz102 := bz102 (by omega)
                    intro z103 hz103 ez103 bz103
                    clear ez103
                    try replace bz103 := bz103 (by omega)
                    refine Exists.intro xm_482 (And.intro mi_482 (And.intro ⟨rfl, rfl, rfl, rfl⟩ (And.intro rfl ?_)))
                    refine fcall _ h0 (fzs_sub (by decide +kernel) hW) hB83 (ct_M_seek_2af86 (fBz h0 hB83) (by omega) (by omega) (by omega) (by omega) (by omega) (by omega) (by omega)) ?_
                    rintro IhB105 _ hB105 fhB105 rfl
                    have t106 := fhB105 741 12 (by decide +kernel)
                    have k107 := fBz_eq hB105 (a := 741) (j := 12) (by decide +kernel)
                    exact fcutJ (I := IhB105) (j := jc_M_seek_6e4c8_59) (lv' := [(0, .inr (.inr (some 740))), (1, .inl _), (2, .inl _), (3, .inl _), (4, .inl _), (5, .inl _), (6, .inl _)]) (And.intro rfl (And.intro rfl (And.intro rfl (And.intro rfl (And.intro rfl (And.intro rfl (And.intro rfl True.intro))))))) ⟨_, _, _, _, _, _, rfl, rfl, by omega, rfl⟩ (by omega)
            · intro c108
              exact fcutJ (I := I1) (j := jc_M_seek_6e4c8_59) (lv' := [(0, .inr (.inr (some 740))), (1, .inl _), (2, .inl _), (3, .inl _), (4, .inl _), (5, .inl _), (6, .inl _)]) (And.intro rfl (And.intro rfl (And.intro rfl (And.intro rfl (And.intro rfl (And.intro rfl (And.intro rfl True.intro))))))) ⟨_, _, _, _, _, _, rfl, rfl, by omega, rfl⟩ (by omega)
  · have hB0 := fB_self (zn := znJ) (K := fKc wz_4d25e) h0
    refine And.intro ⟨rfl, by decide, by decide⟩ ?_
    refine fload rL_741_741_12_12_1_0 h0 hB0 (by omega) ?_
    intro z109 lz109 uz109 qz109
    have pz109 := fld_at qz109 12 (by omega)
    refine And.intro (by omega) (And.intro ?_ ?_)
    · intro c110
      exact fcutJ (I := I) (j := jc_M_seek_6e4c8_59) (lv' := [(0, .inr (.inr (some 740))), (1, .inl _), (2, .inl _), (3, .inl _), (4, .inl _), (5, .inl _), (6, .inl _)]) (And.intro rfl (And.intro rfl (And.intro rfl (And.intro rfl (And.intro rfl (And.intro rfl (And.intro rfl True.intro))))))) ⟨_, _, _, _, _, _, rfl, rfl, by omega, rfl⟩ (by omega)
    · intro c111
      refine And.intro ⟨rfl, by decide, by decide⟩ (fgetf fb_740_33 h0 hB0 ?_)
      intro z112 lz112 uz112 qz112
      refine And.intro (by omega) (And.intro ?_ ?_)
      · intro c113
        exact rfl
      · intro c114
        refine And.intro ⟨rfl, by decide, by decide⟩ (And.intro rfl (And.intro (Or.inl rfl) (fputf fb_740_33 (by decide +kernel) hW (by omega) ?_)))
        intro IhB115 ehB115 hB115
        have t116 := fup_at ehB115 33 (by omega)
        have t117 : IhB115 741 12 = I 741 12 := (congrFun (congrFun ehB115 741) 12).trans (fup_ne (by omega))
        have k118 := fBz_eq hB115 (a := 741) (j := 12) (by decide +kernel)
        exact fcutJ (I := IhB115) (j := jc_M_seek_6e4c8_29) (lv' := [(0, .inr (.inr (some 740))), (2, .inl _), (6, .inl _)]) (And.intro rfl (And.intro rfl (And.intro rfl True.intro))) ⟨_, _, rfl, rfl, by omega, rfl⟩ (by omega)
end CT

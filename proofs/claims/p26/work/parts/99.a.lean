/-! contracts (written by gen95.py) -/
theorem x6_239 : f60c xTc xTys xm_239 = true := by decide +kernel
theorem x6_238 : f60c xTc xTys xm_238 = true := by decide +kernel
abbrev wz_97606 : List Nat := [20005, 20100, 20101, 20102, 20103, 20104, 20105, 20106, 20107, 20108, 20109, 20110, 20111, 20112, 20113, 20114, 20115, 20116, 20117, 20118, 20119]
theorem x6_237 : f60c xTc xTys xm_237 = true := by decide +kernel
theorem rS_741_741_30_410_20_0 : frS gJ bsJ znJ [20100] 100 ((741, 741), (30, 410), (20, 0), (0, 999)) := frS_of (by decide +kernel)
theorem rS_741_741_47_427_20_0 : frS gJ bsJ znJ [20117] 100 ((741, 741), (47, 427), (20, 0), ((-2147483648), 2147483647)) := frS_of (by decide +kernel)
theorem rL_741_741_5_5_1_0 : frL gJ bsJ 100 ((741, 741), (5, 5), (1, 0), (0, 20)) := frL_of (by decide +kernel)
theorem rS_741_741_5_5_1_0 : frS gJ bsJ znJ [20005] 100 ((741, 741), (5, 5), (1, 0), (0, 20)) := frS_of (by decide +kernel)
theorem rS_741_741_30_429_20_19 : frS gJ bsJ znJ [20100, 20101, 20102, 20103, 20104, 20105, 20106, 20107, 20108, 20109, 20110, 20111, 20112, 20113, 20114, 20115, 20116, 20117, 20118, 20119] 100 ((741, 741), (30, 429), (20, 19), (0, 999)) := frS_of (by decide +kernel)
theorem x6_241 : f60c xTc xTys xm_241 = true := by decide +kernel
abbrev wz_6b8d1 : List Nat := [20006, 20200, 20201, 20202, 20203]
theorem x6_249 : f60c xTc xTys xm_249 = true := by decide +kernel
theorem rL_741_741_6_6_1_0 : frL gJ bsJ 100 ((741, 741), (6, 6), (1, 0), (0, 24)) := frL_of (by decide +kernel)
theorem rS_741_741_430_522_4_0 : frS gJ bsJ znJ [20200] 100 ((741, 741), (430, 522), (4, 0), (0, 19)) := frS_of (by decide +kernel)
theorem rS_741_741_431_523_4_0 : frS gJ bsJ znJ [20201] 100 ((741, 741), (431, 523), (4, 0), (0, 19)) := frS_of (by decide +kernel)
theorem rS_741_741_432_524_4_0 : frS gJ bsJ znJ [20202] 100 ((741, 741), (432, 524), (4, 0), ((-2147483648), 2147483647)) := frS_of (by decide +kernel)
theorem rS_741_741_433_525_4_0 : frS gJ bsJ znJ [20203] 100 ((741, 741), (433, 525), (4, 0), ((-2147483648), 2147483647)) := frS_of (by decide +kernel)
theorem rS_741_741_6_6_1_0 : frS gJ bsJ znJ [20006] 100 ((741, 741), (6, 6), (1, 0), (0, 24)) := frS_of (by decide +kernel)
theorem x6_255 : f60c xTc xTys xm_255 = true := by decide +kernel
theorem x6_257 : f60c xTc xTys xm_257 = true := by decide +kernel
theorem rL_741_741_0_0_1_0 : frL gJ bsJ 100 ((741, 741), (0, 0), (1, 0), (0, 22000)) := frL_of (by decide +kernel)
theorem x6_256 : f60c xTc xTys xm_256 = true := by decide +kernel
theorem rL_741_741_1211_3411_200_0 : frL gJ bsJ 100 ((741, 741), (1211, 3411), (200, 0), ((-2147483648), 2147483647)) := frL_hull (by decide) (by decide +kernel)
theorem rL_741_741_1212_3412_200_0 : frL gJ bsJ 100 ((741, 741), (1212, 3412), (200, 0), ((-2147483648), 2147483647)) := frL_hull (by decide) (by decide +kernel)
theorem x6_254 : f60c xTc xTys xm_254 = true := by decide +kernel
theorem fb_741_9 : bsJ 741 9 = (0, 12) := by decide +kernel
theorem rL_741_741_9_9_1_0 : frL gJ bsJ 100 ((741, 741), (9, 9), (1, 0), (0, 12)) := frL_of (by decide +kernel)
theorem rL_741_741_1210_3410_200_0 : frL gJ bsJ 100 ((741, 741), (1210, 3410), (200, 0), ((-2147483648), 2147483647)) := frL_hull (by decide) (by decide +kernel)
theorem x6_261 : f60c xTc xTys xm_261 = true := by decide +kernel
theorem x6_260 : f60c xTc xTys xm_260 = true := by decide +kernel
theorem rL_741_741_1_1_1_0 : frL gJ bsJ 100 ((741, 741), (1, 1), (1, 0), (0, 600)) := frL_of (by decide +kernel)
abbrev wz_5ef89 : List Nat := [748, 749]
theorem x6_259 : f60c xTc xTys xm_259 = true := by decide +kernel
theorem rL_741_741_1214_3414_200_0 : frL gJ bsJ 100 ((741, 741), (1214, 3414), (200, 0), ((-2147483648), 2147483647)) := frL_hull (by decide) (by decide +kernel)
theorem rL_749_749_0_99_1_0 : frL gJ bsJ 100 ((749, 749), (0, 99), (1, 0), ((-2147483648), 2147483647)) := frL_hull (by decide) (by decide +kernel)
theorem rL_741_741_1215_3609_200_194 : frL gJ bsJ 100 ((741, 741), (1215, 3609), (200, 194), ((-2147483648), 2147483647)) := frL_hull (by decide) (by decide +kernel)
theorem rS_749_749_0_99_1_0 : frS gJ bsJ znJ [749] 100 ((749, 749), (0, 99), (1, 0), ((-2147483648), 2147483647)) := frS_dflt (by decide) (by decide +kernel)
theorem rL_748_748_0_127_1_0 : frL gJ bsJ 100 ((748, 748), (0, 127), (1, 0), ((-2147483648), 2147483647)) := frL_hull (by decide) (by decide +kernel)
theorem rS_748_748_0_127_1_0 : frS gJ bsJ znJ [748] 100 ((748, 748), (0, 127), (1, 0), ((-2147483648), 2147483647)) := frS_dflt (by decide) (by decide +kernel)
theorem x6_291 : f60c xTc xTys xm_291 = true := by decide +kernel
theorem x6_315 : f60c xTc xTys xm_315 = true := by decide +kernel
theorem fb_740_8 : bsJ 740 8 = (0, 96) := by decide +kernel
theorem rL_747_747_0_95_1_0 : frL gJ bsJ 100 ((747, 747), (0, 95), (1, 0), ((-2147483648), 2147483647)) := frL_hull (by decide) (by decide +kernel)
theorem x6_316 : f60c xTc xTys xm_316 = true := by decide +kernel
abbrev wz_1c18d : List Nat := [12209, 12210, 12211, 12212, 12213]
theorem x6_314 : f60c xTc xTys xm_314 = true := by decide +kernel
theorem fb_740_10 : bsJ 740 10 = (0, 96) := by decide +kernel
theorem fb_740_9 : bsJ 740 9 = (0, 96) := by decide +kernel
theorem fb_740_11 : bsJ 740 11 = ((-2147483648), 2147483647) := by decide +kernel
theorem fb_740_13 : bsJ 740 13 = ((-2147483648), 2147483647) := by decide +kernel
theorem fb_740_12 : bsJ 740 12 = ((-2147483648), 2147483647) := by decide +kernel
theorem x6_423 : f60c xTc xTys xm_423 = true := by decide +kernel
abbrev wz_6dafe : List Nat := [12216, 20605, 20840]
theorem x6_421 : f60c xTc xTys xm_421 = true := by decide +kernel
theorem fb_740_17 : bsJ 740 17 = ((-2147483648), 2147483647) := by decide +kernel
theorem fb_740_16 : bsJ 740 16 = (0, 97) := by decide +kernel
theorem rS_741_741_1215_3609_200_194 : frS gJ bsJ znJ [20605] 100 ((741, 741), (1215, 3609), (200, 194), ((-2147483648), 2147483647)) := frS_of (by decide +kernel)
theorem rS_741_741_4700_4899_1_0 : frS gJ bsJ znJ [20840] 100 ((741, 741), (4700, 4899), (1, 0), ((-2147483648), 2147483647)) := frS_of (by decide +kernel)
theorem x6_422 : f60c xTc xTys xm_422 = true := by decide +kernel
abbrev wz_2212a : List Nat := [12209, 12210, 12211, 12212, 12213, 12214, 12215, 12216, 12218, 20605, 20840]
theorem x6_404 : f60c xTc xTys xm_404 = true := by decide +kernel
theorem fb_740_14 : bsJ 740 14 = (0, 8) := by decide +kernel
theorem fb_740_15 : bsJ 740 15 = (0, 8) := by decide +kernel
theorem fb_740_18 : bsJ 740 18 = ((-2147483648), 2147483647) := by decide +kernel
theorem x6_387 : f60c xTc xTys xm_387 = true := by decide +kernel
section CT
variable {ρ : Nat → Int32} {base n : Nat} {F : Nat → Prop} {D : va_G} {dA : Nat → ClassId} {la : Launch}
set_option maxRecDepth 8000 in
theorem ct_M_cellAt_c15f4 {I : fH} {x1 : Int} (h0 : fB bsJ I) (ha1 : (0 ≤ x1 ∧ x1 ≤ 19)) : fC ρ base n F xTc vwCl xTys D dA la gJ (fbz bsJ znJ (fKc []) I) xm_239 [.inr (.inr (some 740)), .inl x1] I (fun _ r => ∃ z, r = some (.inl z) ∧ (z = 30 + 20 * x1)) := by
  have hW : fzs [] (fKc []) := fKc_ok _
  refine f_meth (rb := rbJ) (J := []) 1 400 xG xin_239 x6_239 okJ (fB_self h0) ?_ ?_
  · exact fun q h => absurd h List.not_mem_nil
  · have hB0 := fB_self (zn := znJ) (K := fKc []) h0
    refine And.intro (True.intro) ?_
    exact ⟨_, rfl, by omega⟩
set_option maxRecDepth 8000 in
theorem ct_M_isIn_27230 {I : fH} {x0 : Int} {x1 : Int} {x2 : Int} (h0 : fB bsJ I) (ha0 : ((-2147483648) ≤ x0 ∧ x0 ≤ 2147483647)) (ha1 : ((-100000) ≤ x1 ∧ x1 ≤ 97)) (ha2 : ((-1) ≤ x2 ∧ x2 ≤ 999999)) : fC ρ base n F xTc vwCl xTys D dA la gJ (fbz bsJ znJ (fKc []) I) xm_238 [.inr (.inl x0), .inr (.inl x1), .inr (.inl x2)] I (fun _ r => ∃ z, r = some (.inl z) ∧ ((z = 1 ∧ x1 ≤ x0 ∧ x0 ≤ x2) ∨ (z = 0 ∧ (x0 < x1 ∨ x2 < x0)))) := by
  have hW : fzs [] (fKc []) := fKc_ok _
  refine f_meth (rb := rbJ) (J := []) 1 400 xG xin_238 x6_238 okJ (fB_self h0) ?_ ?_
  · exact fun q h => absurd h List.not_mem_nil
  · have hB0 := fB_self (zn := znJ) (K := fKc []) h0
    refine And.intro (And.intro (by omega) (by omega)) ?_
    intro z1 hz1
    refine And.intro (by omega) (And.intro ?_ ?_)
    · intro c2
      refine And.intro (⟨by omega, by omega⟩) ?_
      exact ⟨_, rfl, by omega⟩
    · intro c3
      refine And.intro (And.intro (by omega) (by omega)) ?_
      intro z4 hz4
      refine And.intro (by omega) (And.intro ?_ ?_)
      · intro c5
        refine And.intro (⟨by omega, by omega⟩) ?_
        exact ⟨_, rfl, by omega⟩
      · intro c6
        refine And.intro (⟨by omega, by omega⟩) ?_
        exact ⟨_, rfl, by omega⟩
abbrev jc_M_cell_185e1_42 (I0 : fH) : Nat → fL → List fV → fH → Prop := fun m lv st I => ∃ (y1 : Int) (y2 : Int) (y3 : Int), lv = [(0, .inr (.inr (some 740))), (1, .inl y1), (2, .inl y2), (3, .inl y3)] ∧ st = [] ∧ (((1 ≤ y1 ∧ y1 ≤ 999) ∧ ((30 ≤ y2 ∧ y2 ≤ 410) ∧ (y2 - 30) % 20 ≤ 0) ∧ (0 ≤ y3 ∧ y3 ≤ 20) ∧ (0 ≤ I 741 5 ∧ I 741 5 ≤ 19) ∧ (y2 = 30 + 20 * I0 741 5) ∧ (0 ≤ I0 741 5) ∧ (I0 741 5 ≤ 19)) ∧ (∀ j : Nat, ((j : Int) < 30 + 20 * I0 741 5 ∨ 50 + 20 * I0 741 5 ≤ (j : Int)) → I 741 j = I0 741 j)) ∧ m = (1 + 1 * (20 - y3) : Int).toNat
set_option maxRecDepth 8000 in
theorem ct_M_cell_185e1 {I : fH} {x1 : Int} (h0 : fB bsJ I) (ha1 : ((-2147483648) ≤ x1 ∧ x1 ≤ 2147483647)) (hp0 : sI I 741) : fC ρ base n F xTc vwCl xTys D dA la gJ (fbz bsJ znJ (fKc wz_97606) I) xm_237 [.inr (.inr (some 740)), .inl x1] I (fun I' r => ∃ z, r = some (.inl z) ∧ ((0 ≤ z ∧ z ≤ 19) ∨ z = (-1000000003) ∨ z = (-1000000001)) ∧ (sI I' 741)) := by
  have hW : fzs wz_97606 (fKc wz_97606) := fKc_ok _
  refine f_meth (rb := rbJ) (J := [(42, (jc_M_cell_185e1_42 I))]) 22 400 xG xin_237 x6_237 okJ (fB_self h0) ?_ ?_
  · refine List.forall_mem_cons.mpr ⟨?_, fun q h => absurd h List.not_mem_nil⟩
    · rintro m _ _ I1 hB1 ⟨y1, y2, y3, rfl, rfl, ⟨hb, hx0⟩, hm⟩
      refine And.intro (by omega) (And.intro ?_ ?_)
      · intro c1
        have w5 := hx0 5 (by omega)
        refine And.intro ⟨rfl, by decide, by decide⟩ ?_
        refine fstore rS_741_741_30_410_20_0 (fzs_sub (by decide +kernel) hW) (by omega) (by omega) ?_
        intro IhB2 ehB2 hB2
        have t3 := fup_self ehB2
        have t4 : IhB2 741 5 = I1 741 5 := (congrFun (congrFun ehB2 741) 5).trans (fup_ne (by omega))
        refine And.intro ⟨rfl, by decide, by decide⟩ ?_
        refine fstore rS_741_741_47_427_20_0 (fzs_sub (by decide +kernel) hW) (by omega) (by omega) ?_
        intro IhB5 ehB5 hB5
        have t6 := fup_self ehB5
        have t7 : IhB5 741 5 = IhB2 741 5 := (congrFun (congrFun ehB5 741) 5).trans (fup_ne (by omega))
        refine And.intro ⟨rfl, by decide, by decide⟩ ?_
        refine fload rL_741_741_5_5_1_0 h0 hB5 (by omega) ?_
        intro z8 lz8 uz8 qz8
        have pz8 := fld_at qz8 5 (by omega)
        refine fstore rS_741_741_5_5_1_0 (fzs_sub (by decide +kernel) hW) (by omega) (by omega) ?_
        intro IhB9 ehB9 hB9
        have t10 := fup_self ehB9
        have t11 := fup_at ehB9 5 (by omega)
        refine And.intro ⟨rfl, by decide, by decide⟩ ?_
        refine fload rL_741_741_5_5_1_0 h0 hB9 (by omega) ?_
        intro z12 lz12 uz12 qz12
        have pz12 := fld_at qz12 5 (by omega)
        refine And.intro (True.intro) ?_
        exact ⟨_, rfl, by omega, (sI_cell (sBd_of h0) (by omega) (fun j h hj => ((fup_other ehB9 741 j (Or.inr (by omega))).trans ((fup_other ehB5 741 j (Or.inr (by omega))).trans ((fup_other ehB2 741 j (Or.inr (by omega))).trans (hx0 j h))))) (by rw [(fup_other ehB9 741 (30 + 20 * I 741 5).toNat (Or.inr (by omega))), (fup_other ehB5 741 (30 + 20 * I 741 5).toNat (Or.inr (by omega))), fup_at ehB2 (30 + 20 * I 741 5).toNat (by omega)]; omega) (by omega) hp0)⟩
      · intro c13
        refine And.intro ⟨rfl, by decide, by decide⟩ ?_
        refine fstore rS_741_741_30_429_20_19 (fzs_sub (by decide +kernel) hW) (by omega) (by omega) ?_
        intro IhB14 ehB14 hB14
        have t15 := fup_self ehB14
        have t16 : IhB14 741 5 = I1 741 5 := (congrFun (congrFun ehB14 741) 5).trans (fup_ne (by omega))
        exact fcutJ (I := IhB14) (j := (jc_M_cell_185e1_42 I)) (lv' := [(0, .inr (.inr (some 740))), (1, .inl _), (2, .inl _), (3, .inl _)]) (And.intro rfl (And.intro rfl (And.intro rfl (And.intro rfl True.intro)))) ⟨_, _, _, rfl, rfl, ⟨by omega, (fun j h => (fup_other ehB14 741 j (Or.inr (by omega))).trans (hx0 j h))⟩, rfl⟩ (by omega)
  · have hB0 := fB_self (zn := znJ) (K := fKc wz_97606) h0
    refine And.intro (by omega) ?_
    refine Exists.intro xm_238 (And.intro mi_238 (And.intro ⟨rfl, rfl, rfl, rfl⟩ (And.intro True.intro ?_)))
    refine fcallp hB0 (ct_M_isIn_27230 (fBz h0 hB0) (by omega) (by omega) (by omega)) ?_
    rintro _ ⟨z17, rfl, hz17⟩
    refine And.intro (by omega) (And.intro ?_ ?_)
    · intro c18
      refine And.intro ⟨rfl, by decide, by decide⟩ ?_
      refine fload rL_741_741_5_5_1_0 h0 hB0 (by omega) ?_
      intro z19 lz19 uz19 qz19
      have pz19 := fld_at qz19 5 (by omega)
      refine And.intro (by omega) (And.intro ?_ ?_)
      · intro c20
        refine And.intro ⟨rfl, by decide, by decide⟩ ?_
        refine fload rL_741_741_5_5_1_0 h0 hB0 (by omega) ?_
        intro z21 lz21 uz21 qz21
        have pz21 := fld_at qz21 5 (by omega)
        refine Exists.intro xm_239 (And.intro mi_239 (And.intro ⟨rfl, rfl, rfl, rfl⟩ (And.intro rfl ?_)))
        refine fcallp hB0 (ct_M_cellAt_c15f4 (fBz h0 hB0) (by omega)) ?_
        rintro _ ⟨_, rfl, rfl⟩
        exact fcutJ (I := I) (j := (jc_M_cell_185e1_42 I)) (lv' := [(0, .inr (.inr (some 740))), (1, .inl _), (2, .inl _), (3, .inl _)]) (And.intro rfl (And.intro rfl (And.intro rfl (And.intro rfl True.intro)))) ⟨_, _, _, rfl, rfl, ⟨by omega, (fun j _ => rfl)⟩, rfl⟩ (by omega)
      · intro c23
        refine And.intro (True.intro) ?_
        exact ⟨_, rfl, by omega, hp0⟩
    · intro c24
      refine And.intro (True.intro) ?_
      exact ⟨_, rfl, by omega, hp0⟩
set_option maxRecDepth 8000 in
theorem ct_M_isCell_45859 {I : fH} {x1 : Int} (h0 : fB bsJ I) (ha1 : ((-2147483648) ≤ x1 ∧ x1 ≤ 2147483647)) : fC ρ base n F xTc vwCl xTys D dA la gJ (fbz bsJ znJ (fKc []) I) xm_241 [.inr (.inr (some 740)), .inl x1] I (fun _ r => ∃ z, r = some (.inl z) ∧ (((z = 1 ∧ 0 ≤ x1 ∧ x1 ≤ 19) ∨ z = 0) ∧ (z = 1 → x1 < I 741 5))) := by
  have hW : fzs [] (fKc []) := fKc_ok _
  refine f_meth (rb := rbJ) (J := []) 1 400 xG xin_241 x6_241 okJ (fB_self h0) ?_ ?_
  · exact fun q h => absurd h List.not_mem_nil
  · have hB0 := fB_self (zn := znJ) (K := fKc []) h0
    refine And.intro (by omega) ?_
    refine And.intro ⟨rfl, by decide, by decide⟩ ?_
    refine fload rL_741_741_5_5_1_0 h0 hB0 (by omega) ?_
    intro z1 lz1 uz1 qz1
    have pz1 := fld_at qz1 5 (by omega)
    refine And.intro (by omega) ?_
    refine Exists.intro xm_238 (And.intro mi_238 (And.intro ⟨rfl, rfl, rfl, rfl⟩ (And.intro True.intro ?_)))
    refine fcallp hB0 (ct_M_isIn_27230 (fBz h0 hB0) (by omega) (by omega) (by omega)) ?_
    rintro _ ⟨z2, rfl, hz2⟩
    refine And.intro (⟨by omega, by omega⟩) ?_
    exact ⟨_, rfl, by omega⟩
set_option maxRecDepth 8000 in
theorem ct_M_lock_29b98 {I : fH} {x1 : Int} {x2 : Int} {x3 : Int} (h0 : fB bsJ I) (ha1 : ((-2147483648) ≤ x1 ∧ x1 ≤ 2147483647)) (ha2 : ((-2147483648) ≤ x2 ∧ x2 ≤ 2147483647)) (ha3 : ((-2147483648) ≤ x3 ∧ x3 ≤ 2147483647)) (hp0 : sI I 741) : fC ρ base n F xTc vwCl xTys D dA la gJ (fbz bsJ znJ (fKc wz_6b8d1) I) xm_249 [.inr (.inr (some 740)), .inl x1, .inl x2, .inl x3] I (fun I' r => ∃ z, r = some (.inl z) ∧ ((0 ≤ z ∧ z ≤ 23) ∨ z = (-1000000003) ∨ z = (-1000000001)) ∧ (sI I' 741)) := by
  have hW : fzs wz_6b8d1 (fKc wz_6b8d1) := fKc_ok _
  refine f_meth (rb := rbJ) (J := []) 1 400 xG xin_249 x6_249 okJ (fB_self h0) ?_ ?_
  · exact fun q h => absurd h List.not_mem_nil
  · have hB0 := fB_self (zn := znJ) (K := fKc wz_6b8d1) h0
    refine Exists.intro xm_241 (And.intro mi_241 (And.intro ⟨rfl, rfl, rfl, rfl⟩ (And.intro rfl ?_)))
    refine fcallp hB0 (ct_M_isCell_45859 (fBz h0 hB0) (by omega)) ?_
    rintro _ ⟨z1, rfl, hz1⟩
    refine And.intro (by omega) (And.intro ?_ ?_)
    · intro c2
      refine And.intro (True.intro) ?_
      exact ⟨_, rfl, by omega, hp0⟩
    · intro c3
      refine Exists.intro xm_241 (And.intro mi_241 (And.intro ⟨rfl, rfl, rfl, rfl⟩ (And.intro rfl ?_)))
      refine fcallp hB0 (ct_M_isCell_45859 (fBz h0 hB0) (by omega)) ?_
      rintro _ ⟨z4, rfl, hz4⟩
      refine And.intro (by omega) (And.intro ?_ ?_)
      · intro c5
        refine And.intro (True.intro) ?_
        exact ⟨_, rfl, by omega, hp0⟩
      · intro c6
        refine And.intro (by omega) (And.intro ?_ ?_)
        · intro c7
          refine And.intro (True.intro) ?_
          exact ⟨_, rfl, by omega, hp0⟩
        · intro c8
          refine And.intro (by omega) ?_
          refine Exists.intro xm_238 (And.intro mi_238 (And.intro ⟨rfl, rfl, rfl, rfl⟩ (And.intro True.intro ?_)))
          refine fcallp hB0 (ct_M_isIn_27230 (fBz h0 hB0) (by omega) (by omega) (by omega)) ?_
          rintro _ ⟨z9, rfl, hz9⟩
          refine And.intro (by omega) (And.intro ?_ ?_)
          · intro c10
            refine And.intro ⟨rfl, by decide, by decide⟩ ?_
            refine fload rL_741_741_6_6_1_0 h0 hB0 (by omega) ?_
            intro z11 lz11 uz11 qz11
            have pz11 := fld_at qz11 6 (by omega)
            refine And.intro (by omega) (And.intro ?_ ?_)
            · intro c12
              refine And.intro ⟨rfl, by decide, by decide⟩ ?_
              refine fload rL_741_741_6_6_1_0 h0 hB0 (by omega) ?_
              intro z13 lz13 uz13 qz13
              have pz13 := fld_at qz13 6 (by omega)
              refine And.intro ⟨rfl, by decide, by decide⟩ ?_
              refine fstore rS_741_741_430_522_4_0 (fzs_sub (by decide +kernel) hW) (by omega) (by omega) ?_
              intro IhB14 ehB14 hB14
              have t15 := fup_self ehB14
              have t16 : IhB14 741 6 = I 741 6 := (congrFun (congrFun ehB14 741) 6).trans (fup_ne (by omega))
              refine And.intro ⟨rfl, by decide, by decide⟩ ?_
              refine fstore rS_741_741_431_523_4_0 (fzs_sub (by decide +kernel) hW) (by omega) (by omega) ?_
              intro IhB17 ehB17 hB17
              have t18 := fup_self ehB17
              have t19 : IhB17 741 6 = IhB14 741 6 := (congrFun (congrFun ehB17 741) 6).trans (fup_ne (by omega))
              refine And.intro ⟨rfl, by decide, by decide⟩ ?_
              refine fstore rS_741_741_432_524_4_0 (fzs_sub (by decide +kernel) hW) (by omega) (by omega) ?_
              intro IhB20 ehB20 hB20
              have t21 := fup_self ehB20
              have t22 : IhB20 741 6 = IhB17 741 6 := (congrFun (congrFun ehB20 741) 6).trans (fup_ne (by omega))
              refine And.intro ⟨rfl, by decide, by decide⟩ ?_
              refine fstore rS_741_741_433_525_4_0 (fzs_sub (by decide +kernel) hW) (by omega) (by omega) ?_
              intro IhB23 ehB23 hB23
              have t24 := fup_self ehB23
              have t25 : IhB23 741 6 = IhB20 741 6 := (congrFun (congrFun ehB23 741) 6).trans (fup_ne (by omega))
              refine And.intro ⟨rfl, by decide, by decide⟩ ?_
              refine fload rL_741_741_6_6_1_0 h0 hB23 (by omega) ?_
              intro z26 lz26 uz26 qz26
              have pz26 := fld_at qz26 6 (by omega)
              refine fstore rS_741_741_6_6_1_0 (fzs_sub (by decide +kernel) hW) (by omega) (by omega) ?_
              intro IhB27 ehB27 hB27
              have t28 := fup_self ehB27
              have t29 := fup_at ehB27 6 (by omega)
              refine And.intro ⟨rfl, by decide, by decide⟩ ?_
              refine fload rL_741_741_6_6_1_0 h0 hB27 (by omega) ?_
              intro z30 lz30 uz30 qz30
              have pz30 := fld_at qz30 6 (by omega)
              refine And.intro (True.intro) ?_
              exact ⟨_, rfl, by omega, (sI_lock (sBd_of h0) (by omega) (fun j h hj => ((fup_other ehB27 741 j (Or.inr (by omega))).trans ((fup_other ehB23 741 j (Or.inr (by omega))).trans ((fup_other ehB20 741 j (Or.inr (by omega))).trans ((fup_other ehB17 741 j (Or.inr (by omega))).trans (fup_other ehB14 741 j (Or.inr (by omega)))))))) (by rw [(fup_other ehB27 741 (430 + 4 * I 741 6).toNat (Or.inr (by omega))), (fup_other ehB23 741 (430 + 4 * I 741 6).toNat (Or.inr (by omega))), (fup_other ehB20 741 (430 + 4 * I 741 6).toNat (Or.inr (by omega))), (fup_other ehB17 741 (430 + 4 * I 741 6).toNat (Or.inr (by omega))), fup_at ehB14 (430 + 4 * I 741 6).toNat (by omega)]; omega) (by rw [(fup_other ehB27 741 (431 + 4 * I 741 6).toNat (Or.inr (by omega))), (fup_other ehB23 741 (431 + 4 * I 741 6).toNat (Or.inr (by omega))), (fup_other ehB20 741 (431 + 4 * I 741 6).toNat (Or.inr (by omega))), fup_at ehB17 (431 + 4 * I 741 6).toNat (by omega)]; omega) (by omega) hp0)⟩
            · intro c31
              refine And.intro (True.intro) ?_
              exact ⟨_, rfl, by omega, hp0⟩
          · intro c32
            refine And.intro (True.intro) ?_
            exact ⟨_, rfl, by omega, hp0⟩
set_option maxRecDepth 8000 in
theorem ct_M_textAt_ea474 {I : fH} {x1 : Int} (h0 : fB bsJ I) (ha1 : (0 ≤ x1 ∧ x1 ≤ 11)) : fC ρ base n F xTc vwCl xTys D dA la gJ (fbz bsJ znJ (fKc []) I) xm_255 [.inr (.inr (some 740)), .inl x1] I (fun _ r => ∃ z, r = some (.inl z) ∧ (z = 1210 + 200 * x1)) := by
  have hW : fzs [] (fKc []) := fKc_ok _
  refine f_meth (rb := rbJ) (J := []) 1 400 xG xin_255 x6_255 okJ (fB_self h0) ?_ ?_
  · exact fun q h => absurd h List.not_mem_nil
  · have hB0 := fB_self (zn := znJ) (K := fKc []) h0
    refine And.intro (True.intro) ?_
    exact ⟨_, rfl, by omega⟩
set_option maxRecDepth 8000 in
theorem ct_M_hour_9a688 {I : fH}  (h0 : fB bsJ I)  : fC ρ base n F xTc vwCl xTys D dA la gJ (fbz bsJ znJ (fKc []) I) xm_257 [.inr (.inr (some 740))] I (fun _ r => ∃ z, r = some (.inl z) ∧ (0 ≤ z ∧ z ≤ 366)) := by
  have hW : fzs [] (fKc []) := fKc_ok _
  refine f_meth (rb := rbJ) (J := []) 1 400 xG xin_257 x6_257 okJ (fB_self h0) ?_ ?_
  · exact fun q h => absurd h List.not_mem_nil
  · have hB0 := fB_self (zn := znJ) (K := fKc []) h0
    refine And.intro ⟨rfl, by decide, by decide⟩ ?_
    refine fload rL_741_741_0_0_1_0 h0 hB0 (by omega) ?_
    intro z1 lz1 uz1 qz1
    have pz1 := fld_at qz1 0 (by omega)
    refine And.intro (And.intro (by omega) (And.intro (by omega) (And.intro (by omega) rfl))) ?_
    intro z2 hz2 ez2 dz2
    have dz2 := dz2 (by omega) (by omega)
    change _ = _ / _ at dz2
    refine And.intro (True.intro) ?_
    exact ⟨_, rfl, by omega⟩
set_option maxRecDepth 8000 in
theorem ct_M_isInForce_508bf {I : fH} {x1 : Int} (h0 : fB bsJ I) (ha1 : (0 ≤ x1 ∧ x1 ≤ 11)) : fC ρ base n F xTc vwCl xTys D dA la gJ (fbz bsJ znJ (fKc []) I) xm_256 [.inr (.inr (some 740)), .inl x1] I (fun _ r => ∃ z, r = some (.inl z) ∧ (0 ≤ z ∧ z ≤ 1)) := by
  have hW : fzs [] (fKc []) := fKc_ok _
  refine f_meth (rb := rbJ) (J := []) 1 400 xG xin_256 x6_256 okJ (fB_self h0) ?_ ?_
  · exact fun q h => absurd h List.not_mem_nil
  · have hB0 := fB_self (zn := znJ) (K := fKc []) h0
    refine Exists.intro xm_255 (And.intro mi_255 (And.intro ⟨rfl, rfl, rfl, rfl⟩ (And.intro rfl ?_)))
    refine fcallp hB0 (ct_M_textAt_ea474 (fBz h0 hB0) (by omega)) ?_
    rintro _ ⟨_, rfl, rfl⟩
    refine And.intro ⟨rfl, by decide, by decide⟩ ?_
    refine fload rL_741_741_1211_3411_200_0 h0 hB0 (by omega) ?_
    intro z2 lz2 uz2 qz2
    refine And.intro (by omega) (And.intro ?_ ?_)
    · intro c3
      refine And.intro (⟨by omega, by omega⟩) ?_
      exact ⟨_, rfl, by omega⟩
    · intro c4
      refine And.intro ⟨rfl, by decide, by decide⟩ ?_
      refine fload rL_741_741_1211_3411_200_0 h0 hB0 (by omega) ?_
      intro z5 lz5 uz5 qz5
      refine Exists.intro xm_257 (And.intro mi_257 (And.intro ⟨rfl, rfl, rfl, rfl⟩ (And.intro rfl ?_)))
      refine fcallp hB0 (ct_M_hour_9a688 (fBz h0 hB0)) ?_
      rintro _ ⟨z6, rfl, hz6⟩
      refine And.intro (by omega) (And.intro ?_ ?_)
      · intro c7
        refine And.intro (⟨by omega, by omega⟩) ?_
        exact ⟨_, rfl, by omega⟩
      · intro c8
        refine And.intro ⟨rfl, by decide, by decide⟩ ?_
        refine fload rL_741_741_1212_3412_200_0 h0 hB0 (by omega) ?_
        intro z9 lz9 uz9 qz9
        refine And.intro (by omega) (And.intro ?_ ?_)
        · intro c10
          refine And.intro (⟨by omega, by omega⟩) ?_
          exact ⟨_, rfl, by omega⟩
        · intro c11
          refine And.intro ⟨rfl, by decide, by decide⟩ ?_
          refine fload rL_741_741_1212_3412_200_0 h0 hB0 (by omega) ?_
          intro z12 lz12 uz12 qz12
          refine Exists.intro xm_257 (And.intro mi_257 (And.intro ⟨rfl, rfl, rfl, rfl⟩ (And.intro rfl ?_)))
          refine fcallp hB0 (ct_M_hour_9a688 (fBz h0 hB0)) ?_
          rintro _ ⟨z13, rfl, hz13⟩
          refine And.intro (by omega) (And.intro ?_ ?_)
          · intro c14
            refine And.intro (⟨by omega, by omega⟩) ?_
            exact ⟨_, rfl, by omega⟩
          · intro c15
            refine And.intro (⟨by omega, by omega⟩) ?_
            exact ⟨_, rfl, by omega⟩
abbrev jc_M_counts_1278f_4 : Nat → fL → List fV → fH → Prop := fun m lv st I => ∃ (y1 : Int) (y2 : Int) (y3 : Int), lv = [(0, .inr (.inr (some 740))), (1, .inl y1), (2, .inl y2), (3, .inl y3)] ∧ st = [] ∧ (((0 ≤ y1 ∧ y1 ≤ 5) ∧ ((-1) ≤ y2 ∧ y2 ≤ 11) ∧ (0 ≤ y3 ∧ y3 ≤ 12) ∧ (y2 < I 741 9))) ∧ m = (1 + 1 * (12 - y3) : Int).toNat
set_option maxRecDepth 8000 in
theorem ct_M_counts_1278f {I : fH} {x1 : Int} (h0 : fB bsJ I) (ha1 : (0 ≤ x1 ∧ x1 ≤ 5)) : fC ρ base n F xTc vwCl xTys D dA la gJ (fbz bsJ znJ (fKc []) I) xm_254 [.inr (.inr (some 740)), .inl x1] I (fun _ r => ∃ z, r = some (.inl z) ∧ (((-1) ≤ z ∧ z ≤ 11) ∧ (z < I 741 9))) := by
  have hW : fzs [] (fKc []) := fKc_ok _
  refine f_meth (rb := rbJ) (J := [(4, jc_M_counts_1278f_4)]) 14 400 xG xin_254 x6_254 okJ (fB_self h0) ?_ ?_
  · refine List.forall_mem_cons.mpr ⟨?_, fun q h => absurd h List.not_mem_nil⟩
    · rintro m _ _ I1 hB1 ⟨y1, y2, y3, rfl, rfl, hb, hm⟩
      have k1 := fBz_eq hB1 (a := 741) (j := 9) (by decide +kernel)
      have b2 := fBd fb_741_9 (fBz h0 hB1)
      refine And.intro ⟨rfl, by decide, by decide⟩ ?_
      refine fload rL_741_741_9_9_1_0 h0 hB1 (by omega) ?_
      intro z3 lz3 uz3 qz3
      have pz3 := fld_at qz3 9 (by omega)
      refine And.intro (by omega) (And.intro ?_ ?_)
      · intro c4
        refine And.intro (True.intro) ?_
        exact ⟨_, rfl, by omega⟩
      · intro c5
        refine And.intro ⟨rfl, by decide, by decide⟩ ?_
        refine Exists.intro xm_255 (And.intro mi_255 (And.intro ⟨rfl, rfl, rfl, rfl⟩ (And.intro rfl ?_)))
        refine fcallp hB1 (ct_M_textAt_ea474 (fBz h0 hB1) (by omega)) ?_
        rintro _ ⟨_, rfl, rfl⟩
        refine fload rL_741_741_1210_3410_200_0 h0 hB1 (by omega) ?_
        intro z7 lz7 uz7 qz7
        refine And.intro (by omega) (And.intro ?_ ?_)
        · intro c8
          refine And.intro (by omega) (And.intro ?_ ?_)
          · intro c9
            exact fcutJ (I := I1) (j := jc_M_counts_1278f_4) (lv' := [(0, .inr (.inr (some 740))), (1, .inl _), (2, .inl _), (3, .inl _)]) (And.intro rfl (And.intro rfl (And.intro rfl (And.intro rfl True.intro)))) ⟨_, _, _, rfl, rfl, by omega, rfl⟩ (by omega)
          · intro c10
            refine And.intro (by omega) (And.intro ?_ ?_)
            · intro c11
              exact fcutJ (I := I1) (j := jc_M_counts_1278f_4) (lv' := [(0, .inr (.inr (some 740))), (1, .inl _), (2, .inl _), (3, .inl _)]) (And.intro rfl (And.intro rfl (And.intro rfl (And.intro rfl True.intro)))) ⟨_, _, _, rfl, rfl, by omega, rfl⟩ (by omega)
            · intro c12
              refine And.intro ⟨rfl, by decide, by decide⟩ ?_
              refine Exists.intro xm_255 (And.intro mi_255 (And.intro ⟨rfl, rfl, rfl, rfl⟩ (And.intro rfl ?_)))
              refine fcallp hB1 (ct_M_textAt_ea474 (fBz h0 hB1) (by omega)) ?_
              rintro _ ⟨_, rfl, rfl⟩
              refine fload rL_741_741_1211_3411_200_0 h0 hB1 (by omega) ?_
              intro z14 lz14 uz14 qz14
              refine And.intro ⟨rfl, by decide, by decide⟩ ?_
              refine Exists.intro xm_255 (And.intro mi_255 (And.intro ⟨rfl, rfl, rfl, rfl⟩ (And.intro rfl ?_)))
              refine fcallp hB1 (ct_M_textAt_ea474 (fBz h0 hB1) (by omega)) ?_
              rintro _ ⟨_, rfl, rfl⟩
              refine fload rL_741_741_1211_3411_200_0 h0 hB1 (by omega) ?_
              intro z16 lz16 uz16 qz16
              refine And.intro (by omega) (And.intro ?_ ?_)
              · intro c17
                exact fcutJ (I := I1) (j := jc_M_counts_1278f_4) (lv' := [(0, .inr (.inr (some 740))), (1, .inl _), (2, .inl _), (3, .inl _)]) (And.intro rfl (And.intro rfl (And.intro rfl (And.intro rfl True.intro)))) ⟨_, _, _, rfl, rfl, by omega, rfl⟩ (by omega)
              · intro c18
                exact fcutJ (I := I1) (j := jc_M_counts_1278f_4) (lv' := [(0, .inr (.inr (some 740))), (1, .inl _), (2, .inl _), (3, .inl _)]) (And.intro rfl (And.intro rfl (And.intro rfl (And.intro rfl True.intro)))) ⟨_, _, _, rfl, rfl, by omega, rfl⟩ (by omega)
        · intro c19
          refine Exists.intro xm_256 (And.intro mi_256 (And.intro ⟨rfl, rfl, rfl, rfl⟩ (And.intro rfl ?_)))
          refine fcallp hB1 (ct_M_isInForce_508bf (fBz h0 hB1) (by omega)) ?_
          rintro _ ⟨z20, rfl, hz20⟩
          refine And.intro (by omega) (And.intro ?_ ?_)
          · intro c21
            refine And.intro (by omega) (And.intro ?_ ?_)
            · intro c22
              exact fcutJ (I := I1) (j := jc_M_counts_1278f_4) (lv' := [(0, .inr (.inr (some 740))), (1, .inl _), (2, .inl _), (3, .inl _)]) (And.intro rfl (And.intro rfl (And.intro rfl (And.intro rfl True.intro)))) ⟨_, _, _, rfl, rfl, by omega, rfl⟩ (by omega)
            · intro c23
              refine And.intro (by omega) (And.intro ?_ ?_)
              · intro c24
                exact fcutJ (I := I1) (j := jc_M_counts_1278f_4) (lv' := [(0, .inr (.inr (some 740))), (1, .inl _), (2, .inl _), (3, .inl _)]) (And.intro rfl (And.intro rfl (And.intro rfl (And.intro rfl True.intro)))) ⟨_, _, _, rfl, rfl, by omega, rfl⟩ (by omega)
              · intro c25
                refine And.intro ⟨rfl, by decide, by decide⟩ ?_
                refine Exists.intro xm_255 (And.intro mi_255 (And.intro ⟨rfl, rfl, rfl, rfl⟩ (And.intro rfl ?_)))
                refine fcallp hB1 (ct_M_textAt_ea474 (fBz h0 hB1) (by omega)) ?_
                rintro _ ⟨_, rfl, rfl⟩
                refine fload rL_741_741_1211_3411_200_0 h0 hB1 (by omega) ?_
                intro z27 lz27 uz27 qz27
                refine And.intro ⟨rfl, by decide, by decide⟩ ?_
                refine Exists.intro xm_255 (And.intro mi_255 (And.intro ⟨rfl, rfl, rfl, rfl⟩ (And.intro rfl ?_)))
                refine fcallp hB1 (ct_M_textAt_ea474 (fBz h0 hB1) (by omega)) ?_
                rintro _ ⟨_, rfl, rfl⟩
                refine fload rL_741_741_1211_3411_200_0 h0 hB1 (by omega) ?_
                intro z29 lz29 uz29 qz29
                refine And.intro (by omega) (And.intro ?_ ?_)
                · intro c30
                  exact fcutJ (I := I1) (j := jc_M_counts_1278f_4) (lv' := [(0, .inr (.inr (some 740))), (1, .inl _), (2, .inl _), (3, .inl _)]) (And.intro rfl (And.intro rfl (And.intro rfl (And.intro rfl True.intro)))) ⟨_, _, _, rfl, rfl, by omega, rfl⟩ (by omega)
                · intro c31
                  exact fcutJ (I := I1) (j := jc_M_counts_1278f_4) (lv' := [(0, .inr (.inr (some 740))), (1, .inl _), (2, .inl _), (3, .inl _)]) (And.intro rfl (And.intro rfl (And.intro rfl (And.intro rfl True.intro)))) ⟨_, _, _, rfl, rfl, by omega, rfl⟩ (by omega)
          · intro c32
            refine And.intro (by omega) (And.intro ?_ ?_)
            · intro c33
              exact fcutJ (I := I1) (j := jc_M_counts_1278f_4) (lv' := [(0, .inr (.inr (some 740))), (1, .inl _), (2, .inl _), (3, .inl _)]) (And.intro rfl (And.intro rfl (And.intro rfl (And.intro rfl True.intro)))) ⟨_, _, _, rfl, rfl, by omega, rfl⟩ (by omega)
            · intro c34
              refine And.intro (by omega) (And.intro ?_ ?_)
              · intro c35
                exact fcutJ (I := I1) (j := jc_M_counts_1278f_4) (lv' := [(0, .inr (.inr (some 740))), (1, .inl _), (2, .inl _), (3, .inl _)]) (And.intro rfl (And.intro rfl (And.intro rfl (And.intro rfl True.intro)))) ⟨_, _, _, rfl, rfl, by omega, rfl⟩ (by omega)
              · intro c36
                refine And.intro ⟨rfl, by decide, by decide⟩ ?_
                refine Exists.intro xm_255 (And.intro mi_255 (And.intro ⟨rfl, rfl, rfl, rfl⟩ (And.intro rfl ?_)))
                refine fcallp hB1 (ct_M_textAt_ea474 (fBz h0 hB1) (by omega)) ?_
                rintro _ ⟨_, rfl, rfl⟩
                refine fload rL_741_741_1211_3411_200_0 h0 hB1 (by omega) ?_
                intro z38 lz38 uz38 qz38
                refine And.intro ⟨rfl, by decide, by decide⟩ ?_
                refine Exists.intro xm_255 (And.intro mi_255 (And.intro ⟨rfl, rfl, rfl, rfl⟩ (And.intro rfl ?_)))
                refine fcallp hB1 (ct_M_textAt_ea474 (fBz h0 hB1) (by omega)) ?_
                rintro _ ⟨_, rfl, rfl⟩
                refine fload rL_741_741_1211_3411_200_0 h0 hB1 (by omega) ?_
                intro z40 lz40 uz40 qz40
                refine And.intro (by omega) (And.intro ?_ ?_)
                · intro c41
                  exact fcutJ (I := I1) (j := jc_M_counts_1278f_4) (lv' := [(0, .inr (.inr (some 740))), (1, .inl _), (2, .inl _), (3, .inl _)]) (And.intro rfl (And.intro rfl (And.intro rfl (And.intro rfl True.intro)))) ⟨_, _, _, rfl, rfl, by omega, rfl⟩ (by omega)
                · intro c42
                  exact fcutJ (I := I1) (j := jc_M_counts_1278f_4) (lv' := [(0, .inr (.inr (some 740))), (1, .inl _), (2, .inl _), (3, .inl _)]) (And.intro rfl (And.intro rfl (And.intro rfl (And.intro rfl True.intro)))) ⟨_, _, _, rfl, rfl, by omega, rfl⟩ (by omega)
  · have hB0 := fB_self (zn := znJ) (K := fKc []) h0
    have b43 := fBd fb_741_9 (fBz h0 hB0)
    exact fcutJ (I := I) (j := jc_M_counts_1278f_4) (lv' := [(0, .inr (.inr (some 740))), (1, .inl _), (2, .inl _), (3, .inl _)]) (And.intro rfl (And.intro rfl (And.intro rfl (And.intro rfl True.intro)))) ⟨_, _, _, rfl, rfl, by omega, rfl⟩ (by omega)
abbrev jc_M_joined_15edc_195 : Nat → fL → List fV → fH → Prop := fun m lv st I => lv = [] ∧ st = [] ∧ (True) ∧ m = (2 : Int).toNat
abbrev jc_M_joined_15edc_205 : Nat → fL → List fV → fH → Prop := fun m lv st I => lv = [] ∧ st = [] ∧ (True) ∧ m = (1 : Int).toNat
set_option maxRecDepth 8000 in
theorem ct_M_joined_15edc {I : fH} {x0 : Int} {x1 : Int} {x2 : Int} (h0 : fB bsJ I) (ha0 : ((-2147483648) ≤ x0 ∧ x0 ≤ 2147483647)) (ha1 : ((-2147483648) ≤ x1 ∧ x1 ≤ 2147483647)) (ha2 : ((-2147483648) ≤ x2 ∧ x2 ≤ 2147483647)) : fC ρ base n F xTc vwCl xTys D dA la gJ (fbz bsJ znJ (fKc []) I) xm_261 [.inl x0, .inl x1, .inl x2] I (fun _ r => ∃ z, r = some (.inl z) ∧ ((-2147483648) ≤ z ∧ z ≤ 2147483647)) := by
  have hW : fzs [] (fKc []) := fKc_ok _
  refine f_meth (rb := rbJ) (J := [(195, jc_M_joined_15edc_195), (205, jc_M_joined_15edc_205)]) 3 400 xG xin_261 x6_261 okJ (fB_self h0) ?_ ?_
  · refine List.forall_mem_cons.mpr ⟨?_, List.forall_mem_cons.mpr ⟨?_, fun q h => absurd h List.not_mem_nil⟩⟩
    · rintro m _ _ I1 hB1 ⟨rfl, rfl, hb, hm⟩
      refine And.intro (True.intro) ?_
      exact ⟨_, rfl, by omega⟩
    · rintro m _ _ I1 hB1 ⟨rfl, rfl, hb, hm⟩
      refine And.intro (True.intro) ?_
      exact ⟨_, rfl, by omega⟩
  · have hB0 := fB_self (zn := znJ) (K := fKc []) h0
    refine And.intro (by omega) (And.intro ?_ ?_)
    · refine And.intro (fun ex => ?_) (And.intro (fun ex => ?_) (And.intro (fun ex => ?_) (And.intro (fun ex => ?_) (And.intro (fun ex => ?_) (And.intro (fun ex => ?_) (And.intro (fun ex => ?_) (And.intro (fun ex => ?_) (And.intro (fun ex => ?_) (And.intro (fun ex => ?_) (And.intro (fun ex => ?_) (And.intro (fun ex => ?_) (And.intro (fun ex => ?_) (And.intro (fun ex => ?_) (And.intro (fun ex => ?_) (And.intro (fun ex => ?_) (And.intro (fun ex => ?_) (And.intro (fun ex => ?_) (And.intro (fun ex => ?_) (And.intro (fun ex => ?_) (And.intro (fun ex => ?_) (And.intro (fun ex => ?_) (And.intro (fun ex => ?_) (And.intro (fun ex => ?_) (And.intro (fun ex => ?_) (True.intro)))))))))))))))))))))))))
      · skip
        refine And.intro (by omega) (And.intro ?_ ?_)
        · intro c1
          exact fcutJ (I := I) (j := jc_M_joined_15edc_195) (lv' := []) (True.intro) ⟨rfl, rfl, True.intro, rfl⟩ (by omega)
        · intro c2
          refine And.intro (by omega) (And.intro ?_ ?_)
          · intro c3
            exact fcutJ (I := I) (j := jc_M_joined_15edc_195) (lv' := []) (True.intro) ⟨rfl, rfl, True.intro, rfl⟩ (by omega)
          · intro c4
            refine And.intro (True.intro) ?_
            exact ⟨_, rfl, by omega⟩
      · skip
        refine And.intro (by omega) (And.intro ?_ ?_)
        · intro c5
          exact fcutJ (I := I) (j := jc_M_joined_15edc_205) (lv' := []) (True.intro) ⟨rfl, rfl, True.intro, rfl⟩ (by omega)
        · intro c6
          refine And.intro (by omega) (And.intro ?_ ?_)
          · intro c7
            refine And.intro (True.intro) ?_
            exact ⟨_, rfl, by omega⟩
          · intro c8
            exact fcutJ (I := I) (j := jc_M_joined_15edc_205) (lv' := []) (True.intro) ⟨rfl, rfl, True.intro, rfl⟩ (by omega)
      · skip
        refine And.intro (by omega) (And.intro ?_ ?_)
        · intro c9
          exact fcutJ (I := I) (j := jc_M_joined_15edc_205) (lv' := []) (True.intro) ⟨rfl, rfl, True.intro, rfl⟩ (by omega)
        · intro c10
          refine And.intro (by omega) (And.intro ?_ ?_)
          · intro c11
            refine And.intro (True.intro) ?_
            exact ⟨_, rfl, by omega⟩
          · intro c12
            exact fcutJ (I := I) (j := jc_M_joined_15edc_205) (lv' := []) (True.intro) ⟨rfl, rfl, True.intro, rfl⟩ (by omega)
      · skip
        refine And.intro (by omega) (And.intro ?_ ?_)
        · intro c13
          exact fcutJ (I := I) (j := jc_M_joined_15edc_205) (lv' := []) (True.intro) ⟨rfl, rfl, True.intro, rfl⟩ (by omega)
        · intro c14
          refine And.intro (by omega) (And.intro ?_ ?_)
          · intro c15
            refine And.intro (True.intro) ?_
            exact ⟨_, rfl, by omega⟩
          · intro c16
            exact fcutJ (I := I) (j := jc_M_joined_15edc_205) (lv' := []) (True.intro) ⟨rfl, rfl, True.intro, rfl⟩ (by omega)
      · skip
        intro z17 hz17 ez17 bz17
        clear ez17
        clear bz17
        refine And.intro (True.intro) ?_
        exact ⟨_, rfl, by omega⟩
      · skip
        intro z18 hz18 ez18 bz18
        clear ez18
        clear bz18
        refine And.intro (True.intro) ?_
        exact ⟨_, rfl, by omega⟩
      · skip
        refine And.intro (by omega) (And.intro ?_ ?_)
        · intro c19
          exact fcutJ (I := I) (j := jc_M_joined_15edc_205) (lv' := []) (True.intro) ⟨rfl, rfl, True.intro, rfl⟩ (by omega)
        · intro c20
          refine And.intro (by omega) (And.intro ?_ ?_)
          · intro c21
            refine And.intro (True.intro) ?_
            exact ⟨_, rfl, by omega⟩
          · intro c22
            exact fcutJ (I := I) (j := jc_M_joined_15edc_205) (lv' := []) (True.intro) ⟨rfl, rfl, True.intro, rfl⟩ (by omega)
      · skip
        intro z23 hz23 ez23 bz23
        clear ez23
        clear bz23
        refine And.intro (True.intro) ?_
        exact ⟨_, rfl, by omega⟩
      · skip
        refine And.intro (by omega) (And.intro ?_ ?_)
        · intro c24
          exact fcutJ (I := I) (j := jc_M_joined_15edc_205) (lv' := []) (True.intro) ⟨rfl, rfl, True.intro, rfl⟩ (by omega)
        · intro c25
          refine And.intro (by omega) (And.intro ?_ ?_)
          · intro c26
            refine And.intro (True.intro) ?_
            exact ⟨_, rfl, by omega⟩
          · intro c27
            exact fcutJ (I := I) (j := jc_M_joined_15edc_205) (lv' := []) (True.intro) ⟨rfl, rfl, True.intro, rfl⟩ (by omega)
      · skip
        refine And.intro (by omega) (And.intro ?_ ?_)
        · intro c28
          refine And.intro (by omega) (And.intro ?_ ?_)
          · intro c29
            refine And.intro (And.intro (by omega) (And.intro (by omega) (And.intro (by omega) rfl))) ?_
            intro z30 hz30 ez30 dz30
            refine And.intro (True.intro) ?_
            exact ⟨_, rfl, by omega⟩
          · intro c31
            intro z32 hz32 ez32 bz32
            clear ez32
            clear bz32
            refine And.intro (True.intro) ?_
            exact ⟨_, rfl, by omega⟩
        · intro c33
          refine And.intro (True.intro) ?_
          exact ⟨_, rfl, by omega⟩
      · skip
        refine And.intro (by omega) (And.intro ?_ ?_)
        · intro c34
          exact fcutJ (I := I) (j := jc_M_joined_15edc_205) (lv' := []) (True.intro) ⟨rfl, rfl, True.intro, rfl⟩ (by omega)
        · intro c35
          refine And.intro (by omega) (And.intro ?_ ?_)
          · intro c36
            refine And.intro (True.intro) ?_
            exact ⟨_, rfl, by omega⟩
          · intro c37
            exact fcutJ (I := I) (j := jc_M_joined_15edc_205) (lv' := []) (True.intro) ⟨rfl, rfl, True.intro, rfl⟩ (by omega)
      · skip
        refine And.intro (by omega) (And.intro ?_ ?_)
        · intro c38
          exact fcutJ (I := I) (j := jc_M_joined_15edc_205) (lv' := []) (True.intro) ⟨rfl, rfl, True.intro, rfl⟩ (by omega)
        · intro c39
          refine And.intro (by omega) (And.intro ?_ ?_)
          · intro c40
            refine And.intro (True.intro) ?_
            exact ⟨_, rfl, by omega⟩
          · intro c41
            exact fcutJ (I := I) (j := jc_M_joined_15edc_205) (lv' := []) (True.intro) ⟨rfl, rfl, True.intro, rfl⟩ (by omega)
      · skip
        refine And.intro (by omega) (And.intro ?_ ?_)
        · intro c42
          exact fcutJ (I := I) (j := jc_M_joined_15edc_205) (lv' := []) (True.intro) ⟨rfl, rfl, True.intro, rfl⟩ (by omega)
        · intro c43
          refine And.intro (by omega) (And.intro ?_ ?_)
          · intro c44
            refine And.intro (True.intro) ?_
            exact ⟨_, rfl, by omega⟩
          · intro c45
            exact fcutJ (I := I) (j := jc_M_joined_15edc_205) (lv' := []) (True.intro) ⟨rfl, rfl, True.intro, rfl⟩ (by omega)
      · skip
        refine And.intro (by omega) (And.intro ?_ ?_)
        · intro c46
          exact fcutJ (I := I) (j := jc_M_joined_15edc_205) (lv' := []) (True.intro) ⟨rfl, rfl, True.intro, rfl⟩ (by omega)
        · intro c47
          refine And.intro (by omega) (And.intro ?_ ?_)
          · intro c48
            refine And.intro (True.intro) ?_
            exact ⟨_, rfl, by omega⟩
          · intro c49
            exact fcutJ (I := I) (j := jc_M_joined_15edc_205) (lv' := []) (True.intro) ⟨rfl, rfl, True.intro, rfl⟩ (by omega)
      · skip
        refine And.intro (by omega) (And.intro ?_ ?_)
        · intro c50
          exact fcutJ (I := I) (j := jc_M_joined_15edc_205) (lv' := []) (True.intro) ⟨rfl, rfl, True.intro, rfl⟩ (by omega)
        · intro c51
          refine And.intro (by omega) (And.intro ?_ ?_)
          · intro c52
            refine And.intro (True.intro) ?_
            exact ⟨_, rfl, by omega⟩
          · intro c53
            exact fcutJ (I := I) (j := jc_M_joined_15edc_205) (lv' := []) (True.intro) ⟨rfl, rfl, True.intro, rfl⟩ (by omega)
      · skip
        refine And.intro (by omega) (And.intro ?_ ?_)
        · intro c54
          exact fcutJ (I := I) (j := jc_M_joined_15edc_205) (lv' := []) (True.intro) ⟨rfl, rfl, True.intro, rfl⟩ (by omega)
        · intro c55
          refine And.intro (by omega) (And.intro ?_ ?_)
          · intro c56
            refine And.intro (True.intro) ?_
            exact ⟨_, rfl, by omega⟩
          · intro c57
            exact fcutJ (I := I) (j := jc_M_joined_15edc_205) (lv' := []) (True.intro) ⟨rfl, rfl, True.intro, rfl⟩ (by omega)
      · skip
        refine And.intro (by omega) (And.intro ?_ ?_)
        · intro c58
          exact fcutJ (I := I) (j := jc_M_joined_15edc_205) (lv' := []) (True.intro) ⟨rfl, rfl, True.intro, rfl⟩ (by omega)
        · intro c59
          refine And.intro (by omega) (And.intro ?_ ?_)
          · intro c60
            refine And.intro (True.intro) ?_
            exact ⟨_, rfl, by omega⟩
          · intro c61
            exact fcutJ (I := I) (j := jc_M_joined_15edc_205) (lv' := []) (True.intro) ⟨rfl, rfl, True.intro, rfl⟩ (by omega)
      · skip
        refine And.intro (by omega) (And.intro ?_ ?_)
        · intro c62
          exact fcutJ (I := I) (j := jc_M_joined_15edc_205) (lv' := []) (True.intro) ⟨rfl, rfl, True.intro, rfl⟩ (by omega)
        · intro c63
          refine And.intro (by omega) (And.intro ?_ ?_)
          · intro c64
            refine And.intro (True.intro) ?_
            exact ⟨_, rfl, by omega⟩
          · intro c65
            exact fcutJ (I := I) (j := jc_M_joined_15edc_205) (lv' := []) (True.intro) ⟨rfl, rfl, True.intro, rfl⟩ (by omega)
      · skip
        refine And.intro (by omega) (And.intro ?_ ?_)
        · intro c66
          exact fcutJ (I := I) (j := jc_M_joined_15edc_205) (lv' := []) (True.intro) ⟨rfl, rfl, True.intro, rfl⟩ (by omega)
        · intro c67
          refine And.intro (by omega) (And.intro ?_ ?_)
          · intro c68
            refine And.intro (True.intro) ?_
            exact ⟨_, rfl, by omega⟩
          · intro c69
            exact fcutJ (I := I) (j := jc_M_joined_15edc_205) (lv' := []) (True.intro) ⟨rfl, rfl, True.intro, rfl⟩ (by omega)
      · skip
        refine And.intro (by omega) (And.intro ?_ ?_)
        · intro c70
          exact fcutJ (I := I) (j := jc_M_joined_15edc_205) (lv' := []) (True.intro) ⟨rfl, rfl, True.intro, rfl⟩ (by omega)
        · intro c71
          refine And.intro (by omega) (And.intro ?_ ?_)
          · intro c72
            refine And.intro (True.intro) ?_
            exact ⟨_, rfl, by omega⟩
          · intro c73
            exact fcutJ (I := I) (j := jc_M_joined_15edc_205) (lv' := []) (True.intro) ⟨rfl, rfl, True.intro, rfl⟩ (by omega)
      · skip
        refine And.intro (by omega) (And.intro ?_ ?_)
        · intro c74
          exact fcutJ (I := I) (j := jc_M_joined_15edc_205) (lv' := []) (True.intro) ⟨rfl, rfl, True.intro, rfl⟩ (by omega)
        · intro c75
          refine And.intro (by omega) (And.intro ?_ ?_)
          · intro c76
            refine And.intro (True.intro) ?_
            exact ⟨_, rfl, by omega⟩
          · intro c77
            exact fcutJ (I := I) (j := jc_M_joined_15edc_205) (lv' := []) (True.intro) ⟨rfl, rfl, True.intro, rfl⟩ (by omega)
      · skip
        refine And.intro (by omega) (And.intro ?_ ?_)
        · intro c78
          exact fcutJ (I := I) (j := jc_M_joined_15edc_205) (lv' := []) (True.intro) ⟨rfl, rfl, True.intro, rfl⟩ (by omega)
        · intro c79
          refine And.intro (by omega) (And.intro ?_ ?_)
          · intro c80
            refine And.intro (True.intro) ?_
            exact ⟨_, rfl, by omega⟩
          · intro c81
            exact fcutJ (I := I) (j := jc_M_joined_15edc_205) (lv' := []) (True.intro) ⟨rfl, rfl, True.intro, rfl⟩ (by omega)
      · skip
        refine And.intro (by omega) (And.intro ?_ ?_)
        · intro c82
          refine And.intro (True.intro) ?_
          exact ⟨_, rfl, by omega⟩
        · intro c83
          refine And.intro (True.intro) ?_
          exact ⟨_, rfl, by omega⟩
      · skip
        refine And.intro (by omega) (And.intro ?_ ?_)
        · intro c84
          refine And.intro (True.intro) ?_
          exact ⟨_, rfl, by omega⟩
        · intro c85
          refine And.intro (True.intro) ?_
          exact ⟨_, rfl, by omega⟩
      · skip
        refine And.intro (by omega) (And.intro ?_ ?_)
        · intro c86
          refine And.intro (True.intro) ?_
          exact ⟨_, rfl, by omega⟩
        · intro c87
          refine And.intro (True.intro) ?_
          exact ⟨_, rfl, by omega⟩
    · intro c88
      refine And.intro (by omega) (And.intro ?_ ?_)
      · intro c89
        exact fcutJ (I := I) (j := jc_M_joined_15edc_205) (lv' := []) (True.intro) ⟨rfl, rfl, True.intro, rfl⟩ (by omega)
      · intro c90
        refine And.intro (by omega) (And.intro ?_ ?_)
        · intro c91
          refine And.intro (True.intro) ?_
          exact ⟨_, rfl, by omega⟩
        · intro c92
          exact fcutJ (I := I) (j := jc_M_joined_15edc_205) (lv' := []) (True.intro) ⟨rfl, rfl, True.intro, rfl⟩ (by omega)
set_option maxRecDepth 8000 in
theorem ct_M_level_daf8a {I : fH}  (h0 : fB bsJ I)  : fC ρ base n F xTc vwCl xTys D dA la gJ (fbz bsJ znJ (fKc []) I) xm_260 [.inr (.inr (some 740))] I (fun _ r => ∃ z, r = some (.inl z) ∧ (0 ≤ z ∧ z ≤ 60)) := by
  have hW : fzs [] (fKc []) := fKc_ok _
  refine f_meth (rb := rbJ) (J := []) 1 400 xG xin_260 x6_260 okJ (fB_self h0) ?_ ?_
  · exact fun q h => absurd h List.not_mem_nil
  · have hB0 := fB_self (zn := znJ) (K := fKc []) h0
    refine And.intro ⟨rfl, by decide, by decide⟩ ?_
    refine fload rL_741_741_1_1_1_0 h0 hB0 (by omega) ?_
    intro z1 lz1 uz1 qz1
    have pz1 := fld_at qz1 1 (by omega)
    refine And.intro (And.intro (by omega) (And.intro (by omega) (And.intro (by omega) rfl))) ?_
    intro z2 hz2 ez2 dz2
    have dz2 := dz2 (by omega) (by omega)
    change _ = _ / _ at dz2
    refine And.intro (True.intro) ?_
    exact ⟨_, rfl, by omega⟩
abbrev jc_M_worked_0bc29_15 (x1 : Int) (I0 : fH) : Nat → fL → List fV → fH → Prop := fun m lv st I => ∃ (y1 : Int) (y2 : Int) (y3 : Int), lv = [(0, .inr (.inr (some 740))), (1, .inl y1), (2, .inl y2), (3, .inl y3)] ∧ st = [] ∧ (((0 ≤ y1 ∧ y1 ≤ 11) ∧ (0 ≤ y2 ∧ y2 ≤ 97) ∧ (0 ≤ y3 ∧ y3 ≤ 97) ∧ (0 ≤ I 748 104 ∧ I 748 104 ≤ 60) ∧ (y1 = x1) ∧ (y2 ≤ y3)) ∧ (hgt I0 741 (1215 + 200 * x1.toNat) 0 y3.toNat 0 = some y2.toNat)) ∧ m = (1 + 1 * (97 - y3) : Int).toNat
set_option maxRecDepth 8000 in
theorem ct_M_worked_0bc29 {I : fH} {x1 : Int} (h0 : fB bsJ I) (ha1 : (0 ≤ x1 ∧ x1 ≤ 11)) (hp0 : sI I 741) (hp1 : x1 < I 741 9) : fC ρ base n F xTc vwCl xTys D dA la gJ (fbz bsJ znJ (fKc wz_5ef89) I) xm_259 [.inr (.inr (some 740)), .inl x1] I (fun _ r => ∃ z, r = some (.inl z) ∧ ((-2147483648) ≤ z ∧ z ≤ 2147483647)) := by
  have hW : fzs wz_5ef89 (fKc wz_5ef89) := fKc_ok _
  refine f_meth (rb := rbJ) (J := [(15, (jc_M_worked_0bc29_15 x1 I))]) 99 400 xG xin_259 x6_259 okJ (fB_self h0) ?_ ?_
  · refine List.forall_mem_cons.mpr ⟨?_, fun q h => absurd h List.not_mem_nil⟩
    · rintro m _ _ I1 hB1 ⟨y1, y2, y3, rfl, rfl, ⟨hb, hx0⟩, hm⟩
      have hT := hp0.2.2.2 x1.toNat (by omega)
      have hT1 := hT.1
      have hT2 := hT.2.1
      refine And.intro ⟨rfl, by decide, by decide⟩ ?_
      refine Exists.intro xm_255 (And.intro mi_255 (And.intro ⟨rfl, rfl, rfl, rfl⟩ (And.intro rfl ?_)))
      refine fcallp hB1 (ct_M_textAt_ea474 (fBz h0 hB1) (by omega)) ?_
      rintro _ ⟨_, rfl, rfl⟩
      refine fload rL_741_741_1214_3414_200_0 h0 hB1 (by omega) ?_
      intro z2 lz2 uz2 qz2
      have w27 := (fld_at qz2 (1214 + 200 * x1.toNat) (by omega)).trans (sS_keep hB1 (by decide +kernel) _)
      refine And.intro (by omega) (And.intro ?_ ?_)
      · intro c3
        refine And.intro ⟨rfl, by decide, by decide⟩ ?_
        refine fload rL_749_749_0_99_1_0 h0 hB1 (by omega) ?_
        intro z4 lz4 uz4 qz4
        have pz4 := fld_at qz4 0 (by omega)
        refine And.intro (True.intro) ?_
        exact ⟨_, rfl, by omega⟩
      · intro c5
        refine And.intro ⟨rfl, by decide, by decide⟩ ?_
        refine Exists.intro xm_255 (And.intro mi_255 (And.intro ⟨rfl, rfl, rfl, rfl⟩ (And.intro rfl ?_)))
        refine fcallp hB1 (ct_M_textAt_ea474 (fBz h0 hB1) (by omega)) ?_
        rintro _ ⟨_, rfl, rfl⟩
        intro z7 hz7 ez7 bz7
        clear ez7
        have bz7 := bz7 (by omega)
        intro z8 hz8 ez8 bz8
        clear ez8
        have bz8 := bz8 (by omega)
        refine fload rL_741_741_1215_3609_200_194 h0 hB1 (by omega) ?_
        intro z9 lz9 uz9 qz9
        have w46 := (fld_at qz9 (1215 + 200 * x1.toNat + 2 * (0 + y3.toNat)) (by omega)).trans (sS_keep hB1 (by decide +kernel) _)
        refine And.intro ⟨rfl, by decide, by decide⟩ ?_
        refine Exists.intro xm_255 (And.intro mi_255 (And.intro ⟨rfl, rfl, rfl, rfl⟩ (And.intro rfl ?_)))
        refine fcallp hB1 (ct_M_textAt_ea474 (fBz h0 hB1) (by omega)) ?_
        rintro _ ⟨_, rfl, rfl⟩
        intro z11 hz11 ez11 bz11
        clear ez11
        have bz11 := bz11 (by omega)
        intro z12 hz12 ez12 bz12
        clear ez12
        have bz12 := bz12 (by omega)
        intro z13 hz13 ez13 bz13
        clear ez13
        have bz13 := bz13 (by omega)
        refine fload rL_741_741_1215_3609_200_194 h0 hB1 (by omega) ?_
        intro z14 lz14 uz14 qz14
        have w66 := (fld_at qz14 (1215 + 200 * x1.toNat + 2 * (0 + y3.toNat) + 1) (by omega)).trans (sS_keep hB1 (by decide +kernel) _)
        obtain ⟨hr0, hr⟩ : ∃ r, hgt I 741 (1215 + 200 * x1.toNat) 0 (y3.toNat + 1) 0 = some r := hgt_pre (l := (I 741 (1214 + 200 * x1.toNat)).toNat - (y3.toNat + 1)) (hgt_to hT.2.2 rfl rfl (by omega) rfl)
        obtain ⟨hh, he1, he2⟩ := Option.bind_eq_some_iff.mp hr
        have hh2 : hh = y2.toNat := Option.some.inj (he1.symm.trans hx0)
        have hc := hst_cases he2
        refine And.intro (by omega) (And.intro ?_ ?_)
        · intro c15
          refine And.intro (by omega) (And.intro ?_ ?_)
          · intro c16
            intro z17 hz17 bz17
            have bz17 := bz17 (by omega)
            refine And.intro ⟨rfl, by decide, by decide⟩ ?_
            intro z18 hz18 ez18 bz18
            clear ez18
            have bz18 := bz18 (by omega)
            refine And.intro ⟨rfl, by decide, by decide⟩ ?_
            intro z19 hz19 ez19 bz19
            clear ez19
            have bz19 := bz19 (by omega)
            refine fload rL_749_749_0_99_1_0 h0 hB1 (by omega) ?_
            intro z20 lz20 uz20 qz20
            refine And.intro ⟨rfl, by decide, by decide⟩ ?_
            refine fload rL_749_749_0_99_1_0 h0 hB1 (by omega) ?_
            intro z21 lz21 uz21 qz21
            refine Exists.intro xm_261 (And.intro mi_261 (And.intro ⟨rfl, rfl, rfl, rfl⟩ (And.intro True.intro ?_)))
            refine fcallp hB1 (ct_M_joined_15edc (fBz h0 hB1) (by omega) (by omega) (by omega)) ?_
            rintro _ ⟨z22, rfl, hz22⟩
            refine fstore rS_749_749_0_99_1_0 (fzs_sub (by decide +kernel) hW) (by omega) (by omega) ?_
            intro IhB23 ehB23 hB23
            have t24 := fup_self ehB23
            have t25 : IhB23 748 104 = I1 748 104 := (congrFun (congrFun ehB23 748) 104).trans (fup_ne (by omega))
            exact fcutJ (I := IhB23) (j := (jc_M_worked_0bc29_15 x1 I)) (lv' := [(0, .inr (.inr (some 740))), (1, .inl _), (2, .inl _), (3, .inl _)]) (And.intro rfl (And.intro rfl (And.intro rfl (And.intro rfl True.intro)))) ⟨_, _, _, rfl, rfl, ⟨by omega, hgt_to hr rfl rfl (by omega) (by omega)⟩, rfl⟩ (by omega)
          · intro c26
            refine And.intro ⟨rfl, by decide, by decide⟩ ?_
            intro z27 hz27 ez27 bz27
            clear ez27
            have bz27 := bz27 (by omega)
            refine And.intro ⟨rfl, by decide, by decide⟩ ?_
            intro z28 hz28 ez28 bz28
            clear ez28
            have bz28 := bz28 (by omega)
            refine fload rL_749_749_0_99_1_0 h0 hB1 (by omega) ?_
            intro z29 lz29 uz29 qz29
            refine And.intro (by omega) (And.intro ?_ ?_)
            · intro c30
              refine fstore rS_749_749_0_99_1_0 (fzs_sub (by decide +kernel) hW) (by omega) (by omega) ?_
              intro IhB31 ehB31 hB31
              have t32 := fup_self ehB31
              have t33 : IhB31 748 104 = I1 748 104 := (congrFun (congrFun ehB31 748) 104).trans (fup_ne (by omega))
              exact fcutJ (I := IhB31) (j := (jc_M_worked_0bc29_15 x1 I)) (lv' := [(0, .inr (.inr (some 740))), (1, .inl _), (2, .inl _), (3, .inl _)]) (And.intro rfl (And.intro rfl (And.intro rfl (And.intro rfl True.intro)))) ⟨_, _, _, rfl, rfl, ⟨by omega, hgt_to hr rfl rfl (by omega) (by omega)⟩, rfl⟩ (by omega)
            · intro c34
              refine fstore rS_749_749_0_99_1_0 (fzs_sub (by decide +kernel) hW) (by omega) (by omega) ?_
              intro IhB35 ehB35 hB35
              have t36 := fup_self ehB35
              have t37 : IhB35 748 104 = I1 748 104 := (congrFun (congrFun ehB35 748) 104).trans (fup_ne (by omega))
              exact fcutJ (I := IhB35) (j := (jc_M_worked_0bc29_15 x1 I)) (lv' := [(0, .inr (.inr (some 740))), (1, .inl _), (2, .inl _), (3, .inl _)]) (And.intro rfl (And.intro rfl (And.intro rfl (And.intro rfl True.intro)))) ⟨_, _, _, rfl, rfl, ⟨by omega, hgt_to hr rfl rfl (by omega) (by omega)⟩, rfl⟩ (by omega)
        · intro c38
          refine And.intro ⟨rfl, by decide, by decide⟩ ?_
          refine And.intro (by omega) (And.intro ?_ ?_)
          · intro c39
            refine And.intro ⟨rfl, by decide, by decide⟩ ?_
            refine fload rL_748_748_0_127_1_0 h0 hB1 (by omega) ?_
            intro z40 lz40 uz40 qz40
            refine fstore rS_749_749_0_99_1_0 (fzs_sub (by decide +kernel) hW) (by omega) (by omega) ?_
            intro IhB41 ehB41 hB41
            have t42 := fup_self ehB41
            have t43 : IhB41 748 104 = I1 748 104 := (congrFun (congrFun ehB41 748) 104).trans (fup_ne (by omega))
            intro z44 hz44 bz44
            have bz44 := bz44 (by omega)
            exact fcutJ (I := IhB41) (j := (jc_M_worked_0bc29_15 x1 I)) (lv' := [(0, .inr (.inr (some 740))), (1, .inl _), (2, .inl _), (3, .inl _)]) (And.intro rfl (And.intro rfl (And.intro rfl (And.intro rfl True.intro)))) ⟨_, _, _, rfl, rfl, ⟨by omega, hgt_to hr rfl rfl (by omega) (by omega)⟩, rfl⟩ (by omega)
          · intro c45
            refine fstore rS_749_749_0_99_1_0 (fzs_sub (by decide +kernel) hW) (by omega) (by omega) ?_
            intro IhB46 ehB46 hB46
            have t47 := fup_self ehB46
            have t48 : IhB46 748 104 = I1 748 104 := (congrFun (congrFun ehB46 748) 104).trans (fup_ne (by omega))
            intro z49 hz49 bz49
            have bz49 := bz49 (by omega)
            exact fcutJ (I := IhB46) (j := (jc_M_worked_0bc29_15 x1 I)) (lv' := [(0, .inr (.inr (some 740))), (1, .inl _), (2, .inl _), (3, .inl _)]) (And.intro rfl (And.intro rfl (And.intro rfl (And.intro rfl True.intro)))) ⟨_, _, _, rfl, rfl, ⟨by omega, hgt_to hr rfl rfl (by omega) (by omega)⟩, rfl⟩ (by omega)
  · have hB0 := fB_self (zn := znJ) (K := fKc wz_5ef89) h0
    refine And.intro ⟨rfl, by decide, by decide⟩ ?_
    refine Exists.intro xm_260 (And.intro mi_260 (And.intro ⟨rfl, rfl, rfl, rfl⟩ (And.intro rfl ?_)))
    refine fcallp hB0 (ct_M_level_daf8a (fBz h0 hB0)) ?_
    rintro _ ⟨z50, rfl, hz50⟩
    refine fstore rS_748_748_0_127_1_0 (fzs_sub (by decide +kernel) hW) (by omega) (by omega) ?_
    intro IhB51 ehB51 hB51
    have t52 := fup_self ehB51
    have t53 := fup_at ehB51 104 (by omega)
    exact fcutJ (I := IhB51) (j := (jc_M_worked_0bc29_15 x1 I)) (lv' := [(0, .inr (.inr (some 740))), (1, .inl _), (2, .inl _), (3, .inl _)]) (And.intro rfl (And.intro rfl (And.intro rfl (And.intro rfl True.intro)))) ⟨_, _, _, rfl, rfl, ⟨by omega, hgt_to (k := 0) (r := 0) rfl rfl rfl (by omega) (by omega)⟩, rfl⟩ (by omega)
set_option maxRecDepth 8000 in
theorem ct_M_least_31c1d {I : fH} {x0 : Int} {x1 : Int} (h0 : fB bsJ I) (ha0 : ((-2147483648) ≤ x0 ∧ x0 ≤ 2147483647)) (ha1 : ((-2147483648) ≤ x1 ∧ x1 ≤ 2147483647)) : fC ρ base n F xTc vwCl xTys D dA la gJ (fbz bsJ znJ (fKc []) I) xm_291 [.inl x0, .inl x1] I (fun _ r => ∃ z, r = some (.inl z) ∧ (((-2147483648) ≤ z ∧ z ≤ 2147483647) ∧ (z ≤ x0 ∧ z ≤ x1 ∧ (z = x0 ∨ z = x1)))) := by
  have hW : fzs [] (fKc []) := fKc_ok _
  refine f_meth (rb := rbJ) (J := []) 1 400 xG xin_291 x6_291 okJ (fB_self h0) ?_ ?_
  · exact fun q h => absurd h List.not_mem_nil
  · have hB0 := fB_self (zn := znJ) (K := fKc []) h0
    refine And.intro (by omega) (And.intro ?_ ?_)
    · intro c1
      refine And.intro (True.intro) ?_
      exact ⟨_, rfl, by omega⟩
    · intro c2
      refine And.intro (True.intro) ?_
      exact ⟨_, rfl, by omega⟩
set_option maxRecDepth 8000 in
theorem ct_M_isLetter_13ae5 {I : fH} {x1 : Int} (h0 : fB bsJ I) (ha1 : (0 ≤ x1 ∧ x1 ≤ 96)) : fC ρ base n F xTc vwCl xTys D dA la gJ (fbz bsJ znJ (fKc []) I) xm_315 [.inr (.inr (some 740)), .inl x1] I (fun _ r => ∃ z, r = some (.inl z) ∧ (((z = 1 ∧ (-2147483648) ≤ x1 ∧ x1 ≤ 95) ∨ z = 0) ∧ ((z = 1 → x1 < I 740 8 ∧ 97 ≤ I 747 x1.toNat ∧ I 747 x1.toNat ≤ 122) ∧ (z = 0 → ¬ (x1 < I 740 8 ∧ 97 ≤ I 747 x1.toNat ∧ I 747 x1.toNat ≤ 122))))) := by
  have hW : fzs [] (fKc []) := fKc_ok _
  refine f_meth (rb := rbJ) (J := []) 1 400 xG xin_315 x6_315 okJ (fB_self h0) ?_ ?_
  · exact fun q h => absurd h List.not_mem_nil
  · have hB0 := fB_self (zn := znJ) (K := fKc []) h0
    refine And.intro ⟨rfl, by decide, by decide⟩ (fgetf fb_740_8 h0 hB0 ?_)
    intro z1 lz1 uz1 qz1
    refine And.intro (by omega) (And.intro ?_ ?_)
    · intro c2
      refine And.intro (⟨by omega, by omega⟩) ?_
      exact ⟨_, rfl, by omega⟩
    · intro c3
      refine And.intro ⟨rfl, by decide, by decide⟩ ?_
      refine fload rL_747_747_0_95_1_0 h0 hB0 (by omega) ?_
      intro z4 lz4 uz4 qz4
      refine And.intro (by omega) ?_
      refine Exists.intro xm_238 (And.intro mi_238 (And.intro ⟨rfl, rfl, rfl, rfl⟩ (And.intro True.intro ?_)))
      refine fcallp hB0 (ct_M_isIn_27230 (fBz h0 hB0) (by omega) (by omega) (by omega)) ?_
      rintro _ ⟨z5, rfl, hz5⟩
      refine And.intro (by omega) (And.intro ?_ ?_)
      · intro c6
        refine And.intro (⟨by omega, by omega⟩) ?_
        exact ⟨_, rfl, by omega⟩
      · intro c7
        refine And.intro (⟨by omega, by omega⟩) ?_
        exact ⟨_, rfl, by omega⟩
set_option maxRecDepth 8000 in
theorem ct_M_isDigit_7604c {I : fH} {x1 : Int} (h0 : fB bsJ I) (ha1 : (0 ≤ x1 ∧ x1 ≤ 96)) : fC ρ base n F xTc vwCl xTys D dA la gJ (fbz bsJ znJ (fKc []) I) xm_316 [.inr (.inr (some 740)), .inl x1] I (fun _ r => ∃ z, r = some (.inl z) ∧ (((z = 1 ∧ (-2147483648) ≤ x1 ∧ x1 ≤ 95) ∨ z = 0) ∧ ((z = 1 → x1 < I 740 8 ∧ 48 ≤ I 747 x1.toNat ∧ I 747 x1.toNat ≤ 57) ∧ (z = 0 → ¬ (x1 < I 740 8 ∧ 48 ≤ I 747 x1.toNat ∧ I 747 x1.toNat ≤ 57))))) := by
  have hW : fzs [] (fKc []) := fKc_ok _
  refine f_meth (rb := rbJ) (J := []) 1 400 xG xin_316 x6_316 okJ (fB_self h0) ?_ ?_
  · exact fun q h => absurd h List.not_mem_nil
  · have hB0 := fB_self (zn := znJ) (K := fKc []) h0
    refine And.intro ⟨rfl, by decide, by decide⟩ (fgetf fb_740_8 h0 hB0 ?_)
    intro z1 lz1 uz1 qz1
    refine And.intro (by omega) (And.intro ?_ ?_)
    · intro c2
      refine And.intro (⟨by omega, by omega⟩) ?_
      exact ⟨_, rfl, by omega⟩
    · intro c3
      refine And.intro ⟨rfl, by decide, by decide⟩ ?_
      refine fload rL_747_747_0_95_1_0 h0 hB0 (by omega) ?_
      intro z4 lz4 uz4 qz4
      refine And.intro (by omega) ?_
      refine Exists.intro xm_238 (And.intro mi_238 (And.intro ⟨rfl, rfl, rfl, rfl⟩ (And.intro True.intro ?_)))
      refine fcallp hB0 (ct_M_isIn_27230 (fBz h0 hB0) (by omega) (by omega) (by omega)) ?_
      rintro _ ⟨z5, rfl, hz5⟩
      refine And.intro (by omega) (And.intro ?_ ?_)
      · intro c6
        refine And.intro (⟨by omega, by omega⟩) ?_
        exact ⟨_, rfl, by omega⟩
      · intro c7
        refine And.intro (⟨by omega, by omega⟩) ?_
        exact ⟨_, rfl, by omega⟩
abbrev jc_M_next_c8003_34 (I0 : fH) : Nat → fL → List fV → fH → Prop := fun m lv st I => ∃ (y1 : Int) (y2 : Int), lv = [(0, .inr (.inr (some 740))), (1, .inl y1), (2, .inl y2)] ∧ st = [] ∧ (((0 ≤ y1 ∧ y1 ≤ 1) ∧ (0 ≤ y2 ∧ y2 ≤ 96) ∧ (I0 740 10 ≤ I 740 10) ∧ (I 740 10 ≤ I 740 8))) ∧ m = (203 + 1 * (96 - I 740 10) : Int).toNat
abbrev jc_M_next_c8003_72 (I0 : fH) : Nat → fL → List fV → fH → Prop := fun m lv st I => ∃ (y1 : Int) (y2 : Int), lv = [(0, .inr (.inr (some 740))), (1, .inl y1), (2, .inl y2)] ∧ st = [] ∧ (((0 ≤ y1 ∧ y1 ≤ 1) ∧ (0 ≤ y2 ∧ y2 ≤ 96) ∧ (I0 740 10 ≤ I 740 10) ∧ (I 740 10 ≤ I 740 8))) ∧ m = (202 : Int).toNat
abbrev jc_M_next_c8003_90 (I0 : fH) : Nat → fL → List fV → fH → Prop := fun m lv st I => ∃ (y1 : Int), lv = [(0, .inr (.inr (some 740))), (1, .inl y1)] ∧ st = [] ∧ (((0 ≤ y1 ∧ y1 ≤ 1) ∧ (I0 740 10 ≤ I 740 10) ∧ (I 740 10 ≤ I 740 8))) ∧ m = (201 : Int).toNat
abbrev jc_M_next_c8003_117 (I0 : fH) : Nat → fL → List fV → fH → Prop := fun m lv st I => ∃ (y1 : Int), lv = [(0, .inr (.inr (some 740))), (1, .inl y1)] ∧ st = [] ∧ (((0 ≤ y1 ∧ y1 ≤ 1) ∧ (I0 740 10 ≤ I 740 9) ∧ (I 740 9 = I 740 10) ∧ (I 740 9 < I 740 8))) ∧ m = (200 : Int).toNat
abbrev jc_M_next_c8003_128 (I0 : fH) : Nat → fL → List fV → fH → Prop := fun m lv st I => ∃ (y1 : Int), lv = [(0, .inr (.inr (some 740))), (1, .inl y1)] ∧ st = [] ∧ (((0 ≤ y1 ∧ y1 ≤ 1) ∧ (I0 740 10 ≤ I 740 9) ∧ (I 740 9 ≤ I 740 10) ∧ (I 740 10 ≤ I 740 8) ∧ (I 740 9 < I 740 8) ∧ (I 740 10 = I 740 9 → 97 ≤ I 747 (I 740 9).toNat ∧ I 747 (I 740 9).toNat ≤ 122))) ∧ m = (103 + 1 * (96 - I 740 10) : Int).toNat
abbrev jc_M_next_c8003_152 (I0 : fH) : Nat → fL → List fV → fH → Prop := fun m lv st I => ∃ (y1 : Int), lv = [(0, .inr (.inr (some 740))), (1, .inl y1)] ∧ st = [] ∧ (((0 ≤ y1 ∧ y1 ≤ 1) ∧ (I0 740 10 ≤ I 740 9) ∧ (I 740 9 < I 740 10) ∧ (I 740 10 ≤ I 740 8))) ∧ m = (102 : Int).toNat
abbrev jc_M_next_c8003_198 (I0 : fH) : Nat → fL → List fV → fH → Prop := fun m lv st I => ∃ (y1 : Int), lv = [(0, .inr (.inr (some 740))), (1, .inl y1)] ∧ st = [] ∧ (((0 ≤ y1 ∧ y1 ≤ 1) ∧ (I0 740 10 ≤ I 740 9) ∧ (I 740 9 = I 740 10) ∧ (I 740 9 < I 740 8))) ∧ m = (101 : Int).toNat
abbrev jc_M_next_c8003_214 (I0 : fH) : Nat → fL → List fV → fH → Prop := fun m lv st I => ∃ (y1 : Int), lv = [(0, .inr (.inr (some 740))), (1, .inl y1)] ∧ st = [] ∧ (((0 ≤ y1 ∧ y1 ≤ 1) ∧ (I0 740 10 ≤ I 740 9) ∧ (I 740 9 ≤ I 740 10) ∧ (I 740 10 ≤ I 740 8) ∧ (I 740 9 < I 740 8) ∧ (I 740 10 = I 740 9 → 48 ≤ I 747 (I 740 9).toNat ∧ I 747 (I 740 9).toNat ≤ 57))) ∧ m = (4 + 1 * (96 - I 740 10) : Int).toNat
abbrev jc_M_next_c8003_282 (I0 : fH) : Nat → fL → List fV → fH → Prop := fun m lv st I => ∃ (y1 : Int), lv = [(0, .inr (.inr (some 740))), (1, .inl y1)] ∧ st = [] ∧ (((0 ≤ y1 ∧ y1 ≤ 1) ∧ (I0 740 10 ≤ I 740 9) ∧ (I 740 9 < I 740 10) ∧ (I 740 10 ≤ I 740 8))) ∧ m = (3 : Int).toNat
abbrev jc_M_next_c8003_311 (I0 : fH) : Nat → fL → List fV → fH → Prop := fun m lv st I => lv = [(0, .inr (.inr (some 740)))] ∧ st = [] ∧ (((I0 740 10 ≤ I 740 9) ∧ (I 740 9 = I 740 10) ∧ (I 740 9 < I 740 8))) ∧ m = (2 : Int).toNat
abbrev jc_M_next_c8003_339 (I0 : fH) : Nat → fL → List fV → fH → Prop := fun m lv st I => lv = [] ∧ st = [] ∧ (((0 ≤ I 740 11 ∧ I 740 11 ≤ 4) ∧ (I0 740 10 ≤ I 740 9) ∧ (I 740 9 ≤ I 740 10) ∧ (I 740 10 ≤ I 740 8) ∧ (I 740 11 = 0 ∨ I 740 9 < I 740 10))) ∧ m = (1 : Int).toNat
set_option maxRecDepth 8000 in
theorem ct_M_next_c8003 {I : fH}  (h0 : fB bsJ I) (hp0 : I 740 10 ≤ I 740 8) : fC ρ base n F xTc vwCl xTys D dA la gJ (fbz bsJ znJ (fKc wz_1c18d) I) xm_314 [.inr (.inr (some 740))] I (fun I' r => r = none ∧ (I 740 10 ≤ I' 740 9 ∧ I' 740 9 ≤ I' 740 10 ∧ I' 740 10 ≤ I' 740 8 ∧ (I' 740 11 = 0 ∨ I' 740 9 < I' 740 10))) := by
  have hW : fzs wz_1c18d (fKc wz_1c18d) := fKc_ok _
  refine f_meth (rb := rbJ) (J := [(34, (jc_M_next_c8003_34 I)), (72, (jc_M_next_c8003_72 I)), (90, (jc_M_next_c8003_90 I)), (117, (jc_M_next_c8003_117 I)), (128, (jc_M_next_c8003_128 I)), (152, (jc_M_next_c8003_152 I)), (198, (jc_M_next_c8003_198 I)), (214, (jc_M_next_c8003_214 I)), (282, (jc_M_next_c8003_282 I)), (311, (jc_M_next_c8003_311 I)), (339, (jc_M_next_c8003_339 I))]) 300 400 xG xin_314 x6_314 okJ (fB_self h0) ?_ ?_
  · refine List.forall_mem_cons.mpr ⟨?_, List.forall_mem_cons.mpr ⟨?_, List.forall_mem_cons.mpr ⟨?_, List.forall_mem_cons.mpr ⟨?_, List.forall_mem_cons.mpr ⟨?_, List.forall_mem_cons.mpr ⟨?_, List.forall_mem_cons.mpr ⟨?_, List.forall_mem_cons.mpr ⟨?_, List.forall_mem_cons.mpr ⟨?_, List.forall_mem_cons.mpr ⟨?_, List.forall_mem_cons.mpr ⟨?_, fun q h => absurd h List.not_mem_nil⟩⟩⟩⟩⟩⟩⟩⟩⟩⟩⟩
    · rintro m _ _ I1 hB1 ⟨y1, y2, rfl, rfl, hb, hm⟩
      have k1 := fBz_eq hB1 (a := 740) (j := 8) (by decide +kernel)
      have b2 := fBd fb_740_8 (fBz h0 hB1)
      refine And.intro ⟨rfl, by decide, by decide⟩ (fgetf fb_740_10 h0 hB1 ?_)
      intro z3 lz3 uz3 qz3
      refine And.intro ⟨rfl, by decide, by decide⟩ (fgetf fb_740_8 h0 hB1 ?_)
      intro z4 lz4 uz4 qz4
      refine And.intro (by omega) (And.intro ?_ ?_)
      · intro c5
        exact fcutJ (I := I1) (j := (jc_M_next_c8003_72 I)) (lv' := [(0, .inr (.inr (some 740))), (1, .inl _), (2, .inl _)]) (And.intro rfl (And.intro rfl (And.intro rfl True.intro))) ⟨_, _, rfl, rfl, by omega, rfl⟩ (by omega)
      · intro c6
        refine And.intro ⟨rfl, by decide, by decide⟩ ?_
        refine And.intro ⟨rfl, by decide, by decide⟩ (fgetf fb_740_10 h0 hB1 ?_)
        intro z7 lz7 uz7 qz7
        refine fload rL_747_747_0_95_1_0 h0 hB1 (by omega) ?_
        intro z8 lz8 uz8 qz8
        refine And.intro (by omega) (And.intro ?_ ?_)
        · intro c9
          exact fcutJ (I := I1) (j := (jc_M_next_c8003_72 I)) (lv' := [(0, .inr (.inr (some 740))), (1, .inl _), (2, .inl _)]) (And.intro rfl (And.intro rfl (And.intro rfl True.intro))) ⟨_, _, rfl, rfl, by omega, rfl⟩ (by omega)
        · intro c10
          refine And.intro ⟨rfl, by decide, by decide⟩ (fgetf fb_740_10 h0 hB1 ?_)
          intro z11 lz11 uz11 qz11
          refine And.intro ⟨rfl, by decide, by decide⟩ (And.intro rfl (And.intro (Or.inl rfl) (fputf fb_740_10 (by decide +kernel) hW (by omega) ?_)))
          intro IhB12 ehB12 hB12
          have t13 : IhB12 740 8 = I1 740 8 := (congrFun (congrFun ehB12 740) 8).trans (fup_ne (by omega))
          have t14 : IhB12 740 9 = I1 740 9 := (congrFun (congrFun ehB12 740) 9).trans (fup_ne (by omega))
          have t15 := fup_at ehB12 10 (by omega)
          have t16 : IhB12 740 11 = I1 740 11 := (congrFun (congrFun ehB12 740) 11).trans (fup_ne (by omega))
          have k17 := fBz_eq hB12 (a := 740) (j := 8) (by decide +kernel)
          exact fcutJ (I := IhB12) (j := (jc_M_next_c8003_34 I)) (lv' := [(0, .inr (.inr (some 740))), (1, .inl _), (2, .inl _)]) (And.intro rfl (And.intro rfl (And.intro rfl True.intro))) ⟨_, _, rfl, rfl, by omega, rfl⟩ (by omega)
    · rintro m _ _ I1 hB1 ⟨y1, y2, rfl, rfl, hb, hm⟩
      have k18 := fBz_eq hB1 (a := 740) (j := 8) (by decide +kernel)
      have b19 := fBd fb_740_8 (fBz h0 hB1)
      refine And.intro (by omega) (And.intro ?_ ?_)
      · intro c20
        exact fcutJ (I := I1) (j := (jc_M_next_c8003_90 I)) (lv' := [(0, .inr (.inr (some 740))), (1, .inl _)]) (And.intro rfl (And.intro rfl True.intro)) ⟨_, rfl, rfl, by omega, rfl⟩ (by omega)
      · intro c21
        refine And.intro ⟨rfl, by decide, by decide⟩ (fgetf fb_740_10 h0 hB1 ?_)
        intro z22 lz22 uz22 qz22
        refine And.intro (by omega) (And.intro ?_ ?_)
        · intro c23
          exact fcutJ (I := I1) (j := (jc_M_next_c8003_90 I)) (lv' := [(0, .inr (.inr (some 740))), (1, .inl _)]) (And.intro rfl (And.intro rfl True.intro)) ⟨_, rfl, rfl, by omega, rfl⟩ (by omega)
        · intro c24
          exact fcutJ (I := I1) (j := (jc_M_next_c8003_90 I)) (lv' := [(0, .inr (.inr (some 740))), (1, .inl _)]) (And.intro rfl (And.intro rfl True.intro)) ⟨_, rfl, rfl, by omega, rfl⟩ (by omega)
    · rintro m _ _ I1 hB1 ⟨y1, rfl, rfl, hb, hm⟩
      have k25 := fBz_eq hB1 (a := 740) (j := 8) (by decide +kernel)
      have b26 := fBd fb_740_8 (fBz h0 hB1)
      refine And.intro ⟨rfl, by decide, by decide⟩ (fgetf fb_740_10 h0 hB1 ?_)
      intro z27 lz27 uz27 qz27
      refine And.intro ⟨rfl, by decide, by decide⟩ (And.intro rfl (And.intro (Or.inl rfl) (fputf fb_740_9 (by decide +kernel) hW (by omega) ?_)))
      intro IhB28 ehB28 hB28
      have t29 : IhB28 740 8 = I1 740 8 := (congrFun (congrFun ehB28 740) 8).trans (fup_ne (by omega))
      have t30 := fup_at ehB28 9 (by omega)
      have t31 : IhB28 740 10 = I1 740 10 := (congrFun (congrFun ehB28 740) 10).trans (fup_ne (by omega))
      have t32 : IhB28 740 11 = I1 740 11 := (congrFun (congrFun ehB28 740) 11).trans (fup_ne (by omega))
      have k33 := fBz_eq hB28 (a := 740) (j := 8) (by decide +kernel)
      refine And.intro ⟨rfl, by decide, by decide⟩ (fgetf fb_740_9 h0 hB28 ?_)
      intro z34 lz34 uz34 qz34
      refine And.intro ⟨rfl, by decide, by decide⟩ (fgetf fb_740_8 h0 hB28 ?_)
      intro z35 lz35 uz35 qz35
      refine And.intro (by omega) (And.intro ?_ ?_)
      · intro c36
        exact fcutJ (I := IhB28) (j := (jc_M_next_c8003_117 I)) (lv' := [(0, .inr (.inr (some 740))), (1, .inl _)]) (And.intro rfl (And.intro rfl True.intro)) ⟨_, rfl, rfl, by omega, rfl⟩ (by omega)
      · intro c37
        refine And.intro ⟨rfl, by decide, by decide⟩ (And.intro rfl (And.intro (Or.inl rfl) (fputf fb_740_11 (by decide +kernel) hW (by omega) ?_)))
        intro IhB38 ehB38 hB38
        have t39 : IhB38 740 8 = IhB28 740 8 := (congrFun (congrFun ehB38 740) 8).trans (fup_ne (by omega))
        have t40 : IhB38 740 9 = IhB28 740 9 := (congrFun (congrFun ehB38 740) 9).trans (fup_ne (by omega))
        have t41 : IhB38 740 10 = IhB28 740 10 := (congrFun (congrFun ehB38 740) 10).trans (fup_ne (by omega))
        have t42 := fup_at ehB38 11 (by omega)
        have k43 := fBz_eq hB38 (a := 740) (j := 8) (by decide +kernel)
        exact fcutJ (I := IhB38) (j := (jc_M_next_c8003_339 I)) (lv' := []) (True.intro) ⟨rfl, rfl, by omega, rfl⟩ (by omega)
    · rintro m _ _ I1 hB1 ⟨y1, rfl, rfl, hb, hm⟩
      have k44 := fBz_eq hB1 (a := 740) (j := 8) (by decide +kernel)
      have b45 := fBd fb_740_8 (fBz h0 hB1)
      refine And.intro ⟨rfl, by decide, by decide⟩ (fgetf fb_740_9 h0 hB1 ?_)
      intro z46 lz46 uz46 qz46
      subst qz46
      refine Exists.intro xm_315 (And.intro mi_315 (And.intro ⟨rfl, rfl, rfl, rfl⟩ (And.intro rfl ?_)))
      refine fcallp hB1 (ct_M_isLetter_13ae5 (fBz h0 hB1) (by omega)) ?_
      rintro _ ⟨z47, rfl, hz47⟩
      have wd : I1 740 10 = I1 740 9 → I1 747 (I1 740 10).toNat = I1 747 (I1 740 9).toNat := fun q => by rw [q]
      refine And.intro (by omega) (And.intro ?_ ?_)
      · intro c48
        exact fcutJ (I := I1) (j := (jc_M_next_c8003_198 I)) (lv' := [(0, .inr (.inr (some 740))), (1, .inl _)]) (And.intro rfl (And.intro rfl True.intro)) ⟨_, rfl, rfl, by omega, rfl⟩ (by omega)
      · intro c49
        exact fcutJ (I := I1) (j := (jc_M_next_c8003_128 I)) (lv' := [(0, .inr (.inr (some 740))), (1, .inl _)]) (And.intro rfl (And.intro rfl True.intro)) ⟨_, rfl, rfl, by omega, rfl⟩ (by omega)
    · rintro m _ _ I1 hB1 ⟨y1, rfl, rfl, hb, hm⟩
      have k50 := fBz_eq hB1 (a := 740) (j := 8) (by decide +kernel)
      have b51 := fBd fb_740_8 (fBz h0 hB1)
      refine And.intro ⟨rfl, by decide, by decide⟩ (fgetf fb_740_10 h0 hB1 ?_)
      intro z52 lz52 uz52 qz52
      subst qz52
      refine Exists.intro xm_315 (And.intro mi_315 (And.intro ⟨rfl, rfl, rfl, rfl⟩ (And.intro rfl ?_)))
      refine fcallp hB1 (ct_M_isLetter_13ae5 (fBz h0 hB1) (by omega)) ?_
      rintro _ ⟨z53, rfl, hz53⟩
      have wc : I1 740 10 = I1 740 9 → I1 747 (I1 740 10).toNat = I1 747 (I1 740 9).toNat := fun q => by rw [q]
      refine And.intro (by omega) (And.intro ?_ ?_)
      · intro c54
        exact fcutJ (I := I1) (j := (jc_M_next_c8003_152 I)) (lv' := [(0, .inr (.inr (some 740))), (1, .inl _)]) (And.intro rfl (And.intro rfl True.intro)) ⟨_, rfl, rfl, by omega, rfl⟩ (by omega)
      · intro c55
        refine And.intro ⟨rfl, by decide, by decide⟩ (fgetf fb_740_10 h0 hB1 ?_)
        intro z56 lz56 uz56 qz56
        refine And.intro ⟨rfl, by decide, by decide⟩ (And.intro rfl (And.intro (Or.inl rfl) (fputf fb_740_10 (by decide +kernel) hW (by omega) ?_)))
        intro IhB57 ehB57 hB57
        have t58 : IhB57 740 9 = I1 740 9 := (congrFun (congrFun ehB57 740) 9).trans (fup_ne (by omega))
        have t59 := fup_at ehB57 10 (by omega)
        have t60 : IhB57 740 11 = I1 740 11 := (congrFun (congrFun ehB57 740) 11).trans (fup_ne (by omega))
        have k61 := fBz_eq hB57 (a := 740) (j := 8) (by decide +kernel)
        exact fcutJ (I := IhB57) (j := (jc_M_next_c8003_128 I)) (lv' := [(0, .inr (.inr (some 740))), (1, .inl _)]) (And.intro rfl (And.intro rfl True.intro)) ⟨_, rfl, rfl, by omega, rfl⟩ (by omega)
    · rintro m _ _ I1 hB1 ⟨y1, rfl, rfl, hb, hm⟩
      have k62 := fBz_eq hB1 (a := 740) (j := 8) (by decide +kernel)
      have b63 := fBd fb_740_8 (fBz h0 hB1)
      refine And.intro (by omega) (And.intro ?_ ?_)
      · intro c64
        refine And.intro ⟨rfl, by decide, by decide⟩ (And.intro rfl (And.intro (Or.inl rfl) (fputf fb_740_11 (by decide +kernel) hW (by omega) ?_)))
        intro IhB65 ehB65 hB65
        have t66 : IhB65 740 9 = I1 740 9 := (congrFun (congrFun ehB65 740) 9).trans (fup_ne (by omega))
        have t67 : IhB65 740 10 = I1 740 10 := (congrFun (congrFun ehB65 740) 10).trans (fup_ne (by omega))
        have t68 := fup_at ehB65 11 (by omega)
        have k69 := fBz_eq hB65 (a := 740) (j := 8) (by decide +kernel)
        refine And.intro ⟨rfl, by decide, by decide⟩ (fgetf fb_740_10 h0 hB65 ?_)
        intro z70 lz70 uz70 qz70
        refine And.intro ⟨rfl, by decide, by decide⟩ (fgetf fb_740_9 h0 hB65 ?_)
        intro z71 lz71 uz71 qz71
        refine And.intro (by omega) (And.intro ?_ ?_)
        · intro c72
          refine And.intro ⟨rfl, by decide, by decide⟩ (And.intro rfl (And.intro (Or.inl rfl) (fputf fb_740_13 (by decide +kernel) hW (by omega) ?_)))
          intro IhB73 ehB73 hB73
          have t74 : IhB73 740 9 = IhB65 740 9 := (congrFun (congrFun ehB73 740) 9).trans (fup_ne (by omega))
          have t75 : IhB73 740 10 = IhB65 740 10 := (congrFun (congrFun ehB73 740) 10).trans (fup_ne (by omega))
          have t76 : IhB73 740 11 = IhB65 740 11 := (congrFun (congrFun ehB73 740) 11).trans (fup_ne (by omega))
          have t77 := fup_at ehB73 13 (by omega)
          have k78 := fBz_eq hB73 (a := 740) (j := 8) (by decide +kernel)
          exact fcutJ (I := IhB73) (j := (jc_M_next_c8003_339 I)) (lv' := []) (True.intro) ⟨rfl, rfl, by omega, rfl⟩ (by omega)
        · intro c79
          refine And.intro ⟨rfl, by decide, by decide⟩ ?_
          refine And.intro ⟨rfl, by decide, by decide⟩ (fgetf fb_740_9 h0 hB65 ?_)
          intro z80 lz80 uz80 qz80
          refine fload rL_747_747_0_95_1_0 h0 hB65 (by omega) ?_
          intro z81 lz81 uz81 qz81
          refine And.intro ⟨rfl, by decide, by decide⟩ (And.intro rfl (And.intro (Or.inl rfl) (fputf fb_740_13 (by decide +kernel) hW (by omega) ?_)))
          intro IhB82 ehB82 hB82
          have t83 : IhB82 740 9 = IhB65 740 9 := (congrFun (congrFun ehB82 740) 9).trans (fup_ne (by omega))
          have t84 : IhB82 740 10 = IhB65 740 10 := (congrFun (congrFun ehB82 740) 10).trans (fup_ne (by omega))
          have t85 : IhB82 740 11 = IhB65 740 11 := (congrFun (congrFun ehB82 740) 11).trans (fup_ne (by omega))
          have t86 := fup_at ehB82 13 (by omega)
          have k87 := fBz_eq hB82 (a := 740) (j := 8) (by decide +kernel)
          exact fcutJ (I := IhB82) (j := (jc_M_next_c8003_339 I)) (lv' := []) (True.intro) ⟨rfl, rfl, by omega, rfl⟩ (by omega)
      · intro c88
        refine And.intro ⟨rfl, by decide, by decide⟩ (And.intro rfl (And.intro (Or.inl rfl) (fputf fb_740_11 (by decide +kernel) hW (by omega) ?_)))
        intro IhB89 ehB89 hB89
        have t90 : IhB89 740 9 = I1 740 9 := (congrFun (congrFun ehB89 740) 9).trans (fup_ne (by omega))
        have t91 : IhB89 740 10 = I1 740 10 := (congrFun (congrFun ehB89 740) 10).trans (fup_ne (by omega))
        have t92 := fup_at ehB89 11 (by omega)
        have k93 := fBz_eq hB89 (a := 740) (j := 8) (by decide +kernel)
        refine And.intro ⟨rfl, by decide, by decide⟩ (fgetf fb_740_10 h0 hB89 ?_)
        intro z94 lz94 uz94 qz94
        refine And.intro ⟨rfl, by decide, by decide⟩ (fgetf fb_740_9 h0 hB89 ?_)
        intro z95 lz95 uz95 qz95
        refine And.intro (by omega) (And.intro ?_ ?_)
        · intro c96
          refine And.intro ⟨rfl, by decide, by decide⟩ (And.intro rfl (And.intro (Or.inl rfl) (fputf fb_740_13 (by decide +kernel) hW (by omega) ?_)))
          intro IhB97 ehB97 hB97
          have t98 : IhB97 740 9 = IhB89 740 9 := (congrFun (congrFun ehB97 740) 9).trans (fup_ne (by omega))
          have t99 : IhB97 740 10 = IhB89 740 10 := (congrFun (congrFun ehB97 740) 10).trans (fup_ne (by omega))
          have t100 : IhB97 740 11 = IhB89 740 11 := (congrFun (congrFun ehB97 740) 11).trans (fup_ne (by omega))
          have t101 := fup_at ehB97 13 (by omega)
          have k102 := fBz_eq hB97 (a := 740) (j := 8) (by decide +kernel)
          exact fcutJ (I := IhB97) (j := (jc_M_next_c8003_339 I)) (lv' := []) (True.intro) ⟨rfl, rfl, by omega, rfl⟩ (by omega)
        · intro c103
          refine And.intro ⟨rfl, by decide, by decide⟩ ?_
          refine And.intro ⟨rfl, by decide, by decide⟩ (fgetf fb_740_9 h0 hB89 ?_)
          intro z104 lz104 uz104 qz104
          refine fload rL_747_747_0_95_1_0 h0 hB89 (by omega) ?_
          intro z105 lz105 uz105 qz105
          refine And.intro ⟨rfl, by decide, by decide⟩ (And.intro rfl (And.intro (Or.inl rfl) (fputf fb_740_13 (by decide +kernel) hW (by omega) ?_)))
          intro IhB106 ehB106 hB106
          have t107 : IhB106 740 9 = IhB89 740 9 := (congrFun (congrFun ehB106 740) 9).trans (fup_ne (by omega))
          have t108 : IhB106 740 10 = IhB89 740 10 := (congrFun (congrFun ehB106 740) 10).trans (fup_ne (by omega))
          have t109 : IhB106 740 11 = IhB89 740 11 := (congrFun (congrFun ehB106 740) 11).trans (fup_ne (by omega))
          have t110 := fup_at ehB106 13 (by omega)
          have k111 := fBz_eq hB106 (a := 740) (j := 8) (by decide +kernel)
          exact fcutJ (I := IhB106) (j := (jc_M_next_c8003_339 I)) (lv' := []) (True.intro) ⟨rfl, rfl, by omega, rfl⟩ (by omega)
    · rintro m _ _ I1 hB1 ⟨y1, rfl, rfl, hb, hm⟩
      have k112 := fBz_eq hB1 (a := 740) (j := 8) (by decide +kernel)
      have b113 := fBd fb_740_8 (fBz h0 hB1)
      refine And.intro ⟨rfl, by decide, by decide⟩ (fgetf fb_740_9 h0 hB1 ?_)
      intro z114 lz114 uz114 qz114
      subst qz114
      refine Exists.intro xm_316 (And.intro mi_316 (And.intro ⟨rfl, rfl, rfl, rfl⟩ (And.intro rfl ?_)))
      refine fcallp hB1 (ct_M_isDigit_7604c (fBz h0 hB1) (by omega)) ?_
      rintro _ ⟨z115, rfl, hz115⟩
      have wd : I1 740 10 = I1 740 9 → I1 747 (I1 740 10).toNat = I1 747 (I1 740 9).toNat := fun q => by rw [q]
      refine And.intro (by omega) (And.intro ?_ ?_)
      · intro c116
        exact fcutJ (I := I1) (j := (jc_M_next_c8003_311 I)) (lv' := [(0, .inr (.inr (some 740)))]) (And.intro rfl True.intro) ⟨rfl, rfl, by omega, rfl⟩ (by omega)
      · intro c117
        refine And.intro ⟨rfl, by decide, by decide⟩ (And.intro rfl (And.intro (Or.inl rfl) (fputf fb_740_12 (by decide +kernel) hW (by omega) ?_)))
        intro IhB118 ehB118 hB118
        have t119 : IhB118 740 9 = I1 740 9 := (congrFun (congrFun ehB118 740) 9).trans (fup_ne (by omega))
        have t120 : IhB118 740 10 = I1 740 10 := (congrFun (congrFun ehB118 740) 10).trans (fup_ne (by omega))
        have t121 : IhB118 740 11 = I1 740 11 := (congrFun (congrFun ehB118 740) 11).trans (fup_ne (by omega))
        have k122 := fBz_eq hB118 (a := 740) (j := 8) (by decide +kernel)
        have w214 : IhB118 747 (IhB118 740 9).toNat = I1 747 (I1 740 9).toNat := by rw [fup_other ehB118 740 9 (Or.inr (by omega)), fup_other ehB118 747 _ (Or.inl (by decide))]
        exact fcutJ (I := IhB118) (j := (jc_M_next_c8003_214 I)) (lv' := [(0, .inr (.inr (some 740))), (1, .inl _)]) (And.intro rfl (And.intro rfl True.intro)) ⟨_, rfl, rfl, by omega, rfl⟩ (by omega)
    · rintro m _ _ I1 hB1 ⟨y1, rfl, rfl, hb, hm⟩
      have k123 := fBz_eq hB1 (a := 740) (j := 8) (by decide +kernel)
      have b124 := fBd fb_740_8 (fBz h0 hB1)
      refine And.intro ⟨rfl, by decide, by decide⟩ (fgetf fb_740_10 h0 hB1 ?_)
      intro z125 lz125 uz125 qz125
      subst qz125
      refine Exists.intro xm_316 (And.intro mi_316 (And.intro ⟨rfl, rfl, rfl, rfl⟩ (And.intro rfl ?_)))
      refine fcallp hB1 (ct_M_isDigit_7604c (fBz h0 hB1) (by omega)) ?_
      rintro _ ⟨z126, rfl, hz126⟩
      have wc : I1 740 10 = I1 740 9 → I1 747 (I1 740 10).toNat = I1 747 (I1 740 9).toNat := fun q => by rw [q]
      refine And.intro (by omega) (And.intro ?_ ?_)
      · intro c127
        exact fcutJ (I := I1) (j := (jc_M_next_c8003_282 I)) (lv' := [(0, .inr (.inr (some 740))), (1, .inl _)]) (And.intro rfl (And.intro rfl True.intro)) ⟨_, rfl, rfl, by omega, rfl⟩ (by omega)
      · intro c128
        refine And.intro ⟨rfl, by decide, by decide⟩ (fgetf fb_740_10 h0 hB1 ?_)
        intro z129 lz129 uz129 qz129
        refine And.intro ⟨rfl, by decide, by decide⟩ (fgetf fb_740_9 h0 hB1 ?_)
        intro z130 lz130 uz130 qz130
        refine And.intro (by omega) (And.intro ?_ ?_)
        · intro c131
          refine And.intro ⟨rfl, by decide, by decide⟩ (fgetf fb_740_12 h0 hB1 ?_)
          intro z132 lz132 uz132 qz132
          refine And.intro ⟨rfl, by decide, by decide⟩ (And.intro rfl (And.intro (Or.inl rfl) (fputf fb_740_12 (by decide +kernel) hW (by omega) ?_)))
          intro IhB133 ehB133 hB133
          have t134 : IhB133 740 9 = I1 740 9 := (congrFun (congrFun ehB133 740) 9).trans (fup_ne (by omega))
          have t135 : IhB133 740 10 = I1 740 10 := (congrFun (congrFun ehB133 740) 10).trans (fup_ne (by omega))
          have t136 : IhB133 740 11 = I1 740 11 := (congrFun (congrFun ehB133 740) 11).trans (fup_ne (by omega))
          have t137 := fup_at ehB133 12 (by omega)
          have k138 := fBz_eq hB133 (a := 740) (j := 8) (by decide +kernel)
          refine And.intro ⟨rfl, by decide, by decide⟩ (fgetf fb_740_10 h0 hB133 ?_)
          intro z139 lz139 uz139 qz139
          refine And.intro ⟨rfl, by decide, by decide⟩ (And.intro rfl (And.intro (Or.inl rfl) (fputf fb_740_10 (by decide +kernel) hW (by omega) ?_)))
          intro IhB140 ehB140 hB140
          have t141 : IhB140 740 9 = IhB133 740 9 := (congrFun (congrFun ehB140 740) 9).trans (fup_ne (by omega))
          have t142 := fup_at ehB140 10 (by omega)
          have t143 : IhB140 740 11 = IhB133 740 11 := (congrFun (congrFun ehB140 740) 11).trans (fup_ne (by omega))
          have t144 : IhB140 740 12 = IhB133 740 12 := (congrFun (congrFun ehB140 740) 12).trans (fup_ne (by omega))
          have k145 := fBz_eq hB140 (a := 740) (j := 8) (by decide +kernel)
          exact fcutJ (I := IhB140) (j := (jc_M_next_c8003_214 I)) (lv' := [(0, .inr (.inr (some 740))), (1, .inl _)]) (And.intro rfl (And.intro rfl True.intro)) ⟨_, rfl, rfl, by omega, rfl⟩ (by omega)
        · intro c146
          refine And.intro ⟨rfl, by decide, by decide⟩ (fgetf fb_740_12 h0 hB1 ?_)
          intro z147 lz147 uz147 qz147
          intro z148 hz148 ez148 bz148
          clear ez148
          try replace bz148 := bz148 (by omega)
          refine And.intro ⟨rfl, by decide, by decide⟩ ?_
          refine And.intro ⟨rfl, by decide, by decide⟩ (fgetf fb_740_10 h0 hB1 ?_)
          intro z149 lz149 uz149 qz149
          refine fload rL_747_747_0_95_1_0 h0 hB1 (by omega) ?_
          intro z150 lz150 uz150 qz150
          intro z151 hz151 ez151 bz151
          clear ez151
          try replace bz151 := bz151 (by omega)
          intro z152 hz152 ez152 bz152
          clear ez152
          try replace bz152 := bz152 (by omega)
          refine And.intro ⟨rfl, by decide, by decide⟩ (And.intro rfl (And.intro (Or.inl rfl) (fputf fb_740_12 (by decide +kernel) hW (by omega) ?_)))
          intro IhB153 ehB153 hB153
          have t154 : IhB153 740 9 = I1 740 9 := (congrFun (congrFun ehB153 740) 9).trans (fup_ne (by omega))
          have t155 : IhB153 740 10 = I1 740 10 := (congrFun (congrFun ehB153 740) 10).trans (fup_ne (by omega))
          have t156 : IhB153 740 11 = I1 740 11 := (congrFun (congrFun ehB153 740) 11).trans (fup_ne (by omega))
          have t157 := fup_at ehB153 12 (by omega)
          have k158 := fBz_eq hB153 (a := 740) (j := 8) (by decide +kernel)
          refine And.intro ⟨rfl, by decide, by decide⟩ (fgetf fb_740_10 h0 hB153 ?_)
          intro z159 lz159 uz159 qz159
          refine And.intro ⟨rfl, by decide, by decide⟩ (And.intro rfl (And.intro (Or.inl rfl) (fputf fb_740_10 (by decide +kernel) hW (by omega) ?_)))
          intro IhB160 ehB160 hB160
          have t161 : IhB160 740 9 = IhB153 740 9 := (congrFun (congrFun ehB160 740) 9).trans (fup_ne (by omega))
          have t162 := fup_at ehB160 10 (by omega)
          have t163 : IhB160 740 11 = IhB153 740 11 := (congrFun (congrFun ehB160 740) 11).trans (fup_ne (by omega))
          have t164 : IhB160 740 12 = IhB153 740 12 := (congrFun (congrFun ehB160 740) 12).trans (fup_ne (by omega))
          have k165 := fBz_eq hB160 (a := 740) (j := 8) (by decide +kernel)
          exact fcutJ (I := IhB160) (j := (jc_M_next_c8003_214 I)) (lv' := [(0, .inr (.inr (some 740))), (1, .inl _)]) (And.intro rfl (And.intro rfl True.intro)) ⟨_, rfl, rfl, by omega, rfl⟩ (by omega)
    · rintro m _ _ I1 hB1 ⟨y1, rfl, rfl, hb, hm⟩
      have k166 := fBz_eq hB1 (a := 740) (j := 8) (by decide +kernel)
      have b167 := fBd fb_740_8 (fBz h0 hB1)
      refine And.intro (by omega) (And.intro ?_ ?_)
      · intro c168
        refine And.intro ⟨rfl, by decide, by decide⟩ (And.intro rfl (And.intro (Or.inl rfl) (fputf fb_740_11 (by decide +kernel) hW (by omega) ?_)))
        intro IhB169 ehB169 hB169
        have t170 : IhB169 740 9 = I1 740 9 := (congrFun (congrFun ehB169 740) 9).trans (fup_ne (by omega))
        have t171 : IhB169 740 10 = I1 740 10 := (congrFun (congrFun ehB169 740) 10).trans (fup_ne (by omega))
        have t172 := fup_at ehB169 11 (by omega)
        have k173 := fBz_eq hB169 (a := 740) (j := 8) (by decide +kernel)
        exact fcutJ (I := IhB169) (j := (jc_M_next_c8003_339 I)) (lv' := []) (True.intro) ⟨rfl, rfl, by omega, rfl⟩ (by omega)
      · intro c174
        refine And.intro ⟨rfl, by decide, by decide⟩ (fgetf fb_740_10 h0 hB1 ?_)
        intro z175 lz175 uz175 qz175
        refine And.intro ⟨rfl, by decide, by decide⟩ (fgetf fb_740_9 h0 hB1 ?_)
        intro z176 lz176 uz176 qz176
        refine And.intro (by omega) (And.intro ?_ ?_)
        · intro c177
          refine And.intro ⟨rfl, by decide, by decide⟩ (And.intro rfl (And.intro (Or.inl rfl) (fputf fb_740_11 (by decide +kernel) hW (by omega) ?_)))
          intro IhB178 ehB178 hB178
          have t179 : IhB178 740 9 = I1 740 9 := (congrFun (congrFun ehB178 740) 9).trans (fup_ne (by omega))
          have t180 : IhB178 740 10 = I1 740 10 := (congrFun (congrFun ehB178 740) 10).trans (fup_ne (by omega))
          have t181 := fup_at ehB178 11 (by omega)
          have k182 := fBz_eq hB178 (a := 740) (j := 8) (by decide +kernel)
          exact fcutJ (I := IhB178) (j := (jc_M_next_c8003_339 I)) (lv' := []) (True.intro) ⟨rfl, rfl, by omega, rfl⟩ (by omega)
        · intro c183
          refine And.intro ⟨rfl, by decide, by decide⟩ (And.intro rfl (And.intro (Or.inl rfl) (fputf fb_740_11 (by decide +kernel) hW (by omega) ?_)))
          intro IhB184 ehB184 hB184
          have t185 : IhB184 740 9 = I1 740 9 := (congrFun (congrFun ehB184 740) 9).trans (fup_ne (by omega))
          have t186 : IhB184 740 10 = I1 740 10 := (congrFun (congrFun ehB184 740) 10).trans (fup_ne (by omega))
          have t187 := fup_at ehB184 11 (by omega)
          have k188 := fBz_eq hB184 (a := 740) (j := 8) (by decide +kernel)
          exact fcutJ (I := IhB184) (j := (jc_M_next_c8003_339 I)) (lv' := []) (True.intro) ⟨rfl, rfl, by omega, rfl⟩ (by omega)
    · rintro m _ _ I1 hB1 ⟨rfl, rfl, hb, hm⟩
      have k189 := fBz_eq hB1 (a := 740) (j := 8) (by decide +kernel)
      have b190 := fBd fb_740_8 (fBz h0 hB1)
      refine And.intro ⟨rfl, by decide, by decide⟩ (And.intro rfl (And.intro (Or.inl rfl) (fputf fb_740_11 (by decide +kernel) hW (by omega) ?_)))
      intro IhB191 ehB191 hB191
      have t192 : IhB191 740 8 = I1 740 8 := (congrFun (congrFun ehB191 740) 8).trans (fup_ne (by omega))
      have t193 : IhB191 740 9 = I1 740 9 := (congrFun (congrFun ehB191 740) 9).trans (fup_ne (by omega))
      have t194 : IhB191 740 10 = I1 740 10 := (congrFun (congrFun ehB191 740) 10).trans (fup_ne (by omega))
      have t195 := fup_at ehB191 11 (by omega)
      have k196 := fBz_eq hB191 (a := 740) (j := 8) (by decide +kernel)
      refine And.intro ⟨rfl, by decide, by decide⟩ ?_
      refine And.intro ⟨rfl, by decide, by decide⟩ (fgetf fb_740_9 h0 hB191 ?_)
      intro z197 lz197 uz197 qz197
      refine fload rL_747_747_0_95_1_0 h0 hB191 (by omega) ?_
      intro z198 lz198 uz198 qz198
      refine And.intro ⟨rfl, by decide, by decide⟩ (And.intro rfl (And.intro (Or.inl rfl) (fputf fb_740_13 (by decide +kernel) hW (by omega) ?_)))
      intro IhB199 ehB199 hB199
      have t200 : IhB199 740 8 = IhB191 740 8 := (congrFun (congrFun ehB199 740) 8).trans (fup_ne (by omega))
      have t201 : IhB199 740 9 = IhB191 740 9 := (congrFun (congrFun ehB199 740) 9).trans (fup_ne (by omega))
      have t202 : IhB199 740 10 = IhB191 740 10 := (congrFun (congrFun ehB199 740) 10).trans (fup_ne (by omega))
      have t203 : IhB199 740 11 = IhB191 740 11 := (congrFun (congrFun ehB199 740) 11).trans (fup_ne (by omega))
      have t204 := fup_at ehB199 13 (by omega)
      have k205 := fBz_eq hB199 (a := 740) (j := 8) (by decide +kernel)
      refine And.intro ⟨rfl, by decide, by decide⟩ (fgetf fb_740_10 h0 hB199 ?_)
      intro z206 lz206 uz206 qz206
      refine And.intro ⟨rfl, by decide, by decide⟩ (And.intro rfl (And.intro (Or.inl rfl) (fputf fb_740_10 (by decide +kernel) hW (by omega) ?_)))
      intro IhB207 ehB207 hB207
      have t208 : IhB207 740 9 = IhB199 740 9 := (congrFun (congrFun ehB207 740) 9).trans (fup_ne (by omega))
      have t209 := fup_at ehB207 10 (by omega)
      have t210 : IhB207 740 11 = IhB199 740 11 := (congrFun (congrFun ehB207 740) 11).trans (fup_ne (by omega))
      have k211 := fBz_eq hB207 (a := 740) (j := 8) (by decide +kernel)
      exact fcutJ (I := IhB207) (j := (jc_M_next_c8003_339 I)) (lv' := []) (True.intro) ⟨rfl, rfl, by omega, rfl⟩ (by omega)
    · rintro m _ _ I1 hB1 ⟨rfl, rfl, hb, hm⟩
      have k212 := fBz_eq hB1 (a := 740) (j := 8) (by decide +kernel)
      have b213 := fBd fb_740_8 (fBz h0 hB1)
      exact ⟨rfl, by omega⟩
  · have hB0 := fB_self (zn := znJ) (K := fKc wz_1c18d) h0
    have b214 := fBd fb_740_8 (fBz h0 hB0)
    refine And.intro ⟨rfl, by decide, by decide⟩ (fgetf fb_740_10 h0 hB0 ?_)
    intro z215 lz215 uz215 qz215
    refine And.intro (by omega) (And.intro ?_ ?_)
    · intro c216
      refine And.intro ⟨rfl, by decide, by decide⟩ (fgetf fb_740_10 h0 hB0 ?_)
      intro z217 lz217 uz217 qz217
      exact fcutJ (I := I) (j := (jc_M_next_c8003_34 I)) (lv' := [(0, .inr (.inr (some 740))), (1, .inl _), (2, .inl _)]) (And.intro rfl (And.intro rfl (And.intro rfl True.intro))) ⟨_, _, rfl, rfl, by omega, rfl⟩ (by omega)
    · intro c218
      refine And.intro ⟨rfl, by decide, by decide⟩ (fgetf fb_740_11 h0 hB0 ?_)
      intro z219 lz219 uz219 qz219
      refine And.intro (by omega) (And.intro ?_ ?_)
      · intro c220
        refine And.intro ⟨rfl, by decide, by decide⟩ (fgetf fb_740_10 h0 hB0 ?_)
        intro z221 lz221 uz221 qz221
        exact fcutJ (I := I) (j := (jc_M_next_c8003_34 I)) (lv' := [(0, .inr (.inr (some 740))), (1, .inl _), (2, .inl _)]) (And.intro rfl (And.intro rfl (And.intro rfl True.intro))) ⟨_, _, rfl, rfl, by omega, rfl⟩ (by omega)
      · intro c222
        refine And.intro ⟨rfl, by decide, by decide⟩ (fgetf fb_740_11 h0 hB0 ?_)
        intro z223 lz223 uz223 qz223
        refine And.intro (by omega) (And.intro ?_ ?_)
        · intro c224
          refine And.intro ⟨rfl, by decide, by decide⟩ (fgetf fb_740_10 h0 hB0 ?_)
          intro z225 lz225 uz225 qz225
          exact fcutJ (I := I) (j := (jc_M_next_c8003_34 I)) (lv' := [(0, .inr (.inr (some 740))), (1, .inl _), (2, .inl _)]) (And.intro rfl (And.intro rfl (And.intro rfl True.intro))) ⟨_, _, rfl, rfl, by omega, rfl⟩ (by omega)
        · intro c226
          refine And.intro ⟨rfl, by decide, by decide⟩ (fgetf fb_740_10 h0 hB0 ?_)
          intro z227 lz227 uz227 qz227
          exact fcutJ (I := I) (j := (jc_M_next_c8003_34 I)) (lv' := [(0, .inr (.inr (some 740))), (1, .inl _), (2, .inl _)]) (And.intro rfl (And.intro rfl (And.intro rfl True.intro))) ⟨_, _, rfl, rfl, by omega, rfl⟩ (by omega)
set_option maxRecDepth 8000 in
theorem ct_M_isSign_90da9 {I : fH} {x1 : Int} (h0 : fB bsJ I) (ha1 : (33 ≤ x1 ∧ x1 ≤ 124)) : fC ρ base n F xTc vwCl xTys D dA la gJ (fbz bsJ znJ (fKc []) I) xm_423 [.inr (.inr (some 740)), .inl x1] I (fun _ r => ∃ z, r = some (.inl z) ∧ ((0 ≤ z ∧ z ≤ 1) ∧ (z = 1 → I 740 11 = 3 ∧ I 740 13 = x1))) := by
  have hW : fzs [] (fKc []) := fKc_ok _
  refine f_meth (rb := rbJ) (J := []) 1 400 xG xin_423 x6_423 okJ (fB_self h0) ?_ ?_
  · exact fun q h => absurd h List.not_mem_nil
  · have hB0 := fB_self (zn := znJ) (K := fKc []) h0
    refine And.intro ⟨rfl, by decide, by decide⟩ (fgetf fb_740_11 h0 hB0 ?_)
    intro z1 lz1 uz1 qz1
    refine And.intro (by omega) (And.intro ?_ ?_)
    · intro c2
      refine And.intro (⟨by omega, by omega⟩) ?_
      exact ⟨_, rfl, by omega⟩
    · intro c3
      refine And.intro ⟨rfl, by decide, by decide⟩ (fgetf fb_740_13 h0 hB0 ?_)
      intro z4 lz4 uz4 qz4
      refine And.intro (by omega) (And.intro ?_ ?_)
      · intro c5
        refine And.intro (⟨by omega, by omega⟩) ?_
        exact ⟨_, rfl, by omega⟩
      · intro c6
        refine And.intro (⟨by omega, by omega⟩) ?_
        exact ⟨_, rfl, by omega⟩
set_option maxRecDepth 8000 in
theorem ct_M_step_2c704 {I : fH} {x1 : Int} {x2 : Int} (h0 : fB bsJ I) (ha1 : (0 ≤ x1 ∧ x1 ≤ 2)) (ha2 : ((-2147483648) ≤ x2 ∧ x2 ≤ 2147483647)) (hp0 : 0 ≤ I 740 16 ∧ I 740 16 ≤ 96) (hp1 : (1215 ≤ I 740 17 ∧ I 740 17 ≤ 3415 ∧ (I 740 17 - 1215) % 200 = 0) ∨ I 740 17 = 4700) : fC ρ base n F xTc vwCl xTys D dA la gJ (fbz bsJ znJ (fKc wz_6dafe) I) xm_421 [.inr (.inr (some 740)), .inl x1, .inl x2] I (fun I' r => r = none ∧ (I' 740 16 = I 740 16 + 1) ∧ (sPut I I' (I 740 17) (I 740 16) x1 x2)) := by
  have hW : fzs wz_6dafe (fKc wz_6dafe) := fKc_ok _
  refine f_meth (rb := rbJ) (J := []) 1 400 xG xin_421 x6_421 okJ (fB_self h0) ?_ ?_
  · exact fun q h => absurd h List.not_mem_nil
  · have hB0 := fB_self (zn := znJ) (K := fKc wz_6dafe) h0
    refine And.intro ⟨rfl, by decide, by decide⟩ ?_
    refine And.intro ⟨rfl, by decide, by decide⟩ (fgetf fb_740_17 h0 hB0 ?_)
    intro z1 lz1 uz1 qz1
    refine And.intro ⟨rfl, by decide, by decide⟩ (fgetf fb_740_16 h0 hB0 ?_)
    intro z2 lz2 uz2 qz2
    intro z3 hz3 ez3 bz3
    clear ez3
    try replace bz3 := bz3 (by omega)
    refine fstoreX (W := [20605, 20840]) (fzs_sub (by decide +kernel) hW) (by rcases hp1 with hA | hA <;> first | exact frS_at rS_741_741_1215_3609_200_194 (by decide +kernel) (by omega) (by omega) | exact frS_at rS_741_741_4700_4899_1_0 (by decide +kernel) (by omega) (by omega)) ?_
    intro IhB4 ehB4 hB4
    have t5 := fup_self ehB4
    have t6 : IhB4 740 16 = I 740 16 := (congrFun (congrFun ehB4 740) 16).trans (fup_ne (by omega))
    have t7 : IhB4 740 17 = I 740 17 := (congrFun (congrFun ehB4 740) 17).trans (fup_ne (by omega))
    refine And.intro ⟨rfl, by decide, by decide⟩ ?_
    refine And.intro ⟨rfl, by decide, by decide⟩ (fgetf fb_740_17 h0 hB4 ?_)
    intro z8 lz8 uz8 qz8
    refine And.intro ⟨rfl, by decide, by decide⟩ (fgetf fb_740_16 h0 hB4 ?_)
    intro z9 lz9 uz9 qz9
    intro z10 hz10 ez10 bz10
    clear ez10
    try replace bz10 := bz10 (by omega)
    intro z11 hz11 ez11 bz11
    clear ez11
    try replace bz11 := bz11 (by omega)
    refine fstoreX (W := [20605, 20840]) (fzs_sub (by decide +kernel) hW) (by rcases hp1 with hA | hA <;> first | exact frS_at rS_741_741_1215_3609_200_194 (by decide +kernel) (by omega) (by omega) | exact frS_at rS_741_741_4700_4899_1_0 (by decide +kernel) (by omega) (by omega)) ?_
    intro IhB12 ehB12 hB12
    have t13 := fup_self ehB12
    have t14 : IhB12 740 16 = IhB4 740 16 := (congrFun (congrFun ehB12 740) 16).trans (fup_ne (by omega))
    have t15 : IhB12 740 17 = IhB4 740 17 := (congrFun (congrFun ehB12 740) 17).trans (fup_ne (by omega))
    refine And.intro ⟨rfl, by decide, by decide⟩ (fgetf fb_740_16 h0 hB12 ?_)
    intro z16 lz16 uz16 qz16
    refine And.intro ⟨rfl, by decide, by decide⟩ (And.intro rfl (And.intro (Or.inl rfl) (fputf fb_740_16 (by decide +kernel) hW (by omega) ?_)))
    intro IhB17 ehB17 hB17
    have t18 := fup_at ehB17 16 (by omega)
    have t19 : IhB17 740 17 = IhB12 740 17 := (congrFun (congrFun ehB17 740) 17).trans (fup_ne (by omega))
    exact ⟨rfl, by omega, ⟨fun j h1 h2 => (fup_other ehB17 741 j (Or.inl (by decide))).trans ((fup_other ehB12 741 j (Or.inr (by omega))).trans (fup_other ehB4 741 j (Or.inr (by omega)))), (fup_other ehB17 741 _ (Or.inl (by decide))).trans ((fup_other ehB12 741 _ (Or.inr (by omega))).trans (fup_at ehB4 _ (by omega))), (fup_other ehB17 741 _ (Or.inl (by decide))).trans (fup_at ehB12 _ (by omega))⟩⟩
set_option maxRecDepth 8000 in
theorem ct_M_isName_49450 {I : fH} {x0 : Int} {x1 : Int} (h0 : fB bsJ I) (ha0 : ((-1) ≤ x0 ∧ x0 ≤ 5)) (ha1 : ((-2147483648) ≤ x1 ∧ x1 ≤ 2147483647)) : fC ρ base n F xTc vwCl xTys D dA la gJ (fbz bsJ znJ (fKc []) I) xm_422 [.inl x0, .inl x1] I (fun _ r => ∃ z, r = some (.inl z) ∧ ((0 ≤ z ∧ z ≤ 1) ∧ (z = 1 → 97 ≤ x1 ∧ x1 ≤ 121))) := by
  have hW : fzs [] (fKc []) := fKc_ok _
  refine f_meth (rb := rbJ) (J := []) 1 400 xG xin_422 x6_422 okJ (fB_self h0) ?_ ?_
  · exact fun q h => absurd h List.not_mem_nil
  · have hB0 := fB_self (zn := znJ) (K := fKc []) h0
    refine And.intro (by omega) (And.intro ?_ ?_)
    · refine And.intro (fun ex => ?_) (And.intro (fun ex => ?_) (And.intro (fun ex => ?_) (And.intro (fun ex => ?_) (And.intro (fun ex => ?_) (And.intro (fun ex => ?_) (And.intro (fun ex => ?_) (And.intro (fun ex => ?_) (And.intro (fun ex => ?_) (And.intro (fun ex => ?_) (And.intro (fun ex => ?_) (And.intro (fun ex => ?_) (And.intro (fun ex => ?_) (And.intro (fun ex => ?_) (And.intro (fun ex => ?_) (And.intro (fun ex => ?_) (And.intro (fun ex => ?_) (And.intro (fun ex => ?_) (And.intro (fun ex => ?_) (And.intro (fun ex => ?_) (And.intro (fun ex => ?_) (And.intro (fun ex => ?_) (And.intro (fun ex => ?_) (And.intro (fun ex => ?_) (And.intro (fun ex => ?_) (True.intro)))))))))))))))))))))))))
      · skip
        refine And.intro (by omega) (And.intro ?_ ?_)
        · intro c1
          refine And.intro (⟨by omega, by omega⟩) ?_
          exact ⟨_, rfl, by omega⟩
        · intro c2
          refine And.intro (by omega) (And.intro ?_ ?_)
          · intro c3
            refine And.intro (⟨by omega, by omega⟩) ?_
            exact ⟨_, rfl, by omega⟩
          · intro c4
            refine And.intro (by omega) (And.intro ?_ ?_)
            · intro c5
              refine And.intro (⟨by omega, by omega⟩) ?_
              exact ⟨_, rfl, by omega⟩
            · intro c6
              refine And.intro (⟨by omega, by omega⟩) ?_
              exact ⟨_, rfl, by omega⟩
      · skip
        refine And.intro (⟨by omega, by omega⟩) ?_
        exact ⟨_, rfl, by omega⟩
      · skip
        refine And.intro (by omega) (And.intro ?_ ?_)
        · intro c7
          refine And.intro (⟨by omega, by omega⟩) ?_
          exact ⟨_, rfl, by omega⟩
        · intro c8
          refine And.intro (by omega) (And.intro ?_ ?_)
          · intro c9
            refine And.intro (⟨by omega, by omega⟩) ?_
            exact ⟨_, rfl, by omega⟩
          · intro c10
            refine And.intro (by omega) (And.intro ?_ ?_)
            · intro c11
              refine And.intro (⟨by omega, by omega⟩) ?_
              exact ⟨_, rfl, by omega⟩
            · intro c12
              refine And.intro (⟨by omega, by omega⟩) ?_
              exact ⟨_, rfl, by omega⟩
      · skip
        refine And.intro (⟨by omega, by omega⟩) ?_
        exact ⟨_, rfl, by omega⟩
      · skip
        refine And.intro (by omega) (And.intro ?_ ?_)
        · intro c13
          refine And.intro (⟨by omega, by omega⟩) ?_
          exact ⟨_, rfl, by omega⟩
        · intro c14
          refine And.intro (⟨by omega, by omega⟩) ?_
          exact ⟨_, rfl, by omega⟩
      · skip
        refine And.intro (by omega) (And.intro ?_ ?_)
        · intro c15
          refine And.intro (⟨by omega, by omega⟩) ?_
          exact ⟨_, rfl, by omega⟩
        · intro c16
          refine And.intro (⟨by omega, by omega⟩) ?_
          exact ⟨_, rfl, by omega⟩
      · skip
        refine And.intro (by omega) (And.intro ?_ ?_)
        · intro c17
          refine And.intro (⟨by omega, by omega⟩) ?_
          exact ⟨_, rfl, by omega⟩
        · intro c18
          refine And.intro (⟨by omega, by omega⟩) ?_
          exact ⟨_, rfl, by omega⟩
      · skip
        refine And.intro (⟨by omega, by omega⟩) ?_
        exact ⟨_, rfl, by omega⟩
      · skip
        refine And.intro (⟨by omega, by omega⟩) ?_
        exact ⟨_, rfl, by omega⟩
      · skip
        refine And.intro (⟨by omega, by omega⟩) ?_
        exact ⟨_, rfl, by omega⟩
      · skip
        refine And.intro (by omega) (And.intro ?_ ?_)
        · intro c19
          refine And.intro (⟨by omega, by omega⟩) ?_
          exact ⟨_, rfl, by omega⟩
        · intro c20
          refine And.intro (⟨by omega, by omega⟩) ?_
          exact ⟨_, rfl, by omega⟩
      · skip
        refine And.intro (by omega) (And.intro ?_ ?_)
        · intro c21
          refine And.intro (⟨by omega, by omega⟩) ?_
          exact ⟨_, rfl, by omega⟩
        · intro c22
          refine And.intro (⟨by omega, by omega⟩) ?_
          exact ⟨_, rfl, by omega⟩
      · skip
        refine And.intro (by omega) (And.intro ?_ ?_)
        · intro c23
          refine And.intro (⟨by omega, by omega⟩) ?_
          exact ⟨_, rfl, by omega⟩
        · intro c24
          refine And.intro (⟨by omega, by omega⟩) ?_
          exact ⟨_, rfl, by omega⟩
      · skip
        refine And.intro (by omega) (And.intro ?_ ?_)
        · intro c25
          refine And.intro (⟨by omega, by omega⟩) ?_
          exact ⟨_, rfl, by omega⟩
        · intro c26
          refine And.intro (by omega) (And.intro ?_ ?_)
          · intro c27
            refine And.intro (⟨by omega, by omega⟩) ?_
            exact ⟨_, rfl, by omega⟩
          · intro c28
            refine And.intro (⟨by omega, by omega⟩) ?_
            exact ⟨_, rfl, by omega⟩
      · skip
        refine And.intro (by omega) (And.intro ?_ ?_)
        · intro c29
          refine And.intro (⟨by omega, by omega⟩) ?_
          exact ⟨_, rfl, by omega⟩
        · intro c30
          refine And.intro (⟨by omega, by omega⟩) ?_
          exact ⟨_, rfl, by omega⟩
      · skip
        refine And.intro (by omega) (And.intro ?_ ?_)
        · intro c31
          refine And.intro (⟨by omega, by omega⟩) ?_
          exact ⟨_, rfl, by omega⟩
        · intro c32
          refine And.intro (by omega) (And.intro ?_ ?_)
          · intro c33
            refine And.intro (⟨by omega, by omega⟩) ?_
            exact ⟨_, rfl, by omega⟩
          · intro c34
            refine And.intro (⟨by omega, by omega⟩) ?_
            exact ⟨_, rfl, by omega⟩
      · skip
        refine And.intro (⟨by omega, by omega⟩) ?_
        exact ⟨_, rfl, by omega⟩
      · skip
        refine And.intro (⟨by omega, by omega⟩) ?_
        exact ⟨_, rfl, by omega⟩
      · skip
        refine And.intro (by omega) (And.intro ?_ ?_)
        · intro c35
          refine And.intro (⟨by omega, by omega⟩) ?_
          exact ⟨_, rfl, by omega⟩
        · intro c36
          refine And.intro (by omega) (And.intro ?_ ?_)
          · intro c37
            refine And.intro (⟨by omega, by omega⟩) ?_
            exact ⟨_, rfl, by omega⟩
          · intro c38
            refine And.intro (by omega) (And.intro ?_ ?_)
            · intro c39
              refine And.intro (⟨by omega, by omega⟩) ?_
              exact ⟨_, rfl, by omega⟩
            · intro c40
              refine And.intro (⟨by omega, by omega⟩) ?_
              exact ⟨_, rfl, by omega⟩
      · skip
        refine And.intro (⟨by omega, by omega⟩) ?_
        exact ⟨_, rfl, by omega⟩
      · skip
        refine And.intro (by omega) (And.intro ?_ ?_)
        · intro c41
          refine And.intro (⟨by omega, by omega⟩) ?_
          exact ⟨_, rfl, by omega⟩
        · intro c42
          refine And.intro (⟨by omega, by omega⟩) ?_
          exact ⟨_, rfl, by omega⟩
      · skip
        refine And.intro (⟨by omega, by omega⟩) ?_
        exact ⟨_, rfl, by omega⟩
      · skip
        refine And.intro (⟨by omega, by omega⟩) ?_
        exact ⟨_, rfl, by omega⟩
      · skip
        refine And.intro (⟨by omega, by omega⟩) ?_
        exact ⟨_, rfl, by omega⟩
      · skip
        refine And.intro (by omega) (And.intro ?_ ?_)
        · intro c43
          refine And.intro (⟨by omega, by omega⟩) ?_
          exact ⟨_, rfl, by omega⟩
        · intro c44
          refine And.intro (⟨by omega, by omega⟩) ?_
          exact ⟨_, rfl, by omega⟩
    · intro c45
      refine And.intro (⟨by omega, by omega⟩) ?_
      exact ⟨_, rfl, by omega⟩
set_option maxRecDepth 8000 in
theorem ct_M_part0_cc4b8 {I : fH} {x1 : Int} (h0 : fB bsJ I) (ha1 : ((-1) ≤ x1 ∧ x1 ≤ 5)) (hp0 : I 740 9 ≤ I 740 10 ∧ I 740 10 ≤ I 740 8 ∧ (I 740 11 = 0 ∨ I 740 9 < I 740 10)) (hp1 : 0 ≤ I 740 16 ∧ I 740 16 ≤ I 740 9) (hp2 : 16 ≤ I 740 14 + I 740 15) (hp3 : (1215 ≤ I 740 17 ∧ I 740 17 ≤ 3415 ∧ (I 740 17 - 1215) % 200 = 0) ∨ I 740 17 = 4700) : fC ρ base n F xTc vwCl xTys D dA la gJ (fbz bsJ znJ (fKc wz_2212a) I) xm_404 [.inr (.inr (some 740)), .inl x1] I (fun I' r => ∃ z, r = some (.inl z) ∧ ((0 ≤ z ∧ z ≤ 1) ∧ (I 740 9 ≤ I' 740 9 ∧ I' 740 9 ≤ I' 740 10 ∧ I' 740 10 ≤ I' 740 8 ∧ (I' 740 11 = 0 ∨ I' 740 9 < I' 740 10) ∧ (z = 1 → I 740 16 ≤ I' 740 16 ∧ I' 740 16 - I 740 16 ≤ I' 740 9 - I 740 9 ∧ I' 740 14 = I 740 14 ∧ I' 740 15 = I 740 15))) ∧ (sBe I I' (I 740 17) (I 740 16)) ∧ (z = 1 → sOne I' (I 740 17) (I 740 16) (I' 740 16))) := by
  have hW : fzs wz_2212a (fKc wz_2212a) := fKc_ok _
  refine f_meth (rb := rbJ) (J := []) 1 400 xG xin_404 x6_404 okJ (fB_self h0) ?_ ?_
  · exact fun q h => absurd h List.not_mem_nil
  · have hB0 := fB_self (zn := znJ) (K := fKc wz_2212a) h0
    have b1 := fBd fb_740_8 (fBz h0 hB0)
    have b2 := fBd fb_740_14 (fBz h0 hB0)
    have b3 := fBd fb_740_15 (fBz h0 hB0)
    refine And.intro ⟨rfl, by decide, by decide⟩ (fgetf fb_740_11 h0 hB0 ?_)
    intro z4 lz4 uz4 qz4
    refine And.intro (by omega) (And.intro ?_ ?_)
    · intro c5
      refine And.intro ⟨rfl, by decide, by decide⟩ (fgetf fb_740_11 h0 hB0 ?_)
      intro z6 lz6 uz6 qz6
      refine And.intro (by omega) (And.intro ?_ ?_)
      · intro c7
        refine Exists.intro xm_423 (And.intro mi_423 (And.intro ⟨rfl, rfl, rfl, rfl⟩ (And.intro rfl ?_)))
        refine fcallp hB0 (ct_M_isSign_90da9 (fBz h0 hB0) (by omega)) ?_
        rintro _ ⟨z8, rfl, hz8⟩
        refine And.intro (by omega) (And.intro ?_ ?_)
        · intro c9
          refine Exists.intro xm_423 (And.intro mi_423 (And.intro ⟨rfl, rfl, rfl, rfl⟩ (And.intro rfl ?_)))
          refine fcallp hB0 (ct_M_isSign_90da9 (fBz h0 hB0) (by omega)) ?_
          rintro _ ⟨z10, rfl, hz10⟩
          refine And.intro (by omega) (And.intro ?_ ?_)
          · intro c11
            refine And.intro (⟨by omega, by omega⟩) ?_
            exact ⟨_, rfl, by omega, sBe_refl, (fun q => absurd q (by omega))⟩
          · intro c12
            refine And.intro ⟨rfl, by decide, by decide⟩ (fgetf fb_740_14 h0 hB0 ?_)
            intro z13 lz13 uz13 qz13
            refine And.intro (by omega) (And.intro ?_ ?_)
            · intro c14
              refine And.intro ⟨rfl, by decide, by decide⟩ (fgetf fb_740_14 h0 hB0 ?_)
              intro z15 lz15 uz15 qz15
              refine And.intro ⟨rfl, by decide, by decide⟩ (And.intro rfl (And.intro (Or.inl rfl) (fputf fb_740_14 (by decide +kernel) hW (by omega) ?_)))
              intro IhB16 ehB16 hB16
              have t17 : IhB16 740 9 = I 740 9 := (congrFun (congrFun ehB16 740) 9).trans (fup_ne (by omega))
              have t18 : IhB16 740 10 = I 740 10 := (congrFun (congrFun ehB16 740) 10).trans (fup_ne (by omega))
              have t19 : IhB16 740 11 = I 740 11 := (congrFun (congrFun ehB16 740) 11).trans (fup_ne (by omega))
              have t20 : IhB16 740 13 = I 740 13 := (congrFun (congrFun ehB16 740) 13).trans (fup_ne (by omega))
              have t21 := fup_at ehB16 14 (by omega)
              have t22 : IhB16 740 15 = I 740 15 := (congrFun (congrFun ehB16 740) 15).trans (fup_ne (by omega))
              have t23 : IhB16 740 16 = I 740 16 := (congrFun (congrFun ehB16 740) 16).trans (fup_ne (by omega))
              have k24 := fBz_eq hB16 (a := 740) (j := 8) (by decide +kernel)
              have k25 := fBz_eq hB16 (a := 740) (j := 17) (by decide +kernel)
              refine Exists.intro xm_314 (And.intro mi_314 (And.intro ⟨rfl, rfl, rfl, rfl⟩ (And.intro rfl ?_)))
              refine fcall _ h0 (fzs_sub (by decide +kernel) hW) hB16 (ct_M_next_c8003 (fBz h0 hB16) (by omega)) ?_
              rintro IhB27 _ hB27 fhB27 ⟨rfl, hz26⟩
              have t28 := fhB27 740 14 (by decide +kernel)
              have t29 := fhB27 740 15 (by decide +kernel)
              have t30 := fhB27 740 16 (by decide +kernel)
              have k31 := fBz_eq hB27 (a := 740) (j := 8) (by decide +kernel)
              have k32 := fBz_eq hB27 (a := 740) (j := 17) (by decide +kernel)
              exfalso
              omega
            · intro c33
              refine And.intro (⟨by omega, by omega⟩) ?_
              exact ⟨_, rfl, by omega, sBe_refl, (fun q => absurd q (by omega))⟩
        · intro c34
          refine And.intro ⟨rfl, by decide, by decide⟩ (fgetf fb_740_15 h0 hB0 ?_)
          intro z35 lz35 uz35 qz35
          refine And.intro (by omega) (And.intro ?_ ?_)
          · intro c36
            refine Exists.intro xm_423 (And.intro mi_423 (And.intro ⟨rfl, rfl, rfl, rfl⟩ (And.intro rfl ?_)))
            refine fcallp hB0 (ct_M_isSign_90da9 (fBz h0 hB0) (by omega)) ?_
            rintro _ ⟨z37, rfl, hz37⟩
            refine And.intro (by omega) (And.intro ?_ ?_)
            · intro c38
              refine And.intro (⟨by omega, by omega⟩) ?_
              exact ⟨_, rfl, by omega, sBe_refl, (fun q => absurd q (by omega))⟩
            · intro c39
              refine And.intro ⟨rfl, by decide, by decide⟩ (fgetf fb_740_14 h0 hB0 ?_)
              intro z40 lz40 uz40 qz40
              refine And.intro (by omega) (And.intro ?_ ?_)
              · intro c41
                refine And.intro ⟨rfl, by decide, by decide⟩ (fgetf fb_740_14 h0 hB0 ?_)
                intro z42 lz42 uz42 qz42
                refine And.intro ⟨rfl, by decide, by decide⟩ (And.intro rfl (And.intro (Or.inl rfl) (fputf fb_740_14 (by decide +kernel) hW (by omega) ?_)))
                intro IhB43 ehB43 hB43
                have t44 : IhB43 740 9 = I 740 9 := (congrFun (congrFun ehB43 740) 9).trans (fup_ne (by omega))
                have t45 : IhB43 740 10 = I 740 10 := (congrFun (congrFun ehB43 740) 10).trans (fup_ne (by omega))
                have t46 : IhB43 740 11 = I 740 11 := (congrFun (congrFun ehB43 740) 11).trans (fup_ne (by omega))
                have t47 : IhB43 740 13 = I 740 13 := (congrFun (congrFun ehB43 740) 13).trans (fup_ne (by omega))
                have t48 := fup_at ehB43 14 (by omega)
                have t49 : IhB43 740 15 = I 740 15 := (congrFun (congrFun ehB43 740) 15).trans (fup_ne (by omega))
                have t50 : IhB43 740 16 = I 740 16 := (congrFun (congrFun ehB43 740) 16).trans (fup_ne (by omega))
                have k51 := fBz_eq hB43 (a := 740) (j := 8) (by decide +kernel)
                have k52 := fBz_eq hB43 (a := 740) (j := 17) (by decide +kernel)
                refine Exists.intro xm_314 (And.intro mi_314 (And.intro ⟨rfl, rfl, rfl, rfl⟩ (And.intro rfl ?_)))
                refine fcall _ h0 (fzs_sub (by decide +kernel) hW) hB43 (ct_M_next_c8003 (fBz h0 hB43) (by omega)) ?_
                rintro IhB54 _ hB54 fhB54 ⟨rfl, hz53⟩
                have t55 := fhB54 740 14 (by decide +kernel)
                have t56 := fhB54 740 15 (by decide +kernel)
                have t57 := fhB54 740 16 (by decide +kernel)
                have k58 := fBz_eq hB54 (a := 740) (j := 8) (by decide +kernel)
                have k59 := fBz_eq hB54 (a := 740) (j := 17) (by decide +kernel)
                exfalso
                omega
              · intro c60
                refine And.intro (⟨by omega, by omega⟩) ?_
                exact ⟨_, rfl, by omega, sBe_refl, (fun q => absurd q (by omega))⟩
          · intro c61
            refine And.intro ⟨rfl, by decide, by decide⟩ (fgetf fb_740_15 h0 hB0 ?_)
            intro z62 lz62 uz62 qz62
            refine And.intro ⟨rfl, by decide, by decide⟩ (And.intro rfl (And.intro (Or.inl rfl) (fputf fb_740_15 (by decide +kernel) hW (by omega) ?_)))
            intro IhB63 ehB63 hB63
            have t64 : IhB63 740 9 = I 740 9 := (congrFun (congrFun ehB63 740) 9).trans (fup_ne (by omega))
            have t65 : IhB63 740 10 = I 740 10 := (congrFun (congrFun ehB63 740) 10).trans (fup_ne (by omega))
            have t66 : IhB63 740 11 = I 740 11 := (congrFun (congrFun ehB63 740) 11).trans (fup_ne (by omega))
            have t67 : IhB63 740 13 = I 740 13 := (congrFun (congrFun ehB63 740) 13).trans (fup_ne (by omega))
            have t68 : IhB63 740 14 = I 740 14 := (congrFun (congrFun ehB63 740) 14).trans (fup_ne (by omega))
            have t69 := fup_at ehB63 15 (by omega)
            have t70 : IhB63 740 16 = I 740 16 := (congrFun (congrFun ehB63 740) 16).trans (fup_ne (by omega))
            have k71 := fBz_eq hB63 (a := 740) (j := 8) (by decide +kernel)
            have k72 := fBz_eq hB63 (a := 740) (j := 17) (by decide +kernel)
            refine Exists.intro xm_314 (And.intro mi_314 (And.intro ⟨rfl, rfl, rfl, rfl⟩ (And.intro rfl ?_)))
            refine fcall _ h0 (fzs_sub (by decide +kernel) hW) hB63 (ct_M_next_c8003 (fBz h0 hB63) (by omega)) ?_
            rintro IhB74 _ hB74 fhB74 ⟨rfl, hz73⟩
            have t75 := fhB74 740 14 (by decide +kernel)
            have t76 := fhB74 740 15 (by decide +kernel)
            have t77 := fhB74 740 16 (by decide +kernel)
            have k78 := fBz_eq hB74 (a := 740) (j := 8) (by decide +kernel)
            have k79 := fBz_eq hB74 (a := 740) (j := 17) (by decide +kernel)
            exfalso
            omega
      · intro c80
        refine And.intro ⟨rfl, by decide, by decide⟩ (fgetf fb_740_13 h0 hB0 ?_)
        intro z81 lz81 uz81 qz81
        refine And.intro (by omega) (And.intro ?_ ?_)
        · intro c82
          refine Exists.intro xm_423 (And.intro mi_423 (And.intro ⟨rfl, rfl, rfl, rfl⟩ (And.intro rfl ?_)))
          refine fcallp hB0 (ct_M_isSign_90da9 (fBz h0 hB0) (by omega)) ?_
          rintro _ ⟨z83, rfl, hz83⟩
          refine And.intro (by omega) (And.intro ?_ ?_)
          · intro c84
            refine Exists.intro xm_423 (And.intro mi_423 (And.intro ⟨rfl, rfl, rfl, rfl⟩ (And.intro rfl ?_)))
            refine fcallp hB0 (ct_M_isSign_90da9 (fBz h0 hB0) (by omega)) ?_
            rintro _ ⟨z85, rfl, hz85⟩
            refine And.intro (by omega) (And.intro ?_ ?_)
            · intro c86
              refine And.intro (⟨by omega, by omega⟩) ?_
              exact ⟨_, rfl, by omega, sBe_refl, (fun q => absurd q (by omega))⟩
            · intro c87
              refine And.intro ⟨rfl, by decide, by decide⟩ (fgetf fb_740_14 h0 hB0 ?_)
              intro z88 lz88 uz88 qz88
              refine And.intro (by omega) (And.intro ?_ ?_)
              · intro c89
                refine And.intro ⟨rfl, by decide, by decide⟩ (fgetf fb_740_14 h0 hB0 ?_)
                intro z90 lz90 uz90 qz90
                refine And.intro ⟨rfl, by decide, by decide⟩ (And.intro rfl (And.intro (Or.inl rfl) (fputf fb_740_14 (by decide +kernel) hW (by omega) ?_)))
                intro IhB91 ehB91 hB91
                have t92 : IhB91 740 9 = I 740 9 := (congrFun (congrFun ehB91 740) 9).trans (fup_ne (by omega))
                have t93 : IhB91 740 10 = I 740 10 := (congrFun (congrFun ehB91 740) 10).trans (fup_ne (by omega))
                have t94 : IhB91 740 11 = I 740 11 := (congrFun (congrFun ehB91 740) 11).trans (fup_ne (by omega))
                have t95 : IhB91 740 13 = I 740 13 := (congrFun (congrFun ehB91 740) 13).trans (fup_ne (by omega))
                have t96 := fup_at ehB91 14 (by omega)
                have t97 : IhB91 740 15 = I 740 15 := (congrFun (congrFun ehB91 740) 15).trans (fup_ne (by omega))
                have t98 : IhB91 740 16 = I 740 16 := (congrFun (congrFun ehB91 740) 16).trans (fup_ne (by omega))
                have k99 := fBz_eq hB91 (a := 740) (j := 8) (by decide +kernel)
                have k100 := fBz_eq hB91 (a := 740) (j := 17) (by decide +kernel)
                refine Exists.intro xm_314 (And.intro mi_314 (And.intro ⟨rfl, rfl, rfl, rfl⟩ (And.intro rfl ?_)))
                refine fcall _ h0 (fzs_sub (by decide +kernel) hW) hB91 (ct_M_next_c8003 (fBz h0 hB91) (by omega)) ?_
                rintro IhB102 _ hB102 fhB102 ⟨rfl, hz101⟩
                have t103 := fhB102 740 14 (by decide +kernel)
                have t104 := fhB102 740 15 (by decide +kernel)
                have t105 := fhB102 740 16 (by decide +kernel)
                have k106 := fBz_eq hB102 (a := 740) (j := 8) (by decide +kernel)
                have k107 := fBz_eq hB102 (a := 740) (j := 17) (by decide +kernel)
                exfalso
                omega
              · intro c108
                refine And.intro (⟨by omega, by omega⟩) ?_
                exact ⟨_, rfl, by omega, sBe_refl, (fun q => absurd q (by omega))⟩
          · intro c109
            refine And.intro ⟨rfl, by decide, by decide⟩ (fgetf fb_740_15 h0 hB0 ?_)
            intro z110 lz110 uz110 qz110
            refine And.intro (by omega) (And.intro ?_ ?_)
            · intro c111
              refine Exists.intro xm_423 (And.intro mi_423 (And.intro ⟨rfl, rfl, rfl, rfl⟩ (And.intro rfl ?_)))
              refine fcallp hB0 (ct_M_isSign_90da9 (fBz h0 hB0) (by omega)) ?_
              rintro _ ⟨z112, rfl, hz112⟩
              refine And.intro (by omega) (And.intro ?_ ?_)
              · intro c113
                refine And.intro (⟨by omega, by omega⟩) ?_
                exact ⟨_, rfl, by omega, sBe_refl, (fun q => absurd q (by omega))⟩
              · intro c114
                refine And.intro ⟨rfl, by decide, by decide⟩ (fgetf fb_740_14 h0 hB0 ?_)
                intro z115 lz115 uz115 qz115
                refine And.intro (by omega) (And.intro ?_ ?_)
                · intro c116
                  refine And.intro ⟨rfl, by decide, by decide⟩ (fgetf fb_740_14 h0 hB0 ?_)
                  intro z117 lz117 uz117 qz117
                  refine And.intro ⟨rfl, by decide, by decide⟩ (And.intro rfl (And.intro (Or.inl rfl) (fputf fb_740_14 (by decide +kernel) hW (by omega) ?_)))
                  intro IhB118 ehB118 hB118
                  have t119 : IhB118 740 9 = I 740 9 := (congrFun (congrFun ehB118 740) 9).trans (fup_ne (by omega))
                  have t120 : IhB118 740 10 = I 740 10 := (congrFun (congrFun ehB118 740) 10).trans (fup_ne (by omega))
                  have t121 : IhB118 740 11 = I 740 11 := (congrFun (congrFun ehB118 740) 11).trans (fup_ne (by omega))
                  have t122 : IhB118 740 13 = I 740 13 := (congrFun (congrFun ehB118 740) 13).trans (fup_ne (by omega))
                  have t123 := fup_at ehB118 14 (by omega)
                  have t124 : IhB118 740 15 = I 740 15 := (congrFun (congrFun ehB118 740) 15).trans (fup_ne (by omega))
                  have t125 : IhB118 740 16 = I 740 16 := (congrFun (congrFun ehB118 740) 16).trans (fup_ne (by omega))
                  have k126 := fBz_eq hB118 (a := 740) (j := 8) (by decide +kernel)
                  have k127 := fBz_eq hB118 (a := 740) (j := 17) (by decide +kernel)
                  refine Exists.intro xm_314 (And.intro mi_314 (And.intro ⟨rfl, rfl, rfl, rfl⟩ (And.intro rfl ?_)))
                  refine fcall _ h0 (fzs_sub (by decide +kernel) hW) hB118 (ct_M_next_c8003 (fBz h0 hB118) (by omega)) ?_
                  rintro IhB129 _ hB129 fhB129 ⟨rfl, hz128⟩
                  have t130 := fhB129 740 14 (by decide +kernel)
                  have t131 := fhB129 740 15 (by decide +kernel)
                  have t132 := fhB129 740 16 (by decide +kernel)
                  have k133 := fBz_eq hB129 (a := 740) (j := 8) (by decide +kernel)
                  have k134 := fBz_eq hB129 (a := 740) (j := 17) (by decide +kernel)
                  exfalso
                  omega
                · intro c135
                  refine And.intro (⟨by omega, by omega⟩) ?_
                  exact ⟨_, rfl, by omega, sBe_refl, (fun q => absurd q (by omega))⟩
            · intro c136
              refine And.intro ⟨rfl, by decide, by decide⟩ (fgetf fb_740_15 h0 hB0 ?_)
              intro z137 lz137 uz137 qz137
              refine And.intro ⟨rfl, by decide, by decide⟩ (And.intro rfl (And.intro (Or.inl rfl) (fputf fb_740_15 (by decide +kernel) hW (by omega) ?_)))
              intro IhB138 ehB138 hB138
              have t139 : IhB138 740 9 = I 740 9 := (congrFun (congrFun ehB138 740) 9).trans (fup_ne (by omega))
              have t140 : IhB138 740 10 = I 740 10 := (congrFun (congrFun ehB138 740) 10).trans (fup_ne (by omega))
              have t141 : IhB138 740 11 = I 740 11 := (congrFun (congrFun ehB138 740) 11).trans (fup_ne (by omega))
              have t142 : IhB138 740 13 = I 740 13 := (congrFun (congrFun ehB138 740) 13).trans (fup_ne (by omega))
              have t143 : IhB138 740 14 = I 740 14 := (congrFun (congrFun ehB138 740) 14).trans (fup_ne (by omega))
              have t144 := fup_at ehB138 15 (by omega)
              have t145 : IhB138 740 16 = I 740 16 := (congrFun (congrFun ehB138 740) 16).trans (fup_ne (by omega))
              have k146 := fBz_eq hB138 (a := 740) (j := 8) (by decide +kernel)
              have k147 := fBz_eq hB138 (a := 740) (j := 17) (by decide +kernel)
              refine Exists.intro xm_314 (And.intro mi_314 (And.intro ⟨rfl, rfl, rfl, rfl⟩ (And.intro rfl ?_)))
              refine fcall _ h0 (fzs_sub (by decide +kernel) hW) hB138 (ct_M_next_c8003 (fBz h0 hB138) (by omega)) ?_
              rintro IhB149 _ hB149 fhB149 ⟨rfl, hz148⟩
              have t150 := fhB149 740 14 (by decide +kernel)
              have t151 := fhB149 740 15 (by decide +kernel)
              have t152 := fhB149 740 16 (by decide +kernel)
              have k153 := fBz_eq hB149 (a := 740) (j := 8) (by decide +kernel)
              have k154 := fBz_eq hB149 (a := 740) (j := 17) (by decide +kernel)
              exfalso
              omega
        · intro c155
          refine And.intro ⟨rfl, by decide, by decide⟩ (fgetf fb_740_13 h0 hB0 ?_)
          intro z156 lz156 uz156 qz156
          refine Exists.intro xm_422 (And.intro mi_422 (And.intro ⟨rfl, rfl, rfl, rfl⟩ (And.intro True.intro ?_)))
          refine fcallp hB0 (ct_M_isName_49450 (fBz h0 hB0) (by omega) (by omega)) ?_
          rintro _ ⟨z157, rfl, hz157⟩
          refine And.intro (by omega) (And.intro ?_ ?_)
          · intro c158
            refine Exists.intro xm_423 (And.intro mi_423 (And.intro ⟨rfl, rfl, rfl, rfl⟩ (And.intro rfl ?_)))
            refine fcallp hB0 (ct_M_isSign_90da9 (fBz h0 hB0) (by omega)) ?_
            rintro _ ⟨z159, rfl, hz159⟩
            refine And.intro (by omega) (And.intro ?_ ?_)
            · intro c160
              refine Exists.intro xm_423 (And.intro mi_423 (And.intro ⟨rfl, rfl, rfl, rfl⟩ (And.intro rfl ?_)))
              refine fcallp hB0 (ct_M_isSign_90da9 (fBz h0 hB0) (by omega)) ?_
              rintro _ ⟨z161, rfl, hz161⟩
              refine And.intro (by omega) (And.intro ?_ ?_)
              · intro c162
                refine And.intro (⟨by omega, by omega⟩) ?_
                exact ⟨_, rfl, by omega, sBe_refl, (fun q => absurd q (by omega))⟩
              · intro c163
                refine And.intro ⟨rfl, by decide, by decide⟩ (fgetf fb_740_14 h0 hB0 ?_)
                intro z164 lz164 uz164 qz164
                refine And.intro (by omega) (And.intro ?_ ?_)
                · intro c165
                  refine And.intro ⟨rfl, by decide, by decide⟩ (fgetf fb_740_14 h0 hB0 ?_)
                  intro z166 lz166 uz166 qz166
                  refine And.intro ⟨rfl, by decide, by decide⟩ (And.intro rfl (And.intro (Or.inl rfl) (fputf fb_740_14 (by decide +kernel) hW (by omega) ?_)))
                  intro IhB167 ehB167 hB167
                  have t168 : IhB167 740 9 = I 740 9 := (congrFun (congrFun ehB167 740) 9).trans (fup_ne (by omega))
                  have t169 : IhB167 740 10 = I 740 10 := (congrFun (congrFun ehB167 740) 10).trans (fup_ne (by omega))
                  have t170 : IhB167 740 11 = I 740 11 := (congrFun (congrFun ehB167 740) 11).trans (fup_ne (by omega))
                  have t171 : IhB167 740 13 = I 740 13 := (congrFun (congrFun ehB167 740) 13).trans (fup_ne (by omega))
                  have t172 := fup_at ehB167 14 (by omega)
                  have t173 : IhB167 740 15 = I 740 15 := (congrFun (congrFun ehB167 740) 15).trans (fup_ne (by omega))
                  have t174 : IhB167 740 16 = I 740 16 := (congrFun (congrFun ehB167 740) 16).trans (fup_ne (by omega))
                  have k175 := fBz_eq hB167 (a := 740) (j := 8) (by decide +kernel)
                  have k176 := fBz_eq hB167 (a := 740) (j := 17) (by decide +kernel)
                  refine Exists.intro xm_314 (And.intro mi_314 (And.intro ⟨rfl, rfl, rfl, rfl⟩ (And.intro rfl ?_)))
                  refine fcall _ h0 (fzs_sub (by decide +kernel) hW) hB167 (ct_M_next_c8003 (fBz h0 hB167) (by omega)) ?_
                  rintro IhB178 _ hB178 fhB178 ⟨rfl, hz177⟩
                  have t179 := fhB178 740 14 (by decide +kernel)
                  have t180 := fhB178 740 15 (by decide +kernel)
                  have t181 := fhB178 740 16 (by decide +kernel)
                  have k182 := fBz_eq hB178 (a := 740) (j := 8) (by decide +kernel)
                  have k183 := fBz_eq hB178 (a := 740) (j := 17) (by decide +kernel)
                  exfalso
                  omega
                · intro c184
                  refine And.intro (⟨by omega, by omega⟩) ?_
                  exact ⟨_, rfl, by omega, sBe_refl, (fun q => absurd q (by omega))⟩
            · intro c185
              refine And.intro ⟨rfl, by decide, by decide⟩ (fgetf fb_740_15 h0 hB0 ?_)
              intro z186 lz186 uz186 qz186
              refine And.intro (by omega) (And.intro ?_ ?_)
              · intro c187
                refine Exists.intro xm_423 (And.intro mi_423 (And.intro ⟨rfl, rfl, rfl, rfl⟩ (And.intro rfl ?_)))
                refine fcallp hB0 (ct_M_isSign_90da9 (fBz h0 hB0) (by omega)) ?_
                rintro _ ⟨z188, rfl, hz188⟩
                refine And.intro (by omega) (And.intro ?_ ?_)
                · intro c189
                  refine And.intro (⟨by omega, by omega⟩) ?_
                  exact ⟨_, rfl, by omega, sBe_refl, (fun q => absurd q (by omega))⟩
                · intro c190
                  refine And.intro ⟨rfl, by decide, by decide⟩ (fgetf fb_740_14 h0 hB0 ?_)
                  intro z191 lz191 uz191 qz191
                  refine And.intro (by omega) (And.intro ?_ ?_)
                  · intro c192
                    refine And.intro ⟨rfl, by decide, by decide⟩ (fgetf fb_740_14 h0 hB0 ?_)
                    intro z193 lz193 uz193 qz193
                    refine And.intro ⟨rfl, by decide, by decide⟩ (And.intro rfl (And.intro (Or.inl rfl) (fputf fb_740_14 (by decide +kernel) hW (by omega) ?_)))
                    intro IhB194 ehB194 hB194
                    have t195 : IhB194 740 9 = I 740 9 := (congrFun (congrFun ehB194 740) 9).trans (fup_ne (by omega))
                    have t196 : IhB194 740 10 = I 740 10 := (congrFun (congrFun ehB194 740) 10).trans (fup_ne (by omega))
                    have t197 : IhB194 740 11 = I 740 11 := (congrFun (congrFun ehB194 740) 11).trans (fup_ne (by omega))
                    have t198 : IhB194 740 13 = I 740 13 := (congrFun (congrFun ehB194 740) 13).trans (fup_ne (by omega))
                    have t199 := fup_at ehB194 14 (by omega)
                    have t200 : IhB194 740 15 = I 740 15 := (congrFun (congrFun ehB194 740) 15).trans (fup_ne (by omega))
                    have t201 : IhB194 740 16 = I 740 16 := (congrFun (congrFun ehB194 740) 16).trans (fup_ne (by omega))
                    have k202 := fBz_eq hB194 (a := 740) (j := 8) (by decide +kernel)
                    have k203 := fBz_eq hB194 (a := 740) (j := 17) (by decide +kernel)
                    refine Exists.intro xm_314 (And.intro mi_314 (And.intro ⟨rfl, rfl, rfl, rfl⟩ (And.intro rfl ?_)))
                    refine fcall _ h0 (fzs_sub (by decide +kernel) hW) hB194 (ct_M_next_c8003 (fBz h0 hB194) (by omega)) ?_
                    rintro IhB205 _ hB205 fhB205 ⟨rfl, hz204⟩
                    have t206 := fhB205 740 14 (by decide +kernel)
                    have t207 := fhB205 740 15 (by decide +kernel)
                    have t208 := fhB205 740 16 (by decide +kernel)
                    have k209 := fBz_eq hB205 (a := 740) (j := 8) (by decide +kernel)
                    have k210 := fBz_eq hB205 (a := 740) (j := 17) (by decide +kernel)
                    exfalso
                    omega
                  · intro c211
                    refine And.intro (⟨by omega, by omega⟩) ?_
                    exact ⟨_, rfl, by omega, sBe_refl, (fun q => absurd q (by omega))⟩
              · intro c212
                refine And.intro ⟨rfl, by decide, by decide⟩ (fgetf fb_740_15 h0 hB0 ?_)
                intro z213 lz213 uz213 qz213
                refine And.intro ⟨rfl, by decide, by decide⟩ (And.intro rfl (And.intro (Or.inl rfl) (fputf fb_740_15 (by decide +kernel) hW (by omega) ?_)))
                intro IhB214 ehB214 hB214
                have t215 : IhB214 740 9 = I 740 9 := (congrFun (congrFun ehB214 740) 9).trans (fup_ne (by omega))
                have t216 : IhB214 740 10 = I 740 10 := (congrFun (congrFun ehB214 740) 10).trans (fup_ne (by omega))
                have t217 : IhB214 740 11 = I 740 11 := (congrFun (congrFun ehB214 740) 11).trans (fup_ne (by omega))
                have t218 : IhB214 740 13 = I 740 13 := (congrFun (congrFun ehB214 740) 13).trans (fup_ne (by omega))
                have t219 : IhB214 740 14 = I 740 14 := (congrFun (congrFun ehB214 740) 14).trans (fup_ne (by omega))
                have t220 := fup_at ehB214 15 (by omega)
                have t221 : IhB214 740 16 = I 740 16 := (congrFun (congrFun ehB214 740) 16).trans (fup_ne (by omega))
                have k222 := fBz_eq hB214 (a := 740) (j := 8) (by decide +kernel)
                have k223 := fBz_eq hB214 (a := 740) (j := 17) (by decide +kernel)
                refine Exists.intro xm_314 (And.intro mi_314 (And.intro ⟨rfl, rfl, rfl, rfl⟩ (And.intro rfl ?_)))
                refine fcall _ h0 (fzs_sub (by decide +kernel) hW) hB214 (ct_M_next_c8003 (fBz h0 hB214) (by omega)) ?_
                rintro IhB225 _ hB225 fhB225 ⟨rfl, hz224⟩
                have t226 := fhB225 740 14 (by decide +kernel)
                have t227 := fhB225 740 15 (by decide +kernel)
                have t228 := fhB225 740 16 (by decide +kernel)
                have k229 := fBz_eq hB225 (a := 740) (j := 8) (by decide +kernel)
                have k230 := fBz_eq hB225 (a := 740) (j := 17) (by decide +kernel)
                exfalso
                omega
          · intro c231
            refine And.intro ⟨rfl, by decide, by decide⟩ (fgetf fb_740_13 h0 hB0 ?_)
            intro z232 lz232 uz232 qz232
            refine Exists.intro xm_421 (And.intro mi_421 (And.intro ⟨rfl, rfl, rfl, rfl⟩ (And.intro rfl ?_)))
            refine fcall _ h0 (fzs_sub (by decide +kernel) hW) hB0 (ct_M_step_2c704 (fBz h0 hB0) (by omega) (by omega) (by omega) (by omega)) ?_
            rintro IhB234 _ hB234 fhB234 ⟨rfl, hz233, g0z233⟩
            have t235 := fhB234 740 9 (by decide +kernel)
            have t236 := fhB234 740 10 (by decide +kernel)
            have t237 := fhB234 740 11 (by decide +kernel)
            have t238 := fhB234 740 13 (by decide +kernel)
            have t239 := fhB234 740 14 (by decide +kernel)
            have t240 := fhB234 740 15 (by decide +kernel)
            have k241 := fBz_eq hB234 (a := 740) (j := 8) (by decide +kernel)
            have k242 := fBz_eq hB234 (a := 740) (j := 17) (by decide +kernel)
            refine And.intro ⟨rfl, by decide, by decide⟩ (fgetf fb_740_18 h0 hB234 ?_)
            intro z243 lz243 uz243 qz243
            intro z244 hz244 ez244 bz244
            clear ez244
            try replace bz244 := bz244 (by omega)
            refine And.intro ⟨rfl, by decide, by decide⟩ (And.intro rfl (And.intro (Or.inl rfl) (fputf fb_740_18 (by decide +kernel) hW (by omega) ?_)))
            intro IhB245 ehB245 hB245
            have t246 : IhB245 740 9 = IhB234 740 9 := (congrFun (congrFun ehB245 740) 9).trans (fup_ne (by omega))
            have t247 : IhB245 740 10 = IhB234 740 10 := (congrFun (congrFun ehB245 740) 10).trans (fup_ne (by omega))
            have t248 : IhB245 740 11 = IhB234 740 11 := (congrFun (congrFun ehB245 740) 11).trans (fup_ne (by omega))
            have t249 : IhB245 740 13 = IhB234 740 13 := (congrFun (congrFun ehB245 740) 13).trans (fup_ne (by omega))
            have t250 : IhB245 740 14 = IhB234 740 14 := (congrFun (congrFun ehB245 740) 14).trans (fup_ne (by omega))
            have t251 : IhB245 740 15 = IhB234 740 15 := (congrFun (congrFun ehB245 740) 15).trans (fup_ne (by omega))
            have t252 : IhB245 740 16 = IhB234 740 16 := (congrFun (congrFun ehB245 740) 16).trans (fup_ne (by omega))
            have t253 := fup_at ehB245 18 (by omega)
            have k254 := fBz_eq hB245 (a := 740) (j := 8) (by decide +kernel)
            have k255 := fBz_eq hB245 (a := 740) (j := 17) (by decide +kernel)
            refine Exists.intro xm_314 (And.intro mi_314 (And.intro ⟨rfl, rfl, rfl, rfl⟩ (And.intro rfl ?_)))
            refine fcall _ h0 (fzs_sub (by decide +kernel) hW) hB245 (ct_M_next_c8003 (fBz h0 hB245) (by omega)) ?_
            rintro IhB257 _ hB257 fhB257 ⟨rfl, hz256⟩
            have t258 := fhB257 740 14 (by decide +kernel)
            have t259 := fhB257 740 15 (by decide +kernel)
            have t260 := fhB257 740 16 (by decide +kernel)
            have t261 := fhB257 740 18 (by decide +kernel)
            have k262 := fBz_eq hB257 (a := 740) (j := 8) (by decide +kernel)
            have k263 := fBz_eq hB257 (a := 740) (j := 17) (by decide +kernel)
            refine And.intro (⟨by omega, by omega⟩) ?_
            exact ⟨_, rfl, by omega, (par_leaf (by omega) (by omega) g0z233 (fun j => (fFr_S fhB257 (by decide +kernel) j).trans (fup_other ehB245 741 j (Or.inl (by decide)))) (by omega) (by omega)).1, (fun _ => (par_leaf (by omega) (by omega) g0z233 (fun j => (fFr_S fhB257 (by decide +kernel) j).trans (fup_other ehB245 741 j (Or.inl (by decide)))) (by omega) (by omega)).2)⟩
    · intro c264
      refine And.intro ⟨rfl, by decide, by decide⟩ (fgetf fb_740_12 h0 hB0 ?_)
      intro z265 lz265 uz265 qz265
      refine Exists.intro xm_421 (And.intro mi_421 (And.intro ⟨rfl, rfl, rfl, rfl⟩ (And.intro rfl ?_)))
      refine fcall _ h0 (fzs_sub (by decide +kernel) hW) hB0 (ct_M_step_2c704 (fBz h0 hB0) (by omega) (by omega) (by omega) (by omega)) ?_
      rintro IhB267 _ hB267 fhB267 ⟨rfl, hz266, g0z266⟩
      have t268 := fhB267 740 9 (by decide +kernel)
      have t269 := fhB267 740 10 (by decide +kernel)
      have t270 := fhB267 740 11 (by decide +kernel)
      have t271 := fhB267 740 12 (by decide +kernel)
      have t272 := fhB267 740 13 (by decide +kernel)
      have t273 := fhB267 740 14 (by decide +kernel)
      have t274 := fhB267 740 15 (by decide +kernel)
      have k275 := fBz_eq hB267 (a := 740) (j := 8) (by decide +kernel)
      have k276 := fBz_eq hB267 (a := 740) (j := 17) (by decide +kernel)
      refine And.intro ⟨rfl, by decide, by decide⟩ (fgetf fb_740_18 h0 hB267 ?_)
      intro z277 lz277 uz277 qz277
      intro z278 hz278 ez278 bz278
      clear ez278
      try replace bz278 := bz278 (by omega)
      refine And.intro ⟨rfl, by decide, by decide⟩ (And.intro rfl (And.intro (Or.inl rfl) (fputf fb_740_18 (by decide +kernel) hW (by omega) ?_)))
      intro IhB279 ehB279 hB279
      have t280 : IhB279 740 9 = IhB267 740 9 := (congrFun (congrFun ehB279 740) 9).trans (fup_ne (by omega))
      have t281 : IhB279 740 10 = IhB267 740 10 := (congrFun (congrFun ehB279 740) 10).trans (fup_ne (by omega))
      have t282 : IhB279 740 11 = IhB267 740 11 := (congrFun (congrFun ehB279 740) 11).trans (fup_ne (by omega))
      have t283 : IhB279 740 12 = IhB267 740 12 := (congrFun (congrFun ehB279 740) 12).trans (fup_ne (by omega))
      have t284 : IhB279 740 13 = IhB267 740 13 := (congrFun (congrFun ehB279 740) 13).trans (fup_ne (by omega))
      have t285 : IhB279 740 14 = IhB267 740 14 := (congrFun (congrFun ehB279 740) 14).trans (fup_ne (by omega))
      have t286 : IhB279 740 15 = IhB267 740 15 := (congrFun (congrFun ehB279 740) 15).trans (fup_ne (by omega))
      have t287 : IhB279 740 16 = IhB267 740 16 := (congrFun (congrFun ehB279 740) 16).trans (fup_ne (by omega))
      have t288 := fup_at ehB279 18 (by omega)
      have k289 := fBz_eq hB279 (a := 740) (j := 8) (by decide +kernel)
      have k290 := fBz_eq hB279 (a := 740) (j := 17) (by decide +kernel)
      refine Exists.intro xm_314 (And.intro mi_314 (And.intro ⟨rfl, rfl, rfl, rfl⟩ (And.intro rfl ?_)))
      refine fcall _ h0 (fzs_sub (by decide +kernel) hW) hB279 (ct_M_next_c8003 (fBz h0 hB279) (by omega)) ?_
      rintro IhB292 _ hB292 fhB292 ⟨rfl, hz291⟩
      have t293 := fhB292 740 14 (by decide +kernel)
      have t294 := fhB292 740 15 (by decide +kernel)
      have t295 := fhB292 740 16 (by decide +kernel)
      have t296 := fhB292 740 18 (by decide +kernel)
      have k297 := fBz_eq hB292 (a := 740) (j := 8) (by decide +kernel)
      have k298 := fBz_eq hB292 (a := 740) (j := 17) (by decide +kernel)
      refine And.intro (⟨by omega, by omega⟩) ?_
      exact ⟨_, rfl, by omega, (par_leaf (by omega) (by omega) g0z266 (fun j => (fFr_S fhB292 (by decide +kernel) j).trans (fup_other ehB279 741 j (Or.inl (by decide)))) (by omega) (by omega)).1, (fun _ => (par_leaf (by omega) (by omega) g0z266 (fun j => (fFr_S fhB292 (by decide +kernel) j).trans (fup_other ehB279 741 j (Or.inl (by decide)))) (by omega) (by omega)).2)⟩
abbrev jc_M_term_10b42_10 (I0 : fH) : Nat → fL → List fV → fH → Prop := fun m lv st I => ∃ (y1 : Int), lv = [(0, .inr (.inr (some 740))), (1, .inl y1)] ∧ st = [] ∧ ((((-1) ≤ y1 ∧ y1 ≤ 5) ∧ (I0 740 9 ≤ I 740 9) ∧ (I 740 9 ≤ I 740 10) ∧ (I 740 10 ≤ I 740 8) ∧ (I 740 11 = 0 ∨ I 740 9 < I 740 10) ∧ (I0 740 16 ≤ I 740 16) ∧ (I 740 16 - I0 740 16 ≤ I 740 9 - I0 740 9) ∧ (I 740 14 = I0 740 14) ∧ (I 740 15 = I0 740 15)) ∧ (sBe I0 I (I0 740 17) (I0 740 16)) ∧ (sOne I (I0 740 17) (I0 740 16) (I 740 16))) ∧ m = (1 + 1 * (96 - I 740 9) : Int).toNat
set_option maxRecDepth 8000 in
theorem ct_M_term_10b42 {I : fH} {x1 : Int} (h0 : fB bsJ I) (ha1 : ((-1) ≤ x1 ∧ x1 ≤ 5)) (hp0 : I 740 9 ≤ I 740 10 ∧ I 740 10 ≤ I 740 8 ∧ (I 740 11 = 0 ∨ I 740 9 < I 740 10)) (hp1 : 0 ≤ I 740 16 ∧ I 740 16 ≤ I 740 9) (hp2 : 16 ≤ I 740 14 + I 740 15) (hp3 : (1215 ≤ I 740 17 ∧ I 740 17 ≤ 3415 ∧ (I 740 17 - 1215) % 200 = 0) ∨ I 740 17 = 4700) : fC ρ base n F xTc vwCl xTys D dA la gJ (fbz bsJ znJ (fKc wz_2212a) I) xm_387 [.inr (.inr (some 740)), .inl x1] I (fun I' r => ∃ z, r = some (.inl z) ∧ ((0 ≤ z ∧ z ≤ 1) ∧ (I 740 9 ≤ I' 740 9 ∧ I' 740 9 ≤ I' 740 10 ∧ I' 740 10 ≤ I' 740 8 ∧ (I' 740 11 = 0 ∨ I' 740 9 < I' 740 10) ∧ (z = 1 → I 740 16 ≤ I' 740 16 ∧ I' 740 16 - I 740 16 ≤ I' 740 9 - I 740 9 ∧ I' 740 14 = I 740 14 ∧ I' 740 15 = I 740 15))) ∧ (sBe I I' (I 740 17) (I 740 16)) ∧ (z = 1 → sOne I' (I 740 17) (I 740 16) (I' 740 16))) := by
  have hW : fzs wz_2212a (fKc wz_2212a) := fKc_ok _
  refine f_meth (rb := rbJ) (J := [(10, (jc_M_term_10b42_10 I))]) 98 400 xG xin_387 x6_387 okJ (fB_self h0) ?_ ?_
  · refine List.forall_mem_cons.mpr ⟨?_, fun q h => absurd h List.not_mem_nil⟩
    · rintro m _ _ I1 hB1 ⟨y1, rfl, rfl, ⟨hb, hx0, hx1⟩, hm⟩
      have k1 := fBz_eq hB1 (a := 740) (j := 8) (by decide +kernel)
      have k2 := fBz_eq hB1 (a := 740) (j := 17) (by decide +kernel)
      have b3 := fBd fb_740_8 (fBz h0 hB1)
      have b4 := fBd fb_740_14 (fBz h0 hB1)
      have b5 := fBd fb_740_15 (fBz h0 hB1)
      refine Exists.intro xm_423 (And.intro mi_423 (And.intro ⟨rfl, rfl, rfl, rfl⟩ (And.intro rfl ?_)))
      refine fcallp hB1 (ct_M_isSign_90da9 (fBz h0 hB1) (by omega)) ?_
      rintro _ ⟨z6, rfl, hz6⟩
      refine And.intro (by omega) (And.intro ?_ ?_)
      · intro c7
        refine And.intro ⟨rfl, by decide, by decide⟩ (fgetf fb_740_13 h0 hB1 ?_)
        intro z8 lz8 uz8 qz8
        refine Exists.intro xm_314 (And.intro mi_314 (And.intro ⟨rfl, rfl, rfl, rfl⟩ (And.intro rfl ?_)))
        refine fcall _ h0 (fzs_sub (by decide +kernel) hW) hB1 (ct_M_next_c8003 (fBz h0 hB1) (by omega)) ?_
        rintro IhB10 _ hB10 fhB10 ⟨rfl, hz9⟩
        have t11 := fhB10 740 14 (by decide +kernel)
        have t12 := fhB10 740 15 (by decide +kernel)
        have t13 := fhB10 740 16 (by decide +kernel)
        have k14 := fBz_eq hB10 (a := 740) (j := 8) (by decide +kernel)
        have k15 := fBz_eq hB10 (a := 740) (j := 17) (by decide +kernel)
        refine Exists.intro xm_404 (And.intro mi_404 (And.intro ⟨rfl, rfl, rfl, rfl⟩ (And.intro rfl ?_)))
        refine fcall _ h0 (fzs_sub (by decide +kernel) hW) hB10 (ct_M_part0_cc4b8 (fBz h0 hB10) (by omega) (by omega) (by omega) (by omega) (by omega)) ?_
        rintro IhB17 _ hB17 fhB17 ⟨z16, rfl, hz16, g0z16, g1z16⟩
        have k18 := fBz_eq hB17 (a := 740) (j := 8) (by decide +kernel)
        have k19 := fBz_eq hB17 (a := 740) (j := 17) (by decide +kernel)
        refine And.intro (by omega) (And.intro ?_ ?_)
        · intro c20
          refine Exists.intro xm_421 (And.intro mi_421 (And.intro ⟨rfl, rfl, rfl, rfl⟩ (And.intro rfl ?_)))
          refine fcall _ h0 (fzs_sub (by decide +kernel) hW) hB17 (ct_M_step_2c704 (fBz h0 hB17) (by omega) (by omega) (by omega) (by omega)) ?_
          rintro IhB22 _ hB22 fhB22 ⟨rfl, hz21, g0z21⟩
          have t23 := fhB22 740 9 (by decide +kernel)
          have t24 := fhB22 740 10 (by decide +kernel)
          have t25 := fhB22 740 11 (by decide +kernel)
          have t26 := fhB22 740 13 (by decide +kernel)
          have t27 := fhB22 740 14 (by decide +kernel)
          have t28 := fhB22 740 15 (by decide +kernel)
          have k29 := fBz_eq hB22 (a := 740) (j := 8) (by decide +kernel)
          have k30 := fBz_eq hB22 (a := 740) (j := 17) (by decide +kernel)
          exact fcutJ (I := IhB22) (j := (jc_M_term_10b42_10 I)) (lv' := [(0, .inr (.inr (some 740))), (1, .inl _)]) (And.intro rfl (And.intro rfl True.intro)) ⟨_, rfl, rfl, ⟨by omega, (par_be hx0 (fFr_S fhB10 (by decide +kernel)) g0z16 g0z21 (by omega) (by omega) (by omega) (by omega)), (par_one (by omega) hx1 (fFr_S fhB10 (by decide +kernel)) g0z16 (g1z16 (by omega)) g0z21 (by omega) (by omega) (by omega) (by omega) (by omega) (by omega))⟩, rfl⟩ (by omega)
        · intro c31
          refine And.intro (⟨by omega, by omega⟩) ?_
          exact ⟨_, rfl, by omega, (par_bel hx0 (fFr_S fhB10 (by decide +kernel)) g0z16 (by omega) (by omega)), (fun q => absurd q (by omega))⟩
      · intro c32
        refine Exists.intro xm_423 (And.intro mi_423 (And.intro ⟨rfl, rfl, rfl, rfl⟩ (And.intro rfl ?_)))
        refine fcallp hB1 (ct_M_isSign_90da9 (fBz h0 hB1) (by omega)) ?_
        rintro _ ⟨z33, rfl, hz33⟩
        refine And.intro (by omega) (And.intro ?_ ?_)
        · intro c34
          refine And.intro (⟨by omega, by omega⟩) ?_
          exact ⟨_, rfl, by omega, hx0, (fun _ => hx1)⟩
        · intro c35
          refine And.intro ⟨rfl, by decide, by decide⟩ (fgetf fb_740_13 h0 hB1 ?_)
          intro z36 lz36 uz36 qz36
          refine Exists.intro xm_314 (And.intro mi_314 (And.intro ⟨rfl, rfl, rfl, rfl⟩ (And.intro rfl ?_)))
          refine fcall _ h0 (fzs_sub (by decide +kernel) hW) hB1 (ct_M_next_c8003 (fBz h0 hB1) (by omega)) ?_
          rintro IhB38 _ hB38 fhB38 ⟨rfl, hz37⟩
          have t39 := fhB38 740 14 (by decide +kernel)
          have t40 := fhB38 740 15 (by decide +kernel)
          have t41 := fhB38 740 16 (by decide +kernel)
          have k42 := fBz_eq hB38 (a := 740) (j := 8) (by decide +kernel)
          have k43 := fBz_eq hB38 (a := 740) (j := 17) (by decide +kernel)
          refine Exists.intro xm_404 (And.intro mi_404 (And.intro ⟨rfl, rfl, rfl, rfl⟩ (And.intro rfl ?_)))
          refine fcall _ h0 (fzs_sub (by decide +kernel) hW) hB38 (ct_M_part0_cc4b8 (fBz h0 hB38) (by omega) (by omega) (by omega) (by omega) (by omega)) ?_
          rintro IhB45 _ hB45 fhB45 ⟨z44, rfl, hz44, g0z44, g1z44⟩
          have k46 := fBz_eq hB45 (a := 740) (j := 8) (by decide +kernel)
          have k47 := fBz_eq hB45 (a := 740) (j := 17) (by decide +kernel)
          refine And.intro (by omega) (And.intro ?_ ?_)
          · intro c48
            refine Exists.intro xm_421 (And.intro mi_421 (And.intro ⟨rfl, rfl, rfl, rfl⟩ (And.intro rfl ?_)))
            refine fcall _ h0 (fzs_sub (by decide +kernel) hW) hB45 (ct_M_step_2c704 (fBz h0 hB45) (by omega) (by omega) (by omega) (by omega)) ?_
            rintro IhB50 _ hB50 fhB50 ⟨rfl, hz49, g0z49⟩
            have t51 := fhB50 740 9 (by decide +kernel)
            have t52 := fhB50 740 10 (by decide +kernel)
            have t53 := fhB50 740 11 (by decide +kernel)
            have t54 := fhB50 740 13 (by decide +kernel)
            have t55 := fhB50 740 14 (by decide +kernel)
            have t56 := fhB50 740 15 (by decide +kernel)
            have k57 := fBz_eq hB50 (a := 740) (j := 8) (by decide +kernel)
            have k58 := fBz_eq hB50 (a := 740) (j := 17) (by decide +kernel)
            exact fcutJ (I := IhB50) (j := (jc_M_term_10b42_10 I)) (lv' := [(0, .inr (.inr (some 740))), (1, .inl _)]) (And.intro rfl (And.intro rfl True.intro)) ⟨_, rfl, rfl, ⟨by omega, (par_be hx0 (fFr_S fhB38 (by decide +kernel)) g0z44 g0z49 (by omega) (by omega) (by omega) (by omega)), (par_one (by omega) hx1 (fFr_S fhB38 (by decide +kernel)) g0z44 (g1z44 (by omega)) g0z49 (by omega) (by omega) (by omega) (by omega) (by omega) (by omega))⟩, rfl⟩ (by omega)
          · intro c59
            refine And.intro (⟨by omega, by omega⟩) ?_
            exact ⟨_, rfl, by omega, (par_bel hx0 (fFr_S fhB38 (by decide +kernel)) g0z44 (by omega) (by omega)), (fun q => absurd q (by omega))⟩
  · have hB0 := fB_self (zn := znJ) (K := fKc wz_2212a) h0
    have b60 := fBd fb_740_8 (fBz h0 hB0)
    have b61 := fBd fb_740_14 (fBz h0 hB0)
    have b62 := fBd fb_740_15 (fBz h0 hB0)
    refine Exists.intro xm_404 (And.intro mi_404 (And.intro ⟨rfl, rfl, rfl, rfl⟩ (And.intro rfl ?_)))
    refine fcall _ h0 (fzs_sub (by decide +kernel) hW) hB0 (ct_M_part0_cc4b8 (fBz h0 hB0) (by omega) (by omega) (by omega) (by omega) (by omega)) ?_
    rintro IhB64 _ hB64 fhB64 ⟨z63, rfl, hz63, g0z63, g1z63⟩
    have k65 := fBz_eq hB64 (a := 740) (j := 8) (by decide +kernel)
    have k66 := fBz_eq hB64 (a := 740) (j := 17) (by decide +kernel)
    refine And.intro (by omega) (And.intro ?_ ?_)
    · intro c67
      exact fcutJ (I := IhB64) (j := (jc_M_term_10b42_10 I)) (lv' := [(0, .inr (.inr (some 740))), (1, .inl _)]) (And.intro rfl (And.intro rfl True.intro)) ⟨_, rfl, rfl, ⟨by omega, g0z63, (g1z63 (by omega))⟩, rfl⟩ (by omega)
    · intro c68
      refine And.intro (⟨by omega, by omega⟩) ?_
      exact ⟨_, rfl, by omega, g0z63, (fun q => absurd q (by omega))⟩
end CT

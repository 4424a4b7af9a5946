/-! contracts (written by gen95.py) -/
theorem x6_239 : f60c xTc xTys xm_239 = true := by decide +kernel
theorem x6_238 : f60c xTc xTys xm_238 = true := by decide +kernel
abbrev wz_97606 : List Nat := [20005, 20100, 20101, 20102, 20103, 20104, 20105, 20106, 20107, 20108, 20109, 20110, 20111, 20112, 20113, 20114, 20115, 20116, 20117, 20118, 20119]
theorem x6_237 : f60c xTc xTys xm_237 = true := by decide +kernel
theorem rS_741_741_30_410_20_0 : frS gJ bsJ znJ [20100] 100 ((741, 741), (30, 410), (20, 0), (0, 999)) := frS_of (by decide +kernel)
theorem rS_741_741_47_427_20_0 : frS gJ bsJ znJ [20117] 100 ((741, 741), (47, 427), (20, 0), ((-2147483648), 2147483647)) := frS_of (by decide +kernel)
theorem rL_741_741_5_5_1_0 : frL gJ bsJ 100 ((741, 741), (5, 5), (1, 0), (0, 20)) := frL_of (by decide +kernel)
theorem rS_741_741_5_5_1_0 : frS gJ bsJ znJ [20005] 100 ((741, 741), (5, 5), (1, 0), (0, 20)) := frS_of (by decide +kernel)
theorem rS_741_741_30_429_20_19 : frS gJ bsJ znJ [20100, 20101, 20102, 20103, 20104, 20105, 20106, 20107, 20108, 20109, 20110, 20111, 20112, 20113, 20114, 20115, 20116, 20117, 20118, 20119] 100 ((741, 741), (30, 429), (20, 19), (0, 999)) := frS_of (by decide +kernel)
theorem x6_241 : f60c xTc xTys xm_241 = true := by decide +kernel
abbrev wz_6b8d1 : List Nat := [20006, 20200, 20201, 20202, 20203]
theorem x6_249 : f60c xTc xTys xm_249 = true := by decide +kernel
theorem rL_741_741_6_6_1_0 : frL gJ bsJ 100 ((741, 741), (6, 6), (1, 0), (0, 24)) := frL_of (by decide +kernel)
theorem rS_741_741_430_522_4_0 : frS gJ bsJ znJ [20200] 100 ((741, 741), (430, 522), (4, 0), (0, 19)) := frS_of (by decide +kernel)
theorem rS_741_741_431_523_4_0 : frS gJ bsJ znJ [20201] 100 ((741, 741), (431, 523), (4, 0), (0, 19)) := frS_of (by decide +kernel)
theorem rS_741_741_432_524_4_0 : frS gJ bsJ znJ [20202] 100 ((741, 741), (432, 524), (4, 0), ((-2147483648), 2147483647)) := frS_of (by decide +kernel)
theorem rS_741_741_433_525_4_0 : frS gJ bsJ znJ [20203] 100 ((741, 741), (433, 525), (4, 0), ((-2147483648), 2147483647)) := frS_of (by decide +kernel)
theorem rS_741_741_6_6_1_0 : frS gJ bsJ znJ [20006] 100 ((741, 741), (6, 6), (1, 0), (0, 24)) := frS_of (by decide +kernel)
theorem x6_257 : f60c xTc xTys xm_257 = true := by decide +kernel
theorem rL_741_741_0_0_1_0 : frL gJ bsJ 100 ((741, 741), (0, 0), (1, 0), (0, 22000)) := frL_of (by decide +kernel)
theorem x6_255 : f60c xTc xTys xm_255 = true := by decide +kernel
theorem x6_256 : f60c xTc xTys xm_256 = true := by decide +kernel
theorem rL_741_741_1211_3411_200_0 : frL gJ bsJ 100 ((741, 741), (1211, 3411), (200, 0), ((-2147483648), 2147483647)) := frL_hull (by decide) (by decide +kernel)
theorem rL_741_741_1212_3412_200_0 : frL gJ bsJ 100 ((741, 741), (1212, 3412), (200, 0), ((-2147483648), 2147483647)) := frL_hull (by decide) (by decide +kernel)
theorem x6_254 : f60c xTc xTys xm_254 = true := by decide +kernel
theorem fb_741_9 : bsJ 741 9 = (0, 12) := by decide +kernel
theorem rL_741_741_9_9_1_0 : frL gJ bsJ 100 ((741, 741), (9, 9), (1, 0), (0, 12)) := frL_of (by decide +kernel)
theorem rL_741_741_1210_3410_200_0 : frL gJ bsJ 100 ((741, 741), (1210, 3410), (200, 0), ((-2147483648), 2147483647)) := frL_hull (by decide) (by decide +kernel)
theorem x6_261 : f60c xTc xTys xm_261 = true := by decide +kernel
theorem x6_260 : f60c xTc xTys xm_260 = true := by decide +kernel
theorem rL_741_741_1_1_1_0 : frL gJ bsJ 100 ((741, 741), (1, 1), (1, 0), (0, 600)) := frL_of (by decide +kernel)
abbrev wz_5ef89 : List Nat := [748, 749]
theorem x6_259 : f60c xTc xTys xm_259 = true := by decide +kernel
theorem rL_741_741_1214_3414_200_0 : frL gJ bsJ 100 ((741, 741), (1214, 3414), (200, 0), ((-2147483648), 2147483647)) := frL_hull (by decide) (by decide +kernel)
theorem rL_749_749_0_99_1_0 : frL gJ bsJ 100 ((749, 749), (0, 99), (1, 0), ((-2147483648), 2147483647)) := frL_hull (by decide) (by decide +kernel)
theorem rL_741_741_1215_3609_200_194 : frL gJ bsJ 100 ((741, 741), (1215, 3609), (200, 194), ((-2147483648), 2147483647)) := frL_hull (by decide) (by decide +kernel)
theorem rS_749_749_0_99_1_0 : frS gJ bsJ znJ [749] 100 ((749, 749), (0, 99), (1, 0), ((-2147483648), 2147483647)) := frS_dflt (by decide) (by decide +kernel)
theorem rL_748_748_0_127_1_0 : frL gJ bsJ 100 ((748, 748), (0, 127), (1, 0), ((-2147483648), 2147483647)) := frL_hull (by decide) (by decide +kernel)
theorem rS_748_748_0_127_1_0 : frS gJ bsJ znJ [748] 100 ((748, 748), (0, 127), (1, 0), ((-2147483648), 2147483647)) := frS_dflt (by decide) (by decide +kernel)
theorem x6_291 : f60c xTc xTys xm_291 = true := by decide +kernel
theorem x6_318 : f60c xTc xTys xm_318 = true := by decide +kernel
theorem fb_740_11 : bsJ 740 11 = ((-2147483648), 2147483647) := by decide +kernel
theorem fb_740_9 : bsJ 740 9 = (0, 96) := by decide +kernel
theorem rL_747_747_0_95_1_0 : frL gJ bsJ 100 ((747, 747), (0, 95), (1, 0), ((-2147483648), 2147483647)) := frL_hull (by decide) (by decide +kernel)
theorem fb_740_10 : bsJ 740 10 = (0, 96) := by decide +kernel
theorem x6_317 : f60c xTc xTys xm_317 = true := by decide +kernel
theorem x6_316 : f60c xTc xTys xm_316 = true := by decide +kernel
theorem fb_740_8 : bsJ 740 8 = (0, 96) := by decide +kernel
theorem x6_315 : f60c xTc xTys xm_315 = true := by decide +kernel
abbrev wz_1c18d : List Nat := [12209, 12210, 12211, 12212, 12213]
theorem x6_314 : f60c xTc xTys xm_314 = true := by decide +kernel
theorem fb_740_13 : bsJ 740 13 = ((-2147483648), 2147483647) := by decide +kernel
theorem fb_740_12 : bsJ 740 12 = ((-2147483648), 2147483647) := by decide +kernel
theorem x6_423 : f60c xTc xTys xm_423 = true := by decide +kernel
abbrev wz_6dafe : List Nat := [12216, 20605, 20840]
theorem x6_421 : f60c xTc xTys xm_421 = true := by decide +kernel
theorem fb_740_17 : bsJ 740 17 = ((-2147483648), 2147483647) := by decide +kernel
theorem fb_740_16 : bsJ 740 16 = (0, 97) := by decide +kernel
theorem rS_741_741_1215_3609_200_194 : frS gJ bsJ znJ [20605] 100 ((741, 741), (1215, 3609), (200, 194), ((-2147483648), 2147483647)) := frS_of (by decide +kernel)
theorem rS_741_741_4700_4899_1_0 : frS gJ bsJ znJ [20840] 100 ((741, 741), (4700, 4899), (1, 0), ((-2147483648), 2147483647)) := frS_of (by decide +kernel)
section CT
variable {ρ : Nat → Int32} {base n : Nat} {F : Nat → Prop} {D : va_G} {dA : Nat → ClassId} {la : Launch}
set_option maxRecDepth 8000 in
theorem ct_M_cellAt_c15f4 {I : fH} {x1 : Int} (h0 : fB bsJ I) (ha1 : (0 ≤ x1 ∧ x1 ≤ 19)) : fC ρ base n F xTc vwCl xTys D dA la gJ (fbz bsJ znJ (fKc []) I) xm_239 [.inr (.inr (some 740)), .inl x1] I (fun _ r => ∃ z, r = some (.inl z) ∧ (z = 30 + 20 * x1)) := by
  have hW : fzs [] (fKc []) := fKc_ok _
  refine f_meth (rb := rbJ) (J := []) 1 400 xG xin_239 x6_239 okJ (fB_self h0) ?_ ?_
  · exact fun q h => absurd h List.not_mem_nil
  · have hB0 := fB_self (zn := znJ) (K := fKc []) h0
    refine And.intro (True.intro) ?_
    exact ⟨_, rfl, by omega⟩
set_option maxRecDepth 8000 in
theorem ct_M_isIn_27230 {I : fH} {x0 : Int} {x1 : Int} {x2 : Int} (h0 : fB bsJ I) (ha0 : ((-2147483648) ≤ x0 ∧ x0 ≤ 2147483647)) (ha1 : ((-100000) ≤ x1 ∧ x1 ≤ 97)) (ha2 : ((-1) ≤ x2 ∧ x2 ≤ 999999)) : fC ρ base n F xTc vwCl xTys D dA la gJ (fbz bsJ znJ (fKc []) I) xm_238 [.inr (.inl x0), .inr (.inl x1), .inr (.inl x2)] I (fun _ r => ∃ z, r = some (.inl z) ∧ ((z = 1 ∧ x1 ≤ x0 ∧ x0 ≤ x2) ∨ (z = 0 ∧ (x0 < x1 ∨ x2 < x0)))) := by
  have hW : fzs [] (fKc []) := fKc_ok _
  refine f_meth (rb := rbJ) (J := []) 1 400 xG xin_238 x6_238 okJ (fB_self h0) ?_ ?_
  · exact fun q h => absurd h List.not_mem_nil
  · have hB0 := fB_self (zn := znJ) (K := fKc []) h0
    refine And.intro (And.intro (by omega) (by omega)) ?_
    intro z1 hz1
    refine And.intro (by omega) (And.intro ?_ ?_)
    · intro c2
      refine And.intro (⟨by omega, by omega⟩) ?_
      exact ⟨_, rfl, by omega⟩
    · intro c3
      refine And.intro (And.intro (by omega) (by omega)) ?_
      intro z4 hz4
      refine And.intro (by omega) (And.intro ?_ ?_)
      · intro c5
        refine And.intro (⟨by omega, by omega⟩) ?_
        exact ⟨_, rfl, by omega⟩
      · intro c6
        refine And.intro (⟨by omega, by omega⟩) ?_
        exact ⟨_, rfl, by omega⟩
abbrev jc_M_cell_185e1_42 (I0 : fH) : Nat → fL → List fV → fH → Prop := fun m lv st I => ∃ (y1 : Int) (y2 : Int) (y3 : Int), lv = [(0, .inr (.inr (some 740))), (1, .inl y1), (2, .inl y2), (3, .inl y3)] ∧ st = [] ∧ (((1 ≤ y1 ∧ y1 ≤ 999) ∧ ((30 ≤ y2 ∧ y2 ≤ 410) ∧ (y2 - 30) % 20 ≤ 0) ∧ (0 ≤ y3 ∧ y3 ≤ 20) ∧ (0 ≤ I 741 5 ∧ I 741 5 ≤ 19) ∧ (y2 = 30 + 20 * I0 741 5) ∧ (0 ≤ I0 741 5) ∧ (I0 741 5 ≤ 19)) ∧ (∀ j : Nat, ((j : Int) < 30 + 20 * I0 741 5 ∨ 50 + 20 * I0 741 5 ≤ (j : Int)) → I 741 j = I0 741 j)) ∧ m = (1 + 1 * (20 - y3) : Int).toNat
set_option maxRecDepth 8000 in
theorem ct_M_cell_185e1 {I : fH} {x1 : Int} (h0 : fB bsJ I) (ha1 : ((-2147483648) ≤ x1 ∧ x1 ≤ 2147483647)) (hp0 : sI I 741) : fC ρ base n F xTc vwCl xTys D dA la gJ (fbz bsJ znJ (fKc wz_97606) I) xm_237 [.inr (.inr (some 740)), .inl x1] I (fun I' r => ∃ z, r = some (.inl z) ∧ ((0 ≤ z ∧ z ≤ 19) ∨ z = (-1000000003) ∨ z = (-1000000001)) ∧ (sI I' 741)) := by
  have hW : fzs wz_97606 (fKc wz_97606) := fKc_ok _
  refine f_meth (rb := rbJ) (J := [(42, (jc_M_cell_185e1_42 I))]) 22 400 xG xin_237 x6_237 okJ (fB_self h0) ?_ ?_
  · refine List.forall_mem_cons.mpr ⟨?_, fun q h => absurd h List.not_mem_nil⟩
    · rintro m _ _ I1 hB1 ⟨y1, y2, y3, rfl, rfl, ⟨hb, hx0⟩, hm⟩
      refine And.intro (by omega) (And.intro ?_ ?_)
      · intro c1
        have w5 := hx0 5 (by omega)
        refine And.intro ⟨rfl, by decide, by decide⟩ ?_
        refine fstore rS_741_741_30_410_20_0 (fzs_sub (by decide +kernel) hW) (by omega) (by omega) ?_
        intro IhB2 ehB2 hB2
        have t3 := fup_self ehB2
        have t4 : IhB2 741 5 = I1 741 5 := (congrFun (congrFun ehB2 741) 5).trans (fup_ne (by omega))
        refine And.intro ⟨rfl, by decide, by decide⟩ ?_
        refine fstore rS_741_741_47_427_20_0 (fzs_sub (by decide +kernel) hW) (by omega) (by omega) ?_
        intro IhB5 ehB5 hB5
        have t6 := fup_self ehB5
        have t7 : IhB5 741 5 = IhB2 741 5 := (congrFun (congrFun ehB5 741) 5).trans (fup_ne (by omega))
        refine And.intro ⟨rfl, by decide, by decide⟩ ?_
        refine fload rL_741_741_5_5_1_0 h0 hB5 (by omega) ?_
        intro z8 lz8 uz8 qz8
        have pz8 := fld_at qz8 5 (by omega)
        refine fstore rS_741_741_5_5_1_0 (fzs_sub (by decide +kernel) hW) (by omega) (by omega) ?_
        intro IhB9 ehB9 hB9
        have t10 := fup_self ehB9
        have t11 := fup_at ehB9 5 (by omega)
        refine And.intro ⟨rfl, by decide, by decide⟩ ?_
        refine fload rL_741_741_5_5_1_0 h0 hB9 (by omega) ?_
        intro z12 lz12 uz12 qz12
        have pz12 := fld_at qz12 5 (by omega)
        refine And.intro (True.intro) ?_
        exact ⟨_, rfl, by omega, (sI_cell (sBd_of h0) (by omega) (fun j h hj => ((fup_other ehB9 741 j (Or.inr (by omega))).trans ((fup_other ehB5 741 j (Or.inr (by omega))).trans ((fup_other ehB2 741 j (Or.inr (by omega))).trans (hx0 j h))))) (by rw [(fup_other ehB9 741 (30 + 20 * I 741 5).toNat (Or.inr (by omega))), (fup_other ehB5 741 (30 + 20 * I 741 5).toNat (Or.inr (by omega))), fup_at ehB2 (30 + 20 * I 741 5).toNat (by omega)]; omega) (by omega) hp0)⟩
      · intro c13
        refine And.intro ⟨rfl, by decide, by decide⟩ ?_
        refine fstore rS_741_741_30_429_20_19 (fzs_sub (by decide +kernel) hW) (by omega) (by omega) ?_
        intro IhB14 ehB14 hB14
        have t15 := fup_self ehB14
        have t16 : IhB14 741 5 = I1 741 5 := (congrFun (congrFun ehB14 741) 5).trans (fup_ne (by omega))
        exact fcutJ (I := IhB14) (j := (jc_M_cell_185e1_42 I)) (lv' := [(0, .inr (.inr (some 740))), (1, .inl _), (2, .inl _), (3, .inl _)]) (And.intro rfl (And.intro rfl (And.intro rfl (And.intro rfl True.intro)))) ⟨_, _, _, rfl, rfl, ⟨by omega, (fun j h => (fup_other ehB14 741 j (Or.inr (by omega))).trans (hx0 j h))⟩, rfl⟩ (by omega)
  · have hB0 := fB_self (zn := znJ) (K := fKc wz_97606) h0
    refine And.intro (by omega) ?_
    refine Exists.intro xm_238 (And.intro mi_238 (And.intro ⟨rfl, rfl, rfl, rfl⟩ (And.intro True.intro ?_)))
    refine fcallp hB0 (ct_M_isIn_27230 (fBz h0 hB0) (by omega) (by omega) (by omega)) ?_
    rintro _ ⟨z17, rfl, hz17⟩
    refine And.intro (by omega) (And.intro ?_ ?_)
    · intro c18
      refine And.intro ⟨rfl, by decide, by decide⟩ ?_
      refine fload rL_741_741_5_5_1_0 h0 hB0 (by omega) ?_
      intro z19 lz19 uz19 qz19
      have pz19 := fld_at qz19 5 (by omega)
      refine And.intro (by omega) (And.intro ?_ ?_)
      · intro c20
        refine And.intro ⟨rfl, by decide, by decide⟩ ?_
        refine fload rL_741_741_5_5_1_0 h0 hB0 (by omega) ?_
        intro z21 lz21 uz21 qz21
        have pz21 := fld_at qz21 5 (by omega)
        refine Exists.intro xm_239 (And.intro mi_239 (And.intro ⟨rfl, rfl, rfl, rfl⟩ (And.intro rfl ?_)))
        refine fcallp hB0 (ct_M_cellAt_c15f4 (fBz h0 hB0) (by omega)) ?_
        rintro _ ⟨_, rfl, rfl⟩
        exact fcutJ (I := I) (j := (jc_M_cell_185e1_42 I)) (lv' := [(0, .inr (.inr (some 740))), (1, .inl _), (2, .inl _), (3, .inl _)]) (And.intro rfl (And.intro rfl (And.intro rfl (And.intro rfl True.intro)))) ⟨_, _, _, rfl, rfl, ⟨by omega, (fun j _ => rfl)⟩, rfl⟩ (by omega)
      · intro c23
        refine And.intro (True.intro) ?_
        exact ⟨_, rfl, by omega, hp0⟩
    · intro c24
      refine And.intro (True.intro) ?_
      exact ⟨_, rfl, by omega, hp0⟩
set_option maxRecDepth 8000 in
theorem ct_M_isCell_45859 {I : fH} {x1 : Int} (h0 : fB bsJ I) (ha1 : ((-2147483648) ≤ x1 ∧ x1 ≤ 2147483647)) : fC ρ base n F xTc vwCl xTys D dA la gJ (fbz bsJ znJ (fKc []) I) xm_241 [.inr (.inr (some 740)), .inl x1] I (fun _ r => ∃ z, r = some (.inl z) ∧ (((z = 1 ∧ 0 ≤ x1 ∧ x1 ≤ 19) ∨ z = 0) ∧ (z = 1 → x1 < I 741 5))) := by
  have hW : fzs [] (fKc []) := fKc_ok _
  refine f_meth (rb := rbJ) (J := []) 1 400 xG xin_241 x6_241 okJ (fB_self h0) ?_ ?_
  · exact fun q h => absurd h List.not_mem_nil
  · have hB0 := fB_self (zn := znJ) (K := fKc []) h0
    refine And.intro (by omega) ?_
    refine And.intro ⟨rfl, by decide, by decide⟩ ?_
    refine fload rL_741_741_5_5_1_0 h0 hB0 (by omega) ?_
    intro z1 lz1 uz1 qz1
    have pz1 := fld_at qz1 5 (by omega)
    refine And.intro (by omega) ?_
    refine Exists.intro xm_238 (And.intro mi_238 (And.intro ⟨rfl, rfl, rfl, rfl⟩ (And.intro True.intro ?_)))
    refine fcallp hB0 (ct_M_isIn_27230 (fBz h0 hB0) (by omega) (by omega) (by omega)) ?_
    rintro _ ⟨z2, rfl, hz2⟩
    refine And.intro (⟨by omega, by omega⟩) ?_
    exact ⟨_, rfl, by omega⟩
set_option maxRecDepth 8000 in
theorem ct_M_lock_29b98 {I : fH} {x1 : Int} {x2 : Int} {x3 : Int} (h0 : fB bsJ I) (ha1 : ((-2147483648) ≤ x1 ∧ x1 ≤ 2147483647)) (ha2 : ((-2147483648) ≤ x2 ∧ x2 ≤ 2147483647)) (ha3 : ((-2147483648) ≤ x3 ∧ x3 ≤ 2147483647)) (hp0 : sI I 741) : fC ρ base n F xTc vwCl xTys D dA la gJ (fbz bsJ znJ (fKc wz_6b8d1) I) xm_249 [.inr (.inr (some 740)), .inl x1, .inl x2, .inl x3] I (fun I' r => ∃ z, r = some (.inl z) ∧ ((0 ≤ z ∧ z ≤ 23) ∨ z = (-1000000003) ∨ z = (-1000000001)) ∧ (sI I' 741)) := by
  have hW : fzs wz_6b8d1 (fKc wz_6b8d1) := fKc_ok _
  refine f_meth (rb := rbJ) (J := []) 1 400 xG xin_249 x6_249 okJ (fB_self h0) ?_ ?_
  · exact fun q h => absurd h List.not_mem_nil
  · have hB0 := fB_self (zn := znJ) (K := fKc wz_6b8d1) h0
    refine Exists.intro xm_241 (And.intro mi_241 (And.intro ⟨rfl, rfl, rfl, rfl⟩ (And.intro rfl ?_)))
    refine fcallp hB0 (ct_M_isCell_45859 (fBz h0 hB0) (by omega)) ?_
    rintro _ ⟨z1, rfl, hz1⟩
    refine And.intro (by omega) (And.intro ?_ ?_)
    · intro c2
      refine And.intro (True.intro) ?_
      exact ⟨_, rfl, by omega, hp0⟩
    · intro c3
      refine Exists.intro xm_241 (And.intro mi_241 (And.intro ⟨rfl, rfl, rfl, rfl⟩ (And.intro rfl ?_)))
      refine fcallp hB0 (ct_M_isCell_45859 (fBz h0 hB0) (by omega)) ?_
      rintro _ ⟨z4, rfl, hz4⟩
      refine And.intro (by omega) (And.intro ?_ ?_)
      · intro c5
        refine And.intro (True.intro) ?_
        exact ⟨_, rfl, by omega, hp0⟩
      · intro c6
        refine And.intro (by omega) (And.intro ?_ ?_)
        · intro c7
          refine And.intro (True.intro) ?_
          exact ⟨_, rfl, by omega, hp0⟩
        · intro c8
          refine And.intro (by omega) ?_
          refine Exists.intro xm_238 (And.intro mi_238 (And.intro ⟨rfl, rfl, rfl, rfl⟩ (And.intro True.intro ?_)))
          refine fcallp hB0 (ct_M_isIn_27230 (fBz h0 hB0) (by omega) (by omega) (by omega)) ?_
          rintro _ ⟨z9, rfl, hz9⟩
          refine And.intro (by omega) (And.intro ?_ ?_)
          · intro c10
            refine And.intro ⟨rfl, by decide, by decide⟩ ?_
            refine fload rL_741_741_6_6_1_0 h0 hB0 (by omega) ?_
            intro z11 lz11 uz11 qz11
            have pz11 := fld_at qz11 6 (by omega)
            refine And.intro (by omega) (And.intro ?_ ?_)
            · intro c12
              refine And.intro ⟨rfl, by decide, by decide⟩ ?_
              refine fload rL_741_741_6_6_1_0 h0 hB0 (by omega) ?_
              intro z13 lz13 uz13 qz13
              have pz13 := fld_at qz13 6 (by omega)
              refine And.intro ⟨rfl, by decide, by decide⟩ ?_
              refine fstore rS_741_741_430_522_4_0 (fzs_sub (by decide +kernel) hW) (by omega) (by omega) ?_
              intro IhB14 ehB14 hB14
              have t15 := fup_self ehB14
              have t16 : IhB14 741 6 = I 741 6 := (congrFun (congrFun ehB14 741) 6).trans (fup_ne (by omega))
              refine And.intro ⟨rfl, by decide, by decide⟩ ?_
              refine fstore rS_741_741_431_523_4_0 (fzs_sub (by decide +kernel) hW) (by omega) (by omega) ?_
              intro IhB17 ehB17 hB17
              have t18 := fup_self ehB17
              have t19 : IhB17 741 6 = IhB14 741 6 := (congrFun (congrFun ehB17 741) 6).trans (fup_ne (by omega))
              refine And.intro ⟨rfl, by decide, by decide⟩ ?_
              refine fstore rS_741_741_432_524_4_0 (fzs_sub (by decide +kernel) hW) (by omega) (by omega) ?_
              intro IhB20 ehB20 hB20
              have t21 := fup_self ehB20
              have t22 : IhB20 741 6 = IhB17 741 6 := (congrFun (congrFun ehB20 741) 6).trans (fup_ne (by omega))
              refine And.intro ⟨rfl, by decide, by decide⟩ ?_
              refine fstore rS_741_741_433_525_4_0 (fzs_sub (by decide +kernel) hW) (by omega) (by omega) ?_
              intro IhB23 ehB23 hB23
              have t24 := fup_self ehB23
              have t25 : IhB23 741 6 = IhB20 741 6 := (congrFun (congrFun ehB23 741) 6).trans (fup_ne (by omega))
              refine And.intro ⟨rfl, by decide, by decide⟩ ?_
              refine fload rL_741_741_6_6_1_0 h0 hB23 (by omega) ?_
              intro z26 lz26 uz26 qz26
              have pz26 := fld_at qz26 6 (by omega)
              refine fstore rS_741_741_6_6_1_0 (fzs_sub (by decide +kernel) hW) (by omega) (by omega) ?_
              intro IhB27 ehB27 hB27
              have t28 := fup_self ehB27
              have t29 := fup_at ehB27 6 (by omega)
              refine And.intro ⟨rfl, by decide, by decide⟩ ?_
              refine fload rL_741_741_6_6_1_0 h0 hB27 (by omega) ?_
              intro z30 lz30 uz30 qz30
              have pz30 := fld_at qz30 6 (by omega)
              refine And.intro (True.intro) ?_
              exact ⟨_, rfl, by omega, (sI_lock (sBd_of h0) (by omega) (fun j h hj => ((fup_other ehB27 741 j (Or.inr (by omega))).trans ((fup_other ehB23 741 j (Or.inr (by omega))).trans ((fup_other ehB20 741 j (Or.inr (by omega))).trans ((fup_other ehB17 741 j (Or.inr (by omega))).trans (fup_other ehB14 741 j (Or.inr (by omega)))))))) (by rw [(fup_other ehB27 741 (430 + 4 * I 741 6).toNat (Or.inr (by omega))), (fup_other ehB23 741 (430 + 4 * I 741 6).toNat (Or.inr (by omega))), (fup_other ehB20 741 (430 + 4 * I 741 6).toNat (Or.inr (by omega))), (fup_other ehB17 741 (430 + 4 * I 741 6).toNat (Or.inr (by omega))), fup_at ehB14 (430 + 4 * I 741 6).toNat (by omega)]; omega) (by rw [(fup_other ehB27 741 (431 + 4 * I 741 6).toNat (Or.inr (by omega))), (fup_other ehB23 741 (431 + 4 * I 741 6).toNat (Or.inr (by omega))), (fup_other ehB20 741 (431 + 4 * I 741 6).toNat (Or.inr (by omega))), fup_at ehB17 (431 + 4 * I 741 6).toNat (by omega)]; omega) (by omega) hp0)⟩
            · intro c31
              refine And.intro (True.intro) ?_
              exact ⟨_, rfl, by omega, hp0⟩
          · intro c32
            refine And.intro (True.intro) ?_
            exact ⟨_, rfl, by omega, hp0⟩
set_option maxRecDepth 8000 in
theorem ct_M_hour_9a688 {I : fH}  (h0 : fB bsJ I)  : fC ρ base n F xTc vwCl xTys D dA la gJ (fbz bsJ znJ (fKc []) I) xm_257 [.inr (.inr (some 740))] I (fun _ r => ∃ z, r = some (.inl z) ∧ (0 ≤ z ∧ z ≤ 366)) := by
  have hW : fzs [] (fKc []) := fKc_ok _
  refine f_meth (rb := rbJ) (J := []) 1 400 xG xin_257 x6_257 okJ (fB_self h0) ?_ ?_
  · exact fun q h => absurd h List.not_mem_nil
  · have hB0 := fB_self (zn := znJ) (K := fKc []) h0
    refine And.intro ⟨rfl, by decide, by decide⟩ ?_
    refine fload rL_741_741_0_0_1_0 h0 hB0 (by omega) ?_
    intro z1 lz1 uz1 qz1
    have pz1 := fld_at qz1 0 (by omega)
    refine And.intro (And.intro (by omega) (And.intro (by omega) (And.intro (by omega) rfl))) ?_
    intro z2 hz2 ez2 dz2
    have dz2 := dz2 (by omega) (by omega)
    change _ = _ / _ at dz2
    refine And.intro (True.intro) ?_
    exact ⟨_, rfl, by omega⟩
set_option maxRecDepth 8000 in
theorem ct_M_textAt_ea474 {I : fH} {x1 : Int} (h0 : fB bsJ I) (ha1 : (0 ≤ x1 ∧ x1 ≤ 11)) : fC ρ base n F xTc vwCl xTys D dA la gJ (fbz bsJ znJ (fKc []) I) xm_255 [.inr (.inr (some 740)), .inl x1] I (fun _ r => ∃ z, r = some (.inl z) ∧ (z = 1210 + 200 * x1)) := by
  have hW : fzs [] (fKc []) := fKc_ok _
  refine f_meth (rb := rbJ) (J := []) 1 400 xG xin_255 x6_255 okJ (fB_self h0) ?_ ?_
  · exact fun q h => absurd h List.not_mem_nil
  · have hB0 := fB_self (zn := znJ) (K := fKc []) h0
    refine And.intro (True.intro) ?_
    exact ⟨_, rfl, by omega⟩
set_option maxRecDepth 8000 in
theorem ct_M_isInForce_508bf {I : fH} {x1 : Int} (h0 : fB bsJ I) (ha1 : (0 ≤ x1 ∧ x1 ≤ 11)) : fC ρ base n F xTc vwCl xTys D dA la gJ (fbz bsJ znJ (fKc []) I) xm_256 [.inr (.inr (some 740)), .inl x1] I (fun _ r => ∃ z, r = some (.inl z) ∧ (0 ≤ z ∧ z ≤ 1)) := by
  have hW : fzs [] (fKc []) := fKc_ok _
  refine f_meth (rb := rbJ) (J := []) 1 400 xG xin_256 x6_256 okJ (fB_self h0) ?_ ?_
  · exact fun q h => absurd h List.not_mem_nil
  · have hB0 := fB_self (zn := znJ) (K := fKc []) h0
    refine Exists.intro xm_255 (And.intro mi_255 (And.intro ⟨rfl, rfl, rfl, rfl⟩ (And.intro rfl ?_)))
    refine fcallp hB0 (ct_M_textAt_ea474 (fBz h0 hB0) (by omega)) ?_
    rintro _ ⟨_, rfl, rfl⟩
    refine And.intro ⟨rfl, by decide, by decide⟩ ?_
    refine fload rL_741_741_1211_3411_200_0 h0 hB0 (by omega) ?_
    intro z2 lz2 uz2 qz2
    refine And.intro (by omega) (And.intro ?_ ?_)
    · intro c3
      refine And.intro (⟨by omega, by omega⟩) ?_
      exact ⟨_, rfl, by omega⟩
    · intro c4
      refine And.intro ⟨rfl, by decide, by decide⟩ ?_
      refine fload rL_741_741_1211_3411_200_0 h0 hB0 (by omega) ?_
      intro z5 lz5 uz5 qz5
      refine Exists.intro xm_257 (And.intro mi_257 (And.intro ⟨rfl, rfl, rfl, rfl⟩ (And.intro rfl ?_)))
      refine fcallp hB0 (ct_M_hour_9a688 (fBz h0 hB0)) ?_
      rintro _ ⟨z6, rfl, hz6⟩
      refine And.intro (by omega) (And.intro ?_ ?_)
      · intro c7
        refine And.intro (⟨by omega, by omega⟩) ?_
        exact ⟨_, rfl, by omega⟩
      · intro c8
        refine And.intro ⟨rfl, by decide, by decide⟩ ?_
        refine fload rL_741_741_1212_3412_200_0 h0 hB0 (by omega) ?_
        intro z9 lz9 uz9 qz9
        refine And.intro (by omega) (And.intro ?_ ?_)
        · intro c10
          refine And.intro (⟨by omega, by omega⟩) ?_
          exact ⟨_, rfl, by omega⟩
        · intro c11
          refine And.intro ⟨rfl, by decide, by decide⟩ ?_
          refine fload rL_741_741_1212_3412_200_0 h0 hB0 (by omega) ?_
          intro z12 lz12 uz12 qz12
          refine Exists.intro xm_257 (And.intro mi_257 (And.intro ⟨rfl, rfl, rfl, rfl⟩ (And.intro rfl ?_)))
          refine fcallp hB0 (ct_M_hour_9a688 (fBz h0 hB0)) ?_
          rintro _ ⟨z13, rfl, hz13⟩
          refine And.intro (by omega) (And.intro ?_ ?_)
          · intro c14
            refine And.intro (⟨by omega, by omega⟩) ?_
            exact ⟨_, rfl, by omega⟩
          · intro c15
            refine And.intro (⟨by omega, by omega⟩) ?_
            exact ⟨_, rfl, by omega⟩
abbrev jc_M_counts_1278f_4 : Nat → fL → List fV → fH → Prop := fun m lv st I => ∃ (y1 : Int) (y2 : Int) (y3 : Int), lv = [(0, .inr (.inr (some 740))), (1, .inl y1), (2, .inl y2), (3, .inl y3)] ∧ st = [] ∧ (((0 ≤ y1 ∧ y1 ≤ 5) ∧ ((-1) ≤ y2 ∧ y2 ≤ 11) ∧ (0 ≤ y3 ∧ y3 ≤ 12) ∧ (y2 < I 741 9))) ∧ m = (1 + 1 * (12 - y3) : Int).toNat
set_option maxRecDepth 8000 in
theorem ct_M_counts_1278f {I : fH} {x1 : Int} (h0 : fB bsJ I) (ha1 : (0 ≤ x1 ∧ x1 ≤ 5)) : fC ρ base n F xTc vwCl xTys D dA la gJ (fbz bsJ znJ (fKc []) I) xm_254 [.inr (.inr (some 740)), .inl x1] I (fun _ r => ∃ z, r = some (.inl z) ∧ (((-1) ≤ z ∧ z ≤ 11) ∧ (z < I 741 9))) := by
  have hW : fzs [] (fKc []) := fKc_ok _
  refine f_meth (rb := rbJ) (J := [(4, jc_M_counts_1278f_4)]) 14 400 xG xin_254 x6_254 okJ (fB_self h0) ?_ ?_
  · refine List.forall_mem_cons.mpr ⟨?_, fun q h => absurd h List.not_mem_nil⟩
    · rintro m _ _ I1 hB1 ⟨y1, y2, y3, rfl, rfl, hb, hm⟩
      have k1 := fBz_eq hB1 (a := 741) (j := 9) (by decide +kernel)
      have b2 := fBd fb_741_9 (fBz h0 hB1)
      refine And.intro ⟨rfl, by decide, by decide⟩ ?_
      refine fload rL_741_741_9_9_1_0 h0 hB1 (by omega) ?_
      intro z3 lz3 uz3 qz3
      have pz3 := fld_at qz3 9 (by omega)
      refine And.intro (by omega) (And.intro ?_ ?_)
      · intro c4
        refine And.intro (True.intro) ?_
        exact ⟨_, rfl, by omega⟩
      · intro c5
        refine And.intro ⟨rfl, by decide, by decide⟩ ?_
        refine Exists.intro xm_255 (And.intro mi_255 (And.intro ⟨rfl, rfl, rfl, rfl⟩ (And.intro rfl ?_)))
        refine fcallp hB1 (ct_M_textAt_ea474 (fBz h0 hB1) (by omega)) ?_
        rintro _ ⟨_, rfl, rfl⟩
        refine fload rL_741_741_1210_3410_200_0 h0 hB1 (by omega) ?_
        intro z7 lz7 uz7 qz7
        refine And.intro (by omega) (And.intro ?_ ?_)
        · intro c8
          refine And.intro (by omega) (And.intro ?_ ?_)
          · intro c9
            exact fcutJ (I := I1) (j := jc_M_counts_1278f_4) (lv' := [(0, .inr (.inr (some 740))), (1, .inl _), (2, .inl _), (3, .inl _)]) (And.intro rfl (And.intro rfl (And.intro rfl (And.intro rfl True.intro)))) ⟨_, _, _, rfl, rfl, by omega, rfl⟩ (by omega)
          · intro c10
            refine And.intro (by omega) (And.intro ?_ ?_)
            · intro c11
              exact fcutJ (I := I1) (j := jc_M_counts_1278f_4) (lv' := [(0, .inr (.inr (some 740))), (1, .inl _), (2, .inl _), (3, .inl _)]) (And.intro rfl (And.intro rfl (And.intro rfl (And.intro rfl True.intro)))) ⟨_, _, _, rfl, rfl, by omega, rfl⟩ (by omega)
            · intro c12
              refine And.intro ⟨rfl, by decide, by decide⟩ ?_
              refine Exists.intro xm_255 (And.intro mi_255 (And.intro ⟨rfl, rfl, rfl, rfl⟩ (And.intro rfl ?_)))
              refine fcallp hB1 (ct_M_textAt_ea474 (fBz h0 hB1) (by omega)) ?_
              rintro _ ⟨_, rfl, rfl⟩
              refine fload rL_741_741_1211_3411_200_0 h0 hB1 (by omega) ?_
              intro z14 lz14 uz14 qz14
              refine And.intro ⟨rfl, by decide, by decide⟩ ?_
              refine Exists.intro xm_255 (And.intro mi_255 (And.intro ⟨rfl, rfl, rfl, rfl⟩ (And.intro rfl ?_)))
              refine fcallp hB1 (ct_M_textAt_ea474 (fBz h0 hB1) (by omega)) ?_
              rintro _ ⟨_, rfl, rfl⟩
              refine fload rL_741_741_1211_3411_200_0 h0 hB1 (by omega) ?_
              intro z16 lz16 uz16 qz16
              refine And.intro (by omega) (And.intro ?_ ?_)
              · intro c17
                exact fcutJ (I := I1) (j := jc_M_counts_1278f_4) (lv' := [(0, .inr (.inr (some 740))), (1, .inl _), (2, .inl _), (3, .inl _)]) (And.intro rfl (And.intro rfl (And.intro rfl (And.intro rfl True.intro)))) ⟨_, _, _, rfl, rfl, by omega, rfl⟩ (by omega)
              · intro c18
                exact fcutJ (I := I1) (j := jc_M_counts_1278f_4) (lv' := [(0, .inr (.inr (some 740))), (1, .inl _), (2, .inl _), (3, .inl _)]) (And.intro rfl (And.intro rfl (And.intro rfl (And.intro rfl True.intro)))) ⟨_, _, _, rfl, rfl, by omega, rfl⟩ (by omega)
        · intro c19
          refine Exists.intro xm_256 (And.intro mi_256 (And.intro ⟨rfl, rfl, rfl, rfl⟩ (And.intro rfl ?_)))
          refine fcallp hB1 (ct_M_isInForce_508bf (fBz h0 hB1) (by omega)) ?_
          rintro _ ⟨z20, rfl, hz20⟩
          refine And.intro (by omega) (And.intro ?_ ?_)
          · intro c21
            refine And.intro (by omega) (And.intro ?_ ?_)
            · intro c22
              exact fcutJ (I := I1) (j := jc_M_counts_1278f_4) (lv' := [(0, .inr (.inr (some 740))), (1, .inl _), (2, .inl _), (3, .inl _)]) (And.intro rfl (And.intro rfl (And.intro rfl (And.intro rfl True.intro)))) ⟨_, _, _, rfl, rfl, by omega, rfl⟩ (by omega)
            · intro c23
              refine And.intro (by omega) (And.intro ?_ ?_)
              · intro c24
                exact fcutJ (I := I1) (j := jc_M_counts_1278f_4) (lv' := [(0, .inr (.inr (some 740))), (1, .inl _), (2, .inl _), (3, .inl _)]) (And.intro rfl (And.intro rfl (And.intro rfl (And.intro rfl True.intro)))) ⟨_, _, _, rfl, rfl, by omega, rfl⟩ (by omega)
              · intro c25
                refine And.intro ⟨rfl, by decide, by decide⟩ ?_
                refine Exists.intro xm_255 (And.intro mi_255 (And.intro ⟨rfl, rfl, rfl, rfl⟩ (And.intro rfl ?_)))
                refine fcallp hB1 (ct_M_textAt_ea474 (fBz h0 hB1) (by omega)) ?_
                rintro _ ⟨_, rfl, rfl⟩
                refine fload rL_741_741_1211_3411_200_0 h0 hB1 (by omega) ?_
                intro z27 lz27 uz27 qz27
                refine And.intro ⟨rfl, by decide, by decide⟩ ?_
                refine Exists.intro xm_255 (And.intro mi_255 (And.intro ⟨rfl, rfl, rfl, rfl⟩ (And.intro rfl ?_)))
                refine fcallp hB1 (ct_M_textAt_ea474 (fBz h0 hB1) (by omega)) ?_
                rintro _ ⟨_, rfl, rfl⟩
                refine fload rL_741_741_1211_3411_200_0 h0 hB1 (by omega) ?_
                intro z29 lz29 uz29 qz29
                refine And.intro (by omega) (And.intro ?_ ?_)
                · intro c30
                  exact fcutJ (I := I1) (j := jc_M_counts_1278f_4) (lv' := [(0, .inr (.inr (some 740))), (1, .inl _), (2, .inl _), (3, .inl _)]) (And.intro rfl (And.intro rfl (And.intro rfl (And.intro rfl True.intro)))) ⟨_, _, _, rfl, rfl, by omega, rfl⟩ (by omega)
                · intro c31
                  exact fcutJ (I := I1) (j := jc_M_counts_1278f_4) (lv' := [(0, .inr (.inr (some 740))), (1, .inl _), (2, .inl _), (3, .inl _)]) (And.intro rfl (And.intro rfl (And.intro rfl (And.intro rfl True.intro)))) ⟨_, _, _, rfl, rfl, by omega, rfl⟩ (by omega)
          · intro c32
            refine And.intro (by omega) (And.intro ?_ ?_)
            · intro c33
              exact fcutJ (I := I1) (j := jc_M_counts_1278f_4) (lv' := [(0, .inr (.inr (some 740))), (1, .inl _), (2, .inl _), (3, .inl _)]) (And.intro rfl (And.intro rfl (And.intro rfl (And.intro rfl True.intro)))) ⟨_, _, _, rfl, rfl, by omega, rfl⟩ (by omega)
            · intro c34
              refine And.intro (by omega) (And.intro ?_ ?_)
              · intro c35
                exact fcutJ (I := I1) (j := jc_M_counts_1278f_4) (lv' := [(0, .inr (.inr (some 740))), (1, .inl _), (2, .inl _), (3, .inl _)]) (And.intro rfl (And.intro rfl (And.intro rfl (And.intro rfl True.intro)))) ⟨_, _, _, rfl, rfl, by omega, rfl⟩ (by omega)
              · intro c36
                refine And.intro ⟨rfl, by decide, by decide⟩ ?_
                refine Exists.intro xm_255 (And.intro mi_255 (And.intro ⟨rfl, rfl, rfl, rfl⟩ (And.intro rfl ?_)))
                refine fcallp hB1 (ct_M_textAt_ea474 (fBz h0 hB1) (by omega)) ?_
                rintro _ ⟨_, rfl, rfl⟩
                refine fload rL_741_741_1211_3411_200_0 h0 hB1 (by omega) ?_
                intro z38 lz38 uz38 qz38
                refine And.intro ⟨rfl, by decide, by decide⟩ ?_
                refine Exists.intro xm_255 (And.intro mi_255 (And.intro ⟨rfl, rfl, rfl, rfl⟩ (And.intro rfl ?_)))
                refine fcallp hB1 (ct_M_textAt_ea474 (fBz h0 hB1) (by omega)) ?_
                rintro _ ⟨_, rfl, rfl⟩
                refine fload rL_741_741_1211_3411_200_0 h0 hB1 (by omega) ?_
                intro z40 lz40 uz40 qz40
                refine And.intro (by omega) (And.intro ?_ ?_)
                · intro c41
                  exact fcutJ (I := I1) (j := jc_M_counts_1278f_4) (lv' := [(0, .inr (.inr (some 740))), (1, .inl _), (2, .inl _), (3, .inl _)]) (And.intro rfl (And.intro rfl (And.intro rfl (And.intro rfl True.intro)))) ⟨_, _, _, rfl, rfl, by omega, rfl⟩ (by omega)
                · intro c42
                  exact fcutJ (I := I1) (j := jc_M_counts_1278f_4) (lv' := [(0, .inr (.inr (some 740))), (1, .inl _), (2, .inl _), (3, .inl _)]) (And.intro rfl (And.intro rfl (And.intro rfl (And.intro rfl True.intro)))) ⟨_, _, _, rfl, rfl, by omega, rfl⟩ (by omega)
  · have hB0 := fB_self (zn := znJ) (K := fKc []) h0
    have b43 := fBd fb_741_9 (fBz h0 hB0)
    exact fcutJ (I := I) (j := jc_M_counts_1278f_4) (lv' := [(0, .inr (.inr (some 740))), (1, .inl _), (2, .inl _), (3, .inl _)]) (And.intro rfl (And.intro rfl (And.intro rfl (And.intro rfl True.intro)))) ⟨_, _, _, rfl, rfl, by omega, rfl⟩ (by omega)
abbrev jc_M_joined_15edc_195 : Nat → fL → List fV → fH → Prop := fun m lv st I => lv = [] ∧ st = [] ∧ (True) ∧ m = (2 : Int).toNat
abbrev jc_M_joined_15edc_205 : Nat → fL → List fV → fH → Prop := fun m lv st I => lv = [] ∧ st = [] ∧ (True) ∧ m = (1 : Int).toNat
set_option maxRecDepth 8000 in
theorem ct_M_joined_15edc {I : fH} {x0 : Int} {x1 : Int} {x2 : Int} (h0 : fB bsJ I) (ha0 : ((-2147483648) ≤ x0 ∧ x0 ≤ 2147483647)) (ha1 : ((-2147483648) ≤ x1 ∧ x1 ≤ 2147483647)) (ha2 : ((-2147483648) ≤ x2 ∧ x2 ≤ 2147483647)) : fC ρ base n F xTc vwCl xTys D dA la gJ (fbz bsJ znJ (fKc []) I) xm_261 [.inl x0, .inl x1, .inl x2] I (fun _ r => ∃ z, r = some (.inl z) ∧ ((-2147483648) ≤ z ∧ z ≤ 2147483647)) := by
  have hW : fzs [] (fKc []) := fKc_ok _
  refine f_meth (rb := rbJ) (J := [(195, jc_M_joined_15edc_195), (205, jc_M_joined_15edc_205)]) 3 400 xG xin_261 x6_261 okJ (fB_self h0) ?_ ?_
  · refine List.forall_mem_cons.mpr ⟨?_, List.forall_mem_cons.mpr ⟨?_, fun q h => absurd h List.not_mem_nil⟩⟩
    · rintro m _ _ I1 hB1 ⟨rfl, rfl, hb, hm⟩
      refine And.intro (True.intro) ?_
      exact ⟨_, rfl, by omega⟩
    · rintro m _ _ I1 hB1 ⟨rfl, rfl, hb, hm⟩
      refine And.intro (True.intro) ?_
      exact ⟨_, rfl, by omega⟩
  · have hB0 := fB_self (zn := znJ) (K := fKc []) h0
    refine And.intro (by omega) (And.intro ?_ ?_)
    · refine And.intro (fun ex => ?_) (And.intro (fun ex => ?_) (And.intro (fun ex => ?_) (And.intro (fun ex => ?_) (And.intro (fun ex => ?_) (And.intro (fun ex => ?_) (And.intro (fun ex => ?_) (And.intro (fun ex => ?_) (And.intro (fun ex => ?_) (And.intro (fun ex => ?_) (And.intro (fun ex => ?_) (And.intro (fun ex => ?_) (And.intro (fun ex => ?_) (And.intro (fun ex => ?_) (And.intro (fun ex => ?_) (And.intro (fun ex => ?_) (And.intro (fun ex => ?_) (And.intro (fun ex => ?_) (And.intro (fun ex => ?_) (And.intro (fun ex => ?_) (And.intro (fun ex => ?_) (And.intro (fun ex => ?_) (And.intro (fun ex => ?_) (And.intro (fun ex => ?_) (And.intro (fun ex => ?_) (True.intro)))))))))))))))))))))))))
      · skip
        refine And.intro (by omega) (And.intro ?_ ?_)
        · intro c1
          exact fcutJ (I := I) (j := jc_M_joined_15edc_195) (lv' := []) (True.intro) ⟨rfl, rfl, True.intro, rfl⟩ (by omega)
        · intro c2
          refine And.intro (by omega) (And.intro ?_ ?_)
          · intro c3
            exact fcutJ (I := I) (j := jc_M_joined_15edc_195) (lv' := []) (True.intro) ⟨rfl, rfl, True.intro, rfl⟩ (by omega)
          · intro c4
            refine And.intro (True.intro) ?_
            exact ⟨_, rfl, by omega⟩
      · skip
        refine And.intro (by omega) (And.intro ?_ ?_)
        · intro c5
          exact fcutJ (I := I) (j := jc_M_joined_15edc_205) (lv' := []) (True.intro) ⟨rfl, rfl, True.intro, rfl⟩ (by omega)
        · intro c6
          refine And.intro (by omega) (And.intro ?_ ?_)
          · intro c7
            refine And.intro (True.intro) ?_
            exact ⟨_, rfl, by omega⟩
          · intro c8
            exact fcutJ (I := I) (j := jc_M_joined_15edc_205) (lv' := []) (True.intro) ⟨rfl, rfl, True.intro, rfl⟩ (by omega)
      · skip
        refine And.intro (by omega) (And.intro ?_ ?_)
        · intro c9
          exact fcutJ (I := I) (j := jc_M_joined_15edc_205) (lv' := []) (True.intro) ⟨rfl, rfl, True.intro, rfl⟩ (by omega)
        · intro c10
          refine And.intro (by omega) (And.intro ?_ ?_)
          · intro c11
            refine And.intro (True.intro) ?_
            exact ⟨_, rfl, by omega⟩
          · intro c12
            exact fcutJ (I := I) (j := jc_M_joined_15edc_205) (lv' := []) (True.intro) ⟨rfl, rfl, True.intro, rfl⟩ (by omega)
      · skip
        refine And.intro (by omega) (And.intro ?_ ?_)
        · intro c13
          exact fcutJ (I := I) (j := jc_M_joined_15edc_205) (lv' := []) (True.intro) ⟨rfl, rfl, True.intro, rfl⟩ (by omega)
        · intro c14
          refine And.intro (by omega) (And.intro ?_ ?_)
          · intro c15
            refine And.intro (True.intro) ?_
            exact ⟨_, rfl, by omega⟩
          · intro c16
            exact fcutJ (I := I) (j := jc_M_joined_15edc_205) (lv' := []) (True.intro) ⟨rfl, rfl, True.intro, rfl⟩ (by omega)
      · skip
        intro z17 hz17 ez17 bz17
        clear ez17
        clear bz17
        refine And.intro (True.intro) ?_
        exact ⟨_, rfl, by omega⟩
      · skip
        intro z18 hz18 ez18 bz18
        clear ez18
        clear bz18
        refine And.intro (True.intro) ?_
        exact ⟨_, rfl, by omega⟩
      · skip
        refine And.intro (by omega) (And.intro ?_ ?_)
        · intro c19
          exact fcutJ (I := I) (j := jc_M_joined_15edc_205) (lv' := []) (True.intro) ⟨rfl, rfl, True.intro, rfl⟩ (by omega)
        · intro c20
          refine And.intro (by omega) (And.intro ?_ ?_)
          · intro c21
            refine And.intro (True.intro) ?_
            exact ⟨_, rfl, by omega⟩
          · intro c22
            exact fcutJ (I := I) (j := jc_M_joined_15edc_205) (lv' := []) (True.intro) ⟨rfl, rfl, True.intro, rfl⟩ (by omega)
      · skip
        intro z23 hz23 ez23 bz23
        clear ez23
        clear bz23
        refine And.intro (True.intro) ?_
        exact ⟨_, rfl, by omega⟩
      · skip
        refine And.intro (by omega) (And.intro ?_ ?_)
        · intro c24
          exact fcutJ (I := I) (j := jc_M_joined_15edc_205) (lv' := []) (True.intro) ⟨rfl, rfl, True.intro, rfl⟩ (by omega)
        · intro c25
          refine And.intro (by omega) (And.intro ?_ ?_)
          · intro c26
            refine And.intro (True.intro) ?_
            exact ⟨_, rfl, by omega⟩
          · intro c27
            exact fcutJ (I := I) (j := jc_M_joined_15edc_205) (lv' := []) (True.intro) ⟨rfl, rfl, True.intro, rfl⟩ (by omega)
      · skip
        refine And.intro (by omega) (And.intro ?_ ?_)
        · intro c28
          refine And.intro (by omega) (And.intro ?_ ?_)
          · intro c29
            refine And.intro (And.intro (by omega) (And.intro (by omega) (And.intro (by omega) rfl))) ?_
            intro z30 hz30 ez30 dz30
            refine And.intro (True.intro) ?_
            exact ⟨_, rfl, by omega⟩
          · intro c31
            intro z32 hz32 ez32 bz32
            clear ez32
            clear bz32
            refine And.intro (True.intro) ?_
            exact ⟨_, rfl, by omega⟩
        · intro c33
          refine And.intro (True.intro) ?_
          exact ⟨_, rfl, by omega⟩
      · skip
        refine And.intro (by omega) (And.intro ?_ ?_)
        · intro c34
          exact fcutJ (I := I) (j := jc_M_joined_15edc_205) (lv' := []) (True.intro) ⟨rfl, rfl, True.intro, rfl⟩ (by omega)
        · intro c35
          refine And.intro (by omega) (And.intro ?_ ?_)
          · intro c36
            refine And.intro (True.intro) ?_
            exact ⟨_, rfl, by omega⟩
          · intro c37
            exact fcutJ (I := I) (j := jc_M_joined_15edc_205) (lv' := []) (True.intro) ⟨rfl, rfl, True.intro, rfl⟩ (by omega)
      · skip
        refine And.intro (by omega) (And.intro ?_ ?_)
        · intro c38
          exact fcutJ (I := I) (j := jc_M_joined_15edc_205) (lv' := []) (True.intro) ⟨rfl, rfl, True.intro, rfl⟩ (by omega)
        · intro c39
          refine And.intro (by omega) (And.intro ?_ ?_)
          · intro c40
            refine And.intro (True.intro) ?_
            exact ⟨_, rfl, by omega⟩
          · intro c41
            exact fcutJ (I := I) (j := jc_M_joined_15edc_205) (lv' := []) (True.intro) ⟨rfl, rfl, True.intro, rfl⟩ (by omega)
      · skip
        refine And.intro (by omega) (And.intro ?_ ?_)
        · intro c42
          exact fcutJ (I := I) (j := jc_M_joined_15edc_205) (lv' := []) (True.intro) ⟨rfl, rfl, True.intro, rfl⟩ (by omega)
        · intro c43
          refine And.intro (by omega) (And.intro ?_ ?_)
          · intro c44
            refine And.intro (True.intro) ?_
            exact ⟨_, rfl, by omega⟩
          · intro c45
            exact fcutJ (I := I) (j := jc_M_joined_15edc_205) (lv' := []) (True.intro) ⟨rfl, rfl, True.intro, rfl⟩ (by omega)
      · skip
        refine And.intro (by omega) (And.intro ?_ ?_)
        · intro c46
          exact fcutJ (I := I) (j := jc_M_joined_15edc_205) (lv' := []) (True.intro) ⟨rfl, rfl, True.intro, rfl⟩ (by omega)
        · intro c47
          refine And.intro (by omega) (And.intro ?_ ?_)
          · intro c48
            refine And.intro (True.intro) ?_
            exact ⟨_, rfl, by omega⟩
          · intro c49
            exact fcutJ (I := I) (j := jc_M_joined_15edc_205) (lv' := []) (True.intro) ⟨rfl, rfl, True.intro, rfl⟩ (by omega)
      · skip
        refine And.intro (by omega) (And.intro ?_ ?_)
        · intro c50
          exact fcutJ (I := I) (j := jc_M_joined_15edc_205) (lv' := []) (True.intro) ⟨rfl, rfl, True.intro, rfl⟩ (by omega)
        · intro c51
          refine And.intro (by omega) (And.intro ?_ ?_)
          · intro c52
            refine And.intro (True.intro) ?_
            exact ⟨_, rfl, by omega⟩
          · intro c53
            exact fcutJ (I := I) (j := jc_M_joined_15edc_205) (lv' := []) (True.intro) ⟨rfl, rfl, True.intro, rfl⟩ (by omega)
      · skip
        refine And.intro (by omega) (And.intro ?_ ?_)
        · intro c54
          exact fcutJ (I := I) (j := jc_M_joined_15edc_205) (lv' := []) (True.intro) ⟨rfl, rfl, True.intro, rfl⟩ (by omega)
        · intro c55
          refine And.intro (by omega) (And.intro ?_ ?_)
          · intro c56
            refine And.intro (True.intro) ?_
            exact ⟨_, rfl, by omega⟩
          · intro c57
            exact fcutJ (I := I) (j := jc_M_joined_15edc_205) (lv' := []) (True.intro) ⟨rfl, rfl, True.intro, rfl⟩ (by omega)
      · skip
        refine And.intro (by omega) (And.intro ?_ ?_)
        · intro c58
          exact fcutJ (I := I) (j := jc_M_joined_15edc_205) (lv' := []) (True.intro) ⟨rfl, rfl, True.intro, rfl⟩ (by omega)
        · intro c59
          refine And.intro (by omega) (And.intro ?_ ?_)
          · intro c60
            refine And.intro (True.intro) ?_
            exact ⟨_, rfl, by omega⟩
          · intro c61
            exact fcutJ (I := I) (j := jc_M_joined_15edc_205) (lv' := []) (True.intro) ⟨rfl, rfl, True.intro, rfl⟩ (by omega)
      · skip
        refine And.intro (by omega) (And.intro ?_ ?_)
        · intro c62
          exact fcutJ (I := I) (j := jc_M_joined_15edc_205) (lv' := []) (True.intro) ⟨rfl, rfl, True.intro, rfl⟩ (by omega)
        · intro c63
          refine And.intro (by omega) (And.intro ?_ ?_)
          · intro c64
            refine And.intro (True.intro) ?_
            exact ⟨_, rfl, by omega⟩
          · intro c65
            exact fcutJ (I := I) (j := jc_M_joined_15edc_205) (lv' := []) (True.intro) ⟨rfl, rfl, True.intro, rfl⟩ (by omega)
      · skip
        refine And.intro (by omega) (And.intro ?_ ?_)
        · intro c66
          exact fcutJ (I := I) (j := jc_M_joined_15edc_205) (lv' := []) (True.intro) ⟨rfl, rfl, True.intro, rfl⟩ (by omega)
        · intro c67
          refine And.intro (by omega) (And.intro ?_ ?_)
          · intro c68
            refine And.intro (True.intro) ?_
            exact ⟨_, rfl, by omega⟩
          · intro c69
            exact fcutJ (I := I) (j := jc_M_joined_15edc_205) (lv' := []) (True.intro) ⟨rfl, rfl, True.intro, rfl⟩ (by omega)
      · skip
        refine And.intro (by omega) (And.intro ?_ ?_)
        · intro c70
          exact fcutJ (I := I) (j := jc_M_joined_15edc_205) (lv' := []) (True.intro) ⟨rfl, rfl, True.intro, rfl⟩ (by omega)
        · intro c71
          refine And.intro (by omega) (And.intro ?_ ?_)
          · intro c72
            refine And.intro (True.intro) ?_
            exact ⟨_, rfl, by omega⟩
          · intro c73
            exact fcutJ (I := I) (j := jc_M_joined_15edc_205) (lv' := []) (True.intro) ⟨rfl, rfl, True.intro, rfl⟩ (by omega)
      · skip
        refine And.intro (by omega) (And.intro ?_ ?_)
        · intro c74
          exact fcutJ (I := I) (j := jc_M_joined_15edc_205) (lv' := []) (True.intro) ⟨rfl, rfl, True.intro, rfl⟩ (by omega)
        · intro c75
          refine And.intro (by omega) (And.intro ?_ ?_)
          · intro c76
            refine And.intro (True.intro) ?_
            exact ⟨_, rfl, by omega⟩
          · intro c77
            exact fcutJ (I := I) (j := jc_M_joined_15edc_205) (lv' := []) (True.intro) ⟨rfl, rfl, True.intro, rfl⟩ (by omega)
      · skip
        refine And.intro (by omega) (And.intro ?_ ?_)
        · intro c78
          exact fcutJ (I := I) (j := jc_M_joined_15edc_205) (lv' := []) (True.intro) ⟨rfl, rfl, True.intro, rfl⟩ (by omega)
        · intro c79
          refine And.intro (by omega) (And.intro ?_ ?_)
          · intro c80
            refine And.intro (True.intro) ?_
            exact ⟨_, rfl, by omega⟩
          · intro c81
            exact fcutJ (I := I) (j := jc_M_joined_15edc_205) (lv' := []) (True.intro) ⟨rfl, rfl, True.intro, rfl⟩ (by omega)
      · skip
        refine And.intro (by omega) (And.intro ?_ ?_)
        · intro c82
          refine And.intro (True.intro) ?_
          exact ⟨_, rfl, by omega⟩
        · intro c83
          refine And.intro (True.intro) ?_
          exact ⟨_, rfl, by omega⟩
      · skip
        refine And.intro (by omega) (And.intro ?_ ?_)
        · intro c84
          refine And.intro (True.intro) ?_
          exact ⟨_, rfl, by omega⟩
        · intro c85
          refine And.intro (True.intro) ?_
          exact ⟨_, rfl, by omega⟩
      · skip
        refine And.intro (by omega) (And.intro ?_ ?_)
        · intro c86
          refine And.intro (True.intro) ?_
          exact ⟨_, rfl, by omega⟩
        · intro c87
          refine And.intro (True.intro) ?_
          exact ⟨_, rfl, by omega⟩
    · intro c88
      refine And.intro (by omega) (And.intro ?_ ?_)
      · intro c89
        exact fcutJ (I := I) (j := jc_M_joined_15edc_205) (lv' := []) (True.intro) ⟨rfl, rfl, True.intro, rfl⟩ (by omega)
      · intro c90
        refine And.intro (by omega) (And.intro ?_ ?_)
        · intro c91
          refine And.intro (True.intro) ?_
          exact ⟨_, rfl, by omega⟩
        · intro c92
          exact fcutJ (I := I) (j := jc_M_joined_15edc_205) (lv' := []) (True.intro) ⟨rfl, rfl, True.intro, rfl⟩ (by omega)
set_option maxRecDepth 8000 in
theorem ct_M_level_daf8a {I : fH}  (h0 : fB bsJ I)  : fC ρ base n F xTc vwCl xTys D dA la gJ (fbz bsJ znJ (fKc []) I) xm_260 [.inr (.inr (some 740))] I (fun _ r => ∃ z, r = some (.inl z) ∧ (0 ≤ z ∧ z ≤ 60)) := by
  have hW : fzs [] (fKc []) := fKc_ok _
  refine f_meth (rb := rbJ) (J := []) 1 400 xG xin_260 x6_260 okJ (fB_self h0) ?_ ?_
  · exact fun q h => absurd h List.not_mem_nil
  · have hB0 := fB_self (zn := znJ) (K := fKc []) h0
    refine And.intro ⟨rfl, by decide, by decide⟩ ?_
    refine fload rL_741_741_1_1_1_0 h0 hB0 (by omega) ?_
    intro z1 lz1 uz1 qz1
    have pz1 := fld_at qz1 1 (by omega)
    refine And.intro (And.intro (by omega) (And.intro (by omega) (And.intro (by omega) rfl))) ?_
    intro z2 hz2 ez2 dz2
    have dz2 := dz2 (by omega) (by omega)
    change _ = _ / _ at dz2
    refine And.intro (True.intro) ?_
    exact ⟨_, rfl, by omega⟩
abbrev jc_M_worked_0bc29_15 (x1 : Int) (I0 : fH) : Nat → fL → List fV → fH → Prop := fun m lv st I => ∃ (y1 : Int) (y2 : Int) (y3 : Int), lv = [(0, .inr (.inr (some 740))), (1, .inl y1), (2, .inl y2), (3, .inl y3)] ∧ st = [] ∧ (((0 ≤ y1 ∧ y1 ≤ 11) ∧ (0 ≤ y2 ∧ y2 ≤ 97) ∧ (0 ≤ y3 ∧ y3 ≤ 97) ∧ (0 ≤ I 748 104 ∧ I 748 104 ≤ 60) ∧ (y1 = x1) ∧ (y2 ≤ y3)) ∧ (hgt I0 741 (1215 + 200 * x1.toNat) 0 y3.toNat 0 = some y2.toNat)) ∧ m = (1 + 1 * (97 - y3) : Int).toNat
set_option maxRecDepth 8000 in
theorem ct_M_worked_0bc29 {I : fH} {x1 : Int} (h0 : fB bsJ I) (ha1 : (0 ≤ x1 ∧ x1 ≤ 11)) (hp0 : sI I 741) (hp1 : x1 < I 741 9) : fC ρ base n F xTc vwCl xTys D dA la gJ (fbz bsJ znJ (fKc wz_5ef89) I) xm_259 [.inr (.inr (some 740)), .inl x1] I (fun _ r => ∃ z, r = some (.inl z) ∧ ((-2147483648) ≤ z ∧ z ≤ 2147483647)) := by
  have hW : fzs wz_5ef89 (fKc wz_5ef89) := fKc_ok _
  refine f_meth (rb := rbJ) (J := [(15, (jc_M_worked_0bc29_15 x1 I))]) 99 400 xG xin_259 x6_259 okJ (fB_self h0) ?_ ?_
  · refine List.forall_mem_cons.mpr ⟨?_, fun q h => absurd h List.not_mem_nil⟩
    · rintro m _ _ I1 hB1 ⟨y1, y2, y3, rfl, rfl, ⟨hb, hx0⟩, hm⟩
      have hT := hp0.2.2.2 x1.toNat (by omega)
      have hT1 := hT.1
      have hT2 := hT.2.1
      refine And.intro ⟨rfl, by decide, by decide⟩ ?_
      refine Exists.intro xm_255 (And.intro mi_255 (And.intro ⟨rfl, rfl, rfl, rfl⟩ (And.intro rfl ?_)))
      refine fcallp hB1 (ct_M_textAt_ea474 (fBz h0 hB1) (by omega)) ?_
      rintro _ ⟨_, rfl, rfl⟩
      refine fload rL_741_741_1214_3414_200_0 h0 hB1 (by omega) ?_
      intro z2 lz2 uz2 qz2
      have w27 := (fld_at qz2 (1214 + 200 * x1.toNat) (by omega)).trans (sS_keep hB1 (by decide +kernel) _)
      refine And.intro (by omega) (And.intro ?_ ?_)
      · intro c3
        refine And.intro ⟨rfl, by decide, by decide⟩ ?_
        refine fload rL_749_749_0_99_1_0 h0 hB1 (by omega) ?_
        intro z4 lz4 uz4 qz4
        have pz4 := fld_at qz4 0 (by omega)
        refine And.intro (True.intro) ?_
        exact ⟨_, rfl, by omega⟩
      · intro c5
        refine And.intro ⟨rfl, by decide, by decide⟩ ?_
        refine Exists.intro xm_255 (And.intro mi_255 (And.intro ⟨rfl, rfl, rfl, rfl⟩ (And.intro rfl ?_)))
        refine fcallp hB1 (ct_M_textAt_ea474 (fBz h0 hB1) (by omega)) ?_
        rintro _ ⟨_, rfl, rfl⟩
        intro z7 hz7 ez7 bz7
        clear ez7
        have bz7 := bz7 (by omega)
        intro z8 hz8 ez8 bz8
        clear ez8
        have bz8 := bz8 (by omega)
        refine fload rL_741_741_1215_3609_200_194 h0 hB1 (by omega) ?_
        intro z9 lz9 uz9 qz9
        have w46 := (fld_at qz9 (1215 + 200 * x1.toNat + 2 * (0 + y3.toNat)) (by omega)).trans (sS_keep hB1 (by decide +kernel) _)
        refine And.intro ⟨rfl, by decide, by decide⟩ ?_
        refine Exists.intro xm_255 (And.intro mi_255 (And.intro ⟨rfl, rfl, rfl, rfl⟩ (And.intro rfl ?_)))
        refine fcallp hB1 (ct_M_textAt_ea474 (fBz h0 hB1) (by omega)) ?_
        rintro _ ⟨_, rfl, rfl⟩
        intro z11 hz11 ez11 bz11
        clear ez11
        have bz11 := bz11 (by omega)
        intro z12 hz12 ez12 bz12
        clear ez12
        have bz12 := bz12 (by omega)
        intro z13 hz13 ez13 bz13
        clear ez13
        have bz13 := bz13 (by omega)
        refine fload rL_741_741_1215_3609_200_194 h0 hB1 (by omega) ?_
        intro z14 lz14 uz14 qz14
        have w66 := (fld_at qz14 (1215 + 200 * x1.toNat + 2 * (0 + y3.toNat) + 1) (by omega)).trans (sS_keep hB1 (by decide +kernel) _)
        obtain ⟨hr0, hr⟩ : ∃ r, hgt I 741 (1215 + 200 * x1.toNat) 0 (y3.toNat + 1) 0 = some r := hgt_pre (l := (I 741 (1214 + 200 * x1.toNat)).toNat - (y3.toNat + 1)) (hgt_to hT.2.2 rfl rfl (by omega) rfl)
        obtain ⟨hh, he1, he2⟩ := Option.bind_eq_some_iff.mp hr
        have hh2 : hh = y2.toNat := Option.some.inj (he1.symm.trans hx0)
        have hc := hst_cases he2
        refine And.intro (by omega) (And.intro ?_ ?_)
        · intro c15
          refine And.intro (by omega) (And.intro ?_ ?_)
          · intro c16
            intro z17 hz17 bz17
            have bz17 := bz17 (by omega)
            refine And.intro ⟨rfl, by decide, by decide⟩ ?_
            intro z18 hz18 ez18 bz18
            clear ez18
            have bz18 := bz18 (by omega)
            refine And.intro ⟨rfl, by decide, by decide⟩ ?_
            intro z19 hz19 ez19 bz19
            clear ez19
            have bz19 := bz19 (by omega)
            refine fload rL_749_749_0_99_1_0 h0 hB1 (by omega) ?_
            intro z20 lz20 uz20 qz20
            refine And.intro ⟨rfl, by decide, by decide⟩ ?_
            refine fload rL_749_749_0_99_1_0 h0 hB1 (by omega) ?_
            intro z21 lz21 uz21 qz21
            refine Exists.intro xm_261 (And.intro mi_261 (And.intro ⟨rfl, rfl, rfl, rfl⟩ (And.intro True.intro ?_)))
            refine fcallp hB1 (ct_M_joined_15edc (fBz h0 hB1) (by omega) (by omega) (by omega)) ?_
            rintro _ ⟨z22, rfl, hz22⟩
            refine fstore rS_749_749_0_99_1_0 (fzs_sub (by decide +kernel) hW) (by omega) (by omega) ?_
            intro IhB23 ehB23 hB23
            have t24 := fup_self ehB23
            have t25 : IhB23 748 104 = I1 748 104 := (congrFun (congrFun ehB23 748) 104).trans (fup_ne (by omega))
            exact fcutJ (I := IhB23) (j := (jc_M_worked_0bc29_15 x1 I)) (lv' := [(0, .inr (.inr (some 740))), (1, .inl _), (2, .inl _), (3, .inl _)]) (And.intro rfl (And.intro rfl (And.intro rfl (And.intro rfl True.intro)))) ⟨_, _, _, rfl, rfl, ⟨by omega, hgt_to hr rfl rfl (by omega) (by omega)⟩, rfl⟩ (by omega)
          · intro c26
            refine And.intro ⟨rfl, by decide, by decide⟩ ?_
            intro z27 hz27 ez27 bz27
            clear ez27
            have bz27 := bz27 (by omega)
            refine And.intro ⟨rfl, by decide, by decide⟩ ?_
            intro z28 hz28 ez28 bz28
            clear ez28
            have bz28 := bz28 (by omega)
            refine fload rL_749_749_0_99_1_0 h0 hB1 (by omega) ?_
            intro z29 lz29 uz29 qz29
            refine And.intro (by omega) (And.intro ?_ ?_)
            · intro c30
              refine fstore rS_749_749_0_99_1_0 (fzs_sub (by decide +kernel) hW) (by omega) (by omega) ?_
              intro IhB31 ehB31 hB31
              have t32 := fup_self ehB31
              have t33 : IhB31 748 104 = I1 748 104 := (congrFun (congrFun ehB31 748) 104).trans (fup_ne (by omega))
              exact fcutJ (I := IhB31) (j := (jc_M_worked_0bc29_15 x1 I)) (lv' := [(0, .inr (.inr (some 740))), (1, .inl _), (2, .inl _), (3, .inl _)]) (And.intro rfl (And.intro rfl (And.intro rfl (And.intro rfl True.intro)))) ⟨_, _, _, rfl, rfl, ⟨by omega, hgt_to hr rfl rfl (by omega) (by omega)⟩, rfl⟩ (by omega)
            · intro c34
              refine fstore rS_749_749_0_99_1_0 (fzs_sub (by decide +kernel) hW) (by omega) (by omega) ?_
              intro IhB35 ehB35 hB35
              have t36 := fup_self ehB35
              have t37 : IhB35 748 104 = I1 748 104 := (congrFun (congrFun ehB35 748) 104).trans (fup_ne (by omega))
              exact fcutJ (I := IhB35) (j := (jc_M_worked_0bc29_15 x1 I)) (lv' := [(0, .inr (.inr (some 740))), (1, .inl _), (2, .inl _), (3, .inl _)]) (And.intro rfl (And.intro rfl (And.intro rfl (And.intro rfl True.intro)))) ⟨_, _, _, rfl, rfl, ⟨by omega, hgt_to hr rfl rfl (by omega) (by omega)⟩, rfl⟩ (by omega)
        · intro c38
          refine And.intro ⟨rfl, by decide, by decide⟩ ?_
          refine And.intro (by omega) (And.intro ?_ ?_)
          · intro c39
            refine And.intro ⟨rfl, by decide, by decide⟩ ?_
            refine fload rL_748_748_0_127_1_0 h0 hB1 (by omega) ?_
            intro z40 lz40 uz40 qz40
            refine fstore rS_749_749_0_99_1_0 (fzs_sub (by decide +kernel) hW) (by omega) (by omega) ?_
            intro IhB41 ehB41 hB41
            have t42 := fup_self ehB41
            have t43 : IhB41 748 104 = I1 748 104 := (congrFun (congrFun ehB41 748) 104).trans (fup_ne (by omega))
            intro z44 hz44 bz44
            have bz44 := bz44 (by omega)
            exact fcutJ (I := IhB41) (j := (jc_M_worked_0bc29_15 x1 I)) (lv' := [(0, .inr (.inr (some 740))), (1, .inl _), (2, .inl _), (3, .inl _)]) (And.intro rfl (And.intro rfl (And.intro rfl (And.intro rfl True.intro)))) ⟨_, _, _, rfl, rfl, ⟨by omega, hgt_to hr rfl rfl (by omega) (by omega)⟩, rfl⟩ (by omega)
          · intro c45
            refine fstore rS_749_749_0_99_1_0 (fzs_sub (by decide +kernel) hW) (by omega) (by omega) ?_
            intro IhB46 ehB46 hB46
            have t47 := fup_self ehB46
            have t48 : IhB46 748 104 = I1 748 104 := (congrFun (congrFun ehB46 748) 104).trans (fup_ne (by omega))
            intro z49 hz49 bz49
            have bz49 := bz49 (by omega)
            exact fcutJ (I := IhB46) (j := (jc_M_worked_0bc29_15 x1 I)) (lv' := [(0, .inr (.inr (some 740))), (1, .inl _), (2, .inl _), (3, .inl _)]) (And.intro rfl (And.intro rfl (And.intro rfl (And.intro rfl True.intro)))) ⟨_, _, _, rfl, rfl, ⟨by omega, hgt_to hr rfl rfl (by omega) (by omega)⟩, rfl⟩ (by omega)
  · have hB0 := fB_self (zn := znJ) (K := fKc wz_5ef89) h0
    refine And.intro ⟨rfl, by decide, by decide⟩ ?_
    refine Exists.intro xm_260 (And.intro mi_260 (And.intro ⟨rfl, rfl, rfl, rfl⟩ (And.intro rfl ?_)))
    refine fcallp hB0 (ct_M_level_daf8a (fBz h0 hB0)) ?_
    rintro _ ⟨z50, rfl, hz50⟩
    refine fstore rS_748_748_0_127_1_0 (fzs_sub (by decide +kernel) hW) (by omega) (by omega) ?_
    intro IhB51 ehB51 hB51
    have t52 := fup_self ehB51
    have t53 := fup_at ehB51 104 (by omega)
    exact fcutJ (I := IhB51) (j := (jc_M_worked_0bc29_15 x1 I)) (lv' := [(0, .inr (.inr (some 740))), (1, .inl _), (2, .inl _), (3, .inl _)]) (And.intro rfl (And.intro rfl (And.intro rfl (And.intro rfl True.intro)))) ⟨_, _, _, rfl, rfl, ⟨by omega, hgt_to (k := 0) (r := 0) rfl rfl rfl (by omega) (by omega)⟩, rfl⟩ (by omega)
set_option maxRecDepth 8000 in
theorem ct_M_least_31c1d {I : fH} {x0 : Int} {x1 : Int} (h0 : fB bsJ I) (ha0 : ((-2147483648) ≤ x0 ∧ x0 ≤ 2147483647)) (ha1 : ((-2147483648) ≤ x1 ∧ x1 ≤ 2147483647)) : fC ρ base n F xTc vwCl xTys D dA la gJ (fbz bsJ znJ (fKc []) I) xm_291 [.inl x0, .inl x1] I (fun _ r => ∃ z, r = some (.inl z) ∧ (((-2147483648) ≤ z ∧ z ≤ 2147483647) ∧ (z ≤ x0 ∧ z ≤ x1 ∧ (z = x0 ∨ z = x1)))) := by
  have hW : fzs [] (fKc []) := fKc_ok _
  refine f_meth (rb := rbJ) (J := []) 1 400 xG xin_291 x6_291 okJ (fB_self h0) ?_ ?_
  · exact fun q h => absurd h List.not_mem_nil
  · have hB0 := fB_self (zn := znJ) (K := fKc []) h0
    refine And.intro (by omega) (And.intro ?_ ?_)
    · intro c1
      refine And.intro (True.intro) ?_
      exact ⟨_, rfl, by omega⟩
    · intro c2
      refine And.intro (True.intro) ?_
      exact ⟨_, rfl, by omega⟩
set_option maxRecDepth 8000 in
theorem ct_M_isWordAt_4e115 {I : fH} {x1 : Int} {x2 : Int} {x3 : Int} {x4 : Int} {x5 : Int} (h0 : fB bsJ I) (ha1 : (98 ≤ x1 ∧ x1 ≤ 118)) (ha2 : (97 ≤ x2 ∧ x2 ≤ 112)) (ha3 : (97 ≤ x3 ∧ x3 ≤ 116)) (ha4 : (100 ≤ x4 ∧ x4 ≤ 116)) (ha5 : (0 ≤ x5 ∧ x5 ≤ 104)) (hp0 : I 740 9 ≤ I 740 10 ∧ I 740 10 ≤ 96) : fC ρ base n F xTc vwCl xTys D dA la gJ (fbz bsJ znJ (fKc []) I) xm_318 [.inr (.inr (some 740)), .inl x1, .inl x2, .inl x3, .inl x4, .inl x5] I (fun _ r => ∃ z, r = some (.inl z) ∧ (0 ≤ z ∧ z ≤ 1)) := by
  have hW : fzs [] (fKc []) := fKc_ok _
  refine f_meth (rb := rbJ) (J := []) 1 400 xG xin_318 x6_318 okJ (fB_self h0) ?_ ?_
  · exact fun q h => absurd h List.not_mem_nil
  · have hB0 := fB_self (zn := znJ) (K := fKc []) h0
    refine And.intro (by omega) (And.intro ?_ ?_)
    · intro c1
      refine And.intro ⟨rfl, by decide, by decide⟩ (fgetf fb_740_11 h0 hB0 ?_)
      intro z2 lz2 uz2 qz2
      refine And.intro (by omega) (And.intro ?_ ?_)
      · intro c3
        refine And.intro (by omega) (And.intro ?_ ?_)
        · intro c4
          refine And.intro (⟨by omega, by omega⟩) ?_
          exact ⟨_, rfl, by omega⟩
        · intro c5
          refine And.intro (by omega) (And.intro ?_ ?_)
          · intro c6
            refine And.intro (⟨by omega, by omega⟩) ?_
            exact ⟨_, rfl, by omega⟩
          · intro c7
            refine And.intro ⟨rfl, by decide, by decide⟩ ?_
            refine And.intro ⟨rfl, by decide, by decide⟩ (fgetf fb_740_9 h0 hB0 ?_)
            intro z8 lz8 uz8 qz8
            refine fload rL_747_747_0_95_1_0 h0 hB0 (by omega) ?_
            intro z9 lz9 uz9 qz9
            refine And.intro (by omega) (And.intro ?_ ?_)
            · intro c10
              refine And.intro (⟨by omega, by omega⟩) ?_
              exact ⟨_, rfl, by omega⟩
            · intro c11
              refine And.intro (⟨by omega, by omega⟩) ?_
              exact ⟨_, rfl, by omega⟩
      · intro c12
        refine And.intro ⟨rfl, by decide, by decide⟩ (fgetf fb_740_10 h0 hB0 ?_)
        intro z13 lz13 uz13 qz13
        refine And.intro ⟨rfl, by decide, by decide⟩ (fgetf fb_740_9 h0 hB0 ?_)
        intro z14 lz14 uz14 qz14
        refine And.intro (by omega) (And.intro ?_ ?_)
        · intro c15
          refine And.intro (by omega) (And.intro ?_ ?_)
          · intro c16
            refine And.intro (⟨by omega, by omega⟩) ?_
            exact ⟨_, rfl, by omega⟩
          · intro c17
            refine And.intro (by omega) (And.intro ?_ ?_)
            · intro c18
              refine And.intro (⟨by omega, by omega⟩) ?_
              exact ⟨_, rfl, by omega⟩
            · intro c19
              refine And.intro ⟨rfl, by decide, by decide⟩ ?_
              refine And.intro ⟨rfl, by decide, by decide⟩ (fgetf fb_740_9 h0 hB0 ?_)
              intro z20 lz20 uz20 qz20
              refine fload rL_747_747_0_95_1_0 h0 hB0 (by omega) ?_
              intro z21 lz21 uz21 qz21
              refine And.intro (by omega) (And.intro ?_ ?_)
              · intro c22
                refine And.intro (⟨by omega, by omega⟩) ?_
                exact ⟨_, rfl, by omega⟩
              · intro c23
                refine And.intro (⟨by omega, by omega⟩) ?_
                exact ⟨_, rfl, by omega⟩
        · intro c24
          refine And.intro ⟨rfl, by decide, by decide⟩ ?_
          refine And.intro ⟨rfl, by decide, by decide⟩ (fgetf fb_740_9 h0 hB0 ?_)
          intro z25 lz25 uz25 qz25
          refine fload rL_747_747_0_95_1_0 h0 hB0 (by omega) ?_
          intro z26 lz26 uz26 qz26
          refine And.intro (by omega) (And.intro ?_ ?_)
          · intro c27
            refine And.intro (by omega) (And.intro ?_ ?_)
            · intro c28
              refine And.intro (⟨by omega, by omega⟩) ?_
              exact ⟨_, rfl, by omega⟩
            · intro c29
              refine And.intro (by omega) (And.intro ?_ ?_)
              · intro c30
                refine And.intro (⟨by omega, by omega⟩) ?_
                exact ⟨_, rfl, by omega⟩
              · intro c31
                refine And.intro ⟨rfl, by decide, by decide⟩ ?_
                refine And.intro ⟨rfl, by decide, by decide⟩ (fgetf fb_740_9 h0 hB0 ?_)
                intro z32 lz32 uz32 qz32
                refine fload rL_747_747_0_95_1_0 h0 hB0 (by omega) ?_
                intro z33 lz33 uz33 qz33
                refine And.intro (by omega) (And.intro ?_ ?_)
                · intro c34
                  refine And.intro (⟨by omega, by omega⟩) ?_
                  exact ⟨_, rfl, by omega⟩
                · intro c35
                  refine And.intro (⟨by omega, by omega⟩) ?_
                  exact ⟨_, rfl, by omega⟩
          · intro c36
            refine And.intro ⟨rfl, by decide, by decide⟩ ?_
            refine And.intro ⟨rfl, by decide, by decide⟩ (fgetf fb_740_9 h0 hB0 ?_)
            intro z37 lz37 uz37 qz37
            refine fload rL_747_747_0_95_1_0 h0 hB0 (by omega) ?_
            intro z38 lz38 uz38 qz38
            refine And.intro (by omega) (And.intro ?_ ?_)
            · intro c39
              refine And.intro (by omega) (And.intro ?_ ?_)
              · intro c40
                refine And.intro (⟨by omega, by omega⟩) ?_
                exact ⟨_, rfl, by omega⟩
              · intro c41
                refine And.intro (by omega) (And.intro ?_ ?_)
                · intro c42
                  refine And.intro (⟨by omega, by omega⟩) ?_
                  exact ⟨_, rfl, by omega⟩
                · intro c43
                  refine And.intro ⟨rfl, by decide, by decide⟩ ?_
                  refine And.intro ⟨rfl, by decide, by decide⟩ (fgetf fb_740_9 h0 hB0 ?_)
                  intro z44 lz44 uz44 qz44
                  refine fload rL_747_747_0_95_1_0 h0 hB0 (by omega) ?_
                  intro z45 lz45 uz45 qz45
                  refine And.intro (by omega) (And.intro ?_ ?_)
                  · intro c46
                    refine And.intro (⟨by omega, by omega⟩) ?_
                    exact ⟨_, rfl, by omega⟩
                  · intro c47
                    refine And.intro (⟨by omega, by omega⟩) ?_
                    exact ⟨_, rfl, by omega⟩
            · intro c48
              refine And.intro ⟨rfl, by decide, by decide⟩ ?_
              refine And.intro ⟨rfl, by decide, by decide⟩ (fgetf fb_740_9 h0 hB0 ?_)
              intro z49 lz49 uz49 qz49
              refine fload rL_747_747_0_95_1_0 h0 hB0 (by omega) ?_
              intro z50 lz50 uz50 qz50
              refine And.intro (by omega) (And.intro ?_ ?_)
              · intro c51
                refine And.intro (by omega) (And.intro ?_ ?_)
                · intro c52
                  refine And.intro (⟨by omega, by omega⟩) ?_
                  exact ⟨_, rfl, by omega⟩
                · intro c53
                  refine And.intro (by omega) (And.intro ?_ ?_)
                  · intro c54
                    refine And.intro (⟨by omega, by omega⟩) ?_
                    exact ⟨_, rfl, by omega⟩
                  · intro c55
                    refine And.intro ⟨rfl, by decide, by decide⟩ ?_
                    refine And.intro ⟨rfl, by decide, by decide⟩ (fgetf fb_740_9 h0 hB0 ?_)
                    intro z56 lz56 uz56 qz56
                    refine fload rL_747_747_0_95_1_0 h0 hB0 (by omega) ?_
                    intro z57 lz57 uz57 qz57
                    refine And.intro (by omega) (And.intro ?_ ?_)
                    · intro c58
                      refine And.intro (⟨by omega, by omega⟩) ?_
                      exact ⟨_, rfl, by omega⟩
                    · intro c59
                      refine And.intro (⟨by omega, by omega⟩) ?_
                      exact ⟨_, rfl, by omega⟩
              · intro c60
                refine And.intro ⟨rfl, by decide, by decide⟩ ?_
                refine And.intro ⟨rfl, by decide, by decide⟩ (fgetf fb_740_9 h0 hB0 ?_)
                intro z61 lz61 uz61 qz61
                refine fload rL_747_747_0_95_1_0 h0 hB0 (by omega) ?_
                intro z62 lz62 uz62 qz62
                refine And.intro (by omega) (And.intro ?_ ?_)
                · intro c63
                  refine And.intro (by omega) (And.intro ?_ ?_)
                  · intro c64
                    refine And.intro (⟨by omega, by omega⟩) ?_
                    exact ⟨_, rfl, by omega⟩
                  · intro c65
                    refine And.intro (by omega) (And.intro ?_ ?_)
                    · intro c66
                      refine And.intro (⟨by omega, by omega⟩) ?_
                      exact ⟨_, rfl, by omega⟩
                    · intro c67
                      refine And.intro ⟨rfl, by decide, by decide⟩ ?_
                      refine And.intro ⟨rfl, by decide, by decide⟩ (fgetf fb_740_9 h0 hB0 ?_)
                      intro z68 lz68 uz68 qz68
                      refine fload rL_747_747_0_95_1_0 h0 hB0 (by omega) ?_
                      intro z69 lz69 uz69 qz69
                      refine And.intro (by omega) (And.intro ?_ ?_)
                      · intro c70
                        refine And.intro (⟨by omega, by omega⟩) ?_
                        exact ⟨_, rfl, by omega⟩
                      · intro c71
                        refine And.intro (⟨by omega, by omega⟩) ?_
                        exact ⟨_, rfl, by omega⟩
                · intro c72
                  refine And.intro (by omega) (And.intro ?_ ?_)
                  · intro c73
                    refine And.intro (⟨by omega, by omega⟩) ?_
                    exact ⟨_, rfl, by omega⟩
                  · intro c74
                    refine And.intro (by omega) (And.intro ?_ ?_)
                    · intro c75
                      refine And.intro (⟨by omega, by omega⟩) ?_
                      exact ⟨_, rfl, by omega⟩
                    · intro c76
                      refine And.intro ⟨rfl, by decide, by decide⟩ ?_
                      refine And.intro ⟨rfl, by decide, by decide⟩ (fgetf fb_740_9 h0 hB0 ?_)
                      intro z77 lz77 uz77 qz77
                      refine fload rL_747_747_0_95_1_0 h0 hB0 (by omega) ?_
                      intro z78 lz78 uz78 qz78
                      refine And.intro (by omega) (And.intro ?_ ?_)
                      · intro c79
                        refine And.intro (⟨by omega, by omega⟩) ?_
                        exact ⟨_, rfl, by omega⟩
                      · intro c80
                        refine And.intro (⟨by omega, by omega⟩) ?_
                        exact ⟨_, rfl, by omega⟩
    · intro c81
      refine And.intro ⟨rfl, by decide, by decide⟩ (fgetf fb_740_11 h0 hB0 ?_)
      intro z82 lz82 uz82 qz82
      refine And.intro (by omega) (And.intro ?_ ?_)
      · intro c83
        refine And.intro (by omega) (And.intro ?_ ?_)
        · intro c84
          refine And.intro (⟨by omega, by omega⟩) ?_
          exact ⟨_, rfl, by omega⟩
        · intro c85
          refine And.intro (by omega) (And.intro ?_ ?_)
          · intro c86
            refine And.intro (⟨by omega, by omega⟩) ?_
            exact ⟨_, rfl, by omega⟩
          · intro c87
            refine And.intro ⟨rfl, by decide, by decide⟩ ?_
            refine And.intro ⟨rfl, by decide, by decide⟩ (fgetf fb_740_9 h0 hB0 ?_)
            intro z88 lz88 uz88 qz88
            refine fload rL_747_747_0_95_1_0 h0 hB0 (by omega) ?_
            intro z89 lz89 uz89 qz89
            refine And.intro (by omega) (And.intro ?_ ?_)
            · intro c90
              refine And.intro (⟨by omega, by omega⟩) ?_
              exact ⟨_, rfl, by omega⟩
            · intro c91
              refine And.intro (⟨by omega, by omega⟩) ?_
              exact ⟨_, rfl, by omega⟩
      · intro c92
        refine And.intro ⟨rfl, by decide, by decide⟩ (fgetf fb_740_10 h0 hB0 ?_)
        intro z93 lz93 uz93 qz93
        refine And.intro ⟨rfl, by decide, by decide⟩ (fgetf fb_740_9 h0 hB0 ?_)
        intro z94 lz94 uz94 qz94
        refine And.intro (by omega) (And.intro ?_ ?_)
        · intro c95
          refine And.intro (by omega) (And.intro ?_ ?_)
          · intro c96
            refine And.intro (⟨by omega, by omega⟩) ?_
            exact ⟨_, rfl, by omega⟩
          · intro c97
            refine And.intro (by omega) (And.intro ?_ ?_)
            · intro c98
              refine And.intro (⟨by omega, by omega⟩) ?_
              exact ⟨_, rfl, by omega⟩
            · intro c99
              refine And.intro ⟨rfl, by decide, by decide⟩ ?_
              refine And.intro ⟨rfl, by decide, by decide⟩ (fgetf fb_740_9 h0 hB0 ?_)
              intro z100 lz100 uz100 qz100
              refine fload rL_747_747_0_95_1_0 h0 hB0 (by omega) ?_
              intro z101 lz101 uz101 qz101
              refine And.intro (by omega) (And.intro ?_ ?_)
              · intro c102
                refine And.intro (⟨by omega, by omega⟩) ?_
                exact ⟨_, rfl, by omega⟩
              · intro c103
                refine And.intro (⟨by omega, by omega⟩) ?_
                exact ⟨_, rfl, by omega⟩
        · intro c104
          refine And.intro ⟨rfl, by decide, by decide⟩ ?_
          refine And.intro ⟨rfl, by decide, by decide⟩ (fgetf fb_740_9 h0 hB0 ?_)
          intro z105 lz105 uz105 qz105
          refine fload rL_747_747_0_95_1_0 h0 hB0 (by omega) ?_
          intro z106 lz106 uz106 qz106
          refine And.intro (by omega) (And.intro ?_ ?_)
          · intro c107
            refine And.intro (by omega) (And.intro ?_ ?_)
            · intro c108
              refine And.intro (⟨by omega, by omega⟩) ?_
              exact ⟨_, rfl, by omega⟩
            · intro c109
              refine And.intro (by omega) (And.intro ?_ ?_)
              · intro c110
                refine And.intro (⟨by omega, by omega⟩) ?_
                exact ⟨_, rfl, by omega⟩
              · intro c111
                refine And.intro ⟨rfl, by decide, by decide⟩ ?_
                refine And.intro ⟨rfl, by decide, by decide⟩ (fgetf fb_740_9 h0 hB0 ?_)
                intro z112 lz112 uz112 qz112
                refine fload rL_747_747_0_95_1_0 h0 hB0 (by omega) ?_
                intro z113 lz113 uz113 qz113
                refine And.intro (by omega) (And.intro ?_ ?_)
                · intro c114
                  refine And.intro (⟨by omega, by omega⟩) ?_
                  exact ⟨_, rfl, by omega⟩
                · intro c115
                  refine And.intro (⟨by omega, by omega⟩) ?_
                  exact ⟨_, rfl, by omega⟩
          · intro c116
            refine And.intro ⟨rfl, by decide, by decide⟩ ?_
            refine And.intro ⟨rfl, by decide, by decide⟩ (fgetf fb_740_9 h0 hB0 ?_)
            intro z117 lz117 uz117 qz117
            refine fload rL_747_747_0_95_1_0 h0 hB0 (by omega) ?_
            intro z118 lz118 uz118 qz118
            refine And.intro (by omega) (And.intro ?_ ?_)
            · intro c119
              refine And.intro (by omega) (And.intro ?_ ?_)
              · intro c120
                refine And.intro (⟨by omega, by omega⟩) ?_
                exact ⟨_, rfl, by omega⟩
              · intro c121
                refine And.intro (by omega) (And.intro ?_ ?_)
                · intro c122
                  refine And.intro (⟨by omega, by omega⟩) ?_
                  exact ⟨_, rfl, by omega⟩
                · intro c123
                  refine And.intro ⟨rfl, by decide, by decide⟩ ?_
                  refine And.intro ⟨rfl, by decide, by decide⟩ (fgetf fb_740_9 h0 hB0 ?_)
                  intro z124 lz124 uz124 qz124
                  refine fload rL_747_747_0_95_1_0 h0 hB0 (by omega) ?_
                  intro z125 lz125 uz125 qz125
                  refine And.intro (by omega) (And.intro ?_ ?_)
                  · intro c126
                    refine And.intro (⟨by omega, by omega⟩) ?_
                    exact ⟨_, rfl, by omega⟩
                  · intro c127
                    refine And.intro (⟨by omega, by omega⟩) ?_
                    exact ⟨_, rfl, by omega⟩
            · intro c128
              refine And.intro ⟨rfl, by decide, by decide⟩ ?_
              refine And.intro ⟨rfl, by decide, by decide⟩ (fgetf fb_740_9 h0 hB0 ?_)
              intro z129 lz129 uz129 qz129
              refine fload rL_747_747_0_95_1_0 h0 hB0 (by omega) ?_
              intro z130 lz130 uz130 qz130
              refine And.intro (by omega) (And.intro ?_ ?_)
              · intro c131
                refine And.intro (by omega) (And.intro ?_ ?_)
                · intro c132
                  refine And.intro (⟨by omega, by omega⟩) ?_
                  exact ⟨_, rfl, by omega⟩
                · intro c133
                  refine And.intro (by omega) (And.intro ?_ ?_)
                  · intro c134
                    refine And.intro (⟨by omega, by omega⟩) ?_
                    exact ⟨_, rfl, by omega⟩
                  · intro c135
                    refine And.intro ⟨rfl, by decide, by decide⟩ ?_
                    refine And.intro ⟨rfl, by decide, by decide⟩ (fgetf fb_740_9 h0 hB0 ?_)
                    intro z136 lz136 uz136 qz136
                    refine fload rL_747_747_0_95_1_0 h0 hB0 (by omega) ?_
                    intro z137 lz137 uz137 qz137
                    refine And.intro (by omega) (And.intro ?_ ?_)
                    · intro c138
                      refine And.intro (⟨by omega, by omega⟩) ?_
                      exact ⟨_, rfl, by omega⟩
                    · intro c139
                      refine And.intro (⟨by omega, by omega⟩) ?_
                      exact ⟨_, rfl, by omega⟩
              · intro c140
                refine And.intro ⟨rfl, by decide, by decide⟩ ?_
                refine And.intro ⟨rfl, by decide, by decide⟩ (fgetf fb_740_9 h0 hB0 ?_)
                intro z141 lz141 uz141 qz141
                refine fload rL_747_747_0_95_1_0 h0 hB0 (by omega) ?_
                intro z142 lz142 uz142 qz142
                refine And.intro (by omega) (And.intro ?_ ?_)
                · intro c143
                  refine And.intro (by omega) (And.intro ?_ ?_)
                  · intro c144
                    refine And.intro (⟨by omega, by omega⟩) ?_
                    exact ⟨_, rfl, by omega⟩
                  · intro c145
                    refine And.intro (by omega) (And.intro ?_ ?_)
                    · intro c146
                      refine And.intro (⟨by omega, by omega⟩) ?_
                      exact ⟨_, rfl, by omega⟩
                    · intro c147
                      refine And.intro ⟨rfl, by decide, by decide⟩ ?_
                      refine And.intro ⟨rfl, by decide, by decide⟩ (fgetf fb_740_9 h0 hB0 ?_)
                      intro z148 lz148 uz148 qz148
                      refine fload rL_747_747_0_95_1_0 h0 hB0 (by omega) ?_
                      intro z149 lz149 uz149 qz149
                      refine And.intro (by omega) (And.intro ?_ ?_)
                      · intro c150
                        refine And.intro (⟨by omega, by omega⟩) ?_
                        exact ⟨_, rfl, by omega⟩
                      · intro c151
                        refine And.intro (⟨by omega, by omega⟩) ?_
                        exact ⟨_, rfl, by omega⟩
                · intro c152
                  refine And.intro (by omega) (And.intro ?_ ?_)
                  · intro c153
                    refine And.intro (⟨by omega, by omega⟩) ?_
                    exact ⟨_, rfl, by omega⟩
                  · intro c154
                    refine And.intro (by omega) (And.intro ?_ ?_)
                    · intro c155
                      refine And.intro (⟨by omega, by omega⟩) ?_
                      exact ⟨_, rfl, by omega⟩
                    · intro c156
                      refine And.intro ⟨rfl, by decide, by decide⟩ ?_
                      refine And.intro ⟨rfl, by decide, by decide⟩ (fgetf fb_740_9 h0 hB0 ?_)
                      intro z157 lz157 uz157 qz157
                      refine fload rL_747_747_0_95_1_0 h0 hB0 (by omega) ?_
                      intro z158 lz158 uz158 qz158
                      refine And.intro (by omega) (And.intro ?_ ?_)
                      · intro c159
                        refine And.intro (⟨by omega, by omega⟩) ?_
                        exact ⟨_, rfl, by omega⟩
                      · intro c160
                        refine And.intro (⟨by omega, by omega⟩) ?_
                        exact ⟨_, rfl, by omega⟩
set_option maxRecDepth 8000 in
theorem ct_M_key_09703 {I : fH}  (h0 : fB bsJ I) (hp0 : I 740 9 ≤ I 740 10 ∧ I 740 10 ≤ 96) : fC ρ base n F xTc vwCl xTys D dA la gJ (fbz bsJ znJ (fKc []) I) xm_317 [.inr (.inr (some 740))] I (fun _ r => ∃ z, r = some (.inl z) ∧ ((-1) ≤ z ∧ z ≤ 5)) := by
  have hW : fzs [] (fKc []) := fKc_ok _
  refine f_meth (rb := rbJ) (J := []) 1 400 xG xin_317 x6_317 okJ (fB_self h0) ?_ ?_
  · exact fun q h => absurd h List.not_mem_nil
  · have hB0 := fB_self (zn := znJ) (K := fKc []) h0
    refine Exists.intro xm_318 (And.intro mi_318 (And.intro ⟨rfl, rfl, rfl, rfl⟩ (And.intro rfl ?_)))
    refine fcallp hB0 (ct_M_isWordAt_4e115 (fBz h0 hB0) (by omega) (by omega) (by omega) (by omega) (by omega) (by omega)) ?_
    rintro _ ⟨z1, rfl, hz1⟩
    refine And.intro (by omega) (And.intro ?_ ?_)
    · intro c2
      refine Exists.intro xm_318 (And.intro mi_318 (And.intro ⟨rfl, rfl, rfl, rfl⟩ (And.intro rfl ?_)))
      refine fcallp hB0 (ct_M_isWordAt_4e115 (fBz h0 hB0) (by omega) (by omega) (by omega) (by omega) (by omega) (by omega)) ?_
      rintro _ ⟨z3, rfl, hz3⟩
      refine And.intro (by omega) (And.intro ?_ ?_)
      · intro c4
        refine Exists.intro xm_318 (And.intro mi_318 (And.intro ⟨rfl, rfl, rfl, rfl⟩ (And.intro rfl ?_)))
        refine fcallp hB0 (ct_M_isWordAt_4e115 (fBz h0 hB0) (by omega) (by omega) (by omega) (by omega) (by omega) (by omega)) ?_
        rintro _ ⟨z5, rfl, hz5⟩
        refine And.intro (by omega) (And.intro ?_ ?_)
        · intro c6
          refine Exists.intro xm_318 (And.intro mi_318 (And.intro ⟨rfl, rfl, rfl, rfl⟩ (And.intro rfl ?_)))
          refine fcallp hB0 (ct_M_isWordAt_4e115 (fBz h0 hB0) (by omega) (by omega) (by omega) (by omega) (by omega) (by omega)) ?_
          rintro _ ⟨z7, rfl, hz7⟩
          refine And.intro (by omega) (And.intro ?_ ?_)
          · intro c8
            refine Exists.intro xm_318 (And.intro mi_318 (And.intro ⟨rfl, rfl, rfl, rfl⟩ (And.intro rfl ?_)))
            refine fcallp hB0 (ct_M_isWordAt_4e115 (fBz h0 hB0) (by omega) (by omega) (by omega) (by omega) (by omega) (by omega)) ?_
            rintro _ ⟨z9, rfl, hz9⟩
            refine And.intro (by omega) (And.intro ?_ ?_)
            · intro c10
              refine Exists.intro xm_318 (And.intro mi_318 (And.intro ⟨rfl, rfl, rfl, rfl⟩ (And.intro rfl ?_)))
              refine fcallp hB0 (ct_M_isWordAt_4e115 (fBz h0 hB0) (by omega) (by omega) (by omega) (by omega) (by omega) (by omega)) ?_
              rintro _ ⟨z11, rfl, hz11⟩
              refine And.intro (by omega) (And.intro ?_ ?_)
              · intro c12
                refine And.intro (True.intro) ?_
                exact ⟨_, rfl, by omega⟩
              · intro c13
                refine And.intro (True.intro) ?_
                exact ⟨_, rfl, by omega⟩
            · intro c14
              refine And.intro (True.intro) ?_
              exact ⟨_, rfl, by omega⟩
          · intro c15
            refine And.intro (True.intro) ?_
            exact ⟨_, rfl, by omega⟩
        · intro c16
          refine And.intro (True.intro) ?_
          exact ⟨_, rfl, by omega⟩
      · intro c17
        refine And.intro (True.intro) ?_
        exact ⟨_, rfl, by omega⟩
    · intro c18
      refine And.intro (True.intro) ?_
      exact ⟨_, rfl, by omega⟩
set_option maxRecDepth 8000 in
theorem ct_M_isDigit_7604c {I : fH} {x1 : Int} (h0 : fB bsJ I) (ha1 : (0 ≤ x1 ∧ x1 ≤ 96)) : fC ρ base n F xTc vwCl xTys D dA la gJ (fbz bsJ znJ (fKc []) I) xm_316 [.inr (.inr (some 740)), .inl x1] I (fun _ r => ∃ z, r = some (.inl z) ∧ (((z = 1 ∧ (-2147483648) ≤ x1 ∧ x1 ≤ 95) ∨ z = 0) ∧ ((z = 1 → x1 < I 740 8 ∧ 48 ≤ I 747 x1.toNat ∧ I 747 x1.toNat ≤ 57) ∧ (z = 0 → ¬ (x1 < I 740 8 ∧ 48 ≤ I 747 x1.toNat ∧ I 747 x1.toNat ≤ 57))))) := by
  have hW : fzs [] (fKc []) := fKc_ok _
  refine f_meth (rb := rbJ) (J := []) 1 400 xG xin_316 x6_316 okJ (fB_self h0) ?_ ?_
  · exact fun q h => absurd h List.not_mem_nil
  · have hB0 := fB_self (zn := znJ) (K := fKc []) h0
    refine And.intro ⟨rfl, by decide, by decide⟩ (fgetf fb_740_8 h0 hB0 ?_)
    intro z1 lz1 uz1 qz1
    refine And.intro (by omega) (And.intro ?_ ?_)
    · intro c2
      refine And.intro (⟨by omega, by omega⟩) ?_
      exact ⟨_, rfl, by omega⟩
    · intro c3
      refine And.intro ⟨rfl, by decide, by decide⟩ ?_
      refine fload rL_747_747_0_95_1_0 h0 hB0 (by omega) ?_
      intro z4 lz4 uz4 qz4
      refine And.intro (by omega) ?_
      refine Exists.intro xm_238 (And.intro mi_238 (And.intro ⟨rfl, rfl, rfl, rfl⟩ (And.intro True.intro ?_)))
      refine fcallp hB0 (ct_M_isIn_27230 (fBz h0 hB0) (by omega) (by omega) (by omega)) ?_
      rintro _ ⟨z5, rfl, hz5⟩
      refine And.intro (by omega) (And.intro ?_ ?_)
      · intro c6
        refine And.intro (⟨by omega, by omega⟩) ?_
        exact ⟨_, rfl, by omega⟩
      · intro c7
        refine And.intro (⟨by omega, by omega⟩) ?_
        exact ⟨_, rfl, by omega⟩
set_option maxRecDepth 8000 in
theorem ct_M_isLetter_13ae5 {I : fH} {x1 : Int} (h0 : fB bsJ I) (ha1 : (0 ≤ x1 ∧ x1 ≤ 96)) : fC ρ base n F xTc vwCl xTys D dA la gJ (fbz bsJ znJ (fKc []) I) xm_315 [.inr (.inr (some 740)), .inl x1] I (fun _ r => ∃ z, r = some (.inl z) ∧ (((z = 1 ∧ (-2147483648) ≤ x1 ∧ x1 ≤ 95) ∨ z = 0) ∧ ((z = 1 → x1 < I 740 8 ∧ 97 ≤ I 747 x1.toNat ∧ I 747 x1.toNat ≤ 122) ∧ (z = 0 → ¬ (x1 < I 740 8 ∧ 97 ≤ I 747 x1.toNat ∧ I 747 x1.toNat ≤ 122))))) := by
  have hW : fzs [] (fKc []) := fKc_ok _
  refine f_meth (rb := rbJ) (J := []) 1 400 xG xin_315 x6_315 okJ (fB_self h0) ?_ ?_
  · exact fun q h => absurd h List.not_mem_nil
  · have hB0 := fB_self (zn := znJ) (K := fKc []) h0
    refine And.intro ⟨rfl, by decide, by decide⟩ (fgetf fb_740_8 h0 hB0 ?_)
    intro z1 lz1 uz1 qz1
    refine And.intro (by omega) (And.intro ?_ ?_)
    · intro c2
      refine And.intro (⟨by omega, by omega⟩) ?_
      exact ⟨_, rfl, by omega⟩
    · intro c3
      refine And.intro ⟨rfl, by decide, by decide⟩ ?_
      refine fload rL_747_747_0_95_1_0 h0 hB0 (by omega) ?_
      intro z4 lz4 uz4 qz4
      refine And.intro (by omega) ?_
      refine Exists.intro xm_238 (And.intro mi_238 (And.intro ⟨rfl, rfl, rfl, rfl⟩ (And.intro True.intro ?_)))
      refine fcallp hB0 (ct_M_isIn_27230 (fBz h0 hB0) (by omega) (by omega) (by omega)) ?_
      rintro _ ⟨z5, rfl, hz5⟩
      refine And.intro (by omega) (And.intro ?_ ?_)
      · intro c6
        refine And.intro (⟨by omega, by omega⟩) ?_
        exact ⟨_, rfl, by omega⟩
      · intro c7
        refine And.intro (⟨by omega, by omega⟩) ?_
        exact ⟨_, rfl, by omega⟩
abbrev jc_M_next_c8003_34 (I0 : fH) : Nat → fL → List fV → fH → Prop := fun m lv st I => ∃ (y1 : Int) (y2 : Int), lv = [(0, .inr (.inr (some 740))), (1, .inl y1), (2, .inl y2)] ∧ st = [] ∧ (((0 ≤ y1 ∧ y1 ≤ 1) ∧ (0 ≤ y2 ∧ y2 ≤ 96) ∧ (I0 740 10 ≤ I 740 10) ∧ (I 740 10 ≤ I 740 8))) ∧ m = (195 + 1 * (96 - I 740 10) : Int).toNat
abbrev jc_M_next_c8003_128 (I0 : fH) : Nat → fL → List fV → fH → Prop := fun m lv st I => ∃ (y1 : Int), lv = [(0, .inr (.inr (some 740))), (1, .inl y1)] ∧ st = [] ∧ (((0 ≤ y1 ∧ y1 ≤ 1) ∧ (I0 740 10 ≤ I 740 9) ∧ (I 740 9 ≤ I 740 10) ∧ (I 740 10 ≤ I 740 8) ∧ (I 740 9 < I 740 8) ∧ (I 740 10 = I 740 9 → 97 ≤ I 747 (I 740 9).toNat ∧ I 747 (I 740 9).toNat ≤ 122))) ∧ m = (98 + 1 * (96 - I 740 10) : Int).toNat
abbrev jc_M_next_c8003_214 (I0 : fH) : Nat → fL → List fV → fH → Prop := fun m lv st I => ∃ (y1 : Int), lv = [(0, .inr (.inr (some 740))), (1, .inl y1)] ∧ st = [] ∧ (((0 ≤ y1 ∧ y1 ≤ 1) ∧ (I0 740 10 ≤ I 740 9) ∧ (I 740 9 ≤ I 740 10) ∧ (I 740 10 ≤ I 740 8) ∧ (I 740 9 < I 740 8) ∧ (I 740 10 = I 740 9 → 48 ≤ I 747 (I 740 9).toNat ∧ I 747 (I 740 9).toNat ≤ 57))) ∧ m = (1 + 1 * (96 - I 740 10) : Int).toNat
set_option maxRecDepth 8000 in
theorem ct_M_next_c8003 {I : fH}  (h0 : fB bsJ I) (hp0 : I 740 10 ≤ I 740 8) : fC ρ base n F xTc vwCl xTys D dA la gJ (fbz bsJ znJ (fKc wz_1c18d) I) xm_314 [.inr (.inr (some 740))] I (fun I' r => r = none ∧ (I 740 10 ≤ I' 740 9 ∧ I' 740 9 ≤ I' 740 10 ∧ I' 740 10 ≤ I' 740 8 ∧ (I' 740 11 = 0 ∨ I' 740 9 < I' 740 10))) := by
  have hW : fzs wz_1c18d (fKc wz_1c18d) := fKc_ok _
  refine f_meth (rb := rbJ) (J := [(34, (jc_M_next_c8003_34 I)), (128, (jc_M_next_c8003_128 I)), (214, (jc_M_next_c8003_214 I))]) 292 400 xG xin_314 x6_314 okJ (fB_self h0) ?_ ?_
  · refine List.forall_mem_cons.mpr ⟨?_, List.forall_mem_cons.mpr ⟨?_, List.forall_mem_cons.mpr ⟨?_, fun q h => absurd h List.not_mem_nil⟩⟩⟩
    · rintro m _ _ I1 hB1 ⟨y1, y2, rfl, rfl, hb, hm⟩
      have k1 := fBz_eq hB1 (a := 740) (j := 8) (by decide +kernel)
      have b2 := fBd fb_740_8 (fBz h0 hB1)
      refine And.intro ⟨rfl, by decide, by decide⟩ (fgetf fb_740_10 h0 hB1 ?_)
      intro z3 lz3 uz3 qz3
      refine And.intro ⟨rfl, by decide, by decide⟩ (fgetf fb_740_8 h0 hB1 ?_)
      intro z4 lz4 uz4 qz4
      refine And.intro (by omega) (And.intro ?_ ?_)
      · intro c5
        refine And.intro (by omega) (And.intro ?_ ?_)
        · intro c6
          refine And.intro ⟨rfl, by decide, by decide⟩ (fgetf fb_740_10 h0 hB1 ?_)
          intro z7 lz7 uz7 qz7
          refine And.intro ⟨rfl, by decide, by decide⟩ (And.intro rfl (And.intro (Or.inl rfl) (fputf fb_740_9 (by decide +kernel) hW (by omega) ?_)))
          intro IhB8 ehB8 hB8
          have t9 : IhB8 740 8 = I1 740 8 := (congrFun (congrFun ehB8 740) 8).trans (fup_ne (by omega))
          have t10 := fup_at ehB8 9 (by omega)
          have t11 : IhB8 740 10 = I1 740 10 := (congrFun (congrFun ehB8 740) 10).trans (fup_ne (by omega))
          have t12 : IhB8 740 11 = I1 740 11 := (congrFun (congrFun ehB8 740) 11).trans (fup_ne (by omega))
          have k13 := fBz_eq hB8 (a := 740) (j := 8) (by decide +kernel)
          refine And.intro ⟨rfl, by decide, by decide⟩ (fgetf fb_740_9 h0 hB8 ?_)
          intro z14 lz14 uz14 qz14
          refine And.intro ⟨rfl, by decide, by decide⟩ (fgetf fb_740_8 h0 hB8 ?_)
          intro z15 lz15 uz15 qz15
          refine And.intro (by omega) (And.intro ?_ ?_)
          · intro c16
            refine And.intro ⟨rfl, by decide, by decide⟩ (fgetf fb_740_9 h0 hB8 ?_)
            intro z17 lz17 uz17 qz17
            subst qz17
            refine Exists.intro xm_315 (And.intro mi_315 (And.intro ⟨rfl, rfl, rfl, rfl⟩ (And.intro rfl ?_)))
            refine fcallp hB8 (ct_M_isLetter_13ae5 (fBz h0 hB8) (by omega)) ?_
            rintro _ ⟨z18, rfl, hz18⟩
            have wd : IhB8 740 10 = IhB8 740 9 → IhB8 747 (IhB8 740 10).toNat = IhB8 747 (IhB8 740 9).toNat := fun q => by rw [q]
            refine And.intro (by omega) (And.intro ?_ ?_)
            · intro c19
              refine And.intro ⟨rfl, by decide, by decide⟩ (fgetf fb_740_9 h0 hB8 ?_)
              intro z20 lz20 uz20 qz20
              subst qz20
              refine Exists.intro xm_316 (And.intro mi_316 (And.intro ⟨rfl, rfl, rfl, rfl⟩ (And.intro rfl ?_)))
              refine fcallp hB8 (ct_M_isDigit_7604c (fBz h0 hB8) (by omega)) ?_
              rintro _ ⟨z21, rfl, hz21⟩
              have wd : IhB8 740 10 = IhB8 740 9 → IhB8 747 (IhB8 740 10).toNat = IhB8 747 (IhB8 740 9).toNat := fun q => by rw [q]
              refine And.intro (by omega) (And.intro ?_ ?_)
              · intro c22
                refine And.intro ⟨rfl, by decide, by decide⟩ (And.intro rfl (And.intro (Or.inl rfl) (fputf fb_740_11 (by decide +kernel) hW (by omega) ?_)))
                intro IhB23 ehB23 hB23
                have t24 : IhB23 740 8 = IhB8 740 8 := (congrFun (congrFun ehB23 740) 8).trans (fup_ne (by omega))
                have t25 : IhB23 740 9 = IhB8 740 9 := (congrFun (congrFun ehB23 740) 9).trans (fup_ne (by omega))
                have t26 : IhB23 740 10 = IhB8 740 10 := (congrFun (congrFun ehB23 740) 10).trans (fup_ne (by omega))
                have t27 := fup_at ehB23 11 (by omega)
                have k28 := fBz_eq hB23 (a := 740) (j := 8) (by decide +kernel)
                refine And.intro ⟨rfl, by decide, by decide⟩ ?_
                refine And.intro ⟨rfl, by decide, by decide⟩ (fgetf fb_740_9 h0 hB23 ?_)
                intro z29 lz29 uz29 qz29
                refine fload rL_747_747_0_95_1_0 h0 hB23 (by omega) ?_
                intro z30 lz30 uz30 qz30
                refine And.intro ⟨rfl, by decide, by decide⟩ (And.intro rfl (And.intro (Or.inl rfl) (fputf fb_740_13 (by decide +kernel) hW (by omega) ?_)))
                intro IhB31 ehB31 hB31
                have t32 : IhB31 740 8 = IhB23 740 8 := (congrFun (congrFun ehB31 740) 8).trans (fup_ne (by omega))
                have t33 : IhB31 740 9 = IhB23 740 9 := (congrFun (congrFun ehB31 740) 9).trans (fup_ne (by omega))
                have t34 : IhB31 740 10 = IhB23 740 10 := (congrFun (congrFun ehB31 740) 10).trans (fup_ne (by omega))
                have t35 : IhB31 740 11 = IhB23 740 11 := (congrFun (congrFun ehB31 740) 11).trans (fup_ne (by omega))
                have t36 := fup_at ehB31 13 (by omega)
                have k37 := fBz_eq hB31 (a := 740) (j := 8) (by decide +kernel)
                refine And.intro ⟨rfl, by decide, by decide⟩ (fgetf fb_740_10 h0 hB31 ?_)
                intro z38 lz38 uz38 qz38
                refine And.intro ⟨rfl, by decide, by decide⟩ (And.intro rfl (And.intro (Or.inl rfl) (fputf fb_740_10 (by decide +kernel) hW (by omega) ?_)))
                intro IhB39 ehB39 hB39
                have t40 : IhB39 740 9 = IhB31 740 9 := (congrFun (congrFun ehB39 740) 9).trans (fup_ne (by omega))
                have t41 := fup_at ehB39 10 (by omega)
                have t42 : IhB39 740 11 = IhB31 740 11 := (congrFun (congrFun ehB39 740) 11).trans (fup_ne (by omega))
                have k43 := fBz_eq hB39 (a := 740) (j := 8) (by decide +kernel)
                exact ⟨rfl, by omega⟩
              · intro c44
                refine And.intro ⟨rfl, by decide, by decide⟩ (And.intro rfl (And.intro (Or.inl rfl) (fputf fb_740_12 (by decide +kernel) hW (by omega) ?_)))
                intro IhB45 ehB45 hB45
                have t46 : IhB45 740 9 = IhB8 740 9 := (congrFun (congrFun ehB45 740) 9).trans (fup_ne (by omega))
                have t47 : IhB45 740 10 = IhB8 740 10 := (congrFun (congrFun ehB45 740) 10).trans (fup_ne (by omega))
                have t48 : IhB45 740 11 = IhB8 740 11 := (congrFun (congrFun ehB45 740) 11).trans (fup_ne (by omega))
                have k49 := fBz_eq hB45 (a := 740) (j := 8) (by decide +kernel)
                exact fcutJ (I := IhB45) (j := (jc_M_next_c8003_214 I)) (lv' := [(0, .inr (.inr (some 740))), (1, .inl _)]) (And.intro rfl (And.intro rfl True.intro)) ⟨_, rfl, rfl, by omega, rfl⟩ (by omega)
            · intro c50
              exact fcutJ (I := IhB8) (j := (jc_M_next_c8003_128 I)) (lv' := [(0, .inr (.inr (some 740))), (1, .inl _)]) (And.intro rfl (And.intro rfl True.intro)) ⟨_, rfl, rfl, by omega, rfl⟩ (by omega)
          · intro c51
            refine And.intro ⟨rfl, by decide, by decide⟩ (And.intro rfl (And.intro (Or.inl rfl) (fputf fb_740_11 (by decide +kernel) hW (by omega) ?_)))
            intro IhB52 ehB52 hB52
            have t53 : IhB52 740 8 = IhB8 740 8 := (congrFun (congrFun ehB52 740) 8).trans (fup_ne (by omega))
            have t54 : IhB52 740 9 = IhB8 740 9 := (congrFun (congrFun ehB52 740) 9).trans (fup_ne (by omega))
            have t55 : IhB52 740 10 = IhB8 740 10 := (congrFun (congrFun ehB52 740) 10).trans (fup_ne (by omega))
            have t56 := fup_at ehB52 11 (by omega)
            have k57 := fBz_eq hB52 (a := 740) (j := 8) (by decide +kernel)
            exact ⟨rfl, by omega⟩
        · intro c58
          refine And.intro ⟨rfl, by decide, by decide⟩ (fgetf fb_740_10 h0 hB1 ?_)
          intro z59 lz59 uz59 qz59
          refine And.intro (by omega) (And.intro ?_ ?_)
          · intro c60
            refine And.intro ⟨rfl, by decide, by decide⟩ (fgetf fb_740_10 h0 hB1 ?_)
            intro z61 lz61 uz61 qz61
            refine And.intro ⟨rfl, by decide, by decide⟩ (And.intro rfl (And.intro (Or.inl rfl) (fputf fb_740_9 (by decide +kernel) hW (by omega) ?_)))
            intro IhB62 ehB62 hB62
            have t63 : IhB62 740 8 = I1 740 8 := (congrFun (congrFun ehB62 740) 8).trans (fup_ne (by omega))
            have t64 := fup_at ehB62 9 (by omega)
            have t65 : IhB62 740 10 = I1 740 10 := (congrFun (congrFun ehB62 740) 10).trans (fup_ne (by omega))
            have t66 : IhB62 740 11 = I1 740 11 := (congrFun (congrFun ehB62 740) 11).trans (fup_ne (by omega))
            have k67 := fBz_eq hB62 (a := 740) (j := 8) (by decide +kernel)
            refine And.intro ⟨rfl, by decide, by decide⟩ (fgetf fb_740_9 h0 hB62 ?_)
            intro z68 lz68 uz68 qz68
            refine And.intro ⟨rfl, by decide, by decide⟩ (fgetf fb_740_8 h0 hB62 ?_)
            intro z69 lz69 uz69 qz69
            refine And.intro (by omega) (And.intro ?_ ?_)
            · intro c70
              refine And.intro ⟨rfl, by decide, by decide⟩ (fgetf fb_740_9 h0 hB62 ?_)
              intro z71 lz71 uz71 qz71
              subst qz71
              refine Exists.intro xm_315 (And.intro mi_315 (And.intro ⟨rfl, rfl, rfl, rfl⟩ (And.intro rfl ?_)))
              refine fcallp hB62 (ct_M_isLetter_13ae5 (fBz h0 hB62) (by omega)) ?_
              rintro _ ⟨z72, rfl, hz72⟩
              have wd : IhB62 740 10 = IhB62 740 9 → IhB62 747 (IhB62 740 10).toNat = IhB62 747 (IhB62 740 9).toNat := fun q => by rw [q]
              refine And.intro (by omega) (And.intro ?_ ?_)
              · intro c73
                refine And.intro ⟨rfl, by decide, by decide⟩ (fgetf fb_740_9 h0 hB62 ?_)
                intro z74 lz74 uz74 qz74
                subst qz74
                refine Exists.intro xm_316 (And.intro mi_316 (And.intro ⟨rfl, rfl, rfl, rfl⟩ (And.intro rfl ?_)))
                refine fcallp hB62 (ct_M_isDigit_7604c (fBz h0 hB62) (by omega)) ?_
                rintro _ ⟨z75, rfl, hz75⟩
                have wd : IhB62 740 10 = IhB62 740 9 → IhB62 747 (IhB62 740 10).toNat = IhB62 747 (IhB62 740 9).toNat := fun q => by rw [q]
                refine And.intro (by omega) (And.intro ?_ ?_)
                · intro c76
                  refine And.intro ⟨rfl, by decide, by decide⟩ (And.intro rfl (And.intro (Or.inl rfl) (fputf fb_740_11 (by decide +kernel) hW (by omega) ?_)))
                  intro IhB77 ehB77 hB77
                  have t78 : IhB77 740 8 = IhB62 740 8 := (congrFun (congrFun ehB77 740) 8).trans (fup_ne (by omega))
                  have t79 : IhB77 740 9 = IhB62 740 9 := (congrFun (congrFun ehB77 740) 9).trans (fup_ne (by omega))
                  have t80 : IhB77 740 10 = IhB62 740 10 := (congrFun (congrFun ehB77 740) 10).trans (fup_ne (by omega))
                  have t81 := fup_at ehB77 11 (by omega)
                  have k82 := fBz_eq hB77 (a := 740) (j := 8) (by decide +kernel)
                  refine And.intro ⟨rfl, by decide, by decide⟩ ?_
                  refine And.intro ⟨rfl, by decide, by decide⟩ (fgetf fb_740_9 h0 hB77 ?_)
                  intro z83 lz83 uz83 qz83
                  refine fload rL_747_747_0_95_1_0 h0 hB77 (by omega) ?_
                  intro z84 lz84 uz84 qz84
                  refine And.intro ⟨rfl, by decide, by decide⟩ (And.intro rfl (And.intro (Or.inl rfl) (fputf fb_740_13 (by decide +kernel) hW (by omega) ?_)))
                  intro IhB85 ehB85 hB85
                  have t86 : IhB85 740 8 = IhB77 740 8 := (congrFun (congrFun ehB85 740) 8).trans (fup_ne (by omega))
                  have t87 : IhB85 740 9 = IhB77 740 9 := (congrFun (congrFun ehB85 740) 9).trans (fup_ne (by omega))
                  have t88 : IhB85 740 10 = IhB77 740 10 := (congrFun (congrFun ehB85 740) 10).trans (fup_ne (by omega))
                  have t89 : IhB85 740 11 = IhB77 740 11 := (congrFun (congrFun ehB85 740) 11).trans (fup_ne (by omega))
                  have t90 := fup_at ehB85 13 (by omega)
                  have k91 := fBz_eq hB85 (a := 740) (j := 8) (by decide +kernel)
                  refine And.intro ⟨rfl, by decide, by decide⟩ (fgetf fb_740_10 h0 hB85 ?_)
                  intro z92 lz92 uz92 qz92
                  refine And.intro ⟨rfl, by decide, by decide⟩ (And.intro rfl (And.intro (Or.inl rfl) (fputf fb_740_10 (by decide +kernel) hW (by omega) ?_)))
                  intro IhB93 ehB93 hB93
                  have t94 : IhB93 740 9 = IhB85 740 9 := (congrFun (congrFun ehB93 740) 9).trans (fup_ne (by omega))
                  have t95 := fup_at ehB93 10 (by omega)
                  have t96 : IhB93 740 11 = IhB85 740 11 := (congrFun (congrFun ehB93 740) 11).trans (fup_ne (by omega))
                  have k97 := fBz_eq hB93 (a := 740) (j := 8) (by decide +kernel)
                  exact ⟨rfl, by omega⟩
                · intro c98
                  refine And.intro ⟨rfl, by decide, by decide⟩ (And.intro rfl (And.intro (Or.inl rfl) (fputf fb_740_12 (by decide +kernel) hW (by omega) ?_)))
                  intro IhB99 ehB99 hB99
                  have t100 : IhB99 740 9 = IhB62 740 9 := (congrFun (congrFun ehB99 740) 9).trans (fup_ne (by omega))
                  have t101 : IhB99 740 10 = IhB62 740 10 := (congrFun (congrFun ehB99 740) 10).trans (fup_ne (by omega))
                  have t102 : IhB99 740 11 = IhB62 740 11 := (congrFun (congrFun ehB99 740) 11).trans (fup_ne (by omega))
                  have k103 := fBz_eq hB99 (a := 740) (j := 8) (by decide +kernel)
                  exact fcutJ (I := IhB99) (j := (jc_M_next_c8003_214 I)) (lv' := [(0, .inr (.inr (some 740))), (1, .inl _)]) (And.intro rfl (And.intro rfl True.intro)) ⟨_, rfl, rfl, by omega, rfl⟩ (by omega)
              · intro c104
                exact fcutJ (I := IhB62) (j := (jc_M_next_c8003_128 I)) (lv' := [(0, .inr (.inr (some 740))), (1, .inl _)]) (And.intro rfl (And.intro rfl True.intro)) ⟨_, rfl, rfl, by omega, rfl⟩ (by omega)
            · intro c105
              refine And.intro ⟨rfl, by decide, by decide⟩ (And.intro rfl (And.intro (Or.inl rfl) (fputf fb_740_11 (by decide +kernel) hW (by omega) ?_)))
              intro IhB106 ehB106 hB106
              have t107 : IhB106 740 8 = IhB62 740 8 := (congrFun (congrFun ehB106 740) 8).trans (fup_ne (by omega))
              have t108 : IhB106 740 9 = IhB62 740 9 := (congrFun (congrFun ehB106 740) 9).trans (fup_ne (by omega))
              have t109 : IhB106 740 10 = IhB62 740 10 := (congrFun (congrFun ehB106 740) 10).trans (fup_ne (by omega))
              have t110 := fup_at ehB106 11 (by omega)
              have k111 := fBz_eq hB106 (a := 740) (j := 8) (by decide +kernel)
              exact ⟨rfl, by omega⟩
          · intro c112
            refine And.intro ⟨rfl, by decide, by decide⟩ (fgetf fb_740_10 h0 hB1 ?_)
            intro z113 lz113 uz113 qz113
            refine And.intro ⟨rfl, by decide, by decide⟩ (And.intro rfl (And.intro (Or.inl rfl) (fputf fb_740_9 (by decide +kernel) hW (by omega) ?_)))
            intro IhB114 ehB114 hB114
            have t115 : IhB114 740 8 = I1 740 8 := (congrFun (congrFun ehB114 740) 8).trans (fup_ne (by omega))
            have t116 := fup_at ehB114 9 (by omega)
            have t117 : IhB114 740 10 = I1 740 10 := (congrFun (congrFun ehB114 740) 10).trans (fup_ne (by omega))
            have t118 : IhB114 740 11 = I1 740 11 := (congrFun (congrFun ehB114 740) 11).trans (fup_ne (by omega))
            have k119 := fBz_eq hB114 (a := 740) (j := 8) (by decide +kernel)
            refine And.intro ⟨rfl, by decide, by decide⟩ (fgetf fb_740_9 h0 hB114 ?_)
            intro z120 lz120 uz120 qz120
            refine And.intro ⟨rfl, by decide, by decide⟩ (fgetf fb_740_8 h0 hB114 ?_)
            intro z121 lz121 uz121 qz121
            refine And.intro (by omega) (And.intro ?_ ?_)
            · intro c122
              refine And.intro ⟨rfl, by decide, by decide⟩ (fgetf fb_740_9 h0 hB114 ?_)
              intro z123 lz123 uz123 qz123
              subst qz123
              refine Exists.intro xm_315 (And.intro mi_315 (And.intro ⟨rfl, rfl, rfl, rfl⟩ (And.intro rfl ?_)))
              refine fcallp hB114 (ct_M_isLetter_13ae5 (fBz h0 hB114) (by omega)) ?_
              rintro _ ⟨z124, rfl, hz124⟩
              have wd : IhB114 740 10 = IhB114 740 9 → IhB114 747 (IhB114 740 10).toNat = IhB114 747 (IhB114 740 9).toNat := fun q => by rw [q]
              refine And.intro (by omega) (And.intro ?_ ?_)
              · intro c125
                refine And.intro ⟨rfl, by decide, by decide⟩ (fgetf fb_740_9 h0 hB114 ?_)
                intro z126 lz126 uz126 qz126
                subst qz126
                refine Exists.intro xm_316 (And.intro mi_316 (And.intro ⟨rfl, rfl, rfl, rfl⟩ (And.intro rfl ?_)))
                refine fcallp hB114 (ct_M_isDigit_7604c (fBz h0 hB114) (by omega)) ?_
                rintro _ ⟨z127, rfl, hz127⟩
                have wd : IhB114 740 10 = IhB114 740 9 → IhB114 747 (IhB114 740 10).toNat = IhB114 747 (IhB114 740 9).toNat := fun q => by rw [q]
                refine And.intro (by omega) (And.intro ?_ ?_)
                · intro c128
                  refine And.intro ⟨rfl, by decide, by decide⟩ (And.intro rfl (And.intro (Or.inl rfl) (fputf fb_740_11 (by decide +kernel) hW (by omega) ?_)))
                  intro IhB129 ehB129 hB129
                  have t130 : IhB129 740 8 = IhB114 740 8 := (congrFun (congrFun ehB129 740) 8).trans (fup_ne (by omega))
                  have t131 : IhB129 740 9 = IhB114 740 9 := (congrFun (congrFun ehB129 740) 9).trans (fup_ne (by omega))
                  have t132 : IhB129 740 10 = IhB114 740 10 := (congrFun (congrFun ehB129 740) 10).trans (fup_ne (by omega))
                  have t133 := fup_at ehB129 11 (by omega)
                  have k134 := fBz_eq hB129 (a := 740) (j := 8) (by decide +kernel)
                  refine And.intro ⟨rfl, by decide, by decide⟩ ?_
                  refine And.intro ⟨rfl, by decide, by decide⟩ (fgetf fb_740_9 h0 hB129 ?_)
                  intro z135 lz135 uz135 qz135
                  refine fload rL_747_747_0_95_1_0 h0 hB129 (by omega) ?_
                  intro z136 lz136 uz136 qz136
                  refine And.intro ⟨rfl, by decide, by decide⟩ (And.intro rfl (And.intro (Or.inl rfl) (fputf fb_740_13 (by decide +kernel) hW (by omega) ?_)))
                  intro IhB137 ehB137 hB137
                  have t138 : IhB137 740 8 = IhB129 740 8 := (congrFun (congrFun ehB137 740) 8).trans (fup_ne (by omega))
                  have t139 : IhB137 740 9 = IhB129 740 9 := (congrFun (congrFun ehB137 740) 9).trans (fup_ne (by omega))
                  have t140 : IhB137 740 10 = IhB129 740 10 := (congrFun (congrFun ehB137 740) 10).trans (fup_ne (by omega))
                  have t141 : IhB137 740 11 = IhB129 740 11 := (congrFun (congrFun ehB137 740) 11).trans (fup_ne (by omega))
                  have t142 := fup_at ehB137 13 (by omega)
                  have k143 := fBz_eq hB137 (a := 740) (j := 8) (by decide +kernel)
                  refine And.intro ⟨rfl, by decide, by decide⟩ (fgetf fb_740_10 h0 hB137 ?_)
                  intro z144 lz144 uz144 qz144
                  refine And.intro ⟨rfl, by decide, by decide⟩ (And.intro rfl (And.intro (Or.inl rfl) (fputf fb_740_10 (by decide +kernel) hW (by omega) ?_)))
                  intro IhB145 ehB145 hB145
                  have t146 : IhB145 740 9 = IhB137 740 9 := (congrFun (congrFun ehB145 740) 9).trans (fup_ne (by omega))
                  have t147 := fup_at ehB145 10 (by omega)
                  have t148 : IhB145 740 11 = IhB137 740 11 := (congrFun (congrFun ehB145 740) 11).trans (fup_ne (by omega))
                  have k149 := fBz_eq hB145 (a := 740) (j := 8) (by decide +kernel)
                  exact ⟨rfl, by omega⟩
                · intro c150
                  refine And.intro ⟨rfl, by decide, by decide⟩ (And.intro rfl (And.intro (Or.inl rfl) (fputf fb_740_12 (by decide +kernel) hW (by omega) ?_)))
                  intro IhB151 ehB151 hB151
                  have t152 : IhB151 740 9 = IhB114 740 9 := (congrFun (congrFun ehB151 740) 9).trans (fup_ne (by omega))
                  have t153 : IhB151 740 10 = IhB114 740 10 := (congrFun (congrFun ehB151 740) 10).trans (fup_ne (by omega))
                  have t154 : IhB151 740 11 = IhB114 740 11 := (congrFun (congrFun ehB151 740) 11).trans (fup_ne (by omega))
                  have k155 := fBz_eq hB151 (a := 740) (j := 8) (by decide +kernel)
                  exact fcutJ (I := IhB151) (j := (jc_M_next_c8003_214 I)) (lv' := [(0, .inr (.inr (some 740))), (1, .inl _)]) (And.intro rfl (And.intro rfl True.intro)) ⟨_, rfl, rfl, by omega, rfl⟩ (by omega)
              · intro c156
                exact fcutJ (I := IhB114) (j := (jc_M_next_c8003_128 I)) (lv' := [(0, .inr (.inr (some 740))), (1, .inl _)]) (And.intro rfl (And.intro rfl True.intro)) ⟨_, rfl, rfl, by omega, rfl⟩ (by omega)
            · intro c157
              refine And.intro ⟨rfl, by decide, by decide⟩ (And.intro rfl (And.intro (Or.inl rfl) (fputf fb_740_11 (by decide +kernel) hW (by omega) ?_)))
              intro IhB158 ehB158 hB158
              have t159 : IhB158 740 8 = IhB114 740 8 := (congrFun (congrFun ehB158 740) 8).trans (fup_ne (by omega))
              have t160 : IhB158 740 9 = IhB114 740 9 := (congrFun (congrFun ehB158 740) 9).trans (fup_ne (by omega))
              have t161 : IhB158 740 10 = IhB114 740 10 := (congrFun (congrFun ehB158 740) 10).trans (fup_ne (by omega))
              have t162 := fup_at ehB158 11 (by omega)
              have k163 := fBz_eq hB158 (a := 740) (j := 8) (by decide +kernel)
              exact ⟨rfl, by omega⟩
      · intro c164
        refine And.intro ⟨rfl, by decide, by decide⟩ ?_
        refine And.intro ⟨rfl, by decide, by decide⟩ (fgetf fb_740_10 h0 hB1 ?_)
        intro z165 lz165 uz165 qz165
        refine fload rL_747_747_0_95_1_0 h0 hB1 (by omega) ?_
        intro z166 lz166 uz166 qz166
        refine And.intro (by omega) (And.intro ?_ ?_)
        · intro c167
          refine And.intro (by omega) (And.intro ?_ ?_)
          · intro c168
            refine And.intro ⟨rfl, by decide, by decide⟩ (fgetf fb_740_10 h0 hB1 ?_)
            intro z169 lz169 uz169 qz169
            refine And.intro ⟨rfl, by decide, by decide⟩ (And.intro rfl (And.intro (Or.inl rfl) (fputf fb_740_9 (by decide +kernel) hW (by omega) ?_)))
            intro IhB170 ehB170 hB170
            have t171 : IhB170 740 8 = I1 740 8 := (congrFun (congrFun ehB170 740) 8).trans (fup_ne (by omega))
            have t172 := fup_at ehB170 9 (by omega)
            have t173 : IhB170 740 10 = I1 740 10 := (congrFun (congrFun ehB170 740) 10).trans (fup_ne (by omega))
            have t174 : IhB170 740 11 = I1 740 11 := (congrFun (congrFun ehB170 740) 11).trans (fup_ne (by omega))
            have k175 := fBz_eq hB170 (a := 740) (j := 8) (by decide +kernel)
            refine And.intro ⟨rfl, by decide, by decide⟩ (fgetf fb_740_9 h0 hB170 ?_)
            intro z176 lz176 uz176 qz176
            refine And.intro ⟨rfl, by decide, by decide⟩ (fgetf fb_740_8 h0 hB170 ?_)
            intro z177 lz177 uz177 qz177
            refine And.intro (by omega) (And.intro ?_ ?_)
            · intro c178
              refine And.intro ⟨rfl, by decide, by decide⟩ (fgetf fb_740_9 h0 hB170 ?_)
              intro z179 lz179 uz179 qz179
              subst qz179
              refine Exists.intro xm_315 (And.intro mi_315 (And.intro ⟨rfl, rfl, rfl, rfl⟩ (And.intro rfl ?_)))
              refine fcallp hB170 (ct_M_isLetter_13ae5 (fBz h0 hB170) (by omega)) ?_
              rintro _ ⟨z180, rfl, hz180⟩
              have wd : IhB170 740 10 = IhB170 740 9 → IhB170 747 (IhB170 740 10).toNat = IhB170 747 (IhB170 740 9).toNat := fun q => by rw [q]
              refine And.intro (by omega) (And.intro ?_ ?_)
              · intro c181
                refine And.intro ⟨rfl, by decide, by decide⟩ (fgetf fb_740_9 h0 hB170 ?_)
                intro z182 lz182 uz182 qz182
                subst qz182
                refine Exists.intro xm_316 (And.intro mi_316 (And.intro ⟨rfl, rfl, rfl, rfl⟩ (And.intro rfl ?_)))
                refine fcallp hB170 (ct_M_isDigit_7604c (fBz h0 hB170) (by omega)) ?_
                rintro _ ⟨z183, rfl, hz183⟩
                have wd : IhB170 740 10 = IhB170 740 9 → IhB170 747 (IhB170 740 10).toNat = IhB170 747 (IhB170 740 9).toNat := fun q => by rw [q]
                refine And.intro (by omega) (And.intro ?_ ?_)
                · intro c184
                  refine And.intro ⟨rfl, by decide, by decide⟩ (And.intro rfl (And.intro (Or.inl rfl) (fputf fb_740_11 (by decide +kernel) hW (by omega) ?_)))
                  intro IhB185 ehB185 hB185
                  have t186 : IhB185 740 8 = IhB170 740 8 := (congrFun (congrFun ehB185 740) 8).trans (fup_ne (by omega))
                  have t187 : IhB185 740 9 = IhB170 740 9 := (congrFun (congrFun ehB185 740) 9).trans (fup_ne (by omega))
                  have t188 : IhB185 740 10 = IhB170 740 10 := (congrFun (congrFun ehB185 740) 10).trans (fup_ne (by omega))
                  have t189 := fup_at ehB185 11 (by omega)
                  have k190 := fBz_eq hB185 (a := 740) (j := 8) (by decide +kernel)
                  refine And.intro ⟨rfl, by decide, by decide⟩ ?_
                  refine And.intro ⟨rfl, by decide, by decide⟩ (fgetf fb_740_9 h0 hB185 ?_)
                  intro z191 lz191 uz191 qz191
                  refine fload rL_747_747_0_95_1_0 h0 hB185 (by omega) ?_
                  intro z192 lz192 uz192 qz192
                  refine And.intro ⟨rfl, by decide, by decide⟩ (And.intro rfl (And.intro (Or.inl rfl) (fputf fb_740_13 (by decide +kernel) hW (by omega) ?_)))
                  intro IhB193 ehB193 hB193
                  have t194 : IhB193 740 8 = IhB185 740 8 := (congrFun (congrFun ehB193 740) 8).trans (fup_ne (by omega))
                  have t195 : IhB193 740 9 = IhB185 740 9 := (congrFun (congrFun ehB193 740) 9).trans (fup_ne (by omega))
                  have t196 : IhB193 740 10 = IhB185 740 10 := (congrFun (congrFun ehB193 740) 10).trans (fup_ne (by omega))
                  have t197 : IhB193 740 11 = IhB185 740 11 := (congrFun (congrFun ehB193 740) 11).trans (fup_ne (by omega))
                  have t198 := fup_at ehB193 13 (by omega)
                  have k199 := fBz_eq hB193 (a := 740) (j := 8) (by decide +kernel)
                  refine And.intro ⟨rfl, by decide, by decide⟩ (fgetf fb_740_10 h0 hB193 ?_)
                  intro z200 lz200 uz200 qz200
                  refine And.intro ⟨rfl, by decide, by decide⟩ (And.intro rfl (And.intro (Or.inl rfl) (fputf fb_740_10 (by decide +kernel) hW (by omega) ?_)))
                  intro IhB201 ehB201 hB201
                  have t202 : IhB201 740 9 = IhB193 740 9 := (congrFun (congrFun ehB201 740) 9).trans (fup_ne (by omega))
                  have t203 := fup_at ehB201 10 (by omega)
                  have t204 : IhB201 740 11 = IhB193 740 11 := (congrFun (congrFun ehB201 740) 11).trans (fup_ne (by omega))
                  have k205 := fBz_eq hB201 (a := 740) (j := 8) (by decide +kernel)
                  exact ⟨rfl, by omega⟩
                · intro c206
                  refine And.intro ⟨rfl, by decide, by decide⟩ (And.intro rfl (And.intro (Or.inl rfl) (fputf fb_740_12 (by decide +kernel) hW (by omega) ?_)))
                  intro IhB207 ehB207 hB207
                  have t208 : IhB207 740 9 = IhB170 740 9 := (congrFun (congrFun ehB207 740) 9).trans (fup_ne (by omega))
                  have t209 : IhB207 740 10 = IhB170 740 10 := (congrFun (congrFun ehB207 740) 10).trans (fup_ne (by omega))
                  have t210 : IhB207 740 11 = IhB170 740 11 := (congrFun (congrFun ehB207 740) 11).trans (fup_ne (by omega))
                  have k211 := fBz_eq hB207 (a := 740) (j := 8) (by decide +kernel)
                  exact fcutJ (I := IhB207) (j := (jc_M_next_c8003_214 I)) (lv' := [(0, .inr (.inr (some 740))), (1, .inl _)]) (And.intro rfl (And.intro rfl True.intro)) ⟨_, rfl, rfl, by omega, rfl⟩ (by omega)
              · intro c212
                exact fcutJ (I := IhB170) (j := (jc_M_next_c8003_128 I)) (lv' := [(0, .inr (.inr (some 740))), (1, .inl _)]) (And.intro rfl (And.intro rfl True.intro)) ⟨_, rfl, rfl, by omega, rfl⟩ (by omega)
            · intro c213
              refine And.intro ⟨rfl, by decide, by decide⟩ (And.intro rfl (And.intro (Or.inl rfl) (fputf fb_740_11 (by decide +kernel) hW (by omega) ?_)))
              intro IhB214 ehB214 hB214
              have t215 : IhB214 740 8 = IhB170 740 8 := (congrFun (congrFun ehB214 740) 8).trans (fup_ne (by omega))
              have t216 : IhB214 740 9 = IhB170 740 9 := (congrFun (congrFun ehB214 740) 9).trans (fup_ne (by omega))
              have t217 : IhB214 740 10 = IhB170 740 10 := (congrFun (congrFun ehB214 740) 10).trans (fup_ne (by omega))
              have t218 := fup_at ehB214 11 (by omega)
              have k219 := fBz_eq hB214 (a := 740) (j := 8) (by decide +kernel)
              exact ⟨rfl, by omega⟩
          · intro c220
            refine And.intro ⟨rfl, by decide, by decide⟩ (fgetf fb_740_10 h0 hB1 ?_)
            intro z221 lz221 uz221 qz221
            refine And.intro (by omega) (And.intro ?_ ?_)
            · intro c222
              refine And.intro ⟨rfl, by decide, by decide⟩ (fgetf fb_740_10 h0 hB1 ?_)
              intro z223 lz223 uz223 qz223
              refine And.intro ⟨rfl, by decide, by decide⟩ (And.intro rfl (And.intro (Or.inl rfl) (fputf fb_740_9 (by decide +kernel) hW (by omega) ?_)))
              intro IhB224 ehB224 hB224
              have t225 : IhB224 740 8 = I1 740 8 := (congrFun (congrFun ehB224 740) 8).trans (fup_ne (by omega))
              have t226 := fup_at ehB224 9 (by omega)
              have t227 : IhB224 740 10 = I1 740 10 := (congrFun (congrFun ehB224 740) 10).trans (fup_ne (by omega))
              have t228 : IhB224 740 11 = I1 740 11 := (congrFun (congrFun ehB224 740) 11).trans (fup_ne (by omega))
              have k229 := fBz_eq hB224 (a := 740) (j := 8) (by decide +kernel)
              refine And.intro ⟨rfl, by decide, by decide⟩ (fgetf fb_740_9 h0 hB224 ?_)
              intro z230 lz230 uz230 qz230
              refine And.intro ⟨rfl, by decide, by decide⟩ (fgetf fb_740_8 h0 hB224 ?_)
              intro z231 lz231 uz231 qz231
              refine And.intro (by omega) (And.intro ?_ ?_)
              · intro c232
                refine And.intro ⟨rfl, by decide, by decide⟩ (fgetf fb_740_9 h0 hB224 ?_)
                intro z233 lz233 uz233 qz233
                subst qz233
                refine Exists.intro xm_315 (And.intro mi_315 (And.intro ⟨rfl, rfl, rfl, rfl⟩ (And.intro rfl ?_)))
                refine fcallp hB224 (ct_M_isLetter_13ae5 (fBz h0 hB224) (by omega)) ?_
                rintro _ ⟨z234, rfl, hz234⟩
                have wd : IhB224 740 10 = IhB224 740 9 → IhB224 747 (IhB224 740 10).toNat = IhB224 747 (IhB224 740 9).toNat := fun q => by rw [q]
                refine And.intro (by omega) (And.intro ?_ ?_)
                · intro c235
                  refine And.intro ⟨rfl, by decide, by decide⟩ (fgetf fb_740_9 h0 hB224 ?_)
                  intro z236 lz236 uz236 qz236
                  subst qz236
                  refine Exists.intro xm_316 (And.intro mi_316 (And.intro ⟨rfl, rfl, rfl, rfl⟩ (And.intro rfl ?_)))
                  refine fcallp hB224 (ct_M_isDigit_7604c (fBz h0 hB224) (by omega)) ?_
                  rintro _ ⟨z237, rfl, hz237⟩
                  have wd : IhB224 740 10 = IhB224 740 9 → IhB224 747 (IhB224 740 10).toNat = IhB224 747 (IhB224 740 9).toNat := fun q => by rw [q]
                  refine And.intro (by omega) (And.intro ?_ ?_)
                  · intro c238
                    refine And.intro ⟨rfl, by decide, by decide⟩ (And.intro rfl (And.intro (Or.inl rfl) (fputf fb_740_11 (by decide +kernel) hW (by omega) ?_)))
                    intro IhB239 ehB239 hB239
                    have t240 : IhB239 740 8 = IhB224 740 8 := (congrFun (congrFun ehB239 740) 8).trans (fup_ne (by omega))
                    have t241 : IhB239 740 9 = IhB224 740 9 := (congrFun (congrFun ehB239 740) 9).trans (fup_ne (by omega))
                    have t242 : IhB239 740 10 = IhB224 740 10 := (congrFun (congrFun ehB239 740) 10).trans (fup_ne (by omega))
                    have t243 := fup_at ehB239 11 (by omega)
                    have k244 := fBz_eq hB239 (a := 740) (j := 8) (by decide +kernel)
                    refine And.intro ⟨rfl, by decide, by decide⟩ ?_
                    refine And.intro ⟨rfl, by decide, by decide⟩ (fgetf fb_740_9 h0 hB239 ?_)
                    intro z245 lz245 uz245 qz245
                    refine fload rL_747_747_0_95_1_0 h0 hB239 (by omega) ?_
                    intro z246 lz246 uz246 qz246
                    refine And.intro ⟨rfl, by decide, by decide⟩ (And.intro rfl (And.intro (Or.inl rfl) (fputf fb_740_13 (by decide +kernel) hW (by omega) ?_)))
                    intro IhB247 ehB247 hB247
                    have t248 : IhB247 740 8 = IhB239 740 8 := (congrFun (congrFun ehB247 740) 8).trans (fup_ne (by omega))
                    have t249 : IhB247 740 9 = IhB239 740 9 := (congrFun (congrFun ehB247 740) 9).trans (fup_ne (by omega))
                    have t250 : IhB247 740 10 = IhB239 740 10 := (congrFun (congrFun ehB247 740) 10).trans (fup_ne (by omega))
                    have t251 : IhB247 740 11 = IhB239 740 11 := (congrFun (congrFun ehB247 740) 11).trans (fup_ne (by omega))
                    have t252 := fup_at ehB247 13 (by omega)
                    have k253 := fBz_eq hB247 (a := 740) (j := 8) (by decide +kernel)
                    refine And.intro ⟨rfl, by decide, by decide⟩ (fgetf fb_740_10 h0 hB247 ?_)
                    intro z254 lz254 uz254 qz254
                    refine And.intro ⟨rfl, by decide, by decide⟩ (And.intro rfl (And.intro (Or.inl rfl) (fputf fb_740_10 (by decide +kernel) hW (by omega) ?_)))
                    intro IhB255 ehB255 hB255
                    have t256 : IhB255 740 9 = IhB247 740 9 := (congrFun (congrFun ehB255 740) 9).trans (fup_ne (by omega))
                    have t257 := fup_at ehB255 10 (by omega)
                    have t258 : IhB255 740 11 = IhB247 740 11 := (congrFun (congrFun ehB255 740) 11).trans (fup_ne (by omega))
                    have k259 := fBz_eq hB255 (a := 740) (j := 8) (by decide +kernel)
                    exact ⟨rfl, by omega⟩
                  · intro c260
                    refine And.intro ⟨rfl, by decide, by decide⟩ (And.intro rfl (And.intro (Or.inl rfl) (fputf fb_740_12 (by decide +kernel) hW (by omega) ?_)))
                    intro IhB261 ehB261 hB261
                    have t262 : IhB261 740 9 = IhB224 740 9 := (congrFun (congrFun ehB261 740) 9).trans (fup_ne (by omega))
                    have t263 : IhB261 740 10 = IhB224 740 10 := (congrFun (congrFun ehB261 740) 10).trans (fup_ne (by omega))
                    have t264 : IhB261 740 11 = IhB224 740 11 := (congrFun (congrFun ehB261 740) 11).trans (fup_ne (by omega))
                    have k265 := fBz_eq hB261 (a := 740) (j := 8) (by decide +kernel)
                    exact fcutJ (I := IhB261) (j := (jc_M_next_c8003_214 I)) (lv' := [(0, .inr (.inr (some 740))), (1, .inl _)]) (And.intro rfl (And.intro rfl True.intro)) ⟨_, rfl, rfl, by omega, rfl⟩ (by omega)
                · intro c266
                  exact fcutJ (I := IhB224) (j := (jc_M_next_c8003_128 I)) (lv' := [(0, .inr (.inr (some 740))), (1, .inl _)]) (And.intro rfl (And.intro rfl True.intro)) ⟨_, rfl, rfl, by omega, rfl⟩ (by omega)
              · intro c267
                refine And.intro ⟨rfl, by decide, by decide⟩ (And.intro rfl (And.intro (Or.inl rfl) (fputf fb_740_11 (by decide +kernel) hW (by omega) ?_)))
                intro IhB268 ehB268 hB268
                have t269 : IhB268 740 8 = IhB224 740 8 := (congrFun (congrFun ehB268 740) 8).trans (fup_ne (by omega))
                have t270 : IhB268 740 9 = IhB224 740 9 := (congrFun (congrFun ehB268 740) 9).trans (fup_ne (by omega))
                have t271 : IhB268 740 10 = IhB224 740 10 := (congrFun (congrFun ehB268 740) 10).trans (fup_ne (by omega))
                have t272 := fup_at ehB268 11 (by omega)
                have k273 := fBz_eq hB268 (a := 740) (j := 8) (by decide +kernel)
                exact ⟨rfl, by omega⟩
            · intro c274
              refine And.intro ⟨rfl, by decide, by decide⟩ (fgetf fb_740_10 h0 hB1 ?_)
              intro z275 lz275 uz275 qz275
              refine And.intro ⟨rfl, by decide, by decide⟩ (And.intro rfl (And.intro (Or.inl rfl) (fputf fb_740_9 (by decide +kernel) hW (by omega) ?_)))
              intro IhB276 ehB276 hB276
              have t277 : IhB276 740 8 = I1 740 8 := (congrFun (congrFun ehB276 740) 8).trans (fup_ne (by omega))
              have t278 := fup_at ehB276 9 (by omega)
              have t279 : IhB276 740 10 = I1 740 10 := (congrFun (congrFun ehB276 740) 10).trans (fup_ne (by omega))
              have t280 : IhB276 740 11 = I1 740 11 := (congrFun (congrFun ehB276 740) 11).trans (fup_ne (by omega))
              have k281 := fBz_eq hB276 (a := 740) (j := 8) (by decide +kernel)
              refine And.intro ⟨rfl, by decide, by decide⟩ (fgetf fb_740_9 h0 hB276 ?_)
              intro z282 lz282 uz282 qz282
              refine And.intro ⟨rfl, by decide, by decide⟩ (fgetf fb_740_8 h0 hB276 ?_)
              intro z283 lz283 uz283 qz283
              refine And.intro (by omega) (And.intro ?_ ?_)
              · intro c284
                refine And.intro ⟨rfl, by decide, by decide⟩ (fgetf fb_740_9 h0 hB276 ?_)
                intro z285 lz285 uz285 qz285
                subst qz285
                refine Exists.intro xm_315 (And.intro mi_315 (And.intro ⟨rfl, rfl, rfl, rfl⟩ (And.intro rfl ?_)))
                refine fcallp hB276 (ct_M_isLetter_13ae5 (fBz h0 hB276) (by omega)) ?_
                rintro _ ⟨z286, rfl, hz286⟩
                have wd : IhB276 740 10 = IhB276 740 9 → IhB276 747 (IhB276 740 10).toNat = IhB276 747 (IhB276 740 9).toNat := fun q => by rw [q]
                refine And.intro (by omega) (And.intro ?_ ?_)
                · intro c287
                  refine And.intro ⟨rfl, by decide, by decide⟩ (fgetf fb_740_9 h0 hB276 ?_)
                  intro z288 lz288 uz288 qz288
                  subst qz288
                  refine Exists.intro xm_316 (And.intro mi_316 (And.intro ⟨rfl, rfl, rfl, rfl⟩ (And.intro rfl ?_)))
                  refine fcallp hB276 (ct_M_isDigit_7604c (fBz h0 hB276) (by omega)) ?_
                  rintro _ ⟨z289, rfl, hz289⟩
                  have wd : IhB276 740 10 = IhB276 740 9 → IhB276 747 (IhB276 740 10).toNat = IhB276 747 (IhB276 740 9).toNat := fun q => by rw [q]
                  refine And.intro (by omega) (And.intro ?_ ?_)
                  · intro c290
                    refine And.intro ⟨rfl, by decide, by decide⟩ (And.intro rfl (And.intro (Or.inl rfl) (fputf fb_740_11 (by decide +kernel) hW (by omega) ?_)))
                    intro IhB291 ehB291 hB291
                    have t292 : IhB291 740 8 = IhB276 740 8 := (congrFun (congrFun ehB291 740) 8).trans (fup_ne (by omega))
                    have t293 : IhB291 740 9 = IhB276 740 9 := (congrFun (congrFun ehB291 740) 9).trans (fup_ne (by omega))
                    have t294 : IhB291 740 10 = IhB276 740 10 := (congrFun (congrFun ehB291 740) 10).trans (fup_ne (by omega))
                    have t295 := fup_at ehB291 11 (by omega)
                    have k296 := fBz_eq hB291 (a := 740) (j := 8) (by decide +kernel)
                    refine And.intro ⟨rfl, by decide, by decide⟩ ?_
                    refine And.intro ⟨rfl, by decide, by decide⟩ (fgetf fb_740_9 h0 hB291 ?_)
                    intro z297 lz297 uz297 qz297
                    refine fload rL_747_747_0_95_1_0 h0 hB291 (by omega) ?_
                    intro z298 lz298 uz298 qz298
                    refine And.intro ⟨rfl, by decide, by decide⟩ (And.intro rfl (And.intro (Or.inl rfl) (fputf fb_740_13 (by decide +kernel) hW (by omega) ?_)))
                    intro IhB299 ehB299 hB299
                    have t300 : IhB299 740 8 = IhB291 740 8 := (congrFun (congrFun ehB299 740) 8).trans (fup_ne (by omega))
                    have t301 : IhB299 740 9 = IhB291 740 9 := (congrFun (congrFun ehB299 740) 9).trans (fup_ne (by omega))
                    have t302 : IhB299 740 10 = IhB291 740 10 := (congrFun (congrFun ehB299 740) 10).trans (fup_ne (by omega))
                    have t303 : IhB299 740 11 = IhB291 740 11 := (congrFun (congrFun ehB299 740) 11).trans (fup_ne (by omega))
                    have t304 := fup_at ehB299 13 (by omega)
                    have k305 := fBz_eq hB299 (a := 740) (j := 8) (by decide +kernel)
                    refine And.intro ⟨rfl, by decide, by decide⟩ (fgetf fb_740_10 h0 hB299 ?_)
                    intro z306 lz306 uz306 qz306
                    refine And.intro ⟨rfl, by decide, by decide⟩ (And.intro rfl (And.intro (Or.inl rfl) (fputf fb_740_10 (by decide +kernel) hW (by omega) ?_)))
                    intro IhB307 ehB307 hB307
                    have t308 : IhB307 740 9 = IhB299 740 9 := (congrFun (congrFun ehB307 740) 9).trans (fup_ne (by omega))
                    have t309 := fup_at ehB307 10 (by omega)
                    have t310 : IhB307 740 11 = IhB299 740 11 := (congrFun (congrFun ehB307 740) 11).trans (fup_ne (by omega))
                    have k311 := fBz_eq hB307 (a := 740) (j := 8) (by decide +kernel)
                    exact ⟨rfl, by omega⟩
                  · intro c312
                    refine And.intro ⟨rfl, by decide, by decide⟩ (And.intro rfl (And.intro (Or.inl rfl) (fputf fb_740_12 (by decide +kernel) hW (by omega) ?_)))
                    intro IhB313 ehB313 hB313
                    have t314 : IhB313 740 9 = IhB276 740 9 := (congrFun (congrFun ehB313 740) 9).trans (fup_ne (by omega))
                    have t315 : IhB313 740 10 = IhB276 740 10 := (congrFun (congrFun ehB313 740) 10).trans (fup_ne (by omega))
                    have t316 : IhB313 740 11 = IhB276 740 11 := (congrFun (congrFun ehB313 740) 11).trans (fup_ne (by omega))
                    have k317 := fBz_eq hB313 (a := 740) (j := 8) (by decide +kernel)
                    exact fcutJ (I := IhB313) (j := (jc_M_next_c8003_214 I)) (lv' := [(0, .inr (.inr (some 740))), (1, .inl _)]) (And.intro rfl (And.intro rfl True.intro)) ⟨_, rfl, rfl, by omega, rfl⟩ (by omega)
                · intro c318
                  exact fcutJ (I := IhB276) (j := (jc_M_next_c8003_128 I)) (lv' := [(0, .inr (.inr (some 740))), (1, .inl _)]) (And.intro rfl (And.intro rfl True.intro)) ⟨_, rfl, rfl, by omega, rfl⟩ (by omega)
              · intro c319
                refine And.intro ⟨rfl, by decide, by decide⟩ (And.intro rfl (And.intro (Or.inl rfl) (fputf fb_740_11 (by decide +kernel) hW (by omega) ?_)))
                intro IhB320 ehB320 hB320
                have t321 : IhB320 740 8 = IhB276 740 8 := (congrFun (congrFun ehB320 740) 8).trans (fup_ne (by omega))
                have t322 : IhB320 740 9 = IhB276 740 9 := (congrFun (congrFun ehB320 740) 9).trans (fup_ne (by omega))
                have t323 : IhB320 740 10 = IhB276 740 10 := (congrFun (congrFun ehB320 740) 10).trans (fup_ne (by omega))
                have t324 := fup_at ehB320 11 (by omega)
                have k325 := fBz_eq hB320 (a := 740) (j := 8) (by decide +kernel)
                exact ⟨rfl, by omega⟩
        · intro c326
          refine And.intro ⟨rfl, by decide, by decide⟩ (fgetf fb_740_10 h0 hB1 ?_)
          intro z327 lz327 uz327 qz327
          refine And.intro ⟨rfl, by decide, by decide⟩ (And.intro rfl (And.intro (Or.inl rfl) (fputf fb_740_10 (by decide +kernel) hW (by omega) ?_)))
          intro IhB328 ehB328 hB328
          have t329 : IhB328 740 8 = I1 740 8 := (congrFun (congrFun ehB328 740) 8).trans (fup_ne (by omega))
          have t330 : IhB328 740 9 = I1 740 9 := (congrFun (congrFun ehB328 740) 9).trans (fup_ne (by omega))
          have t331 := fup_at ehB328 10 (by omega)
          have t332 : IhB328 740 11 = I1 740 11 := (congrFun (congrFun ehB328 740) 11).trans (fup_ne (by omega))
          have k333 := fBz_eq hB328 (a := 740) (j := 8) (by decide +kernel)
          exact fcutJ (I := IhB328) (j := (jc_M_next_c8003_34 I)) (lv' := [(0, .inr (.inr (some 740))), (1, .inl _), (2, .inl _)]) (And.intro rfl (And.intro rfl (And.intro rfl True.intro))) ⟨_, _, rfl, rfl, by omega, rfl⟩ (by omega)
    · rintro m _ _ I1 hB1 ⟨y1, rfl, rfl, hb, hm⟩
      have k334 := fBz_eq hB1 (a := 740) (j := 8) (by decide +kernel)
      have b335 := fBd fb_740_8 (fBz h0 hB1)
      refine And.intro ⟨rfl, by decide, by decide⟩ (fgetf fb_740_10 h0 hB1 ?_)
      intro z336 lz336 uz336 qz336
      subst qz336
      refine Exists.intro xm_315 (And.intro mi_315 (And.intro ⟨rfl, rfl, rfl, rfl⟩ (And.intro rfl ?_)))
      refine fcallp hB1 (ct_M_isLetter_13ae5 (fBz h0 hB1) (by omega)) ?_
      rintro _ ⟨z337, rfl, hz337⟩
      have wc : I1 740 10 = I1 740 9 → I1 747 (I1 740 10).toNat = I1 747 (I1 740 9).toNat := fun q => by rw [q]
      refine And.intro (by omega) (And.intro ?_ ?_)
      · intro c338
        refine And.intro (by omega) (And.intro ?_ ?_)
        · intro c339
          refine And.intro ⟨rfl, by decide, by decide⟩ (And.intro rfl (And.intro (Or.inl rfl) (fputf fb_740_11 (by decide +kernel) hW (by omega) ?_)))
          intro IhB340 ehB340 hB340
          have t341 : IhB340 740 9 = I1 740 9 := (congrFun (congrFun ehB340 740) 9).trans (fup_ne (by omega))
          have t342 : IhB340 740 10 = I1 740 10 := (congrFun (congrFun ehB340 740) 10).trans (fup_ne (by omega))
          have t343 := fup_at ehB340 11 (by omega)
          have k344 := fBz_eq hB340 (a := 740) (j := 8) (by decide +kernel)
          refine And.intro ⟨rfl, by decide, by decide⟩ (fgetf fb_740_10 h0 hB340 ?_)
          intro z345 lz345 uz345 qz345
          refine And.intro ⟨rfl, by decide, by decide⟩ (fgetf fb_740_9 h0 hB340 ?_)
          intro z346 lz346 uz346 qz346
          refine And.intro (by omega) (And.intro ?_ ?_)
          · intro c347
            refine And.intro ⟨rfl, by decide, by decide⟩ (And.intro rfl (And.intro (Or.inl rfl) (fputf fb_740_13 (by decide +kernel) hW (by omega) ?_)))
            intro IhB348 ehB348 hB348
            have t349 : IhB348 740 9 = IhB340 740 9 := (congrFun (congrFun ehB348 740) 9).trans (fup_ne (by omega))
            have t350 : IhB348 740 10 = IhB340 740 10 := (congrFun (congrFun ehB348 740) 10).trans (fup_ne (by omega))
            have t351 : IhB348 740 11 = IhB340 740 11 := (congrFun (congrFun ehB348 740) 11).trans (fup_ne (by omega))
            have t352 := fup_at ehB348 13 (by omega)
            have k353 := fBz_eq hB348 (a := 740) (j := 8) (by decide +kernel)
            exact ⟨rfl, by omega⟩
          · intro c354
            refine And.intro ⟨rfl, by decide, by decide⟩ ?_
            refine And.intro ⟨rfl, by decide, by decide⟩ (fgetf fb_740_9 h0 hB340 ?_)
            intro z355 lz355 uz355 qz355
            refine fload rL_747_747_0_95_1_0 h0 hB340 (by omega) ?_
            intro z356 lz356 uz356 qz356
            refine And.intro ⟨rfl, by decide, by decide⟩ (And.intro rfl (And.intro (Or.inl rfl) (fputf fb_740_13 (by decide +kernel) hW (by omega) ?_)))
            intro IhB357 ehB357 hB357
            have t358 : IhB357 740 9 = IhB340 740 9 := (congrFun (congrFun ehB357 740) 9).trans (fup_ne (by omega))
            have t359 : IhB357 740 10 = IhB340 740 10 := (congrFun (congrFun ehB357 740) 10).trans (fup_ne (by omega))
            have t360 : IhB357 740 11 = IhB340 740 11 := (congrFun (congrFun ehB357 740) 11).trans (fup_ne (by omega))
            have t361 := fup_at ehB357 13 (by omega)
            have k362 := fBz_eq hB357 (a := 740) (j := 8) (by decide +kernel)
            exact ⟨rfl, by omega⟩
        · intro c363
          refine And.intro ⟨rfl, by decide, by decide⟩ (And.intro rfl (And.intro (Or.inl rfl) (fputf fb_740_11 (by decide +kernel) hW (by omega) ?_)))
          intro IhB364 ehB364 hB364
          have t365 : IhB364 740 9 = I1 740 9 := (congrFun (congrFun ehB364 740) 9).trans (fup_ne (by omega))
          have t366 : IhB364 740 10 = I1 740 10 := (congrFun (congrFun ehB364 740) 10).trans (fup_ne (by omega))
          have t367 := fup_at ehB364 11 (by omega)
          have k368 := fBz_eq hB364 (a := 740) (j := 8) (by decide +kernel)
          refine And.intro ⟨rfl, by decide, by decide⟩ (fgetf fb_740_10 h0 hB364 ?_)
          intro z369 lz369 uz369 qz369
          refine And.intro ⟨rfl, by decide, by decide⟩ (fgetf fb_740_9 h0 hB364 ?_)
          intro z370 lz370 uz370 qz370
          refine And.intro (by omega) (And.intro ?_ ?_)
          · intro c371
            refine And.intro ⟨rfl, by decide, by decide⟩ (And.intro rfl (And.intro (Or.inl rfl) (fputf fb_740_13 (by decide +kernel) hW (by omega) ?_)))
            intro IhB372 ehB372 hB372
            have t373 : IhB372 740 9 = IhB364 740 9 := (congrFun (congrFun ehB372 740) 9).trans (fup_ne (by omega))
            have t374 : IhB372 740 10 = IhB364 740 10 := (congrFun (congrFun ehB372 740) 10).trans (fup_ne (by omega))
            have t375 : IhB372 740 11 = IhB364 740 11 := (congrFun (congrFun ehB372 740) 11).trans (fup_ne (by omega))
            have t376 := fup_at ehB372 13 (by omega)
            have k377 := fBz_eq hB372 (a := 740) (j := 8) (by decide +kernel)
            exact ⟨rfl, by omega⟩
          · intro c378
            refine And.intro ⟨rfl, by decide, by decide⟩ ?_
            refine And.intro ⟨rfl, by decide, by decide⟩ (fgetf fb_740_9 h0 hB364 ?_)
            intro z379 lz379 uz379 qz379
            refine fload rL_747_747_0_95_1_0 h0 hB364 (by omega) ?_
            intro z380 lz380 uz380 qz380
            refine And.intro ⟨rfl, by decide, by decide⟩ (And.intro rfl (And.intro (Or.inl rfl) (fputf fb_740_13 (by decide +kernel) hW (by omega) ?_)))
            intro IhB381 ehB381 hB381
            have t382 : IhB381 740 9 = IhB364 740 9 := (congrFun (congrFun ehB381 740) 9).trans (fup_ne (by omega))
            have t383 : IhB381 740 10 = IhB364 740 10 := (congrFun (congrFun ehB381 740) 10).trans (fup_ne (by omega))
            have t384 : IhB381 740 11 = IhB364 740 11 := (congrFun (congrFun ehB381 740) 11).trans (fup_ne (by omega))
            have t385 := fup_at ehB381 13 (by omega)
            have k386 := fBz_eq hB381 (a := 740) (j := 8) (by decide +kernel)
            exact ⟨rfl, by omega⟩
      · intro c387
        refine And.intro ⟨rfl, by decide, by decide⟩ (fgetf fb_740_10 h0 hB1 ?_)
        intro z388 lz388 uz388 qz388
        refine And.intro ⟨rfl, by decide, by decide⟩ (And.intro rfl (And.intro (Or.inl rfl) (fputf fb_740_10 (by decide +kernel) hW (by omega) ?_)))
        intro IhB389 ehB389 hB389
        have t390 : IhB389 740 9 = I1 740 9 := (congrFun (congrFun ehB389 740) 9).trans (fup_ne (by omega))
        have t391 := fup_at ehB389 10 (by omega)
        have t392 : IhB389 740 11 = I1 740 11 := (congrFun (congrFun ehB389 740) 11).trans (fup_ne (by omega))
        have k393 := fBz_eq hB389 (a := 740) (j := 8) (by decide +kernel)
        exact fcutJ (I := IhB389) (j := (jc_M_next_c8003_128 I)) (lv' := [(0, .inr (.inr (some 740))), (1, .inl _)]) (And.intro rfl (And.intro rfl True.intro)) ⟨_, rfl, rfl, by omega, rfl⟩ (by omega)
    · rintro m _ _ I1 hB1 ⟨y1, rfl, rfl, hb, hm⟩
      have k394 := fBz_eq hB1 (a := 740) (j := 8) (by decide +kernel)
      have b395 := fBd fb_740_8 (fBz h0 hB1)
      refine And.intro ⟨rfl, by decide, by decide⟩ (fgetf fb_740_10 h0 hB1 ?_)
      intro z396 lz396 uz396 qz396
      subst qz396
      refine Exists.intro xm_316 (And.intro mi_316 (And.intro ⟨rfl, rfl, rfl, rfl⟩ (And.intro rfl ?_)))
      refine fcallp hB1 (ct_M_isDigit_7604c (fBz h0 hB1) (by omega)) ?_
      rintro _ ⟨z397, rfl, hz397⟩
      have wc : I1 740 10 = I1 740 9 → I1 747 (I1 740 10).toNat = I1 747 (I1 740 9).toNat := fun q => by rw [q]
      refine And.intro (by omega) (And.intro ?_ ?_)
      · intro c398
        refine And.intro (by omega) (And.intro ?_ ?_)
        · intro c399
          refine And.intro ⟨rfl, by decide, by decide⟩ (And.intro rfl (And.intro (Or.inl rfl) (fputf fb_740_11 (by decide +kernel) hW (by omega) ?_)))
          intro IhB400 ehB400 hB400
          have t401 : IhB400 740 9 = I1 740 9 := (congrFun (congrFun ehB400 740) 9).trans (fup_ne (by omega))
          have t402 : IhB400 740 10 = I1 740 10 := (congrFun (congrFun ehB400 740) 10).trans (fup_ne (by omega))
          have t403 := fup_at ehB400 11 (by omega)
          have k404 := fBz_eq hB400 (a := 740) (j := 8) (by decide +kernel)
          exact ⟨rfl, by omega⟩
        · intro c405
          refine And.intro ⟨rfl, by decide, by decide⟩ (fgetf fb_740_10 h0 hB1 ?_)
          intro z406 lz406 uz406 qz406
          refine And.intro ⟨rfl, by decide, by decide⟩ (fgetf fb_740_9 h0 hB1 ?_)
          intro z407 lz407 uz407 qz407
          refine And.intro (by omega) (And.intro ?_ ?_)
          · intro c408
            refine And.intro ⟨rfl, by decide, by decide⟩ (And.intro rfl (And.intro (Or.inl rfl) (fputf fb_740_11 (by decide +kernel) hW (by omega) ?_)))
            intro IhB409 ehB409 hB409
            have t410 : IhB409 740 9 = I1 740 9 := (congrFun (congrFun ehB409 740) 9).trans (fup_ne (by omega))
            have t411 : IhB409 740 10 = I1 740 10 := (congrFun (congrFun ehB409 740) 10).trans (fup_ne (by omega))
            have t412 := fup_at ehB409 11 (by omega)
            have k413 := fBz_eq hB409 (a := 740) (j := 8) (by decide +kernel)
            exact ⟨rfl, by omega⟩
          · intro c414
            refine And.intro ⟨rfl, by decide, by decide⟩ (And.intro rfl (And.intro (Or.inl rfl) (fputf fb_740_11 (by decide +kernel) hW (by omega) ?_)))
            intro IhB415 ehB415 hB415
            have t416 : IhB415 740 9 = I1 740 9 := (congrFun (congrFun ehB415 740) 9).trans (fup_ne (by omega))
            have t417 : IhB415 740 10 = I1 740 10 := (congrFun (congrFun ehB415 740) 10).trans (fup_ne (by omega))
            have t418 := fup_at ehB415 11 (by omega)
            have k419 := fBz_eq hB415 (a := 740) (j := 8) (by decide +kernel)
            exact ⟨rfl, by omega⟩
      · intro c420
        refine And.intro ⟨rfl, by decide, by decide⟩ (fgetf fb_740_10 h0 hB1 ?_)
        intro z421 lz421 uz421 qz421
        refine And.intro ⟨rfl, by decide, by decide⟩ (fgetf fb_740_9 h0 hB1 ?_)
        intro z422 lz422 uz422 qz422
        refine And.intro (by omega) (And.intro ?_ ?_)
        · intro c423
          refine And.intro ⟨rfl, by decide, by decide⟩ (fgetf fb_740_12 h0 hB1 ?_)
          intro z424 lz424 uz424 qz424
          refine And.intro ⟨rfl, by decide, by decide⟩ (And.intro rfl (And.intro (Or.inl rfl) (fputf fb_740_12 (by decide +kernel) hW (by omega) ?_)))
          intro IhB425 ehB425 hB425
          have t426 : IhB425 740 9 = I1 740 9 := (congrFun (congrFun ehB425 740) 9).trans (fup_ne (by omega))
          have t427 : IhB425 740 10 = I1 740 10 := (congrFun (congrFun ehB425 740) 10).trans (fup_ne (by omega))
          have t428 : IhB425 740 11 = I1 740 11 := (congrFun (congrFun ehB425 740) 11).trans (fup_ne (by omega))
          have t429 := fup_at ehB425 12 (by omega)
          have k430 := fBz_eq hB425 (a := 740) (j := 8) (by decide +kernel)
          refine And.intro ⟨rfl, by decide, by decide⟩ (fgetf fb_740_10 h0 hB425 ?_)
          intro z431 lz431 uz431 qz431
          refine And.intro ⟨rfl, by decide, by decide⟩ (And.intro rfl (And.intro (Or.inl rfl) (fputf fb_740_10 (by decide +kernel) hW (by omega) ?_)))
          intro IhB432 ehB432 hB432
          have t433 : IhB432 740 9 = IhB425 740 9 := (congrFun (congrFun ehB432 740) 9).trans (fup_ne (by omega))
          have t434 := fup_at ehB432 10 (by omega)
          have t435 : IhB432 740 11 = IhB425 740 11 := (congrFun (congrFun ehB432 740) 11).trans (fup_ne (by omega))
          have t436 : IhB432 740 12 = IhB425 740 12 := (congrFun (congrFun ehB432 740) 12).trans (fup_ne (by omega))
          have k437 := fBz_eq hB432 (a := 740) (j := 8) (by decide +kernel)
          exact fcutJ (I := IhB432) (j := (jc_M_next_c8003_214 I)) (lv' := [(0, .inr (.inr (some 740))), (1, .inl _)]) (And.intro rfl (And.intro rfl True.intro)) ⟨_, rfl, rfl, by omega, rfl⟩ (by omega)
        · intro c438
          refine And.intro ⟨rfl, by decide, by decide⟩ (fgetf fb_740_12 h0 hB1 ?_)
          intro z439 lz439 uz439 qz439
          intro z440 hz440 ez440 bz440
          clear ez440
          clear bz440
          refine And.intro ⟨rfl, by decide, by decide⟩ ?_
          refine And.intro ⟨rfl, by decide, by decide⟩ (fgetf fb_740_10 h0 hB1 ?_)
          intro z441 lz441 uz441 qz441
          refine fload rL_747_747_0_95_1_0 h0 hB1 (by omega) ?_
          intro z442 lz442 uz442 qz442
          intro z443 hz443 ez443 bz443
          clear ez443
          clear bz443
          intro z444 hz444 ez444 bz444
          clear ez444
          clear bz444
          refine And.intro ⟨rfl, by decide, by decide⟩ (And.intro rfl (And.intro (Or.inl rfl) (fputf fb_740_12 (by decide +kernel) hW (by omega) ?_)))
          intro IhB445 ehB445 hB445
          have t446 : IhB445 740 9 = I1 740 9 := (congrFun (congrFun ehB445 740) 9).trans (fup_ne (by omega))
          have t447 : IhB445 740 10 = I1 740 10 := (congrFun (congrFun ehB445 740) 10).trans (fup_ne (by omega))
          have t448 : IhB445 740 11 = I1 740 11 := (congrFun (congrFun ehB445 740) 11).trans (fup_ne (by omega))
          have t449 := fup_at ehB445 12 (by omega)
          have k450 := fBz_eq hB445 (a := 740) (j := 8) (by decide +kernel)
          refine And.intro ⟨rfl, by decide, by decide⟩ (fgetf fb_740_10 h0 hB445 ?_)
          intro z451 lz451 uz451 qz451
          refine And.intro ⟨rfl, by decide, by decide⟩ (And.intro rfl (And.intro (Or.inl rfl) (fputf fb_740_10 (by decide +kernel) hW (by omega) ?_)))
          intro IhB452 ehB452 hB452
          have t453 : IhB452 740 9 = IhB445 740 9 := (congrFun (congrFun ehB452 740) 9).trans (fup_ne (by omega))
          have t454 := fup_at ehB452 10 (by omega)
          have t455 : IhB452 740 11 = IhB445 740 11 := (congrFun (congrFun ehB452 740) 11).trans (fup_ne (by omega))
          have t456 : IhB452 740 12 = IhB445 740 12 := (congrFun (congrFun ehB452 740) 12).trans (fup_ne (by omega))
          have k457 := fBz_eq hB452 (a := 740) (j := 8) (by decide +kernel)
          exact fcutJ (I := IhB452) (j := (jc_M_next_c8003_214 I)) (lv' := [(0, .inr (.inr (some 740))), (1, .inl _)]) (And.intro rfl (And.intro rfl True.intro)) ⟨_, rfl, rfl, by omega, rfl⟩ (by omega)
  · have hB0 := fB_self (zn := znJ) (K := fKc wz_1c18d) h0
    have b458 := fBd fb_740_8 (fBz h0 hB0)
    refine And.intro ⟨rfl, by decide, by decide⟩ (fgetf fb_740_10 h0 hB0 ?_)
    intro z459 lz459 uz459 qz459
    refine And.intro (by omega) (And.intro ?_ ?_)
    · intro c460
      refine And.intro ⟨rfl, by decide, by decide⟩ (fgetf fb_740_10 h0 hB0 ?_)
      intro z461 lz461 uz461 qz461
      exact fcutJ (I := I) (j := (jc_M_next_c8003_34 I)) (lv' := [(0, .inr (.inr (some 740))), (1, .inl _), (2, .inl _)]) (And.intro rfl (And.intro rfl (And.intro rfl True.intro))) ⟨_, _, rfl, rfl, by omega, rfl⟩ (by omega)
    · intro c462
      refine And.intro ⟨rfl, by decide, by decide⟩ (fgetf fb_740_11 h0 hB0 ?_)
      intro z463 lz463 uz463 qz463
      refine And.intro (by omega) (And.intro ?_ ?_)
      · intro c464
        refine And.intro ⟨rfl, by decide, by decide⟩ (fgetf fb_740_10 h0 hB0 ?_)
        intro z465 lz465 uz465 qz465
        exact fcutJ (I := I) (j := (jc_M_next_c8003_34 I)) (lv' := [(0, .inr (.inr (some 740))), (1, .inl _), (2, .inl _)]) (And.intro rfl (And.intro rfl (And.intro rfl True.intro))) ⟨_, _, rfl, rfl, by omega, rfl⟩ (by omega)
      · intro c466
        refine And.intro ⟨rfl, by decide, by decide⟩ (fgetf fb_740_11 h0 hB0 ?_)
        intro z467 lz467 uz467 qz467
        refine And.intro (by omega) (And.intro ?_ ?_)
        · intro c468
          refine And.intro ⟨rfl, by decide, by decide⟩ (fgetf fb_740_10 h0 hB0 ?_)
          intro z469 lz469 uz469 qz469
          exact fcutJ (I := I) (j := (jc_M_next_c8003_34 I)) (lv' := [(0, .inr (.inr (some 740))), (1, .inl _), (2, .inl _)]) (And.intro rfl (And.intro rfl (And.intro rfl True.intro))) ⟨_, _, rfl, rfl, by omega, rfl⟩ (by omega)
        · intro c470
          refine And.intro ⟨rfl, by decide, by decide⟩ (fgetf fb_740_10 h0 hB0 ?_)
          intro z471 lz471 uz471 qz471
          exact fcutJ (I := I) (j := (jc_M_next_c8003_34 I)) (lv' := [(0, .inr (.inr (some 740))), (1, .inl _), (2, .inl _)]) (And.intro rfl (And.intro rfl (And.intro rfl True.intro))) ⟨_, _, rfl, rfl, by omega, rfl⟩ (by omega)
set_option maxRecDepth 8000 in
theorem ct_M_isSign_90da9 {I : fH} {x1 : Int} (h0 : fB bsJ I) (ha1 : (33 ≤ x1 ∧ x1 ≤ 124)) : fC ρ base n F xTc vwCl xTys D dA la gJ (fbz bsJ znJ (fKc []) I) xm_423 [.inr (.inr (some 740)), .inl x1] I (fun _ r => ∃ z, r = some (.inl z) ∧ ((0 ≤ z ∧ z ≤ 1) ∧ (z = 1 → I 740 11 = 3 ∧ I 740 13 = x1))) := by
  have hW : fzs [] (fKc []) := fKc_ok _
  refine f_meth (rb := rbJ) (J := []) 1 400 xG xin_423 x6_423 okJ (fB_self h0) ?_ ?_
  · exact fun q h => absurd h List.not_mem_nil
  · have hB0 := fB_self (zn := znJ) (K := fKc []) h0
    refine And.intro ⟨rfl, by decide, by decide⟩ (fgetf fb_740_11 h0 hB0 ?_)
    intro z1 lz1 uz1 qz1
    refine And.intro (by omega) (And.intro ?_ ?_)
    · intro c2
      refine And.intro (⟨by omega, by omega⟩) ?_
      exact ⟨_, rfl, by omega⟩
    · intro c3
      refine And.intro ⟨rfl, by decide, by decide⟩ (fgetf fb_740_13 h0 hB0 ?_)
      intro z4 lz4 uz4 qz4
      refine And.intro (by omega) (And.intro ?_ ?_)
      · intro c5
        refine And.intro (⟨by omega, by omega⟩) ?_
        exact ⟨_, rfl, by omega⟩
      · intro c6
        refine And.intro (⟨by omega, by omega⟩) ?_
        exact ⟨_, rfl, by omega⟩
set_option maxRecDepth 8000 in
theorem ct_M_step_2c704 {I : fH} {x1 : Int} {x2 : Int} (h0 : fB bsJ I) (ha1 : (0 ≤ x1 ∧ x1 ≤ 2)) (ha2 : ((-2147483648) ≤ x2 ∧ x2 ≤ 2147483647)) (hp0 : 0 ≤ I 740 16 ∧ I 740 16 ≤ 96) (hp1 : (1215 ≤ I 740 17 ∧ I 740 17 ≤ 3415 ∧ (I 740 17 - 1215) % 200 = 0) ∨ I 740 17 = 4700) : fC ρ base n F xTc vwCl xTys D dA la gJ (fbz bsJ znJ (fKc wz_6dafe) I) xm_421 [.inr (.inr (some 740)), .inl x1, .inl x2] I (fun I' r => r = none ∧ (I' 740 16 = I 740 16 + 1) ∧ (sPut I I' (I 740 17) (I 740 16) x1 x2)) := by
  have hW : fzs wz_6dafe (fKc wz_6dafe) := fKc_ok _
  refine f_meth (rb := rbJ) (J := []) 1 400 xG xin_421 x6_421 okJ (fB_self h0) ?_ ?_
  · exact fun q h => absurd h List.not_mem_nil
  · have hB0 := fB_self (zn := znJ) (K := fKc wz_6dafe) h0
    refine And.intro ⟨rfl, by decide, by decide⟩ ?_
    refine And.intro ⟨rfl, by decide, by decide⟩ (fgetf fb_740_17 h0 hB0 ?_)
    intro z1 lz1 uz1 qz1
    refine And.intro ⟨rfl, by decide, by decide⟩ (fgetf fb_740_16 h0 hB0 ?_)
    intro z2 lz2 uz2 qz2
    intro z3 hz3 ez3 bz3
    clear ez3
    clear bz3
    refine fstoreX (W := [20605, 20840]) (fzs_sub (by decide +kernel) hW) (by rcases hp1 with hA | hA <;> first | exact frS_at rS_741_741_1215_3609_200_194 (by decide +kernel) (by omega) (by omega) | exact frS_at rS_741_741_4700_4899_1_0 (by decide +kernel) (by omega) (by omega)) ?_
    intro IhB4 ehB4 hB4
    have t5 := fup_self ehB4
    have t6 : IhB4 740 16 = I 740 16 := (congrFun (congrFun ehB4 740) 16).trans (fup_ne (by omega))
    have t7 : IhB4 740 17 = I 740 17 := (congrFun (congrFun ehB4 740) 17).trans (fup_ne (by omega))
    refine And.intro ⟨rfl, by decide, by decide⟩ ?_
    refine And.intro ⟨rfl, by decide, by decide⟩ (fgetf fb_740_17 h0 hB4 ?_)
    intro z8 lz8 uz8 qz8
    refine And.intro ⟨rfl, by decide, by decide⟩ (fgetf fb_740_16 h0 hB4 ?_)
    intro z9 lz9 uz9 qz9
    intro z10 hz10 ez10 bz10
    clear ez10
    clear bz10
    intro z11 hz11 ez11 bz11
    clear ez11
    clear bz11
    refine fstoreX (W := [20605, 20840]) (fzs_sub (by decide +kernel) hW) (by rcases hp1 with hA | hA <;> first | exact frS_at rS_741_741_1215_3609_200_194 (by decide +kernel) (by omega) (by omega) | exact frS_at rS_741_741_4700_4899_1_0 (by decide +kernel) (by omega) (by omega)) ?_
    intro IhB12 ehB12 hB12
    have t13 := fup_self ehB12
    have t14 : IhB12 740 16 = IhB4 740 16 := (congrFun (congrFun ehB12 740) 16).trans (fup_ne (by omega))
    have t15 : IhB12 740 17 = IhB4 740 17 := (congrFun (congrFun ehB12 740) 17).trans (fup_ne (by omega))
    refine And.intro ⟨rfl, by decide, by decide⟩ (fgetf fb_740_16 h0 hB12 ?_)
    intro z16 lz16 uz16 qz16
    refine And.intro ⟨rfl, by decide, by decide⟩ (And.intro rfl (And.intro (Or.inl rfl) (fputf fb_740_16 (by decide +kernel) hW (by omega) ?_)))
    intro IhB17 ehB17 hB17
    have t18 := fup_at ehB17 16 (by omega)
    have t19 : IhB17 740 17 = IhB12 740 17 := (congrFun (congrFun ehB17 740) 17).trans (fup_ne (by omega))
    exact ⟨rfl, by omega, ⟨fun j h1 h2 => (fup_other ehB17 741 j (Or.inl (by decide))).trans ((fup_other ehB12 741 j (Or.inr (by omega))).trans (fup_other ehB4 741 j (Or.inr (by omega)))), (fup_other ehB17 741 _ (Or.inl (by decide))).trans ((fup_other ehB12 741 _ (Or.inr (by omega))).trans (fup_at ehB4 _ (by omega))), (fup_other ehB17 741 _ (Or.inl (by decide))).trans (fup_at ehB12 _ (by omega))⟩⟩
end CT

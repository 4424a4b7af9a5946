/-! contracts (written by gen95.py) -/
abbrev wz_7628e : List Nat := [736, 737, 12103, 12104]
theorem x6_208 : f60c xTc xTys xm_208 = true := by decide +kernel
theorem fb_735_3 : bsJ 735 3 = ((-2147483648), 2147483647) := by decide +kernel
theorem rL_256_256_0_6_1_0 : frL gJ bsJ 100 ((256, 256), (0, 6), (1, 0), (0, 127)) := frL_of (by decide +kernel)
theorem rS_737_737_0_6_1_0 : frS gJ bsJ znJ [737] 100 ((737, 737), (0, 6), (1, 0), (0, 6)) := frS_of (by decide +kernel)
theorem rL_254_254_0_6_1_0 : frL gJ bsJ 100 ((254, 254), (0, 6), (1, 0), (0, 9)) := frL_of (by decide +kernel)
theorem rL_255_255_0_6_1_0 : frL gJ bsJ 100 ((255, 255), (0, 6), (1, 0), (0, 99)) := frL_of (by decide +kernel)
theorem fb_735_2 : bsJ 735 2 = ((-2147483648), 2147483647) := by decide +kernel
theorem x6_209 : f60c xTc xTys xm_209 = true := by decide +kernel
theorem x6_210 : f60c xTc xTys xm_210 = true := by decide +kernel
theorem x6_211 : f60c xTc xTys xm_211 = true := by decide +kernel
theorem x6_212 : f60c xTc xTys xm_212 = true := by decide +kernel
theorem x6_213 : f60c xTc xTys xm_213 = true := by decide +kernel
theorem x6_214 : f60c xTc xTys xm_214 = true := by decide +kernel
abbrev wz_79e74 : List Nat := [736, 737, 12102, 12103, 12104]
theorem x6_206 : f60c xTc xTys xm_206 = true := by decide +kernel
theorem x6_205 : f60c xTc xTys xm_205 = true := by decide +kernel
abbrev wz_4d25e : List Nat := [757, 758, 12233, 12234, 12235]
theorem x6_479 : f60c xTc xTys xm_479 = true := by decide +kernel
theorem rL_757_757_0_6_1_0 : frL gJ bsJ 100 ((757, 757), (0, 6), (1, 0), (0, 6)) := frL_of (by decide +kernel)
theorem rS_758_758_0_6_1_0 : frS gJ bsJ znJ [758] 100 ((758, 758), (0, 6), (1, 0), (0, 6)) := frS_of (by decide +kernel)
theorem fb_740_35 : bsJ 740 35 = (0, 1) := by decide +kernel
theorem rL_741_741_4372_4390_3_0 : frL gJ bsJ 100 ((741, 741), (4372, 4390), (3, 0), (0, 127)) := frL_of (by decide +kernel)
theorem fb_740_34 : bsJ 740 34 = ((-2147483648), 2147483647) := by decide +kernel
theorem rS_757_757_0_6_1_0 : frS gJ bsJ znJ [757] 100 ((757, 757), (0, 6), (1, 0), (0, 6)) := frS_of (by decide +kernel)
theorem rL_741_741_4370_4388_3_0 : frL gJ bsJ 100 ((741, 741), (4370, 4388), (3, 0), (0, 9)) := frL_of (by decide +kernel)
theorem rL_741_741_4371_4389_3_0 : frL gJ bsJ 100 ((741, 741), (4371, 4389), (3, 0), (0, 99)) := frL_of (by decide +kernel)
theorem fb_740_33 : bsJ 740 33 = ((-2147483648), 2147483647) := by decide +kernel
theorem x6_480 : f60c xTc xTys xm_480 = true := by decide +kernel
theorem x6_481 : f60c xTc xTys xm_481 = true := by decide +kernel
theorem x6_482 : f60c xTc xTys xm_482 = true := by decide +kernel
theorem x6_483 : f60c xTc xTys xm_483 = true := by decide +kernel
theorem x6_484 : f60c xTc xTys xm_484 = true := by decide +kernel
section CT
variable {ρ : Nat → Int32} {base n : Nat} {F : Nat → Prop} {D : va_G} {dA : Nat → ClassId} {la : Launch}
abbrev jc_Order_goOn_0ff97_24 : Nat → fL → List fV → fH → Prop := fun m lv st I => ∃ (y2 : Int) (y3 : Int) (y4 : Int) (y5 : Int) (y6 : Int), lv = [(0, .inr (.inr (some 735))), (1, .inr (.inr (some 211))), (2, .inl y2), (3, .inl y3), (4, .inl y4), (5, .inl y5), (6, .inl y6)] ∧ st = [] ∧ (((6 ≤ y2 ∧ y2 ≤ 6) ∧ ((-2147483648) ≤ y3 ∧ y3 ≤ 2147483647) ∧ (0 ≤ y4 ∧ y4 ≤ 54) ∧ ((-2147483648) ≤ y5 ∧ y5 ≤ 2147483647) ∧ (0 ≤ y6 ∧ y6 ≤ 7) ∧ (7 ≤ I 211 15 ∧ I 211 15 ≤ 7))) ∧ m = (1 + 1 * (7 - y6) : Int).toNat
set_option maxRecDepth 8000 in
theorem ct_Order_goOn_0ff97 {I : fH} {x2 : Int} {x3 : Int} {x4 : Int} {x5 : Int} (h0 : fB bsJ I) (ha2 : (6 ≤ x2 ∧ x2 ≤ 6)) (ha3 : ((-2147483648) ≤ x3 ∧ x3 ≤ 2147483647)) (ha4 : (0 ≤ x4 ∧ x4 ≤ 54)) (ha5 : ((-2147483648) ≤ x5 ∧ x5 ≤ 2147483647)) : fC ρ base n F xTc vwCl xTys D dA la gJ (fbz bsJ znJ (fKc wz_7628e) I) xm_208 [.inr (.inr (some 735)), .inr (.inr (some 211)), .inl x2, .inl x3, .inl x4, .inl x5] I (fun _ r => r = none) := by
  have hW : fzs wz_7628e (fKc wz_7628e) := fKc_ok _
  refine f_meth (rb := rbJ) (J := [(24, jc_Order_goOn_0ff97_24)]) 9 400 xG xin_208 x6_208 okJ (fB_self h0) ?_ ?_
  · refine List.forall_mem_cons.mpr ⟨?_, fun q h => absurd h List.not_mem_nil⟩
    · rintro m _ _ I1 hB1 ⟨y2, y3, y4, y5, y6, rfl, rfl, hb, hm⟩
      refine And.intro ⟨rfl, by decide, by decide⟩ (fgetf fb_211_15 h0 hB1 ?_)
      intro z1 lz1 uz1 qz1
      refine And.intro (by omega) (And.intro ?_ ?_)
      · intro c2
        exact rfl
      · intro c3
        refine And.intro ⟨rfl, by decide, by decide⟩ (fgetf fb_735_3 h0 hB1 ?_)
        intro z4 lz4 uz4 qz4
        refine And.intro (by omega) (And.intro ?_ ?_)
        · intro c5
          exact rfl
        · intro c6
          intro z7 hz7 ez7
          intro z8 hz8 ez8 bz8
          clear ez8
          have bz8 := bz8 (by omega)
          refine And.intro (by omega) (And.intro ?_ ?_)
          · intro c9
            exact fcutJ (I := I1) (j := jc_Order_goOn_0ff97_24) (lv' := [(0, .inr (.inr (some 735))), (1, .inr (.inr (some 211))), (2, .inl _), (3, .inl _), (4, .inl _), (5, .inl _), (6, .inl _)]) (And.intro rfl (And.intro rfl (And.intro rfl (And.intro rfl (And.intro rfl (And.intro rfl (And.intro rfl True.intro))))))) ⟨_, _, _, _, _, rfl, rfl, by omega, rfl⟩ (by omega)
          · intro c10
            refine And.intro ⟨rfl, by decide, by decide⟩ ?_
            refine fload rL_256_256_0_6_1_0 h0 hB1 (by omega) ?_
            intro z11 lz11 uz11 qz11
            intro z12 hz12 ez12
            intro z13 hz13 ez13 bz13
            clear ez13
            clear bz13
            refine And.intro (by omega) (And.intro ?_ ?_)
            · intro c14
              exact fcutJ (I := I1) (j := jc_Order_goOn_0ff97_24) (lv' := [(0, .inr (.inr (some 735))), (1, .inr (.inr (some 211))), (2, .inl _), (3, .inl _), (4, .inl _), (5, .inl _), (6, .inl _)]) (And.intro rfl (And.intro rfl (And.intro rfl (And.intro rfl (And.intro rfl (And.intro rfl (And.intro rfl True.intro))))))) ⟨_, _, _, _, _, rfl, rfl, by omega, rfl⟩ (by omega)
            · intro c15
              refine And.intro ⟨rfl, by decide, by decide⟩ (fgetf fb_735_3 h0 hB1 ?_)
              intro z16 lz16 uz16 qz16
              refine And.intro ⟨rfl, by decide, by decide⟩ (And.intro rfl (And.intro (Or.inl rfl) (fputf fb_735_3 (by decide +kernel) hW (by omega) ?_)))
              intro IhB17 ehB17 hB17
              have t18 : IhB17 211 15 = I1 211 15 := (congrFun (congrFun ehB17 211) 15).trans (fup_ne (by omega))
              have t19 := fup_at ehB17 3 (by omega)
              refine And.intro ⟨rfl, by decide, by decide⟩ ?_
              refine fstore rS_737_737_0_6_1_0 (fzs_sub (by decide +kernel) hW) (by omega) (by omega) ?_
              intro IhB20 ehB20 hB20
              have t21 := fup_self ehB20
              have t22 : IhB20 211 15 = IhB17 211 15 := (congrFun (congrFun ehB20 211) 15).trans (fup_ne (by omega))
              have t23 : IhB20 735 3 = IhB17 735 3 := (congrFun (congrFun ehB20 735) 3).trans (fup_ne (by omega))
              have t24 := fup_at ehB20 6 (by omega)
              refine And.intro ⟨rfl, by decide, by decide⟩ ?_
              refine fload rL_254_254_0_6_1_0 h0 hB20 (by omega) ?_
              intro z25 lz25 uz25 qz25
              intro z26 hz26 ez26 bz26
              clear ez26
              have bz26 := bz26 (by omega)
              refine And.intro ⟨rfl, by decide, by decide⟩ ?_
              refine fload rL_255_255_0_6_1_0 h0 hB20 (by omega) ?_
              intro z27 lz27 uz27 qz27
              refine And.intro ⟨rfl, by decide, by decide⟩ (fgetf fb_735_2 h0 hB20 ?_)
              intro z28 lz28 uz28 qz28
              intro z29 hz29 ez29 bz29
              clear ez29
              clear bz29
              refine And.intro (And.intro (by omega) (And.intro (by omega) rfl)) ?_
              intro z30 hz30
              intro z31 hz31 ez31 bz31
              clear ez31
              clear bz31
              refine And.intro ⟨rfl, by decide, by decide⟩ (fgetf fb_735_3 h0 hB20 ?_)
              intro z32 lz32 uz32 qz32
              refine And.intro (by omega) (And.intro ?_ ?_)
              · intro c33
                exact fcutJ (I := IhB20) (j := jc_Order_goOn_0ff97_24) (lv' := [(0, .inr (.inr (some 735))), (1, .inr (.inr (some 211))), (2, .inl _), (3, .inl _), (4, .inl _), (5, .inl _), (6, .inl _)]) (And.intro rfl (And.intro rfl (And.intro rfl (And.intro rfl (And.intro rfl (And.intro rfl (And.intro rfl True.intro))))))) ⟨_, _, _, _, _, rfl, rfl, by omega, rfl⟩ (by omega)
              · intro c34
                intro z35 hz35 ez35
                intro z36 hz36 ez36
                intro z37 hz37 ez37 bz37
                clear ez37
                clear bz37
                refine Exists.intro xm_207 (And.intro mi_207 (And.intro ⟨rfl, rfl, rfl, rfl⟩ (And.intro rfl ?_)))
                refine fcall _ h0 (fzs_sub (by decide +kernel) hW) hB20 (ct_Order_goOn_992d9 (fBz h0 hB20) (by omega) (by omega) (by omega) (by omega)) ?_
                rintro IhB39 _ hB39 fhB39 rfl
                have t40 := fhB39 211 15 (by decide +kernel)
                have t41 := fhB39 735 3 (by decide +kernel)
                exact fcutJ (I := IhB39) (j := jc_Order_goOn_0ff97_24) (lv' := [(0, .inr (.inr (some 735))), (1, .inr (.inr (some 211))), (2, .inl _), (3, .inl _), (4, .inl _), (5, .inl _), (6, .inl _)]) (And.intro rfl (And.intro rfl (And.intro rfl (And.intro rfl (And.intro rfl (And.intro rfl (And.intro rfl True.intro))))))) ⟨_, _, _, _, _, rfl, rfl, by omega, rfl⟩ (by omega)
  · have hB0 := fB_self (zn := znJ) (K := fKc wz_7628e) h0
    refine And.intro ⟨rfl, by decide, by decide⟩ (fgetf fb_211_15 h0 hB0 ?_)
    intro z42 lz42 uz42 qz42
    refine And.intro (by omega) (And.intro ?_ ?_)
    · intro c43
      refine Exists.intro xm_215 (And.intro mi_215 (And.intro ⟨rfl, rfl, rfl, rfl⟩ (And.intro rfl ?_)))
      refine fcall _ h0 (fzs_sub (by decide +kernel) hW) hB0 (ct_Order_take_e8cff (fBz h0 hB0) (by omega)) ?_
      rintro IhB45 _ hB45 fhB45 rfl
      have t46 := fhB45 211 15 (by decide +kernel)
      exact rfl
    · intro c47
      refine And.intro (by omega) (And.intro ?_ ?_)
      · intro c48
        exact fcutJ (I := I) (j := jc_Order_goOn_0ff97_24) (lv' := [(0, .inr (.inr (some 735))), (1, .inr (.inr (some 211))), (2, .inl _), (3, .inl _), (4, .inl _), (5, .inl _), (6, .inl _)]) (And.intro rfl (And.intro rfl (And.intro rfl (And.intro rfl (And.intro rfl (And.intro rfl (And.intro rfl True.intro))))))) ⟨_, _, _, _, _, rfl, rfl, by omega, rfl⟩ (by omega)
      · intro c49
        refine Exists.intro xm_215 (And.intro mi_215 (And.intro ⟨rfl, rfl, rfl, rfl⟩ (And.intro rfl ?_)))
        refine fcall _ h0 (fzs_sub (by decide +kernel) hW) hB0 (ct_Order_take_e8cff (fBz h0 hB0) (by omega)) ?_
        rintro IhB51 _ hB51 fhB51 rfl
        have t52 := fhB51 211 15 (by decide +kernel)
        exact rfl
abbrev jc_Order_goOn_341c6_24 : Nat → fL → List fV → fH → Prop := fun m lv st I => ∃ (y2 : Int) (y3 : Int) (y4 : Int) (y5 : Int) (y6 : Int), lv = [(0, .inr (.inr (some 735))), (1, .inr (.inr (some 211))), (2, .inl y2), (3, .inl y3), (4, .inl y4), (5, .inl y5), (6, .inl y6)] ∧ st = [] ∧ (((5 ≤ y2 ∧ y2 ≤ 5) ∧ ((-2147483648) ≤ y3 ∧ y3 ≤ 2147483647) ∧ (0 ≤ y4 ∧ y4 ≤ 45) ∧ ((-2147483648) ≤ y5 ∧ y5 ≤ 2147483647) ∧ (0 ≤ y6 ∧ y6 ≤ 7) ∧ (6 ≤ I 211 15 ∧ I 211 15 ≤ 7))) ∧ m = (1 + 1 * (7 - y6) : Int).toNat
set_option maxRecDepth 8000 in
theorem ct_Order_goOn_341c6 {I : fH} {x2 : Int} {x3 : Int} {x4 : Int} {x5 : Int} (h0 : fB bsJ I) (ha2 : (5 ≤ x2 ∧ x2 ≤ 5)) (ha3 : ((-2147483648) ≤ x3 ∧ x3 ≤ 2147483647)) (ha4 : (0 ≤ x4 ∧ x4 ≤ 45)) (ha5 : ((-2147483648) ≤ x5 ∧ x5 ≤ 2147483647)) : fC ρ base n F xTc vwCl xTys D dA la gJ (fbz bsJ znJ (fKc wz_7628e) I) xm_209 [.inr (.inr (some 735)), .inr (.inr (some 211)), .inl x2, .inl x3, .inl x4, .inl x5] I (fun _ r => r = none) := by
  have hW : fzs wz_7628e (fKc wz_7628e) := fKc_ok _
  refine f_meth (rb := rbJ) (J := [(24, jc_Order_goOn_341c6_24)]) 9 400 xG xin_209 x6_209 okJ (fB_self h0) ?_ ?_
  · refine List.forall_mem_cons.mpr ⟨?_, fun q h => absurd h List.not_mem_nil⟩
    · rintro m _ _ I1 hB1 ⟨y2, y3, y4, y5, y6, rfl, rfl, hb, hm⟩
      refine And.intro ⟨rfl, by decide, by decide⟩ (fgetf fb_211_15 h0 hB1 ?_)
      intro z1 lz1 uz1 qz1
      refine And.intro (by omega) (And.intro ?_ ?_)
      · intro c2
        exact rfl
      · intro c3
        refine And.intro ⟨rfl, by decide, by decide⟩ (fgetf fb_735_3 h0 hB1 ?_)
        intro z4 lz4 uz4 qz4
        refine And.intro (by omega) (And.intro ?_ ?_)
        · intro c5
          exact rfl
        · intro c6
          intro z7 hz7 ez7
          intro z8 hz8 ez8 bz8
          clear ez8
          have bz8 := bz8 (by omega)
          refine And.intro (by omega) (And.intro ?_ ?_)
          · intro c9
            exact fcutJ (I := I1) (j := jc_Order_goOn_341c6_24) (lv' := [(0, .inr (.inr (some 735))), (1, .inr (.inr (some 211))), (2, .inl _), (3, .inl _), (4, .inl _), (5, .inl _), (6, .inl _)]) (And.intro rfl (And.intro rfl (And.intro rfl (And.intro rfl (And.intro rfl (And.intro rfl (And.intro rfl True.intro))))))) ⟨_, _, _, _, _, rfl, rfl, by omega, rfl⟩ (by omega)
          · intro c10
            refine And.intro ⟨rfl, by decide, by decide⟩ ?_
            refine fload rL_256_256_0_6_1_0 h0 hB1 (by omega) ?_
            intro z11 lz11 uz11 qz11
            intro z12 hz12 ez12
            intro z13 hz13 ez13 bz13
            clear ez13
            clear bz13
            refine And.intro (by omega) (And.intro ?_ ?_)
            · intro c14
              exact fcutJ (I := I1) (j := jc_Order_goOn_341c6_24) (lv' := [(0, .inr (.inr (some 735))), (1, .inr (.inr (some 211))), (2, .inl _), (3, .inl _), (4, .inl _), (5, .inl _), (6, .inl _)]) (And.intro rfl (And.intro rfl (And.intro rfl (And.intro rfl (And.intro rfl (And.intro rfl (And.intro rfl True.intro))))))) ⟨_, _, _, _, _, rfl, rfl, by omega, rfl⟩ (by omega)
            · intro c15
              refine And.intro ⟨rfl, by decide, by decide⟩ (fgetf fb_735_3 h0 hB1 ?_)
              intro z16 lz16 uz16 qz16
              refine And.intro ⟨rfl, by decide, by decide⟩ (And.intro rfl (And.intro (Or.inl rfl) (fputf fb_735_3 (by decide +kernel) hW (by omega) ?_)))
              intro IhB17 ehB17 hB17
              have t18 : IhB17 211 15 = I1 211 15 := (congrFun (congrFun ehB17 211) 15).trans (fup_ne (by omega))
              have t19 := fup_at ehB17 3 (by omega)
              refine And.intro ⟨rfl, by decide, by decide⟩ ?_
              refine fstore rS_737_737_0_6_1_0 (fzs_sub (by decide +kernel) hW) (by omega) (by omega) ?_
              intro IhB20 ehB20 hB20
              have t21 := fup_self ehB20
              have t22 : IhB20 211 15 = IhB17 211 15 := (congrFun (congrFun ehB20 211) 15).trans (fup_ne (by omega))
              have t23 : IhB20 735 3 = IhB17 735 3 := (congrFun (congrFun ehB20 735) 3).trans (fup_ne (by omega))
              have t24 := fup_at ehB20 5 (by omega)
              refine And.intro ⟨rfl, by decide, by decide⟩ ?_
              refine fload rL_254_254_0_6_1_0 h0 hB20 (by omega) ?_
              intro z25 lz25 uz25 qz25
              intro z26 hz26 ez26 bz26
              clear ez26
              have bz26 := bz26 (by omega)
              refine And.intro ⟨rfl, by decide, by decide⟩ ?_
              refine fload rL_255_255_0_6_1_0 h0 hB20 (by omega) ?_
              intro z27 lz27 uz27 qz27
              refine And.intro ⟨rfl, by decide, by decide⟩ (fgetf fb_735_2 h0 hB20 ?_)
              intro z28 lz28 uz28 qz28
              intro z29 hz29 ez29 bz29
              clear ez29
              clear bz29
              refine And.intro (And.intro (by omega) (And.intro (by omega) rfl)) ?_
              intro z30 hz30
              intro z31 hz31 ez31 bz31
              clear ez31
              clear bz31
              refine And.intro ⟨rfl, by decide, by decide⟩ (fgetf fb_735_3 h0 hB20 ?_)
              intro z32 lz32 uz32 qz32
              refine And.intro (by omega) (And.intro ?_ ?_)
              · intro c33
                exact fcutJ (I := IhB20) (j := jc_Order_goOn_341c6_24) (lv' := [(0, .inr (.inr (some 735))), (1, .inr (.inr (some 211))), (2, .inl _), (3, .inl _), (4, .inl _), (5, .inl _), (6, .inl _)]) (And.intro rfl (And.intro rfl (And.intro rfl (And.intro rfl (And.intro rfl (And.intro rfl (And.intro rfl True.intro))))))) ⟨_, _, _, _, _, rfl, rfl, by omega, rfl⟩ (by omega)
              · intro c34
                intro z35 hz35 ez35
                intro z36 hz36 ez36
                intro z37 hz37 ez37 bz37
                clear ez37
                clear bz37
                refine Exists.intro xm_208 (And.intro mi_208 (And.intro ⟨rfl, rfl, rfl, rfl⟩ (And.intro rfl ?_)))
                refine fcall _ h0 (fzs_sub (by decide +kernel) hW) hB20 (ct_Order_goOn_0ff97 (fBz h0 hB20) (by omega) (by omega) (by omega) (by omega)) ?_
                rintro IhB39 _ hB39 fhB39 rfl
                have t40 := fhB39 211 15 (by decide +kernel)
                exact fcutJ (I := IhB39) (j := jc_Order_goOn_341c6_24) (lv' := [(0, .inr (.inr (some 735))), (1, .inr (.inr (some 211))), (2, .inl _), (3, .inl _), (4, .inl _), (5, .inl _), (6, .inl _)]) (And.intro rfl (And.intro rfl (And.intro rfl (And.intro rfl (And.intro rfl (And.intro rfl (And.intro rfl True.intro))))))) ⟨_, _, _, _, _, rfl, rfl, by omega, rfl⟩ (by omega)
  · have hB0 := fB_self (zn := znJ) (K := fKc wz_7628e) h0
    refine And.intro ⟨rfl, by decide, by decide⟩ (fgetf fb_211_15 h0 hB0 ?_)
    intro z41 lz41 uz41 qz41
    refine And.intro (by omega) (And.intro ?_ ?_)
    · intro c42
      refine Exists.intro xm_215 (And.intro mi_215 (And.intro ⟨rfl, rfl, rfl, rfl⟩ (And.intro rfl ?_)))
      refine fcall _ h0 (fzs_sub (by decide +kernel) hW) hB0 (ct_Order_take_e8cff (fBz h0 hB0) (by omega)) ?_
      rintro IhB44 _ hB44 fhB44 rfl
      have t45 := fhB44 211 15 (by decide +kernel)
      exact rfl
    · intro c46
      refine And.intro (by omega) (And.intro ?_ ?_)
      · intro c47
        exact fcutJ (I := I) (j := jc_Order_goOn_341c6_24) (lv' := [(0, .inr (.inr (some 735))), (1, .inr (.inr (some 211))), (2, .inl _), (3, .inl _), (4, .inl _), (5, .inl _), (6, .inl _)]) (And.intro rfl (And.intro rfl (And.intro rfl (And.intro rfl (And.intro rfl (And.intro rfl (And.intro rfl True.intro))))))) ⟨_, _, _, _, _, rfl, rfl, by omega, rfl⟩ (by omega)
      · intro c48
        refine Exists.intro xm_215 (And.intro mi_215 (And.intro ⟨rfl, rfl, rfl, rfl⟩ (And.intro rfl ?_)))
        refine fcall _ h0 (fzs_sub (by decide +kernel) hW) hB0 (ct_Order_take_e8cff (fBz h0 hB0) (by omega)) ?_
        rintro IhB50 _ hB50 fhB50 rfl
        have t51 := fhB50 211 15 (by decide +kernel)
        exact rfl
abbrev jc_Order_goOn_2e9e0_24 : Nat → fL → List fV → fH → Prop := fun m lv st I => ∃ (y2 : Int) (y3 : Int) (y4 : Int) (y5 : Int) (y6 : Int), lv = [(0, .inr (.inr (some 735))), (1, .inr (.inr (some 211))), (2, .inl y2), (3, .inl y3), (4, .inl y4), (5, .inl y5), (6, .inl y6)] ∧ st = [] ∧ (((4 ≤ y2 ∧ y2 ≤ 4) ∧ ((-2147483648) ≤ y3 ∧ y3 ≤ 2147483647) ∧ (0 ≤ y4 ∧ y4 ≤ 36) ∧ ((-2147483648) ≤ y5 ∧ y5 ≤ 2147483647) ∧ (0 ≤ y6 ∧ y6 ≤ 7) ∧ (5 ≤ I 211 15 ∧ I 211 15 ≤ 7))) ∧ m = (1 + 1 * (7 - y6) : Int).toNat
set_option maxRecDepth 8000 in
theorem ct_Order_goOn_2e9e0 {I : fH} {x2 : Int} {x3 : Int} {x4 : Int} {x5 : Int} (h0 : fB bsJ I) (ha2 : (4 ≤ x2 ∧ x2 ≤ 4)) (ha3 : ((-2147483648) ≤ x3 ∧ x3 ≤ 2147483647)) (ha4 : (0 ≤ x4 ∧ x4 ≤ 36)) (ha5 : ((-2147483648) ≤ x5 ∧ x5 ≤ 2147483647)) : fC ρ base n F xTc vwCl xTys D dA la gJ (fbz bsJ znJ (fKc wz_7628e) I) xm_210 [.inr (.inr (some 735)), .inr (.inr (some 211)), .inl x2, .inl x3, .inl x4, .inl x5] I (fun _ r => r = none) := by
  have hW : fzs wz_7628e (fKc wz_7628e) := fKc_ok _
  refine f_meth (rb := rbJ) (J := [(24, jc_Order_goOn_2e9e0_24)]) 9 400 xG xin_210 x6_210 okJ (fB_self h0) ?_ ?_
  · refine List.forall_mem_cons.mpr ⟨?_, fun q h => absurd h List.not_mem_nil⟩
    · rintro m _ _ I1 hB1 ⟨y2, y3, y4, y5, y6, rfl, rfl, hb, hm⟩
      refine And.intro ⟨rfl, by decide, by decide⟩ (fgetf fb_211_15 h0 hB1 ?_)
      intro z1 lz1 uz1 qz1
      refine And.intro (by omega) (And.intro ?_ ?_)
      · intro c2
        exact rfl
      · intro c3
        refine And.intro ⟨rfl, by decide, by decide⟩ (fgetf fb_735_3 h0 hB1 ?_)
        intro z4 lz4 uz4 qz4
        refine And.intro (by omega) (And.intro ?_ ?_)
        · intro c5
          exact rfl
        · intro c6
          intro z7 hz7 ez7
          intro z8 hz8 ez8 bz8
          clear ez8
          have bz8 := bz8 (by omega)
          refine And.intro (by omega) (And.intro ?_ ?_)
          · intro c9
            exact fcutJ (I := I1) (j := jc_Order_goOn_2e9e0_24) (lv' := [(0, .inr (.inr (some 735))), (1, .inr (.inr (some 211))), (2, .inl _), (3, .inl _), (4, .inl _), (5, .inl _), (6, .inl _)]) (And.intro rfl (And.intro rfl (And.intro rfl (And.intro rfl (And.intro rfl (And.intro rfl (And.intro rfl True.intro))))))) ⟨_, _, _, _, _, rfl, rfl, by omega, rfl⟩ (by omega)
          · intro c10
            refine And.intro ⟨rfl, by decide, by decide⟩ ?_
            refine fload rL_256_256_0_6_1_0 h0 hB1 (by omega) ?_
            intro z11 lz11 uz11 qz11
            intro z12 hz12 ez12
            intro z13 hz13 ez13 bz13
            clear ez13
            clear bz13
            refine And.intro (by omega) (And.intro ?_ ?_)
            · intro c14
              exact fcutJ (I := I1) (j := jc_Order_goOn_2e9e0_24) (lv' := [(0, .inr (.inr (some 735))), (1, .inr (.inr (some 211))), (2, .inl _), (3, .inl _), (4, .inl _), (5, .inl _), (6, .inl _)]) (And.intro rfl (And.intro rfl (And.intro rfl (And.intro rfl (And.intro rfl (And.intro rfl (And.intro rfl True.intro))))))) ⟨_, _, _, _, _, rfl, rfl, by omega, rfl⟩ (by omega)
            · intro c15
              refine And.intro ⟨rfl, by decide, by decide⟩ (fgetf fb_735_3 h0 hB1 ?_)
              intro z16 lz16 uz16 qz16
              refine And.intro ⟨rfl, by decide, by decide⟩ (And.intro rfl (And.intro (Or.inl rfl) (fputf fb_735_3 (by decide +kernel) hW (by omega) ?_)))
              intro IhB17 ehB17 hB17
              have t18 : IhB17 211 15 = I1 211 15 := (congrFun (congrFun ehB17 211) 15).trans (fup_ne (by omega))
              have t19 := fup_at ehB17 3 (by omega)
              refine And.intro ⟨rfl, by decide, by decide⟩ ?_
              refine fstore rS_737_737_0_6_1_0 (fzs_sub (by decide +kernel) hW) (by omega) (by omega) ?_
              intro IhB20 ehB20 hB20
              have t21 := fup_self ehB20
              have t22 : IhB20 211 15 = IhB17 211 15 := (congrFun (congrFun ehB20 211) 15).trans (fup_ne (by omega))
              have t23 : IhB20 735 3 = IhB17 735 3 := (congrFun (congrFun ehB20 735) 3).trans (fup_ne (by omega))
              have t24 := fup_at ehB20 4 (by omega)
              refine And.intro ⟨rfl, by decide, by decide⟩ ?_
              refine fload rL_254_254_0_6_1_0 h0 hB20 (by omega) ?_
              intro z25 lz25 uz25 qz25
              intro z26 hz26 ez26 bz26
              clear ez26
              have bz26 := bz26 (by omega)
              refine And.intro ⟨rfl, by decide, by decide⟩ ?_
              refine fload rL_255_255_0_6_1_0 h0 hB20 (by omega) ?_
              intro z27 lz27 uz27 qz27
              refine And.intro ⟨rfl, by decide, by decide⟩ (fgetf fb_735_2 h0 hB20 ?_)
              intro z28 lz28 uz28 qz28
              intro z29 hz29 ez29 bz29
              clear ez29
              clear bz29
              refine And.intro (And.intro (by omega) (And.intro (by omega) rfl)) ?_
              intro z30 hz30
              intro z31 hz31 ez31 bz31
              clear ez31
              clear bz31
              refine And.intro ⟨rfl, by decide, by decide⟩ (fgetf fb_735_3 h0 hB20 ?_)
              intro z32 lz32 uz32 qz32
              refine And.intro (by omega) (And.intro ?_ ?_)
              · intro c33
                exact fcutJ (I := IhB20) (j := jc_Order_goOn_2e9e0_24) (lv' := [(0, .inr (.inr (some 735))), (1, .inr (.inr (some 211))), (2, .inl _), (3, .inl _), (4, .inl _), (5, .inl _), (6, .inl _)]) (And.intro rfl (And.intro rfl (And.intro rfl (And.intro rfl (And.intro rfl (And.intro rfl (And.intro rfl True.intro))))))) ⟨_, _, _, _, _, rfl, rfl, by omega, rfl⟩ (by omega)
              · intro c34
                intro z35 hz35 ez35
                intro z36 hz36 ez36
                intro z37 hz37 ez37 bz37
                clear ez37
                clear bz37
                refine Exists.intro xm_209 (And.intro mi_209 (And.intro ⟨rfl, rfl, rfl, rfl⟩ (And.intro rfl ?_)))
                refine fcall _ h0 (fzs_sub (by decide +kernel) hW) hB20 (ct_Order_goOn_341c6 (fBz h0 hB20) (by omega) (by omega) (by omega) (by omega)) ?_
                rintro IhB39 _ hB39 fhB39 rfl
                have t40 := fhB39 211 15 (by decide +kernel)
                exact fcutJ (I := IhB39) (j := jc_Order_goOn_2e9e0_24) (lv' := [(0, .inr (.inr (some 735))), (1, .inr (.inr (some 211))), (2, .inl _), (3, .inl _), (4, .inl _), (5, .inl _), (6, .inl _)]) (And.intro rfl (And.intro rfl (And.intro rfl (And.intro rfl (And.intro rfl (And.intro rfl (And.intro rfl True.intro))))))) ⟨_, _, _, _, _, rfl, rfl, by omega, rfl⟩ (by omega)
  · have hB0 := fB_self (zn := znJ) (K := fKc wz_7628e) h0
    refine And.intro ⟨rfl, by decide, by decide⟩ (fgetf fb_211_15 h0 hB0 ?_)
    intro z41 lz41 uz41 qz41
    refine And.intro (by omega) (And.intro ?_ ?_)
    · intro c42
      refine Exists.intro xm_215 (And.intro mi_215 (And.intro ⟨rfl, rfl, rfl, rfl⟩ (And.intro rfl ?_)))
      refine fcall _ h0 (fzs_sub (by decide +kernel) hW) hB0 (ct_Order_take_e8cff (fBz h0 hB0) (by omega)) ?_
      rintro IhB44 _ hB44 fhB44 rfl
      have t45 := fhB44 211 15 (by decide +kernel)
      exact rfl
    · intro c46
      refine And.intro (by omega) (And.intro ?_ ?_)
      · intro c47
        exact fcutJ (I := I) (j := jc_Order_goOn_2e9e0_24) (lv' := [(0, .inr (.inr (some 735))), (1, .inr (.inr (some 211))), (2, .inl _), (3, .inl _), (4, .inl _), (5, .inl _), (6, .inl _)]) (And.intro rfl (And.intro rfl (And.intro rfl (And.intro rfl (And.intro rfl (And.intro rfl (And.intro rfl True.intro))))))) ⟨_, _, _, _, _, rfl, rfl, by omega, rfl⟩ (by omega)
      · intro c48
        refine Exists.intro xm_215 (And.intro mi_215 (And.intro ⟨rfl, rfl, rfl, rfl⟩ (And.intro rfl ?_)))
        refine fcall _ h0 (fzs_sub (by decide +kernel) hW) hB0 (ct_Order_take_e8cff (fBz h0 hB0) (by omega)) ?_
        rintro IhB50 _ hB50 fhB50 rfl
        have t51 := fhB50 211 15 (by decide +kernel)
        exact rfl
abbrev jc_Order_goOn_6df0d_24 : Nat → fL → List fV → fH → Prop := fun m lv st I => ∃ (y2 : Int) (y3 : Int) (y4 : Int) (y5 : Int) (y6 : Int), lv = [(0, .inr (.inr (some 735))), (1, .inr (.inr (some 211))), (2, .inl y2), (3, .inl y3), (4, .inl y4), (5, .inl y5), (6, .inl y6)] ∧ st = [] ∧ (((3 ≤ y2 ∧ y2 ≤ 3) ∧ ((-2147483648) ≤ y3 ∧ y3 ≤ 2147483647) ∧ (0 ≤ y4 ∧ y4 ≤ 27) ∧ ((-2147483648) ≤ y5 ∧ y5 ≤ 2147483647) ∧ (0 ≤ y6 ∧ y6 ≤ 7) ∧ (4 ≤ I 211 15 ∧ I 211 15 ≤ 7))) ∧ m = (1 + 1 * (7 - y6) : Int).toNat
set_option maxRecDepth 8000 in
theorem ct_Order_goOn_6df0d {I : fH} {x2 : Int} {x3 : Int} {x4 : Int} {x5 : Int} (h0 : fB bsJ I) (ha2 : (3 ≤ x2 ∧ x2 ≤ 3)) (ha3 : ((-2147483648) ≤ x3 ∧ x3 ≤ 2147483647)) (ha4 : (0 ≤ x4 ∧ x4 ≤ 27)) (ha5 : ((-2147483648) ≤ x5 ∧ x5 ≤ 2147483647)) : fC ρ base n F xTc vwCl xTys D dA la gJ (fbz bsJ znJ (fKc wz_7628e) I) xm_211 [.inr (.inr (some 735)), .inr (.inr (some 211)), .inl x2, .inl x3, .inl x4, .inl x5] I (fun _ r => r = none) := by
  have hW : fzs wz_7628e (fKc wz_7628e) := fKc_ok _
  refine f_meth (rb := rbJ) (J := [(24, jc_Order_goOn_6df0d_24)]) 9 400 xG xin_211 x6_211 okJ (fB_self h0) ?_ ?_
  · refine List.forall_mem_cons.mpr ⟨?_, fun q h => absurd h List.not_mem_nil⟩
    · rintro m _ _ I1 hB1 ⟨y2, y3, y4, y5, y6, rfl, rfl, hb, hm⟩
      refine And.intro ⟨rfl, by decide, by decide⟩ (fgetf fb_211_15 h0 hB1 ?_)
      intro z1 lz1 uz1 qz1
      refine And.intro (by omega) (And.intro ?_ ?_)
      · intro c2
        exact rfl
      · intro c3
        refine And.intro ⟨rfl, by decide, by decide⟩ (fgetf fb_735_3 h0 hB1 ?_)
        intro z4 lz4 uz4 qz4
        refine And.intro (by omega) (And.intro ?_ ?_)
        · intro c5
          exact rfl
        · intro c6
          intro z7 hz7 ez7
          intro z8 hz8 ez8 bz8
          clear ez8
          have bz8 := bz8 (by omega)
          refine And.intro (by omega) (And.intro ?_ ?_)
          · intro c9
            exact fcutJ (I := I1) (j := jc_Order_goOn_6df0d_24) (lv' := [(0, .inr (.inr (some 735))), (1, .inr (.inr (some 211))), (2, .inl _), (3, .inl _), (4, .inl _), (5, .inl _), (6, .inl _)]) (And.intro rfl (And.intro rfl (And.intro rfl (And.intro rfl (And.intro rfl (And.intro rfl (And.intro rfl True.intro))))))) ⟨_, _, _, _, _, rfl, rfl, by omega, rfl⟩ (by omega)
          · intro c10
            refine And.intro ⟨rfl, by decide, by decide⟩ ?_
            refine fload rL_256_256_0_6_1_0 h0 hB1 (by omega) ?_
            intro z11 lz11 uz11 qz11
            intro z12 hz12 ez12
            intro z13 hz13 ez13 bz13
            clear ez13
            clear bz13
            refine And.intro (by omega) (And.intro ?_ ?_)
            · intro c14
              exact fcutJ (I := I1) (j := jc_Order_goOn_6df0d_24) (lv' := [(0, .inr (.inr (some 735))), (1, .inr (.inr (some 211))), (2, .inl _), (3, .inl _), (4, .inl _), (5, .inl _), (6, .inl _)]) (And.intro rfl (And.intro rfl (And.intro rfl (And.intro rfl (And.intro rfl (And.intro rfl (And.intro rfl True.intro))))))) ⟨_, _, _, _, _, rfl, rfl, by omega, rfl⟩ (by omega)
            · intro c15
              refine And.intro ⟨rfl, by decide, by decide⟩ (fgetf fb_735_3 h0 hB1 ?_)
              intro z16 lz16 uz16 qz16
              refine And.intro ⟨rfl, by decide, by decide⟩ (And.intro rfl (And.intro (Or.inl rfl) (fputf fb_735_3 (by decide +kernel) hW (by omega) ?_)))
              intro IhB17 ehB17 hB17
              have t18 : IhB17 211 15 = I1 211 15 := (congrFun (congrFun ehB17 211) 15).trans (fup_ne (by omega))
              have t19 := fup_at ehB17 3 (by omega)
              refine And.intro ⟨rfl, by decide, by decide⟩ ?_
              refine fstore rS_737_737_0_6_1_0 (fzs_sub (by decide +kernel) hW) (by omega) (by omega) ?_
              intro IhB20 ehB20 hB20
              have t21 := fup_self ehB20
              have t22 : IhB20 211 15 = IhB17 211 15 := (congrFun (congrFun ehB20 211) 15).trans (fup_ne (by omega))
              have t23 : IhB20 735 3 = IhB17 735 3 := (congrFun (congrFun ehB20 735) 3).trans (fup_ne (by omega))
              have t24 := fup_at ehB20 3 (by omega)
              refine And.intro ⟨rfl, by decide, by decide⟩ ?_
              refine fload rL_254_254_0_6_1_0 h0 hB20 (by omega) ?_
              intro z25 lz25 uz25 qz25
              intro z26 hz26 ez26 bz26
              clear ez26
              have bz26 := bz26 (by omega)
              refine And.intro ⟨rfl, by decide, by decide⟩ ?_
              refine fload rL_255_255_0_6_1_0 h0 hB20 (by omega) ?_
              intro z27 lz27 uz27 qz27
              refine And.intro ⟨rfl, by decide, by decide⟩ (fgetf fb_735_2 h0 hB20 ?_)
              intro z28 lz28 uz28 qz28
              intro z29 hz29 ez29 bz29
              clear ez29
              clear bz29
              refine And.intro (And.intro (by omega) (And.intro (by omega) rfl)) ?_
              intro z30 hz30
              intro z31 hz31 ez31 bz31
              clear ez31
              clear bz31
              refine And.intro ⟨rfl, by decide, by decide⟩ (fgetf fb_735_3 h0 hB20 ?_)
              intro z32 lz32 uz32 qz32
              refine And.intro (by omega) (And.intro ?_ ?_)
              · intro c33
                exact fcutJ (I := IhB20) (j := jc_Order_goOn_6df0d_24) (lv' := [(0, .inr (.inr (some 735))), (1, .inr (.inr (some 211))), (2, .inl _), (3, .inl _), (4, .inl _), (5, .inl _), (6, .inl _)]) (And.intro rfl (And.intro rfl (And.intro rfl (And.intro rfl (And.intro rfl (And.intro rfl (And.intro rfl True.intro))))))) ⟨_, _, _, _, _, rfl, rfl, by omega, rfl⟩ (by omega)
              · intro c34
                intro z35 hz35 ez35
                intro z36 hz36 ez36
                intro z37 hz37 ez37 bz37
                clear ez37
                clear bz37
                refine Exists.intro xm_210 (And.intro mi_210 (And.intro ⟨rfl, rfl, rfl, rfl⟩ (And.intro rfl ?_)))
                refine fcall _ h0 (fzs_sub (by decide +kernel) hW) hB20 (ct_Order_goOn_2e9e0 (fBz h0 hB20) (by omega) (by omega) (by omega) (by omega)) ?_
                rintro IhB39 _ hB39 fhB39 rfl
                have t40 := fhB39 211 15 (by decide +kernel)
                exact fcutJ (I := IhB39) (j := jc_Order_goOn_6df0d_24) (lv' := [(0, .inr (.inr (some 735))), (1, .inr (.inr (some 211))), (2, .inl _), (3, .inl _), (4, .inl _), (5, .inl _), (6, .inl _)]) (And.intro rfl (And.intro rfl (And.intro rfl (And.intro rfl (And.intro rfl (And.intro rfl (And.intro rfl True.intro))))))) ⟨_, _, _, _, _, rfl, rfl, by omega, rfl⟩ (by omega)
  · have hB0 := fB_self (zn := znJ) (K := fKc wz_7628e) h0
    refine And.intro ⟨rfl, by decide, by decide⟩ (fgetf fb_211_15 h0 hB0 ?_)
    intro z41 lz41 uz41 qz41
    refine And.intro (by omega) (And.intro ?_ ?_)
    · intro c42
      refine Exists.intro xm_215 (And.intro mi_215 (And.intro ⟨rfl, rfl, rfl, rfl⟩ (And.intro rfl ?_)))
      refine fcall _ h0 (fzs_sub (by decide +kernel) hW) hB0 (ct_Order_take_e8cff (fBz h0 hB0) (by omega)) ?_
      rintro IhB44 _ hB44 fhB44 rfl
      have t45 := fhB44 211 15 (by decide +kernel)
      exact rfl
    · intro c46
      refine And.intro (by omega) (And.intro ?_ ?_)
      · intro c47
        exact fcutJ (I := I) (j := jc_Order_goOn_6df0d_24) (lv' := [(0, .inr (.inr (some 735))), (1, .inr (.inr (some 211))), (2, .inl _), (3, .inl _), (4, .inl _), (5, .inl _), (6, .inl _)]) (And.intro rfl (And.intro rfl (And.intro rfl (And.intro rfl (And.intro rfl (And.intro rfl (And.intro rfl True.intro))))))) ⟨_, _, _, _, _, rfl, rfl, by omega, rfl⟩ (by omega)
      · intro c48
        refine Exists.intro xm_215 (And.intro mi_215 (And.intro ⟨rfl, rfl, rfl, rfl⟩ (And.intro rfl ?_)))
        refine fcall _ h0 (fzs_sub (by decide +kernel) hW) hB0 (ct_Order_take_e8cff (fBz h0 hB0) (by omega)) ?_
        rintro IhB50 _ hB50 fhB50 rfl
        have t51 := fhB50 211 15 (by decide +kernel)
        exact rfl
abbrev jc_Order_goOn_0f9c9_24 : Nat → fL → List fV → fH → Prop := fun m lv st I => ∃ (y2 : Int) (y3 : Int) (y4 : Int) (y5 : Int) (y6 : Int), lv = [(0, .inr (.inr (some 735))), (1, .inr (.inr (some 211))), (2, .inl y2), (3, .inl y3), (4, .inl y4), (5, .inl y5), (6, .inl y6)] ∧ st = [] ∧ (((2 ≤ y2 ∧ y2 ≤ 2) ∧ ((-2147483648) ≤ y3 ∧ y3 ≤ 2147483647) ∧ (0 ≤ y4 ∧ y4 ≤ 18) ∧ ((-2147483648) ≤ y5 ∧ y5 ≤ 2147483647) ∧ (0 ≤ y6 ∧ y6 ≤ 7) ∧ (3 ≤ I 211 15 ∧ I 211 15 ≤ 7))) ∧ m = (1 + 1 * (7 - y6) : Int).toNat
set_option maxRecDepth 8000 in
theorem ct_Order_goOn_0f9c9 {I : fH} {x2 : Int} {x3 : Int} {x4 : Int} {x5 : Int} (h0 : fB bsJ I) (ha2 : (2 ≤ x2 ∧ x2 ≤ 2)) (ha3 : ((-2147483648) ≤ x3 ∧ x3 ≤ 2147483647)) (ha4 : (0 ≤ x4 ∧ x4 ≤ 18)) (ha5 : ((-2147483648) ≤ x5 ∧ x5 ≤ 2147483647)) : fC ρ base n F xTc vwCl xTys D dA la gJ (fbz bsJ znJ (fKc wz_7628e) I) xm_212 [.inr (.inr (some 735)), .inr (.inr (some 211)), .inl x2, .inl x3, .inl x4, .inl x5] I (fun _ r => r = none) := by
  have hW : fzs wz_7628e (fKc wz_7628e) := fKc_ok _
  refine f_meth (rb := rbJ) (J := [(24, jc_Order_goOn_0f9c9_24)]) 9 400 xG xin_212 x6_212 okJ (fB_self h0) ?_ ?_
  · refine List.forall_mem_cons.mpr ⟨?_, fun q h => absurd h List.not_mem_nil⟩
    · rintro m _ _ I1 hB1 ⟨y2, y3, y4, y5, y6, rfl, rfl, hb, hm⟩
      refine And.intro ⟨rfl, by decide, by decide⟩ (fgetf fb_211_15 h0 hB1 ?_)
      intro z1 lz1 uz1 qz1
      refine And.intro (by omega) (And.intro ?_ ?_)
      · intro c2
        exact rfl
      · intro c3
        refine And.intro ⟨rfl, by decide, by decide⟩ (fgetf fb_735_3 h0 hB1 ?_)
        intro z4 lz4 uz4 qz4
        refine And.intro (by omega) (And.intro ?_ ?_)
        · intro c5
          exact rfl
        · intro c6
          intro z7 hz7 ez7
          intro z8 hz8 ez8 bz8
          clear ez8
          have bz8 := bz8 (by omega)
          refine And.intro (by omega) (And.intro ?_ ?_)
          · intro c9
            exact fcutJ (I := I1) (j := jc_Order_goOn_0f9c9_24) (lv' := [(0, .inr (.inr (some 735))), (1, .inr (.inr (some 211))), (2, .inl _), (3, .inl _), (4, .inl _), (5, .inl _), (6, .inl _)]) (And.intro rfl (And.intro rfl (And.intro rfl (And.intro rfl (And.intro rfl (And.intro rfl (And.intro rfl True.intro))))))) ⟨_, _, _, _, _, rfl, rfl, by omega, rfl⟩ (by omega)
          · intro c10
            refine And.intro ⟨rfl, by decide, by decide⟩ ?_
            refine fload rL_256_256_0_6_1_0 h0 hB1 (by omega) ?_
            intro z11 lz11 uz11 qz11
            intro z12 hz12 ez12
            intro z13 hz13 ez13 bz13
            clear ez13
            clear bz13
            refine And.intro (by omega) (And.intro ?_ ?_)
            · intro c14
              exact fcutJ (I := I1) (j := jc_Order_goOn_0f9c9_24) (lv' := [(0, .inr (.inr (some 735))), (1, .inr (.inr (some 211))), (2, .inl _), (3, .inl _), (4, .inl _), (5, .inl _), (6, .inl _)]) (And.intro rfl (And.intro rfl (And.intro rfl (And.intro rfl (And.intro rfl (And.intro rfl (And.intro rfl True.intro))))))) ⟨_, _, _, _, _, rfl, rfl, by omega, rfl⟩ (by omega)
            · intro c15
              refine And.intro ⟨rfl, by decide, by decide⟩ (fgetf fb_735_3 h0 hB1 ?_)
              intro z16 lz16 uz16 qz16
              refine And.intro ⟨rfl, by decide, by decide⟩ (And.intro rfl (And.intro (Or.inl rfl) (fputf fb_735_3 (by decide +kernel) hW (by omega) ?_)))
              intro IhB17 ehB17 hB17
              have t18 : IhB17 211 15 = I1 211 15 := (congrFun (congrFun ehB17 211) 15).trans (fup_ne (by omega))
              have t19 := fup_at ehB17 3 (by omega)
              refine And.intro ⟨rfl, by decide, by decide⟩ ?_
              refine fstore rS_737_737_0_6_1_0 (fzs_sub (by decide +kernel) hW) (by omega) (by omega) ?_
              intro IhB20 ehB20 hB20
              have t21 := fup_self ehB20
              have t22 : IhB20 211 15 = IhB17 211 15 := (congrFun (congrFun ehB20 211) 15).trans (fup_ne (by omega))
              have t23 : IhB20 735 3 = IhB17 735 3 := (congrFun (congrFun ehB20 735) 3).trans (fup_ne (by omega))
              have t24 := fup_at ehB20 2 (by omega)
              refine And.intro ⟨rfl, by decide, by decide⟩ ?_
              refine fload rL_254_254_0_6_1_0 h0 hB20 (by omega) ?_
              intro z25 lz25 uz25 qz25
              intro z26 hz26 ez26 bz26
              clear ez26
              have bz26 := bz26 (by omega)
              refine And.intro ⟨rfl, by decide, by decide⟩ ?_
              refine fload rL_255_255_0_6_1_0 h0 hB20 (by omega) ?_
              intro z27 lz27 uz27 qz27
              refine And.intro ⟨rfl, by decide, by decide⟩ (fgetf fb_735_2 h0 hB20 ?_)
              intro z28 lz28 uz28 qz28
              intro z29 hz29 ez29 bz29
              clear ez29
              clear bz29
              refine And.intro (And.intro (by omega) (And.intro (by omega) rfl)) ?_
              intro z30 hz30
              intro z31 hz31 ez31 bz31
              clear ez31
              clear bz31
              refine And.intro ⟨rfl, by decide, by decide⟩ (fgetf fb_735_3 h0 hB20 ?_)
              intro z32 lz32 uz32 qz32
              refine And.intro (by omega) (And.intro ?_ ?_)
              · intro c33
                exact fcutJ (I := IhB20) (j := jc_Order_goOn_0f9c9_24) (lv' := [(0, .inr (.inr (some 735))), (1, .inr (.inr (some 211))), (2, .inl _), (3, .inl _), (4, .inl _), (5, .inl _), (6, .inl _)]) (And.intro rfl (And.intro rfl (And.intro rfl (And.intro rfl (And.intro rfl (And.intro rfl (And.intro rfl True.intro))))))) ⟨_, _, _, _, _, rfl, rfl, by omega, rfl⟩ (by omega)
              · intro c34
                intro z35 hz35 ez35
                intro z36 hz36 ez36
                intro z37 hz37 ez37 bz37
                clear ez37
                clear bz37
                refine Exists.intro xm_211 (And.intro mi_211 (And.intro ⟨rfl, rfl, rfl, rfl⟩ (And.intro rfl ?_)))
                refine fcall _ h0 (fzs_sub (by decide +kernel) hW) hB20 (ct_Order_goOn_6df0d (fBz h0 hB20) (by omega) (by omega) (by omega) (by omega)) ?_
                rintro IhB39 _ hB39 fhB39 rfl
                have t40 := fhB39 211 15 (by decide +kernel)
                exact fcutJ (I := IhB39) (j := jc_Order_goOn_0f9c9_24) (lv' := [(0, .inr (.inr (some 735))), (1, .inr (.inr (some 211))), (2, .inl _), (3, .inl _), (4, .inl _), (5, .inl _), (6, .inl _)]) (And.intro rfl (And.intro rfl (And.intro rfl (And.intro rfl (And.intro rfl (And.intro rfl (And.intro rfl True.intro))))))) ⟨_, _, _, _, _, rfl, rfl, by omega, rfl⟩ (by omega)
  · have hB0 := fB_self (zn := znJ) (K := fKc wz_7628e) h0
    refine And.intro ⟨rfl, by decide, by decide⟩ (fgetf fb_211_15 h0 hB0 ?_)
    intro z41 lz41 uz41 qz41
    refine And.intro (by omega) (And.intro ?_ ?_)
    · intro c42
      refine Exists.intro xm_215 (And.intro mi_215 (And.intro ⟨rfl, rfl, rfl, rfl⟩ (And.intro rfl ?_)))
      refine fcall _ h0 (fzs_sub (by decide +kernel) hW) hB0 (ct_Order_take_e8cff (fBz h0 hB0) (by omega)) ?_
      rintro IhB44 _ hB44 fhB44 rfl
      have t45 := fhB44 211 15 (by decide +kernel)
      exact rfl
    · intro c46
      refine And.intro (by omega) (And.intro ?_ ?_)
      · intro c47
        exact fcutJ (I := I) (j := jc_Order_goOn_0f9c9_24) (lv' := [(0, .inr (.inr (some 735))), (1, .inr (.inr (some 211))), (2, .inl _), (3, .inl _), (4, .inl _), (5, .inl _), (6, .inl _)]) (And.intro rfl (And.intro rfl (And.intro rfl (And.intro rfl (And.intro rfl (And.intro rfl (And.intro rfl True.intro))))))) ⟨_, _, _, _, _, rfl, rfl, by omega, rfl⟩ (by omega)
      · intro c48
        refine Exists.intro xm_215 (And.intro mi_215 (And.intro ⟨rfl, rfl, rfl, rfl⟩ (And.intro rfl ?_)))
        refine fcall _ h0 (fzs_sub (by decide +kernel) hW) hB0 (ct_Order_take_e8cff (fBz h0 hB0) (by omega)) ?_
        rintro IhB50 _ hB50 fhB50 rfl
        have t51 := fhB50 211 15 (by decide +kernel)
        exact rfl
abbrev jc_Order_goOn_e7135_24 : Nat → fL → List fV → fH → Prop := fun m lv st I => ∃ (y2 : Int) (y3 : Int) (y4 : Int) (y5 : Int) (y6 : Int), lv = [(0, .inr (.inr (some 735))), (1, .inr (.inr (some 211))), (2, .inl y2), (3, .inl y3), (4, .inl y4), (5, .inl y5), (6, .inl y6)] ∧ st = [] ∧ (((1 ≤ y2 ∧ y2 ≤ 1) ∧ ((-2147483648) ≤ y3 ∧ y3 ≤ 2147483647) ∧ (0 ≤ y4 ∧ y4 ≤ 9) ∧ ((-2147483648) ≤ y5 ∧ y5 ≤ 2147483647) ∧ (0 ≤ y6 ∧ y6 ≤ 7) ∧ (2 ≤ I 211 15 ∧ I 211 15 ≤ 7))) ∧ m = (1 + 1 * (7 - y6) : Int).toNat
set_option maxRecDepth 8000 in
theorem ct_Order_goOn_e7135 {I : fH} {x2 : Int} {x3 : Int} {x4 : Int} {x5 : Int} (h0 : fB bsJ I) (ha2 : (1 ≤ x2 ∧ x2 ≤ 1)) (ha3 : ((-2147483648) ≤ x3 ∧ x3 ≤ 2147483647)) (ha4 : (0 ≤ x4 ∧ x4 ≤ 9)) (ha5 : ((-2147483648) ≤ x5 ∧ x5 ≤ 2147483647)) : fC ρ base n F xTc vwCl xTys D dA la gJ (fbz bsJ znJ (fKc wz_7628e) I) xm_213 [.inr (.inr (some 735)), .inr (.inr (some 211)), .inl x2, .inl x3, .inl x4, .inl x5] I (fun _ r => r = none) := by
  have hW : fzs wz_7628e (fKc wz_7628e) := fKc_ok _
  refine f_meth (rb := rbJ) (J := [(24, jc_Order_goOn_e7135_24)]) 9 400 xG xin_213 x6_213 okJ (fB_self h0) ?_ ?_
  · refine List.forall_mem_cons.mpr ⟨?_, fun q h => absurd h List.not_mem_nil⟩
    · rintro m _ _ I1 hB1 ⟨y2, y3, y4, y5, y6, rfl, rfl, hb, hm⟩
      refine And.intro ⟨rfl, by decide, by decide⟩ (fgetf fb_211_15 h0 hB1 ?_)
      intro z1 lz1 uz1 qz1
      refine And.intro (by omega) (And.intro ?_ ?_)
      · intro c2
        exact rfl
      · intro c3
        refine And.intro ⟨rfl, by decide, by decide⟩ (fgetf fb_735_3 h0 hB1 ?_)
        intro z4 lz4 uz4 qz4
        refine And.intro (by omega) (And.intro ?_ ?_)
        · intro c5
          exact rfl
        · intro c6
          intro z7 hz7 ez7
          intro z8 hz8 ez8 bz8
          clear ez8
          have bz8 := bz8 (by omega)
          refine And.intro (by omega) (And.intro ?_ ?_)
          · intro c9
            exact fcutJ (I := I1) (j := jc_Order_goOn_e7135_24) (lv' := [(0, .inr (.inr (some 735))), (1, .inr (.inr (some 211))), (2, .inl _), (3, .inl _), (4, .inl _), (5, .inl _), (6, .inl _)]) (And.intro rfl (And.intro rfl (And.intro rfl (And.intro rfl (And.intro rfl (And.intro rfl (And.intro rfl True.intro))))))) ⟨_, _, _, _, _, rfl, rfl, by omega, rfl⟩ (by omega)
          · intro c10
            refine And.intro ⟨rfl, by decide, by decide⟩ ?_
            refine fload rL_256_256_0_6_1_0 h0 hB1 (by omega) ?_
            intro z11 lz11 uz11 qz11
            intro z12 hz12 ez12
            intro z13 hz13 ez13 bz13
            clear ez13
            clear bz13
            refine And.intro (by omega) (And.intro ?_ ?_)
            · intro c14
              exact fcutJ (I := I1) (j := jc_Order_goOn_e7135_24) (lv' := [(0, .inr (.inr (some 735))), (1, .inr (.inr (some 211))), (2, .inl _), (3, .inl _), (4, .inl _), (5, .inl _), (6, .inl _)]) (And.intro rfl (And.intro rfl (And.intro rfl (And.intro rfl (And.intro rfl (And.intro rfl (And.intro rfl True.intro))))))) ⟨_, _, _, _, _, rfl, rfl, by omega, rfl⟩ (by omega)
            · intro c15
              refine And.intro ⟨rfl, by decide, by decide⟩ (fgetf fb_735_3 h0 hB1 ?_)
              intro z16 lz16 uz16 qz16
              refine And.intro ⟨rfl, by decide, by decide⟩ (And.intro rfl (And.intro (Or.inl rfl) (fputf fb_735_3 (by decide +kernel) hW (by omega) ?_)))
              intro IhB17 ehB17 hB17
              have t18 : IhB17 211 15 = I1 211 15 := (congrFun (congrFun ehB17 211) 15).trans (fup_ne (by omega))
              have t19 := fup_at ehB17 3 (by omega)
              refine And.intro ⟨rfl, by decide, by decide⟩ ?_
              refine fstore rS_737_737_0_6_1_0 (fzs_sub (by decide +kernel) hW) (by omega) (by omega) ?_
              intro IhB20 ehB20 hB20
              have t21 := fup_self ehB20
              have t22 : IhB20 211 15 = IhB17 211 15 := (congrFun (congrFun ehB20 211) 15).trans (fup_ne (by omega))
              have t23 : IhB20 735 3 = IhB17 735 3 := (congrFun (congrFun ehB20 735) 3).trans (fup_ne (by omega))
              have t24 := fup_at ehB20 1 (by omega)
              refine And.intro ⟨rfl, by decide, by decide⟩ ?_
              refine fload rL_254_254_0_6_1_0 h0 hB20 (by omega) ?_
              intro z25 lz25 uz25 qz25
              intro z26 hz26 ez26 bz26
              clear ez26
              have bz26 := bz26 (by omega)
              refine And.intro ⟨rfl, by decide, by decide⟩ ?_
              refine fload rL_255_255_0_6_1_0 h0 hB20 (by omega) ?_
              intro z27 lz27 uz27 qz27
              refine And.intro ⟨rfl, by decide, by decide⟩ (fgetf fb_735_2 h0 hB20 ?_)
              intro z28 lz28 uz28 qz28
              intro z29 hz29 ez29 bz29
              clear ez29
              clear bz29
              refine And.intro (And.intro (by omega) (And.intro (by omega) rfl)) ?_
              intro z30 hz30
              intro z31 hz31 ez31 bz31
              clear ez31
              clear bz31
              refine And.intro ⟨rfl, by decide, by decide⟩ (fgetf fb_735_3 h0 hB20 ?_)
              intro z32 lz32 uz32 qz32
              refine And.intro (by omega) (And.intro ?_ ?_)
              · intro c33
                exact fcutJ (I := IhB20) (j := jc_Order_goOn_e7135_24) (lv' := [(0, .inr (.inr (some 735))), (1, .inr (.inr (some 211))), (2, .inl _), (3, .inl _), (4, .inl _), (5, .inl _), (6, .inl _)]) (And.intro rfl (And.intro rfl (And.intro rfl (And.intro rfl (And.intro rfl (And.intro rfl (And.intro rfl True.intro))))))) ⟨_, _, _, _, _, rfl, rfl, by omega, rfl⟩ (by omega)
              · intro c34
                intro z35 hz35 ez35
                intro z36 hz36 ez36
                intro z37 hz37 ez37 bz37
                clear ez37
                clear bz37
                refine Exists.intro xm_212 (And.intro mi_212 (And.intro ⟨rfl, rfl, rfl, rfl⟩ (And.intro rfl ?_)))
                refine fcall _ h0 (fzs_sub (by decide +kernel) hW) hB20 (ct_Order_goOn_0f9c9 (fBz h0 hB20) (by omega) (by omega) (by omega) (by omega)) ?_
                rintro IhB39 _ hB39 fhB39 rfl
                have t40 := fhB39 211 15 (by decide +kernel)
                exact fcutJ (I := IhB39) (j := jc_Order_goOn_e7135_24) (lv' := [(0, .inr (.inr (some 735))), (1, .inr (.inr (some 211))), (2, .inl _), (3, .inl _), (4, .inl _), (5, .inl _), (6, .inl _)]) (And.intro rfl (And.intro rfl (And.intro rfl (And.intro rfl (And.intro rfl (And.intro rfl (And.intro rfl True.intro))))))) ⟨_, _, _, _, _, rfl, rfl, by omega, rfl⟩ (by omega)
  · have hB0 := fB_self (zn := znJ) (K := fKc wz_7628e) h0
    refine And.intro ⟨rfl, by decide, by decide⟩ (fgetf fb_211_15 h0 hB0 ?_)
    intro z41 lz41 uz41 qz41
    refine And.intro (by omega) (And.intro ?_ ?_)
    · intro c42
      refine Exists.intro xm_215 (And.intro mi_215 (And.intro ⟨rfl, rfl, rfl, rfl⟩ (And.intro rfl ?_)))
      refine fcall _ h0 (fzs_sub (by decide +kernel) hW) hB0 (ct_Order_take_e8cff (fBz h0 hB0) (by omega)) ?_
      rintro IhB44 _ hB44 fhB44 rfl
      have t45 := fhB44 211 15 (by decide +kernel)
      exact rfl
    · intro c46
      refine And.intro (by omega) (And.intro ?_ ?_)
      · intro c47
        exact fcutJ (I := I) (j := jc_Order_goOn_e7135_24) (lv' := [(0, .inr (.inr (some 735))), (1, .inr (.inr (some 211))), (2, .inl _), (3, .inl _), (4, .inl _), (5, .inl _), (6, .inl _)]) (And.intro rfl (And.intro rfl (And.intro rfl (And.intro rfl (And.intro rfl (And.intro rfl (And.intro rfl True.intro))))))) ⟨_, _, _, _, _, rfl, rfl, by omega, rfl⟩ (by omega)
      · intro c48
        refine Exists.intro xm_215 (And.intro mi_215 (And.intro ⟨rfl, rfl, rfl, rfl⟩ (And.intro rfl ?_)))
        refine fcall _ h0 (fzs_sub (by decide +kernel) hW) hB0 (ct_Order_take_e8cff (fBz h0 hB0) (by omega)) ?_
        rintro IhB50 _ hB50 fhB50 rfl
        have t51 := fhB50 211 15 (by decide +kernel)
        exact rfl
abbrev jc_Order_goOn_1b23c_24 : Nat → fL → List fV → fH → Prop := fun m lv st I => ∃ (y2 : Int) (y3 : Int) (y4 : Int) (y5 : Int) (y6 : Int), lv = [(0, .inr (.inr (some 735))), (1, .inr (.inr (some 211))), (2, .inl y2), (3, .inl y3), (4, .inl y4), (5, .inl y5), (6, .inl y6)] ∧ st = [] ∧ (((0 ≤ y2 ∧ y2 ≤ 0) ∧ (0 ≤ y3 ∧ y3 ≤ 0) ∧ (0 ≤ y4 ∧ y4 ≤ 0) ∧ (0 ≤ y5 ∧ y5 ≤ 0) ∧ (0 ≤ y6 ∧ y6 ≤ 7) ∧ (1 ≤ I 211 15 ∧ I 211 15 ≤ 7))) ∧ m = (1 + 1 * (7 - y6) : Int).toNat
set_option maxRecDepth 8000 in
theorem ct_Order_goOn_1b23c {I : fH} {x2 : Int} {x3 : Int} {x4 : Int} {x5 : Int} (h0 : fB bsJ I) (ha2 : (0 ≤ x2 ∧ x2 ≤ 0)) (ha3 : (0 ≤ x3 ∧ x3 ≤ 0)) (ha4 : (0 ≤ x4 ∧ x4 ≤ 0)) (ha5 : (0 ≤ x5 ∧ x5 ≤ 0)) : fC ρ base n F xTc vwCl xTys D dA la gJ (fbz bsJ znJ (fKc wz_7628e) I) xm_214 [.inr (.inr (some 735)), .inr (.inr (some 211)), .inl x2, .inl x3, .inl x4, .inl x5] I (fun _ r => r = none) := by
  have hW : fzs wz_7628e (fKc wz_7628e) := fKc_ok _
  refine f_meth (rb := rbJ) (J := [(24, jc_Order_goOn_1b23c_24)]) 9 400 xG xin_214 x6_214 okJ (fB_self h0) ?_ ?_
  · refine List.forall_mem_cons.mpr ⟨?_, fun q h => absurd h List.not_mem_nil⟩
    · rintro m _ _ I1 hB1 ⟨y2, y3, y4, y5, y6, rfl, rfl, hb, hm⟩
      refine And.intro ⟨rfl, by decide, by decide⟩ (fgetf fb_211_15 h0 hB1 ?_)
      intro z1 lz1 uz1 qz1
      refine And.intro (by omega) (And.intro ?_ ?_)
      · intro c2
        exact rfl
      · intro c3
        refine And.intro ⟨rfl, by decide, by decide⟩ (fgetf fb_735_3 h0 hB1 ?_)
        intro z4 lz4 uz4 qz4
        refine And.intro (by omega) (And.intro ?_ ?_)
        · intro c5
          exact rfl
        · intro c6
          intro z7 hz7 ez7
          intro z8 hz8 ez8 bz8
          clear ez8
          have bz8 := bz8 (by omega)
          refine And.intro (by omega) (And.intro ?_ ?_)
          · intro c9
            exact fcutJ (I := I1) (j := jc_Order_goOn_1b23c_24) (lv' := [(0, .inr (.inr (some 735))), (1, .inr (.inr (some 211))), (2, .inl _), (3, .inl _), (4, .inl _), (5, .inl _), (6, .inl _)]) (And.intro rfl (And.intro rfl (And.intro rfl (And.intro rfl (And.intro rfl (And.intro rfl (And.intro rfl True.intro))))))) ⟨_, _, _, _, _, rfl, rfl, by omega, rfl⟩ (by omega)
          · intro c10
            refine And.intro ⟨rfl, by decide, by decide⟩ ?_
            refine fload rL_256_256_0_6_1_0 h0 hB1 (by omega) ?_
            intro z11 lz11 uz11 qz11
            intro z12 hz12 ez12
            intro z13 hz13 ez13 bz13
            clear ez13
            clear bz13
            refine And.intro (by omega) (And.intro ?_ ?_)
            · intro c14
              exact fcutJ (I := I1) (j := jc_Order_goOn_1b23c_24) (lv' := [(0, .inr (.inr (some 735))), (1, .inr (.inr (some 211))), (2, .inl _), (3, .inl _), (4, .inl _), (5, .inl _), (6, .inl _)]) (And.intro rfl (And.intro rfl (And.intro rfl (And.intro rfl (And.intro rfl (And.intro rfl (And.intro rfl True.intro))))))) ⟨_, _, _, _, _, rfl, rfl, by omega, rfl⟩ (by omega)
            · intro c15
              refine And.intro ⟨rfl, by decide, by decide⟩ (fgetf fb_735_3 h0 hB1 ?_)
              intro z16 lz16 uz16 qz16
              refine And.intro ⟨rfl, by decide, by decide⟩ (And.intro rfl (And.intro (Or.inl rfl) (fputf fb_735_3 (by decide +kernel) hW (by omega) ?_)))
              intro IhB17 ehB17 hB17
              have t18 : IhB17 211 15 = I1 211 15 := (congrFun (congrFun ehB17 211) 15).trans (fup_ne (by omega))
              have t19 := fup_at ehB17 3 (by omega)
              refine And.intro ⟨rfl, by decide, by decide⟩ ?_
              refine fstore rS_737_737_0_6_1_0 (fzs_sub (by decide +kernel) hW) (by omega) (by omega) ?_
              intro IhB20 ehB20 hB20
              have t21 := fup_self ehB20
              have t22 : IhB20 211 15 = IhB17 211 15 := (congrFun (congrFun ehB20 211) 15).trans (fup_ne (by omega))
              have t23 : IhB20 735 3 = IhB17 735 3 := (congrFun (congrFun ehB20 735) 3).trans (fup_ne (by omega))
              have t24 := fup_at ehB20 0 (by omega)
              refine And.intro ⟨rfl, by decide, by decide⟩ ?_
              refine fload rL_254_254_0_6_1_0 h0 hB20 (by omega) ?_
              intro z25 lz25 uz25 qz25
              intro z26 hz26 ez26 bz26
              clear ez26
              have bz26 := bz26 (by omega)
              refine And.intro ⟨rfl, by decide, by decide⟩ ?_
              refine fload rL_255_255_0_6_1_0 h0 hB20 (by omega) ?_
              intro z27 lz27 uz27 qz27
              refine And.intro ⟨rfl, by decide, by decide⟩ (fgetf fb_735_2 h0 hB20 ?_)
              intro z28 lz28 uz28 qz28
              intro z29 hz29 ez29 bz29
              clear ez29
              clear bz29
              refine And.intro (And.intro (by omega) (And.intro (by omega) rfl)) ?_
              intro z30 hz30
              intro z31 hz31 ez31 bz31
              clear ez31
              clear bz31
              refine And.intro ⟨rfl, by decide, by decide⟩ (fgetf fb_735_3 h0 hB20 ?_)
              intro z32 lz32 uz32 qz32
              refine And.intro (by omega) (And.intro ?_ ?_)
              · intro c33
                exact fcutJ (I := IhB20) (j := jc_Order_goOn_1b23c_24) (lv' := [(0, .inr (.inr (some 735))), (1, .inr (.inr (some 211))), (2, .inl _), (3, .inl _), (4, .inl _), (5, .inl _), (6, .inl _)]) (And.intro rfl (And.intro rfl (And.intro rfl (And.intro rfl (And.intro rfl (And.intro rfl (And.intro rfl True.intro))))))) ⟨_, _, _, _, _, rfl, rfl, by omega, rfl⟩ (by omega)
              · intro c34
                intro z35 hz35 ez35
                intro z36 hz36 ez36
                intro z37 hz37 ez37 bz37
                clear ez37
                clear bz37
                refine Exists.intro xm_213 (And.intro mi_213 (And.intro ⟨rfl, rfl, rfl, rfl⟩ (And.intro rfl ?_)))
                refine fcall _ h0 (fzs_sub (by decide +kernel) hW) hB20 (ct_Order_goOn_e7135 (fBz h0 hB20) (by omega) (by omega) (by omega) (by omega)) ?_
                rintro IhB39 _ hB39 fhB39 rfl
                have t40 := fhB39 211 15 (by decide +kernel)
                exact fcutJ (I := IhB39) (j := jc_Order_goOn_1b23c_24) (lv' := [(0, .inr (.inr (some 735))), (1, .inr (.inr (some 211))), (2, .inl _), (3, .inl _), (4, .inl _), (5, .inl _), (6, .inl _)]) (And.intro rfl (And.intro rfl (And.intro rfl (And.intro rfl (And.intro rfl (And.intro rfl (And.intro rfl True.intro))))))) ⟨_, _, _, _, _, rfl, rfl, by omega, rfl⟩ (by omega)
  · have hB0 := fB_self (zn := znJ) (K := fKc wz_7628e) h0
    refine And.intro ⟨rfl, by decide, by decide⟩ (fgetf fb_211_15 h0 hB0 ?_)
    intro z41 lz41 uz41 qz41
    refine And.intro (by omega) (And.intro ?_ ?_)
    · intro c42
      refine Exists.intro xm_215 (And.intro mi_215 (And.intro ⟨rfl, rfl, rfl, rfl⟩ (And.intro rfl ?_)))
      refine fcall _ h0 (fzs_sub (by decide +kernel) hW) hB0 (ct_Order_take_e8cff (fBz h0 hB0) (by omega)) ?_
      rintro IhB44 _ hB44 fhB44 rfl
      have t45 := fhB44 211 15 (by decide +kernel)
      exact rfl
    · intro c46
      refine And.intro (by omega) (And.intro ?_ ?_)
      · intro c47
        exact fcutJ (I := I) (j := jc_Order_goOn_1b23c_24) (lv' := [(0, .inr (.inr (some 735))), (1, .inr (.inr (some 211))), (2, .inl _), (3, .inl _), (4, .inl _), (5, .inl _), (6, .inl _)]) (And.intro rfl (And.intro rfl (And.intro rfl (And.intro rfl (And.intro rfl (And.intro rfl (And.intro rfl True.intro))))))) ⟨_, _, _, _, _, rfl, rfl, by omega, rfl⟩ (by omega)
      · intro c48
        refine Exists.intro xm_215 (And.intro mi_215 (And.intro ⟨rfl, rfl, rfl, rfl⟩ (And.intro rfl ?_)))
        refine fcall _ h0 (fzs_sub (by decide +kernel) hW) hB0 (ct_Order_take_e8cff (fBz h0 hB0) (by omega)) ?_
        rintro IhB50 _ hB50 fhB50 rfl
        have t51 := fhB50 211 15 (by decide +kernel)
        exact rfl
set_option maxRecDepth 8000 in
theorem ct_Order_bestSum_ae03f {I : fH} {x2 : Int} {x3 : Int} (h0 : fB bsJ I) (ha2 : (1 ≤ x2 ∧ x2 ≤ 60)) (ha3 : (1 ≤ x3 ∧ x3 ≤ 20000)) : fC ρ base n F xTc vwCl xTys D dA la gJ (fbz bsJ znJ (fKc wz_79e74) I) xm_206 [.inr (.inr (some 735)), .inr (.inr (some 211)), .inl x2, .inl x3] I (fun _ r => ∃ z, r = some (.inl z) ∧ ((-2147483648) ≤ z ∧ z ≤ 2147483647)) := by
  have hW : fzs wz_79e74 (fKc wz_79e74) := fKc_ok _
  refine f_meth (rb := rbJ) (J := []) 1 400 xG xin_206 x6_206 okJ (fB_self h0) ?_ ?_
  · exact fun q h => absurd h List.not_mem_nil
  · have hB0 := fB_self (zn := znJ) (K := fKc wz_79e74) h0
    refine And.intro ⟨rfl, by decide, by decide⟩ (And.intro rfl (And.intro (Or.inl rfl) (fputf fb_735_2 (by decide +kernel) hW (by omega) ?_)))
    intro IhB1 ehB1 hB1
    have t2 := fup_at ehB1 2 (by omega)
    refine And.intro ⟨rfl, by decide, by decide⟩ (And.intro rfl (And.intro (Or.inl rfl) (fputf fb_735_3 (by decide +kernel) hW (by omega) ?_)))
    intro IhB3 ehB3 hB3
    have t4 : IhB3 735 2 = IhB1 735 2 := (congrFun (congrFun ehB3 735) 2).trans (fup_ne (by omega))
    have t5 := fup_at ehB3 3 (by omega)
    refine And.intro ⟨rfl, by decide, by decide⟩ (And.intro rfl (And.intro (Or.inl rfl) (fputf fb_735_4 (by decide +kernel) hW (by omega) ?_)))
    intro IhB6 ehB6 hB6
    have t7 : IhB6 735 2 = IhB3 735 2 := (congrFun (congrFun ehB6 735) 2).trans (fup_ne (by omega))
    have t8 : IhB6 735 3 = IhB3 735 3 := (congrFun (congrFun ehB6 735) 3).trans (fup_ne (by omega))
    have t9 := fup_at ehB6 4 (by omega)
    refine Exists.intro xm_214 (And.intro mi_214 (And.intro ⟨rfl, rfl, rfl, rfl⟩ (And.intro rfl ?_)))
    refine fcall _ h0 (fzs_sub (by decide +kernel) hW) hB6 (ct_Order_goOn_1b23c (fBz h0 hB6) (by omega) (by omega) (by omega) (by omega)) ?_
    rintro IhB11 _ hB11 fhB11 rfl
    have t12 := fhB11 735 2 (by decide +kernel)
    refine And.intro ⟨rfl, by decide, by decide⟩ (fgetf fb_735_3 h0 hB11 ?_)
    intro z13 lz13 uz13 qz13
    refine And.intro (by omega) (And.intro ?_ ?_)
    · intro c14
      refine And.intro ⟨rfl, by decide, by decide⟩ (fgetf fb_735_4 h0 hB11 ?_)
      intro z15 lz15 uz15 qz15
      refine And.intro (True.intro) ?_
      exact ⟨_, rfl, by omega⟩
    · intro c16
      refine And.intro (True.intro) ?_
      exact ⟨_, rfl, by omega⟩
set_option maxRecDepth 8000 in
theorem ct_X_plan_77562 {I : fH} {x1 : Int} {x2 : Int} (h0 : fB bsJ I) (ha1 : ((-2147483648) ≤ x1 ∧ x1 ≤ 2147483647)) (ha2 : ((-2147483648) ≤ x2 ∧ x2 ≤ 2147483647)) : fC ρ base n F xTc vwCl xTys D dA la gJ (fbz bsJ znJ (fKc wz_79e74) I) xm_205 [.inr (.inr (some 0)), .inl x1, .inl x2] I (fun _ r => ∃ z, r = some (.inl z) ∧ ((-2147483648) ≤ z ∧ z ≤ 2147483647)) := by
  have hW : fzs wz_79e74 (fKc wz_79e74) := fKc_ok _
  refine f_meth (rb := rbJ) (J := []) 1 400 xG xin_205 x6_205 okJ (fB_self h0) ?_ ?_
  · exact fun q h => absurd h List.not_mem_nil
  · have hB0 := fB_self (zn := znJ) (K := fKc wz_79e74) h0
    refine Exists.intro xm_13 (And.intro mi_13 (And.intro ⟨rfl, rfl, rfl, rfl⟩ (And.intro True.intro ?_)))
    refine fcallp hB0 (ct_X_within_c27b1 (fBz h0 hB0) (by omega) (by omega) (by omega)) ?_
    rintro _ ⟨z1, rfl, hz1⟩
    refine And.intro (by omega) (And.intro ?_ ?_)
    · intro c2
      refine And.intro (True.intro) ?_
      exact ⟨_, rfl, by omega⟩
    · intro c3
      refine Exists.intro xm_13 (And.intro mi_13 (And.intro ⟨rfl, rfl, rfl, rfl⟩ (And.intro True.intro ?_)))
      refine fcallp hB0 (ct_X_within_c27b1 (fBz h0 hB0) (by omega) (by omega) (by omega)) ?_
      rintro _ ⟨z4, rfl, hz4⟩
      refine And.intro (by omega) (And.intro ?_ ?_)
      · intro c5
        refine And.intro ⟨rfl, by decide, by decide⟩ ?_
        refine And.intro ⟨rfl, by decide, by decide⟩ ?_
        refine Exists.intro xm_206 (And.intro mi_206 (And.intro ⟨rfl, rfl, rfl, rfl⟩ (And.intro rfl ?_)))
        refine fcall _ h0 (fzs_sub (by decide +kernel) hW) hB0 (ct_Order_bestSum_ae03f (fBz h0 hB0) (by omega) (by omega)) ?_
        rintro IhB7 _ hB7 fhB7 ⟨z6, rfl, hz6⟩
        refine And.intro (True.intro) ?_
        exact ⟨_, rfl, by omega⟩
      · intro c8
        refine And.intro (True.intro) ?_
        exact ⟨_, rfl, by omega⟩
abbrev jc_M_seek_c83ec_29 : Nat → fL → List fV → fH → Prop := fun m lv st I => ∃ (y2 : Int) (y6 : Int), lv = [(0, .inr (.inr (some 740))), (2, .inl y2), (6, .inl y6)] ∧ st = [] ∧ (((7 ≤ y2 ∧ y2 ≤ 7) ∧ (0 ≤ y6 ∧ y6 ≤ 7) ∧ ((-2147483647) ≤ I 740 33 ∧ I 740 33 ≤ 2147483647) ∧ (7 ≤ I 741 12 ∧ I 741 12 ≤ 7))) ∧ m = (8 + 1 * (7 - y6) : Int).toNat
abbrev jc_M_seek_c83ec_59 : Nat → fL → List fV → fH → Prop := fun m lv st I => ∃ (y1 : Int) (y2 : Int) (y3 : Int) (y4 : Int) (y5 : Int) (y6 : Int), lv = [(0, .inr (.inr (some 740))), (1, .inl y1), (2, .inl y2), (3, .inl y3), (4, .inl y4), (5, .inl y5), (6, .inl y6)] ∧ st = [] ∧ (((1 ≤ y1 ∧ y1 ≤ 60) ∧ (7 ≤ y2 ∧ y2 ≤ 7) ∧ ((-2147483648) ≤ y3 ∧ y3 ≤ 2147483647) ∧ (0 ≤ y4 ∧ y4 ≤ 63) ∧ ((-2147483648) ≤ y5 ∧ y5 ≤ 2147483647) ∧ (0 ≤ y6 ∧ y6 ≤ 6) ∧ (0 ≤ I 741 12 ∧ I 741 12 ≤ 6) ∧ (y2 < I 741 12))) ∧ m = (1 + 1 * (6 - y6) : Int).toNat
set_option maxRecDepth 8000 in
theorem ct_M_seek_c83ec {I : fH} {x1 : Int} {x2 : Int} {x3 : Int} {x4 : Int} {x5 : Int} (h0 : fB bsJ I) (ha1 : (1 ≤ x1 ∧ x1 ≤ 60)) (ha2 : (7 ≤ x2 ∧ x2 ≤ 7)) (ha3 : ((-2147483648) ≤ x3 ∧ x3 ≤ 2147483647)) (ha4 : (0 ≤ x4 ∧ x4 ≤ 63)) (ha5 : ((-2147483648) ≤ x5 ∧ x5 ≤ 2147483647)) (hp0 : x2 = 7) (hp1 : x2 ≤ I 741 12) : fC ρ base n F xTc vwCl xTys D dA la gJ (fbz bsJ znJ (fKc wz_4d25e) I) xm_479 [.inr (.inr (some 740)), .inl x1, .inl x2, .inl x3, .inl x4, .inl x5] I (fun _ r => r = none) := by
  have hW : fzs wz_4d25e (fKc wz_4d25e) := fKc_ok _
  refine f_meth (rb := rbJ) (J := [(29, jc_M_seek_c83ec_29), (59, jc_M_seek_c83ec_59)]) 16 400 xG xin_479 x6_479 okJ (fB_self h0) ?_ ?_
  · refine List.forall_mem_cons.mpr ⟨?_, List.forall_mem_cons.mpr ⟨?_, fun q h => absurd h List.not_mem_nil⟩⟩
    · rintro m _ _ I1 hB1 ⟨y2, y6, rfl, rfl, hb, hm⟩
      have k1 := fBz_eq hB1 (a := 741) (j := 12) (by decide +kernel)
      refine And.intro (by omega) (And.intro ?_ ?_)
      · intro c2
        exact rfl
      · intro c3
        refine And.intro ⟨rfl, by decide, by decide⟩ ?_
        refine And.intro ⟨rfl, by decide, by decide⟩ ?_
        refine fload rL_757_757_0_6_1_0 h0 hB1 (by omega) ?_
        intro z4 lz4 uz4 qz4
        refine fstore rS_758_758_0_6_1_0 (fzs_sub (by decide +kernel) hW) (by omega) (by omega) ?_
        intro IhB5 ehB5 hB5
        have t6 := fup_self ehB5
        have t7 : IhB5 740 33 = I1 740 33 := (congrFun (congrFun ehB5 740) 33).trans (fup_ne (by omega))
        have t8 : IhB5 741 12 = I1 741 12 := (congrFun (congrFun ehB5 741) 12).trans (fup_ne (by omega))
        have k9 := fBz_eq hB5 (a := 741) (j := 12) (by decide +kernel)
        exact fcutJ (I := IhB5) (j := jc_M_seek_c83ec_29) (lv' := [(0, .inr (.inr (some 740))), (2, .inl _), (6, .inl _)]) (And.intro rfl (And.intro rfl (And.intro rfl True.intro))) ⟨_, _, rfl, rfl, by omega, rfl⟩ (by omega)
    · rintro m _ _ I1 hB1 ⟨y1, y2, y3, y4, y5, y6, rfl, rfl, hb, hm⟩
      have k10 := fBz_eq hB1 (a := 741) (j := 12) (by decide +kernel)
      refine And.intro ⟨rfl, by decide, by decide⟩ ?_
      refine fload rL_741_741_12_12_1_0 h0 hB1 (by omega) ?_
      intro z11 lz11 uz11 qz11
      have pz11 := fld_at qz11 12 (by omega)
      refine And.intro (by omega) (And.intro ?_ ?_)
      · intro c12
        exact rfl
      · intro c13
        refine And.intro ⟨rfl, by decide, by decide⟩ (fgetf fb_740_35 h0 hB1 ?_)
        intro z14 lz14 uz14 qz14
        refine And.intro (by omega) (And.intro ?_ ?_)
        · intro c15
          exact rfl
        · intro c16
          intro z17 hz17 ez17
          intro z18 hz18 ez18 bz18
          clear ez18
          have bz18 := bz18 (by omega)
          refine And.intro (by omega) (And.intro ?_ ?_)
          · intro c19
            exact fcutJ (I := I1) (j := jc_M_seek_c83ec_59) (lv' := [(0, .inr (.inr (some 740))), (1, .inl _), (2, .inl _), (3, .inl _), (4, .inl _), (5, .inl _), (6, .inl _)]) (And.intro rfl (And.intro rfl (And.intro rfl (And.intro rfl (And.intro rfl (And.intro rfl (And.intro rfl True.intro))))))) ⟨_, _, _, _, _, _, rfl, rfl, by omega, rfl⟩ (by omega)
          · intro c20
            refine And.intro ⟨rfl, by decide, by decide⟩ ?_
            refine fload rL_741_741_4372_4390_3_0 h0 hB1 (by omega) ?_
            intro z21 lz21 uz21 qz21
            intro z22 hz22 ez22
            intro z23 hz23 ez23 bz23
            clear ez23
            clear bz23
            refine And.intro (by omega) (And.intro ?_ ?_)
            · intro c24
              refine And.intro ⟨rfl, by decide, by decide⟩ (fgetf fb_740_34 h0 hB1 ?_)
              intro z25 lz25 uz25 qz25
              refine And.intro (by omega) (And.intro ?_ ?_)
              · intro c26
                refine And.intro ⟨rfl, by decide, by decide⟩ (And.intro rfl (And.intro (Or.inr ⟨rfl, by omega⟩) (fputf fb_740_35 (by decide +kernel) hW (by omega) ?_)))
                intro IhB27 ehB27 hB27
                have t28 : IhB27 740 34 = I1 740 34 := (congrFun (congrFun ehB27 740) 34).trans (fup_ne (by omega))
                have t29 := fup_at ehB27 35 (by omega)
                have t30 : IhB27 741 12 = I1 741 12 := (congrFun (congrFun ehB27 741) 12).trans (fup_ne (by omega))
                have k31 := fBz_eq hB27 (a := 741) (j := 12) (by decide +kernel)
                refine And.intro ⟨rfl, by decide, by decide⟩ (fgetf fb_740_35 h0 hB27 ?_)
                intro z32 lz32 uz32 qz32
                refine And.intro (by omega) (And.intro ?_ ?_)
                · intro c33
                  exact fcutJ (I := IhB27) (j := jc_M_seek_c83ec_59) (lv' := [(0, .inr (.inr (some 740))), (1, .inl _), (2, .inl _), (3, .inl _), (4, .inl _), (5, .inl _), (6, .inl _)]) (And.intro rfl (And.intro rfl (And.intro rfl (And.intro rfl (And.intro rfl (And.intro rfl (And.intro rfl True.intro))))))) ⟨_, _, _, _, _, _, rfl, rfl, by omega, rfl⟩ (by omega)
                · intro c34
                  refine And.intro ⟨rfl, by decide, by decide⟩ (fgetf fb_740_34 h0 hB27 ?_)
                  intro z35 lz35 uz35 qz35
                  intro z36 hz36 ez36 bz36
                  clear ez36
                  try replace bz36 := bz36 (by omega)
                  refine And.intro ⟨rfl, by decide, by decide⟩ (And.intro rfl (And.intro (Or.inl rfl) (fputf fb_740_34 (by decide +kernel) hW (by omega) ?_)))
                  intro IhB37 ehB37 hB37
                  have t38 := fup_at ehB37 34 (by omega)
                  have t39 : IhB37 740 35 = IhB27 740 35 := (congrFun (congrFun ehB37 740) 35).trans (fup_ne (by omega))
                  have t40 : IhB37 741 12 = IhB27 741 12 := (congrFun (congrFun ehB37 741) 12).trans (fup_ne (by omega))
                  have k41 := fBz_eq hB37 (a := 741) (j := 12) (by decide +kernel)
                  refine And.intro ⟨rfl, by decide, by decide⟩ ?_
                  refine fstore rS_757_757_0_6_1_0 (fzs_sub (by decide +kernel) hW) (by omega) (by omega) ?_
                  intro IhB42 ehB42 hB42
                  have t43 := fup_self ehB42
                  have t44 : IhB42 740 34 = IhB37 740 34 := (congrFun (congrFun ehB42 740) 34).trans (fup_ne (by omega))
                  have t45 : IhB42 740 35 = IhB37 740 35 := (congrFun (congrFun ehB42 740) 35).trans (fup_ne (by omega))
                  have t46 : IhB42 741 12 = IhB37 741 12 := (congrFun (congrFun ehB42 741) 12).trans (fup_ne (by omega))
                  have k47 := fBz_eq hB42 (a := 741) (j := 12) (by decide +kernel)
                  refine And.intro ⟨rfl, by decide, by decide⟩ ?_
                  refine fload rL_741_741_4370_4388_3_0 h0 hB42 (by omega) ?_
                  intro z48 lz48 uz48 qz48
                  intro z49 hz49 ez49 bz49
                  clear ez49
                  have bz49 := bz49 (by omega)
                  intro z50 hz50 ez50
                  intro z51 hz51 ez51
                  refine And.intro (by omega) (And.intro ?_ ?_)
                  · intro c52
                    intro z53 hz53 ez53 bz53
                    clear ez53
                    try replace bz53 := bz53 (by omega)
                    exfalso
                    omega
                  · intro c54
                    refine And.intro ⟨rfl, by decide, by decide⟩ ?_
                    refine fload rL_741_741_4371_4389_3_0 h0 hB42 (by omega) ?_
                    intro z55 lz55 uz55 qz55
                    intro z56 hz56 ez56 bz56
                    clear ez56
                    have bz56 := bz56 (by omega)
                    intro z57 hz57 ez57 bz57
                    clear ez57
                    try replace bz57 := bz57 (by omega)
                    intro z58 hz58 ez58 bz58
                    clear ez58
                    try replace bz58 := bz58 (by omega)
                    exfalso
                    omega
              · intro c59
                refine And.intro ⟨rfl, by decide, by decide⟩ (And.intro rfl (And.intro (Or.inr ⟨rfl, by omega⟩) (fputf fb_740_35 (by decide +kernel) hW (by omega) ?_)))
                intro IhB60 ehB60 hB60
                have t61 : IhB60 740 34 = I1 740 34 := (congrFun (congrFun ehB60 740) 34).trans (fup_ne (by omega))
                have t62 := fup_at ehB60 35 (by omega)
                have t63 : IhB60 741 12 = I1 741 12 := (congrFun (congrFun ehB60 741) 12).trans (fup_ne (by omega))
                have k64 := fBz_eq hB60 (a := 741) (j := 12) (by decide +kernel)
                refine And.intro ⟨rfl, by decide, by decide⟩ (fgetf fb_740_35 h0 hB60 ?_)
                intro z65 lz65 uz65 qz65
                refine And.intro (by omega) (And.intro ?_ ?_)
                · intro c66
                  exact fcutJ (I := IhB60) (j := jc_M_seek_c83ec_59) (lv' := [(0, .inr (.inr (some 740))), (1, .inl _), (2, .inl _), (3, .inl _), (4, .inl _), (5, .inl _), (6, .inl _)]) (And.intro rfl (And.intro rfl (And.intro rfl (And.intro rfl (And.intro rfl (And.intro rfl (And.intro rfl True.intro))))))) ⟨_, _, _, _, _, _, rfl, rfl, by omega, rfl⟩ (by omega)
                · intro c67
                  refine And.intro ⟨rfl, by decide, by decide⟩ (fgetf fb_740_34 h0 hB60 ?_)
                  intro z68 lz68 uz68 qz68
                  intro z69 hz69 ez69 bz69
                  clear ez69
                  try replace bz69 := bz69 (by omega)
                  refine And.intro ⟨rfl, by decide, by decide⟩ (And.intro rfl (And.intro (Or.inl rfl) (fputf fb_740_34 (by decide +kernel) hW (by omega) ?_)))
                  intro IhB70 ehB70 hB70
                  have t71 := fup_at ehB70 34 (by omega)
                  have t72 : IhB70 740 35 = IhB60 740 35 := (congrFun (congrFun ehB70 740) 35).trans (fup_ne (by omega))
                  have t73 : IhB70 741 12 = IhB60 741 12 := (congrFun (congrFun ehB70 741) 12).trans (fup_ne (by omega))
                  have k74 := fBz_eq hB70 (a := 741) (j := 12) (by decide +kernel)
                  refine And.intro ⟨rfl, by decide, by decide⟩ ?_
                  refine fstore rS_757_757_0_6_1_0 (fzs_sub (by decide +kernel) hW) (by omega) (by omega) ?_
                  intro IhB75 ehB75 hB75
                  have t76 := fup_self ehB75
                  have t77 : IhB75 740 34 = IhB70 740 34 := (congrFun (congrFun ehB75 740) 34).trans (fup_ne (by omega))
                  have t78 : IhB75 740 35 = IhB70 740 35 := (congrFun (congrFun ehB75 740) 35).trans (fup_ne (by omega))
                  have t79 : IhB75 741 12 = IhB70 741 12 := (congrFun (congrFun ehB75 741) 12).trans (fup_ne (by omega))
                  have k80 := fBz_eq hB75 (a := 741) (j := 12) (by decide +kernel)
                  refine And.intro ⟨rfl, by decide, by decide⟩ ?_
                  refine fload rL_741_741_4370_4388_3_0 h0 hB75 (by omega) ?_
                  intro z81 lz81 uz81 qz81
                  intro z82 hz82 ez82 bz82
                  clear ez82
                  have bz82 := bz82 (by omega)
                  intro z83 hz83 ez83
                  intro z84 hz84 ez84
                  refine And.intro (by omega) (And.intro ?_ ?_)
                  · intro c85
                    intro z86 hz86 ez86 bz86
                    clear ez86
                    try replace bz86 := bz86 (by omega)
                    exfalso
                    omega
                  · intro c87
                    refine And.intro ⟨rfl, by decide, by decide⟩ ?_
                    refine fload rL_741_741_4371_4389_3_0 h0 hB75 (by omega) ?_
                    intro z88 lz88 uz88 qz88
                    intro z89 hz89 ez89 bz89
                    clear ez89
                    have bz89 := bz89 (by omega)
                    intro z90 hz90 ez90 bz90
                    clear ez90
                    try replace bz90 := bz90 (by omega)
                    intro z91 hz91 ez91 bz91
                    clear ez91
                    try replace bz91 := bz91 (by omega)
                    exfalso
                    omega
            · intro c92
              exact fcutJ (I := I1) (j := jc_M_seek_c83ec_59) (lv' := [(0, .inr (.inr (some 740))), (1, .inl _), (2, .inl _), (3, .inl _), (4, .inl _), (5, .inl _), (6, .inl _)]) (And.intro rfl (And.intro rfl (And.intro rfl (And.intro rfl (And.intro rfl (And.intro rfl (And.intro rfl True.intro))))))) ⟨_, _, _, _, _, _, rfl, rfl, by omega, rfl⟩ (by omega)
  · have hB0 := fB_self (zn := znJ) (K := fKc wz_4d25e) h0
    refine And.intro ⟨rfl, by decide, by decide⟩ ?_
    refine fload rL_741_741_12_12_1_0 h0 hB0 (by omega) ?_
    intro z93 lz93 uz93 qz93
    have pz93 := fld_at qz93 12 (by omega)
    refine And.intro (by omega) (And.intro ?_ ?_)
    · intro c94
      exact fcutJ (I := I) (j := jc_M_seek_c83ec_59) (lv' := [(0, .inr (.inr (some 740))), (1, .inl _), (2, .inl _), (3, .inl _), (4, .inl _), (5, .inl _), (6, .inl _)]) (And.intro rfl (And.intro rfl (And.intro rfl (And.intro rfl (And.intro rfl (And.intro rfl (And.intro rfl True.intro))))))) ⟨_, _, _, _, _, _, rfl, rfl, by omega, rfl⟩ (by omega)
    · intro c95
      refine And.intro ⟨rfl, by decide, by decide⟩ (fgetf fb_740_33 h0 hB0 ?_)
      intro z96 lz96 uz96 qz96
      refine And.intro (by omega) (And.intro ?_ ?_)
      · intro c97
        exact rfl
      · intro c98
        refine And.intro ⟨rfl, by decide, by decide⟩ (And.intro rfl (And.intro (Or.inl rfl) (fputf fb_740_33 (by decide +kernel) hW (by omega) ?_)))
        intro IhB99 ehB99 hB99
        have t100 := fup_at ehB99 33 (by omega)
        have t101 : IhB99 741 12 = I 741 12 := (congrFun (congrFun ehB99 741) 12).trans (fup_ne (by omega))
        have k102 := fBz_eq hB99 (a := 741) (j := 12) (by decide +kernel)
        exact fcutJ (I := IhB99) (j := jc_M_seek_c83ec_29) (lv' := [(0, .inr (.inr (some 740))), (2, .inl _), (6, .inl _)]) (And.intro rfl (And.intro rfl (And.intro rfl True.intro))) ⟨_, _, rfl, rfl, by omega, rfl⟩ (by omega)
abbrev jc_M_seek_ae1ea_29 : Nat → fL → List fV → fH → Prop := fun m lv st I => ∃ (y2 : Int) (y6 : Int), lv = [(0, .inr (.inr (some 740))), (2, .inl y2), (6, .inl y6)] ∧ st = [] ∧ (((6 ≤ y2 ∧ y2 ≤ 6) ∧ (0 ≤ y6 ∧ y6 ≤ 6) ∧ ((-2147483647) ≤ I 740 33 ∧ I 740 33 ≤ 2147483647) ∧ (6 ≤ I 741 12 ∧ I 741 12 ≤ 6))) ∧ m = (9 + 1 * (6 - y6) : Int).toNat
abbrev jc_M_seek_ae1ea_59 : Nat → fL → List fV → fH → Prop := fun m lv st I => ∃ (y1 : Int) (y2 : Int) (y3 : Int) (y4 : Int) (y5 : Int) (y6 : Int), lv = [(0, .inr (.inr (some 740))), (1, .inl y1), (2, .inl y2), (3, .inl y3), (4, .inl y4), (5, .inl y5), (6, .inl y6)] ∧ st = [] ∧ (((1 ≤ y1 ∧ y1 ≤ 60) ∧ (6 ≤ y2 ∧ y2 ≤ 6) ∧ ((-2147483648) ≤ y3 ∧ y3 ≤ 2147483647) ∧ (0 ≤ y4 ∧ y4 ≤ 54) ∧ ((-2147483648) ≤ y5 ∧ y5 ≤ 2147483647) ∧ (0 ≤ y6 ∧ y6 ≤ 7) ∧ (y2 < I 741 12))) ∧ m = (1 + 1 * (7 - y6) : Int).toNat
set_option maxRecDepth 8000 in
theorem ct_M_seek_ae1ea {I : fH} {x1 : Int} {x2 : Int} {x3 : Int} {x4 : Int} {x5 : Int} (h0 : fB bsJ I) (ha1 : (1 ≤ x1 ∧ x1 ≤ 60)) (ha2 : (6 ≤ x2 ∧ x2 ≤ 6)) (ha3 : ((-2147483648) ≤ x3 ∧ x3 ≤ 2147483647)) (ha4 : (0 ≤ x4 ∧ x4 ≤ 54)) (ha5 : ((-2147483648) ≤ x5 ∧ x5 ≤ 2147483647)) (hp0 : x2 = 6) (hp1 : x2 ≤ I 741 12) : fC ρ base n F xTc vwCl xTys D dA la gJ (fbz bsJ znJ (fKc wz_4d25e) I) xm_480 [.inr (.inr (some 740)), .inl x1, .inl x2, .inl x3, .inl x4, .inl x5] I (fun _ r => r = none) := by
  have hW : fzs wz_4d25e (fKc wz_4d25e) := fKc_ok _
  refine f_meth (rb := rbJ) (J := [(29, jc_M_seek_ae1ea_29), (59, jc_M_seek_ae1ea_59)]) 16 400 xG xin_480 x6_480 okJ (fB_self h0) ?_ ?_
  · refine List.forall_mem_cons.mpr ⟨?_, List.forall_mem_cons.mpr ⟨?_, fun q h => absurd h List.not_mem_nil⟩⟩
    · rintro m _ _ I1 hB1 ⟨y2, y6, rfl, rfl, hb, hm⟩
      have k1 := fBz_eq hB1 (a := 741) (j := 12) (by decide +kernel)
      refine And.intro (by omega) (And.intro ?_ ?_)
      · intro c2
        exact rfl
      · intro c3
        refine And.intro ⟨rfl, by decide, by decide⟩ ?_
        refine And.intro ⟨rfl, by decide, by decide⟩ ?_
        refine fload rL_757_757_0_6_1_0 h0 hB1 (by omega) ?_
        intro z4 lz4 uz4 qz4
        refine fstore rS_758_758_0_6_1_0 (fzs_sub (by decide +kernel) hW) (by omega) (by omega) ?_
        intro IhB5 ehB5 hB5
        have t6 := fup_self ehB5
        have t7 : IhB5 740 33 = I1 740 33 := (congrFun (congrFun ehB5 740) 33).trans (fup_ne (by omega))
        have t8 : IhB5 741 12 = I1 741 12 := (congrFun (congrFun ehB5 741) 12).trans (fup_ne (by omega))
        have k9 := fBz_eq hB5 (a := 741) (j := 12) (by decide +kernel)
        exact fcutJ (I := IhB5) (j := jc_M_seek_ae1ea_29) (lv' := [(0, .inr (.inr (some 740))), (2, .inl _), (6, .inl _)]) (And.intro rfl (And.intro rfl (And.intro rfl True.intro))) ⟨_, _, rfl, rfl, by omega, rfl⟩ (by omega)
    · rintro m _ _ I1 hB1 ⟨y1, y2, y3, y4, y5, y6, rfl, rfl, hb, hm⟩
      have k10 := fBz_eq hB1 (a := 741) (j := 12) (by decide +kernel)
      refine And.intro ⟨rfl, by decide, by decide⟩ ?_
      refine fload rL_741_741_12_12_1_0 h0 hB1 (by omega) ?_
      intro z11 lz11 uz11 qz11
      have pz11 := fld_at qz11 12 (by omega)
      refine And.intro (by omega) (And.intro ?_ ?_)
      · intro c12
        exact rfl
      · intro c13
        refine And.intro ⟨rfl, by decide, by decide⟩ (fgetf fb_740_35 h0 hB1 ?_)
        intro z14 lz14 uz14 qz14
        refine And.intro (by omega) (And.intro ?_ ?_)
        · intro c15
          exact rfl
        · intro c16
          intro z17 hz17 ez17
          intro z18 hz18 ez18 bz18
          clear ez18
          have bz18 := bz18 (by omega)
          refine And.intro (by omega) (And.intro ?_ ?_)
          · intro c19
            exact fcutJ (I := I1) (j := jc_M_seek_ae1ea_59) (lv' := [(0, .inr (.inr (some 740))), (1, .inl _), (2, .inl _), (3, .inl _), (4, .inl _), (5, .inl _), (6, .inl _)]) (And.intro rfl (And.intro rfl (And.intro rfl (And.intro rfl (And.intro rfl (And.intro rfl (And.intro rfl True.intro))))))) ⟨_, _, _, _, _, _, rfl, rfl, by omega, rfl⟩ (by omega)
          · intro c20
            refine And.intro ⟨rfl, by decide, by decide⟩ ?_
            refine fload rL_741_741_4372_4390_3_0 h0 hB1 (by omega) ?_
            intro z21 lz21 uz21 qz21
            intro z22 hz22 ez22
            intro z23 hz23 ez23 bz23
            clear ez23
            clear bz23
            refine And.intro (by omega) (And.intro ?_ ?_)
            · intro c24
              refine And.intro ⟨rfl, by decide, by decide⟩ (fgetf fb_740_34 h0 hB1 ?_)
              intro z25 lz25 uz25 qz25
              refine And.intro (by omega) (And.intro ?_ ?_)
              · intro c26
                refine And.intro ⟨rfl, by decide, by decide⟩ (And.intro rfl (And.intro (Or.inr ⟨rfl, by omega⟩) (fputf fb_740_35 (by decide +kernel) hW (by omega) ?_)))
                intro IhB27 ehB27 hB27
                have t28 : IhB27 740 34 = I1 740 34 := (congrFun (congrFun ehB27 740) 34).trans (fup_ne (by omega))
                have t29 := fup_at ehB27 35 (by omega)
                have t30 : IhB27 741 12 = I1 741 12 := (congrFun (congrFun ehB27 741) 12).trans (fup_ne (by omega))
                have k31 := fBz_eq hB27 (a := 741) (j := 12) (by decide +kernel)
                refine And.intro ⟨rfl, by decide, by decide⟩ (fgetf fb_740_35 h0 hB27 ?_)
                intro z32 lz32 uz32 qz32
                refine And.intro (by omega) (And.intro ?_ ?_)
                · intro c33
                  exact fcutJ (I := IhB27) (j := jc_M_seek_ae1ea_59) (lv' := [(0, .inr (.inr (some 740))), (1, .inl _), (2, .inl _), (3, .inl _), (4, .inl _), (5, .inl _), (6, .inl _)]) (And.intro rfl (And.intro rfl (And.intro rfl (And.intro rfl (And.intro rfl (And.intro rfl (And.intro rfl True.intro))))))) ⟨_, _, _, _, _, _, rfl, rfl, by omega, rfl⟩ (by omega)
                · intro c34
                  refine And.intro ⟨rfl, by decide, by decide⟩ (fgetf fb_740_34 h0 hB27 ?_)
                  intro z35 lz35 uz35 qz35
                  intro z36 hz36 ez36 bz36
                  clear ez36
                  try replace bz36 := bz36 (by omega)
                  refine And.intro ⟨rfl, by decide, by decide⟩ (And.intro rfl (And.intro (Or.inl rfl) (fputf fb_740_34 (by decide +kernel) hW (by omega) ?_)))
                  intro IhB37 ehB37 hB37
                  have t38 := fup_at ehB37 34 (by omega)
                  have t39 : IhB37 740 35 = IhB27 740 35 := (congrFun (congrFun ehB37 740) 35).trans (fup_ne (by omega))
                  have t40 : IhB37 741 12 = IhB27 741 12 := (congrFun (congrFun ehB37 741) 12).trans (fup_ne (by omega))
                  have k41 := fBz_eq hB37 (a := 741) (j := 12) (by decide +kernel)
                  refine And.intro ⟨rfl, by decide, by decide⟩ ?_
                  refine fstore rS_757_757_0_6_1_0 (fzs_sub (by decide +kernel) hW) (by omega) (by omega) ?_
                  intro IhB42 ehB42 hB42
                  have t43 := fup_self ehB42
                  have t44 : IhB42 740 34 = IhB37 740 34 := (congrFun (congrFun ehB42 740) 34).trans (fup_ne (by omega))
                  have t45 : IhB42 740 35 = IhB37 740 35 := (congrFun (congrFun ehB42 740) 35).trans (fup_ne (by omega))
                  have t46 : IhB42 741 12 = IhB37 741 12 := (congrFun (congrFun ehB42 741) 12).trans (fup_ne (by omega))
                  have k47 := fBz_eq hB42 (a := 741) (j := 12) (by decide +kernel)
                  refine And.intro ⟨rfl, by decide, by decide⟩ ?_
                  refine fload rL_741_741_4370_4388_3_0 h0 hB42 (by omega) ?_
                  intro z48 lz48 uz48 qz48
                  intro z49 hz49 ez49 bz49
                  clear ez49
                  have bz49 := bz49 (by omega)
                  intro z50 hz50 ez50
                  intro z51 hz51 ez51
                  refine And.intro (by omega) (And.intro ?_ ?_)
                  · intro c52
                    intro z53 hz53 ez53 bz53
                    clear ez53
                    try replace bz53 := bz53 (by omega)
                    refine Exists.intro xm_479 (And.intro mi_479 (And.intro ⟨rfl, rfl, rfl, rfl⟩ (And.intro rfl ?_)))
                    refine fcall _ h0 (fzs_sub (by decide +kernel) hW) hB42 (ct_M_seek_c83ec (fBz h0 hB42) (by omega) (by omega) (by omega) (by omega) (by omega) (by omega) (by omega)) ?_
                    rintro IhB55 _ hB55 fhB55 rfl
                    have t56 := fhB55 741 12 (by decide +kernel)
                    have k57 := fBz_eq hB55 (a := 741) (j := 12) (by decide +kernel)
                    exact fcutJ (I := IhB55) (j := jc_M_seek_ae1ea_59) (lv' := [(0, .inr (.inr (some 740))), (1, .inl _), (2, .inl _), (3, .inl _), (4, .inl _), (5, .inl _), (6, .inl _)]) (And.intro rfl (And.intro rfl (And.intro rfl (And.intro rfl (And.intro rfl (And.intro rfl (And.intro rfl True.intro))))))) ⟨_, _, _, _, _, _, rfl, rfl, by omega, rfl⟩ (by omega)
                  · intro c58
                    refine And.intro ⟨rfl, by decide, by decide⟩ ?_
                    refine fload rL_741_741_4371_4389_3_0 h0 hB42 (by omega) ?_
                    intro z59 lz59 uz59 qz59
                    intro z60 hz60 ez60 bz60
                    clear ez60
                    have bz60 := bz60 (by omega)
                    intro z61 hz61 ez61 bz61
                    clear ez61
                    try replace bz61 := bz61 (by omega)
                    intro z62 hz62 ez62 bz62
                    clear ez62
                    try replace bz62 := bz62 (by omega)
                    refine Exists.intro xm_479 (And.intro mi_479 (And.intro ⟨rfl, rfl, rfl, rfl⟩ (And.intro rfl ?_)))
                    refine fcall _ h0 (fzs_sub (by decide +kernel) hW) hB42 (ct_M_seek_c83ec (fBz h0 hB42) (by omega) (by omega) (by omega) (by omega) (by omega) (by omega) (by omega)) ?_
                    rintro IhB64 _ hB64 fhB64 rfl
                    have t65 := fhB64 741 12 (by decide +kernel)
                    have k66 := fBz_eq hB64 (a := 741) (j := 12) (by decide +kernel)
                    exact fcutJ (I := IhB64) (j := jc_M_seek_ae1ea_59) (lv' := [(0, .inr (.inr (some 740))), (1, .inl _), (2, .inl _), (3, .inl _), (4, .inl _), (5, .inl _), (6, .inl _)]) (And.intro rfl (And.intro rfl (And.intro rfl (And.intro rfl (And.intro rfl (And.intro rfl (And.intro rfl True.intro))))))) ⟨_, _, _, _, _, _, rfl, rfl, by omega, rfl⟩ (by omega)
              · intro c67
                refine And.intro ⟨rfl, by decide, by decide⟩ (And.intro rfl (And.intro (Or.inr ⟨rfl, by omega⟩) (fputf fb_740_35 (by decide +kernel) hW (by omega) ?_)))
                intro IhB68 ehB68 hB68
                have t69 : IhB68 740 34 = I1 740 34 := (congrFun (congrFun ehB68 740) 34).trans (fup_ne (by omega))
                have t70 := fup_at ehB68 35 (by omega)
                have t71 : IhB68 741 12 = I1 741 12 := (congrFun (congrFun ehB68 741) 12).trans (fup_ne (by omega))
                have k72 := fBz_eq hB68 (a := 741) (j := 12) (by decide +kernel)
                refine And.intro ⟨rfl, by decide, by decide⟩ (fgetf fb_740_35 h0 hB68 ?_)
                intro z73 lz73 uz73 qz73
                refine And.intro (by omega) (And.intro ?_ ?_)
                · intro c74
                  exact fcutJ (I := IhB68) (j := jc_M_seek_ae1ea_59) (lv' := [(0, .inr (.inr (some 740))), (1, .inl _), (2, .inl _), (3, .inl _), (4, .inl _), (5, .inl _), (6, .inl _)]) (And.intro rfl (And.intro rfl (And.intro rfl (And.intro rfl (And.intro rfl (And.intro rfl (And.intro rfl True.intro))))))) ⟨_, _, _, _, _, _, rfl, rfl, by omega, rfl⟩ (by omega)
                · intro c75
                  refine And.intro ⟨rfl, by decide, by decide⟩ (fgetf fb_740_34 h0 hB68 ?_)
                  intro z76 lz76 uz76 qz76
                  intro z77 hz77 ez77 bz77
                  clear ez77
                  try replace bz77 := bz77 (by omega)
                  refine And.intro ⟨rfl, by decide, by decide⟩ (And.intro rfl (And.intro (Or.inl rfl) (fputf fb_740_34 (by decide +kernel) hW (by omega) ?_)))
                  intro IhB78 ehB78 hB78
                  have t79 := fup_at ehB78 34 (by omega)
                  have t80 : IhB78 740 35 = IhB68 740 35 := (congrFun (congrFun ehB78 740) 35).trans (fup_ne (by omega))
                  have t81 : IhB78 741 12 = IhB68 741 12 := (congrFun (congrFun ehB78 741) 12).trans (fup_ne (by omega))
                  have k82 := fBz_eq hB78 (a := 741) (j := 12) (by decide +kernel)
                  refine And.intro ⟨rfl, by decide, by decide⟩ ?_
                  refine fstore rS_757_757_0_6_1_0 (fzs_sub (by decide +kernel) hW) (by omega) (by omega) ?_
                  intro IhB83 ehB83 hB83
                  have t84 := fup_self ehB83
                  have t85 : IhB83 740 34 = IhB78 740 34 := (congrFun (congrFun ehB83 740) 34).trans (fup_ne (by omega))
                  have t86 : IhB83 740 35 = IhB78 740 35 := (congrFun (congrFun ehB83 740) 35).trans (fup_ne (by omega))
                  have t87 : IhB83 741 12 = IhB78 741 12 := (congrFun (congrFun ehB83 741) 12).trans (fup_ne (by omega))
                  have k88 := fBz_eq hB83 (a := 741) (j := 12) (by decide +kernel)
                  refine And.intro ⟨rfl, by decide, by decide⟩ ?_
                  refine fload rL_741_741_4370_4388_3_0 h0 hB83 (by omega) ?_
                  intro z89 lz89 uz89 qz89
                  intro z90 hz90 ez90 bz90
                  clear ez90
                  have bz90 := bz90 (by omega)
                  intro z91 hz91 ez91
                  intro z92 hz92 ez92
                  refine And.intro (by omega) (And.intro ?_ ?_)
                  · intro c93
                    intro z94 hz94 ez94 bz94
                    clear ez94
                    try replace bz94 := bz94 (by omega)
                    refine Exists.intro xm_479 (And.intro mi_479 (And.intro ⟨rfl, rfl, rfl, rfl⟩ (And.intro rfl ?_)))
                    refine fcall _ h0 (fzs_sub (by decide +kernel) hW) hB83 (ct_M_seek_c83ec (fBz h0 hB83) (by omega) (by omega) (by omega) (by omega) (by omega) (by omega) (by omega)) ?_
                    rintro IhB96 _ hB96 fhB96 rfl
                    have t97 := fhB96 741 12 (by decide +kernel)
                    have k98 := fBz_eq hB96 (a := 741) (j := 12) (by decide +kernel)
                    exact fcutJ (I := IhB96) (j := jc_M_seek_ae1ea_59) (lv' := [(0, .inr (.inr (some 740))), (1, .inl _), (2, .inl _), (3, .inl _), (4, .inl _), (5, .inl _), (6, .inl _)]) (And.intro rfl (And.intro rfl (And.intro rfl (And.intro rfl (And.intro rfl (And.intro rfl (And.intro rfl True.intro))))))) ⟨_, _, _, _, _, _, rfl, rfl, by omega, rfl⟩ (by omega)
                  · intro c99
                    refine And.intro ⟨rfl, by decide, by decide⟩ ?_
                    refine fload rL_741_741_4371_4389_3_0 h0 hB83 (by omega) ?_
                    intro z100 lz100 uz100 qz100
                    intro z101 hz101 ez101 bz101
                    clear ez101
                    have bz101 := bz101 (by omega)
                    intro z102 hz102 ez102 bz102
                    clear ez102
                    try replace bz102 := bz102 (by omega)
                    intro z103 hz103 ez103 bz103
                    clear ez103
                    try replace bz103 := bz103 (by omega)
                    refine Exists.intro xm_479 (And.intro mi_479 (And.intro ⟨rfl, rfl, rfl, rfl⟩ (And.intro rfl ?_)))
                    refine fcall _ h0 (fzs_sub (by decide +kernel) hW) hB83 (ct_M_seek_c83ec (fBz h0 hB83) (by omega) (by omega) (by omega) (by omega) (by omega) (by omega) (by omega)) ?_
                    rintro IhB105 _ hB105 fhB105 rfl
                    have t106 := fhB105 741 12 (by decide +kernel)
                    have k107 := fBz_eq hB105 (a := 741) (j := 12) (by decide +kernel)
                    exact fcutJ (I := IhB105) (j := jc_M_seek_ae1ea_59) (lv' := [(0, .inr (.inr (some 740))), (1, .inl _), (2, .inl _), (3, .inl _), (4, .inl _), (5, .inl _), (6, .inl _)]) (And.intro rfl (And.intro rfl (And.intro rfl (And.intro rfl (And.intro rfl (And.intro rfl (And.intro rfl True.intro))))))) ⟨_, _, _, _, _, _, rfl, rfl, by omega, rfl⟩ (by omega)
            · intro c108
              exact fcutJ (I := I1) (j := jc_M_seek_ae1ea_59) (lv' := [(0, .inr (.inr (some 740))), (1, .inl _), (2, .inl _), (3, .inl _), (4, .inl _), (5, .inl _), (6, .inl _)]) (And.intro rfl (And.intro rfl (And.intro rfl (And.intro rfl (And.intro rfl (And.intro rfl (And.intro rfl True.intro))))))) ⟨_, _, _, _, _, _, rfl, rfl, by omega, rfl⟩ (by omega)
  · have hB0 := fB_self (zn := znJ) (K := fKc wz_4d25e) h0
    refine And.intro ⟨rfl, by decide, by decide⟩ ?_
    refine fload rL_741_741_12_12_1_0 h0 hB0 (by omega) ?_
    intro z109 lz109 uz109 qz109
    have pz109 := fld_at qz109 12 (by omega)
    refine And.intro (by omega) (And.intro ?_ ?_)
    · intro c110
      exact fcutJ (I := I) (j := jc_M_seek_ae1ea_59) (lv' := [(0, .inr (.inr (some 740))), (1, .inl _), (2, .inl _), (3, .inl _), (4, .inl _), (5, .inl _), (6, .inl _)]) (And.intro rfl (And.intro rfl (And.intro rfl (And.intro rfl (And.intro rfl (And.intro rfl (And.intro rfl True.intro))))))) ⟨_, _, _, _, _, _, rfl, rfl, by omega, rfl⟩ (by omega)
    · intro c111
      refine And.intro ⟨rfl, by decide, by decide⟩ (fgetf fb_740_33 h0 hB0 ?_)
      intro z112 lz112 uz112 qz112
      refine And.intro (by omega) (And.intro ?_ ?_)
      · intro c113
        exact rfl
      · intro c114
        refine And.intro ⟨rfl, by decide, by decide⟩ (And.intro rfl (And.intro (Or.inl rfl) (fputf fb_740_33 (by decide +kernel) hW (by omega) ?_)))
        intro IhB115 ehB115 hB115
        have t116 := fup_at ehB115 33 (by omega)
        have t117 : IhB115 741 12 = I 741 12 := (congrFun (congrFun ehB115 741) 12).trans (fup_ne (by omega))
        have k118 := fBz_eq hB115 (a := 741) (j := 12) (by decide +kernel)
        exact fcutJ (I := IhB115) (j := jc_M_seek_ae1ea_29) (lv' := [(0, .inr (.inr (some 740))), (2, .inl _), (6, .inl _)]) (And.intro rfl (And.intro rfl (And.intro rfl True.intro))) ⟨_, _, rfl, rfl, by omega, rfl⟩ (by omega)
abbrev jc_M_seek_5a34b_29 : Nat → fL → List fV → fH → Prop := fun m lv st I => ∃ (y2 : Int) (y6 : Int), lv = [(0, .inr (.inr (some 740))), (2, .inl y2), (6, .inl y6)] ∧ st = [] ∧ (((5 ≤ y2 ∧ y2 ≤ 5) ∧ (0 ≤ y6 ∧ y6 ≤ 5) ∧ ((-2147483647) ≤ I 740 33 ∧ I 740 33 ≤ 2147483647) ∧ (5 ≤ I 741 12 ∧ I 741 12 ≤ 5))) ∧ m = (9 + 1 * (5 - y6) : Int).toNat
abbrev jc_M_seek_5a34b_59 : Nat → fL → List fV → fH → Prop := fun m lv st I => ∃ (y1 : Int) (y2 : Int) (y3 : Int) (y4 : Int) (y5 : Int) (y6 : Int), lv = [(0, .inr (.inr (some 740))), (1, .inl y1), (2, .inl y2), (3, .inl y3), (4, .inl y4), (5, .inl y5), (6, .inl y6)] ∧ st = [] ∧ (((1 ≤ y1 ∧ y1 ≤ 60) ∧ (5 ≤ y2 ∧ y2 ≤ 5) ∧ ((-2147483648) ≤ y3 ∧ y3 ≤ 2147483647) ∧ (0 ≤ y4 ∧ y4 ≤ 45) ∧ ((-2147483648) ≤ y5 ∧ y5 ≤ 2147483647) ∧ (0 ≤ y6 ∧ y6 ≤ 7) ∧ (y2 < I 741 12))) ∧ m = (1 + 1 * (7 - y6) : Int).toNat
set_option maxRecDepth 8000 in
theorem ct_M_seek_5a34b {I : fH} {x1 : Int} {x2 : Int} {x3 : Int} {x4 : Int} {x5 : Int} (h0 : fB bsJ I) (ha1 : (1 ≤ x1 ∧ x1 ≤ 60)) (ha2 : (5 ≤ x2 ∧ x2 ≤ 5)) (ha3 : ((-2147483648) ≤ x3 ∧ x3 ≤ 2147483647)) (ha4 : (0 ≤ x4 ∧ x4 ≤ 45)) (ha5 : ((-2147483648) ≤ x5 ∧ x5 ≤ 2147483647)) (hp0 : x2 = 5) (hp1 : x2 ≤ I 741 12) : fC ρ base n F xTc vwCl xTys D dA la gJ (fbz bsJ znJ (fKc wz_4d25e) I) xm_481 [.inr (.inr (some 740)), .inl x1, .inl x2, .inl x3, .inl x4, .inl x5] I (fun _ r => r = none) := by
  have hW : fzs wz_4d25e (fKc wz_4d25e) := fKc_ok _
  refine f_meth (rb := rbJ) (J := [(29, jc_M_seek_5a34b_29), (59, jc_M_seek_5a34b_59)]) 15 400 xG xin_481 x6_481 okJ (fB_self h0) ?_ ?_
  · refine List.forall_mem_cons.mpr ⟨?_, List.forall_mem_cons.mpr ⟨?_, fun q h => absurd h List.not_mem_nil⟩⟩
    · rintro m _ _ I1 hB1 ⟨y2, y6, rfl, rfl, hb, hm⟩
      have k1 := fBz_eq hB1 (a := 741) (j := 12) (by decide +kernel)
      refine And.intro (by omega) (And.intro ?_ ?_)
      · intro c2
        exact rfl
      · intro c3
        refine And.intro ⟨rfl, by decide, by decide⟩ ?_
        refine And.intro ⟨rfl, by decide, by decide⟩ ?_
        refine fload rL_757_757_0_6_1_0 h0 hB1 (by omega) ?_
        intro z4 lz4 uz4 qz4
        refine fstore rS_758_758_0_6_1_0 (fzs_sub (by decide +kernel) hW) (by omega) (by omega) ?_
        intro IhB5 ehB5 hB5
        have t6 := fup_self ehB5
        have t7 : IhB5 740 33 = I1 740 33 := (congrFun (congrFun ehB5 740) 33).trans (fup_ne (by omega))
        have t8 : IhB5 741 12 = I1 741 12 := (congrFun (congrFun ehB5 741) 12).trans (fup_ne (by omega))
        have k9 := fBz_eq hB5 (a := 741) (j := 12) (by decide +kernel)
        exact fcutJ (I := IhB5) (j := jc_M_seek_5a34b_29) (lv' := [(0, .inr (.inr (some 740))), (2, .inl _), (6, .inl _)]) (And.intro rfl (And.intro rfl (And.intro rfl True.intro))) ⟨_, _, rfl, rfl, by omega, rfl⟩ (by omega)
    · rintro m _ _ I1 hB1 ⟨y1, y2, y3, y4, y5, y6, rfl, rfl, hb, hm⟩
      have k10 := fBz_eq hB1 (a := 741) (j := 12) (by decide +kernel)
      refine And.intro ⟨rfl, by decide, by decide⟩ ?_
      refine fload rL_741_741_12_12_1_0 h0 hB1 (by omega) ?_
      intro z11 lz11 uz11 qz11
      have pz11 := fld_at qz11 12 (by omega)
      refine And.intro (by omega) (And.intro ?_ ?_)
      · intro c12
        exact rfl
      · intro c13
        refine And.intro ⟨rfl, by decide, by decide⟩ (fgetf fb_740_35 h0 hB1 ?_)
        intro z14 lz14 uz14 qz14
        refine And.intro (by omega) (And.intro ?_ ?_)
        · intro c15
          exact rfl
        · intro c16
          intro z17 hz17 ez17
          intro z18 hz18 ez18 bz18
          clear ez18
          have bz18 := bz18 (by omega)
          refine And.intro (by omega) (And.intro ?_ ?_)
          · intro c19
            exact fcutJ (I := I1) (j := jc_M_seek_5a34b_59) (lv' := [(0, .inr (.inr (some 740))), (1, .inl _), (2, .inl _), (3, .inl _), (4, .inl _), (5, .inl _), (6, .inl _)]) (And.intro rfl (And.intro rfl (And.intro rfl (And.intro rfl (And.intro rfl (And.intro rfl (And.intro rfl True.intro))))))) ⟨_, _, _, _, _, _, rfl, rfl, by omega, rfl⟩ (by omega)
          · intro c20
            refine And.intro ⟨rfl, by decide, by decide⟩ ?_
            refine fload rL_741_741_4372_4390_3_0 h0 hB1 (by omega) ?_
            intro z21 lz21 uz21 qz21
            intro z22 hz22 ez22
            intro z23 hz23 ez23 bz23
            clear ez23
            clear bz23
            refine And.intro (by omega) (And.intro ?_ ?_)
            · intro c24
              refine And.intro ⟨rfl, by decide, by decide⟩ (fgetf fb_740_34 h0 hB1 ?_)
              intro z25 lz25 uz25 qz25
              refine And.intro (by omega) (And.intro ?_ ?_)
              · intro c26
                refine And.intro ⟨rfl, by decide, by decide⟩ (And.intro rfl (And.intro (Or.inr ⟨rfl, by omega⟩) (fputf fb_740_35 (by decide +kernel) hW (by omega) ?_)))
                intro IhB27 ehB27 hB27
                have t28 : IhB27 740 34 = I1 740 34 := (congrFun (congrFun ehB27 740) 34).trans (fup_ne (by omega))
                have t29 := fup_at ehB27 35 (by omega)
                have t30 : IhB27 741 12 = I1 741 12 := (congrFun (congrFun ehB27 741) 12).trans (fup_ne (by omega))
                have k31 := fBz_eq hB27 (a := 741) (j := 12) (by decide +kernel)
                refine And.intro ⟨rfl, by decide, by decide⟩ (fgetf fb_740_35 h0 hB27 ?_)
                intro z32 lz32 uz32 qz32
                refine And.intro (by omega) (And.intro ?_ ?_)
                · intro c33
                  exact fcutJ (I := IhB27) (j := jc_M_seek_5a34b_59) (lv' := [(0, .inr (.inr (some 740))), (1, .inl _), (2, .inl _), (3, .inl _), (4, .inl _), (5, .inl _), (6, .inl _)]) (And.intro rfl (And.intro rfl (And.intro rfl (And.intro rfl (And.intro rfl (And.intro rfl (And.intro rfl True.intro))))))) ⟨_, _, _, _, _, _, rfl, rfl, by omega, rfl⟩ (by omega)
                · intro c34
                  refine And.intro ⟨rfl, by decide, by decide⟩ (fgetf fb_740_34 h0 hB27 ?_)
                  intro z35 lz35 uz35 qz35
                  intro z36 hz36 ez36 bz36
                  clear ez36
                  try replace bz36 := bz36 (by omega)
                  refine And.intro ⟨rfl, by decide, by decide⟩ (And.intro rfl (And.intro (Or.inl rfl) (fputf fb_740_34 (by decide +kernel) hW (by omega) ?_)))
                  intro IhB37 ehB37 hB37
                  have t38 := fup_at ehB37 34 (by omega)
                  have t39 : IhB37 740 35 = IhB27 740 35 := (congrFun (congrFun ehB37 740) 35).trans (fup_ne (by omega))
                  have t40 : IhB37 741 12 = IhB27 741 12 := (congrFun (congrFun ehB37 741) 12).trans (fup_ne (by omega))
                  have k41 := fBz_eq hB37 (a := 741) (j := 12) (by decide +kernel)
                  refine And.intro ⟨rfl, by decide, by decide⟩ ?_
                  refine fstore rS_757_757_0_6_1_0 (fzs_sub (by decide +kernel) hW) (by omega) (by omega) ?_
                  intro IhB42 ehB42 hB42
                  have t43 := fup_self ehB42
                  have t44 : IhB42 740 34 = IhB37 740 34 := (congrFun (congrFun ehB42 740) 34).trans (fup_ne (by omega))
                  have t45 : IhB42 740 35 = IhB37 740 35 := (congrFun (congrFun ehB42 740) 35).trans (fup_ne (by omega))
                  have t46 : IhB42 741 12 = IhB37 741 12 := (congrFun (congrFun ehB42 741) 12).trans (fup_ne (by omega))
                  have k47 := fBz_eq hB42 (a := 741) (j := 12) (by decide +kernel)
                  refine And.intro ⟨rfl, by decide, by decide⟩ ?_
                  refine fload rL_741_741_4370_4388_3_0 h0 hB42 (by omega) ?_
                  intro z48 lz48 uz48 qz48
                  intro z49 hz49 ez49 bz49
                  clear ez49
                  have bz49 := bz49 (by omega)
                  intro z50 hz50 ez50
                  intro z51 hz51 ez51
                  refine And.intro (by omega) (And.intro ?_ ?_)
                  · intro c52
                    intro z53 hz53 ez53 bz53
                    clear ez53
                    try replace bz53 := bz53 (by omega)
                    refine Exists.intro xm_480 (And.intro mi_480 (And.intro ⟨rfl, rfl, rfl, rfl⟩ (And.intro rfl ?_)))
                    refine fcall _ h0 (fzs_sub (by decide +kernel) hW) hB42 (ct_M_seek_ae1ea (fBz h0 hB42) (by omega) (by omega) (by omega) (by omega) (by omega) (by omega) (by omega)) ?_
                    rintro IhB55 _ hB55 fhB55 rfl
                    have t56 := fhB55 741 12 (by decide +kernel)
                    have k57 := fBz_eq hB55 (a := 741) (j := 12) (by decide +kernel)
                    exact fcutJ (I := IhB55) (j := jc_M_seek_5a34b_59) (lv' := [(0, .inr (.inr (some 740))), (1, .inl _), (2, .inl _), (3, .inl _), (4, .inl _), (5, .inl _), (6, .inl _)]) (And.intro rfl (And.intro rfl (And.intro rfl (And.intro rfl (And.intro rfl (And.intro rfl (And.intro rfl True.intro))))))) ⟨_, _, _, _, _, _, rfl, rfl, by omega, rfl⟩ (by omega)
                  · intro c58
                    refine And.intro ⟨rfl, by decide, by decide⟩ ?_
                    refine fload rL_741_741_4371_4389_3_0 h0 hB42 (by omega) ?_
                    intro z59 lz59 uz59 qz59
                    intro z60 hz60 ez60 bz60
                    clear ez60
                    have bz60 := bz60 (by omega)
                    intro z61 hz61 ez61 bz61
                    clear ez61
                    try replace bz61 := bz61 (by omega)
                    intro z62 hz62 ez62 bz62
                    clear ez62
                    try replace bz62 := bz62 (by omega)
                    refine Exists.intro xm_480 (And.intro mi_480 (And.intro ⟨rfl, rfl, rfl, rfl⟩ (And.intro rfl ?_)))
                    refine fcall _ h0 (fzs_sub (by decide +kernel) hW) hB42 (ct_M_seek_ae1ea (fBz h0 hB42) (by omega) (by omega) (by omega) (by omega) (by omega) (by omega) (by omega)) ?_
                    rintro IhB64 _ hB64 fhB64 rfl
                    have t65 := fhB64 741 12 (by decide +kernel)
                    have k66 := fBz_eq hB64 (a := 741) (j := 12) (by decide +kernel)
                    exact fcutJ (I := IhB64) (j := jc_M_seek_5a34b_59) (lv' := [(0, .inr (.inr (some 740))), (1, .inl _), (2, .inl _), (3, .inl _), (4, .inl _), (5, .inl _), (6, .inl _)]) (And.intro rfl (And.intro rfl (And.intro rfl (And.intro rfl (And.intro rfl (And.intro rfl (And.intro rfl True.intro))))))) ⟨_, _, _, _, _, _, rfl, rfl, by omega, rfl⟩ (by omega)
              · intro c67
                refine And.intro ⟨rfl, by decide, by decide⟩ (And.intro rfl (And.intro (Or.inr ⟨rfl, by omega⟩) (fputf fb_740_35 (by decide +kernel) hW (by omega) ?_)))
                intro IhB68 ehB68 hB68
                have t69 : IhB68 740 34 = I1 740 34 := (congrFun (congrFun ehB68 740) 34).trans (fup_ne (by omega))
                have t70 := fup_at ehB68 35 (by omega)
                have t71 : IhB68 741 12 = I1 741 12 := (congrFun (congrFun ehB68 741) 12).trans (fup_ne (by omega))
                have k72 := fBz_eq hB68 (a := 741) (j := 12) (by decide +kernel)
                refine And.intro ⟨rfl, by decide, by decide⟩ (fgetf fb_740_35 h0 hB68 ?_)
                intro z73 lz73 uz73 qz73
                refine And.intro (by omega) (And.intro ?_ ?_)
                · intro c74
                  exact fcutJ (I := IhB68) (j := jc_M_seek_5a34b_59) (lv' := [(0, .inr (.inr (some 740))), (1, .inl _), (2, .inl _), (3, .inl _), (4, .inl _), (5, .inl _), (6, .inl _)]) (And.intro rfl (And.intro rfl (And.intro rfl (And.intro rfl (And.intro rfl (And.intro rfl (And.intro rfl True.intro))))))) ⟨_, _, _, _, _, _, rfl, rfl, by omega, rfl⟩ (by omega)
                · intro c75
                  refine And.intro ⟨rfl, by decide, by decide⟩ (fgetf fb_740_34 h0 hB68 ?_)
                  intro z76 lz76 uz76 qz76
                  intro z77 hz77 ez77 bz77
                  clear ez77
                  try replace bz77 := bz77 (by omega)
                  refine And.intro ⟨rfl, by decide, by decide⟩ (And.intro rfl (And.intro (Or.inl rfl) (fputf fb_740_34 (by decide +kernel) hW (by omega) ?_)))
                  intro IhB78 ehB78 hB78
                  have t79 := fup_at ehB78 34 (by omega)
                  have t80 : IhB78 740 35 = IhB68 740 35 := (congrFun (congrFun ehB78 740) 35).trans (fup_ne (by omega))
                  have t81 : IhB78 741 12 = IhB68 741 12 := (congrFun (congrFun ehB78 741) 12).trans (fup_ne (by omega))
                  have k82 := fBz_eq hB78 (a := 741) (j := 12) (by decide +kernel)
                  refine And.intro ⟨rfl, by decide, by decide⟩ ?_
                  refine fstore rS_757_757_0_6_1_0 (fzs_sub (by decide +kernel) hW) (by omega) (by omega) ?_
                  intro IhB83 ehB83 hB83
                  have t84 := fup_self ehB83
                  have t85 : IhB83 740 34 = IhB78 740 34 := (congrFun (congrFun ehB83 740) 34).trans (fup_ne (by omega))
                  have t86 : IhB83 740 35 = IhB78 740 35 := (congrFun (congrFun ehB83 740) 35).trans (fup_ne (by omega))
                  have t87 : IhB83 741 12 = IhB78 741 12 := (congrFun (congrFun ehB83 741) 12).trans (fup_ne (by omega))
                  have k88 := fBz_eq hB83 (a := 741) (j := 12) (by decide +kernel)
                  refine And.intro ⟨rfl, by decide, by decide⟩ ?_
                  refine fload rL_741_741_4370_4388_3_0 h0 hB83 (by omega) ?_
                  intro z89 lz89 uz89 qz89
                  intro z90 hz90 ez90 bz90
                  clear ez90
                  have bz90 := bz90 (by omega)
                  intro z91 hz91 ez91
                  intro z92 hz92 ez92
                  refine And.intro (by omega) (And.intro ?_ ?_)
                  · intro c93
                    intro z94 hz94 ez94 bz94
                    clear ez94
                    try replace bz94 := bz94 (by omega)
                    refine Exists.intro xm_480 (And.intro mi_480 (And.intro ⟨rfl, rfl, rfl, rfl⟩ (And.intro rfl ?_)))
                    refine fcall _ h0 (fzs_sub (by decide +kernel) hW) hB83 (ct_M_seek_ae1ea (fBz h0 hB83) (by omega) (by omega) (by omega) (by omega) (by omega) (by omega) (by omega)) ?_
                    rintro IhB96 _ hB96 fhB96 rfl
                    have t97 := fhB96 741 12 (by decide +kernel)
                    have k98 := fBz_eq hB96 (a := 741) (j := 12) (by decide +kernel)
                    exact fcutJ (I := IhB96) (j := jc_M_seek_5a34b_59) (lv' := [(0, .inr (.inr (some 740))), (1, .inl _), (2, .inl _), (3, .inl _), (4, .inl _), (5, .inl _), (6, .inl _)]) (And.intro rfl (And.intro rfl (And.intro rfl (And.intro rfl (And.intro rfl (And.intro rfl (And.intro rfl True.intro))))))) ⟨_, _, _, _, _, _, rfl, rfl, by omega, rfl⟩ (by omega)
                  · intro c99
                    refine And.intro ⟨rfl, by decide, by decide⟩ ?_
                    refine fload rL_741_741_4371_4389_3_0 h0 hB83 (by omega) ?_
                    intro z100 lz100 uz100 qz100
                    intro z101 hz101 ez101 bz101
                    clear ez101
                    have bz101 := bz101 (by omega)
                    intro z102 hz102 ez102 bz102
                    clear ez102
                    try replace bz102 := bz102 (by omega)
                    intro z103 hz103 ez103 bz103
                    clear ez103
                    try replace bz103 := bz103 (by omega)
                    refine Exists.intro xm_480 (And.intro mi_480 (And.intro ⟨rfl, rfl, rfl, rfl⟩ (And.intro rfl ?_)))
                    refine fcall _ h0 (fzs_sub (by decide +kernel) hW) hB83 (ct_M_seek_ae1ea (fBz h0 hB83) (by omega) (by omega) (by omega) (by omega) (by omega) (by omega) (by omega)) ?_
                    rintro IhB105 _ hB105 fhB105 rfl
                    have t106 := fhB105 741 12 (by decide +kernel)
                    have k107 := fBz_eq hB105 (a := 741) (j := 12) (by decide +kernel)
                    exact fcutJ (I := IhB105) (j := jc_M_seek_5a34b_59) (lv' := [(0, .inr (.inr (some 740))), (1, .inl _), (2, .inl _), (3, .inl _), (4, .inl _), (5, .inl _), (6, .inl _)]) (And.intro rfl (And.intro rfl (And.intro rfl (And.intro rfl (And.intro rfl (And.intro rfl (And.intro rfl True.intro))))))) ⟨_, _, _, _, _, _, rfl, rfl, by omega, rfl⟩ (by omega)
            · intro c108
              exact fcutJ (I := I1) (j := jc_M_seek_5a34b_59) (lv' := [(0, .inr (.inr (some 740))), (1, .inl _), (2, .inl _), (3, .inl _), (4, .inl _), (5, .inl _), (6, .inl _)]) (And.intro rfl (And.intro rfl (And.intro rfl (And.intro rfl (And.intro rfl (And.intro rfl (And.intro rfl True.intro))))))) ⟨_, _, _, _, _, _, rfl, rfl, by omega, rfl⟩ (by omega)
  · have hB0 := fB_self (zn := znJ) (K := fKc wz_4d25e) h0
    refine And.intro ⟨rfl, by decide, by decide⟩ ?_
    refine fload rL_741_741_12_12_1_0 h0 hB0 (by omega) ?_
    intro z109 lz109 uz109 qz109
    have pz109 := fld_at qz109 12 (by omega)
    refine And.intro (by omega) (And.intro ?_ ?_)
    · intro c110
      exact fcutJ (I := I) (j := jc_M_seek_5a34b_59) (lv' := [(0, .inr (.inr (some 740))), (1, .inl _), (2, .inl _), (3, .inl _), (4, .inl _), (5, .inl _), (6, .inl _)]) (And.intro rfl (And.intro rfl (And.intro rfl (And.intro rfl (And.intro rfl (And.intro rfl (And.intro rfl True.intro))))))) ⟨_, _, _, _, _, _, rfl, rfl, by omega, rfl⟩ (by omega)
    · intro c111
      refine And.intro ⟨rfl, by decide, by decide⟩ (fgetf fb_740_33 h0 hB0 ?_)
      intro z112 lz112 uz112 qz112
      refine And.intro (by omega) (And.intro ?_ ?_)
      · intro c113
        exact rfl
      · intro c114
        refine And.intro ⟨rfl, by decide, by decide⟩ (And.intro rfl (And.intro (Or.inl rfl) (fputf fb_740_33 (by decide +kernel) hW (by omega) ?_)))
        intro IhB115 ehB115 hB115
        have t116 := fup_at ehB115 33 (by omega)
        have t117 : IhB115 741 12 = I 741 12 := (congrFun (congrFun ehB115 741) 12).trans (fup_ne (by omega))
        have k118 := fBz_eq hB115 (a := 741) (j := 12) (by decide +kernel)
        exact fcutJ (I := IhB115) (j := jc_M_seek_5a34b_29) (lv' := [(0, .inr (.inr (some 740))), (2, .inl _), (6, .inl _)]) (And.intro rfl (And.intro rfl (And.intro rfl True.intro))) ⟨_, _, rfl, rfl, by omega, rfl⟩ (by omega)
abbrev jc_M_seek_2af86_29 : Nat → fL → List fV → fH → Prop := fun m lv st I => ∃ (y2 : Int) (y6 : Int), lv = [(0, .inr (.inr (some 740))), (2, .inl y2), (6, .inl y6)] ∧ st = [] ∧ (((4 ≤ y2 ∧ y2 ≤ 4) ∧ (0 ≤ y6 ∧ y6 ≤ 4) ∧ ((-2147483647) ≤ I 740 33 ∧ I 740 33 ≤ 2147483647) ∧ (4 ≤ I 741 12 ∧ I 741 12 ≤ 4))) ∧ m = (9 + 1 * (4 - y6) : Int).toNat
abbrev jc_M_seek_2af86_59 : Nat → fL → List fV → fH → Prop := fun m lv st I => ∃ (y1 : Int) (y2 : Int) (y3 : Int) (y4 : Int) (y5 : Int) (y6 : Int), lv = [(0, .inr (.inr (some 740))), (1, .inl y1), (2, .inl y2), (3, .inl y3), (4, .inl y4), (5, .inl y5), (6, .inl y6)] ∧ st = [] ∧ (((1 ≤ y1 ∧ y1 ≤ 60) ∧ (4 ≤ y2 ∧ y2 ≤ 4) ∧ ((-2147483648) ≤ y3 ∧ y3 ≤ 2147483647) ∧ (0 ≤ y4 ∧ y4 ≤ 36) ∧ ((-2147483648) ≤ y5 ∧ y5 ≤ 2147483647) ∧ (0 ≤ y6 ∧ y6 ≤ 7) ∧ (y2 < I 741 12))) ∧ m = (1 + 1 * (7 - y6) : Int).toNat
set_option maxRecDepth 8000 in
theorem ct_M_seek_2af86 {I : fH} {x1 : Int} {x2 : Int} {x3 : Int} {x4 : Int} {x5 : Int} (h0 : fB bsJ I) (ha1 : (1 ≤ x1 ∧ x1 ≤ 60)) (ha2 : (4 ≤ x2 ∧ x2 ≤ 4)) (ha3 : ((-2147483648) ≤ x3 ∧ x3 ≤ 2147483647)) (ha4 : (0 ≤ x4 ∧ x4 ≤ 36)) (ha5 : ((-2147483648) ≤ x5 ∧ x5 ≤ 2147483647)) (hp0 : x2 = 4) (hp1 : x2 ≤ I 741 12) : fC ρ base n F xTc vwCl xTys D dA la gJ (fbz bsJ znJ (fKc wz_4d25e) I) xm_482 [.inr (.inr (some 740)), .inl x1, .inl x2, .inl x3, .inl x4, .inl x5] I (fun _ r => r = none) := by
  have hW : fzs wz_4d25e (fKc wz_4d25e) := fKc_ok _
  refine f_meth (rb := rbJ) (J := [(29, jc_M_seek_2af86_29), (59, jc_M_seek_2af86_59)]) 14 400 xG xin_482 x6_482 okJ (fB_self h0) ?_ ?_
  · refine List.forall_mem_cons.mpr ⟨?_, List.forall_mem_cons.mpr ⟨?_, fun q h => absurd h List.not_mem_nil⟩⟩
    · rintro m _ _ I1 hB1 ⟨y2, y6, rfl, rfl, hb, hm⟩
      have k1 := fBz_eq hB1 (a := 741) (j := 12) (by decide +kernel)
      refine And.intro (by omega) (And.intro ?_ ?_)
      · intro c2
        exact rfl
      · intro c3
        refine And.intro ⟨rfl, by decide, by decide⟩ ?_
        refine And.intro ⟨rfl, by decide, by decide⟩ ?_
        refine fload rL_757_757_0_6_1_0 h0 hB1 (by omega) ?_
        intro z4 lz4 uz4 qz4
        refine fstore rS_758_758_0_6_1_0 (fzs_sub (by decide +kernel) hW) (by omega) (by omega) ?_
        intro IhB5 ehB5 hB5
        have t6 := fup_self ehB5
        have t7 : IhB5 740 33 = I1 740 33 := (congrFun (congrFun ehB5 740) 33).trans (fup_ne (by omega))
        have t8 : IhB5 741 12 = I1 741 12 := (congrFun (congrFun ehB5 741) 12).trans (fup_ne (by omega))
        have k9 := fBz_eq hB5 (a := 741) (j := 12) (by decide +kernel)
        exact fcutJ (I := IhB5) (j := jc_M_seek_2af86_29) (lv' := [(0, .inr (.inr (some 740))), (2, .inl _), (6, .inl _)]) (And.intro rfl (And.intro rfl (And.intro rfl True.intro))) ⟨_, _, rfl, rfl, by omega, rfl⟩ (by omega)
    · rintro m _ _ I1 hB1 ⟨y1, y2, y3, y4, y5, y6, rfl, rfl, hb, hm⟩
      have k10 := fBz_eq hB1 (a := 741) (j := 12) (by decide +kernel)
      refine And.intro ⟨rfl, by decide, by decide⟩ ?_
      refine fload rL_741_741_12_12_1_0 h0 hB1 (by omega) ?_
      intro z11 lz11 uz11 qz11
      have pz11 := fld_at qz11 12 (by omega)
      refine And.intro (by omega) (And.intro ?_ ?_)
      · intro c12
        exact rfl
      · intro c13
        refine And.intro ⟨rfl, by decide, by decide⟩ (fgetf fb_740_35 h0 hB1 ?_)
        intro z14 lz14 uz14 qz14
        refine And.intro (by omega) (And.intro ?_ ?_)
        · intro c15
          exact rfl
        · intro c16
          intro z17 hz17 ez17
          intro z18 hz18 ez18 bz18
          clear ez18
          have bz18 := bz18 (by omega)
          refine And.intro (by omega) (And.intro ?_ ?_)
          · intro c19
            exact fcutJ (I := I1) (j := jc_M_seek_2af86_59) (lv' := [(0, .inr (.inr (some 740))), (1, .inl _), (2, .inl _), (3, .inl _), (4, .inl _), (5, .inl _), (6, .inl _)]) (And.intro rfl (And.intro rfl (And.intro rfl (And.intro rfl (And.intro rfl (And.intro rfl (And.intro rfl True.intro))))))) ⟨_, _, _, _, _, _, rfl, rfl, by omega, rfl⟩ (by omega)
          · intro c20
            refine And.intro ⟨rfl, by decide, by decide⟩ ?_
            refine fload rL_741_741_4372_4390_3_0 h0 hB1 (by omega) ?_
            intro z21 lz21 uz21 qz21
            intro z22 hz22 ez22
            intro z23 hz23 ez23 bz23
            clear ez23
            clear bz23
            refine And.intro (by omega) (And.intro ?_ ?_)
            · intro c24
              refine And.intro ⟨rfl, by decide, by decide⟩ (fgetf fb_740_34 h0 hB1 ?_)
              intro z25 lz25 uz25 qz25
              refine And.intro (by omega) (And.intro ?_ ?_)
              · intro c26
                refine And.intro ⟨rfl, by decide, by decide⟩ (And.intro rfl (And.intro (Or.inr ⟨rfl, by omega⟩) (fputf fb_740_35 (by decide +kernel) hW (by omega) ?_)))
                intro IhB27 ehB27 hB27
                have t28 : IhB27 740 34 = I1 740 34 := (congrFun (congrFun ehB27 740) 34).trans (fup_ne (by omega))
                have t29 := fup_at ehB27 35 (by omega)
                have t30 : IhB27 741 12 = I1 741 12 := (congrFun (congrFun ehB27 741) 12).trans (fup_ne (by omega))
                have k31 := fBz_eq hB27 (a := 741) (j := 12) (by decide +kernel)
                refine And.intro ⟨rfl, by decide, by decide⟩ (fgetf fb_740_35 h0 hB27 ?_)
                intro z32 lz32 uz32 qz32
                refine And.intro (by omega) (And.intro ?_ ?_)
                · intro c33
                  exact fcutJ (I := IhB27) (j := jc_M_seek_2af86_59) (lv' := [(0, .inr (.inr (some 740))), (1, .inl _), (2, .inl _), (3, .inl _), (4, .inl _), (5, .inl _), (6, .inl _)]) (And.intro rfl (And.intro rfl (And.intro rfl (And.intro rfl (And.intro rfl (And.intro rfl (And.intro rfl True.intro))))))) ⟨_, _, _, _, _, _, rfl, rfl, by omega, rfl⟩ (by omega)
                · intro c34
                  refine And.intro ⟨rfl, by decide, by decide⟩ (fgetf fb_740_34 h0 hB27 ?_)
                  intro z35 lz35 uz35 qz35
                  intro z36 hz36 ez36 bz36
                  clear ez36
                  try replace bz36 := bz36 (by omega)
                  refine And.intro ⟨rfl, by decide, by decide⟩ (And.intro rfl (And.intro (Or.inl rfl) (fputf fb_740_34 (by decide +kernel) hW (by omega) ?_)))
                  intro IhB37 ehB37 hB37
                  have t38 := fup_at ehB37 34 (by omega)
                  have t39 : IhB37 740 35 = IhB27 740 35 := (congrFun (congrFun ehB37 740) 35).trans (fup_ne (by omega))
                  have t40 : IhB37 741 12 = IhB27 741 12 := (congrFun (congrFun ehB37 741) 12).trans (fup_ne (by omega))
                  have k41 := fBz_eq hB37 (a := 741) (j := 12) (by decide +kernel)
                  refine And.intro ⟨rfl, by decide, by decide⟩ ?_
                  refine fstore rS_757_757_0_6_1_0 (fzs_sub (by decide +kernel) hW) (by omega) (by omega) ?_
                  intro IhB42 ehB42 hB42
                  have t43 := fup_self ehB42
                  have t44 : IhB42 740 34 = IhB37 740 34 := (congrFun (congrFun ehB42 740) 34).trans (fup_ne (by omega))
                  have t45 : IhB42 740 35 = IhB37 740 35 := (congrFun (congrFun ehB42 740) 35).trans (fup_ne (by omega))
                  have t46 : IhB42 741 12 = IhB37 741 12 := (congrFun (congrFun ehB42 741) 12).trans (fup_ne (by omega))
                  have k47 := fBz_eq hB42 (a := 741) (j := 12) (by decide +kernel)
                  refine And.intro ⟨rfl, by decide, by decide⟩ ?_
                  refine fload rL_741_741_4370_4388_3_0 h0 hB42 (by omega) ?_
                  intro z48 lz48 uz48 qz48
                  intro z49 hz49 ez49 bz49
                  clear ez49
                  have bz49 := bz49 (by omega)
                  intro z50 hz50 ez50
                  intro z51 hz51 ez51
                  refine And.intro (by omega) (And.intro ?_ ?_)
                  · intro c52
                    intro z53 hz53 ez53 bz53
                    clear ez53
                    try replace bz53 := bz53 (by omega)
                    refine Exists.intro xm_481 (And.intro mi_481 (And.intro ⟨rfl, rfl, rfl, rfl⟩ (And.intro rfl ?_)))
                    refine fcall _ h0 (fzs_sub (by decide +kernel) hW) hB42 (ct_M_seek_5a34b (fBz h0 hB42) (by omega) (by omega) (by omega) (by omega) (by omega) (by omega) (by omega)) ?_
                    rintro IhB55 _ hB55 fhB55 rfl
                    have t56 := fhB55 741 12 (by decide +kernel)
                    have k57 := fBz_eq hB55 (a := 741) (j := 12) (by decide +kernel)
                    exact fcutJ (I := IhB55) (j := jc_M_seek_2af86_59) (lv' := [(0, .inr (.inr (some 740))), (1, .inl _), (2, .inl _), (3, .inl _), (4, .inl _), (5, .inl _), (6, .inl _)]) (And.intro rfl (And.intro rfl (And.intro rfl (And.intro rfl (And.intro rfl (And.intro rfl (And.intro rfl True.intro))))))) ⟨_, _, _, _, _, _, rfl, rfl, by omega, rfl⟩ (by omega)
                  · intro c58
                    refine And.intro ⟨rfl, by decide, by decide⟩ ?_
                    refine fload rL_741_741_4371_4389_3_0 h0 hB42 (by omega) ?_
                    intro z59 lz59 uz59 qz59
                    intro z60 hz60 ez60 bz60
                    clear ez60
                    have bz60 := bz60 (by omega)
                    intro z61 hz61 ez61 bz61
                    clear ez61
                    try replace bz61 := bz61 (by omega)
                    intro z62 hz62 ez62 bz62
                    clear ez62
                    try replace bz62 := bz62 (by omega)
                    refine Exists.intro xm_481 (And.intro mi_481 (And.intro ⟨rfl, rfl, rfl, rfl⟩ (And.intro rfl ?_)))
                    refine fcall _ h0 (fzs_sub (by decide +kernel) hW) hB42 (ct_M_seek_5a34b (fBz h0 hB42) (by omega) (by omega) (by omega) (by omega) (by omega) (by omega) (by omega)) ?_
                    rintro IhB64 _ hB64 fhB64 rfl
                    have t65 := fhB64 741 12 (by decide +kernel)
                    have k66 := fBz_eq hB64 (a := 741) (j := 12) (by decide +kernel)
                    exact fcutJ (I := IhB64) (j := jc_M_seek_2af86_59) (lv' := [(0, .inr (.inr (some 740))), (1, .inl _), (2, .inl _), (3, .inl _), (4, .inl _), (5, .inl _), (6, .inl _)]) (And.intro rfl (And.intro rfl (And.intro rfl (And.intro rfl (And.intro rfl (And.intro rfl (And.intro rfl True.intro))))))) ⟨_, _, _, _, _, _, rfl, rfl, by omega, rfl⟩ (by omega)
              · intro c67
                refine And.intro ⟨rfl, by decide, by decide⟩ (And.intro rfl (And.intro (Or.inr ⟨rfl, by omega⟩) (fputf fb_740_35 (by decide +kernel) hW (by omega) ?_)))
                intro IhB68 ehB68 hB68
                have t69 : IhB68 740 34 = I1 740 34 := (congrFun (congrFun ehB68 740) 34).trans (fup_ne (by omega))
                have t70 := fup_at ehB68 35 (by omega)
                have t71 : IhB68 741 12 = I1 741 12 := (congrFun (congrFun ehB68 741) 12).trans (fup_ne (by omega))
                have k72 := fBz_eq hB68 (a := 741) (j := 12) (by decide +kernel)
                refine And.intro ⟨rfl, by decide, by decide⟩ (fgetf fb_740_35 h0 hB68 ?_)
                intro z73 lz73 uz73 qz73
                refine And.intro (by omega) (And.intro ?_ ?_)
                · intro c74
                  exact fcutJ (I := IhB68) (j := jc_M_seek_2af86_59) (lv' := [(0, .inr (.inr (some 740))), (1, .inl _), (2, .inl _), (3, .inl _), (4, .inl _), (5, .inl _), (6, .inl _)]) (And.intro rfl (And.intro rfl (And.intro rfl (And.intro rfl (And.intro rfl (And.intro rfl (And.intro rfl True.intro))))))) ⟨_, _, _, _, _, _, rfl, rfl, by omega, rfl⟩ (by omega)
                · intro c75
                  refine And.intro ⟨rfl, by decide, by decide⟩ (fgetf fb_740_34 h0 hB68 ?_)
                  intro z76 lz76 uz76 qz76
                  intro z77 hz77 ez77 bz77
                  clear ez77
                  try replace bz77 := bz77 (by omega)
                  refine And.intro ⟨rfl, by decide, by decide⟩ (And.intro rfl (And.intro (Or.inl rfl) (fputf fb_740_34 (by decide +kernel) hW (by omega) ?_)))
                  intro IhB78 ehB78 hB78
                  have t79 := fup_at ehB78 34 (by omega)
                  have t80 : IhB78 740 35 = IhB68 740 35 := (congrFun (congrFun ehB78 740) 35).trans (fup_ne (by omega))
                  have t81 : IhB78 741 12 = IhB68 741 12 := (congrFun (congrFun ehB78 741) 12).trans (fup_ne (by omega))
                  have k82 := fBz_eq hB78 (a := 741) (j := 12) (by decide +kernel)
                  refine And.intro ⟨rfl, by decide, by decide⟩ ?_
                  refine fstore rS_757_757_0_6_1_0 (fzs_sub (by decide +kernel) hW) (by omega) (by omega) ?_
                  intro IhB83 ehB83 hB83
                  have t84 := fup_self ehB83
                  have t85 : IhB83 740 34 = IhB78 740 34 := (congrFun (congrFun ehB83 740) 34).trans (fup_ne (by omega))
                  have t86 : IhB83 740 35 = IhB78 740 35 := (congrFun (congrFun ehB83 740) 35).trans (fup_ne (by omega))
                  have t87 : IhB83 741 12 = IhB78 741 12 := (congrFun (congrFun ehB83 741) 12).trans (fup_ne (by omega))
                  have k88 := fBz_eq hB83 (a := 741) (j := 12) (by decide +kernel)
                  refine And.intro ⟨rfl, by decide, by decide⟩ ?_
                  refine fload rL_741_741_4370_4388_3_0 h0 hB83 (by omega) ?_
                  intro z89 lz89 uz89 qz89
                  intro z90 hz90 ez90 bz90
                  clear ez90
                  have bz90 := bz90 (by omega)
                  intro z91 hz91 ez91
                  intro z92 hz92 ez92
                  refine And.intro (by omega) (And.intro ?_ ?_)
                  · intro c93
                    intro z94 hz94 ez94 bz94
                    clear ez94
                    try replace bz94 := bz94 (by omega)
                    refine Exists.intro xm_481 (And.intro mi_481 (And.intro ⟨rfl, rfl, rfl, rfl⟩ (And.intro rfl ?_)))
                    refine fcall _ h0 (fzs_sub (by decide +kernel) hW) hB83 (ct_M_seek_5a34b (fBz h0 hB83) (by omega) (by omega) (by omega) (by omega) (by omega) (by omega) (by omega)) ?_
                    rintro IhB96 _ hB96 fhB96 rfl
                    have t97 := fhB96 741 12 (by decide +kernel)
                    have k98 := fBz_eq hB96 (a := 741) (j := 12) (by decide +kernel)
                    exact fcutJ (I := IhB96) (j := jc_M_seek_2af86_59) (lv' := [(0, .inr (.inr (some 740))), (1, .inl _), (2, .inl _), (3, .inl _), (4, .inl _), (5, .inl _), (6, .inl _)]) (And.intro rfl (And.intro rfl (And.intro rfl (And.intro rfl (And.intro rfl (And.intro rfl (And.intro rfl True.intro))))))) ⟨_, _, _, _, _, _, rfl, rfl, by omega, rfl⟩ (by omega)
                  · intro c99
                    refine And.intro ⟨rfl, by decide, by decide⟩ ?_
                    refine fload rL_741_741_4371_4389_3_0 h0 hB83 (by omega) ?_
                    intro z100 lz100 uz100 qz100
                    intro z101 hz101 ez101 bz101
                    clear ez101
                    have bz101 := bz101 (by omega)
                    intro z102 hz102 ez102 bz102
                    clear ez102
                    try replace bz102 := bz102 (by omega)
                    intro z103 hz103 ez103 bz103
                    clear ez103
                    try replace bz103 := bz103 (by omega)
                    refine Exists.intro xm_481 (And.intro mi_481 (And.intro ⟨rfl, rfl, rfl, rfl⟩ (And.intro rfl ?_)))
                    refine fcall _ h0 (fzs_sub (by decide +kernel) hW) hB83 (ct_M_seek_5a34b (fBz h0 hB83) (by omega) (by omega) (by omega) (by omega) (by omega) (by omega) (by omega)) ?_
                    rintro IhB105 _ hB105 fhB105 rfl
                    have t106 := fhB105 741 12 (by decide +kernel)
                    have k107 := fBz_eq hB105 (a := 741) (j := 12) (by decide +kernel)
                    exact fcutJ (I := IhB105) (j := jc_M_seek_2af86_59) (lv' := [(0, .inr (.inr (some 740))), (1, .inl _), (2, .inl _), (3, .inl _), (4, .inl _), (5, .inl _), (6, .inl _)]) (And.intro rfl (And.intro rfl (And.intro rfl (And.intro rfl (And.intro rfl (And.intro rfl (And.intro rfl True.intro))))))) ⟨_, _, _, _, _, _, rfl, rfl, by omega, rfl⟩ (by omega)
            · intro c108
              exact fcutJ (I := I1) (j := jc_M_seek_2af86_59) (lv' := [(0, .inr (.inr (some 740))), (1, .inl _), (2, .inl _), (3, .inl _), (4, .inl _), (5, .inl _), (6, .inl _)]) (And.intro rfl (And.intro rfl (And.intro rfl (And.intro rfl (And.intro rfl (And.intro rfl (And.intro rfl True.intro))))))) ⟨_, _, _, _, _, _, rfl, rfl, by omega, rfl⟩ (by omega)
  · have hB0 := fB_self (zn := znJ) (K := fKc wz_4d25e) h0
    refine And.intro ⟨rfl, by decide, by decide⟩ ?_
    refine fload rL_741_741_12_12_1_0 h0 hB0 (by omega) ?_
    intro z109 lz109 uz109 qz109
    have pz109 := fld_at qz109 12 (by omega)
    refine And.intro (by omega) (And.intro ?_ ?_)
    · intro c110
      exact fcutJ (I := I) (j := jc_M_seek_2af86_59) (lv' := [(0, .inr (.inr (some 740))), (1, .inl _), (2, .inl _), (3, .inl _), (4, .inl _), (5, .inl _), (6, .inl _)]) (And.intro rfl (And.intro rfl (And.intro rfl (And.intro rfl (And.intro rfl (And.intro rfl (And.intro rfl True.intro))))))) ⟨_, _, _, _, _, _, rfl, rfl, by omega, rfl⟩ (by omega)
    · intro c111
      refine And.intro ⟨rfl, by decide, by decide⟩ (fgetf fb_740_33 h0 hB0 ?_)
      intro z112 lz112 uz112 qz112
      refine And.intro (by omega) (And.intro ?_ ?_)
      · intro c113
        exact rfl
      · intro c114
        refine And.intro ⟨rfl, by decide, by decide⟩ (And.intro rfl (And.intro (Or.inl rfl) (fputf fb_740_33 (by decide +kernel) hW (by omega) ?_)))
        intro IhB115 ehB115 hB115
        have t116 := fup_at ehB115 33 (by omega)
        have t117 : IhB115 741 12 = I 741 12 := (congrFun (congrFun ehB115 741) 12).trans (fup_ne (by omega))
        have k118 := fBz_eq hB115 (a := 741) (j := 12) (by decide +kernel)
        exact fcutJ (I := IhB115) (j := jc_M_seek_2af86_29) (lv' := [(0, .inr (.inr (some 740))), (2, .inl _), (6, .inl _)]) (And.intro rfl (And.intro rfl (And.intro rfl True.intro))) ⟨_, _, rfl, rfl, by omega, rfl⟩ (by omega)
abbrev jc_M_seek_6e4c8_29 : Nat → fL → List fV → fH → Prop := fun m lv st I => ∃ (y2 : Int) (y6 : Int), lv = [(0, .inr (.inr (some 740))), (2, .inl y2), (6, .inl y6)] ∧ st = [] ∧ (((3 ≤ y2 ∧ y2 ≤ 3) ∧ (0 ≤ y6 ∧ y6 ≤ 3) ∧ ((-2147483647) ≤ I 740 33 ∧ I 740 33 ≤ 2147483647) ∧ (3 ≤ I 741 12 ∧ I 741 12 ≤ 3))) ∧ m = (9 + 1 * (3 - y6) : Int).toNat
abbrev jc_M_seek_6e4c8_59 : Nat → fL → List fV → fH → Prop := fun m lv st I => ∃ (y1 : Int) (y2 : Int) (y3 : Int) (y4 : Int) (y5 : Int) (y6 : Int), lv = [(0, .inr (.inr (some 740))), (1, .inl y1), (2, .inl y2), (3, .inl y3), (4, .inl y4), (5, .inl y5), (6, .inl y6)] ∧ st = [] ∧ (((1 ≤ y1 ∧ y1 ≤ 60) ∧ (3 ≤ y2 ∧ y2 ≤ 3) ∧ ((-2147483648) ≤ y3 ∧ y3 ≤ 2147483647) ∧ (0 ≤ y4 ∧ y4 ≤ 27) ∧ ((-2147483648) ≤ y5 ∧ y5 ≤ 2147483647) ∧ (0 ≤ y6 ∧ y6 ≤ 7) ∧ (y2 < I 741 12))) ∧ m = (1 + 1 * (7 - y6) : Int).toNat
set_option maxRecDepth 8000 in
theorem ct_M_seek_6e4c8 {I : fH} {x1 : Int} {x2 : Int} {x3 : Int} {x4 : Int} {x5 : Int} (h0 : fB bsJ I) (ha1 : (1 ≤ x1 ∧ x1 ≤ 60)) (ha2 : (3 ≤ x2 ∧ x2 ≤ 3)) (ha3 : ((-2147483648) ≤ x3 ∧ x3 ≤ 2147483647)) (ha4 : (0 ≤ x4 ∧ x4 ≤ 27)) (ha5 : ((-2147483648) ≤ x5 ∧ x5 ≤ 2147483647)) (hp0 : x2 = 3) (hp1 : x2 ≤ I 741 12) : fC ρ base n F xTc vwCl xTys D dA la gJ (fbz bsJ znJ (fKc wz_4d25e) I) xm_483 [.inr (.inr (some 740)), .inl x1, .inl x2, .inl x3, .inl x4, .inl x5] I (fun _ r => r = none) := by
  have hW : fzs wz_4d25e (fKc wz_4d25e) := fKc_ok _
  refine f_meth (rb := rbJ) (J := [(29, jc_M_seek_6e4c8_29), (59, jc_M_seek_6e4c8_59)]) 13 400 xG xin_483 x6_483 okJ (fB_self h0) ?_ ?_
  · refine List.forall_mem_cons.mpr ⟨?_, List.forall_mem_cons.mpr ⟨?_, fun q h => absurd h List.not_mem_nil⟩⟩
    · rintro m _ _ I1 hB1 ⟨y2, y6, rfl, rfl, hb, hm⟩
      have k1 := fBz_eq hB1 (a := 741) (j := 12) (by decide +kernel)
      refine And.intro (by omega) (And.intro ?_ ?_)
      · intro c2
        exact rfl
      · intro c3
        refine And.intro ⟨rfl, by decide, by decide⟩ ?_
        refine And.intro ⟨rfl, by decide, by decide⟩ ?_
        refine fload rL_757_757_0_6_1_0 h0 hB1 (by omega) ?_
        intro z4 lz4 uz4 qz4
        refine fstore rS_758_758_0_6_1_0 (fzs_sub (by decide +kernel) hW) (by omega) (by omega) ?_
        intro IhB5 ehB5 hB5
        have t6 := fup_self ehB5
        have t7 : IhB5 740 33 = I1 740 33 := (congrFun (congrFun ehB5 740) 33).trans (fup_ne (by omega))
        have t8 : IhB5 741 12 = I1 741 12 := (congrFun (congrFun ehB5 741) 12).trans (fup_ne (by omega))
        have k9 := fBz_eq hB5 (a := 741) (j := 12) (by decide +kernel)
        exact fcutJ (I := IhB5) (j := jc_M_seek_6e4c8_29) (lv' := [(0, .inr (.inr (some 740))), (2, .inl _), (6, .inl _)]) (And.intro rfl (And.intro rfl (And.intro rfl True.intro))) ⟨_, _, rfl, rfl, by omega, rfl⟩ (by omega)
    · rintro m _ _ I1 hB1 ⟨y1, y2, y3, y4, y5, y6, rfl, rfl, hb, hm⟩
      have k10 := fBz_eq hB1 (a := 741) (j := 12) (by decide +kernel)
      refine And.intro ⟨rfl, by decide, by decide⟩ ?_
      refine fload rL_741_741_12_12_1_0 h0 hB1 (by omega) ?_
      intro z11 lz11 uz11 qz11
      have pz11 := fld_at qz11 12 (by omega)
      refine And.intro (by omega) (And.intro ?_ ?_)
      · intro c12
        exact rfl
      · intro c13
        refine And.intro ⟨rfl, by decide, by decide⟩ (fgetf fb_740_35 h0 hB1 ?_)
        intro z14 lz14 uz14 qz14
        refine And.intro (by omega) (And.intro ?_ ?_)
        · intro c15
          exact rfl
        · intro c16
          intro z17 hz17 ez17
          intro z18 hz18 ez18 bz18
          clear ez18
          have bz18 := bz18 (by omega)
          refine And.intro (by omega) (And.intro ?_ ?_)
          · intro c19
            exact fcutJ (I := I1) (j := jc_M_seek_6e4c8_59) (lv' := [(0, .inr (.inr (some 740))), (1, .inl _), (2, .inl _), (3, .inl _), (4, .inl _), (5, .inl _), (6, .inl _)]) (And.intro rfl (And.intro rfl (And.intro rfl (And.intro rfl (And.intro rfl (And.intro rfl (And.intro rfl True.intro))))))) ⟨_, _, _, _, _, _, rfl, rfl, by omega, rfl⟩ (by omega)
          · intro c20
            refine And.intro ⟨rfl, by decide, by decide⟩ ?_
            refine fload rL_741_741_4372_4390_3_0 h0 hB1 (by omega) ?_
            intro z21 lz21 uz21 qz21
            intro z22 hz22 ez22
            intro z23 hz23 ez23 bz23
            clear ez23
            clear bz23
            refine And.intro (by omega) (And.intro ?_ ?_)
            · intro c24
              refine And.intro ⟨rfl, by decide, by decide⟩ (fgetf fb_740_34 h0 hB1 ?_)
              intro z25 lz25 uz25 qz25
              refine And.intro (by omega) (And.intro ?_ ?_)
              · intro c26
                refine And.intro ⟨rfl, by decide, by decide⟩ (And.intro rfl (And.intro (Or.inr ⟨rfl, by omega⟩) (fputf fb_740_35 (by decide +kernel) hW (by omega) ?_)))
                intro IhB27 ehB27 hB27
                have t28 : IhB27 740 34 = I1 740 34 := (congrFun (congrFun ehB27 740) 34).trans (fup_ne (by omega))
                have t29 := fup_at ehB27 35 (by omega)
                have t30 : IhB27 741 12 = I1 741 12 := (congrFun (congrFun ehB27 741) 12).trans (fup_ne (by omega))
                have k31 := fBz_eq hB27 (a := 741) (j := 12) (by decide +kernel)
                refine And.intro ⟨rfl, by decide, by decide⟩ (fgetf fb_740_35 h0 hB27 ?_)
                intro z32 lz32 uz32 qz32
                refine And.intro (by omega) (And.intro ?_ ?_)
                · intro c33
                  exact fcutJ (I := IhB27) (j := jc_M_seek_6e4c8_59) (lv' := [(0, .inr (.inr (some 740))), (1, .inl _), (2, .inl _), (3, .inl _), (4, .inl _), (5, .inl _), (6, .inl _)]) (And.intro rfl (And.intro rfl (And.intro rfl (And.intro rfl (And.intro rfl (And.intro rfl (And.intro rfl True.intro))))))) ⟨_, _, _, _, _, _, rfl, rfl, by omega, rfl⟩ (by omega)
                · intro c34
                  refine And.intro ⟨rfl, by decide, by decide⟩ (fgetf fb_740_34 h0 hB27 ?_)
                  intro z35 lz35 uz35 qz35
                  intro z36 hz36 ez36 bz36
                  clear ez36
                  try replace bz36 := bz36 (by omega)
                  refine And.intro ⟨rfl, by decide, by decide⟩ (And.intro rfl (And.intro (Or.inl rfl) (fputf fb_740_34 (by decide +kernel) hW (by omega) ?_)))
                  intro IhB37 ehB37 hB37
                  have t38 := fup_at ehB37 34 (by omega)
                  have t39 : IhB37 740 35 = IhB27 740 35 := (congrFun (congrFun ehB37 740) 35).trans (fup_ne (by omega))
                  have t40 : IhB37 741 12 = IhB27 741 12 := (congrFun (congrFun ehB37 741) 12).trans (fup_ne (by omega))
                  have k41 := fBz_eq hB37 (a := 741) (j := 12) (by decide +kernel)
                  refine And.intro ⟨rfl, by decide, by decide⟩ ?_
                  refine fstore rS_757_757_0_6_1_0 (fzs_sub (by decide +kernel) hW) (by omega) (by omega) ?_
                  intro IhB42 ehB42 hB42
                  have t43 := fup_self ehB42
                  have t44 : IhB42 740 34 = IhB37 740 34 := (congrFun (congrFun ehB42 740) 34).trans (fup_ne (by omega))
                  have t45 : IhB42 740 35 = IhB37 740 35 := (congrFun (congrFun ehB42 740) 35).trans (fup_ne (by omega))
                  have t46 : IhB42 741 12 = IhB37 741 12 := (congrFun (congrFun ehB42 741) 12).trans (fup_ne (by omega))
                  have k47 := fBz_eq hB42 (a := 741) (j := 12) (by decide +kernel)
                  refine And.intro ⟨rfl, by decide, by decide⟩ ?_
                  refine fload rL_741_741_4370_4388_3_0 h0 hB42 (by omega) ?_
                  intro z48 lz48 uz48 qz48
                  intro z49 hz49 ez49 bz49
                  clear ez49
                  have bz49 := bz49 (by omega)
                  intro z50 hz50 ez50
                  intro z51 hz51 ez51
                  refine And.intro (by omega) (And.intro ?_ ?_)
                  · intro c52
                    intro z53 hz53 ez53 bz53
                    clear ez53
                    try replace bz53 := bz53 (by omega)
                    refine Exists.intro xm_482 (And.intro mi_482 (And.intro ⟨rfl, rfl, rfl, rfl⟩ (And.intro rfl ?_)))
                    refine fcall _ h0 (fzs_sub (by decide +kernel) hW) hB42 (ct_M_seek_2af86 (fBz h0 hB42) (by omega) (by omega) (by omega) (by omega) (by omega) (by omega) (by omega)) ?_
                    rintro IhB55 _ hB55 fhB55 rfl
                    have t56 := fhB55 741 12 (by decide +kernel)
                    have k57 := fBz_eq hB55 (a := 741) (j := 12) (by decide +kernel)
                    exact fcutJ (I := IhB55) (j := jc_M_seek_6e4c8_59) (lv' := [(0, .inr (.inr (some 740))), (1, .inl _), (2, .inl _), (3, .inl _), (4, .inl _), (5, .inl _), (6, .inl _)]) (And.intro rfl (And.intro rfl (And.intro rfl (And.intro rfl (And.intro rfl (And.intro rfl (And.intro rfl True.intro))))))) ⟨_, _, _, _, _, _, rfl, rfl, by omega, rfl⟩ (by omega)
                  · intro c58
                    refine And.intro ⟨rfl, by decide, by decide⟩ ?_
                    refine fload rL_741_741_4371_4389_3_0 h0 hB42 (by omega) ?_
                    intro z59 lz59 uz59 qz59
                    intro z60 hz60 ez60 bz60
                    clear ez60
                    have bz60 := bz60 (by omega)
                    intro z61 hz61 ez61 bz61
                    clear ez61
                    try replace bz61 := bz61 (by omega)
                    intro z62 hz62 ez62 bz62
                    clear ez62
                    try replace bz62 := bz62 (by omega)
                    refine Exists.intro xm_482 (And.intro mi_482 (And.intro ⟨rfl, rfl, rfl, rfl⟩ (And.intro rfl ?_)))
                    refine fcall _ h0 (fzs_sub (by decide +kernel) hW) hB42 (ct_M_seek_2af86 (fBz h0 hB42) (by omega) (by omega) (by omega) (by omega) (by omega) (by omega) (by omega)) ?_
                    rintro IhB64 _ hB64 fhB64 rfl
                    have t65 := fhB64 741 12 (by decide +kernel)
                    have k66 := fBz_eq hB64 (a := 741) (j := 12) (by decide +kernel)
                    exact fcutJ (I := IhB64) (j := jc_M_seek_6e4c8_59) (lv' := [(0, .inr (.inr (some 740))), (1, .inl _), (2, .inl _), (3, .inl _), (4, .inl _), (5, .inl _), (6, .inl _)]) (And.intro rfl (And.intro rfl (And.intro rfl (And.intro rfl (And.intro rfl (And.intro rfl (And.intro rfl True.intro))))))) ⟨_, _, _, _, _, _, rfl, rfl, by omega, rfl⟩ (by omega)
              · intro c67
                refine And.intro ⟨rfl, by decide, by decide⟩ (And.intro rfl (And.intro (Or.inr ⟨rfl, by omega⟩) (fputf fb_740_35 (by decide +kernel) hW (by omega) ?_)))
                intro IhB68 ehB68 hB68
                have t69 : IhB68 740 34 = I1 740 34 := (congrFun (congrFun ehB68 740) 34).trans (fup_ne (by omega))
                have t70 := fup_at ehB68 35 (by omega)
                have t71 : IhB68 741 12 = I1 741 12 := (congrFun (congrFun ehB68 741) 12).trans (fup_ne (by omega))
                have k72 := fBz_eq hB68 (a := 741) (j := 12) (by decide +kernel)
                refine And.intro ⟨rfl, by decide, by decide⟩ (fgetf fb_740_35 h0 hB68 ?_)
                intro z73 lz73 uz73 qz73
                refine And.intro (by omega) (And.intro ?_ ?_)
                · intro c74
                  exact fcutJ (I := IhB68) (j := jc_M_seek_6e4c8_59) (lv' := [(0, .inr (.inr (some 740))), (1, .inl _), (2, .inl _), (3, .inl _), (4, .inl _), (5, .inl _), (6, .inl _)]) (And.intro rfl (And.intro rfl (And.intro rfl (And.intro rfl (And.intro rfl (And.intro rfl (And.intro rfl True.intro))))))) ⟨_, _, _, _, _, _, rfl, rfl, by omega, rfl⟩ (by omega)
                · intro c75
                  refine And.intro ⟨rfl, by decide, by decide⟩ (fgetf fb_740_34 h0 hB68 ?_)
                  intro z76 lz76 uz76 qz76
                  intro z77 hz77 ez77 bz77
                  clear ez77
                  try replace bz77 := bz77 (by omega)
                  refine And.intro ⟨rfl, by decide, by decide⟩ (And.intro rfl (And.intro (Or.inl rfl) (fputf fb_740_34 (by decide +kernel) hW (by omega) ?_)))
                  intro IhB78 ehB78 hB78
                  have t79 := fup_at ehB78 34 (by omega)
                  have t80 : IhB78 740 35 = IhB68 740 35 := (congrFun (congrFun ehB78 740) 35).trans (fup_ne (by omega))
                  have t81 : IhB78 741 12 = IhB68 741 12 := (congrFun (congrFun ehB78 741) 12).trans (fup_ne (by omega))
                  have k82 := fBz_eq hB78 (a := 741) (j := 12) (by decide +kernel)
                  refine And.intro ⟨rfl, by decide, by decide⟩ ?_
                  refine fstore rS_757_757_0_6_1_0 (fzs_sub (by decide +kernel) hW) (by omega) (by omega) ?_
                  intro IhB83 ehB83 hB83
                  have t84 := fup_self ehB83
                  have t85 : IhB83 740 34 = IhB78 740 34 := (congrFun (congrFun ehB83 740) 34).trans (fup_ne (by omega))
                  have t86 : IhB83 740 35 = IhB78 740 35 := (congrFun (congrFun ehB83 740) 35).trans (fup_ne (by omega))
                  have t87 : IhB83 741 12 = IhB78 741 12 := (congrFun (congrFun ehB83 741) 12).trans (fup_ne (by omega))
                  have k88 := fBz_eq hB83 (a := 741) (j := 12) (by decide +kernel)
                  refine And.intro ⟨rfl, by decide, by decide⟩ ?_
                  refine fload rL_741_741_4370_4388_3_0 h0 hB83 (by omega) ?_
                  intro z89 lz89 uz89 qz89
                  intro z90 hz90 ez90 bz90
                  clear ez90
                  have bz90 := bz90 (by omega)
                  intro z91 hz91 ez91
                  intro z92 hz92 ez92
                  refine And.intro (by omega) (And.intro ?_ ?_)
                  · intro c93
                    intro z94 hz94 ez94 bz94
                    clear ez94
                    try replace bz94 := bz94 (by omega)
                    refine Exists.intro xm_482 (And.intro mi_482 (And.intro ⟨rfl, rfl, rfl, rfl⟩ (And.intro rfl ?_)))
                    refine fcall _ h0 (fzs_sub (by decide +kernel) hW) hB83 (ct_M_seek_2af86 (fBz h0 hB83) (by omega) (by omega) (by omega) (by omega) (by omega) (by omega) (by omega)) ?_
                    rintro IhB96 _ hB96 fhB96 rfl
                    have t97 := fhB96 741 12 (by decide +kernel)
                    have k98 := fBz_eq hB96 (a := 741) (j := 12) (by decide +kernel)
                    exact fcutJ (I := IhB96) (j := jc_M_seek_6e4c8_59) (lv' := [(0, .inr (.inr (some 740))), (1, .inl _), (2, .inl _), (3, .inl _), (4, .inl _), (5, .inl _), (6, .inl _)]) (And.intro rfl (And.intro rfl (And.intro rfl (And.intro rfl (And.intro rfl (And.intro rfl (And.intro rfl True.intro))))))) ⟨_, _, _, _, _, _, rfl, rfl, by omega, rfl⟩ (by omega)
                  · intro c99
                    refine And.intro ⟨rfl, by decide, by decide⟩ ?_
                    refine fload rL_741_741_4371_4389_3_0 h0 hB83 (by omega) ?_
                    intro z100 lz100 uz100 qz100
                    intro z101 hz101 ez101 bz101
                    clear ez101
                    have bz101 := bz101 (by omega)
                    intro z102 hz102 ez102 bz102
                    clear ez102
                    try replace bz102 := bz102 (by omega)
                    intro z103 hz103 ez103 bz103
                    clear ez103
                    try replace bz103 := bz103 (by omega)
                    refine Exists.intro xm_482 (And.intro mi_482 (And.intro ⟨rfl, rfl, rfl, rfl⟩ (And.intro rfl ?_)))
                    refine fcall _ h0 (fzs_sub (by decide +kernel) hW) hB83 (ct_M_seek_2af86 (fBz h0 hB83) (by omega) (by omega) (by omega) (by omega) (by omega) (by omega) (by omega)) ?_
                    rintro IhB105 _ hB105 fhB105 rfl
                    have t106 := fhB105 741 12 (by decide +kernel)
                    have k107 := fBz_eq hB105 (a := 741) (j := 12) (by decide +kernel)
                    exact fcutJ (I := IhB105) (j := jc_M_seek_6e4c8_59) (lv' := [(0, .inr (.inr (some 740))), (1, .inl _), (2, .inl _), (3, .inl _), (4, .inl _), (5, .inl _), (6, .inl _)]) (And.intro rfl (And.intro rfl (And.intro rfl (And.intro rfl (And.intro rfl (And.intro rfl (And.intro rfl True.intro))))))) ⟨_, _, _, _, _, _, rfl, rfl, by omega, rfl⟩ (by omega)
            · intro c108
              exact fcutJ (I := I1) (j := jc_M_seek_6e4c8_59) (lv' := [(0, .inr (.inr (some 740))), (1, .inl _), (2, .inl _), (3, .inl _), (4, .inl _), (5, .inl _), (6, .inl _)]) (And.intro rfl (And.intro rfl (And.intro rfl (And.intro rfl (And.intro rfl (And.intro rfl (And.intro rfl True.intro))))))) ⟨_, _, _, _, _, _, rfl, rfl, by omega, rfl⟩ (by omega)
  · have hB0 := fB_self (zn := znJ) (K := fKc wz_4d25e) h0
    refine And.intro ⟨rfl, by decide, by decide⟩ ?_
    refine fload rL_741_741_12_12_1_0 h0 hB0 (by omega) ?_
    intro z109 lz109 uz109 qz109
    have pz109 := fld_at qz109 12 (by omega)
    refine And.intro (by omega) (And.intro ?_ ?_)
    · intro c110
      exact fcutJ (I := I) (j := jc_M_seek_6e4c8_59) (lv' := [(0, .inr (.inr (some 740))), (1, .inl _), (2, .inl _), (3, .inl _), (4, .inl _), (5, .inl _), (6, .inl _)]) (And.intro rfl (And.intro rfl (And.intro rfl (And.intro rfl (And.intro rfl (And.intro rfl (And.intro rfl True.intro))))))) ⟨_, _, _, _, _, _, rfl, rfl, by omega, rfl⟩ (by omega)
    · intro c111
      refine And.intro ⟨rfl, by decide, by decide⟩ (fgetf fb_740_33 h0 hB0 ?_)
      intro z112 lz112 uz112 qz112
      refine And.intro (by omega) (And.intro ?_ ?_)
      · intro c113
        exact rfl
      · intro c114
        refine And.intro ⟨rfl, by decide, by decide⟩ (And.intro rfl (And.intro (Or.inl rfl) (fputf fb_740_33 (by decide +kernel) hW (by omega) ?_)))
        intro IhB115 ehB115 hB115
        have t116 := fup_at ehB115 33 (by omega)
        have t117 : IhB115 741 12 = I 741 12 := (congrFun (congrFun ehB115 741) 12).trans (fup_ne (by omega))
        have k118 := fBz_eq hB115 (a := 741) (j := 12) (by decide +kernel)
        exact fcutJ (I := IhB115) (j := jc_M_seek_6e4c8_29) (lv' := [(0, .inr (.inr (some 740))), (2, .inl _), (6, .inl _)]) (And.intro rfl (And.intro rfl (And.intro rfl True.intro))) ⟨_, _, rfl, rfl, by omega, rfl⟩ (by omega)
abbrev jc_M_seek_92ac3_29 : Nat → fL → List fV → fH → Prop := fun m lv st I => ∃ (y2 : Int) (y6 : Int), lv = [(0, .inr (.inr (some 740))), (2, .inl y2), (6, .inl y6)] ∧ st = [] ∧ (((2 ≤ y2 ∧ y2 ≤ 2) ∧ (0 ≤ y6 ∧ y6 ≤ 2) ∧ ((-2147483647) ≤ I 740 33 ∧ I 740 33 ≤ 2147483647) ∧ (2 ≤ I 741 12 ∧ I 741 12 ≤ 2))) ∧ m = (9 + 1 * (2 - y6) : Int).toNat
abbrev jc_M_seek_92ac3_59 : Nat → fL → List fV → fH → Prop := fun m lv st I => ∃ (y1 : Int) (y2 : Int) (y3 : Int) (y4 : Int) (y5 : Int) (y6 : Int), lv = [(0, .inr (.inr (some 740))), (1, .inl y1), (2, .inl y2), (3, .inl y3), (4, .inl y4), (5, .inl y5), (6, .inl y6)] ∧ st = [] ∧ (((1 ≤ y1 ∧ y1 ≤ 60) ∧ (2 ≤ y2 ∧ y2 ≤ 2) ∧ ((-2147483648) ≤ y3 ∧ y3 ≤ 2147483647) ∧ (0 ≤ y4 ∧ y4 ≤ 18) ∧ ((-2147483648) ≤ y5 ∧ y5 ≤ 2147483647) ∧ (0 ≤ y6 ∧ y6 ≤ 7) ∧ (y2 < I 741 12))) ∧ m = (1 + 1 * (7 - y6) : Int).toNat
set_option maxRecDepth 8000 in
theorem ct_M_seek_92ac3 {I : fH} {x1 : Int} {x2 : Int} {x3 : Int} {x4 : Int} {x5 : Int} (h0 : fB bsJ I) (ha1 : (1 ≤ x1 ∧ x1 ≤ 60)) (ha2 : (2 ≤ x2 ∧ x2 ≤ 2)) (ha3 : ((-2147483648) ≤ x3 ∧ x3 ≤ 2147483647)) (ha4 : (0 ≤ x4 ∧ x4 ≤ 18)) (ha5 : ((-2147483648) ≤ x5 ∧ x5 ≤ 2147483647)) (hp0 : x2 = 2) (hp1 : x2 ≤ I 741 12) : fC ρ base n F xTc vwCl xTys D dA la gJ (fbz bsJ znJ (fKc wz_4d25e) I) xm_484 [.inr (.inr (some 740)), .inl x1, .inl x2, .inl x3, .inl x4, .inl x5] I (fun _ r => r = none) := by
  have hW : fzs wz_4d25e (fKc wz_4d25e) := fKc_ok _
  refine f_meth (rb := rbJ) (J := [(29, jc_M_seek_92ac3_29), (59, jc_M_seek_92ac3_59)]) 12 400 xG xin_484 x6_484 okJ (fB_self h0) ?_ ?_
  · refine List.forall_mem_cons.mpr ⟨?_, List.forall_mem_cons.mpr ⟨?_, fun q h => absurd h List.not_mem_nil⟩⟩
    · rintro m _ _ I1 hB1 ⟨y2, y6, rfl, rfl, hb, hm⟩
      have k1 := fBz_eq hB1 (a := 741) (j := 12) (by decide +kernel)
      refine And.intro (by omega) (And.intro ?_ ?_)
      · intro c2
        exact rfl
      · intro c3
        refine And.intro ⟨rfl, by decide, by decide⟩ ?_
        refine And.intro ⟨rfl, by decide, by decide⟩ ?_
        refine fload rL_757_757_0_6_1_0 h0 hB1 (by omega) ?_
        intro z4 lz4 uz4 qz4
        refine fstore rS_758_758_0_6_1_0 (fzs_sub (by decide +kernel) hW) (by omega) (by omega) ?_
        intro IhB5 ehB5 hB5
        have t6 := fup_self ehB5
        have t7 : IhB5 740 33 = I1 740 33 := (congrFun (congrFun ehB5 740) 33).trans (fup_ne (by omega))
        have t8 : IhB5 741 12 = I1 741 12 := (congrFun (congrFun ehB5 741) 12).trans (fup_ne (by omega))
        have k9 := fBz_eq hB5 (a := 741) (j := 12) (by decide +kernel)
        exact fcutJ (I := IhB5) (j := jc_M_seek_92ac3_29) (lv' := [(0, .inr (.inr (some 740))), (2, .inl _), (6, .inl _)]) (And.intro rfl (And.intro rfl (And.intro rfl True.intro))) ⟨_, _, rfl, rfl, by omega, rfl⟩ (by omega)
    · rintro m _ _ I1 hB1 ⟨y1, y2, y3, y4, y5, y6, rfl, rfl, hb, hm⟩
      have k10 := fBz_eq hB1 (a := 741) (j := 12) (by decide +kernel)
      refine And.intro ⟨rfl, by decide, by decide⟩ ?_
      refine fload rL_741_741_12_12_1_0 h0 hB1 (by omega) ?_
      intro z11 lz11 uz11 qz11
      have pz11 := fld_at qz11 12 (by omega)
      refine And.intro (by omega) (And.intro ?_ ?_)
      · intro c12
        exact rfl
      · intro c13
        refine And.intro ⟨rfl, by decide, by decide⟩ (fgetf fb_740_35 h0 hB1 ?_)
        intro z14 lz14 uz14 qz14
        refine And.intro (by omega) (And.intro ?_ ?_)
        · intro c15
          exact rfl
        · intro c16
          intro z17 hz17 ez17
          intro z18 hz18 ez18 bz18
          clear ez18
          have bz18 := bz18 (by omega)
          refine And.intro (by omega) (And.intro ?_ ?_)
          · intro c19
            exact fcutJ (I := I1) (j := jc_M_seek_92ac3_59) (lv' := [(0, .inr (.inr (some 740))), (1, .inl _), (2, .inl _), (3, .inl _), (4, .inl _), (5, .inl _), (6, .inl _)]) (And.intro rfl (And.intro rfl (And.intro rfl (And.intro rfl (And.intro rfl (And.intro rfl (And.intro rfl True.intro))))))) ⟨_, _, _, _, _, _, rfl, rfl, by omega, rfl⟩ (by omega)
          · intro c20
            refine And.intro ⟨rfl, by decide, by decide⟩ ?_
            refine fload rL_741_741_4372_4390_3_0 h0 hB1 (by omega) ?_
            intro z21 lz21 uz21 qz21
            intro z22 hz22 ez22
            intro z23 hz23 ez23 bz23
            clear ez23
            clear bz23
            refine And.intro (by omega) (And.intro ?_ ?_)
            · intro c24
              refine And.intro ⟨rfl, by decide, by decide⟩ (fgetf fb_740_34 h0 hB1 ?_)
              intro z25 lz25 uz25 qz25
              refine And.intro (by omega) (And.intro ?_ ?_)
              · intro c26
                refine And.intro ⟨rfl, by decide, by decide⟩ (And.intro rfl (And.intro (Or.inr ⟨rfl, by omega⟩) (fputf fb_740_35 (by decide +kernel) hW (by omega) ?_)))
                intro IhB27 ehB27 hB27
                have t28 : IhB27 740 34 = I1 740 34 := (congrFun (congrFun ehB27 740) 34).trans (fup_ne (by omega))
                have t29 := fup_at ehB27 35 (by omega)
                have t30 : IhB27 741 12 = I1 741 12 := (congrFun (congrFun ehB27 741) 12).trans (fup_ne (by omega))
                have k31 := fBz_eq hB27 (a := 741) (j := 12) (by decide +kernel)
                refine And.intro ⟨rfl, by decide, by decide⟩ (fgetf fb_740_35 h0 hB27 ?_)
                intro z32 lz32 uz32 qz32
                refine And.intro (by omega) (And.intro ?_ ?_)
                · intro c33
                  exact fcutJ (I := IhB27) (j := jc_M_seek_92ac3_59) (lv' := [(0, .inr (.inr (some 740))), (1, .inl _), (2, .inl _), (3, .inl _), (4, .inl _), (5, .inl _), (6, .inl _)]) (And.intro rfl (And.intro rfl (And.intro rfl (And.intro rfl (And.intro rfl (And.intro rfl (And.intro rfl True.intro))))))) ⟨_, _, _, _, _, _, rfl, rfl, by omega, rfl⟩ (by omega)
                · intro c34
                  refine And.intro ⟨rfl, by decide, by decide⟩ (fgetf fb_740_34 h0 hB27 ?_)
                  intro z35 lz35 uz35 qz35
                  intro z36 hz36 ez36 bz36
                  clear ez36
                  try replace bz36 := bz36 (by omega)
                  refine And.intro ⟨rfl, by decide, by decide⟩ (And.intro rfl (And.intro (Or.inl rfl) (fputf fb_740_34 (by decide +kernel) hW (by omega) ?_)))
                  intro IhB37 ehB37 hB37
                  have t38 := fup_at ehB37 34 (by omega)
                  have t39 : IhB37 740 35 = IhB27 740 35 := (congrFun (congrFun ehB37 740) 35).trans (fup_ne (by omega))
                  have t40 : IhB37 741 12 = IhB27 741 12 := (congrFun (congrFun ehB37 741) 12).trans (fup_ne (by omega))
                  have k41 := fBz_eq hB37 (a := 741) (j := 12) (by decide +kernel)
                  refine And.intro ⟨rfl, by decide, by decide⟩ ?_
                  refine fstore rS_757_757_0_6_1_0 (fzs_sub (by decide +kernel) hW) (by omega) (by omega) ?_
                  intro IhB42 ehB42 hB42
                  have t43 := fup_self ehB42
                  have t44 : IhB42 740 34 = IhB37 740 34 := (congrFun (congrFun ehB42 740) 34).trans (fup_ne (by omega))
                  have t45 : IhB42 740 35 = IhB37 740 35 := (congrFun (congrFun ehB42 740) 35).trans (fup_ne (by omega))
                  have t46 : IhB42 741 12 = IhB37 741 12 := (congrFun (congrFun ehB42 741) 12).trans (fup_ne (by omega))
                  have k47 := fBz_eq hB42 (a := 741) (j := 12) (by decide +kernel)
                  refine And.intro ⟨rfl, by decide, by decide⟩ ?_
                  refine fload rL_741_741_4370_4388_3_0 h0 hB42 (by omega) ?_
                  intro z48 lz48 uz48 qz48
                  intro z49 hz49 ez49 bz49
                  clear ez49
                  have bz49 := bz49 (by omega)
                  intro z50 hz50 ez50
                  intro z51 hz51 ez51
                  refine And.intro (by omega) (And.intro ?_ ?_)
                  · intro c52
                    intro z53 hz53 ez53 bz53
                    clear ez53
                    try replace bz53 := bz53 (by omega)
                    refine Exists.intro xm_483 (And.intro mi_483 (And.intro ⟨rfl, rfl, rfl, rfl⟩ (And.intro rfl ?_)))
                    refine fcall _ h0 (fzs_sub (by decide +kernel) hW) hB42 (ct_M_seek_6e4c8 (fBz h0 hB42) (by omega) (by omega) (by omega) (by omega) (by omega) (by omega) (by omega)) ?_
                    rintro IhB55 _ hB55 fhB55 rfl
                    have t56 := fhB55 741 12 (by decide +kernel)
                    have k57 := fBz_eq hB55 (a := 741) (j := 12) (by decide +kernel)
                    exact fcutJ (I := IhB55) (j := jc_M_seek_92ac3_59) (lv' := [(0, .inr (.inr (some 740))), (1, .inl _), (2, .inl _), (3, .inl _), (4, .inl _), (5, .inl _), (6, .inl _)]) (And.intro rfl (And.intro rfl (And.intro rfl (And.intro rfl (And.intro rfl (And.intro rfl (And.intro rfl True.intro))))))) ⟨_, _, _, _, _, _, rfl, rfl, by omega, rfl⟩ (by omega)
                  · intro c58
                    refine And.intro ⟨rfl, by decide, by decide⟩ ?_
                    refine fload rL_741_741_4371_4389_3_0 h0 hB42 (by omega) ?_
                    intro z59 lz59 uz59 qz59
                    intro z60 hz60 ez60 bz60
                    clear ez60
                    have bz60 := bz60 (by omega)
                    intro z61 hz61 ez61 bz61
                    clear ez61
                    try replace bz61 := bz61 (by omega)
                    intro z62 hz62 ez62 bz62
                    clear ez62
                    try replace bz62 := bz62 (by omega)
                    refine Exists.intro xm_483 (And.intro mi_483 (And.intro ⟨rfl, rfl, rfl, rfl⟩ (And.intro rfl ?_)))
                    refine fcall _ h0 (fzs_sub (by decide +kernel) hW) hB42 (ct_M_seek_6e4c8 (fBz h0 hB42) (by omega) (by omega) (by omega) (by omega) (by omega) (by omega) (by omega)) ?_
                    rintro IhB64 _ hB64 fhB64 rfl
                    have t65 := fhB64 741 12 (by decide +kernel)
                    have k66 := fBz_eq hB64 (a := 741) (j := 12) (by decide +kernel)
                    exact fcutJ (I := IhB64) (j := jc_M_seek_92ac3_59) (lv' := [(0, .inr (.inr (some 740))), (1, .inl _), (2, .inl _), (3, .inl _), (4, .inl _), (5, .inl _), (6, .inl _)]) (And.intro rfl (And.intro rfl (And.intro rfl (And.intro rfl (And.intro rfl (And.intro rfl (And.intro rfl True.intro))))))) ⟨_, _, _, _, _, _, rfl, rfl, by omega, rfl⟩ (by omega)
              · intro c67
                refine And.intro ⟨rfl, by decide, by decide⟩ (And.intro rfl (And.intro (Or.inr ⟨rfl, by omega⟩) (fputf fb_740_35 (by decide +kernel) hW (by omega) ?_)))
                intro IhB68 ehB68 hB68
                have t69 : IhB68 740 34 = I1 740 34 := (congrFun (congrFun ehB68 740) 34).trans (fup_ne (by omega))
                have t70 := fup_at ehB68 35 (by omega)
                have t71 : IhB68 741 12 = I1 741 12 := (congrFun (congrFun ehB68 741) 12).trans (fup_ne (by omega))
                have k72 := fBz_eq hB68 (a := 741) (j := 12) (by decide +kernel)
                refine And.intro ⟨rfl, by decide, by decide⟩ (fgetf fb_740_35 h0 hB68 ?_)
                intro z73 lz73 uz73 qz73
                refine And.intro (by omega) (And.intro ?_ ?_)
                · intro c74
                  exact fcutJ (I := IhB68) (j := jc_M_seek_92ac3_59) (lv' := [(0, .inr (.inr (some 740))), (1, .inl _), (2, .inl _), (3, .inl _), (4, .inl _), (5, .inl _), (6, .inl _)]) (And.intro rfl (And.intro rfl (And.intro rfl (And.intro rfl (And.intro rfl (And.intro rfl (And.intro rfl True.intro))))))) ⟨_, _, _, _, _, _, rfl, rfl, by omega, rfl⟩ (by omega)
                · intro c75
                  refine And.intro ⟨rfl, by decide, by decide⟩ (fgetf fb_740_34 h0 hB68 ?_)
                  intro z76 lz76 uz76 qz76
                  intro z77 hz77 ez77 bz77
                  clear ez77
                  try replace bz77 := bz77 (by omega)
                  refine And.intro ⟨rfl, by decide, by decide⟩ (And.intro rfl (And.intro (Or.inl rfl) (fputf fb_740_34 (by decide +kernel) hW (by omega) ?_)))
                  intro IhB78 ehB78 hB78
                  have t79 := fup_at ehB78 34 (by omega)
                  have t80 : IhB78 740 35 = IhB68 740 35 := (congrFun (congrFun ehB78 740) 35).trans (fup_ne (by omega))
                  have t81 : IhB78 741 12 = IhB68 741 12 := (congrFun (congrFun ehB78 741) 12).trans (fup_ne (by omega))
                  have k82 := fBz_eq hB78 (a := 741) (j := 12) (by decide +kernel)
                  refine And.intro ⟨rfl, by decide, by decide⟩ ?_
                  refine fstore rS_757_757_0_6_1_0 (fzs_sub (by decide +kernel) hW) (by omega) (by omega) ?_
                  intro IhB83 ehB83 hB83
                  have t84 := fup_self ehB83
                  have t85 : IhB83 740 34 = IhB78 740 34 := (congrFun (congrFun ehB83 740) 34).trans (fup_ne (by omega))
                  have t86 : IhB83 740 35 = IhB78 740 35 := (congrFun (congrFun ehB83 740) 35).trans (fup_ne (by omega))
                  have t87 : IhB83 741 12 = IhB78 741 12 := (congrFun (congrFun ehB83 741) 12).trans (fup_ne (by omega))
                  have k88 := fBz_eq hB83 (a := 741) (j := 12) (by decide +kernel)
                  refine And.intro ⟨rfl, by decide, by decide⟩ ?_
                  refine fload rL_741_741_4370_4388_3_0 h0 hB83 (by omega) ?_
                  intro z89 lz89 uz89 qz89
                  intro z90 hz90 ez90 bz90
                  clear ez90
                  have bz90 := bz90 (by omega)
                  intro z91 hz91 ez91
                  intro z92 hz92 ez92
                  refine And.intro (by omega) (And.intro ?_ ?_)
                  · intro c93
                    intro z94 hz94 ez94 bz94
                    clear ez94
                    try replace bz94 := bz94 (by omega)
                    refine Exists.intro xm_483 (And.intro mi_483 (And.intro ⟨rfl, rfl, rfl, rfl⟩ (And.intro rfl ?_)))
                    refine fcall _ h0 (fzs_sub (by decide +kernel) hW) hB83 (ct_M_seek_6e4c8 (fBz h0 hB83) (by omega) (by omega) (by omega) (by omega) (by omega) (by omega) (by omega)) ?_
                    rintro IhB96 _ hB96 fhB96 rfl
                    have t97 := fhB96 741 12 (by decide +kernel)
                    have k98 := fBz_eq hB96 (a := 741) (j := 12) (by decide +kernel)
                    exact fcutJ (I := IhB96) (j := jc_M_seek_92ac3_59) (lv' := [(0, .inr (.inr (some 740))), (1, .inl _), (2, .inl _), (3, .inl _), (4, .inl _), (5, .inl _), (6, .inl _)]) (And.intro rfl (And.intro rfl (And.intro rfl (And.intro rfl (And.intro rfl (And.intro rfl (And.intro rfl True.intro))))))) ⟨_, _, _, _, _, _, rfl, rfl, by omega, rfl⟩ (by omega)
                  · intro c99
                    refine And.intro ⟨rfl, by decide, by decide⟩ ?_
                    refine fload rL_741_741_4371_4389_3_0 h0 hB83 (by omega) ?_
                    intro z100 lz100 uz100 qz100
                    intro z101 hz101 ez101 bz101
                    clear ez101
                    have bz101 := bz101 (by omega)
                    intro z102 hz102 ez102 bz102
                    clear ez102
                    try replace bz102 := bz102 (by omega)
                    intro z103 hz103 ez103 bz103
                    clear ez103
                    try replace bz103 := bz103 (by omega)
                    refine Exists.intro xm_483 (And.intro mi_483 (And.intro ⟨rfl, rfl, rfl, rfl⟩ (And.intro rfl ?_)))
                    refine fcall _ h0 (fzs_sub (by decide +kernel) hW) hB83 (ct_M_seek_6e4c8 (fBz h0 hB83) (by omega) (by omega) (by omega) (by omega) (by omega) (by omega) (by omega)) ?_
                    rintro IhB105 _ hB105 fhB105 rfl
                    have t106 := fhB105 741 12 (by decide +kernel)
                    have k107 := fBz_eq hB105 (a := 741) (j := 12) (by decide +kernel)
                    exact fcutJ (I := IhB105) (j := jc_M_seek_92ac3_59) (lv' := [(0, .inr (.inr (some 740))), (1, .inl _), (2, .inl _), (3, .inl _), (4, .inl _), (5, .inl _), (6, .inl _)]) (And.intro rfl (And.intro rfl (And.intro rfl (And.intro rfl (And.intro rfl (And.intro rfl (And.intro rfl True.intro))))))) ⟨_, _, _, _, _, _, rfl, rfl, by omega, rfl⟩ (by omega)
            · intro c108
              exact fcutJ (I := I1) (j := jc_M_seek_92ac3_59) (lv' := [(0, .inr (.inr (some 740))), (1, .inl _), (2, .inl _), (3, .inl _), (4, .inl _), (5, .inl _), (6, .inl _)]) (And.intro rfl (And.intro rfl (And.intro rfl (And.intro rfl (And.intro rfl (And.intro rfl (And.intro rfl True.intro))))))) ⟨_, _, _, _, _, _, rfl, rfl, by omega, rfl⟩ (by omega)
  · have hB0 := fB_self (zn := znJ) (K := fKc wz_4d25e) h0
    refine And.intro ⟨rfl, by decide, by decide⟩ ?_
    refine fload rL_741_741_12_12_1_0 h0 hB0 (by omega) ?_
    intro z109 lz109 uz109 qz109
    have pz109 := fld_at qz109 12 (by omega)
    refine And.intro (by omega) (And.intro ?_ ?_)
    · intro c110
      exact fcutJ (I := I) (j := jc_M_seek_92ac3_59) (lv' := [(0, .inr (.inr (some 740))), (1, .inl _), (2, .inl _), (3, .inl _), (4, .inl _), (5, .inl _), (6, .inl _)]) (And.intro rfl (And.intro rfl (And.intro rfl (And.intro rfl (And.intro rfl (And.intro rfl (And.intro rfl True.intro))))))) ⟨_, _, _, _, _, _, rfl, rfl, by omega, rfl⟩ (by omega)
    · intro c111
      refine And.intro ⟨rfl, by decide, by decide⟩ (fgetf fb_740_33 h0 hB0 ?_)
      intro z112 lz112 uz112 qz112
      refine And.intro (by omega) (And.intro ?_ ?_)
      · intro c113
        exact rfl
      · intro c114
        refine And.intro ⟨rfl, by decide, by decide⟩ (And.intro rfl (And.intro (Or.inl rfl) (fputf fb_740_33 (by decide +kernel) hW (by omega) ?_)))
        intro IhB115 ehB115 hB115
        have t116 := fup_at ehB115 33 (by omega)
        have t117 : IhB115 741 12 = I 741 12 := (congrFun (congrFun ehB115 741) 12).trans (fup_ne (by omega))
        have k118 := fBz_eq hB115 (a := 741) (j := 12) (by decide +kernel)
        exact fcutJ (I := IhB115) (j := jc_M_seek_92ac3_29) (lv' := [(0, .inr (.inr (some 740))), (2, .inl _), (6, .inl _)]) (And.intro rfl (And.intro rfl (And.intro rfl True.intro))) ⟨_, _, rfl, rfl, by omega, rfl⟩ (by omega)
end CT

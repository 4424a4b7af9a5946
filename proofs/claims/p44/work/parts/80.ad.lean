set_option linter.all false
/-! contracts (written by gen95.py) -/
abbrev wz_24e16 : List Nat := [20013, 20112, 20113, 20114, 20115, 20116, 20117, 20700, 20701, 20702, 20703, 20704, 20705, 20706, 20707]
theorem x6_303 : f60c xTc xTys xm_303 = true := by decide +kernel
theorem rL_741_741_4_4_1_0 : frL gJ bsJ 100 ((741, 741), (4, 4), (1, 0), (0, 99)) := frL_of (by decide +kernel)
theorem rL_741_741_13_13_1_0 : frL gJ bsJ 100 ((741, 741), (13, 13), (1, 0), (0, 90)) := frL_of (by decide +kernel)
theorem rS_741_741_3610_4322_8_0 : frS gJ bsJ znJ [20700] 100 ((741, 741), (3610, 4322), (8, 0), (0, 19)) := frS_of (by decide +kernel)
theorem rS_741_741_3616_4328_8_0 : frS gJ bsJ znJ [20706] 100 ((741, 741), (3616, 4328), (8, 0), ((-2147483648), 2147483647)) := frS_of (by decide +kernel)
theorem rS_741_741_3617_4329_8_0 : frS gJ bsJ znJ [20707] 100 ((741, 741), (3617, 4329), (8, 0), ((-2147483648), 2147483647)) := frS_of (by decide +kernel)
theorem rS_741_741_13_13_1_0 : frS gJ bsJ znJ [20013] 100 ((741, 741), (13, 13), (1, 0), (0, 90)) := frS_of (by decide +kernel)
theorem rS_741_741_3611_4327_8_4 : frS gJ bsJ znJ [20701, 20702, 20703, 20704, 20705] 100 ((741, 741), (3611, 4327), (8, 4), ((-2147483648), 2147483647)) := frS_of (by decide +kernel)
abbrev wz_e4f60 : List Nat := [20101, 20102, 20103, 20104, 20105, 20107, 20108, 20109, 20110, 20111]
theorem x6_298 : f60c xTc xTys xm_298 = true := by decide +kernel
theorem rS_741_741_37_421_20_4 : frS gJ bsJ znJ [20107, 20108, 20109, 20110, 20111] 100 ((741, 741), (37, 421), (20, 4), ((-2147483648), 2147483647)) := frS_of (by decide +kernel)
theorem x6_286 : f60c xTc xTys xm_286 = true := by decide +kernel
theorem rL_741_741_3617_4329_8_0 : frL gJ bsJ 100 ((741, 741), (3617, 4329), (8, 0), ((-2147483648), 2147483647)) := frL_hull (by decide) (by decide +kernel)
theorem rL_741_741_3610_4322_8_0 : frL gJ bsJ 100 ((741, 741), (3610, 4322), (8, 0), (0, 19)) := frL_of (by decide +kernel)
theorem rL_741_741_3616_4328_8_0 : frL gJ bsJ 100 ((741, 741), (3616, 4328), (8, 0), ((-2147483648), 2147483647)) := frL_hull (by decide) (by decide +kernel)
theorem rL_741_741_3610_4329_8_7 : frL gJ bsJ 100 ((741, 741), (3610, 4329), (8, 7), ((-2147483648), 2147483647)) := frL_hull (by decide) (by decide +kernel)
theorem x6_291 : f60c xTc xTys xm_291 = true := by decide +kernel
abbrev wz_fa024 : List Nat := [20001]
theorem x6_301 : f60c xTc xTys xm_301 = true := by decide +kernel
theorem x6_292 : f60c xTc xTys xm_292 = true := by decide +kernel
theorem x6_297 : f60c xTc xTys xm_297 = true := by decide +kernel
theorem rL_741_741_432_524_4_0 : frL gJ bsJ 100 ((741, 741), (432, 524), (4, 0), ((-2147483648), 2147483647)) := frL_hull (by decide) (by decide +kernel)
theorem rL_741_741_430_522_4_0 : frL gJ bsJ 100 ((741, 741), (430, 522), (4, 0), (0, 19)) := frL_of (by decide +kernel)
theorem rL_741_741_431_523_4_0 : frL gJ bsJ 100 ((741, 741), (431, 523), (4, 0), (0, 19)) := frL_of (by decide +kernel)
theorem x6_290 : f60c xTc xTys xm_290 = true := by decide +kernel
abbrev wz_76090 : List Nat := [20022, 20101, 20102, 20103, 20104, 20105, 20107, 20108, 20109, 20110, 20111]
theorem x6_293 : f60c xTc xTys xm_293 = true := by decide +kernel
theorem rL_741_741_22_22_1_0 : frL gJ bsJ 100 ((741, 741), (22, 22), (1, 0), ((-2147483648), 2147483647)) := frL_hull (by decide) (by decide +kernel)
theorem rS_741_741_22_22_1_0 : frS gJ bsJ znJ [20022] 100 ((741, 741), (22, 22), (1, 0), ((-2147483648), 2147483647)) := frS_of (by decide +kernel)
theorem rL_741_741_34_414_20_0 : frL gJ bsJ 100 ((741, 741), (34, 414), (20, 0), ((-2147483648), 2147483647)) := frL_hull (by decide) (by decide +kernel)
theorem rS_741_741_34_414_20_0 : frS gJ bsJ znJ [20104] 100 ((741, 741), (34, 414), (20, 0), ((-2147483648), 2147483647)) := frS_of (by decide +kernel)
theorem x6_289 : f60c xTc xTys xm_289 = true := by decide +kernel
theorem rL_741_741_33_413_20_0 : frL gJ bsJ 100 ((741, 741), (33, 413), (20, 0), ((-2147483648), 2147483647)) := frL_hull (by decide) (by decide +kernel)
theorem rS_741_741_33_413_20_0 : frS gJ bsJ znJ [20103] 100 ((741, 741), (33, 413), (20, 0), ((-2147483648), 2147483647)) := frS_of (by decide +kernel)
theorem x6_294 : f60c xTc xTys xm_294 = true := by decide +kernel
theorem rL_741_741_533_855_14_0 : frL gJ bsJ 100 ((741, 741), (533, 855), (14, 0), ((-2147483648), 2147483647)) := frL_hull (by decide) (by decide +kernel)
abbrev wz_ad13a : List Nat := [20108, 20305, 20306, 20307]
theorem x6_295 : f60c xTc xTys xm_295 = true := by decide +kernel
theorem rL_741_741_537_859_14_0 : frL gJ bsJ 100 ((741, 741), (537, 859), (14, 0), ((-2147483648), 2147483647)) := frL_hull (by decide) (by decide +kernel)
theorem rS_741_741_537_859_14_0 : frS gJ bsJ znJ [20307] 100 ((741, 741), (537, 859), (14, 0), ((-2147483648), 2147483647)) := frS_of (by decide +kernel)
theorem rL_741_741_38_418_20_0 : frL gJ bsJ 100 ((741, 741), (38, 418), (20, 0), ((-2147483648), 2147483647)) := frL_hull (by decide) (by decide +kernel)
theorem rS_741_741_38_418_20_0 : frS gJ bsJ znJ [20108] 100 ((741, 741), (38, 418), (20, 0), ((-2147483648), 2147483647)) := frS_of (by decide +kernel)
abbrev wz_11492 : List Nat := [20308, 20309, 20310]
theorem x6_296 : f60c xTc xTys xm_296 = true := by decide +kernel
theorem rL_741_741_540_862_14_0 : frL gJ bsJ 100 ((741, 741), (540, 862), (14, 0), ((-2147483648), 2147483647)) := frL_hull (by decide) (by decide +kernel)
theorem rS_741_741_540_862_14_0 : frS gJ bsJ znJ [20310] 100 ((741, 741), (540, 862), (14, 0), ((-2147483648), 2147483647)) := frS_of (by decide +kernel)
theorem rS_741_741_538_860_14_0 : frS gJ bsJ znJ [20308] 100 ((741, 741), (538, 860), (14, 0), ((-2147483648), 2147483647)) := frS_of (by decide +kernel)
abbrev wz_40ea8 : List Nat := [20002, 20022, 20101, 20102, 20103, 20104, 20105, 20107, 20108, 20109, 20110, 20111, 20305, 20306, 20307, 20308, 20309, 20310]
theorem x6_288 : f60c xTc xTys xm_288 = true := by decide +kernel
theorem x6_300 : f60c xTc xTys xm_300 = true := by decide +kernel
abbrev wz_69747 : List Nat := [20101, 20102, 20103, 20104, 20105, 20107, 20108, 20109, 20110, 20111, 20403]
theorem x6_299 : f60c xTc xTys xm_299 = true := by decide +kernel
theorem rL_741_741_31_411_20_0 : frL gJ bsJ 100 ((741, 741), (31, 411), (20, 0), ((-2147483648), 2147483647)) := frL_hull (by decide) (by decide +kernel)
theorem rS_741_741_31_411_20_0 : frS gJ bsJ znJ [20101] 100 ((741, 741), (31, 411), (20, 0), ((-2147483648), 2147483647)) := frS_of (by decide +kernel)
theorem rS_741_741_873_1011_6_0 : frS gJ bsJ znJ [20403] 100 ((741, 741), (873, 1011), (6, 0), ((-2147483648), 2147483647)) := frS_of (by decide +kernel)
abbrev wz_d1017 : List Nat := [20304, 20312]
theorem x6_302 : f60c xTc xTys xm_302 = true := by decide +kernel
theorem rL_741_741_542_864_14_0 : frL gJ bsJ 100 ((741, 741), (542, 864), (14, 0), ((-2147483648), 2147483647)) := frL_hull (by decide) (by decide +kernel)
theorem rS_741_741_542_864_14_0 : frS gJ bsJ znJ [20312] 100 ((741, 741), (542, 864), (14, 0), ((-2147483648), 2147483647)) := frS_of (by decide +kernel)
theorem rL_741_741_541_863_14_0 : frL gJ bsJ 100 ((741, 741), (541, 863), (14, 0), ((-2147483648), 2147483647)) := frL_hull (by decide) (by decide +kernel)
abbrev wz_f4290 : List Nat := [20000, 20001, 20002, 20013, 20022, 20101, 20102, 20103, 20104, 20105, 20107, 20108, 20109, 20110, 20111, 20112, 20113, 20114, 20115, 20116, 20117, 20304, 20305, 20306, 20307, 20308, 20309, 20310, 20312, 20403, 20700, 20701, 20702, 20703, 20704, 20705, 20706, 20707]
theorem x6_285 : f60c xTc xTys xm_285 = true := by decide +kernel
theorem rS_741_741_0_0_1_0 : frS gJ bsJ znJ [20000] 100 ((741, 741), (0, 0), (1, 0), (0, 22000)) := frS_of (by decide +kernel)
theorem x6_284 : f60c xTc xTys xm_284 = true := by decide +kernel
theorem fb_741_0 : bsJ 741 0 = (0, 22000) := by decide +kernel
abbrev wz_4ceb6 : List Nat := [178, 179, 180, 181, 10404]
theorem x6_100 : f60c xTc xTys xm_100 = true := by decide +kernel
theorem rS_178_178_0_23_1_0 : frS gJ bsJ znJ [178] 100 ((178, 178), (0, 23), (1, 0), ((-2147483648), 2147483647)) := frS_dflt (by decide) (by decide +kernel)
theorem rS_179_179_0_23_1_0 : frS gJ bsJ znJ [179] 100 ((179, 179), (0, 23), (1, 0), ((-2147483648), 2147483647)) := frS_dflt (by decide) (by decide +kernel)
theorem rS_180_180_0_23_1_0 : frS gJ bsJ znJ [180] 100 ((180, 180), (0, 23), (1, 0), (0, 19)) := frS_of (by decide +kernel)
theorem x6_99 : f60c xTc xTys xm_99 = true := by decide +kernel
abbrev wz_e1d4d : List Nat := [20008, 20400, 20401, 20402, 20403, 20404]
theorem x6_305 : f60c xTc xTys xm_305 = true := by decide +kernel
theorem rS_741_741_870_1008_6_0 : frS gJ bsJ znJ [20400] 100 ((741, 741), (870, 1008), (6, 0), ((-2147483648), 2147483647)) := frS_of (by decide +kernel)
theorem rS_741_741_871_1009_6_0 : frS gJ bsJ znJ [20401] 100 ((741, 741), (871, 1009), (6, 0), ((-2147483648), 2147483647)) := frS_of (by decide +kernel)
theorem rS_741_741_872_1010_6_0 : frS gJ bsJ znJ [20402] 100 ((741, 741), (872, 1010), (6, 0), (0, 19)) := frS_of (by decide +kernel)
theorem rS_741_741_874_1012_6_0 : frS gJ bsJ znJ [20404] 100 ((741, 741), (874, 1012), (6, 0), ((-2147483648), 2147483647)) := frS_of (by decide +kernel)
theorem rS_741_741_8_8_1_0 : frS gJ bsJ znJ [20008] 100 ((741, 741), (8, 8), (1, 0), (0, 24)) := frS_of (by decide +kernel)
abbrev wz_389c2 : List Nat := [178]
abbrev wz_acbb3 : List Nat := [179]
abbrev wz_23056 : List Nat := [180]
abbrev wz_816f0 : List Nat := [178, 179, 180, 181]
theorem x6_101 : f60c xTc xTys xm_101 = true := by decide +kernel
abbrev wz_4df1d : List Nat := [20400, 20401, 20402, 20403]
theorem rS_741_741_870_1009_6_1 : frS gJ bsJ znJ [20400, 20401] 100 ((741, 741), (870, 1009), (6, 1), ((-2147483648), 2147483647)) := frS_of (by decide +kernel)
theorem x6_306 : f60c xTc xTys xm_306 = true := by decide +kernel
theorem x6_102 : f60c xTc xTys xm_102 = true := by decide +kernel
theorem x6_307 : f60c xTc xTys xm_307 = true := by decide +kernel
theorem rL_741_741_870_1011_6_3 : frL gJ bsJ 100 ((741, 741), (870, 1011), (6, 3), ((-2147483648), 2147483647)) := frL_hull (by decide) (by decide +kernel)
theorem x6_105 : f60c xTc xTys xm_105 = true := by decide +kernel
section CT
variable {ρ : Nat → Int32} {base n : Nat} {F : Nat → Prop} {D : va_G} {dA : Nat → ClassId} {la : Launch}
abbrev jc_M_sends_ddcd7_2 : Nat → fL → List fV → fH → Prop := fun m lv st I => ∃ (y1 : Int), lv = [(0, .inr (.inr (some 740))), (1, .inl y1)] ∧ st = [] ∧ (((0 ≤ y1 ∧ y1 ≤ 20))) ∧ m = (7 + 7 * (20 - y1) : Int).toNat
abbrev jc_M_sends_ddcd7_89 : Nat → fL → List fV → fH → Prop := fun m lv st I => ∃ (y1 : Int) (y2 : Int) (y3 : Int), lv = [(0, .inr (.inr (some 740))), (1, .inl y1), (2, .inl y2), (3, .inl y3)] ∧ st = [] ∧ (((0 ≤ y1 ∧ y1 ≤ 19) ∧ ((3610 ≤ y2 ∧ y2 ≤ 4322) ∧ (y2 - 3610) % 8 ≤ 0) ∧ (0 ≤ y3 ∧ y3 ≤ 5) ∧ (1 ≤ I 741 4 ∧ I 741 4 ≤ 99) ∧ (1 ≤ I 741 5 ∧ I 741 5 ≤ 20) ∧ (0 ≤ I 741 13 ∧ I 741 13 ≤ 89))) ∧ m = (1 + 7 * (20 - y1) + 1 * (5 - y3) : Int).toNat
set_option maxRecDepth 8000 in
theorem ct_M_sends_ddcd7 {I : fH}  (h0 : fB bsJ I)  : fC ρ base n F xTc vwCl xTys D dA la gJ (fbz bsJ znJ (fKc wz_24e16) I) xm_303 [.inr (.inr (some 740))] I (fun _ r => r = none) := by
  have hW : fzs wz_24e16 (fKc wz_24e16) := fKc_ok _
  refine f_meth (rb := rbJ) (J := [(2, jc_M_sends_ddcd7_2), (89, jc_M_sends_ddcd7_89)]) 148 400 xG xin_303 x6_303 okJ (fB_self h0) ?_ ?_
  · refine List.forall_mem_cons.mpr ⟨?_, List.forall_mem_cons.mpr ⟨?_, fun q h => absurd h List.not_mem_nil⟩⟩
    · rintro m _ _ I1 hB1 ⟨y1, rfl, rfl, hb, hm⟩
      refine And.intro ⟨rfl, by decide, by decide⟩ ?_
      refine fload1 rL_741_741_5_5_1_0 h0 hB1 ⟨by decide, by decide⟩ (by first | exact ⟨by decide, by decide⟩ | omega) ?_
      intro z1 lz1 uz1 qz1
      have pz1 := fld_at qz1 5 (by omega)
      refine And.intro (And.intro (by first | exact fi_ hb.1 hb.2 rfl | omega) (by first | exact fi_ lz1 uz1 rfl | omega)) (And.intro ?_ ?_)
      · intro c2
        exact rfl
      · intro c3
        refine Exists.intro xm_304 (And.intro mi_304 (And.intro ⟨rfl, rfl, rfl, rfl⟩ (And.intro rfl ?_)))
        refine fcallp hB1 (ct_M_hasWatch_bb889 (fBz h0 hB1) (by first | exact ⟨hb.1, Int.le_trans (Int.le_sub_one_of_lt (Int.lt_of_lt_of_le c3 uz1)) (by decide)⟩ | omega)) ?_
        rintro _ ⟨z4, rfl, hz4⟩
        refine And.intro (by omega) (And.intro ?_ ?_)
        · intro c5
          refine And.intro ⟨rfl, by decide, by decide⟩ ?_
          refine fload1 rL_741_741_4_4_1_0 h0 hB1 ⟨by decide, by decide⟩ (by first | exact ⟨by decide, by decide⟩ | omega) ?_
          intro z6 lz6 uz6 qz6
          have pz6 := fld_at qz6 4 (by omega)
          refine And.intro (by first | exact fi_ lz6 uz6 rfl | omega) (And.intro ?_ ?_)
          · intro c7
            refine And.intro ⟨rfl, by decide, by decide⟩ ?_
            refine fload1 rL_741_741_13_13_1_0 h0 hB1 ⟨by decide, by decide⟩ (by first | exact ⟨by decide, by decide⟩ | omega) ?_
            intro z8 lz8 uz8 qz8
            have pz8 := fld_at qz8 13 (by omega)
            refine And.intro (And.intro (by first | exact fi_ lz8 uz8 rfl | omega) (by first | exact ⟨by decide, by decide⟩ | omega)) (And.intro ?_ ?_)
            · intro c9
              exact fcutJ (I := I1) (j := jc_M_sends_ddcd7_2) (lv' := [(0, .inr (.inr (some 740))), (1, .inl _)]) (And.intro rfl (And.intro rfl True.intro)) ⟨_, rfl, rfl, by omega, rfl⟩ (by omega)
            · intro c10
              refine And.intro ⟨rfl, by decide, by decide⟩ ?_
              refine fload1 rL_741_741_13_13_1_0 h0 hB1 ⟨by decide, by decide⟩ (by first | exact ⟨by decide, by decide⟩ | omega) ?_
              intro z11 lz11 uz11 qz11
              have pz11 := fld_at qz11 13 (by omega)
              refine And.intro ⟨rfl, by decide, by decide⟩ ?_
              refine fstore rS_741_741_3610_4322_8_0 (fzs_sub (by decide +kernel) hW) (by omega) (by first | exact ⟨hb.1, Int.le_trans (Int.le_sub_one_of_lt (Int.lt_of_lt_of_le c3 uz1)) (by decide)⟩ | omega) ?_
              intro IhB12 ehB12 hB12
              have t13 := fup_self ehB12
              have t14 : IhB12 741 4 = I1 741 4 := (congrFun (congrFun ehB12 741) 4).trans (fup_ne (by first | exact Or.inl (by decide) | omega))
              have t15 : IhB12 741 5 = I1 741 5 := (congrFun (congrFun ehB12 741) 5).trans (fup_ne (by first | exact Or.inl (by decide) | omega))
              have t16 : IhB12 741 13 = I1 741 13 := (congrFun (congrFun ehB12 741) 13).trans (fup_ne (by first | exact Or.inl (by decide) | omega))
              exact fcutJ (I := IhB12) (j := jc_M_sends_ddcd7_89) (lv' := [(0, .inr (.inr (some 740))), (1, .inl _), (2, .inl _), (3, .inl _)]) (And.intro rfl (And.intro rfl (And.intro rfl (And.intro rfl True.intro)))) ⟨_, _, _, rfl, rfl, by omega, rfl⟩ (by omega)
          · intro c17
            refine Exists.intro xm_239 (And.intro mi_239 (And.intro ⟨rfl, rfl, rfl, rfl⟩ (And.intro rfl ?_)))
            refine fcallp hB1 (ct_M_cellAt_c15f4 (fBz h0 hB1) (by first | exact ⟨hb.1, Int.le_trans (Int.le_sub_one_of_lt (Int.lt_of_lt_of_le c3 uz1)) (by decide)⟩ | omega)) ?_
            rintro _ ⟨_, rfl, rfl⟩
            refine And.intro ⟨rfl, by decide, by decide⟩ ?_
            refine fload1 rL_741_741_0_0_1_0 h0 hB1 ⟨by decide, by decide⟩ (by first | exact ⟨by decide, by decide⟩ | omega) ?_
            intro z19 lz19 uz19 qz19
            have pz19 := fld_at qz19 0 (by omega)
            refine Exists.intro xm_287 (And.intro mi_287 (And.intro ⟨rfl, rfl, rfl, rfl⟩ (And.intro rfl ?_)))
            refine fcall _ h0 (fzs_sub (by decide +kernel) hW) hB1 (ct_M_knows_34678 (fBz h0 hB1) (by first | exact ⟨hb.1, Int.le_trans (Int.le_sub_one_of_lt (Int.lt_of_lt_of_le c3 uz1)) (by decide)⟩ | omega) (by omega) (by first | exact ⟨Int.le_trans (by decide) lz19, Int.le_trans uz19 (by decide)⟩ | omega)) ?_
            rintro IhB21 _ hB21 fhB21 rfl
            have t22 := fhB21 741 0 (by decide +kernel)
            have t23 := fhB21 741 4 (by decide +kernel)
            have t24 := fhB21 741 5 (by decide +kernel)
            exact fcutJ (I := IhB21) (j := jc_M_sends_ddcd7_2) (lv' := [(0, .inr (.inr (some 740))), (1, .inl _)]) (And.intro rfl (And.intro rfl True.intro)) ⟨_, rfl, rfl, by omega, rfl⟩ (by omega)
        · intro c25
          exact fcutJ (I := I1) (j := jc_M_sends_ddcd7_2) (lv' := [(0, .inr (.inr (some 740))), (1, .inl _)]) (And.intro rfl (And.intro rfl True.intro)) ⟨_, rfl, rfl, by omega, rfl⟩ (by omega)
    · rintro m _ _ I1 hB1 ⟨y1, y2, y3, rfl, rfl, hb, hm⟩
      refine And.intro (And.intro (by first | exact fi_ hb.2.2.1.1 hb.2.2.1.2 rfl | omega) (by first | exact ⟨by decide, by decide⟩ | omega)) (And.intro ?_ ?_)
      · intro c26
        refine And.intro ⟨rfl, by decide, by decide⟩ ?_
        refine And.intro ⟨rfl, by decide, by decide⟩ ?_
        refine fload1 rL_741_741_0_0_1_0 h0 hB1 ⟨by decide, by decide⟩ (by first | exact ⟨by decide, by decide⟩ | omega) ?_
        intro z27 lz27 uz27 qz27
        have pz27 := fld_at qz27 0 (by omega)
        refine fstore rS_741_741_3616_4328_8_0 (fzs_sub (by decide +kernel) hW) (by omega) (by first | exact ⟨Int.le_trans (by decide) lz27, Int.le_trans uz27 (by decide)⟩ | omega) ?_
        intro IhB28 ehB28 hB28
        have t29 := fup_self ehB28
        have t30 : IhB28 741 0 = I1 741 0 := (congrFun (congrFun ehB28 741) 0).trans (fup_ne (by first | exact Or.inl (by decide) | omega))
        have t31 : IhB28 741 4 = I1 741 4 := (congrFun (congrFun ehB28 741) 4).trans (fup_ne (by first | exact Or.inl (by decide) | omega))
        have t32 : IhB28 741 5 = I1 741 5 := (congrFun (congrFun ehB28 741) 5).trans (fup_ne (by first | exact Or.inl (by decide) | omega))
        have t33 : IhB28 741 13 = I1 741 13 := (congrFun (congrFun ehB28 741) 13).trans (fup_ne (by first | exact Or.inl (by decide) | omega))
        refine And.intro ⟨rfl, by decide, by decide⟩ ?_
        refine And.intro ⟨rfl, by decide, by decide⟩ ?_
        refine fload1 rL_741_741_0_0_1_0 h0 hB28 ⟨by decide, by decide⟩ (by first | exact ⟨by decide, by decide⟩ | omega) ?_
        intro z34 lz34 uz34 qz34
        have pz34 := fld_at qz34 0 (by omega)
        refine And.intro ⟨rfl, by decide, by decide⟩ ?_
        refine fload1 rL_741_741_4_4_1_0 h0 hB28 ⟨by decide, by decide⟩ (by first | exact ⟨by decide, by decide⟩ | omega) ?_
        intro z35 lz35 uz35 qz35
        have pz35 := fld_at qz35 4 (by omega)
        refine fstore rS_741_741_3617_4329_8_0 (fzs_sub (by decide +kernel) hW) (by omega) (by omega) ?_
        intro IhB36 ehB36 hB36
        have t37 := fup_self ehB36
        have t38 : IhB36 741 0 = IhB28 741 0 := (congrFun (congrFun ehB36 741) 0).trans (fup_ne (by first | exact Or.inl (by decide) | omega))
        have t39 : IhB36 741 4 = IhB28 741 4 := (congrFun (congrFun ehB36 741) 4).trans (fup_ne (by first | exact Or.inl (by decide) | omega))
        have t40 : IhB36 741 5 = IhB28 741 5 := (congrFun (congrFun ehB36 741) 5).trans (fup_ne (by first | exact Or.inl (by decide) | omega))
        have t41 : IhB36 741 13 = IhB28 741 13 := (congrFun (congrFun ehB36 741) 13).trans (fup_ne (by first | exact Or.inl (by decide) | omega))
        refine And.intro ⟨rfl, by decide, by decide⟩ ?_
        refine fload1 rL_741_741_13_13_1_0 h0 hB36 ⟨by decide, by decide⟩ (by first | exact ⟨by decide, by decide⟩ | omega) ?_
        intro z42 lz42 uz42 qz42
        have pz42 := fld_at qz42 13 (by omega)
        refine fstore1 rS_741_741_13_13_1_0 (fzs_sub (by decide +kernel) hW) ⟨by decide, by decide⟩ (by first | exact ⟨by decide, by decide⟩ | omega) (by omega) ?_
        intro IhB43 ehB43 hB43
        have t44 := fup_self ehB43
        have t45 : IhB43 741 5 = IhB36 741 5 := (congrFun (congrFun ehB43 741) 5).trans (fup_ne (by first | decide | omega))
        exact fcutJ (I := IhB43) (j := jc_M_sends_ddcd7_2) (lv' := [(0, .inr (.inr (some 740))), (1, .inl _)]) (And.intro rfl (And.intro rfl True.intro)) ⟨_, rfl, rfl, by omega, rfl⟩ (by omega)
      · intro c46
        refine And.intro ⟨rfl, by decide, by decide⟩ ?_
        refine And.intro ⟨rfl, by decide, by decide⟩ ?_
        refine Exists.intro xm_239 (And.intro mi_239 (And.intro ⟨rfl, rfl, rfl, rfl⟩ (And.intro rfl ?_)))
        refine fcallp hB1 (ct_M_cellAt_c15f4 (fBz h0 hB1) (by first | exact ⟨hb.1.1, hb.1.2⟩ | omega)) ?_
        rintro _ ⟨_, rfl, rfl⟩
        refine fload rL_741_741_31_415_20_4 h0 hB1 (by omega) ?_
        intro z48 lz48 uz48 qz48
        refine fstore rS_741_741_3611_4327_8_4 (fzs_sub (by decide +kernel) hW) (by omega) (by first | exact ⟨lz48, uz48⟩ | omega) ?_
        intro IhB49 ehB49 hB49
        have t50 := fup_self ehB49
        have t51 : IhB49 741 4 = I1 741 4 := (congrFun (congrFun ehB49 741) 4).trans (fup_ne (by first | exact Or.inl (by decide) | omega))
        have t52 : IhB49 741 5 = I1 741 5 := (congrFun (congrFun ehB49 741) 5).trans (fup_ne (by first | exact Or.inl (by decide) | omega))
        have t53 : IhB49 741 13 = I1 741 13 := (congrFun (congrFun ehB49 741) 13).trans (fup_ne (by first | exact Or.inl (by decide) | omega))
        exact fcutJ (I := IhB49) (j := jc_M_sends_ddcd7_89) (lv' := [(0, .inr (.inr (some 740))), (1, .inl _), (2, .inl _), (3, .inl _)]) (And.intro rfl (And.intro rfl (And.intro rfl (And.intro rfl True.intro)))) ⟨_, _, _, rfl, rfl, by omega, rfl⟩ (by omega)
  · have hB0 := fB_self (zn := znJ) (K := fKc wz_24e16) h0
    exact fcutJ (I := I) (j := jc_M_sends_ddcd7_2) (lv' := [(0, .inr (.inr (some 740))), (1, .inl _)]) (And.intro rfl (And.intro rfl True.intro)) ⟨_, rfl, rfl, by omega, rfl⟩ (by omega)
abbrev jc_M_leaks_eedee_8 : Nat → fL → List fV → fH → Prop := fun m lv st I => ∃ (y2 : Int) (y3 : Int), lv = [(0, .inr (.inr (some 740))), (2, .inl y2), (3, .inl y3)] ∧ st = [] ∧ ((((30 ≤ y2 ∧ y2 ≤ 410) ∧ (y2 - 30) % 20 ≤ 0) ∧ (0 ≤ y3 ∧ y3 ≤ 5))) ∧ m = (1 + 1 * (5 - y3) : Int).toNat
set_option maxRecDepth 8000 in
theorem ct_M_leaks_eedee {I : fH} {x1 : Int} (h0 : fB bsJ I) (ha1 : (0 ≤ x1 ∧ x1 ≤ 19)) : fC ρ base n F xTc vwCl xTys D dA la gJ (fbz bsJ znJ (fKc wz_e4f60) I) xm_298 [.inr (.inr (some 740)), .inl x1] I (fun _ r => r = none) := by
  have hW : fzs wz_e4f60 (fKc wz_e4f60) := fKc_ok _
  refine f_meth (rb := rbJ) (J := [(8, jc_M_leaks_eedee_8)]) 7 400 xG xin_298 x6_298 okJ (fB_self h0) ?_ ?_
  · refine List.forall_mem_cons.mpr ⟨?_, fun q h => absurd h List.not_mem_nil⟩
    · rintro m _ _ I1 hB1 ⟨y2, y3, rfl, rfl, hb, hm⟩
      refine And.intro (And.intro (by first | exact fi_ hb.2.1 hb.2.2 rfl | omega) (by first | exact ⟨by decide, by decide⟩ | omega)) (And.intro ?_ ?_)
      · intro c1
        exact rfl
      · intro c2
        refine And.intro ⟨rfl, by decide, by decide⟩ ?_
        refine fload rL_741_741_31_415_20_4 h0 hB1 (by omega) ?_
        intro z3 lz3 uz3 qz3
        refine And.intro (by first | exact fi_ lz3 uz3 rfl | omega) ?_
        refine And.intro ⟨rfl, by decide, by decide⟩ ?_
        refine fload rL_741_741_36_416_20_0 h0 hB1 (by omega) ?_
        intro z4 lz4 uz4 qz4
        refine And.intro (by first | exact fi_ lz4 uz4 rfl | omega) ?_
        intro z5 hz5 ez5 bz5
        refine And.intro (And.intro (by omega) (by omega)) ?_
        intro z6 hz6 ez6
        intro z7 hz7 ez7 bz7
        clear ez7
        clear bz7
        refine And.intro ⟨rfl, by decide, by decide⟩ ?_
        refine fload rL_741_741_31_415_20_4 h0 hB1 (by omega) ?_
        intro z8 lz8 uz8 qz8
        intro z9 hz9 ez9 bz9
        clear ez9
        clear bz9
        refine fstore rS_741_741_31_415_20_4 (fzs_sub (by decide +kernel) hW) (by omega) (by omega) ?_
        intro IhB10 ehB10 hB10
        have t11 := fup_self ehB10
        refine And.intro ⟨rfl, by decide, by decide⟩ ?_
        refine fload rL_741_741_37_421_20_4 h0 hB10 (by omega) ?_
        intro z12 lz12 uz12 qz12
        intro z13 hz13 ez13 bz13
        clear ez13
        clear bz13
        refine fstore rS_741_741_37_421_20_4 (fzs_sub (by decide +kernel) hW) (by omega) (by omega) ?_
        intro IhB14 ehB14 hB14
        have t15 := fup_self ehB14
        exact fcutJ (I := IhB14) (j := jc_M_leaks_eedee_8) (lv' := [(0, .inr (.inr (some 740))), (2, .inl _), (3, .inl _)]) (And.intro rfl (And.intro rfl (And.intro rfl True.intro))) ⟨_, _, rfl, rfl, by omega, rfl⟩ (by omega)
  · have hB0 := fB_self (zn := znJ) (K := fKc wz_e4f60) h0
    refine Exists.intro xm_239 (And.intro mi_239 (And.intro ⟨rfl, rfl, rfl, rfl⟩ (And.intro rfl ?_)))
    refine fcallp hB0 (ct_M_cellAt_c15f4 (fBz h0 hB0) (by first | exact ⟨ha1.1, ha1.2⟩ | omega)) ?_
    rintro _ ⟨_, rfl, rfl⟩
    exact fcutJ (I := I) (j := jc_M_leaks_eedee_8) (lv' := [(0, .inr (.inr (some 740))), (2, .inl _), (3, .inl _)]) (And.intro rfl (And.intro rfl (And.intro rfl True.intro))) ⟨_, _, rfl, rfl, by omega, rfl⟩ (by omega)
abbrev jc_M_come_3ca41_4 : Nat → fL → List fV → fH → Prop := fun m lv st I => ∃ (y1 : Int) (y2 : Int), lv = [(0, .inr (.inr (some 740))), (1, .inl y1), (2, .inl y2)] ∧ st = [] ∧ (((0 ≤ y1 ∧ y1 ≤ 90) ∧ (0 ≤ y2 ∧ y2 ≤ 90) ∧ (y1 ≤ y2))) ∧ m = (10 + 10 * (90 - y2) : Int).toNat
abbrev jc_M_come_3ca41_70 : Nat → fL → List fV → fH → Prop := fun m lv st I => ∃ (y1 : Int) (y2 : Int) (y3 : Int) (y4 : Int), lv = [(0, .inr (.inr (some 740))), (1, .inl y1), (2, .inl y2), (3, .inl y3), (4, .inl y4)] ∧ st = [] ∧ (((0 ≤ y1 ∧ y1 ≤ 89) ∧ (0 ≤ y2 ∧ y2 ≤ 89) ∧ ((3610 ≤ y3 ∧ y3 ≤ 4322) ∧ (y3 - 3610) % 8 ≤ 0) ∧ (0 ≤ y4 ∧ y4 ≤ 8) ∧ (1 ≤ I 741 13 ∧ I 741 13 ≤ 90) ∧ (y1 ≤ y2))) ∧ m = (1 + 10 * (90 - y2) + 1 * (8 - y4) : Int).toNat
set_option maxRecDepth 8000 in
theorem ct_M_come_3ca41 {I : fH}  (h0 : fB bsJ I)  : fC ρ base n F xTc vwCl xTys D dA la gJ (fbz bsJ znJ (fKc wz_24e16) I) xm_286 [.inr (.inr (some 740))] I (fun _ r => r = none) := by
  have hW : fzs wz_24e16 (fKc wz_24e16) := fKc_ok _
  refine f_meth (rb := rbJ) (J := [(4, jc_M_come_3ca41_4), (70, jc_M_come_3ca41_70)]) 911 400 xG xin_286 x6_286 okJ (fB_self h0) ?_ ?_
  · refine List.forall_mem_cons.mpr ⟨?_, List.forall_mem_cons.mpr ⟨?_, fun q h => absurd h List.not_mem_nil⟩⟩
    · rintro m _ _ I1 hB1 ⟨y1, y2, rfl, rfl, hb, hm⟩
      refine And.intro ⟨rfl, by decide, by decide⟩ ?_
      refine fload1 rL_741_741_13_13_1_0 h0 hB1 ⟨by decide, by decide⟩ (by first | exact ⟨by decide, by decide⟩ | omega) ?_
      intro z1 lz1 uz1 qz1
      have pz1 := fld_at qz1 13 (by omega)
      refine And.intro (And.intro (by first | exact fi_ hb.2.1.1 hb.2.1.2 rfl | omega) (by first | exact fi_ lz1 uz1 rfl | omega)) (And.intro ?_ ?_)
      · intro c2
        refine And.intro ⟨rfl, by decide, by decide⟩ ?_
        refine fstore1 rS_741_741_13_13_1_0 (fzs_sub (by decide +kernel) hW) ⟨by decide, by decide⟩ (by first | exact ⟨by decide, by decide⟩ | omega) (by first | exact ⟨hb.1.1, hb.1.2⟩ | omega) ?_
        intro IhB3 ehB3 hB3
        have t4 := fup_self ehB3
        have t5 := fup_at ehB3 13 (by first | rfl | omega)
        exact rfl
      · intro c6
        refine And.intro ⟨rfl, by decide, by decide⟩ ?_
        refine fload rL_741_741_3617_4329_8_0 h0 hB1 (by omega) ?_
        intro z7 lz7 uz7 qz7
        refine And.intro ⟨rfl, by decide, by decide⟩ ?_
        refine fload1 rL_741_741_0_0_1_0 h0 hB1 ⟨by decide, by decide⟩ (by first | exact ⟨by decide, by decide⟩ | omega) ?_
        intro z8 lz8 uz8 qz8
        have pz8 := fld_at qz8 0 (by omega)
        refine And.intro (And.intro (by first | exact fi_ lz7 uz7 rfl | omega) (by first | exact fi_ lz8 uz8 rfl | omega)) (And.intro ?_ ?_)
        · intro c9
          exact fcutJ (I := I1) (j := jc_M_come_3ca41_70) (lv' := [(0, .inr (.inr (some 740))), (1, .inl _), (2, .inl _), (3, .inl _), (4, .inl _)]) (And.intro rfl (And.intro rfl (And.intro rfl (And.intro rfl (And.intro rfl True.intro))))) ⟨_, _, _, _, rfl, rfl, by omega, rfl⟩ (by omega)
        · intro c10
          refine And.intro ⟨rfl, by decide, by decide⟩ ?_
          refine fload rL_741_741_3610_4322_8_0 h0 hB1 (by omega) ?_
          intro z11 lz11 uz11 qz11
          refine And.intro ⟨rfl, by decide, by decide⟩ ?_
          refine fload rL_741_741_3616_4328_8_0 h0 hB1 (by omega) ?_
          intro z12 lz12 uz12 qz12
          refine Exists.intro xm_287 (And.intro mi_287 (And.intro ⟨rfl, rfl, rfl, rfl⟩ (And.intro rfl ?_)))
          refine fcall _ h0 (fzs_sub (by decide +kernel) hW) hB1 (ct_M_knows_34678 (fBz h0 hB1) (by first | exact ⟨lz11, uz11⟩ | omega) (by omega) (by first | exact ⟨lz12, uz12⟩ | omega)) ?_
          rintro IhB14 _ hB14 fhB14 rfl
          have t15 := fhB14 741 0 (by decide +kernel)
          have t16 := fhB14 741 13 (by decide +kernel)
          exact fcutJ (I := IhB14) (j := jc_M_come_3ca41_4) (lv' := [(0, .inr (.inr (some 740))), (1, .inl _), (2, .inl _)]) (And.intro rfl (And.intro rfl (And.intro rfl True.intro))) ⟨_, _, rfl, rfl, by omega, rfl⟩ (by omega)
    · rintro m _ _ I1 hB1 ⟨y1, y2, y3, y4, rfl, rfl, hb, hm⟩
      refine And.intro (And.intro (by first | exact fi_ hb.2.2.2.1.1 hb.2.2.2.1.2 rfl | omega) (by first | exact ⟨by decide, by decide⟩ | omega)) (And.intro ?_ ?_)
      · intro c17
        intro z18 hz18 bz18
        have bz18 := bz18 (by omega)
        exact fcutJ (I := I1) (j := jc_M_come_3ca41_4) (lv' := [(0, .inr (.inr (some 740))), (1, .inl _), (2, .inl _)]) (And.intro rfl (And.intro rfl (And.intro rfl True.intro))) ⟨_, _, rfl, rfl, by omega, rfl⟩ (by omega)
      · intro c19
        refine And.intro ⟨rfl, by decide, by decide⟩ ?_
        intro z20 hz20 ez20 bz20
        clear ez20
        have bz20 := bz20 (by omega)
        intro z21 hz21 ez21 bz21
        clear ez21
        have bz21 := bz21 (by omega)
        intro z22 hz22 ez22 bz22
        clear ez22
        have bz22 := bz22 (by omega)
        refine And.intro ⟨rfl, by decide, by decide⟩ ?_
        refine fload rL_741_741_3610_4329_8_7 h0 hB1 (by omega) ?_
        intro z23 lz23 uz23 qz23
        refine fstoreX (fzs_sub (by decide +kernel) hW) (rep_st (fBz h0 hB1) qz23 (by omega) (by omega)) ?_
        intro IhB24 ehB24 hB24
        have t25 := fup_self ehB24
        have t26 : IhB24 741 13 = I1 741 13 := (congrFun (congrFun ehB24 741) 13).trans (fup_ne (by first | exact Or.inl (by decide) | omega))
        exact fcutJ (I := IhB24) (j := jc_M_come_3ca41_70) (lv' := [(0, .inr (.inr (some 740))), (1, .inl _), (2, .inl _), (3, .inl _), (4, .inl _)]) (And.intro rfl (And.intro rfl (And.intro rfl (And.intro rfl (And.intro rfl True.intro))))) ⟨_, _, _, _, rfl, rfl, by omega, rfl⟩ (by omega)
  · have hB0 := fB_self (zn := znJ) (K := fKc wz_24e16) h0
    exact fcutJ (I := I) (j := jc_M_come_3ca41_4) (lv' := [(0, .inr (.inr (some 740))), (1, .inl _), (2, .inl _)]) (And.intro rfl (And.intro rfl (And.intro rfl True.intro))) ⟨_, _, rfl, rfl, by omega, rfl⟩ (by omega)
set_option maxRecDepth 8000 in
theorem ct_M_least_31c1d {I : fH} {x0 : Int} {x1 : Int} (h0 : fB bsJ I) (ha0 : ((-2147483648) ≤ x0 ∧ x0 ≤ 2147483647)) (ha1 : ((-2147483648) ≤ x1 ∧ x1 ≤ 2147483647)) : fC ρ base n F xTc vwCl xTys D dA la gJ (fbz bsJ znJ (fKc []) I) xm_291 [.inl x0, .inl x1] I (fun _ r => ∃ z, r = some (.inl z) ∧ (((-2147483648) ≤ z ∧ z ≤ 2147483647) ∧ (z ≤ x0 ∧ z ≤ x1 ∧ (z = x0 ∨ z = x1)))) := by
  have hW : fzs [] (fKc []) := fKc_ok _
  refine f_meth (rb := rbJ) (J := []) 1 400 xG xin_291 x6_291 okJ (fB_self h0) ?_ ?_
  · exact fun q h => absurd h List.not_mem_nil
  · have hB0 := fB_self (zn := znJ) (K := fKc []) h0
    refine And.intro (And.intro (by first | exact fi_ ha0.1 ha0.2 rfl | omega) (by first | exact fi_ ha1.1 ha1.2 rfl | omega)) (And.intro ?_ ?_)
    · intro c1
      refine And.intro (True.intro) ?_
      exact ⟨_, rfl, by omega⟩
    · intro c2
      refine And.intro (True.intro) ?_
      exact ⟨_, rfl, by omega⟩
set_option maxRecDepth 8000 in
theorem ct_M_floats_933b1 {I : fH}  (h0 : fB bsJ I)  : fC ρ base n F xTc vwCl xTys D dA la gJ (fbz bsJ znJ (fKc wz_fa024) I) xm_301 [.inr (.inr (some 740))] I (fun _ r => r = none) := by
  have hW : fzs wz_fa024 (fKc wz_fa024) := fKc_ok _
  refine f_meth (rb := rbJ) (J := []) 1 400 xG xin_301 x6_301 okJ (fB_self h0) ?_ ?_
  · exact fun q h => absurd h List.not_mem_nil
  · have hB0 := fB_self (zn := znJ) (K := fKc wz_fa024) h0
    refine Exists.intro xm_280 (And.intro mi_280 (And.intro ⟨rfl, rfl, rfl, rfl⟩ (And.intro rfl ?_)))
    refine fcallp hB0 (ct_M_lift_1d7b0 (fBz h0 hB0)) ?_
    rintro _ ⟨z1, rfl, hz1⟩
    refine Exists.intro xm_282 (And.intro mi_282 (And.intro ⟨rfl, rfl, rfl, rfl⟩ (And.intro rfl ?_)))
    refine fcallp hB0 (ct_M_weight_47499 (fBz h0 hB0)) ?_
    rintro _ ⟨z2, rfl, hz2⟩
    intro z3 hz3 ez3 bz3
    refine And.intro (And.intro (by omega) (by omega)) ?_
    intro z4 hz4 ez4
    refine And.intro (And.intro (by omega) (by first | exact ⟨by decide, by decide⟩ | omega)) ?_
    intro z5 hz5
    refine And.intro (by omega) (And.intro ?_ ?_)
    · intro c6
      refine And.intro (And.intro (by omega) (by first | exact ⟨by decide, by decide⟩ | omega)) ?_
      intro z7 hz7
      refine And.intro (by omega) (And.intro ?_ ?_)
      · intro c8
        intro z9 hz9 ez9 bz9
        clear ez9
        skip
        refine And.intro ⟨rfl, by decide, by decide⟩ ?_
        refine fload1 rL_741_741_1_1_1_0 h0 hB0 ⟨by decide, by decide⟩ (by first | exact ⟨by decide, by decide⟩ | omega) ?_
        intro z10 lz10 uz10 qz10
        have pz10 := fld_at qz10 1 (by omega)
        intro z11 hz11 ez11 bz11
        clear ez11
        try replace bz11 := bz11 (by omega)
        refine And.intro ⟨rfl, by decide, by decide⟩ ?_
        refine And.intro (by omega) (And.intro ?_ ?_)
        · intro c12
          refine Exists.intro xm_291 (And.intro mi_291 (And.intro ⟨rfl, rfl, rfl, rfl⟩ (And.intro True.intro ?_)))
          refine fcallp hB0 (ct_M_least_31c1d (fBz h0 hB0) (by first | exact ⟨by decide, by decide⟩ | omega) (by omega)) ?_
          rintro _ ⟨z13, rfl, hz13⟩
          refine fstore1 rS_741_741_1_1_1_0 (fzs_sub (by decide +kernel) hW) ⟨by decide, by decide⟩ (by first | exact ⟨by decide, by decide⟩ | omega) (by omega) ?_
          intro IhB14 ehB14 hB14
          have t15 := fup_self ehB14
          have t16 := fup_at ehB14 1 (by first | rfl | omega)
          exact rfl
        · intro c17
          refine fstore1 rS_741_741_1_1_1_0 (fzs_sub (by decide +kernel) hW) ⟨by decide, by decide⟩ (by first | exact ⟨by decide, by decide⟩ | omega) (by first | exact ⟨by decide, by decide⟩ | omega) ?_
          intro IhB18 ehB18 hB18
          have t19 := fup_self ehB18
          have t20 := fup_at ehB18 1 (by first | rfl | omega)
          exact rfl
      · intro c21
        refine And.intro ⟨rfl, by decide, by decide⟩ ?_
        refine fload1 rL_741_741_1_1_1_0 h0 hB0 ⟨by decide, by decide⟩ (by first | exact ⟨by decide, by decide⟩ | omega) ?_
        intro z22 lz22 uz22 qz22
        have pz22 := fld_at qz22 1 (by omega)
        intro z23 hz23 ez23 bz23
        clear ez23
        try replace bz23 := bz23 (by omega)
        refine And.intro ⟨rfl, by decide, by decide⟩ ?_
        refine And.intro (by omega) (And.intro ?_ ?_)
        · intro c24
          refine Exists.intro xm_291 (And.intro mi_291 (And.intro ⟨rfl, rfl, rfl, rfl⟩ (And.intro True.intro ?_)))
          refine fcallp hB0 (ct_M_least_31c1d (fBz h0 hB0) (by first | exact ⟨by decide, by decide⟩ | omega) (by omega)) ?_
          rintro _ ⟨z25, rfl, hz25⟩
          refine fstore1 rS_741_741_1_1_1_0 (fzs_sub (by decide +kernel) hW) ⟨by decide, by decide⟩ (by first | exact ⟨by decide, by decide⟩ | omega) (by omega) ?_
          intro IhB26 ehB26 hB26
          have t27 := fup_self ehB26
          have t28 := fup_at ehB26 1 (by first | rfl | omega)
          exact rfl
        · intro c29
          refine fstore1 rS_741_741_1_1_1_0 (fzs_sub (by decide +kernel) hW) ⟨by decide, by decide⟩ (by first | exact ⟨by decide, by decide⟩ | omega) (by first | exact ⟨by decide, by decide⟩ | omega) ?_
          intro IhB30 ehB30 hB30
          have t31 := fup_self ehB30
          have t32 := fup_at ehB30 1 (by first | rfl | omega)
          exact rfl
    · intro c33
      refine And.intro ⟨rfl, by decide, by decide⟩ ?_
      refine fload1 rL_741_741_1_1_1_0 h0 hB0 ⟨by decide, by decide⟩ (by first | exact ⟨by decide, by decide⟩ | omega) ?_
      intro z34 lz34 uz34 qz34
      have pz34 := fld_at qz34 1 (by omega)
      intro z35 hz35 ez35 bz35
      clear ez35
      try replace bz35 := bz35 (by omega)
      refine And.intro ⟨rfl, by decide, by decide⟩ ?_
      refine And.intro (by omega) (And.intro ?_ ?_)
      · intro c36
        refine Exists.intro xm_291 (And.intro mi_291 (And.intro ⟨rfl, rfl, rfl, rfl⟩ (And.intro True.intro ?_)))
        refine fcallp hB0 (ct_M_least_31c1d (fBz h0 hB0) (by first | exact ⟨by decide, by decide⟩ | omega) (by omega)) ?_
        rintro _ ⟨z37, rfl, hz37⟩
        refine fstore1 rS_741_741_1_1_1_0 (fzs_sub (by decide +kernel) hW) ⟨by decide, by decide⟩ (by first | exact ⟨by decide, by decide⟩ | omega) (by omega) ?_
        intro IhB38 ehB38 hB38
        have t39 := fup_self ehB38
        have t40 := fup_at ehB38 1 (by first | rfl | omega)
        exact rfl
      · intro c41
        refine fstore1 rS_741_741_1_1_1_0 (fzs_sub (by decide +kernel) hW) ⟨by decide, by decide⟩ (by first | exact ⟨by decide, by decide⟩ | omega) (by first | exact ⟨by decide, by decide⟩ | omega) ?_
        intro IhB42 ehB42 hB42
        have t43 := fup_self ehB42
        have t44 := fup_at ehB42 1 (by first | rfl | omega)
        exact rfl
set_option maxRecDepth 8000 in
theorem ct_M_comes_305fc {I : fH} {x1 : Int} {x2 : Int} {x3 : Int} (h0 : fB bsJ I) (ha1 : (0 ≤ x1 ∧ x1 ≤ 19)) (ha2 : (0 ≤ x2 ∧ x2 ≤ 4)) (ha3 : ((-2147483648) ≤ x3 ∧ x3 ≤ 2147483647)) : fC ρ base n F xTc vwCl xTys D dA la gJ (fbz bsJ znJ (fKc wz_e4f60) I) xm_292 [.inr (.inr (some 740)), .inl x1, .inl x2, .inl x3] I (fun _ r => r = none) := by
  have hW : fzs wz_e4f60 (fKc wz_e4f60) := fKc_ok _
  refine f_meth (rb := rbJ) (J := []) 1 400 xG xin_292 x6_292 okJ (fB_self h0) ?_ ?_
  · exact fun q h => absurd h List.not_mem_nil
  · have hB0 := fB_self (zn := znJ) (K := fKc wz_e4f60) h0
    refine Exists.intro xm_239 (And.intro mi_239 (And.intro ⟨rfl, rfl, rfl, rfl⟩ (And.intro rfl ?_)))
    refine fcallp hB0 (ct_M_cellAt_c15f4 (fBz h0 hB0) (by first | exact ⟨ha1.1, ha1.2⟩ | omega)) ?_
    rintro _ ⟨_, rfl, rfl⟩
    refine And.intro ⟨rfl, by decide, by decide⟩ ?_
    refine fload rL_741_741_31_415_20_4 h0 hB0 (by omega) ?_
    intro z2 lz2 uz2 qz2
    intro z3 hz3 ez3 bz3
    clear ez3
    clear bz3
    intro z4 hz4 ez4 bz4
    clear ez4
    clear bz4
    refine And.intro ⟨rfl, by decide, by decide⟩ ?_
    refine And.intro (by omega) (And.intro ?_ ?_)
    · intro c5
      refine And.intro ⟨rfl, by decide, by decide⟩ ?_
      refine fload rL_741_741_31_415_20_4 h0 hB0 (by omega) ?_
      intro z6 lz6 uz6 qz6
      intro z7 hz7 ez7 bz7
      clear ez7
      clear bz7
      refine fstore rS_741_741_31_415_20_4 (fzs_sub (by decide +kernel) hW) (by omega) (by omega) ?_
      intro IhB8 ehB8 hB8
      have t9 := fup_self ehB8
      refine And.intro ⟨rfl, by decide, by decide⟩ ?_
      refine Exists.intro xm_239 (And.intro mi_239 (And.intro ⟨rfl, rfl, rfl, rfl⟩ (And.intro rfl ?_)))
      refine fcallp hB8 (ct_M_cellAt_c15f4 (fBz h0 hB8) (by first | exact ⟨ha1.1, ha1.2⟩ | omega)) ?_
      rintro _ ⟨_, rfl, rfl⟩
      refine fload rL_741_741_37_421_20_4 h0 hB8 (by omega) ?_
      intro z11 lz11 uz11 qz11
      refine And.intro (by omega) (And.intro ?_ ?_)
      · intro c12
        intro z13 hz13 ez13 bz13
        clear ez13
        clear bz13
        refine fstore rS_741_741_37_421_20_4 (fzs_sub (by decide +kernel) hW) (by omega) (by omega) ?_
        intro IhB14 ehB14 hB14
        have t15 := fup_self ehB14
        exact rfl
      · intro c16
        intro z17 hz17 ez17 bz17
        clear ez17
        clear bz17
        refine fstore rS_741_741_37_421_20_4 (fzs_sub (by decide +kernel) hW) (by omega) (by omega) ?_
        intro IhB18 ehB18 hB18
        have t19 := fup_self ehB18
        exact rfl
    · intro c20
      refine fstore rS_741_741_31_415_20_4 (fzs_sub (by decide +kernel) hW) (by omega) (by first | exact ⟨by decide, by decide⟩ | omega) ?_
      intro IhB21 ehB21 hB21
      have t22 := fup_self ehB21
      refine And.intro ⟨rfl, by decide, by decide⟩ ?_
      refine Exists.intro xm_239 (And.intro mi_239 (And.intro ⟨rfl, rfl, rfl, rfl⟩ (And.intro rfl ?_)))
      refine fcallp hB21 (ct_M_cellAt_c15f4 (fBz h0 hB21) (by first | exact ⟨ha1.1, ha1.2⟩ | omega)) ?_
      rintro _ ⟨_, rfl, rfl⟩
      refine fload rL_741_741_37_421_20_4 h0 hB21 (by omega) ?_
      intro z24 lz24 uz24 qz24
      refine And.intro (by omega) (And.intro ?_ ?_)
      · intro c25
        intro z26 hz26 ez26 bz26
        clear ez26
        clear bz26
        refine fstore rS_741_741_37_421_20_4 (fzs_sub (by decide +kernel) hW) (by omega) (by omega) ?_
        intro IhB27 ehB27 hB27
        have t28 := fup_self ehB27
        exact rfl
      · intro c29
        intro z30 hz30 ez30 bz30
        clear ez30
        clear bz30
        refine fstore rS_741_741_37_421_20_4 (fzs_sub (by decide +kernel) hW) (by omega) (by omega) ?_
        intro IhB31 ehB31 hB31
        have t32 := fup_self ehB31
        exact rfl
abbrev jc_M_flows_1ceaa_48 (x1 : Int) (I0 : fH) : Nat → fL → List fV → fH → Prop := fun m lv st I => ∃ (y2 : Int) (y3 : Int) (y4 : Int) (y5 : Int), lv = [(0, .inr (.inr (some 740))), (2, .inl y2), (3, .inl y3), (4, .inl y4), (5, .inl y5)] ∧ st = [] ∧ ((((430 ≤ y2 ∧ y2 ≤ 522) ∧ (y2 - 430) % 4 ≤ 0) ∧ ((30 ≤ y3 ∧ y3 ≤ 410) ∧ (y3 - 30) % 20 ≤ 0) ∧ ((30 ≤ y4 ∧ y4 ≤ 410) ∧ (y4 - 30) % 20 ≤ 0) ∧ (0 ≤ y5 ∧ y5 ≤ 5) ∧ (y3 = 30 + 20 * I0 741 (430 + 4 * x1.toNat)) ∧ (y4 = 30 + 20 * I0 741 (431 + 4 * x1.toNat)))) ∧ m = (1 + 1 * (5 - y5) : Int).toNat
set_option maxRecDepth 8000 in
theorem ct_M_flows_1ceaa {I : fH} {x1 : Int} (h0 : fB bsJ I) (ha1 : (0 ≤ x1 ∧ x1 ≤ 23)) (hp0 : sI I 741) (hp1 : x1 < I 741 6) : fC ρ base n F xTc vwCl xTys D dA la gJ (fbz bsJ znJ (fKc wz_e4f60) I) xm_297 [.inr (.inr (some 740)), .inl x1] I (fun _ r => r = none) := by
  have hW : fzs wz_e4f60 (fKc wz_e4f60) := fKc_ok _
  refine f_meth (rb := rbJ) (J := [(48, (jc_M_flows_1ceaa_48 x1 I))]) 7 400 xG xin_297 x6_297 okJ (fB_self h0) ?_ ?_
  · refine List.forall_mem_cons.mpr ⟨?_, fun q h => absurd h List.not_mem_nil⟩
    · rintro m _ _ I1 hB1 ⟨y2, y3, y4, y5, rfl, rfl, hb, hm⟩
      refine And.intro (And.intro (by first | exact fi_ hb.2.2.2.1.1 hb.2.2.2.1.2 rfl | omega) (by first | exact ⟨by decide, by decide⟩ | omega)) (And.intro ?_ ?_)
      · intro c1
        exact rfl
      · intro c2
        refine And.intro ⟨rfl, by decide, by decide⟩ ?_
        refine fload rL_741_741_31_415_20_4 h0 hB1 (by omega) ?_
        intro z3 lz3 uz3 qz3
        refine And.intro (by first | exact fi_ lz3 uz3 rfl | omega) ?_
        refine And.intro ⟨rfl, by decide, by decide⟩ ?_
        refine fload rL_741_741_30_410_20_0 h0 hB1 (by omega) ?_
        intro z4 lz4 uz4 qz4
        refine And.intro (by first | exact fi_ lz4 uz4 rfl | omega) ?_
        intro z5 hz5 ez5 bz5
        refine And.intro ⟨rfl, by decide, by decide⟩ ?_
        refine fload rL_741_741_31_415_20_4 h0 hB1 (by omega) ?_
        intro z6 lz6 uz6 qz6
        refine And.intro (by first | exact fi_ lz6 uz6 rfl | omega) ?_
        refine And.intro ⟨rfl, by decide, by decide⟩ ?_
        refine fload rL_741_741_30_410_20_0 h0 hB1 (by omega) ?_
        intro z7 lz7 uz7 qz7
        refine And.intro (by first | exact fi_ lz7 uz7 rfl | omega) ?_
        intro z8 hz8 ez8 bz8
        intro z9 hz9 ez9 bz9
        refine And.intro ⟨rfl, by decide, by decide⟩ ?_
        refine fload rL_741_741_30_410_20_0 h0 hB1 (by omega) ?_
        intro z10 lz10 uz10 qz10
        have w108 := fld_at qz10 (30 + 20 * (I 741 (430 + 4 * x1.toNat)).toNat) (by omega)
        refine And.intro ⟨rfl, by decide, by decide⟩ ?_
        refine fload rL_741_741_30_410_20_0 h0 hB1 (by omega) ?_
        intro z11 lz11 uz11 qz11
        have w117 := fld_at qz11 (30 + 20 * (I 741 (431 + 4 * x1.toNat)).toNat) (by omega)
        have wv := sI_vol hp0 h0 hB1 (by decide +kernel) (l := x1.toNat) (by omega)
        refine And.intro (by omega) ?_
        refine And.intro (And.intro (by omega) (by omega)) ?_
        intro z12 hz12 ez12
        refine And.intro ⟨rfl, by decide, by decide⟩ ?_
        refine fload rL_741_741_432_524_4_0 h0 hB1 (by omega) ?_
        intro z13 lz13 uz13 qz13
        refine And.intro (by first | exact fi_ lz13 uz13 rfl | omega) ?_
        intro z14 hz14 ez14 bz14
        refine And.intro (And.intro (by omega) (by omega)) ?_
        intro z15 hz15 ez15
        intro z16 hz16 ez16 bz16
        clear ez16
        clear bz16
        refine And.intro (by omega) (And.intro ?_ ?_)
        · intro c17
          refine And.intro ⟨rfl, by decide, by decide⟩ ?_
          refine fload rL_741_741_31_415_20_4 h0 hB1 (by omega) ?_
          intro z18 lz18 uz18 qz18
          intro z19 hz19 ez19 bz19
          clear ez19
          try replace bz19 := bz19 (by omega)
          refine fstore rS_741_741_31_415_20_4 (fzs_sub (by decide +kernel) hW) (by omega) (by omega) ?_
          intro IhB20 ehB20 hB20
          have t21 := fup_self ehB20
          refine And.intro ⟨rfl, by decide, by decide⟩ ?_
          refine fload rL_741_741_430_522_4_0 h0 hB20 (by omega) ?_
          intro z22 lz22 uz22 qz22
          intro z23 hz23 ez23 bz23
          clear ez23
          clear bz23
          refine Exists.intro xm_292 (And.intro mi_292 (And.intro ⟨rfl, rfl, rfl, rfl⟩ (And.intro rfl ?_)))
          refine fcall _ h0 (fzs_sub (by decide +kernel) hW) hB20 (ct_M_comes_305fc (fBz h0 hB20) (by first | exact ⟨lz22, uz22⟩ | omega) (by first | exact ⟨hb.2.2.2.1.1, Int.le_trans (Int.le_sub_one_of_lt (Int.lt_of_lt_of_le c2 (Int.le_refl _))) (by decide)⟩ | omega) (by omega)) ?_
          rintro IhB25 _ hB25 fhB25 rfl
          exact fcutJ (I := IhB25) (j := (jc_M_flows_1ceaa_48 x1 I)) (lv' := [(0, .inr (.inr (some 740))), (2, .inl _), (3, .inl _), (4, .inl _), (5, .inl _)]) (And.intro rfl (And.intro rfl (And.intro rfl (And.intro rfl (And.intro rfl True.intro))))) ⟨_, _, _, _, rfl, rfl, by omega, rfl⟩ (by omega)
        · intro c26
          refine And.intro ⟨rfl, by decide, by decide⟩ ?_
          refine fload rL_741_741_31_415_20_4 h0 hB1 (by omega) ?_
          intro z27 lz27 uz27 qz27
          intro z28 hz28 ez28 bz28
          clear ez28
          try replace bz28 := bz28 (by omega)
          refine fstore rS_741_741_31_415_20_4 (fzs_sub (by decide +kernel) hW) (by omega) (by omega) ?_
          intro IhB29 ehB29 hB29
          have t30 := fup_self ehB29
          refine And.intro ⟨rfl, by decide, by decide⟩ ?_
          refine fload rL_741_741_431_523_4_0 h0 hB29 (by omega) ?_
          intro z31 lz31 uz31 qz31
          refine Exists.intro xm_292 (And.intro mi_292 (And.intro ⟨rfl, rfl, rfl, rfl⟩ (And.intro rfl ?_)))
          refine fcall _ h0 (fzs_sub (by decide +kernel) hW) hB29 (ct_M_comes_305fc (fBz h0 hB29) (by first | exact ⟨lz31, uz31⟩ | omega) (by first | exact ⟨hb.2.2.2.1.1, Int.le_trans (Int.le_sub_one_of_lt (Int.lt_of_lt_of_le c2 (Int.le_refl _))) (by decide)⟩ | omega) (by omega)) ?_
          rintro IhB33 _ hB33 fhB33 rfl
          exact fcutJ (I := IhB33) (j := (jc_M_flows_1ceaa_48 x1 I)) (lv' := [(0, .inr (.inr (some 740))), (2, .inl _), (3, .inl _), (4, .inl _), (5, .inl _)]) (And.intro rfl (And.intro rfl (And.intro rfl (And.intro rfl (And.intro rfl True.intro))))) ⟨_, _, _, _, rfl, rfl, by omega, rfl⟩ (by omega)
  · have hB0 := fB_self (zn := znJ) (K := fKc wz_e4f60) h0
    refine And.intro ⟨rfl, by decide, by decide⟩ ?_
    refine fload rL_741_741_433_525_4_0 h0 hB0 (by omega) ?_
    intro z34 lz34 uz34 qz34
    refine And.intro (by first | exact fi_ lz34 uz34 rfl | omega) (And.intro ?_ ?_)
    · intro c35
      refine And.intro ⟨rfl, by decide, by decide⟩ ?_
      refine fload rL_741_741_430_522_4_0 h0 hB0 (by omega) ?_
      intro z36 lz36 uz36 qz36
      have w26 := fld_at qz36 (430 + 4 * x1.toNat) (by omega)
      refine Exists.intro xm_239 (And.intro mi_239 (And.intro ⟨rfl, rfl, rfl, rfl⟩ (And.intro rfl ?_)))
      refine fcallp hB0 (ct_M_cellAt_c15f4 (fBz h0 hB0) (by first | exact ⟨lz36, uz36⟩ | omega)) ?_
      rintro _ ⟨_, rfl, rfl⟩
      refine And.intro ⟨rfl, by decide, by decide⟩ ?_
      refine fload rL_741_741_431_523_4_0 h0 hB0 (by omega) ?_
      intro z38 lz38 uz38 qz38
      have w39 := fld_at qz38 (431 + 4 * x1.toNat) (by omega)
      refine Exists.intro xm_239 (And.intro mi_239 (And.intro ⟨rfl, rfl, rfl, rfl⟩ (And.intro rfl ?_)))
      refine fcallp hB0 (ct_M_cellAt_c15f4 (fBz h0 hB0) (by first | exact ⟨lz38, uz38⟩ | omega)) ?_
      rintro _ ⟨_, rfl, rfl⟩
      exact fcutJ (I := I) (j := (jc_M_flows_1ceaa_48 x1 I)) (lv' := [(0, .inr (.inr (some 740))), (2, .inl _), (3, .inl _), (4, .inl _), (5, .inl _)]) (And.intro rfl (And.intro rfl (And.intro rfl (And.intro rfl (And.intro rfl True.intro))))) ⟨_, _, _, _, rfl, rfl, by omega, rfl⟩ (by omega)
    · intro c40
      exact rfl
set_option maxRecDepth 8000 in
theorem ct_M_part_9aaa8 {I : fH} {x1 : Int} {x2 : Int} (h0 : fB bsJ I) (ha1 : (0 ≤ x1 ∧ x1 ≤ 23)) (ha2 : ((-2147483648) ≤ x2 ∧ x2 ≤ 2147483647)) : fC ρ base n F xTc vwCl xTys D dA la gJ (fbz bsJ znJ (fKc []) I) xm_290 [.inr (.inr (some 740)), .inl x1, .inl x2] I (fun _ r => ∃ z, r = some (.inl z) ∧ ((-2147483648) ≤ z ∧ z ≤ 2147483647)) := by
  have hW : fzs [] (fKc []) := fKc_ok _
  refine f_meth (rb := rbJ) (J := []) 1 400 xG xin_290 x6_290 okJ (fB_self h0) ?_ ?_
  · exact fun q h => absurd h List.not_mem_nil
  · have hB0 := fB_self (zn := znJ) (K := fKc []) h0
    refine And.intro ⟨rfl, by decide, by decide⟩ ?_
    refine Exists.intro xm_244 (And.intro mi_244 (And.intro ⟨rfl, rfl, rfl, rfl⟩ (And.intro rfl ?_)))
    refine fcallp hB0 (ct_M_workAt_83d38 (fBz h0 hB0) (by first | exact ⟨ha1.1, ha1.2⟩ | omega)) ?_
    rintro _ ⟨_, rfl, rfl⟩
    refine fload rL_741_741_534_856_14_0 h0 hB0 (by omega) ?_
    intro z2 lz2 uz2 qz2
    intro z3 hz3 ez3 bz3
    clear ez3
    clear bz3
    intro z4 hz4 ez4 bz4
    clear ez4
    clear bz4
    refine And.intro (And.intro (by omega) (And.intro (by first | exact ⟨by decide, by decide⟩ | omega) (And.intro (by first | exact by decide | omega) rfl))) ?_
    intro z5 hz5 ez5 dz5
    refine And.intro (True.intro) ?_
    exact ⟨_, rfl, by omega⟩
set_option maxRecDepth 8000 in
theorem ct_M_still_f4bbc {I : fH} {x1 : Int} (h0 : fB bsJ I) (ha1 : (0 ≤ x1 ∧ x1 ≤ 23)) : fC ρ base n F xTc vwCl xTys D dA la gJ (fbz bsJ znJ (fKc wz_76090) I) xm_293 [.inr (.inr (some 740)), .inl x1] I (fun _ r => r = none) := by
  have hW : fzs wz_76090 (fKc wz_76090) := fKc_ok _
  refine f_meth (rb := rbJ) (J := []) 1 400 xG xin_293 x6_293 okJ (fB_self h0) ?_ ?_
  · exact fun q h => absurd h List.not_mem_nil
  · have hB0 := fB_self (zn := znJ) (K := fKc wz_76090) h0
    refine Exists.intro xm_244 (And.intro mi_244 (And.intro ⟨rfl, rfl, rfl, rfl⟩ (And.intro rfl ?_)))
    refine fcallp hB0 (ct_M_workAt_83d38 (fBz h0 hB0) (by first | exact ⟨ha1.1, ha1.2⟩ | omega)) ?_
    rintro _ ⟨_, rfl, rfl⟩
    refine And.intro ⟨rfl, by decide, by decide⟩ ?_
    refine fload1 rL_741_741_22_22_1_0 h0 hB0 ⟨by decide, by decide⟩ (by first | exact ⟨by decide, by decide⟩ | omega) ?_
    intro z2 lz2 uz2 qz2
    have pz2 := fld_at qz2 22 (by omega)
    refine And.intro (by first | exact fi_ lz2 uz2 rfl | omega) (And.intro ?_ ?_)
    · intro c3
      refine And.intro ⟨rfl, by decide, by decide⟩ ?_
      refine fload1 rL_741_741_22_22_1_0 h0 hB0 ⟨by decide, by decide⟩ (by first | exact ⟨by decide, by decide⟩ | omega) ?_
      intro z4 lz4 uz4 qz4
      have pz4 := fld_at qz4 22 (by omega)
      intro z5 hz5 ez5 bz5
      clear ez5
      clear bz5
      refine fstore1 rS_741_741_22_22_1_0 (fzs_sub (by decide +kernel) hW) ⟨by decide, by decide⟩ (by first | exact ⟨by decide, by decide⟩ | omega) (by omega) ?_
      intro IhB6 ehB6 hB6
      have t7 := fup_self ehB6
      have t8 := fup_at ehB6 22 (by first | rfl | omega)
      refine And.intro ⟨rfl, by decide, by decide⟩ ?_
      refine fload rL_741_741_531_853_14_0 h0 hB6 (by omega) ?_
      intro z9 lz9 uz9 qz9
      refine Exists.intro xm_239 (And.intro mi_239 (And.intro ⟨rfl, rfl, rfl, rfl⟩ (And.intro rfl ?_)))
      refine fcallp hB6 (ct_M_cellAt_c15f4 (fBz h0 hB6) (by first | exact ⟨lz9, uz9⟩ | omega)) ?_
      rintro _ ⟨_, rfl, rfl⟩
      refine And.intro ⟨rfl, by decide, by decide⟩ ?_
      refine fload rL_741_741_535_857_14_0 h0 hB6 (by omega) ?_
      intro z11 lz11 uz11 qz11
      refine Exists.intro xm_290 (And.intro mi_290 (And.intro ⟨rfl, rfl, rfl, rfl⟩ (And.intro rfl ?_)))
      refine fcallp hB6 (ct_M_part_9aaa8 (fBz h0 hB6) (by first | exact ⟨ha1.1, ha1.2⟩ | omega) (by first | exact ⟨lz11, uz11⟩ | omega)) ?_
      rintro _ ⟨z12, rfl, hz12⟩
      refine And.intro ⟨rfl, by decide, by decide⟩ ?_
      refine fload rL_741_741_34_414_20_0 h0 hB6 (by omega) ?_
      intro z13 lz13 uz13 qz13
      refine Exists.intro xm_291 (And.intro mi_291 (And.intro ⟨rfl, rfl, rfl, rfl⟩ (And.intro True.intro ?_)))
      refine fcallp hB6 (ct_M_least_31c1d (fBz h0 hB6) (by first | exact ⟨hz12.1, hz12.2⟩ | omega) (by first | exact ⟨lz13, uz13⟩ | omega)) ?_
      rintro _ ⟨z14, rfl, hz14⟩
      refine And.intro ⟨rfl, by decide, by decide⟩ ?_
      refine fload rL_741_741_34_414_20_0 h0 hB6 (by omega) ?_
      intro z15 lz15 uz15 qz15
      intro z16 hz16 ez16 bz16
      clear ez16
      clear bz16
      refine fstore rS_741_741_34_414_20_0 (fzs_sub (by decide +kernel) hW) (by omega) (by omega) ?_
      intro IhB17 ehB17 hB17
      have t18 := fup_self ehB17
      have t19 : IhB17 741 22 = IhB6 741 22 := (congrFun (congrFun ehB17 741) 22).trans (fup_ne (by first | exact Or.inl (by decide) | omega))
      refine And.intro ⟨rfl, by decide, by decide⟩ ?_
      refine fload rL_741_741_531_853_14_0 h0 hB17 (by omega) ?_
      intro z20 lz20 uz20 qz20
      refine And.intro (And.intro (by first | exact fi_ hz14.1.1 hz14.1.2 rfl | omega) (And.intro (by first | exact ⟨by decide, by decide⟩ | omega) (And.intro (by first | exact by decide | omega) rfl))) ?_
      intro z21 hz21 ez21 dz21
      refine Exists.intro xm_292 (And.intro mi_292 (And.intro ⟨rfl, rfl, rfl, rfl⟩ (And.intro rfl ?_)))
      refine fcall _ h0 (fzs_sub (by decide +kernel) hW) hB17 (ct_M_comes_305fc (fBz h0 hB17) (by first | exact ⟨lz20, uz20⟩ | omega) (by first | exact ⟨by decide, by decide⟩ | omega) (by omega)) ?_
      rintro IhB23 _ hB23 fhB23 rfl
      have t24 := fhB23 741 22 (by decide +kernel)
      refine And.intro ⟨rfl, by decide, by decide⟩ ?_
      refine fload rL_741_741_531_853_14_0 h0 hB23 (by omega) ?_
      intro z25 lz25 uz25 qz25
      refine And.intro (And.intro (by first | exact fi_ hz14.1.1 hz14.1.2 rfl | omega) (And.intro (by first | exact ⟨by decide, by decide⟩ | omega) (And.intro (by first | exact by decide | omega) rfl))) ?_
      intro z26 hz26 ez26 dz26
      intro z27 hz27 ez27 bz27
      clear ez27
      clear bz27
      refine Exists.intro xm_292 (And.intro mi_292 (And.intro ⟨rfl, rfl, rfl, rfl⟩ (And.intro rfl ?_)))
      refine fcall _ h0 (fzs_sub (by decide +kernel) hW) hB23 (ct_M_comes_305fc (fBz h0 hB23) (by first | exact ⟨lz25, uz25⟩ | omega) (by first | exact ⟨by decide, by decide⟩ | omega) (by omega)) ?_
      rintro IhB29 _ hB29 fhB29 rfl
      have t30 := fhB29 741 22 (by decide +kernel)
      exact rfl
    · intro c31
      exact rfl
set_option maxRecDepth 8000 in
theorem ct_M_garden_cfd54 {I : fH} {x1 : Int} (h0 : fB bsJ I) (ha1 : (0 ≤ x1 ∧ x1 ≤ 23)) : fC ρ base n F xTc vwCl xTys D dA la gJ (fbz bsJ znJ (fKc wz_e4f60) I) xm_289 [.inr (.inr (some 740)), .inl x1] I (fun _ r => r = none) := by
  have hW : fzs wz_e4f60 (fKc wz_e4f60) := fKc_ok _
  refine f_meth (rb := rbJ) (J := []) 1 400 xG xin_289 x6_289 okJ (fB_self h0) ?_ ?_
  · exact fun q h => absurd h List.not_mem_nil
  · have hB0 := fB_self (zn := znJ) (K := fKc wz_e4f60) h0
    refine Exists.intro xm_244 (And.intro mi_244 (And.intro ⟨rfl, rfl, rfl, rfl⟩ (And.intro rfl ?_)))
    refine fcallp hB0 (ct_M_workAt_83d38 (fBz h0 hB0) (by first | exact ⟨ha1.1, ha1.2⟩ | omega)) ?_
    rintro _ ⟨_, rfl, rfl⟩
    refine And.intro ⟨rfl, by decide, by decide⟩ ?_
    refine fload rL_741_741_531_853_14_0 h0 hB0 (by omega) ?_
    intro z2 lz2 uz2 qz2
    refine Exists.intro xm_239 (And.intro mi_239 (And.intro ⟨rfl, rfl, rfl, rfl⟩ (And.intro rfl ?_)))
    refine fcallp hB0 (ct_M_cellAt_c15f4 (fBz h0 hB0) (by first | exact ⟨lz2, uz2⟩ | omega)) ?_
    rintro _ ⟨_, rfl, rfl⟩
    refine And.intro ⟨rfl, by decide, by decide⟩ ?_
    refine fload1 rL_741_741_2_2_1_0 h0 hB0 ⟨by decide, by decide⟩ (by first | exact ⟨by decide, by decide⟩ | omega) ?_
    intro z4 lz4 uz4 qz4
    have pz4 := fld_at qz4 2 (by omega)
    refine Exists.intro xm_283 (And.intro mi_283 (And.intro ⟨rfl, rfl, rfl, rfl⟩ (And.intro rfl ?_)))
    refine fcallp hB0 (ct_M_isDay_57f71 (fBz h0 hB0) (by first | exact ⟨lz4, uz4⟩ | omega)) ?_
    rintro _ ⟨z5, rfl, hz5⟩
    refine And.intro (by omega) (And.intro ?_ ?_)
    · intro c6
      refine And.intro ⟨rfl, by decide, by decide⟩ ?_
      refine fload rL_741_741_33_413_20_0 h0 hB0 (by omega) ?_
      intro z7 lz7 uz7 qz7
      intro z8 hz8 ez8 bz8
      clear ez8
      clear bz8
      refine fstore rS_741_741_33_413_20_0 (fzs_sub (by decide +kernel) hW) (by omega) (by omega) ?_
      intro IhB9 ehB9 hB9
      have t10 := fup_self ehB9
      have t11 : IhB9 741 2 = I 741 2 := (congrFun (congrFun ehB9 741) 2).trans (fup_ne (by first | exact Or.inl (by decide) | omega))
      refine And.intro ⟨rfl, by decide, by decide⟩ ?_
      refine fload rL_741_741_531_853_14_0 h0 hB9 (by omega) ?_
      intro z12 lz12 uz12 qz12
      refine Exists.intro xm_292 (And.intro mi_292 (And.intro ⟨rfl, rfl, rfl, rfl⟩ (And.intro rfl ?_)))
      refine fcall _ h0 (fzs_sub (by decide +kernel) hW) hB9 (ct_M_comes_305fc (fBz h0 hB9) (by first | exact ⟨lz12, uz12⟩ | omega) (by first | exact ⟨by decide, by decide⟩ | omega) (by omega)) ?_
      rintro IhB14 _ hB14 fhB14 rfl
      have t15 := fhB14 741 2 (by decide +kernel)
      exact rfl
    · intro c16
      refine And.intro ⟨rfl, by decide, by decide⟩ ?_
      refine fload rL_741_741_535_857_14_0 h0 hB0 (by omega) ?_
      intro z17 lz17 uz17 qz17
      refine Exists.intro xm_290 (And.intro mi_290 (And.intro ⟨rfl, rfl, rfl, rfl⟩ (And.intro rfl ?_)))
      refine fcallp hB0 (ct_M_part_9aaa8 (fBz h0 hB0) (by first | exact ⟨ha1.1, ha1.2⟩ | omega) (by first | exact ⟨lz17, uz17⟩ | omega)) ?_
      rintro _ ⟨z18, rfl, hz18⟩
      refine And.intro ⟨rfl, by decide, by decide⟩ ?_
      refine fload rL_741_741_33_413_20_0 h0 hB0 (by omega) ?_
      intro z19 lz19 uz19 qz19
      refine Exists.intro xm_291 (And.intro mi_291 (And.intro ⟨rfl, rfl, rfl, rfl⟩ (And.intro True.intro ?_)))
      refine fcallp hB0 (ct_M_least_31c1d (fBz h0 hB0) (by first | exact ⟨hz18.1, hz18.2⟩ | omega) (by first | exact ⟨lz19, uz19⟩ | omega)) ?_
      rintro _ ⟨z20, rfl, hz20⟩
      refine And.intro ⟨rfl, by decide, by decide⟩ ?_
      refine fload rL_741_741_33_413_20_0 h0 hB0 (by omega) ?_
      intro z21 lz21 uz21 qz21
      intro z22 hz22 ez22 bz22
      clear ez22
      clear bz22
      refine fstore rS_741_741_33_413_20_0 (fzs_sub (by decide +kernel) hW) (by omega) (by omega) ?_
      intro IhB23 ehB23 hB23
      have t24 := fup_self ehB23
      have t25 : IhB23 741 2 = I 741 2 := (congrFun (congrFun ehB23 741) 2).trans (fup_ne (by first | exact Or.inl (by decide) | omega))
      refine And.intro ⟨rfl, by decide, by decide⟩ ?_
      refine fload rL_741_741_531_853_14_0 h0 hB23 (by omega) ?_
      intro z26 lz26 uz26 qz26
      refine Exists.intro xm_292 (And.intro mi_292 (And.intro ⟨rfl, rfl, rfl, rfl⟩ (And.intro rfl ?_)))
      refine fcall _ h0 (fzs_sub (by decide +kernel) hW) hB23 (ct_M_comes_305fc (fBz h0 hB23) (by first | exact ⟨lz26, uz26⟩ | omega) (by first | exact ⟨by decide, by decide⟩ | omega) (by first | exact ⟨hz20.1.1, hz20.1.2⟩ | omega)) ?_
      rintro IhB28 _ hB28 fhB28 rfl
      have t29 := fhB28 741 2 (by decide +kernel)
      exact rfl
abbrev jc_M_isCovered_bfece_4 : Nat → fL → List fV → fH → Prop := fun m lv st I => ∃ (y1 : Int) (y2 : Int) (y3 : Int), lv = [(0, .inr (.inr (some 740))), (1, .inl y1), (2, .inl y2), (3, .inl y3)] ∧ st = [] ∧ (((0 ≤ y1 ∧ y1 ≤ 23) ∧ (0 ≤ y2 ∧ y2 ≤ 1) ∧ (0 ≤ y3 ∧ y3 ≤ 24))) ∧ m = (1 + 1 * (24 - y3) : Int).toNat
set_option maxRecDepth 8000 in
theorem ct_M_isCovered_bfece {I : fH} {x1 : Int} (h0 : fB bsJ I) (ha1 : (0 ≤ x1 ∧ x1 ≤ 23)) : fC ρ base n F xTc vwCl xTys D dA la gJ (fbz bsJ znJ (fKc []) I) xm_294 [.inr (.inr (some 740)), .inl x1] I (fun _ r => ∃ z, r = some (.inl z) ∧ (0 ≤ z ∧ z ≤ 1)) := by
  have hW : fzs [] (fKc []) := fKc_ok _
  refine f_meth (rb := rbJ) (J := [(4, jc_M_isCovered_bfece_4)]) 26 400 xG xin_294 x6_294 okJ (fB_self h0) ?_ ?_
  · refine List.forall_mem_cons.mpr ⟨?_, fun q h => absurd h List.not_mem_nil⟩
    · rintro m _ _ I1 hB1 ⟨y1, y2, y3, rfl, rfl, hb, hm⟩
      refine And.intro ⟨rfl, by decide, by decide⟩ ?_
      refine fload1 rL_741_741_7_7_1_0 h0 hB1 ⟨by decide, by decide⟩ (by first | exact ⟨by decide, by decide⟩ | omega) ?_
      intro z1 lz1 uz1 qz1
      have pz1 := fld_at qz1 7 (by omega)
      refine And.intro (And.intro (by first | exact fi_ hb.2.2.1 hb.2.2.2 rfl | omega) (by first | exact fi_ lz1 uz1 rfl | omega)) (And.intro ?_ ?_)
      · intro c2
        refine And.intro (⟨by omega, by omega⟩) ?_
        exact ⟨_, rfl, (by first | exact ⟨hb.2.1.1, hb.2.1.2⟩ | omega)⟩
      · intro c3
        refine And.intro (by first | exact fi_ hb.2.1.1 hb.2.1.2 rfl | omega) (And.intro ?_ ?_)
        · intro c4
          exact fcutJ (I := I1) (j := jc_M_isCovered_bfece_4) (lv' := [(0, .inr (.inr (some 740))), (1, .inl _), (2, .inl _), (3, .inl _)]) (And.intro rfl (And.intro rfl (And.intro rfl (And.intro rfl True.intro)))) ⟨_, _, _, rfl, rfl, by omega, rfl⟩ (by omega)
        · intro c5
          refine Exists.intro xm_267 (And.intro mi_267 (And.intro ⟨rfl, rfl, rfl, rfl⟩ (And.intro rfl ?_)))
          refine fcallp hB1 (ct_M_kindOf_31275 (fBz h0 hB1) (by first | exact ⟨hb.2.2.1, Int.le_trans (Int.le_sub_one_of_lt (Int.lt_of_lt_of_le c3 uz1)) (by decide)⟩ | omega)) ?_
          rintro _ ⟨z6, rfl, hz6, g0z6⟩
          refine And.intro (And.intro (by first | exact fi_ hz6.1 hz6.2 rfl | omega) (by first | exact ⟨by decide, by decide⟩ | omega)) (And.intro ?_ ?_)
          · intro c7
            exact fcutJ (I := I1) (j := jc_M_isCovered_bfece_4) (lv' := [(0, .inr (.inr (some 740))), (1, .inl _), (2, .inl _), (3, .inl _)]) (And.intro rfl (And.intro rfl (And.intro rfl (And.intro rfl True.intro)))) ⟨_, _, _, rfl, rfl, by omega, rfl⟩ (by omega)
          · intro c8
            refine And.intro ⟨rfl, by decide, by decide⟩ ?_
            refine Exists.intro xm_244 (And.intro mi_244 (And.intro ⟨rfl, rfl, rfl, rfl⟩ (And.intro rfl ?_)))
            refine fcallp hB1 (ct_M_workAt_83d38 (fBz h0 hB1) (by first | exact ⟨hb.2.2.1, Int.le_trans (Int.le_sub_one_of_lt (Int.lt_of_lt_of_le c3 uz1)) (by decide)⟩ | omega)) ?_
            rintro _ ⟨_, rfl, rfl⟩
            refine fload rL_741_741_535_857_14_0 h0 hB1 (by omega) ?_
            intro z10 lz10 uz10 qz10
            refine And.intro (And.intro (by first | exact fi_ lz10 uz10 rfl | omega) (by first | exact fi_ hb.1.1 hb.1.2 rfl | omega)) (And.intro ?_ ?_)
            · intro c11
              exact fcutJ (I := I1) (j := jc_M_isCovered_bfece_4) (lv' := [(0, .inr (.inr (some 740))), (1, .inl _), (2, .inl _), (3, .inl _)]) (And.intro rfl (And.intro rfl (And.intro rfl (And.intro rfl True.intro)))) ⟨_, _, _, rfl, rfl, by omega, rfl⟩ (by omega)
            · intro c12
              refine And.intro ⟨rfl, by decide, by decide⟩ ?_
              refine Exists.intro xm_244 (And.intro mi_244 (And.intro ⟨rfl, rfl, rfl, rfl⟩ (And.intro rfl ?_)))
              refine fcallp hB1 (ct_M_workAt_83d38 (fBz h0 hB1) (by first | exact ⟨hb.2.2.1, Int.le_trans (Int.le_sub_one_of_lt (Int.lt_of_lt_of_le c3 uz1)) (by decide)⟩ | omega)) ?_
              rintro _ ⟨_, rfl, rfl⟩
              refine fload rL_741_741_533_855_14_0 h0 hB1 (by omega) ?_
              intro z14 lz14 uz14 qz14
              refine And.intro (And.intro (by first | exact fi_ lz14 uz14 rfl | omega) (by first | exact ⟨by decide, by decide⟩ | omega)) (And.intro ?_ ?_)
              · intro c15
                exact fcutJ (I := I1) (j := jc_M_isCovered_bfece_4) (lv' := [(0, .inr (.inr (some 740))), (1, .inl _), (2, .inl _), (3, .inl _)]) (And.intro rfl (And.intro rfl (And.intro rfl (And.intro rfl True.intro)))) ⟨_, _, _, rfl, rfl, by omega, rfl⟩ (by omega)
              · intro c16
                refine Exists.intro xm_245 (And.intro mi_245 (And.intro ⟨rfl, rfl, rfl, rfl⟩ (And.intro rfl ?_)))
                refine fcallp hB1 (ct_M_isGone_0de37 (fBz h0 hB1) (by first | exact ⟨hb.2.2.1, Int.le_trans (Int.le_sub_one_of_lt (Int.lt_of_lt_of_le c3 uz1)) (by decide)⟩ | omega)) ?_
                rintro _ ⟨z17, rfl, hz17⟩
                refine And.intro (by omega) (And.intro ?_ ?_)
                · intro c18
                  exact fcutJ (I := I1) (j := jc_M_isCovered_bfece_4) (lv' := [(0, .inr (.inr (some 740))), (1, .inl _), (2, .inl _), (3, .inl _)]) (And.intro rfl (And.intro rfl (And.intro rfl (And.intro rfl True.intro)))) ⟨_, _, _, rfl, rfl, by omega, rfl⟩ (by omega)
                · intro c19
                  exact fcutJ (I := I1) (j := jc_M_isCovered_bfece_4) (lv' := [(0, .inr (.inr (some 740))), (1, .inl _), (2, .inl _), (3, .inl _)]) (And.intro rfl (And.intro rfl (And.intro rfl (And.intro rfl True.intro)))) ⟨_, _, _, rfl, rfl, by omega, rfl⟩ (by omega)
  · have hB0 := fB_self (zn := znJ) (K := fKc []) h0
    exact fcutJ (I := I) (j := jc_M_isCovered_bfece_4) (lv' := [(0, .inr (.inr (some 740))), (1, .inl _), (2, .inl _), (3, .inl _)]) (And.intro rfl (And.intro rfl (And.intro rfl (And.intro rfl True.intro)))) ⟨_, _, _, rfl, rfl, by omega, rfl⟩ (by omega)
abbrev jc_M_wears_b070e_26 : Nat → fL → List fV → fH → Prop := fun m lv st I => ∃ (y2 : Int), lv = [(0, .inr (.inr (some 740))), (2, .inl y2)] ∧ st = [] ∧ ((((530 ≤ y2 ∧ y2 ≤ 852) ∧ (y2 - 530) % 14 ≤ 0))) ∧ m = (1 + 1 * I 741 (y2 + ((7 : Nat) : Int)).toNat : Int).toNat
set_option maxRecDepth 8000 in
theorem ct_M_wears_b070e {I : fH} {x1 : Int} (h0 : fB bsJ I) (ha1 : (0 ≤ x1 ∧ x1 ≤ 23)) : fC ρ base n F xTc vwCl xTys D dA la gJ (fbz bsJ znJ (fKc wz_ad13a) I) xm_295 [.inr (.inr (some 740)), .inl x1] I (fun _ r => r = none) := by
  have hW : fzs wz_ad13a (fKc wz_ad13a) := fKc_ok _
  refine f_meth (rb := rbJ) (J := [(26, jc_M_wears_b070e_26)]) 2147483650 400 xG xin_295 x6_295 okJ (fB_self h0) ?_ ?_
  · refine List.forall_mem_cons.mpr ⟨?_, fun q h => absurd h List.not_mem_nil⟩
    · rintro m _ _ I1 hB1 ⟨y2, rfl, rfl, hb, hm⟩
      refine And.intro ⟨rfl, by decide, by decide⟩ ?_
      refine fload rL_741_741_537_859_14_0 h0 hB1 (by omega) ?_
      intro z1 lz1 uz1 qz1
      refine And.intro (And.intro (by first | exact fi_ lz1 uz1 rfl | omega) (by first | exact ⟨by decide, by decide⟩ | omega)) (And.intro ?_ ?_)
      · intro c2
        refine And.intro ⟨rfl, by decide, by decide⟩ ?_
        refine And.intro ⟨rfl, by decide, by decide⟩ ?_
        refine fload rL_741_741_537_859_14_0 h0 hB1 (by omega) ?_
        intro z3 lz3 uz3 qz3
        refine Exists.intro xm_291 (And.intro mi_291 (And.intro ⟨rfl, rfl, rfl, rfl⟩ (And.intro True.intro ?_)))
        refine fcallp hB1 (ct_M_least_31c1d (fBz h0 hB1) (by first | exact ⟨by decide, by decide⟩ | omega) (by first | exact ⟨lz3, uz3⟩ | omega)) ?_
        rintro _ ⟨z4, rfl, hz4⟩
        refine fstore rS_741_741_537_859_14_0 (fzs_sub (by decide +kernel) hW) (by omega) (by first | exact ⟨hz4.1.1, hz4.1.2⟩ | omega) ?_
        intro IhB5 ehB5 hB5
        have t6 := fup_self ehB5
        refine And.intro ⟨rfl, by decide, by decide⟩ ?_
        refine fload rL_741_741_535_857_14_0 h0 hB5 (by omega) ?_
        intro z7 lz7 uz7 qz7
        refine And.intro (by first | exact fi_ lz7 uz7 rfl | omega) (And.intro ?_ ?_)
        · intro c8
          exact rfl
        · intro c9
          refine And.intro ⟨rfl, by decide, by decide⟩ ?_
          refine fload rL_741_741_536_858_14_0 h0 hB5 (by omega) ?_
          intro z10 lz10 uz10 qz10
          refine And.intro ⟨rfl, by decide, by decide⟩ ?_
          refine fload rL_741_741_536_858_14_0 h0 hB5 (by omega) ?_
          intro z11 lz11 uz11 qz11
          refine And.intro (And.intro (by first | exact fi_ lz11 uz11 rfl | omega) (And.intro (by first | exact ⟨by decide, by decide⟩ | omega) (And.intro (by first | exact by decide | omega) rfl))) ?_
          intro z12 hz12 ez12 dz12
          intro z13 hz13 ez13 bz13
          clear ez13
          try replace bz13 := bz13 (by omega)
          refine Exists.intro xm_291 (And.intro mi_291 (And.intro ⟨rfl, rfl, rfl, rfl⟩ (And.intro True.intro ?_)))
          refine fcallp hB5 (ct_M_least_31c1d (fBz h0 hB5) (by first | exact ⟨lz10, uz10⟩ | omega) (by omega)) ?_
          rintro _ ⟨z14, rfl, hz14⟩
          refine And.intro ⟨rfl, by decide, by decide⟩ ?_
          refine fload rL_741_741_536_858_14_0 h0 hB5 (by omega) ?_
          intro z15 lz15 uz15 qz15
          intro z16 hz16 ez16 bz16
          clear ez16
          try replace bz16 := bz16 (by omega)
          refine fstore rS_741_741_536_858_14_0 (fzs_sub (by decide +kernel) hW) (by omega) (by omega) ?_
          intro IhB17 ehB17 hB17
          have t18 := fup_self ehB17
          refine And.intro ⟨rfl, by decide, by decide⟩ ?_
          refine And.intro ⟨rfl, by decide, by decide⟩ ?_
          refine fload rL_741_741_531_853_14_0 h0 hB17 (by omega) ?_
          intro z19 lz19 uz19 qz19
          refine Exists.intro xm_239 (And.intro mi_239 (And.intro ⟨rfl, rfl, rfl, rfl⟩ (And.intro rfl ?_)))
          refine fcallp hB17 (ct_M_cellAt_c15f4 (fBz h0 hB17) (by first | exact ⟨lz19, uz19⟩ | omega)) ?_
          rintro _ ⟨_, rfl, rfl⟩
          refine fload rL_741_741_38_418_20_0 h0 hB17 (by omega) ?_
          intro z21 lz21 uz21 qz21
          intro z22 hz22 ez22 bz22
          clear ez22
          try replace bz22 := bz22 (by omega)
          refine fstore rS_741_741_38_418_20_0 (fzs_sub (by decide +kernel) hW) (by omega) (by omega) ?_
          intro IhB23 ehB23 hB23
          have t24 := fup_self ehB23
          exact rfl
      · intro c25
        refine And.intro ⟨rfl, by decide, by decide⟩ ?_
        refine fload rL_741_741_535_857_14_0 h0 hB1 (by omega) ?_
        intro z26 lz26 uz26 qz26
        refine And.intro (by first | exact fi_ lz26 uz26 rfl | omega) (And.intro ?_ ?_)
        · intro c27
          refine And.intro ⟨rfl, by decide, by decide⟩ ?_
          refine And.intro ⟨rfl, by decide, by decide⟩ ?_
          refine fload rL_741_741_537_859_14_0 h0 hB1 (by omega) ?_
          intro z28 lz28 uz28 qz28
          refine Exists.intro xm_291 (And.intro mi_291 (And.intro ⟨rfl, rfl, rfl, rfl⟩ (And.intro True.intro ?_)))
          refine fcallp hB1 (ct_M_least_31c1d (fBz h0 hB1) (by first | exact ⟨by decide, by decide⟩ | omega) (by first | exact ⟨lz28, uz28⟩ | omega)) ?_
          rintro _ ⟨z29, rfl, hz29⟩
          refine fstore rS_741_741_537_859_14_0 (fzs_sub (by decide +kernel) hW) (by omega) (by first | exact ⟨hz29.1.1, hz29.1.2⟩ | omega) ?_
          intro IhB30 ehB30 hB30
          have t31 := fup_self ehB30
          refine And.intro ⟨rfl, by decide, by decide⟩ ?_
          refine fload rL_741_741_535_857_14_0 h0 hB30 (by omega) ?_
          intro z32 lz32 uz32 qz32
          refine And.intro (by first | exact fi_ lz32 uz32 rfl | omega) (And.intro ?_ ?_)
          · intro c33
            exact rfl
          · intro c34
            refine And.intro ⟨rfl, by decide, by decide⟩ ?_
            refine fload rL_741_741_536_858_14_0 h0 hB30 (by omega) ?_
            intro z35 lz35 uz35 qz35
            refine And.intro ⟨rfl, by decide, by decide⟩ ?_
            refine fload rL_741_741_536_858_14_0 h0 hB30 (by omega) ?_
            intro z36 lz36 uz36 qz36
            refine And.intro (And.intro (by first | exact fi_ lz36 uz36 rfl | omega) (And.intro (by first | exact ⟨by decide, by decide⟩ | omega) (And.intro (by first | exact by decide | omega) rfl))) ?_
            intro z37 hz37 ez37 dz37
            intro z38 hz38 ez38 bz38
            clear ez38
            try replace bz38 := bz38 (by omega)
            refine Exists.intro xm_291 (And.intro mi_291 (And.intro ⟨rfl, rfl, rfl, rfl⟩ (And.intro True.intro ?_)))
            refine fcallp hB30 (ct_M_least_31c1d (fBz h0 hB30) (by first | exact ⟨lz35, uz35⟩ | omega) (by omega)) ?_
            rintro _ ⟨z39, rfl, hz39⟩
            refine And.intro ⟨rfl, by decide, by decide⟩ ?_
            refine fload rL_741_741_536_858_14_0 h0 hB30 (by omega) ?_
            intro z40 lz40 uz40 qz40
            intro z41 hz41 ez41 bz41
            clear ez41
            try replace bz41 := bz41 (by omega)
            refine fstore rS_741_741_536_858_14_0 (fzs_sub (by decide +kernel) hW) (by omega) (by omega) ?_
            intro IhB42 ehB42 hB42
            have t43 := fup_self ehB42
            refine And.intro ⟨rfl, by decide, by decide⟩ ?_
            refine And.intro ⟨rfl, by decide, by decide⟩ ?_
            refine fload rL_741_741_531_853_14_0 h0 hB42 (by omega) ?_
            intro z44 lz44 uz44 qz44
            refine Exists.intro xm_239 (And.intro mi_239 (And.intro ⟨rfl, rfl, rfl, rfl⟩ (And.intro rfl ?_)))
            refine fcallp hB42 (ct_M_cellAt_c15f4 (fBz h0 hB42) (by first | exact ⟨lz44, uz44⟩ | omega)) ?_
            rintro _ ⟨_, rfl, rfl⟩
            refine fload rL_741_741_38_418_20_0 h0 hB42 (by omega) ?_
            intro z46 lz46 uz46 qz46
            intro z47 hz47 ez47 bz47
            clear ez47
            try replace bz47 := bz47 (by omega)
            refine fstore rS_741_741_38_418_20_0 (fzs_sub (by decide +kernel) hW) (by omega) (by omega) ?_
            intro IhB48 ehB48 hB48
            have t49 := fup_self ehB48
            exact rfl
        · intro c50
          refine And.intro ⟨rfl, by decide, by decide⟩ ?_
          refine fload rL_741_741_537_859_14_0 h0 hB1 (by omega) ?_
          intro z51 lz51 uz51 qz51
          intro z52 hz52 ez52 bz52
          clear ez52
          try replace bz52 := bz52 (by omega)
          refine fstore rS_741_741_537_859_14_0 (fzs_sub (by decide +kernel) hW) (by omega) (by omega) ?_
          intro IhB53 ehB53 hB53
          have t54 := fup_self ehB53
          refine And.intro ⟨rfl, by decide, by decide⟩ ?_
          refine fload rL_741_741_535_857_14_0 h0 hB53 (by omega) ?_
          intro z55 lz55 uz55 qz55
          intro z56 hz56 ez56 bz56
          clear ez56
          try replace bz56 := bz56 (by omega)
          refine fstore rS_741_741_535_857_14_0 (fzs_sub (by decide +kernel) hW) (by omega) (by omega) ?_
          intro IhB57 ehB57 hB57
          have t58 := fup_self ehB57
          have w76 := fup_other ehB57 741 (y2 + ((7 : Nat) : Int)).toNat (by omega)
          exact fcutJ (I := IhB57) (j := jc_M_wears_b070e_26) (lv' := [(0, .inr (.inr (some 740))), (2, .inl _)]) (And.intro rfl (And.intro rfl True.intro)) ⟨_, rfl, rfl, by omega, rfl⟩ (by omega)
  · have hB0 := fB_self (zn := znJ) (K := fKc wz_ad13a) h0
    refine Exists.intro xm_244 (And.intro mi_244 (And.intro ⟨rfl, rfl, rfl, rfl⟩ (And.intro rfl ?_)))
    refine fcallp hB0 (ct_M_workAt_83d38 (fBz h0 hB0) (by first | exact ⟨ha1.1, ha1.2⟩ | omega)) ?_
    rintro _ ⟨_, rfl, rfl⟩
    refine And.intro ⟨rfl, by decide, by decide⟩ ?_
    refine fload rL_741_741_537_859_14_0 h0 hB0 (by omega) ?_
    intro z60 lz60 uz60 qz60
    refine Exists.intro xm_281 (And.intro mi_281 (And.intro ⟨rfl, rfl, rfl, rfl⟩ (And.intro rfl ?_)))
    refine fcallp hB0 (ct_M_table_49021 (fBz h0 hB0) (by omega)) ?_
    rintro _ ⟨z61, rfl, hz61⟩
    refine And.intro (And.intro (by first | exact fi_ hz61.1 hz61.2 rfl | omega) (And.intro (by first | exact ⟨by decide, by decide⟩ | omega) (And.intro (by first | exact by decide | omega) rfl))) ?_
    intro z62 hz62 ez62 dz62
    intro z63 hz63 ez63 bz63
    clear ez63
    try replace bz63 := bz63 (by omega)
    refine fstore rS_741_741_537_859_14_0 (fzs_sub (by decide +kernel) hW) (by omega) (by omega) ?_
    intro IhB64 ehB64 hB64
    have t65 := fup_self ehB64
    exact fcutJ (I := IhB64) (j := jc_M_wears_b070e_26) (lv' := [(0, .inr (.inr (some 740))), (2, .inl _)]) (And.intro rfl (And.intro rfl True.intro)) ⟨_, rfl, rfl, by omega, rfl⟩ (by omega)
set_option maxRecDepth 8000 in
theorem ct_M_falls_0e45b {I : fH} {x1 : Int} (h0 : fB bsJ I) (ha1 : (0 ≤ x1 ∧ x1 ≤ 23)) (hp0 : 0 ≤ I 741 (530 + 14 * x1 + ((9 : Nat) : Int)).toNat) : fC ρ base n F xTc vwCl xTys D dA la gJ (fbz bsJ znJ (fKc wz_11492) I) xm_296 [.inr (.inr (some 740)), .inl x1] I (fun _ r => r = none) := by
  have hW : fzs wz_11492 (fKc wz_11492) := fKc_ok _
  refine f_meth (rb := rbJ) (J := []) 1 400 xG xin_296 x6_296 okJ (fB_self h0) ?_ ?_
  · exact fun q h => absurd h List.not_mem_nil
  · have hB0 := fB_self (zn := znJ) (K := fKc wz_11492) h0
    refine Exists.intro xm_244 (And.intro mi_244 (And.intro ⟨rfl, rfl, rfl, rfl⟩ (And.intro rfl ?_)))
    refine fcallp hB0 (ct_M_workAt_83d38 (fBz h0 hB0) (by first | exact ⟨ha1.1, ha1.2⟩ | omega)) ?_
    rintro _ ⟨_, rfl, rfl⟩
    refine And.intro ⟨rfl, by decide, by decide⟩ ?_
    refine fload rL_741_741_539_861_14_0 h0 hB0 (by omega) ?_
    intro z2 lz2 uz2 qz2
    refine And.intro ⟨rfl, by decide, by decide⟩ ?_
    refine fload rL_741_741_539_861_14_0 h0 hB0 (by omega) ?_
    intro z3 lz3 uz3 qz3
    refine And.intro (by first | exact fi_ lz3 uz3 rfl | omega) (And.intro ?_ ?_)
    · intro c4
      refine fstore rS_741_741_539_861_14_0 (fzs_sub (by decide +kernel) hW) (by omega) (by omega) ?_
      intro IhB5 ehB5 hB5
      have t6 := fup_self ehB5
      refine And.intro ⟨rfl, by decide, by decide⟩ ?_
      refine fload rL_741_741_540_862_14_0 h0 hB5 (by omega) ?_
      intro z7 lz7 uz7 qz7
      refine And.intro ⟨rfl, by decide, by decide⟩ ?_
      refine And.intro ⟨rfl, by decide, by decide⟩ ?_
      refine fload rL_741_741_539_861_14_0 h0 hB5 (by omega) ?_
      intro z8 lz8 uz8 qz8
      refine fload rL_741_741_1081_1141_1_0 h0 hB5 (by omega) ?_
      intro z9 lz9 uz9 qz9
      intro z10 hz10 ez10 bz10
      clear ez10
      try replace bz10 := bz10 (by omega)
      refine fstore rS_741_741_540_862_14_0 (fzs_sub (by decide +kernel) hW) (by omega) (by omega) ?_
      intro IhB11 ehB11 hB11
      have t12 := fup_self ehB11
      refine And.intro ⟨rfl, by decide, by decide⟩ ?_
      refine fload rL_741_741_540_862_14_0 h0 hB11 (by omega) ?_
      intro z13 lz13 uz13 qz13
      refine And.intro ⟨rfl, by decide, by decide⟩ ?_
      refine fload rL_741_741_535_857_14_0 h0 hB11 (by omega) ?_
      intro z14 lz14 uz14 qz14
      refine And.intro (And.intro (by first | exact fi_ lz13 uz13 rfl | omega) (by first | exact fi_ lz14 uz14 rfl | omega)) (And.intro ?_ ?_)
      · intro c15
        exact rfl
      · intro c16
        refine And.intro ⟨rfl, by decide, by decide⟩ ?_
        refine fstore rS_741_741_538_860_14_0 (fzs_sub (by decide +kernel) hW) (by omega) (by first | exact ⟨by decide, by decide⟩ | omega) ?_
        intro IhB17 ehB17 hB17
        have t18 := fup_self ehB17
        exact rfl
    · intro c19
      refine fstore rS_741_741_539_861_14_0 (fzs_sub (by decide +kernel) hW) (by omega) (by omega) ?_
      intro IhB20 ehB20 hB20
      have t21 := fup_self ehB20
      refine And.intro ⟨rfl, by decide, by decide⟩ ?_
      refine fload rL_741_741_540_862_14_0 h0 hB20 (by omega) ?_
      intro z22 lz22 uz22 qz22
      refine And.intro ⟨rfl, by decide, by decide⟩ ?_
      refine And.intro ⟨rfl, by decide, by decide⟩ ?_
      refine fload rL_741_741_539_861_14_0 h0 hB20 (by omega) ?_
      intro z23 lz23 uz23 qz23
      refine fload rL_741_741_1081_1141_1_0 h0 hB20 (by omega) ?_
      intro z24 lz24 uz24 qz24
      intro z25 hz25 ez25 bz25
      clear ez25
      try replace bz25 := bz25 (by omega)
      refine fstore rS_741_741_540_862_14_0 (fzs_sub (by decide +kernel) hW) (by omega) (by omega) ?_
      intro IhB26 ehB26 hB26
      have t27 := fup_self ehB26
      refine And.intro ⟨rfl, by decide, by decide⟩ ?_
      refine fload rL_741_741_540_862_14_0 h0 hB26 (by omega) ?_
      intro z28 lz28 uz28 qz28
      refine And.intro ⟨rfl, by decide, by decide⟩ ?_
      refine fload rL_741_741_535_857_14_0 h0 hB26 (by omega) ?_
      intro z29 lz29 uz29 qz29
      refine And.intro (And.intro (by first | exact fi_ lz28 uz28 rfl | omega) (by first | exact fi_ lz29 uz29 rfl | omega)) (And.intro ?_ ?_)
      · intro c30
        exact rfl
      · intro c31
        refine And.intro ⟨rfl, by decide, by decide⟩ ?_
        refine fstore rS_741_741_538_860_14_0 (fzs_sub (by decide +kernel) hW) (by omega) (by first | exact ⟨by decide, by decide⟩ | omega) ?_
        intro IhB32 ehB32 hB32
        have t33 := fup_self ehB32
        exact rfl
abbrev jc_M_works_ee8a5_195 : Nat → fL → List fV → fH → Prop := fun m lv st I => lv = [] ∧ st = [] ∧ (True) ∧ m = (1 : Int).toNat
set_option maxRecDepth 8000 in
theorem ct_M_works_ee8a5 {I : fH} {x1 : Int} (h0 : fB bsJ I) (ha1 : (0 ≤ x1 ∧ x1 ≤ 23)) : fC ρ base n F xTc vwCl xTys D dA la gJ (fbz bsJ znJ (fKc wz_40ea8) I) xm_288 [.inr (.inr (some 740)), .inl x1] I (fun _ r => r = none) := by
  have hW : fzs wz_40ea8 (fKc wz_40ea8) := fKc_ok _
  refine f_meth (rb := rbJ) (J := [(195, jc_M_works_ee8a5_195)]) 2 400 xG xin_288 x6_288 okJ (fB_self h0) ?_ ?_
  · refine List.forall_mem_cons.mpr ⟨?_, fun q h => absurd h List.not_mem_nil⟩
    · rintro m _ _ I1 hB1 ⟨rfl, rfl, hb, hm⟩
      exact rfl
  · have hB0 := fB_self (zn := znJ) (K := fKc wz_40ea8) h0
    refine Exists.intro xm_244 (And.intro mi_244 (And.intro ⟨rfl, rfl, rfl, rfl⟩ (And.intro rfl ?_)))
    refine fcallp hB0 (ct_M_workAt_83d38 (fBz h0 hB0) (by first | exact ⟨ha1.1, ha1.2⟩ | omega)) ?_
    rintro _ ⟨_, rfl, rfl⟩
    refine And.intro ⟨rfl, by decide, by decide⟩ ?_
    refine fload rL_741_741_530_852_14_0 h0 hB0 (by omega) ?_
    intro z2 lz2 uz2 qz2
    refine And.intro (by first | exact fi_ lz2 uz2 rfl | omega) (And.intro ?_ ?_)
    · refine And.intro (fun ex => ?_) (And.intro (fun ex => ?_) (And.intro (fun ex => ?_) (And.intro (fun ex => ?_) (And.intro (fun ex => ?_) (And.intro (fun ex => ?_) (True.intro))))))
      · skip
        refine Exists.intro xm_294 (And.intro mi_294 (And.intro ⟨rfl, rfl, rfl, rfl⟩ (And.intro rfl ?_)))
        refine fcallp hB0 (ct_M_isCovered_bfece (fBz h0 hB0) (by first | exact ⟨ha1.1, ha1.2⟩ | omega)) ?_
        rintro _ ⟨z3, rfl, hz3⟩
        refine And.intro (by omega) (And.intro ?_ ?_)
        · intro c4
          exact fcutJ (I := I) (j := jc_M_works_ee8a5_195) (lv' := []) (True.intro) ⟨rfl, rfl, True.intro, rfl⟩ (by omega)
        · intro c5
          refine Exists.intro xm_295 (And.intro mi_295 (And.intro ⟨rfl, rfl, rfl, rfl⟩ (And.intro rfl ?_)))
          refine fcall _ h0 (fzs_sub (by decide +kernel) hW) hB0 (ct_M_wears_b070e (fBz h0 hB0) (by first | exact ⟨ha1.1, ha1.2⟩ | omega)) ?_
          rintro IhB7 _ hB7 fhB7 rfl
          exact fcutJ (I := IhB7) (j := jc_M_works_ee8a5_195) (lv' := []) (True.intro) ⟨rfl, rfl, True.intro, rfl⟩ (by omega)
      · skip
        refine Exists.intro xm_289 (And.intro mi_289 (And.intro ⟨rfl, rfl, rfl, rfl⟩ (And.intro rfl ?_)))
        refine fcall _ h0 (fzs_sub (by decide +kernel) hW) hB0 (ct_M_garden_cfd54 (fBz h0 hB0) (by first | exact ⟨ha1.1, ha1.2⟩ | omega)) ?_
        rintro IhB9 _ hB9 fhB9 rfl
        exact fcutJ (I := IhB9) (j := jc_M_works_ee8a5_195) (lv' := []) (True.intro) ⟨rfl, rfl, True.intro, rfl⟩ (by omega)
      · skip
        refine Exists.intro xm_293 (And.intro mi_293 (And.intro ⟨rfl, rfl, rfl, rfl⟩ (And.intro rfl ?_)))
        refine fcall _ h0 (fzs_sub (by decide +kernel) hW) hB0 (ct_M_still_f4bbc (fBz h0 hB0) (by first | exact ⟨ha1.1, ha1.2⟩ | omega)) ?_
        rintro IhB11 _ hB11 fhB11 rfl
        exact fcutJ (I := IhB11) (j := jc_M_works_ee8a5_195) (lv' := []) (True.intro) ⟨rfl, rfl, True.intro, rfl⟩ (by omega)
      · skip
        refine And.intro ⟨rfl, by decide, by decide⟩ ?_
        refine fload1 rL_741_741_22_22_1_0 h0 hB0 ⟨by decide, by decide⟩ (by first | exact ⟨by decide, by decide⟩ | omega) ?_
        intro z12 lz12 uz12 qz12
        have pz12 := fld_at qz12 22 (by omega)
        refine And.intro ⟨rfl, by decide, by decide⟩ ?_
        refine fload rL_741_741_535_857_14_0 h0 hB0 (by omega) ?_
        intro z13 lz13 uz13 qz13
        refine And.intro (And.intro (by first | exact fi_ lz12 uz12 rfl | omega) (by first | exact fi_ lz13 uz13 rfl | omega)) (And.intro ?_ ?_)
        · intro c14
          exact fcutJ (I := I) (j := jc_M_works_ee8a5_195) (lv' := []) (True.intro) ⟨rfl, rfl, True.intro, rfl⟩ (by omega)
        · intro c15
          refine And.intro ⟨rfl, by decide, by decide⟩ ?_
          refine fload1 rL_741_741_22_22_1_0 h0 hB0 ⟨by decide, by decide⟩ (by first | exact ⟨by decide, by decide⟩ | omega) ?_
          intro z16 lz16 uz16 qz16
          have pz16 := fld_at qz16 22 (by omega)
          refine And.intro ⟨rfl, by decide, by decide⟩ ?_
          refine fload rL_741_741_535_857_14_0 h0 hB0 (by omega) ?_
          intro z17 lz17 uz17 qz17
          intro z18 hz18 ez18 bz18
          clear ez18
          clear bz18
          refine fstore1 rS_741_741_22_22_1_0 (fzs_sub (by decide +kernel) hW) ⟨by decide, by decide⟩ (by first | exact ⟨by decide, by decide⟩ | omega) (by omega) ?_
          intro IhB19 ehB19 hB19
          have t20 := fup_self ehB19
          have t21 := fup_at ehB19 22 (by first | rfl | omega)
          refine And.intro ⟨rfl, by decide, by decide⟩ ?_
          refine fload1 rL_741_741_2_2_1_0 h0 hB19 ⟨by decide, by decide⟩ (by first | exact ⟨by decide, by decide⟩ | omega) ?_
          intro z22 lz22 uz22 qz22
          have pz22 := fld_at qz22 2 (by omega)
          intro z23 hz23 ez23 bz23
          clear ez23
          clear bz23
          refine fstore1 rS_741_741_2_2_1_0 (fzs_sub (by decide +kernel) hW) ⟨by decide, by decide⟩ (by first | exact ⟨by decide, by decide⟩ | omega) (by omega) ?_
          intro IhB24 ehB24 hB24
          have t25 := fup_self ehB24
          have t26 := fup_at ehB24 2 (by first | rfl | omega)
          have t27 : IhB24 741 22 = IhB19 741 22 := (congrFun (congrFun ehB24 741) 22).trans (fup_ne (by first | decide | omega))
          exact fcutJ (I := IhB24) (j := jc_M_works_ee8a5_195) (lv' := []) (True.intro) ⟨rfl, rfl, True.intro, rfl⟩ (by omega)
      · skip
        refine And.intro ⟨rfl, by decide, by decide⟩ ?_
        refine fload rL_741_741_536_858_14_0 h0 hB0 (by omega) ?_
        intro z28 lz28 uz28 qz28
        intro z29 hz29 ez29 bz29
        clear ez29
        clear bz29
        refine fstore rS_741_741_536_858_14_0 (fzs_sub (by decide +kernel) hW) (by omega) (by omega) ?_
        intro IhB30 ehB30 hB30
        have t31 := fup_self ehB30
        refine And.intro ⟨rfl, by decide, by decide⟩ ?_
        refine And.intro ⟨rfl, by decide, by decide⟩ ?_
        refine fload rL_741_741_536_858_14_0 h0 hB30 (by omega) ?_
        intro z32 lz32 uz32 qz32
        refine And.intro (by first | exact fi_ lz32 uz32 rfl | omega) (And.intro ?_ ?_)
        · intro c33
          refine fstore rS_741_741_538_860_14_0 (fzs_sub (by decide +kernel) hW) (by omega) (by omega) ?_
          intro IhB34 ehB34 hB34
          have t35 := fup_self ehB34
          exact fcutJ (I := IhB34) (j := jc_M_works_ee8a5_195) (lv' := []) (True.intro) ⟨rfl, rfl, True.intro, rfl⟩ (by omega)
        · intro c36
          refine fstore rS_741_741_538_860_14_0 (fzs_sub (by decide +kernel) hW) (by omega) (by first | exact ⟨by decide, by decide⟩ | omega) ?_
          intro IhB37 ehB37 hB37
          have t38 := fup_self ehB37
          exact fcutJ (I := IhB37) (j := jc_M_works_ee8a5_195) (lv' := []) (True.intro) ⟨rfl, rfl, True.intro, rfl⟩ (by omega)
      · skip
        refine And.intro ⟨rfl, by decide, by decide⟩ ?_
        refine fload rL_741_741_539_861_14_0 h0 hB0 (by omega) ?_
        intro z39 lz39 uz39 qz39
        refine And.intro (by first | exact fi_ lz39 uz39 rfl | omega) (And.intro ?_ ?_)
        · intro c40
          exact fcutJ (I := I) (j := jc_M_works_ee8a5_195) (lv' := []) (True.intro) ⟨rfl, rfl, True.intro, rfl⟩ (by omega)
        · intro c41
          refine Exists.intro xm_296 (And.intro mi_296 (And.intro ⟨rfl, rfl, rfl, rfl⟩ (And.intro rfl ?_)))
          refine fcall _ h0 (fzs_sub (by decide +kernel) hW) hB0 (ct_M_falls_0e45b (fBz h0 hB0) (by first | exact ⟨ha1.1, ha1.2⟩ | omega) (by omega)) ?_
          rintro IhB43 _ hB43 fhB43 rfl
          exact fcutJ (I := IhB43) (j := jc_M_works_ee8a5_195) (lv' := []) (True.intro) ⟨rfl, rfl, True.intro, rfl⟩ (by omega)
    · intro c44
      exact fcutJ (I := I) (j := jc_M_works_ee8a5_195) (lv' := []) (True.intro) ⟨rfl, rfl, True.intro, rfl⟩ (by omega)
set_option maxRecDepth 8000 in
theorem ct_M_need_68cc2 {I : fH} {x1 : Int} (h0 : fB bsJ I) (ha1 : (0 ≤ x1 ∧ x1 ≤ 23)) : fC ρ base n F xTc vwCl xTys D dA la gJ (fbz bsJ znJ (fKc []) I) xm_300 [.inr (.inr (some 740)), .inl x1] I (fun _ r => ∃ z, r = some (.inl z) ∧ (1 ≤ z ∧ z ≤ 2)) := by
  have hW : fzs [] (fKc []) := fKc_ok _
  refine f_meth (rb := rbJ) (J := []) 1 400 xG xin_300 x6_300 okJ (fB_self h0) ?_ ?_
  · exact fun q h => absurd h List.not_mem_nil
  · have hB0 := fB_self (zn := znJ) (K := fKc []) h0
    refine And.intro ⟨rfl, by decide, by decide⟩ ?_
    refine Exists.intro xm_247 (And.intro mi_247 (And.intro ⟨rfl, rfl, rfl, rfl⟩ (And.intro rfl ?_)))
    refine fcallp hB0 (ct_M_personAt_9b331 (fBz h0 hB0) (by first | exact ⟨ha1.1, ha1.2⟩ | omega)) ?_
    rintro _ ⟨_, rfl, rfl⟩
    refine fload rL_741_741_870_1008_6_0 h0 hB0 (by omega) ?_
    intro z2 lz2 uz2 qz2
    refine And.intro (And.intro (by first | exact fi_ lz2 uz2 rfl | omega) (by first | exact ⟨by decide, by decide⟩ | omega)) (And.intro ?_ ?_)
    · intro c3
      refine And.intro (True.intro) ?_
      exact ⟨_, rfl, by omega⟩
    · intro c4
      refine And.intro (True.intro) ?_
      exact ⟨_, rfl, (by first | exact ⟨by decide, by decide⟩ | omega)⟩
set_option maxRecDepth 8000 in
theorem ct_M_breathes_a87a8 {I : fH} {x1 : Int} (h0 : fB bsJ I) (ha1 : (0 ≤ x1 ∧ x1 ≤ 23)) : fC ρ base n F xTc vwCl xTys D dA la gJ (fbz bsJ znJ (fKc wz_69747) I) xm_299 [.inr (.inr (some 740)), .inl x1] I (fun _ r => r = none) := by
  have hW : fzs wz_69747 (fKc wz_69747) := fKc_ok _
  refine f_meth (rb := rbJ) (J := []) 1 400 xG xin_299 x6_299 okJ (fB_self h0) ?_ ?_
  · exact fun q h => absurd h List.not_mem_nil
  · have hB0 := fB_self (zn := znJ) (K := fKc wz_69747) h0
    refine Exists.intro xm_247 (And.intro mi_247 (And.intro ⟨rfl, rfl, rfl, rfl⟩ (And.intro rfl ?_)))
    refine fcallp hB0 (ct_M_personAt_9b331 (fBz h0 hB0) (by first | exact ⟨ha1.1, ha1.2⟩ | omega)) ?_
    rintro _ ⟨_, rfl, rfl⟩
    refine And.intro ⟨rfl, by decide, by decide⟩ ?_
    refine fload rL_741_741_872_1010_6_0 h0 hB0 (by omega) ?_
    intro z2 lz2 uz2 qz2
    refine Exists.intro xm_239 (And.intro mi_239 (And.intro ⟨rfl, rfl, rfl, rfl⟩ (And.intro rfl ?_)))
    refine fcallp hB0 (ct_M_cellAt_c15f4 (fBz h0 hB0) (by first | exact ⟨lz2, uz2⟩ | omega)) ?_
    rintro _ ⟨_, rfl, rfl⟩
    refine Exists.intro xm_300 (And.intro mi_300 (And.intro ⟨rfl, rfl, rfl, rfl⟩ (And.intro rfl ?_)))
    refine fcallp hB0 (ct_M_need_68cc2 (fBz h0 hB0) (by first | exact ⟨ha1.1, ha1.2⟩ | omega)) ?_
    rintro _ ⟨z4, rfl, hz4⟩
    refine And.intro ⟨rfl, by decide, by decide⟩ ?_
    refine fload rL_741_741_31_411_20_0 h0 hB0 (by omega) ?_
    intro z5 lz5 uz5 qz5
    refine Exists.intro xm_291 (And.intro mi_291 (And.intro ⟨rfl, rfl, rfl, rfl⟩ (And.intro True.intro ?_)))
    refine fcallp hB0 (ct_M_least_31c1d (fBz h0 hB0) (by first | exact ⟨Int.le_trans (by decide) hz4.1, Int.le_trans hz4.2 (by decide)⟩ | omega) (by first | exact ⟨lz5, uz5⟩ | omega)) ?_
    rintro _ ⟨z6, rfl, hz6⟩
    refine And.intro ⟨rfl, by decide, by decide⟩ ?_
    refine fload rL_741_741_31_411_20_0 h0 hB0 (by omega) ?_
    intro z7 lz7 uz7 qz7
    intro z8 hz8 ez8 bz8
    clear ez8
    clear bz8
    refine fstore rS_741_741_31_411_20_0 (fzs_sub (by decide +kernel) hW) (by omega) (by omega) ?_
    intro IhB9 ehB9 hB9
    have t10 := fup_self ehB9
    refine And.intro (And.intro (by first | exact fi_ hz6.1.1 hz6.1.2 rfl | omega) (And.intro (by first | exact ⟨by decide, by decide⟩ | omega) (And.intro (by first | exact by decide | omega) rfl))) ?_
    intro z11 hz11 ez11 dz11
    refine Exists.intro xm_292 (And.intro mi_292 (And.intro ⟨rfl, rfl, rfl, rfl⟩ (And.intro rfl ?_)))
    refine fcall _ h0 (fzs_sub (by decide +kernel) hW) hB9 (ct_M_comes_305fc (fBz h0 hB9) (by first | exact ⟨lz2, uz2⟩ | omega) (by first | exact ⟨by decide, by decide⟩ | omega) (by omega)) ?_
    rintro IhB13 _ hB13 fhB13 rfl
    refine And.intro (And.intro (by first | exact fi_ hz6.1.1 hz6.1.2 rfl | omega) (And.intro (by first | exact ⟨by decide, by decide⟩ | omega) (And.intro (by first | exact by decide | omega) rfl))) ?_
    intro z14 hz14 ez14 dz14
    intro z15 hz15 ez15 bz15
    clear ez15
    clear bz15
    refine Exists.intro xm_292 (And.intro mi_292 (And.intro ⟨rfl, rfl, rfl, rfl⟩ (And.intro rfl ?_)))
    refine fcall _ h0 (fzs_sub (by decide +kernel) hW) hB13 (ct_M_comes_305fc (fBz h0 hB13) (by first | exact ⟨lz2, uz2⟩ | omega) (by first | exact ⟨by decide, by decide⟩ | omega) (by omega)) ?_
    rintro IhB17 _ hB17 fhB17 rfl
    refine Exists.intro xm_300 (And.intro mi_300 (And.intro ⟨rfl, rfl, rfl, rfl⟩ (And.intro rfl ?_)))
    refine fcallp hB17 (ct_M_need_68cc2 (fBz h0 hB17) (by first | exact ⟨ha1.1, ha1.2⟩ | omega)) ?_
    rintro _ ⟨z18, rfl, hz18⟩
    refine And.intro (And.intro (by first | exact fi_ hz6.1.1 hz6.1.2 rfl | omega) (by first | exact fi_ hz18.1 hz18.2 rfl | omega)) (And.intro ?_ ?_)
    · intro c19
      refine And.intro ⟨rfl, by decide, by decide⟩ ?_
      refine Exists.intro xm_239 (And.intro mi_239 (And.intro ⟨rfl, rfl, rfl, rfl⟩ (And.intro rfl ?_)))
      refine fcallp hB17 (ct_M_cellAt_c15f4 (fBz h0 hB17) (by first | exact ⟨lz2, uz2⟩ | omega)) ?_
      rintro _ ⟨_, rfl, rfl⟩
      refine fload rL_741_741_34_414_20_0 h0 hB17 (by omega) ?_
      intro z21 lz21 uz21 qz21
      refine And.intro ⟨rfl, by decide, by decide⟩ ?_
      refine Exists.intro xm_239 (And.intro mi_239 (And.intro ⟨rfl, rfl, rfl, rfl⟩ (And.intro rfl ?_)))
      refine fcallp hB17 (ct_M_cellAt_c15f4 (fBz h0 hB17) (by first | exact ⟨lz2, uz2⟩ | omega)) ?_
      rintro _ ⟨_, rfl, rfl⟩
      refine fload rL_741_741_30_410_20_0 h0 hB17 (by omega) ?_
      intro z23 lz23 uz23 qz23
      refine And.intro (And.intro (by first | exact fi_ lz21 uz21 rfl | omega) (by first | exact fi_ lz23 uz23 rfl | omega)) (And.intro ?_ ?_)
      · intro c24
        refine And.intro ⟨rfl, by decide, by decide⟩ ?_
        refine fload rL_741_741_873_1011_6_0 h0 hB17 (by omega) ?_
        intro z25 lz25 uz25 qz25
        refine And.intro (by omega) (And.intro ?_ ?_)
        · intro c26
          intro z27 hz27 ez27 bz27
          clear ez27
          clear bz27
          refine And.intro ⟨rfl, by decide, by decide⟩ ?_
          refine And.intro (by omega) (And.intro ?_ ?_)
          · intro c28
            refine Exists.intro xm_291 (And.intro mi_291 (And.intro ⟨rfl, rfl, rfl, rfl⟩ (And.intro True.intro ?_)))
            refine fcallp hB17 (ct_M_least_31c1d (fBz h0 hB17) (by first | exact ⟨by decide, by decide⟩ | omega) (by omega)) ?_
            rintro _ ⟨z29, rfl, hz29⟩
            refine fstore rS_741_741_873_1011_6_0 (fzs_sub (by decide +kernel) hW) (by omega) (by first | exact ⟨hz29.1.1, hz29.1.2⟩ | omega) ?_
            intro IhB30 ehB30 hB30
            have t31 := fup_self ehB30
            exact rfl
          · intro c32
            refine fstore rS_741_741_873_1011_6_0 (fzs_sub (by decide +kernel) hW) (by omega) (by first | exact ⟨by decide, by decide⟩ | omega) ?_
            intro IhB33 ehB33 hB33
            have t34 := fup_self ehB33
            exact rfl
        · intro c35
          intro z36 hz36 ez36 bz36
          clear ez36
          clear bz36
          refine And.intro ⟨rfl, by decide, by decide⟩ ?_
          refine And.intro (by omega) (And.intro ?_ ?_)
          · intro c37
            refine Exists.intro xm_291 (And.intro mi_291 (And.intro ⟨rfl, rfl, rfl, rfl⟩ (And.intro True.intro ?_)))
            refine fcallp hB17 (ct_M_least_31c1d (fBz h0 hB17) (by first | exact ⟨by decide, by decide⟩ | omega) (by omega)) ?_
            rintro _ ⟨z38, rfl, hz38⟩
            refine fstore rS_741_741_873_1011_6_0 (fzs_sub (by decide +kernel) hW) (by omega) (by first | exact ⟨hz38.1.1, hz38.1.2⟩ | omega) ?_
            intro IhB39 ehB39 hB39
            have t40 := fup_self ehB39
            exact rfl
          · intro c41
            refine fstore rS_741_741_873_1011_6_0 (fzs_sub (by decide +kernel) hW) (by omega) (by first | exact ⟨by decide, by decide⟩ | omega) ?_
            intro IhB42 ehB42 hB42
            have t43 := fup_self ehB42
            exact rfl
      · intro c44
        refine And.intro ⟨rfl, by decide, by decide⟩ ?_
        refine fload rL_741_741_873_1011_6_0 h0 hB17 (by omega) ?_
        intro z45 lz45 uz45 qz45
        refine And.intro (by omega) (And.intro ?_ ?_)
        · intro c46
          intro z47 hz47 ez47 bz47
          clear ez47
          clear bz47
          refine And.intro ⟨rfl, by decide, by decide⟩ ?_
          refine And.intro (by omega) (And.intro ?_ ?_)
          · intro c48
            refine Exists.intro xm_291 (And.intro mi_291 (And.intro ⟨rfl, rfl, rfl, rfl⟩ (And.intro True.intro ?_)))
            refine fcallp hB17 (ct_M_least_31c1d (fBz h0 hB17) (by first | exact ⟨by decide, by decide⟩ | omega) (by omega)) ?_
            rintro _ ⟨z49, rfl, hz49⟩
            refine fstore rS_741_741_873_1011_6_0 (fzs_sub (by decide +kernel) hW) (by omega) (by first | exact ⟨hz49.1.1, hz49.1.2⟩ | omega) ?_
            intro IhB50 ehB50 hB50
            have t51 := fup_self ehB50
            exact rfl
          · intro c52
            refine fstore rS_741_741_873_1011_6_0 (fzs_sub (by decide +kernel) hW) (by omega) (by first | exact ⟨by decide, by decide⟩ | omega) ?_
            intro IhB53 ehB53 hB53
            have t54 := fup_self ehB53
            exact rfl
        · intro c55
          intro z56 hz56 ez56 bz56
          clear ez56
          clear bz56
          refine And.intro ⟨rfl, by decide, by decide⟩ ?_
          refine And.intro (by omega) (And.intro ?_ ?_)
          · intro c57
            refine Exists.intro xm_291 (And.intro mi_291 (And.intro ⟨rfl, rfl, rfl, rfl⟩ (And.intro True.intro ?_)))
            refine fcallp hB17 (ct_M_least_31c1d (fBz h0 hB17) (by first | exact ⟨by decide, by decide⟩ | omega) (by omega)) ?_
            rintro _ ⟨z58, rfl, hz58⟩
            refine fstore rS_741_741_873_1011_6_0 (fzs_sub (by decide +kernel) hW) (by omega) (by first | exact ⟨hz58.1.1, hz58.1.2⟩ | omega) ?_
            intro IhB59 ehB59 hB59
            have t60 := fup_self ehB59
            exact rfl
          · intro c61
            refine fstore rS_741_741_873_1011_6_0 (fzs_sub (by decide +kernel) hW) (by omega) (by first | exact ⟨by decide, by decide⟩ | omega) ?_
            intro IhB62 ehB62 hB62
            have t63 := fup_self ehB62
            exact rfl
    · intro c64
      refine And.intro ⟨rfl, by decide, by decide⟩ ?_
      refine Exists.intro xm_239 (And.intro mi_239 (And.intro ⟨rfl, rfl, rfl, rfl⟩ (And.intro rfl ?_)))
      refine fcallp hB17 (ct_M_cellAt_c15f4 (fBz h0 hB17) (by first | exact ⟨lz2, uz2⟩ | omega)) ?_
      rintro _ ⟨_, rfl, rfl⟩
      refine fload rL_741_741_34_414_20_0 h0 hB17 (by omega) ?_
      intro z66 lz66 uz66 qz66
      refine And.intro ⟨rfl, by decide, by decide⟩ ?_
      refine Exists.intro xm_239 (And.intro mi_239 (And.intro ⟨rfl, rfl, rfl, rfl⟩ (And.intro rfl ?_)))
      refine fcallp hB17 (ct_M_cellAt_c15f4 (fBz h0 hB17) (by first | exact ⟨lz2, uz2⟩ | omega)) ?_
      rintro _ ⟨_, rfl, rfl⟩
      refine fload rL_741_741_30_410_20_0 h0 hB17 (by omega) ?_
      intro z68 lz68 uz68 qz68
      refine And.intro (And.intro (by first | exact fi_ lz66 uz66 rfl | omega) (by first | exact fi_ lz68 uz68 rfl | omega)) (And.intro ?_ ?_)
      · intro c69
        refine And.intro ⟨rfl, by decide, by decide⟩ ?_
        refine fload rL_741_741_873_1011_6_0 h0 hB17 (by omega) ?_
        intro z70 lz70 uz70 qz70
        refine And.intro (by omega) (And.intro ?_ ?_)
        · intro c71
          intro z72 hz72 ez72 bz72
          clear ez72
          clear bz72
          refine And.intro ⟨rfl, by decide, by decide⟩ ?_
          refine And.intro (by omega) (And.intro ?_ ?_)
          · intro c73
            refine Exists.intro xm_291 (And.intro mi_291 (And.intro ⟨rfl, rfl, rfl, rfl⟩ (And.intro True.intro ?_)))
            refine fcallp hB17 (ct_M_least_31c1d (fBz h0 hB17) (by first | exact ⟨by decide, by decide⟩ | omega) (by omega)) ?_
            rintro _ ⟨z74, rfl, hz74⟩
            refine fstore rS_741_741_873_1011_6_0 (fzs_sub (by decide +kernel) hW) (by omega) (by first | exact ⟨hz74.1.1, hz74.1.2⟩ | omega) ?_
            intro IhB75 ehB75 hB75
            have t76 := fup_self ehB75
            exact rfl
          · intro c77
            refine fstore rS_741_741_873_1011_6_0 (fzs_sub (by decide +kernel) hW) (by omega) (by first | exact ⟨by decide, by decide⟩ | omega) ?_
            intro IhB78 ehB78 hB78
            have t79 := fup_self ehB78
            exact rfl
        · intro c80
          intro z81 hz81 ez81 bz81
          clear ez81
          clear bz81
          refine And.intro ⟨rfl, by decide, by decide⟩ ?_
          refine And.intro (by omega) (And.intro ?_ ?_)
          · intro c82
            refine Exists.intro xm_291 (And.intro mi_291 (And.intro ⟨rfl, rfl, rfl, rfl⟩ (And.intro True.intro ?_)))
            refine fcallp hB17 (ct_M_least_31c1d (fBz h0 hB17) (by first | exact ⟨by decide, by decide⟩ | omega) (by omega)) ?_
            rintro _ ⟨z83, rfl, hz83⟩
            refine fstore rS_741_741_873_1011_6_0 (fzs_sub (by decide +kernel) hW) (by omega) (by first | exact ⟨hz83.1.1, hz83.1.2⟩ | omega) ?_
            intro IhB84 ehB84 hB84
            have t85 := fup_self ehB84
            exact rfl
          · intro c86
            refine fstore rS_741_741_873_1011_6_0 (fzs_sub (by decide +kernel) hW) (by omega) (by first | exact ⟨by decide, by decide⟩ | omega) ?_
            intro IhB87 ehB87 hB87
            have t88 := fup_self ehB87
            exact rfl
      · intro c89
        refine And.intro ⟨rfl, by decide, by decide⟩ ?_
        refine fload rL_741_741_873_1011_6_0 h0 hB17 (by omega) ?_
        intro z90 lz90 uz90 qz90
        refine And.intro (by omega) (And.intro ?_ ?_)
        · intro c91
          intro z92 hz92 ez92 bz92
          clear ez92
          clear bz92
          refine And.intro ⟨rfl, by decide, by decide⟩ ?_
          refine And.intro (by omega) (And.intro ?_ ?_)
          · intro c93
            refine Exists.intro xm_291 (And.intro mi_291 (And.intro ⟨rfl, rfl, rfl, rfl⟩ (And.intro True.intro ?_)))
            refine fcallp hB17 (ct_M_least_31c1d (fBz h0 hB17) (by first | exact ⟨by decide, by decide⟩ | omega) (by omega)) ?_
            rintro _ ⟨z94, rfl, hz94⟩
            refine fstore rS_741_741_873_1011_6_0 (fzs_sub (by decide +kernel) hW) (by omega) (by first | exact ⟨hz94.1.1, hz94.1.2⟩ | omega) ?_
            intro IhB95 ehB95 hB95
            have t96 := fup_self ehB95
            exact rfl
          · intro c97
            refine fstore rS_741_741_873_1011_6_0 (fzs_sub (by decide +kernel) hW) (by omega) (by first | exact ⟨by decide, by decide⟩ | omega) ?_
            intro IhB98 ehB98 hB98
            have t99 := fup_self ehB98
            exact rfl
        · intro c100
          intro z101 hz101 ez101 bz101
          clear ez101
          clear bz101
          refine And.intro ⟨rfl, by decide, by decide⟩ ?_
          refine And.intro (by omega) (And.intro ?_ ?_)
          · intro c102
            refine Exists.intro xm_291 (And.intro mi_291 (And.intro ⟨rfl, rfl, rfl, rfl⟩ (And.intro True.intro ?_)))
            refine fcallp hB17 (ct_M_least_31c1d (fBz h0 hB17) (by first | exact ⟨by decide, by decide⟩ | omega) (by omega)) ?_
            rintro _ ⟨z103, rfl, hz103⟩
            refine fstore rS_741_741_873_1011_6_0 (fzs_sub (by decide +kernel) hW) (by omega) (by first | exact ⟨hz103.1.1, hz103.1.2⟩ | omega) ?_
            intro IhB104 ehB104 hB104
            have t105 := fup_self ehB104
            exact rfl
          · intro c106
            refine fstore rS_741_741_873_1011_6_0 (fzs_sub (by decide +kernel) hW) (by omega) (by first | exact ⟨by decide, by decide⟩ | omega) ?_
            intro IhB107 ehB107 hB107
            have t108 := fup_self ehB107
            exact rfl
abbrev jc_M_fouls_5e9bc_27 : Nat → fL → List fV → fH → Prop := fun m lv st I => ∃ (y2 : Int), lv = [(0, .inr (.inr (some 740))), (2, .inl y2)] ∧ st = [] ∧ ((((530 ≤ y2 ∧ y2 ≤ 852) ∧ (y2 - 530) % 14 ≤ 0))) ∧ m = (1 + 1 * I 741 (y2 + ((12 : Nat) : Int)).toNat : Int).toNat
set_option maxRecDepth 8000 in
theorem ct_M_fouls_5e9bc {I : fH} {x1 : Int} (h0 : fB bsJ I) (ha1 : (0 ≤ x1 ∧ x1 ≤ 23)) : fC ρ base n F xTc vwCl xTys D dA la gJ (fbz bsJ znJ (fKc wz_d1017) I) xm_302 [.inr (.inr (some 740)), .inl x1] I (fun _ r => r = none) := by
  have hW : fzs wz_d1017 (fKc wz_d1017) := fKc_ok _
  refine f_meth (rb := rbJ) (J := [(27, jc_M_fouls_5e9bc_27)]) 2147483650 400 xG xin_302 x6_302 okJ (fB_self h0) ?_ ?_
  · refine List.forall_mem_cons.mpr ⟨?_, fun q h => absurd h List.not_mem_nil⟩
    · rintro m _ _ I1 hB1 ⟨y2, rfl, rfl, hb, hm⟩
      refine And.intro ⟨rfl, by decide, by decide⟩ ?_
      refine fload rL_741_741_542_864_14_0 h0 hB1 (by omega) ?_
      intro z1 lz1 uz1 qz1
      refine And.intro (And.intro (by first | exact fi_ lz1 uz1 rfl | omega) (by first | exact ⟨by decide, by decide⟩ | omega)) (And.intro ?_ ?_)
      · intro c2
        exact rfl
      · intro c3
        refine And.intro ⟨rfl, by decide, by decide⟩ ?_
        refine fload rL_741_741_542_864_14_0 h0 hB1 (by omega) ?_
        intro z4 lz4 uz4 qz4
        intro z5 hz5 ez5 bz5
        clear ez5
        try replace bz5 := bz5 (by omega)
        refine fstore rS_741_741_542_864_14_0 (fzs_sub (by decide +kernel) hW) (by omega) (by omega) ?_
        intro IhB6 ehB6 hB6
        have t7 := fup_self ehB6
        refine And.intro ⟨rfl, by decide, by decide⟩ ?_
        refine And.intro ⟨rfl, by decide, by decide⟩ ?_
        refine fload rL_741_741_534_856_14_0 h0 hB6 (by omega) ?_
        intro z8 lz8 uz8 qz8
        intro z9 hz9 ez9 bz9
        clear ez9
        try replace bz9 := bz9 (by omega)
        refine Exists.intro xm_291 (And.intro mi_291 (And.intro ⟨rfl, rfl, rfl, rfl⟩ (And.intro True.intro ?_)))
        refine fcallp hB6 (ct_M_least_31c1d (fBz h0 hB6) (by first | exact ⟨by decide, by decide⟩ | omega) (by omega)) ?_
        rintro _ ⟨z10, rfl, hz10⟩
        refine fstore rS_741_741_534_856_14_0 (fzs_sub (by decide +kernel) hW) (by omega) (by first | exact ⟨hz10.1.1, hz10.1.2⟩ | omega) ?_
        intro IhB11 ehB11 hB11
        have t12 := fup_self ehB11
        have w77 := fup_other ehB11 741 (y2 + ((12 : Nat) : Int)).toNat (by omega)
        exact fcutJ (I := IhB11) (j := jc_M_fouls_5e9bc_27) (lv' := [(0, .inr (.inr (some 740))), (2, .inl _)]) (And.intro rfl (And.intro rfl True.intro)) ⟨_, rfl, rfl, by omega, rfl⟩ (by omega)
  · have hB0 := fB_self (zn := znJ) (K := fKc wz_d1017) h0
    refine Exists.intro xm_244 (And.intro mi_244 (And.intro ⟨rfl, rfl, rfl, rfl⟩ (And.intro rfl ?_)))
    refine fcallp hB0 (ct_M_workAt_83d38 (fBz h0 hB0) (by first | exact ⟨ha1.1, ha1.2⟩ | omega)) ?_
    rintro _ ⟨_, rfl, rfl⟩
    refine And.intro ⟨rfl, by decide, by decide⟩ ?_
    refine fload rL_741_741_542_864_14_0 h0 hB0 (by omega) ?_
    intro z14 lz14 uz14 qz14
    refine And.intro ⟨rfl, by decide, by decide⟩ ?_
    refine fload rL_741_741_541_863_14_0 h0 hB0 (by omega) ?_
    intro z15 lz15 uz15 qz15
    intro z16 hz16 ez16 bz16
    clear ez16
    try replace bz16 := bz16 (by omega)
    refine fstore rS_741_741_542_864_14_0 (fzs_sub (by decide +kernel) hW) (by omega) (by omega) ?_
    intro IhB17 ehB17 hB17
    have t18 := fup_self ehB17
    exact fcutJ (I := IhB17) (j := jc_M_fouls_5e9bc_27) (lv' := [(0, .inr (.inr (some 740))), (2, .inl _)]) (And.intro rfl (And.intro rfl True.intro)) ⟨_, rfl, rfl, by omega, rfl⟩ (by omega)
abbrev jc_M_minute_7c04c_6 (I0 : fH) : Nat → fL → List fV → fH → Prop := fun m lv st I => ∃ (y1 : Int), lv = [(0, .inr (.inr (some 740))), (1, .inl y1)] ∧ st = [] ∧ (((0 ≤ y1 ∧ y1 ≤ 24) ∧ (I 741 0 = I0 741 0))) ∧ m = (97 + 1 * (24 - y1) : Int).toNat
abbrev jc_M_minute_7c04c_54 (I0 : fH) : Nat → fL → List fV → fH → Prop := fun m lv st I => ∃ (y1 : Int), lv = [(0, .inr (.inr (some 740))), (1, .inl y1)] ∧ st = [] ∧ (((0 ≤ y1 ∧ y1 ≤ 24) ∧ (I 741 0 = I0 741 0))) ∧ m = (72 + 1 * (24 - y1) : Int).toNat
abbrev jc_M_minute_7c04c_78 (I0 : fH) : Nat → fL → List fV → fH → Prop := fun m lv st I => ∃ (y1 : Int), lv = [(0, .inr (.inr (some 740))), (1, .inl y1)] ∧ st = [] ∧ (((0 ≤ y1 ∧ y1 ≤ 20) ∧ (I 741 0 = I0 741 0))) ∧ m = (51 + 1 * (20 - y1) : Int).toNat
abbrev jc_M_minute_7c04c_101 (I0 : fH) : Nat → fL → List fV → fH → Prop := fun m lv st I => ∃ (y1 : Int), lv = [(0, .inr (.inr (some 740))), (1, .inl y1)] ∧ st = [] ∧ (((0 ≤ y1 ∧ y1 ≤ 24) ∧ (I 741 0 = I0 741 0))) ∧ m = (26 + 1 * (24 - y1) : Int).toNat
abbrev jc_M_minute_7c04c_147 (I0 : fH) : Nat → fL → List fV → fH → Prop := fun m lv st I => ∃ (y1 : Int), lv = [(0, .inr (.inr (some 740))), (1, .inl y1)] ∧ st = [] ∧ (((0 ≤ y1 ∧ y1 ≤ 24) ∧ (I 741 0 = I0 741 0))) ∧ m = (1 + 1 * (24 - y1) : Int).toNat
set_option maxRecDepth 8000 in
theorem ct_M_minute_7c04c {I : fH}  (h0 : fB bsJ I) (hp0 : sI I 741) (hp1 : I 741 0 ≤ 21999) : fC ρ base n F xTc vwCl xTys D dA la gJ (fbz bsJ znJ (fKc wz_f4290) I) xm_285 [.inr (.inr (some 740))] I (fun I' r => r = none ∧ I' 741 0 = I 741 0 + 1) := by
  have hW : fzs wz_f4290 (fKc wz_f4290) := fKc_ok _
  refine f_meth (rb := rbJ) (J := [(6, (jc_M_minute_7c04c_6 I)), (54, (jc_M_minute_7c04c_54 I)), (78, (jc_M_minute_7c04c_78 I)), (101, (jc_M_minute_7c04c_101 I)), (147, (jc_M_minute_7c04c_147 I))]) 122 400 xG xin_285 x6_285 okJ (fB_self h0) ?_ ?_
  · refine List.forall_mem_cons.mpr ⟨?_, List.forall_mem_cons.mpr ⟨?_, List.forall_mem_cons.mpr ⟨?_, List.forall_mem_cons.mpr ⟨?_, List.forall_mem_cons.mpr ⟨?_, fun q h => absurd h List.not_mem_nil⟩⟩⟩⟩⟩
    · rintro m _ _ I1 hB1 ⟨y1, rfl, rfl, hb, hm⟩
      refine And.intro ⟨rfl, by decide, by decide⟩ ?_
      refine fload1 rL_741_741_7_7_1_0 h0 hB1 ⟨by decide, by decide⟩ (by first | exact ⟨by decide, by decide⟩ | omega) ?_
      intro z1 lz1 uz1 qz1
      have pz1 := fld_at qz1 7 (by omega)
      refine And.intro (And.intro (by first | exact fi_ hb.1.1 hb.1.2 rfl | omega) (by first | exact fi_ lz1 uz1 rfl | omega)) (And.intro ?_ ?_)
      · intro c2
        exact fcutJ (I := I1) (j := (jc_M_minute_7c04c_54 I)) (lv' := [(0, .inr (.inr (some 740))), (1, .inl _)]) (And.intro rfl (And.intro rfl True.intro)) ⟨_, rfl, rfl, by omega, rfl⟩ (by omega)
      · intro c3
        refine And.intro ⟨rfl, by decide, by decide⟩ ?_
        refine Exists.intro xm_244 (And.intro mi_244 (And.intro ⟨rfl, rfl, rfl, rfl⟩ (And.intro rfl ?_)))
        refine fcallp hB1 (ct_M_workAt_83d38 (fBz h0 hB1) (by first | exact ⟨hb.1.1, Int.le_trans (Int.le_sub_one_of_lt (Int.lt_of_lt_of_le c3 uz1)) (by decide)⟩ | omega)) ?_
        rintro _ ⟨_, rfl, rfl⟩
        refine fload rL_741_741_533_855_14_0 h0 hB1 (by omega) ?_
        intro z5 lz5 uz5 qz5
        refine And.intro (And.intro (by first | exact fi_ lz5 uz5 rfl | omega) (by first | exact ⟨by decide, by decide⟩ | omega)) (And.intro ?_ ?_)
        · intro c6
          exact fcutJ (I := I1) (j := (jc_M_minute_7c04c_6 I)) (lv' := [(0, .inr (.inr (some 740))), (1, .inl _)]) (And.intro rfl (And.intro rfl True.intro)) ⟨_, rfl, rfl, by omega, rfl⟩ (by omega)
        · intro c7
          refine Exists.intro xm_245 (And.intro mi_245 (And.intro ⟨rfl, rfl, rfl, rfl⟩ (And.intro rfl ?_)))
          refine fcallp hB1 (ct_M_isGone_0de37 (fBz h0 hB1) (by first | exact ⟨hb.1.1, Int.le_trans (Int.le_sub_one_of_lt (Int.lt_of_lt_of_le c3 uz1)) (by decide)⟩ | omega)) ?_
          rintro _ ⟨z8, rfl, hz8⟩
          refine And.intro (by omega) (And.intro ?_ ?_)
          · intro c9
            exact fcutJ (I := I1) (j := (jc_M_minute_7c04c_6 I)) (lv' := [(0, .inr (.inr (some 740))), (1, .inl _)]) (And.intro rfl (And.intro rfl True.intro)) ⟨_, rfl, rfl, by omega, rfl⟩ (by omega)
          · intro c10
            refine Exists.intro xm_288 (And.intro mi_288 (And.intro ⟨rfl, rfl, rfl, rfl⟩ (And.intro rfl ?_)))
            refine fcall _ h0 (fzs_sub (by decide +kernel) hW) hB1 (ct_M_works_ee8a5 (fBz h0 hB1) (by first | exact ⟨hb.1.1, Int.le_trans (Int.le_sub_one_of_lt (Int.lt_of_lt_of_le c3 uz1)) (by decide)⟩ | omega)) ?_
            rintro IhB12 _ hB12 fhB12 rfl
            have t13 := fhB12 741 0 (by decide +kernel)
            have t14 := fhB12 741 7 (by decide +kernel)
            exact fcutJ (I := IhB12) (j := (jc_M_minute_7c04c_6 I)) (lv' := [(0, .inr (.inr (some 740))), (1, .inl _)]) (And.intro rfl (And.intro rfl True.intro)) ⟨_, rfl, rfl, by omega, rfl⟩ (by omega)
    · rintro m _ _ I1 hB1 ⟨y1, rfl, rfl, hb, hm⟩
      refine And.intro ⟨rfl, by decide, by decide⟩ ?_
      refine fload1 rL_741_741_6_6_1_0 h0 hB1 ⟨by decide, by decide⟩ (by first | exact ⟨by decide, by decide⟩ | omega) ?_
      intro z15 lz15 uz15 qz15
      have pz15 := fld_at qz15 6 (by omega)
      refine And.intro (And.intro (by first | exact fi_ hb.1.1 hb.1.2 rfl | omega) (by first | exact fi_ lz15 uz15 rfl | omega)) (And.intro ?_ ?_)
      · intro c16
        exact fcutJ (I := I1) (j := (jc_M_minute_7c04c_78 I)) (lv' := [(0, .inr (.inr (some 740))), (1, .inl _)]) (And.intro rfl (And.intro rfl True.intro)) ⟨_, rfl, rfl, by omega, rfl⟩ (by omega)
      · intro c17
        refine Exists.intro xm_297 (And.intro mi_297 (And.intro ⟨rfl, rfl, rfl, rfl⟩ (And.intro rfl ?_)))
        refine fcall _ h0 (fzs_sub (by decide +kernel) hW) hB1 (ct_M_flows_1ceaa (fBz h0 hB1) (by first | exact ⟨hb.1.1, Int.le_trans (Int.le_sub_one_of_lt (Int.lt_of_lt_of_le c17 uz15)) (by decide)⟩ | omega) (sI_keep hp0 h0 hB1 (by decide +kernel)) (by omega)) ?_
        rintro IhB19 _ hB19 fhB19 rfl
        have t20 := fhB19 741 0 (by decide +kernel)
        have t21 := fhB19 741 6 (by decide +kernel)
        exact fcutJ (I := IhB19) (j := (jc_M_minute_7c04c_54 I)) (lv' := [(0, .inr (.inr (some 740))), (1, .inl _)]) (And.intro rfl (And.intro rfl True.intro)) ⟨_, rfl, rfl, by omega, rfl⟩ (by omega)
    · rintro m _ _ I1 hB1 ⟨y1, rfl, rfl, hb, hm⟩
      refine And.intro ⟨rfl, by decide, by decide⟩ ?_
      refine fload1 rL_741_741_5_5_1_0 h0 hB1 ⟨by decide, by decide⟩ (by first | exact ⟨by decide, by decide⟩ | omega) ?_
      intro z22 lz22 uz22 qz22
      have pz22 := fld_at qz22 5 (by omega)
      refine And.intro (And.intro (by first | exact fi_ hb.1.1 hb.1.2 rfl | omega) (by first | exact fi_ lz22 uz22 rfl | omega)) (And.intro ?_ ?_)
      · intro c23
        exact fcutJ (I := I1) (j := (jc_M_minute_7c04c_101 I)) (lv' := [(0, .inr (.inr (some 740))), (1, .inl _)]) (And.intro rfl (And.intro rfl True.intro)) ⟨_, rfl, rfl, by omega, rfl⟩ (by omega)
      · intro c24
        refine Exists.intro xm_298 (And.intro mi_298 (And.intro ⟨rfl, rfl, rfl, rfl⟩ (And.intro rfl ?_)))
        refine fcall _ h0 (fzs_sub (by decide +kernel) hW) hB1 (ct_M_leaks_eedee (fBz h0 hB1) (by first | exact ⟨hb.1.1, Int.le_trans (Int.le_sub_one_of_lt (Int.lt_of_lt_of_le c24 uz22)) (by decide)⟩ | omega)) ?_
        rintro IhB26 _ hB26 fhB26 rfl
        have t27 := fhB26 741 0 (by decide +kernel)
        have t28 := fhB26 741 5 (by decide +kernel)
        exact fcutJ (I := IhB26) (j := (jc_M_minute_7c04c_78 I)) (lv' := [(0, .inr (.inr (some 740))), (1, .inl _)]) (And.intro rfl (And.intro rfl True.intro)) ⟨_, rfl, rfl, by omega, rfl⟩ (by omega)
    · rintro m _ _ I1 hB1 ⟨y1, rfl, rfl, hb, hm⟩
      refine And.intro ⟨rfl, by decide, by decide⟩ ?_
      refine fload1 rL_741_741_8_8_1_0 h0 hB1 ⟨by decide, by decide⟩ (by first | exact ⟨by decide, by decide⟩ | omega) ?_
      intro z29 lz29 uz29 qz29
      have pz29 := fld_at qz29 8 (by omega)
      refine And.intro (And.intro (by first | exact fi_ hb.1.1 hb.1.2 rfl | omega) (by first | exact fi_ lz29 uz29 rfl | omega)) (And.intro ?_ ?_)
      · intro c30
        refine Exists.intro xm_301 (And.intro mi_301 (And.intro ⟨rfl, rfl, rfl, rfl⟩ (And.intro rfl ?_)))
        refine fcall _ h0 (fzs_sub (by decide +kernel) hW) hB1 (ct_M_floats_933b1 (fBz h0 hB1)) ?_
        rintro IhB32 _ hB32 fhB32 rfl
        have t33 := fhB32 741 0 (by decide +kernel)
        have t34 := fhB32 741 8 (by decide +kernel)
        refine And.intro ⟨rfl, by decide, by decide⟩ ?_
        refine fload1 rL_741_741_2_2_1_0 h0 hB32 ⟨by decide, by decide⟩ (by first | exact ⟨by decide, by decide⟩ | omega) ?_
        intro z35 lz35 uz35 qz35
        have pz35 := fld_at qz35 2 (by omega)
        intro z36 hz36 ez36 bz36
        clear ez36
        try replace bz36 := bz36 (by omega)
        refine fstore1 rS_741_741_2_2_1_0 (fzs_sub (by decide +kernel) hW) ⟨by decide, by decide⟩ (by first | exact ⟨by decide, by decide⟩ | omega) (by omega) ?_
        intro IhB37 ehB37 hB37
        have t38 := fup_self ehB37
        have t39 : IhB37 741 0 = IhB32 741 0 := (congrFun (congrFun ehB37 741) 0).trans (fup_ne (by first | decide | omega))
        have t40 := fup_at ehB37 2 (by first | rfl | omega)
        have t41 : IhB37 741 8 = IhB32 741 8 := (congrFun (congrFun ehB37 741) 8).trans (fup_ne (by first | decide | omega))
        exact fcutJ (I := IhB37) (j := (jc_M_minute_7c04c_147 I)) (lv' := [(0, .inr (.inr (some 740))), (1, .inl _)]) (And.intro rfl (And.intro rfl True.intro)) ⟨_, rfl, rfl, by omega, rfl⟩ (by omega)
      · intro c42
        refine Exists.intro xm_248 (And.intro mi_248 (And.intro ⟨rfl, rfl, rfl, rfl⟩ (And.intro rfl ?_)))
        refine fcallp hB1 (ct_M_isDead_21e1a (fBz h0 hB1) (by first | exact ⟨hb.1.1, Int.le_trans (Int.le_sub_one_of_lt (Int.lt_of_lt_of_le c42 uz29)) (by decide)⟩ | omega)) ?_
        rintro _ ⟨z43, rfl, hz43⟩
        refine And.intro (by omega) (And.intro ?_ ?_)
        · intro c44
          exact fcutJ (I := I1) (j := (jc_M_minute_7c04c_101 I)) (lv' := [(0, .inr (.inr (some 740))), (1, .inl _)]) (And.intro rfl (And.intro rfl True.intro)) ⟨_, rfl, rfl, by omega, rfl⟩ (by omega)
        · intro c45
          refine Exists.intro xm_299 (And.intro mi_299 (And.intro ⟨rfl, rfl, rfl, rfl⟩ (And.intro rfl ?_)))
          refine fcall _ h0 (fzs_sub (by decide +kernel) hW) hB1 (ct_M_breathes_a87a8 (fBz h0 hB1) (by first | exact ⟨hb.1.1, Int.le_trans (Int.le_sub_one_of_lt (Int.lt_of_lt_of_le c42 uz29)) (by decide)⟩ | omega)) ?_
          rintro IhB47 _ hB47 fhB47 rfl
          have t48 := fhB47 741 0 (by decide +kernel)
          have t49 := fhB47 741 8 (by decide +kernel)
          exact fcutJ (I := IhB47) (j := (jc_M_minute_7c04c_101 I)) (lv' := [(0, .inr (.inr (some 740))), (1, .inl _)]) (And.intro rfl (And.intro rfl True.intro)) ⟨_, rfl, rfl, by omega, rfl⟩ (by omega)
    · rintro m _ _ I1 hB1 ⟨y1, rfl, rfl, hb, hm⟩
      refine And.intro ⟨rfl, by decide, by decide⟩ ?_
      refine fload1 rL_741_741_7_7_1_0 h0 hB1 ⟨by decide, by decide⟩ (by first | exact ⟨by decide, by decide⟩ | omega) ?_
      intro z50 lz50 uz50 qz50
      have pz50 := fld_at qz50 7 (by omega)
      refine And.intro (And.intro (by first | exact fi_ hb.1.1 hb.1.2 rfl | omega) (by first | exact fi_ lz50 uz50 rfl | omega)) (And.intro ?_ ?_)
      · intro c51
        refine And.intro ⟨rfl, by decide, by decide⟩ ?_
        refine fload1 rL_741_741_0_0_1_0 h0 hB1 ⟨by decide, by decide⟩ (by first | exact ⟨by decide, by decide⟩ | omega) ?_
        intro z52 lz52 uz52 qz52
        have pz52 := fld_at qz52 0 (by omega)
        refine fstore1 rS_741_741_0_0_1_0 (fzs_sub (by decide +kernel) hW) ⟨by decide, by decide⟩ (by first | exact ⟨by decide, by decide⟩ | omega) (by omega) ?_
        intro IhB53 ehB53 hB53
        have t54 := fup_self ehB53
        have t55 := fup_at ehB53 0 (by first | rfl | omega)
        have t56 : IhB53 741 7 = I1 741 7 := (congrFun (congrFun ehB53 741) 7).trans (fup_ne (by first | decide | omega))
        refine And.intro ⟨rfl, by decide, by decide⟩ ?_
        refine fload1 rL_741_741_0_0_1_0 h0 hB53 ⟨by decide, by decide⟩ (by first | exact ⟨by decide, by decide⟩ | omega) ?_
        intro z57 lz57 uz57 qz57
        have pz57 := fld_at qz57 0 (by omega)
        refine And.intro (And.intro (by first | exact fi_ lz57 uz57 rfl | omega) (And.intro (by first | exact ⟨by decide, by decide⟩ | omega) (And.intro (by first | exact by decide | omega) rfl))) ?_
        intro z58 hz58 ez58 dz58
        have dz58 := dz58 (by omega) (by omega)
        change _ = _ % _ at dz58
        refine And.intro (by omega) (And.intro ?_ ?_)
        · intro c59
          exact ⟨rfl, by omega⟩
        · intro c60
          refine Exists.intro xm_303 (And.intro mi_303 (And.intro ⟨rfl, rfl, rfl, rfl⟩ (And.intro rfl ?_)))
          refine fcall _ h0 (fzs_sub (by decide +kernel) hW) hB53 (ct_M_sends_ddcd7 (fBz h0 hB53)) ?_
          rintro IhB62 _ hB62 fhB62 rfl
          have t63 := fhB62 741 0 (by decide +kernel)
          have t64 := fhB62 741 7 (by decide +kernel)
          exact ⟨rfl, by omega⟩
      · intro c65
        refine Exists.intro xm_245 (And.intro mi_245 (And.intro ⟨rfl, rfl, rfl, rfl⟩ (And.intro rfl ?_)))
        refine fcallp hB1 (ct_M_isGone_0de37 (fBz h0 hB1) (by first | exact ⟨hb.1.1, Int.le_trans (Int.le_sub_one_of_lt (Int.lt_of_lt_of_le c65 uz50)) (by decide)⟩ | omega)) ?_
        rintro _ ⟨z66, rfl, hz66⟩
        refine And.intro (by omega) (And.intro ?_ ?_)
        · intro c67
          exact fcutJ (I := I1) (j := (jc_M_minute_7c04c_147 I)) (lv' := [(0, .inr (.inr (some 740))), (1, .inl _)]) (And.intro rfl (And.intro rfl True.intro)) ⟨_, rfl, rfl, by omega, rfl⟩ (by omega)
        · intro c68
          refine Exists.intro xm_302 (And.intro mi_302 (And.intro ⟨rfl, rfl, rfl, rfl⟩ (And.intro rfl ?_)))
          refine fcall _ h0 (fzs_sub (by decide +kernel) hW) hB1 (ct_M_fouls_5e9bc (fBz h0 hB1) (by first | exact ⟨hb.1.1, Int.le_trans (Int.le_sub_one_of_lt (Int.lt_of_lt_of_le c65 uz50)) (by decide)⟩ | omega)) ?_
          rintro IhB70 _ hB70 fhB70 rfl
          have t71 := fhB70 741 0 (by decide +kernel)
          have t72 := fhB70 741 7 (by decide +kernel)
          exact fcutJ (I := IhB70) (j := (jc_M_minute_7c04c_147 I)) (lv' := [(0, .inr (.inr (some 740))), (1, .inl _)]) (And.intro rfl (And.intro rfl True.intro)) ⟨_, rfl, rfl, by omega, rfl⟩ (by omega)
  · have hB0 := fB_self (zn := znJ) (K := fKc wz_f4290) h0
    refine Exists.intro xm_286 (And.intro mi_286 (And.intro ⟨rfl, rfl, rfl, rfl⟩ (And.intro rfl ?_)))
    refine fcall _ h0 (fzs_sub (by decide +kernel) hW) hB0 (ct_M_come_3ca41 (fBz h0 hB0)) ?_
    rintro IhB74 _ hB74 fhB74 rfl
    have t75 := fhB74 741 0 (by decide +kernel)
    exact fcutJ (I := IhB74) (j := (jc_M_minute_7c04c_6 I)) (lv' := [(0, .inr (.inr (some 740))), (1, .inl _)]) (And.intro rfl (And.intro rfl True.intro)) ⟨_, rfl, rfl, by omega, rfl⟩ (by omega)
abbrev jc_M_run_ddfc8_34 (x1 : Int) (I0 : fH) : Nat → fL → List fV → fH → Prop := fun m lv st I => ∃ (y1 : Int) (y2 : Int), lv = [(0, .inr (.inr (some 740))), (1, .inl y1), (2, .inl y2)] ∧ st = [] ∧ (((1 ≤ y1 ∧ y1 ≤ 120) ∧ (0 ≤ y2 ∧ y2 ≤ 120) ∧ (I 741 0 = I0 741 0 + y2) ∧ (I0 741 0 + y1 ≤ 20000) ∧ (y2 ≤ y1) ∧ (y1 = x1))) ∧ m = (1 + 1 * (120 - y2) : Int).toNat
set_option maxRecDepth 8000 in
theorem ct_M_run_ddfc8 {I : fH} {x1 : Int} (h0 : fB bsJ I) (ha1 : ((-2147483648) ≤ x1 ∧ x1 ≤ 2147483647)) (hp0 : sI I 741) (hp1 : I 741 0 ≤ 20000) : fC ρ base n F xTc vwCl xTys D dA la gJ (fbz bsJ znJ (fKc wz_f4290) I) xm_284 [.inr (.inr (some 740)), .inl x1] I (fun I' r => ∃ z, r = some (.inl z) ∧ (((0 ≤ z ∧ z ≤ 22000) ∨ z = (-1000000003) ∨ z = (-1000000001)) ∧ ((1 ≤ x1 ∧ x1 ≤ 120 ∧ I 741 0 + x1 ≤ 20000 → z = I 741 0 + x1 ∧ I' 741 0 = I 741 0 + x1) ∧ (1 ≤ x1 ∧ x1 ≤ 120 ∧ 20000 < I 741 0 + x1 → z = (-1000000003) ∧ I' 741 0 = I 741 0) ∧ (¬ (1 ≤ x1 ∧ x1 ≤ 120) → z = (-1000000001) ∧ I' 741 0 = I 741 0)))) := by
  have hW : fzs wz_f4290 (fKc wz_f4290) := fKc_ok _
  refine f_meth (rb := rbJ) (J := [(34, (jc_M_run_ddfc8_34 x1 I))]) 122 400 xG xin_284 x6_284 okJ (fB_self h0) ?_ ?_
  · refine List.forall_mem_cons.mpr ⟨?_, fun q h => absurd h List.not_mem_nil⟩
    · rintro m _ _ I1 hB1 ⟨y1, y2, rfl, rfl, hb, hm⟩
      have b1 := fBd fb_741_0 (fBz h0 hB1)
      refine And.intro (And.intro (by first | exact fi_ hb.2.1.1 hb.2.1.2 rfl | omega) (by first | exact fi_ hb.1.1 hb.1.2 rfl | omega)) (And.intro ?_ ?_)
      · intro c2
        refine And.intro ⟨rfl, by decide, by decide⟩ ?_
        refine fload1 rL_741_741_0_0_1_0 h0 hB1 ⟨by decide, by decide⟩ (by first | exact ⟨by decide, by decide⟩ | omega) ?_
        intro z3 lz3 uz3 qz3
        have pz3 := fld_at qz3 0 (by omega)
        refine And.intro (True.intro) ?_
        exact ⟨_, rfl, by omega⟩
      · intro c4
        refine Exists.intro xm_285 (And.intro mi_285 (And.intro ⟨rfl, rfl, rfl, rfl⟩ (And.intro rfl ?_)))
        refine fcall _ h0 (fzs_sub (by decide +kernel) hW) hB1 (ct_M_minute_7c04c (fBz h0 hB1) (sI_keep hp0 h0 hB1 (by decide +kernel)) (by omega)) ?_
        rintro IhB6 _ hB6 fhB6 ⟨rfl, hz5⟩
        exact fcutJ (I := IhB6) (j := (jc_M_run_ddfc8_34 x1 I)) (lv' := [(0, .inr (.inr (some 740))), (1, .inl _), (2, .inl _)]) (And.intro rfl (And.intro rfl (And.intro rfl True.intro))) ⟨_, _, rfl, rfl, by omega, rfl⟩ (by omega)
  · have hB0 := fB_self (zn := znJ) (K := fKc wz_f4290) h0
    have b7 := fBd fb_741_0 (fBz h0 hB0)
    refine And.intro (by first | exact fi_ ha1.1 ha1.2 rfl | omega) ?_
    refine Exists.intro xm_238 (And.intro mi_238 (And.intro ⟨rfl, rfl, rfl, rfl⟩ (And.intro True.intro ?_)))
    refine fcallp hB0 (ct_M_isIn_27230 (fBz h0 hB0) (by first | exact ⟨ha1.1, ha1.2⟩ | omega) (by first | exact ⟨by decide, by decide⟩ | omega) (by first | exact ⟨by decide, by decide⟩ | omega)) ?_
    rintro _ ⟨z8, rfl, hz8⟩
    refine And.intro (by omega) (And.intro ?_ ?_)
    · intro c9
      refine And.intro ⟨rfl, by decide, by decide⟩ ?_
      refine fload1 rL_741_741_0_0_1_0 h0 hB0 ⟨by decide, by decide⟩ (by first | exact ⟨by decide, by decide⟩ | omega) ?_
      intro z10 lz10 uz10 qz10
      have pz10 := fld_at qz10 0 (by omega)
      refine And.intro (by omega) (And.intro ?_ ?_)
      · intro c11
        exact fcutJ (I := I) (j := (jc_M_run_ddfc8_34 x1 I)) (lv' := [(0, .inr (.inr (some 740))), (1, .inl _), (2, .inl _)]) (And.intro rfl (And.intro rfl (And.intro rfl True.intro))) ⟨_, _, rfl, rfl, by omega, rfl⟩ (by omega)
      · intro c12
        refine And.intro (True.intro) ?_
        exact ⟨_, rfl, by omega⟩
    · intro c13
      refine And.intro (True.intro) ?_
      exact ⟨_, rfl, by omega⟩
set_option maxRecDepth 8000 in
theorem ct_People_addPerson_f57f7 {I : fH} {x1 : Int} {x2 : Int} {x3 : Int} (h0 : fB bsJ I) (ha1 : (0 ≤ x1 ∧ x1 ≤ 99)) (ha2 : (0 ≤ x2 ∧ x2 ≤ 3)) (ha3 : (0 ≤ x3 ∧ x3 ≤ 19)) : fC ρ base n F xTc vwCl xTys D dA la gJ (fbz bsJ znJ (fKc wz_4ceb6) I) xm_100 [.inr (.inr (some 177)), .inl x1, .inl x2, .inl x3] I (fun _ r => ∃ z, r = some (.inl z) ∧ ((0 ≤ z ∧ z ≤ 23) ∨ z = (-1000000003))) := by
  have hW : fzs wz_4ceb6 (fKc wz_4ceb6) := fKc_ok _
  refine f_meth (rb := rbJ) (J := []) 1 400 xG xin_100 x6_100 okJ (fB_self h0) ?_ ?_
  · exact fun q h => absurd h List.not_mem_nil
  · have hB0 := fB_self (zn := znJ) (K := fKc wz_4ceb6) h0
    refine And.intro ⟨rfl, by decide, by decide⟩ (fgetf fb_177_4 h0 hB0 ?_)
    intro z1 lz1 uz1 qz1
    refine And.intro (And.intro (by first | exact fi_ lz1 uz1 rfl | omega) (by first | exact ⟨by decide, by decide⟩ | omega)) (And.intro ?_ ?_)
    · intro c2
      refine And.intro ⟨rfl, by decide, by decide⟩ ?_
      refine fstore1 rS_178_178_0_23_1_0 (fzs_sub (by decide +kernel) hW) ⟨by decide, by decide⟩ (by first | exact ⟨lz1, Int.le_trans (Int.le_sub_one_of_lt (Int.lt_of_lt_of_le c2 (Int.le_refl _))) (by decide)⟩ | omega) (by first | exact ⟨Int.le_trans (by decide) ha1.1, Int.le_trans ha1.2 (by decide)⟩ | omega) ?_
      intro IhB3 ehB3 hB3
      have t4 := fup_self ehB3
      have t5 : IhB3 177 4 = I 177 4 := (congrFun (congrFun ehB3 177) 4).trans (fup_ne (by first | exact Or.inl (by decide) | omega))
      refine And.intro ⟨rfl, by decide, by decide⟩ ?_
      refine fstore1 rS_179_179_0_23_1_0 (fzs_sub (by decide +kernel) hW) ⟨by decide, by decide⟩ (by first | exact ⟨lz1, Int.le_trans (Int.le_sub_one_of_lt (Int.lt_of_lt_of_le c2 (Int.le_refl _))) (by decide)⟩ | omega) (by first | exact ⟨Int.le_trans (by decide) ha2.1, Int.le_trans ha2.2 (by decide)⟩ | omega) ?_
      intro IhB6 ehB6 hB6
      have t7 := fup_self ehB6
      have t8 : IhB6 177 4 = IhB3 177 4 := (congrFun (congrFun ehB6 177) 4).trans (fup_ne (by first | exact Or.inl (by decide) | omega))
      refine And.intro ⟨rfl, by decide, by decide⟩ ?_
      refine fstore1 rS_180_180_0_23_1_0 (fzs_sub (by decide +kernel) hW) ⟨by decide, by decide⟩ (by first | exact ⟨lz1, Int.le_trans (Int.le_sub_one_of_lt (Int.lt_of_lt_of_le c2 (Int.le_refl _))) (by decide)⟩ | omega) (by first | exact ⟨ha3.1, ha3.2⟩ | omega) ?_
      intro IhB9 ehB9 hB9
      have t10 := fup_self ehB9
      have t11 : IhB9 177 4 = IhB6 177 4 := (congrFun (congrFun ehB9 177) 4).trans (fup_ne (by first | exact Or.inl (by decide) | omega))
      refine And.intro ⟨rfl, by decide, by decide⟩ ?_
      refine fstore1 rS_181_181_0_23_1_0 (fzs_sub (by decide +kernel) hW) ⟨by decide, by decide⟩ (by first | exact ⟨lz1, Int.le_trans (Int.le_sub_one_of_lt (Int.lt_of_lt_of_le c2 (Int.le_refl _))) (by decide)⟩ | omega) (by first | exact ⟨by decide, by decide⟩ | omega) ?_
      intro IhB12 ehB12 hB12
      have t13 := fup_self ehB12
      have t14 : IhB12 177 4 = IhB9 177 4 := (congrFun (congrFun ehB12 177) 4).trans (fup_ne (by first | exact Or.inl (by decide) | omega))
      refine And.intro ⟨rfl, by decide, by decide⟩ (And.intro rfl (And.intro (Or.inl rfl) (fputf fb_177_4 (by decide +kernel) hW (by omega) ?_)))
      intro IhB15 ehB15 hB15
      have t16 := fup_at ehB15 4 (by first | rfl | omega)
      refine And.intro (True.intro) ?_
      exact ⟨_, rfl, by omega⟩
    · intro c17
      refine And.intro (True.intro) ?_
      exact ⟨_, rfl, by omega⟩
set_option maxRecDepth 8000 in
theorem ct_X_person_26141 {I : fH} {x1 : Int} {x2 : Int} {x3 : Int} (h0 : fB bsJ I) (ha1 : ((-2147483648) ≤ x1 ∧ x1 ≤ 2147483647)) (ha2 : ((-2147483648) ≤ x2 ∧ x2 ≤ 2147483647)) (ha3 : ((-2147483648) ≤ x3 ∧ x3 ≤ 2147483647)) : fC ρ base n F xTc vwCl xTys D dA la gJ (fbz bsJ znJ (fKc wz_4ceb6) I) xm_99 [.inr (.inr (some 0)), .inl x1, .inl x2, .inl x3] I (fun _ r => ∃ z, r = some (.inl z) ∧ ((0 ≤ z ∧ z ≤ 23) ∨ z = (-1000000003) ∨ z = (-1000000001))) := by
  have hW : fzs wz_4ceb6 (fKc wz_4ceb6) := fKc_ok _
  refine f_meth (rb := rbJ) (J := []) 1 400 xG xin_99 x6_99 okJ (fB_self h0) ?_ ?_
  · exact fun q h => absurd h List.not_mem_nil
  · have hB0 := fB_self (zn := znJ) (K := fKc wz_4ceb6) h0
    refine Exists.intro xm_13 (And.intro mi_13 (And.intro ⟨rfl, rfl, rfl, rfl⟩ (And.intro True.intro ?_)))
    refine fcallp hB0 (ct_X_within_c27b1 (fBz h0 hB0) (by first | exact ⟨ha1.1, ha1.2⟩ | omega) (by first | exact ⟨by decide, by decide⟩ | omega) (by first | exact ⟨by decide, by decide⟩ | omega)) ?_
    rintro _ ⟨z1, rfl, hz1⟩
    refine And.intro (by omega) (And.intro ?_ ?_)
    · intro c2
      refine And.intro (True.intro) ?_
      exact ⟨_, rfl, by omega⟩
    · intro c3
      refine Exists.intro xm_13 (And.intro mi_13 (And.intro ⟨rfl, rfl, rfl, rfl⟩ (And.intro True.intro ?_)))
      refine fcallp hB0 (ct_X_within_c27b1 (fBz h0 hB0) (by first | exact ⟨ha2.1, ha2.2⟩ | omega) (by first | exact ⟨by decide, by decide⟩ | omega) (by first | exact ⟨by decide, by decide⟩ | omega)) ?_
      rintro _ ⟨z4, rfl, hz4⟩
      refine And.intro (by omega) (And.intro ?_ ?_)
      · intro c5
        refine And.intro (True.intro) ?_
        exact ⟨_, rfl, by omega⟩
      · intro c6
        refine And.intro ⟨rfl, by decide, by decide⟩ ?_
        refine Exists.intro xm_17 (And.intro mi_17 (And.intro ⟨rfl, rfl, rfl, rfl⟩ (And.intro rfl ?_)))
        refine fcallp hB0 (ct_City_isCell_46f02 (fBz h0 hB0) (by first | exact ⟨ha3.1, ha3.2⟩ | omega)) ?_
        rintro _ ⟨z7, rfl, hz7⟩
        refine And.intro (by omega) (And.intro ?_ ?_)
        · intro c8
          refine And.intro ⟨rfl, by decide, by decide⟩ ?_
          refine And.intro ⟨rfl, by decide, by decide⟩ ?_
          refine Exists.intro xm_100 (And.intro mi_100 (And.intro ⟨rfl, rfl, rfl, rfl⟩ (And.intro rfl ?_)))
          refine fcall _ h0 (fzs_sub (by decide +kernel) hW) hB0 (ct_People_addPerson_f57f7 (fBz h0 hB0) (by first | exact ⟨Int.le_trans (by decide) (Int.le_trans (Int.le_refl _) hz1.1), Int.le_trans (Int.le_trans hz1.2 (Int.le_refl _)) (by decide)⟩ | omega) (by first | exact ⟨Int.le_trans (by decide) (Int.le_trans (Int.le_refl _) hz4.1), Int.le_trans (Int.le_trans hz4.2 (Int.le_refl _)) (by decide)⟩ | omega) (by omega)) ?_
          rintro IhB10 _ hB10 fhB10 ⟨z9, rfl, hz9⟩
          refine And.intro (True.intro) ?_
          exact ⟨_, rfl, by omega⟩
        · intro c11
          refine And.intro (True.intro) ?_
          exact ⟨_, rfl, by omega⟩
set_option maxRecDepth 8000 in
theorem ct_M_person_81c92 {I : fH} {x1 : Int} {x2 : Int} {x3 : Int} (h0 : fB bsJ I) (ha1 : ((-2147483648) ≤ x1 ∧ x1 ≤ 2147483647)) (ha2 : ((-2147483648) ≤ x2 ∧ x2 ≤ 2147483647)) (ha3 : ((-2147483648) ≤ x3 ∧ x3 ≤ 2147483647)) : fC ρ base n F xTc vwCl xTys D dA la gJ (fbz bsJ znJ (fKc wz_e1d4d) I) xm_305 [.inr (.inr (some 740)), .inl x1, .inl x2, .inl x3] I (fun _ r => ∃ z, r = some (.inl z) ∧ ((0 ≤ z ∧ z ≤ 23) ∨ z = (-1000000003) ∨ z = (-1000000001))) := by
  have hW : fzs wz_e1d4d (fKc wz_e1d4d) := fKc_ok _
  refine f_meth (rb := rbJ) (J := []) 1 400 xG xin_305 x6_305 okJ (fB_self h0) ?_ ?_
  · exact fun q h => absurd h List.not_mem_nil
  · have hB0 := fB_self (zn := znJ) (K := fKc wz_e1d4d) h0
    refine And.intro (by first | exact fi_ ha1.1 ha1.2 rfl | omega) ?_
    refine Exists.intro xm_238 (And.intro mi_238 (And.intro ⟨rfl, rfl, rfl, rfl⟩ (And.intro True.intro ?_)))
    refine fcallp hB0 (ct_M_isIn_27230 (fBz h0 hB0) (by first | exact ⟨ha1.1, ha1.2⟩ | omega) (by first | exact ⟨by decide, by decide⟩ | omega) (by first | exact ⟨by decide, by decide⟩ | omega)) ?_
    rintro _ ⟨z1, rfl, hz1⟩
    refine And.intro (by omega) (And.intro ?_ ?_)
    · intro c2
      refine And.intro (True.intro) ?_
      exact ⟨_, rfl, by omega⟩
    · intro c3
      refine And.intro (by first | exact fi_ ha2.1 ha2.2 rfl | omega) ?_
      refine Exists.intro xm_238 (And.intro mi_238 (And.intro ⟨rfl, rfl, rfl, rfl⟩ (And.intro True.intro ?_)))
      refine fcallp hB0 (ct_M_isIn_27230 (fBz h0 hB0) (by first | exact ⟨ha2.1, ha2.2⟩ | omega) (by first | exact ⟨by decide, by decide⟩ | omega) (by first | exact ⟨by decide, by decide⟩ | omega)) ?_
      rintro _ ⟨z4, rfl, hz4⟩
      refine And.intro (by omega) (And.intro ?_ ?_)
      · intro c5
        refine And.intro (True.intro) ?_
        exact ⟨_, rfl, by omega⟩
      · intro c6
        refine Exists.intro xm_241 (And.intro mi_241 (And.intro ⟨rfl, rfl, rfl, rfl⟩ (And.intro rfl ?_)))
        refine fcallp hB0 (ct_M_isCell_45859 (fBz h0 hB0) (by first | exact ⟨ha3.1, ha3.2⟩ | omega)) ?_
        rintro _ ⟨z7, rfl, hz7⟩
        refine And.intro (by omega) (And.intro ?_ ?_)
        · intro c8
          refine And.intro ⟨rfl, by decide, by decide⟩ ?_
          refine fload1 rL_741_741_8_8_1_0 h0 hB0 ⟨by decide, by decide⟩ (by first | exact ⟨by decide, by decide⟩ | omega) ?_
          intro z9 lz9 uz9 qz9
          have pz9 := fld_at qz9 8 (by omega)
          refine And.intro (And.intro (by first | exact fi_ lz9 uz9 rfl | omega) (by first | exact ⟨by decide, by decide⟩ | omega)) (And.intro ?_ ?_)
          · intro c10
            refine And.intro ⟨rfl, by decide, by decide⟩ ?_
            refine fload1 rL_741_741_8_8_1_0 h0 hB0 ⟨by decide, by decide⟩ (by first | exact ⟨by decide, by decide⟩ | omega) ?_
            intro z11 lz11 uz11 qz11
            have pz11 := fld_at qz11 8 (by omega)
            refine Exists.intro xm_247 (And.intro mi_247 (And.intro ⟨rfl, rfl, rfl, rfl⟩ (And.intro rfl ?_)))
            refine fcallp hB0 (ct_M_personAt_9b331 (fBz h0 hB0) (by omega)) ?_
            rintro _ ⟨_, rfl, rfl⟩
            refine And.intro ⟨rfl, by decide, by decide⟩ ?_
            refine fstore rS_741_741_870_1008_6_0 (fzs_sub (by decide +kernel) hW) (by omega) (by first | exact ⟨Int.le_trans (by decide) (Int.le_trans (Int.le_refl _) hz1.1), Int.le_trans (Int.le_trans hz1.2 (Int.le_refl _)) (by decide)⟩ | omega) ?_
            intro IhB13 ehB13 hB13
            have t14 := fup_self ehB13
            have t15 : IhB13 741 8 = I 741 8 := (congrFun (congrFun ehB13 741) 8).trans (fup_ne (by first | exact Or.inl (by decide) | omega))
            refine And.intro ⟨rfl, by decide, by decide⟩ ?_
            refine fstore rS_741_741_871_1009_6_0 (fzs_sub (by decide +kernel) hW) (by omega) (by first | exact ⟨Int.le_trans (by decide) (Int.le_trans (Int.le_refl _) hz4.1), Int.le_trans (Int.le_trans hz4.2 (Int.le_refl _)) (by decide)⟩ | omega) ?_
            intro IhB16 ehB16 hB16
            have t17 := fup_self ehB16
            have t18 : IhB16 741 8 = IhB13 741 8 := (congrFun (congrFun ehB16 741) 8).trans (fup_ne (by first | exact Or.inl (by decide) | omega))
            refine And.intro ⟨rfl, by decide, by decide⟩ ?_
            refine fstore rS_741_741_872_1010_6_0 (fzs_sub (by decide +kernel) hW) (by omega) (by omega) ?_
            intro IhB19 ehB19 hB19
            have t20 := fup_self ehB19
            have t21 : IhB19 741 8 = IhB16 741 8 := (congrFun (congrFun ehB19 741) 8).trans (fup_ne (by first | exact Or.inl (by decide) | omega))
            refine And.intro ⟨rfl, by decide, by decide⟩ ?_
            refine fstore rS_741_741_873_1011_6_0 (fzs_sub (by decide +kernel) hW) (by omega) (by first | exact ⟨by decide, by decide⟩ | omega) ?_
            intro IhB22 ehB22 hB22
            have t23 := fup_self ehB22
            have t24 : IhB22 741 8 = IhB19 741 8 := (congrFun (congrFun ehB22 741) 8).trans (fup_ne (by first | exact Or.inl (by decide) | omega))
            refine And.intro ⟨rfl, by decide, by decide⟩ ?_
            refine fstore rS_741_741_874_1012_6_0 (fzs_sub (by decide +kernel) hW) (by omega) (by first | exact ⟨by decide, by decide⟩ | omega) ?_
            intro IhB25 ehB25 hB25
            have t26 := fup_self ehB25
            have t27 : IhB25 741 8 = IhB22 741 8 := (congrFun (congrFun ehB25 741) 8).trans (fup_ne (by first | exact Or.inl (by decide) | omega))
            refine And.intro ⟨rfl, by decide, by decide⟩ ?_
            refine fload1 rL_741_741_8_8_1_0 h0 hB25 ⟨by decide, by decide⟩ (by first | exact ⟨by decide, by decide⟩ | omega) ?_
            intro z28 lz28 uz28 qz28
            have pz28 := fld_at qz28 8 (by omega)
            refine fstore1 rS_741_741_8_8_1_0 (fzs_sub (by decide +kernel) hW) ⟨by decide, by decide⟩ (by first | exact ⟨by decide, by decide⟩ | omega) (by omega) ?_
            intro IhB29 ehB29 hB29
            have t30 := fup_self ehB29
            have t31 := fup_at ehB29 8 (by first | rfl | omega)
            refine And.intro ⟨rfl, by decide, by decide⟩ ?_
            refine fload1 rL_741_741_8_8_1_0 h0 hB29 ⟨by decide, by decide⟩ (by first | exact ⟨by decide, by decide⟩ | omega) ?_
            intro z32 lz32 uz32 qz32
            have pz32 := fld_at qz32 8 (by omega)
            refine And.intro (True.intro) ?_
            exact ⟨_, rfl, by omega⟩
          · intro c33
            refine And.intro (True.intro) ?_
            exact ⟨_, rfl, by omega⟩
        · intro c34
          refine And.intro (True.intro) ?_
          exact ⟨_, rfl, by omega⟩
set_option maxRecDepth 8000 in
theorem ct_X_swap_95246 {I : fH} {x1 : Int} {x2 : Int} (h0 : fB bsJ I) (ha1 : (0 ≤ x1 ∧ x1 ≤ 23)) (ha2 : (0 ≤ x2 ∧ x2 ≤ 99)) : fC ρ base n F xTc vwCl xTys D dA la gJ (fbz bsJ znJ (fKc wz_389c2) I) xm_18 [.inr (.inr (some 178)), .inl x1, .inl x2] I (fun I' r => ∃ z, r = some (.inl z) ∧ ((-2147483648) ≤ z ∧ z ≤ 2147483647) ∧ (I' = fupd I 178 x1.toNat x2) ∧ (z = I 178 x1.toNat)) := by
  have hW : fzs wz_389c2 (fKc wz_389c2) := fKc_ok _
  refine f_meth (rb := rbJ) (J := []) 1 400 xG xin_18 x6_18 okJ (fB_self h0) ?_ ?_
  · exact fun q h => absurd h List.not_mem_nil
  · have hB0 := fB_self (zn := znJ) (K := fKc wz_389c2) h0
    refine fload1 rL_178_178_0_23_1_0 h0 hB0 ⟨by decide, by decide⟩ (by first | exact ⟨ha1.1, ha1.2⟩ | omega) ?_
    intro z1 lz1 uz1 qz1
    refine fstore1 rS_178_178_0_23_1_0 (fzs_sub (by decide +kernel) hW) ⟨by decide, by decide⟩ (by first | exact ⟨ha1.1, ha1.2⟩ | omega) (by first | exact ⟨Int.le_trans (by decide) ha2.1, Int.le_trans ha2.2 (by decide)⟩ | omega) ?_
    intro IhB2 ehB2 hB2
    have t3 := fup_self ehB2
    refine And.intro (True.intro) ?_
    exact ⟨_, rfl, (by first | exact ⟨lz1, uz1⟩ | omega), ehB2, qz1⟩
set_option maxRecDepth 8000 in
theorem ct_X_swap_55e24 {I : fH} {x1 : Int} {x2 : Int} (h0 : fB bsJ I) (ha1 : (0 ≤ x1 ∧ x1 ≤ 23)) (ha2 : (0 ≤ x2 ∧ x2 ≤ 100)) : fC ρ base n F xTc vwCl xTys D dA la gJ (fbz bsJ znJ (fKc wz_b5181) I) xm_18 [.inr (.inr (some 181)), .inl x1, .inl x2] I (fun I' r => ∃ z, r = some (.inl z) ∧ ((-2147483648) ≤ z ∧ z ≤ 2147483647) ∧ (I' = fupd I 181 x1.toNat x2) ∧ (z = I 181 x1.toNat)) := by
  have hW : fzs wz_b5181 (fKc wz_b5181) := fKc_ok _
  refine f_meth (rb := rbJ) (J := []) 1 400 xG xin_18 x6_18 okJ (fB_self h0) ?_ ?_
  · exact fun q h => absurd h List.not_mem_nil
  · have hB0 := fB_self (zn := znJ) (K := fKc wz_b5181) h0
    refine fload1 rL_181_181_0_23_1_0 h0 hB0 ⟨by decide, by decide⟩ (by first | exact ⟨ha1.1, ha1.2⟩ | omega) ?_
    intro z1 lz1 uz1 qz1
    refine fstore1 rS_181_181_0_23_1_0 (fzs_sub (by decide +kernel) hW) ⟨by decide, by decide⟩ (by first | exact ⟨ha1.1, ha1.2⟩ | omega) (by first | exact ⟨Int.le_trans (by decide) ha2.1, Int.le_trans ha2.2 (by decide)⟩ | omega) ?_
    intro IhB2 ehB2 hB2
    have t3 := fup_self ehB2
    refine And.intro (True.intro) ?_
    exact ⟨_, rfl, (by first | exact ⟨lz1, uz1⟩ | omega), ehB2, qz1⟩
set_option maxRecDepth 8000 in
theorem ct_X_swap_fb34f {I : fH} {x1 : Int} {x2 : Int} (h0 : fB bsJ I) (ha1 : (0 ≤ x1 ∧ x1 ≤ 23)) (ha2 : (0 ≤ x2 ∧ x2 ≤ 3)) : fC ρ base n F xTc vwCl xTys D dA la gJ (fbz bsJ znJ (fKc wz_acbb3) I) xm_18 [.inr (.inr (some 179)), .inl x1, .inl x2] I (fun I' r => ∃ z, r = some (.inl z) ∧ ((-2147483648) ≤ z ∧ z ≤ 2147483647) ∧ (I' = fupd I 179 x1.toNat x2) ∧ (z = I 179 x1.toNat)) := by
  have hW : fzs wz_acbb3 (fKc wz_acbb3) := fKc_ok _
  refine f_meth (rb := rbJ) (J := []) 1 400 xG xin_18 x6_18 okJ (fB_self h0) ?_ ?_
  · exact fun q h => absurd h List.not_mem_nil
  · have hB0 := fB_self (zn := znJ) (K := fKc wz_acbb3) h0
    refine fload1 rL_179_179_0_23_1_0 h0 hB0 ⟨by decide, by decide⟩ (by first | exact ⟨ha1.1, ha1.2⟩ | omega) ?_
    intro z1 lz1 uz1 qz1
    refine fstore1 rS_179_179_0_23_1_0 (fzs_sub (by decide +kernel) hW) ⟨by decide, by decide⟩ (by first | exact ⟨ha1.1, ha1.2⟩ | omega) (by first | exact ⟨Int.le_trans (by decide) ha2.1, Int.le_trans ha2.2 (by decide)⟩ | omega) ?_
    intro IhB2 ehB2 hB2
    have t3 := fup_self ehB2
    refine And.intro (True.intro) ?_
    exact ⟨_, rfl, (by first | exact ⟨lz1, uz1⟩ | omega), ehB2, qz1⟩
set_option maxRecDepth 8000 in
theorem ct_X_swap_fb805 {I : fH} {x1 : Int} {x2 : Int} (h0 : fB bsJ I) (ha1 : (0 ≤ x1 ∧ x1 ≤ 23)) (ha2 : (0 ≤ x2 ∧ x2 ≤ 19)) : fC ρ base n F xTc vwCl xTys D dA la gJ (fbz bsJ znJ (fKc wz_23056) I) xm_18 [.inr (.inr (some 180)), .inl x1, .inl x2] I (fun I' r => ∃ z, r = some (.inl z) ∧ (0 ≤ z ∧ z ≤ 19) ∧ (I' = fupd I 180 x1.toNat x2) ∧ (z = I 180 x1.toNat)) := by
  have hW : fzs wz_23056 (fKc wz_23056) := fKc_ok _
  refine f_meth (rb := rbJ) (J := []) 1 400 xG xin_18 x6_18 okJ (fB_self h0) ?_ ?_
  · exact fun q h => absurd h List.not_mem_nil
  · have hB0 := fB_self (zn := znJ) (K := fKc wz_23056) h0
    refine fload1 rL_180_180_0_23_1_0 h0 hB0 ⟨by decide, by decide⟩ (by first | exact ⟨ha1.1, ha1.2⟩ | omega) ?_
    intro z1 lz1 uz1 qz1
    refine fstore1 rS_180_180_0_23_1_0 (fzs_sub (by decide +kernel) hW) ⟨by decide, by decide⟩ (by first | exact ⟨ha1.1, ha1.2⟩ | omega) (by first | exact ⟨ha2.1, ha2.2⟩ | omega) ?_
    intro IhB2 ehB2 hB2
    have t3 := fup_self ehB2
    refine And.intro (True.intro) ?_
    exact ⟨_, rfl, (by first | exact ⟨lz1, uz1⟩ | omega), ehB2, qz1⟩
set_option maxRecDepth 8000 in
theorem ct_X_be_4c6d8 {I : fH} {x1 : Int} {x2 : Int} {x3 : Int} (h0 : fB bsJ I) (ha1 : ((-2147483648) ≤ x1 ∧ x1 ≤ 2147483647)) (ha2 : ((-2147483648) ≤ x2 ∧ x2 ≤ 2147483647)) (ha3 : ((-2147483648) ≤ x3 ∧ x3 ≤ 2147483647)) : fC ρ base n F xTc vwCl xTys D dA la gJ (fbz bsJ znJ (fKc wz_816f0) I) xm_101 [.inr (.inr (some 0)), .inl x1, .inl x2, .inl x3] I (fun _ r => ∃ z, r = some (.inl z) ∧ ((-2147483648) ≤ z ∧ z ≤ 2147483647)) := by
  have hW : fzs wz_816f0 (fKc wz_816f0) := fKc_ok _
  refine f_meth (rb := rbJ) (J := []) 1 400 xG xin_101 x6_101 okJ (fB_self h0) ?_ ?_
  · exact fun q h => absurd h List.not_mem_nil
  · have hB0 := fB_self (zn := znJ) (K := fKc wz_816f0) h0
    refine And.intro ⟨rfl, by decide, by decide⟩ ?_
    refine Exists.intro xm_27 (And.intro mi_27 (And.intro ⟨rfl, rfl, rfl, rfl⟩ (And.intro rfl ?_)))
    refine fcallp hB0 (ct_City_isPerson_ff059 (fBz h0 hB0) (by first | exact ⟨ha1.1, ha1.2⟩ | omega)) ?_
    rintro _ ⟨z1, rfl, hz1⟩
    refine And.intro (by omega) (And.intro ?_ ?_)
    · intro c2
      refine And.intro (by first | exact fi_ ha2.1 ha2.2 rfl | omega) (And.intro ?_ ?_)
      · refine And.intro (fun ex => ?_) (And.intro (fun ex => ?_) (And.intro (fun ex => ?_) (And.intro (fun ex => ?_) (True.intro))))
        · skip
          refine Exists.intro xm_13 (And.intro mi_13 (And.intro ⟨rfl, rfl, rfl, rfl⟩ (And.intro True.intro ?_)))
          refine fcallp hB0 (ct_X_within_c27b1 (fBz h0 hB0) (by first | exact ⟨ha3.1, ha3.2⟩ | omega) (by first | exact ⟨by decide, by decide⟩ | omega) (by first | exact ⟨by decide, by decide⟩ | omega)) ?_
          rintro _ ⟨z3, rfl, hz3⟩
          refine And.intro (by omega) (And.intro ?_ ?_)
          · intro c4
            refine And.intro (True.intro) ?_
            exact ⟨_, rfl, by omega⟩
          · intro c5
            refine And.intro ⟨rfl, by decide, by decide⟩ ?_
            refine And.intro ⟨rfl, by decide, by decide⟩ ?_
            refine And.intro ⟨rfl, by decide, by decide⟩ ?_
            refine Exists.intro xm_18 (And.intro mi_18 (And.intro ⟨rfl, rfl, rfl, rfl⟩ (And.intro True.intro ?_)))
            refine fcall _ h0 (fzs_sub (by decide +kernel) hW) hB0 (ct_X_swap_95246 (fBz h0 hB0) (by omega) (by first | exact ⟨Int.le_trans (by decide) (Int.le_trans (Int.le_refl _) hz3.1), Int.le_trans (Int.le_trans hz3.2 (Int.le_refl _)) (by decide)⟩ | omega)) ?_
            rintro IhB7 _ hB7 fhB7 ⟨z6, rfl, hz6, g0z6, g1z6⟩
            refine And.intro (True.intro) ?_
            exact ⟨_, rfl, (by first | exact ⟨hz6.1, hz6.2⟩ | omega)⟩
        · skip
          refine Exists.intro xm_13 (And.intro mi_13 (And.intro ⟨rfl, rfl, rfl, rfl⟩ (And.intro True.intro ?_)))
          refine fcallp hB0 (ct_X_within_c27b1 (fBz h0 hB0) (by first | exact ⟨ha3.1, ha3.2⟩ | omega) (by first | exact ⟨by decide, by decide⟩ | omega) (by first | exact ⟨by decide, by decide⟩ | omega)) ?_
          rintro _ ⟨z8, rfl, hz8⟩
          refine And.intro (by omega) (And.intro ?_ ?_)
          · intro c9
            refine And.intro (True.intro) ?_
            exact ⟨_, rfl, by omega⟩
          · intro c10
            refine And.intro ⟨rfl, by decide, by decide⟩ ?_
            refine And.intro ⟨rfl, by decide, by decide⟩ ?_
            refine And.intro ⟨rfl, by decide, by decide⟩ ?_
            refine Exists.intro xm_18 (And.intro mi_18 (And.intro ⟨rfl, rfl, rfl, rfl⟩ (And.intro True.intro ?_)))
            refine fcall _ h0 (fzs_sub (by decide +kernel) hW) hB0 (ct_X_swap_fb34f (fBz h0 hB0) (by omega) (by first | exact ⟨Int.le_trans (by decide) (Int.le_trans (Int.le_refl _) hz8.1), Int.le_trans (Int.le_trans hz8.2 (Int.le_refl _)) (by decide)⟩ | omega)) ?_
            rintro IhB12 _ hB12 fhB12 ⟨z11, rfl, hz11, g0z11, g1z11⟩
            refine And.intro (True.intro) ?_
            exact ⟨_, rfl, (by first | exact ⟨hz11.1, hz11.2⟩ | omega)⟩
        · skip
          refine And.intro ⟨rfl, by decide, by decide⟩ ?_
          refine Exists.intro xm_17 (And.intro mi_17 (And.intro ⟨rfl, rfl, rfl, rfl⟩ (And.intro rfl ?_)))
          refine fcallp hB0 (ct_City_isCell_46f02 (fBz h0 hB0) (by first | exact ⟨ha3.1, ha3.2⟩ | omega)) ?_
          rintro _ ⟨z13, rfl, hz13⟩
          refine And.intro (by omega) (And.intro ?_ ?_)
          · intro c14
            refine And.intro (True.intro) ?_
            exact ⟨_, rfl, by omega⟩
          · intro c15
            refine And.intro ⟨rfl, by decide, by decide⟩ ?_
            refine And.intro ⟨rfl, by decide, by decide⟩ ?_
            refine And.intro ⟨rfl, by decide, by decide⟩ ?_
            refine Exists.intro xm_18 (And.intro mi_18 (And.intro ⟨rfl, rfl, rfl, rfl⟩ (And.intro True.intro ?_)))
            refine fcall _ h0 (fzs_sub (by decide +kernel) hW) hB0 (ct_X_swap_fb805 (fBz h0 hB0) (by omega) (by omega)) ?_
            rintro IhB17 _ hB17 fhB17 ⟨z16, rfl, hz16, g0z16, g1z16⟩
            refine And.intro (True.intro) ?_
            exact ⟨_, rfl, (by first | exact ⟨Int.le_trans (by decide) hz16.1, Int.le_trans hz16.2 (by decide)⟩ | omega)⟩
        · skip
          refine Exists.intro xm_13 (And.intro mi_13 (And.intro ⟨rfl, rfl, rfl, rfl⟩ (And.intro True.intro ?_)))
          refine fcallp hB0 (ct_X_within_c27b1 (fBz h0 hB0) (by first | exact ⟨ha3.1, ha3.2⟩ | omega) (by first | exact ⟨by decide, by decide⟩ | omega) (by first | exact ⟨by decide, by decide⟩ | omega)) ?_
          rintro _ ⟨z18, rfl, hz18⟩
          refine And.intro (by omega) (And.intro ?_ ?_)
          · intro c19
            refine And.intro (True.intro) ?_
            exact ⟨_, rfl, by omega⟩
          · intro c20
            refine And.intro ⟨rfl, by decide, by decide⟩ ?_
            refine And.intro ⟨rfl, by decide, by decide⟩ ?_
            refine And.intro ⟨rfl, by decide, by decide⟩ ?_
            refine Exists.intro xm_18 (And.intro mi_18 (And.intro ⟨rfl, rfl, rfl, rfl⟩ (And.intro True.intro ?_)))
            refine fcall _ h0 (fzs_sub (by decide +kernel) hW) hB0 (ct_X_swap_55e24 (fBz h0 hB0) (by omega) (by first | exact ⟨Int.le_trans (by decide) (Int.le_trans (Int.le_refl _) hz18.1), Int.le_trans (Int.le_trans hz18.2 (Int.le_refl _)) (by decide)⟩ | omega)) ?_
            rintro IhB22 _ hB22 fhB22 ⟨z21, rfl, hz21, g0z21, g1z21⟩
            refine And.intro (True.intro) ?_
            exact ⟨_, rfl, (by first | exact ⟨hz21.1, hz21.2⟩ | omega)⟩
      · intro c23
        refine And.intro (True.intro) ?_
        exact ⟨_, rfl, (by first | exact ⟨by decide, by decide⟩ | omega)⟩
    · intro c24
      refine And.intro (True.intro) ?_
      exact ⟨_, rfl, (by first | exact ⟨by decide, by decide⟩ | omega)⟩
theorem ct_M_put_48bc1 {I : fH} {x1 x2 : Int} (h0 : fB bsJ I) (ha1 : 870 ≤ x1 ∧ x1 ≤ 1011) (ha2 : -2147483648 ≤ x2 ∧ x2 ≤ 2147483647) (hp0 : ((x1 - 870) % 6 = 2 ∧ 0 ≤ x2 ∧ x2 ≤ 19) ∨ ((x1 - 870) % 6 ≤ 1 ∧ (-2147483648) ≤ x2 ∧ x2 ≤ 2147483647) ∨ ((x1 - 870) % 6 = 3 ∧ (-2147483648) ≤ x2 ∧ x2 ≤ 2147483647)) : fC ρ base n F xTc vwCl xTys D dA la gJ (fbz bsJ znJ (fKc wz_4df1d) I) xm_242 [.inr (.inr (some 740)), .inl x1, .inl x2] I (fun I' r => ∃ z, r = some (.inl z) ∧ (-2147483648 ≤ z ∧ z ≤ 2147483647) ∧ (I' = fupd I 741 x1.toNat x2) ∧ (z = I 741 x1.toNat)) := by
  have hq : znJ 741 x1.toNat ∈ wz_4df1d ∧ (bsJ 741 x1.toNat).1 ≤ x2 ∧ x2 ≤ (bsJ 741 x1.toNat).2 := by
    rcases hp0 with hp0 | hp0 | hp0
    · exact (frS_at rS_741_741_872_1010_6_0 (by decide +kernel) (by omega) (by omega)).2
    · exact (frS_at rS_741_741_870_1009_6_1 (by decide +kernel) (by omega) (by omega)).2
    · exact (frS_at rS_741_741_873_1011_6_0 (by decide +kernel) (by omega) (by omega)).2
  refine fC_mono (ct_put h0 (by omega) hq.1 hq.2) (fun I' r _ q => ?_)
  obtain ⟨z, e, e2, e3⟩ := q
  have h3 := (frL_at rL_741_741_0_4899_1_0 h0 (a := 741) (i := x1) (by omega)).2
  exact ⟨z, e, by omega, e3, e2⟩
abbrev jc_M_be_60845_67 : Nat → fL → List fV → fH → Prop := fun m lv st I => ∃ (y1 : Int) (y2 : Int) (y3 : Int), lv = [(0, .inr (.inr (some 740))), (1, .inl y1), (2, .inl y2), (3, .inl y3)] ∧ st = [] ∧ ((((-2147483648) ≤ y1 ∧ y1 ≤ 2147483647) ∧ ((-2147483648) ≤ y2 ∧ y2 ≤ 2147483647) ∧ ((-2147483648) ≤ y3 ∧ y3 ≤ 2147483647))) ∧ m = (2 : Int).toNat
abbrev jc_M_be_60845_98 : Nat → fL → List fV → fH → Prop := fun m lv st I => lv = [] ∧ st = [] ∧ (True) ∧ m = (1 : Int).toNat
set_option maxRecDepth 8000 in
theorem ct_M_be_60845 {I : fH} {x1 : Int} {x2 : Int} {x3 : Int} (h0 : fB bsJ I) (ha1 : ((-2147483648) ≤ x1 ∧ x1 ≤ 2147483647)) (ha2 : ((-2147483648) ≤ x2 ∧ x2 ≤ 2147483647)) (ha3 : ((-2147483648) ≤ x3 ∧ x3 ≤ 2147483647)) : fC ρ base n F xTc vwCl xTys D dA la gJ (fbz bsJ znJ (fKc wz_4df1d) I) xm_306 [.inr (.inr (some 740)), .inl x1, .inl x2, .inl x3] I (fun _ r => ∃ z, r = some (.inl z) ∧ ((-2147483648) ≤ z ∧ z ≤ 2147483647)) := by
  have hW : fzs wz_4df1d (fKc wz_4df1d) := fKc_ok _
  refine f_meth (rb := rbJ) (J := [(67, jc_M_be_60845_67), (98, jc_M_be_60845_98)]) 3 400 xG xin_306 x6_306 okJ (fB_self h0) ?_ ?_
  · refine List.forall_mem_cons.mpr ⟨?_, List.forall_mem_cons.mpr ⟨?_, fun q h => absurd h List.not_mem_nil⟩⟩
    · rintro m _ _ I1 hB1 ⟨y1, y2, y3, rfl, rfl, hb, hm⟩
      refine Exists.intro xm_252 (And.intro mi_252 (And.intro ⟨rfl, rfl, rfl, rfl⟩ (And.intro rfl ?_)))
      refine fcallp hB1 (ct_M_isPerson_4d30c (fBz h0 hB1) (by first | exact ⟨hb.1.1, hb.1.2⟩ | omega)) ?_
      rintro _ ⟨z1, rfl, hz1⟩
      refine And.intro (by omega) (And.intro ?_ ?_)
      · intro c2
        exact fcutJ (I := I1) (j := jc_M_be_60845_98) (lv' := []) (True.intro) ⟨rfl, rfl, True.intro, rfl⟩ (by omega)
      · intro c3
        refine And.intro (by omega) (And.intro ?_ ?_)
        · intro c4
          exact fcutJ (I := I1) (j := jc_M_be_60845_98) (lv' := []) (True.intro) ⟨rfl, rfl, True.intro, rfl⟩ (by omega)
        · intro c5
          refine Exists.intro xm_247 (And.intro mi_247 (And.intro ⟨rfl, rfl, rfl, rfl⟩ (And.intro rfl ?_)))
          refine fcallp hB1 (ct_M_personAt_9b331 (fBz h0 hB1) (by omega)) ?_
          rintro _ ⟨_, rfl, rfl⟩
          intro z7 hz7 ez7 bz7
          clear ez7
          try replace bz7 := bz7 (by omega)
          refine Exists.intro xm_242 (And.intro mi_242 (And.intro ⟨rfl, rfl, rfl, rfl⟩ (And.intro rfl ?_)))
          refine fcall _ h0 (fzs_sub (by decide +kernel) hW) hB1 (ct_M_put_48bc1 (fBz h0 hB1) (by omega) (by first | exact ⟨hb.2.2.1, hb.2.2.2⟩ | omega) (by omega)) ?_
          rintro IhB9 _ hB9 fhB9 ⟨z8, rfl, hz8, g0z8, g1z8⟩
          refine And.intro (True.intro) ?_
          exact ⟨_, rfl, (by first | exact ⟨hz8.1, hz8.2⟩ | omega)⟩
    · rintro m _ _ I1 hB1 ⟨rfl, rfl, hb, hm⟩
      refine And.intro (True.intro) ?_
      exact ⟨_, rfl, by omega⟩
  · have hB0 := fB_self (zn := znJ) (K := fKc wz_4df1d) h0
    refine And.intro (by first | exact fi_ ha2.1 ha2.2 rfl | omega) (And.intro ?_ ?_)
    · intro c10
      refine And.intro (And.intro (by first | exact fi_ ha2.1 ha2.2 rfl | omega) (by first | exact ⟨by decide, by decide⟩ | omega)) (And.intro ?_ ?_)
      · intro c11
        refine And.intro (And.intro (by first | exact fi_ ha2.1 ha2.2 rfl | omega) (by first | exact ⟨by decide, by decide⟩ | omega)) (And.intro ?_ ?_)
        · intro c12
          refine And.intro (And.intro (by first | exact fi_ ha2.1 ha2.2 rfl | omega) (by first | exact ⟨by decide, by decide⟩ | omega)) (And.intro ?_ ?_)
          · intro c13
            exact fcutJ (I := I) (j := jc_M_be_60845_67) (lv' := [(0, .inr (.inr (some 740))), (1, .inl _), (2, .inl _), (3, .inl _)]) (And.intro rfl (And.intro rfl (And.intro rfl (And.intro rfl True.intro)))) ⟨_, _, _, rfl, rfl, by omega, rfl⟩ (by omega)
          · intro c14
            refine And.intro (by first | exact fi_ ha3.1 ha3.2 rfl | omega) ?_
            refine Exists.intro xm_238 (And.intro mi_238 (And.intro ⟨rfl, rfl, rfl, rfl⟩ (And.intro True.intro ?_)))
            refine fcallp hB0 (ct_M_isIn_27230 (fBz h0 hB0) (by first | exact ⟨ha3.1, ha3.2⟩ | omega) (by first | exact ⟨by decide, by decide⟩ | omega) (by first | exact ⟨by decide, by decide⟩ | omega)) ?_
            rintro _ ⟨z15, rfl, hz15⟩
            refine And.intro (by omega) (And.intro ?_ ?_)
            · intro c16
              exact fcutJ (I := I) (j := jc_M_be_60845_67) (lv' := [(0, .inr (.inr (some 740))), (1, .inl _), (2, .inl _), (3, .inl _)]) (And.intro rfl (And.intro rfl (And.intro rfl (And.intro rfl True.intro)))) ⟨_, _, _, rfl, rfl, by omega, rfl⟩ (by omega)
            · intro c17
              refine Exists.intro xm_252 (And.intro mi_252 (And.intro ⟨rfl, rfl, rfl, rfl⟩ (And.intro rfl ?_)))
              refine fcallp hB0 (ct_M_isPerson_4d30c (fBz h0 hB0) (by first | exact ⟨ha1.1, ha1.2⟩ | omega)) ?_
              rintro _ ⟨z18, rfl, hz18⟩
              refine And.intro (by omega) (And.intro ?_ ?_)
              · intro c19
                exact fcutJ (I := I) (j := jc_M_be_60845_98) (lv' := []) (True.intro) ⟨rfl, rfl, True.intro, rfl⟩ (by omega)
              · intro c20
                refine And.intro (by first | exact ⟨by decide, by decide⟩ | omega) (And.intro ?_ ?_)
                · intro c21
                  exact fcutJ (I := I) (j := jc_M_be_60845_98) (lv' := []) (True.intro) ⟨rfl, rfl, True.intro, rfl⟩ (by omega)
                · intro c22
                  refine Exists.intro xm_247 (And.intro mi_247 (And.intro ⟨rfl, rfl, rfl, rfl⟩ (And.intro rfl ?_)))
                  refine fcallp hB0 (ct_M_personAt_9b331 (fBz h0 hB0) (by omega)) ?_
                  rintro _ ⟨_, rfl, rfl⟩
                  intro z24 hz24 ez24 bz24
                  clear ez24
                  try replace bz24 := bz24 (by omega)
                  refine Exists.intro xm_242 (And.intro mi_242 (And.intro ⟨rfl, rfl, rfl, rfl⟩ (And.intro rfl ?_)))
                  refine fcall _ h0 (fzs_sub (by decide +kernel) hW) hB0 (ct_M_put_48bc1 (fBz h0 hB0) (by omega) (by first | exact ⟨Int.le_trans (by decide) (Int.le_trans (Int.le_refl _) hz15.1), Int.le_trans (Int.le_trans hz15.2 (Int.le_refl _)) (by decide)⟩ | omega) (by omega)) ?_
                  rintro IhB26 _ hB26 fhB26 ⟨z25, rfl, hz25, g0z25, g1z25⟩
                  refine And.intro (True.intro) ?_
                  exact ⟨_, rfl, (by first | exact ⟨hz25.1, hz25.2⟩ | omega)⟩
        · intro c27
          refine Exists.intro xm_241 (And.intro mi_241 (And.intro ⟨rfl, rfl, rfl, rfl⟩ (And.intro rfl ?_)))
          refine fcallp hB0 (ct_M_isCell_45859 (fBz h0 hB0) (by first | exact ⟨ha3.1, ha3.2⟩ | omega)) ?_
          rintro _ ⟨z28, rfl, hz28⟩
          refine Exists.intro xm_252 (And.intro mi_252 (And.intro ⟨rfl, rfl, rfl, rfl⟩ (And.intro rfl ?_)))
          refine fcallp hB0 (ct_M_isPerson_4d30c (fBz h0 hB0) (by first | exact ⟨ha1.1, ha1.2⟩ | omega)) ?_
          rintro _ ⟨z29, rfl, hz29⟩
          refine And.intro (by omega) (And.intro ?_ ?_)
          · intro c30
            exact fcutJ (I := I) (j := jc_M_be_60845_98) (lv' := []) (True.intro) ⟨rfl, rfl, True.intro, rfl⟩ (by omega)
          · intro c31
            refine And.intro (by omega) (And.intro ?_ ?_)
            · intro c32
              exact fcutJ (I := I) (j := jc_M_be_60845_98) (lv' := []) (True.intro) ⟨rfl, rfl, True.intro, rfl⟩ (by omega)
            · intro c33
              refine Exists.intro xm_247 (And.intro mi_247 (And.intro ⟨rfl, rfl, rfl, rfl⟩ (And.intro rfl ?_)))
              refine fcallp hB0 (ct_M_personAt_9b331 (fBz h0 hB0) (by omega)) ?_
              rintro _ ⟨_, rfl, rfl⟩
              intro z35 hz35 ez35 bz35
              clear ez35
              try replace bz35 := bz35 (by omega)
              refine Exists.intro xm_242 (And.intro mi_242 (And.intro ⟨rfl, rfl, rfl, rfl⟩ (And.intro rfl ?_)))
              refine fcall _ h0 (fzs_sub (by decide +kernel) hW) hB0 (ct_M_put_48bc1 (fBz h0 hB0) (by omega) (by first | exact ⟨ha3.1, ha3.2⟩ | omega) (by omega)) ?_
              rintro IhB37 _ hB37 fhB37 ⟨z36, rfl, hz36, g0z36, g1z36⟩
              refine And.intro (True.intro) ?_
              exact ⟨_, rfl, (by first | exact ⟨hz36.1, hz36.2⟩ | omega)⟩
      · intro c38
        refine And.intro (by first | exact fi_ ha3.1 ha3.2 rfl | omega) ?_
        refine Exists.intro xm_238 (And.intro mi_238 (And.intro ⟨rfl, rfl, rfl, rfl⟩ (And.intro True.intro ?_)))
        refine fcallp hB0 (ct_M_isIn_27230 (fBz h0 hB0) (by first | exact ⟨ha3.1, ha3.2⟩ | omega) (by first | exact ⟨by decide, by decide⟩ | omega) (by first | exact ⟨by decide, by decide⟩ | omega)) ?_
        rintro _ ⟨z39, rfl, hz39⟩
        refine Exists.intro xm_252 (And.intro mi_252 (And.intro ⟨rfl, rfl, rfl, rfl⟩ (And.intro rfl ?_)))
        refine fcallp hB0 (ct_M_isPerson_4d30c (fBz h0 hB0) (by first | exact ⟨ha1.1, ha1.2⟩ | omega)) ?_
        rintro _ ⟨z40, rfl, hz40⟩
        refine And.intro (by omega) (And.intro ?_ ?_)
        · intro c41
          exact fcutJ (I := I) (j := jc_M_be_60845_98) (lv' := []) (True.intro) ⟨rfl, rfl, True.intro, rfl⟩ (by omega)
        · intro c42
          refine And.intro (by omega) (And.intro ?_ ?_)
          · intro c43
            exact fcutJ (I := I) (j := jc_M_be_60845_98) (lv' := []) (True.intro) ⟨rfl, rfl, True.intro, rfl⟩ (by omega)
          · intro c44
            refine Exists.intro xm_247 (And.intro mi_247 (And.intro ⟨rfl, rfl, rfl, rfl⟩ (And.intro rfl ?_)))
            refine fcallp hB0 (ct_M_personAt_9b331 (fBz h0 hB0) (by omega)) ?_
            rintro _ ⟨_, rfl, rfl⟩
            intro z46 hz46 ez46 bz46
            clear ez46
            try replace bz46 := bz46 (by omega)
            refine Exists.intro xm_242 (And.intro mi_242 (And.intro ⟨rfl, rfl, rfl, rfl⟩ (And.intro rfl ?_)))
            refine fcall _ h0 (fzs_sub (by decide +kernel) hW) hB0 (ct_M_put_48bc1 (fBz h0 hB0) (by omega) (by first | exact ⟨Int.le_trans (by decide) (Int.le_trans (Int.le_refl _) hz39.1), Int.le_trans (Int.le_trans hz39.2 (Int.le_refl _)) (by decide)⟩ | omega) (by omega)) ?_
            rintro IhB48 _ hB48 fhB48 ⟨z47, rfl, hz47, g0z47, g1z47⟩
            refine And.intro (True.intro) ?_
            exact ⟨_, rfl, (by first | exact ⟨hz47.1, hz47.2⟩ | omega)⟩
    · intro c49
      refine And.intro (by first | exact fi_ ha3.1 ha3.2 rfl | omega) ?_
      refine Exists.intro xm_238 (And.intro mi_238 (And.intro ⟨rfl, rfl, rfl, rfl⟩ (And.intro True.intro ?_)))
      refine fcallp hB0 (ct_M_isIn_27230 (fBz h0 hB0) (by first | exact ⟨ha3.1, ha3.2⟩ | omega) (by first | exact ⟨by decide, by decide⟩ | omega) (by first | exact ⟨by decide, by decide⟩ | omega)) ?_
      rintro _ ⟨z50, rfl, hz50⟩
      refine Exists.intro xm_252 (And.intro mi_252 (And.intro ⟨rfl, rfl, rfl, rfl⟩ (And.intro rfl ?_)))
      refine fcallp hB0 (ct_M_isPerson_4d30c (fBz h0 hB0) (by first | exact ⟨ha1.1, ha1.2⟩ | omega)) ?_
      rintro _ ⟨z51, rfl, hz51⟩
      refine And.intro (by omega) (And.intro ?_ ?_)
      · intro c52
        exact fcutJ (I := I) (j := jc_M_be_60845_98) (lv' := []) (True.intro) ⟨rfl, rfl, True.intro, rfl⟩ (by omega)
      · intro c53
        refine And.intro (by omega) (And.intro ?_ ?_)
        · intro c54
          exact fcutJ (I := I) (j := jc_M_be_60845_98) (lv' := []) (True.intro) ⟨rfl, rfl, True.intro, rfl⟩ (by omega)
        · intro c55
          refine Exists.intro xm_247 (And.intro mi_247 (And.intro ⟨rfl, rfl, rfl, rfl⟩ (And.intro rfl ?_)))
          refine fcallp hB0 (ct_M_personAt_9b331 (fBz h0 hB0) (by omega)) ?_
          rintro _ ⟨_, rfl, rfl⟩
          intro z57 hz57 ez57 bz57
          clear ez57
          try replace bz57 := bz57 (by omega)
          refine Exists.intro xm_242 (And.intro mi_242 (And.intro ⟨rfl, rfl, rfl, rfl⟩ (And.intro rfl ?_)))
          refine fcall _ h0 (fzs_sub (by decide +kernel) hW) hB0 (ct_M_put_48bc1 (fBz h0 hB0) (by omega) (by first | exact ⟨Int.le_trans (by decide) (Int.le_trans (Int.le_refl _) hz50.1), Int.le_trans (Int.le_trans hz50.2 (Int.le_refl _)) (by decide)⟩ | omega) (by omega)) ?_
          rintro IhB59 _ hB59 fhB59 ⟨z58, rfl, hz58, g0z58, g1z58⟩
          refine And.intro (True.intro) ?_
          exact ⟨_, rfl, (by first | exact ⟨hz58.1, hz58.2⟩ | omega)⟩
set_option maxRecDepth 8000 in
theorem ct_X_is_3f9a5 {I : fH} {x1 : Int} {x2 : Int} (h0 : fB bsJ I) (ha1 : ((-2147483648) ≤ x1 ∧ x1 ≤ 2147483647)) (ha2 : ((-2147483648) ≤ x2 ∧ x2 ≤ 2147483647)) : fC ρ base n F xTc vwCl xTys D dA la gJ (fbz bsJ znJ (fKc []) I) xm_102 [.inr (.inr (some 0)), .inl x1, .inl x2] I (fun _ r => ∃ z, r = some (.inl z) ∧ ((-2147483648) ≤ z ∧ z ≤ 2147483647)) := by
  have hW : fzs [] (fKc []) := fKc_ok _
  refine f_meth (rb := rbJ) (J := []) 1 400 xG xin_102 x6_102 okJ (fB_self h0) ?_ ?_
  · exact fun q h => absurd h List.not_mem_nil
  · have hB0 := fB_self (zn := znJ) (K := fKc []) h0
    refine And.intro ⟨rfl, by decide, by decide⟩ ?_
    refine Exists.intro xm_27 (And.intro mi_27 (And.intro ⟨rfl, rfl, rfl, rfl⟩ (And.intro rfl ?_)))
    refine fcallp hB0 (ct_City_isPerson_ff059 (fBz h0 hB0) (by first | exact ⟨ha1.1, ha1.2⟩ | omega)) ?_
    rintro _ ⟨z1, rfl, hz1⟩
    refine And.intro (by omega) (And.intro ?_ ?_)
    · intro c2
      refine And.intro (by first | exact fi_ ha2.1 ha2.2 rfl | omega) (And.intro ?_ ?_)
      · refine And.intro (fun ex => ?_) (And.intro (fun ex => ?_) (And.intro (fun ex => ?_) (And.intro (fun ex => ?_) (And.intro (fun ex => ?_) (True.intro)))))
        · skip
          refine And.intro ⟨rfl, by decide, by decide⟩ ?_
          refine And.intro ⟨rfl, by decide, by decide⟩ ?_
          refine And.intro ⟨rfl, by decide, by decide⟩ ?_
          refine fload rL_178_178_0_23_1_0 h0 hB0 (by omega) ?_
          intro z3 lz3 uz3 qz3
          refine And.intro (True.intro) ?_
          exact ⟨_, rfl, (by first | exact ⟨lz3, uz3⟩ | omega)⟩
        · skip
          refine And.intro ⟨rfl, by decide, by decide⟩ ?_
          refine And.intro ⟨rfl, by decide, by decide⟩ ?_
          refine And.intro ⟨rfl, by decide, by decide⟩ ?_
          refine fload rL_179_179_0_23_1_0 h0 hB0 (by omega) ?_
          intro z4 lz4 uz4 qz4
          refine And.intro (True.intro) ?_
          exact ⟨_, rfl, (by first | exact ⟨lz4, uz4⟩ | omega)⟩
        · skip
          refine And.intro ⟨rfl, by decide, by decide⟩ ?_
          refine And.intro ⟨rfl, by decide, by decide⟩ ?_
          refine And.intro ⟨rfl, by decide, by decide⟩ ?_
          refine fload rL_180_180_0_23_1_0 h0 hB0 (by omega) ?_
          intro z5 lz5 uz5 qz5
          refine And.intro (True.intro) ?_
          exact ⟨_, rfl, (by first | exact ⟨Int.le_trans (by decide) lz5, Int.le_trans uz5 (by decide)⟩ | omega)⟩
        · skip
          refine And.intro ⟨rfl, by decide, by decide⟩ ?_
          refine And.intro ⟨rfl, by decide, by decide⟩ ?_
          refine And.intro ⟨rfl, by decide, by decide⟩ ?_
          refine fload rL_181_181_0_23_1_0 h0 hB0 (by omega) ?_
          intro z6 lz6 uz6 qz6
          refine And.intro (True.intro) ?_
          exact ⟨_, rfl, (by first | exact ⟨lz6, uz6⟩ | omega)⟩
        · skip
          refine And.intro ⟨rfl, by decide, by decide⟩ ?_
          refine And.intro ⟨rfl, by decide, by decide⟩ ?_
          refine Exists.intro xm_21 (And.intro mi_21 (And.intro ⟨rfl, rfl, rfl, rfl⟩ (And.intro rfl ?_)))
          refine fcallp hB0 (ct_People_isDead_edb17 (fBz h0 hB0) (by omega)) ?_
          rintro _ ⟨z7, rfl, hz7⟩
          refine And.intro (by omega) (And.intro ?_ ?_)
          · intro c8
            refine And.intro (True.intro) ?_
            exact ⟨_, rfl, by omega⟩
          · intro c9
            refine And.intro (True.intro) ?_
            exact ⟨_, rfl, (by first | exact ⟨by decide, by decide⟩ | omega)⟩
      · intro c10
        refine And.intro (True.intro) ?_
        exact ⟨_, rfl, (by first | exact ⟨by decide, by decide⟩ | omega)⟩
    · intro c11
      refine And.intro (True.intro) ?_
      exact ⟨_, rfl, (by first | exact ⟨by decide, by decide⟩ | omega)⟩
set_option maxRecDepth 8000 in
theorem ct_M_is_815af {I : fH} {x1 : Int} {x2 : Int} (h0 : fB bsJ I) (ha1 : ((-2147483648) ≤ x1 ∧ x1 ≤ 2147483647)) (ha2 : ((-2147483648) ≤ x2 ∧ x2 ≤ 2147483647)) : fC ρ base n F xTc vwCl xTys D dA la gJ (fbz bsJ znJ (fKc []) I) xm_307 [.inr (.inr (some 740)), .inl x1, .inl x2] I (fun _ r => ∃ z, r = some (.inl z) ∧ ((-2147483648) ≤ z ∧ z ≤ 2147483647)) := by
  have hW : fzs [] (fKc []) := fKc_ok _
  refine f_meth (rb := rbJ) (J := []) 1 400 xG xin_307 x6_307 okJ (fB_self h0) ?_ ?_
  · exact fun q h => absurd h List.not_mem_nil
  · have hB0 := fB_self (zn := znJ) (K := fKc []) h0
    refine Exists.intro xm_252 (And.intro mi_252 (And.intro ⟨rfl, rfl, rfl, rfl⟩ (And.intro rfl ?_)))
    refine fcallp hB0 (ct_M_isPerson_4d30c (fBz h0 hB0) (by first | exact ⟨ha1.1, ha1.2⟩ | omega)) ?_
    rintro _ ⟨z1, rfl, hz1⟩
    refine And.intro (by omega) (And.intro ?_ ?_)
    · intro c2
      refine And.intro (True.intro) ?_
      exact ⟨_, rfl, (by first | exact ⟨by decide, by decide⟩ | omega)⟩
    · intro c3
      refine And.intro (by first | exact fi_ ha2.1 ha2.2 rfl | omega) ?_
      refine Exists.intro xm_238 (And.intro mi_238 (And.intro ⟨rfl, rfl, rfl, rfl⟩ (And.intro True.intro ?_)))
      refine fcallp hB0 (ct_M_isIn_27230 (fBz h0 hB0) (by first | exact ⟨ha2.1, ha2.2⟩ | omega) (by first | exact ⟨by decide, by decide⟩ | omega) (by first | exact ⟨by decide, by decide⟩ | omega)) ?_
      rintro _ ⟨z4, rfl, hz4⟩
      refine And.intro (by omega) (And.intro ?_ ?_)
      · intro c5
        refine And.intro (And.intro (by first | exact fi_ (Int.le_trans (Int.le_refl _) hz4.1) (Int.le_trans hz4.2 (Int.le_refl _)) rfl | omega) (by first | exact ⟨by decide, by decide⟩ | omega)) (And.intro ?_ ?_)
        · intro c6
          refine And.intro ⟨rfl, by decide, by decide⟩ ?_
          refine Exists.intro xm_247 (And.intro mi_247 (And.intro ⟨rfl, rfl, rfl, rfl⟩ (And.intro rfl ?_)))
          refine fcallp hB0 (ct_M_personAt_9b331 (fBz h0 hB0) (by omega)) ?_
          rintro _ ⟨_, rfl, rfl⟩
          refine fload rL_741_741_870_1011_6_3 h0 hB0 (by omega) ?_
          intro z8 lz8 uz8 qz8
          refine And.intro (True.intro) ?_
          exact ⟨_, rfl, (by first | exact ⟨lz8, uz8⟩ | omega)⟩
        · intro c9
          refine Exists.intro xm_248 (And.intro mi_248 (And.intro ⟨rfl, rfl, rfl, rfl⟩ (And.intro rfl ?_)))
          refine fcallp hB0 (ct_M_isDead_21e1a (fBz h0 hB0) (by omega)) ?_
          rintro _ ⟨z10, rfl, hz10⟩
          refine And.intro (by omega) (And.intro ?_ ?_)
          · intro c11
            refine And.intro (True.intro) ?_
            exact ⟨_, rfl, (by first | exact ⟨by decide, by decide⟩ | omega)⟩
          · intro c12
            refine And.intro (True.intro) ?_
            exact ⟨_, rfl, (by first | exact ⟨by decide, by decide⟩ | omega)⟩
      · intro c13
        refine And.intro (True.intro) ?_
        exact ⟨_, rfl, (by first | exact ⟨by decide, by decide⟩ | omega)⟩
abbrev jc_Works_gardenRates_79462_4 : Nat → fL → List fV → fH → Prop := fun m lv st I => ∃ (y1 : Int) (y2 : Int), lv = [(0, .inr (.inr (some 163))), (1, .inl y1), (2, .inl y2)] ∧ st = [] ∧ ((((-2147483648) ≤ y1 ∧ y1 ≤ 2147483647) ∧ (0 ≤ y2 ∧ y2 ≤ 24))) ∧ m = (1 + 1 * (24 - y2) : Int).toNat
set_option maxRecDepth 8000 in
theorem ct_Works_gardenRates_79462 {I : fH}  (h0 : fB bsJ I)  : fC ρ base n F xTc vwCl xTys D dA la gJ (fbz bsJ znJ (fKc []) I) xm_105 [.inr (.inr (some 163))] I (fun _ r => ∃ z, r = some (.inl z) ∧ ((-2147483648) ≤ z ∧ z ≤ 2147483647)) := by
  have hW : fzs [] (fKc []) := fKc_ok _
  refine f_meth (rb := rbJ) (J := [(4, jc_Works_gardenRates_79462_4)]) 26 400 xG xin_105 x6_105 okJ (fB_self h0) ?_ ?_
  · refine List.forall_mem_cons.mpr ⟨?_, fun q h => absurd h List.not_mem_nil⟩
    · rintro m _ _ I1 hB1 ⟨y1, y2, rfl, rfl, hb, hm⟩
      refine And.intro ⟨rfl, by decide, by decide⟩ (fgetf fb_163_13 h0 hB1 ?_)
      intro z1 lz1 uz1 qz1
      refine And.intro (And.intro (by first | exact fi_ hb.2.1 hb.2.2 rfl | omega) (by first | exact fi_ lz1 uz1 rfl | omega)) (And.intro ?_ ?_)
      · intro c2
        refine And.intro (True.intro) ?_
        exact ⟨_, rfl, (by first | exact ⟨hb.1.1, hb.1.2⟩ | omega)⟩
      · intro c3
        refine And.intro ⟨rfl, by decide, by decide⟩ ?_
        refine fload1 rL_164_164_0_23_1_0 h0 hB1 ⟨by decide, by decide⟩ (by first | exact ⟨hb.2.1, Int.le_trans (Int.le_sub_one_of_lt (Int.lt_of_lt_of_le c3 uz1)) (by decide)⟩ | omega) ?_
        intro z4 lz4 uz4 qz4
        refine And.intro (And.intro (by first | exact fi_ lz4 uz4 rfl | omega) (by first | exact ⟨by decide, by decide⟩ | omega)) (And.intro ?_ ?_)
        · intro c5
          exact fcutJ (I := I1) (j := jc_Works_gardenRates_79462_4) (lv' := [(0, .inr (.inr (some 163))), (1, .inl _), (2, .inl _)]) (And.intro rfl (And.intro rfl (And.intro rfl True.intro))) ⟨_, _, rfl, rfl, by omega, rfl⟩ (by omega)
        · intro c6
          refine And.intro ⟨rfl, by decide, by decide⟩ ?_
          refine fload1 rL_174_174_0_23_1_0 h0 hB1 ⟨by decide, by decide⟩ (by first | exact ⟨hb.2.1, Int.le_trans (Int.le_sub_one_of_lt (Int.lt_of_lt_of_le c3 uz1)) (by decide)⟩ | omega) ?_
          intro z7 lz7 uz7 qz7
          refine And.intro (by first | exact fi_ lz7 uz7 rfl | omega) (And.intro ?_ ?_)
          · intro c8
            exact fcutJ (I := I1) (j := jc_Works_gardenRates_79462_4) (lv' := [(0, .inr (.inr (some 163))), (1, .inl _), (2, .inl _)]) (And.intro rfl (And.intro rfl (And.intro rfl True.intro))) ⟨_, _, rfl, rfl, by omega, rfl⟩ (by omega)
          · intro c9
            refine And.intro ⟨rfl, by decide, by decide⟩ ?_
            refine fload1 rL_171_171_0_23_1_0 h0 hB1 ⟨by decide, by decide⟩ (by first | exact ⟨hb.2.1, Int.le_trans (Int.le_sub_one_of_lt (Int.lt_of_lt_of_le c3 uz1)) (by decide)⟩ | omega) ?_
            intro z10 lz10 uz10 qz10
            intro z11 hz11 ez11 bz11
            clear ez11
            clear bz11
            exact fcutJ (I := I1) (j := jc_Works_gardenRates_79462_4) (lv' := [(0, .inr (.inr (some 163))), (1, .inl _), (2, .inl _)]) (And.intro rfl (And.intro rfl (And.intro rfl True.intro))) ⟨_, _, rfl, rfl, by omega, rfl⟩ (by omega)
  · have hB0 := fB_self (zn := znJ) (K := fKc []) h0
    exact fcutJ (I := I) (j := jc_Works_gardenRates_79462_4) (lv' := [(0, .inr (.inr (some 163))), (1, .inl _), (2, .inl _)]) (And.intro rfl (And.intro rfl (And.intro rfl True.intro))) ⟨_, _, rfl, rfl, by omega, rfl⟩ (by omega)
end CT

/-! contracts (written by gen95.py) -/
abbrev wz_3cf37 : List Nat := [20112, 20113, 20114, 20115, 20116, 20117]
abbrev wz_24e16 : List Nat := [20013, 20112, 20113, 20114, 20115, 20116, 20117, 20700, 20701, 20702, 20703, 20704, 20705, 20706, 20707]
abbrev wz_e4f60 : List Nat := [20101, 20102, 20103, 20104, 20105, 20107, 20108, 20109, 20110, 20111]
theorem x6_286 : f60c xTc xTys xm_286 = true := by decide +kernel
theorem rL_741_741_13_13_1_0 : frL gJ bsJ 100 ((741, 741), (13, 13), (1, 0), (0, 90)) := frL_of (by decide +kernel)
theorem rS_741_741_13_13_1_0 : frS gJ bsJ znJ [20013] 100 ((741, 741), (13, 13), (1, 0), (0, 90)) := frS_of (by decide +kernel)
theorem rL_741_741_3617_4329_8_0 : frL gJ bsJ 100 ((741, 741), (3617, 4329), (8, 0), ((-2147483648), 2147483647)) := frL_hull (by decide) (by decide +kernel)
theorem rL_741_741_0_0_1_0 : frL gJ bsJ 100 ((741, 741), (0, 0), (1, 0), (0, 22000)) := frL_of (by decide +kernel)
theorem rL_741_741_3610_4322_8_0 : frL gJ bsJ 100 ((741, 741), (3610, 4322), (8, 0), (0, 19)) := frL_of (by decide +kernel)
theorem rL_741_741_3616_4328_8_0 : frL gJ bsJ 100 ((741, 741), (3616, 4328), (8, 0), ((-2147483648), 2147483647)) := frL_hull (by decide) (by decide +kernel)
theorem rL_741_741_3610_4329_8_7 : frL gJ bsJ 100 ((741, 741), (3610, 4329), (8, 7), ((-2147483648), 2147483647)) := frL_hull (by decide) (by decide +kernel)
abbrev wz_fa024 : List Nat := [20001]
theorem x6_297 : f60c xTc xTys xm_297 = true := by decide +kernel
theorem rL_741_741_31_415_20_4 : frL gJ bsJ 100 ((741, 741), (31, 415), (20, 4), ((-2147483648), 2147483647)) := frL_hull (by decide) (by decide +kernel)
theorem rL_741_741_30_410_20_0 : frL gJ bsJ 100 ((741, 741), (30, 410), (20, 0), (0, 999)) := frL_of (by decide +kernel)
theorem rL_741_741_432_524_4_0 : frL gJ bsJ 100 ((741, 741), (432, 524), (4, 0), ((-2147483648), 2147483647)) := frL_hull (by decide) (by decide +kernel)
theorem rS_741_741_31_415_20_4 : frS gJ bsJ znJ [20101, 20102, 20103, 20104, 20105] 100 ((741, 741), (31, 415), (20, 4), ((-2147483648), 2147483647)) := frS_of (by decide +kernel)
theorem rL_741_741_430_522_4_0 : frL gJ bsJ 100 ((741, 741), (430, 522), (4, 0), (0, 19)) := frL_of (by decide +kernel)
theorem rL_741_741_431_523_4_0 : frL gJ bsJ 100 ((741, 741), (431, 523), (4, 0), (0, 19)) := frL_of (by decide +kernel)
theorem rL_741_741_433_525_4_0 : frL gJ bsJ 100 ((741, 741), (433, 525), (4, 0), ((-2147483648), 2147483647)) := frL_hull (by decide) (by decide +kernel)
abbrev wz_76090 : List Nat := [20022, 20101, 20102, 20103, 20104, 20105, 20107, 20108, 20109, 20110, 20111]
abbrev wz_ad13a : List Nat := [20108, 20305, 20306, 20307]
abbrev wz_11492 : List Nat := [20308, 20309, 20310]
abbrev wz_40ea8 : List Nat := [20002, 20022, 20101, 20102, 20103, 20104, 20105, 20107, 20108, 20109, 20110, 20111, 20305, 20306, 20307, 20308, 20309, 20310]
abbrev wz_69747 : List Nat := [20101, 20102, 20103, 20104, 20105, 20107, 20108, 20109, 20110, 20111, 20403]
abbrev wz_d1017 : List Nat := [20304, 20312]
abbrev wz_f4290 : List Nat := [20000, 20001, 20002, 20013, 20022, 20101, 20102, 20103, 20104, 20105, 20107, 20108, 20109, 20110, 20111, 20112, 20113, 20114, 20115, 20116, 20117, 20304, 20305, 20306, 20307, 20308, 20309, 20310, 20312, 20403, 20700, 20701, 20702, 20703, 20704, 20705, 20706, 20707]
theorem x6_285 : f60c xTc xTys xm_285 = true := by decide +kernel
theorem rL_741_741_7_7_1_0 : frL gJ bsJ 100 ((741, 741), (7, 7), (1, 0), (0, 24)) := frL_of (by decide +kernel)
theorem rL_741_741_533_855_14_0 : frL gJ bsJ 100 ((741, 741), (533, 855), (14, 0), ((-2147483648), 2147483647)) := frL_hull (by decide) (by decide +kernel)
theorem rL_741_741_6_6_1_0 : frL gJ bsJ 100 ((741, 741), (6, 6), (1, 0), (0, 24)) := frL_of (by decide +kernel)
theorem rL_741_741_5_5_1_0 : frL gJ bsJ 100 ((741, 741), (5, 5), (1, 0), (0, 20)) := frL_of (by decide +kernel)
theorem rL_741_741_8_8_1_0 : frL gJ bsJ 100 ((741, 741), (8, 8), (1, 0), (0, 24)) := frL_of (by decide +kernel)
theorem rL_741_741_2_2_1_0 : frL gJ bsJ 100 ((741, 741), (2, 2), (1, 0), ((-2147483648), 2147483647)) := frL_hull (by decide) (by decide +kernel)
theorem rS_741_741_2_2_1_0 : frS gJ bsJ znJ [20002] 100 ((741, 741), (2, 2), (1, 0), ((-2147483648), 2147483647)) := frS_of (by decide +kernel)
theorem rS_741_741_0_0_1_0 : frS gJ bsJ znJ [20000] 100 ((741, 741), (0, 0), (1, 0), (0, 22000)) := frS_of (by decide +kernel)
theorem x6_284 : f60c xTc xTys xm_284 = true := by decide +kernel
abbrev wz_a3f2e : List Nat := [701, 11704]
abbrev wz_0c5eb : List Nat := [701, 11704, 11707, 11709]
theorem x6_128 : f60c xTc xTys xm_128 = true := by decide +kernel
theorem fb_699_7 : bsJ 699 7 = (0, 96) := by decide +kernel
theorem rL_702_702_0_95_1_0 : frL gJ bsJ 100 ((702, 702), (0, 95), (1, 0), ((-2147483648), 2147483647)) := frL_hull (by decide) (by decide +kernel)
theorem fb_699_9 : bsJ 699 9 = ((-2147483648), 2147483647) := by decide +kernel
abbrev wz_4372f : List Nat := [702, 11707]
abbrev wz_b7a7b : List Nat := [701, 11704, 11707, 11708, 11709]
theorem x6_127 : f60c xTc xTys xm_127 = true := by decide +kernel
theorem fb_699_8 : bsJ 699 8 = ((-2147483648), 2147483647) := by decide +kernel
section CT
variable {ρ : Nat → Int32} {base n : Nat} {F : Nat → Prop} {D : va_G} {dA : Nat → ClassId} {la : Launch}
theorem ct_M_isIn_27230 {I : fH} {x0 : Int} {x1 : Int} {x2 : Int} (h0 : fB bsJ I) (ha0 : ((-2147483648) ≤ x0 ∧ x0 ≤ 2147483647)) (ha1 : ((-100000) ≤ x1 ∧ x1 ≤ 97)) (ha2 : ((-1) ≤ x2 ∧ x2 ≤ 999999)) : fC ρ base n F xTc vwCl xTys D dA la gJ (fbz bsJ znJ (fKc []) I) xm_238 [.inr (.inl x0), .inr (.inl x1), .inr (.inl x2)] I (fun _ r => ∃ z, r = some (.inl z) ∧ ((z = 1 ∧ x1 ≤ x0 ∧ x0 ≤ x2) ∨ (z = 0 ∧ (x0 < x1 ∨ x2 < x0)))) := sorry
theorem ct_M_cellAt_c15f4 {I : fH} {x1 : Int} (h0 : fB bsJ I) (ha1 : (0 ≤ x1 ∧ x1 ≤ 19)) : fC ρ base n F xTc vwCl xTys D dA la gJ (fbz bsJ znJ (fKc []) I) xm_239 [.inr (.inr (some 740)), .inl x1] I (fun _ r => ∃ z, r = some (.inl z) ∧ (z = 30 + 20 * x1)) := sorry
theorem ct_M_workAt_83d38 {I : fH} {x1 : Int} (h0 : fB bsJ I) (ha1 : (0 ≤ x1 ∧ x1 ≤ 23)) : fC ρ base n F xTc vwCl xTys D dA la gJ (fbz bsJ znJ (fKc []) I) xm_244 [.inr (.inr (some 740)), .inl x1] I (fun _ r => ∃ z, r = some (.inl z) ∧ (z = 530 + 14 * x1)) := sorry
theorem ct_M_personAt_9b331 {I : fH} {x1 : Int} (h0 : fB bsJ I) (ha1 : (0 ≤ x1 ∧ x1 ≤ 23)) : fC ρ base n F xTc vwCl xTys D dA la gJ (fbz bsJ znJ (fKc []) I) xm_247 [.inr (.inr (some 740)), .inl x1] I (fun _ r => ∃ z, r = some (.inl z) ∧ (z = 870 + 6 * x1)) := sorry
theorem ct_M_isDead_21e1a {I : fH} {x1 : Int} (h0 : fB bsJ I) (ha1 : (0 ≤ x1 ∧ x1 ≤ 23)) : fC ρ base n F xTc vwCl xTys D dA la gJ (fbz bsJ znJ (fKc []) I) xm_248 [.inr (.inr (some 740)), .inl x1] I (fun _ r => ∃ z, r = some (.inl z) ∧ (0 ≤ z ∧ z ≤ 1)) := sorry
theorem ct_M_isGone_0de37 {I : fH} {x1 : Int} (h0 : fB bsJ I) (ha1 : (0 ≤ x1 ∧ x1 ≤ 23)) : fC ρ base n F xTc vwCl xTys D dA la gJ (fbz bsJ znJ (fKc []) I) xm_245 [.inr (.inr (some 740)), .inl x1] I (fun _ r => ∃ z, r = some (.inl z) ∧ (0 ≤ z ∧ z ≤ 1)) := sorry
theorem ct_M_level_daf8a {I : fH}  (h0 : fB bsJ I)  : fC ρ base n F xTc vwCl xTys D dA la gJ (fbz bsJ znJ (fKc []) I) xm_260 [.inr (.inr (some 740))] I (fun _ r => ∃ z, r = some (.inl z) ∧ (0 ≤ z ∧ z ≤ 60)) := sorry
theorem ct_M_textAt_ea474 {I : fH} {x1 : Int} (h0 : fB bsJ I) (ha1 : (0 ≤ x1 ∧ x1 ≤ 11)) : fC ρ base n F xTc vwCl xTys D dA la gJ (fbz bsJ znJ (fKc []) I) xm_255 [.inr (.inr (some 740)), .inl x1] I (fun _ r => ∃ z, r = some (.inl z) ∧ (z = 1210 + 200 * x1)) := sorry
theorem ct_M_kindOf_31275 {I : fH} {x1 : Int} (h0 : fB bsJ I) (ha1 : (0 ≤ x1 ∧ x1 ≤ 23)) : fC ρ base n F xTc vwCl xTys D dA la gJ (fbz bsJ znJ (fKc []) I) xm_267 [.inr (.inr (some 740)), .inl x1] I (fun _ r => ∃ z, r = some (.inl z) ∧ ((-2147483648) ≤ z ∧ z ≤ 2147483647)) := sorry
theorem ct_M_table_49021 {I : fH} {x1 : Int} (h0 : fB bsJ I) (ha1 : ((0 ≤ x1 ∧ x1 ≤ 2) ∧ (x1 - 0) % 2 ≤ 0)) : fC ρ base n F xTc vwCl xTys D dA la gJ (fbz bsJ znJ (fKc []) I) xm_281 [.inr (.inr (some 740)), .inl x1] I (fun _ r => ∃ z, r = some (.inl z) ∧ ((-2147483648) ≤ z ∧ z ≤ 2147483647)) := sorry
theorem ct_M_lift_1d7b0 {I : fH}  (h0 : fB bsJ I)  : fC ρ base n F xTc vwCl xTys D dA la gJ (fbz bsJ znJ (fKc []) I) xm_280 [.inr (.inr (some 740))] I (fun _ r => ∃ z, r = some (.inr (.inl z)) ∧ ((-9223372036854775808) ≤ z ∧ z ≤ 9223372036854775807)) := sorry
theorem ct_M_isDay_57f71 {I : fH} {x1 : Int} (h0 : fB bsJ I) (ha1 : ((-2147483648) ≤ x1 ∧ x1 ≤ 2147483647)) : fC ρ base n F xTc vwCl xTys D dA la gJ (fbz bsJ znJ (fKc []) I) xm_283 [.inr (.inr (some 740)), .inl x1] I (fun _ r => ∃ z, r = some (.inl z) ∧ (0 ≤ z ∧ z ≤ 1)) := sorry
theorem ct_M_weight_47499 {I : fH}  (h0 : fB bsJ I)  : fC ρ base n F xTc vwCl xTys D dA la gJ (fbz bsJ znJ (fKc []) I) xm_282 [.inr (.inr (some 740))] I (fun _ r => ∃ z, r = some (.inr (.inl z)) ∧ ((-9223372036854775808) ≤ z ∧ z ≤ 9223372036854775807)) := sorry
theorem ct_M_hasWatch_bb889 {I : fH} {x1 : Int} (h0 : fB bsJ I) (ha1 : (0 ≤ x1 ∧ x1 ≤ 19)) : fC ρ base n F xTc vwCl xTys D dA la gJ (fbz bsJ znJ (fKc []) I) xm_304 [.inr (.inr (some 740)), .inl x1] I (fun _ r => ∃ z, r = some (.inl z) ∧ (0 ≤ z ∧ z ≤ 1)) := sorry
theorem ct_M_knows_34678 {I : fH} {x1 : Int} {x2 : Int} {x3 : Int} (h0 : fB bsJ I) (ha1 : (0 ≤ x1 ∧ x1 ≤ 19)) (ha2 : (31 ≤ x2 ∧ x2 ≤ 4323)) (ha3 : ((-2147483648) ≤ x3 ∧ x3 ≤ 2147483647)) : fC ρ base n F xTc vwCl xTys D dA la gJ (fbz bsJ znJ (fKc wz_3cf37) I) xm_287 [.inr (.inr (some 740)), .inl x1, .inl x2, .inl x3] I (fun _ r => r = none) := sorry
theorem ct_M_sends_ddcd7 {I : fH}  (h0 : fB bsJ I)  : fC ρ base n F xTc vwCl xTys D dA la gJ (fbz bsJ znJ (fKc wz_24e16) I) xm_303 [.inr (.inr (some 740))] I (fun _ r => r = none) := sorry
theorem ct_M_leaks_eedee {I : fH} {x1 : Int} (h0 : fB bsJ I) (ha1 : (0 ≤ x1 ∧ x1 ≤ 19)) : fC ρ base n F xTc vwCl xTys D dA la gJ (fbz bsJ znJ (fKc wz_e4f60) I) xm_298 [.inr (.inr (some 740)), .inl x1] I (fun _ r => r = none) := sorry
abbrev jc_M_come_3ca41_4 : Nat → fL → List fV → fH → Prop := fun m lv st I => ∃ (y1 : Int) (y2 : Int), lv = [(0, .inr (.inr (some 740))), (1, .inl y1), (2, .inl y2)] ∧ st = [] ∧ (((0 ≤ y1 ∧ y1 ≤ 90) ∧ (0 ≤ y2 ∧ y2 ≤ 90) ∧ (y1 ≤ y2))) ∧ m = (10 + 10 * (90 - y2) : Int).toNat
abbrev jc_M_come_3ca41_70 : Nat → fL → List fV → fH → Prop := fun m lv st I => ∃ (y1 : Int) (y2 : Int) (y3 : Int) (y4 : Int), lv = [(0, .inr (.inr (some 740))), (1, .inl y1), (2, .inl y2), (3, .inl y3), (4, .inl y4)] ∧ st = [] ∧ (((0 ≤ y1 ∧ y1 ≤ 89) ∧ (0 ≤ y2 ∧ y2 ≤ 89) ∧ ((3610 ≤ y3 ∧ y3 ≤ 4322) ∧ (y3 - 3610) % 8 ≤ 0) ∧ (0 ≤ y4 ∧ y4 ≤ 8) ∧ (1 ≤ I 741 13 ∧ I 741 13 ≤ 90) ∧ (y1 ≤ y2))) ∧ m = (1 + 10 * (90 - y2) + 1 * (8 - y4) : Int).toNat
set_option maxRecDepth 8000 in
theorem ct_M_come_3ca41 {I : fH}  (h0 : fB bsJ I)  : fC ρ base n F xTc vwCl xTys D dA la gJ (fbz bsJ znJ (fKc wz_24e16) I) xm_286 [.inr (.inr (some 740))] I (fun _ r => r = none) := by
  have hW : fzs wz_24e16 (fKc wz_24e16) := fKc_ok _
  refine f_meth (rb := rbJ) (J := [(4, jc_M_come_3ca41_4), (70, jc_M_come_3ca41_70)]) 911 400 xG xin_286 x6_286 okJ (fB_self h0) ?_ ?_
  · refine List.forall_mem_cons.mpr ⟨?_, List.forall_mem_cons.mpr ⟨?_, fun q h => absurd h List.not_mem_nil⟩⟩
    · rintro m _ _ I1 hB1 ⟨y1, y2, rfl, rfl, hb, hm⟩
      refine And.intro ⟨rfl, by decide, by decide⟩ ?_
      refine fload rL_741_741_13_13_1_0 h0 hB1 (by omega) ?_
      intro z1 lz1 uz1 qz1
      have pz1 := fld_at qz1 13 (by omega)
      refine And.intro (by omega) (And.intro ?_ ?_)
      · intro c2
        refine And.intro ⟨rfl, by decide, by decide⟩ ?_
        refine fstore rS_741_741_13_13_1_0 (fzs_sub (by decide +kernel) hW) (by omega) (by omega) ?_
        intro IhB3 ehB3 hB3
        have t4 := fup_self ehB3
        have t5 := fup_at ehB3 13 (by omega)
        exact rfl
      · intro c6
        refine And.intro ⟨rfl, by decide, by decide⟩ ?_
        refine fload rL_741_741_3617_4329_8_0 h0 hB1 (by omega) ?_
        intro z7 lz7 uz7 qz7
        refine And.intro ⟨rfl, by decide, by decide⟩ ?_
        refine fload rL_741_741_0_0_1_0 h0 hB1 (by omega) ?_
        intro z8 lz8 uz8 qz8
        have pz8 := fld_at qz8 0 (by omega)
        refine And.intro (by omega) (And.intro ?_ ?_)
        · intro c9
          exact fcutJ (I := I1) (j := jc_M_come_3ca41_70) (lv' := [(0, .inr (.inr (some 740))), (1, .inl _), (2, .inl _), (3, .inl _), (4, .inl _)]) (And.intro rfl (And.intro rfl (And.intro rfl (And.intro rfl (And.intro rfl True.intro))))) ⟨_, _, _, _, rfl, rfl, by omega, rfl⟩ (by omega)
        · intro c10
          refine And.intro ⟨rfl, by decide, by decide⟩ ?_
          refine fload rL_741_741_3610_4322_8_0 h0 hB1 (by omega) ?_
          intro z11 lz11 uz11 qz11
          refine And.intro ⟨rfl, by decide, by decide⟩ ?_
          refine fload rL_741_741_3616_4328_8_0 h0 hB1 (by omega) ?_
          intro z12 lz12 uz12 qz12
          refine Exists.intro xm_287 (And.intro mi_287 (And.intro ⟨rfl, rfl, rfl, rfl⟩ (And.intro rfl ?_)))
          refine fcall _ h0 (fzs_sub (by decide +kernel) hW) hB1 (ct_M_knows_34678 (fBz h0 hB1) (by omega) (by omega) (by omega)) ?_
          rintro IhB14 _ hB14 fhB14 rfl
          have t15 := fhB14 741 0 (by decide +kernel)
          have t16 := fhB14 741 13 (by decide +kernel)
          exact fcutJ (I := IhB14) (j := jc_M_come_3ca41_4) (lv' := [(0, .inr (.inr (some 740))), (1, .inl _), (2, .inl _)]) (And.intro rfl (And.intro rfl (And.intro rfl True.intro))) ⟨_, _, rfl, rfl, by omega, rfl⟩ (by omega)
    · rintro m _ _ I1 hB1 ⟨y1, y2, y3, y4, rfl, rfl, hb, hm⟩
      refine And.intro (by omega) (And.intro ?_ ?_)
      · intro c17
        intro z18 hz18 bz18
        have bz18 := bz18 (by omega)
        exact fcutJ (I := I1) (j := jc_M_come_3ca41_4) (lv' := [(0, .inr (.inr (some 740))), (1, .inl _), (2, .inl _)]) (And.intro rfl (And.intro rfl (And.intro rfl True.intro))) ⟨_, _, rfl, rfl, by omega, rfl⟩ (by omega)
      · intro c19
        refine And.intro ⟨rfl, by decide, by decide⟩ ?_
        intro z20 hz20 ez20 bz20
        clear ez20
        have bz20 := bz20 (by omega)
        intro z21 hz21 ez21 bz21
        clear ez21
        have bz21 := bz21 (by omega)
        intro z22 hz22 ez22 bz22
        clear ez22
        have bz22 := bz22 (by omega)
        refine And.intro ⟨rfl, by decide, by decide⟩ ?_
        refine fload rL_741_741_3610_4329_8_7 h0 hB1 (by omega) ?_
        intro z23 lz23 uz23 qz23
        refine fstoreX (fzs_sub (by decide +kernel) hW) (rep_st (fBz h0 hB1) qz23 (by omega) (by omega)) ?_
        intro IhB24 ehB24 hB24
        have t25 := fup_self ehB24
        have t26 : IhB24 741 13 = I1 741 13 := (congrFun (congrFun ehB24 741) 13).trans (fup_ne (by omega))
        exact fcutJ (I := IhB24) (j := jc_M_come_3ca41_70) (lv' := [(0, .inr (.inr (some 740))), (1, .inl _), (2, .inl _), (3, .inl _), (4, .inl _)]) (And.intro rfl (And.intro rfl (And.intro rfl (And.intro rfl (And.intro rfl True.intro))))) ⟨_, _, _, _, rfl, rfl, by omega, rfl⟩ (by omega)
  · have hB0 := fB_self (zn := znJ) (K := fKc wz_24e16) h0
    exact fcutJ (I := I) (j := jc_M_come_3ca41_4) (lv' := [(0, .inr (.inr (some 740))), (1, .inl _), (2, .inl _)]) (And.intro rfl (And.intro rfl (And.intro rfl True.intro))) ⟨_, _, rfl, rfl, by omega, rfl⟩ (by omega)
theorem ct_M_least_31c1d {I : fH} {x0 : Int} {x1 : Int} (h0 : fB bsJ I) (ha0 : ((-2147483648) ≤ x0 ∧ x0 ≤ 2147483647)) (ha1 : ((-2147483648) ≤ x1 ∧ x1 ≤ 2147483647)) : fC ρ base n F xTc vwCl xTys D dA la gJ (fbz bsJ znJ (fKc []) I) xm_291 [.inl x0, .inl x1] I (fun _ r => ∃ z, r = some (.inl z) ∧ (((-2147483648) ≤ z ∧ z ≤ 2147483647) ∧ (z ≤ x0 ∧ z ≤ x1 ∧ (z = x0 ∨ z = x1)))) := sorry
theorem ct_M_floats_933b1 {I : fH}  (h0 : fB bsJ I)  : fC ρ base n F xTc vwCl xTys D dA la gJ (fbz bsJ znJ (fKc wz_fa024) I) xm_301 [.inr (.inr (some 740))] I (fun _ r => r = none) := sorry
theorem ct_M_comes_305fc {I : fH} {x1 : Int} {x2 : Int} {x3 : Int} (h0 : fB bsJ I) (ha1 : (0 ≤ x1 ∧ x1 ≤ 19)) (ha2 : (0 ≤ x2 ∧ x2 ≤ 4)) (ha3 : ((-2147483648) ≤ x3 ∧ x3 ≤ 2147483647)) : fC ρ base n F xTc vwCl xTys D dA la gJ (fbz bsJ znJ (fKc wz_e4f60) I) xm_292 [.inr (.inr (some 740)), .inl x1, .inl x2, .inl x3] I (fun _ r => r = none) := sorry
abbrev jc_M_flows_1ceaa_48 (x1 : Int) (I0 : fH) : Nat → fL → List fV → fH → Prop := fun m lv st I => ∃ (y2 : Int) (y3 : Int) (y4 : Int) (y5 : Int), lv = [(0, .inr (.inr (some 740))), (2, .inl y2), (3, .inl y3), (4, .inl y4), (5, .inl y5)] ∧ st = [] ∧ ((((430 ≤ y2 ∧ y2 ≤ 522) ∧ (y2 - 430) % 4 ≤ 0) ∧ ((30 ≤ y3 ∧ y3 ≤ 410) ∧ (y3 - 30) % 20 ≤ 0) ∧ ((30 ≤ y4 ∧ y4 ≤ 410) ∧ (y4 - 30) % 20 ≤ 0) ∧ (0 ≤ y5 ∧ y5 ≤ 5) ∧ (y3 = 30 + 20 * I0 741 (430 + 4 * x1.toNat)) ∧ (y4 = 30 + 20 * I0 741 (431 + 4 * x1.toNat)))) ∧ m = (1 + 1 * (5 - y5) : Int).toNat
set_option maxRecDepth 8000 in
theorem ct_M_flows_1ceaa {I : fH} {x1 : Int} (h0 : fB bsJ I) (ha1 : (0 ≤ x1 ∧ x1 ≤ 23)) (hp0 : sI I 741) (hp1 : x1 < I 741 6) : fC ρ base n F xTc vwCl xTys D dA la gJ (fbz bsJ znJ (fKc wz_e4f60) I) xm_297 [.inr (.inr (some 740)), .inl x1] I (fun _ r => r = none) := by
  have hW : fzs wz_e4f60 (fKc wz_e4f60) := fKc_ok _
  refine f_meth (rb := rbJ) (J := [(48, (jc_M_flows_1ceaa_48 x1 I))]) 7 400 xG xin_297 x6_297 okJ (fB_self h0) ?_ ?_
  · refine List.forall_mem_cons.mpr ⟨?_, fun q h => absurd h List.not_mem_nil⟩
    · rintro m _ _ I1 hB1 ⟨y2, y3, y4, y5, rfl, rfl, hb, hm⟩
      refine And.intro (by omega) (And.intro ?_ ?_)
      · intro c1
        exact rfl
      · intro c2
        refine And.intro ⟨rfl, by decide, by decide⟩ ?_
        refine fload rL_741_741_31_415_20_4 h0 hB1 (by omega) ?_
        intro z3 lz3 uz3 qz3
        refine And.intro (by omega) ?_
        refine And.intro ⟨rfl, by decide, by decide⟩ ?_
        refine fload rL_741_741_30_410_20_0 h0 hB1 (by omega) ?_
        intro z4 lz4 uz4 qz4
        refine And.intro (by omega) ?_
        intro z5 hz5 ez5 bz5
        refine And.intro ⟨rfl, by decide, by decide⟩ ?_
        refine fload rL_741_741_31_415_20_4 h0 hB1 (by omega) ?_
        intro z6 lz6 uz6 qz6
        refine And.intro (by omega) ?_
        refine And.intro ⟨rfl, by decide, by decide⟩ ?_
        refine fload rL_741_741_30_410_20_0 h0 hB1 (by omega) ?_
        intro z7 lz7 uz7 qz7
        refine And.intro (by omega) ?_
        intro z8 hz8 ez8 bz8
        intro z9 hz9 ez9 bz9
        refine And.intro ⟨rfl, by decide, by decide⟩ ?_
        refine fload rL_741_741_30_410_20_0 h0 hB1 (by omega) ?_
        intro z10 lz10 uz10 qz10
        have w108 := fld_at qz10 (30 + 20 * (I 741 (430 + 4 * x1.toNat)).toNat) (by omega)
        refine And.intro ⟨rfl, by decide, by decide⟩ ?_
        refine fload rL_741_741_30_410_20_0 h0 hB1 (by omega) ?_
        intro z11 lz11 uz11 qz11
        have w117 := fld_at qz11 (30 + 20 * (I 741 (431 + 4 * x1.toNat)).toNat) (by omega)
        have wv := sI_vol hp0 h0 hB1 (by decide +kernel) (l := x1.toNat) (by omega)
        refine And.intro (by omega) ?_
        refine And.intro (And.intro (by omega) (by omega)) ?_
        intro z12 hz12 ez12
        refine And.intro ⟨rfl, by decide, by decide⟩ ?_
        refine fload rL_741_741_432_524_4_0 h0 hB1 (by omega) ?_
        intro z13 lz13 uz13 qz13
        refine And.intro (by omega) ?_
        intro z14 hz14 ez14 bz14
        refine And.intro (And.intro (by omega) (by omega)) ?_
        intro z15 hz15 ez15
        intro z16 hz16 ez16 bz16
        clear ez16
        clear bz16
        refine And.intro (by omega) (And.intro ?_ ?_)
        · intro c17
          refine And.intro ⟨rfl, by decide, by decide⟩ ?_
          refine fload rL_741_741_31_415_20_4 h0 hB1 (by omega) ?_
          intro z18 lz18 uz18 qz18
          intro z19 hz19 ez19 bz19
          clear ez19
          try replace bz19 := bz19 (by omega)
          refine fstore rS_741_741_31_415_20_4 (fzs_sub (by decide +kernel) hW) (by omega) (by omega) ?_
          intro IhB20 ehB20 hB20
          have t21 := fup_self ehB20
          refine And.intro ⟨rfl, by decide, by decide⟩ ?_
          refine fload rL_741_741_430_522_4_0 h0 hB20 (by omega) ?_
          intro z22 lz22 uz22 qz22
          intro z23 hz23 ez23 bz23
          clear ez23
          clear bz23
          refine Exists.intro xm_292 (And.intro mi_292 (And.intro ⟨rfl, rfl, rfl, rfl⟩ (And.intro rfl ?_)))
          refine fcall _ h0 (fzs_sub (by decide +kernel) hW) hB20 (ct_M_comes_305fc (fBz h0 hB20) (by omega) (by omega) (by omega)) ?_
          rintro IhB25 _ hB25 fhB25 rfl
          exact fcutJ (I := IhB25) (j := (jc_M_flows_1ceaa_48 x1 I)) (lv' := [(0, .inr (.inr (some 740))), (2, .inl _), (3, .inl _), (4, .inl _), (5, .inl _)]) (And.intro rfl (And.intro rfl (And.intro rfl (And.intro rfl (And.intro rfl True.intro))))) ⟨_, _, _, _, rfl, rfl, by omega, rfl⟩ (by omega)
        · intro c26
          refine And.intro ⟨rfl, by decide, by decide⟩ ?_
          refine fload rL_741_741_31_415_20_4 h0 hB1 (by omega) ?_
          intro z27 lz27 uz27 qz27
          intro z28 hz28 ez28 bz28
          clear ez28
          try replace bz28 := bz28 (by omega)
          refine fstore rS_741_741_31_415_20_4 (fzs_sub (by decide +kernel) hW) (by omega) (by omega) ?_
          intro IhB29 ehB29 hB29
          have t30 := fup_self ehB29
          refine And.intro ⟨rfl, by decide, by decide⟩ ?_
          refine fload rL_741_741_431_523_4_0 h0 hB29 (by omega) ?_
          intro z31 lz31 uz31 qz31
          refine Exists.intro xm_292 (And.intro mi_292 (And.intro ⟨rfl, rfl, rfl, rfl⟩ (And.intro rfl ?_)))
          refine fcall _ h0 (fzs_sub (by decide +kernel) hW) hB29 (ct_M_comes_305fc (fBz h0 hB29) (by omega) (by omega) (by omega)) ?_
          rintro IhB33 _ hB33 fhB33 rfl
          exact fcutJ (I := IhB33) (j := (jc_M_flows_1ceaa_48 x1 I)) (lv' := [(0, .inr (.inr (some 740))), (2, .inl _), (3, .inl _), (4, .inl _), (5, .inl _)]) (And.intro rfl (And.intro rfl (And.intro rfl (And.intro rfl (And.intro rfl True.intro))))) ⟨_, _, _, _, rfl, rfl, by omega, rfl⟩ (by omega)
  · have hB0 := fB_self (zn := znJ) (K := fKc wz_e4f60) h0
    refine And.intro ⟨rfl, by decide, by decide⟩ ?_
    refine fload rL_741_741_433_525_4_0 h0 hB0 (by omega) ?_
    intro z34 lz34 uz34 qz34
    refine And.intro (by omega) (And.intro ?_ ?_)
    · intro c35
      refine And.intro ⟨rfl, by decide, by decide⟩ ?_
      refine fload rL_741_741_430_522_4_0 h0 hB0 (by omega) ?_
      intro z36 lz36 uz36 qz36
      have w26 := fld_at qz36 (430 + 4 * x1.toNat) (by omega)
      refine Exists.intro xm_239 (And.intro mi_239 (And.intro ⟨rfl, rfl, rfl, rfl⟩ (And.intro rfl ?_)))
      refine fcallp hB0 (ct_M_cellAt_c15f4 (fBz h0 hB0) (by omega)) ?_
      rintro _ ⟨_, rfl, rfl⟩
      refine And.intro ⟨rfl, by decide, by decide⟩ ?_
      refine fload rL_741_741_431_523_4_0 h0 hB0 (by omega) ?_
      intro z38 lz38 uz38 qz38
      have w39 := fld_at qz38 (431 + 4 * x1.toNat) (by omega)
      refine Exists.intro xm_239 (And.intro mi_239 (And.intro ⟨rfl, rfl, rfl, rfl⟩ (And.intro rfl ?_)))
      refine fcallp hB0 (ct_M_cellAt_c15f4 (fBz h0 hB0) (by omega)) ?_
      rintro _ ⟨_, rfl, rfl⟩
      exact fcutJ (I := I) (j := (jc_M_flows_1ceaa_48 x1 I)) (lv' := [(0, .inr (.inr (some 740))), (2, .inl _), (3, .inl _), (4, .inl _), (5, .inl _)]) (And.intro rfl (And.intro rfl (And.intro rfl (And.intro rfl (And.intro rfl True.intro))))) ⟨_, _, _, _, rfl, rfl, by omega, rfl⟩ (by omega)
    · intro c40
      exact rfl
theorem ct_M_part_9aaa8 {I : fH} {x1 : Int} {x2 : Int} (h0 : fB bsJ I) (ha1 : (0 ≤ x1 ∧ x1 ≤ 23)) (ha2 : ((-2147483648) ≤ x2 ∧ x2 ≤ 2147483647)) : fC ρ base n F xTc vwCl xTys D dA la gJ (fbz bsJ znJ (fKc []) I) xm_290 [.inr (.inr (some 740)), .inl x1, .inl x2] I (fun _ r => ∃ z, r = some (.inl z) ∧ ((-2147483648) ≤ z ∧ z ≤ 2147483647)) := sorry
theorem ct_M_still_f4bbc {I : fH} {x1 : Int} (h0 : fB bsJ I) (ha1 : (0 ≤ x1 ∧ x1 ≤ 23)) : fC ρ base n F xTc vwCl xTys D dA la gJ (fbz bsJ znJ (fKc wz_76090) I) xm_293 [.inr (.inr (some 740)), .inl x1] I (fun _ r => r = none) := sorry
theorem ct_M_garden_cfd54 {I : fH} {x1 : Int} (h0 : fB bsJ I) (ha1 : (0 ≤ x1 ∧ x1 ≤ 23)) : fC ρ base n F xTc vwCl xTys D dA la gJ (fbz bsJ znJ (fKc wz_e4f60) I) xm_289 [.inr (.inr (some 740)), .inl x1] I (fun _ r => r = none) := sorry
theorem ct_M_isCovered_bfece {I : fH} {x1 : Int} (h0 : fB bsJ I) (ha1 : (0 ≤ x1 ∧ x1 ≤ 23)) : fC ρ base n F xTc vwCl xTys D dA la gJ (fbz bsJ znJ (fKc []) I) xm_294 [.inr (.inr (some 740)), .inl x1] I (fun _ r => ∃ z, r = some (.inl z) ∧ (0 ≤ z ∧ z ≤ 1)) := sorry
theorem ct_M_wears_b070e {I : fH} {x1 : Int} (h0 : fB bsJ I) (ha1 : (0 ≤ x1 ∧ x1 ≤ 23)) : fC ρ base n F xTc vwCl xTys D dA la gJ (fbz bsJ znJ (fKc wz_ad13a) I) xm_295 [.inr (.inr (some 740)), .inl x1] I (fun _ r => r = none) := sorry
theorem ct_M_falls_0e45b {I : fH} {x1 : Int} (h0 : fB bsJ I) (ha1 : (0 ≤ x1 ∧ x1 ≤ 23)) (hp0 : 0 ≤ I 741 (530 + 14 * x1 + ((9 : Nat) : Int)).toNat) : fC ρ base n F xTc vwCl xTys D dA la gJ (fbz bsJ znJ (fKc wz_11492) I) xm_296 [.inr (.inr (some 740)), .inl x1] I (fun _ r => r = none) := sorry
theorem ct_M_works_ee8a5 {I : fH} {x1 : Int} (h0 : fB bsJ I) (ha1 : (0 ≤ x1 ∧ x1 ≤ 23)) : fC ρ base n F xTc vwCl xTys D dA la gJ (fbz bsJ znJ (fKc wz_40ea8) I) xm_288 [.inr (.inr (some 740)), .inl x1] I (fun _ r => r = none) := sorry
theorem ct_M_need_68cc2 {I : fH} {x1 : Int} (h0 : fB bsJ I) (ha1 : (0 ≤ x1 ∧ x1 ≤ 23)) : fC ρ base n F xTc vwCl xTys D dA la gJ (fbz bsJ znJ (fKc []) I) xm_300 [.inr (.inr (some 740)), .inl x1] I (fun _ r => ∃ z, r = some (.inl z) ∧ (1 ≤ z ∧ z ≤ 2)) := sorry
theorem ct_M_breathes_a87a8 {I : fH} {x1 : Int} (h0 : fB bsJ I) (ha1 : (0 ≤ x1 ∧ x1 ≤ 23)) : fC ρ base n F xTc vwCl xTys D dA la gJ (fbz bsJ znJ (fKc wz_69747) I) xm_299 [.inr (.inr (some 740)), .inl x1] I (fun _ r => r = none) := sorry
theorem ct_M_fouls_5e9bc {I : fH} {x1 : Int} (h0 : fB bsJ I) (ha1 : (0 ≤ x1 ∧ x1 ≤ 23)) : fC ρ base n F xTc vwCl xTys D dA la gJ (fbz bsJ znJ (fKc wz_d1017) I) xm_302 [.inr (.inr (some 740)), .inl x1] I (fun _ r => r = none) := sorry
abbrev jc_M_minute_7c04c_6 (I0 : fH) : Nat → fL → List fV → fH → Prop := fun m lv st I => ∃ (y1 : Int), lv = [(0, .inr (.inr (some 740))), (1, .inl y1)] ∧ st = [] ∧ (((0 ≤ y1 ∧ y1 ≤ 24) ∧ (I 741 0 = I0 741 0))) ∧ m = (97 + 1 * (24 - y1) : Int).toNat
abbrev jc_M_minute_7c04c_54 (I0 : fH) : Nat → fL → List fV → fH → Prop := fun m lv st I => ∃ (y1 : Int), lv = [(0, .inr (.inr (some 740))), (1, .inl y1)] ∧ st = [] ∧ (((0 ≤ y1 ∧ y1 ≤ 24) ∧ (I 741 0 = I0 741 0))) ∧ m = (72 + 1 * (24 - y1) : Int).toNat
abbrev jc_M_minute_7c04c_78 (I0 : fH) : Nat → fL → List fV → fH → Prop := fun m lv st I => ∃ (y1 : Int), lv = [(0, .inr (.inr (some 740))), (1, .inl y1)] ∧ st = [] ∧ (((0 ≤ y1 ∧ y1 ≤ 20) ∧ (I 741 0 = I0 741 0))) ∧ m = (51 + 1 * (20 - y1) : Int).toNat
abbrev jc_M_minute_7c04c_101 (I0 : fH) : Nat → fL → List fV → fH → Prop := fun m lv st I => ∃ (y1 : Int), lv = [(0, .inr (.inr (some 740))), (1, .inl y1)] ∧ st = [] ∧ (((0 ≤ y1 ∧ y1 ≤ 24) ∧ (I 741 0 = I0 741 0))) ∧ m = (26 + 1 * (24 - y1) : Int).toNat
abbrev jc_M_minute_7c04c_147 (I0 : fH) : Nat → fL → List fV → fH → Prop := fun m lv st I => ∃ (y1 : Int), lv = [(0, .inr (.inr (some 740))), (1, .inl y1)] ∧ st = [] ∧ (((0 ≤ y1 ∧ y1 ≤ 24) ∧ (I 741 0 = I0 741 0))) ∧ m = (1 + 1 * (24 - y1) : Int).toNat
set_option maxRecDepth 8000 in
theorem ct_M_minute_7c04c {I : fH}  (h0 : fB bsJ I) (hp0 : sI I 741) (hp1 : I 741 0 ≤ 21999) : fC ρ base n F xTc vwCl xTys D dA la gJ (fbz bsJ znJ (fKc wz_f4290) I) xm_285 [.inr (.inr (some 740))] I (fun I' r => r = none ∧ I' 741 0 = I 741 0 + 1) := by
  have hW : fzs wz_f4290 (fKc wz_f4290) := fKc_ok _
  refine f_meth (rb := rbJ) (J := [(6, (jc_M_minute_7c04c_6 I)), (54, (jc_M_minute_7c04c_54 I)), (78, (jc_M_minute_7c04c_78 I)), (101, (jc_M_minute_7c04c_101 I)), (147, (jc_M_minute_7c04c_147 I))]) 122 400 xG xin_285 x6_285 okJ (fB_self h0) ?_ ?_
  · refine List.forall_mem_cons.mpr ⟨?_, List.forall_mem_cons.mpr ⟨?_, List.forall_mem_cons.mpr ⟨?_, List.forall_mem_cons.mpr ⟨?_, List.forall_mem_cons.mpr ⟨?_, fun q h => absurd h List.not_mem_nil⟩⟩⟩⟩⟩
    · rintro m _ _ I1 hB1 ⟨y1, rfl, rfl, hb, hm⟩
      refine And.intro ⟨rfl, by decide, by decide⟩ ?_
      refine fload rL_741_741_7_7_1_0 h0 hB1 (by omega) ?_
      intro z1 lz1 uz1 qz1
      have pz1 := fld_at qz1 7 (by omega)
      refine And.intro (by omega) (And.intro ?_ ?_)
      · intro c2
        exact fcutJ (I := I1) (j := (jc_M_minute_7c04c_54 I)) (lv' := [(0, .inr (.inr (some 740))), (1, .inl _)]) (And.intro rfl (And.intro rfl True.intro)) ⟨_, rfl, rfl, by omega, rfl⟩ (by omega)
      · intro c3
        refine And.intro ⟨rfl, by decide, by decide⟩ ?_
        refine Exists.intro xm_244 (And.intro mi_244 (And.intro ⟨rfl, rfl, rfl, rfl⟩ (And.intro rfl ?_)))
        refine fcallp hB1 (ct_M_workAt_83d38 (fBz h0 hB1) (by omega)) ?_
        rintro _ ⟨_, rfl, rfl⟩
        refine fload rL_741_741_533_855_14_0 h0 hB1 (by omega) ?_
        intro z5 lz5 uz5 qz5
        refine And.intro (by omega) (And.intro ?_ ?_)
        · intro c6
          exact fcutJ (I := I1) (j := (jc_M_minute_7c04c_6 I)) (lv' := [(0, .inr (.inr (some 740))), (1, .inl _)]) (And.intro rfl (And.intro rfl True.intro)) ⟨_, rfl, rfl, by omega, rfl⟩ (by omega)
        · intro c7
          refine Exists.intro xm_245 (And.intro mi_245 (And.intro ⟨rfl, rfl, rfl, rfl⟩ (And.intro rfl ?_)))
          refine fcallp hB1 (ct_M_isGone_0de37 (fBz h0 hB1) (by omega)) ?_
          rintro _ ⟨z8, rfl, hz8⟩
          refine And.intro (by omega) (And.intro ?_ ?_)
          · intro c9
            exact fcutJ (I := I1) (j := (jc_M_minute_7c04c_6 I)) (lv' := [(0, .inr (.inr (some 740))), (1, .inl _)]) (And.intro rfl (And.intro rfl True.intro)) ⟨_, rfl, rfl, by omega, rfl⟩ (by omega)
          · intro c10
            refine Exists.intro xm_288 (And.intro mi_288 (And.intro ⟨rfl, rfl, rfl, rfl⟩ (And.intro rfl ?_)))
            refine fcall _ h0 (fzs_sub (by decide +kernel) hW) hB1 (ct_M_works_ee8a5 (fBz h0 hB1) (by omega)) ?_
            rintro IhB12 _ hB12 fhB12 rfl
            have t13 := fhB12 741 0 (by decide +kernel)
            have t14 := fhB12 741 7 (by decide +kernel)
            exact fcutJ (I := IhB12) (j := (jc_M_minute_7c04c_6 I)) (lv' := [(0, .inr (.inr (some 740))), (1, .inl _)]) (And.intro rfl (And.intro rfl True.intro)) ⟨_, rfl, rfl, by omega, rfl⟩ (by omega)
    · rintro m _ _ I1 hB1 ⟨y1, rfl, rfl, hb, hm⟩
      refine And.intro ⟨rfl, by decide, by decide⟩ ?_
      refine fload rL_741_741_6_6_1_0 h0 hB1 (by omega) ?_
      intro z15 lz15 uz15 qz15
      have pz15 := fld_at qz15 6 (by omega)
      refine And.intro (by omega) (And.intro ?_ ?_)
      · intro c16
        exact fcutJ (I := I1) (j := (jc_M_minute_7c04c_78 I)) (lv' := [(0, .inr (.inr (some 740))), (1, .inl _)]) (And.intro rfl (And.intro rfl True.intro)) ⟨_, rfl, rfl, by omega, rfl⟩ (by omega)
      · intro c17
        refine Exists.intro xm_297 (And.intro mi_297 (And.intro ⟨rfl, rfl, rfl, rfl⟩ (And.intro rfl ?_)))
        refine fcall _ h0 (fzs_sub (by decide +kernel) hW) hB1 (ct_M_flows_1ceaa (fBz h0 hB1) (by omega) (sI_keep hp0 h0 hB1 (by decide +kernel)) (by omega)) ?_
        rintro IhB19 _ hB19 fhB19 rfl
        have t20 := fhB19 741 0 (by decide +kernel)
        have t21 := fhB19 741 6 (by decide +kernel)
        exact fcutJ (I := IhB19) (j := (jc_M_minute_7c04c_54 I)) (lv' := [(0, .inr (.inr (some 740))), (1, .inl _)]) (And.intro rfl (And.intro rfl True.intro)) ⟨_, rfl, rfl, by omega, rfl⟩ (by omega)
    · rintro m _ _ I1 hB1 ⟨y1, rfl, rfl, hb, hm⟩
      refine And.intro ⟨rfl, by decide, by decide⟩ ?_
      refine fload rL_741_741_5_5_1_0 h0 hB1 (by omega) ?_
      intro z22 lz22 uz22 qz22
      have pz22 := fld_at qz22 5 (by omega)
      refine And.intro (by omega) (And.intro ?_ ?_)
      · intro c23
        exact fcutJ (I := I1) (j := (jc_M_minute_7c04c_101 I)) (lv' := [(0, .inr (.inr (some 740))), (1, .inl _)]) (And.intro rfl (And.intro rfl True.intro)) ⟨_, rfl, rfl, by omega, rfl⟩ (by omega)
      · intro c24
        refine Exists.intro xm_298 (And.intro mi_298 (And.intro ⟨rfl, rfl, rfl, rfl⟩ (And.intro rfl ?_)))
        refine fcall _ h0 (fzs_sub (by decide +kernel) hW) hB1 (ct_M_leaks_eedee (fBz h0 hB1) (by omega)) ?_
        rintro IhB26 _ hB26 fhB26 rfl
        have t27 := fhB26 741 0 (by decide +kernel)
        have t28 := fhB26 741 5 (by decide +kernel)
        exact fcutJ (I := IhB26) (j := (jc_M_minute_7c04c_78 I)) (lv' := [(0, .inr (.inr (some 740))), (1, .inl _)]) (And.intro rfl (And.intro rfl True.intro)) ⟨_, rfl, rfl, by omega, rfl⟩ (by omega)
    · rintro m _ _ I1 hB1 ⟨y1, rfl, rfl, hb, hm⟩
      refine And.intro ⟨rfl, by decide, by decide⟩ ?_
      refine fload rL_741_741_8_8_1_0 h0 hB1 (by omega) ?_
      intro z29 lz29 uz29 qz29
      have pz29 := fld_at qz29 8 (by omega)
      refine And.intro (by omega) (And.intro ?_ ?_)
      · intro c30
        refine Exists.intro xm_301 (And.intro mi_301 (And.intro ⟨rfl, rfl, rfl, rfl⟩ (And.intro rfl ?_)))
        refine fcall _ h0 (fzs_sub (by decide +kernel) hW) hB1 (ct_M_floats_933b1 (fBz h0 hB1)) ?_
        rintro IhB32 _ hB32 fhB32 rfl
        have t33 := fhB32 741 0 (by decide +kernel)
        have t34 := fhB32 741 8 (by decide +kernel)
        refine And.intro ⟨rfl, by decide, by decide⟩ ?_
        refine fload rL_741_741_2_2_1_0 h0 hB32 (by omega) ?_
        intro z35 lz35 uz35 qz35
        have pz35 := fld_at qz35 2 (by omega)
        intro z36 hz36 ez36 bz36
        clear ez36
        try replace bz36 := bz36 (by omega)
        refine fstore rS_741_741_2_2_1_0 (fzs_sub (by decide +kernel) hW) (by omega) (by omega) ?_
        intro IhB37 ehB37 hB37
        have t38 := fup_self ehB37
        have t39 : IhB37 741 0 = IhB32 741 0 := (congrFun (congrFun ehB37 741) 0).trans (fup_ne (by omega))
        have t40 := fup_at ehB37 2 (by omega)
        have t41 : IhB37 741 8 = IhB32 741 8 := (congrFun (congrFun ehB37 741) 8).trans (fup_ne (by omega))
        exact fcutJ (I := IhB37) (j := (jc_M_minute_7c04c_147 I)) (lv' := [(0, .inr (.inr (some 740))), (1, .inl _)]) (And.intro rfl (And.intro rfl True.intro)) ⟨_, rfl, rfl, by omega, rfl⟩ (by omega)
      · intro c42
        refine Exists.intro xm_248 (And.intro mi_248 (And.intro ⟨rfl, rfl, rfl, rfl⟩ (And.intro rfl ?_)))
        refine fcallp hB1 (ct_M_isDead_21e1a (fBz h0 hB1) (by omega)) ?_
        rintro _ ⟨z43, rfl, hz43⟩
        refine And.intro (by omega) (And.intro ?_ ?_)
        · intro c44
          exact fcutJ (I := I1) (j := (jc_M_minute_7c04c_101 I)) (lv' := [(0, .inr (.inr (some 740))), (1, .inl _)]) (And.intro rfl (And.intro rfl True.intro)) ⟨_, rfl, rfl, by omega, rfl⟩ (by omega)
        · intro c45
          refine Exists.intro xm_299 (And.intro mi_299 (And.intro ⟨rfl, rfl, rfl, rfl⟩ (And.intro rfl ?_)))
          refine fcall _ h0 (fzs_sub (by decide +kernel) hW) hB1 (ct_M_breathes_a87a8 (fBz h0 hB1) (by omega)) ?_
          rintro IhB47 _ hB47 fhB47 rfl
          have t48 := fhB47 741 0 (by decide +kernel)
          have t49 := fhB47 741 8 (by decide +kernel)
          exact fcutJ (I := IhB47) (j := (jc_M_minute_7c04c_101 I)) (lv' := [(0, .inr (.inr (some 740))), (1, .inl _)]) (And.intro rfl (And.intro rfl True.intro)) ⟨_, rfl, rfl, by omega, rfl⟩ (by omega)
    · rintro m _ _ I1 hB1 ⟨y1, rfl, rfl, hb, hm⟩
      refine And.intro ⟨rfl, by decide, by decide⟩ ?_
      refine fload rL_741_741_7_7_1_0 h0 hB1 (by omega) ?_
      intro z50 lz50 uz50 qz50
      have pz50 := fld_at qz50 7 (by omega)
      refine And.intro (by omega) (And.intro ?_ ?_)
      · intro c51
        refine And.intro ⟨rfl, by decide, by decide⟩ ?_
        refine fload rL_741_741_0_0_1_0 h0 hB1 (by omega) ?_
        intro z52 lz52 uz52 qz52
        have pz52 := fld_at qz52 0 (by omega)
        refine fstore rS_741_741_0_0_1_0 (fzs_sub (by decide +kernel) hW) (by omega) (by omega) ?_
        intro IhB53 ehB53 hB53
        have t54 := fup_self ehB53
        have t55 := fup_at ehB53 0 (by omega)
        have t56 : IhB53 741 7 = I1 741 7 := (congrFun (congrFun ehB53 741) 7).trans (fup_ne (by omega))
        refine And.intro ⟨rfl, by decide, by decide⟩ ?_
        refine fload rL_741_741_0_0_1_0 h0 hB53 (by omega) ?_
        intro z57 lz57 uz57 qz57
        have pz57 := fld_at qz57 0 (by omega)
        refine And.intro (And.intro (by omega) (And.intro (by omega) (And.intro (by omega) rfl))) ?_
        intro z58 hz58 ez58 dz58
        have dz58 := dz58 (by omega) (by omega)
        change _ = _ % _ at dz58
        refine And.intro (by omega) (And.intro ?_ ?_)
        · intro c59
          exact ⟨rfl, by omega⟩
        · intro c60
          refine Exists.intro xm_303 (And.intro mi_303 (And.intro ⟨rfl, rfl, rfl, rfl⟩ (And.intro rfl ?_)))
          refine fcall _ h0 (fzs_sub (by decide +kernel) hW) hB53 (ct_M_sends_ddcd7 (fBz h0 hB53)) ?_
          rintro IhB62 _ hB62 fhB62 rfl
          have t63 := fhB62 741 0 (by decide +kernel)
          have t64 := fhB62 741 7 (by decide +kernel)
          exact ⟨rfl, by omega⟩
      · intro c65
        refine Exists.intro xm_245 (And.intro mi_245 (And.intro ⟨rfl, rfl, rfl, rfl⟩ (And.intro rfl ?_)))
        refine fcallp hB1 (ct_M_isGone_0de37 (fBz h0 hB1) (by omega)) ?_
        rintro _ ⟨z66, rfl, hz66⟩
        refine And.intro (by omega) (And.intro ?_ ?_)
        · intro c67
          exact fcutJ (I := I1) (j := (jc_M_minute_7c04c_147 I)) (lv' := [(0, .inr (.inr (some 740))), (1, .inl _)]) (And.intro rfl (And.intro rfl True.intro)) ⟨_, rfl, rfl, by omega, rfl⟩ (by omega)
        · intro c68
          refine Exists.intro xm_302 (And.intro mi_302 (And.intro ⟨rfl, rfl, rfl, rfl⟩ (And.intro rfl ?_)))
          refine fcall _ h0 (fzs_sub (by decide +kernel) hW) hB1 (ct_M_fouls_5e9bc (fBz h0 hB1) (by omega)) ?_
          rintro IhB70 _ hB70 fhB70 rfl
          have t71 := fhB70 741 0 (by decide +kernel)
          have t72 := fhB70 741 7 (by decide +kernel)
          exact fcutJ (I := IhB70) (j := (jc_M_minute_7c04c_147 I)) (lv' := [(0, .inr (.inr (some 740))), (1, .inl _)]) (And.intro rfl (And.intro rfl True.intro)) ⟨_, rfl, rfl, by omega, rfl⟩ (by omega)
  · have hB0 := fB_self (zn := znJ) (K := fKc wz_f4290) h0
    refine Exists.intro xm_286 (And.intro mi_286 (And.intro ⟨rfl, rfl, rfl, rfl⟩ (And.intro rfl ?_)))
    refine fcall _ h0 (fzs_sub (by decide +kernel) hW) hB0 (ct_M_come_3ca41 (fBz h0 hB0)) ?_
    rintro IhB74 _ hB74 fhB74 rfl
    have t75 := fhB74 741 0 (by decide +kernel)
    exact fcutJ (I := IhB74) (j := (jc_M_minute_7c04c_6 I)) (lv' := [(0, .inr (.inr (some 740))), (1, .inl _)]) (And.intro rfl (And.intro rfl True.intro)) ⟨_, rfl, rfl, by omega, rfl⟩ (by omega)
abbrev jc_M_run_ddfc8_34 (I0 : fH) : Nat → fL → List fV → fH → Prop := fun m lv st I => ∃ (y1 : Int) (y2 : Int), lv = [(0, .inr (.inr (some 740))), (1, .inl y1), (2, .inl y2)] ∧ st = [] ∧ (((1 ≤ y1 ∧ y1 ≤ 120) ∧ (0 ≤ y2 ∧ y2 ≤ 120) ∧ (I 741 0 = I0 741 0 + y2) ∧ (I0 741 0 + y1 ≤ 20000))) ∧ m = (1 + 1 * (120 - y2) : Int).toNat
set_option maxRecDepth 8000 in
theorem ct_M_run_ddfc8 {I : fH} {x1 : Int} (h0 : fB bsJ I) (ha1 : ((-2147483648) ≤ x1 ∧ x1 ≤ 2147483647)) (hp0 : sI I 741) (hp1 : I 741 0 ≤ 20000) : fC ρ base n F xTc vwCl xTys D dA la gJ (fbz bsJ znJ (fKc wz_f4290) I) xm_284 [.inr (.inr (some 740)), .inl x1] I (fun _ r => ∃ z, r = some (.inl z) ∧ ((0 ≤ z ∧ z ≤ 22000) ∨ z = (-1000000003) ∨ z = (-1000000001))) := by
  have hW : fzs wz_f4290 (fKc wz_f4290) := fKc_ok _
  refine f_meth (rb := rbJ) (J := [(34, (jc_M_run_ddfc8_34 I))]) 122 400 xG xin_284 x6_284 okJ (fB_self h0) ?_ ?_
  · refine List.forall_mem_cons.mpr ⟨?_, fun q h => absurd h List.not_mem_nil⟩
    · rintro m _ _ I1 hB1 ⟨y1, y2, rfl, rfl, hb, hm⟩
      refine And.intro (by omega) (And.intro ?_ ?_)
      · intro c1
        refine And.intro ⟨rfl, by decide, by decide⟩ ?_
        refine fload rL_741_741_0_0_1_0 h0 hB1 (by omega) ?_
        intro z2 lz2 uz2 qz2
        have pz2 := fld_at qz2 0 (by omega)
        refine And.intro (True.intro) ?_
        exact ⟨_, rfl, by omega⟩
      · intro c3
        refine Exists.intro xm_285 (And.intro mi_285 (And.intro ⟨rfl, rfl, rfl, rfl⟩ (And.intro rfl ?_)))
        refine fcall _ h0 (fzs_sub (by decide +kernel) hW) hB1 (ct_M_minute_7c04c (fBz h0 hB1) (sI_keep hp0 h0 hB1 (by decide +kernel)) (by omega)) ?_
        rintro IhB5 _ hB5 fhB5 ⟨rfl, hz4⟩
        exact fcutJ (I := IhB5) (j := (jc_M_run_ddfc8_34 I)) (lv' := [(0, .inr (.inr (some 740))), (1, .inl _), (2, .inl _)]) (And.intro rfl (And.intro rfl (And.intro rfl True.intro))) ⟨_, _, rfl, rfl, by omega, rfl⟩ (by omega)
  · have hB0 := fB_self (zn := znJ) (K := fKc wz_f4290) h0
    refine And.intro (by omega) ?_
    refine Exists.intro xm_238 (And.intro mi_238 (And.intro ⟨rfl, rfl, rfl, rfl⟩ (And.intro True.intro ?_)))
    refine fcallp hB0 (ct_M_isIn_27230 (fBz h0 hB0) (by omega) (by omega) (by omega)) ?_
    rintro _ ⟨z6, rfl, hz6⟩
    refine And.intro (by omega) (And.intro ?_ ?_)
    · intro c7
      refine And.intro ⟨rfl, by decide, by decide⟩ ?_
      refine fload rL_741_741_0_0_1_0 h0 hB0 (by omega) ?_
      intro z8 lz8 uz8 qz8
      have pz8 := fld_at qz8 0 (by omega)
      refine And.intro (by omega) (And.intro ?_ ?_)
      · intro c9
        exact fcutJ (I := I) (j := (jc_M_run_ddfc8_34 I)) (lv' := [(0, .inr (.inr (some 740))), (1, .inl _), (2, .inl _)]) (And.intro rfl (And.intro rfl (And.intro rfl True.intro))) ⟨_, _, rfl, rfl, by omega, rfl⟩ (by omega)
      · intro c10
        refine And.intro (True.intro) ?_
        exact ⟨_, rfl, by omega⟩
    · intro c11
      refine And.intro (True.intro) ?_
      exact ⟨_, rfl, by omega⟩
theorem ct_Tape_isDigit_a19bc {I : fH} {x0 : Int} (h0 : fB bsJ I) (ha0 : (0 ≤ x0 ∧ x0 ≤ 255)) : fC ρ base n F xTc vwCl xTys D dA la gJ (fbz bsJ znJ (fKc []) I) xm_116 [.inl x0] I (fun _ r => ∃ z, r = some (.inl z) ∧ ((z = 1 ∧ 48 ≤ x0 ∧ x0 ≤ 57) ∨ z = 0)) := sorry
theorem ct_Tape_keyBetween_0cd50 {I : fH} {x1 : Int} {x2 : Int} (h0 : fB bsJ I) (ha1 : 0 ≤ x1 ∧ x1 ≤ 96) (ha2 : 0 ≤ x2 ∧ x2 ≤ 96) : fC ρ base n F xTc vwCl xTys D dA la gJ (fbz bsJ znJ (fKc []) I) xm_117 [.inr (.inr (some 699)), .inl x1, .inl x2] I (fun _ r => ∃ z, r = some (.inl z) ∧ ((0 ≤ z ∧ z ≤ 5) ∨ z = (-1000000005))) := sorry
theorem ct_Tape_strengthOf_dd2b6 {I : fH} {x0 : Int} (h0 : fB bsJ I) (ha0 : ((-2147483648) ≤ x0 ∧ x0 ≤ 2147483647)) : fC ρ base n F xTc vwCl xTys D dA la gJ (fbz bsJ znJ (fKc []) I) xm_130 [.inl x0] I (fun _ r => ∃ z, r = some (.inl z) ∧ (0 ≤ z ∧ z ≤ 5)) := sorry
theorem ct_Tape_strengthWaiting_0ab9a {I : fH} {x0 : Int} (h0 : fB bsJ I) (ha0 : ((-2147483648) ≤ x0 ∧ x0 ≤ 2147483647)) : fC ρ base n F xTc vwCl xTys D dA la gJ (fbz bsJ znJ (fKc []) I) xm_129 [.inl x0] I (fun _ r => ∃ z, r = some (.inl z) ∧ (0 ≤ z ∧ z ≤ 6)) := sorry
theorem ct_Tape_emit_d6314 {I : fH} {x1 : Int} (h0 : fB bsJ I) (ha1 : ((-2147483648) ≤ x1 ∧ x1 ≤ 2147483647)) : fC ρ base n F xTc vwCl xTys D dA la gJ (fbz bsJ znJ (fKc wz_a3f2e) I) xm_123 [.inr (.inr (some 699)), .inl x1] I (fun _ r => ∃ z, r = some (.inl z) ∧ (0 ≤ z ∧ z ≤ 1)) := sorry
abbrev jc_Tape_settle_fab00_0 : Nat → fL → List fV → fH → Prop := fun m lv st I => ∃ (y1 : Int), lv = [(0, .inr (.inr (some 699))), (1, .inl y1)] ∧ st = [] ∧ (((0 ≤ y1 ∧ y1 ≤ 6))) ∧ m = (1 + 1 * I 699 7 : Int).toNat
set_option maxRecDepth 8000 in
theorem ct_Tape_settle_fab00 {I : fH} {x1 : Int} (h0 : fB bsJ I) (ha1 : (0 ≤ x1 ∧ x1 ≤ 6)) : fC ρ base n F xTc vwCl xTys D dA la gJ (fbz bsJ znJ (fKc wz_0c5eb) I) xm_128 [.inr (.inr (some 699)), .inl x1] I (fun _ r => r = none) := by
  have hW : fzs wz_0c5eb (fKc wz_0c5eb) := fKc_ok _
  refine f_meth (rb := rbJ) (J := [(0, jc_Tape_settle_fab00_0)]) 98 400 xG xin_128 x6_128 okJ (fB_self h0) ?_ ?_
  · refine List.forall_mem_cons.mpr ⟨?_, fun q h => absurd h List.not_mem_nil⟩
    · rintro m _ _ I1 hB1 ⟨y1, rfl, rfl, hb, hm⟩
      refine And.intro ⟨rfl, by decide, by decide⟩ (fgetf fb_699_7 h0 hB1 ?_)
      intro z1 lz1 uz1 qz1
      refine And.intro (by omega) (And.intro ?_ ?_)
      · intro c2
        exact rfl
      · intro c3
        refine And.intro ⟨rfl, by decide, by decide⟩ ?_
        refine And.intro ⟨rfl, by decide, by decide⟩ (fgetf fb_699_7 h0 hB1 ?_)
        intro z4 lz4 uz4 qz4
        refine fload rL_702_702_0_95_1_0 h0 hB1 (by omega) ?_
        intro z5 lz5 uz5 qz5
        refine Exists.intro xm_129 (And.intro mi_129 (And.intro ⟨rfl, rfl, rfl, rfl⟩ (And.intro True.intro ?_)))
        refine fcallp hB1 (ct_Tape_strengthWaiting_0ab9a (fBz h0 hB1) (by omega)) ?_
        rintro _ ⟨z6, rfl, hz6⟩
        refine And.intro (by omega) (And.intro ?_ ?_)
        · intro c7
          exact rfl
        · intro c8
          refine And.intro ⟨rfl, by decide, by decide⟩ (fgetf fb_699_7 h0 hB1 ?_)
          intro z9 lz9 uz9 qz9
          refine And.intro ⟨rfl, by decide, by decide⟩ (And.intro rfl (And.intro (Or.inl rfl) (fputf fb_699_7 (by decide +kernel) hW (by omega) ?_)))
          intro IhB10 ehB10 hB10
          have t11 := fup_at ehB10 7 (by omega)
          refine And.intro ⟨rfl, by decide, by decide⟩ ?_
          refine And.intro ⟨rfl, by decide, by decide⟩ (fgetf fb_699_7 h0 hB10 ?_)
          intro z12 lz12 uz12 qz12
          refine fload rL_702_702_0_95_1_0 h0 hB10 (by omega) ?_
          intro z13 lz13 uz13 qz13
          refine And.intro (by omega) (And.intro ?_ ?_)
          · intro c14
            refine And.intro ⟨rfl, by decide, by decide⟩ ?_
            refine And.intro ⟨rfl, by decide, by decide⟩ (fgetf fb_699_7 h0 hB10 ?_)
            intro z15 lz15 uz15 qz15
            refine fload rL_702_702_0_95_1_0 h0 hB10 (by omega) ?_
            intro z16 lz16 uz16 qz16
            intro z17 hz17 ez17 bz17
            clear ez17
            clear bz17
            refine Exists.intro xm_123 (And.intro mi_123 (And.intro ⟨rfl, rfl, rfl, rfl⟩ (And.intro rfl ?_)))
            refine fcall _ h0 (fzs_sub (by decide +kernel) hW) hB10 (ct_Tape_emit_d6314 (fBz h0 hB10) (by omega)) ?_
            rintro IhB19 _ hB19 fhB19 ⟨z18, rfl, hz18⟩
            have t20 := fhB19 699 7 (by decide +kernel)
            exact fcutJ (I := IhB19) (j := jc_Tape_settle_fab00_0) (lv' := [(0, .inr (.inr (some 699))), (1, .inl _)]) (And.intro rfl (And.intro rfl True.intro)) ⟨_, rfl, rfl, by omega, rfl⟩ (by omega)
          · intro c21
            refine And.intro ⟨rfl, by decide, by decide⟩ (fgetf fb_699_9 h0 hB10 ?_)
            intro z22 lz22 uz22 qz22
            intro z23 hz23 ez23 bz23
            clear ez23
            clear bz23
            refine And.intro ⟨rfl, by decide, by decide⟩ (And.intro rfl (And.intro (Or.inl rfl) (fputf fb_699_9 (by decide +kernel) hW (by omega) ?_)))
            intro IhB24 ehB24 hB24
            have t25 : IhB24 699 7 = IhB10 699 7 := (congrFun (congrFun ehB24 699) 7).trans (fup_ne (by omega))
            refine And.intro ⟨rfl, by decide, by decide⟩ ?_
            refine And.intro ⟨rfl, by decide, by decide⟩ (fgetf fb_699_7 h0 hB24 ?_)
            intro z26 lz26 uz26 qz26
            refine fload rL_702_702_0_95_1_0 h0 hB24 (by omega) ?_
            intro z27 lz27 uz27 qz27
            intro z28 hz28 ez28 bz28
            clear ez28
            clear bz28
            refine Exists.intro xm_123 (And.intro mi_123 (And.intro ⟨rfl, rfl, rfl, rfl⟩ (And.intro rfl ?_)))
            refine fcall _ h0 (fzs_sub (by decide +kernel) hW) hB24 (ct_Tape_emit_d6314 (fBz h0 hB24) (by omega)) ?_
            rintro IhB30 _ hB30 fhB30 ⟨z29, rfl, hz29⟩
            have t31 := fhB30 699 7 (by decide +kernel)
            exact fcutJ (I := IhB30) (j := jc_Tape_settle_fab00_0) (lv' := [(0, .inr (.inr (some 699))), (1, .inl _)]) (And.intro rfl (And.intro rfl True.intro)) ⟨_, rfl, rfl, by omega, rfl⟩ (by omega)
  · have hB0 := fB_self (zn := znJ) (K := fKc wz_0c5eb) h0
    refine And.intro ⟨rfl, by decide, by decide⟩ (fgetf fb_699_7 h0 hB0 ?_)
    intro z32 lz32 uz32 qz32
    refine And.intro (by omega) (And.intro ?_ ?_)
    · intro c33
      exact rfl
    · intro c34
      refine And.intro ⟨rfl, by decide, by decide⟩ ?_
      refine And.intro ⟨rfl, by decide, by decide⟩ (fgetf fb_699_7 h0 hB0 ?_)
      intro z35 lz35 uz35 qz35
      refine fload rL_702_702_0_95_1_0 h0 hB0 (by omega) ?_
      intro z36 lz36 uz36 qz36
      refine Exists.intro xm_129 (And.intro mi_129 (And.intro ⟨rfl, rfl, rfl, rfl⟩ (And.intro True.intro ?_)))
      refine fcallp hB0 (ct_Tape_strengthWaiting_0ab9a (fBz h0 hB0) (by omega)) ?_
      rintro _ ⟨z37, rfl, hz37⟩
      refine And.intro (by omega) (And.intro ?_ ?_)
      · intro c38
        exact rfl
      · intro c39
        refine And.intro ⟨rfl, by decide, by decide⟩ (fgetf fb_699_7 h0 hB0 ?_)
        intro z40 lz40 uz40 qz40
        refine And.intro ⟨rfl, by decide, by decide⟩ (And.intro rfl (And.intro (Or.inl rfl) (fputf fb_699_7 (by decide +kernel) hW (by omega) ?_)))
        intro IhB41 ehB41 hB41
        have t42 := fup_at ehB41 7 (by omega)
        refine And.intro ⟨rfl, by decide, by decide⟩ ?_
        refine And.intro ⟨rfl, by decide, by decide⟩ (fgetf fb_699_7 h0 hB41 ?_)
        intro z43 lz43 uz43 qz43
        refine fload rL_702_702_0_95_1_0 h0 hB41 (by omega) ?_
        intro z44 lz44 uz44 qz44
        refine And.intro (by omega) (And.intro ?_ ?_)
        · intro c45
          refine And.intro ⟨rfl, by decide, by decide⟩ ?_
          refine And.intro ⟨rfl, by decide, by decide⟩ (fgetf fb_699_7 h0 hB41 ?_)
          intro z46 lz46 uz46 qz46
          refine fload rL_702_702_0_95_1_0 h0 hB41 (by omega) ?_
          intro z47 lz47 uz47 qz47
          intro z48 hz48 ez48 bz48
          clear ez48
          clear bz48
          refine Exists.intro xm_123 (And.intro mi_123 (And.intro ⟨rfl, rfl, rfl, rfl⟩ (And.intro rfl ?_)))
          refine fcall _ h0 (fzs_sub (by decide +kernel) hW) hB41 (ct_Tape_emit_d6314 (fBz h0 hB41) (by omega)) ?_
          rintro IhB50 _ hB50 fhB50 ⟨z49, rfl, hz49⟩
          have t51 := fhB50 699 7 (by decide +kernel)
          exact fcutJ (I := IhB50) (j := jc_Tape_settle_fab00_0) (lv' := [(0, .inr (.inr (some 699))), (1, .inl _)]) (And.intro rfl (And.intro rfl True.intro)) ⟨_, rfl, rfl, by omega, rfl⟩ (by omega)
        · intro c52
          refine And.intro ⟨rfl, by decide, by decide⟩ (fgetf fb_699_9 h0 hB41 ?_)
          intro z53 lz53 uz53 qz53
          intro z54 hz54 ez54 bz54
          clear ez54
          clear bz54
          refine And.intro ⟨rfl, by decide, by decide⟩ (And.intro rfl (And.intro (Or.inl rfl) (fputf fb_699_9 (by decide +kernel) hW (by omega) ?_)))
          intro IhB55 ehB55 hB55
          have t56 : IhB55 699 7 = IhB41 699 7 := (congrFun (congrFun ehB55 699) 7).trans (fup_ne (by omega))
          refine And.intro ⟨rfl, by decide, by decide⟩ ?_
          refine And.intro ⟨rfl, by decide, by decide⟩ (fgetf fb_699_7 h0 hB55 ?_)
          intro z57 lz57 uz57 qz57
          refine fload rL_702_702_0_95_1_0 h0 hB55 (by omega) ?_
          intro z58 lz58 uz58 qz58
          intro z59 hz59 ez59 bz59
          clear ez59
          clear bz59
          refine Exists.intro xm_123 (And.intro mi_123 (And.intro ⟨rfl, rfl, rfl, rfl⟩ (And.intro rfl ?_)))
          refine fcall _ h0 (fzs_sub (by decide +kernel) hW) hB55 (ct_Tape_emit_d6314 (fBz h0 hB55) (by omega)) ?_
          rintro IhB61 _ hB61 fhB61 ⟨z60, rfl, hz60⟩
          have t62 := fhB61 699 7 (by decide +kernel)
          exact fcutJ (I := IhB61) (j := jc_Tape_settle_fab00_0) (lv' := [(0, .inr (.inr (some 699))), (1, .inl _)]) (And.intro rfl (And.intro rfl True.intro)) ⟨_, rfl, rfl, by omega, rfl⟩ (by omega)
theorem ct_Tape_push_d8da9 {I : fH} {x1 : Int} (h0 : fB bsJ I) (ha1 : (0 ≤ x1 ∧ x1 ≤ 255)) : fC ρ base n F xTc vwCl xTys D dA la gJ (fbz bsJ znJ (fKc wz_4372f) I) xm_125 [.inr (.inr (some 699)), .inl x1] I (fun _ r => ∃ z, r = some (.inl z) ∧ (0 ≤ z ∧ z ≤ 1)) := sorry
set_option maxRecDepth 8000 in
theorem ct_Tape_close_9696d {I : fH}  (h0 : fB bsJ I)  : fC ρ base n F xTc vwCl xTys D dA la gJ (fbz bsJ znJ (fKc wz_b7a7b) I) xm_127 [.inr (.inr (some 699))] I (fun _ r => ∃ z, r = some (.inl z) ∧ (1 ≤ z ∧ z ≤ 1)) := by
  have hW : fzs wz_b7a7b (fKc wz_b7a7b) := fKc_ok _
  refine f_meth (rb := rbJ) (J := []) 1 400 xG xin_127 x6_127 okJ (fB_self h0) ?_ ?_
  · exact fun q h => absurd h List.not_mem_nil
  · have hB0 := fB_self (zn := znJ) (K := fKc wz_b7a7b) h0
    refine Exists.intro xm_128 (And.intro mi_128 (And.intro ⟨rfl, rfl, rfl, rfl⟩ (And.intro rfl ?_)))
    refine fcall _ h0 (fzs_sub (by decide +kernel) hW) hB0 (ct_Tape_settle_fab00 (fBz h0 hB0) (by omega)) ?_
    rintro IhB2 _ hB2 fhB2 rfl
    refine And.intro ⟨rfl, by decide, by decide⟩ (fgetf fb_699_7 h0 hB2 ?_)
    intro z3 lz3 uz3 qz3
    refine And.intro (by omega) (And.intro ?_ ?_)
    · intro c4
      refine And.intro ⟨rfl, by decide, by decide⟩ (fgetf fb_699_8 h0 hB2 ?_)
      intro z5 lz5 uz5 qz5
      intro z6 hz6 ez6 bz6
      clear ez6
      clear bz6
      refine And.intro ⟨rfl, by decide, by decide⟩ (And.intro rfl (And.intro (Or.inl rfl) (fputf fb_699_8 (by decide +kernel) hW (by omega) ?_)))
      intro IhB7 ehB7 hB7
      have t8 : IhB7 699 7 = IhB2 699 7 := (congrFun (congrFun ehB7 699) 7).trans (fup_ne (by omega))
      have t9 := fup_at ehB7 8 (by omega)
      refine And.intro (⟨by omega, by omega⟩) ?_
      exact ⟨_, rfl, by omega⟩
    · intro c10
      refine And.intro ⟨rfl, by decide, by decide⟩ (fgetf fb_699_7 h0 hB2 ?_)
      intro z11 lz11 uz11 qz11
      refine And.intro ⟨rfl, by decide, by decide⟩ (And.intro rfl (And.intro (Or.inl rfl) (fputf fb_699_7 (by decide +kernel) hW (by omega) ?_)))
      intro IhB12 ehB12 hB12
      have t13 := fup_at ehB12 7 (by omega)
      refine And.intro ⟨rfl, by decide, by decide⟩ (fgetf fb_699_8 h0 hB12 ?_)
      intro z14 lz14 uz14 qz14
      intro z15 hz15 ez15 bz15
      clear ez15
      clear bz15
      refine And.intro ⟨rfl, by decide, by decide⟩ (And.intro rfl (And.intro (Or.inl rfl) (fputf fb_699_8 (by decide +kernel) hW (by omega) ?_)))
      intro IhB16 ehB16 hB16
      have t17 : IhB16 699 7 = IhB12 699 7 := (congrFun (congrFun ehB16 699) 7).trans (fup_ne (by omega))
      have t18 := fup_at ehB16 8 (by omega)
      refine And.intro (⟨by omega, by omega⟩) ?_
      exact ⟨_, rfl, by omega⟩
end CT

set_option linter.all false
/-! contracts (written by gen95.py) -/
abbrev wz_d066b : List Nat := [12208, 12209, 12210, 12211, 12212, 12213, 12214, 12215, 12216, 12217, 12218, 20605, 20840]
theorem x6_313 : f60c xTc xTys xm_313 = true := by decide +kernel
abbrev wz_c5e7d : List Nat := [12208, 12209, 12210, 12211, 12212, 12213, 12214, 12215, 12216, 12217, 12218, 20009, 20600, 20601, 20602, 20603, 20604, 20605, 20840]
theorem x6_312 : f60c xTc xTys xm_312 = true := by decide +kernel
theorem rS_741_741_1210_3410_200_0 : frS gJ bsJ znJ [20600] 100 ((741, 741), (1210, 3410), (200, 0), ((-2147483648), 2147483647)) := frS_of (by decide +kernel)
theorem rS_741_741_1211_3411_200_0 : frS gJ bsJ znJ [20601] 100 ((741, 741), (1211, 3411), (200, 0), ((-2147483648), 2147483647)) := frS_of (by decide +kernel)
theorem rS_741_741_1212_3412_200_0 : frS gJ bsJ znJ [20602] 100 ((741, 741), (1212, 3412), (200, 0), ((-2147483648), 2147483647)) := frS_of (by decide +kernel)
theorem rS_741_741_1213_3413_200_0 : frS gJ bsJ znJ [20603] 100 ((741, 741), (1213, 3413), (200, 0), ((-2147483648), 2147483647)) := frS_of (by decide +kernel)
theorem rS_741_741_1214_3414_200_0 : frS gJ bsJ znJ [20604] 100 ((741, 741), (1214, 3414), (200, 0), ((-2147483648), 2147483647)) := frS_of (by decide +kernel)
theorem rS_741_741_9_9_1_0 : frS gJ bsJ znJ [20009] 100 ((741, 741), (9, 9), (1, 0), (0, 12)) := frS_of (by decide +kernel)
theorem x6_133 : f60c xTc xTys xm_133 = true := by decide +kernel
theorem x6_132 : f60c xTc xTys xm_132 = true := by decide +kernel
theorem rL_191_191_0_11_1_0 : frL gJ bsJ 100 ((191, 191), (0, 11), (1, 0), ((-2147483648), 2147483647)) := frL_hull (by decide) (by decide +kernel)
theorem x6_425 : f60c xTc xTys xm_425 = true := by decide +kernel
theorem x6_424 : f60c xTc xTys xm_424 = true := by decide +kernel
theorem rL_741_741_1210_3413_200_3 : frL gJ bsJ 100 ((741, 741), (1210, 3413), (200, 3), ((-2147483648), 2147483647)) := frL_hull (by decide) (by decide +kernel)
abbrev wz_60872 : List Nat := [206]
theorem rS_206_206_0_23_1_0 : frS gJ bsJ znJ [206] 100 ((206, 206), (0, 23), (1, 0), ((-2147483648), 2147483647)) := frS_dflt (by decide) (by decide +kernel)
abbrev wz_0f088 : List Nat := [206, 10507, 10508]
theorem x6_135 : f60c xTc xTys xm_135 = true := by decide +kernel
theorem fb_187_7 : bsJ 187 7 = ((-2147483648), 2147483647) := by decide +kernel
theorem fb_187_8 : bsJ 187 8 = (0, 1) := by decide +kernel
theorem x6_134 : f60c xTc xTys xm_134 = true := by decide +kernel
abbrev wz_8c264 : List Nat := [20014, 20015, 20016, 20404]
theorem x6_426 : f60c xTc xTys xm_426 = true := by decide +kernel
theorem rL_741_741_14_14_1_0 : frL gJ bsJ 100 ((741, 741), (14, 14), (1, 0), ((-1), 11)) := frL_of (by decide +kernel)
theorem rS_741_741_14_14_1_0 : frS gJ bsJ znJ [20014] 100 ((741, 741), (14, 14), (1, 0), ((-1), 11)) := frS_of (by decide +kernel)
theorem rS_741_741_15_15_1_0 : frS gJ bsJ znJ [20015] 100 ((741, 741), (15, 15), (1, 0), ((-2147483648), 2147483647)) := frS_of (by decide +kernel)
theorem rS_741_741_16_16_1_0 : frS gJ bsJ znJ [20016] 100 ((741, 741), (16, 16), (1, 0), ((-2147483648), 2147483647)) := frS_of (by decide +kernel)
theorem x6_138 : f60c xTc xTys xm_138 = true := by decide +kernel
theorem rL_206_206_0_23_1_0 : frL gJ bsJ 100 ((206, 206), (0, 23), (1, 0), ((-2147483648), 2147483647)) := frL_hull (by decide) (by decide +kernel)
theorem x6_137 : f60c xTc xTys xm_137 = true := by decide +kernel
abbrev wz_60f7b : List Nat := [206, 207, 208]
theorem x6_136 : f60c xTc xTys xm_136 = true := by decide +kernel
theorem x6_428 : f60c xTc xTys xm_428 = true := by decide +kernel
abbrev wz_d8820 : List Nat := [748, 749, 20015, 20016, 20404]
theorem x6_427 : f60c xTc xTys xm_427 = true := by decide +kernel
theorem rL_741_741_874_1012_6_0 : frL gJ bsJ 100 ((741, 741), (874, 1012), (6, 0), ((-2147483648), 2147483647)) := frL_hull (by decide) (by decide +kernel)
theorem rL_741_741_15_16_1_0 : frL gJ bsJ 100 ((741, 741), (15, 16), (1, 0), ((-2147483648), 2147483647)) := frL_hull (by decide) (by decide +kernel)
theorem rS_741_741_15_16_1_0 : frS gJ bsJ znJ [20015, 20016] 100 ((741, 741), (15, 16), (1, 0), ((-2147483648), 2147483647)) := frS_of (by decide +kernel)
theorem rL_741_741_16_16_1_0 : frL gJ bsJ 100 ((741, 741), (16, 16), (1, 0), ((-2147483648), 2147483647)) := frL_hull (by decide) (by decide +kernel)
theorem rL_741_741_15_15_1_0 : frL gJ bsJ 100 ((741, 741), (15, 15), (1, 0), ((-2147483648), 2147483647)) := frL_hull (by decide) (by decide +kernel)
abbrev wz_9fced : List Nat := [189, 190, 10507]
theorem x6_142 : f60c xTc xTys xm_142 = true := by decide +kernel
theorem x6_141 : f60c xTc xTys xm_141 = true := by decide +kernel
theorem x6_140 : f60c xTc xTys xm_140 = true := by decide +kernel
abbrev wz_e2fc1 : List Nat := [189, 190, 207, 208, 10507]
theorem x6_139 : f60c xTc xTys xm_139 = true := by decide +kernel
abbrev wz_73731 : List Nat := [748, 749, 20014, 20601, 20602]
theorem x6_429 : f60c xTc xTys xm_429 = true := by decide +kernel
theorem rS_741_741_1211_3412_200_1 : frS gJ bsJ znJ [20601, 20602] 100 ((741, 741), (1211, 3412), (200, 1), ((-2147483648), 2147483647)) := frS_of (by decide +kernel)
theorem x6_143 : f60c xTc xTys xm_143 = true := by decide +kernel
section CT
variable {ρ : Nat → Int32} {base n : Nat} {F : Nat → Prop} {D : va_G} {dA : Nat → ClassId} {la : Launch}
set_option maxHeartbeats 6000000 in
set_option maxRecDepth 8000 in
theorem ct_M_parse_ea878 {I : fH}  (h0 : fB bsJ I)  : fC ρ base n F xTc vwCl xTys D dA la gJ (fbz bsJ znJ (fKc wz_d066b) I) xm_313 [.inr (.inr (some 740))] I (fun I' r => ∃ z, r = some (.inl z) ∧ (((-1) ≤ z ∧ z ≤ 5) ∧ (I' 740 8 = 0)) ∧ ((I 741 9 < 12 → sBe I I' (1215 + 200 * I 741 9) 0) ∧ (12 ≤ I 741 9 → sBe I I' 4700 0)) ∧ (0 ≤ z → I 741 9 < 12 → sOne I' (1215 + 200 * I 741 9) 0 (I' 740 16)) ∧ ((0 ≤ z ∧ cpX (I 747) (I 740 8) (-1000000005) (sd I') (I' 740 18) z) ∨ (z = -1 ∧ ∃ kk, cpX (I 747) (I 740 8) (I' 740 9) [] 0 kk)) ∧ (I 741 9 < 12 → I' 740 17 = 1215 + 200 * I 741 9) ∧ (0 ≤ z → I' 740 16 ≤ 96) ∧ (mR I' = mR I)) := by
  have hW : fzs wz_d066b (fKc wz_d066b) := fKc_ok _
  refine f_meth (rb := rbJ) (J := []) 1 400 xG xin_313 x6_313 okJ (fB_self h0) ?_ ?_
  · exact fun q h => absurd h List.not_mem_nil
  · have hB0 := fB_self (zn := znJ) (K := fKc wz_d066b) h0
    have b1 := fBd fb_740_8 (fBz h0 hB0)
    have b2 := fBd fb_741_9 (fBz h0 hB0)
    refine And.intro ⟨rfl, by decide, by decide⟩ (And.intro rfl (And.intro (Or.inl rfl) (fputf fb_740_10 (by decide +kernel) hW (by first | exact ⟨by decide, by decide⟩ | omega) ?_)))
    intro IhB3 ehB3 hB3
    have t4 : IhB3 740 8 = I 740 8 := (congrFun (congrFun ehB3 740) 8).trans (fup_ne (by first | decide | omega))
    have t5 : IhB3 740 9 = I 740 9 := (congrFun (congrFun ehB3 740) 9).trans (fup_ne (by first | decide | omega))
    have t6 := fup_at ehB3 10 (by first | rfl | omega)
    have t7 : IhB3 740 11 = I 740 11 := (congrFun (congrFun ehB3 740) 11).trans (fup_ne (by first | decide | omega))
    have t8 : IhB3 740 12 = I 740 12 := (congrFun (congrFun ehB3 740) 12).trans (fup_ne (by first | decide | omega))
    have t9 : IhB3 740 13 = I 740 13 := (congrFun (congrFun ehB3 740) 13).trans (fup_ne (by first | decide | omega))
    have t10 : IhB3 740 14 = I 740 14 := (congrFun (congrFun ehB3 740) 14).trans (fup_ne (by first | decide | omega))
    have t11 : IhB3 740 15 = I 740 15 := (congrFun (congrFun ehB3 740) 15).trans (fup_ne (by first | decide | omega))
    have t12 : IhB3 740 16 = I 740 16 := (congrFun (congrFun ehB3 740) 16).trans (fup_ne (by first | decide | omega))
    have t13 : IhB3 740 17 = I 740 17 := (congrFun (congrFun ehB3 740) 17).trans (fup_ne (by first | decide | omega))
    have t14 : IhB3 740 18 = I 740 18 := (congrFun (congrFun ehB3 740) 18).trans (fup_ne (by first | decide | omega))
    have t15 : IhB3 741 9 = I 741 9 := (congrFun (congrFun ehB3 741) 9).trans (fup_ne (by first | decide | omega))
    have k16 := fBz_eq hB3 (a := 741) (j := 9) (by decide +kernel)
    refine And.intro ⟨rfl, by decide, by decide⟩ (And.intro rfl (And.intro (Or.inl rfl) (fputf fb_740_11 (by decide +kernel) hW (by first | exact ⟨by decide, by decide⟩ | omega) ?_)))
    intro IhB17 ehB17 hB17
    have t18 : IhB17 740 8 = IhB3 740 8 := (congrFun (congrFun ehB17 740) 8).trans (fup_ne (by first | decide | omega))
    have t19 : IhB17 740 9 = IhB3 740 9 := (congrFun (congrFun ehB17 740) 9).trans (fup_ne (by first | decide | omega))
    have t20 : IhB17 740 10 = IhB3 740 10 := (congrFun (congrFun ehB17 740) 10).trans (fup_ne (by first | decide | omega))
    have t21 := fup_at ehB17 11 (by first | rfl | omega)
    have t22 : IhB17 740 12 = IhB3 740 12 := (congrFun (congrFun ehB17 740) 12).trans (fup_ne (by first | decide | omega))
    have t23 : IhB17 740 13 = IhB3 740 13 := (congrFun (congrFun ehB17 740) 13).trans (fup_ne (by first | decide | omega))
    have t24 : IhB17 740 14 = IhB3 740 14 := (congrFun (congrFun ehB17 740) 14).trans (fup_ne (by first | decide | omega))
    have t25 : IhB17 740 15 = IhB3 740 15 := (congrFun (congrFun ehB17 740) 15).trans (fup_ne (by first | decide | omega))
    have t26 : IhB17 740 16 = IhB3 740 16 := (congrFun (congrFun ehB17 740) 16).trans (fup_ne (by first | decide | omega))
    have t27 : IhB17 740 17 = IhB3 740 17 := (congrFun (congrFun ehB17 740) 17).trans (fup_ne (by first | decide | omega))
    have t28 : IhB17 740 18 = IhB3 740 18 := (congrFun (congrFun ehB17 740) 18).trans (fup_ne (by first | decide | omega))
    have t29 : IhB17 741 9 = IhB3 741 9 := (congrFun (congrFun ehB17 741) 9).trans (fup_ne (by first | decide | omega))
    have k30 := fBz_eq hB17 (a := 741) (j := 9) (by decide +kernel)
    refine And.intro ⟨rfl, by decide, by decide⟩ (And.intro rfl (And.intro (Or.inl rfl) (fputf fb_740_14 (by decide +kernel) hW (by first | exact ⟨by decide, by decide⟩ | omega) ?_)))
    intro IhB31 ehB31 hB31
    have t32 : IhB31 740 8 = IhB17 740 8 := (congrFun (congrFun ehB31 740) 8).trans (fup_ne (by first | decide | omega))
    have t33 : IhB31 740 9 = IhB17 740 9 := (congrFun (congrFun ehB31 740) 9).trans (fup_ne (by first | decide | omega))
    have t34 : IhB31 740 10 = IhB17 740 10 := (congrFun (congrFun ehB31 740) 10).trans (fup_ne (by first | decide | omega))
    have t35 : IhB31 740 11 = IhB17 740 11 := (congrFun (congrFun ehB31 740) 11).trans (fup_ne (by first | decide | omega))
    have t36 : IhB31 740 12 = IhB17 740 12 := (congrFun (congrFun ehB31 740) 12).trans (fup_ne (by first | decide | omega))
    have t37 : IhB31 740 13 = IhB17 740 13 := (congrFun (congrFun ehB31 740) 13).trans (fup_ne (by first | decide | omega))
    have t38 := fup_at ehB31 14 (by first | rfl | omega)
    have t39 : IhB31 740 15 = IhB17 740 15 := (congrFun (congrFun ehB31 740) 15).trans (fup_ne (by first | decide | omega))
    have t40 : IhB31 740 16 = IhB17 740 16 := (congrFun (congrFun ehB31 740) 16).trans (fup_ne (by first | decide | omega))
    have t41 : IhB31 740 17 = IhB17 740 17 := (congrFun (congrFun ehB31 740) 17).trans (fup_ne (by first | decide | omega))
    have t42 : IhB31 740 18 = IhB17 740 18 := (congrFun (congrFun ehB31 740) 18).trans (fup_ne (by first | decide | omega))
    have t43 : IhB31 741 9 = IhB17 741 9 := (congrFun (congrFun ehB31 741) 9).trans (fup_ne (by first | decide | omega))
    have k44 := fBz_eq hB31 (a := 741) (j := 9) (by decide +kernel)
    refine And.intro ⟨rfl, by decide, by decide⟩ (And.intro rfl (And.intro (Or.inl rfl) (fputf fb_740_15 (by decide +kernel) hW (by first | exact ⟨by decide, by decide⟩ | omega) ?_)))
    intro IhB45 ehB45 hB45
    have t46 : IhB45 740 8 = IhB31 740 8 := (congrFun (congrFun ehB45 740) 8).trans (fup_ne (by first | decide | omega))
    have t47 : IhB45 740 9 = IhB31 740 9 := (congrFun (congrFun ehB45 740) 9).trans (fup_ne (by first | decide | omega))
    have t48 : IhB45 740 10 = IhB31 740 10 := (congrFun (congrFun ehB45 740) 10).trans (fup_ne (by first | decide | omega))
    have t49 : IhB45 740 11 = IhB31 740 11 := (congrFun (congrFun ehB45 740) 11).trans (fup_ne (by first | decide | omega))
    have t50 : IhB45 740 12 = IhB31 740 12 := (congrFun (congrFun ehB45 740) 12).trans (fup_ne (by first | decide | omega))
    have t51 : IhB45 740 13 = IhB31 740 13 := (congrFun (congrFun ehB45 740) 13).trans (fup_ne (by first | decide | omega))
    have t52 : IhB45 740 14 = IhB31 740 14 := (congrFun (congrFun ehB45 740) 14).trans (fup_ne (by first | decide | omega))
    have t53 := fup_at ehB45 15 (by first | rfl | omega)
    have t54 : IhB45 740 16 = IhB31 740 16 := (congrFun (congrFun ehB45 740) 16).trans (fup_ne (by first | decide | omega))
    have t55 : IhB45 740 17 = IhB31 740 17 := (congrFun (congrFun ehB45 740) 17).trans (fup_ne (by first | decide | omega))
    have t56 : IhB45 740 18 = IhB31 740 18 := (congrFun (congrFun ehB45 740) 18).trans (fup_ne (by first | decide | omega))
    have t57 : IhB45 741 9 = IhB31 741 9 := (congrFun (congrFun ehB45 741) 9).trans (fup_ne (by first | decide | omega))
    have k58 := fBz_eq hB45 (a := 741) (j := 9) (by decide +kernel)
    refine And.intro ⟨rfl, by decide, by decide⟩ (And.intro rfl (And.intro (Or.inl rfl) (fputf fb_740_16 (by decide +kernel) hW (by first | exact ⟨by decide, by decide⟩ | omega) ?_)))
    intro IhB59 ehB59 hB59
    have t60 : IhB59 740 8 = IhB45 740 8 := (congrFun (congrFun ehB59 740) 8).trans (fup_ne (by first | decide | omega))
    have t61 : IhB59 740 9 = IhB45 740 9 := (congrFun (congrFun ehB59 740) 9).trans (fup_ne (by first | decide | omega))
    have t62 : IhB59 740 10 = IhB45 740 10 := (congrFun (congrFun ehB59 740) 10).trans (fup_ne (by first | decide | omega))
    have t63 : IhB59 740 11 = IhB45 740 11 := (congrFun (congrFun ehB59 740) 11).trans (fup_ne (by first | decide | omega))
    have t64 : IhB59 740 12 = IhB45 740 12 := (congrFun (congrFun ehB59 740) 12).trans (fup_ne (by first | decide | omega))
    have t65 : IhB59 740 13 = IhB45 740 13 := (congrFun (congrFun ehB59 740) 13).trans (fup_ne (by first | decide | omega))
    have t66 : IhB59 740 14 = IhB45 740 14 := (congrFun (congrFun ehB59 740) 14).trans (fup_ne (by first | decide | omega))
    have t67 : IhB59 740 15 = IhB45 740 15 := (congrFun (congrFun ehB59 740) 15).trans (fup_ne (by first | decide | omega))
    have t68 := fup_at ehB59 16 (by first | rfl | omega)
    have t69 : IhB59 740 17 = IhB45 740 17 := (congrFun (congrFun ehB59 740) 17).trans (fup_ne (by first | decide | omega))
    have t70 : IhB59 740 18 = IhB45 740 18 := (congrFun (congrFun ehB59 740) 18).trans (fup_ne (by first | decide | omega))
    have t71 : IhB59 741 9 = IhB45 741 9 := (congrFun (congrFun ehB59 741) 9).trans (fup_ne (by first | decide | omega))
    have k72 := fBz_eq hB59 (a := 741) (j := 9) (by decide +kernel)
    refine And.intro ⟨rfl, by decide, by decide⟩ (And.intro rfl (And.intro (Or.inl rfl) (fputf fb_740_18 (by decide +kernel) hW (by first | exact ⟨by decide, by decide⟩ | omega) ?_)))
    intro IhB73 ehB73 hB73
    have t74 : IhB73 740 8 = IhB59 740 8 := (congrFun (congrFun ehB73 740) 8).trans (fup_ne (by first | decide | omega))
    have t75 : IhB73 740 9 = IhB59 740 9 := (congrFun (congrFun ehB73 740) 9).trans (fup_ne (by first | decide | omega))
    have t76 : IhB73 740 10 = IhB59 740 10 := (congrFun (congrFun ehB73 740) 10).trans (fup_ne (by first | decide | omega))
    have t77 : IhB73 740 11 = IhB59 740 11 := (congrFun (congrFun ehB73 740) 11).trans (fup_ne (by first | decide | omega))
    have t78 : IhB73 740 12 = IhB59 740 12 := (congrFun (congrFun ehB73 740) 12).trans (fup_ne (by first | decide | omega))
    have t79 : IhB73 740 13 = IhB59 740 13 := (congrFun (congrFun ehB73 740) 13).trans (fup_ne (by first | decide | omega))
    have t80 : IhB73 740 14 = IhB59 740 14 := (congrFun (congrFun ehB73 740) 14).trans (fup_ne (by first | decide | omega))
    have t81 : IhB73 740 15 = IhB59 740 15 := (congrFun (congrFun ehB73 740) 15).trans (fup_ne (by first | decide | omega))
    have t82 : IhB73 740 16 = IhB59 740 16 := (congrFun (congrFun ehB73 740) 16).trans (fup_ne (by first | decide | omega))
    have t83 : IhB73 740 17 = IhB59 740 17 := (congrFun (congrFun ehB73 740) 17).trans (fup_ne (by first | decide | omega))
    have t84 := fup_at ehB73 18 (by first | rfl | omega)
    have t85 : IhB73 741 9 = IhB59 741 9 := (congrFun (congrFun ehB73 741) 9).trans (fup_ne (by first | decide | omega))
    have k86 := fBz_eq hB73 (a := 741) (j := 9) (by decide +kernel)
    refine And.intro ⟨rfl, by decide, by decide⟩ ?_
    refine fload1 rL_741_741_9_9_1_0 h0 hB73 ⟨by decide, by decide⟩ (by first | exact ⟨by decide, by decide⟩ | omega) ?_
    intro z87 lz87 uz87 qz87
    have pz87 := fld_at qz87 9 (by omega)
    refine And.intro (And.intro (by first | exact fi_ lz87 uz87 rfl | omega) (by first | exact ⟨by decide, by decide⟩ | omega)) (And.intro ?_ ?_)
    · intro c88
      refine And.intro ⟨rfl, by decide, by decide⟩ (And.intro rfl (And.intro (Or.inl rfl) (fputf fb_740_17 (by decide +kernel) hW (by omega) ?_)))
      intro IhB89 ehB89 hB89
      have t90 : IhB89 740 8 = IhB73 740 8 := (congrFun (congrFun ehB89 740) 8).trans (fup_ne (by first | decide | omega))
      have t91 : IhB89 740 9 = IhB73 740 9 := (congrFun (congrFun ehB89 740) 9).trans (fup_ne (by first | decide | omega))
      have t92 : IhB89 740 10 = IhB73 740 10 := (congrFun (congrFun ehB89 740) 10).trans (fup_ne (by first | decide | omega))
      have t93 : IhB89 740 11 = IhB73 740 11 := (congrFun (congrFun ehB89 740) 11).trans (fup_ne (by first | decide | omega))
      have t94 : IhB89 740 12 = IhB73 740 12 := (congrFun (congrFun ehB89 740) 12).trans (fup_ne (by first | decide | omega))
      have t95 : IhB89 740 13 = IhB73 740 13 := (congrFun (congrFun ehB89 740) 13).trans (fup_ne (by first | decide | omega))
      have t96 : IhB89 740 14 = IhB73 740 14 := (congrFun (congrFun ehB89 740) 14).trans (fup_ne (by first | decide | omega))
      have t97 : IhB89 740 15 = IhB73 740 15 := (congrFun (congrFun ehB89 740) 15).trans (fup_ne (by first | decide | omega))
      have t98 : IhB89 740 16 = IhB73 740 16 := (congrFun (congrFun ehB89 740) 16).trans (fup_ne (by first | decide | omega))
      have t99 := fup_at ehB89 17 (by first | rfl | omega)
      have t100 : IhB89 740 18 = IhB73 740 18 := (congrFun (congrFun ehB89 740) 18).trans (fup_ne (by first | decide | omega))
      have t101 : IhB89 741 9 = IhB73 741 9 := (congrFun (congrFun ehB89 741) 9).trans (fup_ne (by first | decide | omega))
      have k102 := fBz_eq hB89 (a := 741) (j := 9) (by decide +kernel)
      have s8 : IhB89 740 8 = I 740 8 := by omega
      have s10 : IhB89 740 10 = 0 := by omega
      have s11 : IhB89 740 11 = 3 := by omega
      have s14 : IhB89 740 14 = 0 := by omega
      have s15 : IhB89 740 15 = 0 := by omega
      have s16 : IhB89 740 16 = 0 := by omega
      have s18 : IhB89 740 18 = 0 := by omega
      have s9 : IhB89 741 9 = I 741 9 := by omega
      have s17 := fup_at ehB89 17 rfl
      clear t101 t100 t99 t98 t97 t96 t95 t94 t93 t92 t91 t90 t85 t84 t83 t82 t81 t80 t79 t78 t77 t76 t75 t74 t71 t70 t69 t68 t67 t66 t65 t64 t63 t62 t61 t60 t57 t56 t55 t54 t53 t52 t51 t50 t49 t48 t47 t46 t43 t42 t41 t40 t39 t38 t37 t36 t35 t34 t33 t32 t29 t28 t27 t26 t25 t24 t23 t22 t21 t20 t19 t18 t15 t14 t13 t12 t11 t10 t9 t8 t7 t6 t5 t4
      refine Exists.intro xm_314 (And.intro mi_314 (And.intro ⟨rfl, rfl, rfl, rfl⟩ (And.intro rfl ?_)))
      refine fcall _ h0 (fzs_sub (by decide +kernel) hW) hB89 (ct_M_next_c8003 (fBz h0 hB89) (by omega)) ?_
      rintro IhB104 _ hB104 fhB104 ⟨rfl, hz103, g0z103, g1z103⟩
      have t105 := fhB104 740 8 (by decide +kernel)
      have t106 := fhB104 740 14 (by decide +kernel)
      have t107 := fhB104 740 15 (by decide +kernel)
      have t108 := fhB104 740 16 (by decide +kernel)
      have t109 := fhB104 740 17 (by decide +kernel)
      have t110 := fhB104 740 18 (by decide +kernel)
      have t111 := fhB104 741 9 (by decide +kernel)
      have k112 := fBz_eq hB104 (a := 741) (j := 9) (by decide +kernel)
      refine Exists.intro xm_317 (And.intro mi_317 (And.intro ⟨rfl, rfl, rfl, rfl⟩ (And.intro rfl ?_)))
      refine fcallp hB104 (ct_M_key_09703 (fBz h0 hB104) (by omega)) ?_
      rintro _ ⟨z113, rfl, hz113, g0z113⟩
      refine And.intro (by first | exact fi_ hz113.1 hz113.2 rfl | omega) (And.intro ?_ ?_)
      · intro c114
        refine And.intro (by omega) (And.intro ?_ ?_)
        · intro c115
          refine And.intro ⟨rfl, by decide, by decide⟩ (And.intro rfl (And.intro (Or.inl rfl) (fputf fb_740_8 (by decide +kernel) hW (by first | exact ⟨by decide, by decide⟩ | omega) ?_)))
          intro IhB116 ehB116 hB116
          have t117 := fup_at ehB116 8 (by first | rfl | omega)
          have t118 : IhB116 740 9 = IhB104 740 9 := (congrFun (congrFun ehB116 740) 9).trans (fup_ne (by first | decide | omega))
          have t119 : IhB116 740 10 = IhB104 740 10 := (congrFun (congrFun ehB116 740) 10).trans (fup_ne (by first | decide | omega))
          have t120 : IhB116 740 11 = IhB104 740 11 := (congrFun (congrFun ehB116 740) 11).trans (fup_ne (by first | decide | omega))
          have t121 : IhB116 740 12 = IhB104 740 12 := (congrFun (congrFun ehB116 740) 12).trans (fup_ne (by first | decide | omega))
          have t122 : IhB116 740 13 = IhB104 740 13 := (congrFun (congrFun ehB116 740) 13).trans (fup_ne (by first | decide | omega))
          have t123 : IhB116 740 14 = IhB104 740 14 := (congrFun (congrFun ehB116 740) 14).trans (fup_ne (by first | decide | omega))
          have t124 : IhB116 740 15 = IhB104 740 15 := (congrFun (congrFun ehB116 740) 15).trans (fup_ne (by first | decide | omega))
          have t125 : IhB116 740 16 = IhB104 740 16 := (congrFun (congrFun ehB116 740) 16).trans (fup_ne (by first | decide | omega))
          have t126 : IhB116 740 17 = IhB104 740 17 := (congrFun (congrFun ehB116 740) 17).trans (fup_ne (by first | decide | omega))
          have t127 : IhB116 740 18 = IhB104 740 18 := (congrFun (congrFun ehB116 740) 18).trans (fup_ne (by first | decide | omega))
          have t128 : IhB116 741 9 = IhB104 741 9 := (congrFun (congrFun ehB116 741) 9).trans (fup_ne (by first | decide | omega))
          have k129 := fBz_eq hB116 (a := 741) (j := 9) (by decide +kernel)
          refine And.intro (by omega) (And.intro ?_ ?_)
          · intro c130
            refine And.intro (True.intro) ?_
            exact ⟨_, rfl, by omega, (by first | exact ⟨fun hn j hj => (fup_other ehB116 741 j (Or.inl (by decide))).trans ((g0nil0 j (by omega)).trans ((fFr_S fnil0 (by decide +kernel) j).trans ((fFr_S fhB104 (by decide +kernel) j).trans (((fup_other ehB89 741 j (Or.inl (by decide))).trans ((fup_other ehB73 741 j (Or.inl (by decide))).trans ((fup_other ehB59 741 j (Or.inl (by decide))).trans ((fup_other ehB45 741 j (Or.inl (by decide))).trans ((fup_other ehB31 741 j (Or.inl (by decide))).trans ((fup_other ehB17 741 j (Or.inl (by decide))).trans (fup_other ehB3 741 j (Or.inl (by decide))))))))))))), fun hn j hj => (fup_other ehB116 741 j (Or.inl (by decide))).trans ((g0nil0 j (by omega)).trans ((fFr_S fnil0 (by decide +kernel) j).trans ((fFr_S fhB104 (by decide +kernel) j).trans (((fup_other ehB89 741 j (Or.inl (by decide))).trans ((fup_other ehB73 741 j (Or.inl (by decide))).trans ((fup_other ehB59 741 j (Or.inl (by decide))).trans ((fup_other ehB45 741 j (Or.inl (by decide))).trans ((fup_other ehB31 741 j (Or.inl (by decide))).trans ((fup_other ehB17 741 j (Or.inl (by decide))).trans (fup_other ehB3 741 j (Or.inl (by decide)))))))))))))⟩ | exact ⟨fun hn j hj => (fup_other ehB116 741 j (Or.inl (by decide))).trans ((fFr_S fhB104 (by decide +kernel) j).trans (((fup_other ehB89 741 j (Or.inl (by decide))).trans ((fup_other ehB73 741 j (Or.inl (by decide))).trans ((fup_other ehB59 741 j (Or.inl (by decide))).trans ((fup_other ehB45 741 j (Or.inl (by decide))).trans ((fup_other ehB31 741 j (Or.inl (by decide))).trans ((fup_other ehB17 741 j (Or.inl (by decide))).trans (fup_other ehB3 741 j (Or.inl (by decide))))))))))), fun hn j hj => (fup_other ehB116 741 j (Or.inl (by decide))).trans ((fFr_S fhB104 (by decide +kernel) j).trans (((fup_other ehB89 741 j (Or.inl (by decide))).trans ((fup_other ehB73 741 j (Or.inl (by decide))).trans ((fup_other ehB59 741 j (Or.inl (by decide))).trans ((fup_other ehB45 741 j (Or.inl (by decide))).trans ((fup_other ehB31 741 j (Or.inl (by decide))).trans ((fup_other ehB17 741 j (Or.inl (by decide))).trans (fup_other ehB3 741 j (Or.inl (by decide)))))))))))⟩), (by first | exact (fun hz hn => sOne_to (sOne_be (by omega) (g1nil0 (by omega)) (fun j _ => (fup_other ehB116 741 j (Or.inl (by decide))))) (by omega) (by omega) (by omega)) | exact (fun hz => absurd hz (by omega))), (by first | exact Or.inl ⟨by omega, pr_ok (hT_mk (fun j => ((fup_other ehB89 747 j (Or.inl (by decide))).trans ((fup_other ehB73 747 j (Or.inl (by decide))).trans ((fup_other ehB59 747 j (Or.inl (by decide))).trans ((fup_other ehB45 747 j (Or.inl (by decide))).trans ((fup_other ehB31 747 j (Or.inl (by decide))).trans ((fup_other ehB17 747 j (Or.inl (by decide))).trans (fup_other ehB3 747 j (Or.inl (by decide)))))))))) (by omega)) (by omega) (by omega) (by omega) g0z103 (hT_mk (fFr_at fhB104 747 (by decide +kernel) rfl) (by omega)) g0z113 (by omega) g0nil0 (hT_mk (fFr_at fnil0 747 (by decide +kernel) rfl) (by omega)) (by omega) (by omega) (by omega) (by omega) g2nil0 (hT_mk (fFr_at fnil0 747 (by decide +kernel) rfl) (by omega)) (by omega) (by omega) (sd_same (fun j => fup_other ehB116 741 j (Or.inl (by decide))) (by omega) (by omega)) (by omega)⟩ | exact Or.inr ⟨by omega, pr_bad (hT_mk (fun j => ((fup_other ehB89 747 j (Or.inl (by decide))).trans ((fup_other ehB73 747 j (Or.inl (by decide))).trans ((fup_other ehB59 747 j (Or.inl (by decide))).trans ((fup_other ehB45 747 j (Or.inl (by decide))).trans ((fup_other ehB31 747 j (Or.inl (by decide))).trans ((fup_other ehB17 747 j (Or.inl (by decide))).trans (fup_other ehB3 747 j (Or.inl (by decide)))))))))) (by omega)) (by omega) (by omega) (by omega) g0z103 (hT_mk (fFr_at fhB104 747 (by decide +kernel) rfl) (by omega)) g0z113 (by omega) g0nil0 (hT_mk (fFr_at fnil0 747 (by decide +kernel) rfl) (by omega)) (by omega) (by omega) (by omega) (by omega) g2nil0 (hT_mk (fFr_at fnil0 747 (by decide +kernel) rfl) (by omega)) (by omega) (by omega) (by omega)⟩ | exact Or.inr ⟨by omega, pr_no (hT_mk (fun j => ((fup_other ehB89 747 j (Or.inl (by decide))).trans ((fup_other ehB73 747 j (Or.inl (by decide))).trans ((fup_other ehB59 747 j (Or.inl (by decide))).trans ((fup_other ehB45 747 j (Or.inl (by decide))).trans ((fup_other ehB31 747 j (Or.inl (by decide))).trans ((fup_other ehB17 747 j (Or.inl (by decide))).trans (fup_other ehB3 747 j (Or.inl (by decide)))))))))) (by omega)) (by omega) (by omega) (by omega) g0z103 (hT_mk (fFr_at fhB104 747 (by decide +kernel) rfl) (by omega)) g0z113 (by omega) (by omega)⟩), (by intro q; omega), (by intro q; omega), (mR_fr (fFr_of hB116) (by decide +kernel))⟩
          · intro c131
            refine And.intro (True.intro) ?_
            exact ⟨_, rfl, by omega, (by first | exact ⟨fun hn j hj => (fup_other ehB116 741 j (Or.inl (by decide))).trans ((g0nil0 j (by omega)).trans ((fFr_S fnil0 (by decide +kernel) j).trans ((fFr_S fhB104 (by decide +kernel) j).trans (((fup_other ehB89 741 j (Or.inl (by decide))).trans ((fup_other ehB73 741 j (Or.inl (by decide))).trans ((fup_other ehB59 741 j (Or.inl (by decide))).trans ((fup_other ehB45 741 j (Or.inl (by decide))).trans ((fup_other ehB31 741 j (Or.inl (by decide))).trans ((fup_other ehB17 741 j (Or.inl (by decide))).trans (fup_other ehB3 741 j (Or.inl (by decide))))))))))))), fun hn j hj => (fup_other ehB116 741 j (Or.inl (by decide))).trans ((g0nil0 j (by omega)).trans ((fFr_S fnil0 (by decide +kernel) j).trans ((fFr_S fhB104 (by decide +kernel) j).trans (((fup_other ehB89 741 j (Or.inl (by decide))).trans ((fup_other ehB73 741 j (Or.inl (by decide))).trans ((fup_other ehB59 741 j (Or.inl (by decide))).trans ((fup_other ehB45 741 j (Or.inl (by decide))).trans ((fup_other ehB31 741 j (Or.inl (by decide))).trans ((fup_other ehB17 741 j (Or.inl (by decide))).trans (fup_other ehB3 741 j (Or.inl (by decide)))))))))))))⟩ | exact ⟨fun hn j hj => (fup_other ehB116 741 j (Or.inl (by decide))).trans ((fFr_S fhB104 (by decide +kernel) j).trans (((fup_other ehB89 741 j (Or.inl (by decide))).trans ((fup_other ehB73 741 j (Or.inl (by decide))).trans ((fup_other ehB59 741 j (Or.inl (by decide))).trans ((fup_other ehB45 741 j (Or.inl (by decide))).trans ((fup_other ehB31 741 j (Or.inl (by decide))).trans ((fup_other ehB17 741 j (Or.inl (by decide))).trans (fup_other ehB3 741 j (Or.inl (by decide))))))))))), fun hn j hj => (fup_other ehB116 741 j (Or.inl (by decide))).trans ((fFr_S fhB104 (by decide +kernel) j).trans (((fup_other ehB89 741 j (Or.inl (by decide))).trans ((fup_other ehB73 741 j (Or.inl (by decide))).trans ((fup_other ehB59 741 j (Or.inl (by decide))).trans ((fup_other ehB45 741 j (Or.inl (by decide))).trans ((fup_other ehB31 741 j (Or.inl (by decide))).trans ((fup_other ehB17 741 j (Or.inl (by decide))).trans (fup_other ehB3 741 j (Or.inl (by decide)))))))))))⟩), (by first | exact (fun hz hn => sOne_to (sOne_be (by omega) (g1nil0 (by omega)) (fun j _ => (fup_other ehB116 741 j (Or.inl (by decide))))) (by omega) (by omega) (by omega)) | exact (fun hz => absurd hz (by omega))), (by first | exact Or.inl ⟨by omega, pr_ok (hT_mk (fun j => ((fup_other ehB89 747 j (Or.inl (by decide))).trans ((fup_other ehB73 747 j (Or.inl (by decide))).trans ((fup_other ehB59 747 j (Or.inl (by decide))).trans ((fup_other ehB45 747 j (Or.inl (by decide))).trans ((fup_other ehB31 747 j (Or.inl (by decide))).trans ((fup_other ehB17 747 j (Or.inl (by decide))).trans (fup_other ehB3 747 j (Or.inl (by decide)))))))))) (by omega)) (by omega) (by omega) (by omega) g0z103 (hT_mk (fFr_at fhB104 747 (by decide +kernel) rfl) (by omega)) g0z113 (by omega) g0nil0 (hT_mk (fFr_at fnil0 747 (by decide +kernel) rfl) (by omega)) (by omega) (by omega) (by omega) (by omega) g2nil0 (hT_mk (fFr_at fnil0 747 (by decide +kernel) rfl) (by omega)) (by omega) (by omega) (sd_same (fun j => fup_other ehB116 741 j (Or.inl (by decide))) (by omega) (by omega)) (by omega)⟩ | exact Or.inr ⟨by omega, pr_bad (hT_mk (fun j => ((fup_other ehB89 747 j (Or.inl (by decide))).trans ((fup_other ehB73 747 j (Or.inl (by decide))).trans ((fup_other ehB59 747 j (Or.inl (by decide))).trans ((fup_other ehB45 747 j (Or.inl (by decide))).trans ((fup_other ehB31 747 j (Or.inl (by decide))).trans ((fup_other ehB17 747 j (Or.inl (by decide))).trans (fup_other ehB3 747 j (Or.inl (by decide)))))))))) (by omega)) (by omega) (by omega) (by omega) g0z103 (hT_mk (fFr_at fhB104 747 (by decide +kernel) rfl) (by omega)) g0z113 (by omega) g0nil0 (hT_mk (fFr_at fnil0 747 (by decide +kernel) rfl) (by omega)) (by omega) (by omega) (by omega) (by omega) g2nil0 (hT_mk (fFr_at fnil0 747 (by decide +kernel) rfl) (by omega)) (by omega) (by omega) (by omega)⟩ | exact Or.inr ⟨by omega, pr_no (hT_mk (fun j => ((fup_other ehB89 747 j (Or.inl (by decide))).trans ((fup_other ehB73 747 j (Or.inl (by decide))).trans ((fup_other ehB59 747 j (Or.inl (by decide))).trans ((fup_other ehB45 747 j (Or.inl (by decide))).trans ((fup_other ehB31 747 j (Or.inl (by decide))).trans ((fup_other ehB17 747 j (Or.inl (by decide))).trans (fup_other ehB3 747 j (Or.inl (by decide)))))))))) (by omega)) (by omega) (by omega) (by omega) g0z103 (hT_mk (fFr_at fhB104 747 (by decide +kernel) rfl) (by omega)) g0z113 (by omega) (by omega)⟩), (by intro q; omega), (by intro q; omega), (mR_fr (fFr_of hB116) (by decide +kernel))⟩
        · intro c132
          refine Exists.intro xm_314 (And.intro mi_314 (And.intro ⟨rfl, rfl, rfl, rfl⟩ (And.intro rfl ?_)))
          refine fcall _ h0 (fzs_sub (by decide +kernel) hW) hB104 (ct_M_next_c8003 (fBz h0 hB104) (by omega)) ?_
          rintro IhB134 _ hB134 fhB134 ⟨rfl, hz133, g0z133, g1z133⟩
          have t135 := fhB134 740 8 (by decide +kernel)
          have t136 := fhB134 740 14 (by decide +kernel)
          have t137 := fhB134 740 15 (by decide +kernel)
          have t138 := fhB134 740 16 (by decide +kernel)
          have t139 := fhB134 740 17 (by decide +kernel)
          have t140 := fhB134 740 18 (by decide +kernel)
          have t141 := fhB134 741 9 (by decide +kernel)
          have k142 := fBz_eq hB134 (a := 741) (j := 9) (by decide +kernel)
          refine Exists.intro xm_335 (And.intro mi_335 (And.intro ⟨rfl, rfl, rfl, rfl⟩ (And.intro rfl ?_)))
          refine fcall _ h0 (fzs_sub (by decide +kernel) hW) hB134 (ct_M_either_c00e3 (fBz h0 hB134) (by first | exact ⟨hz113.1, Int.le_trans (Int.le_sub_one_of_lt (Int.lt_of_lt_of_le c114 (Int.le_refl _))) (by decide)⟩ | omega) (by omega) (by omega) (by omega) (by unfold laP; omega) (by omega) g1z133) ?_
          rintro IhB144 _ hB144 fhB144 ⟨z143, rfl, hz143, g0z143, g1z143, g2z143, g3z143, g4z143⟩
          have t145 := fhB144 740 8 (by decide +kernel)
          have t146 := fhB144 740 17 (by decide +kernel)
          have t147 := fhB144 741 9 (by decide +kernel)
          have k148 := fBz_eq hB144 (a := 741) (j := 9) (by decide +kernel)
          refine And.intro (by omega) (And.intro ?_ ?_)
          · intro c149
            refine And.intro ⟨rfl, by decide, by decide⟩ (And.intro rfl (And.intro (Or.inl rfl) (fputf fb_740_8 (by decide +kernel) hW (by first | exact ⟨by decide, by decide⟩ | omega) ?_)))
            intro IhB150 ehB150 hB150
            have t151 := fup_at ehB150 8 (by first | rfl | omega)
            have t152 : IhB150 740 9 = IhB144 740 9 := (congrFun (congrFun ehB150 740) 9).trans (fup_ne (by first | decide | omega))
            have t153 : IhB150 740 10 = IhB144 740 10 := (congrFun (congrFun ehB150 740) 10).trans (fup_ne (by first | decide | omega))
            have t154 : IhB150 740 11 = IhB144 740 11 := (congrFun (congrFun ehB150 740) 11).trans (fup_ne (by first | decide | omega))
            have t155 : IhB150 740 12 = IhB144 740 12 := (congrFun (congrFun ehB150 740) 12).trans (fup_ne (by first | decide | omega))
            have t156 : IhB150 740 13 = IhB144 740 13 := (congrFun (congrFun ehB150 740) 13).trans (fup_ne (by first | decide | omega))
            have t157 : IhB150 740 14 = IhB144 740 14 := (congrFun (congrFun ehB150 740) 14).trans (fup_ne (by first | decide | omega))
            have t158 : IhB150 740 15 = IhB144 740 15 := (congrFun (congrFun ehB150 740) 15).trans (fup_ne (by first | decide | omega))
            have t159 : IhB150 740 16 = IhB144 740 16 := (congrFun (congrFun ehB150 740) 16).trans (fup_ne (by first | decide | omega))
            have t160 : IhB150 740 17 = IhB144 740 17 := (congrFun (congrFun ehB150 740) 17).trans (fup_ne (by first | decide | omega))
            have t161 : IhB150 740 18 = IhB144 740 18 := (congrFun (congrFun ehB150 740) 18).trans (fup_ne (by first | decide | omega))
            have t162 : IhB150 741 9 = IhB144 741 9 := (congrFun (congrFun ehB150 741) 9).trans (fup_ne (by first | decide | omega))
            have k163 := fBz_eq hB150 (a := 741) (j := 9) (by decide +kernel)
            refine And.intro (by omega) (And.intro ?_ ?_)
            · intro c164
              refine And.intro (True.intro) ?_
              exact ⟨_, rfl, by omega, (by first | exact ⟨fun hn j hj => (fup_other ehB150 741 j (Or.inl (by decide))).trans ((g0z143 j (by omega)).trans ((fFr_S fhB134 (by decide +kernel) j).trans ((fFr_S fhB104 (by decide +kernel) j).trans (((fup_other ehB89 741 j (Or.inl (by decide))).trans ((fup_other ehB73 741 j (Or.inl (by decide))).trans ((fup_other ehB59 741 j (Or.inl (by decide))).trans ((fup_other ehB45 741 j (Or.inl (by decide))).trans ((fup_other ehB31 741 j (Or.inl (by decide))).trans ((fup_other ehB17 741 j (Or.inl (by decide))).trans (fup_other ehB3 741 j (Or.inl (by decide))))))))))))), fun hn j hj => (fup_other ehB150 741 j (Or.inl (by decide))).trans ((g0z143 j (by omega)).trans ((fFr_S fhB134 (by decide +kernel) j).trans ((fFr_S fhB104 (by decide +kernel) j).trans (((fup_other ehB89 741 j (Or.inl (by decide))).trans ((fup_other ehB73 741 j (Or.inl (by decide))).trans ((fup_other ehB59 741 j (Or.inl (by decide))).trans ((fup_other ehB45 741 j (Or.inl (by decide))).trans ((fup_other ehB31 741 j (Or.inl (by decide))).trans ((fup_other ehB17 741 j (Or.inl (by decide))).trans (fup_other ehB3 741 j (Or.inl (by decide)))))))))))))⟩ | exact ⟨fun hn j hj => (fup_other ehB150 741 j (Or.inl (by decide))).trans ((fFr_S fhB104 (by decide +kernel) j).trans (((fup_other ehB89 741 j (Or.inl (by decide))).trans ((fup_other ehB73 741 j (Or.inl (by decide))).trans ((fup_other ehB59 741 j (Or.inl (by decide))).trans ((fup_other ehB45 741 j (Or.inl (by decide))).trans ((fup_other ehB31 741 j (Or.inl (by decide))).trans ((fup_other ehB17 741 j (Or.inl (by decide))).trans (fup_other ehB3 741 j (Or.inl (by decide))))))))))), fun hn j hj => (fup_other ehB150 741 j (Or.inl (by decide))).trans ((fFr_S fhB104 (by decide +kernel) j).trans (((fup_other ehB89 741 j (Or.inl (by decide))).trans ((fup_other ehB73 741 j (Or.inl (by decide))).trans ((fup_other ehB59 741 j (Or.inl (by decide))).trans ((fup_other ehB45 741 j (Or.inl (by decide))).trans ((fup_other ehB31 741 j (Or.inl (by decide))).trans ((fup_other ehB17 741 j (Or.inl (by decide))).trans (fup_other ehB3 741 j (Or.inl (by decide)))))))))))⟩), (by first | exact (fun hz hn => sOne_to (sOne_be (by omega) (g1z143 (by omega)) (fun j _ => (fup_other ehB150 741 j (Or.inl (by decide))))) (by omega) (by omega) (by omega)) | exact (fun hz => absurd hz (by omega))), (by first | exact Or.inl ⟨by omega, pr_ok (hT_mk (fun j => ((fup_other ehB89 747 j (Or.inl (by decide))).trans ((fup_other ehB73 747 j (Or.inl (by decide))).trans ((fup_other ehB59 747 j (Or.inl (by decide))).trans ((fup_other ehB45 747 j (Or.inl (by decide))).trans ((fup_other ehB31 747 j (Or.inl (by decide))).trans ((fup_other ehB17 747 j (Or.inl (by decide))).trans (fup_other ehB3 747 j (Or.inl (by decide)))))))))) (by omega)) (by omega) (by omega) (by omega) g0z103 (hT_mk (fFr_at fhB104 747 (by decide +kernel) rfl) (by omega)) g0z113 (by omega) g0z133 (hT_mk (fFr_at fhB134 747 (by decide +kernel) rfl) (by omega)) (by omega) (by omega) (by omega) (by omega) g2z143 (hT_mk (fFr_at fhB144 747 (by decide +kernel) rfl) (by omega)) (by omega) (by omega) (sd_same (fun j => fup_other ehB150 741 j (Or.inl (by decide))) (by omega) (by omega)) (by omega)⟩ | exact Or.inr ⟨by omega, pr_bad (hT_mk (fun j => ((fup_other ehB89 747 j (Or.inl (by decide))).trans ((fup_other ehB73 747 j (Or.inl (by decide))).trans ((fup_other ehB59 747 j (Or.inl (by decide))).trans ((fup_other ehB45 747 j (Or.inl (by decide))).trans ((fup_other ehB31 747 j (Or.inl (by decide))).trans ((fup_other ehB17 747 j (Or.inl (by decide))).trans (fup_other ehB3 747 j (Or.inl (by decide)))))))))) (by omega)) (by omega) (by omega) (by omega) g0z103 (hT_mk (fFr_at fhB104 747 (by decide +kernel) rfl) (by omega)) g0z113 (by omega) g0z133 (hT_mk (fFr_at fhB134 747 (by decide +kernel) rfl) (by omega)) (by omega) (by omega) (by omega) (by omega) g2z143 (hT_mk (fFr_at fhB144 747 (by decide +kernel) rfl) (by omega)) (by omega) (by omega) (by omega)⟩ | exact Or.inr ⟨by omega, pr_no (hT_mk (fun j => ((fup_other ehB89 747 j (Or.inl (by decide))).trans ((fup_other ehB73 747 j (Or.inl (by decide))).trans ((fup_other ehB59 747 j (Or.inl (by decide))).trans ((fup_other ehB45 747 j (Or.inl (by decide))).trans ((fup_other ehB31 747 j (Or.inl (by decide))).trans ((fup_other ehB17 747 j (Or.inl (by decide))).trans (fup_other ehB3 747 j (Or.inl (by decide)))))))))) (by omega)) (by omega) (by omega) (by omega) g0z103 (hT_mk (fFr_at fhB104 747 (by decide +kernel) rfl) (by omega)) g0z113 (by omega) (by omega)⟩), (by intro q; omega), (by intro q; omega), (mR_fr (fFr_of hB150) (by decide +kernel))⟩
            · intro c165
              refine And.intro (True.intro) ?_
              exact ⟨_, rfl, by omega, (by first | exact ⟨fun hn j hj => (fup_other ehB150 741 j (Or.inl (by decide))).trans ((g0z143 j (by omega)).trans ((fFr_S fhB134 (by decide +kernel) j).trans ((fFr_S fhB104 (by decide +kernel) j).trans (((fup_other ehB89 741 j (Or.inl (by decide))).trans ((fup_other ehB73 741 j (Or.inl (by decide))).trans ((fup_other ehB59 741 j (Or.inl (by decide))).trans ((fup_other ehB45 741 j (Or.inl (by decide))).trans ((fup_other ehB31 741 j (Or.inl (by decide))).trans ((fup_other ehB17 741 j (Or.inl (by decide))).trans (fup_other ehB3 741 j (Or.inl (by decide))))))))))))), fun hn j hj => (fup_other ehB150 741 j (Or.inl (by decide))).trans ((g0z143 j (by omega)).trans ((fFr_S fhB134 (by decide +kernel) j).trans ((fFr_S fhB104 (by decide +kernel) j).trans (((fup_other ehB89 741 j (Or.inl (by decide))).trans ((fup_other ehB73 741 j (Or.inl (by decide))).trans ((fup_other ehB59 741 j (Or.inl (by decide))).trans ((fup_other ehB45 741 j (Or.inl (by decide))).trans ((fup_other ehB31 741 j (Or.inl (by decide))).trans ((fup_other ehB17 741 j (Or.inl (by decide))).trans (fup_other ehB3 741 j (Or.inl (by decide)))))))))))))⟩ | exact ⟨fun hn j hj => (fup_other ehB150 741 j (Or.inl (by decide))).trans ((fFr_S fhB104 (by decide +kernel) j).trans (((fup_other ehB89 741 j (Or.inl (by decide))).trans ((fup_other ehB73 741 j (Or.inl (by decide))).trans ((fup_other ehB59 741 j (Or.inl (by decide))).trans ((fup_other ehB45 741 j (Or.inl (by decide))).trans ((fup_other ehB31 741 j (Or.inl (by decide))).trans ((fup_other ehB17 741 j (Or.inl (by decide))).trans (fup_other ehB3 741 j (Or.inl (by decide))))))))))), fun hn j hj => (fup_other ehB150 741 j (Or.inl (by decide))).trans ((fFr_S fhB104 (by decide +kernel) j).trans (((fup_other ehB89 741 j (Or.inl (by decide))).trans ((fup_other ehB73 741 j (Or.inl (by decide))).trans ((fup_other ehB59 741 j (Or.inl (by decide))).trans ((fup_other ehB45 741 j (Or.inl (by decide))).trans ((fup_other ehB31 741 j (Or.inl (by decide))).trans ((fup_other ehB17 741 j (Or.inl (by decide))).trans (fup_other ehB3 741 j (Or.inl (by decide)))))))))))⟩), (by first | exact (fun hz hn => sOne_to (sOne_be (by omega) (g1z143 (by omega)) (fun j _ => (fup_other ehB150 741 j (Or.inl (by decide))))) (by omega) (by omega) (by omega)) | exact (fun hz => absurd hz (by omega))), (by first | exact Or.inl ⟨by omega, pr_ok (hT_mk (fun j => ((fup_other ehB89 747 j (Or.inl (by decide))).trans ((fup_other ehB73 747 j (Or.inl (by decide))).trans ((fup_other ehB59 747 j (Or.inl (by decide))).trans ((fup_other ehB45 747 j (Or.inl (by decide))).trans ((fup_other ehB31 747 j (Or.inl (by decide))).trans ((fup_other ehB17 747 j (Or.inl (by decide))).trans (fup_other ehB3 747 j (Or.inl (by decide)))))))))) (by omega)) (by omega) (by omega) (by omega) g0z103 (hT_mk (fFr_at fhB104 747 (by decide +kernel) rfl) (by omega)) g0z113 (by omega) g0z133 (hT_mk (fFr_at fhB134 747 (by decide +kernel) rfl) (by omega)) (by omega) (by omega) (by omega) (by omega) g2z143 (hT_mk (fFr_at fhB144 747 (by decide +kernel) rfl) (by omega)) (by omega) (by omega) (sd_same (fun j => fup_other ehB150 741 j (Or.inl (by decide))) (by omega) (by omega)) (by omega)⟩ | exact Or.inr ⟨by omega, pr_bad (hT_mk (fun j => ((fup_other ehB89 747 j (Or.inl (by decide))).trans ((fup_other ehB73 747 j (Or.inl (by decide))).trans ((fup_other ehB59 747 j (Or.inl (by decide))).trans ((fup_other ehB45 747 j (Or.inl (by decide))).trans ((fup_other ehB31 747 j (Or.inl (by decide))).trans ((fup_other ehB17 747 j (Or.inl (by decide))).trans (fup_other ehB3 747 j (Or.inl (by decide)))))))))) (by omega)) (by omega) (by omega) (by omega) g0z103 (hT_mk (fFr_at fhB104 747 (by decide +kernel) rfl) (by omega)) g0z113 (by omega) g0z133 (hT_mk (fFr_at fhB134 747 (by decide +kernel) rfl) (by omega)) (by omega) (by omega) (by omega) (by omega) g2z143 (hT_mk (fFr_at fhB144 747 (by decide +kernel) rfl) (by omega)) (by omega) (by omega) (by omega)⟩ | exact Or.inr ⟨by omega, pr_no (hT_mk (fun j => ((fup_other ehB89 747 j (Or.inl (by decide))).trans ((fup_other ehB73 747 j (Or.inl (by decide))).trans ((fup_other ehB59 747 j (Or.inl (by decide))).trans ((fup_other ehB45 747 j (Or.inl (by decide))).trans ((fup_other ehB31 747 j (Or.inl (by decide))).trans ((fup_other ehB17 747 j (Or.inl (by decide))).trans (fup_other ehB3 747 j (Or.inl (by decide)))))))))) (by omega)) (by omega) (by omega) (by omega) g0z103 (hT_mk (fFr_at fhB104 747 (by decide +kernel) rfl) (by omega)) g0z113 (by omega) (by omega)⟩), (by intro q; omega), (by intro q; omega), (mR_fr (fFr_of hB150) (by decide +kernel))⟩
          · intro c166
            have u94 := g4z143 (by omega)
            refine And.intro ⟨rfl, by decide, by decide⟩ (fgetf fb_740_11 h0 hB144 ?_)
            intro z167 lz167 uz167 qz167
            refine And.intro (by first | exact fi_ lz167 uz167 rfl | omega) (And.intro ?_ ?_)
            · intro c168
              refine And.intro ⟨rfl, by decide, by decide⟩ (And.intro rfl (And.intro (Or.inl rfl) (fputf fb_740_8 (by decide +kernel) hW (by first | exact ⟨by decide, by decide⟩ | omega) ?_)))
              intro IhB169 ehB169 hB169
              have t170 := fup_at ehB169 8 (by first | rfl | omega)
              have t171 : IhB169 740 9 = IhB144 740 9 := (congrFun (congrFun ehB169 740) 9).trans (fup_ne (by first | decide | omega))
              have t172 : IhB169 740 10 = IhB144 740 10 := (congrFun (congrFun ehB169 740) 10).trans (fup_ne (by first | decide | omega))
              have t173 : IhB169 740 11 = IhB144 740 11 := (congrFun (congrFun ehB169 740) 11).trans (fup_ne (by first | decide | omega))
              have t174 : IhB169 740 12 = IhB144 740 12 := (congrFun (congrFun ehB169 740) 12).trans (fup_ne (by first | decide | omega))
              have t175 : IhB169 740 13 = IhB144 740 13 := (congrFun (congrFun ehB169 740) 13).trans (fup_ne (by first | decide | omega))
              have t176 : IhB169 740 14 = IhB144 740 14 := (congrFun (congrFun ehB169 740) 14).trans (fup_ne (by first | decide | omega))
              have t177 : IhB169 740 15 = IhB144 740 15 := (congrFun (congrFun ehB169 740) 15).trans (fup_ne (by first | decide | omega))
              have t178 : IhB169 740 16 = IhB144 740 16 := (congrFun (congrFun ehB169 740) 16).trans (fup_ne (by first | decide | omega))
              have t179 : IhB169 740 17 = IhB144 740 17 := (congrFun (congrFun ehB169 740) 17).trans (fup_ne (by first | decide | omega))
              have t180 : IhB169 740 18 = IhB144 740 18 := (congrFun (congrFun ehB169 740) 18).trans (fup_ne (by first | decide | omega))
              have t181 : IhB169 741 9 = IhB144 741 9 := (congrFun (congrFun ehB169 741) 9).trans (fup_ne (by first | decide | omega))
              have k182 := fBz_eq hB169 (a := 741) (j := 9) (by decide +kernel)
              refine And.intro (by omega) (And.intro ?_ ?_)
              · intro c183
                refine And.intro (True.intro) ?_
                exact ⟨_, rfl, by omega, (by first | exact ⟨fun hn j hj => (fup_other ehB169 741 j (Or.inl (by decide))).trans ((g0z143 j (by omega)).trans ((fFr_S fhB134 (by decide +kernel) j).trans ((fFr_S fhB104 (by decide +kernel) j).trans (((fup_other ehB89 741 j (Or.inl (by decide))).trans ((fup_other ehB73 741 j (Or.inl (by decide))).trans ((fup_other ehB59 741 j (Or.inl (by decide))).trans ((fup_other ehB45 741 j (Or.inl (by decide))).trans ((fup_other ehB31 741 j (Or.inl (by decide))).trans ((fup_other ehB17 741 j (Or.inl (by decide))).trans (fup_other ehB3 741 j (Or.inl (by decide))))))))))))), fun hn j hj => (fup_other ehB169 741 j (Or.inl (by decide))).trans ((g0z143 j (by omega)).trans ((fFr_S fhB134 (by decide +kernel) j).trans ((fFr_S fhB104 (by decide +kernel) j).trans (((fup_other ehB89 741 j (Or.inl (by decide))).trans ((fup_other ehB73 741 j (Or.inl (by decide))).trans ((fup_other ehB59 741 j (Or.inl (by decide))).trans ((fup_other ehB45 741 j (Or.inl (by decide))).trans ((fup_other ehB31 741 j (Or.inl (by decide))).trans ((fup_other ehB17 741 j (Or.inl (by decide))).trans (fup_other ehB3 741 j (Or.inl (by decide)))))))))))))⟩ | exact ⟨fun hn j hj => (fup_other ehB169 741 j (Or.inl (by decide))).trans ((fFr_S fhB104 (by decide +kernel) j).trans (((fup_other ehB89 741 j (Or.inl (by decide))).trans ((fup_other ehB73 741 j (Or.inl (by decide))).trans ((fup_other ehB59 741 j (Or.inl (by decide))).trans ((fup_other ehB45 741 j (Or.inl (by decide))).trans ((fup_other ehB31 741 j (Or.inl (by decide))).trans ((fup_other ehB17 741 j (Or.inl (by decide))).trans (fup_other ehB3 741 j (Or.inl (by decide))))))))))), fun hn j hj => (fup_other ehB169 741 j (Or.inl (by decide))).trans ((fFr_S fhB104 (by decide +kernel) j).trans (((fup_other ehB89 741 j (Or.inl (by decide))).trans ((fup_other ehB73 741 j (Or.inl (by decide))).trans ((fup_other ehB59 741 j (Or.inl (by decide))).trans ((fup_other ehB45 741 j (Or.inl (by decide))).trans ((fup_other ehB31 741 j (Or.inl (by decide))).trans ((fup_other ehB17 741 j (Or.inl (by decide))).trans (fup_other ehB3 741 j (Or.inl (by decide)))))))))))⟩), (by first | exact (fun hz hn => sOne_to (sOne_be (by omega) (g1z143 (by omega)) (fun j _ => (fup_other ehB169 741 j (Or.inl (by decide))))) (by omega) (by omega) (by omega)) | exact (fun hz => absurd hz (by omega))), (by first | exact Or.inl ⟨by omega, pr_ok (hT_mk (fun j => ((fup_other ehB89 747 j (Or.inl (by decide))).trans ((fup_other ehB73 747 j (Or.inl (by decide))).trans ((fup_other ehB59 747 j (Or.inl (by decide))).trans ((fup_other ehB45 747 j (Or.inl (by decide))).trans ((fup_other ehB31 747 j (Or.inl (by decide))).trans ((fup_other ehB17 747 j (Or.inl (by decide))).trans (fup_other ehB3 747 j (Or.inl (by decide)))))))))) (by omega)) (by omega) (by omega) (by omega) g0z103 (hT_mk (fFr_at fhB104 747 (by decide +kernel) rfl) (by omega)) g0z113 (by omega) g0z133 (hT_mk (fFr_at fhB134 747 (by decide +kernel) rfl) (by omega)) (by omega) (by omega) (by omega) (by omega) g2z143 (hT_mk (fFr_at fhB144 747 (by decide +kernel) rfl) (by omega)) (by omega) (by omega) (sd_same (fun j => fup_other ehB169 741 j (Or.inl (by decide))) (by omega) (by omega)) (by omega)⟩ | exact Or.inr ⟨by omega, pr_bad (hT_mk (fun j => ((fup_other ehB89 747 j (Or.inl (by decide))).trans ((fup_other ehB73 747 j (Or.inl (by decide))).trans ((fup_other ehB59 747 j (Or.inl (by decide))).trans ((fup_other ehB45 747 j (Or.inl (by decide))).trans ((fup_other ehB31 747 j (Or.inl (by decide))).trans ((fup_other ehB17 747 j (Or.inl (by decide))).trans (fup_other ehB3 747 j (Or.inl (by decide)))))))))) (by omega)) (by omega) (by omega) (by omega) g0z103 (hT_mk (fFr_at fhB104 747 (by decide +kernel) rfl) (by omega)) g0z113 (by omega) g0z133 (hT_mk (fFr_at fhB134 747 (by decide +kernel) rfl) (by omega)) (by omega) (by omega) (by omega) (by omega) g2z143 (hT_mk (fFr_at fhB144 747 (by decide +kernel) rfl) (by omega)) (by omega) (by omega) (by omega)⟩ | exact Or.inr ⟨by omega, pr_no (hT_mk (fun j => ((fup_other ehB89 747 j (Or.inl (by decide))).trans ((fup_other ehB73 747 j (Or.inl (by decide))).trans ((fup_other ehB59 747 j (Or.inl (by decide))).trans ((fup_other ehB45 747 j (Or.inl (by decide))).trans ((fup_other ehB31 747 j (Or.inl (by decide))).trans ((fup_other ehB17 747 j (Or.inl (by decide))).trans (fup_other ehB3 747 j (Or.inl (by decide)))))))))) (by omega)) (by omega) (by omega) (by omega) g0z103 (hT_mk (fFr_at fhB104 747 (by decide +kernel) rfl) (by omega)) g0z113 (by omega) (by omega)⟩), (by intro q; omega), (by intro q; omega), (mR_fr (fFr_of hB169) (by decide +kernel))⟩
              · intro c184
                refine And.intro (True.intro) ?_
                exact ⟨_, rfl, by omega, (by first | exact ⟨fun hn j hj => (fup_other ehB169 741 j (Or.inl (by decide))).trans ((g0z143 j (by omega)).trans ((fFr_S fhB134 (by decide +kernel) j).trans ((fFr_S fhB104 (by decide +kernel) j).trans (((fup_other ehB89 741 j (Or.inl (by decide))).trans ((fup_other ehB73 741 j (Or.inl (by decide))).trans ((fup_other ehB59 741 j (Or.inl (by decide))).trans ((fup_other ehB45 741 j (Or.inl (by decide))).trans ((fup_other ehB31 741 j (Or.inl (by decide))).trans ((fup_other ehB17 741 j (Or.inl (by decide))).trans (fup_other ehB3 741 j (Or.inl (by decide))))))))))))), fun hn j hj => (fup_other ehB169 741 j (Or.inl (by decide))).trans ((g0z143 j (by omega)).trans ((fFr_S fhB134 (by decide +kernel) j).trans ((fFr_S fhB104 (by decide +kernel) j).trans (((fup_other ehB89 741 j (Or.inl (by decide))).trans ((fup_other ehB73 741 j (Or.inl (by decide))).trans ((fup_other ehB59 741 j (Or.inl (by decide))).trans ((fup_other ehB45 741 j (Or.inl (by decide))).trans ((fup_other ehB31 741 j (Or.inl (by decide))).trans ((fup_other ehB17 741 j (Or.inl (by decide))).trans (fup_other ehB3 741 j (Or.inl (by decide)))))))))))))⟩ | exact ⟨fun hn j hj => (fup_other ehB169 741 j (Or.inl (by decide))).trans ((fFr_S fhB104 (by decide +kernel) j).trans (((fup_other ehB89 741 j (Or.inl (by decide))).trans ((fup_other ehB73 741 j (Or.inl (by decide))).trans ((fup_other ehB59 741 j (Or.inl (by decide))).trans ((fup_other ehB45 741 j (Or.inl (by decide))).trans ((fup_other ehB31 741 j (Or.inl (by decide))).trans ((fup_other ehB17 741 j (Or.inl (by decide))).trans (fup_other ehB3 741 j (Or.inl (by decide))))))))))), fun hn j hj => (fup_other ehB169 741 j (Or.inl (by decide))).trans ((fFr_S fhB104 (by decide +kernel) j).trans (((fup_other ehB89 741 j (Or.inl (by decide))).trans ((fup_other ehB73 741 j (Or.inl (by decide))).trans ((fup_other ehB59 741 j (Or.inl (by decide))).trans ((fup_other ehB45 741 j (Or.inl (by decide))).trans ((fup_other ehB31 741 j (Or.inl (by decide))).trans ((fup_other ehB17 741 j (Or.inl (by decide))).trans (fup_other ehB3 741 j (Or.inl (by decide)))))))))))⟩), (by first | exact (fun hz hn => sOne_to (sOne_be (by omega) (g1z143 (by omega)) (fun j _ => (fup_other ehB169 741 j (Or.inl (by decide))))) (by omega) (by omega) (by omega)) | exact (fun hz => absurd hz (by omega))), (by first | exact Or.inl ⟨by omega, pr_ok (hT_mk (fun j => ((fup_other ehB89 747 j (Or.inl (by decide))).trans ((fup_other ehB73 747 j (Or.inl (by decide))).trans ((fup_other ehB59 747 j (Or.inl (by decide))).trans ((fup_other ehB45 747 j (Or.inl (by decide))).trans ((fup_other ehB31 747 j (Or.inl (by decide))).trans ((fup_other ehB17 747 j (Or.inl (by decide))).trans (fup_other ehB3 747 j (Or.inl (by decide)))))))))) (by omega)) (by omega) (by omega) (by omega) g0z103 (hT_mk (fFr_at fhB104 747 (by decide +kernel) rfl) (by omega)) g0z113 (by omega) g0z133 (hT_mk (fFr_at fhB134 747 (by decide +kernel) rfl) (by omega)) (by omega) (by omega) (by omega) (by omega) g2z143 (hT_mk (fFr_at fhB144 747 (by decide +kernel) rfl) (by omega)) (by omega) (by omega) (sd_same (fun j => fup_other ehB169 741 j (Or.inl (by decide))) (by omega) (by omega)) (by omega)⟩ | exact Or.inr ⟨by omega, pr_bad (hT_mk (fun j => ((fup_other ehB89 747 j (Or.inl (by decide))).trans ((fup_other ehB73 747 j (Or.inl (by decide))).trans ((fup_other ehB59 747 j (Or.inl (by decide))).trans ((fup_other ehB45 747 j (Or.inl (by decide))).trans ((fup_other ehB31 747 j (Or.inl (by decide))).trans ((fup_other ehB17 747 j (Or.inl (by decide))).trans (fup_other ehB3 747 j (Or.inl (by decide)))))))))) (by omega)) (by omega) (by omega) (by omega) g0z103 (hT_mk (fFr_at fhB104 747 (by decide +kernel) rfl) (by omega)) g0z113 (by omega) g0z133 (hT_mk (fFr_at fhB134 747 (by decide +kernel) rfl) (by omega)) (by omega) (by omega) (by omega) (by omega) g2z143 (hT_mk (fFr_at fhB144 747 (by decide +kernel) rfl) (by omega)) (by omega) (by omega) (by omega)⟩ | exact Or.inr ⟨by omega, pr_no (hT_mk (fun j => ((fup_other ehB89 747 j (Or.inl (by decide))).trans ((fup_other ehB73 747 j (Or.inl (by decide))).trans ((fup_other ehB59 747 j (Or.inl (by decide))).trans ((fup_other ehB45 747 j (Or.inl (by decide))).trans ((fup_other ehB31 747 j (Or.inl (by decide))).trans ((fup_other ehB17 747 j (Or.inl (by decide))).trans (fup_other ehB3 747 j (Or.inl (by decide)))))))))) (by omega)) (by omega) (by omega) (by omega) g0z103 (hT_mk (fFr_at fhB104 747 (by decide +kernel) rfl) (by omega)) g0z113 (by omega) (by omega)⟩), (by intro q; omega), (by intro q; omega), (mR_fr (fFr_of hB169) (by decide +kernel))⟩
            · intro c185
              refine And.intro ⟨rfl, by decide, by decide⟩ (And.intro rfl (And.intro (Or.inl rfl) (fputf fb_740_8 (by decide +kernel) hW (by first | exact ⟨by decide, by decide⟩ | omega) ?_)))
              intro IhB186 ehB186 hB186
              have t187 := fup_at ehB186 8 (by first | rfl | omega)
              have t188 : IhB186 740 9 = IhB144 740 9 := (congrFun (congrFun ehB186 740) 9).trans (fup_ne (by first | decide | omega))
              have t189 : IhB186 740 10 = IhB144 740 10 := (congrFun (congrFun ehB186 740) 10).trans (fup_ne (by first | decide | omega))
              have t190 : IhB186 740 11 = IhB144 740 11 := (congrFun (congrFun ehB186 740) 11).trans (fup_ne (by first | decide | omega))
              have t191 : IhB186 740 12 = IhB144 740 12 := (congrFun (congrFun ehB186 740) 12).trans (fup_ne (by first | decide | omega))
              have t192 : IhB186 740 13 = IhB144 740 13 := (congrFun (congrFun ehB186 740) 13).trans (fup_ne (by first | decide | omega))
              have t193 : IhB186 740 14 = IhB144 740 14 := (congrFun (congrFun ehB186 740) 14).trans (fup_ne (by first | decide | omega))
              have t194 : IhB186 740 15 = IhB144 740 15 := (congrFun (congrFun ehB186 740) 15).trans (fup_ne (by first | decide | omega))
              have t195 : IhB186 740 16 = IhB144 740 16 := (congrFun (congrFun ehB186 740) 16).trans (fup_ne (by first | decide | omega))
              have t196 : IhB186 740 17 = IhB144 740 17 := (congrFun (congrFun ehB186 740) 17).trans (fup_ne (by first | decide | omega))
              have t197 : IhB186 740 18 = IhB144 740 18 := (congrFun (congrFun ehB186 740) 18).trans (fup_ne (by first | decide | omega))
              have t198 : IhB186 741 9 = IhB144 741 9 := (congrFun (congrFun ehB186 741) 9).trans (fup_ne (by first | decide | omega))
              have k199 := fBz_eq hB186 (a := 741) (j := 9) (by decide +kernel)
              refine And.intro (by first | exact ⟨by decide, by decide⟩ | omega) (And.intro ?_ ?_)
              · intro c200
                refine And.intro (True.intro) ?_
                exact ⟨_, rfl, by omega, (by first | exact ⟨fun hn j hj => (fup_other ehB186 741 j (Or.inl (by decide))).trans ((g0z143 j (by omega)).trans ((fFr_S fhB134 (by decide +kernel) j).trans ((fFr_S fhB104 (by decide +kernel) j).trans (((fup_other ehB89 741 j (Or.inl (by decide))).trans ((fup_other ehB73 741 j (Or.inl (by decide))).trans ((fup_other ehB59 741 j (Or.inl (by decide))).trans ((fup_other ehB45 741 j (Or.inl (by decide))).trans ((fup_other ehB31 741 j (Or.inl (by decide))).trans ((fup_other ehB17 741 j (Or.inl (by decide))).trans (fup_other ehB3 741 j (Or.inl (by decide))))))))))))), fun hn j hj => (fup_other ehB186 741 j (Or.inl (by decide))).trans ((g0z143 j (by omega)).trans ((fFr_S fhB134 (by decide +kernel) j).trans ((fFr_S fhB104 (by decide +kernel) j).trans (((fup_other ehB89 741 j (Or.inl (by decide))).trans ((fup_other ehB73 741 j (Or.inl (by decide))).trans ((fup_other ehB59 741 j (Or.inl (by decide))).trans ((fup_other ehB45 741 j (Or.inl (by decide))).trans ((fup_other ehB31 741 j (Or.inl (by decide))).trans ((fup_other ehB17 741 j (Or.inl (by decide))).trans (fup_other ehB3 741 j (Or.inl (by decide)))))))))))))⟩ | exact ⟨fun hn j hj => (fup_other ehB186 741 j (Or.inl (by decide))).trans ((fFr_S fhB104 (by decide +kernel) j).trans (((fup_other ehB89 741 j (Or.inl (by decide))).trans ((fup_other ehB73 741 j (Or.inl (by decide))).trans ((fup_other ehB59 741 j (Or.inl (by decide))).trans ((fup_other ehB45 741 j (Or.inl (by decide))).trans ((fup_other ehB31 741 j (Or.inl (by decide))).trans ((fup_other ehB17 741 j (Or.inl (by decide))).trans (fup_other ehB3 741 j (Or.inl (by decide))))))))))), fun hn j hj => (fup_other ehB186 741 j (Or.inl (by decide))).trans ((fFr_S fhB104 (by decide +kernel) j).trans (((fup_other ehB89 741 j (Or.inl (by decide))).trans ((fup_other ehB73 741 j (Or.inl (by decide))).trans ((fup_other ehB59 741 j (Or.inl (by decide))).trans ((fup_other ehB45 741 j (Or.inl (by decide))).trans ((fup_other ehB31 741 j (Or.inl (by decide))).trans ((fup_other ehB17 741 j (Or.inl (by decide))).trans (fup_other ehB3 741 j (Or.inl (by decide)))))))))))⟩), (by first | exact (fun hz hn => sOne_to (sOne_be (by omega) (g1z143 (by omega)) (fun j _ => (fup_other ehB186 741 j (Or.inl (by decide))))) (by omega) (by omega) (by omega)) | exact (fun hz => absurd hz (by omega))), (by first | exact Or.inl ⟨by omega, pr_ok (hT_mk (fun j => ((fup_other ehB89 747 j (Or.inl (by decide))).trans ((fup_other ehB73 747 j (Or.inl (by decide))).trans ((fup_other ehB59 747 j (Or.inl (by decide))).trans ((fup_other ehB45 747 j (Or.inl (by decide))).trans ((fup_other ehB31 747 j (Or.inl (by decide))).trans ((fup_other ehB17 747 j (Or.inl (by decide))).trans (fup_other ehB3 747 j (Or.inl (by decide)))))))))) (by omega)) (by omega) (by omega) (by omega) g0z103 (hT_mk (fFr_at fhB104 747 (by decide +kernel) rfl) (by omega)) g0z113 (by omega) g0z133 (hT_mk (fFr_at fhB134 747 (by decide +kernel) rfl) (by omega)) (by omega) (by omega) (by omega) (by omega) g2z143 (hT_mk (fFr_at fhB144 747 (by decide +kernel) rfl) (by omega)) (by omega) (by omega) (sd_same (fun j => fup_other ehB186 741 j (Or.inl (by decide))) (by omega) (by omega)) (by omega)⟩ | exact Or.inr ⟨by omega, pr_bad (hT_mk (fun j => ((fup_other ehB89 747 j (Or.inl (by decide))).trans ((fup_other ehB73 747 j (Or.inl (by decide))).trans ((fup_other ehB59 747 j (Or.inl (by decide))).trans ((fup_other ehB45 747 j (Or.inl (by decide))).trans ((fup_other ehB31 747 j (Or.inl (by decide))).trans ((fup_other ehB17 747 j (Or.inl (by decide))).trans (fup_other ehB3 747 j (Or.inl (by decide)))))))))) (by omega)) (by omega) (by omega) (by omega) g0z103 (hT_mk (fFr_at fhB104 747 (by decide +kernel) rfl) (by omega)) g0z113 (by omega) g0z133 (hT_mk (fFr_at fhB134 747 (by decide +kernel) rfl) (by omega)) (by omega) (by omega) (by omega) (by omega) g2z143 (hT_mk (fFr_at fhB144 747 (by decide +kernel) rfl) (by omega)) (by omega) (by omega) (by omega)⟩ | exact Or.inr ⟨by omega, pr_no (hT_mk (fun j => ((fup_other ehB89 747 j (Or.inl (by decide))).trans ((fup_other ehB73 747 j (Or.inl (by decide))).trans ((fup_other ehB59 747 j (Or.inl (by decide))).trans ((fup_other ehB45 747 j (Or.inl (by decide))).trans ((fup_other ehB31 747 j (Or.inl (by decide))).trans ((fup_other ehB17 747 j (Or.inl (by decide))).trans (fup_other ehB3 747 j (Or.inl (by decide)))))))))) (by omega)) (by omega) (by omega) (by omega) g0z103 (hT_mk (fFr_at fhB104 747 (by decide +kernel) rfl) (by omega)) g0z113 (by omega) (by omega)⟩), (by intro q; omega), (by intro q; omega), (mR_fr (fFr_of hB186) (by decide +kernel))⟩
              · intro c201
                refine And.intro (True.intro) ?_
                exact ⟨_, rfl, by omega, (by first | exact ⟨fun hn j hj => (fup_other ehB186 741 j (Or.inl (by decide))).trans ((g0z143 j (by omega)).trans ((fFr_S fhB134 (by decide +kernel) j).trans ((fFr_S fhB104 (by decide +kernel) j).trans (((fup_other ehB89 741 j (Or.inl (by decide))).trans ((fup_other ehB73 741 j (Or.inl (by decide))).trans ((fup_other ehB59 741 j (Or.inl (by decide))).trans ((fup_other ehB45 741 j (Or.inl (by decide))).trans ((fup_other ehB31 741 j (Or.inl (by decide))).trans ((fup_other ehB17 741 j (Or.inl (by decide))).trans (fup_other ehB3 741 j (Or.inl (by decide))))))))))))), fun hn j hj => (fup_other ehB186 741 j (Or.inl (by decide))).trans ((g0z143 j (by omega)).trans ((fFr_S fhB134 (by decide +kernel) j).trans ((fFr_S fhB104 (by decide +kernel) j).trans (((fup_other ehB89 741 j (Or.inl (by decide))).trans ((fup_other ehB73 741 j (Or.inl (by decide))).trans ((fup_other ehB59 741 j (Or.inl (by decide))).trans ((fup_other ehB45 741 j (Or.inl (by decide))).trans ((fup_other ehB31 741 j (Or.inl (by decide))).trans ((fup_other ehB17 741 j (Or.inl (by decide))).trans (fup_other ehB3 741 j (Or.inl (by decide)))))))))))))⟩ | exact ⟨fun hn j hj => (fup_other ehB186 741 j (Or.inl (by decide))).trans ((fFr_S fhB104 (by decide +kernel) j).trans (((fup_other ehB89 741 j (Or.inl (by decide))).trans ((fup_other ehB73 741 j (Or.inl (by decide))).trans ((fup_other ehB59 741 j (Or.inl (by decide))).trans ((fup_other ehB45 741 j (Or.inl (by decide))).trans ((fup_other ehB31 741 j (Or.inl (by decide))).trans ((fup_other ehB17 741 j (Or.inl (by decide))).trans (fup_other ehB3 741 j (Or.inl (by decide))))))))))), fun hn j hj => (fup_other ehB186 741 j (Or.inl (by decide))).trans ((fFr_S fhB104 (by decide +kernel) j).trans (((fup_other ehB89 741 j (Or.inl (by decide))).trans ((fup_other ehB73 741 j (Or.inl (by decide))).trans ((fup_other ehB59 741 j (Or.inl (by decide))).trans ((fup_other ehB45 741 j (Or.inl (by decide))).trans ((fup_other ehB31 741 j (Or.inl (by decide))).trans ((fup_other ehB17 741 j (Or.inl (by decide))).trans (fup_other ehB3 741 j (Or.inl (by decide)))))))))))⟩), (by first | exact (fun hz hn => sOne_to (sOne_be (by omega) (g1z143 (by omega)) (fun j _ => (fup_other ehB186 741 j (Or.inl (by decide))))) (by omega) (by omega) (by omega)) | exact (fun hz => absurd hz (by omega))), (by first | exact Or.inl ⟨by omega, pr_ok (hT_mk (fun j => ((fup_other ehB89 747 j (Or.inl (by decide))).trans ((fup_other ehB73 747 j (Or.inl (by decide))).trans ((fup_other ehB59 747 j (Or.inl (by decide))).trans ((fup_other ehB45 747 j (Or.inl (by decide))).trans ((fup_other ehB31 747 j (Or.inl (by decide))).trans ((fup_other ehB17 747 j (Or.inl (by decide))).trans (fup_other ehB3 747 j (Or.inl (by decide)))))))))) (by omega)) (by omega) (by omega) (by omega) g0z103 (hT_mk (fFr_at fhB104 747 (by decide +kernel) rfl) (by omega)) g0z113 (by omega) g0z133 (hT_mk (fFr_at fhB134 747 (by decide +kernel) rfl) (by omega)) (by omega) (by omega) (by omega) (by omega) g2z143 (hT_mk (fFr_at fhB144 747 (by decide +kernel) rfl) (by omega)) (by omega) (by omega) (sd_same (fun j => fup_other ehB186 741 j (Or.inl (by decide))) (by omega) (by omega)) (by omega)⟩ | exact Or.inr ⟨by omega, pr_bad (hT_mk (fun j => ((fup_other ehB89 747 j (Or.inl (by decide))).trans ((fup_other ehB73 747 j (Or.inl (by decide))).trans ((fup_other ehB59 747 j (Or.inl (by decide))).trans ((fup_other ehB45 747 j (Or.inl (by decide))).trans ((fup_other ehB31 747 j (Or.inl (by decide))).trans ((fup_other ehB17 747 j (Or.inl (by decide))).trans (fup_other ehB3 747 j (Or.inl (by decide)))))))))) (by omega)) (by omega) (by omega) (by omega) g0z103 (hT_mk (fFr_at fhB104 747 (by decide +kernel) rfl) (by omega)) g0z113 (by omega) g0z133 (hT_mk (fFr_at fhB134 747 (by decide +kernel) rfl) (by omega)) (by omega) (by omega) (by omega) (by omega) g2z143 (hT_mk (fFr_at fhB144 747 (by decide +kernel) rfl) (by omega)) (by omega) (by omega) (by omega)⟩ | exact Or.inr ⟨by omega, pr_no (hT_mk (fun j => ((fup_other ehB89 747 j (Or.inl (by decide))).trans ((fup_other ehB73 747 j (Or.inl (by decide))).trans ((fup_other ehB59 747 j (Or.inl (by decide))).trans ((fup_other ehB45 747 j (Or.inl (by decide))).trans ((fup_other ehB31 747 j (Or.inl (by decide))).trans ((fup_other ehB17 747 j (Or.inl (by decide))).trans (fup_other ehB3 747 j (Or.inl (by decide)))))))))) (by omega)) (by omega) (by omega) (by omega) g0z103 (hT_mk (fFr_at fhB104 747 (by decide +kernel) rfl) (by omega)) g0z113 (by omega) (by omega)⟩), (by intro q; omega), (by intro q; omega), (mR_fr (fFr_of hB186) (by decide +kernel))⟩
      · intro c202
        refine And.intro (by first | exact ⟨by decide, by decide⟩ | omega) (And.intro ?_ ?_)
        · intro c203
          refine And.intro ⟨rfl, by decide, by decide⟩ (And.intro rfl (And.intro (Or.inl rfl) (fputf fb_740_8 (by decide +kernel) hW (by first | exact ⟨by decide, by decide⟩ | omega) ?_)))
          intro IhB204 ehB204 hB204
          have t205 := fup_at ehB204 8 (by first | rfl | omega)
          have t206 : IhB204 740 9 = IhB104 740 9 := (congrFun (congrFun ehB204 740) 9).trans (fup_ne (by first | decide | omega))
          have t207 : IhB204 740 10 = IhB104 740 10 := (congrFun (congrFun ehB204 740) 10).trans (fup_ne (by first | decide | omega))
          have t208 : IhB204 740 11 = IhB104 740 11 := (congrFun (congrFun ehB204 740) 11).trans (fup_ne (by first | decide | omega))
          have t209 : IhB204 740 12 = IhB104 740 12 := (congrFun (congrFun ehB204 740) 12).trans (fup_ne (by first | decide | omega))
          have t210 : IhB204 740 13 = IhB104 740 13 := (congrFun (congrFun ehB204 740) 13).trans (fup_ne (by first | decide | omega))
          have t211 : IhB204 740 14 = IhB104 740 14 := (congrFun (congrFun ehB204 740) 14).trans (fup_ne (by first | decide | omega))
          have t212 : IhB204 740 15 = IhB104 740 15 := (congrFun (congrFun ehB204 740) 15).trans (fup_ne (by first | decide | omega))
          have t213 : IhB204 740 16 = IhB104 740 16 := (congrFun (congrFun ehB204 740) 16).trans (fup_ne (by first | decide | omega))
          have t214 : IhB204 740 17 = IhB104 740 17 := (congrFun (congrFun ehB204 740) 17).trans (fup_ne (by first | decide | omega))
          have t215 : IhB204 740 18 = IhB104 740 18 := (congrFun (congrFun ehB204 740) 18).trans (fup_ne (by first | decide | omega))
          have t216 : IhB204 741 9 = IhB104 741 9 := (congrFun (congrFun ehB204 741) 9).trans (fup_ne (by first | decide | omega))
          have k217 := fBz_eq hB204 (a := 741) (j := 9) (by decide +kernel)
          refine And.intro (by first | exact ⟨by decide, by decide⟩ | omega) (And.intro ?_ ?_)
          · intro c218
            refine And.intro (True.intro) ?_
            exact ⟨_, rfl, by omega, (by first | exact ⟨fun hn j hj => (fup_other ehB204 741 j (Or.inl (by decide))).trans ((g0z143 j (by omega)).trans ((fFr_S fhB134 (by decide +kernel) j).trans ((fFr_S fhB104 (by decide +kernel) j).trans (((fup_other ehB89 741 j (Or.inl (by decide))).trans ((fup_other ehB73 741 j (Or.inl (by decide))).trans ((fup_other ehB59 741 j (Or.inl (by decide))).trans ((fup_other ehB45 741 j (Or.inl (by decide))).trans ((fup_other ehB31 741 j (Or.inl (by decide))).trans ((fup_other ehB17 741 j (Or.inl (by decide))).trans (fup_other ehB3 741 j (Or.inl (by decide))))))))))))), fun hn j hj => (fup_other ehB204 741 j (Or.inl (by decide))).trans ((g0z143 j (by omega)).trans ((fFr_S fhB134 (by decide +kernel) j).trans ((fFr_S fhB104 (by decide +kernel) j).trans (((fup_other ehB89 741 j (Or.inl (by decide))).trans ((fup_other ehB73 741 j (Or.inl (by decide))).trans ((fup_other ehB59 741 j (Or.inl (by decide))).trans ((fup_other ehB45 741 j (Or.inl (by decide))).trans ((fup_other ehB31 741 j (Or.inl (by decide))).trans ((fup_other ehB17 741 j (Or.inl (by decide))).trans (fup_other ehB3 741 j (Or.inl (by decide)))))))))))))⟩ | exact ⟨fun hn j hj => (fup_other ehB204 741 j (Or.inl (by decide))).trans ((fFr_S fhB104 (by decide +kernel) j).trans (((fup_other ehB89 741 j (Or.inl (by decide))).trans ((fup_other ehB73 741 j (Or.inl (by decide))).trans ((fup_other ehB59 741 j (Or.inl (by decide))).trans ((fup_other ehB45 741 j (Or.inl (by decide))).trans ((fup_other ehB31 741 j (Or.inl (by decide))).trans ((fup_other ehB17 741 j (Or.inl (by decide))).trans (fup_other ehB3 741 j (Or.inl (by decide))))))))))), fun hn j hj => (fup_other ehB204 741 j (Or.inl (by decide))).trans ((fFr_S fhB104 (by decide +kernel) j).trans (((fup_other ehB89 741 j (Or.inl (by decide))).trans ((fup_other ehB73 741 j (Or.inl (by decide))).trans ((fup_other ehB59 741 j (Or.inl (by decide))).trans ((fup_other ehB45 741 j (Or.inl (by decide))).trans ((fup_other ehB31 741 j (Or.inl (by decide))).trans ((fup_other ehB17 741 j (Or.inl (by decide))).trans (fup_other ehB3 741 j (Or.inl (by decide)))))))))))⟩), (by first | exact (fun hz hn => sOne_to (sOne_be (by omega) (g1z143 (by omega)) (fun j _ => (fup_other ehB204 741 j (Or.inl (by decide))))) (by omega) (by omega) (by omega)) | exact (fun hz => absurd hz (by omega))), (by first | exact Or.inl ⟨by omega, pr_ok (hT_mk (fun j => ((fup_other ehB89 747 j (Or.inl (by decide))).trans ((fup_other ehB73 747 j (Or.inl (by decide))).trans ((fup_other ehB59 747 j (Or.inl (by decide))).trans ((fup_other ehB45 747 j (Or.inl (by decide))).trans ((fup_other ehB31 747 j (Or.inl (by decide))).trans ((fup_other ehB17 747 j (Or.inl (by decide))).trans (fup_other ehB3 747 j (Or.inl (by decide)))))))))) (by omega)) (by omega) (by omega) (by omega) g0z103 (hT_mk (fFr_at fhB104 747 (by decide +kernel) rfl) (by omega)) g0z113 (by omega) g0z133 (hT_mk (fFr_at fhB134 747 (by decide +kernel) rfl) (by omega)) (by omega) (by omega) (by omega) (by omega) g2z143 (hT_mk (fFr_at fhB144 747 (by decide +kernel) rfl) (by omega)) (by omega) (by omega) (sd_same (fun j => fup_other ehB204 741 j (Or.inl (by decide))) (by omega) (by omega)) (by omega)⟩ | exact Or.inr ⟨by omega, pr_bad (hT_mk (fun j => ((fup_other ehB89 747 j (Or.inl (by decide))).trans ((fup_other ehB73 747 j (Or.inl (by decide))).trans ((fup_other ehB59 747 j (Or.inl (by decide))).trans ((fup_other ehB45 747 j (Or.inl (by decide))).trans ((fup_other ehB31 747 j (Or.inl (by decide))).trans ((fup_other ehB17 747 j (Or.inl (by decide))).trans (fup_other ehB3 747 j (Or.inl (by decide)))))))))) (by omega)) (by omega) (by omega) (by omega) g0z103 (hT_mk (fFr_at fhB104 747 (by decide +kernel) rfl) (by omega)) g0z113 (by omega) g0z133 (hT_mk (fFr_at fhB134 747 (by decide +kernel) rfl) (by omega)) (by omega) (by omega) (by omega) (by omega) g2z143 (hT_mk (fFr_at fhB144 747 (by decide +kernel) rfl) (by omega)) (by omega) (by omega) (by omega)⟩ | exact Or.inr ⟨by omega, pr_no (hT_mk (fun j => ((fup_other ehB89 747 j (Or.inl (by decide))).trans ((fup_other ehB73 747 j (Or.inl (by decide))).trans ((fup_other ehB59 747 j (Or.inl (by decide))).trans ((fup_other ehB45 747 j (Or.inl (by decide))).trans ((fup_other ehB31 747 j (Or.inl (by decide))).trans ((fup_other ehB17 747 j (Or.inl (by decide))).trans (fup_other ehB3 747 j (Or.inl (by decide)))))))))) (by omega)) (by omega) (by omega) (by omega) g0z103 (hT_mk (fFr_at fhB104 747 (by decide +kernel) rfl) (by omega)) g0z113 (by omega) (by omega)⟩), (by intro q; omega), (by intro q; omega), (mR_fr (fFr_of hB204) (by decide +kernel))⟩
          · intro c219
            refine And.intro (True.intro) ?_
            exact ⟨_, rfl, by omega, (by first | exact ⟨fun hn j hj => (fup_other ehB204 741 j (Or.inl (by decide))).trans ((g0z143 j (by omega)).trans ((fFr_S fhB134 (by decide +kernel) j).trans ((fFr_S fhB104 (by decide +kernel) j).trans (((fup_other ehB89 741 j (Or.inl (by decide))).trans ((fup_other ehB73 741 j (Or.inl (by decide))).trans ((fup_other ehB59 741 j (Or.inl (by decide))).trans ((fup_other ehB45 741 j (Or.inl (by decide))).trans ((fup_other ehB31 741 j (Or.inl (by decide))).trans ((fup_other ehB17 741 j (Or.inl (by decide))).trans (fup_other ehB3 741 j (Or.inl (by decide))))))))))))), fun hn j hj => (fup_other ehB204 741 j (Or.inl (by decide))).trans ((g0z143 j (by omega)).trans ((fFr_S fhB134 (by decide +kernel) j).trans ((fFr_S fhB104 (by decide +kernel) j).trans (((fup_other ehB89 741 j (Or.inl (by decide))).trans ((fup_other ehB73 741 j (Or.inl (by decide))).trans ((fup_other ehB59 741 j (Or.inl (by decide))).trans ((fup_other ehB45 741 j (Or.inl (by decide))).trans ((fup_other ehB31 741 j (Or.inl (by decide))).trans ((fup_other ehB17 741 j (Or.inl (by decide))).trans (fup_other ehB3 741 j (Or.inl (by decide)))))))))))))⟩ | exact ⟨fun hn j hj => (fup_other ehB204 741 j (Or.inl (by decide))).trans ((fFr_S fhB104 (by decide +kernel) j).trans (((fup_other ehB89 741 j (Or.inl (by decide))).trans ((fup_other ehB73 741 j (Or.inl (by decide))).trans ((fup_other ehB59 741 j (Or.inl (by decide))).trans ((fup_other ehB45 741 j (Or.inl (by decide))).trans ((fup_other ehB31 741 j (Or.inl (by decide))).trans ((fup_other ehB17 741 j (Or.inl (by decide))).trans (fup_other ehB3 741 j (Or.inl (by decide))))))))))), fun hn j hj => (fup_other ehB204 741 j (Or.inl (by decide))).trans ((fFr_S fhB104 (by decide +kernel) j).trans (((fup_other ehB89 741 j (Or.inl (by decide))).trans ((fup_other ehB73 741 j (Or.inl (by decide))).trans ((fup_other ehB59 741 j (Or.inl (by decide))).trans ((fup_other ehB45 741 j (Or.inl (by decide))).trans ((fup_other ehB31 741 j (Or.inl (by decide))).trans ((fup_other ehB17 741 j (Or.inl (by decide))).trans (fup_other ehB3 741 j (Or.inl (by decide)))))))))))⟩), (by first | exact (fun hz hn => sOne_to (sOne_be (by omega) (g1z143 (by omega)) (fun j _ => (fup_other ehB204 741 j (Or.inl (by decide))))) (by omega) (by omega) (by omega)) | exact (fun hz => absurd hz (by omega))), (by first | exact Or.inl ⟨by omega, pr_ok (hT_mk (fun j => ((fup_other ehB89 747 j (Or.inl (by decide))).trans ((fup_other ehB73 747 j (Or.inl (by decide))).trans ((fup_other ehB59 747 j (Or.inl (by decide))).trans ((fup_other ehB45 747 j (Or.inl (by decide))).trans ((fup_other ehB31 747 j (Or.inl (by decide))).trans ((fup_other ehB17 747 j (Or.inl (by decide))).trans (fup_other ehB3 747 j (Or.inl (by decide)))))))))) (by omega)) (by omega) (by omega) (by omega) g0z103 (hT_mk (fFr_at fhB104 747 (by decide +kernel) rfl) (by omega)) g0z113 (by omega) g0z133 (hT_mk (fFr_at fhB134 747 (by decide +kernel) rfl) (by omega)) (by omega) (by omega) (by omega) (by omega) g2z143 (hT_mk (fFr_at fhB144 747 (by decide +kernel) rfl) (by omega)) (by omega) (by omega) (sd_same (fun j => fup_other ehB204 741 j (Or.inl (by decide))) (by omega) (by omega)) (by omega)⟩ | exact Or.inr ⟨by omega, pr_bad (hT_mk (fun j => ((fup_other ehB89 747 j (Or.inl (by decide))).trans ((fup_other ehB73 747 j (Or.inl (by decide))).trans ((fup_other ehB59 747 j (Or.inl (by decide))).trans ((fup_other ehB45 747 j (Or.inl (by decide))).trans ((fup_other ehB31 747 j (Or.inl (by decide))).trans ((fup_other ehB17 747 j (Or.inl (by decide))).trans (fup_other ehB3 747 j (Or.inl (by decide)))))))))) (by omega)) (by omega) (by omega) (by omega) g0z103 (hT_mk (fFr_at fhB104 747 (by decide +kernel) rfl) (by omega)) g0z113 (by omega) g0z133 (hT_mk (fFr_at fhB134 747 (by decide +kernel) rfl) (by omega)) (by omega) (by omega) (by omega) (by omega) g2z143 (hT_mk (fFr_at fhB144 747 (by decide +kernel) rfl) (by omega)) (by omega) (by omega) (by omega)⟩ | exact Or.inr ⟨by omega, pr_no (hT_mk (fun j => ((fup_other ehB89 747 j (Or.inl (by decide))).trans ((fup_other ehB73 747 j (Or.inl (by decide))).trans ((fup_other ehB59 747 j (Or.inl (by decide))).trans ((fup_other ehB45 747 j (Or.inl (by decide))).trans ((fup_other ehB31 747 j (Or.inl (by decide))).trans ((fup_other ehB17 747 j (Or.inl (by decide))).trans (fup_other ehB3 747 j (Or.inl (by decide)))))))))) (by omega)) (by omega) (by omega) (by omega) g0z103 (hT_mk (fFr_at fhB104 747 (by decide +kernel) rfl) (by omega)) g0z113 (by omega) (by omega)⟩), (by intro q; omega), (by intro q; omega), (mR_fr (fFr_of hB204) (by decide +kernel))⟩
        · intro c220
          refine Exists.intro xm_314 (And.intro mi_314 (And.intro ⟨rfl, rfl, rfl, rfl⟩ (And.intro rfl ?_)))
          refine fcall _ h0 (fzs_sub (by decide +kernel) hW) hB104 (ct_M_next_c8003 (fBz h0 hB104) (by omega)) ?_
          rintro IhB222 _ hB222 fhB222 ⟨rfl, hz221, g0z221, g1z221⟩
          have t223 := fhB222 740 8 (by decide +kernel)
          have t224 := fhB222 740 14 (by decide +kernel)
          have t225 := fhB222 740 15 (by decide +kernel)
          have t226 := fhB222 740 16 (by decide +kernel)
          have t227 := fhB222 740 17 (by decide +kernel)
          have t228 := fhB222 740 18 (by decide +kernel)
          have t229 := fhB222 741 9 (by decide +kernel)
          have k230 := fBz_eq hB222 (a := 741) (j := 9) (by decide +kernel)
          refine Exists.intro xm_335 (And.intro mi_335 (And.intro ⟨rfl, rfl, rfl, rfl⟩ (And.intro rfl ?_)))
          refine fcall _ h0 (fzs_sub (by decide +kernel) hW) hB222 (ct_M_either_c00e3 (fBz h0 hB222) (by first | exact ⟨Int.le_trans (by decide) (Int.le_trans (Int.le_refl _) c202), hz113.2⟩ | omega) (by omega) (by omega) (by omega) (by unfold laP; omega) (by omega) g1z221) ?_
          rintro IhB232 _ hB232 fhB232 ⟨z231, rfl, hz231, g0z231, g1z231, g2z231, g3z231, g4z231⟩
          have t233 := fhB232 740 8 (by decide +kernel)
          have t234 := fhB232 740 17 (by decide +kernel)
          have t235 := fhB232 741 9 (by decide +kernel)
          have k236 := fBz_eq hB232 (a := 741) (j := 9) (by decide +kernel)
          refine And.intro (by omega) (And.intro ?_ ?_)
          · intro c237
            refine And.intro ⟨rfl, by decide, by decide⟩ (And.intro rfl (And.intro (Or.inl rfl) (fputf fb_740_8 (by decide +kernel) hW (by first | exact ⟨by decide, by decide⟩ | omega) ?_)))
            intro IhB238 ehB238 hB238
            have t239 := fup_at ehB238 8 (by first | rfl | omega)
            have t240 : IhB238 740 9 = IhB232 740 9 := (congrFun (congrFun ehB238 740) 9).trans (fup_ne (by first | decide | omega))
            have t241 : IhB238 740 10 = IhB232 740 10 := (congrFun (congrFun ehB238 740) 10).trans (fup_ne (by first | decide | omega))
            have t242 : IhB238 740 11 = IhB232 740 11 := (congrFun (congrFun ehB238 740) 11).trans (fup_ne (by first | decide | omega))
            have t243 : IhB238 740 12 = IhB232 740 12 := (congrFun (congrFun ehB238 740) 12).trans (fup_ne (by first | decide | omega))
            have t244 : IhB238 740 13 = IhB232 740 13 := (congrFun (congrFun ehB238 740) 13).trans (fup_ne (by first | decide | omega))
            have t245 : IhB238 740 14 = IhB232 740 14 := (congrFun (congrFun ehB238 740) 14).trans (fup_ne (by first | decide | omega))
            have t246 : IhB238 740 15 = IhB232 740 15 := (congrFun (congrFun ehB238 740) 15).trans (fup_ne (by first | decide | omega))
            have t247 : IhB238 740 16 = IhB232 740 16 := (congrFun (congrFun ehB238 740) 16).trans (fup_ne (by first | decide | omega))
            have t248 : IhB238 740 17 = IhB232 740 17 := (congrFun (congrFun ehB238 740) 17).trans (fup_ne (by first | decide | omega))
            have t249 : IhB238 740 18 = IhB232 740 18 := (congrFun (congrFun ehB238 740) 18).trans (fup_ne (by first | decide | omega))
            have t250 : IhB238 741 9 = IhB232 741 9 := (congrFun (congrFun ehB238 741) 9).trans (fup_ne (by first | decide | omega))
            have k251 := fBz_eq hB238 (a := 741) (j := 9) (by decide +kernel)
            refine And.intro (by omega) (And.intro ?_ ?_)
            · intro c252
              refine And.intro (True.intro) ?_
              exact ⟨_, rfl, by omega, (by first | exact ⟨fun hn j hj => (fup_other ehB238 741 j (Or.inl (by decide))).trans ((g0z231 j (by omega)).trans ((fFr_S fhB222 (by decide +kernel) j).trans ((fFr_S fhB104 (by decide +kernel) j).trans (((fup_other ehB89 741 j (Or.inl (by decide))).trans ((fup_other ehB73 741 j (Or.inl (by decide))).trans ((fup_other ehB59 741 j (Or.inl (by decide))).trans ((fup_other ehB45 741 j (Or.inl (by decide))).trans ((fup_other ehB31 741 j (Or.inl (by decide))).trans ((fup_other ehB17 741 j (Or.inl (by decide))).trans (fup_other ehB3 741 j (Or.inl (by decide))))))))))))), fun hn j hj => (fup_other ehB238 741 j (Or.inl (by decide))).trans ((g0z231 j (by omega)).trans ((fFr_S fhB222 (by decide +kernel) j).trans ((fFr_S fhB104 (by decide +kernel) j).trans (((fup_other ehB89 741 j (Or.inl (by decide))).trans ((fup_other ehB73 741 j (Or.inl (by decide))).trans ((fup_other ehB59 741 j (Or.inl (by decide))).trans ((fup_other ehB45 741 j (Or.inl (by decide))).trans ((fup_other ehB31 741 j (Or.inl (by decide))).trans ((fup_other ehB17 741 j (Or.inl (by decide))).trans (fup_other ehB3 741 j (Or.inl (by decide)))))))))))))⟩ | exact ⟨fun hn j hj => (fup_other ehB238 741 j (Or.inl (by decide))).trans ((fFr_S fhB104 (by decide +kernel) j).trans (((fup_other ehB89 741 j (Or.inl (by decide))).trans ((fup_other ehB73 741 j (Or.inl (by decide))).trans ((fup_other ehB59 741 j (Or.inl (by decide))).trans ((fup_other ehB45 741 j (Or.inl (by decide))).trans ((fup_other ehB31 741 j (Or.inl (by decide))).trans ((fup_other ehB17 741 j (Or.inl (by decide))).trans (fup_other ehB3 741 j (Or.inl (by decide))))))))))), fun hn j hj => (fup_other ehB238 741 j (Or.inl (by decide))).trans ((fFr_S fhB104 (by decide +kernel) j).trans (((fup_other ehB89 741 j (Or.inl (by decide))).trans ((fup_other ehB73 741 j (Or.inl (by decide))).trans ((fup_other ehB59 741 j (Or.inl (by decide))).trans ((fup_other ehB45 741 j (Or.inl (by decide))).trans ((fup_other ehB31 741 j (Or.inl (by decide))).trans ((fup_other ehB17 741 j (Or.inl (by decide))).trans (fup_other ehB3 741 j (Or.inl (by decide)))))))))))⟩), (by first | exact (fun hz hn => sOne_to (sOne_be (by omega) (g1z231 (by omega)) (fun j _ => (fup_other ehB238 741 j (Or.inl (by decide))))) (by omega) (by omega) (by omega)) | exact (fun hz => absurd hz (by omega))), (by first | exact Or.inl ⟨by omega, pr_ok (hT_mk (fun j => ((fup_other ehB89 747 j (Or.inl (by decide))).trans ((fup_other ehB73 747 j (Or.inl (by decide))).trans ((fup_other ehB59 747 j (Or.inl (by decide))).trans ((fup_other ehB45 747 j (Or.inl (by decide))).trans ((fup_other ehB31 747 j (Or.inl (by decide))).trans ((fup_other ehB17 747 j (Or.inl (by decide))).trans (fup_other ehB3 747 j (Or.inl (by decide)))))))))) (by omega)) (by omega) (by omega) (by omega) g0z103 (hT_mk (fFr_at fhB104 747 (by decide +kernel) rfl) (by omega)) g0z113 (by omega) g0z221 (hT_mk (fFr_at fhB222 747 (by decide +kernel) rfl) (by omega)) (by omega) (by omega) (by omega) (by omega) g2z231 (hT_mk (fFr_at fhB232 747 (by decide +kernel) rfl) (by omega)) (by omega) (by omega) (sd_same (fun j => fup_other ehB238 741 j (Or.inl (by decide))) (by omega) (by omega)) (by omega)⟩ | exact Or.inr ⟨by omega, pr_bad (hT_mk (fun j => ((fup_other ehB89 747 j (Or.inl (by decide))).trans ((fup_other ehB73 747 j (Or.inl (by decide))).trans ((fup_other ehB59 747 j (Or.inl (by decide))).trans ((fup_other ehB45 747 j (Or.inl (by decide))).trans ((fup_other ehB31 747 j (Or.inl (by decide))).trans ((fup_other ehB17 747 j (Or.inl (by decide))).trans (fup_other ehB3 747 j (Or.inl (by decide)))))))))) (by omega)) (by omega) (by omega) (by omega) g0z103 (hT_mk (fFr_at fhB104 747 (by decide +kernel) rfl) (by omega)) g0z113 (by omega) g0z221 (hT_mk (fFr_at fhB222 747 (by decide +kernel) rfl) (by omega)) (by omega) (by omega) (by omega) (by omega) g2z231 (hT_mk (fFr_at fhB232 747 (by decide +kernel) rfl) (by omega)) (by omega) (by omega) (by omega)⟩ | exact Or.inr ⟨by omega, pr_no (hT_mk (fun j => ((fup_other ehB89 747 j (Or.inl (by decide))).trans ((fup_other ehB73 747 j (Or.inl (by decide))).trans ((fup_other ehB59 747 j (Or.inl (by decide))).trans ((fup_other ehB45 747 j (Or.inl (by decide))).trans ((fup_other ehB31 747 j (Or.inl (by decide))).trans ((fup_other ehB17 747 j (Or.inl (by decide))).trans (fup_other ehB3 747 j (Or.inl (by decide)))))))))) (by omega)) (by omega) (by omega) (by omega) g0z103 (hT_mk (fFr_at fhB104 747 (by decide +kernel) rfl) (by omega)) g0z113 (by omega) (by omega)⟩), (by intro q; omega), (by intro q; omega), (mR_fr (fFr_of hB238) (by decide +kernel))⟩
            · intro c253
              refine And.intro (True.intro) ?_
              exact ⟨_, rfl, by omega, (by first | exact ⟨fun hn j hj => (fup_other ehB238 741 j (Or.inl (by decide))).trans ((g0z231 j (by omega)).trans ((fFr_S fhB222 (by decide +kernel) j).trans ((fFr_S fhB104 (by decide +kernel) j).trans (((fup_other ehB89 741 j (Or.inl (by decide))).trans ((fup_other ehB73 741 j (Or.inl (by decide))).trans ((fup_other ehB59 741 j (Or.inl (by decide))).trans ((fup_other ehB45 741 j (Or.inl (by decide))).trans ((fup_other ehB31 741 j (Or.inl (by decide))).trans ((fup_other ehB17 741 j (Or.inl (by decide))).trans (fup_other ehB3 741 j (Or.inl (by decide))))))))))))), fun hn j hj => (fup_other ehB238 741 j (Or.inl (by decide))).trans ((g0z231 j (by omega)).trans ((fFr_S fhB222 (by decide +kernel) j).trans ((fFr_S fhB104 (by decide +kernel) j).trans (((fup_other ehB89 741 j (Or.inl (by decide))).trans ((fup_other ehB73 741 j (Or.inl (by decide))).trans ((fup_other ehB59 741 j (Or.inl (by decide))).trans ((fup_other ehB45 741 j (Or.inl (by decide))).trans ((fup_other ehB31 741 j (Or.inl (by decide))).trans ((fup_other ehB17 741 j (Or.inl (by decide))).trans (fup_other ehB3 741 j (Or.inl (by decide)))))))))))))⟩ | exact ⟨fun hn j hj => (fup_other ehB238 741 j (Or.inl (by decide))).trans ((fFr_S fhB104 (by decide +kernel) j).trans (((fup_other ehB89 741 j (Or.inl (by decide))).trans ((fup_other ehB73 741 j (Or.inl (by decide))).trans ((fup_other ehB59 741 j (Or.inl (by decide))).trans ((fup_other ehB45 741 j (Or.inl (by decide))).trans ((fup_other ehB31 741 j (Or.inl (by decide))).trans ((fup_other ehB17 741 j (Or.inl (by decide))).trans (fup_other ehB3 741 j (Or.inl (by decide))))))))))), fun hn j hj => (fup_other ehB238 741 j (Or.inl (by decide))).trans ((fFr_S fhB104 (by decide +kernel) j).trans (((fup_other ehB89 741 j (Or.inl (by decide))).trans ((fup_other ehB73 741 j (Or.inl (by decide))).trans ((fup_other ehB59 741 j (Or.inl (by decide))).trans ((fup_other ehB45 741 j (Or.inl (by decide))).trans ((fup_other ehB31 741 j (Or.inl (by decide))).trans ((fup_other ehB17 741 j (Or.inl (by decide))).trans (fup_other ehB3 741 j (Or.inl (by decide)))))))))))⟩), (by first | exact (fun hz hn => sOne_to (sOne_be (by omega) (g1z231 (by omega)) (fun j _ => (fup_other ehB238 741 j (Or.inl (by decide))))) (by omega) (by omega) (by omega)) | exact (fun hz => absurd hz (by omega))), (by first | exact Or.inl ⟨by omega, pr_ok (hT_mk (fun j => ((fup_other ehB89 747 j (Or.inl (by decide))).trans ((fup_other ehB73 747 j (Or.inl (by decide))).trans ((fup_other ehB59 747 j (Or.inl (by decide))).trans ((fup_other ehB45 747 j (Or.inl (by decide))).trans ((fup_other ehB31 747 j (Or.inl (by decide))).trans ((fup_other ehB17 747 j (Or.inl (by decide))).trans (fup_other ehB3 747 j (Or.inl (by decide)))))))))) (by omega)) (by omega) (by omega) (by omega) g0z103 (hT_mk (fFr_at fhB104 747 (by decide +kernel) rfl) (by omega)) g0z113 (by omega) g0z221 (hT_mk (fFr_at fhB222 747 (by decide +kernel) rfl) (by omega)) (by omega) (by omega) (by omega) (by omega) g2z231 (hT_mk (fFr_at fhB232 747 (by decide +kernel) rfl) (by omega)) (by omega) (by omega) (sd_same (fun j => fup_other ehB238 741 j (Or.inl (by decide))) (by omega) (by omega)) (by omega)⟩ | exact Or.inr ⟨by omega, pr_bad (hT_mk (fun j => ((fup_other ehB89 747 j (Or.inl (by decide))).trans ((fup_other ehB73 747 j (Or.inl (by decide))).trans ((fup_other ehB59 747 j (Or.inl (by decide))).trans ((fup_other ehB45 747 j (Or.inl (by decide))).trans ((fup_other ehB31 747 j (Or.inl (by decide))).trans ((fup_other ehB17 747 j (Or.inl (by decide))).trans (fup_other ehB3 747 j (Or.inl (by decide)))))))))) (by omega)) (by omega) (by omega) (by omega) g0z103 (hT_mk (fFr_at fhB104 747 (by decide +kernel) rfl) (by omega)) g0z113 (by omega) g0z221 (hT_mk (fFr_at fhB222 747 (by decide +kernel) rfl) (by omega)) (by omega) (by omega) (by omega) (by omega) g2z231 (hT_mk (fFr_at fhB232 747 (by decide +kernel) rfl) (by omega)) (by omega) (by omega) (by omega)⟩ | exact Or.inr ⟨by omega, pr_no (hT_mk (fun j => ((fup_other ehB89 747 j (Or.inl (by decide))).trans ((fup_other ehB73 747 j (Or.inl (by decide))).trans ((fup_other ehB59 747 j (Or.inl (by decide))).trans ((fup_other ehB45 747 j (Or.inl (by decide))).trans ((fup_other ehB31 747 j (Or.inl (by decide))).trans ((fup_other ehB17 747 j (Or.inl (by decide))).trans (fup_other ehB3 747 j (Or.inl (by decide)))))))))) (by omega)) (by omega) (by omega) (by omega) g0z103 (hT_mk (fFr_at fhB104 747 (by decide +kernel) rfl) (by omega)) g0z113 (by omega) (by omega)⟩), (by intro q; omega), (by intro q; omega), (mR_fr (fFr_of hB238) (by decide +kernel))⟩
          · intro c254
            have u94 := g4z231 (by omega)
            refine And.intro ⟨rfl, by decide, by decide⟩ (fgetf fb_740_11 h0 hB232 ?_)
            intro z255 lz255 uz255 qz255
            refine And.intro (by first | exact fi_ lz255 uz255 rfl | omega) (And.intro ?_ ?_)
            · intro c256
              refine And.intro ⟨rfl, by decide, by decide⟩ (And.intro rfl (And.intro (Or.inl rfl) (fputf fb_740_8 (by decide +kernel) hW (by first | exact ⟨by decide, by decide⟩ | omega) ?_)))
              intro IhB257 ehB257 hB257
              have t258 := fup_at ehB257 8 (by first | rfl | omega)
              have t259 : IhB257 740 9 = IhB232 740 9 := (congrFun (congrFun ehB257 740) 9).trans (fup_ne (by first | decide | omega))
              have t260 : IhB257 740 10 = IhB232 740 10 := (congrFun (congrFun ehB257 740) 10).trans (fup_ne (by first | decide | omega))
              have t261 : IhB257 740 11 = IhB232 740 11 := (congrFun (congrFun ehB257 740) 11).trans (fup_ne (by first | decide | omega))
              have t262 : IhB257 740 12 = IhB232 740 12 := (congrFun (congrFun ehB257 740) 12).trans (fup_ne (by first | decide | omega))
              have t263 : IhB257 740 13 = IhB232 740 13 := (congrFun (congrFun ehB257 740) 13).trans (fup_ne (by first | decide | omega))
              have t264 : IhB257 740 14 = IhB232 740 14 := (congrFun (congrFun ehB257 740) 14).trans (fup_ne (by first | decide | omega))
              have t265 : IhB257 740 15 = IhB232 740 15 := (congrFun (congrFun ehB257 740) 15).trans (fup_ne (by first | decide | omega))
              have t266 : IhB257 740 16 = IhB232 740 16 := (congrFun (congrFun ehB257 740) 16).trans (fup_ne (by first | decide | omega))
              have t267 : IhB257 740 17 = IhB232 740 17 := (congrFun (congrFun ehB257 740) 17).trans (fup_ne (by first | decide | omega))
              have t268 : IhB257 740 18 = IhB232 740 18 := (congrFun (congrFun ehB257 740) 18).trans (fup_ne (by first | decide | omega))
              have t269 : IhB257 741 9 = IhB232 741 9 := (congrFun (congrFun ehB257 741) 9).trans (fup_ne (by first | decide | omega))
              have k270 := fBz_eq hB257 (a := 741) (j := 9) (by decide +kernel)
              refine And.intro (by omega) (And.intro ?_ ?_)
              · intro c271
                refine And.intro (True.intro) ?_
                exact ⟨_, rfl, by omega, (by first | exact ⟨fun hn j hj => (fup_other ehB257 741 j (Or.inl (by decide))).trans ((g0z231 j (by omega)).trans ((fFr_S fhB222 (by decide +kernel) j).trans ((fFr_S fhB104 (by decide +kernel) j).trans (((fup_other ehB89 741 j (Or.inl (by decide))).trans ((fup_other ehB73 741 j (Or.inl (by decide))).trans ((fup_other ehB59 741 j (Or.inl (by decide))).trans ((fup_other ehB45 741 j (Or.inl (by decide))).trans ((fup_other ehB31 741 j (Or.inl (by decide))).trans ((fup_other ehB17 741 j (Or.inl (by decide))).trans (fup_other ehB3 741 j (Or.inl (by decide))))))))))))), fun hn j hj => (fup_other ehB257 741 j (Or.inl (by decide))).trans ((g0z231 j (by omega)).trans ((fFr_S fhB222 (by decide +kernel) j).trans ((fFr_S fhB104 (by decide +kernel) j).trans (((fup_other ehB89 741 j (Or.inl (by decide))).trans ((fup_other ehB73 741 j (Or.inl (by decide))).trans ((fup_other ehB59 741 j (Or.inl (by decide))).trans ((fup_other ehB45 741 j (Or.inl (by decide))).trans ((fup_other ehB31 741 j (Or.inl (by decide))).trans ((fup_other ehB17 741 j (Or.inl (by decide))).trans (fup_other ehB3 741 j (Or.inl (by decide)))))))))))))⟩ | exact ⟨fun hn j hj => (fup_other ehB257 741 j (Or.inl (by decide))).trans ((fFr_S fhB104 (by decide +kernel) j).trans (((fup_other ehB89 741 j (Or.inl (by decide))).trans ((fup_other ehB73 741 j (Or.inl (by decide))).trans ((fup_other ehB59 741 j (Or.inl (by decide))).trans ((fup_other ehB45 741 j (Or.inl (by decide))).trans ((fup_other ehB31 741 j (Or.inl (by decide))).trans ((fup_other ehB17 741 j (Or.inl (by decide))).trans (fup_other ehB3 741 j (Or.inl (by decide))))))))))), fun hn j hj => (fup_other ehB257 741 j (Or.inl (by decide))).trans ((fFr_S fhB104 (by decide +kernel) j).trans (((fup_other ehB89 741 j (Or.inl (by decide))).trans ((fup_other ehB73 741 j (Or.inl (by decide))).trans ((fup_other ehB59 741 j (Or.inl (by decide))).trans ((fup_other ehB45 741 j (Or.inl (by decide))).trans ((fup_other ehB31 741 j (Or.inl (by decide))).trans ((fup_other ehB17 741 j (Or.inl (by decide))).trans (fup_other ehB3 741 j (Or.inl (by decide)))))))))))⟩), (by first | exact (fun hz hn => sOne_to (sOne_be (by omega) (g1z231 (by omega)) (fun j _ => (fup_other ehB257 741 j (Or.inl (by decide))))) (by omega) (by omega) (by omega)) | exact (fun hz => absurd hz (by omega))), (by first | exact Or.inl ⟨by omega, pr_ok (hT_mk (fun j => ((fup_other ehB89 747 j (Or.inl (by decide))).trans ((fup_other ehB73 747 j (Or.inl (by decide))).trans ((fup_other ehB59 747 j (Or.inl (by decide))).trans ((fup_other ehB45 747 j (Or.inl (by decide))).trans ((fup_other ehB31 747 j (Or.inl (by decide))).trans ((fup_other ehB17 747 j (Or.inl (by decide))).trans (fup_other ehB3 747 j (Or.inl (by decide)))))))))) (by omega)) (by omega) (by omega) (by omega) g0z103 (hT_mk (fFr_at fhB104 747 (by decide +kernel) rfl) (by omega)) g0z113 (by omega) g0z221 (hT_mk (fFr_at fhB222 747 (by decide +kernel) rfl) (by omega)) (by omega) (by omega) (by omega) (by omega) g2z231 (hT_mk (fFr_at fhB232 747 (by decide +kernel) rfl) (by omega)) (by omega) (by omega) (sd_same (fun j => fup_other ehB257 741 j (Or.inl (by decide))) (by omega) (by omega)) (by omega)⟩ | exact Or.inr ⟨by omega, pr_bad (hT_mk (fun j => ((fup_other ehB89 747 j (Or.inl (by decide))).trans ((fup_other ehB73 747 j (Or.inl (by decide))).trans ((fup_other ehB59 747 j (Or.inl (by decide))).trans ((fup_other ehB45 747 j (Or.inl (by decide))).trans ((fup_other ehB31 747 j (Or.inl (by decide))).trans ((fup_other ehB17 747 j (Or.inl (by decide))).trans (fup_other ehB3 747 j (Or.inl (by decide)))))))))) (by omega)) (by omega) (by omega) (by omega) g0z103 (hT_mk (fFr_at fhB104 747 (by decide +kernel) rfl) (by omega)) g0z113 (by omega) g0z221 (hT_mk (fFr_at fhB222 747 (by decide +kernel) rfl) (by omega)) (by omega) (by omega) (by omega) (by omega) g2z231 (hT_mk (fFr_at fhB232 747 (by decide +kernel) rfl) (by omega)) (by omega) (by omega) (by omega)⟩ | exact Or.inr ⟨by omega, pr_no (hT_mk (fun j => ((fup_other ehB89 747 j (Or.inl (by decide))).trans ((fup_other ehB73 747 j (Or.inl (by decide))).trans ((fup_other ehB59 747 j (Or.inl (by decide))).trans ((fup_other ehB45 747 j (Or.inl (by decide))).trans ((fup_other ehB31 747 j (Or.inl (by decide))).trans ((fup_other ehB17 747 j (Or.inl (by decide))).trans (fup_other ehB3 747 j (Or.inl (by decide)))))))))) (by omega)) (by omega) (by omega) (by omega) g0z103 (hT_mk (fFr_at fhB104 747 (by decide +kernel) rfl) (by omega)) g0z113 (by omega) (by omega)⟩), (by intro q; omega), (by intro q; omega), (mR_fr (fFr_of hB257) (by decide +kernel))⟩
              · intro c272
                refine And.intro (True.intro) ?_
                exact ⟨_, rfl, by omega, (by first | exact ⟨fun hn j hj => (fup_other ehB257 741 j (Or.inl (by decide))).trans ((g0z231 j (by omega)).trans ((fFr_S fhB222 (by decide +kernel) j).trans ((fFr_S fhB104 (by decide +kernel) j).trans (((fup_other ehB89 741 j (Or.inl (by decide))).trans ((fup_other ehB73 741 j (Or.inl (by decide))).trans ((fup_other ehB59 741 j (Or.inl (by decide))).trans ((fup_other ehB45 741 j (Or.inl (by decide))).trans ((fup_other ehB31 741 j (Or.inl (by decide))).trans ((fup_other ehB17 741 j (Or.inl (by decide))).trans (fup_other ehB3 741 j (Or.inl (by decide))))))))))))), fun hn j hj => (fup_other ehB257 741 j (Or.inl (by decide))).trans ((g0z231 j (by omega)).trans ((fFr_S fhB222 (by decide +kernel) j).trans ((fFr_S fhB104 (by decide +kernel) j).trans (((fup_other ehB89 741 j (Or.inl (by decide))).trans ((fup_other ehB73 741 j (Or.inl (by decide))).trans ((fup_other ehB59 741 j (Or.inl (by decide))).trans ((fup_other ehB45 741 j (Or.inl (by decide))).trans ((fup_other ehB31 741 j (Or.inl (by decide))).trans ((fup_other ehB17 741 j (Or.inl (by decide))).trans (fup_other ehB3 741 j (Or.inl (by decide)))))))))))))⟩ | exact ⟨fun hn j hj => (fup_other ehB257 741 j (Or.inl (by decide))).trans ((fFr_S fhB104 (by decide +kernel) j).trans (((fup_other ehB89 741 j (Or.inl (by decide))).trans ((fup_other ehB73 741 j (Or.inl (by decide))).trans ((fup_other ehB59 741 j (Or.inl (by decide))).trans ((fup_other ehB45 741 j (Or.inl (by decide))).trans ((fup_other ehB31 741 j (Or.inl (by decide))).trans ((fup_other ehB17 741 j (Or.inl (by decide))).trans (fup_other ehB3 741 j (Or.inl (by decide))))))))))), fun hn j hj => (fup_other ehB257 741 j (Or.inl (by decide))).trans ((fFr_S fhB104 (by decide +kernel) j).trans (((fup_other ehB89 741 j (Or.inl (by decide))).trans ((fup_other ehB73 741 j (Or.inl (by decide))).trans ((fup_other ehB59 741 j (Or.inl (by decide))).trans ((fup_other ehB45 741 j (Or.inl (by decide))).trans ((fup_other ehB31 741 j (Or.inl (by decide))).trans ((fup_other ehB17 741 j (Or.inl (by decide))).trans (fup_other ehB3 741 j (Or.inl (by decide)))))))))))⟩), (by first | exact (fun hz hn => sOne_to (sOne_be (by omega) (g1z231 (by omega)) (fun j _ => (fup_other ehB257 741 j (Or.inl (by decide))))) (by omega) (by omega) (by omega)) | exact (fun hz => absurd hz (by omega))), (by first | exact Or.inl ⟨by omega, pr_ok (hT_mk (fun j => ((fup_other ehB89 747 j (Or.inl (by decide))).trans ((fup_other ehB73 747 j (Or.inl (by decide))).trans ((fup_other ehB59 747 j (Or.inl (by decide))).trans ((fup_other ehB45 747 j (Or.inl (by decide))).trans ((fup_other ehB31 747 j (Or.inl (by decide))).trans ((fup_other ehB17 747 j (Or.inl (by decide))).trans (fup_other ehB3 747 j (Or.inl (by decide)))))))))) (by omega)) (by omega) (by omega) (by omega) g0z103 (hT_mk (fFr_at fhB104 747 (by decide +kernel) rfl) (by omega)) g0z113 (by omega) g0z221 (hT_mk (fFr_at fhB222 747 (by decide +kernel) rfl) (by omega)) (by omega) (by omega) (by omega) (by omega) g2z231 (hT_mk (fFr_at fhB232 747 (by decide +kernel) rfl) (by omega)) (by omega) (by omega) (sd_same (fun j => fup_other ehB257 741 j (Or.inl (by decide))) (by omega) (by omega)) (by omega)⟩ | exact Or.inr ⟨by omega, pr_bad (hT_mk (fun j => ((fup_other ehB89 747 j (Or.inl (by decide))).trans ((fup_other ehB73 747 j (Or.inl (by decide))).trans ((fup_other ehB59 747 j (Or.inl (by decide))).trans ((fup_other ehB45 747 j (Or.inl (by decide))).trans ((fup_other ehB31 747 j (Or.inl (by decide))).trans ((fup_other ehB17 747 j (Or.inl (by decide))).trans (fup_other ehB3 747 j (Or.inl (by decide)))))))))) (by omega)) (by omega) (by omega) (by omega) g0z103 (hT_mk (fFr_at fhB104 747 (by decide +kernel) rfl) (by omega)) g0z113 (by omega) g0z221 (hT_mk (fFr_at fhB222 747 (by decide +kernel) rfl) (by omega)) (by omega) (by omega) (by omega) (by omega) g2z231 (hT_mk (fFr_at fhB232 747 (by decide +kernel) rfl) (by omega)) (by omega) (by omega) (by omega)⟩ | exact Or.inr ⟨by omega, pr_no (hT_mk (fun j => ((fup_other ehB89 747 j (Or.inl (by decide))).trans ((fup_other ehB73 747 j (Or.inl (by decide))).trans ((fup_other ehB59 747 j (Or.inl (by decide))).trans ((fup_other ehB45 747 j (Or.inl (by decide))).trans ((fup_other ehB31 747 j (Or.inl (by decide))).trans ((fup_other ehB17 747 j (Or.inl (by decide))).trans (fup_other ehB3 747 j (Or.inl (by decide)))))))))) (by omega)) (by omega) (by omega) (by omega) g0z103 (hT_mk (fFr_at fhB104 747 (by decide +kernel) rfl) (by omega)) g0z113 (by omega) (by omega)⟩), (by intro q; omega), (by intro q; omega), (mR_fr (fFr_of hB257) (by decide +kernel))⟩
            · intro c273
              refine And.intro ⟨rfl, by decide, by decide⟩ (And.intro rfl (And.intro (Or.inl rfl) (fputf fb_740_8 (by decide +kernel) hW (by first | exact ⟨by decide, by decide⟩ | omega) ?_)))
              intro IhB274 ehB274 hB274
              have t275 := fup_at ehB274 8 (by first | rfl | omega)
              have t276 : IhB274 740 9 = IhB232 740 9 := (congrFun (congrFun ehB274 740) 9).trans (fup_ne (by first | decide | omega))
              have t277 : IhB274 740 10 = IhB232 740 10 := (congrFun (congrFun ehB274 740) 10).trans (fup_ne (by first | decide | omega))
              have t278 : IhB274 740 11 = IhB232 740 11 := (congrFun (congrFun ehB274 740) 11).trans (fup_ne (by first | decide | omega))
              have t279 : IhB274 740 12 = IhB232 740 12 := (congrFun (congrFun ehB274 740) 12).trans (fup_ne (by first | decide | omega))
              have t280 : IhB274 740 13 = IhB232 740 13 := (congrFun (congrFun ehB274 740) 13).trans (fup_ne (by first | decide | omega))
              have t281 : IhB274 740 14 = IhB232 740 14 := (congrFun (congrFun ehB274 740) 14).trans (fup_ne (by first | decide | omega))
              have t282 : IhB274 740 15 = IhB232 740 15 := (congrFun (congrFun ehB274 740) 15).trans (fup_ne (by first | decide | omega))
              have t283 : IhB274 740 16 = IhB232 740 16 := (congrFun (congrFun ehB274 740) 16).trans (fup_ne (by first | decide | omega))
              have t284 : IhB274 740 17 = IhB232 740 17 := (congrFun (congrFun ehB274 740) 17).trans (fup_ne (by first | decide | omega))
              have t285 : IhB274 740 18 = IhB232 740 18 := (congrFun (congrFun ehB274 740) 18).trans (fup_ne (by first | decide | omega))
              have t286 : IhB274 741 9 = IhB232 741 9 := (congrFun (congrFun ehB274 741) 9).trans (fup_ne (by first | decide | omega))
              have k287 := fBz_eq hB274 (a := 741) (j := 9) (by decide +kernel)
              refine And.intro (by first | exact ⟨by decide, by decide⟩ | omega) (And.intro ?_ ?_)
              · intro c288
                refine And.intro (True.intro) ?_
                exact ⟨_, rfl, by omega, (by first | exact ⟨fun hn j hj => (fup_other ehB274 741 j (Or.inl (by decide))).trans ((g0z231 j (by omega)).trans ((fFr_S fhB222 (by decide +kernel) j).trans ((fFr_S fhB104 (by decide +kernel) j).trans (((fup_other ehB89 741 j (Or.inl (by decide))).trans ((fup_other ehB73 741 j (Or.inl (by decide))).trans ((fup_other ehB59 741 j (Or.inl (by decide))).trans ((fup_other ehB45 741 j (Or.inl (by decide))).trans ((fup_other ehB31 741 j (Or.inl (by decide))).trans ((fup_other ehB17 741 j (Or.inl (by decide))).trans (fup_other ehB3 741 j (Or.inl (by decide))))))))))))), fun hn j hj => (fup_other ehB274 741 j (Or.inl (by decide))).trans ((g0z231 j (by omega)).trans ((fFr_S fhB222 (by decide +kernel) j).trans ((fFr_S fhB104 (by decide +kernel) j).trans (((fup_other ehB89 741 j (Or.inl (by decide))).trans ((fup_other ehB73 741 j (Or.inl (by decide))).trans ((fup_other ehB59 741 j (Or.inl (by decide))).trans ((fup_other ehB45 741 j (Or.inl (by decide))).trans ((fup_other ehB31 741 j (Or.inl (by decide))).trans ((fup_other ehB17 741 j (Or.inl (by decide))).trans (fup_other ehB3 741 j (Or.inl (by decide)))))))))))))⟩ | exact ⟨fun hn j hj => (fup_other ehB274 741 j (Or.inl (by decide))).trans ((fFr_S fhB104 (by decide +kernel) j).trans (((fup_other ehB89 741 j (Or.inl (by decide))).trans ((fup_other ehB73 741 j (Or.inl (by decide))).trans ((fup_other ehB59 741 j (Or.inl (by decide))).trans ((fup_other ehB45 741 j (Or.inl (by decide))).trans ((fup_other ehB31 741 j (Or.inl (by decide))).trans ((fup_other ehB17 741 j (Or.inl (by decide))).trans (fup_other ehB3 741 j (Or.inl (by decide))))))))))), fun hn j hj => (fup_other ehB274 741 j (Or.inl (by decide))).trans ((fFr_S fhB104 (by decide +kernel) j).trans (((fup_other ehB89 741 j (Or.inl (by decide))).trans ((fup_other ehB73 741 j (Or.inl (by decide))).trans ((fup_other ehB59 741 j (Or.inl (by decide))).trans ((fup_other ehB45 741 j (Or.inl (by decide))).trans ((fup_other ehB31 741 j (Or.inl (by decide))).trans ((fup_other ehB17 741 j (Or.inl (by decide))).trans (fup_other ehB3 741 j (Or.inl (by decide)))))))))))⟩), (by first | exact (fun hz hn => sOne_to (sOne_be (by omega) (g1z231 (by omega)) (fun j _ => (fup_other ehB274 741 j (Or.inl (by decide))))) (by omega) (by omega) (by omega)) | exact (fun hz => absurd hz (by omega))), (by first | exact Or.inl ⟨by omega, pr_ok (hT_mk (fun j => ((fup_other ehB89 747 j (Or.inl (by decide))).trans ((fup_other ehB73 747 j (Or.inl (by decide))).trans ((fup_other ehB59 747 j (Or.inl (by decide))).trans ((fup_other ehB45 747 j (Or.inl (by decide))).trans ((fup_other ehB31 747 j (Or.inl (by decide))).trans ((fup_other ehB17 747 j (Or.inl (by decide))).trans (fup_other ehB3 747 j (Or.inl (by decide)))))))))) (by omega)) (by omega) (by omega) (by omega) g0z103 (hT_mk (fFr_at fhB104 747 (by decide +kernel) rfl) (by omega)) g0z113 (by omega) g0z221 (hT_mk (fFr_at fhB222 747 (by decide +kernel) rfl) (by omega)) (by omega) (by omega) (by omega) (by omega) g2z231 (hT_mk (fFr_at fhB232 747 (by decide +kernel) rfl) (by omega)) (by omega) (by omega) (sd_same (fun j => fup_other ehB274 741 j (Or.inl (by decide))) (by omega) (by omega)) (by omega)⟩ | exact Or.inr ⟨by omega, pr_bad (hT_mk (fun j => ((fup_other ehB89 747 j (Or.inl (by decide))).trans ((fup_other ehB73 747 j (Or.inl (by decide))).trans ((fup_other ehB59 747 j (Or.inl (by decide))).trans ((fup_other ehB45 747 j (Or.inl (by decide))).trans ((fup_other ehB31 747 j (Or.inl (by decide))).trans ((fup_other ehB17 747 j (Or.inl (by decide))).trans (fup_other ehB3 747 j (Or.inl (by decide)))))))))) (by omega)) (by omega) (by omega) (by omega) g0z103 (hT_mk (fFr_at fhB104 747 (by decide +kernel) rfl) (by omega)) g0z113 (by omega) g0z221 (hT_mk (fFr_at fhB222 747 (by decide +kernel) rfl) (by omega)) (by omega) (by omega) (by omega) (by omega) g2z231 (hT_mk (fFr_at fhB232 747 (by decide +kernel) rfl) (by omega)) (by omega) (by omega) (by omega)⟩ | exact Or.inr ⟨by omega, pr_no (hT_mk (fun j => ((fup_other ehB89 747 j (Or.inl (by decide))).trans ((fup_other ehB73 747 j (Or.inl (by decide))).trans ((fup_other ehB59 747 j (Or.inl (by decide))).trans ((fup_other ehB45 747 j (Or.inl (by decide))).trans ((fup_other ehB31 747 j (Or.inl (by decide))).trans ((fup_other ehB17 747 j (Or.inl (by decide))).trans (fup_other ehB3 747 j (Or.inl (by decide)))))))))) (by omega)) (by omega) (by omega) (by omega) g0z103 (hT_mk (fFr_at fhB104 747 (by decide +kernel) rfl) (by omega)) g0z113 (by omega) (by omega)⟩), (by intro q; omega), (by intro q; omega), (mR_fr (fFr_of hB274) (by decide +kernel))⟩
              · intro c289
                refine And.intro (True.intro) ?_
                exact ⟨_, rfl, by omega, (by first | exact ⟨fun hn j hj => (fup_other ehB274 741 j (Or.inl (by decide))).trans ((g0z231 j (by omega)).trans ((fFr_S fhB222 (by decide +kernel) j).trans ((fFr_S fhB104 (by decide +kernel) j).trans (((fup_other ehB89 741 j (Or.inl (by decide))).trans ((fup_other ehB73 741 j (Or.inl (by decide))).trans ((fup_other ehB59 741 j (Or.inl (by decide))).trans ((fup_other ehB45 741 j (Or.inl (by decide))).trans ((fup_other ehB31 741 j (Or.inl (by decide))).trans ((fup_other ehB17 741 j (Or.inl (by decide))).trans (fup_other ehB3 741 j (Or.inl (by decide))))))))))))), fun hn j hj => (fup_other ehB274 741 j (Or.inl (by decide))).trans ((g0z231 j (by omega)).trans ((fFr_S fhB222 (by decide +kernel) j).trans ((fFr_S fhB104 (by decide +kernel) j).trans (((fup_other ehB89 741 j (Or.inl (by decide))).trans ((fup_other ehB73 741 j (Or.inl (by decide))).trans ((fup_other ehB59 741 j (Or.inl (by decide))).trans ((fup_other ehB45 741 j (Or.inl (by decide))).trans ((fup_other ehB31 741 j (Or.inl (by decide))).trans ((fup_other ehB17 741 j (Or.inl (by decide))).trans (fup_other ehB3 741 j (Or.inl (by decide)))))))))))))⟩ | exact ⟨fun hn j hj => (fup_other ehB274 741 j (Or.inl (by decide))).trans ((fFr_S fhB104 (by decide +kernel) j).trans (((fup_other ehB89 741 j (Or.inl (by decide))).trans ((fup_other ehB73 741 j (Or.inl (by decide))).trans ((fup_other ehB59 741 j (Or.inl (by decide))).trans ((fup_other ehB45 741 j (Or.inl (by decide))).trans ((fup_other ehB31 741 j (Or.inl (by decide))).trans ((fup_other ehB17 741 j (Or.inl (by decide))).trans (fup_other ehB3 741 j (Or.inl (by decide))))))))))), fun hn j hj => (fup_other ehB274 741 j (Or.inl (by decide))).trans ((fFr_S fhB104 (by decide +kernel) j).trans (((fup_other ehB89 741 j (Or.inl (by decide))).trans ((fup_other ehB73 741 j (Or.inl (by decide))).trans ((fup_other ehB59 741 j (Or.inl (by decide))).trans ((fup_other ehB45 741 j (Or.inl (by decide))).trans ((fup_other ehB31 741 j (Or.inl (by decide))).trans ((fup_other ehB17 741 j (Or.inl (by decide))).trans (fup_other ehB3 741 j (Or.inl (by decide)))))))))))⟩), (by first | exact (fun hz hn => sOne_to (sOne_be (by omega) (g1z231 (by omega)) (fun j _ => (fup_other ehB274 741 j (Or.inl (by decide))))) (by omega) (by omega) (by omega)) | exact (fun hz => absurd hz (by omega))), (by first | exact Or.inl ⟨by omega, pr_ok (hT_mk (fun j => ((fup_other ehB89 747 j (Or.inl (by decide))).trans ((fup_other ehB73 747 j (Or.inl (by decide))).trans ((fup_other ehB59 747 j (Or.inl (by decide))).trans ((fup_other ehB45 747 j (Or.inl (by decide))).trans ((fup_other ehB31 747 j (Or.inl (by decide))).trans ((fup_other ehB17 747 j (Or.inl (by decide))).trans (fup_other ehB3 747 j (Or.inl (by decide)))))))))) (by omega)) (by omega) (by omega) (by omega) g0z103 (hT_mk (fFr_at fhB104 747 (by decide +kernel) rfl) (by omega)) g0z113 (by omega) g0z221 (hT_mk (fFr_at fhB222 747 (by decide +kernel) rfl) (by omega)) (by omega) (by omega) (by omega) (by omega) g2z231 (hT_mk (fFr_at fhB232 747 (by decide +kernel) rfl) (by omega)) (by omega) (by omega) (sd_same (fun j => fup_other ehB274 741 j (Or.inl (by decide))) (by omega) (by omega)) (by omega)⟩ | exact Or.inr ⟨by omega, pr_bad (hT_mk (fun j => ((fup_other ehB89 747 j (Or.inl (by decide))).trans ((fup_other ehB73 747 j (Or.inl (by decide))).trans ((fup_other ehB59 747 j (Or.inl (by decide))).trans ((fup_other ehB45 747 j (Or.inl (by decide))).trans ((fup_other ehB31 747 j (Or.inl (by decide))).trans ((fup_other ehB17 747 j (Or.inl (by decide))).trans (fup_other ehB3 747 j (Or.inl (by decide)))))))))) (by omega)) (by omega) (by omega) (by omega) g0z103 (hT_mk (fFr_at fhB104 747 (by decide +kernel) rfl) (by omega)) g0z113 (by omega) g0z221 (hT_mk (fFr_at fhB222 747 (by decide +kernel) rfl) (by omega)) (by omega) (by omega) (by omega) (by omega) g2z231 (hT_mk (fFr_at fhB232 747 (by decide +kernel) rfl) (by omega)) (by omega) (by omega) (by omega)⟩ | exact Or.inr ⟨by omega, pr_no (hT_mk (fun j => ((fup_other ehB89 747 j (Or.inl (by decide))).trans ((fup_other ehB73 747 j (Or.inl (by decide))).trans ((fup_other ehB59 747 j (Or.inl (by decide))).trans ((fup_other ehB45 747 j (Or.inl (by decide))).trans ((fup_other ehB31 747 j (Or.inl (by decide))).trans ((fup_other ehB17 747 j (Or.inl (by decide))).trans (fup_other ehB3 747 j (Or.inl (by decide)))))))))) (by omega)) (by omega) (by omega) (by omega) g0z103 (hT_mk (fFr_at fhB104 747 (by decide +kernel) rfl) (by omega)) g0z113 (by omega) (by omega)⟩), (by intro q; omega), (by intro q; omega), (mR_fr (fFr_of hB274) (by decide +kernel))⟩
    · intro c290
      refine And.intro ⟨rfl, by decide, by decide⟩ ?_
      refine fload1 rL_741_741_9_9_1_0 h0 hB73 ⟨by decide, by decide⟩ (by first | exact ⟨by decide, by decide⟩ | omega) ?_
      intro z291 lz291 uz291 qz291
      have pz291 := fld_at qz291 9 (by omega)
      refine Exists.intro xm_255 (And.intro mi_255 (And.intro ⟨rfl, rfl, rfl, rfl⟩ (And.intro rfl ?_)))
      refine fcallp hB73 (ct_M_textAt_ea474 (fBz h0 hB73) (by omega)) ?_
      rintro _ ⟨_, rfl, rfl⟩
      refine And.intro ⟨rfl, by decide, by decide⟩ (And.intro rfl (And.intro (Or.inl rfl) (fputf fb_740_17 (by decide +kernel) hW (by omega) ?_)))
      intro IhB293 ehB293 hB293
      have t294 : IhB293 740 8 = IhB73 740 8 := (congrFun (congrFun ehB293 740) 8).trans (fup_ne (by first | decide | omega))
      have t295 : IhB293 740 9 = IhB73 740 9 := (congrFun (congrFun ehB293 740) 9).trans (fup_ne (by first | decide | omega))
      have t296 : IhB293 740 10 = IhB73 740 10 := (congrFun (congrFun ehB293 740) 10).trans (fup_ne (by first | decide | omega))
      have t297 : IhB293 740 11 = IhB73 740 11 := (congrFun (congrFun ehB293 740) 11).trans (fup_ne (by first | decide | omega))
      have t298 : IhB293 740 12 = IhB73 740 12 := (congrFun (congrFun ehB293 740) 12).trans (fup_ne (by first | decide | omega))
      have t299 : IhB293 740 13 = IhB73 740 13 := (congrFun (congrFun ehB293 740) 13).trans (fup_ne (by first | decide | omega))
      have t300 : IhB293 740 14 = IhB73 740 14 := (congrFun (congrFun ehB293 740) 14).trans (fup_ne (by first | decide | omega))
      have t301 : IhB293 740 15 = IhB73 740 15 := (congrFun (congrFun ehB293 740) 15).trans (fup_ne (by first | decide | omega))
      have t302 : IhB293 740 16 = IhB73 740 16 := (congrFun (congrFun ehB293 740) 16).trans (fup_ne (by first | decide | omega))
      have t303 := fup_at ehB293 17 (by first | rfl | omega)
      have t304 : IhB293 740 18 = IhB73 740 18 := (congrFun (congrFun ehB293 740) 18).trans (fup_ne (by first | decide | omega))
      have t305 : IhB293 741 9 = IhB73 741 9 := (congrFun (congrFun ehB293 741) 9).trans (fup_ne (by first | decide | omega))
      have k306 := fBz_eq hB293 (a := 741) (j := 9) (by decide +kernel)
      have s8 : IhB293 740 8 = I 740 8 := by omega
      have s10 : IhB293 740 10 = 0 := by omega
      have s11 : IhB293 740 11 = 3 := by omega
      have s14 : IhB293 740 14 = 0 := by omega
      have s15 : IhB293 740 15 = 0 := by omega
      have s16 : IhB293 740 16 = 0 := by omega
      have s18 : IhB293 740 18 = 0 := by omega
      have s9 : IhB293 741 9 = I 741 9 := by omega
      have s17 := fup_at ehB293 17 rfl
      clear t305 t304 t303 t302 t301 t300 t299 t298 t297 t296 t295 t294 t85 t84 t83 t82 t81 t80 t79 t78 t77 t76 t75 t74 t71 t70 t69 t68 t67 t66 t65 t64 t63 t62 t61 t60 t57 t56 t55 t54 t53 t52 t51 t50 t49 t48 t47 t46 t43 t42 t41 t40 t39 t38 t37 t36 t35 t34 t33 t32 t29 t28 t27 t26 t25 t24 t23 t22 t21 t20 t19 t18 t15 t14 t13 t12 t11 t10 t9 t8 t7 t6 t5 t4
      refine Exists.intro xm_314 (And.intro mi_314 (And.intro ⟨rfl, rfl, rfl, rfl⟩ (And.intro rfl ?_)))
      refine fcall _ h0 (fzs_sub (by decide +kernel) hW) hB293 (ct_M_next_c8003 (fBz h0 hB293) (by omega)) ?_
      rintro IhB308 _ hB308 fhB308 ⟨rfl, hz307, g0z307, g1z307⟩
      have t309 := fhB308 740 8 (by decide +kernel)
      have t310 := fhB308 740 14 (by decide +kernel)
      have t311 := fhB308 740 15 (by decide +kernel)
      have t312 := fhB308 740 16 (by decide +kernel)
      have t313 := fhB308 740 17 (by decide +kernel)
      have t314 := fhB308 740 18 (by decide +kernel)
      have t315 := fhB308 741 9 (by decide +kernel)
      have k316 := fBz_eq hB308 (a := 741) (j := 9) (by decide +kernel)
      refine Exists.intro xm_317 (And.intro mi_317 (And.intro ⟨rfl, rfl, rfl, rfl⟩ (And.intro rfl ?_)))
      refine fcallp hB308 (ct_M_key_09703 (fBz h0 hB308) (by omega)) ?_
      rintro _ ⟨z317, rfl, hz317, g0z317⟩
      refine And.intro (by first | exact fi_ hz317.1 hz317.2 rfl | omega) (And.intro ?_ ?_)
      · intro c318
        refine And.intro (by omega) (And.intro ?_ ?_)
        · intro c319
          refine And.intro ⟨rfl, by decide, by decide⟩ (And.intro rfl (And.intro (Or.inl rfl) (fputf fb_740_8 (by decide +kernel) hW (by first | exact ⟨by decide, by decide⟩ | omega) ?_)))
          intro IhB320 ehB320 hB320
          have t321 := fup_at ehB320 8 (by first | rfl | omega)
          have t322 : IhB320 740 9 = IhB308 740 9 := (congrFun (congrFun ehB320 740) 9).trans (fup_ne (by first | decide | omega))
          have t323 : IhB320 740 10 = IhB308 740 10 := (congrFun (congrFun ehB320 740) 10).trans (fup_ne (by first | decide | omega))
          have t324 : IhB320 740 11 = IhB308 740 11 := (congrFun (congrFun ehB320 740) 11).trans (fup_ne (by first | decide | omega))
          have t325 : IhB320 740 12 = IhB308 740 12 := (congrFun (congrFun ehB320 740) 12).trans (fup_ne (by first | decide | omega))
          have t326 : IhB320 740 13 = IhB308 740 13 := (congrFun (congrFun ehB320 740) 13).trans (fup_ne (by first | decide | omega))
          have t327 : IhB320 740 14 = IhB308 740 14 := (congrFun (congrFun ehB320 740) 14).trans (fup_ne (by first | decide | omega))
          have t328 : IhB320 740 15 = IhB308 740 15 := (congrFun (congrFun ehB320 740) 15).trans (fup_ne (by first | decide | omega))
          have t329 : IhB320 740 16 = IhB308 740 16 := (congrFun (congrFun ehB320 740) 16).trans (fup_ne (by first | decide | omega))
          have t330 : IhB320 740 17 = IhB308 740 17 := (congrFun (congrFun ehB320 740) 17).trans (fup_ne (by first | decide | omega))
          have t331 : IhB320 740 18 = IhB308 740 18 := (congrFun (congrFun ehB320 740) 18).trans (fup_ne (by first | decide | omega))
          have t332 : IhB320 741 9 = IhB308 741 9 := (congrFun (congrFun ehB320 741) 9).trans (fup_ne (by first | decide | omega))
          have k333 := fBz_eq hB320 (a := 741) (j := 9) (by decide +kernel)
          refine And.intro (by omega) (And.intro ?_ ?_)
          · intro c334
            refine And.intro (True.intro) ?_
            exact ⟨_, rfl, by omega, (by first | exact ⟨fun hn j hj => (fup_other ehB320 741 j (Or.inl (by decide))).trans ((g0z231 j (by omega)).trans ((fFr_S fhB222 (by decide +kernel) j).trans ((fFr_S fhB308 (by decide +kernel) j).trans (((fup_other ehB293 741 j (Or.inl (by decide))).trans ((fup_other ehB73 741 j (Or.inl (by decide))).trans ((fup_other ehB59 741 j (Or.inl (by decide))).trans ((fup_other ehB45 741 j (Or.inl (by decide))).trans ((fup_other ehB31 741 j (Or.inl (by decide))).trans ((fup_other ehB17 741 j (Or.inl (by decide))).trans (fup_other ehB3 741 j (Or.inl (by decide))))))))))))), fun hn j hj => (fup_other ehB320 741 j (Or.inl (by decide))).trans ((g0z231 j (by omega)).trans ((fFr_S fhB222 (by decide +kernel) j).trans ((fFr_S fhB308 (by decide +kernel) j).trans (((fup_other ehB293 741 j (Or.inl (by decide))).trans ((fup_other ehB73 741 j (Or.inl (by decide))).trans ((fup_other ehB59 741 j (Or.inl (by decide))).trans ((fup_other ehB45 741 j (Or.inl (by decide))).trans ((fup_other ehB31 741 j (Or.inl (by decide))).trans ((fup_other ehB17 741 j (Or.inl (by decide))).trans (fup_other ehB3 741 j (Or.inl (by decide)))))))))))))⟩ | exact ⟨fun hn j hj => (fup_other ehB320 741 j (Or.inl (by decide))).trans ((fFr_S fhB308 (by decide +kernel) j).trans (((fup_other ehB293 741 j (Or.inl (by decide))).trans ((fup_other ehB73 741 j (Or.inl (by decide))).trans ((fup_other ehB59 741 j (Or.inl (by decide))).trans ((fup_other ehB45 741 j (Or.inl (by decide))).trans ((fup_other ehB31 741 j (Or.inl (by decide))).trans ((fup_other ehB17 741 j (Or.inl (by decide))).trans (fup_other ehB3 741 j (Or.inl (by decide))))))))))), fun hn j hj => (fup_other ehB320 741 j (Or.inl (by decide))).trans ((fFr_S fhB308 (by decide +kernel) j).trans (((fup_other ehB293 741 j (Or.inl (by decide))).trans ((fup_other ehB73 741 j (Or.inl (by decide))).trans ((fup_other ehB59 741 j (Or.inl (by decide))).trans ((fup_other ehB45 741 j (Or.inl (by decide))).trans ((fup_other ehB31 741 j (Or.inl (by decide))).trans ((fup_other ehB17 741 j (Or.inl (by decide))).trans (fup_other ehB3 741 j (Or.inl (by decide)))))))))))⟩), (by first | exact (fun hz hn => sOne_to (sOne_be (by omega) (g1z231 (by omega)) (fun j _ => (fup_other ehB320 741 j (Or.inl (by decide))))) (by omega) (by omega) (by omega)) | exact (fun hz => absurd hz (by omega))), (by first | exact Or.inl ⟨by omega, pr_ok (hT_mk (fun j => ((fup_other ehB293 747 j (Or.inl (by decide))).trans ((fup_other ehB73 747 j (Or.inl (by decide))).trans ((fup_other ehB59 747 j (Or.inl (by decide))).trans ((fup_other ehB45 747 j (Or.inl (by decide))).trans ((fup_other ehB31 747 j (Or.inl (by decide))).trans ((fup_other ehB17 747 j (Or.inl (by decide))).trans (fup_other ehB3 747 j (Or.inl (by decide)))))))))) (by omega)) (by omega) (by omega) (by omega) g0z307 (hT_mk (fFr_at fhB308 747 (by decide +kernel) rfl) (by omega)) g0z317 (by omega) g0z221 (hT_mk (fFr_at fhB222 747 (by decide +kernel) rfl) (by omega)) (by omega) (by omega) (by omega) (by omega) g2z231 (hT_mk (fFr_at fhB232 747 (by decide +kernel) rfl) (by omega)) (by omega) (by omega) (sd_same (fun j => fup_other ehB320 741 j (Or.inl (by decide))) (by omega) (by omega)) (by omega)⟩ | exact Or.inr ⟨by omega, pr_bad (hT_mk (fun j => ((fup_other ehB293 747 j (Or.inl (by decide))).trans ((fup_other ehB73 747 j (Or.inl (by decide))).trans ((fup_other ehB59 747 j (Or.inl (by decide))).trans ((fup_other ehB45 747 j (Or.inl (by decide))).trans ((fup_other ehB31 747 j (Or.inl (by decide))).trans ((fup_other ehB17 747 j (Or.inl (by decide))).trans (fup_other ehB3 747 j (Or.inl (by decide)))))))))) (by omega)) (by omega) (by omega) (by omega) g0z307 (hT_mk (fFr_at fhB308 747 (by decide +kernel) rfl) (by omega)) g0z317 (by omega) g0z221 (hT_mk (fFr_at fhB222 747 (by decide +kernel) rfl) (by omega)) (by omega) (by omega) (by omega) (by omega) g2z231 (hT_mk (fFr_at fhB232 747 (by decide +kernel) rfl) (by omega)) (by omega) (by omega) (by omega)⟩ | exact Or.inr ⟨by omega, pr_no (hT_mk (fun j => ((fup_other ehB293 747 j (Or.inl (by decide))).trans ((fup_other ehB73 747 j (Or.inl (by decide))).trans ((fup_other ehB59 747 j (Or.inl (by decide))).trans ((fup_other ehB45 747 j (Or.inl (by decide))).trans ((fup_other ehB31 747 j (Or.inl (by decide))).trans ((fup_other ehB17 747 j (Or.inl (by decide))).trans (fup_other ehB3 747 j (Or.inl (by decide)))))))))) (by omega)) (by omega) (by omega) (by omega) g0z307 (hT_mk (fFr_at fhB308 747 (by decide +kernel) rfl) (by omega)) g0z317 (by omega) (by omega)⟩), (by intro q; omega), (by intro q; omega), (mR_fr (fFr_of hB320) (by decide +kernel))⟩
          · intro c335
            refine And.intro (True.intro) ?_
            exact ⟨_, rfl, by omega, (by first | exact ⟨fun hn j hj => (fup_other ehB320 741 j (Or.inl (by decide))).trans ((g0z231 j (by omega)).trans ((fFr_S fhB222 (by decide +kernel) j).trans ((fFr_S fhB308 (by decide +kernel) j).trans (((fup_other ehB293 741 j (Or.inl (by decide))).trans ((fup_other ehB73 741 j (Or.inl (by decide))).trans ((fup_other ehB59 741 j (Or.inl (by decide))).trans ((fup_other ehB45 741 j (Or.inl (by decide))).trans ((fup_other ehB31 741 j (Or.inl (by decide))).trans ((fup_other ehB17 741 j (Or.inl (by decide))).trans (fup_other ehB3 741 j (Or.inl (by decide))))))))))))), fun hn j hj => (fup_other ehB320 741 j (Or.inl (by decide))).trans ((g0z231 j (by omega)).trans ((fFr_S fhB222 (by decide +kernel) j).trans ((fFr_S fhB308 (by decide +kernel) j).trans (((fup_other ehB293 741 j (Or.inl (by decide))).trans ((fup_other ehB73 741 j (Or.inl (by decide))).trans ((fup_other ehB59 741 j (Or.inl (by decide))).trans ((fup_other ehB45 741 j (Or.inl (by decide))).trans ((fup_other ehB31 741 j (Or.inl (by decide))).trans ((fup_other ehB17 741 j (Or.inl (by decide))).trans (fup_other ehB3 741 j (Or.inl (by decide)))))))))))))⟩ | exact ⟨fun hn j hj => (fup_other ehB320 741 j (Or.inl (by decide))).trans ((fFr_S fhB308 (by decide +kernel) j).trans (((fup_other ehB293 741 j (Or.inl (by decide))).trans ((fup_other ehB73 741 j (Or.inl (by decide))).trans ((fup_other ehB59 741 j (Or.inl (by decide))).trans ((fup_other ehB45 741 j (Or.inl (by decide))).trans ((fup_other ehB31 741 j (Or.inl (by decide))).trans ((fup_other ehB17 741 j (Or.inl (by decide))).trans (fup_other ehB3 741 j (Or.inl (by decide))))))))))), fun hn j hj => (fup_other ehB320 741 j (Or.inl (by decide))).trans ((fFr_S fhB308 (by decide +kernel) j).trans (((fup_other ehB293 741 j (Or.inl (by decide))).trans ((fup_other ehB73 741 j (Or.inl (by decide))).trans ((fup_other ehB59 741 j (Or.inl (by decide))).trans ((fup_other ehB45 741 j (Or.inl (by decide))).trans ((fup_other ehB31 741 j (Or.inl (by decide))).trans ((fup_other ehB17 741 j (Or.inl (by decide))).trans (fup_other ehB3 741 j (Or.inl (by decide)))))))))))⟩), (by first | exact (fun hz hn => sOne_to (sOne_be (by omega) (g1z231 (by omega)) (fun j _ => (fup_other ehB320 741 j (Or.inl (by decide))))) (by omega) (by omega) (by omega)) | exact (fun hz => absurd hz (by omega))), (by first | exact Or.inl ⟨by omega, pr_ok (hT_mk (fun j => ((fup_other ehB293 747 j (Or.inl (by decide))).trans ((fup_other ehB73 747 j (Or.inl (by decide))).trans ((fup_other ehB59 747 j (Or.inl (by decide))).trans ((fup_other ehB45 747 j (Or.inl (by decide))).trans ((fup_other ehB31 747 j (Or.inl (by decide))).trans ((fup_other ehB17 747 j (Or.inl (by decide))).trans (fup_other ehB3 747 j (Or.inl (by decide)))))))))) (by omega)) (by omega) (by omega) (by omega) g0z307 (hT_mk (fFr_at fhB308 747 (by decide +kernel) rfl) (by omega)) g0z317 (by omega) g0z221 (hT_mk (fFr_at fhB222 747 (by decide +kernel) rfl) (by omega)) (by omega) (by omega) (by omega) (by omega) g2z231 (hT_mk (fFr_at fhB232 747 (by decide +kernel) rfl) (by omega)) (by omega) (by omega) (sd_same (fun j => fup_other ehB320 741 j (Or.inl (by decide))) (by omega) (by omega)) (by omega)⟩ | exact Or.inr ⟨by omega, pr_bad (hT_mk (fun j => ((fup_other ehB293 747 j (Or.inl (by decide))).trans ((fup_other ehB73 747 j (Or.inl (by decide))).trans ((fup_other ehB59 747 j (Or.inl (by decide))).trans ((fup_other ehB45 747 j (Or.inl (by decide))).trans ((fup_other ehB31 747 j (Or.inl (by decide))).trans ((fup_other ehB17 747 j (Or.inl (by decide))).trans (fup_other ehB3 747 j (Or.inl (by decide)))))))))) (by omega)) (by omega) (by omega) (by omega) g0z307 (hT_mk (fFr_at fhB308 747 (by decide +kernel) rfl) (by omega)) g0z317 (by omega) g0z221 (hT_mk (fFr_at fhB222 747 (by decide +kernel) rfl) (by omega)) (by omega) (by omega) (by omega) (by omega) g2z231 (hT_mk (fFr_at fhB232 747 (by decide +kernel) rfl) (by omega)) (by omega) (by omega) (by omega)⟩ | exact Or.inr ⟨by omega, pr_no (hT_mk (fun j => ((fup_other ehB293 747 j (Or.inl (by decide))).trans ((fup_other ehB73 747 j (Or.inl (by decide))).trans ((fup_other ehB59 747 j (Or.inl (by decide))).trans ((fup_other ehB45 747 j (Or.inl (by decide))).trans ((fup_other ehB31 747 j (Or.inl (by decide))).trans ((fup_other ehB17 747 j (Or.inl (by decide))).trans (fup_other ehB3 747 j (Or.inl (by decide)))))))))) (by omega)) (by omega) (by omega) (by omega) g0z307 (hT_mk (fFr_at fhB308 747 (by decide +kernel) rfl) (by omega)) g0z317 (by omega) (by omega)⟩), (by intro q; omega), (by intro q; omega), (mR_fr (fFr_of hB320) (by decide +kernel))⟩
        · intro c336
          refine Exists.intro xm_314 (And.intro mi_314 (And.intro ⟨rfl, rfl, rfl, rfl⟩ (And.intro rfl ?_)))
          refine fcall _ h0 (fzs_sub (by decide +kernel) hW) hB308 (ct_M_next_c8003 (fBz h0 hB308) (by omega)) ?_
          rintro IhB338 _ hB338 fhB338 ⟨rfl, hz337, g0z337, g1z337⟩
          have t339 := fhB338 740 8 (by decide +kernel)
          have t340 := fhB338 740 14 (by decide +kernel)
          have t341 := fhB338 740 15 (by decide +kernel)
          have t342 := fhB338 740 16 (by decide +kernel)
          have t343 := fhB338 740 17 (by decide +kernel)
          have t344 := fhB338 740 18 (by decide +kernel)
          have t345 := fhB338 741 9 (by decide +kernel)
          have k346 := fBz_eq hB338 (a := 741) (j := 9) (by decide +kernel)
          refine Exists.intro xm_335 (And.intro mi_335 (And.intro ⟨rfl, rfl, rfl, rfl⟩ (And.intro rfl ?_)))
          refine fcall _ h0 (fzs_sub (by decide +kernel) hW) hB338 (ct_M_either_c00e3 (fBz h0 hB338) (by first | exact ⟨hz317.1, Int.le_trans (Int.le_sub_one_of_lt (Int.lt_of_lt_of_le c318 (Int.le_refl _))) (by decide)⟩ | omega) (by omega) (by omega) (by omega) (by unfold laP; omega) (by omega) g1z337) ?_
          rintro IhB348 _ hB348 fhB348 ⟨z347, rfl, hz347, g0z347, g1z347, g2z347, g3z347, g4z347⟩
          have t349 := fhB348 740 8 (by decide +kernel)
          have t350 := fhB348 740 17 (by decide +kernel)
          have t351 := fhB348 741 9 (by decide +kernel)
          have k352 := fBz_eq hB348 (a := 741) (j := 9) (by decide +kernel)
          refine And.intro (by omega) (And.intro ?_ ?_)
          · intro c353
            refine And.intro ⟨rfl, by decide, by decide⟩ (And.intro rfl (And.intro (Or.inl rfl) (fputf fb_740_8 (by decide +kernel) hW (by first | exact ⟨by decide, by decide⟩ | omega) ?_)))
            intro IhB354 ehB354 hB354
            have t355 := fup_at ehB354 8 (by first | rfl | omega)
            have t356 : IhB354 740 9 = IhB348 740 9 := (congrFun (congrFun ehB354 740) 9).trans (fup_ne (by first | decide | omega))
            have t357 : IhB354 740 10 = IhB348 740 10 := (congrFun (congrFun ehB354 740) 10).trans (fup_ne (by first | decide | omega))
            have t358 : IhB354 740 11 = IhB348 740 11 := (congrFun (congrFun ehB354 740) 11).trans (fup_ne (by first | decide | omega))
            have t359 : IhB354 740 12 = IhB348 740 12 := (congrFun (congrFun ehB354 740) 12).trans (fup_ne (by first | decide | omega))
            have t360 : IhB354 740 13 = IhB348 740 13 := (congrFun (congrFun ehB354 740) 13).trans (fup_ne (by first | decide | omega))
            have t361 : IhB354 740 14 = IhB348 740 14 := (congrFun (congrFun ehB354 740) 14).trans (fup_ne (by first | decide | omega))
            have t362 : IhB354 740 15 = IhB348 740 15 := (congrFun (congrFun ehB354 740) 15).trans (fup_ne (by first | decide | omega))
            have t363 : IhB354 740 16 = IhB348 740 16 := (congrFun (congrFun ehB354 740) 16).trans (fup_ne (by first | decide | omega))
            have t364 : IhB354 740 17 = IhB348 740 17 := (congrFun (congrFun ehB354 740) 17).trans (fup_ne (by first | decide | omega))
            have t365 : IhB354 740 18 = IhB348 740 18 := (congrFun (congrFun ehB354 740) 18).trans (fup_ne (by first | decide | omega))
            have t366 : IhB354 741 9 = IhB348 741 9 := (congrFun (congrFun ehB354 741) 9).trans (fup_ne (by first | decide | omega))
            have k367 := fBz_eq hB354 (a := 741) (j := 9) (by decide +kernel)
            refine And.intro (by omega) (And.intro ?_ ?_)
            · intro c368
              refine And.intro (True.intro) ?_
              exact ⟨_, rfl, by omega, (by first | exact ⟨fun hn j hj => (fup_other ehB354 741 j (Or.inl (by decide))).trans ((g0z347 j (by omega)).trans ((fFr_S fhB338 (by decide +kernel) j).trans ((fFr_S fhB308 (by decide +kernel) j).trans (((fup_other ehB293 741 j (Or.inl (by decide))).trans ((fup_other ehB73 741 j (Or.inl (by decide))).trans ((fup_other ehB59 741 j (Or.inl (by decide))).trans ((fup_other ehB45 741 j (Or.inl (by decide))).trans ((fup_other ehB31 741 j (Or.inl (by decide))).trans ((fup_other ehB17 741 j (Or.inl (by decide))).trans (fup_other ehB3 741 j (Or.inl (by decide))))))))))))), fun hn j hj => (fup_other ehB354 741 j (Or.inl (by decide))).trans ((g0z347 j (by omega)).trans ((fFr_S fhB338 (by decide +kernel) j).trans ((fFr_S fhB308 (by decide +kernel) j).trans (((fup_other ehB293 741 j (Or.inl (by decide))).trans ((fup_other ehB73 741 j (Or.inl (by decide))).trans ((fup_other ehB59 741 j (Or.inl (by decide))).trans ((fup_other ehB45 741 j (Or.inl (by decide))).trans ((fup_other ehB31 741 j (Or.inl (by decide))).trans ((fup_other ehB17 741 j (Or.inl (by decide))).trans (fup_other ehB3 741 j (Or.inl (by decide)))))))))))))⟩ | exact ⟨fun hn j hj => (fup_other ehB354 741 j (Or.inl (by decide))).trans ((fFr_S fhB308 (by decide +kernel) j).trans (((fup_other ehB293 741 j (Or.inl (by decide))).trans ((fup_other ehB73 741 j (Or.inl (by decide))).trans ((fup_other ehB59 741 j (Or.inl (by decide))).trans ((fup_other ehB45 741 j (Or.inl (by decide))).trans ((fup_other ehB31 741 j (Or.inl (by decide))).trans ((fup_other ehB17 741 j (Or.inl (by decide))).trans (fup_other ehB3 741 j (Or.inl (by decide))))))))))), fun hn j hj => (fup_other ehB354 741 j (Or.inl (by decide))).trans ((fFr_S fhB308 (by decide +kernel) j).trans (((fup_other ehB293 741 j (Or.inl (by decide))).trans ((fup_other ehB73 741 j (Or.inl (by decide))).trans ((fup_other ehB59 741 j (Or.inl (by decide))).trans ((fup_other ehB45 741 j (Or.inl (by decide))).trans ((fup_other ehB31 741 j (Or.inl (by decide))).trans ((fup_other ehB17 741 j (Or.inl (by decide))).trans (fup_other ehB3 741 j (Or.inl (by decide)))))))))))⟩), (by first | exact (fun hz hn => sOne_to (sOne_be (by omega) (g1z347 (by omega)) (fun j _ => (fup_other ehB354 741 j (Or.inl (by decide))))) (by omega) (by omega) (by omega)) | exact (fun hz => absurd hz (by omega))), (by first | exact Or.inl ⟨by omega, pr_ok (hT_mk (fun j => ((fup_other ehB293 747 j (Or.inl (by decide))).trans ((fup_other ehB73 747 j (Or.inl (by decide))).trans ((fup_other ehB59 747 j (Or.inl (by decide))).trans ((fup_other ehB45 747 j (Or.inl (by decide))).trans ((fup_other ehB31 747 j (Or.inl (by decide))).trans ((fup_other ehB17 747 j (Or.inl (by decide))).trans (fup_other ehB3 747 j (Or.inl (by decide)))))))))) (by omega)) (by omega) (by omega) (by omega) g0z307 (hT_mk (fFr_at fhB308 747 (by decide +kernel) rfl) (by omega)) g0z317 (by omega) g0z337 (hT_mk (fFr_at fhB338 747 (by decide +kernel) rfl) (by omega)) (by omega) (by omega) (by omega) (by omega) g2z347 (hT_mk (fFr_at fhB348 747 (by decide +kernel) rfl) (by omega)) (by omega) (by omega) (sd_same (fun j => fup_other ehB354 741 j (Or.inl (by decide))) (by omega) (by omega)) (by omega)⟩ | exact Or.inr ⟨by omega, pr_bad (hT_mk (fun j => ((fup_other ehB293 747 j (Or.inl (by decide))).trans ((fup_other ehB73 747 j (Or.inl (by decide))).trans ((fup_other ehB59 747 j (Or.inl (by decide))).trans ((fup_other ehB45 747 j (Or.inl (by decide))).trans ((fup_other ehB31 747 j (Or.inl (by decide))).trans ((fup_other ehB17 747 j (Or.inl (by decide))).trans (fup_other ehB3 747 j (Or.inl (by decide)))))))))) (by omega)) (by omega) (by omega) (by omega) g0z307 (hT_mk (fFr_at fhB308 747 (by decide +kernel) rfl) (by omega)) g0z317 (by omega) g0z337 (hT_mk (fFr_at fhB338 747 (by decide +kernel) rfl) (by omega)) (by omega) (by omega) (by omega) (by omega) g2z347 (hT_mk (fFr_at fhB348 747 (by decide +kernel) rfl) (by omega)) (by omega) (by omega) (by omega)⟩ | exact Or.inr ⟨by omega, pr_no (hT_mk (fun j => ((fup_other ehB293 747 j (Or.inl (by decide))).trans ((fup_other ehB73 747 j (Or.inl (by decide))).trans ((fup_other ehB59 747 j (Or.inl (by decide))).trans ((fup_other ehB45 747 j (Or.inl (by decide))).trans ((fup_other ehB31 747 j (Or.inl (by decide))).trans ((fup_other ehB17 747 j (Or.inl (by decide))).trans (fup_other ehB3 747 j (Or.inl (by decide)))))))))) (by omega)) (by omega) (by omega) (by omega) g0z307 (hT_mk (fFr_at fhB308 747 (by decide +kernel) rfl) (by omega)) g0z317 (by omega) (by omega)⟩), (by intro q; omega), (by intro q; omega), (mR_fr (fFr_of hB354) (by decide +kernel))⟩
            · intro c369
              refine And.intro (True.intro) ?_
              exact ⟨_, rfl, by omega, (by first | exact ⟨fun hn j hj => (fup_other ehB354 741 j (Or.inl (by decide))).trans ((g0z347 j (by omega)).trans ((fFr_S fhB338 (by decide +kernel) j).trans ((fFr_S fhB308 (by decide +kernel) j).trans (((fup_other ehB293 741 j (Or.inl (by decide))).trans ((fup_other ehB73 741 j (Or.inl (by decide))).trans ((fup_other ehB59 741 j (Or.inl (by decide))).trans ((fup_other ehB45 741 j (Or.inl (by decide))).trans ((fup_other ehB31 741 j (Or.inl (by decide))).trans ((fup_other ehB17 741 j (Or.inl (by decide))).trans (fup_other ehB3 741 j (Or.inl (by decide))))))))))))), fun hn j hj => (fup_other ehB354 741 j (Or.inl (by decide))).trans ((g0z347 j (by omega)).trans ((fFr_S fhB338 (by decide +kernel) j).trans ((fFr_S fhB308 (by decide +kernel) j).trans (((fup_other ehB293 741 j (Or.inl (by decide))).trans ((fup_other ehB73 741 j (Or.inl (by decide))).trans ((fup_other ehB59 741 j (Or.inl (by decide))).trans ((fup_other ehB45 741 j (Or.inl (by decide))).trans ((fup_other ehB31 741 j (Or.inl (by decide))).trans ((fup_other ehB17 741 j (Or.inl (by decide))).trans (fup_other ehB3 741 j (Or.inl (by decide)))))))))))))⟩ | exact ⟨fun hn j hj => (fup_other ehB354 741 j (Or.inl (by decide))).trans ((fFr_S fhB308 (by decide +kernel) j).trans (((fup_other ehB293 741 j (Or.inl (by decide))).trans ((fup_other ehB73 741 j (Or.inl (by decide))).trans ((fup_other ehB59 741 j (Or.inl (by decide))).trans ((fup_other ehB45 741 j (Or.inl (by decide))).trans ((fup_other ehB31 741 j (Or.inl (by decide))).trans ((fup_other ehB17 741 j (Or.inl (by decide))).trans (fup_other ehB3 741 j (Or.inl (by decide))))))))))), fun hn j hj => (fup_other ehB354 741 j (Or.inl (by decide))).trans ((fFr_S fhB308 (by decide +kernel) j).trans (((fup_other ehB293 741 j (Or.inl (by decide))).trans ((fup_other ehB73 741 j (Or.inl (by decide))).trans ((fup_other ehB59 741 j (Or.inl (by decide))).trans ((fup_other ehB45 741 j (Or.inl (by decide))).trans ((fup_other ehB31 741 j (Or.inl (by decide))).trans ((fup_other ehB17 741 j (Or.inl (by decide))).trans (fup_other ehB3 741 j (Or.inl (by decide)))))))))))⟩), (by first | exact (fun hz hn => sOne_to (sOne_be (by omega) (g1z347 (by omega)) (fun j _ => (fup_other ehB354 741 j (Or.inl (by decide))))) (by omega) (by omega) (by omega)) | exact (fun hz => absurd hz (by omega))), (by first | exact Or.inl ⟨by omega, pr_ok (hT_mk (fun j => ((fup_other ehB293 747 j (Or.inl (by decide))).trans ((fup_other ehB73 747 j (Or.inl (by decide))).trans ((fup_other ehB59 747 j (Or.inl (by decide))).trans ((fup_other ehB45 747 j (Or.inl (by decide))).trans ((fup_other ehB31 747 j (Or.inl (by decide))).trans ((fup_other ehB17 747 j (Or.inl (by decide))).trans (fup_other ehB3 747 j (Or.inl (by decide)))))))))) (by omega)) (by omega) (by omega) (by omega) g0z307 (hT_mk (fFr_at fhB308 747 (by decide +kernel) rfl) (by omega)) g0z317 (by omega) g0z337 (hT_mk (fFr_at fhB338 747 (by decide +kernel) rfl) (by omega)) (by omega) (by omega) (by omega) (by omega) g2z347 (hT_mk (fFr_at fhB348 747 (by decide +kernel) rfl) (by omega)) (by omega) (by omega) (sd_same (fun j => fup_other ehB354 741 j (Or.inl (by decide))) (by omega) (by omega)) (by omega)⟩ | exact Or.inr ⟨by omega, pr_bad (hT_mk (fun j => ((fup_other ehB293 747 j (Or.inl (by decide))).trans ((fup_other ehB73 747 j (Or.inl (by decide))).trans ((fup_other ehB59 747 j (Or.inl (by decide))).trans ((fup_other ehB45 747 j (Or.inl (by decide))).trans ((fup_other ehB31 747 j (Or.inl (by decide))).trans ((fup_other ehB17 747 j (Or.inl (by decide))).trans (fup_other ehB3 747 j (Or.inl (by decide)))))))))) (by omega)) (by omega) (by omega) (by omega) g0z307 (hT_mk (fFr_at fhB308 747 (by decide +kernel) rfl) (by omega)) g0z317 (by omega) g0z337 (hT_mk (fFr_at fhB338 747 (by decide +kernel) rfl) (by omega)) (by omega) (by omega) (by omega) (by omega) g2z347 (hT_mk (fFr_at fhB348 747 (by decide +kernel) rfl) (by omega)) (by omega) (by omega) (by omega)⟩ | exact Or.inr ⟨by omega, pr_no (hT_mk (fun j => ((fup_other ehB293 747 j (Or.inl (by decide))).trans ((fup_other ehB73 747 j (Or.inl (by decide))).trans ((fup_other ehB59 747 j (Or.inl (by decide))).trans ((fup_other ehB45 747 j (Or.inl (by decide))).trans ((fup_other ehB31 747 j (Or.inl (by decide))).trans ((fup_other ehB17 747 j (Or.inl (by decide))).trans (fup_other ehB3 747 j (Or.inl (by decide)))))))))) (by omega)) (by omega) (by omega) (by omega) g0z307 (hT_mk (fFr_at fhB308 747 (by decide +kernel) rfl) (by omega)) g0z317 (by omega) (by omega)⟩), (by intro q; omega), (by intro q; omega), (mR_fr (fFr_of hB354) (by decide +kernel))⟩
          · intro c370
            have u94 := g4z347 (by omega)
            refine And.intro ⟨rfl, by decide, by decide⟩ (fgetf fb_740_11 h0 hB348 ?_)
            intro z371 lz371 uz371 qz371
            refine And.intro (by first | exact fi_ lz371 uz371 rfl | omega) (And.intro ?_ ?_)
            · intro c372
              refine And.intro ⟨rfl, by decide, by decide⟩ (And.intro rfl (And.intro (Or.inl rfl) (fputf fb_740_8 (by decide +kernel) hW (by first | exact ⟨by decide, by decide⟩ | omega) ?_)))
              intro IhB373 ehB373 hB373
              have t374 := fup_at ehB373 8 (by first | rfl | omega)
              have t375 : IhB373 740 9 = IhB348 740 9 := (congrFun (congrFun ehB373 740) 9).trans (fup_ne (by first | decide | omega))
              have t376 : IhB373 740 10 = IhB348 740 10 := (congrFun (congrFun ehB373 740) 10).trans (fup_ne (by first | decide | omega))
              have t377 : IhB373 740 11 = IhB348 740 11 := (congrFun (congrFun ehB373 740) 11).trans (fup_ne (by first | decide | omega))
              have t378 : IhB373 740 12 = IhB348 740 12 := (congrFun (congrFun ehB373 740) 12).trans (fup_ne (by first | decide | omega))
              have t379 : IhB373 740 13 = IhB348 740 13 := (congrFun (congrFun ehB373 740) 13).trans (fup_ne (by first | decide | omega))
              have t380 : IhB373 740 14 = IhB348 740 14 := (congrFun (congrFun ehB373 740) 14).trans (fup_ne (by first | decide | omega))
              have t381 : IhB373 740 15 = IhB348 740 15 := (congrFun (congrFun ehB373 740) 15).trans (fup_ne (by first | decide | omega))
              have t382 : IhB373 740 16 = IhB348 740 16 := (congrFun (congrFun ehB373 740) 16).trans (fup_ne (by first | decide | omega))
              have t383 : IhB373 740 17 = IhB348 740 17 := (congrFun (congrFun ehB373 740) 17).trans (fup_ne (by first | decide | omega))
              have t384 : IhB373 740 18 = IhB348 740 18 := (congrFun (congrFun ehB373 740) 18).trans (fup_ne (by first | decide | omega))
              have t385 : IhB373 741 9 = IhB348 741 9 := (congrFun (congrFun ehB373 741) 9).trans (fup_ne (by first | decide | omega))
              have k386 := fBz_eq hB373 (a := 741) (j := 9) (by decide +kernel)
              refine And.intro (by omega) (And.intro ?_ ?_)
              · intro c387
                refine And.intro (True.intro) ?_
                exact ⟨_, rfl, by omega, (by first | exact ⟨fun hn j hj => (fup_other ehB373 741 j (Or.inl (by decide))).trans ((g0z347 j (by omega)).trans ((fFr_S fhB338 (by decide +kernel) j).trans ((fFr_S fhB308 (by decide +kernel) j).trans (((fup_other ehB293 741 j (Or.inl (by decide))).trans ((fup_other ehB73 741 j (Or.inl (by decide))).trans ((fup_other ehB59 741 j (Or.inl (by decide))).trans ((fup_other ehB45 741 j (Or.inl (by decide))).trans ((fup_other ehB31 741 j (Or.inl (by decide))).trans ((fup_other ehB17 741 j (Or.inl (by decide))).trans (fup_other ehB3 741 j (Or.inl (by decide))))))))))))), fun hn j hj => (fup_other ehB373 741 j (Or.inl (by decide))).trans ((g0z347 j (by omega)).trans ((fFr_S fhB338 (by decide +kernel) j).trans ((fFr_S fhB308 (by decide +kernel) j).trans (((fup_other ehB293 741 j (Or.inl (by decide))).trans ((fup_other ehB73 741 j (Or.inl (by decide))).trans ((fup_other ehB59 741 j (Or.inl (by decide))).trans ((fup_other ehB45 741 j (Or.inl (by decide))).trans ((fup_other ehB31 741 j (Or.inl (by decide))).trans ((fup_other ehB17 741 j (Or.inl (by decide))).trans (fup_other ehB3 741 j (Or.inl (by decide)))))))))))))⟩ | exact ⟨fun hn j hj => (fup_other ehB373 741 j (Or.inl (by decide))).trans ((fFr_S fhB308 (by decide +kernel) j).trans (((fup_other ehB293 741 j (Or.inl (by decide))).trans ((fup_other ehB73 741 j (Or.inl (by decide))).trans ((fup_other ehB59 741 j (Or.inl (by decide))).trans ((fup_other ehB45 741 j (Or.inl (by decide))).trans ((fup_other ehB31 741 j (Or.inl (by decide))).trans ((fup_other ehB17 741 j (Or.inl (by decide))).trans (fup_other ehB3 741 j (Or.inl (by decide))))))))))), fun hn j hj => (fup_other ehB373 741 j (Or.inl (by decide))).trans ((fFr_S fhB308 (by decide +kernel) j).trans (((fup_other ehB293 741 j (Or.inl (by decide))).trans ((fup_other ehB73 741 j (Or.inl (by decide))).trans ((fup_other ehB59 741 j (Or.inl (by decide))).trans ((fup_other ehB45 741 j (Or.inl (by decide))).trans ((fup_other ehB31 741 j (Or.inl (by decide))).trans ((fup_other ehB17 741 j (Or.inl (by decide))).trans (fup_other ehB3 741 j (Or.inl (by decide)))))))))))⟩), (by first | exact (fun hz hn => sOne_to (sOne_be (by omega) (g1z347 (by omega)) (fun j _ => (fup_other ehB373 741 j (Or.inl (by decide))))) (by omega) (by omega) (by omega)) | exact (fun hz => absurd hz (by omega))), (by first | exact Or.inl ⟨by omega, pr_ok (hT_mk (fun j => ((fup_other ehB293 747 j (Or.inl (by decide))).trans ((fup_other ehB73 747 j (Or.inl (by decide))).trans ((fup_other ehB59 747 j (Or.inl (by decide))).trans ((fup_other ehB45 747 j (Or.inl (by decide))).trans ((fup_other ehB31 747 j (Or.inl (by decide))).trans ((fup_other ehB17 747 j (Or.inl (by decide))).trans (fup_other ehB3 747 j (Or.inl (by decide)))))))))) (by omega)) (by omega) (by omega) (by omega) g0z307 (hT_mk (fFr_at fhB308 747 (by decide +kernel) rfl) (by omega)) g0z317 (by omega) g0z337 (hT_mk (fFr_at fhB338 747 (by decide +kernel) rfl) (by omega)) (by omega) (by omega) (by omega) (by omega) g2z347 (hT_mk (fFr_at fhB348 747 (by decide +kernel) rfl) (by omega)) (by omega) (by omega) (sd_same (fun j => fup_other ehB373 741 j (Or.inl (by decide))) (by omega) (by omega)) (by omega)⟩ | exact Or.inr ⟨by omega, pr_bad (hT_mk (fun j => ((fup_other ehB293 747 j (Or.inl (by decide))).trans ((fup_other ehB73 747 j (Or.inl (by decide))).trans ((fup_other ehB59 747 j (Or.inl (by decide))).trans ((fup_other ehB45 747 j (Or.inl (by decide))).trans ((fup_other ehB31 747 j (Or.inl (by decide))).trans ((fup_other ehB17 747 j (Or.inl (by decide))).trans (fup_other ehB3 747 j (Or.inl (by decide)))))))))) (by omega)) (by omega) (by omega) (by omega) g0z307 (hT_mk (fFr_at fhB308 747 (by decide +kernel) rfl) (by omega)) g0z317 (by omega) g0z337 (hT_mk (fFr_at fhB338 747 (by decide +kernel) rfl) (by omega)) (by omega) (by omega) (by omega) (by omega) g2z347 (hT_mk (fFr_at fhB348 747 (by decide +kernel) rfl) (by omega)) (by omega) (by omega) (by omega)⟩ | exact Or.inr ⟨by omega, pr_no (hT_mk (fun j => ((fup_other ehB293 747 j (Or.inl (by decide))).trans ((fup_other ehB73 747 j (Or.inl (by decide))).trans ((fup_other ehB59 747 j (Or.inl (by decide))).trans ((fup_other ehB45 747 j (Or.inl (by decide))).trans ((fup_other ehB31 747 j (Or.inl (by decide))).trans ((fup_other ehB17 747 j (Or.inl (by decide))).trans (fup_other ehB3 747 j (Or.inl (by decide)))))))))) (by omega)) (by omega) (by omega) (by omega) g0z307 (hT_mk (fFr_at fhB308 747 (by decide +kernel) rfl) (by omega)) g0z317 (by omega) (by omega)⟩), (by intro q; omega), (by intro q; omega), (mR_fr (fFr_of hB373) (by decide +kernel))⟩
              · intro c388
                refine And.intro (True.intro) ?_
                exact ⟨_, rfl, by omega, (by first | exact ⟨fun hn j hj => (fup_other ehB373 741 j (Or.inl (by decide))).trans ((g0z347 j (by omega)).trans ((fFr_S fhB338 (by decide +kernel) j).trans ((fFr_S fhB308 (by decide +kernel) j).trans (((fup_other ehB293 741 j (Or.inl (by decide))).trans ((fup_other ehB73 741 j (Or.inl (by decide))).trans ((fup_other ehB59 741 j (Or.inl (by decide))).trans ((fup_other ehB45 741 j (Or.inl (by decide))).trans ((fup_other ehB31 741 j (Or.inl (by decide))).trans ((fup_other ehB17 741 j (Or.inl (by decide))).trans (fup_other ehB3 741 j (Or.inl (by decide))))))))))))), fun hn j hj => (fup_other ehB373 741 j (Or.inl (by decide))).trans ((g0z347 j (by omega)).trans ((fFr_S fhB338 (by decide +kernel) j).trans ((fFr_S fhB308 (by decide +kernel) j).trans (((fup_other ehB293 741 j (Or.inl (by decide))).trans ((fup_other ehB73 741 j (Or.inl (by decide))).trans ((fup_other ehB59 741 j (Or.inl (by decide))).trans ((fup_other ehB45 741 j (Or.inl (by decide))).trans ((fup_other ehB31 741 j (Or.inl (by decide))).trans ((fup_other ehB17 741 j (Or.inl (by decide))).trans (fup_other ehB3 741 j (Or.inl (by decide)))))))))))))⟩ | exact ⟨fun hn j hj => (fup_other ehB373 741 j (Or.inl (by decide))).trans ((fFr_S fhB308 (by decide +kernel) j).trans (((fup_other ehB293 741 j (Or.inl (by decide))).trans ((fup_other ehB73 741 j (Or.inl (by decide))).trans ((fup_other ehB59 741 j (Or.inl (by decide))).trans ((fup_other ehB45 741 j (Or.inl (by decide))).trans ((fup_other ehB31 741 j (Or.inl (by decide))).trans ((fup_other ehB17 741 j (Or.inl (by decide))).trans (fup_other ehB3 741 j (Or.inl (by decide))))))))))), fun hn j hj => (fup_other ehB373 741 j (Or.inl (by decide))).trans ((fFr_S fhB308 (by decide +kernel) j).trans (((fup_other ehB293 741 j (Or.inl (by decide))).trans ((fup_other ehB73 741 j (Or.inl (by decide))).trans ((fup_other ehB59 741 j (Or.inl (by decide))).trans ((fup_other ehB45 741 j (Or.inl (by decide))).trans ((fup_other ehB31 741 j (Or.inl (by decide))).trans ((fup_other ehB17 741 j (Or.inl (by decide))).trans (fup_other ehB3 741 j (Or.inl (by decide)))))))))))⟩), (by first | exact (fun hz hn => sOne_to (sOne_be (by omega) (g1z347 (by omega)) (fun j _ => (fup_other ehB373 741 j (Or.inl (by decide))))) (by omega) (by omega) (by omega)) | exact (fun hz => absurd hz (by omega))), (by first | exact Or.inl ⟨by omega, pr_ok (hT_mk (fun j => ((fup_other ehB293 747 j (Or.inl (by decide))).trans ((fup_other ehB73 747 j (Or.inl (by decide))).trans ((fup_other ehB59 747 j (Or.inl (by decide))).trans ((fup_other ehB45 747 j (Or.inl (by decide))).trans ((fup_other ehB31 747 j (Or.inl (by decide))).trans ((fup_other ehB17 747 j (Or.inl (by decide))).trans (fup_other ehB3 747 j (Or.inl (by decide)))))))))) (by omega)) (by omega) (by omega) (by omega) g0z307 (hT_mk (fFr_at fhB308 747 (by decide +kernel) rfl) (by omega)) g0z317 (by omega) g0z337 (hT_mk (fFr_at fhB338 747 (by decide +kernel) rfl) (by omega)) (by omega) (by omega) (by omega) (by omega) g2z347 (hT_mk (fFr_at fhB348 747 (by decide +kernel) rfl) (by omega)) (by omega) (by omega) (sd_same (fun j => fup_other ehB373 741 j (Or.inl (by decide))) (by omega) (by omega)) (by omega)⟩ | exact Or.inr ⟨by omega, pr_bad (hT_mk (fun j => ((fup_other ehB293 747 j (Or.inl (by decide))).trans ((fup_other ehB73 747 j (Or.inl (by decide))).trans ((fup_other ehB59 747 j (Or.inl (by decide))).trans ((fup_other ehB45 747 j (Or.inl (by decide))).trans ((fup_other ehB31 747 j (Or.inl (by decide))).trans ((fup_other ehB17 747 j (Or.inl (by decide))).trans (fup_other ehB3 747 j (Or.inl (by decide)))))))))) (by omega)) (by omega) (by omega) (by omega) g0z307 (hT_mk (fFr_at fhB308 747 (by decide +kernel) rfl) (by omega)) g0z317 (by omega) g0z337 (hT_mk (fFr_at fhB338 747 (by decide +kernel) rfl) (by omega)) (by omega) (by omega) (by omega) (by omega) g2z347 (hT_mk (fFr_at fhB348 747 (by decide +kernel) rfl) (by omega)) (by omega) (by omega) (by omega)⟩ | exact Or.inr ⟨by omega, pr_no (hT_mk (fun j => ((fup_other ehB293 747 j (Or.inl (by decide))).trans ((fup_other ehB73 747 j (Or.inl (by decide))).trans ((fup_other ehB59 747 j (Or.inl (by decide))).trans ((fup_other ehB45 747 j (Or.inl (by decide))).trans ((fup_other ehB31 747 j (Or.inl (by decide))).trans ((fup_other ehB17 747 j (Or.inl (by decide))).trans (fup_other ehB3 747 j (Or.inl (by decide)))))))))) (by omega)) (by omega) (by omega) (by omega) g0z307 (hT_mk (fFr_at fhB308 747 (by decide +kernel) rfl) (by omega)) g0z317 (by omega) (by omega)⟩), (by intro q; omega), (by intro q; omega), (mR_fr (fFr_of hB373) (by decide +kernel))⟩
            · intro c389
              refine And.intro ⟨rfl, by decide, by decide⟩ (And.intro rfl (And.intro (Or.inl rfl) (fputf fb_740_8 (by decide +kernel) hW (by first | exact ⟨by decide, by decide⟩ | omega) ?_)))
              intro IhB390 ehB390 hB390
              have t391 := fup_at ehB390 8 (by first | rfl | omega)
              have t392 : IhB390 740 9 = IhB348 740 9 := (congrFun (congrFun ehB390 740) 9).trans (fup_ne (by first | decide | omega))
              have t393 : IhB390 740 10 = IhB348 740 10 := (congrFun (congrFun ehB390 740) 10).trans (fup_ne (by first | decide | omega))
              have t394 : IhB390 740 11 = IhB348 740 11 := (congrFun (congrFun ehB390 740) 11).trans (fup_ne (by first | decide | omega))
              have t395 : IhB390 740 12 = IhB348 740 12 := (congrFun (congrFun ehB390 740) 12).trans (fup_ne (by first | decide | omega))
              have t396 : IhB390 740 13 = IhB348 740 13 := (congrFun (congrFun ehB390 740) 13).trans (fup_ne (by first | decide | omega))
              have t397 : IhB390 740 14 = IhB348 740 14 := (congrFun (congrFun ehB390 740) 14).trans (fup_ne (by first | decide | omega))
              have t398 : IhB390 740 15 = IhB348 740 15 := (congrFun (congrFun ehB390 740) 15).trans (fup_ne (by first | decide | omega))
              have t399 : IhB390 740 16 = IhB348 740 16 := (congrFun (congrFun ehB390 740) 16).trans (fup_ne (by first | decide | omega))
              have t400 : IhB390 740 17 = IhB348 740 17 := (congrFun (congrFun ehB390 740) 17).trans (fup_ne (by first | decide | omega))
              have t401 : IhB390 740 18 = IhB348 740 18 := (congrFun (congrFun ehB390 740) 18).trans (fup_ne (by first | decide | omega))
              have t402 : IhB390 741 9 = IhB348 741 9 := (congrFun (congrFun ehB390 741) 9).trans (fup_ne (by first | decide | omega))
              have k403 := fBz_eq hB390 (a := 741) (j := 9) (by decide +kernel)
              refine And.intro (by first | exact ⟨by decide, by decide⟩ | omega) (And.intro ?_ ?_)
              · intro c404
                refine And.intro (True.intro) ?_
                exact ⟨_, rfl, by omega, (by first | exact ⟨fun hn j hj => (fup_other ehB390 741 j (Or.inl (by decide))).trans ((g0z347 j (by omega)).trans ((fFr_S fhB338 (by decide +kernel) j).trans ((fFr_S fhB308 (by decide +kernel) j).trans (((fup_other ehB293 741 j (Or.inl (by decide))).trans ((fup_other ehB73 741 j (Or.inl (by decide))).trans ((fup_other ehB59 741 j (Or.inl (by decide))).trans ((fup_other ehB45 741 j (Or.inl (by decide))).trans ((fup_other ehB31 741 j (Or.inl (by decide))).trans ((fup_other ehB17 741 j (Or.inl (by decide))).trans (fup_other ehB3 741 j (Or.inl (by decide))))))))))))), fun hn j hj => (fup_other ehB390 741 j (Or.inl (by decide))).trans ((g0z347 j (by omega)).trans ((fFr_S fhB338 (by decide +kernel) j).trans ((fFr_S fhB308 (by decide +kernel) j).trans (((fup_other ehB293 741 j (Or.inl (by decide))).trans ((fup_other ehB73 741 j (Or.inl (by decide))).trans ((fup_other ehB59 741 j (Or.inl (by decide))).trans ((fup_other ehB45 741 j (Or.inl (by decide))).trans ((fup_other ehB31 741 j (Or.inl (by decide))).trans ((fup_other ehB17 741 j (Or.inl (by decide))).trans (fup_other ehB3 741 j (Or.inl (by decide)))))))))))))⟩ | exact ⟨fun hn j hj => (fup_other ehB390 741 j (Or.inl (by decide))).trans ((fFr_S fhB308 (by decide +kernel) j).trans (((fup_other ehB293 741 j (Or.inl (by decide))).trans ((fup_other ehB73 741 j (Or.inl (by decide))).trans ((fup_other ehB59 741 j (Or.inl (by decide))).trans ((fup_other ehB45 741 j (Or.inl (by decide))).trans ((fup_other ehB31 741 j (Or.inl (by decide))).trans ((fup_other ehB17 741 j (Or.inl (by decide))).trans (fup_other ehB3 741 j (Or.inl (by decide))))))))))), fun hn j hj => (fup_other ehB390 741 j (Or.inl (by decide))).trans ((fFr_S fhB308 (by decide +kernel) j).trans (((fup_other ehB293 741 j (Or.inl (by decide))).trans ((fup_other ehB73 741 j (Or.inl (by decide))).trans ((fup_other ehB59 741 j (Or.inl (by decide))).trans ((fup_other ehB45 741 j (Or.inl (by decide))).trans ((fup_other ehB31 741 j (Or.inl (by decide))).trans ((fup_other ehB17 741 j (Or.inl (by decide))).trans (fup_other ehB3 741 j (Or.inl (by decide)))))))))))⟩), (by first | exact (fun hz hn => sOne_to (sOne_be (by omega) (g1z347 (by omega)) (fun j _ => (fup_other ehB390 741 j (Or.inl (by decide))))) (by omega) (by omega) (by omega)) | exact (fun hz => absurd hz (by omega))), (by first | exact Or.inl ⟨by omega, pr_ok (hT_mk (fun j => ((fup_other ehB293 747 j (Or.inl (by decide))).trans ((fup_other ehB73 747 j (Or.inl (by decide))).trans ((fup_other ehB59 747 j (Or.inl (by decide))).trans ((fup_other ehB45 747 j (Or.inl (by decide))).trans ((fup_other ehB31 747 j (Or.inl (by decide))).trans ((fup_other ehB17 747 j (Or.inl (by decide))).trans (fup_other ehB3 747 j (Or.inl (by decide)))))))))) (by omega)) (by omega) (by omega) (by omega) g0z307 (hT_mk (fFr_at fhB308 747 (by decide +kernel) rfl) (by omega)) g0z317 (by omega) g0z337 (hT_mk (fFr_at fhB338 747 (by decide +kernel) rfl) (by omega)) (by omega) (by omega) (by omega) (by omega) g2z347 (hT_mk (fFr_at fhB348 747 (by decide +kernel) rfl) (by omega)) (by omega) (by omega) (sd_same (fun j => fup_other ehB390 741 j (Or.inl (by decide))) (by omega) (by omega)) (by omega)⟩ | exact Or.inr ⟨by omega, pr_bad (hT_mk (fun j => ((fup_other ehB293 747 j (Or.inl (by decide))).trans ((fup_other ehB73 747 j (Or.inl (by decide))).trans ((fup_other ehB59 747 j (Or.inl (by decide))).trans ((fup_other ehB45 747 j (Or.inl (by decide))).trans ((fup_other ehB31 747 j (Or.inl (by decide))).trans ((fup_other ehB17 747 j (Or.inl (by decide))).trans (fup_other ehB3 747 j (Or.inl (by decide)))))))))) (by omega)) (by omega) (by omega) (by omega) g0z307 (hT_mk (fFr_at fhB308 747 (by decide +kernel) rfl) (by omega)) g0z317 (by omega) g0z337 (hT_mk (fFr_at fhB338 747 (by decide +kernel) rfl) (by omega)) (by omega) (by omega) (by omega) (by omega) g2z347 (hT_mk (fFr_at fhB348 747 (by decide +kernel) rfl) (by omega)) (by omega) (by omega) (by omega)⟩ | exact Or.inr ⟨by omega, pr_no (hT_mk (fun j => ((fup_other ehB293 747 j (Or.inl (by decide))).trans ((fup_other ehB73 747 j (Or.inl (by decide))).trans ((fup_other ehB59 747 j (Or.inl (by decide))).trans ((fup_other ehB45 747 j (Or.inl (by decide))).trans ((fup_other ehB31 747 j (Or.inl (by decide))).trans ((fup_other ehB17 747 j (Or.inl (by decide))).trans (fup_other ehB3 747 j (Or.inl (by decide)))))))))) (by omega)) (by omega) (by omega) (by omega) g0z307 (hT_mk (fFr_at fhB308 747 (by decide +kernel) rfl) (by omega)) g0z317 (by omega) (by omega)⟩), (by intro q; omega), (by intro q; omega), (mR_fr (fFr_of hB390) (by decide +kernel))⟩
              · intro c405
                refine And.intro (True.intro) ?_
                exact ⟨_, rfl, by omega, (by first | exact ⟨fun hn j hj => (fup_other ehB390 741 j (Or.inl (by decide))).trans ((g0z347 j (by omega)).trans ((fFr_S fhB338 (by decide +kernel) j).trans ((fFr_S fhB308 (by decide +kernel) j).trans (((fup_other ehB293 741 j (Or.inl (by decide))).trans ((fup_other ehB73 741 j (Or.inl (by decide))).trans ((fup_other ehB59 741 j (Or.inl (by decide))).trans ((fup_other ehB45 741 j (Or.inl (by decide))).trans ((fup_other ehB31 741 j (Or.inl (by decide))).trans ((fup_other ehB17 741 j (Or.inl (by decide))).trans (fup_other ehB3 741 j (Or.inl (by decide))))))))))))), fun hn j hj => (fup_other ehB390 741 j (Or.inl (by decide))).trans ((g0z347 j (by omega)).trans ((fFr_S fhB338 (by decide +kernel) j).trans ((fFr_S fhB308 (by decide +kernel) j).trans (((fup_other ehB293 741 j (Or.inl (by decide))).trans ((fup_other ehB73 741 j (Or.inl (by decide))).trans ((fup_other ehB59 741 j (Or.inl (by decide))).trans ((fup_other ehB45 741 j (Or.inl (by decide))).trans ((fup_other ehB31 741 j (Or.inl (by decide))).trans ((fup_other ehB17 741 j (Or.inl (by decide))).trans (fup_other ehB3 741 j (Or.inl (by decide)))))))))))))⟩ | exact ⟨fun hn j hj => (fup_other ehB390 741 j (Or.inl (by decide))).trans ((fFr_S fhB308 (by decide +kernel) j).trans (((fup_other ehB293 741 j (Or.inl (by decide))).trans ((fup_other ehB73 741 j (Or.inl (by decide))).trans ((fup_other ehB59 741 j (Or.inl (by decide))).trans ((fup_other ehB45 741 j (Or.inl (by decide))).trans ((fup_other ehB31 741 j (Or.inl (by decide))).trans ((fup_other ehB17 741 j (Or.inl (by decide))).trans (fup_other ehB3 741 j (Or.inl (by decide))))))))))), fun hn j hj => (fup_other ehB390 741 j (Or.inl (by decide))).trans ((fFr_S fhB308 (by decide +kernel) j).trans (((fup_other ehB293 741 j (Or.inl (by decide))).trans ((fup_other ehB73 741 j (Or.inl (by decide))).trans ((fup_other ehB59 741 j (Or.inl (by decide))).trans ((fup_other ehB45 741 j (Or.inl (by decide))).trans ((fup_other ehB31 741 j (Or.inl (by decide))).trans ((fup_other ehB17 741 j (Or.inl (by decide))).trans (fup_other ehB3 741 j (Or.inl (by decide)))))))))))⟩), (by first | exact (fun hz hn => sOne_to (sOne_be (by omega) (g1z347 (by omega)) (fun j _ => (fup_other ehB390 741 j (Or.inl (by decide))))) (by omega) (by omega) (by omega)) | exact (fun hz => absurd hz (by omega))), (by first | exact Or.inl ⟨by omega, pr_ok (hT_mk (fun j => ((fup_other ehB293 747 j (Or.inl (by decide))).trans ((fup_other ehB73 747 j (Or.inl (by decide))).trans ((fup_other ehB59 747 j (Or.inl (by decide))).trans ((fup_other ehB45 747 j (Or.inl (by decide))).trans ((fup_other ehB31 747 j (Or.inl (by decide))).trans ((fup_other ehB17 747 j (Or.inl (by decide))).trans (fup_other ehB3 747 j (Or.inl (by decide)))))))))) (by omega)) (by omega) (by omega) (by omega) g0z307 (hT_mk (fFr_at fhB308 747 (by decide +kernel) rfl) (by omega)) g0z317 (by omega) g0z337 (hT_mk (fFr_at fhB338 747 (by decide +kernel) rfl) (by omega)) (by omega) (by omega) (by omega) (by omega) g2z347 (hT_mk (fFr_at fhB348 747 (by decide +kernel) rfl) (by omega)) (by omega) (by omega) (sd_same (fun j => fup_other ehB390 741 j (Or.inl (by decide))) (by omega) (by omega)) (by omega)⟩ | exact Or.inr ⟨by omega, pr_bad (hT_mk (fun j => ((fup_other ehB293 747 j (Or.inl (by decide))).trans ((fup_other ehB73 747 j (Or.inl (by decide))).trans ((fup_other ehB59 747 j (Or.inl (by decide))).trans ((fup_other ehB45 747 j (Or.inl (by decide))).trans ((fup_other ehB31 747 j (Or.inl (by decide))).trans ((fup_other ehB17 747 j (Or.inl (by decide))).trans (fup_other ehB3 747 j (Or.inl (by decide)))))))))) (by omega)) (by omega) (by omega) (by omega) g0z307 (hT_mk (fFr_at fhB308 747 (by decide +kernel) rfl) (by omega)) g0z317 (by omega) g0z337 (hT_mk (fFr_at fhB338 747 (by decide +kernel) rfl) (by omega)) (by omega) (by omega) (by omega) (by omega) g2z347 (hT_mk (fFr_at fhB348 747 (by decide +kernel) rfl) (by omega)) (by omega) (by omega) (by omega)⟩ | exact Or.inr ⟨by omega, pr_no (hT_mk (fun j => ((fup_other ehB293 747 j (Or.inl (by decide))).trans ((fup_other ehB73 747 j (Or.inl (by decide))).trans ((fup_other ehB59 747 j (Or.inl (by decide))).trans ((fup_other ehB45 747 j (Or.inl (by decide))).trans ((fup_other ehB31 747 j (Or.inl (by decide))).trans ((fup_other ehB17 747 j (Or.inl (by decide))).trans (fup_other ehB3 747 j (Or.inl (by decide)))))))))) (by omega)) (by omega) (by omega) (by omega) g0z307 (hT_mk (fFr_at fhB308 747 (by decide +kernel) rfl) (by omega)) g0z317 (by omega) (by omega)⟩), (by intro q; omega), (by intro q; omega), (mR_fr (fFr_of hB390) (by decide +kernel))⟩
      · intro c406
        refine And.intro (by first | exact ⟨by decide, by decide⟩ | omega) (And.intro ?_ ?_)
        · intro c407
          refine And.intro ⟨rfl, by decide, by decide⟩ (And.intro rfl (And.intro (Or.inl rfl) (fputf fb_740_8 (by decide +kernel) hW (by first | exact ⟨by decide, by decide⟩ | omega) ?_)))
          intro IhB408 ehB408 hB408
          have t409 := fup_at ehB408 8 (by first | rfl | omega)
          have t410 : IhB408 740 9 = IhB308 740 9 := (congrFun (congrFun ehB408 740) 9).trans (fup_ne (by first | decide | omega))
          have t411 : IhB408 740 10 = IhB308 740 10 := (congrFun (congrFun ehB408 740) 10).trans (fup_ne (by first | decide | omega))
          have t412 : IhB408 740 11 = IhB308 740 11 := (congrFun (congrFun ehB408 740) 11).trans (fup_ne (by first | decide | omega))
          have t413 : IhB408 740 12 = IhB308 740 12 := (congrFun (congrFun ehB408 740) 12).trans (fup_ne (by first | decide | omega))
          have t414 : IhB408 740 13 = IhB308 740 13 := (congrFun (congrFun ehB408 740) 13).trans (fup_ne (by first | decide | omega))
          have t415 : IhB408 740 14 = IhB308 740 14 := (congrFun (congrFun ehB408 740) 14).trans (fup_ne (by first | decide | omega))
          have t416 : IhB408 740 15 = IhB308 740 15 := (congrFun (congrFun ehB408 740) 15).trans (fup_ne (by first | decide | omega))
          have t417 : IhB408 740 16 = IhB308 740 16 := (congrFun (congrFun ehB408 740) 16).trans (fup_ne (by first | decide | omega))
          have t418 : IhB408 740 17 = IhB308 740 17 := (congrFun (congrFun ehB408 740) 17).trans (fup_ne (by first | decide | omega))
          have t419 : IhB408 740 18 = IhB308 740 18 := (congrFun (congrFun ehB408 740) 18).trans (fup_ne (by first | decide | omega))
          have t420 : IhB408 741 9 = IhB308 741 9 := (congrFun (congrFun ehB408 741) 9).trans (fup_ne (by first | decide | omega))
          have k421 := fBz_eq hB408 (a := 741) (j := 9) (by decide +kernel)
          refine And.intro (by first | exact ⟨by decide, by decide⟩ | omega) (And.intro ?_ ?_)
          · intro c422
            refine And.intro (True.intro) ?_
            exact ⟨_, rfl, by omega, (by first | exact ⟨fun hn j hj => (fup_other ehB408 741 j (Or.inl (by decide))).trans ((g0z347 j (by omega)).trans ((fFr_S fhB338 (by decide +kernel) j).trans ((fFr_S fhB308 (by decide +kernel) j).trans (((fup_other ehB293 741 j (Or.inl (by decide))).trans ((fup_other ehB73 741 j (Or.inl (by decide))).trans ((fup_other ehB59 741 j (Or.inl (by decide))).trans ((fup_other ehB45 741 j (Or.inl (by decide))).trans ((fup_other ehB31 741 j (Or.inl (by decide))).trans ((fup_other ehB17 741 j (Or.inl (by decide))).trans (fup_other ehB3 741 j (Or.inl (by decide))))))))))))), fun hn j hj => (fup_other ehB408 741 j (Or.inl (by decide))).trans ((g0z347 j (by omega)).trans ((fFr_S fhB338 (by decide +kernel) j).trans ((fFr_S fhB308 (by decide +kernel) j).trans (((fup_other ehB293 741 j (Or.inl (by decide))).trans ((fup_other ehB73 741 j (Or.inl (by decide))).trans ((fup_other ehB59 741 j (Or.inl (by decide))).trans ((fup_other ehB45 741 j (Or.inl (by decide))).trans ((fup_other ehB31 741 j (Or.inl (by decide))).trans ((fup_other ehB17 741 j (Or.inl (by decide))).trans (fup_other ehB3 741 j (Or.inl (by decide)))))))))))))⟩ | exact ⟨fun hn j hj => (fup_other ehB408 741 j (Or.inl (by decide))).trans ((fFr_S fhB308 (by decide +kernel) j).trans (((fup_other ehB293 741 j (Or.inl (by decide))).trans ((fup_other ehB73 741 j (Or.inl (by decide))).trans ((fup_other ehB59 741 j (Or.inl (by decide))).trans ((fup_other ehB45 741 j (Or.inl (by decide))).trans ((fup_other ehB31 741 j (Or.inl (by decide))).trans ((fup_other ehB17 741 j (Or.inl (by decide))).trans (fup_other ehB3 741 j (Or.inl (by decide))))))))))), fun hn j hj => (fup_other ehB408 741 j (Or.inl (by decide))).trans ((fFr_S fhB308 (by decide +kernel) j).trans (((fup_other ehB293 741 j (Or.inl (by decide))).trans ((fup_other ehB73 741 j (Or.inl (by decide))).trans ((fup_other ehB59 741 j (Or.inl (by decide))).trans ((fup_other ehB45 741 j (Or.inl (by decide))).trans ((fup_other ehB31 741 j (Or.inl (by decide))).trans ((fup_other ehB17 741 j (Or.inl (by decide))).trans (fup_other ehB3 741 j (Or.inl (by decide)))))))))))⟩), (by first | exact (fun hz hn => sOne_to (sOne_be (by omega) (g1z347 (by omega)) (fun j _ => (fup_other ehB408 741 j (Or.inl (by decide))))) (by omega) (by omega) (by omega)) | exact (fun hz => absurd hz (by omega))), (by first | exact Or.inl ⟨by omega, pr_ok (hT_mk (fun j => ((fup_other ehB293 747 j (Or.inl (by decide))).trans ((fup_other ehB73 747 j (Or.inl (by decide))).trans ((fup_other ehB59 747 j (Or.inl (by decide))).trans ((fup_other ehB45 747 j (Or.inl (by decide))).trans ((fup_other ehB31 747 j (Or.inl (by decide))).trans ((fup_other ehB17 747 j (Or.inl (by decide))).trans (fup_other ehB3 747 j (Or.inl (by decide)))))))))) (by omega)) (by omega) (by omega) (by omega) g0z307 (hT_mk (fFr_at fhB308 747 (by decide +kernel) rfl) (by omega)) g0z317 (by omega) g0z337 (hT_mk (fFr_at fhB338 747 (by decide +kernel) rfl) (by omega)) (by omega) (by omega) (by omega) (by omega) g2z347 (hT_mk (fFr_at fhB348 747 (by decide +kernel) rfl) (by omega)) (by omega) (by omega) (sd_same (fun j => fup_other ehB408 741 j (Or.inl (by decide))) (by omega) (by omega)) (by omega)⟩ | exact Or.inr ⟨by omega, pr_bad (hT_mk (fun j => ((fup_other ehB293 747 j (Or.inl (by decide))).trans ((fup_other ehB73 747 j (Or.inl (by decide))).trans ((fup_other ehB59 747 j (Or.inl (by decide))).trans ((fup_other ehB45 747 j (Or.inl (by decide))).trans ((fup_other ehB31 747 j (Or.inl (by decide))).trans ((fup_other ehB17 747 j (Or.inl (by decide))).trans (fup_other ehB3 747 j (Or.inl (by decide)))))))))) (by omega)) (by omega) (by omega) (by omega) g0z307 (hT_mk (fFr_at fhB308 747 (by decide +kernel) rfl) (by omega)) g0z317 (by omega) g0z337 (hT_mk (fFr_at fhB338 747 (by decide +kernel) rfl) (by omega)) (by omega) (by omega) (by omega) (by omega) g2z347 (hT_mk (fFr_at fhB348 747 (by decide +kernel) rfl) (by omega)) (by omega) (by omega) (by omega)⟩ | exact Or.inr ⟨by omega, pr_no (hT_mk (fun j => ((fup_other ehB293 747 j (Or.inl (by decide))).trans ((fup_other ehB73 747 j (Or.inl (by decide))).trans ((fup_other ehB59 747 j (Or.inl (by decide))).trans ((fup_other ehB45 747 j (Or.inl (by decide))).trans ((fup_other ehB31 747 j (Or.inl (by decide))).trans ((fup_other ehB17 747 j (Or.inl (by decide))).trans (fup_other ehB3 747 j (Or.inl (by decide)))))))))) (by omega)) (by omega) (by omega) (by omega) g0z307 (hT_mk (fFr_at fhB308 747 (by decide +kernel) rfl) (by omega)) g0z317 (by omega) (by omega)⟩), (by intro q; omega), (by intro q; omega), (mR_fr (fFr_of hB408) (by decide +kernel))⟩
          · intro c423
            refine And.intro (True.intro) ?_
            exact ⟨_, rfl, by omega, (by first | exact ⟨fun hn j hj => (fup_other ehB408 741 j (Or.inl (by decide))).trans ((g0z347 j (by omega)).trans ((fFr_S fhB338 (by decide +kernel) j).trans ((fFr_S fhB308 (by decide +kernel) j).trans (((fup_other ehB293 741 j (Or.inl (by decide))).trans ((fup_other ehB73 741 j (Or.inl (by decide))).trans ((fup_other ehB59 741 j (Or.inl (by decide))).trans ((fup_other ehB45 741 j (Or.inl (by decide))).trans ((fup_other ehB31 741 j (Or.inl (by decide))).trans ((fup_other ehB17 741 j (Or.inl (by decide))).trans (fup_other ehB3 741 j (Or.inl (by decide))))))))))))), fun hn j hj => (fup_other ehB408 741 j (Or.inl (by decide))).trans ((g0z347 j (by omega)).trans ((fFr_S fhB338 (by decide +kernel) j).trans ((fFr_S fhB308 (by decide +kernel) j).trans (((fup_other ehB293 741 j (Or.inl (by decide))).trans ((fup_other ehB73 741 j (Or.inl (by decide))).trans ((fup_other ehB59 741 j (Or.inl (by decide))).trans ((fup_other ehB45 741 j (Or.inl (by decide))).trans ((fup_other ehB31 741 j (Or.inl (by decide))).trans ((fup_other ehB17 741 j (Or.inl (by decide))).trans (fup_other ehB3 741 j (Or.inl (by decide)))))))))))))⟩ | exact ⟨fun hn j hj => (fup_other ehB408 741 j (Or.inl (by decide))).trans ((fFr_S fhB308 (by decide +kernel) j).trans (((fup_other ehB293 741 j (Or.inl (by decide))).trans ((fup_other ehB73 741 j (Or.inl (by decide))).trans ((fup_other ehB59 741 j (Or.inl (by decide))).trans ((fup_other ehB45 741 j (Or.inl (by decide))).trans ((fup_other ehB31 741 j (Or.inl (by decide))).trans ((fup_other ehB17 741 j (Or.inl (by decide))).trans (fup_other ehB3 741 j (Or.inl (by decide))))))))))), fun hn j hj => (fup_other ehB408 741 j (Or.inl (by decide))).trans ((fFr_S fhB308 (by decide +kernel) j).trans (((fup_other ehB293 741 j (Or.inl (by decide))).trans ((fup_other ehB73 741 j (Or.inl (by decide))).trans ((fup_other ehB59 741 j (Or.inl (by decide))).trans ((fup_other ehB45 741 j (Or.inl (by decide))).trans ((fup_other ehB31 741 j (Or.inl (by decide))).trans ((fup_other ehB17 741 j (Or.inl (by decide))).trans (fup_other ehB3 741 j (Or.inl (by decide)))))))))))⟩), (by first | exact (fun hz hn => sOne_to (sOne_be (by omega) (g1z347 (by omega)) (fun j _ => (fup_other ehB408 741 j (Or.inl (by decide))))) (by omega) (by omega) (by omega)) | exact (fun hz => absurd hz (by omega))), (by first | exact Or.inl ⟨by omega, pr_ok (hT_mk (fun j => ((fup_other ehB293 747 j (Or.inl (by decide))).trans ((fup_other ehB73 747 j (Or.inl (by decide))).trans ((fup_other ehB59 747 j (Or.inl (by decide))).trans ((fup_other ehB45 747 j (Or.inl (by decide))).trans ((fup_other ehB31 747 j (Or.inl (by decide))).trans ((fup_other ehB17 747 j (Or.inl (by decide))).trans (fup_other ehB3 747 j (Or.inl (by decide)))))))))) (by omega)) (by omega) (by omega) (by omega) g0z307 (hT_mk (fFr_at fhB308 747 (by decide +kernel) rfl) (by omega)) g0z317 (by omega) g0z337 (hT_mk (fFr_at fhB338 747 (by decide +kernel) rfl) (by omega)) (by omega) (by omega) (by omega) (by omega) g2z347 (hT_mk (fFr_at fhB348 747 (by decide +kernel) rfl) (by omega)) (by omega) (by omega) (sd_same (fun j => fup_other ehB408 741 j (Or.inl (by decide))) (by omega) (by omega)) (by omega)⟩ | exact Or.inr ⟨by omega, pr_bad (hT_mk (fun j => ((fup_other ehB293 747 j (Or.inl (by decide))).trans ((fup_other ehB73 747 j (Or.inl (by decide))).trans ((fup_other ehB59 747 j (Or.inl (by decide))).trans ((fup_other ehB45 747 j (Or.inl (by decide))).trans ((fup_other ehB31 747 j (Or.inl (by decide))).trans ((fup_other ehB17 747 j (Or.inl (by decide))).trans (fup_other ehB3 747 j (Or.inl (by decide)))))))))) (by omega)) (by omega) (by omega) (by omega) g0z307 (hT_mk (fFr_at fhB308 747 (by decide +kernel) rfl) (by omega)) g0z317 (by omega) g0z337 (hT_mk (fFr_at fhB338 747 (by decide +kernel) rfl) (by omega)) (by omega) (by omega) (by omega) (by omega) g2z347 (hT_mk (fFr_at fhB348 747 (by decide +kernel) rfl) (by omega)) (by omega) (by omega) (by omega)⟩ | exact Or.inr ⟨by omega, pr_no (hT_mk (fun j => ((fup_other ehB293 747 j (Or.inl (by decide))).trans ((fup_other ehB73 747 j (Or.inl (by decide))).trans ((fup_other ehB59 747 j (Or.inl (by decide))).trans ((fup_other ehB45 747 j (Or.inl (by decide))).trans ((fup_other ehB31 747 j (Or.inl (by decide))).trans ((fup_other ehB17 747 j (Or.inl (by decide))).trans (fup_other ehB3 747 j (Or.inl (by decide)))))))))) (by omega)) (by omega) (by omega) (by omega) g0z307 (hT_mk (fFr_at fhB308 747 (by decide +kernel) rfl) (by omega)) g0z317 (by omega) (by omega)⟩), (by intro q; omega), (by intro q; omega), (mR_fr (fFr_of hB408) (by decide +kernel))⟩
        · intro c424
          refine Exists.intro xm_314 (And.intro mi_314 (And.intro ⟨rfl, rfl, rfl, rfl⟩ (And.intro rfl ?_)))
          refine fcall _ h0 (fzs_sub (by decide +kernel) hW) hB308 (ct_M_next_c8003 (fBz h0 hB308) (by omega)) ?_
          rintro IhB426 _ hB426 fhB426 ⟨rfl, hz425, g0z425, g1z425⟩
          have t427 := fhB426 740 8 (by decide +kernel)
          have t428 := fhB426 740 14 (by decide +kernel)
          have t429 := fhB426 740 15 (by decide +kernel)
          have t430 := fhB426 740 16 (by decide +kernel)
          have t431 := fhB426 740 17 (by decide +kernel)
          have t432 := fhB426 740 18 (by decide +kernel)
          have t433 := fhB426 741 9 (by decide +kernel)
          have k434 := fBz_eq hB426 (a := 741) (j := 9) (by decide +kernel)
          refine Exists.intro xm_335 (And.intro mi_335 (And.intro ⟨rfl, rfl, rfl, rfl⟩ (And.intro rfl ?_)))
          refine fcall _ h0 (fzs_sub (by decide +kernel) hW) hB426 (ct_M_either_c00e3 (fBz h0 hB426) (by first | exact ⟨Int.le_trans (by decide) (Int.le_trans (Int.le_refl _) c406), hz317.2⟩ | omega) (by omega) (by omega) (by omega) (by unfold laP; omega) (by omega) g1z425) ?_
          rintro IhB436 _ hB436 fhB436 ⟨z435, rfl, hz435, g0z435, g1z435, g2z435, g3z435, g4z435⟩
          have t437 := fhB436 740 8 (by decide +kernel)
          have t438 := fhB436 740 17 (by decide +kernel)
          have t439 := fhB436 741 9 (by decide +kernel)
          have k440 := fBz_eq hB436 (a := 741) (j := 9) (by decide +kernel)
          refine And.intro (by omega) (And.intro ?_ ?_)
          · intro c441
            refine And.intro ⟨rfl, by decide, by decide⟩ (And.intro rfl (And.intro (Or.inl rfl) (fputf fb_740_8 (by decide +kernel) hW (by first | exact ⟨by decide, by decide⟩ | omega) ?_)))
            intro IhB442 ehB442 hB442
            have t443 := fup_at ehB442 8 (by first | rfl | omega)
            have t444 : IhB442 740 9 = IhB436 740 9 := (congrFun (congrFun ehB442 740) 9).trans (fup_ne (by first | decide | omega))
            have t445 : IhB442 740 10 = IhB436 740 10 := (congrFun (congrFun ehB442 740) 10).trans (fup_ne (by first | decide | omega))
            have t446 : IhB442 740 11 = IhB436 740 11 := (congrFun (congrFun ehB442 740) 11).trans (fup_ne (by first | decide | omega))
            have t447 : IhB442 740 12 = IhB436 740 12 := (congrFun (congrFun ehB442 740) 12).trans (fup_ne (by first | decide | omega))
            have t448 : IhB442 740 13 = IhB436 740 13 := (congrFun (congrFun ehB442 740) 13).trans (fup_ne (by first | decide | omega))
            have t449 : IhB442 740 14 = IhB436 740 14 := (congrFun (congrFun ehB442 740) 14).trans (fup_ne (by first | decide | omega))
            have t450 : IhB442 740 15 = IhB436 740 15 := (congrFun (congrFun ehB442 740) 15).trans (fup_ne (by first | decide | omega))
            have t451 : IhB442 740 16 = IhB436 740 16 := (congrFun (congrFun ehB442 740) 16).trans (fup_ne (by first | decide | omega))
            have t452 : IhB442 740 17 = IhB436 740 17 := (congrFun (congrFun ehB442 740) 17).trans (fup_ne (by first | decide | omega))
            have t453 : IhB442 740 18 = IhB436 740 18 := (congrFun (congrFun ehB442 740) 18).trans (fup_ne (by first | decide | omega))
            have t454 : IhB442 741 9 = IhB436 741 9 := (congrFun (congrFun ehB442 741) 9).trans (fup_ne (by first | decide | omega))
            have k455 := fBz_eq hB442 (a := 741) (j := 9) (by decide +kernel)
            refine And.intro (by omega) (And.intro ?_ ?_)
            · intro c456
              refine And.intro (True.intro) ?_
              exact ⟨_, rfl, by omega, (by first | exact ⟨fun hn j hj => (fup_other ehB442 741 j (Or.inl (by decide))).trans ((g0z435 j (by omega)).trans ((fFr_S fhB426 (by decide +kernel) j).trans ((fFr_S fhB308 (by decide +kernel) j).trans (((fup_other ehB293 741 j (Or.inl (by decide))).trans ((fup_other ehB73 741 j (Or.inl (by decide))).trans ((fup_other ehB59 741 j (Or.inl (by decide))).trans ((fup_other ehB45 741 j (Or.inl (by decide))).trans ((fup_other ehB31 741 j (Or.inl (by decide))).trans ((fup_other ehB17 741 j (Or.inl (by decide))).trans (fup_other ehB3 741 j (Or.inl (by decide))))))))))))), fun hn j hj => (fup_other ehB442 741 j (Or.inl (by decide))).trans ((g0z435 j (by omega)).trans ((fFr_S fhB426 (by decide +kernel) j).trans ((fFr_S fhB308 (by decide +kernel) j).trans (((fup_other ehB293 741 j (Or.inl (by decide))).trans ((fup_other ehB73 741 j (Or.inl (by decide))).trans ((fup_other ehB59 741 j (Or.inl (by decide))).trans ((fup_other ehB45 741 j (Or.inl (by decide))).trans ((fup_other ehB31 741 j (Or.inl (by decide))).trans ((fup_other ehB17 741 j (Or.inl (by decide))).trans (fup_other ehB3 741 j (Or.inl (by decide)))))))))))))⟩ | exact ⟨fun hn j hj => (fup_other ehB442 741 j (Or.inl (by decide))).trans ((fFr_S fhB308 (by decide +kernel) j).trans (((fup_other ehB293 741 j (Or.inl (by decide))).trans ((fup_other ehB73 741 j (Or.inl (by decide))).trans ((fup_other ehB59 741 j (Or.inl (by decide))).trans ((fup_other ehB45 741 j (Or.inl (by decide))).trans ((fup_other ehB31 741 j (Or.inl (by decide))).trans ((fup_other ehB17 741 j (Or.inl (by decide))).trans (fup_other ehB3 741 j (Or.inl (by decide))))))))))), fun hn j hj => (fup_other ehB442 741 j (Or.inl (by decide))).trans ((fFr_S fhB308 (by decide +kernel) j).trans (((fup_other ehB293 741 j (Or.inl (by decide))).trans ((fup_other ehB73 741 j (Or.inl (by decide))).trans ((fup_other ehB59 741 j (Or.inl (by decide))).trans ((fup_other ehB45 741 j (Or.inl (by decide))).trans ((fup_other ehB31 741 j (Or.inl (by decide))).trans ((fup_other ehB17 741 j (Or.inl (by decide))).trans (fup_other ehB3 741 j (Or.inl (by decide)))))))))))⟩), (by first | exact (fun hz hn => sOne_to (sOne_be (by omega) (g1z435 (by omega)) (fun j _ => (fup_other ehB442 741 j (Or.inl (by decide))))) (by omega) (by omega) (by omega)) | exact (fun hz => absurd hz (by omega))), (by first | exact Or.inl ⟨by omega, pr_ok (hT_mk (fun j => ((fup_other ehB293 747 j (Or.inl (by decide))).trans ((fup_other ehB73 747 j (Or.inl (by decide))).trans ((fup_other ehB59 747 j (Or.inl (by decide))).trans ((fup_other ehB45 747 j (Or.inl (by decide))).trans ((fup_other ehB31 747 j (Or.inl (by decide))).trans ((fup_other ehB17 747 j (Or.inl (by decide))).trans (fup_other ehB3 747 j (Or.inl (by decide)))))))))) (by omega)) (by omega) (by omega) (by omega) g0z307 (hT_mk (fFr_at fhB308 747 (by decide +kernel) rfl) (by omega)) g0z317 (by omega) g0z425 (hT_mk (fFr_at fhB426 747 (by decide +kernel) rfl) (by omega)) (by omega) (by omega) (by omega) (by omega) g2z435 (hT_mk (fFr_at fhB436 747 (by decide +kernel) rfl) (by omega)) (by omega) (by omega) (sd_same (fun j => fup_other ehB442 741 j (Or.inl (by decide))) (by omega) (by omega)) (by omega)⟩ | exact Or.inr ⟨by omega, pr_bad (hT_mk (fun j => ((fup_other ehB293 747 j (Or.inl (by decide))).trans ((fup_other ehB73 747 j (Or.inl (by decide))).trans ((fup_other ehB59 747 j (Or.inl (by decide))).trans ((fup_other ehB45 747 j (Or.inl (by decide))).trans ((fup_other ehB31 747 j (Or.inl (by decide))).trans ((fup_other ehB17 747 j (Or.inl (by decide))).trans (fup_other ehB3 747 j (Or.inl (by decide)))))))))) (by omega)) (by omega) (by omega) (by omega) g0z307 (hT_mk (fFr_at fhB308 747 (by decide +kernel) rfl) (by omega)) g0z317 (by omega) g0z425 (hT_mk (fFr_at fhB426 747 (by decide +kernel) rfl) (by omega)) (by omega) (by omega) (by omega) (by omega) g2z435 (hT_mk (fFr_at fhB436 747 (by decide +kernel) rfl) (by omega)) (by omega) (by omega) (by omega)⟩ | exact Or.inr ⟨by omega, pr_no (hT_mk (fun j => ((fup_other ehB293 747 j (Or.inl (by decide))).trans ((fup_other ehB73 747 j (Or.inl (by decide))).trans ((fup_other ehB59 747 j (Or.inl (by decide))).trans ((fup_other ehB45 747 j (Or.inl (by decide))).trans ((fup_other ehB31 747 j (Or.inl (by decide))).trans ((fup_other ehB17 747 j (Or.inl (by decide))).trans (fup_other ehB3 747 j (Or.inl (by decide)))))))))) (by omega)) (by omega) (by omega) (by omega) g0z307 (hT_mk (fFr_at fhB308 747 (by decide +kernel) rfl) (by omega)) g0z317 (by omega) (by omega)⟩), (by intro q; omega), (by intro q; omega), (mR_fr (fFr_of hB442) (by decide +kernel))⟩
            · intro c457
              refine And.intro (True.intro) ?_
              exact ⟨_, rfl, by omega, (by first | exact ⟨fun hn j hj => (fup_other ehB442 741 j (Or.inl (by decide))).trans ((g0z435 j (by omega)).trans ((fFr_S fhB426 (by decide +kernel) j).trans ((fFr_S fhB308 (by decide +kernel) j).trans (((fup_other ehB293 741 j (Or.inl (by decide))).trans ((fup_other ehB73 741 j (Or.inl (by decide))).trans ((fup_other ehB59 741 j (Or.inl (by decide))).trans ((fup_other ehB45 741 j (Or.inl (by decide))).trans ((fup_other ehB31 741 j (Or.inl (by decide))).trans ((fup_other ehB17 741 j (Or.inl (by decide))).trans (fup_other ehB3 741 j (Or.inl (by decide))))))))))))), fun hn j hj => (fup_other ehB442 741 j (Or.inl (by decide))).trans ((g0z435 j (by omega)).trans ((fFr_S fhB426 (by decide +kernel) j).trans ((fFr_S fhB308 (by decide +kernel) j).trans (((fup_other ehB293 741 j (Or.inl (by decide))).trans ((fup_other ehB73 741 j (Or.inl (by decide))).trans ((fup_other ehB59 741 j (Or.inl (by decide))).trans ((fup_other ehB45 741 j (Or.inl (by decide))).trans ((fup_other ehB31 741 j (Or.inl (by decide))).trans ((fup_other ehB17 741 j (Or.inl (by decide))).trans (fup_other ehB3 741 j (Or.inl (by decide)))))))))))))⟩ | exact ⟨fun hn j hj => (fup_other ehB442 741 j (Or.inl (by decide))).trans ((fFr_S fhB308 (by decide +kernel) j).trans (((fup_other ehB293 741 j (Or.inl (by decide))).trans ((fup_other ehB73 741 j (Or.inl (by decide))).trans ((fup_other ehB59 741 j (Or.inl (by decide))).trans ((fup_other ehB45 741 j (Or.inl (by decide))).trans ((fup_other ehB31 741 j (Or.inl (by decide))).trans ((fup_other ehB17 741 j (Or.inl (by decide))).trans (fup_other ehB3 741 j (Or.inl (by decide))))))))))), fun hn j hj => (fup_other ehB442 741 j (Or.inl (by decide))).trans ((fFr_S fhB308 (by decide +kernel) j).trans (((fup_other ehB293 741 j (Or.inl (by decide))).trans ((fup_other ehB73 741 j (Or.inl (by decide))).trans ((fup_other ehB59 741 j (Or.inl (by decide))).trans ((fup_other ehB45 741 j (Or.inl (by decide))).trans ((fup_other ehB31 741 j (Or.inl (by decide))).trans ((fup_other ehB17 741 j (Or.inl (by decide))).trans (fup_other ehB3 741 j (Or.inl (by decide)))))))))))⟩), (by first | exact (fun hz hn => sOne_to (sOne_be (by omega) (g1z435 (by omega)) (fun j _ => (fup_other ehB442 741 j (Or.inl (by decide))))) (by omega) (by omega) (by omega)) | exact (fun hz => absurd hz (by omega))), (by first | exact Or.inl ⟨by omega, pr_ok (hT_mk (fun j => ((fup_other ehB293 747 j (Or.inl (by decide))).trans ((fup_other ehB73 747 j (Or.inl (by decide))).trans ((fup_other ehB59 747 j (Or.inl (by decide))).trans ((fup_other ehB45 747 j (Or.inl (by decide))).trans ((fup_other ehB31 747 j (Or.inl (by decide))).trans ((fup_other ehB17 747 j (Or.inl (by decide))).trans (fup_other ehB3 747 j (Or.inl (by decide)))))))))) (by omega)) (by omega) (by omega) (by omega) g0z307 (hT_mk (fFr_at fhB308 747 (by decide +kernel) rfl) (by omega)) g0z317 (by omega) g0z425 (hT_mk (fFr_at fhB426 747 (by decide +kernel) rfl) (by omega)) (by omega) (by omega) (by omega) (by omega) g2z435 (hT_mk (fFr_at fhB436 747 (by decide +kernel) rfl) (by omega)) (by omega) (by omega) (sd_same (fun j => fup_other ehB442 741 j (Or.inl (by decide))) (by omega) (by omega)) (by omega)⟩ | exact Or.inr ⟨by omega, pr_bad (hT_mk (fun j => ((fup_other ehB293 747 j (Or.inl (by decide))).trans ((fup_other ehB73 747 j (Or.inl (by decide))).trans ((fup_other ehB59 747 j (Or.inl (by decide))).trans ((fup_other ehB45 747 j (Or.inl (by decide))).trans ((fup_other ehB31 747 j (Or.inl (by decide))).trans ((fup_other ehB17 747 j (Or.inl (by decide))).trans (fup_other ehB3 747 j (Or.inl (by decide)))))))))) (by omega)) (by omega) (by omega) (by omega) g0z307 (hT_mk (fFr_at fhB308 747 (by decide +kernel) rfl) (by omega)) g0z317 (by omega) g0z425 (hT_mk (fFr_at fhB426 747 (by decide +kernel) rfl) (by omega)) (by omega) (by omega) (by omega) (by omega) g2z435 (hT_mk (fFr_at fhB436 747 (by decide +kernel) rfl) (by omega)) (by omega) (by omega) (by omega)⟩ | exact Or.inr ⟨by omega, pr_no (hT_mk (fun j => ((fup_other ehB293 747 j (Or.inl (by decide))).trans ((fup_other ehB73 747 j (Or.inl (by decide))).trans ((fup_other ehB59 747 j (Or.inl (by decide))).trans ((fup_other ehB45 747 j (Or.inl (by decide))).trans ((fup_other ehB31 747 j (Or.inl (by decide))).trans ((fup_other ehB17 747 j (Or.inl (by decide))).trans (fup_other ehB3 747 j (Or.inl (by decide)))))))))) (by omega)) (by omega) (by omega) (by omega) g0z307 (hT_mk (fFr_at fhB308 747 (by decide +kernel) rfl) (by omega)) g0z317 (by omega) (by omega)⟩), (by intro q; omega), (by intro q; omega), (mR_fr (fFr_of hB442) (by decide +kernel))⟩
          · intro c458
            have u94 := g4z435 (by omega)
            refine And.intro ⟨rfl, by decide, by decide⟩ (fgetf fb_740_11 h0 hB436 ?_)
            intro z459 lz459 uz459 qz459
            refine And.intro (by first | exact fi_ lz459 uz459 rfl | omega) (And.intro ?_ ?_)
            · intro c460
              refine And.intro ⟨rfl, by decide, by decide⟩ (And.intro rfl (And.intro (Or.inl rfl) (fputf fb_740_8 (by decide +kernel) hW (by first | exact ⟨by decide, by decide⟩ | omega) ?_)))
              intro IhB461 ehB461 hB461
              have t462 := fup_at ehB461 8 (by first | rfl | omega)
              have t463 : IhB461 740 9 = IhB436 740 9 := (congrFun (congrFun ehB461 740) 9).trans (fup_ne (by first | decide | omega))
              have t464 : IhB461 740 10 = IhB436 740 10 := (congrFun (congrFun ehB461 740) 10).trans (fup_ne (by first | decide | omega))
              have t465 : IhB461 740 11 = IhB436 740 11 := (congrFun (congrFun ehB461 740) 11).trans (fup_ne (by first | decide | omega))
              have t466 : IhB461 740 12 = IhB436 740 12 := (congrFun (congrFun ehB461 740) 12).trans (fup_ne (by first | decide | omega))
              have t467 : IhB461 740 13 = IhB436 740 13 := (congrFun (congrFun ehB461 740) 13).trans (fup_ne (by first | decide | omega))
              have t468 : IhB461 740 14 = IhB436 740 14 := (congrFun (congrFun ehB461 740) 14).trans (fup_ne (by first | decide | omega))
              have t469 : IhB461 740 15 = IhB436 740 15 := (congrFun (congrFun ehB461 740) 15).trans (fup_ne (by first | decide | omega))
              have t470 : IhB461 740 16 = IhB436 740 16 := (congrFun (congrFun ehB461 740) 16).trans (fup_ne (by first | decide | omega))
              have t471 : IhB461 740 17 = IhB436 740 17 := (congrFun (congrFun ehB461 740) 17).trans (fup_ne (by first | decide | omega))
              have t472 : IhB461 740 18 = IhB436 740 18 := (congrFun (congrFun ehB461 740) 18).trans (fup_ne (by first | decide | omega))
              have t473 : IhB461 741 9 = IhB436 741 9 := (congrFun (congrFun ehB461 741) 9).trans (fup_ne (by first | decide | omega))
              have k474 := fBz_eq hB461 (a := 741) (j := 9) (by decide +kernel)
              refine And.intro (by omega) (And.intro ?_ ?_)
              · intro c475
                refine And.intro (True.intro) ?_
                exact ⟨_, rfl, by omega, (by first | exact ⟨fun hn j hj => (fup_other ehB461 741 j (Or.inl (by decide))).trans ((g0z435 j (by omega)).trans ((fFr_S fhB426 (by decide +kernel) j).trans ((fFr_S fhB308 (by decide +kernel) j).trans (((fup_other ehB293 741 j (Or.inl (by decide))).trans ((fup_other ehB73 741 j (Or.inl (by decide))).trans ((fup_other ehB59 741 j (Or.inl (by decide))).trans ((fup_other ehB45 741 j (Or.inl (by decide))).trans ((fup_other ehB31 741 j (Or.inl (by decide))).trans ((fup_other ehB17 741 j (Or.inl (by decide))).trans (fup_other ehB3 741 j (Or.inl (by decide))))))))))))), fun hn j hj => (fup_other ehB461 741 j (Or.inl (by decide))).trans ((g0z435 j (by omega)).trans ((fFr_S fhB426 (by decide +kernel) j).trans ((fFr_S fhB308 (by decide +kernel) j).trans (((fup_other ehB293 741 j (Or.inl (by decide))).trans ((fup_other ehB73 741 j (Or.inl (by decide))).trans ((fup_other ehB59 741 j (Or.inl (by decide))).trans ((fup_other ehB45 741 j (Or.inl (by decide))).trans ((fup_other ehB31 741 j (Or.inl (by decide))).trans ((fup_other ehB17 741 j (Or.inl (by decide))).trans (fup_other ehB3 741 j (Or.inl (by decide)))))))))))))⟩ | exact ⟨fun hn j hj => (fup_other ehB461 741 j (Or.inl (by decide))).trans ((fFr_S fhB308 (by decide +kernel) j).trans (((fup_other ehB293 741 j (Or.inl (by decide))).trans ((fup_other ehB73 741 j (Or.inl (by decide))).trans ((fup_other ehB59 741 j (Or.inl (by decide))).trans ((fup_other ehB45 741 j (Or.inl (by decide))).trans ((fup_other ehB31 741 j (Or.inl (by decide))).trans ((fup_other ehB17 741 j (Or.inl (by decide))).trans (fup_other ehB3 741 j (Or.inl (by decide))))))))))), fun hn j hj => (fup_other ehB461 741 j (Or.inl (by decide))).trans ((fFr_S fhB308 (by decide +kernel) j).trans (((fup_other ehB293 741 j (Or.inl (by decide))).trans ((fup_other ehB73 741 j (Or.inl (by decide))).trans ((fup_other ehB59 741 j (Or.inl (by decide))).trans ((fup_other ehB45 741 j (Or.inl (by decide))).trans ((fup_other ehB31 741 j (Or.inl (by decide))).trans ((fup_other ehB17 741 j (Or.inl (by decide))).trans (fup_other ehB3 741 j (Or.inl (by decide)))))))))))⟩), (by first | exact (fun hz hn => sOne_to (sOne_be (by omega) (g1z435 (by omega)) (fun j _ => (fup_other ehB461 741 j (Or.inl (by decide))))) (by omega) (by omega) (by omega)) | exact (fun hz => absurd hz (by omega))), (by first | exact Or.inl ⟨by omega, pr_ok (hT_mk (fun j => ((fup_other ehB293 747 j (Or.inl (by decide))).trans ((fup_other ehB73 747 j (Or.inl (by decide))).trans ((fup_other ehB59 747 j (Or.inl (by decide))).trans ((fup_other ehB45 747 j (Or.inl (by decide))).trans ((fup_other ehB31 747 j (Or.inl (by decide))).trans ((fup_other ehB17 747 j (Or.inl (by decide))).trans (fup_other ehB3 747 j (Or.inl (by decide)))))))))) (by omega)) (by omega) (by omega) (by omega) g0z307 (hT_mk (fFr_at fhB308 747 (by decide +kernel) rfl) (by omega)) g0z317 (by omega) g0z425 (hT_mk (fFr_at fhB426 747 (by decide +kernel) rfl) (by omega)) (by omega) (by omega) (by omega) (by omega) g2z435 (hT_mk (fFr_at fhB436 747 (by decide +kernel) rfl) (by omega)) (by omega) (by omega) (sd_same (fun j => fup_other ehB461 741 j (Or.inl (by decide))) (by omega) (by omega)) (by omega)⟩ | exact Or.inr ⟨by omega, pr_bad (hT_mk (fun j => ((fup_other ehB293 747 j (Or.inl (by decide))).trans ((fup_other ehB73 747 j (Or.inl (by decide))).trans ((fup_other ehB59 747 j (Or.inl (by decide))).trans ((fup_other ehB45 747 j (Or.inl (by decide))).trans ((fup_other ehB31 747 j (Or.inl (by decide))).trans ((fup_other ehB17 747 j (Or.inl (by decide))).trans (fup_other ehB3 747 j (Or.inl (by decide)))))))))) (by omega)) (by omega) (by omega) (by omega) g0z307 (hT_mk (fFr_at fhB308 747 (by decide +kernel) rfl) (by omega)) g0z317 (by omega) g0z425 (hT_mk (fFr_at fhB426 747 (by decide +kernel) rfl) (by omega)) (by omega) (by omega) (by omega) (by omega) g2z435 (hT_mk (fFr_at fhB436 747 (by decide +kernel) rfl) (by omega)) (by omega) (by omega) (by omega)⟩ | exact Or.inr ⟨by omega, pr_no (hT_mk (fun j => ((fup_other ehB293 747 j (Or.inl (by decide))).trans ((fup_other ehB73 747 j (Or.inl (by decide))).trans ((fup_other ehB59 747 j (Or.inl (by decide))).trans ((fup_other ehB45 747 j (Or.inl (by decide))).trans ((fup_other ehB31 747 j (Or.inl (by decide))).trans ((fup_other ehB17 747 j (Or.inl (by decide))).trans (fup_other ehB3 747 j (Or.inl (by decide)))))))))) (by omega)) (by omega) (by omega) (by omega) g0z307 (hT_mk (fFr_at fhB308 747 (by decide +kernel) rfl) (by omega)) g0z317 (by omega) (by omega)⟩), (by intro q; omega), (by intro q; omega), (mR_fr (fFr_of hB461) (by decide +kernel))⟩
              · intro c476
                refine And.intro (True.intro) ?_
                exact ⟨_, rfl, by omega, (by first | exact ⟨fun hn j hj => (fup_other ehB461 741 j (Or.inl (by decide))).trans ((g0z435 j (by omega)).trans ((fFr_S fhB426 (by decide +kernel) j).trans ((fFr_S fhB308 (by decide +kernel) j).trans (((fup_other ehB293 741 j (Or.inl (by decide))).trans ((fup_other ehB73 741 j (Or.inl (by decide))).trans ((fup_other ehB59 741 j (Or.inl (by decide))).trans ((fup_other ehB45 741 j (Or.inl (by decide))).trans ((fup_other ehB31 741 j (Or.inl (by decide))).trans ((fup_other ehB17 741 j (Or.inl (by decide))).trans (fup_other ehB3 741 j (Or.inl (by decide))))))))))))), fun hn j hj => (fup_other ehB461 741 j (Or.inl (by decide))).trans ((g0z435 j (by omega)).trans ((fFr_S fhB426 (by decide +kernel) j).trans ((fFr_S fhB308 (by decide +kernel) j).trans (((fup_other ehB293 741 j (Or.inl (by decide))).trans ((fup_other ehB73 741 j (Or.inl (by decide))).trans ((fup_other ehB59 741 j (Or.inl (by decide))).trans ((fup_other ehB45 741 j (Or.inl (by decide))).trans ((fup_other ehB31 741 j (Or.inl (by decide))).trans ((fup_other ehB17 741 j (Or.inl (by decide))).trans (fup_other ehB3 741 j (Or.inl (by decide)))))))))))))⟩ | exact ⟨fun hn j hj => (fup_other ehB461 741 j (Or.inl (by decide))).trans ((fFr_S fhB308 (by decide +kernel) j).trans (((fup_other ehB293 741 j (Or.inl (by decide))).trans ((fup_other ehB73 741 j (Or.inl (by decide))).trans ((fup_other ehB59 741 j (Or.inl (by decide))).trans ((fup_other ehB45 741 j (Or.inl (by decide))).trans ((fup_other ehB31 741 j (Or.inl (by decide))).trans ((fup_other ehB17 741 j (Or.inl (by decide))).trans (fup_other ehB3 741 j (Or.inl (by decide))))))))))), fun hn j hj => (fup_other ehB461 741 j (Or.inl (by decide))).trans ((fFr_S fhB308 (by decide +kernel) j).trans (((fup_other ehB293 741 j (Or.inl (by decide))).trans ((fup_other ehB73 741 j (Or.inl (by decide))).trans ((fup_other ehB59 741 j (Or.inl (by decide))).trans ((fup_other ehB45 741 j (Or.inl (by decide))).trans ((fup_other ehB31 741 j (Or.inl (by decide))).trans ((fup_other ehB17 741 j (Or.inl (by decide))).trans (fup_other ehB3 741 j (Or.inl (by decide)))))))))))⟩), (by first | exact (fun hz hn => sOne_to (sOne_be (by omega) (g1z435 (by omega)) (fun j _ => (fup_other ehB461 741 j (Or.inl (by decide))))) (by omega) (by omega) (by omega)) | exact (fun hz => absurd hz (by omega))), (by first | exact Or.inl ⟨by omega, pr_ok (hT_mk (fun j => ((fup_other ehB293 747 j (Or.inl (by decide))).trans ((fup_other ehB73 747 j (Or.inl (by decide))).trans ((fup_other ehB59 747 j (Or.inl (by decide))).trans ((fup_other ehB45 747 j (Or.inl (by decide))).trans ((fup_other ehB31 747 j (Or.inl (by decide))).trans ((fup_other ehB17 747 j (Or.inl (by decide))).trans (fup_other ehB3 747 j (Or.inl (by decide)))))))))) (by omega)) (by omega) (by omega) (by omega) g0z307 (hT_mk (fFr_at fhB308 747 (by decide +kernel) rfl) (by omega)) g0z317 (by omega) g0z425 (hT_mk (fFr_at fhB426 747 (by decide +kernel) rfl) (by omega)) (by omega) (by omega) (by omega) (by omega) g2z435 (hT_mk (fFr_at fhB436 747 (by decide +kernel) rfl) (by omega)) (by omega) (by omega) (sd_same (fun j => fup_other ehB461 741 j (Or.inl (by decide))) (by omega) (by omega)) (by omega)⟩ | exact Or.inr ⟨by omega, pr_bad (hT_mk (fun j => ((fup_other ehB293 747 j (Or.inl (by decide))).trans ((fup_other ehB73 747 j (Or.inl (by decide))).trans ((fup_other ehB59 747 j (Or.inl (by decide))).trans ((fup_other ehB45 747 j (Or.inl (by decide))).trans ((fup_other ehB31 747 j (Or.inl (by decide))).trans ((fup_other ehB17 747 j (Or.inl (by decide))).trans (fup_other ehB3 747 j (Or.inl (by decide)))))))))) (by omega)) (by omega) (by omega) (by omega) g0z307 (hT_mk (fFr_at fhB308 747 (by decide +kernel) rfl) (by omega)) g0z317 (by omega) g0z425 (hT_mk (fFr_at fhB426 747 (by decide +kernel) rfl) (by omega)) (by omega) (by omega) (by omega) (by omega) g2z435 (hT_mk (fFr_at fhB436 747 (by decide +kernel) rfl) (by omega)) (by omega) (by omega) (by omega)⟩ | exact Or.inr ⟨by omega, pr_no (hT_mk (fun j => ((fup_other ehB293 747 j (Or.inl (by decide))).trans ((fup_other ehB73 747 j (Or.inl (by decide))).trans ((fup_other ehB59 747 j (Or.inl (by decide))).trans ((fup_other ehB45 747 j (Or.inl (by decide))).trans ((fup_other ehB31 747 j (Or.inl (by decide))).trans ((fup_other ehB17 747 j (Or.inl (by decide))).trans (fup_other ehB3 747 j (Or.inl (by decide)))))))))) (by omega)) (by omega) (by omega) (by omega) g0z307 (hT_mk (fFr_at fhB308 747 (by decide +kernel) rfl) (by omega)) g0z317 (by omega) (by omega)⟩), (by intro q; omega), (by intro q; omega), (mR_fr (fFr_of hB461) (by decide +kernel))⟩
            · intro c477
              refine And.intro ⟨rfl, by decide, by decide⟩ (And.intro rfl (And.intro (Or.inl rfl) (fputf fb_740_8 (by decide +kernel) hW (by first | exact ⟨by decide, by decide⟩ | omega) ?_)))
              intro IhB478 ehB478 hB478
              have t479 := fup_at ehB478 8 (by first | rfl | omega)
              have t480 : IhB478 740 9 = IhB436 740 9 := (congrFun (congrFun ehB478 740) 9).trans (fup_ne (by first | decide | omega))
              have t481 : IhB478 740 10 = IhB436 740 10 := (congrFun (congrFun ehB478 740) 10).trans (fup_ne (by first | decide | omega))
              have t482 : IhB478 740 11 = IhB436 740 11 := (congrFun (congrFun ehB478 740) 11).trans (fup_ne (by first | decide | omega))
              have t483 : IhB478 740 12 = IhB436 740 12 := (congrFun (congrFun ehB478 740) 12).trans (fup_ne (by first | decide | omega))
              have t484 : IhB478 740 13 = IhB436 740 13 := (congrFun (congrFun ehB478 740) 13).trans (fup_ne (by first | decide | omega))
              have t485 : IhB478 740 14 = IhB436 740 14 := (congrFun (congrFun ehB478 740) 14).trans (fup_ne (by first | decide | omega))
              have t486 : IhB478 740 15 = IhB436 740 15 := (congrFun (congrFun ehB478 740) 15).trans (fup_ne (by first | decide | omega))
              have t487 : IhB478 740 16 = IhB436 740 16 := (congrFun (congrFun ehB478 740) 16).trans (fup_ne (by first | decide | omega))
              have t488 : IhB478 740 17 = IhB436 740 17 := (congrFun (congrFun ehB478 740) 17).trans (fup_ne (by first | decide | omega))
              have t489 : IhB478 740 18 = IhB436 740 18 := (congrFun (congrFun ehB478 740) 18).trans (fup_ne (by first | decide | omega))
              have t490 : IhB478 741 9 = IhB436 741 9 := (congrFun (congrFun ehB478 741) 9).trans (fup_ne (by first | decide | omega))
              have k491 := fBz_eq hB478 (a := 741) (j := 9) (by decide +kernel)
              refine And.intro (by first | exact ⟨by decide, by decide⟩ | omega) (And.intro ?_ ?_)
              · intro c492
                refine And.intro (True.intro) ?_
                exact ⟨_, rfl, by omega, (by first | exact ⟨fun hn j hj => (fup_other ehB478 741 j (Or.inl (by decide))).trans ((g0z435 j (by omega)).trans ((fFr_S fhB426 (by decide +kernel) j).trans ((fFr_S fhB308 (by decide +kernel) j).trans (((fup_other ehB293 741 j (Or.inl (by decide))).trans ((fup_other ehB73 741 j (Or.inl (by decide))).trans ((fup_other ehB59 741 j (Or.inl (by decide))).trans ((fup_other ehB45 741 j (Or.inl (by decide))).trans ((fup_other ehB31 741 j (Or.inl (by decide))).trans ((fup_other ehB17 741 j (Or.inl (by decide))).trans (fup_other ehB3 741 j (Or.inl (by decide))))))))))))), fun hn j hj => (fup_other ehB478 741 j (Or.inl (by decide))).trans ((g0z435 j (by omega)).trans ((fFr_S fhB426 (by decide +kernel) j).trans ((fFr_S fhB308 (by decide +kernel) j).trans (((fup_other ehB293 741 j (Or.inl (by decide))).trans ((fup_other ehB73 741 j (Or.inl (by decide))).trans ((fup_other ehB59 741 j (Or.inl (by decide))).trans ((fup_other ehB45 741 j (Or.inl (by decide))).trans ((fup_other ehB31 741 j (Or.inl (by decide))).trans ((fup_other ehB17 741 j (Or.inl (by decide))).trans (fup_other ehB3 741 j (Or.inl (by decide)))))))))))))⟩ | exact ⟨fun hn j hj => (fup_other ehB478 741 j (Or.inl (by decide))).trans ((fFr_S fhB308 (by decide +kernel) j).trans (((fup_other ehB293 741 j (Or.inl (by decide))).trans ((fup_other ehB73 741 j (Or.inl (by decide))).trans ((fup_other ehB59 741 j (Or.inl (by decide))).trans ((fup_other ehB45 741 j (Or.inl (by decide))).trans ((fup_other ehB31 741 j (Or.inl (by decide))).trans ((fup_other ehB17 741 j (Or.inl (by decide))).trans (fup_other ehB3 741 j (Or.inl (by decide))))))))))), fun hn j hj => (fup_other ehB478 741 j (Or.inl (by decide))).trans ((fFr_S fhB308 (by decide +kernel) j).trans (((fup_other ehB293 741 j (Or.inl (by decide))).trans ((fup_other ehB73 741 j (Or.inl (by decide))).trans ((fup_other ehB59 741 j (Or.inl (by decide))).trans ((fup_other ehB45 741 j (Or.inl (by decide))).trans ((fup_other ehB31 741 j (Or.inl (by decide))).trans ((fup_other ehB17 741 j (Or.inl (by decide))).trans (fup_other ehB3 741 j (Or.inl (by decide)))))))))))⟩), (by first | exact (fun hz hn => sOne_to (sOne_be (by omega) (g1z435 (by omega)) (fun j _ => (fup_other ehB478 741 j (Or.inl (by decide))))) (by omega) (by omega) (by omega)) | exact (fun hz => absurd hz (by omega))), (by first | exact Or.inl ⟨by omega, pr_ok (hT_mk (fun j => ((fup_other ehB293 747 j (Or.inl (by decide))).trans ((fup_other ehB73 747 j (Or.inl (by decide))).trans ((fup_other ehB59 747 j (Or.inl (by decide))).trans ((fup_other ehB45 747 j (Or.inl (by decide))).trans ((fup_other ehB31 747 j (Or.inl (by decide))).trans ((fup_other ehB17 747 j (Or.inl (by decide))).trans (fup_other ehB3 747 j (Or.inl (by decide)))))))))) (by omega)) (by omega) (by omega) (by omega) g0z307 (hT_mk (fFr_at fhB308 747 (by decide +kernel) rfl) (by omega)) g0z317 (by omega) g0z425 (hT_mk (fFr_at fhB426 747 (by decide +kernel) rfl) (by omega)) (by omega) (by omega) (by omega) (by omega) g2z435 (hT_mk (fFr_at fhB436 747 (by decide +kernel) rfl) (by omega)) (by omega) (by omega) (sd_same (fun j => fup_other ehB478 741 j (Or.inl (by decide))) (by omega) (by omega)) (by omega)⟩ | exact Or.inr ⟨by omega, pr_bad (hT_mk (fun j => ((fup_other ehB293 747 j (Or.inl (by decide))).trans ((fup_other ehB73 747 j (Or.inl (by decide))).trans ((fup_other ehB59 747 j (Or.inl (by decide))).trans ((fup_other ehB45 747 j (Or.inl (by decide))).trans ((fup_other ehB31 747 j (Or.inl (by decide))).trans ((fup_other ehB17 747 j (Or.inl (by decide))).trans (fup_other ehB3 747 j (Or.inl (by decide)))))))))) (by omega)) (by omega) (by omega) (by omega) g0z307 (hT_mk (fFr_at fhB308 747 (by decide +kernel) rfl) (by omega)) g0z317 (by omega) g0z425 (hT_mk (fFr_at fhB426 747 (by decide +kernel) rfl) (by omega)) (by omega) (by omega) (by omega) (by omega) g2z435 (hT_mk (fFr_at fhB436 747 (by decide +kernel) rfl) (by omega)) (by omega) (by omega) (by omega)⟩ | exact Or.inr ⟨by omega, pr_no (hT_mk (fun j => ((fup_other ehB293 747 j (Or.inl (by decide))).trans ((fup_other ehB73 747 j (Or.inl (by decide))).trans ((fup_other ehB59 747 j (Or.inl (by decide))).trans ((fup_other ehB45 747 j (Or.inl (by decide))).trans ((fup_other ehB31 747 j (Or.inl (by decide))).trans ((fup_other ehB17 747 j (Or.inl (by decide))).trans (fup_other ehB3 747 j (Or.inl (by decide)))))))))) (by omega)) (by omega) (by omega) (by omega) g0z307 (hT_mk (fFr_at fhB308 747 (by decide +kernel) rfl) (by omega)) g0z317 (by omega) (by omega)⟩), (by intro q; omega), (by intro q; omega), (mR_fr (fFr_of hB478) (by decide +kernel))⟩
              · intro c493
                refine And.intro (True.intro) ?_
                exact ⟨_, rfl, by omega, (by first | exact ⟨fun hn j hj => (fup_other ehB478 741 j (Or.inl (by decide))).trans ((g0z435 j (by omega)).trans ((fFr_S fhB426 (by decide +kernel) j).trans ((fFr_S fhB308 (by decide +kernel) j).trans (((fup_other ehB293 741 j (Or.inl (by decide))).trans ((fup_other ehB73 741 j (Or.inl (by decide))).trans ((fup_other ehB59 741 j (Or.inl (by decide))).trans ((fup_other ehB45 741 j (Or.inl (by decide))).trans ((fup_other ehB31 741 j (Or.inl (by decide))).trans ((fup_other ehB17 741 j (Or.inl (by decide))).trans (fup_other ehB3 741 j (Or.inl (by decide))))))))))))), fun hn j hj => (fup_other ehB478 741 j (Or.inl (by decide))).trans ((g0z435 j (by omega)).trans ((fFr_S fhB426 (by decide +kernel) j).trans ((fFr_S fhB308 (by decide +kernel) j).trans (((fup_other ehB293 741 j (Or.inl (by decide))).trans ((fup_other ehB73 741 j (Or.inl (by decide))).trans ((fup_other ehB59 741 j (Or.inl (by decide))).trans ((fup_other ehB45 741 j (Or.inl (by decide))).trans ((fup_other ehB31 741 j (Or.inl (by decide))).trans ((fup_other ehB17 741 j (Or.inl (by decide))).trans (fup_other ehB3 741 j (Or.inl (by decide)))))))))))))⟩ | exact ⟨fun hn j hj => (fup_other ehB478 741 j (Or.inl (by decide))).trans ((fFr_S fhB308 (by decide +kernel) j).trans (((fup_other ehB293 741 j (Or.inl (by decide))).trans ((fup_other ehB73 741 j (Or.inl (by decide))).trans ((fup_other ehB59 741 j (Or.inl (by decide))).trans ((fup_other ehB45 741 j (Or.inl (by decide))).trans ((fup_other ehB31 741 j (Or.inl (by decide))).trans ((fup_other ehB17 741 j (Or.inl (by decide))).trans (fup_other ehB3 741 j (Or.inl (by decide))))))))))), fun hn j hj => (fup_other ehB478 741 j (Or.inl (by decide))).trans ((fFr_S fhB308 (by decide +kernel) j).trans (((fup_other ehB293 741 j (Or.inl (by decide))).trans ((fup_other ehB73 741 j (Or.inl (by decide))).trans ((fup_other ehB59 741 j (Or.inl (by decide))).trans ((fup_other ehB45 741 j (Or.inl (by decide))).trans ((fup_other ehB31 741 j (Or.inl (by decide))).trans ((fup_other ehB17 741 j (Or.inl (by decide))).trans (fup_other ehB3 741 j (Or.inl (by decide)))))))))))⟩), (by first | exact (fun hz hn => sOne_to (sOne_be (by omega) (g1z435 (by omega)) (fun j _ => (fup_other ehB478 741 j (Or.inl (by decide))))) (by omega) (by omega) (by omega)) | exact (fun hz => absurd hz (by omega))), (by first | exact Or.inl ⟨by omega, pr_ok (hT_mk (fun j => ((fup_other ehB293 747 j (Or.inl (by decide))).trans ((fup_other ehB73 747 j (Or.inl (by decide))).trans ((fup_other ehB59 747 j (Or.inl (by decide))).trans ((fup_other ehB45 747 j (Or.inl (by decide))).trans ((fup_other ehB31 747 j (Or.inl (by decide))).trans ((fup_other ehB17 747 j (Or.inl (by decide))).trans (fup_other ehB3 747 j (Or.inl (by decide)))))))))) (by omega)) (by omega) (by omega) (by omega) g0z307 (hT_mk (fFr_at fhB308 747 (by decide +kernel) rfl) (by omega)) g0z317 (by omega) g0z425 (hT_mk (fFr_at fhB426 747 (by decide +kernel) rfl) (by omega)) (by omega) (by omega) (by omega) (by omega) g2z435 (hT_mk (fFr_at fhB436 747 (by decide +kernel) rfl) (by omega)) (by omega) (by omega) (sd_same (fun j => fup_other ehB478 741 j (Or.inl (by decide))) (by omega) (by omega)) (by omega)⟩ | exact Or.inr ⟨by omega, pr_bad (hT_mk (fun j => ((fup_other ehB293 747 j (Or.inl (by decide))).trans ((fup_other ehB73 747 j (Or.inl (by decide))).trans ((fup_other ehB59 747 j (Or.inl (by decide))).trans ((fup_other ehB45 747 j (Or.inl (by decide))).trans ((fup_other ehB31 747 j (Or.inl (by decide))).trans ((fup_other ehB17 747 j (Or.inl (by decide))).trans (fup_other ehB3 747 j (Or.inl (by decide)))))))))) (by omega)) (by omega) (by omega) (by omega) g0z307 (hT_mk (fFr_at fhB308 747 (by decide +kernel) rfl) (by omega)) g0z317 (by omega) g0z425 (hT_mk (fFr_at fhB426 747 (by decide +kernel) rfl) (by omega)) (by omega) (by omega) (by omega) (by omega) g2z435 (hT_mk (fFr_at fhB436 747 (by decide +kernel) rfl) (by omega)) (by omega) (by omega) (by omega)⟩ | exact Or.inr ⟨by omega, pr_no (hT_mk (fun j => ((fup_other ehB293 747 j (Or.inl (by decide))).trans ((fup_other ehB73 747 j (Or.inl (by decide))).trans ((fup_other ehB59 747 j (Or.inl (by decide))).trans ((fup_other ehB45 747 j (Or.inl (by decide))).trans ((fup_other ehB31 747 j (Or.inl (by decide))).trans ((fup_other ehB17 747 j (Or.inl (by decide))).trans (fup_other ehB3 747 j (Or.inl (by decide)))))))))) (by omega)) (by omega) (by omega) (by omega) g0z307 (hT_mk (fFr_at fhB308 747 (by decide +kernel) rfl) (by omega)) g0z317 (by omega) (by omega)⟩), (by intro q; omega), (by intro q; omega), (mR_fr (fFr_of hB478) (by decide +kernel))⟩
set_option maxRecDepth 8000 in
theorem ct_M_text_560c5 {I : fH}  (h0 : fB bsJ I) (hp0 : sI I 741) (hp1 : okE 741 I) : fC ρ base n F xTc vwCl xTys D dA la gJ (fbz bsJ znJ (fKc wz_c5e7d) I) xm_312 [.inr (.inr (some 740))] I (fun I' r => ∃ z, r = some (.inl z) ∧ ((((-196) ≤ z ∧ z ≤ 11) ∨ z = (-1000000003)) ∧ (I' 740 8 = 0)) ∧ (sI I' 741) ∧ (txZ (I 747) (I 740 8) (I 741 9) z (I' 741 9)) ∧ (txL (I 747) (I 740 8) (mLw 741 I) z (mLw 741 I')) ∧ (okE 741 I') ∧ (mR I' = mR I)) := by
  have hW : fzs wz_c5e7d (fKc wz_c5e7d) := fKc_ok _
  refine f_meth (rb := rbJ) (J := []) 1 400 xG xin_312 x6_312 okJ (fB_self h0) ?_ ?_
  · exact fun q h => absurd h List.not_mem_nil
  · have hB0 := fB_self (zn := znJ) (K := fKc wz_c5e7d) h0
    have b1 := fBd fb_741_9 (fBz h0 hB0)
    have b2 := fBd fb_740_8 (fBz h0 hB0)
    have b3 := fBd fb_741_9 (fBz h0 hB0)
    refine Exists.intro xm_313 (And.intro mi_313 (And.intro ⟨rfl, rfl, rfl, rfl⟩ (And.intro rfl ?_)))
    refine fcall _ h0 (fzs_sub (by decide +kernel) hW) hB0 (ct_M_parse_ea878 (fBz h0 hB0)) ?_
    rintro IhB5 _ hB5 fhB5 ⟨z4, rfl, hz4, g0z4, g1z4, g2z4, g3z4, g4z4, g5z4⟩
    have t6 := fhB5 741 9 (by decide +kernel)
    have b16 := fBd fb_740_16 (fBz h0 hB5)
    have lo := lo_of g0z4 (by omega)
    refine And.intro (by first | exact fi_ hz4.1.1 hz4.1.2 rfl | omega) (And.intro ?_ ?_)
    · intro c7
      refine And.intro ⟨rfl, by decide, by decide⟩ ?_
      refine fload1 rL_741_741_9_9_1_0 h0 hB5 ⟨by decide, by decide⟩ (by first | exact ⟨by decide, by decide⟩ | omega) ?_
      intro z8 lz8 uz8 qz8
      have pz8 := fld_at qz8 9 (by omega)
      refine And.intro (And.intro (by first | exact fi_ lz8 uz8 rfl | omega) (by first | exact ⟨by decide, by decide⟩ | omega)) (And.intro ?_ ?_)
      · intro c9
        refine And.intro ⟨rfl, by decide, by decide⟩ ?_
        refine fload1 rL_741_741_9_9_1_0 h0 hB5 ⟨by decide, by decide⟩ (by first | exact ⟨by decide, by decide⟩ | omega) ?_
        intro z10 lz10 uz10 qz10
        have pz10 := fld_at qz10 9 (by omega)
        refine Exists.intro xm_255 (And.intro mi_255 (And.intro ⟨rfl, rfl, rfl, rfl⟩ (And.intro rfl ?_)))
        refine fcallp hB5 (ct_M_textAt_ea474 (fBz h0 hB5) (by omega)) ?_
        rintro _ ⟨_, rfl, rfl⟩
        refine And.intro ⟨rfl, by decide, by decide⟩ ?_
        refine fstore rS_741_741_1210_3410_200_0 (fzs_sub (by decide +kernel) hW) (by omega) (by first | exact ⟨Int.le_trans (by decide) (Int.le_trans (Int.le_refl _) c7), Int.le_trans hz4.1.2 (by decide)⟩ | omega) ?_
        intro IhB12 ehB12 hB12
        have t13 := fup_self ehB12
        have t14 : IhB12 740 8 = IhB5 740 8 := (congrFun (congrFun ehB12 740) 8).trans (fup_ne (by first | exact Or.inl (by decide) | omega))
        have t15 : IhB12 740 9 = IhB5 740 9 := (congrFun (congrFun ehB12 740) 9).trans (fup_ne (by first | exact Or.inl (by decide) | omega))
        have t16 : IhB12 740 16 = IhB5 740 16 := (congrFun (congrFun ehB12 740) 16).trans (fup_ne (by first | exact Or.inl (by decide) | omega))
        have t17 : IhB12 740 18 = IhB5 740 18 := (congrFun (congrFun ehB12 740) 18).trans (fup_ne (by first | exact Or.inl (by decide) | omega))
        have t18 : IhB12 741 9 = IhB5 741 9 := (congrFun (congrFun ehB12 741) 9).trans (fup_ne (by first | exact Or.inl (by decide) | omega))
        refine And.intro ⟨rfl, by decide, by decide⟩ ?_
        refine fstore rS_741_741_1211_3411_200_0 (fzs_sub (by decide +kernel) hW) (by omega) (by first | exact ⟨by decide, by decide⟩ | omega) ?_
        intro IhB19 ehB19 hB19
        have t20 := fup_self ehB19
        have t21 : IhB19 740 8 = IhB12 740 8 := (congrFun (congrFun ehB19 740) 8).trans (fup_ne (by first | exact Or.inl (by decide) | omega))
        have t22 : IhB19 740 9 = IhB12 740 9 := (congrFun (congrFun ehB19 740) 9).trans (fup_ne (by first | exact Or.inl (by decide) | omega))
        have t23 : IhB19 740 16 = IhB12 740 16 := (congrFun (congrFun ehB19 740) 16).trans (fup_ne (by first | exact Or.inl (by decide) | omega))
        have t24 : IhB19 740 18 = IhB12 740 18 := (congrFun (congrFun ehB19 740) 18).trans (fup_ne (by first | exact Or.inl (by decide) | omega))
        have t25 : IhB19 741 9 = IhB12 741 9 := (congrFun (congrFun ehB19 741) 9).trans (fup_ne (by first | exact Or.inl (by decide) | omega))
        refine And.intro ⟨rfl, by decide, by decide⟩ ?_
        refine fstore rS_741_741_1212_3412_200_0 (fzs_sub (by decide +kernel) hW) (by omega) (by first | exact ⟨by decide, by decide⟩ | omega) ?_
        intro IhB26 ehB26 hB26
        have t27 := fup_self ehB26
        have t28 : IhB26 740 8 = IhB19 740 8 := (congrFun (congrFun ehB26 740) 8).trans (fup_ne (by first | exact Or.inl (by decide) | omega))
        have t29 : IhB26 740 9 = IhB19 740 9 := (congrFun (congrFun ehB26 740) 9).trans (fup_ne (by first | exact Or.inl (by decide) | omega))
        have t30 : IhB26 740 16 = IhB19 740 16 := (congrFun (congrFun ehB26 740) 16).trans (fup_ne (by first | exact Or.inl (by decide) | omega))
        have t31 : IhB26 740 18 = IhB19 740 18 := (congrFun (congrFun ehB26 740) 18).trans (fup_ne (by first | exact Or.inl (by decide) | omega))
        have t32 : IhB26 741 9 = IhB19 741 9 := (congrFun (congrFun ehB26 741) 9).trans (fup_ne (by first | exact Or.inl (by decide) | omega))
        refine And.intro ⟨rfl, by decide, by decide⟩ ?_
        refine And.intro ⟨rfl, by decide, by decide⟩ (fgetf fb_740_18 h0 hB26 ?_)
        intro z33 lz33 uz33 qz33
        refine fstore rS_741_741_1213_3413_200_0 (fzs_sub (by decide +kernel) hW) (by omega) (by first | exact ⟨lz33, uz33⟩ | omega) ?_
        intro IhB34 ehB34 hB34
        have t35 := fup_self ehB34
        have t36 : IhB34 740 8 = IhB26 740 8 := (congrFun (congrFun ehB34 740) 8).trans (fup_ne (by first | exact Or.inl (by decide) | omega))
        have t37 : IhB34 740 9 = IhB26 740 9 := (congrFun (congrFun ehB34 740) 9).trans (fup_ne (by first | exact Or.inl (by decide) | omega))
        have t38 : IhB34 740 16 = IhB26 740 16 := (congrFun (congrFun ehB34 740) 16).trans (fup_ne (by first | exact Or.inl (by decide) | omega))
        have t39 : IhB34 740 18 = IhB26 740 18 := (congrFun (congrFun ehB34 740) 18).trans (fup_ne (by first | exact Or.inl (by decide) | omega))
        have t40 : IhB34 741 9 = IhB26 741 9 := (congrFun (congrFun ehB34 741) 9).trans (fup_ne (by first | exact Or.inl (by decide) | omega))
        refine And.intro ⟨rfl, by decide, by decide⟩ ?_
        refine And.intro ⟨rfl, by decide, by decide⟩ (fgetf fb_740_16 h0 hB34 ?_)
        intro z41 lz41 uz41 qz41
        refine fstore rS_741_741_1214_3414_200_0 (fzs_sub (by decide +kernel) hW) (by omega) (by first | exact ⟨Int.le_trans (by decide) lz41, Int.le_trans uz41 (by decide)⟩ | omega) ?_
        intro IhB42 ehB42 hB42
        have t43 := fup_self ehB42
        have t44 : IhB42 740 8 = IhB34 740 8 := (congrFun (congrFun ehB42 740) 8).trans (fup_ne (by first | exact Or.inl (by decide) | omega))
        have t45 : IhB42 740 9 = IhB34 740 9 := (congrFun (congrFun ehB42 740) 9).trans (fup_ne (by first | exact Or.inl (by decide) | omega))
        have t46 : IhB42 740 16 = IhB34 740 16 := (congrFun (congrFun ehB42 740) 16).trans (fup_ne (by first | exact Or.inl (by decide) | omega))
        have t47 : IhB42 740 18 = IhB34 740 18 := (congrFun (congrFun ehB42 740) 18).trans (fup_ne (by first | exact Or.inl (by decide) | omega))
        have t48 : IhB42 741 9 = IhB34 741 9 := (congrFun (congrFun ehB42 741) 9).trans (fup_ne (by first | exact Or.inl (by decide) | omega))
        refine And.intro ⟨rfl, by decide, by decide⟩ ?_
        refine fload1 rL_741_741_9_9_1_0 h0 hB42 ⟨by decide, by decide⟩ (by first | exact ⟨by decide, by decide⟩ | omega) ?_
        intro z49 lz49 uz49 qz49
        have pz49 := fld_at qz49 9 (by omega)
        refine fstore1 rS_741_741_9_9_1_0 (fzs_sub (by decide +kernel) hW) ⟨by decide, by decide⟩ (by first | exact ⟨by decide, by decide⟩ | omega) (by omega) ?_
        intro IhB50 ehB50 hB50
        have t51 := fup_self ehB50
        have t52 : IhB50 740 8 = IhB42 740 8 := (congrFun (congrFun ehB50 740) 8).trans (fup_ne (by first | decide | omega))
        have t53 : IhB50 740 9 = IhB42 740 9 := (congrFun (congrFun ehB50 740) 9).trans (fup_ne (by first | decide | omega))
        have t54 : IhB50 740 16 = IhB42 740 16 := (congrFun (congrFun ehB50 740) 16).trans (fup_ne (by first | decide | omega))
        have t55 : IhB50 740 18 = IhB42 740 18 := (congrFun (congrFun ehB50 740) 18).trans (fup_ne (by first | decide | omega))
        have t56 := fup_at ehB50 9 (by first | rfl | omega)
        refine And.intro ⟨rfl, by decide, by decide⟩ ?_
        refine fload1 rL_741_741_9_9_1_0 h0 hB50 ⟨by decide, by decide⟩ (by first | exact ⟨by decide, by decide⟩ | omega) ?_
        intro z57 lz57 uz57 qz57
        have pz57 := fld_at qz57 9 (by omega)
        refine And.intro (True.intro) ?_
        exact ⟨_, rfl, by omega, (sI_text (sBd_of h0) (by omega) (fun j h hj => h.elim (fun h => ((fup_other ehB50 741 j (Or.inr (by omega))).trans ((fup_other ehB42 741 j (Or.inr (by omega))).trans ((fup_other ehB34 741 j (Or.inr (by omega))).trans ((fup_other ehB26 741 j (Or.inr (by omega))).trans ((fup_other ehB19 741 j (Or.inr (by omega))).trans ((fup_other ehB12 741 j (Or.inr (by omega))).trans (g0z4.1 (by omega) j (by omega))))))))) (fun h => shp_keep hB50 (by decide +kernel) h)) (sT_of (M := IhB5 740 16) (sOne_to (sOne_in (by omega) (g1z4 (by omega) (by omega)) (fun j q1 q2 => ((fup_other ehB50 741 j (Or.inr (by omega))).trans ((fup_other ehB42 741 j (Or.inr (by omega))).trans ((fup_other ehB34 741 j (Or.inr (by omega))).trans ((fup_other ehB26 741 j (Or.inr (by omega))).trans ((fup_other ehB19 741 j (Or.inr (by omega))).trans (fup_other ehB12 741 j (Or.inr (by omega)))))))))) (by omega) (by omega) (by omega)) (by omega) (by rw [(fup_other ehB50 741 (1214 + 200 * (I 741 9).toNat) (Or.inr (by omega))), fup_at ehB42 (1214 + 200 * (I 741 9).toNat) (by omega)]; omega)) (by omega) hp0), (g2z4.elim (fun w => txZ_mk w.2 (by omega)) (fun w => absurd w.1 (by omega))), (tx_m (n := I 741 9) (g2z4.elim (fun w => w.2) (fun w => absurd w.1 (by omega))) (by omega) lo ehB12 ehB19 ehB26 ehB34 ehB42 ehB50 ⟨by omega, by omega, by omega, by omega, by omega⟩ rfl ⟨by omega, by omega⟩ (by omega) (by omega) (by omega) ⟨by omega, by omega⟩ (by omega) (by omega) (by omega) (by omega) hp1).1, (tx_m (n := I 741 9) (g2z4.elim (fun w => w.2) (fun w => absurd w.1 (by omega))) (by omega) lo ehB12 ehB19 ehB26 ehB34 ehB42 ehB50 ⟨by omega, by omega, by omega, by omega, by omega⟩ rfl ⟨by omega, by omega⟩ (by omega) (by omega) (by omega) ⟨by omega, by omega⟩ (by omega) (by omega) (by omega) (by omega) hp1).2, (mR_fr (fFr_of hB50) (by decide +kernel))⟩
      · intro c58
        refine And.intro (True.intro) ?_
        exact ⟨_, rfl, by omega, (sI_par (sBd_of h0) (by omega) (fun j h => h.elim (fun h => if hn : I 741 9 < 12 then g0z4.1 hn j (by omega) else g0z4.2 (by omega) j (by omega)) (fun h => shp_keep hB5 (by decide +kernel) h)) hp0), (g2z4.elim (fun w => txZ_mk w.2 (by omega)) (fun w => absurd w.1 (by omega))), (tx_full (g2z4.elim (fun w => w.2) (fun w => absurd w.1 (by omega))) (by show 12 ≤ I 741 9; omega) (by omega) (mLw_lo rfl lo (by omega))), (okE_lo rfl lo (by omega) hp1), (mR_fr (fFr_of hB5) (by decide +kernel))⟩
    · intro c59
      refine And.intro ⟨rfl, by decide, by decide⟩ (fgetf fb_740_9 h0 hB5 ?_)
      intro z60 lz60 uz60 qz60
      refine And.intro (True.intro) ?_
      exact ⟨_, rfl, by omega, (sI_par (sBd_of h0) (by omega) (fun j h => h.elim (fun h => if hn : I 741 9 < 12 then g0z4.1 hn j (by omega) else g0z4.2 (by omega) j (by omega)) (fun h => shp_keep hB5 (by decide +kernel) h)) hp0), (g2z4.elim (fun w => absurd w.1 (by omega)) (fun w => txZ_bad w.2 (by omega) (by omega) (by omega))), (g2z4.elim (fun w => absurd w.1 (by omega)) (fun w => w.2.elim (fun kk q => tx_bad q (by omega) (by omega) (mLw_lo rfl lo (by omega))))), (okE_lo rfl lo (by omega) hp1), (mR_fr (fFr_of hB5) (by decide +kernel))⟩
set_option maxRecDepth 8000 in
theorem ct_Charter_isText_4f275 {I : fH} {x1 : Int} (h0 : fB bsJ I) (ha1 : ((-2147483648) ≤ x1 ∧ x1 ≤ 2147483647)) : fC ρ base n F xTc vwCl xTys D dA la gJ (fbz bsJ znJ (fKc []) I) xm_133 [.inr (.inr (some 187)), .inl x1] I (fun _ r => ∃ z, r = some (.inl z) ∧ (((z = 1 ∧ 0 ≤ x1 ∧ x1 ≤ 11) ∨ z = 0) ∧ ((z = 1 ∧ 0 ≤ x1 ∧ x1 < I 187 6) ∨ (z = 0 ∧ ¬ (0 ≤ x1 ∧ x1 < I 187 6))))) := by
  have hW : fzs [] (fKc []) := fKc_ok _
  refine f_meth (rb := rbJ) (J := []) 1 400 xG xin_133 x6_133 okJ (fB_self h0) ?_ ?_
  · exact fun q h => absurd h List.not_mem_nil
  · have hB0 := fB_self (zn := znJ) (K := fKc []) h0
    have b1 := fBd fb_187_6 (fBz h0 hB0)
    refine And.intro ⟨rfl, by decide, by decide⟩ (fgetf fb_187_6 h0 hB0 ?_)
    intro z2 lz2 uz2 qz2
    refine Exists.intro xm_13 (And.intro mi_13 (And.intro ⟨rfl, rfl, rfl, rfl⟩ (And.intro True.intro ?_)))
    refine fcallp hB0 (ct_X_within_c27b1 (fBz h0 hB0) (by first | exact ⟨ha1.1, ha1.2⟩ | omega) (by first | exact ⟨by decide, by decide⟩ | omega) (by omega)) ?_
    rintro _ ⟨z3, rfl, hz3⟩
    refine And.intro (⟨by omega, by omega⟩) ?_
    exact ⟨_, rfl, by omega⟩
set_option maxRecDepth 8000 in
theorem ct_X_of_3d77a {I : fH} {x1 : Int} {x2 : Int} (h0 : fB bsJ I) (ha1 : ((-2147483648) ≤ x1 ∧ x1 ≤ 2147483647)) (ha2 : ((-2147483648) ≤ x2 ∧ x2 ≤ 2147483647)) (hp0 : okL (cLw 0 I)) : fC ρ base n F xTc vwCl xTys D dA la gJ (fbz bsJ znJ (fKc []) I) xm_132 [.inr (.inr (some 0)), .inl x1, .inl x2] I (fun _ r => ∃ z, r = some (.inl z) ∧ ((-2147483648) ≤ z ∧ z ≤ 2147483647) ∧ (z = oOf (cLw 0 I) x1 x2)) := by
  have hW : fzs [] (fKc []) := fKc_ok _
  refine f_meth (rb := rbJ) (J := []) 1 400 xG xin_132 x6_132 okJ (fB_self h0) ?_ ?_
  · exact fun q h => absurd h List.not_mem_nil
  · have hB0 := fB_self (zn := znJ) (K := fKc []) h0
    have b1 := fBd fb_187_6 (fBz h0 hB0)
    refine And.intro ⟨rfl, by decide, by decide⟩ ?_
    refine Exists.intro xm_133 (And.intro mi_133 (And.intro ⟨rfl, rfl, rfl, rfl⟩ (And.intro rfl ?_)))
    refine fcallp hB0 (ct_Charter_isText_4f275 (fBz h0 hB0) (by first | exact ⟨ha1.1, ha1.2⟩ | omega)) ?_
    rintro _ ⟨z2, rfl, hz2⟩
    refine And.intro (by omega) (And.intro ?_ ?_)
    · intro c3
      refine And.intro (by first | exact fi_ ha2.1 ha2.2 rfl | omega) (And.intro ?_ ?_)
      · refine And.intro (fun ex => ?_) (And.intro (fun ex => ?_) (And.intro (fun ex => ?_) (And.intro (fun ex => ?_) (True.intro))))
        · skip
          refine And.intro ⟨rfl, by decide, by decide⟩ ?_
          refine And.intro ⟨rfl, by decide, by decide⟩ ?_
          refine fload rL_188_188_0_11_1_0 h0 hB0 (by omega) ?_
          intro z4 lz4 uz4 qz4
          refine And.intro (True.intro) ?_
          exact ⟨_, rfl, (by first | exact ⟨lz4, uz4⟩ | omega), (of_k (K := 0) ⟨by omega, by show x1 < I 187 6; omega⟩ (by omega) (Or.inl rfl) (cF0 (d := 0) (t := x1) qz4 ⟨by omega, by omega⟩ (by show x1 < I 187 6; omega)))⟩
        · skip
          refine And.intro ⟨rfl, by decide, by decide⟩ ?_
          refine And.intro ⟨rfl, by decide, by decide⟩ ?_
          refine fload rL_189_189_0_11_1_0 h0 hB0 (by omega) ?_
          intro z5 lz5 uz5 qz5
          refine And.intro (True.intro) ?_
          exact ⟨_, rfl, (by first | exact ⟨lz5, uz5⟩ | omega), (of_o (K := 1) ⟨by omega, by show x1 < I 187 6; omega⟩ (by omega) (Or.inl rfl) (cF1 (d := 0) (t := x1) qz5 hp0 ⟨by omega, by omega⟩ (by show x1 < I 187 6; omega)))⟩
        · skip
          refine And.intro ⟨rfl, by decide, by decide⟩ ?_
          refine And.intro ⟨rfl, by decide, by decide⟩ ?_
          refine fload rL_190_190_0_11_1_0 h0 hB0 (by omega) ?_
          intro z6 lz6 uz6 qz6
          refine And.intro (True.intro) ?_
          exact ⟨_, rfl, (by first | exact ⟨lz6, uz6⟩ | omega), (of_o (K := 2) ⟨by omega, by show x1 < I 187 6; omega⟩ (by omega) (Or.inr rfl) (cF2 (d := 0) (t := x1) qz6 hp0 ⟨by omega, by omega⟩ (by show x1 < I 187 6; omega)))⟩
        · skip
          refine And.intro ⟨rfl, by decide, by decide⟩ ?_
          refine And.intro ⟨rfl, by decide, by decide⟩ ?_
          refine fload rL_191_191_0_11_1_0 h0 hB0 (by omega) ?_
          intro z7 lz7 uz7 qz7
          refine And.intro (True.intro) ?_
          exact ⟨_, rfl, (by first | exact ⟨lz7, uz7⟩ | omega), (of_k (K := 3) ⟨by omega, by show x1 < I 187 6; omega⟩ (by omega) (Or.inr rfl) ((cF_k (d := 0) (I := I) (t := x1) (k := 3) ⟨by omega, by omega⟩ (by show x1 < I 187 6; omega)).trans qz7.symm))⟩
      · intro c8
        simp only [List.length_cons, List.length_nil] at c8
        refine And.intro (True.intro) ?_
        exact ⟨_, rfl, (by first | exact ⟨by decide, by decide⟩ | omega), (if_n (fun q => by have q1 : x1 < I 187 6 := q.1.2; omega) rfl)⟩
    · intro c9
      refine And.intro (True.intro) ?_
      exact ⟨_, rfl, (by first | exact ⟨by decide, by decide⟩ | omega), (if_n (fun q => by have q1 : x1 < I 187 6 := q.1.2; omega) rfl)⟩
set_option maxRecDepth 8000 in
theorem ct_M_isText_c8726 {I : fH} {x1 : Int} (h0 : fB bsJ I) (ha1 : ((-2147483648) ≤ x1 ∧ x1 ≤ 2147483647)) : fC ρ base n F xTc vwCl xTys D dA la gJ (fbz bsJ znJ (fKc []) I) xm_425 [.inr (.inr (some 740)), .inl x1] I (fun _ r => ∃ z, r = some (.inl z) ∧ (((z = 1 ∧ 0 ≤ x1 ∧ x1 ≤ 11) ∨ z = 0) ∧ ((z = 1 ∧ 0 ≤ x1 ∧ x1 < I 741 9) ∨ (z = 0 ∧ ¬ (0 ≤ x1 ∧ x1 < I 741 9))))) := by
  have hW : fzs [] (fKc []) := fKc_ok _
  refine f_meth (rb := rbJ) (J := []) 1 400 xG xin_425 x6_425 okJ (fB_self h0) ?_ ?_
  · exact fun q h => absurd h List.not_mem_nil
  · have hB0 := fB_self (zn := znJ) (K := fKc []) h0
    have b1 := fBd fb_741_9 (fBz h0 hB0)
    refine And.intro (by first | exact fi_ ha1.1 ha1.2 rfl | omega) ?_
    refine And.intro ⟨rfl, by decide, by decide⟩ ?_
    refine fload1 rL_741_741_9_9_1_0 h0 hB0 ⟨by decide, by decide⟩ (by first | exact ⟨by decide, by decide⟩ | omega) ?_
    intro z2 lz2 uz2 qz2
    have pz2 := fld_at qz2 9 (by omega)
    refine And.intro (by omega) ?_
    refine Exists.intro xm_238 (And.intro mi_238 (And.intro ⟨rfl, rfl, rfl, rfl⟩ (And.intro True.intro ?_)))
    refine fcallp hB0 (ct_M_isIn_27230 (fBz h0 hB0) (by first | exact ⟨ha1.1, ha1.2⟩ | omega) (by first | exact ⟨by decide, by decide⟩ | omega) (by omega)) ?_
    rintro _ ⟨z3, rfl, hz3⟩
    refine And.intro (⟨by omega, by omega⟩) ?_
    exact ⟨_, rfl, by omega⟩
set_option maxRecDepth 8000 in
theorem ct_M_of_2ade1 {I : fH} {x1 : Int} {x2 : Int} (h0 : fB bsJ I) (ha1 : ((-2147483648) ≤ x1 ∧ x1 ≤ 2147483647)) (ha2 : ((-2147483648) ≤ x2 ∧ x2 ≤ 2147483647)) (hp0 : okL (mLw 741 I)) (hp1 : okE 741 I) : fC ρ base n F xTc vwCl xTys D dA la gJ (fbz bsJ znJ (fKc []) I) xm_424 [.inr (.inr (some 740)), .inl x1, .inl x2] I (fun _ r => ∃ z, r = some (.inl z) ∧ ((-2147483648) ≤ z ∧ z ≤ 2147483647) ∧ (z = oOf (mLw 741 I) x1 x2)) := by
  have hW : fzs [] (fKc []) := fKc_ok _
  refine f_meth (rb := rbJ) (J := []) 1 400 xG xin_424 x6_424 okJ (fB_self h0) ?_ ?_
  · exact fun q h => absurd h List.not_mem_nil
  · have hB0 := fB_self (zn := znJ) (K := fKc []) h0
    have b1 := fBd fb_741_9 (fBz h0 hB0)
    refine Exists.intro xm_425 (And.intro mi_425 (And.intro ⟨rfl, rfl, rfl, rfl⟩ (And.intro rfl ?_)))
    refine fcallp hB0 (ct_M_isText_c8726 (fBz h0 hB0) (by first | exact ⟨ha1.1, ha1.2⟩ | omega)) ?_
    rintro _ ⟨z2, rfl, hz2⟩
    refine And.intro (by omega) (And.intro ?_ ?_)
    · intro c3
      refine And.intro (True.intro) ?_
      exact ⟨_, rfl, (by first | exact ⟨by decide, by decide⟩ | omega), (if_n (fun q => by have q1 : x1 < I 741 9 := q.1.2; have q2 := q.2; omega) rfl)⟩
    · intro c4
      refine And.intro (by first | exact fi_ ha2.1 ha2.2 rfl | omega) ?_
      refine Exists.intro xm_238 (And.intro mi_238 (And.intro ⟨rfl, rfl, rfl, rfl⟩ (And.intro True.intro ?_)))
      refine fcallp hB0 (ct_M_isIn_27230 (fBz h0 hB0) (by first | exact ⟨ha2.1, ha2.2⟩ | omega) (by first | exact ⟨by decide, by decide⟩ | omega) (by first | exact ⟨by decide, by decide⟩ | omega)) ?_
      rintro _ ⟨z5, rfl, hz5⟩
      refine And.intro (by omega) (And.intro ?_ ?_)
      · intro c6
        refine And.intro ⟨rfl, by decide, by decide⟩ ?_
        refine Exists.intro xm_255 (And.intro mi_255 (And.intro ⟨rfl, rfl, rfl, rfl⟩ (And.intro rfl ?_)))
        refine fcallp hB0 (ct_M_textAt_ea474 (fBz h0 hB0) (by omega)) ?_
        rintro _ ⟨_, rfl, rfl⟩
        refine fload rL_741_741_1210_3413_200_3 h0 hB0 (by omega) ?_
        intro z8 lz8 uz8 qz8
        refine And.intro (And.intro (by first | exact fi_ (Int.le_trans (Int.le_refl _) hz5.1) (Int.le_trans hz5.2 (Int.le_refl _)) rfl | omega) (by first | exact ⟨by decide, by decide⟩ | omega)) (And.intro ?_ ?_)
        · intro c9
          refine Exists.intro xm_269 (And.intro mi_269 (And.intro ⟨rfl, rfl, rfl, rfl⟩ (And.intro True.intro ?_)))
          refine fcallp hB0 (ct_M_orNone_a2a87 (fBz h0 hB0) (by first | exact ⟨lz8, uz8⟩ | omega)) ?_
          rintro _ ⟨z10, rfl, hz10, g0z10⟩
          refine And.intro (True.intro) ?_
          exact ⟨_, rfl, by omega, (of_m ⟨by omega, by show x1 < I 741 9; omega⟩ (by omega) (mF_k (s := 741) (t := x1) (k := x2.toNat) (fld_at qz8 (1210 + 200 * x1.toNat + x2.toNat) (by omega)) rfl (by omega) (by omega) (by show x1 < I 741 9; omega)) (Or.inl ⟨by omega, g0z10⟩))⟩
        · intro c11
          refine And.intro (And.intro (by first | exact fi_ (Int.le_trans (Int.le_refl _) hz5.1) (Int.le_trans hz5.2 (Int.le_refl _)) rfl | omega) (by first | exact ⟨by decide, by decide⟩ | omega)) (And.intro ?_ ?_)
          · intro c12
            refine And.intro (True.intro) ?_
            exact ⟨_, rfl, (by first | exact ⟨lz8, uz8⟩ | omega), (of_m ⟨by omega, by show x1 < I 741 9; omega⟩ (by omega) (mF_k (s := 741) (t := x1) (k := x2.toNat) (fld_at qz8 (1210 + 200 * x1.toNat + x2.toNat) (by omega)) rfl (by omega) (by omega) (by show x1 < I 741 9; omega)) (Or.inr ⟨by omega, rfl⟩))⟩
          · intro c13
            refine Exists.intro xm_269 (And.intro mi_269 (And.intro ⟨rfl, rfl, rfl, rfl⟩ (And.intro True.intro ?_)))
            refine fcallp hB0 (ct_M_orNone_a2a87 (fBz h0 hB0) (by first | exact ⟨lz8, uz8⟩ | omega)) ?_
            rintro _ ⟨z14, rfl, hz14, g0z14⟩
            refine And.intro (True.intro) ?_
            exact ⟨_, rfl, by omega, (of_m ⟨by omega, by show x1 < I 741 9; omega⟩ (by omega) (mF_k (s := 741) (t := x1) (k := x2.toNat) (fld_at qz8 (1210 + 200 * x1.toNat + x2.toNat) (by omega)) rfl (by omega) (by omega) (by show x1 < I 741 9; omega)) (Or.inl ⟨by omega, g0z14⟩))⟩
      · intro c15
        refine And.intro (True.intro) ?_
        exact ⟨_, rfl, (by first | exact ⟨by decide, by decide⟩ | omega), (if_n (fun q => by have q1 : x1 < I 741 9 := q.1.2; have q2 := q.2; omega) rfl)⟩
abbrev jc_Arrays_fill_7cd5b_5 (x1 : Int) (I0 : fH) : Nat → fL → List fV → fH → Prop := fun m lv st I => ∃ (y1 : Int) (y2 : Int) (y3 : Int), lv = [(0, .inr (.inr (some 206))), (1, .inl y1), (2, .inl y2), (3, .inl y3)] ∧ st = [] ∧ ((((-1000000005) ≤ y1 ∧ y1 ≤ (-1000000005)) ∧ (0 ≤ y2 ∧ y2 ≤ 24) ∧ (24 ≤ y3 ∧ y3 ≤ 24) ∧ (y1 = x1)) ∧ (∀ a j, I a j = if a = 206 ∧ j < y2.toNat then y1 else I0 a j)) ∧ m = (1 + 1 * (24 - y2) : Int).toNat
set_option maxRecDepth 8000 in
theorem ct_Arrays_fill_7cd5b {I : fH} {x1 : Int} (h0 : fB bsJ I) (ha1 : ((-1000000005) ≤ x1 ∧ x1 ≤ (-1000000005))) : fC ρ base n F xTc vwCl xTys D dA la gJ (fbz bsJ znJ (fKc wz_60872) I) xm_498 [.inr (.inr (some 206)), .inl x1] I (fun I' r => r = none ∧ True ∧ (∀ a j, I' a j = if a = 206 ∧ j < 24 then x1 else I a j)) := by
  have hW : fzs wz_60872 (fKc wz_60872) := fKc_ok _
  refine f_meth (rb := rbJ) (J := [(5, (jc_Arrays_fill_7cd5b_5 x1 I))]) 26 400 xG xin_498 x6_498 okJ (fB_self h0) ?_ ?_
  · refine List.forall_mem_cons.mpr ⟨?_, fun q h => absurd h List.not_mem_nil⟩
    · rintro m _ _ I1 hB1 ⟨y1, y2, y3, rfl, rfl, ⟨hb, hx0⟩, hm⟩
      refine And.intro (And.intro (by first | exact fi_ hb.2.1.1 hb.2.1.2 rfl | omega) (by first | exact fi_ hb.2.2.1.1 hb.2.2.1.2 rfl | omega)) (And.intro ?_ ?_)
      · intro c1
        exact ⟨rfl, True.intro, (fl_E hx0 (by omega) (by omega) (by omega))⟩
      · intro c2
        refine fstore1 rS_206_206_0_23_1_0 (fzs_sub (by decide +kernel) hW) ⟨by decide, by decide⟩ (by first | exact ⟨hb.2.1.1, Int.le_trans (Int.le_sub_one_of_lt (Int.lt_of_lt_of_le c2 hb.2.2.1.2)) (by decide)⟩ | omega) (by first | exact ⟨Int.le_trans (by decide) hb.1.1, Int.le_trans hb.1.2 (by decide)⟩ | omega) ?_
        intro IhB3 ehB3 hB3
        have t4 := fup_self ehB3
        exact fcutJ (I := IhB3) (j := (jc_Arrays_fill_7cd5b_5 x1 I)) (lv' := [(0, .inr (.inr (some 206))), (1, .inl _), (2, .inl _), (3, .inl _)]) (And.intro rfl (And.intro rfl (And.intro rfl (And.intro rfl True.intro)))) ⟨_, _, _, rfl, rfl, ⟨by omega, (fl_S hx0 ehB3 (by omega) (by omega) (by omega))⟩, rfl⟩ (by omega)
  · have hB0 := fB_self (zn := znJ) (K := fKc wz_60872) h0
    refine Exists.intro 100 (Exists.intro 24 (And.intro rfl (And.intro ⟨by decide, by decide, by decide⟩ ?_)))
    exact fcutJ (I := I) (j := (jc_Arrays_fill_7cd5b_5 x1 I)) (lv' := [(0, .inr (.inr (some 206))), (1, .inl _), (2, .inl _), (3, .inl _)]) (And.intro rfl (And.intro rfl (And.intro rfl (And.intro rfl True.intro)))) ⟨_, _, _, rfl, rfl, ⟨by omega, (fl_0 (by omega))⟩, rfl⟩ (by omega)
set_option maxRecDepth 8000 in
theorem ct_Charter_beginVote_a1bcb {I : fH} {x1 : Int} (h0 : fB bsJ I) (ha1 : (0 ≤ x1 ∧ x1 ≤ 11)) (hp0 : okL (cLw 0 I)) (hp1 : 0 ≤ x1) (hp2 : x1 < (cLw 0 I).n) : fC ρ base n F xTc vwCl xTys D dA la gJ (fbz bsJ znJ (fKc wz_0f088) I) xm_135 [.inr (.inr (some 187)), .inl x1] I (fun I' r => ∃ z, r = some (.inl z) ∧ (0 ≤ z ∧ z ≤ 1) ∧ (z = if (cLw 0 I).fld x1.toNat 1 < 0 then 0 else 1) ∧ (cLw 0 I' = lHold (cLw 0 I) x1) ∧ (cR 0 I' = cR 0 I)) := by
  have hW : fzs wz_0f088 (fKc wz_0f088) := fKc_ok _
  refine f_meth (rb := rbJ) (J := []) 1 400 xG xin_135 x6_135 okJ (fB_self h0) ?_ ?_
  · exact fun q h => absurd h List.not_mem_nil
  · have hB0 := fB_self (zn := znJ) (K := fKc wz_0f088) h0
    refine And.intro ⟨rfl, by decide, by decide⟩ (And.intro rfl (And.intro (Or.inl rfl) (fputf fb_187_7 (by decide +kernel) hW (by first | exact ⟨Int.le_trans (by decide) ha1.1, Int.le_trans ha1.2 (by decide)⟩ | omega) ?_)))
    intro IhB1 ehB1 hB1
    have t2 := fup_at ehB1 7 (by first | rfl | omega)
    have r2 := cR_ot (d := 0) ehB1 (by decide)
    refine And.intro ⟨rfl, by decide, by decide⟩ ?_
    refine fload1 rL_189_189_0_11_1_0 h0 hB1 ⟨by decide, by decide⟩ (by first | exact ⟨ha1.1, ha1.2⟩ | omega) ?_
    intro z3 lz3 uz3 qz3
    have q11 := qz3.trans (fup_other ehB1 189 x1.toNat (Or.inl (by decide)))
    have f11 := cF1 (d := 0) (t := x1) q11 hp0 (by omega) hp2
    refine And.intro (And.intro (by first | exact fi_ lz3 uz3 rfl | omega) (by first | exact ⟨by decide, by decide⟩ | omega)) (And.intro ?_ ?_)
    · intro c4
      refine And.intro ⟨rfl, by decide, by decide⟩ (And.intro rfl (And.intro (Or.inr ⟨rfl, by omega⟩) (fputf fb_187_8 (by decide +kernel) hW (by omega) ?_)))
      intro IhB5 ehB5 hB5
      have t6 : IhB5 187 7 = IhB1 187 7 := (congrFun (congrFun ehB5 187) 7).trans (fup_ne (by first | decide | omega))
      have t7 := fup_at ehB5 8 (by first | rfl | omega)
      have r22 := cR_ot (d := 0) ehB5 (by decide)
      refine And.intro ⟨rfl, by decide, by decide⟩ ?_
      refine Exists.intro xm_498 (And.intro mi_498 (And.intro ⟨rfl, rfl, rfl, rfl⟩ (And.intro True.intro ?_)))
      refine fcall _ h0 (fzs_sub (by decide +kernel) hW) hB5 (ct_Arrays_fill_7cd5b (fBz h0 hB5) (by first | exact ⟨by decide, by decide⟩ | omega)) ?_
      rintro IhB9 _ hB9 fhB9 ⟨rfl, hz8, g0z8⟩
      have t10 := fhB9 187 7 (by decide +kernel)
      have t11 := fhB9 187 8 (by decide +kernel)
      have r31 := cR_fr (d := 0) cZ0_ok fhB9 (by decide +kernel)
      refine And.intro ⟨rfl, by decide, by decide⟩ (fgetf fb_187_8 h0 hB9 ?_)
      intro z12 lz12 uz12 qz12
      have w35 := (qz12.trans ((g0z8 187 8).trans (if_neg (by omega)))).trans (fup_self ehB5)
      refine And.intro (by first | exact fi_ lz12 uz12 rfl | omega) (And.intro ?_ ?_)
      · intro c13
        refine And.intro (True.intro) ?_
        exact ⟨_, rfl, by omega, (by first | (exfalso; omega) | exact if_y (by omega) (by omega) | exact if_n (by omega) (by omega)), (cLw_begin ehB1 ehB5 g0z8 (by omega) qz3 (by omega) (by omega)), (cR_fr (d := 0) cZ0_ok (fFr_of hB9) (by decide +kernel))⟩
      · intro c14
        refine And.intro (True.intro) ?_
        exact ⟨_, rfl, (by first | exact ⟨by decide, by decide⟩ | omega), (by first | (exfalso; omega) | exact if_y (by omega) (by omega) | exact if_n (by omega) (by omega)), (cLw_begin ehB1 ehB5 g0z8 (by omega) qz3 (by omega) (by omega)), (cR_fr (d := 0) cZ0_ok (fFr_of hB9) (by decide +kernel))⟩
    · intro c15
      refine And.intro ⟨rfl, by decide, by decide⟩ (And.intro rfl (And.intro (Or.inr ⟨rfl, by decide, by decide⟩) (fputf fb_187_8 (by decide +kernel) hW (by first | exact ⟨by decide, by decide⟩ | omega) ?_)))
      intro IhB16 ehB16 hB16
      have t17 : IhB16 187 7 = IhB1 187 7 := (congrFun (congrFun ehB16 187) 7).trans (fup_ne (by first | decide | omega))
      have t18 := fup_at ehB16 8 (by first | rfl | omega)
      have r22 := cR_ot (d := 0) ehB16 (by decide)
      refine And.intro ⟨rfl, by decide, by decide⟩ ?_
      refine Exists.intro xm_498 (And.intro mi_498 (And.intro ⟨rfl, rfl, rfl, rfl⟩ (And.intro True.intro ?_)))
      refine fcall _ h0 (fzs_sub (by decide +kernel) hW) hB16 (ct_Arrays_fill_7cd5b (fBz h0 hB16) (by first | exact ⟨by decide, by decide⟩ | omega)) ?_
      rintro IhB20 _ hB20 fhB20 ⟨rfl, hz19, g0z19⟩
      have t21 := fhB20 187 7 (by decide +kernel)
      have t22 := fhB20 187 8 (by decide +kernel)
      have r31 := cR_fr (d := 0) cZ0_ok fhB20 (by decide +kernel)
      refine And.intro ⟨rfl, by decide, by decide⟩ (fgetf fb_187_8 h0 hB20 ?_)
      intro z23 lz23 uz23 qz23
      have w35 := (qz23.trans ((g0z19 187 8).trans (if_neg (by omega)))).trans (fup_self ehB16)
      refine And.intro (by first | exact fi_ lz23 uz23 rfl | omega) (And.intro ?_ ?_)
      · intro c24
        refine And.intro (True.intro) ?_
        exact ⟨_, rfl, by omega, (by first | (exfalso; omega) | exact if_y (by omega) (by omega) | exact if_n (by omega) (by omega)), (cLw_begin ehB1 ehB16 g0z19 (by omega) qz3 (by omega) (by omega)), (cR_fr (d := 0) cZ0_ok (fFr_of hB20) (by decide +kernel))⟩
      · intro c25
        refine And.intro (True.intro) ?_
        exact ⟨_, rfl, (by first | exact ⟨by decide, by decide⟩ | omega), (by first | (exfalso; omega) | exact if_y (by omega) (by omega) | exact if_n (by omega) (by omega)), (cLw_begin ehB1 ehB16 g0z19 (by omega) qz3 (by omega) (by omega)), (cR_fr (d := 0) cZ0_ok (fFr_of hB20) (by decide +kernel))⟩
set_option maxRecDepth 8000 in
theorem ct_X_hold_bca71 {I : fH} {x1 : Int} (h0 : fB bsJ I) (ha1 : ((-2147483648) ≤ x1 ∧ x1 ≤ 2147483647)) (hp0 : okL (cLw 0 I)) (hp1 : -1 ≤ (cLw 0 I).vote) : fC ρ base n F xTc vwCl xTys D dA la gJ (fbz bsJ znJ (fKc wz_0f088) I) xm_134 [.inr (.inr (some 0)), .inl x1] I (fun I' r => ∃ z, r = some (.inl z) ∧ ((0 ≤ z ∧ z ≤ 1) ∨ z = (-1000000002) ∨ z = (-1000000001)) ∧ ((cLw 0 I', z) = oHold (cLw 0 I) x1) ∧ (cR 0 I' = cR 0 I)) := by
  have hW : fzs wz_0f088 (fKc wz_0f088) := fKc_ok _
  refine f_meth (rb := rbJ) (J := []) 1 400 xG xin_134 x6_134 okJ (fB_self h0) ?_ ?_
  · exact fun q h => absurd h List.not_mem_nil
  · have hB0 := fB_self (zn := znJ) (K := fKc wz_0f088) h0
    have b1 := fBd fb_187_6 (fBz h0 hB0)
    refine And.intro ⟨rfl, by decide, by decide⟩ ?_
    refine Exists.intro xm_133 (And.intro mi_133 (And.intro ⟨rfl, rfl, rfl, rfl⟩ (And.intro rfl ?_)))
    refine fcallp hB0 (ct_Charter_isText_4f275 (fBz h0 hB0) (by first | exact ⟨ha1.1, ha1.2⟩ | omega)) ?_
    rintro _ ⟨z2, rfl, hz2⟩
    refine And.intro (by omega) (And.intro ?_ ?_)
    · intro c3
      refine And.intro ⟨rfl, by decide, by decide⟩ ?_
      refine And.intro ⟨rfl, by decide, by decide⟩ (fgetf fb_187_7 h0 hB0 ?_)
      intro z4 lz4 uz4 qz4
      refine And.intro (And.intro (by first | exact fi_ lz4 uz4 rfl | omega) (by first | exact ⟨by decide, by decide⟩ | omega)) (And.intro ?_ ?_)
      · intro c5
        refine And.intro (True.intro) ?_
        exact ⟨_, rfl, by omega, (iy ⟨by omega, by show x1 < I 187 6; omega⟩ (iy (Or.inl (cL_onv (d := 0) qz4 (by omega) hp1)) rfl)), (cR_fr (d := 0) cZ0_ok (fFr_of hB0) (by decide +kernel))⟩
      · intro c6
        refine And.intro ⟨rfl, by decide, by decide⟩ ?_
        refine And.intro ⟨rfl, by decide, by decide⟩ ?_
        refine fload rL_190_190_0_11_1_0 h0 hB0 (by omega) ?_
        intro z7 lz7 uz7 qz7
        have f35 := cF2 (d := 0) (t := x1) qz7 hp0 (by omega) (by show x1 < I 187 6; omega)
        refine And.intro (And.intro (by first | exact fi_ lz7 uz7 rfl | omega) (by first | exact ⟨by decide, by decide⟩ | omega)) (And.intro ?_ ?_)
        · intro c8
          refine And.intro ⟨rfl, by decide, by decide⟩ ?_
          refine Exists.intro xm_135 (And.intro mi_135 (And.intro ⟨rfl, rfl, rfl, rfl⟩ (And.intro rfl ?_)))
          refine fcall _ h0 (fzs_sub (by decide +kernel) hW) hB0 (ct_Charter_beginVote_a1bcb (fBz h0 hB0) (by omega) hp0 (by omega) (by show x1 < I 187 6; omega)) ?_
          rintro IhB10 _ hB10 fhB10 ⟨z9, rfl, hz9, g0z9, g1z9, g2z9⟩
          refine And.intro (True.intro) ?_
          exact ⟨_, rfl, by omega, (iy ⟨by omega, by show x1 < I 187 6; omega⟩ (ino (fun q => by have v18 := cL_off (d := 0) qz4 (by omega); omega) (lz g1z9 g0z9))), (cR_fr (d := 0) cZ0_ok (fFr_of hB10) (by decide +kernel))⟩
        · intro c11
          refine And.intro (True.intro) ?_
          exact ⟨_, rfl, by omega, (iy ⟨by omega, by show x1 < I 187 6; omega⟩ (iy (Or.inr (by omega)) rfl)), (cR_fr (d := 0) cZ0_ok (fFr_of hB0) (by decide +kernel))⟩
    · intro c12
      refine And.intro (True.intro) ?_
      exact ⟨_, rfl, by omega, (ino (fun q => by have q1 : x1 < I 187 6 := q.2; omega) rfl), (cR_fr (d := 0) cZ0_ok (fFr_of hB0) (by decide +kernel))⟩
abbrev jc_M_hold_d28d9_65 (x1 : Int) (I0 : fH) : Nat → fL → List fV → fH → Prop := fun m lv st I => ∃ (y1 : Int) (y2 : Int), lv = [(0, .inr (.inr (some 740))), (1, .inl y1), (2, .inl y2)] ∧ st = [] ∧ (((0 ≤ y1 ∧ y1 ≤ 11) ∧ (0 ≤ y2 ∧ y2 ≤ 24) ∧ (0 ≤ I 741 14 ∧ I 741 14 ≤ 11) ∧ (0 ≤ I 741 15 ∧ I 741 15 ≤ 0) ∧ (0 ≤ I 741 16 ∧ I 741 16 ≤ 0) ∧ (y1 = x1) ∧ (0 ≤ x1) ∧ (x1 < I0 741 9) ∧ (I0 741 14 < 0)) ∧ (I 741 = hdF (I0 741) x1 y2) ∧ ((mLw 741 I0).fld x1.toNat 2 < 0)) ∧ m = (1 + 1 * (24 - y2) : Int).toNat
set_option maxRecDepth 8000 in
theorem ct_M_hold_d28d9 {I : fH} {x1 : Int} (h0 : fB bsJ I) (ha1 : ((-2147483648) ≤ x1 ∧ x1 ≤ 2147483647)) (hp0 : okL (mLw 741 I)) (hp1 : okE 741 I) : fC ρ base n F xTc vwCl xTys D dA la gJ (fbz bsJ znJ (fKc wz_8c264) I) xm_426 [.inr (.inr (some 740)), .inl x1] I (fun I' r => ∃ z, r = some (.inl z) ∧ ((0 ≤ z ∧ z ≤ 1) ∨ z = (-1000000002) ∨ z = (-1000000001)) ∧ ((mLw 741 I', z) = oHold (mLw 741 I) x1) ∧ (mR I' = mR I)) := by
  have hW : fzs wz_8c264 (fKc wz_8c264) := fKc_ok _
  refine f_meth (rb := rbJ) (J := [(65, (jc_M_hold_d28d9_65 x1 I))]) 26 400 xG xin_426 x6_426 okJ (fB_self h0) ?_ ?_
  · refine List.forall_mem_cons.mpr ⟨?_, fun q h => absurd h List.not_mem_nil⟩
    · rintro m _ _ I1 hB1 ⟨y1, y2, rfl, rfl, ⟨hb, hx0, hx1⟩, hm⟩
      have k1 := fBz_eq hB1 (a := 741) (j := 9) (by decide +kernel)
      have b2 := fBd fb_741_9 (fBz h0 hB1)
      refine And.intro (And.intro (by first | exact fi_ hb.2.1.1 hb.2.1.2 rfl | omega) (by first | exact ⟨by decide, by decide⟩ | omega)) (And.intro ?_ ?_)
      · intro c3
        refine And.intro ⟨rfl, by decide, by decide⟩ ?_
        refine Exists.intro xm_255 (And.intro mi_255 (And.intro ⟨rfl, rfl, rfl, rfl⟩ (And.intro rfl ?_)))
        refine fcallp hB1 (ct_M_textAt_ea474 (fBz h0 hB1) (by first | exact ⟨hb.1.1, hb.1.2⟩ | omega)) ?_
        rintro _ ⟨_, rfl, rfl⟩
        refine fload rL_741_741_1211_3411_200_0 h0 hB1 (by omega) ?_
        intro z5 lz5 uz5 qz5
        refine And.intro (by first | exact fi_ lz5 uz5 rfl | omega) (And.intro ?_ ?_)
        · intro c6
          refine And.intro (True.intro) ?_
          exact ⟨_, rfl, by omega, (iy ⟨by omega, by show x1 < I 741 9; omega⟩ (ino (fun q => q.elim (fun w => by have w1 : 0 ≤ I 741 14 := w; omega) (fun w => by omega)) (lz (mLw_hold hx0 (by omega) (by omega)) (hold_z (mLw_hold hx0 (by omega) (by omega)) (mF_k (s := 741) (t := x1) (k := 1) (fld_at qz5 (1211 + 200 * x1.toNat) (by omega)) (by omega) (by omega) (by omega) (by show x1 < I1 741 9; omega)) (by omega))))), (mR_fr (fFr_of hB1) (by decide +kernel))⟩
        · intro c7
          refine And.intro (True.intro) ?_
          exact ⟨_, rfl, by omega, (iy ⟨by omega, by show x1 < I 741 9; omega⟩ (ino (fun q => q.elim (fun w => by have w1 : 0 ≤ I 741 14 := w; omega) (fun w => by omega)) (lz (mLw_hold hx0 (by omega) (by omega)) (hold_z (mLw_hold hx0 (by omega) (by omega)) (mF_k (s := 741) (t := x1) (k := 1) (fld_at qz5 (1211 + 200 * x1.toNat) (by omega)) (by omega) (by omega) (by omega) (by show x1 < I1 741 9; omega)) (by omega))))), (mR_fr (fFr_of hB1) (by decide +kernel))⟩
      · intro c8
        refine And.intro ⟨rfl, by decide, by decide⟩ ?_
        refine Exists.intro xm_247 (And.intro mi_247 (And.intro ⟨rfl, rfl, rfl, rfl⟩ (And.intro rfl ?_)))
        refine fcallp hB1 (ct_M_personAt_9b331 (fBz h0 hB1) (by first | exact ⟨hb.2.1.1, Int.le_trans (Int.le_sub_one_of_lt (Int.lt_of_lt_of_le c8 (Int.le_refl _))) (by decide)⟩ | omega)) ?_
        rintro _ ⟨_, rfl, rfl⟩
        refine fstore rS_741_741_874_1012_6_0 (fzs_sub (by decide +kernel) hW) (by omega) (by first | exact ⟨by decide, by decide⟩ | omega) ?_
        intro IhB10 ehB10 hB10
        have t11 := fup_self ehB10
        have t12 : IhB10 741 14 = I1 741 14 := (congrFun (congrFun ehB10 741) 14).trans (fup_ne (by first | exact Or.inl (by decide) | omega))
        have t13 : IhB10 741 15 = I1 741 15 := (congrFun (congrFun ehB10 741) 15).trans (fup_ne (by first | exact Or.inl (by decide) | omega))
        have t14 : IhB10 741 16 = I1 741 16 := (congrFun (congrFun ehB10 741) 16).trans (fup_ne (by first | exact Or.inl (by decide) | omega))
        have k15 := fBz_eq hB10 (a := 741) (j := 9) (by decide +kernel)
        have r83 := mR_nc (i0 := 874) (i1 := 1012) (m := 6) (q := 0) (by decide +kernel) ehB10 (by omega)
        exact fcutJ (I := IhB10) (j := (jc_M_hold_d28d9_65 x1 I)) (lv' := [(0, .inr (.inr (some 740))), (1, .inl _), (2, .inl _)]) (And.intro rfl (And.intro rfl (And.intro rfl True.intro))) ⟨_, _, rfl, rfl, ⟨by omega, (hd_S hx0 (pn_st ehB10 rfl) (by omega) (by omega) (by omega) (by omega)), hx1⟩, rfl⟩ (by omega)
  · have hB0 := fB_self (zn := znJ) (K := fKc wz_8c264) h0
    have b16 := fBd fb_741_9 (fBz h0 hB0)
    refine Exists.intro xm_425 (And.intro mi_425 (And.intro ⟨rfl, rfl, rfl, rfl⟩ (And.intro rfl ?_)))
    refine fcallp hB0 (ct_M_isText_c8726 (fBz h0 hB0) (by first | exact ⟨ha1.1, ha1.2⟩ | omega)) ?_
    rintro _ ⟨z17, rfl, hz17⟩
    refine And.intro (by omega) (And.intro ?_ ?_)
    · intro c18
      refine And.intro ⟨rfl, by decide, by decide⟩ ?_
      refine fload1 rL_741_741_14_14_1_0 h0 hB0 ⟨by decide, by decide⟩ (by first | exact ⟨by decide, by decide⟩ | omega) ?_
      intro z19 lz19 uz19 qz19
      have pz19 := fld_at qz19 14 (by omega)
      refine And.intro (by first | exact fi_ lz19 uz19 rfl | omega) (And.intro ?_ ?_)
      · intro c20
        refine And.intro (True.intro) ?_
        exact ⟨_, rfl, by omega, (iy ⟨by omega, by show x1 < I 741 9; omega⟩ (iy (Or.inl (by show 0 ≤ I 741 14; omega)) rfl)), (mR_fr (fFr_of hB0) (by decide +kernel))⟩
      · intro c21
        refine And.intro ⟨rfl, by decide, by decide⟩ ?_
        refine Exists.intro xm_255 (And.intro mi_255 (And.intro ⟨rfl, rfl, rfl, rfl⟩ (And.intro rfl ?_)))
        refine fcallp hB0 (ct_M_textAt_ea474 (fBz h0 hB0) (by omega)) ?_
        rintro _ ⟨_, rfl, rfl⟩
        refine fload rL_741_741_1212_3412_200_0 h0 hB0 (by omega) ?_
        intro z23 lz23 uz23 qz23
        have f32 := mF_k (s := 741) (t := x1) (k := 2) (fld_at qz23 (1212 + 200 * x1.toNat) (by omega)) (by omega) (by omega) (by omega) (by show x1 < I 741 9; omega)
        refine And.intro (by first | exact fi_ lz23 uz23 rfl | omega) (And.intro ?_ ?_)
        · intro c24
          refine And.intro ⟨rfl, by decide, by decide⟩ ?_
          refine fstore1 rS_741_741_14_14_1_0 (fzs_sub (by decide +kernel) hW) ⟨by decide, by decide⟩ (by first | exact ⟨by decide, by decide⟩ | omega) (by omega) ?_
          intro IhB25 ehB25 hB25
          have t26 := fup_self ehB25
          have t27 := fup_at ehB25 14 (by first | rfl | omega)
          have k28 := fBz_eq hB25 (a := 741) (j := 9) (by decide +kernel)
          have r46 := mR_nc (i0 := 14) (i1 := 14) (m := 1) (q := 0) (by decide +kernel) ehB25 (by omega)
          refine And.intro ⟨rfl, by decide, by decide⟩ ?_
          refine fstore1 rS_741_741_15_15_1_0 (fzs_sub (by decide +kernel) hW) ⟨by decide, by decide⟩ (by first | exact ⟨by decide, by decide⟩ | omega) (by first | exact ⟨by decide, by decide⟩ | omega) ?_
          intro IhB29 ehB29 hB29
          have t30 := fup_self ehB29
          have t31 : IhB29 741 14 = IhB25 741 14 := (congrFun (congrFun ehB29 741) 14).trans (fup_ne (by first | decide | omega))
          have t32 := fup_at ehB29 15 (by first | rfl | omega)
          have k33 := fBz_eq hB29 (a := 741) (j := 9) (by decide +kernel)
          have r54 := mR_nc (i0 := 15) (i1 := 15) (m := 1) (q := 0) (by decide +kernel) ehB29 (by omega)
          refine And.intro ⟨rfl, by decide, by decide⟩ ?_
          refine fstore1 rS_741_741_16_16_1_0 (fzs_sub (by decide +kernel) hW) ⟨by decide, by decide⟩ (by first | exact ⟨by decide, by decide⟩ | omega) (by first | exact ⟨by decide, by decide⟩ | omega) ?_
          intro IhB34 ehB34 hB34
          have t35 := fup_self ehB34
          have t36 : IhB34 741 14 = IhB29 741 14 := (congrFun (congrFun ehB34 741) 14).trans (fup_ne (by first | decide | omega))
          have t37 : IhB34 741 15 = IhB29 741 15 := (congrFun (congrFun ehB34 741) 15).trans (fup_ne (by first | decide | omega))
          have t38 := fup_at ehB34 16 (by first | rfl | omega)
          have k39 := fBz_eq hB34 (a := 741) (j := 9) (by decide +kernel)
          have r62 := mR_nc (i0 := 16) (i1 := 16) (m := 1) (q := 0) (by decide +kernel) ehB34 (by omega)
          exact fcutJ (I := IhB34) (j := (jc_M_hold_d28d9_65 x1 I)) (lv' := [(0, .inr (.inr (some 740))), (1, .inl _), (2, .inl _)]) (And.intro rfl (And.intro rfl (And.intro rfl True.intro))) ⟨_, _, rfl, rfl, ⟨by omega, (hd_0 (pn_st ehB25 rfl) (pn_st ehB29 rfl) (pn_st ehB34 rfl) (by omega) (by omega) (by omega)), (by omega)⟩, rfl⟩ (by omega)
        · intro c40
          refine And.intro (True.intro) ?_
          exact ⟨_, rfl, by omega, (iy ⟨by omega, by show x1 < I 741 9; omega⟩ (iy (Or.inr (by omega)) rfl)), (mR_fr (fFr_of hB0) (by decide +kernel))⟩
    · intro c41
      refine And.intro (True.intro) ?_
      exact ⟨_, rfl, by omega, (ino (fun q => by have q1 : x1 < I 741 9 := q.2; omega) rfl), (mR_fr (fFr_of hB0) (by decide +kernel))⟩
abbrev jc_Charter_saidSo_9e364_4 (x1 : Int) (I0 : fH) : Nat → fL → List fV → fH → Prop := fun m lv st I => ∃ (y1 : Int) (y2 : Int) (y3 : Int), lv = [(0, .inr (.inr (some 187))), (1, .inl y1), (2, .inl y2), (3, .inl y3)] ∧ st = [] ∧ (((0 ≤ y1 ∧ y1 ≤ 1) ∧ (0 ≤ y2 ∧ y2 ≤ 24) ∧ (0 ≤ y3 ∧ y3 ≤ 24) ∧ (y1 = x1) ∧ (y2 ≤ y3) ∧ (0 ≤ y2) ∧ (y3 ≤ 24)) ∧ (y2 = sm (fun j => if I0 206 j = x1 then 1 else 0) y3.toNat)) ∧ m = (1 + 1 * (24 - y3) : Int).toNat
set_option maxRecDepth 8000 in
theorem ct_Charter_saidSo_9e364 {I : fH} {x1 : Int} (h0 : fB bsJ I) (ha1 : (0 ≤ x1 ∧ x1 ≤ 1)) : fC ρ base n F xTc vwCl xTys D dA la gJ (fbz bsJ znJ (fKc []) I) xm_138 [.inr (.inr (some 187)), .inl x1] I (fun _ r => ∃ z, r = some (.inl z) ∧ (0 ≤ z ∧ z ≤ 24) ∧ (z = cnt1 (I 206) x1)) := by
  have hW : fzs [] (fKc []) := fKc_ok _
  refine f_meth (rb := rbJ) (J := [(4, (jc_Charter_saidSo_9e364_4 x1 I))]) 26 400 xG xin_138 x6_138 okJ (fB_self h0) ?_ ?_
  · refine List.forall_mem_cons.mpr ⟨?_, fun q h => absurd h List.not_mem_nil⟩
    · rintro m _ _ I1 hB1 ⟨y1, y2, y3, rfl, rfl, ⟨hb, hx0⟩, hm⟩
      refine And.intro ⟨rfl, by decide, by decide⟩ ?_
      refine Exists.intro 100 (Exists.intro 24 (And.intro rfl (And.intro ⟨by decide, by decide, by decide⟩ ?_)))
      refine And.intro (And.intro (by first | exact fi_ hb.2.2.1.1 hb.2.2.1.2 rfl | omega) (by first | exact ⟨by decide, by decide⟩ | omega)) (And.intro ?_ ?_)
      · intro c1
        refine And.intro (True.intro) ?_
        exact ⟨_, rfl, (by first | exact ⟨hb.2.1.1, hb.2.1.2⟩ | omega), (sm_fin (k := 24) hx0 (by omega))⟩
      · intro c2
        refine And.intro ⟨rfl, by decide, by decide⟩ ?_
        refine fload1 rL_206_206_0_23_1_0 h0 hB1 ⟨by decide, by decide⟩ (by first | exact ⟨hb.2.2.1.1, Int.le_trans (Int.le_sub_one_of_lt (Int.lt_of_lt_of_le c2 (Int.le_refl _))) (by decide)⟩ | omega) ?_
        intro z3 lz3 uz3 qz3
        refine And.intro (And.intro (by first | exact fi_ lz3 uz3 rfl | omega) (by first | exact fi_ hb.1.1 hb.1.2 rfl | omega)) (And.intro ?_ ?_)
        · intro c4
          exact fcutJ (I := I1) (j := (jc_Charter_saidSo_9e364_4 x1 I)) (lv' := [(0, .inr (.inr (some 187))), (1, .inl _), (2, .inl _), (3, .inl _)]) (And.intro rfl (And.intro rfl (And.intro rfl (And.intro rfl True.intro)))) ⟨_, _, _, rfl, rfl, ⟨by omega, (cnt1_s (f := I 206) hx0 (by omega) (by omega) (qz3.trans (congrFun (congrFun (fFr_nil (fFr_of hB1)) 206) _)) (by omega))⟩, rfl⟩ (by omega)
        · intro c5
          intro z6 hz6 bz6
          have bz6 := bz6 (by omega)
          exact fcutJ (I := I1) (j := (jc_Charter_saidSo_9e364_4 x1 I)) (lv' := [(0, .inr (.inr (some 187))), (1, .inl _), (2, .inl _), (3, .inl _)]) (And.intro rfl (And.intro rfl (And.intro rfl (And.intro rfl True.intro)))) ⟨_, _, _, rfl, rfl, ⟨by omega, (cnt1_s (f := I 206) hx0 (by omega) (by omega) (qz3.trans (congrFun (congrFun (fFr_nil (fFr_of hB1)) 206) _)) (by omega))⟩, rfl⟩ (by omega)
  · have hB0 := fB_self (zn := znJ) (K := fKc []) h0
    exact fcutJ (I := I) (j := (jc_Charter_saidSo_9e364_4 x1 I)) (lv' := [(0, .inr (.inr (some 187))), (1, .inl _), (2, .inl _), (3, .inl _)]) (And.intro rfl (And.intro rfl (And.intro rfl (And.intro rfl True.intro)))) ⟨_, _, _, rfl, rfl, ⟨by omega, rfl⟩, rfl⟩ (by omega)
set_option maxRecDepth 8000 in
theorem ct_Charter_mayVote_6ee33 {I : fH} {x2 : Int} (h0 : fB bsJ I) (ha2 : (0 ≤ x2 ∧ x2 ≤ 23)) (hp0 : okL (cLw 0 I)) : fC ρ base n F xTc vwCl xTys D dA la gJ (fbz bsJ znJ (fKc wz_7d09b) I) xm_137 [.inr (.inr (some 187)), .inr (.inr (some 1)), .inl x2] I (fun I' r => ∃ z, r = some (.inl z) ∧ (0 ≤ z ∧ z ≤ 1) ∧ ((z = 1 ∧ alw (cLw 0 I) 4 (sHr (cR 0 I)) (nmO (cR 0 I) x2 0)) ∨ (z = 0 ∧ ¬ alw (cLw 0 I) 4 (sHr (cR 0 I)) (nmO (cR 0 I) x2 0))) ∧ (cR 0 I' = cR 0 I)) := by
  have hW : fzs wz_7d09b (fKc wz_7d09b) := fKc_ok _
  refine f_meth (rb := rbJ) (J := []) 1 400 xG xin_137 x6_137 okJ (fB_self h0) ?_ ?_
  · exact fun q h => absurd h List.not_mem_nil
  · have hB0 := fB_self (zn := znJ) (K := fKc wz_7d09b) h0
    refine Exists.intro xm_29 (And.intro mi_29 (And.intro ⟨rfl, rfl, rfl, rfl⟩ (And.intro rfl ?_)))
    refine fcall _ h0 (fzs_sub (by decide +kernel) hW) hB0 (ct_Charter_putOne_99949 (fBz h0 hB0) (by first | exact ⟨ha2.1, ha2.2⟩ | omega)) ?_
    rintro IhB2 _ hB2 fhB2 ⟨rfl, hz1, g0z1, g1z1⟩
    refine Exists.intro xm_32 (And.intro mi_32 (And.intro ⟨rfl, rfl, rfl, rfl⟩ (And.intro rfl ?_)))
    refine fcallp hB2 (ct_City_hour_b7a7b (fBz h0 hB2)) ?_
    rintro _ ⟨z3, rfl, hz3, g0z3⟩
    try rw [g1z1] at g0z3
    have eL : cLw 0 IhB2 = cLw 0 I := (cLw_fr lZ0_ok (fFr_of hB2) (by decide +kernel))
    refine Exists.intro xm_33 (And.intro mi_33 (And.intro ⟨rfl, rfl, rfl, rfl⟩ (And.intro rfl ?_)))
    refine fcall _ h0 (fzs_sub (by decide +kernel) hW) hB2 (ct_Charter_allows_3e335 (fBz h0 hB2) (by first | exact ⟨by decide, by decide⟩ | omega) (by first | exact ⟨hz3.1, hz3.2⟩ | omega) (by rw [eL]; exact hp0)) ?_
    rintro IhB5 _ hB5 fhB5 ⟨z4, rfl, hz4, g0z4, g1z4⟩
    refine And.intro (⟨by omega, by omega⟩) ?_
    exact ⟨_, rfl, by omega, (alw_tr g0z4 eL g0z3 hp0 (nmO_4 g0z1 (Or.inl rfl))), (cR_fr (d := 0) cZ0_ok (fFr_of hB5) (by decide +kernel))⟩
set_option maxRecDepth 8000 in
theorem ct_X_say_45bc8 {I : fH} {x1 : Int} {x2 : Int} (h0 : fB bsJ I) (ha1 : ((-2147483648) ≤ x1 ∧ x1 ≤ 2147483647)) (ha2 : ((-2147483648) ≤ x2 ∧ x2 ≤ 2147483647)) (hp0 : okL (cLw 0 I)) (hp1 : -1 ≤ (cLw 0 I).vote) : fC ρ base n F xTc vwCl xTys D dA la gJ (fbz bsJ znJ (fKc wz_60f7b) I) xm_136 [.inr (.inr (some 0)), .inl x1, .inl x2] I (fun I' r => ∃ z, r = some (.inl z) ∧ ((0 ≤ z ∧ z ≤ 24) ∨ z = (-1000000002) ∨ z = (-1000000001)) ∧ ((cLw 0 I', z) = oSay (cR 0 I) (cLw 0 I) x1 x2) ∧ (cR 0 I' = cR 0 I)) := by
  have hW : fzs wz_60f7b (fKc wz_60f7b) := fKc_ok _
  refine f_meth (rb := rbJ) (J := []) 1 400 xG xin_136 x6_136 okJ (fB_self h0) ?_ ?_
  · exact fun q h => absurd h List.not_mem_nil
  · have hB0 := fB_self (zn := znJ) (K := fKc wz_60f7b) h0
    have w908 : I 177 4 = gt (cR 0 I) 8 := (cL_f (d := 0) (a := 177) (j := 4) (r := 8) (p := 8) (I := I) (z := I 177 4) (by decide +kernel) (by decide) rfl rfl)
    refine And.intro ⟨rfl, by decide, by decide⟩ ?_
    refine Exists.intro xm_27 (And.intro mi_27 (And.intro ⟨rfl, rfl, rfl, rfl⟩ (And.intro rfl ?_)))
    refine fcallp hB0 (ct_City_isPerson_ff059 (fBz h0 hB0) (by first | exact ⟨ha1.1, ha1.2⟩ | omega)) ?_
    rintro _ ⟨z1, rfl, hz1⟩
    refine And.intro (by omega) (And.intro ?_ ?_)
    · intro c2
      refine And.intro (True.intro) ?_
      exact ⟨_, rfl, by omega, (ino (by omega) rfl), (cR_fr (d := 0) cZ0_ok (fFr_of hB0) (by decide +kernel))⟩
    · intro c3
      refine Exists.intro xm_13 (And.intro mi_13 (And.intro ⟨rfl, rfl, rfl, rfl⟩ (And.intro True.intro ?_)))
      refine fcallp hB0 (ct_X_within_c27b1 (fBz h0 hB0) (by first | exact ⟨ha2.1, ha2.2⟩ | omega) (by first | exact ⟨by decide, by decide⟩ | omega) (by first | exact ⟨by decide, by decide⟩ | omega)) ?_
      rintro _ ⟨z4, rfl, hz4⟩
      refine And.intro (by omega) (And.intro ?_ ?_)
      · intro c5
        refine And.intro ⟨rfl, by decide, by decide⟩ ?_
        refine And.intro ⟨rfl, by decide, by decide⟩ (fgetf fb_187_7 h0 hB0 ?_)
        intro z6 lz6 uz6 qz6
        refine And.intro (And.intro (by first | exact fi_ lz6 uz6 rfl | omega) (by first | exact ⟨by decide, by decide⟩ | omega)) (And.intro ?_ ?_)
        · intro c7
          refine And.intro (True.intro) ?_
          exact ⟨_, rfl, by omega, (iy (by omega) (cno (fun q => by have v27 := cL_off (d := 0) qz6 (by omega); have q1 := q.1; omega) rfl)), (cR_fr (d := 0) cZ0_ok (fFr_of hB0) (by decide +kernel))⟩
        · intro c8
          refine And.intro ⟨rfl, by decide, by decide⟩ ?_
          refine And.intro ⟨rfl, by decide, by decide⟩ ?_
          refine Exists.intro xm_21 (And.intro mi_21 (And.intro ⟨rfl, rfl, rfl, rfl⟩ (And.intro rfl ?_)))
          refine fcallp hB0 (ct_People_isDead_edb17 (fBz h0 hB0) (by omega)) ?_
          rintro _ ⟨z9, rfl, hz9, g0z9⟩
          refine And.intro (by omega) (And.intro ?_ ?_)
          · intro c10
            refine And.intro (True.intro) ?_
            exact ⟨_, rfl, by omega, (iy (by omega) (cno (fun q => q.2.1 (g0z9.elim (fun q => q.2) (fun q => absurd q.1 (by omega)))) rfl)), (cR_fr (d := 0) cZ0_ok (fFr_of hB0) (by decide +kernel))⟩
          · intro c11
            refine And.intro ⟨rfl, by decide, by decide⟩ ?_
            refine And.intro ⟨rfl, by decide, by decide⟩ ?_
            refine fload rL_206_206_0_23_1_0 h0 hB0 (by omega) ?_
            intro z12 lz12 uz12 qz12
            refine And.intro (And.intro (by first | exact fi_ lz12 uz12 rfl | omega) (by first | exact ⟨by decide, by decide⟩ | omega)) (And.intro ?_ ?_)
            · intro c13
              refine And.intro ⟨rfl, by decide, by decide⟩ ?_
              refine And.intro ⟨rfl, by decide, by decide⟩ ?_
              refine Exists.intro xm_137 (And.intro mi_137 (And.intro ⟨rfl, rfl, rfl, rfl⟩ (And.intro rfl ?_)))
              refine fcall _ h0 (fzs_sub (by decide +kernel) hW) hB0 (ct_Charter_mayVote_6ee33 (fBz h0 hB0) (by omega) hp0) ?_
              rintro IhB15 _ hB15 fhB15 ⟨z14, rfl, hz14, g0z14, g1z14⟩
              have t16 := fhB15 187 7 (by decide +kernel)
              have eL : cLw 0 IhB15 = cLw 0 I := cLw_fr lZ0_ok fhB15 (by decide +kernel)
              have s77 := fFr_at fhB15 206 (by decide +kernel) rfl x1.toNat
              refine And.intro (by omega) (And.intro ?_ ?_)
              · intro c17
                refine And.intro ⟨rfl, by decide, by decide⟩ ?_
                refine And.intro ⟨rfl, by decide, by decide⟩ ?_
                refine fstore rS_206_206_0_23_1_0 (fzs_sub (by decide +kernel) hW) (by omega) (by first | exact ⟨Int.le_trans (by decide) (Int.le_trans (Int.le_refl _) hz4.1), Int.le_trans (Int.le_trans hz4.2 (Int.le_refl _)) (by decide)⟩ | omega) ?_
                intro IhB18 ehB18 hB18
                have t19 := fup_self ehB18
                have t20 : IhB18 187 7 = IhB15 187 7 := (congrFun (congrFun ehB18 187) 7).trans (fup_ne (by first | exact Or.inl (by decide) | omega))
                have r95 := cR_ot (d := 0) ehB18 (by decide)
                refine And.intro ⟨rfl, by decide, by decide⟩ ?_
                refine Exists.intro xm_138 (And.intro mi_138 (And.intro ⟨rfl, rfl, rfl, rfl⟩ (And.intro rfl ?_)))
                refine fcallp hB18 (ct_Charter_saidSo_9e364 (fBz h0 hB18) (by first | exact ⟨Int.le_trans (by decide) (Int.le_trans (Int.le_refl _) hz4.1), Int.le_trans (Int.le_trans hz4.2 (Int.le_refl _)) (by decide)⟩ | omega)) ?_
                rintro _ ⟨z21, rfl, hz21, g0z21⟩
                refine And.intro (True.intro) ?_
                exact ⟨_, rfl, by omega, (iy (by omega) (cy ⟨(cL_onv (d := 0) qz6 (by omega) hp1), (g0z9.elim (fun q => absurd q.1 (by omega)) (fun q => q.2)), cSd_no qz12 (by omega), (g0z14.elim (fun q => q.2) (fun q => absurd q.1 (by omega)))⟩ (lz (((cLw_say ehB18 (by omega) (qz12.trans s77.symm) (by omega) (by omega) (by rw [eL]; exact (cL_onv (d := 0) qz6 (by omega) hp1)))).trans (by rw [eL])) ((say_z (cLw_say ehB18 (by omega) (qz12.trans s77.symm) (by omega) (by omega) (by rw [eL]; exact (cL_onv (d := 0) qz6 (by omega) hp1))) (by rw [eL]; exact (cL_onv (d := 0) qz6 (by omega) hp1)) g0z21 (by omega)).trans (by rw [eL]))))), (cR_fr (d := 0) cZ0_ok (fFr_of hB18) (by decide +kernel))⟩
              · intro c22
                refine And.intro (True.intro) ?_
                exact ⟨_, rfl, by omega, (iy (by omega) (cno (fun q => (g0z14.elim (fun q => absurd q.1 (by omega)) (fun q => q.2)) q.2.2.2) (lz eL rfl))), (cR_fr (d := 0) cZ0_ok (fFr_of hB15) (by decide +kernel))⟩
            · intro c23
              refine And.intro (True.intro) ?_
              exact ⟨_, rfl, by omega, (iy (by omega) (cno (fun q => q.2.2.1 (cSd_yes qz12 (by omega) (by omega) (cL_onv (d := 0) qz6 (by omega) hp1))) rfl)), (cR_fr (d := 0) cZ0_ok (fFr_of hB0) (by decide +kernel))⟩
      · intro c24
        refine And.intro (True.intro) ?_
        exact ⟨_, rfl, by omega, (ino (by omega) rfl), (cR_fr (d := 0) cZ0_ok (fFr_of hB0) (by decide +kernel))⟩
set_option maxRecDepth 8000 in
theorem ct_M_mayVote_8be76 {I : fH} {x1 : Int} (h0 : fB bsJ I) (ha1 : (0 ≤ x1 ∧ x1 ≤ 23)) (hp0 : sI I 741) (hp1 : okL (mLw 741 I)) (hp2 : okE 741 I) : fC ρ base n F xTc vwCl xTys D dA la gJ (fbz bsJ znJ (fKc wz_5ef89) I) xm_428 [.inr (.inr (some 740)), .inl x1] I (fun I' r => ∃ z, r = some (.inl z) ∧ (0 ≤ z ∧ z ≤ 1) ∧ ((z = 1 ∧ alw (mLw 741 I) 4 (sHr (mR I)) (nmO (mR I) x1 0)) ∨ (z = 0 ∧ ¬ alw (mLw 741 I) 4 (sHr (mR I)) (nmO (mR I) x1 0))) ∧ (mR I' = mR I)) := by
  have hW : fzs wz_5ef89 (fKc wz_5ef89) := fKc_ok _
  refine f_meth (rb := rbJ) (J := []) 1 400 xG xin_428 x6_428 okJ (fB_self h0) ?_ ?_
  · exact fun q h => absurd h List.not_mem_nil
  · have hB0 := fB_self (zn := znJ) (K := fKc wz_5ef89) h0
    refine Exists.intro xm_254 (And.intro mi_254 (And.intro ⟨rfl, rfl, rfl, rfl⟩ (And.intro rfl ?_)))
    refine fcallp hB0 (ct_M_counts_1278f (fBz h0 hB0) (by first | exact ⟨by decide, by decide⟩ | omega)) ?_
    rintro _ ⟨z1, rfl, hz1, g0z1⟩
    refine Exists.intro xm_258 (And.intro mi_258 (And.intro ⟨rfl, rfl, rfl, rfl⟩ (And.intro rfl ?_)))
    refine fcall _ h0 (fzs_sub (by decide +kernel) hW) hB0 (ct_M_nameOne_43c7d (fBz h0 hB0) (by first | exact ⟨ha1.1, ha1.2⟩ | omega)) ?_
    rintro IhB3 _ hB3 fhB3 ⟨rfl, hz2, g0z2, g1z2⟩
    have k4 := fBz_eq hB3 (a := 741) (j := 9) (by decide +kernel)
    have eL : mLw 741 IhB3 = mLw 741 I := (mLw_fr (fFr_of hB3) (by decide +kernel))
    have eQ : mR IhB3 = mR I := mR_fr (fFr_of hB3) (by decide +kernel)
    refine And.intro (by first | exact fi_ hz1.1.1 hz1.1.2 rfl | omega) (And.intro ?_ ?_)
    · intro c5
      refine And.intro (⟨by decide, by decide⟩) ?_
      exact ⟨_, rfl, (by first | exact ⟨by decide, by decide⟩ | omega), (Or.inl ⟨by omega, alw_m0 g0z1 (by omega)⟩), (mR_fr (fFr_of hB3) (by decide +kernel))⟩
    · intro c6
      refine Exists.intro xm_259 (And.intro mi_259 (And.intro ⟨rfl, rfl, rfl, rfl⟩ (And.intro rfl ?_)))
      refine fcall _ h0 (fzs_sub (by decide +kernel) hW) hB3 (ct_M_worked_0bc29 (fBz h0 hB3) (by first | exact ⟨Int.le_trans (by decide) (Int.le_trans (Int.le_refl _) c6), hz1.1.2⟩ | omega) (sI_keep hp0 h0 hB3 (by decide +kernel)) (by omega) (by rw [eL]; exact hp1) (okE_fr (fFr_of hB3) (by decide +kernel) hp2) (by rw [eL]; show z1 < I 741 9; omega)) ?_
      rintro IhB8 _ hB8 fhB8 ⟨z7, rfl, hz7, g0z7⟩
      have k9 := fBz_eq hB8 (a := 741) (j := 9) (by decide +kernel)
      have r17 := mR_fr fhB8 (by decide +kernel)
      refine And.intro (by first | exact fi_ hz7.1 hz7.2 rfl | omega) (And.intro ?_ ?_)
      · intro c10
        refine And.intro (⟨by omega, by omega⟩) ?_
        exact ⟨_, rfl, by omega, (Or.inr ⟨by omega, fun a => absurd ((alw_w g0z1 (by omega) eL hp1 g0z7 (nmW_4 eQ g0z2 (Or.inl rfl))).mpr a) (by omega)⟩), (mR_fr (fFr_of hB8) (by decide +kernel))⟩
      · intro c11
        refine And.intro (⟨by decide, by decide⟩) ?_
        exact ⟨_, rfl, (by first | exact ⟨by decide, by decide⟩ | omega), (Or.inl ⟨by omega, (alw_w g0z1 (by omega) eL hp1 g0z7 (nmW_4 eQ g0z2 (Or.inl rfl))).mp (by omega)⟩), (mR_fr (fFr_of hB8) (by decide +kernel))⟩
set_option maxRecDepth 8000 in
theorem ct_M_say_fd1c8 {I : fH} {x1 : Int} {x2 : Int} (h0 : fB bsJ I) (ha1 : ((-2147483648) ≤ x1 ∧ x1 ≤ 2147483647)) (ha2 : ((-2147483648) ≤ x2 ∧ x2 ≤ 2147483647)) (hp0 : sI I 741) (hp1 : okL (mLw 741 I)) (hp2 : okE 741 I) : fC ρ base n F xTc vwCl xTys D dA la gJ (fbz bsJ znJ (fKc wz_d8820) I) xm_427 [.inr (.inr (some 740)), .inl x1, .inl x2] I (fun I' r => ∃ z, r = some (.inl z) ∧ ((-2147483648) ≤ z ∧ z ≤ 2147483647) ∧ ((mLw 741 I', z) = oSay (mR I) (mLw 741 I) x1 x2) ∧ (mR I' = mR I)) := by
  have hW : fzs wz_d8820 (fKc wz_d8820) := fKc_ok _
  refine f_meth (rb := rbJ) (J := []) 1 400 xG xin_427 x6_427 okJ (fB_self h0) ?_ ?_
  · exact fun q h => absurd h List.not_mem_nil
  · have hB0 := fB_self (zn := znJ) (K := fKc wz_d8820) h0
    have w908 : I 741 8 = gt (mR I) 8 := (show I 741 8 = gt (mR I) 8 from (mR_ld (I := I) (k := 8) (by decide +kernel)).symm)
    refine Exists.intro xm_252 (And.intro mi_252 (And.intro ⟨rfl, rfl, rfl, rfl⟩ (And.intro rfl ?_)))
    refine fcallp hB0 (ct_M_isPerson_4d30c (fBz h0 hB0) (by first | exact ⟨ha1.1, ha1.2⟩ | omega)) ?_
    rintro _ ⟨z1, rfl, hz1⟩
    refine And.intro (by omega) (And.intro ?_ ?_)
    · intro c2
      refine And.intro (True.intro) ?_
      exact ⟨_, rfl, (by first | exact ⟨by decide, by decide⟩ | omega), (ino (by omega) rfl), (mR_fr (fFr_of hB0) (by decide +kernel))⟩
    · intro c3
      refine And.intro (by first | exact fi_ ha2.1 ha2.2 rfl | omega) ?_
      refine Exists.intro xm_238 (And.intro mi_238 (And.intro ⟨rfl, rfl, rfl, rfl⟩ (And.intro True.intro ?_)))
      refine fcallp hB0 (ct_M_isIn_27230 (fBz h0 hB0) (by first | exact ⟨ha2.1, ha2.2⟩ | omega) (by first | exact ⟨by decide, by decide⟩ | omega) (by first | exact ⟨by decide, by decide⟩ | omega)) ?_
      rintro _ ⟨z4, rfl, hz4⟩
      refine And.intro (by omega) (And.intro ?_ ?_)
      · intro c5
        refine And.intro ⟨rfl, by decide, by decide⟩ ?_
        refine fload1 rL_741_741_14_14_1_0 h0 hB0 ⟨by decide, by decide⟩ (by first | exact ⟨by decide, by decide⟩ | omega) ?_
        intro z6 lz6 uz6 qz6
        have pz6 := fld_at qz6 14 (by omega)
        refine And.intro (by first | exact fi_ lz6 uz6 rfl | omega) (And.intro ?_ ?_)
        · intro c7
          refine And.intro (True.intro) ?_
          exact ⟨_, rfl, (by first | exact ⟨by decide, by decide⟩ | omega), (iy (by omega) (cno (fun q => by have q1 : 0 ≤ I 741 14 := q.1; omega) rfl)), (mR_fr (fFr_of hB0) (by decide +kernel))⟩
        · intro c8
          refine Exists.intro xm_248 (And.intro mi_248 (And.intro ⟨rfl, rfl, rfl, rfl⟩ (And.intro rfl ?_)))
          refine fcallp hB0 (ct_M_isDead_21e1a (fBz h0 hB0) (by omega)) ?_
          rintro _ ⟨z9, rfl, hz9, g0z9⟩
          refine And.intro (by omega) (And.intro ?_ ?_)
          · intro c10
            refine And.intro (True.intro) ?_
            exact ⟨_, rfl, (by first | exact ⟨by decide, by decide⟩ | omega), (iy (by omega) (cno (fun q => q.2.1 (g0z9.elim (fun q => q.2) (fun q => absurd q.1 (by omega)))) rfl)), (mR_fr (fFr_of hB0) (by decide +kernel))⟩
          · intro c11
            refine And.intro ⟨rfl, by decide, by decide⟩ ?_
            refine Exists.intro xm_247 (And.intro mi_247 (And.intro ⟨rfl, rfl, rfl, rfl⟩ (And.intro rfl ?_)))
            refine fcallp hB0 (ct_M_personAt_9b331 (fBz h0 hB0) (by omega)) ?_
            rintro _ ⟨_, rfl, rfl⟩
            refine fload rL_741_741_874_1012_6_0 h0 hB0 (by omega) ?_
            intro z13 lz13 uz13 qz13
            have f50 := mSd_of (fld_at qz13 (874 + 6 * x1.toNat) (by omega)) (by omega) (by omega)
            refine And.intro (And.intro (by first | exact fi_ lz13 uz13 rfl | omega) (by first | exact ⟨by decide, by decide⟩ | omega)) (And.intro ?_ ?_)
            · intro c14
              refine And.intro (True.intro) ?_
              exact ⟨_, rfl, (by first | exact ⟨by decide, by decide⟩ | omega), (iy (by omega) (cno (fun q => q.2.2.1 (by omega)) rfl)), (mR_fr (fFr_of hB0) (by decide +kernel))⟩
            · intro c15
              refine Exists.intro xm_428 (And.intro mi_428 (And.intro ⟨rfl, rfl, rfl, rfl⟩ (And.intro rfl ?_)))
              refine fcall _ h0 (fzs_sub (by decide +kernel) hW) hB0 (ct_M_mayVote_8be76 (fBz h0 hB0) (by omega) (sI_keep hp0 h0 hB0 (by decide +kernel)) hp1 hp2) ?_
              rintro IhB17 _ hB17 fhB17 ⟨z16, rfl, hz16, g0z16, g1z16⟩
              have t18 := fhB17 741 14 (by decide +kernel)
              have eL : mLw 741 IhB17 = mLw 741 I := mLw_fr fhB17 (by decide +kernel)
              have s57 : IhB17 741 14 = I 741 14 := mLw_at fhB17 (by decide +kernel) (by decide) (by decide)
              refine And.intro (by omega) (And.intro ?_ ?_)
              · intro c19
                refine And.intro ⟨rfl, by decide, by decide⟩ ?_
                refine Exists.intro xm_247 (And.intro mi_247 (And.intro ⟨rfl, rfl, rfl, rfl⟩ (And.intro rfl ?_)))
                refine fcallp hB17 (ct_M_personAt_9b331 (fBz h0 hB17) (by omega)) ?_
                rintro _ ⟨_, rfl, rfl⟩
                refine fstore rS_741_741_874_1012_6_0 (fzs_sub (by decide +kernel) hW) (by omega) (by first | exact ⟨by decide, by decide⟩ | omega) ?_
                intro IhB21 ehB21 hB21
                have t22 := fup_self ehB21
                have t23 : IhB21 741 14 = IhB17 741 14 := (congrFun (congrFun ehB21 741) 14).trans (fup_ne (by first | exact Or.inl (by decide) | omega))
                have r78 := mR_nc (i0 := 874) (i1 := 1012) (m := 6) (q := 0) (by decide +kernel) ehB21 (by omega)
                refine And.intro ⟨rfl, by decide, by decide⟩ ?_
                refine And.intro (And.intro (by first | exact fi_ (Int.le_trans (Int.le_refl _) hz4.1) (Int.le_trans hz4.2 (Int.le_refl _)) rfl | omega) (by first | exact ⟨by decide, by decide⟩ | omega)) (And.intro ?_ ?_)
                · intro c24
                  refine fload rL_741_741_15_16_1_0 h0 hB21 (by omega) ?_
                  intro z25 lz25 uz25 qz25
                  intro z26 hz26 ez26 bz26
                  try replace bz26 := bz26 (by omega)
                  refine fstore rS_741_741_15_16_1_0 (fzs_sub (by decide +kernel) hW) (by omega) (by omega) ?_
                  intro IhB27 ehB27 hB27
                  have t28 := fup_self ehB27
                  have t29 : IhB27 741 14 = IhB21 741 14 := (congrFun (congrFun ehB27 741) 14).trans (fup_ne (by first | exact Or.inl (by decide) | omega))
                  have r99 := mR_nc (i0 := 15) (i1 := 16) (m := 1) (q := 0) (by decide +kernel) ehB27 (by omega)
                  refine And.intro (And.intro (by first | exact fi_ (Int.le_trans (Int.le_refl _) hz4.1) (Int.le_trans hz4.2 (Int.le_refl _)) rfl | omega) (by first | exact ⟨by decide, by decide⟩ | omega)) (And.intro ?_ ?_)
                  · intro c30
                    refine And.intro ⟨rfl, by decide, by decide⟩ ?_
                    refine fload1 rL_741_741_16_16_1_0 h0 hB27 ⟨by decide, by decide⟩ (by first | exact ⟨by decide, by decide⟩ | omega) ?_
                    intro z31 lz31 uz31 qz31
                    have pz31 := fld_at qz31 16 (by omega)
                    refine And.intro (True.intro) ?_
                    exact ⟨_, rfl, (by first | exact ⟨lz31, uz31⟩ | omega), (iy (by omega) (cy ⟨by show 0 ≤ I 741 14; omega, (g0z9.elim (fun q => absurd q.1 (by omega)) (fun q => q.2)), by omega, (g0z16.elim (fun q => q.2) (fun q => absurd q.1 (by omega)))⟩ (lz (((mLw_say (p := x1) (y := x2) (pn_st ehB21 rfl) (by omega) (by omega) (pn_st ehB27 rfl) (Or.inr ⟨by omega, rfl⟩) qz25 (wr_add hz26 ez26) (by omega) (by omega))).trans (by rw [eL])) ((say_m (mLw_say (p := x1) (y := x2) (pn_st ehB21 rfl) (by omega) (by omega) (pn_st ehB27 rfl) (Or.inr ⟨by omega, rfl⟩) qz25 (wr_add hz26 ez26) (by omega) (by omega)) (by omega) qz31 (Or.inr ⟨by omega, rfl⟩)).trans (by rw [eL]))))), (mR_fr (fFr_of hB27) (by decide +kernel))⟩
                  · intro c32
                    refine And.intro ⟨rfl, by decide, by decide⟩ ?_
                    refine fload1 rL_741_741_15_15_1_0 h0 hB27 ⟨by decide, by decide⟩ (by first | exact ⟨by decide, by decide⟩ | omega) ?_
                    intro z33 lz33 uz33 qz33
                    have pz33 := fld_at qz33 15 (by omega)
                    refine And.intro (True.intro) ?_
                    exact ⟨_, rfl, (by first | exact ⟨lz33, uz33⟩ | omega), (by exfalso; omega), (mR_fr (fFr_of hB27) (by decide +kernel))⟩
                · intro c34
                  refine fload1 rL_741_741_15_16_1_0 h0 hB21 ⟨by decide, by decide⟩ (by first | exact ⟨by decide, by decide⟩ | omega) ?_
                  intro z35 lz35 uz35 qz35
                  intro z36 hz36 ez36 bz36
                  try replace bz36 := bz36 (by omega)
                  refine fstore1 rS_741_741_15_16_1_0 (fzs_sub (by decide +kernel) hW) ⟨by decide, by decide⟩ (by first | exact ⟨by decide, by decide⟩ | omega) (by omega) ?_
                  intro IhB37 ehB37 hB37
                  have t38 := fup_self ehB37
                  have t39 : IhB37 741 14 = IhB21 741 14 := (congrFun (congrFun ehB37 741) 14).trans (fup_ne (by first | exact Or.inl (by decide) | omega))
                  have r99 := mR_nc (i0 := 15) (i1 := 16) (m := 1) (q := 0) (by decide +kernel) ehB37 (by omega)
                  refine And.intro (And.intro (by first | exact fi_ (Int.le_trans (Int.le_refl _) (Int.le_of_eq c34.symm)) (Int.le_trans hz4.2 (Int.le_refl _)) rfl | omega) (by first | exact ⟨by decide, by decide⟩ | omega)) (And.intro ?_ ?_)
                  · intro c40
                    refine And.intro ⟨rfl, by decide, by decide⟩ ?_
                    refine fload1 rL_741_741_16_16_1_0 h0 hB37 ⟨by decide, by decide⟩ (by first | exact ⟨by decide, by decide⟩ | omega) ?_
                    intro z41 lz41 uz41 qz41
                    have pz41 := fld_at qz41 16 (by omega)
                    refine And.intro (True.intro) ?_
                    exact ⟨_, rfl, (by first | exact ⟨lz41, uz41⟩ | omega), (by exfalso; omega), (mR_fr (fFr_of hB37) (by decide +kernel))⟩
                  · intro c42
                    refine And.intro ⟨rfl, by decide, by decide⟩ ?_
                    refine fload1 rL_741_741_15_15_1_0 h0 hB37 ⟨by decide, by decide⟩ (by first | exact ⟨by decide, by decide⟩ | omega) ?_
                    intro z43 lz43 uz43 qz43
                    have pz43 := fld_at qz43 15 (by omega)
                    refine And.intro (True.intro) ?_
                    exact ⟨_, rfl, (by first | exact ⟨lz43, uz43⟩ | omega), (iy (by omega) (cy ⟨by show 0 ≤ I 741 14; omega, (g0z9.elim (fun q => absurd q.1 (by omega)) (fun q => q.2)), by omega, (g0z16.elim (fun q => q.2) (fun q => absurd q.1 (by omega)))⟩ (lz (((mLw_say (p := x1) (y := x2) (pn_st ehB21 rfl) (by omega) (by omega) (pn_st ehB37 rfl) (Or.inl ⟨by omega, rfl⟩) qz35 (wr_add hz36 ez36) (by omega) (by omega))).trans (by rw [eL])) ((say_m (mLw_say (p := x1) (y := x2) (pn_st ehB21 rfl) (by omega) (by omega) (pn_st ehB37 rfl) (Or.inl ⟨by omega, rfl⟩) qz35 (wr_add hz36 ez36) (by omega) (by omega)) (by omega) qz43 (Or.inl ⟨by omega, rfl⟩)).trans (by rw [eL]))))), (mR_fr (fFr_of hB37) (by decide +kernel))⟩
              · intro c44
                refine And.intro (True.intro) ?_
                exact ⟨_, rfl, (by first | exact ⟨by decide, by decide⟩ | omega), (iy (by omega) (cno (fun q => (g0z16.elim (fun q => absurd q.1 (by omega)) (fun q => q.2)) q.2.2.2) (lz eL rfl))), (mR_fr (fFr_of hB17) (by decide +kernel))⟩
      · intro c45
        refine And.intro (True.intro) ?_
        exact ⟨_, rfl, (by first | exact ⟨by decide, by decide⟩ | omega), (ino (by omega) rfl), (mR_fr (fFr_of hB0) (by decide +kernel))⟩
set_option maxRecDepth 8000 in
theorem ct_Charter_endVote_df84e {I : fH} {x1 : Int} {x2 : Int} (h0 : fB bsJ I) (ha1 : (0 ≤ x1 ∧ x1 ≤ 1)) (ha2 : ((-2147483648) ≤ x2 ∧ x2 ≤ 2147483647)) (hp0 : okL (cLw 0 I)) (hp1 : (cLw 0 I).bad = 0) (hp2 : 0 ≤ (cLw 0 I).vote ∧ (cLw 0 I).vote < (cLw 0 I).n) (hp3 : 0 ≤ x2) : fC ρ base n F xTc vwCl xTys D dA la gJ (fbz bsJ znJ (fKc wz_9fced) I) xm_142 [.inr (.inr (some 187)), .inl x1, .inl x2] I (fun I' r => r = none ∧ True ∧ (cLw 0 I' = if x1 = 1 then lPass (cLw 0 I) x2 else lEnd (cLw 0 I)) ∧ (cR 0 I' = cR 0 I)) := by
  have hW : fzs wz_9fced (fKc wz_9fced) := fKc_ok _
  refine f_meth (rb := rbJ) (J := []) 1 400 xG xin_142 x6_142 okJ (fB_self h0) ?_ ?_
  · exact fun q h => absurd h List.not_mem_nil
  · have hB0 := fB_self (zn := znJ) (K := fKc wz_9fced) h0
    have b1 := fBd fb_187_6 (fBz h0 hB0)
    refine And.intro (by first | exact fi_ ha1.1 ha1.2 rfl | omega) (And.intro ?_ ?_)
    · intro c2
      refine And.intro ⟨rfl, by decide, by decide⟩ (And.intro rfl (And.intro (Or.inl rfl) (fputf fb_187_7 (by decide +kernel) hW (by first | exact ⟨by decide, by decide⟩ | omega) ?_)))
      intro IhB3 ehB3 hB3
      have t4 := fup_at ehB3 7 (by first | rfl | omega)
      have r48 := cR_ot (d := 0) ehB3 (by decide)
      exact ⟨rfl, True.intro, (ino (by omega) (cLw_end ehB3 (by omega))), (cR_fr (d := 0) cZ0_ok (fFr_of hB3) (by decide +kernel))⟩
    · intro c5
      refine And.intro ⟨rfl, by decide, by decide⟩ (fgetf fb_187_7 h0 hB0 ?_)
      intro z6 lz6 uz6 qz6
      have v6 : (cLw 0 I).vote = z6 := (cL_on (d := 0) hp2.1).2.1.trans qz6.symm
      have n6 : (cLw 0 I).n = I 187 6 := rfl
      refine Exists.intro xm_133 (And.intro mi_133 (And.intro ⟨rfl, rfl, rfl, rfl⟩ (And.intro rfl ?_)))
      refine fcallp hB0 (ct_Charter_isText_4f275 (fBz h0 hB0) (by first | exact ⟨lz6, uz6⟩ | omega)) ?_
      rintro _ ⟨z7, rfl, hz7⟩
      refine And.intro (by omega) (And.intro ?_ ?_)
      · intro c8
        refine And.intro ⟨rfl, by decide, by decide⟩ (And.intro rfl (And.intro (Or.inl rfl) (fputf fb_187_7 (by decide +kernel) hW (by first | exact ⟨by decide, by decide⟩ | omega) ?_)))
        intro IhB9 ehB9 hB9
        have t10 := fup_at ehB9 7 (by first | rfl | omega)
        have r48 := cR_ot (d := 0) ehB9 (by decide)
        exact ⟨rfl, True.intro, (by exfalso; omega), (cR_fr (d := 0) cZ0_ok (fFr_of hB9) (by decide +kernel))⟩
      · intro c11
        refine And.intro ⟨rfl, by decide, by decide⟩ (fgetf fb_187_8 h0 hB0 ?_)
        intro z12 lz12 uz12 qz12
        refine And.intro (by first | exact fi_ lz12 uz12 rfl | omega) (And.intro ?_ ?_)
        · intro c13
          refine And.intro ⟨rfl, by decide, by decide⟩ ?_
          refine And.intro ⟨rfl, by decide, by decide⟩ (fgetf fb_187_7 h0 hB0 ?_)
          intro z14 lz14 uz14 qz14
          refine fstore rS_189_189_0_11_1_0 (fzs_sub (by decide +kernel) hW) (by omega) (by first | exact ⟨ha2.1, ha2.2⟩ | omega) ?_
          intro IhB15 ehB15 hB15
          have t16 := fup_self ehB15
          have r44 := cR_ot (d := 0) ehB15 (by decide)
          refine And.intro ⟨rfl, by decide, by decide⟩ (And.intro rfl (And.intro (Or.inl rfl) (fputf fb_187_7 (by decide +kernel) hW (by first | exact ⟨by decide, by decide⟩ | omega) ?_)))
          intro IhB17 ehB17 hB17
          have t18 := fup_at ehB17 7 (by first | rfl | omega)
          have r48 := cR_ot (d := 0) ehB17 (by decide)
          exact ⟨rfl, True.intro, (iy (by omega) (cLw_pass (b := 189) ehB15 ehB17 (by omega) hp0 hp1 hp2 (by show I 187 6 ≤ 12; omega) qz14 qz12 (by omega) (by omega))), (cR_fr (d := 0) cZ0_ok (fFr_of hB17) (by decide +kernel))⟩
        · intro c19
          refine And.intro ⟨rfl, by decide, by decide⟩ ?_
          refine And.intro ⟨rfl, by decide, by decide⟩ (fgetf fb_187_7 h0 hB0 ?_)
          intro z20 lz20 uz20 qz20
          refine fstore rS_190_190_0_11_1_0 (fzs_sub (by decide +kernel) hW) (by omega) (by first | exact ⟨ha2.1, ha2.2⟩ | omega) ?_
          intro IhB21 ehB21 hB21
          have t22 := fup_self ehB21
          have t23 : IhB21 187 7 = I 187 7 := (congrFun (congrFun ehB21 187) 7).trans (fup_ne (by first | exact Or.inl (by decide) | omega))
          have t24 : IhB21 187 8 = I 187 8 := (congrFun (congrFun ehB21 187) 8).trans (fup_ne (by first | exact Or.inl (by decide) | omega))
          have r31 := cR_ot (d := 0) ehB21 (by decide)
          refine And.intro ⟨rfl, by decide, by decide⟩ (And.intro rfl (And.intro (Or.inl rfl) (fputf fb_187_7 (by decide +kernel) hW (by first | exact ⟨by decide, by decide⟩ | omega) ?_)))
          intro IhB25 ehB25 hB25
          have t26 := fup_at ehB25 7 (by first | rfl | omega)
          have r48 := cR_ot (d := 0) ehB25 (by decide)
          exact ⟨rfl, True.intro, (iy (by omega) (cLw_pass (b := 190) ehB21 ehB25 (by omega) hp0 hp1 hp2 (by show I 187 6 ≤ 12; omega) qz20 qz12 (by omega) (by omega))), (cR_fr (d := 0) cZ0_ok (fFr_of hB25) (by decide +kernel))⟩
abbrev jc_Charter_voters_73b57_4 (I0 : fH) : Nat → fL → List fV → fH → Prop := fun m lv st I => ∃ (y2 : Int) (y3 : Int), lv = [(0, .inr (.inr (some 187))), (1, .inr (.inr (some 1))), (2, .inl y2), (3, .inl y3)] ∧ st = [] ∧ (((0 ≤ y2 ∧ y2 ≤ 24) ∧ (0 ≤ y3 ∧ y3 ≤ 24) ∧ (y3 ≤ I0 177 4) ∧ (y2 ≤ y3) ∧ (0 ≤ y2)) ∧ (y2 = sm (sVo (cR 0 I0) (cLw 0 I0)) y3.toNat)) ∧ m = (1 + 1 * (24 - y3) : Int).toNat
set_option maxRecDepth 8000 in
theorem ct_Charter_voters_73b57 {I : fH}  (h0 : fB bsJ I) (hp0 : okL (cLw 0 I)) : fC ρ base n F xTc vwCl xTys D dA la gJ (fbz bsJ znJ (fKc wz_7d09b) I) xm_141 [.inr (.inr (some 187)), .inr (.inr (some 1))] I (fun I' r => ∃ z, r = some (.inl z) ∧ (0 ≤ z ∧ z ≤ 24) ∧ (z = sm (sVo (cR 0 I) (cLw 0 I)) (gt (cR 0 I) 8).toNat) ∧ (cR 0 I' = cR 0 I)) := by
  have hW : fzs wz_7d09b (fKc wz_7d09b) := fKc_ok _
  refine f_meth (rb := rbJ) (J := [(4, (jc_Charter_voters_73b57_4 I))]) 26 400 xG xin_141 x6_141 okJ (fB_self h0) ?_ ?_
  · refine List.forall_mem_cons.mpr ⟨?_, fun q h => absurd h List.not_mem_nil⟩
    · rintro m _ _ I1 hB1 ⟨y2, y3, rfl, rfl, ⟨hb, hx0⟩, hm⟩
      have k1 := fBz_eq hB1 (a := 177) (j := 4) (by decide +kernel)
      have b2 := fBd fb_177_4 (fBz h0 hB1)
      have eR : cR 0 I1 = cR 0 I := cR_fr (d := 0) cZ0_ok (fFr_of hB1) (by decide +kernel)
      skip
      have eL : cLw 0 I1 = cLw 0 I := (cLw_fr lZ0_ok (fFr_of hB1) (by decide +kernel))
      have w8 := (cL_f (d := 0) (a := 177) (j := 4) (r := 8) (p := 8) (I := I) (z := I 177 4) (by decide +kernel) (by decide) rfl rfl)
      refine And.intro ⟨rfl, by decide, by decide⟩ ?_
      refine And.intro ⟨rfl, by decide, by decide⟩ (fgetf fb_177_4 h0 hB1 ?_)
      intro z3 lz3 uz3 qz3
      have v9 := cL_f (d := 0) (a := 177) (j := 4) (r := 8) (p := 8) (by decide +kernel) (by decide) qz3 rfl
      rw [eR] at v9
      refine And.intro (And.intro (by first | exact fi_ hb.2.1.1 hb.2.1.2 rfl | omega) (by first | exact fi_ lz3 uz3 rfl | omega)) (And.intro ?_ ?_)
      · intro c4
        refine And.intro (True.intro) ?_
        exact ⟨_, rfl, (by first | exact ⟨hb.1.1, hb.1.2⟩ | omega), (sm_fin hx0 (by omega)), (cR_fr (d := 0) cZ0_ok (fFr_of hB1) (by decide +kernel))⟩
      · intro c5
        refine And.intro ⟨rfl, by decide, by decide⟩ ?_
        refine Exists.intro xm_21 (And.intro mi_21 (And.intro ⟨rfl, rfl, rfl, rfl⟩ (And.intro rfl ?_)))
        refine fcallp hB1 (ct_People_isDead_edb17 (fBz h0 hB1) (by first | exact ⟨hb.2.1.1, Int.le_trans (Int.le_sub_one_of_lt (Int.lt_of_lt_of_le c5 uz3)) (by decide)⟩ | omega)) ?_
        rintro _ ⟨z6, rfl, hz6, g0z6⟩
        try rw [eR] at g0z6
        refine And.intro (by omega) (And.intro ?_ ?_)
        · intro c7
          exact fcutJ (I := I1) (j := (jc_Charter_voters_73b57_4 I)) (lv' := [(0, .inr (.inr (some 187))), (1, .inr (.inr (some 1))), (2, .inl _), (3, .inl _)]) (And.intro rfl (And.intro rfl (And.intro rfl (And.intro rfl True.intro)))) ⟨_, _, rfl, rfl, ⟨by omega, (sm_at (v := 0) hx0 (by omega) (by omega) (sVo_n (w := y3) (by omega) (fun q => q.1 (g0z6.elim (fun q => q.2) (fun q => absurd q.1 (by omega)))) rfl) (by omega))⟩, rfl⟩ (by omega)
        · intro c8
          refine Exists.intro xm_137 (And.intro mi_137 (And.intro ⟨rfl, rfl, rfl, rfl⟩ (And.intro rfl ?_)))
          refine fcall _ h0 (fzs_sub (by decide +kernel) hW) hB1 (ct_Charter_mayVote_6ee33 (fBz h0 hB1) (by first | exact ⟨hb.2.1.1, Int.le_trans (Int.le_sub_one_of_lt (Int.lt_of_lt_of_le c5 uz3)) (by decide)⟩ | omega) (by rw [eL]; exact hp0)) ?_
          rintro IhB10 _ hB10 fhB10 ⟨z9, rfl, hz9, g0z9, g1z9⟩
          have t11 := fhB10 177 4 (by decide +kernel)
          have k12 := fBz_eq hB10 (a := 177) (j := 4) (by decide +kernel)
          rw [eL, eR] at g0z9
          refine And.intro (by omega) (And.intro ?_ ?_)
          · intro c13
            exact fcutJ (I := IhB10) (j := (jc_Charter_voters_73b57_4 I)) (lv' := [(0, .inr (.inr (some 187))), (1, .inr (.inr (some 1))), (2, .inl _), (3, .inl _)]) (And.intro rfl (And.intro rfl (And.intro rfl (And.intro rfl True.intro)))) ⟨_, _, rfl, rfl, ⟨by omega, (sm_at (v := 0) hx0 (by omega) (by omega) (sVo_n (w := y3) (by omega) (fun q => (g0z9.elim (fun q => absurd q.1 (by omega)) (fun q => q.2)) q.2) rfl) (by omega))⟩, rfl⟩ (by omega)
          · intro c14
            intro z15 hz15 bz15
            have bz15 := bz15 (by omega)
            exact fcutJ (I := IhB10) (j := (jc_Charter_voters_73b57_4 I)) (lv' := [(0, .inr (.inr (some 187))), (1, .inr (.inr (some 1))), (2, .inl _), (3, .inl _)]) (And.intro rfl (And.intro rfl (And.intro rfl (And.intro rfl True.intro)))) ⟨_, _, rfl, rfl, ⟨by omega, (sm_at (v := 1) hx0 (by omega) (by omega) (sVo_y (w := y3) (by omega) (g0z6.elim (fun q => absurd q.1 (by omega)) (fun q => q.2)) (g0z9.elim (fun q => q.2) (fun q => absurd q.1 (by omega))) rfl) (by omega))⟩, rfl⟩ (by omega)
  · have hB0 := fB_self (zn := znJ) (K := fKc wz_7d09b) h0
    have b16 := fBd fb_177_4 (fBz h0 hB0)
    exact fcutJ (I := I) (j := (jc_Charter_voters_73b57_4 I)) (lv' := [(0, .inr (.inr (some 187))), (1, .inr (.inr (some 1))), (2, .inl _), (3, .inl _)]) (And.intro rfl (And.intro rfl (And.intro rfl (And.intro rfl True.intro)))) ⟨_, _, rfl, rfl, ⟨by omega, rfl⟩, rfl⟩ (by omega)
set_option maxRecDepth 8000 in
theorem ct_Charter_passes_288c8 {I : fH}  (h0 : fB bsJ I) (hp0 : okL (cLw 0 I)) (hp1 : 0 ≤ (cLw 0 I).vote) : fC ρ base n F xTc vwCl xTys D dA la gJ (fbz bsJ znJ (fKc wz_7d09b) I) xm_140 [.inr (.inr (some 187)), .inr (.inr (some 1))] I (fun I' r => ∃ z, r = some (.inl z) ∧ (0 ≤ z ∧ z ≤ 1) ∧ ((z = 1 ∧ oPas (cR 0 I) (cLw 0 I)) ∨ (z = 0 ∧ ¬ oPas (cR 0 I) (cLw 0 I))) ∧ (cR 0 I' = cR 0 I)) := by
  have hW : fzs wz_7d09b (fKc wz_7d09b) := fKc_ok _
  refine f_meth (rb := rbJ) (J := []) 1 400 xG xin_140 x6_140 okJ (fB_self h0) ?_ ?_
  · exact fun q h => absurd h List.not_mem_nil
  · have hB0 := fB_self (zn := znJ) (K := fKc wz_7d09b) h0
    refine Exists.intro xm_32 (And.intro mi_32 (And.intro ⟨rfl, rfl, rfl, rfl⟩ (And.intro rfl ?_)))
    refine fcallp hB0 (ct_City_hour_b7a7b (fBz h0 hB0)) ?_
    rintro _ ⟨z1, rfl, hz1, g0z1⟩
    refine Exists.intro xm_34 (And.intro mi_34 (And.intro ⟨rfl, rfl, rfl, rfl⟩ (And.intro rfl ?_)))
    refine fcallp hB0 (ct_Charter_counting_8f92c (fBz h0 hB0) (by first | exact ⟨by decide, by decide⟩ | omega) (by first | exact ⟨hz1.1, hz1.2⟩ | omega) hp0) ?_
    rintro _ ⟨z2, rfl, hz2, g0z2⟩
    refine And.intro (by omega) (And.intro ?_ ?_)
    · intro c3
      refine Exists.intro xm_141 (And.intro mi_141 (And.intro ⟨rfl, rfl, rfl, rfl⟩ (And.intro rfl ?_)))
      refine fcall _ h0 (fzs_sub (by decide +kernel) hW) hB0 (ct_Charter_voters_73b57 (fBz h0 hB0) hp0) ?_
      rintro IhB5 _ hB5 fhB5 ⟨z4, rfl, hz4, g0z4, g1z4⟩
      have s37 : IhB5 206 = I 206 := funext (fun j => fFr_at (fFr_of hB5) 206 (by decide +kernel) rfl j)
      refine Exists.intro xm_138 (And.intro mi_138 (And.intro ⟨rfl, rfl, rfl, rfl⟩ (And.intro rfl ?_)))
      refine fcallp hB5 (ct_Charter_saidSo_9e364 (fBz h0 hB5) (by first | exact ⟨by decide, by decide⟩ | omega)) ?_
      rintro _ ⟨z6, rfl, hz6, g0z6⟩
      refine Exists.intro xm_30 (And.intro mi_30 (And.intro ⟨rfl, rfl, rfl, rfl⟩ (And.intro rfl ?_)))
      refine fcall _ h0 (fzs_sub (by decide +kernel) hW) hB5 (ct_Charter_put_c2709 (fBz h0 hB5) (by first | exact ⟨by decide, by decide⟩ | omega) (by first | exact ⟨hz6.1, Int.le_trans hz6.2 (by decide)⟩ | omega)) ?_
      rintro IhB8 _ hB8 fhB8 ⟨rfl, hz7, g0z7⟩
      have r49 := cR_fr (d := 0) cZ0_ok fhB8 (by decide +kernel)
      refine Exists.intro xm_138 (And.intro mi_138 (And.intro ⟨rfl, rfl, rfl, rfl⟩ (And.intro rfl ?_)))
      refine fcallp hB8 (ct_Charter_saidSo_9e364 (fBz h0 hB8) (by first | exact ⟨by decide, by decide⟩ | omega)) ?_
      rintro _ ⟨z9, rfl, hz9, g0z9⟩
      have s57 : IhB8 206 = I 206 := funext (fun j => fFr_at (fFr_of hB8) 206 (by decide +kernel) rfl j)
      refine Exists.intro xm_30 (And.intro mi_30 (And.intro ⟨rfl, rfl, rfl, rfl⟩ (And.intro rfl ?_)))
      refine fcall _ h0 (fzs_sub (by decide +kernel) hW) hB8 (ct_Charter_put_c2709 (fBz h0 hB8) (by first | exact ⟨by decide, by decide⟩ | omega) (by first | exact ⟨hz9.1, Int.le_trans hz9.2 (by decide)⟩ | omega)) ?_
      rintro IhB11 _ hB11 fhB11 ⟨rfl, hz10, g0z10⟩
      have r60 := cR_fr (d := 0) cZ0_ok fhB11 (by decide +kernel)
      refine Exists.intro xm_30 (And.intro mi_30 (And.intro ⟨rfl, rfl, rfl, rfl⟩ (And.intro rfl ?_)))
      refine fcall _ h0 (fzs_sub (by decide +kernel) hW) hB11 (ct_Charter_put_c2709 (fBz h0 hB11) (by first | exact ⟨by decide, by decide⟩ | omega) (by first | exact ⟨hz4.1, Int.le_trans hz4.2 (by decide)⟩ | omega)) ?_
      rintro IhB13 _ hB13 fhB13 ⟨rfl, hz12, g0z12⟩
      have r67 := cR_fr (d := 0) cZ0_ok fhB13 (by decide +kernel)
      refine Exists.intro xm_31 (And.intro mi_31 (And.intro ⟨rfl, rfl, rfl, rfl⟩ (And.intro rfl ?_)))
      refine fcallp hB13 (ct_City_level_61deb (fBz h0 hB13)) ?_
      rintro _ ⟨z14, rfl, hz14, g0z14⟩
      try rw [r67, r60, r49, g1z4] at g0z14
      refine Exists.intro xm_30 (And.intro mi_30 (And.intro ⟨rfl, rfl, rfl, rfl⟩ (And.intro rfl ?_)))
      refine fcall _ h0 (fzs_sub (by decide +kernel) hW) hB13 (ct_Charter_put_c2709 (fBz h0 hB13) (by first | exact ⟨by decide, by decide⟩ | omega) (by first | exact ⟨hz14.1, Int.le_trans hz14.2 (by decide)⟩ | omega)) ?_
      rintro IhB16 _ hB16 fhB16 ⟨rfl, hz15, g0z15⟩
      have r77 := cR_fr (d := 0) cZ0_ok fhB16 (by decide +kernel)
      have eL : cLw 0 IhB16 = cLw 0 I := (cLw_fr lZ0_ok (fFr_of hB16) (by decide +kernel))
      refine Exists.intro xm_36 (And.intro mi_36 (And.intro ⟨rfl, rfl, rfl, rfl⟩ (And.intro rfl ?_)))
      refine fcall _ h0 (fzs_sub (by decide +kernel) hW) hB16 (ct_Charter_worth_04d20 (fBz h0 hB16) (by omega) (by rw [eL]; exact hp0) (by rw [eL]; exact (cnZ_1 g0z2 (by omega)).1.2)) ?_
      rintro IhB18 _ hB18 fhB18 ⟨z17, rfl, hz17, g0z17⟩
      have r82 := cR_fr (d := 0) cZ0_ok fhB18 (by decide +kernel)
      refine And.intro (by first | exact fi_ hz17.1 hz17.2 rfl | omega) (And.intro ?_ ?_)
      · intro c19
        refine And.intro (⟨by omega, by omega⟩) ?_
        exact ⟨_, rfl, by omega, (pas_1 ((cnZ_1 g0z2 (by omega)).2.trans (congrArg (cnT (cLw 0 I) 5) g0z1)) (by omega) eL hp0 g0z17 (nmV_c g0z7 g0z10 g0z12 g0z15 (by decide) (by decide) (by decide) (by decide) ((g0z6.trans (by rw [s37]; first | done | rfl)).trans (cL_on (d := 0) hp1).2.2.1.symm) ((g0z9.trans (by rw [s57]; first | done | rfl)).trans (cL_on (d := 0) hp1).2.2.2.symm) rfl g0z14) g0z4 (by omega)), (cR_fr (d := 0) cZ0_ok (fFr_of hB18) (by decide +kernel))⟩
      · intro c20
        refine And.intro (⟨by decide, by decide⟩) ?_
        exact ⟨_, rfl, (by first | exact ⟨by decide, by decide⟩ | omega), (pas_1 ((cnZ_1 g0z2 (by omega)).2.trans (congrArg (cnT (cLw 0 I) 5) g0z1)) (by omega) eL hp0 g0z17 (nmV_c g0z7 g0z10 g0z12 g0z15 (by decide) (by decide) (by decide) (by decide) ((g0z6.trans (by rw [s37]; first | done | rfl)).trans (cL_on (d := 0) hp1).2.2.1.symm) ((g0z9.trans (by rw [s57]; first | done | rfl)).trans (cL_on (d := 0) hp1).2.2.2.symm) rfl g0z14) g0z4 (by omega)), (cR_fr (d := 0) cZ0_ok (fFr_of hB18) (by decide +kernel))⟩
    · intro c21
      refine Exists.intro xm_138 (And.intro mi_138 (And.intro ⟨rfl, rfl, rfl, rfl⟩ (And.intro rfl ?_)))
      refine fcallp hB0 (ct_Charter_saidSo_9e364 (fBz h0 hB0) (by first | exact ⟨by decide, by decide⟩ | omega)) ?_
      rintro _ ⟨z22, rfl, hz22, g0z22⟩
      refine Exists.intro xm_138 (And.intro mi_138 (And.intro ⟨rfl, rfl, rfl, rfl⟩ (And.intro rfl ?_)))
      refine fcallp hB0 (ct_Charter_saidSo_9e364 (fBz h0 hB0) (by first | exact ⟨by decide, by decide⟩ | omega)) ?_
      rintro _ ⟨z23, rfl, hz23, g0z23⟩
      refine And.intro (And.intro (by first | exact fi_ hz22.1 hz22.2 rfl | omega) (by first | exact fi_ hz23.1 hz23.2 rfl | omega)) (And.intro ?_ ?_)
      · intro c24
        refine And.intro (⟨by omega, by omega⟩) ?_
        exact ⟨_, rfl, by omega, (pas_0 (c := -1) ((cnZ_0 g0z2 (by omega)).symm.trans (congrArg (cnT (cLw 0 I) 5) g0z1)) (by omega) (g0z22.trans (cL_on (d := 0) hp1).2.2.1.symm) (g0z23.trans (cL_on (d := 0) hp1).2.2.2.symm) (by omega)), (cR_fr (d := 0) cZ0_ok (fFr_of hB0) (by decide +kernel))⟩
      · intro c25
        refine And.intro (⟨by decide, by decide⟩) ?_
        exact ⟨_, rfl, (by first | exact ⟨by decide, by decide⟩ | omega), (pas_0 (c := -1) ((cnZ_0 g0z2 (by omega)).symm.trans (congrArg (cnT (cLw 0 I) 5) g0z1)) (by omega) (g0z22.trans (cL_on (d := 0) hp1).2.2.1.symm) (g0z23.trans (cL_on (d := 0) hp1).2.2.2.symm) (by omega)), (cR_fr (d := 0) cZ0_ok (fFr_of hB0) (by decide +kernel))⟩
set_option maxRecDepth 8000 in
theorem ct_X_tally_70a62 {I : fH}  (h0 : fB bsJ I) (hp0 : okL (cLw 0 I)) (hp1 : -1 ≤ (cLw 0 I).vote ∧ (cLw 0 I).vote < (cLw 0 I).n) (hp2 : (cLw 0 I).bad = 0) (hp3 : okMi (cR 0 I)) : fC ρ base n F xTc vwCl xTys D dA la gJ (fbz bsJ znJ (fKc wz_e2fc1) I) xm_139 [.inr (.inr (some 0))] I (fun I' r => ∃ z, r = some (.inl z) ∧ ((0 ≤ z ∧ z ≤ 1) ∨ z = (-1000000002)) ∧ ((cLw 0 I', z) = oTal (cR 0 I) (cLw 0 I)) ∧ (cR 0 I' = cR 0 I)) := by
  have hW : fzs wz_e2fc1 (fKc wz_e2fc1) := fKc_ok _
  refine f_meth (rb := rbJ) (J := []) 1 400 xG xin_139 x6_139 okJ (fB_self h0) ?_ ?_
  · exact fun q h => absurd h List.not_mem_nil
  · have hB0 := fB_self (zn := znJ) (K := fKc wz_e2fc1) h0
    refine And.intro ⟨rfl, by decide, by decide⟩ ?_
    refine And.intro ⟨rfl, by decide, by decide⟩ (fgetf fb_187_7 h0 hB0 ?_)
    intro z1 lz1 uz1 qz1
    refine And.intro (And.intro (by first | exact fi_ lz1 uz1 rfl | omega) (by first | exact ⟨by decide, by decide⟩ | omega)) (And.intro ?_ ?_)
    · intro c2
      refine And.intro ⟨rfl, by decide, by decide⟩ ?_
      refine And.intro ⟨rfl, by decide, by decide⟩ ?_
      refine Exists.intro xm_140 (And.intro mi_140 (And.intro ⟨rfl, rfl, rfl, rfl⟩ (And.intro rfl ?_)))
      refine fcall _ h0 (fzs_sub (by decide +kernel) hW) hB0 (ct_Charter_passes_288c8 (fBz h0 hB0) hp0 (cL_onv (d := 0) qz1 (by omega) hp1.1)) ?_
      rintro IhB4 _ hB4 fhB4 ⟨z3, rfl, hz3, g0z3, g1z3⟩
      have t5 := fhB4 187 7 (by decide +kernel)
      have eL : cLw 0 IhB4 = cLw 0 I := cLw_fr lZ0_ok fhB4 (by decide +kernel)
      refine And.intro ⟨rfl, by decide, by decide⟩ ?_
      refine And.intro ⟨rfl, by decide, by decide⟩ ?_
      refine Exists.intro xm_32 (And.intro mi_32 (And.intro ⟨rfl, rfl, rfl, rfl⟩ (And.intro rfl ?_)))
      refine fcallp hB4 (ct_City_hour_b7a7b (fBz h0 hB4)) ?_
      rintro _ ⟨z6, rfl, hz6, g0z6⟩
      try rw [g1z3] at g0z6
      have m37 := okMi_h hp3
      skip
      intro z7 hz7 ez7 bz7
      try replace bz7 := bz7 (by omega)
      refine Exists.intro xm_142 (And.intro mi_142 (And.intro ⟨rfl, rfl, rfl, rfl⟩ (And.intro rfl ?_)))
      refine fcall _ h0 (fzs_sub (by decide +kernel) hW) hB4 (ct_Charter_endVote_df84e (fBz h0 hB4) (by omega) (by omega) (by rw [eL]; exact hp0) (by rw [eL]; exact hp2) (by rw [eL]; exact ⟨(cL_onv (d := 0) qz1 (by omega) hp1.1), hp1.2⟩) (by have a41 := wr_add hz7 ez7; rw [wr_id ⟨by omega, by omega⟩] at a41; omega)) ?_
      rintro IhB9 _ hB9 fhB9 ⟨rfl, hz8, g0z8, g1z8⟩
      refine And.intro (by omega) (And.intro ?_ ?_)
      · intro c10
        refine And.intro (True.intro) ?_
        exact ⟨_, rfl, by omega, (tal_of (cL_onv (d := 0) qz1 (by omega) hp1.1) g0z3 (g0z8.trans (by rw [eL])) (by have a41 := wr_add hz7 ez7; rw [wr_id ⟨by omega, by omega⟩] at a41; omega) (by omega)), (cR_fr (d := 0) cZ0_ok (fFr_of hB9) (by decide +kernel))⟩
      · intro c11
        refine And.intro (True.intro) ?_
        exact ⟨_, rfl, by omega, (tal_of (cL_onv (d := 0) qz1 (by omega) hp1.1) g0z3 (g0z8.trans (by rw [eL])) (by have a41 := wr_add hz7 ez7; rw [wr_id ⟨by omega, by omega⟩] at a41; omega) (by omega)), (cR_fr (d := 0) cZ0_ok (fFr_of hB9) (by decide +kernel))⟩
    · intro c12
      refine And.intro (True.intro) ?_
      exact ⟨_, rfl, by omega, (ino (fun q => by have v4 := cL_off (d := 0) qz1 (by omega); omega) rfl), (cR_fr (d := 0) cZ0_ok (fFr_of hB0) (by decide +kernel))⟩
abbrev jc_M_tally_f3255_17 (I0 : fH) : Nat → fL → List fV → fH → Prop := fun m lv st I => ∃ (y1 : Int) (y2 : Int), lv = [(0, .inr (.inr (some 740))), (1, .inl y1), (2, .inl y2)] ∧ st = [] ∧ (((0 ≤ y1 ∧ y1 ≤ 24) ∧ (0 ≤ y2 ∧ y2 ≤ 24) ∧ (0 ≤ I 741 14 ∧ I 741 14 ≤ 11) ∧ (y2 ≤ I0 741 8) ∧ (y1 ≤ y2) ∧ (0 ≤ y1) ∧ (0 ≤ I0 741 14)) ∧ (y1 = sm (sVo (mR I0) (mLw 741 I0)) y2.toNat) ∧ (∀ j, lwb j = true → j < 3610 → I 741 j = I0 741 j)) ∧ m = (1 + 1 * (24 - y2) : Int).toNat
set_option maxRecDepth 8000 in
theorem ct_M_tally_f3255 {I : fH}  (h0 : fB bsJ I) (hp0 : sI I 741) (hp1 : okL (mLw 741 I)) (hp2 : okE 741 I) (hp3 : I 741 14 < I 741 9) : fC ρ base n F xTc vwCl xTys D dA la gJ (fbz bsJ znJ (fKc wz_73731) I) xm_429 [.inr (.inr (some 740))] I (fun I' r => ∃ z, r = some (.inl z) ∧ ((0 ≤ z ∧ z ≤ 1) ∨ z = (-1000000002)) ∧ ((mLw 741 I', z) = oTal (mR I) (mLw 741 I)) ∧ (mR I' = mR I)) := by
  have hW : fzs wz_73731 (fKc wz_73731) := fKc_ok _
  refine f_meth (rb := rbJ) (J := [(17, (jc_M_tally_f3255_17 I))]) 26 400 xG xin_429 x6_429 okJ (fB_self h0) ?_ ?_
  · refine List.forall_mem_cons.mpr ⟨?_, fun q h => absurd h List.not_mem_nil⟩
    · rintro m _ _ I1 hB1 ⟨y1, y2, rfl, rfl, ⟨hb, hx0, hx1⟩, hm⟩
      have k1 := fBz_eq hB1 (a := 741) (j := 9) (by decide +kernel)
      have k2 := fBz_eq hB1 (a := 741) (j := 8) (by decide +kernel)
      have b3 := fBd fb_741_8 (fBz h0 hB1)
      have b4 := fBd fb_741_9 (fBz h0 hB1)
      have eR : mR I1 = mR I := mR_fr (fFr_of hB1) (by decide +kernel)
      skip
      have w8 := (show I 741 8 = gt (mR I) 8 from (mR_ld (I := I) (k := 8) (by decide +kernel)).symm)
      refine And.intro ⟨rfl, by decide, by decide⟩ ?_
      refine fload1 rL_741_741_8_8_1_0 h0 hB1 ⟨by decide, by decide⟩ (by first | exact ⟨by decide, by decide⟩ | omega) ?_
      intro z5 lz5 uz5 qz5
      have pz5 := fld_at qz5 8 (by omega)
      have v24 := mL_r (i0 := 8) (i1 := 8) (m := 1) (q := 0) (by decide +kernel) qz5 (by omega) rfl
      rw [eR] at v24
      refine And.intro (And.intro (by first | exact fi_ hb.2.1.1 hb.2.1.2 rfl | omega) (by first | exact fi_ lz5 uz5 rfl | omega)) (And.intro ?_ ?_)
      · intro c6
        refine Exists.intro xm_254 (And.intro mi_254 (And.intro ⟨rfl, rfl, rfl, rfl⟩ (And.intro rfl ?_)))
        refine fcallp hB1 (ct_M_counts_1278f (fBz h0 hB1) (by first | exact ⟨by decide, by decide⟩ | omega)) ?_
        rintro _ ⟨z7, rfl, hz7, g0z7⟩
        try rw [eR] at g0z7
        rw [mLw_cgp hx1] at g0z7
        try rw [eR] at g0z7
        refine And.intro ⟨rfl, by decide, by decide⟩ ?_
        refine And.intro ⟨rfl, by decide, by decide⟩ ?_
        refine fload1 rL_741_741_15_15_1_0 h0 hB1 ⟨by decide, by decide⟩ (by first | exact ⟨by decide, by decide⟩ | omega) ?_
        intro z8 lz8 uz8 qz8
        have pz8 := fld_at qz8 15 (by omega)
        refine fstore1 rS_748_748_0_127_1_0 (fzs_sub (by decide +kernel) hW) ⟨by decide, by decide⟩ (by first | exact ⟨by decide, by decide⟩ | omega) (by first | exact ⟨lz8, uz8⟩ | omega) ?_
        intro IhB9 ehB9 hB9
        have t10 := fup_self ehB9
        have t11 : IhB9 741 8 = I1 741 8 := (congrFun (congrFun ehB9 741) 8).trans (fup_ne (by first | decide | omega))
        have t12 : IhB9 741 14 = I1 741 14 := (congrFun (congrFun ehB9 741) 14).trans (fup_ne (by first | decide | omega))
        have t13 : IhB9 741 15 = I1 741 15 := (congrFun (congrFun ehB9 741) 15).trans (fup_ne (by first | decide | omega))
        have t14 := fup_at ehB9 121 (by first | rfl | omega)
        have k15 := fBz_eq hB9 (a := 741) (j := 9) (by decide +kernel)
        have k16 := fBz_eq hB9 (a := 741) (j := 8) (by decide +kernel)
        have r77 := mR_ot ehB9 (by decide)
        refine And.intro ⟨rfl, by decide, by decide⟩ ?_
        refine And.intro ⟨rfl, by decide, by decide⟩ ?_
        refine fload1 rL_741_741_16_16_1_0 h0 hB9 ⟨by decide, by decide⟩ (by first | exact ⟨by decide, by decide⟩ | omega) ?_
        intro z17 lz17 uz17 qz17
        have pz17 := fld_at qz17 16 (by omega)
        refine fstore1 rS_748_748_0_127_1_0 (fzs_sub (by decide +kernel) hW) ⟨by decide, by decide⟩ (by first | exact ⟨by decide, by decide⟩ | omega) (by first | exact ⟨lz17, uz17⟩ | omega) ?_
        intro IhB18 ehB18 hB18
        have t19 := fup_self ehB18
        have t20 : IhB18 741 8 = IhB9 741 8 := (congrFun (congrFun ehB18 741) 8).trans (fup_ne (by first | decide | omega))
        have t21 : IhB18 741 14 = IhB9 741 14 := (congrFun (congrFun ehB18 741) 14).trans (fup_ne (by first | decide | omega))
        have t22 : IhB18 741 15 = IhB9 741 15 := (congrFun (congrFun ehB18 741) 15).trans (fup_ne (by first | decide | omega))
        have t23 : IhB18 741 16 = IhB9 741 16 := (congrFun (congrFun ehB18 741) 16).trans (fup_ne (by first | decide | omega))
        have t24 := fup_at ehB18 110 (by first | rfl | omega)
        have t25 : IhB18 748 121 = IhB9 748 121 := (congrFun (congrFun ehB18 748) 121).trans (fup_ne (by first | decide | omega))
        have k26 := fBz_eq hB18 (a := 741) (j := 9) (by decide +kernel)
        have k27 := fBz_eq hB18 (a := 741) (j := 8) (by decide +kernel)
        have r91 := mR_ot ehB18 (by decide)
        refine And.intro ⟨rfl, by decide, by decide⟩ ?_
        refine fstore1 rS_748_748_0_127_1_0 (fzs_sub (by decide +kernel) hW) ⟨by decide, by decide⟩ (by first | exact ⟨by decide, by decide⟩ | omega) (by first | exact ⟨Int.le_trans (by decide) hb.1.1, Int.le_trans hb.1.2 (by decide)⟩ | omega) ?_
        intro IhB28 ehB28 hB28
        have t29 := fup_self ehB28
        have t30 : IhB28 741 8 = IhB18 741 8 := (congrFun (congrFun ehB28 741) 8).trans (fup_ne (by first | decide | omega))
        have t31 : IhB28 741 14 = IhB18 741 14 := (congrFun (congrFun ehB28 741) 14).trans (fup_ne (by first | decide | omega))
        have t32 : IhB28 741 15 = IhB18 741 15 := (congrFun (congrFun ehB28 741) 15).trans (fup_ne (by first | decide | omega))
        have t33 : IhB28 741 16 = IhB18 741 16 := (congrFun (congrFun ehB28 741) 16).trans (fup_ne (by first | decide | omega))
        have t34 := fup_at ehB28 101 (by first | rfl | omega)
        have t35 : IhB28 748 110 = IhB18 748 110 := (congrFun (congrFun ehB28 748) 110).trans (fup_ne (by first | decide | omega))
        have t36 : IhB28 748 121 = IhB18 748 121 := (congrFun (congrFun ehB28 748) 121).trans (fup_ne (by first | decide | omega))
        have k37 := fBz_eq hB28 (a := 741) (j := 9) (by decide +kernel)
        have k38 := fBz_eq hB28 (a := 741) (j := 8) (by decide +kernel)
        have r99 := mR_ot ehB28 (by decide)
        have h99 : ∀ j, lwb j = true → j < 3610 → IhB28 741 j = I 741 j := fun j a b => ((fup_other ehB28 741 j (Or.inl (by decide))).trans ((fup_other ehB18 741 j (Or.inl (by decide))).trans (fup_other ehB9 741 j (Or.inl (by decide))))).trans (hx1 j a b)
        have eL := mLw_cgp h99
        have eQ : mR IhB28 = mR I := mR_fr (fFr_of hB28) (by decide +kernel)
        refine And.intro (by first | exact fi_ hz7.1.1 hz7.1.2 rfl | omega) (And.intro ?_ ?_)
        · intro c39
          refine Exists.intro xm_259 (And.intro mi_259 (And.intro ⟨rfl, rfl, rfl, rfl⟩ (And.intro rfl ?_)))
          refine fcall _ h0 (fzs_sub (by decide +kernel) hW) hB28 (ct_M_worked_0bc29 (fBz h0 hB28) (by first | exact ⟨Int.le_trans (by decide) (Int.le_trans (Int.le_refl _) c39), hz7.1.2⟩ | omega) (sI_keep hp0 h0 hB28 (by decide +kernel)) (by omega) (by rw [eL]; exact hp1) (okE_cgp h99 hp2) (by rw [eL, g0z7]; exact (cnT_key (by omega)).2)) ?_
          rintro IhB41 _ hB41 fhB41 ⟨z40, rfl, hz40, g0z40⟩
          have t42 := fhB41 741 8 (by decide +kernel)
          have t43 := fhB41 741 14 (by decide +kernel)
          have t44 := fhB41 741 15 (by decide +kernel)
          have t45 := fhB41 741 16 (by decide +kernel)
          have k46 := fBz_eq hB41 (a := 741) (j := 9) (by decide +kernel)
          have k47 := fBz_eq hB41 (a := 741) (j := 8) (by decide +kernel)
          have r131 := mR_fr fhB41 (by decide +kernel)
          have h131 : ∀ j, lwb j = true → j < 3610 → IhB41 741 j = I 741 j := fun j a b => (mLw_at fhB41 (by decide +kernel) a b).trans (h99 j a b)
          refine And.intro (by first | exact fi_ hz40.1 hz40.2 rfl | omega) (And.intro ?_ ?_)
          · intro c48
            refine And.intro ⟨rfl, by decide, by decide⟩ ?_
            refine fload1 rL_741_741_14_14_1_0 h0 hB41 ⟨by decide, by decide⟩ (by first | exact ⟨by decide, by decide⟩ | omega) ?_
            intro z49 lz49 uz49 qz49
            have pz49 := fld_at qz49 14 (by omega)
            have h150 : ∀ j, lwb j = true → j < 3610 → IhB41 741 j = I 741 j := by first | exact h131 | exact h99
            have eK := mLw_cgp h150
            have v150 := qz49.trans (h150 14 (by decide) (by decide))
            refine Exists.intro xm_255 (And.intro mi_255 (And.intro ⟨rfl, rfl, rfl, rfl⟩ (And.intro rfl ?_)))
            refine fcallp hB41 (ct_M_textAt_ea474 (fBz h0 hB41) (by omega)) ?_
            rintro _ ⟨_, rfl, rfl⟩
            refine And.intro ⟨rfl, by decide, by decide⟩ ?_
            refine fstore1 rS_741_741_14_14_1_0 (fzs_sub (by decide +kernel) hW) ⟨by decide, by decide⟩ (by first | exact ⟨by decide, by decide⟩ | omega) (by first | exact ⟨by decide, by decide⟩ | omega) ?_
            intro IhB51 ehB51 hB51
            have t52 := fup_self ehB51
            have t53 : IhB51 741 8 = IhB41 741 8 := (congrFun (congrFun ehB51 741) 8).trans (fup_ne (by first | decide | omega))
            have t54 := fup_at ehB51 14 (by first | rfl | omega)
            have t55 : IhB51 741 15 = IhB41 741 15 := (congrFun (congrFun ehB51 741) 15).trans (fup_ne (by first | decide | omega))
            have t56 : IhB51 741 16 = IhB41 741 16 := (congrFun (congrFun ehB51 741) 16).trans (fup_ne (by first | decide | omega))
            have k57 := fBz_eq hB51 (a := 741) (j := 9) (by decide +kernel)
            have k58 := fBz_eq hB51 (a := 741) (j := 8) (by decide +kernel)
            have r163 := mR_nc (i0 := 14) (i1 := 14) (m := 1) (q := 0) (by decide +kernel) ehB51 (by omega)
            refine And.intro (by omega) (And.intro ?_ ?_)
            · intro c59
              refine And.intro ⟨rfl, by decide, by decide⟩ ?_
              refine And.intro ⟨rfl, by decide, by decide⟩ ?_
              refine fload rL_741_741_1211_3411_200_0 h0 hB51 (by omega) ?_
              intro z60 lz60 uz60 qz60
              have f184 := mF_k (s := 741) (t := z49) (k := 1) ((fld_at qz60 (1211 + 200 * z49.toNat) (by omega)).trans (fup_other ehB51 _ _ (Or.inr (by omega)))) (by omega) (by omega) (by omega) (by have q : z49 < I 741 9 := (by omega); rw [← h150 9 (by decide) (by decide)] at q; exact q)
              refine And.intro (by first | exact fi_ lz60 uz60 rfl | omega) (And.intro ?_ ?_)
              · intro c61
                refine Exists.intro xm_257 (And.intro mi_257 (And.intro ⟨rfl, rfl, rfl, rfl⟩ (And.intro rfl ?_)))
                refine fcallp hB51 (ct_M_hour_9a688 (fBz h0 hB51)) ?_
                rintro _ ⟨z62, rfl, hz62, g0z62⟩
                try rw [r163, r131, r99, r91, r77, eR] at g0z62
                refine fstore rS_741_741_1211_3412_200_1 (fzs_sub (by decide +kernel) hW) (by omega) (by omega) ?_
                intro IhB63 ehB63 hB63
                have t64 := fup_self ehB63
                have t65 : IhB63 741 8 = IhB51 741 8 := (congrFun (congrFun ehB63 741) 8).trans (fup_ne (by first | exact Or.inl (by decide) | omega))
                have t66 : IhB63 741 14 = IhB51 741 14 := (congrFun (congrFun ehB63 741) 14).trans (fup_ne (by first | exact Or.inl (by decide) | omega))
                have t67 : IhB63 741 15 = IhB51 741 15 := (congrFun (congrFun ehB63 741) 15).trans (fup_ne (by first | exact Or.inl (by decide) | omega))
                have t68 : IhB63 741 16 = IhB51 741 16 := (congrFun (congrFun ehB63 741) 16).trans (fup_ne (by first | exact Or.inl (by decide) | omega))
                have k69 := fBz_eq hB63 (a := 741) (j := 9) (by decide +kernel)
                have k70 := fBz_eq hB63 (a := 741) (j := 8) (by decide +kernel)
                have r200 := mR_nc (i0 := 1211) (i1 := 3412) (m := 200) (q := 1) (by decide +kernel) ehB63 (by omega)
                refine And.intro (True.intro) ?_
                exact ⟨_, rfl, by omega, (by exfalso; omega), (mR_fr (fFr_of hB63) (by decide +kernel))⟩
              · intro c71
                refine Exists.intro xm_257 (And.intro mi_257 (And.intro ⟨rfl, rfl, rfl, rfl⟩ (And.intro rfl ?_)))
                refine fcallp hB51 (ct_M_hour_9a688 (fBz h0 hB51)) ?_
                rintro _ ⟨z72, rfl, hz72, g0z72⟩
                try rw [r163, r131, r99, r91, r77, eR] at g0z72
                refine fstore rS_741_741_1211_3412_200_1 (fzs_sub (by decide +kernel) hW) (by omega) (by omega) ?_
                intro IhB73 ehB73 hB73
                have t74 := fup_self ehB73
                have t75 : IhB73 741 8 = IhB51 741 8 := (congrFun (congrFun ehB73 741) 8).trans (fup_ne (by first | exact Or.inl (by decide) | omega))
                have t76 : IhB73 741 14 = IhB51 741 14 := (congrFun (congrFun ehB73 741) 14).trans (fup_ne (by first | exact Or.inl (by decide) | omega))
                have t77 : IhB73 741 15 = IhB51 741 15 := (congrFun (congrFun ehB73 741) 15).trans (fup_ne (by first | exact Or.inl (by decide) | omega))
                have t78 : IhB73 741 16 = IhB51 741 16 := (congrFun (congrFun ehB73 741) 16).trans (fup_ne (by first | exact Or.inl (by decide) | omega))
                have k79 := fBz_eq hB73 (a := 741) (j := 9) (by decide +kernel)
                have k80 := fBz_eq hB73 (a := 741) (j := 8) (by decide +kernel)
                have r200 := mR_nc (i0 := 1211) (i1 := 3412) (m := 200) (q := 1) (by decide +kernel) ehB73 (by omega)
                refine And.intro (True.intro) ?_
                exact ⟨_, rfl, by omega, (by exfalso; omega), (mR_fr (fFr_of hB73) (by decide +kernel))⟩
            · intro c81
              refine And.intro (True.intro) ?_
              exact ⟨_, rfl, by omega, (tal_n (by show 0 ≤ I 741 14; omega) (pas_1 (z := 0) g0z7 (by omega) eL hp1 g0z40 (nmV_m eQ (pn_st ehB9 rfl) (pn_st ehB18 rfl) (pn_st ehB28 rfl) ((qz8.trans (hx1 15 (by decide) (by decide))).trans (mL_on (I := I) (by omega)).1.symm) ((qz17.trans ((fup_other ehB9 741 16 (Or.inl (by decide))).trans (hx1 16 (by decide) (by decide)))).trans (mL_on (I := I) (by omega)).2.symm) rfl) (sm_fin hx0 (by omega)) (by omega)) rfl ((mLw_end (pn_st ehB51 rfl) (by omega)).trans (by rw [eK])) rfl), (mR_fr (fFr_of hB51) (by decide +kernel))⟩
          · intro c82
            refine And.intro ⟨rfl, by decide, by decide⟩ ?_
            refine fload1 rL_741_741_14_14_1_0 h0 hB41 ⟨by decide, by decide⟩ (by first | exact ⟨by decide, by decide⟩ | omega) ?_
            intro z83 lz83 uz83 qz83
            have pz83 := fld_at qz83 14 (by omega)
            have h150 : ∀ j, lwb j = true → j < 3610 → IhB41 741 j = I 741 j := by first | exact h131 | exact h99
            have eK := mLw_cgp h150
            have v150 := qz83.trans (h150 14 (by decide) (by decide))
            refine Exists.intro xm_255 (And.intro mi_255 (And.intro ⟨rfl, rfl, rfl, rfl⟩ (And.intro rfl ?_)))
            refine fcallp hB41 (ct_M_textAt_ea474 (fBz h0 hB41) (by omega)) ?_
            rintro _ ⟨_, rfl, rfl⟩
            refine And.intro ⟨rfl, by decide, by decide⟩ ?_
            refine fstore1 rS_741_741_14_14_1_0 (fzs_sub (by decide +kernel) hW) ⟨by decide, by decide⟩ (by first | exact ⟨by decide, by decide⟩ | omega) (by first | exact ⟨by decide, by decide⟩ | omega) ?_
            intro IhB85 ehB85 hB85
            have t86 := fup_self ehB85
            have t87 : IhB85 741 8 = IhB41 741 8 := (congrFun (congrFun ehB85 741) 8).trans (fup_ne (by first | decide | omega))
            have t88 := fup_at ehB85 14 (by first | rfl | omega)
            have t89 : IhB85 741 15 = IhB41 741 15 := (congrFun (congrFun ehB85 741) 15).trans (fup_ne (by first | decide | omega))
            have t90 : IhB85 741 16 = IhB41 741 16 := (congrFun (congrFun ehB85 741) 16).trans (fup_ne (by first | decide | omega))
            have k91 := fBz_eq hB85 (a := 741) (j := 9) (by decide +kernel)
            have k92 := fBz_eq hB85 (a := 741) (j := 8) (by decide +kernel)
            have r163 := mR_nc (i0 := 14) (i1 := 14) (m := 1) (q := 0) (by decide +kernel) ehB85 (by omega)
            refine And.intro (by first | exact ⟨by decide, by decide⟩ | omega) (And.intro ?_ ?_)
            · intro c93
              refine And.intro ⟨rfl, by decide, by decide⟩ ?_
              refine And.intro ⟨rfl, by decide, by decide⟩ ?_
              refine fload rL_741_741_1211_3411_200_0 h0 hB85 (by omega) ?_
              intro z94 lz94 uz94 qz94
              have f184 := mF_k (s := 741) (t := z83) (k := 1) ((fld_at qz94 (1211 + 200 * z83.toNat) (by omega)).trans (fup_other ehB85 _ _ (Or.inr (by omega)))) (by omega) (by omega) (by omega) (by have q : z83 < I 741 9 := (by omega); rw [← h150 9 (by decide) (by decide)] at q; exact q)
              refine And.intro (by first | exact fi_ lz94 uz94 rfl | omega) (And.intro ?_ ?_)
              · intro c95
                refine Exists.intro xm_257 (And.intro mi_257 (And.intro ⟨rfl, rfl, rfl, rfl⟩ (And.intro rfl ?_)))
                refine fcallp hB85 (ct_M_hour_9a688 (fBz h0 hB85)) ?_
                rintro _ ⟨z96, rfl, hz96, g0z96⟩
                try rw [r163, r131, r99, r91, r77, eR] at g0z96
                refine fstore rS_741_741_1211_3412_200_1 (fzs_sub (by decide +kernel) hW) (by omega) (by omega) ?_
                intro IhB97 ehB97 hB97
                have t98 := fup_self ehB97
                have t99 : IhB97 741 8 = IhB85 741 8 := (congrFun (congrFun ehB97 741) 8).trans (fup_ne (by first | exact Or.inl (by decide) | omega))
                have t100 : IhB97 741 14 = IhB85 741 14 := (congrFun (congrFun ehB97 741) 14).trans (fup_ne (by first | exact Or.inl (by decide) | omega))
                have t101 : IhB97 741 15 = IhB85 741 15 := (congrFun (congrFun ehB97 741) 15).trans (fup_ne (by first | exact Or.inl (by decide) | omega))
                have t102 : IhB97 741 16 = IhB85 741 16 := (congrFun (congrFun ehB97 741) 16).trans (fup_ne (by first | exact Or.inl (by decide) | omega))
                have k103 := fBz_eq hB97 (a := 741) (j := 9) (by decide +kernel)
                have k104 := fBz_eq hB97 (a := 741) (j := 8) (by decide +kernel)
                have r200 := mR_nc (i0 := 1211) (i1 := 3412) (m := 200) (q := 1) (by decide +kernel) ehB97 (by omega)
                refine And.intro (True.intro) ?_
                exact ⟨_, rfl, by omega, (tal_y (by show 0 ≤ I 741 14; omega) (pas_1 (z := 1) g0z7 (by omega) eL hp1 g0z40 (nmV_m eQ (pn_st ehB9 rfl) (pn_st ehB18 rfl) (pn_st ehB28 rfl) ((qz8.trans (hx1 15 (by decide) (by decide))).trans (mL_on (I := I) (by omega)).1.symm) ((qz17.trans ((fup_other ehB9 741 16 (Or.inl (by decide))).trans (hx1 16 (by decide) (by decide)))).trans (mL_on (I := I) (by omega)).2.symm) rfl) (sm_fin hx0 (by omega)) (by omega)) rfl ((mLw_pass (t := z83) (pn_st ehB85 rfl) (by omega) (pn_st ehB97 rfl) ⟨by show 0 ≤ _; rw [eK]; show 0 ≤ I 741 14; omega, by rw [eK]; show I 741 14 < I 741 9; omega⟩ (by rw [eK]; show I 741 9 ≤ 12; omega) (by rw [eK]; show _ = I 741 14; omega) f184.symm (by omega)).trans (by rw [eK])) (by have a195 : z96 = sHr (mR I) := (by first | exact g0z96 | exact g0z96.trans (congrArg sHr (mR_fr (fFr_of hB97) (by decide +kernel)))); omega) rfl), (mR_fr (fFr_of hB97) (by decide +kernel))⟩
              · intro c105
                refine Exists.intro xm_257 (And.intro mi_257 (And.intro ⟨rfl, rfl, rfl, rfl⟩ (And.intro rfl ?_)))
                refine fcallp hB85 (ct_M_hour_9a688 (fBz h0 hB85)) ?_
                rintro _ ⟨z106, rfl, hz106, g0z106⟩
                try rw [r163, r131, r99, r91, r77, eR] at g0z106
                refine fstore rS_741_741_1211_3412_200_1 (fzs_sub (by decide +kernel) hW) (by omega) (by omega) ?_
                intro IhB107 ehB107 hB107
                have t108 := fup_self ehB107
                have t109 : IhB107 741 8 = IhB85 741 8 := (congrFun (congrFun ehB107 741) 8).trans (fup_ne (by first | exact Or.inl (by decide) | omega))
                have t110 : IhB107 741 14 = IhB85 741 14 := (congrFun (congrFun ehB107 741) 14).trans (fup_ne (by first | exact Or.inl (by decide) | omega))
                have t111 : IhB107 741 15 = IhB85 741 15 := (congrFun (congrFun ehB107 741) 15).trans (fup_ne (by first | exact Or.inl (by decide) | omega))
                have t112 : IhB107 741 16 = IhB85 741 16 := (congrFun (congrFun ehB107 741) 16).trans (fup_ne (by first | exact Or.inl (by decide) | omega))
                have k113 := fBz_eq hB107 (a := 741) (j := 9) (by decide +kernel)
                have k114 := fBz_eq hB107 (a := 741) (j := 8) (by decide +kernel)
                have r200 := mR_nc (i0 := 1211) (i1 := 3412) (m := 200) (q := 1) (by decide +kernel) ehB107 (by omega)
                refine And.intro (True.intro) ?_
                exact ⟨_, rfl, by omega, (tal_y (by show 0 ≤ I 741 14; omega) (pas_1 (z := 1) g0z7 (by omega) eL hp1 g0z40 (nmV_m eQ (pn_st ehB9 rfl) (pn_st ehB18 rfl) (pn_st ehB28 rfl) ((qz8.trans (hx1 15 (by decide) (by decide))).trans (mL_on (I := I) (by omega)).1.symm) ((qz17.trans ((fup_other ehB9 741 16 (Or.inl (by decide))).trans (hx1 16 (by decide) (by decide)))).trans (mL_on (I := I) (by omega)).2.symm) rfl) (sm_fin hx0 (by omega)) (by omega)) rfl ((mLw_pass (t := z83) (pn_st ehB85 rfl) (by omega) (pn_st ehB107 rfl) ⟨by show 0 ≤ _; rw [eK]; show 0 ≤ I 741 14; omega, by rw [eK]; show I 741 14 < I 741 9; omega⟩ (by rw [eK]; show I 741 9 ≤ 12; omega) (by rw [eK]; show _ = I 741 14; omega) f184.symm (by omega)).trans (by rw [eK])) (by have a195 : z106 = sHr (mR I) := (by first | exact g0z106 | exact g0z106.trans (congrArg sHr (mR_fr (fFr_of hB107) (by decide +kernel)))); omega) rfl), (mR_fr (fFr_of hB107) (by decide +kernel))⟩
            · intro c115
              refine And.intro (True.intro) ?_
              exact ⟨_, rfl, by omega, (by exfalso; omega), (mR_fr (fFr_of hB85) (by decide +kernel))⟩
        · intro c116
          refine And.intro ⟨rfl, by decide, by decide⟩ ?_
          refine fload1 rL_741_741_15_15_1_0 h0 hB28 ⟨by decide, by decide⟩ (by first | exact ⟨by decide, by decide⟩ | omega) ?_
          intro z117 lz117 uz117 qz117
          have pz117 := fld_at qz117 15 (by omega)
          refine And.intro ⟨rfl, by decide, by decide⟩ ?_
          refine fload1 rL_741_741_16_16_1_0 h0 hB28 ⟨by decide, by decide⟩ (by first | exact ⟨by decide, by decide⟩ | omega) ?_
          intro z118 lz118 uz118 qz118
          have pz118 := fld_at qz118 16 (by omega)
          refine And.intro (And.intro (by first | exact fi_ lz117 uz117 rfl | omega) (by first | exact fi_ lz118 uz118 rfl | omega)) (And.intro ?_ ?_)
          · intro c119
            refine And.intro ⟨rfl, by decide, by decide⟩ ?_
            refine fload1 rL_741_741_14_14_1_0 h0 hB28 ⟨by decide, by decide⟩ (by first | exact ⟨by decide, by decide⟩ | omega) ?_
            intro z120 lz120 uz120 qz120
            have pz120 := fld_at qz120 14 (by omega)
            have h150 : ∀ j, lwb j = true → j < 3610 → IhB28 741 j = I 741 j := by first | exact h131 | exact h99
            have eK := mLw_cgp h150
            have v150 := qz120.trans (h150 14 (by decide) (by decide))
            refine Exists.intro xm_255 (And.intro mi_255 (And.intro ⟨rfl, rfl, rfl, rfl⟩ (And.intro rfl ?_)))
            refine fcallp hB28 (ct_M_textAt_ea474 (fBz h0 hB28) (by omega)) ?_
            rintro _ ⟨_, rfl, rfl⟩
            refine And.intro ⟨rfl, by decide, by decide⟩ ?_
            refine fstore1 rS_741_741_14_14_1_0 (fzs_sub (by decide +kernel) hW) ⟨by decide, by decide⟩ (by first | exact ⟨by decide, by decide⟩ | omega) (by first | exact ⟨by decide, by decide⟩ | omega) ?_
            intro IhB122 ehB122 hB122
            have t123 := fup_self ehB122
            have t124 : IhB122 741 8 = IhB28 741 8 := (congrFun (congrFun ehB122 741) 8).trans (fup_ne (by first | decide | omega))
            have t125 := fup_at ehB122 14 (by first | rfl | omega)
            have t126 : IhB122 741 15 = IhB28 741 15 := (congrFun (congrFun ehB122 741) 15).trans (fup_ne (by first | decide | omega))
            have t127 : IhB122 741 16 = IhB28 741 16 := (congrFun (congrFun ehB122 741) 16).trans (fup_ne (by first | decide | omega))
            have k128 := fBz_eq hB122 (a := 741) (j := 9) (by decide +kernel)
            have k129 := fBz_eq hB122 (a := 741) (j := 8) (by decide +kernel)
            have r163 := mR_nc (i0 := 14) (i1 := 14) (m := 1) (q := 0) (by decide +kernel) ehB122 (by omega)
            refine And.intro (by first | exact ⟨by decide, by decide⟩ | omega) (And.intro ?_ ?_)
            · intro c130
              refine And.intro ⟨rfl, by decide, by decide⟩ ?_
              refine And.intro ⟨rfl, by decide, by decide⟩ ?_
              refine fload rL_741_741_1211_3411_200_0 h0 hB122 (by omega) ?_
              intro z131 lz131 uz131 qz131
              have f184 := mF_k (s := 741) (t := z120) (k := 1) ((fld_at qz131 (1211 + 200 * z120.toNat) (by omega)).trans (fup_other ehB122 _ _ (Or.inr (by omega)))) (by omega) (by omega) (by omega) (by have q : z120 < I 741 9 := (by omega); rw [← h150 9 (by decide) (by decide)] at q; exact q)
              refine And.intro (by first | exact fi_ lz131 uz131 rfl | omega) (And.intro ?_ ?_)
              · intro c132
                refine Exists.intro xm_257 (And.intro mi_257 (And.intro ⟨rfl, rfl, rfl, rfl⟩ (And.intro rfl ?_)))
                refine fcallp hB122 (ct_M_hour_9a688 (fBz h0 hB122)) ?_
                rintro _ ⟨z133, rfl, hz133, g0z133⟩
                try rw [r163, r99, r91, r77, eR] at g0z133
                refine fstore rS_741_741_1211_3412_200_1 (fzs_sub (by decide +kernel) hW) (by omega) (by omega) ?_
                intro IhB134 ehB134 hB134
                have t135 := fup_self ehB134
                have t136 : IhB134 741 8 = IhB122 741 8 := (congrFun (congrFun ehB134 741) 8).trans (fup_ne (by first | exact Or.inl (by decide) | omega))
                have t137 : IhB134 741 14 = IhB122 741 14 := (congrFun (congrFun ehB134 741) 14).trans (fup_ne (by first | exact Or.inl (by decide) | omega))
                have t138 : IhB134 741 15 = IhB122 741 15 := (congrFun (congrFun ehB134 741) 15).trans (fup_ne (by first | exact Or.inl (by decide) | omega))
                have t139 : IhB134 741 16 = IhB122 741 16 := (congrFun (congrFun ehB134 741) 16).trans (fup_ne (by first | exact Or.inl (by decide) | omega))
                have k140 := fBz_eq hB134 (a := 741) (j := 9) (by decide +kernel)
                have k141 := fBz_eq hB134 (a := 741) (j := 8) (by decide +kernel)
                have r200 := mR_nc (i0 := 1211) (i1 := 3412) (m := 200) (q := 1) (by decide +kernel) ehB134 (by omega)
                refine And.intro (True.intro) ?_
                exact ⟨_, rfl, by omega, (by exfalso; omega), (mR_fr (fFr_of hB134) (by decide +kernel))⟩
              · intro c142
                refine Exists.intro xm_257 (And.intro mi_257 (And.intro ⟨rfl, rfl, rfl, rfl⟩ (And.intro rfl ?_)))
                refine fcallp hB122 (ct_M_hour_9a688 (fBz h0 hB122)) ?_
                rintro _ ⟨z143, rfl, hz143, g0z143⟩
                try rw [r163, r99, r91, r77, eR] at g0z143
                refine fstore rS_741_741_1211_3412_200_1 (fzs_sub (by decide +kernel) hW) (by omega) (by omega) ?_
                intro IhB144 ehB144 hB144
                have t145 := fup_self ehB144
                have t146 : IhB144 741 8 = IhB122 741 8 := (congrFun (congrFun ehB144 741) 8).trans (fup_ne (by first | exact Or.inl (by decide) | omega))
                have t147 : IhB144 741 14 = IhB122 741 14 := (congrFun (congrFun ehB144 741) 14).trans (fup_ne (by first | exact Or.inl (by decide) | omega))
                have t148 : IhB144 741 15 = IhB122 741 15 := (congrFun (congrFun ehB144 741) 15).trans (fup_ne (by first | exact Or.inl (by decide) | omega))
                have t149 : IhB144 741 16 = IhB122 741 16 := (congrFun (congrFun ehB144 741) 16).trans (fup_ne (by first | exact Or.inl (by decide) | omega))
                have k150 := fBz_eq hB144 (a := 741) (j := 9) (by decide +kernel)
                have k151 := fBz_eq hB144 (a := 741) (j := 8) (by decide +kernel)
                have r200 := mR_nc (i0 := 1211) (i1 := 3412) (m := 200) (q := 1) (by decide +kernel) ehB144 (by omega)
                refine And.intro (True.intro) ?_
                exact ⟨_, rfl, by omega, (by exfalso; omega), (mR_fr (fFr_of hB144) (by decide +kernel))⟩
            · intro c152
              refine And.intro (True.intro) ?_
              exact ⟨_, rfl, by omega, (tal_n (by show 0 ≤ I 741 14; omega) (pas_0 (z := 0) g0z7 (by omega) ((qz117.trans (h99 15 (by decide) (by decide))).trans (mL_on (I := I) (by omega)).1.symm) ((qz118.trans (h99 16 (by decide) (by decide))).trans (mL_on (I := I) (by omega)).2.symm) (by omega)) rfl ((mLw_end (pn_st ehB122 rfl) (by omega)).trans (by rw [eK])) rfl), (mR_fr (fFr_of hB122) (by decide +kernel))⟩
          · intro c153
            refine And.intro ⟨rfl, by decide, by decide⟩ ?_
            refine fload1 rL_741_741_14_14_1_0 h0 hB28 ⟨by decide, by decide⟩ (by first | exact ⟨by decide, by decide⟩ | omega) ?_
            intro z154 lz154 uz154 qz154
            have pz154 := fld_at qz154 14 (by omega)
            have h150 : ∀ j, lwb j = true → j < 3610 → IhB28 741 j = I 741 j := by first | exact h131 | exact h99
            have eK := mLw_cgp h150
            have v150 := qz154.trans (h150 14 (by decide) (by decide))
            refine Exists.intro xm_255 (And.intro mi_255 (And.intro ⟨rfl, rfl, rfl, rfl⟩ (And.intro rfl ?_)))
            refine fcallp hB28 (ct_M_textAt_ea474 (fBz h0 hB28) (by omega)) ?_
            rintro _ ⟨_, rfl, rfl⟩
            refine And.intro ⟨rfl, by decide, by decide⟩ ?_
            refine fstore1 rS_741_741_14_14_1_0 (fzs_sub (by decide +kernel) hW) ⟨by decide, by decide⟩ (by first | exact ⟨by decide, by decide⟩ | omega) (by first | exact ⟨by decide, by decide⟩ | omega) ?_
            intro IhB156 ehB156 hB156
            have t157 := fup_self ehB156
            have t158 : IhB156 741 8 = IhB28 741 8 := (congrFun (congrFun ehB156 741) 8).trans (fup_ne (by first | decide | omega))
            have t159 := fup_at ehB156 14 (by first | rfl | omega)
            have t160 : IhB156 741 15 = IhB28 741 15 := (congrFun (congrFun ehB156 741) 15).trans (fup_ne (by first | decide | omega))
            have t161 : IhB156 741 16 = IhB28 741 16 := (congrFun (congrFun ehB156 741) 16).trans (fup_ne (by first | decide | omega))
            have k162 := fBz_eq hB156 (a := 741) (j := 9) (by decide +kernel)
            have k163 := fBz_eq hB156 (a := 741) (j := 8) (by decide +kernel)
            have r163 := mR_nc (i0 := 14) (i1 := 14) (m := 1) (q := 0) (by decide +kernel) ehB156 (by omega)
            refine And.intro (by first | exact ⟨by decide, by decide⟩ | omega) (And.intro ?_ ?_)
            · intro c164
              refine And.intro ⟨rfl, by decide, by decide⟩ ?_
              refine And.intro ⟨rfl, by decide, by decide⟩ ?_
              refine fload rL_741_741_1211_3411_200_0 h0 hB156 (by omega) ?_
              intro z165 lz165 uz165 qz165
              have f184 := mF_k (s := 741) (t := z154) (k := 1) ((fld_at qz165 (1211 + 200 * z154.toNat) (by omega)).trans (fup_other ehB156 _ _ (Or.inr (by omega)))) (by omega) (by omega) (by omega) (by have q : z154 < I 741 9 := (by omega); rw [← h150 9 (by decide) (by decide)] at q; exact q)
              refine And.intro (by first | exact fi_ lz165 uz165 rfl | omega) (And.intro ?_ ?_)
              · intro c166
                refine Exists.intro xm_257 (And.intro mi_257 (And.intro ⟨rfl, rfl, rfl, rfl⟩ (And.intro rfl ?_)))
                refine fcallp hB156 (ct_M_hour_9a688 (fBz h0 hB156)) ?_
                rintro _ ⟨z167, rfl, hz167, g0z167⟩
                try rw [r163, r99, r91, r77, eR] at g0z167
                refine fstore rS_741_741_1211_3412_200_1 (fzs_sub (by decide +kernel) hW) (by omega) (by omega) ?_
                intro IhB168 ehB168 hB168
                have t169 := fup_self ehB168
                have t170 : IhB168 741 8 = IhB156 741 8 := (congrFun (congrFun ehB168 741) 8).trans (fup_ne (by first | exact Or.inl (by decide) | omega))
                have t171 : IhB168 741 14 = IhB156 741 14 := (congrFun (congrFun ehB168 741) 14).trans (fup_ne (by first | exact Or.inl (by decide) | omega))
                have t172 : IhB168 741 15 = IhB156 741 15 := (congrFun (congrFun ehB168 741) 15).trans (fup_ne (by first | exact Or.inl (by decide) | omega))
                have t173 : IhB168 741 16 = IhB156 741 16 := (congrFun (congrFun ehB168 741) 16).trans (fup_ne (by first | exact Or.inl (by decide) | omega))
                have k174 := fBz_eq hB168 (a := 741) (j := 9) (by decide +kernel)
                have k175 := fBz_eq hB168 (a := 741) (j := 8) (by decide +kernel)
                have r200 := mR_nc (i0 := 1211) (i1 := 3412) (m := 200) (q := 1) (by decide +kernel) ehB168 (by omega)
                refine And.intro (True.intro) ?_
                exact ⟨_, rfl, by omega, (tal_y (by show 0 ≤ I 741 14; omega) (pas_0 (z := 1) g0z7 (by omega) ((qz117.trans (h99 15 (by decide) (by decide))).trans (mL_on (I := I) (by omega)).1.symm) ((qz118.trans (h99 16 (by decide) (by decide))).trans (mL_on (I := I) (by omega)).2.symm) (by omega)) rfl ((mLw_pass (t := z154) (pn_st ehB156 rfl) (by omega) (pn_st ehB168 rfl) ⟨by show 0 ≤ _; rw [eK]; show 0 ≤ I 741 14; omega, by rw [eK]; show I 741 14 < I 741 9; omega⟩ (by rw [eK]; show I 741 9 ≤ 12; omega) (by rw [eK]; show _ = I 741 14; omega) f184.symm (by omega)).trans (by rw [eK])) (by have a195 : z167 = sHr (mR I) := (by first | exact g0z167 | exact g0z167.trans (congrArg sHr (mR_fr (fFr_of hB168) (by decide +kernel)))); omega) rfl), (mR_fr (fFr_of hB168) (by decide +kernel))⟩
              · intro c176
                refine Exists.intro xm_257 (And.intro mi_257 (And.intro ⟨rfl, rfl, rfl, rfl⟩ (And.intro rfl ?_)))
                refine fcallp hB156 (ct_M_hour_9a688 (fBz h0 hB156)) ?_
                rintro _ ⟨z177, rfl, hz177, g0z177⟩
                try rw [r163, r99, r91, r77, eR] at g0z177
                refine fstore rS_741_741_1211_3412_200_1 (fzs_sub (by decide +kernel) hW) (by omega) (by omega) ?_
                intro IhB178 ehB178 hB178
                have t179 := fup_self ehB178
                have t180 : IhB178 741 8 = IhB156 741 8 := (congrFun (congrFun ehB178 741) 8).trans (fup_ne (by first | exact Or.inl (by decide) | omega))
                have t181 : IhB178 741 14 = IhB156 741 14 := (congrFun (congrFun ehB178 741) 14).trans (fup_ne (by first | exact Or.inl (by decide) | omega))
                have t182 : IhB178 741 15 = IhB156 741 15 := (congrFun (congrFun ehB178 741) 15).trans (fup_ne (by first | exact Or.inl (by decide) | omega))
                have t183 : IhB178 741 16 = IhB156 741 16 := (congrFun (congrFun ehB178 741) 16).trans (fup_ne (by first | exact Or.inl (by decide) | omega))
                have k184 := fBz_eq hB178 (a := 741) (j := 9) (by decide +kernel)
                have k185 := fBz_eq hB178 (a := 741) (j := 8) (by decide +kernel)
                have r200 := mR_nc (i0 := 1211) (i1 := 3412) (m := 200) (q := 1) (by decide +kernel) ehB178 (by omega)
                refine And.intro (True.intro) ?_
                exact ⟨_, rfl, by omega, (tal_y (by show 0 ≤ I 741 14; omega) (pas_0 (z := 1) g0z7 (by omega) ((qz117.trans (h99 15 (by decide) (by decide))).trans (mL_on (I := I) (by omega)).1.symm) ((qz118.trans (h99 16 (by decide) (by decide))).trans (mL_on (I := I) (by omega)).2.symm) (by omega)) rfl ((mLw_pass (t := z154) (pn_st ehB156 rfl) (by omega) (pn_st ehB178 rfl) ⟨by show 0 ≤ _; rw [eK]; show 0 ≤ I 741 14; omega, by rw [eK]; show I 741 14 < I 741 9; omega⟩ (by rw [eK]; show I 741 9 ≤ 12; omega) (by rw [eK]; show _ = I 741 14; omega) f184.symm (by omega)).trans (by rw [eK])) (by have a195 : z177 = sHr (mR I) := (by first | exact g0z177 | exact g0z177.trans (congrArg sHr (mR_fr (fFr_of hB178) (by decide +kernel)))); omega) rfl), (mR_fr (fFr_of hB178) (by decide +kernel))⟩
            · intro c186
              refine And.intro (True.intro) ?_
              exact ⟨_, rfl, by omega, (by exfalso; omega), (mR_fr (fFr_of hB156) (by decide +kernel))⟩
      · intro c187
        refine Exists.intro xm_248 (And.intro mi_248 (And.intro ⟨rfl, rfl, rfl, rfl⟩ (And.intro rfl ?_)))
        refine fcallp hB1 (ct_M_isDead_21e1a (fBz h0 hB1) (by first | exact ⟨hb.2.1.1, Int.le_trans (Int.le_sub_one_of_lt (Int.lt_of_lt_of_le c187 uz5)) (by decide)⟩ | omega)) ?_
        rintro _ ⟨z188, rfl, hz188, g0z188⟩
        try rw [eR] at g0z188
        refine And.intro (by omega) (And.intro ?_ ?_)
        · intro c189
          intro z190 hz190 ez190 bz190
          have bz190 := bz190 (by omega)
          exact fcutJ (I := I1) (j := (jc_M_tally_f3255_17 I)) (lv' := [(0, .inr (.inr (some 740))), (1, .inl _), (2, .inl _)]) (And.intro rfl (And.intro rfl (And.intro rfl True.intro))) ⟨_, _, rfl, rfl, ⟨by omega, (sm_at (v := 0) hx0 (by omega) (by omega) (sVo_n (w := y2) (by omega) (fun q => q.1 (g0z188.elim (fun q => q.2) (fun q => absurd q.1 (by omega)))) rfl) (by omega)), hx1⟩, rfl⟩ (by omega)
        · intro c191
          refine Exists.intro xm_428 (And.intro mi_428 (And.intro ⟨rfl, rfl, rfl, rfl⟩ (And.intro rfl ?_)))
          refine fcall _ h0 (fzs_sub (by decide +kernel) hW) hB1 (ct_M_mayVote_8be76 (fBz h0 hB1) (by first | exact ⟨hb.2.1.1, Int.le_trans (Int.le_sub_one_of_lt (Int.lt_of_lt_of_le c187 uz5)) (by decide)⟩ | omega) (sI_keep hp0 h0 hB1 (by decide +kernel)) (by rw [mLw_cgp hx1]; exact hp1) (okE_cgp hx1 hp2)) ?_
          rintro IhB193 _ hB193 fhB193 ⟨z192, rfl, hz192, g0z192, g1z192⟩
          have t194 := fhB193 741 8 (by decide +kernel)
          have t195 := fhB193 741 14 (by decide +kernel)
          have k196 := fBz_eq hB193 (a := 741) (j := 9) (by decide +kernel)
          have k197 := fBz_eq hB193 (a := 741) (j := 8) (by decide +kernel)
          rw [mLw_cgp hx1] at g0z192
          try rw [eR] at g0z192
          refine And.intro (by omega) (And.intro ?_ ?_)
          · intro c198
            intro z199 hz199 ez199 bz199
            have bz199 := bz199 (by omega)
            exact fcutJ (I := IhB193) (j := (jc_M_tally_f3255_17 I)) (lv' := [(0, .inr (.inr (some 740))), (1, .inl _), (2, .inl _)]) (And.intro rfl (And.intro rfl (And.intro rfl True.intro))) ⟨_, _, rfl, rfl, ⟨by omega, (sm_at (v := 0) hx0 (by omega) (by omega) (sVo_n (w := y2) (by omega) (fun q => (g0z192.elim (fun q => absurd q.1 (by omega)) (fun q => q.2)) q.2) rfl) (by omega)), (fun j a b => (mLw_at fhB193 (by decide +kernel) a b).trans (hx1 j a b))⟩, rfl⟩ (by omega)
          · intro c200
            intro z201 hz201 ez201 bz201
            have bz201 := bz201 (by omega)
            exact fcutJ (I := IhB193) (j := (jc_M_tally_f3255_17 I)) (lv' := [(0, .inr (.inr (some 740))), (1, .inl _), (2, .inl _)]) (And.intro rfl (And.intro rfl (And.intro rfl True.intro))) ⟨_, _, rfl, rfl, ⟨by omega, (sm_at (v := 1) hx0 (by omega) (by omega) (sVo_y (w := y2) (by omega) (g0z188.elim (fun q => absurd q.1 (by omega)) (fun q => q.2)) (g0z192.elim (fun q => q.2) (fun q => absurd q.1 (by omega))) rfl) (by omega)), (fun j a b => (mLw_at fhB193 (by decide +kernel) a b).trans (hx1 j a b))⟩, rfl⟩ (by omega)
  · have hB0 := fB_self (zn := znJ) (K := fKc wz_73731) h0
    have b202 := fBd fb_741_8 (fBz h0 hB0)
    have b203 := fBd fb_741_9 (fBz h0 hB0)
    refine And.intro ⟨rfl, by decide, by decide⟩ ?_
    refine fload1 rL_741_741_14_14_1_0 h0 hB0 ⟨by decide, by decide⟩ (by first | exact ⟨by decide, by decide⟩ | omega) ?_
    intro z204 lz204 uz204 qz204
    have pz204 := fld_at qz204 14 (by omega)
    refine And.intro (by first | exact fi_ lz204 uz204 rfl | omega) (And.intro ?_ ?_)
    · intro c205
      exact fcutJ (I := I) (j := (jc_M_tally_f3255_17 I)) (lv' := [(0, .inr (.inr (some 740))), (1, .inl _), (2, .inl _)]) (And.intro rfl (And.intro rfl (And.intro rfl True.intro))) ⟨_, _, rfl, rfl, ⟨by omega, rfl, (fun _ _ _ => rfl)⟩, rfl⟩ (by omega)
    · intro c206
      refine And.intro (True.intro) ?_
      exact ⟨_, rfl, by omega, (ino (fun q => by have q1 : 0 ≤ I 741 14 := q; omega) rfl), (mR_fr (fFr_of hB0) (by decide +kernel))⟩
set_option maxRecDepth 8000 in
theorem ct_X_may_176e4 {I : fH} {x1 : Int} {x2 : Int} {x3 : Int} (h0 : fB bsJ I) (ha1 : ((-2147483648) ≤ x1 ∧ x1 ≤ 2147483647)) (ha2 : ((-2147483648) ≤ x2 ∧ x2 ≤ 2147483647)) (ha3 : ((-2147483648) ≤ x3 ∧ x3 ≤ 2147483647)) (hp0 : okL (cLw 0 I)) : fC ρ base n F xTc vwCl xTys D dA la gJ (fbz bsJ znJ (fKc wz_7d09b) I) xm_143 [.inr (.inr (some 0)), .inl x1, .inl x2, .inl x3] I (fun _ r => ∃ z, r = some (.inl z) ∧ ((0 ≤ z ∧ z ≤ 1) ∨ z = (-1000000001)) ∧ (z = oMay (cR 0 I) (cLw 0 I) x1 x2 x3)) := by
  have hW : fzs wz_7d09b (fKc wz_7d09b) := fKc_ok _
  refine f_meth (rb := rbJ) (J := []) 1 400 xG xin_143 x6_143 okJ (fB_self h0) ?_ ?_
  · exact fun q h => absurd h List.not_mem_nil
  · have hB0 := fB_self (zn := znJ) (K := fKc wz_7d09b) h0
    have w906 : I 2 10 = gt (cR 0 I) 6 := (cL_f (d := 0) (a := 2) (j := 10) (r := 6) (p := 6) (I := I) (z := I 2 10) (by decide +kernel) (by decide) rfl rfl)
    have w908 : I 177 4 = gt (cR 0 I) 8 := (cL_f (d := 0) (a := 177) (j := 4) (r := 8) (p := 8) (I := I) (z := I 177 4) (by decide +kernel) (by decide) rfl rfl)
    refine And.intro (And.intro (by first | exact fi_ ha2.1 ha2.2 rfl | omega) (by first | exact ⟨by decide, by decide⟩ | omega)) (And.intro ?_ ?_)
    · intro c1
      refine Exists.intro xm_13 (And.intro mi_13 (And.intro ⟨rfl, rfl, rfl, rfl⟩ (And.intro True.intro ?_)))
      refine fcallp hB0 (ct_X_within_c27b1 (fBz h0 hB0) (by first | exact ⟨ha2.1, ha2.2⟩ | omega) (by first | exact ⟨by decide, by decide⟩ | omega) (by first | exact ⟨by decide, by decide⟩ | omega)) ?_
      rintro _ ⟨z2, rfl, hz2⟩
      refine And.intro (by omega) (And.intro ?_ ?_)
      · intro c3
        refine And.intro (True.intro) ?_
        exact ⟨_, rfl, by omega, (ma_b (by omega) (by omega) rfl)⟩
      · intro c4
        refine And.intro ⟨rfl, by decide, by decide⟩ ?_
        refine Exists.intro xm_27 (And.intro mi_27 (And.intro ⟨rfl, rfl, rfl, rfl⟩ (And.intro rfl ?_)))
        refine fcallp hB0 (ct_City_isPerson_ff059 (fBz h0 hB0) (by first | exact ⟨ha1.1, ha1.2⟩ | omega)) ?_
        rintro _ ⟨z5, rfl, hz5⟩
        refine And.intro (by omega) (And.intro ?_ ?_)
        · intro c6
          refine And.intro (True.intro) ?_
          exact ⟨_, rfl, by omega, (ma_b (by omega) (by omega) rfl)⟩
        · intro c7
          refine And.intro ⟨rfl, by decide, by decide⟩ ?_
          refine And.intro ⟨rfl, by decide, by decide⟩ ?_
          refine Exists.intro xm_21 (And.intro mi_21 (And.intro ⟨rfl, rfl, rfl, rfl⟩ (And.intro rfl ?_)))
          refine fcallp hB0 (ct_People_isDead_edb17 (fBz h0 hB0) (by omega)) ?_
          rintro _ ⟨z8, rfl, hz8, g0z8⟩
          refine And.intro (by omega) (And.intro ?_ ?_)
          · intro c9
            refine And.intro (And.intro (by first | exact fi_ (Int.le_trans (Int.le_refl _) hz2.1) (Int.le_trans hz2.2 (Int.le_refl _)) rfl | omega) (by first | exact ⟨by decide, by decide⟩ | omega)) (And.intro ?_ ?_)
            · intro c10
              refine And.intro ⟨rfl, by decide, by decide⟩ ?_
              refine Exists.intro xm_26 (And.intro mi_26 (And.intro ⟨rfl, rfl, rfl, rfl⟩ (And.intro rfl ?_)))
              refine fcallp hB0 (ct_City_isLock_bc0fd (fBz h0 hB0) (by first | exact ⟨ha3.1, ha3.2⟩ | omega)) ?_
              rintro _ ⟨z11, rfl, hz11⟩
              refine And.intro (by omega) (And.intro ?_ ?_)
              · intro c12
                refine And.intro ⟨rfl, by decide, by decide⟩ ?_
                refine And.intro ⟨rfl, by decide, by decide⟩ ?_
                refine Exists.intro xm_28 (And.intro mi_28 (And.intro ⟨rfl, rfl, rfl, rfl⟩ (And.intro rfl ?_)))
                refine fcall _ h0 (fzs_sub (by decide +kernel) hW) hB0 (ct_Charter_mayOpen_c7558 (fBz h0 hB0) (by omega) (by omega) hp0) ?_
                rintro IhB14 _ hB14 fhB14 ⟨z13, rfl, hz13, g0z13, g1z13⟩
                refine And.intro (by omega) (And.intro ?_ ?_)
                · intro c15
                  refine And.intro (True.intro) ?_
                  exact ⟨_, rfl, by omega, (ma_0 (by omega) (by omega) (g0z8.elim (fun q => absurd q.1 (by omega)) (fun q => q.2)) (by omega) ((show _ = z13 by omega).trans (yn_ci g0z13)))⟩
                · intro c16
                  refine And.intro (True.intro) ?_
                  exact ⟨_, rfl, by omega, (ma_0 (by omega) (by omega) (g0z8.elim (fun q => absurd q.1 (by omega)) (fun q => q.2)) (by omega) ((show _ = z13 by omega).trans (yn_ci g0z13)))⟩
              · intro c17
                refine And.intro (True.intro) ?_
                exact ⟨_, rfl, by omega, (ma_l (by omega) (by omega) (g0z8.elim (fun q => absurd q.1 (by omega)) (fun q => q.2)) (by omega) rfl)⟩
            · intro c18
              refine And.intro ⟨rfl, by decide, by decide⟩ ?_
              refine And.intro ⟨rfl, by decide, by decide⟩ ?_
              refine Exists.intro xm_137 (And.intro mi_137 (And.intro ⟨rfl, rfl, rfl, rfl⟩ (And.intro rfl ?_)))
              refine fcall _ h0 (fzs_sub (by decide +kernel) hW) hB0 (ct_Charter_mayVote_6ee33 (fBz h0 hB0) (by omega) hp0) ?_
              rintro IhB20 _ hB20 fhB20 ⟨z19, rfl, hz19, g0z19, g1z19⟩
              refine And.intro (by omega) (And.intro ?_ ?_)
              · intro c21
                refine And.intro (True.intro) ?_
                exact ⟨_, rfl, by omega, (ma_1 (by omega) (by omega) (g0z8.elim (fun q => absurd q.1 (by omega)) (fun q => q.2)) ((show _ = z19 by omega).trans (yn_ci g0z19)))⟩
              · intro c22
                refine And.intro (True.intro) ?_
                exact ⟨_, rfl, by omega, (ma_1 (by omega) (by omega) (g0z8.elim (fun q => absurd q.1 (by omega)) (fun q => q.2)) ((show _ = z19 by omega).trans (yn_ci g0z19)))⟩
          · intro c23
            refine And.intro (True.intro) ?_
            exact ⟨_, rfl, by omega, (ma_d (by omega) (g0z8.elim (fun q => q.2) (fun q => absurd q.1 (by omega))) rfl)⟩
    · intro c24
      refine And.intro ⟨rfl, by decide, by decide⟩ ?_
      refine And.intro ⟨rfl, by decide, by decide⟩ ?_
      refine Exists.intro xm_104 (And.intro mi_104 (And.intro ⟨rfl, rfl, rfl, rfl⟩ (And.intro rfl ?_)))
      refine fcall _ h0 (fzs_sub (by decide +kernel) hW) hB0 (ct_Charter_mayBeBorn_dcbbd (fBz h0 hB0) hp0) ?_
      rintro IhB26 _ hB26 fhB26 ⟨z25, rfl, hz25, g0z25, g1z25⟩
      refine And.intro (by omega) (And.intro ?_ ?_)
      · intro c27
        refine And.intro (True.intro) ?_
        exact ⟨_, rfl, by omega, (ma_2 (by omega) ((show _ = z25 by omega).trans (yn_ci g0z25)))⟩
      · intro c28
        refine And.intro (True.intro) ?_
        exact ⟨_, rfl, by omega, (ma_2 (by omega) ((show _ = z25 by omega).trans (yn_ci g0z25)))⟩
end CT

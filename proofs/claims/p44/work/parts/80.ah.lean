set_option linter.all false
/-! contracts (written by gen95.py) -/
abbrev wz_73731 : List Nat := [748, 749, 20014, 20601, 20602]
theorem x6_429 : f60c xTc xTys xm_429 = true := by decide +kernel
theorem rS_741_741_1211_3412_200_1 : frS gJ bsJ znJ [20601, 20602] 100 ((741, 741), (1211, 3412), (200, 1), ((-2147483648), 2147483647)) := frS_of (by decide +kernel)
theorem x6_143 : f60c xTc xTys xm_143 = true := by decide +kernel
theorem x6_430 : f60c xTc xTys xm_430 = true := by decide +kernel
theorem x6_144 : f60c xTc xTys xm_144 = true := by decide +kernel
theorem x6_431 : f60c xTc xTys xm_431 = true := by decide +kernel
theorem x6_147 : f60c xTc xTys xm_147 = true := by decide +kernel
abbrev wz_8a11b : List Nat := [207, 208, 209]
theorem x6_146 : f60c xTc xTys xm_146 = true := by decide +kernel
theorem rS_209_209_0_23_1_0 : frS gJ bsJ znJ [209] 100 ((209, 209), (0, 23), (1, 0), ((-2147483648), 2147483647)) := frS_dflt (by decide) (by decide +kernel)
theorem rL_209_209_0_23_1_0 : frL gJ bsJ 100 ((209, 209), (0, 23), (1, 0), ((-2147483648), 2147483647)) := frL_hull (by decide) (by decide +kernel)
theorem x6_145 : f60c xTc xTys xm_145 = true := by decide +kernel
abbrev wz_0adc5 : List Nat := [748, 749, 750]
theorem x6_432 : f60c xTc xTys xm_432 = true := by decide +kernel
theorem rL_750_750_0_23_1_0 : frL gJ bsJ 100 ((750, 750), (0, 23), (1, 0), ((-2147483648), 2147483647)) := frL_hull (by decide) (by decide +kernel)
theorem rS_750_750_0_23_1_0 : frS gJ bsJ znJ [750] 100 ((750, 750), (0, 23), (1, 0), ((-2147483648), 2147483647)) := frS_dflt (by decide) (by decide +kernel)
abbrev wz_3d14b : List Nat := [210]
theorem x6_152 : f60c xTc xTys xm_152 = true := by decide +kernel
theorem rS_210_210_0_23_1_0 : frS gJ bsJ znJ [210] 100 ((210, 210), (0, 23), (1, 0), ((-2147483648), 2147483647)) := frS_dflt (by decide) (by decide +kernel)
theorem rL_210_210_0_23_1_0 : frL gJ bsJ 100 ((210, 210), (0, 23), (1, 0), ((-2147483648), 2147483647)) := frL_hull (by decide) (by decide +kernel)
theorem x6_151 : f60c xTc xTys xm_151 = true := by decide +kernel
theorem x6_150 : f60c xTc xTys xm_150 = true := by decide +kernel
abbrev wz_b4fc8 : List Nat := [207, 208, 210]
theorem x6_149 : f60c xTc xTys xm_149 = true := by decide +kernel
theorem x6_148 : f60c xTc xTys xm_148 = true := by decide +kernel
theorem x6_435 : f60c xTc xTys xm_435 = true := by decide +kernel
abbrev wz_c83f0 : List Nat := [748, 749, 751, 752]
theorem x6_434 : f60c xTc xTys xm_434 = true := by decide +kernel
theorem rS_752_752_0_23_1_0 : frS gJ bsJ znJ [752] 100 ((752, 752), (0, 23), (1, 0), ((-2147483648), 2147483647)) := frS_dflt (by decide) (by decide +kernel)
theorem rS_751_751_0_23_1_0 : frS gJ bsJ znJ [751] 100 ((751, 751), (0, 23), (1, 0), (0, 23)) := frS_of (by decide +kernel)
theorem rL_752_752_0_23_1_0 : frL gJ bsJ 100 ((752, 752), (0, 23), (1, 0), ((-2147483648), 2147483647)) := frL_hull (by decide) (by decide +kernel)
theorem rL_751_751_0_23_1_0 : frL gJ bsJ 100 ((751, 751), (0, 23), (1, 0), (0, 23)) := frL_of (by decide +kernel)
theorem x6_433 : f60c xTc xTys xm_433 = true := by decide +kernel
abbrev wz_a5b5b : List Nat := [26, 172, 174]
theorem x6_154 : f60c xTc xTys xm_154 = true := by decide +kernel
abbrev wz_9b72b : List Nat := [26, 172, 174, 207, 208, 210]
theorem x6_153 : f60c xTc xTys xm_153 = true := by decide +kernel
section CT
variable {ρ : Nat → Int32} {base n : Nat} {F : Nat → Prop} {D : va_G} {dA : Nat → ClassId} {la : Launch}
abbrev jc_M_tally_f3255_17 : Nat → fL → List fV → fH → Prop := fun m lv st I => ∃ (y1 : Int) (y2 : Int), lv = [(0, .inr (.inr (some 740))), (1, .inl y1), (2, .inl y2)] ∧ st = [] ∧ ((((-2147483648) ≤ y1 ∧ y1 ≤ 2147483647) ∧ (0 ≤ y2 ∧ y2 ≤ 24) ∧ (0 ≤ I 741 14 ∧ I 741 14 ≤ 11))) ∧ m = (1 + 1 * (24 - y2) : Int).toNat
set_option maxRecDepth 8000 in
theorem ct_M_tally_f3255 {I : fH}  (h0 : fB bsJ I) (hp0 : sI I 741) : fC ρ base n F xTc vwCl xTys D dA la gJ (fbz bsJ znJ (fKc wz_73731) I) xm_429 [.inr (.inr (some 740))] I (fun _ r => ∃ z, r = some (.inl z) ∧ ((0 ≤ z ∧ z ≤ 1) ∨ z = (-1000000002))) := by
  have hW : fzs wz_73731 (fKc wz_73731) := fKc_ok _
  refine f_meth (rb := rbJ) (J := [(17, jc_M_tally_f3255_17)]) 26 400 xG xin_429 x6_429 okJ (fB_self h0) ?_ ?_
  · refine List.forall_mem_cons.mpr ⟨?_, fun q h => absurd h List.not_mem_nil⟩
    · rintro m _ _ I1 hB1 ⟨y1, y2, rfl, rfl, hb, hm⟩
      have k1 := fBz_eq hB1 (a := 741) (j := 9) (by decide +kernel)
      refine And.intro ⟨rfl, by decide, by decide⟩ ?_
      refine fload1 rL_741_741_8_8_1_0 h0 hB1 ⟨by decide, by decide⟩ (by first | exact ⟨by decide, by decide⟩ | omega) ?_
      intro z2 lz2 uz2 qz2
      have pz2 := fld_at qz2 8 (by omega)
      refine And.intro (And.intro (by first | exact fi_ hb.2.1.1 hb.2.1.2 rfl | omega) (by first | exact fi_ lz2 uz2 rfl | omega)) (And.intro ?_ ?_)
      · intro c3
        refine Exists.intro xm_254 (And.intro mi_254 (And.intro ⟨rfl, rfl, rfl, rfl⟩ (And.intro rfl ?_)))
        refine fcallp hB1 (ct_M_counts_1278f (fBz h0 hB1) (by first | exact ⟨by decide, by decide⟩ | omega)) ?_
        rintro _ ⟨z4, rfl, hz4⟩
        refine And.intro ⟨rfl, by decide, by decide⟩ ?_
        refine And.intro ⟨rfl, by decide, by decide⟩ ?_
        refine fload1 rL_741_741_15_15_1_0 h0 hB1 ⟨by decide, by decide⟩ (by first | exact ⟨by decide, by decide⟩ | omega) ?_
        intro z5 lz5 uz5 qz5
        have pz5 := fld_at qz5 15 (by omega)
        refine fstore1 rS_748_748_0_127_1_0 (fzs_sub (by decide +kernel) hW) ⟨by decide, by decide⟩ (by first | exact ⟨by decide, by decide⟩ | omega) (by first | exact ⟨lz5, uz5⟩ | omega) ?_
        intro IhB6 ehB6 hB6
        have t7 := fup_self ehB6
        have t8 : IhB6 741 8 = I1 741 8 := (congrFun (congrFun ehB6 741) 8).trans (fup_ne (by first | decide | omega))
        have t9 : IhB6 741 14 = I1 741 14 := (congrFun (congrFun ehB6 741) 14).trans (fup_ne (by first | decide | omega))
        have t10 : IhB6 741 15 = I1 741 15 := (congrFun (congrFun ehB6 741) 15).trans (fup_ne (by first | decide | omega))
        have t11 := fup_at ehB6 121 (by first | rfl | omega)
        have k12 := fBz_eq hB6 (a := 741) (j := 9) (by decide +kernel)
        refine And.intro ⟨rfl, by decide, by decide⟩ ?_
        refine And.intro ⟨rfl, by decide, by decide⟩ ?_
        refine fload1 rL_741_741_16_16_1_0 h0 hB6 ⟨by decide, by decide⟩ (by first | exact ⟨by decide, by decide⟩ | omega) ?_
        intro z13 lz13 uz13 qz13
        have pz13 := fld_at qz13 16 (by omega)
        refine fstore1 rS_748_748_0_127_1_0 (fzs_sub (by decide +kernel) hW) ⟨by decide, by decide⟩ (by first | exact ⟨by decide, by decide⟩ | omega) (by first | exact ⟨lz13, uz13⟩ | omega) ?_
        intro IhB14 ehB14 hB14
        have t15 := fup_self ehB14
        have t16 : IhB14 741 8 = IhB6 741 8 := (congrFun (congrFun ehB14 741) 8).trans (fup_ne (by first | decide | omega))
        have t17 : IhB14 741 14 = IhB6 741 14 := (congrFun (congrFun ehB14 741) 14).trans (fup_ne (by first | decide | omega))
        have t18 : IhB14 741 15 = IhB6 741 15 := (congrFun (congrFun ehB14 741) 15).trans (fup_ne (by first | decide | omega))
        have t19 : IhB14 741 16 = IhB6 741 16 := (congrFun (congrFun ehB14 741) 16).trans (fup_ne (by first | decide | omega))
        have t20 := fup_at ehB14 110 (by first | rfl | omega)
        have t21 : IhB14 748 121 = IhB6 748 121 := (congrFun (congrFun ehB14 748) 121).trans (fup_ne (by first | decide | omega))
        have k22 := fBz_eq hB14 (a := 741) (j := 9) (by decide +kernel)
        refine And.intro ⟨rfl, by decide, by decide⟩ ?_
        refine fstore1 rS_748_748_0_127_1_0 (fzs_sub (by decide +kernel) hW) ⟨by decide, by decide⟩ (by first | exact ⟨by decide, by decide⟩ | omega) (by first | exact ⟨hb.1.1, hb.1.2⟩ | omega) ?_
        intro IhB23 ehB23 hB23
        have t24 := fup_self ehB23
        have t25 : IhB23 741 8 = IhB14 741 8 := (congrFun (congrFun ehB23 741) 8).trans (fup_ne (by first | decide | omega))
        have t26 : IhB23 741 14 = IhB14 741 14 := (congrFun (congrFun ehB23 741) 14).trans (fup_ne (by first | decide | omega))
        have t27 : IhB23 741 15 = IhB14 741 15 := (congrFun (congrFun ehB23 741) 15).trans (fup_ne (by first | decide | omega))
        have t28 : IhB23 741 16 = IhB14 741 16 := (congrFun (congrFun ehB23 741) 16).trans (fup_ne (by first | decide | omega))
        have t29 := fup_at ehB23 101 (by first | rfl | omega)
        have t30 : IhB23 748 110 = IhB14 748 110 := (congrFun (congrFun ehB23 748) 110).trans (fup_ne (by first | decide | omega))
        have t31 : IhB23 748 121 = IhB14 748 121 := (congrFun (congrFun ehB23 748) 121).trans (fup_ne (by first | decide | omega))
        have k32 := fBz_eq hB23 (a := 741) (j := 9) (by decide +kernel)
        refine And.intro (by first | exact fi_ hz4.1.1 hz4.1.2 rfl | omega) (And.intro ?_ ?_)
        · intro c33
          refine Exists.intro xm_259 (And.intro mi_259 (And.intro ⟨rfl, rfl, rfl, rfl⟩ (And.intro rfl ?_)))
          refine fcall _ h0 (fzs_sub (by decide +kernel) hW) hB23 (ct_M_worked_0bc29 (fBz h0 hB23) (by first | exact ⟨Int.le_trans (by decide) (Int.le_trans (Int.le_refl _) c33), hz4.1.2⟩ | omega) (sI_keep hp0 h0 hB23 (by decide +kernel)) (by omega)) ?_
          rintro IhB35 _ hB35 fhB35 ⟨z34, rfl, hz34⟩
          have t36 := fhB35 741 8 (by decide +kernel)
          have t37 := fhB35 741 14 (by decide +kernel)
          have t38 := fhB35 741 15 (by decide +kernel)
          have t39 := fhB35 741 16 (by decide +kernel)
          have k40 := fBz_eq hB35 (a := 741) (j := 9) (by decide +kernel)
          refine And.intro (by first | exact fi_ hz34.1 hz34.2 rfl | omega) (And.intro ?_ ?_)
          · intro c41
            refine And.intro ⟨rfl, by decide, by decide⟩ ?_
            refine fload1 rL_741_741_14_14_1_0 h0 hB35 ⟨by decide, by decide⟩ (by first | exact ⟨by decide, by decide⟩ | omega) ?_
            intro z42 lz42 uz42 qz42
            have pz42 := fld_at qz42 14 (by omega)
            refine Exists.intro xm_255 (And.intro mi_255 (And.intro ⟨rfl, rfl, rfl, rfl⟩ (And.intro rfl ?_)))
            refine fcallp hB35 (ct_M_textAt_ea474 (fBz h0 hB35) (by omega)) ?_
            rintro _ ⟨_, rfl, rfl⟩
            refine And.intro ⟨rfl, by decide, by decide⟩ ?_
            refine fstore1 rS_741_741_14_14_1_0 (fzs_sub (by decide +kernel) hW) ⟨by decide, by decide⟩ (by first | exact ⟨by decide, by decide⟩ | omega) (by first | exact ⟨by decide, by decide⟩ | omega) ?_
            intro IhB44 ehB44 hB44
            have t45 := fup_self ehB44
            have t46 : IhB44 741 8 = IhB35 741 8 := (congrFun (congrFun ehB44 741) 8).trans (fup_ne (by first | decide | omega))
            have t47 := fup_at ehB44 14 (by first | rfl | omega)
            have t48 : IhB44 741 15 = IhB35 741 15 := (congrFun (congrFun ehB44 741) 15).trans (fup_ne (by first | decide | omega))
            have t49 : IhB44 741 16 = IhB35 741 16 := (congrFun (congrFun ehB44 741) 16).trans (fup_ne (by first | decide | omega))
            have k50 := fBz_eq hB44 (a := 741) (j := 9) (by decide +kernel)
            refine And.intro (by omega) (And.intro ?_ ?_)
            · intro c51
              refine And.intro ⟨rfl, by decide, by decide⟩ ?_
              refine And.intro ⟨rfl, by decide, by decide⟩ ?_
              refine fload rL_741_741_1211_3411_200_0 h0 hB44 (by omega) ?_
              intro z52 lz52 uz52 qz52
              refine And.intro (by first | exact fi_ lz52 uz52 rfl | omega) (And.intro ?_ ?_)
              · intro c53
                refine Exists.intro xm_257 (And.intro mi_257 (And.intro ⟨rfl, rfl, rfl, rfl⟩ (And.intro rfl ?_)))
                refine fcallp hB44 (ct_M_hour_9a688 (fBz h0 hB44)) ?_
                rintro _ ⟨z54, rfl, hz54⟩
                refine fstore rS_741_741_1211_3412_200_1 (fzs_sub (by decide +kernel) hW) (by omega) (by omega) ?_
                intro IhB55 ehB55 hB55
                have t56 := fup_self ehB55
                have t57 : IhB55 741 8 = IhB44 741 8 := (congrFun (congrFun ehB55 741) 8).trans (fup_ne (by first | exact Or.inl (by decide) | omega))
                have t58 : IhB55 741 14 = IhB44 741 14 := (congrFun (congrFun ehB55 741) 14).trans (fup_ne (by first | exact Or.inl (by decide) | omega))
                have t59 : IhB55 741 15 = IhB44 741 15 := (congrFun (congrFun ehB55 741) 15).trans (fup_ne (by first | exact Or.inl (by decide) | omega))
                have t60 : IhB55 741 16 = IhB44 741 16 := (congrFun (congrFun ehB55 741) 16).trans (fup_ne (by first | exact Or.inl (by decide) | omega))
                have k61 := fBz_eq hB55 (a := 741) (j := 9) (by decide +kernel)
                refine And.intro (True.intro) ?_
                exact ⟨_, rfl, by omega⟩
              · intro c62
                refine Exists.intro xm_257 (And.intro mi_257 (And.intro ⟨rfl, rfl, rfl, rfl⟩ (And.intro rfl ?_)))
                refine fcallp hB44 (ct_M_hour_9a688 (fBz h0 hB44)) ?_
                rintro _ ⟨z63, rfl, hz63⟩
                refine fstore rS_741_741_1211_3412_200_1 (fzs_sub (by decide +kernel) hW) (by omega) (by omega) ?_
                intro IhB64 ehB64 hB64
                have t65 := fup_self ehB64
                have t66 : IhB64 741 8 = IhB44 741 8 := (congrFun (congrFun ehB64 741) 8).trans (fup_ne (by first | exact Or.inl (by decide) | omega))
                have t67 : IhB64 741 14 = IhB44 741 14 := (congrFun (congrFun ehB64 741) 14).trans (fup_ne (by first | exact Or.inl (by decide) | omega))
                have t68 : IhB64 741 15 = IhB44 741 15 := (congrFun (congrFun ehB64 741) 15).trans (fup_ne (by first | exact Or.inl (by decide) | omega))
                have t69 : IhB64 741 16 = IhB44 741 16 := (congrFun (congrFun ehB64 741) 16).trans (fup_ne (by first | exact Or.inl (by decide) | omega))
                have k70 := fBz_eq hB64 (a := 741) (j := 9) (by decide +kernel)
                refine And.intro (True.intro) ?_
                exact ⟨_, rfl, by omega⟩
            · intro c71
              refine And.intro (True.intro) ?_
              exact ⟨_, rfl, by omega⟩
          · intro c72
            refine And.intro ⟨rfl, by decide, by decide⟩ ?_
            refine fload1 rL_741_741_14_14_1_0 h0 hB35 ⟨by decide, by decide⟩ (by first | exact ⟨by decide, by decide⟩ | omega) ?_
            intro z73 lz73 uz73 qz73
            have pz73 := fld_at qz73 14 (by omega)
            refine Exists.intro xm_255 (And.intro mi_255 (And.intro ⟨rfl, rfl, rfl, rfl⟩ (And.intro rfl ?_)))
            refine fcallp hB35 (ct_M_textAt_ea474 (fBz h0 hB35) (by omega)) ?_
            rintro _ ⟨_, rfl, rfl⟩
            refine And.intro ⟨rfl, by decide, by decide⟩ ?_
            refine fstore1 rS_741_741_14_14_1_0 (fzs_sub (by decide +kernel) hW) ⟨by decide, by decide⟩ (by first | exact ⟨by decide, by decide⟩ | omega) (by first | exact ⟨by decide, by decide⟩ | omega) ?_
            intro IhB75 ehB75 hB75
            have t76 := fup_self ehB75
            have t77 : IhB75 741 8 = IhB35 741 8 := (congrFun (congrFun ehB75 741) 8).trans (fup_ne (by first | decide | omega))
            have t78 := fup_at ehB75 14 (by first | rfl | omega)
            have t79 : IhB75 741 15 = IhB35 741 15 := (congrFun (congrFun ehB75 741) 15).trans (fup_ne (by first | decide | omega))
            have t80 : IhB75 741 16 = IhB35 741 16 := (congrFun (congrFun ehB75 741) 16).trans (fup_ne (by first | decide | omega))
            have k81 := fBz_eq hB75 (a := 741) (j := 9) (by decide +kernel)
            refine And.intro (by first | exact ⟨by decide, by decide⟩ | omega) (And.intro ?_ ?_)
            · intro c82
              refine And.intro ⟨rfl, by decide, by decide⟩ ?_
              refine And.intro ⟨rfl, by decide, by decide⟩ ?_
              refine fload rL_741_741_1211_3411_200_0 h0 hB75 (by omega) ?_
              intro z83 lz83 uz83 qz83
              refine And.intro (by first | exact fi_ lz83 uz83 rfl | omega) (And.intro ?_ ?_)
              · intro c84
                refine Exists.intro xm_257 (And.intro mi_257 (And.intro ⟨rfl, rfl, rfl, rfl⟩ (And.intro rfl ?_)))
                refine fcallp hB75 (ct_M_hour_9a688 (fBz h0 hB75)) ?_
                rintro _ ⟨z85, rfl, hz85⟩
                refine fstore rS_741_741_1211_3412_200_1 (fzs_sub (by decide +kernel) hW) (by omega) (by omega) ?_
                intro IhB86 ehB86 hB86
                have t87 := fup_self ehB86
                have t88 : IhB86 741 8 = IhB75 741 8 := (congrFun (congrFun ehB86 741) 8).trans (fup_ne (by first | exact Or.inl (by decide) | omega))
                have t89 : IhB86 741 14 = IhB75 741 14 := (congrFun (congrFun ehB86 741) 14).trans (fup_ne (by first | exact Or.inl (by decide) | omega))
                have t90 : IhB86 741 15 = IhB75 741 15 := (congrFun (congrFun ehB86 741) 15).trans (fup_ne (by first | exact Or.inl (by decide) | omega))
                have t91 : IhB86 741 16 = IhB75 741 16 := (congrFun (congrFun ehB86 741) 16).trans (fup_ne (by first | exact Or.inl (by decide) | omega))
                have k92 := fBz_eq hB86 (a := 741) (j := 9) (by decide +kernel)
                refine And.intro (True.intro) ?_
                exact ⟨_, rfl, by omega⟩
              · intro c93
                refine Exists.intro xm_257 (And.intro mi_257 (And.intro ⟨rfl, rfl, rfl, rfl⟩ (And.intro rfl ?_)))
                refine fcallp hB75 (ct_M_hour_9a688 (fBz h0 hB75)) ?_
                rintro _ ⟨z94, rfl, hz94⟩
                refine fstore rS_741_741_1211_3412_200_1 (fzs_sub (by decide +kernel) hW) (by omega) (by omega) ?_
                intro IhB95 ehB95 hB95
                have t96 := fup_self ehB95
                have t97 : IhB95 741 8 = IhB75 741 8 := (congrFun (congrFun ehB95 741) 8).trans (fup_ne (by first | exact Or.inl (by decide) | omega))
                have t98 : IhB95 741 14 = IhB75 741 14 := (congrFun (congrFun ehB95 741) 14).trans (fup_ne (by first | exact Or.inl (by decide) | omega))
                have t99 : IhB95 741 15 = IhB75 741 15 := (congrFun (congrFun ehB95 741) 15).trans (fup_ne (by first | exact Or.inl (by decide) | omega))
                have t100 : IhB95 741 16 = IhB75 741 16 := (congrFun (congrFun ehB95 741) 16).trans (fup_ne (by first | exact Or.inl (by decide) | omega))
                have k101 := fBz_eq hB95 (a := 741) (j := 9) (by decide +kernel)
                refine And.intro (True.intro) ?_
                exact ⟨_, rfl, by omega⟩
            · intro c102
              refine And.intro (True.intro) ?_
              exact ⟨_, rfl, by omega⟩
        · intro c103
          refine And.intro ⟨rfl, by decide, by decide⟩ ?_
          refine fload1 rL_741_741_15_15_1_0 h0 hB23 ⟨by decide, by decide⟩ (by first | exact ⟨by decide, by decide⟩ | omega) ?_
          intro z104 lz104 uz104 qz104
          have pz104 := fld_at qz104 15 (by omega)
          refine And.intro ⟨rfl, by decide, by decide⟩ ?_
          refine fload1 rL_741_741_16_16_1_0 h0 hB23 ⟨by decide, by decide⟩ (by first | exact ⟨by decide, by decide⟩ | omega) ?_
          intro z105 lz105 uz105 qz105
          have pz105 := fld_at qz105 16 (by omega)
          refine And.intro (And.intro (by first | exact fi_ lz104 uz104 rfl | omega) (by first | exact fi_ lz105 uz105 rfl | omega)) (And.intro ?_ ?_)
          · intro c106
            refine And.intro ⟨rfl, by decide, by decide⟩ ?_
            refine fload1 rL_741_741_14_14_1_0 h0 hB23 ⟨by decide, by decide⟩ (by first | exact ⟨by decide, by decide⟩ | omega) ?_
            intro z107 lz107 uz107 qz107
            have pz107 := fld_at qz107 14 (by omega)
            refine Exists.intro xm_255 (And.intro mi_255 (And.intro ⟨rfl, rfl, rfl, rfl⟩ (And.intro rfl ?_)))
            refine fcallp hB23 (ct_M_textAt_ea474 (fBz h0 hB23) (by omega)) ?_
            rintro _ ⟨_, rfl, rfl⟩
            refine And.intro ⟨rfl, by decide, by decide⟩ ?_
            refine fstore1 rS_741_741_14_14_1_0 (fzs_sub (by decide +kernel) hW) ⟨by decide, by decide⟩ (by first | exact ⟨by decide, by decide⟩ | omega) (by first | exact ⟨by decide, by decide⟩ | omega) ?_
            intro IhB109 ehB109 hB109
            have t110 := fup_self ehB109
            have t111 : IhB109 741 8 = IhB23 741 8 := (congrFun (congrFun ehB109 741) 8).trans (fup_ne (by first | decide | omega))
            have t112 := fup_at ehB109 14 (by first | rfl | omega)
            have t113 : IhB109 741 15 = IhB23 741 15 := (congrFun (congrFun ehB109 741) 15).trans (fup_ne (by first | decide | omega))
            have t114 : IhB109 741 16 = IhB23 741 16 := (congrFun (congrFun ehB109 741) 16).trans (fup_ne (by first | decide | omega))
            have k115 := fBz_eq hB109 (a := 741) (j := 9) (by decide +kernel)
            refine And.intro (by first | exact ⟨by decide, by decide⟩ | omega) (And.intro ?_ ?_)
            · intro c116
              refine And.intro ⟨rfl, by decide, by decide⟩ ?_
              refine And.intro ⟨rfl, by decide, by decide⟩ ?_
              refine fload rL_741_741_1211_3411_200_0 h0 hB109 (by omega) ?_
              intro z117 lz117 uz117 qz117
              refine And.intro (by first | exact fi_ lz117 uz117 rfl | omega) (And.intro ?_ ?_)
              · intro c118
                refine Exists.intro xm_257 (And.intro mi_257 (And.intro ⟨rfl, rfl, rfl, rfl⟩ (And.intro rfl ?_)))
                refine fcallp hB109 (ct_M_hour_9a688 (fBz h0 hB109)) ?_
                rintro _ ⟨z119, rfl, hz119⟩
                refine fstore rS_741_741_1211_3412_200_1 (fzs_sub (by decide +kernel) hW) (by omega) (by omega) ?_
                intro IhB120 ehB120 hB120
                have t121 := fup_self ehB120
                have t122 : IhB120 741 8 = IhB109 741 8 := (congrFun (congrFun ehB120 741) 8).trans (fup_ne (by first | exact Or.inl (by decide) | omega))
                have t123 : IhB120 741 14 = IhB109 741 14 := (congrFun (congrFun ehB120 741) 14).trans (fup_ne (by first | exact Or.inl (by decide) | omega))
                have t124 : IhB120 741 15 = IhB109 741 15 := (congrFun (congrFun ehB120 741) 15).trans (fup_ne (by first | exact Or.inl (by decide) | omega))
                have t125 : IhB120 741 16 = IhB109 741 16 := (congrFun (congrFun ehB120 741) 16).trans (fup_ne (by first | exact Or.inl (by decide) | omega))
                have k126 := fBz_eq hB120 (a := 741) (j := 9) (by decide +kernel)
                refine And.intro (True.intro) ?_
                exact ⟨_, rfl, by omega⟩
              · intro c127
                refine Exists.intro xm_257 (And.intro mi_257 (And.intro ⟨rfl, rfl, rfl, rfl⟩ (And.intro rfl ?_)))
                refine fcallp hB109 (ct_M_hour_9a688 (fBz h0 hB109)) ?_
                rintro _ ⟨z128, rfl, hz128⟩
                refine fstore rS_741_741_1211_3412_200_1 (fzs_sub (by decide +kernel) hW) (by omega) (by omega) ?_
                intro IhB129 ehB129 hB129
                have t130 := fup_self ehB129
                have t131 : IhB129 741 8 = IhB109 741 8 := (congrFun (congrFun ehB129 741) 8).trans (fup_ne (by first | exact Or.inl (by decide) | omega))
                have t132 : IhB129 741 14 = IhB109 741 14 := (congrFun (congrFun ehB129 741) 14).trans (fup_ne (by first | exact Or.inl (by decide) | omega))
                have t133 : IhB129 741 15 = IhB109 741 15 := (congrFun (congrFun ehB129 741) 15).trans (fup_ne (by first | exact Or.inl (by decide) | omega))
                have t134 : IhB129 741 16 = IhB109 741 16 := (congrFun (congrFun ehB129 741) 16).trans (fup_ne (by first | exact Or.inl (by decide) | omega))
                have k135 := fBz_eq hB129 (a := 741) (j := 9) (by decide +kernel)
                refine And.intro (True.intro) ?_
                exact ⟨_, rfl, by omega⟩
            · intro c136
              refine And.intro (True.intro) ?_
              exact ⟨_, rfl, by omega⟩
          · intro c137
            refine And.intro ⟨rfl, by decide, by decide⟩ ?_
            refine fload1 rL_741_741_14_14_1_0 h0 hB23 ⟨by decide, by decide⟩ (by first | exact ⟨by decide, by decide⟩ | omega) ?_
            intro z138 lz138 uz138 qz138
            have pz138 := fld_at qz138 14 (by omega)
            refine Exists.intro xm_255 (And.intro mi_255 (And.intro ⟨rfl, rfl, rfl, rfl⟩ (And.intro rfl ?_)))
            refine fcallp hB23 (ct_M_textAt_ea474 (fBz h0 hB23) (by omega)) ?_
            rintro _ ⟨_, rfl, rfl⟩
            refine And.intro ⟨rfl, by decide, by decide⟩ ?_
            refine fstore1 rS_741_741_14_14_1_0 (fzs_sub (by decide +kernel) hW) ⟨by decide, by decide⟩ (by first | exact ⟨by decide, by decide⟩ | omega) (by first | exact ⟨by decide, by decide⟩ | omega) ?_
            intro IhB140 ehB140 hB140
            have t141 := fup_self ehB140
            have t142 : IhB140 741 8 = IhB23 741 8 := (congrFun (congrFun ehB140 741) 8).trans (fup_ne (by first | decide | omega))
            have t143 := fup_at ehB140 14 (by first | rfl | omega)
            have t144 : IhB140 741 15 = IhB23 741 15 := (congrFun (congrFun ehB140 741) 15).trans (fup_ne (by first | decide | omega))
            have t145 : IhB140 741 16 = IhB23 741 16 := (congrFun (congrFun ehB140 741) 16).trans (fup_ne (by first | decide | omega))
            have k146 := fBz_eq hB140 (a := 741) (j := 9) (by decide +kernel)
            refine And.intro (by first | exact ⟨by decide, by decide⟩ | omega) (And.intro ?_ ?_)
            · intro c147
              refine And.intro ⟨rfl, by decide, by decide⟩ ?_
              refine And.intro ⟨rfl, by decide, by decide⟩ ?_
              refine fload rL_741_741_1211_3411_200_0 h0 hB140 (by omega) ?_
              intro z148 lz148 uz148 qz148
              refine And.intro (by first | exact fi_ lz148 uz148 rfl | omega) (And.intro ?_ ?_)
              · intro c149
                refine Exists.intro xm_257 (And.intro mi_257 (And.intro ⟨rfl, rfl, rfl, rfl⟩ (And.intro rfl ?_)))
                refine fcallp hB140 (ct_M_hour_9a688 (fBz h0 hB140)) ?_
                rintro _ ⟨z150, rfl, hz150⟩
                refine fstore rS_741_741_1211_3412_200_1 (fzs_sub (by decide +kernel) hW) (by omega) (by omega) ?_
                intro IhB151 ehB151 hB151
                have t152 := fup_self ehB151
                have t153 : IhB151 741 8 = IhB140 741 8 := (congrFun (congrFun ehB151 741) 8).trans (fup_ne (by first | exact Or.inl (by decide) | omega))
                have t154 : IhB151 741 14 = IhB140 741 14 := (congrFun (congrFun ehB151 741) 14).trans (fup_ne (by first | exact Or.inl (by decide) | omega))
                have t155 : IhB151 741 15 = IhB140 741 15 := (congrFun (congrFun ehB151 741) 15).trans (fup_ne (by first | exact Or.inl (by decide) | omega))
                have t156 : IhB151 741 16 = IhB140 741 16 := (congrFun (congrFun ehB151 741) 16).trans (fup_ne (by first | exact Or.inl (by decide) | omega))
                have k157 := fBz_eq hB151 (a := 741) (j := 9) (by decide +kernel)
                refine And.intro (True.intro) ?_
                exact ⟨_, rfl, by omega⟩
              · intro c158
                refine Exists.intro xm_257 (And.intro mi_257 (And.intro ⟨rfl, rfl, rfl, rfl⟩ (And.intro rfl ?_)))
                refine fcallp hB140 (ct_M_hour_9a688 (fBz h0 hB140)) ?_
                rintro _ ⟨z159, rfl, hz159⟩
                refine fstore rS_741_741_1211_3412_200_1 (fzs_sub (by decide +kernel) hW) (by omega) (by omega) ?_
                intro IhB160 ehB160 hB160
                have t161 := fup_self ehB160
                have t162 : IhB160 741 8 = IhB140 741 8 := (congrFun (congrFun ehB160 741) 8).trans (fup_ne (by first | exact Or.inl (by decide) | omega))
                have t163 : IhB160 741 14 = IhB140 741 14 := (congrFun (congrFun ehB160 741) 14).trans (fup_ne (by first | exact Or.inl (by decide) | omega))
                have t164 : IhB160 741 15 = IhB140 741 15 := (congrFun (congrFun ehB160 741) 15).trans (fup_ne (by first | exact Or.inl (by decide) | omega))
                have t165 : IhB160 741 16 = IhB140 741 16 := (congrFun (congrFun ehB160 741) 16).trans (fup_ne (by first | exact Or.inl (by decide) | omega))
                have k166 := fBz_eq hB160 (a := 741) (j := 9) (by decide +kernel)
                refine And.intro (True.intro) ?_
                exact ⟨_, rfl, by omega⟩
            · intro c167
              refine And.intro (True.intro) ?_
              exact ⟨_, rfl, by omega⟩
      · intro c168
        refine Exists.intro xm_248 (And.intro mi_248 (And.intro ⟨rfl, rfl, rfl, rfl⟩ (And.intro rfl ?_)))
        refine fcallp hB1 (ct_M_isDead_21e1a (fBz h0 hB1) (by first | exact ⟨hb.2.1.1, Int.le_trans (Int.le_sub_one_of_lt (Int.lt_of_lt_of_le c168 uz2)) (by decide)⟩ | omega)) ?_
        rintro _ ⟨z169, rfl, hz169⟩
        refine And.intro (by omega) (And.intro ?_ ?_)
        · intro c170
          intro z171 hz171 ez171 bz171
          clear ez171
          try replace bz171 := bz171 (by omega)
          exact fcutJ (I := I1) (j := jc_M_tally_f3255_17) (lv' := [(0, .inr (.inr (some 740))), (1, .inl _), (2, .inl _)]) (And.intro rfl (And.intro rfl (And.intro rfl True.intro))) ⟨_, _, rfl, rfl, by omega, rfl⟩ (by omega)
        · intro c172
          refine Exists.intro xm_428 (And.intro mi_428 (And.intro ⟨rfl, rfl, rfl, rfl⟩ (And.intro rfl ?_)))
          refine fcall _ h0 (fzs_sub (by decide +kernel) hW) hB1 (ct_M_mayVote_8be76 (fBz h0 hB1) (by first | exact ⟨hb.2.1.1, Int.le_trans (Int.le_sub_one_of_lt (Int.lt_of_lt_of_le c168 uz2)) (by decide)⟩ | omega) (sI_keep hp0 h0 hB1 (by decide +kernel))) ?_
          rintro IhB174 _ hB174 fhB174 ⟨z173, rfl, hz173⟩
          have t175 := fhB174 741 8 (by decide +kernel)
          have t176 := fhB174 741 14 (by decide +kernel)
          have k177 := fBz_eq hB174 (a := 741) (j := 9) (by decide +kernel)
          refine And.intro (by omega) (And.intro ?_ ?_)
          · intro c178
            intro z179 hz179 ez179 bz179
            clear ez179
            try replace bz179 := bz179 (by omega)
            exact fcutJ (I := IhB174) (j := jc_M_tally_f3255_17) (lv' := [(0, .inr (.inr (some 740))), (1, .inl _), (2, .inl _)]) (And.intro rfl (And.intro rfl (And.intro rfl True.intro))) ⟨_, _, rfl, rfl, by omega, rfl⟩ (by omega)
          · intro c180
            intro z181 hz181 ez181 bz181
            clear ez181
            try replace bz181 := bz181 (by omega)
            exact fcutJ (I := IhB174) (j := jc_M_tally_f3255_17) (lv' := [(0, .inr (.inr (some 740))), (1, .inl _), (2, .inl _)]) (And.intro rfl (And.intro rfl (And.intro rfl True.intro))) ⟨_, _, rfl, rfl, by omega, rfl⟩ (by omega)
  · have hB0 := fB_self (zn := znJ) (K := fKc wz_73731) h0
    refine And.intro ⟨rfl, by decide, by decide⟩ ?_
    refine fload1 rL_741_741_14_14_1_0 h0 hB0 ⟨by decide, by decide⟩ (by first | exact ⟨by decide, by decide⟩ | omega) ?_
    intro z182 lz182 uz182 qz182
    have pz182 := fld_at qz182 14 (by omega)
    refine And.intro (by first | exact fi_ lz182 uz182 rfl | omega) (And.intro ?_ ?_)
    · intro c183
      exact fcutJ (I := I) (j := jc_M_tally_f3255_17) (lv' := [(0, .inr (.inr (some 740))), (1, .inl _), (2, .inl _)]) (And.intro rfl (And.intro rfl (And.intro rfl True.intro))) ⟨_, _, rfl, rfl, by omega, rfl⟩ (by omega)
    · intro c184
      refine And.intro (True.intro) ?_
      exact ⟨_, rfl, by omega⟩
set_option maxRecDepth 8000 in
theorem ct_X_may_176e4 {I : fH} {x1 : Int} {x2 : Int} {x3 : Int} (h0 : fB bsJ I) (ha1 : ((-2147483648) ≤ x1 ∧ x1 ≤ 2147483647)) (ha2 : ((-2147483648) ≤ x2 ∧ x2 ≤ 2147483647)) (ha3 : ((-2147483648) ≤ x3 ∧ x3 ≤ 2147483647)) : fC ρ base n F xTc vwCl xTys D dA la gJ (fbz bsJ znJ (fKc wz_7d09b) I) xm_143 [.inr (.inr (some 0)), .inl x1, .inl x2, .inl x3] I (fun _ r => ∃ z, r = some (.inl z) ∧ ((0 ≤ z ∧ z ≤ 1) ∨ z = (-1000000001))) := by
  have hW : fzs wz_7d09b (fKc wz_7d09b) := fKc_ok _
  refine f_meth (rb := rbJ) (J := []) 1 400 xG xin_143 x6_143 okJ (fB_self h0) ?_ ?_
  · exact fun q h => absurd h List.not_mem_nil
  · have hB0 := fB_self (zn := znJ) (K := fKc wz_7d09b) h0
    refine And.intro (And.intro (by first | exact fi_ ha2.1 ha2.2 rfl | omega) (by first | exact ⟨by decide, by decide⟩ | omega)) (And.intro ?_ ?_)
    · intro c1
      refine Exists.intro xm_13 (And.intro mi_13 (And.intro ⟨rfl, rfl, rfl, rfl⟩ (And.intro True.intro ?_)))
      refine fcallp hB0 (ct_X_within_c27b1 (fBz h0 hB0) (by first | exact ⟨ha2.1, ha2.2⟩ | omega) (by first | exact ⟨by decide, by decide⟩ | omega) (by first | exact ⟨by decide, by decide⟩ | omega)) ?_
      rintro _ ⟨z2, rfl, hz2⟩
      refine And.intro (by omega) (And.intro ?_ ?_)
      · intro c3
        refine And.intro (True.intro) ?_
        exact ⟨_, rfl, by omega⟩
      · intro c4
        refine And.intro ⟨rfl, by decide, by decide⟩ ?_
        refine Exists.intro xm_27 (And.intro mi_27 (And.intro ⟨rfl, rfl, rfl, rfl⟩ (And.intro rfl ?_)))
        refine fcallp hB0 (ct_City_isPerson_ff059 (fBz h0 hB0) (by first | exact ⟨ha1.1, ha1.2⟩ | omega)) ?_
        rintro _ ⟨z5, rfl, hz5⟩
        refine And.intro (by omega) (And.intro ?_ ?_)
        · intro c6
          refine And.intro (True.intro) ?_
          exact ⟨_, rfl, by omega⟩
        · intro c7
          refine And.intro ⟨rfl, by decide, by decide⟩ ?_
          refine And.intro ⟨rfl, by decide, by decide⟩ ?_
          refine Exists.intro xm_21 (And.intro mi_21 (And.intro ⟨rfl, rfl, rfl, rfl⟩ (And.intro rfl ?_)))
          refine fcallp hB0 (ct_People_isDead_edb17 (fBz h0 hB0) (by omega)) ?_
          rintro _ ⟨z8, rfl, hz8⟩
          refine And.intro (by omega) (And.intro ?_ ?_)
          · intro c9
            refine And.intro (And.intro (by first | exact fi_ (Int.le_trans (Int.le_refl _) hz2.1) (Int.le_trans hz2.2 (Int.le_refl _)) rfl | omega) (by first | exact ⟨by decide, by decide⟩ | omega)) (And.intro ?_ ?_)
            · intro c10
              refine And.intro ⟨rfl, by decide, by decide⟩ ?_
              refine Exists.intro xm_26 (And.intro mi_26 (And.intro ⟨rfl, rfl, rfl, rfl⟩ (And.intro rfl ?_)))
              refine fcallp hB0 (ct_City_isLock_bc0fd (fBz h0 hB0) (by first | exact ⟨ha3.1, ha3.2⟩ | omega)) ?_
              rintro _ ⟨z11, rfl, hz11⟩
              refine And.intro (by omega) (And.intro ?_ ?_)
              · intro c12
                refine And.intro ⟨rfl, by decide, by decide⟩ ?_
                refine And.intro ⟨rfl, by decide, by decide⟩ ?_
                refine Exists.intro xm_28 (And.intro mi_28 (And.intro ⟨rfl, rfl, rfl, rfl⟩ (And.intro rfl ?_)))
                refine fcall _ h0 (fzs_sub (by decide +kernel) hW) hB0 (ct_Charter_mayOpen_c7558 (fBz h0 hB0) (by omega) (by omega)) ?_
                rintro IhB14 _ hB14 fhB14 ⟨z13, rfl, hz13⟩
                refine And.intro (by omega) (And.intro ?_ ?_)
                · intro c15
                  refine And.intro (True.intro) ?_
                  exact ⟨_, rfl, by omega⟩
                · intro c16
                  refine And.intro (True.intro) ?_
                  exact ⟨_, rfl, by omega⟩
              · intro c17
                refine And.intro (True.intro) ?_
                exact ⟨_, rfl, by omega⟩
            · intro c18
              refine And.intro ⟨rfl, by decide, by decide⟩ ?_
              refine And.intro ⟨rfl, by decide, by decide⟩ ?_
              refine Exists.intro xm_137 (And.intro mi_137 (And.intro ⟨rfl, rfl, rfl, rfl⟩ (And.intro rfl ?_)))
              refine fcall _ h0 (fzs_sub (by decide +kernel) hW) hB0 (ct_Charter_mayVote_6ee33 (fBz h0 hB0) (by omega)) ?_
              rintro IhB20 _ hB20 fhB20 ⟨z19, rfl, hz19⟩
              refine And.intro (by omega) (And.intro ?_ ?_)
              · intro c21
                refine And.intro (True.intro) ?_
                exact ⟨_, rfl, by omega⟩
              · intro c22
                refine And.intro (True.intro) ?_
                exact ⟨_, rfl, by omega⟩
          · intro c23
            refine And.intro (True.intro) ?_
            exact ⟨_, rfl, by omega⟩
    · intro c24
      refine And.intro ⟨rfl, by decide, by decide⟩ ?_
      refine And.intro ⟨rfl, by decide, by decide⟩ ?_
      refine Exists.intro xm_104 (And.intro mi_104 (And.intro ⟨rfl, rfl, rfl, rfl⟩ (And.intro rfl ?_)))
      refine fcall _ h0 (fzs_sub (by decide +kernel) hW) hB0 (ct_Charter_mayBeBorn_dcbbd (fBz h0 hB0)) ?_
      rintro IhB26 _ hB26 fhB26 ⟨z25, rfl, hz25⟩
      refine And.intro (by omega) (And.intro ?_ ?_)
      · intro c27
        refine And.intro (True.intro) ?_
        exact ⟨_, rfl, by omega⟩
      · intro c28
        refine And.intro (True.intro) ?_
        exact ⟨_, rfl, by omega⟩
set_option maxRecDepth 8000 in
theorem ct_M_may_cbf6c {I : fH} {x1 : Int} {x2 : Int} {x3 : Int} (h0 : fB bsJ I) (ha1 : ((-2147483648) ≤ x1 ∧ x1 ≤ 2147483647)) (ha2 : ((-2147483648) ≤ x2 ∧ x2 ≤ 2147483647)) (ha3 : ((-2147483648) ≤ x3 ∧ x3 ≤ 2147483647)) (hp0 : sI I 741) : fC ρ base n F xTc vwCl xTys D dA la gJ (fbz bsJ znJ (fKc wz_5ef89) I) xm_430 [.inr (.inr (some 740)), .inl x1, .inl x2, .inl x3] I (fun _ r => ∃ z, r = some (.inl z) ∧ ((0 ≤ z ∧ z ≤ 1) ∨ z = (-1000000001))) := by
  have hW : fzs wz_5ef89 (fKc wz_5ef89) := fKc_ok _
  refine f_meth (rb := rbJ) (J := []) 1 400 xG xin_430 x6_430 okJ (fB_self h0) ?_ ?_
  · exact fun q h => absurd h List.not_mem_nil
  · have hB0 := fB_self (zn := znJ) (K := fKc wz_5ef89) h0
    refine And.intro (by first | exact fi_ ha2.1 ha2.2 rfl | omega) ?_
    refine Exists.intro xm_238 (And.intro mi_238 (And.intro ⟨rfl, rfl, rfl, rfl⟩ (And.intro True.intro ?_)))
    refine fcallp hB0 (ct_M_isIn_27230 (fBz h0 hB0) (by first | exact ⟨ha2.1, ha2.2⟩ | omega) (by first | exact ⟨by decide, by decide⟩ | omega) (by first | exact ⟨by decide, by decide⟩ | omega)) ?_
    rintro _ ⟨z1, rfl, hz1⟩
    refine And.intro (by omega) (And.intro ?_ ?_)
    · intro c2
      refine And.intro (True.intro) ?_
      exact ⟨_, rfl, by omega⟩
    · intro c3
      refine And.intro (And.intro (by first | exact fi_ (Int.le_trans (Int.le_refl _) hz1.1) (Int.le_trans hz1.2 (Int.le_refl _)) rfl | omega) (by first | exact ⟨by decide, by decide⟩ | omega)) (And.intro ?_ ?_)
      · intro c4
        refine And.intro (by first | exact fi_ (Int.le_trans (Int.le_refl _) c4) (Int.le_trans hz1.2 (Int.le_refl _)) rfl | omega) (And.intro ?_ ?_)
        · intro c5
          refine And.intro (by first | exact fi_ (Int.le_trans (Int.le_refl _) c4) (Int.le_trans hz1.2 (Int.le_refl _)) rfl | omega) (And.intro ?_ ?_)
          · intro c6
            refine And.intro (And.intro (by first | exact fi_ (Int.le_trans (Int.le_refl _) c4) (Int.le_trans hz1.2 (Int.le_refl _)) rfl | omega) (by first | exact ⟨by decide, by decide⟩ | omega)) (And.intro ?_ ?_)
            · intro c7
              refine Exists.intro xm_309 (And.intro mi_309 (And.intro ⟨rfl, rfl, rfl, rfl⟩ (And.intro rfl ?_)))
              refine fcall _ h0 (fzs_sub (by decide +kernel) hW) hB0 (ct_M_mayBirth_669a5 (fBz h0 hB0) (sI_keep hp0 h0 hB0 (by decide +kernel))) ?_
              rintro IhB9 _ hB9 fhB9 ⟨z8, rfl, hz8⟩
              refine And.intro (by omega) (And.intro ?_ ?_)
              · intro c10
                refine And.intro (True.intro) ?_
                exact ⟨_, rfl, by omega⟩
              · intro c11
                refine And.intro (True.intro) ?_
                exact ⟨_, rfl, by omega⟩
            · intro c12
              refine Exists.intro xm_428 (And.intro mi_428 (And.intro ⟨rfl, rfl, rfl, rfl⟩ (And.intro rfl ?_)))
              refine fcall _ h0 (fzs_sub (by decide +kernel) hW) hB0 (ct_M_mayVote_8be76 (fBz h0 hB0) (by omega) (sI_keep hp0 h0 hB0 (by decide +kernel))) ?_
              rintro IhB14 _ hB14 fhB14 ⟨z13, rfl, hz13⟩
              refine And.intro (by omega) (And.intro ?_ ?_)
              · intro c15
                refine And.intro (True.intro) ?_
                exact ⟨_, rfl, by omega⟩
              · intro c16
                refine And.intro (True.intro) ?_
                exact ⟨_, rfl, by omega⟩
          · intro c17
            refine Exists.intro xm_253 (And.intro mi_253 (And.intro ⟨rfl, rfl, rfl, rfl⟩ (And.intro rfl ?_)))
            refine fcall _ h0 (fzs_sub (by decide +kernel) hW) hB0 (ct_M_mayOpen_42d58 (fBz h0 hB0) (by omega) (by omega) (sI_keep hp0 h0 hB0 (by decide +kernel))) ?_
            rintro IhB19 _ hB19 fhB19 ⟨z18, rfl, hz18⟩
            refine And.intro (by omega) (And.intro ?_ ?_)
            · intro c20
              refine And.intro (True.intro) ?_
              exact ⟨_, rfl, by omega⟩
            · intro c21
              refine And.intro (True.intro) ?_
              exact ⟨_, rfl, by omega⟩
        · intro c22
          refine Exists.intro xm_251 (And.intro mi_251 (And.intro ⟨rfl, rfl, rfl, rfl⟩ (And.intro rfl ?_)))
          refine fcallp hB0 (ct_M_isLock_5e2b8 (fBz h0 hB0) (by first | exact ⟨ha3.1, ha3.2⟩ | omega)) ?_
          rintro _ ⟨z23, rfl, hz23⟩
          refine And.intro (by omega) (And.intro ?_ ?_)
          · intro c24
            refine And.intro (by first | exact fi_ (Int.le_trans (Int.le_refl _) c4) (Int.le_trans (Int.le_of_eq c22) (Int.le_refl _)) rfl | omega) (And.intro ?_ ?_)
            · intro c25
              refine And.intro (And.intro (by first | exact fi_ (Int.le_trans (Int.le_refl _) c4) (Int.le_trans (Int.le_of_eq c22) (Int.le_refl _)) rfl | omega) (by first | exact ⟨by decide, by decide⟩ | omega)) (And.intro ?_ ?_)
              · intro c26
                refine Exists.intro xm_309 (And.intro mi_309 (And.intro ⟨rfl, rfl, rfl, rfl⟩ (And.intro rfl ?_)))
                refine fcall _ h0 (fzs_sub (by decide +kernel) hW) hB0 (ct_M_mayBirth_669a5 (fBz h0 hB0) (sI_keep hp0 h0 hB0 (by decide +kernel))) ?_
                rintro IhB28 _ hB28 fhB28 ⟨z27, rfl, hz27⟩
                refine And.intro (by omega) (And.intro ?_ ?_)
                · intro c29
                  refine And.intro (True.intro) ?_
                  exact ⟨_, rfl, by omega⟩
                · intro c30
                  refine And.intro (True.intro) ?_
                  exact ⟨_, rfl, by omega⟩
              · intro c31
                refine Exists.intro xm_428 (And.intro mi_428 (And.intro ⟨rfl, rfl, rfl, rfl⟩ (And.intro rfl ?_)))
                refine fcall _ h0 (fzs_sub (by decide +kernel) hW) hB0 (ct_M_mayVote_8be76 (fBz h0 hB0) (by omega) (sI_keep hp0 h0 hB0 (by decide +kernel))) ?_
                rintro IhB33 _ hB33 fhB33 ⟨z32, rfl, hz32⟩
                refine And.intro (by omega) (And.intro ?_ ?_)
                · intro c34
                  refine And.intro (True.intro) ?_
                  exact ⟨_, rfl, by omega⟩
                · intro c35
                  refine And.intro (True.intro) ?_
                  exact ⟨_, rfl, by omega⟩
            · intro c36
              refine Exists.intro xm_253 (And.intro mi_253 (And.intro ⟨rfl, rfl, rfl, rfl⟩ (And.intro rfl ?_)))
              refine fcall _ h0 (fzs_sub (by decide +kernel) hW) hB0 (ct_M_mayOpen_42d58 (fBz h0 hB0) (by omega) (by omega) (sI_keep hp0 h0 hB0 (by decide +kernel))) ?_
              rintro IhB38 _ hB38 fhB38 ⟨z37, rfl, hz37⟩
              refine And.intro (by omega) (And.intro ?_ ?_)
              · intro c39
                refine And.intro (True.intro) ?_
                exact ⟨_, rfl, by omega⟩
              · intro c40
                refine And.intro (True.intro) ?_
                exact ⟨_, rfl, by omega⟩
          · intro c41
            refine And.intro (True.intro) ?_
            exact ⟨_, rfl, by omega⟩
      · intro c42
        refine Exists.intro xm_252 (And.intro mi_252 (And.intro ⟨rfl, rfl, rfl, rfl⟩ (And.intro rfl ?_)))
        refine fcallp hB0 (ct_M_isPerson_4d30c (fBz h0 hB0) (by first | exact ⟨ha1.1, ha1.2⟩ | omega)) ?_
        rintro _ ⟨z43, rfl, hz43⟩
        refine And.intro (by omega) (And.intro ?_ ?_)
        · intro c44
          refine And.intro (True.intro) ?_
          exact ⟨_, rfl, by omega⟩
        · intro c45
          refine Exists.intro xm_248 (And.intro mi_248 (And.intro ⟨rfl, rfl, rfl, rfl⟩ (And.intro rfl ?_)))
          refine fcallp hB0 (ct_M_isDead_21e1a (fBz h0 hB0) (by omega)) ?_
          rintro _ ⟨z46, rfl, hz46⟩
          refine And.intro (by omega) (And.intro ?_ ?_)
          · intro c47
            refine And.intro (True.intro) ?_
            exact ⟨_, rfl, by omega⟩
          · intro c48
            refine And.intro (by first | exact fi_ (Int.le_trans (Int.le_refl _) hz1.1) (Int.le_sub_one_of_lt (Int.lt_of_lt_of_le c42 (Int.le_refl _))) rfl | omega) (And.intro ?_ ?_)
            · intro c49
              refine And.intro (by first | exact fi_ (Int.le_trans (Int.le_refl _) hz1.1) (Int.le_sub_one_of_lt (Int.lt_of_lt_of_le c42 (Int.le_refl _))) rfl | omega) (And.intro ?_ ?_)
              · intro c50
                refine And.intro (And.intro (by first | exact fi_ (Int.le_trans (Int.le_refl _) hz1.1) (Int.le_sub_one_of_lt (Int.lt_of_lt_of_le c42 (Int.le_refl _))) rfl | omega) (by first | exact ⟨by decide, by decide⟩ | omega)) (And.intro ?_ ?_)
                · intro c51
                  refine Exists.intro xm_309 (And.intro mi_309 (And.intro ⟨rfl, rfl, rfl, rfl⟩ (And.intro rfl ?_)))
                  refine fcall _ h0 (fzs_sub (by decide +kernel) hW) hB0 (ct_M_mayBirth_669a5 (fBz h0 hB0) (sI_keep hp0 h0 hB0 (by decide +kernel))) ?_
                  rintro IhB53 _ hB53 fhB53 ⟨z52, rfl, hz52⟩
                  refine And.intro (by omega) (And.intro ?_ ?_)
                  · intro c54
                    refine And.intro (True.intro) ?_
                    exact ⟨_, rfl, by omega⟩
                  · intro c55
                    refine And.intro (True.intro) ?_
                    exact ⟨_, rfl, by omega⟩
                · intro c56
                  refine Exists.intro xm_428 (And.intro mi_428 (And.intro ⟨rfl, rfl, rfl, rfl⟩ (And.intro rfl ?_)))
                  refine fcall _ h0 (fzs_sub (by decide +kernel) hW) hB0 (ct_M_mayVote_8be76 (fBz h0 hB0) (by omega) (sI_keep hp0 h0 hB0 (by decide +kernel))) ?_
                  rintro IhB58 _ hB58 fhB58 ⟨z57, rfl, hz57⟩
                  refine And.intro (by omega) (And.intro ?_ ?_)
                  · intro c59
                    refine And.intro (True.intro) ?_
                    exact ⟨_, rfl, by omega⟩
                  · intro c60
                    refine And.intro (True.intro) ?_
                    exact ⟨_, rfl, by omega⟩
              · intro c61
                refine Exists.intro xm_253 (And.intro mi_253 (And.intro ⟨rfl, rfl, rfl, rfl⟩ (And.intro rfl ?_)))
                refine fcall _ h0 (fzs_sub (by decide +kernel) hW) hB0 (ct_M_mayOpen_42d58 (fBz h0 hB0) (by omega) (by omega) (sI_keep hp0 h0 hB0 (by decide +kernel))) ?_
                rintro IhB63 _ hB63 fhB63 ⟨z62, rfl, hz62⟩
                refine And.intro (by omega) (And.intro ?_ ?_)
                · intro c64
                  refine And.intro (True.intro) ?_
                  exact ⟨_, rfl, by omega⟩
                · intro c65
                  refine And.intro (True.intro) ?_
                  exact ⟨_, rfl, by omega⟩
            · intro c66
              refine Exists.intro xm_251 (And.intro mi_251 (And.intro ⟨rfl, rfl, rfl, rfl⟩ (And.intro rfl ?_)))
              refine fcallp hB0 (ct_M_isLock_5e2b8 (fBz h0 hB0) (by first | exact ⟨ha3.1, ha3.2⟩ | omega)) ?_
              rintro _ ⟨z67, rfl, hz67⟩
              refine And.intro (by omega) (And.intro ?_ ?_)
              · intro c68
                refine And.intro (by first | exact fi_ (Int.le_trans (Int.le_refl _) hz1.1) (Int.le_trans (Int.le_of_eq c66) (Int.le_refl _)) rfl | omega) (And.intro ?_ ?_)
                · intro c69
                  refine And.intro (And.intro (by first | exact fi_ (Int.le_trans (Int.le_refl _) hz1.1) (Int.le_trans (Int.le_of_eq c66) (Int.le_refl _)) rfl | omega) (by first | exact ⟨by decide, by decide⟩ | omega)) (And.intro ?_ ?_)
                  · intro c70
                    refine Exists.intro xm_309 (And.intro mi_309 (And.intro ⟨rfl, rfl, rfl, rfl⟩ (And.intro rfl ?_)))
                    refine fcall _ h0 (fzs_sub (by decide +kernel) hW) hB0 (ct_M_mayBirth_669a5 (fBz h0 hB0) (sI_keep hp0 h0 hB0 (by decide +kernel))) ?_
                    rintro IhB72 _ hB72 fhB72 ⟨z71, rfl, hz71⟩
                    refine And.intro (by omega) (And.intro ?_ ?_)
                    · intro c73
                      refine And.intro (True.intro) ?_
                      exact ⟨_, rfl, by omega⟩
                    · intro c74
                      refine And.intro (True.intro) ?_
                      exact ⟨_, rfl, by omega⟩
                  · intro c75
                    refine Exists.intro xm_428 (And.intro mi_428 (And.intro ⟨rfl, rfl, rfl, rfl⟩ (And.intro rfl ?_)))
                    refine fcall _ h0 (fzs_sub (by decide +kernel) hW) hB0 (ct_M_mayVote_8be76 (fBz h0 hB0) (by omega) (sI_keep hp0 h0 hB0 (by decide +kernel))) ?_
                    rintro IhB77 _ hB77 fhB77 ⟨z76, rfl, hz76⟩
                    refine And.intro (by omega) (And.intro ?_ ?_)
                    · intro c78
                      refine And.intro (True.intro) ?_
                      exact ⟨_, rfl, by omega⟩
                    · intro c79
                      refine And.intro (True.intro) ?_
                      exact ⟨_, rfl, by omega⟩
                · intro c80
                  refine Exists.intro xm_253 (And.intro mi_253 (And.intro ⟨rfl, rfl, rfl, rfl⟩ (And.intro rfl ?_)))
                  refine fcall _ h0 (fzs_sub (by decide +kernel) hW) hB0 (ct_M_mayOpen_42d58 (fBz h0 hB0) (by omega) (by omega) (sI_keep hp0 h0 hB0 (by decide +kernel))) ?_
                  rintro IhB82 _ hB82 fhB82 ⟨z81, rfl, hz81⟩
                  refine And.intro (by omega) (And.intro ?_ ?_)
                  · intro c83
                    refine And.intro (True.intro) ?_
                    exact ⟨_, rfl, by omega⟩
                  · intro c84
                    refine And.intro (True.intro) ?_
                    exact ⟨_, rfl, by omega⟩
              · intro c85
                refine And.intro (True.intro) ?_
                exact ⟨_, rfl, by omega⟩
set_option maxRecDepth 8000 in
theorem ct_X_why_3ef58 {I : fH} {x1 : Int} (h0 : fB bsJ I) (ha1 : ((-2147483648) ≤ x1 ∧ x1 ≤ 2147483647)) : fC ρ base n F xTc vwCl xTys D dA la gJ (fbz bsJ znJ (fKc []) I) xm_144 [.inr (.inr (some 0)), .inl x1] I (fun _ r => ∃ z, r = some (.inl z) ∧ ((0 ≤ z ∧ z ≤ 11) ∨ z = (-1000000005) ∨ z = (-1000000001))) := by
  have hW : fzs [] (fKc []) := fKc_ok _
  refine f_meth (rb := rbJ) (J := []) 1 400 xG xin_144 x6_144 okJ (fB_self h0) ?_ ?_
  · exact fun q h => absurd h List.not_mem_nil
  · have hB0 := fB_self (zn := znJ) (K := fKc []) h0
    refine Exists.intro xm_13 (And.intro mi_13 (And.intro ⟨rfl, rfl, rfl, rfl⟩ (And.intro True.intro ?_)))
    refine fcallp hB0 (ct_X_within_c27b1 (fBz h0 hB0) (by first | exact ⟨ha1.1, ha1.2⟩ | omega) (by first | exact ⟨by decide, by decide⟩ | omega) (by first | exact ⟨by decide, by decide⟩ | omega)) ?_
    rintro _ ⟨z1, rfl, hz1⟩
    refine And.intro (by omega) (And.intro ?_ ?_)
    · intro c2
      refine And.intro (True.intro) ?_
      exact ⟨_, rfl, by omega⟩
    · intro c3
      refine And.intro ⟨rfl, by decide, by decide⟩ ?_
      refine And.intro ⟨rfl, by decide, by decide⟩ ?_
      refine Exists.intro xm_32 (And.intro mi_32 (And.intro ⟨rfl, rfl, rfl, rfl⟩ (And.intro rfl ?_)))
      refine fcallp hB0 (ct_City_hour_b7a7b (fBz h0 hB0)) ?_
      rintro _ ⟨z4, rfl, hz4⟩
      refine Exists.intro xm_34 (And.intro mi_34 (And.intro ⟨rfl, rfl, rfl, rfl⟩ (And.intro rfl ?_)))
      refine fcallp hB0 (ct_Charter_counting_8f92c (fBz h0 hB0) (by first | exact ⟨Int.le_trans (by decide) (Int.le_trans (Int.le_refl _) hz1.1), Int.le_trans (Int.le_trans hz1.2 (Int.le_refl _)) (by decide)⟩ | omega) (by first | exact ⟨hz4.1, hz4.2⟩ | omega)) ?_
      rintro _ ⟨z5, rfl, hz5⟩
      refine And.intro (True.intro) ?_
      exact ⟨_, rfl, by omega⟩
set_option maxRecDepth 8000 in
theorem ct_M_why_c5dd8 {I : fH} {x1 : Int} (h0 : fB bsJ I) (ha1 : ((-2147483648) ≤ x1 ∧ x1 ≤ 2147483647)) : fC ρ base n F xTc vwCl xTys D dA la gJ (fbz bsJ znJ (fKc []) I) xm_431 [.inr (.inr (some 740)), .inl x1] I (fun _ r => ∃ z, r = some (.inl z) ∧ ((0 ≤ z ∧ z ≤ 2147483647) ∨ z = (-1000000005) ∨ z = (-1000000001))) := by
  have hW : fzs [] (fKc []) := fKc_ok _
  refine f_meth (rb := rbJ) (J := []) 1 400 xG xin_431 x6_431 okJ (fB_self h0) ?_ ?_
  · exact fun q h => absurd h List.not_mem_nil
  · have hB0 := fB_self (zn := znJ) (K := fKc []) h0
    refine And.intro (by first | exact fi_ ha1.1 ha1.2 rfl | omega) ?_
    refine Exists.intro xm_238 (And.intro mi_238 (And.intro ⟨rfl, rfl, rfl, rfl⟩ (And.intro True.intro ?_)))
    refine fcallp hB0 (ct_M_isIn_27230 (fBz h0 hB0) (by first | exact ⟨ha1.1, ha1.2⟩ | omega) (by first | exact ⟨by decide, by decide⟩ | omega) (by first | exact ⟨by decide, by decide⟩ | omega)) ?_
    rintro _ ⟨z1, rfl, hz1⟩
    refine And.intro (by omega) (And.intro ?_ ?_)
    · intro c2
      refine And.intro (True.intro) ?_
      exact ⟨_, rfl, by omega⟩
    · intro c3
      refine Exists.intro xm_254 (And.intro mi_254 (And.intro ⟨rfl, rfl, rfl, rfl⟩ (And.intro rfl ?_)))
      refine fcallp hB0 (ct_M_counts_1278f (fBz h0 hB0) (by first | exact ⟨Int.le_trans (by decide) (Int.le_trans (Int.le_refl _) hz1.1), Int.le_trans (Int.le_trans hz1.2 (Int.le_refl _)) (by decide)⟩ | omega)) ?_
      rintro _ ⟨z4, rfl, hz4⟩
      refine Exists.intro xm_269 (And.intro mi_269 (And.intro ⟨rfl, rfl, rfl, rfl⟩ (And.intro True.intro ?_)))
      refine fcallp hB0 (ct_M_orNone_a2a87 (fBz h0 hB0) (by first | exact ⟨Int.le_trans (by decide) hz4.1.1, Int.le_trans hz4.1.2 (by decide)⟩ | omega)) ?_
      rintro _ ⟨z5, rfl, hz5⟩
      refine And.intro (True.intro) ?_
      exact ⟨_, rfl, by omega⟩
set_option maxRecDepth 8000 in
theorem ct_Charter_partOf_b35bf {I : fH} {x2 : Int} (h0 : fB bsJ I) (ha2 : (0 ≤ x2 ∧ x2 ≤ 23)) : fC ρ base n F xTc vwCl xTys D dA la gJ (fbz bsJ znJ (fKc wz_7d09b) I) xm_147 [.inr (.inr (some 187)), .inr (.inr (some 1)), .inl x2] I (fun _ r => ∃ z, r = some (.inl z) ∧ (0 ≤ z ∧ z ≤ 9999)) := by
  have hW : fzs wz_7d09b (fKc wz_7d09b) := fKc_ok _
  refine f_meth (rb := rbJ) (J := []) 1 400 xG xin_147 x6_147 okJ (fB_self h0) ?_ ?_
  · exact fun q h => absurd h List.not_mem_nil
  · have hB0 := fB_self (zn := znJ) (K := fKc wz_7d09b) h0
    refine And.intro ⟨rfl, by decide, by decide⟩ ?_
    refine Exists.intro xm_21 (And.intro mi_21 (And.intro ⟨rfl, rfl, rfl, rfl⟩ (And.intro rfl ?_)))
    refine fcallp hB0 (ct_People_isDead_edb17 (fBz h0 hB0) (by first | exact ⟨ha2.1, ha2.2⟩ | omega)) ?_
    rintro _ ⟨z1, rfl, hz1⟩
    refine And.intro (by omega) (And.intro ?_ ?_)
    · intro c2
      refine Exists.intro xm_32 (And.intro mi_32 (And.intro ⟨rfl, rfl, rfl, rfl⟩ (And.intro rfl ?_)))
      refine fcallp hB0 (ct_City_hour_b7a7b (fBz h0 hB0)) ?_
      rintro _ ⟨z3, rfl, hz3⟩
      refine Exists.intro xm_34 (And.intro mi_34 (And.intro ⟨rfl, rfl, rfl, rfl⟩ (And.intro rfl ?_)))
      refine fcallp hB0 (ct_Charter_counting_8f92c (fBz h0 hB0) (by first | exact ⟨by decide, by decide⟩ | omega) (by first | exact ⟨hz3.1, hz3.2⟩ | omega)) ?_
      rintro _ ⟨z4, rfl, hz4⟩
      refine And.intro (by omega) (And.intro ?_ ?_)
      · intro c5
        refine Exists.intro xm_29 (And.intro mi_29 (And.intro ⟨rfl, rfl, rfl, rfl⟩ (And.intro rfl ?_)))
        refine fcall _ h0 (fzs_sub (by decide +kernel) hW) hB0 (ct_Charter_putOne_99949 (fBz h0 hB0) (by first | exact ⟨ha2.1, ha2.2⟩ | omega)) ?_
        rintro IhB7 _ hB7 fhB7 rfl
        refine Exists.intro xm_36 (And.intro mi_36 (And.intro ⟨rfl, rfl, rfl, rfl⟩ (And.intro rfl ?_)))
        refine fcall _ h0 (fzs_sub (by decide +kernel) hW) hB7 (ct_Charter_worth_04d20 (fBz h0 hB7) (by omega)) ?_
        rintro IhB9 _ hB9 fhB9 ⟨z8, rfl, hz8⟩
        refine And.intro (And.intro (by first | exact ⟨by decide, by decide⟩ | omega) (And.intro (by first | exact fi_ hz8.1 hz8.2 rfl | omega) rfl)) ?_
        intro z10 hz10
        refine And.intro (And.intro (by first | exact ⟨by decide, by decide⟩ | omega) (And.intro (by omega) rfl)) ?_
        intro z11 hz11
        refine And.intro (True.intro) ?_
        exact ⟨_, rfl, by omega⟩
      · intro c12
        refine And.intro (True.intro) ?_
        exact ⟨_, rfl, (by first | exact ⟨by decide, by decide⟩ | omega)⟩
    · intro c13
      refine And.intro (True.intro) ?_
      exact ⟨_, rfl, (by first | exact ⟨by decide, by decide⟩ | omega)⟩
abbrev jc_Charter_shareOf_a5f6d_6 : Nat → fL → List fV → fH → Prop := fun m lv st I => ∃ (y2 : Int) (y3 : Int) (y4 : Int) (y6 : Int), lv = [(0, .inr (.inr (some 187))), (1, .inr (.inr (some 1))), (2, .inl y2), (3, .inl y3), (4, .inr (.inl y4)), (6, .inl y6)] ∧ st = [] ∧ (((0 ≤ y2 ∧ y2 ≤ 23) ∧ (0 ≤ y3 ∧ y3 ≤ 999999) ∧ (0 ≤ y4 ∧ y4 ≤ 240000) ∧ (0 ≤ y6 ∧ y6 ≤ 24) ∧ (y4 ≤ 9999 * y6))) ∧ m = (26 + 1 * (24 - y6) : Int).toNat
abbrev jc_Charter_shareOf_a5f6d_70 : Nat → fL → List fV → fH → Prop := fun m lv st I => ∃ (y2 : Int) (y3 : Int) (y4 : Int) (y6 : Int) (y8 : Int) (y9 : Int), lv = [(0, .inr (.inr (some 187))), (1, .inr (.inr (some 1))), (2, .inl y2), (3, .inl y3), (4, .inr (.inl y4)), (6, .inr (.inl y6)), (8, .inl y8), (9, .inl y9)] ∧ st = [] ∧ (((0 ≤ y2 ∧ y2 ≤ 23) ∧ (0 ≤ y3 ∧ y3 ≤ 999999) ∧ (1 ≤ y4 ∧ y4 ≤ 240000) ∧ ((-9223372036854775808) ≤ y6 ∧ y6 ≤ 9223372036854775807) ∧ ((-2147483648) ≤ y8 ∧ y8 ≤ 2147483647) ∧ (0 ≤ y9 ∧ y9 ≤ 24))) ∧ m = (1 + 1 * (24 - y9) : Int).toNat
set_option maxRecDepth 8000 in
theorem ct_Charter_shareOf_a5f6d {I : fH} {x2 : Int} {x3 : Int} (h0 : fB bsJ I) (ha2 : (0 ≤ x2 ∧ x2 ≤ 23)) (ha3 : (0 ≤ x3 ∧ x3 ≤ 999999)) : fC ρ base n F xTc vwCl xTys D dA la gJ (fbz bsJ znJ (fKc wz_8a11b) I) xm_146 [.inr (.inr (some 187)), .inr (.inr (some 1)), .inl x2, .inl x3] I (fun _ r => ∃ z, r = some (.inl z) ∧ ((-2147483648) ≤ z ∧ z ≤ 2147483647)) := by
  have hW : fzs wz_8a11b (fKc wz_8a11b) := fKc_ok _
  refine f_meth (rb := rbJ) (J := [(6, jc_Charter_shareOf_a5f6d_6), (70, jc_Charter_shareOf_a5f6d_70)]) 51 400 xG xin_146 x6_146 okJ (fB_self h0) ?_ ?_
  · refine List.forall_mem_cons.mpr ⟨?_, List.forall_mem_cons.mpr ⟨?_, fun q h => absurd h List.not_mem_nil⟩⟩
    · rintro m _ _ I1 hB1 ⟨y2, y3, y4, y6, rfl, rfl, hb, hm⟩
      refine And.intro ⟨rfl, by decide, by decide⟩ ?_
      refine And.intro ⟨rfl, by decide, by decide⟩ (fgetf fb_177_4 h0 hB1 ?_)
      intro z1 lz1 uz1 qz1
      refine And.intro (And.intro (by first | exact fi_ hb.2.2.2.1.1 hb.2.2.2.1.2 rfl | omega) (by first | exact fi_ lz1 uz1 rfl | omega)) (And.intro ?_ ?_)
      · intro c2
        refine And.intro (And.intro (by first | exact fl_ hb.2.2.1.1 hb.2.2.1.2 rfl | omega) (by first | exact ⟨by decide, by decide⟩ | omega)) ?_
        intro z3 hz3
        refine And.intro (by omega) (And.intro ?_ ?_)
        · intro c4
          refine And.intro (by first | exact fi_ hb.2.1.1 hb.2.1.2 rfl | omega) ?_
          exact fcutJ (I := I1) (j := jc_Charter_shareOf_a5f6d_70) (lv' := [(0, .inr (.inr (some 187))), (1, .inr (.inr (some 1))), (2, .inl _), (3, .inl _), (4, .inr (.inl _)), (6, .inr (.inl _)), (8, .inl _), (9, .inl _)]) (And.intro rfl (And.intro rfl (And.intro rfl (And.intro rfl (And.intro rfl (And.intro rfl (And.intro rfl (And.intro rfl True.intro)))))))) ⟨_, _, _, _, _, _, rfl, rfl, by omega, rfl⟩ (by omega)
        · intro c5
          refine And.intro (True.intro) ?_
          exact ⟨_, rfl, (by first | exact ⟨by decide, by decide⟩ | omega)⟩
      · intro c6
        refine And.intro ⟨rfl, by decide, by decide⟩ ?_
        refine Exists.intro xm_147 (And.intro mi_147 (And.intro ⟨rfl, rfl, rfl, rfl⟩ (And.intro rfl ?_)))
        refine fcall _ h0 (fzs_sub (by decide +kernel) hW) hB1 (ct_Charter_partOf_b35bf (fBz h0 hB1) (by first | exact ⟨hb.2.2.2.1.1, Int.le_trans (Int.le_sub_one_of_lt (Int.lt_of_lt_of_le c6 uz1)) (by decide)⟩ | omega)) ?_
        rintro IhB8 _ hB8 fhB8 ⟨z7, rfl, hz7⟩
        have t9 := fhB8 177 4 (by decide +kernel)
        refine fstore1 rS_209_209_0_23_1_0 (fzs_sub (by decide +kernel) hW) ⟨by decide, by decide⟩ (by first | exact ⟨hb.2.2.2.1.1, Int.le_trans (Int.le_sub_one_of_lt (Int.lt_of_lt_of_le c6 uz1)) (by decide)⟩ | omega) (by first | exact ⟨Int.le_trans (by decide) hz7.1, Int.le_trans hz7.2 (by decide)⟩ | omega) ?_
        intro IhB10 ehB10 hB10
        have t11 := fup_self ehB10
        have t12 : IhB10 177 4 = IhB8 177 4 := (congrFun (congrFun ehB10 177) 4).trans (fup_ne (by first | exact Or.inl (by decide) | omega))
        refine And.intro ⟨rfl, by decide, by decide⟩ ?_
        refine fload1 rL_209_209_0_23_1_0 h0 hB10 ⟨by decide, by decide⟩ (by first | exact ⟨hb.2.2.2.1.1, Int.le_trans (Int.le_sub_one_of_lt (Int.lt_of_lt_of_le c6 uz1)) (by decide)⟩ | omega) ?_
        intro z13 lz13 uz13 qz13
        refine And.intro (by first | exact fi_ lz13 uz13 rfl | omega) ?_
        intro z14 hz14 ez14 bz14
        exact fcutJ (I := IhB10) (j := jc_Charter_shareOf_a5f6d_6) (lv' := [(0, .inr (.inr (some 187))), (1, .inr (.inr (some 1))), (2, .inl _), (3, .inl _), (4, .inr (.inl _)), (6, .inl _)]) (And.intro rfl (And.intro rfl (And.intro rfl (And.intro rfl (And.intro rfl (And.intro rfl True.intro)))))) ⟨_, _, _, _, rfl, rfl, by omega, rfl⟩ (by omega)
    · rintro m _ _ I1 hB1 ⟨y2, y3, y4, y6, y8, y9, rfl, rfl, hb, hm⟩
      refine And.intro ⟨rfl, by decide, by decide⟩ ?_
      refine And.intro ⟨rfl, by decide, by decide⟩ (fgetf fb_177_4 h0 hB1 ?_)
      intro z15 lz15 uz15 qz15
      refine And.intro (And.intro (by first | exact fi_ hb.2.2.2.2.2.1 hb.2.2.2.2.2.2 rfl | omega) (by first | exact fi_ lz15 uz15 rfl | omega)) (And.intro ?_ ?_)
      · intro c16
        refine And.intro (by first | exact fi_ hb.2.1.1 hb.2.1.2 rfl | omega) ?_
        refine And.intro ⟨rfl, by decide, by decide⟩ ?_
        refine fload1 rL_209_209_0_23_1_0 h0 hB1 ⟨by decide, by decide⟩ (by first | exact ⟨hb.1.1, hb.1.2⟩ | omega) ?_
        intro z17 lz17 uz17 qz17
        refine And.intro (by first | exact fi_ lz17 uz17 rfl | omega) ?_
        intro z18 hz18 ez18 bz18
        refine And.intro (And.intro (by omega) (by omega)) ?_
        intro z19 hz19 ez19
        intro z20 hz20 ez20 bz20
        clear ez20
        skip
        refine And.intro ⟨rfl, by decide, by decide⟩ ?_
        refine fload1 rL_209_209_0_23_1_0 h0 hB1 ⟨by decide, by decide⟩ (by first | exact ⟨hb.1.1, hb.1.2⟩ | omega) ?_
        intro z21 lz21 uz21 qz21
        refine And.intro (by first | exact fi_ lz21 uz21 rfl | omega) (And.intro ?_ ?_)
        · intro c22
          refine And.intro (True.intro) ?_
          exact ⟨_, rfl, by omega⟩
        · intro c23
          refine And.intro (by first | exact fi_ hb.2.2.2.2.1.1 hb.2.2.2.2.1.2 rfl | omega) ?_
          refine And.intro (And.intro (by first | exact fl_ hb.2.2.2.2.1.1 hb.2.2.2.2.1.2 rfl | omega) (by first | exact fl_ hb.2.2.2.1.1 hb.2.2.2.1.2 rfl | omega)) ?_
          intro z24 hz24
          refine And.intro (by omega) (And.intro ?_ ?_)
          · intro c25
            refine And.intro (True.intro) ?_
            exact ⟨_, rfl, by omega⟩
          · intro c26
            intro z27 hz27 ez27 bz27
            clear ez27
            try replace bz27 := bz27 (by omega)
            refine And.intro (True.intro) ?_
            exact ⟨_, rfl, by omega⟩
      · intro c28
        refine And.intro (by first | exact fi_ hb.2.1.1 hb.2.1.2 rfl | omega) ?_
        refine And.intro ⟨rfl, by decide, by decide⟩ ?_
        refine fload1 rL_209_209_0_23_1_0 h0 hB1 ⟨by decide, by decide⟩ (by first | exact ⟨hb.2.2.2.2.2.1, Int.le_trans (Int.le_sub_one_of_lt (Int.lt_of_lt_of_le c28 uz15)) (by decide)⟩ | omega) ?_
        intro z29 lz29 uz29 qz29
        refine And.intro (by first | exact fi_ lz29 uz29 rfl | omega) ?_
        intro z30 hz30 ez30 bz30
        refine And.intro (And.intro (by omega) (by omega)) ?_
        intro z31 hz31 ez31
        intro z32 hz32 ez32 bz32
        refine And.intro (And.intro (by first | exact fi_ hb.2.2.2.2.2.1 (Int.le_sub_one_of_lt (Int.lt_of_lt_of_le c28 uz15)) rfl | omega) (by first | exact fi_ hb.1.1 hb.1.2 rfl | omega)) (And.intro ?_ ?_)
        · intro c33
          exact fcutJ (I := I1) (j := jc_Charter_shareOf_a5f6d_70) (lv' := [(0, .inr (.inr (some 187))), (1, .inr (.inr (some 1))), (2, .inl _), (3, .inl _), (4, .inr (.inl _)), (6, .inr (.inl _)), (8, .inl _), (9, .inl _)]) (And.intro rfl (And.intro rfl (And.intro rfl (And.intro rfl (And.intro rfl (And.intro rfl (And.intro rfl (And.intro rfl True.intro)))))))) ⟨_, _, _, _, _, _, rfl, rfl, by omega, rfl⟩ (by omega)
        · intro c34
          refine And.intro ⟨rfl, by decide, by decide⟩ ?_
          refine fload1 rL_209_209_0_23_1_0 h0 hB1 ⟨by decide, by decide⟩ (by first | exact ⟨hb.2.2.2.2.2.1, Int.le_trans (Int.le_sub_one_of_lt (Int.lt_of_lt_of_le c34 hb.1.2)) (by decide)⟩ | omega) ?_
          intro z35 lz35 uz35 qz35
          refine And.intro (by first | exact fi_ lz35 uz35 rfl | omega) (And.intro ?_ ?_)
          · intro c36
            exact fcutJ (I := I1) (j := jc_Charter_shareOf_a5f6d_70) (lv' := [(0, .inr (.inr (some 187))), (1, .inr (.inr (some 1))), (2, .inl _), (3, .inl _), (4, .inr (.inl _)), (6, .inr (.inl _)), (8, .inl _), (9, .inl _)]) (And.intro rfl (And.intro rfl (And.intro rfl (And.intro rfl (And.intro rfl (And.intro rfl (And.intro rfl (And.intro rfl True.intro)))))))) ⟨_, _, _, _, _, _, rfl, rfl, by omega, rfl⟩ (by omega)
          · intro c37
            intro z38 hz38 bz38
            clear bz38
            exact fcutJ (I := I1) (j := jc_Charter_shareOf_a5f6d_70) (lv' := [(0, .inr (.inr (some 187))), (1, .inr (.inr (some 1))), (2, .inl _), (3, .inl _), (4, .inr (.inl _)), (6, .inr (.inl _)), (8, .inl _), (9, .inl _)]) (And.intro rfl (And.intro rfl (And.intro rfl (And.intro rfl (And.intro rfl (And.intro rfl (And.intro rfl (And.intro rfl True.intro)))))))) ⟨_, _, _, _, _, _, rfl, rfl, by omega, rfl⟩ (by omega)
  · have hB0 := fB_self (zn := znJ) (K := fKc wz_8a11b) h0
    exact fcutJ (I := I) (j := jc_Charter_shareOf_a5f6d_6) (lv' := [(0, .inr (.inr (some 187))), (1, .inr (.inr (some 1))), (2, .inl _), (3, .inl _), (4, .inr (.inl _)), (6, .inl _)]) (And.intro rfl (And.intro rfl (And.intro rfl (And.intro rfl (And.intro rfl (And.intro rfl True.intro)))))) ⟨_, _, _, _, rfl, rfl, by omega, rfl⟩ (by omega)
set_option maxRecDepth 8000 in
theorem ct_X_share_fd28f {I : fH} {x1 : Int} {x2 : Int} (h0 : fB bsJ I) (ha1 : ((-2147483648) ≤ x1 ∧ x1 ≤ 2147483647)) (ha2 : ((-2147483648) ≤ x2 ∧ x2 ≤ 2147483647)) : fC ρ base n F xTc vwCl xTys D dA la gJ (fbz bsJ znJ (fKc wz_8a11b) I) xm_145 [.inr (.inr (some 0)), .inl x1, .inl x2] I (fun _ r => ∃ z, r = some (.inl z) ∧ ((-2147483648) ≤ z ∧ z ≤ 2147483647)) := by
  have hW : fzs wz_8a11b (fKc wz_8a11b) := fKc_ok _
  refine f_meth (rb := rbJ) (J := []) 1 400 xG xin_145 x6_145 okJ (fB_self h0) ?_ ?_
  · exact fun q h => absurd h List.not_mem_nil
  · have hB0 := fB_self (zn := znJ) (K := fKc wz_8a11b) h0
    refine And.intro ⟨rfl, by decide, by decide⟩ ?_
    refine Exists.intro xm_27 (And.intro mi_27 (And.intro ⟨rfl, rfl, rfl, rfl⟩ (And.intro rfl ?_)))
    refine fcallp hB0 (ct_City_isPerson_ff059 (fBz h0 hB0) (by first | exact ⟨ha1.1, ha1.2⟩ | omega)) ?_
    rintro _ ⟨z1, rfl, hz1⟩
    refine And.intro (by omega) (And.intro ?_ ?_)
    · intro c2
      refine And.intro (True.intro) ?_
      exact ⟨_, rfl, (by first | exact ⟨by decide, by decide⟩ | omega)⟩
    · intro c3
      refine Exists.intro xm_13 (And.intro mi_13 (And.intro ⟨rfl, rfl, rfl, rfl⟩ (And.intro True.intro ?_)))
      refine fcallp hB0 (ct_X_within_c27b1 (fBz h0 hB0) (by first | exact ⟨ha2.1, ha2.2⟩ | omega) (by first | exact ⟨by decide, by decide⟩ | omega) (by first | exact ⟨by decide, by decide⟩ | omega)) ?_
      rintro _ ⟨z4, rfl, hz4⟩
      refine And.intro (by omega) (And.intro ?_ ?_)
      · intro c5
        refine And.intro ⟨rfl, by decide, by decide⟩ ?_
        refine And.intro ⟨rfl, by decide, by decide⟩ ?_
        refine Exists.intro xm_21 (And.intro mi_21 (And.intro ⟨rfl, rfl, rfl, rfl⟩ (And.intro rfl ?_)))
        refine fcallp hB0 (ct_People_isDead_edb17 (fBz h0 hB0) (by omega)) ?_
        rintro _ ⟨z6, rfl, hz6⟩
        refine And.intro (by omega) (And.intro ?_ ?_)
        · intro c7
          refine And.intro ⟨rfl, by decide, by decide⟩ ?_
          refine And.intro ⟨rfl, by decide, by decide⟩ ?_
          refine Exists.intro xm_146 (And.intro mi_146 (And.intro ⟨rfl, rfl, rfl, rfl⟩ (And.intro rfl ?_)))
          refine fcall _ h0 (fzs_sub (by decide +kernel) hW) hB0 (ct_Charter_shareOf_a5f6d (fBz h0 hB0) (by omega) (by first | exact ⟨Int.le_trans (by decide) (Int.le_trans (Int.le_refl _) hz4.1), Int.le_trans (Int.le_trans hz4.2 (Int.le_refl _)) (by decide)⟩ | omega)) ?_
          rintro IhB9 _ hB9 fhB9 ⟨z8, rfl, hz8⟩
          refine And.intro (True.intro) ?_
          exact ⟨_, rfl, (by first | exact ⟨hz8.1, hz8.2⟩ | omega)⟩
        · intro c10
          refine And.intro (True.intro) ?_
          exact ⟨_, rfl, (by first | exact ⟨by decide, by decide⟩ | omega)⟩
      · intro c11
        refine And.intro (True.intro) ?_
        exact ⟨_, rfl, (by first | exact ⟨by decide, by decide⟩ | omega)⟩
abbrev jc_M_share_3f03c_46 : Nat → fL → List fV → fH → Prop := fun m lv st I => ∃ (y1 : Int) (y2 : Int) (y3 : Int) (y4 : Int) (y5 : Int), lv = [(0, .inr (.inr (some 740))), (1, .inl y1), (2, .inl y2), (3, .inl y3), (4, .inl y4), (5, .inl y5)] ∧ st = [] ∧ (((0 ≤ y1 ∧ y1 ≤ 23) ∧ (0 ≤ y2 ∧ y2 ≤ 999999) ∧ ((-1) ≤ y3 ∧ y3 ≤ 11) ∧ (0 ≤ y4 ∧ y4 ≤ 240000) ∧ (0 ≤ y5 ∧ y5 ≤ 24) ∧ (y4 ≤ 9999 * y5) ∧ (y3 < I 741 9))) ∧ m = (26 + 1 * (24 - y5) : Int).toNat
abbrev jc_M_share_3f03c_159 : Nat → fL → List fV → fH → Prop := fun m lv st I => ∃ (y1 : Int) (y2 : Int) (y4 : Int) (y5 : Int) (y6 : Int) (y7 : Int), lv = [(0, .inr (.inr (some 740))), (1, .inl y1), (2, .inl y2), (4, .inl y4), (5, .inl y5), (6, .inl y6), (7, .inl y7)] ∧ st = [] ∧ (((0 ≤ y1 ∧ y1 ≤ 23) ∧ (0 ≤ y2 ∧ y2 ≤ 999999) ∧ (1 ≤ y4 ∧ y4 ≤ 240000) ∧ ((-2147483648) ≤ y5 ∧ y5 ≤ 2147483647) ∧ ((-2147483648) ≤ y6 ∧ y6 ≤ 2147483647) ∧ (0 ≤ y7 ∧ y7 ≤ 24))) ∧ m = (1 + 1 * (24 - y7) : Int).toNat
set_option maxRecDepth 8000 in
theorem ct_M_share_3f03c {I : fH} {x1 : Int} {x2 : Int} (h0 : fB bsJ I) (ha1 : ((-2147483648) ≤ x1 ∧ x1 ≤ 2147483647)) (ha2 : ((-2147483648) ≤ x2 ∧ x2 ≤ 2147483647)) (hp0 : sI I 741) : fC ρ base n F xTc vwCl xTys D dA la gJ (fbz bsJ znJ (fKc wz_0adc5) I) xm_432 [.inr (.inr (some 740)), .inl x1, .inl x2] I (fun _ r => ∃ z, r = some (.inl z) ∧ ((-2147483648) ≤ z ∧ z ≤ 2147483647)) := by
  have hW : fzs wz_0adc5 (fKc wz_0adc5) := fKc_ok _
  refine f_meth (rb := rbJ) (J := [(46, jc_M_share_3f03c_46), (159, jc_M_share_3f03c_159)]) 51 400 xG xin_432 x6_432 okJ (fB_self h0) ?_ ?_
  · refine List.forall_mem_cons.mpr ⟨?_, List.forall_mem_cons.mpr ⟨?_, fun q h => absurd h List.not_mem_nil⟩⟩
    · rintro m _ _ I1 hB1 ⟨y1, y2, y3, y4, y5, rfl, rfl, hb, hm⟩
      have k1 := fBz_eq hB1 (a := 741) (j := 9) (by decide +kernel)
      refine And.intro ⟨rfl, by decide, by decide⟩ ?_
      refine fload1 rL_741_741_8_8_1_0 h0 hB1 ⟨by decide, by decide⟩ (by first | exact ⟨by decide, by decide⟩ | omega) ?_
      intro z2 lz2 uz2 qz2
      have pz2 := fld_at qz2 8 (by omega)
      refine And.intro (And.intro (by first | exact fi_ hb.2.2.2.2.1.1 hb.2.2.2.2.1.2 rfl | omega) (by first | exact fi_ lz2 uz2 rfl | omega)) (And.intro ?_ ?_)
      · intro c3
        refine And.intro (by first | exact fi_ hb.2.2.2.1.1 hb.2.2.2.1.2 rfl | omega) (And.intro ?_ ?_)
        · intro c4
          refine And.intro (True.intro) ?_
          exact ⟨_, rfl, (by first | exact ⟨by decide, by decide⟩ | omega)⟩
        · intro c5
          refine And.intro ⟨rfl, by decide, by decide⟩ ?_
          refine fload1 rL_750_750_0_23_1_0 h0 hB1 ⟨by decide, by decide⟩ (by first | exact ⟨hb.1.1, hb.1.2⟩ | omega) ?_
          intro z6 lz6 uz6 qz6
          refine And.intro (by first | exact fi_ lz6 uz6 rfl | omega) (And.intro ?_ ?_)
          · intro c7
            exact fcutJ (I := I1) (j := jc_M_share_3f03c_159) (lv' := [(0, .inr (.inr (some 740))), (1, .inl _), (2, .inl _), (4, .inl _), (5, .inl _), (6, .inl _), (7, .inl _)]) (And.intro rfl (And.intro rfl (And.intro rfl (And.intro rfl (And.intro rfl (And.intro rfl (And.intro rfl True.intro))))))) ⟨_, _, _, _, _, _, rfl, rfl, by omega, rfl⟩ (by omega)
          · intro c8
            refine And.intro (True.intro) ?_
            exact ⟨_, rfl, (by first | exact ⟨by decide, by decide⟩ | omega)⟩
      · intro c9
        refine Exists.intro xm_258 (And.intro mi_258 (And.intro ⟨rfl, rfl, rfl, rfl⟩ (And.intro rfl ?_)))
        refine fcall _ h0 (fzs_sub (by decide +kernel) hW) hB1 (ct_M_nameOne_43c7d (fBz h0 hB1) (by first | exact ⟨hb.2.2.2.2.1.1, Int.le_trans (Int.le_sub_one_of_lt (Int.lt_of_lt_of_le c9 uz2)) (by decide)⟩ | omega)) ?_
        rintro IhB11 _ hB11 fhB11 rfl
        have t12 := fhB11 741 8 (by decide +kernel)
        have k13 := fBz_eq hB11 (a := 741) (j := 9) (by decide +kernel)
        refine Exists.intro xm_248 (And.intro mi_248 (And.intro ⟨rfl, rfl, rfl, rfl⟩ (And.intro rfl ?_)))
        refine fcallp hB11 (ct_M_isDead_21e1a (fBz h0 hB11) (by first | exact ⟨hb.2.2.2.2.1.1, Int.le_trans (Int.le_sub_one_of_lt (Int.lt_of_lt_of_le c9 uz2)) (by decide)⟩ | omega)) ?_
        rintro _ ⟨z14, rfl, hz14⟩
        refine And.intro (by omega) (And.intro ?_ ?_)
        · intro c15
          refine And.intro (by first | exact fi_ hb.2.2.1.1 hb.2.2.1.2 rfl | omega) (And.intro ?_ ?_)
          · intro c16
            refine Exists.intro xm_259 (And.intro mi_259 (And.intro ⟨rfl, rfl, rfl, rfl⟩ (And.intro rfl ?_)))
            refine fcall _ h0 (fzs_sub (by decide +kernel) hW) hB11 (ct_M_worked_0bc29 (fBz h0 hB11) (by first | exact ⟨Int.le_trans (by decide) (Int.le_trans (Int.le_refl _) c16), hb.2.2.1.2⟩ | omega) (sI_keep hp0 h0 hB11 (by decide +kernel)) (by omega)) ?_
            rintro IhB18 _ hB18 fhB18 ⟨z17, rfl, hz17⟩
            have t19 := fhB18 741 8 (by decide +kernel)
            have k20 := fBz_eq hB18 (a := 741) (j := 9) (by decide +kernel)
            refine And.intro ⟨rfl, by decide, by decide⟩ ?_
            refine And.intro (by first | exact fi_ hz17.1 hz17.2 rfl | omega) (And.intro ?_ ?_)
            · intro c21
              refine Exists.intro xm_291 (And.intro mi_291 (And.intro ⟨rfl, rfl, rfl, rfl⟩ (And.intro True.intro ?_)))
              refine fcallp hB18 (ct_M_least_31c1d (fBz h0 hB18) (by first | exact ⟨Int.le_trans (by decide) (Int.le_trans (Int.le_refl _) c21), hz17.2⟩ | omega) (by first | exact ⟨by decide, by decide⟩ | omega)) ?_
              rintro _ ⟨z22, rfl, hz22⟩
              refine fstore1 rS_750_750_0_23_1_0 (fzs_sub (by decide +kernel) hW) ⟨by decide, by decide⟩ (by first | exact ⟨hb.2.2.2.2.1.1, Int.le_trans (Int.le_sub_one_of_lt (Int.lt_of_lt_of_le c9 uz2)) (by decide)⟩ | omega) (by first | exact ⟨hz22.1.1, hz22.1.2⟩ | omega) ?_
              intro IhB23 ehB23 hB23
              have t24 := fup_self ehB23
              have t25 : IhB23 741 8 = IhB18 741 8 := (congrFun (congrFun ehB23 741) 8).trans (fup_ne (by first | exact Or.inl (by decide) | omega))
              have k26 := fBz_eq hB23 (a := 741) (j := 9) (by decide +kernel)
              refine And.intro ⟨rfl, by decide, by decide⟩ ?_
              refine fload1 rL_750_750_0_23_1_0 h0 hB23 ⟨by decide, by decide⟩ (by first | exact ⟨hb.2.2.2.2.1.1, Int.le_trans (Int.le_sub_one_of_lt (Int.lt_of_lt_of_le c9 uz2)) (by decide)⟩ | omega) ?_
              intro z27 lz27 uz27 qz27
              intro z28 hz28 ez28 bz28
              clear ez28
              try replace bz28 := bz28 (by omega)
              exact fcutJ (I := IhB23) (j := jc_M_share_3f03c_46) (lv' := [(0, .inr (.inr (some 740))), (1, .inl _), (2, .inl _), (3, .inl _), (4, .inl _), (5, .inl _)]) (And.intro rfl (And.intro rfl (And.intro rfl (And.intro rfl (And.intro rfl (And.intro rfl True.intro)))))) ⟨_, _, _, _, _, rfl, rfl, by omega, rfl⟩ (by omega)
            · intro c29
              refine fstore1 rS_750_750_0_23_1_0 (fzs_sub (by decide +kernel) hW) ⟨by decide, by decide⟩ (by first | exact ⟨hb.2.2.2.2.1.1, Int.le_trans (Int.le_sub_one_of_lt (Int.lt_of_lt_of_le c9 uz2)) (by decide)⟩ | omega) (by first | exact ⟨by decide, by decide⟩ | omega) ?_
              intro IhB30 ehB30 hB30
              have t31 := fup_self ehB30
              have t32 : IhB30 741 8 = IhB18 741 8 := (congrFun (congrFun ehB30 741) 8).trans (fup_ne (by first | exact Or.inl (by decide) | omega))
              have k33 := fBz_eq hB30 (a := 741) (j := 9) (by decide +kernel)
              refine And.intro ⟨rfl, by decide, by decide⟩ ?_
              refine fload1 rL_750_750_0_23_1_0 h0 hB30 ⟨by decide, by decide⟩ (by first | exact ⟨hb.2.2.2.2.1.1, Int.le_trans (Int.le_sub_one_of_lt (Int.lt_of_lt_of_le c9 uz2)) (by decide)⟩ | omega) ?_
              intro z34 lz34 uz34 qz34
              intro z35 hz35 ez35 bz35
              clear ez35
              try replace bz35 := bz35 (by omega)
              exact fcutJ (I := IhB30) (j := jc_M_share_3f03c_46) (lv' := [(0, .inr (.inr (some 740))), (1, .inl _), (2, .inl _), (3, .inl _), (4, .inl _), (5, .inl _)]) (And.intro rfl (And.intro rfl (And.intro rfl (And.intro rfl (And.intro rfl (And.intro rfl True.intro)))))) ⟨_, _, _, _, _, rfl, rfl, by omega, rfl⟩ (by omega)
          · intro c36
            refine And.intro ⟨rfl, by decide, by decide⟩ ?_
            refine And.intro (by first | exact ⟨by decide, by decide⟩ | omega) (And.intro ?_ ?_)
            · intro c37
              refine Exists.intro xm_291 (And.intro mi_291 (And.intro ⟨rfl, rfl, rfl, rfl⟩ (And.intro True.intro ?_)))
              refine fcallp hB11 (ct_M_least_31c1d (fBz h0 hB11) (by first | exact ⟨by decide, by decide⟩ | omega) (by first | exact ⟨by decide, by decide⟩ | omega)) ?_
              rintro _ ⟨z38, rfl, hz38⟩
              refine fstore1 rS_750_750_0_23_1_0 (fzs_sub (by decide +kernel) hW) ⟨by decide, by decide⟩ (by first | exact ⟨hb.2.2.2.2.1.1, Int.le_trans (Int.le_sub_one_of_lt (Int.lt_of_lt_of_le c9 uz2)) (by decide)⟩ | omega) (by first | exact ⟨hz38.1.1, hz38.1.2⟩ | omega) ?_
              intro IhB39 ehB39 hB39
              have t40 := fup_self ehB39
              have t41 : IhB39 741 8 = IhB11 741 8 := (congrFun (congrFun ehB39 741) 8).trans (fup_ne (by first | exact Or.inl (by decide) | omega))
              have k42 := fBz_eq hB39 (a := 741) (j := 9) (by decide +kernel)
              refine And.intro ⟨rfl, by decide, by decide⟩ ?_
              refine fload1 rL_750_750_0_23_1_0 h0 hB39 ⟨by decide, by decide⟩ (by first | exact ⟨hb.2.2.2.2.1.1, Int.le_trans (Int.le_sub_one_of_lt (Int.lt_of_lt_of_le c9 uz2)) (by decide)⟩ | omega) ?_
              intro z43 lz43 uz43 qz43
              intro z44 hz44 ez44 bz44
              clear ez44
              try replace bz44 := bz44 (by omega)
              exact fcutJ (I := IhB39) (j := jc_M_share_3f03c_46) (lv' := [(0, .inr (.inr (some 740))), (1, .inl _), (2, .inl _), (3, .inl _), (4, .inl _), (5, .inl _)]) (And.intro rfl (And.intro rfl (And.intro rfl (And.intro rfl (And.intro rfl (And.intro rfl True.intro)))))) ⟨_, _, _, _, _, rfl, rfl, by omega, rfl⟩ (by omega)
            · intro c45
              refine fstore1 rS_750_750_0_23_1_0 (fzs_sub (by decide +kernel) hW) ⟨by decide, by decide⟩ (by first | exact ⟨hb.2.2.2.2.1.1, Int.le_trans (Int.le_sub_one_of_lt (Int.lt_of_lt_of_le c9 uz2)) (by decide)⟩ | omega) (by first | exact ⟨by decide, by decide⟩ | omega) ?_
              intro IhB46 ehB46 hB46
              have t47 := fup_self ehB46
              have t48 : IhB46 741 8 = IhB11 741 8 := (congrFun (congrFun ehB46 741) 8).trans (fup_ne (by first | exact Or.inl (by decide) | omega))
              have k49 := fBz_eq hB46 (a := 741) (j := 9) (by decide +kernel)
              refine And.intro ⟨rfl, by decide, by decide⟩ ?_
              refine fload1 rL_750_750_0_23_1_0 h0 hB46 ⟨by decide, by decide⟩ (by first | exact ⟨hb.2.2.2.2.1.1, Int.le_trans (Int.le_sub_one_of_lt (Int.lt_of_lt_of_le c9 uz2)) (by decide)⟩ | omega) ?_
              intro z50 lz50 uz50 qz50
              intro z51 hz51 ez51 bz51
              clear ez51
              try replace bz51 := bz51 (by omega)
              exact fcutJ (I := IhB46) (j := jc_M_share_3f03c_46) (lv' := [(0, .inr (.inr (some 740))), (1, .inl _), (2, .inl _), (3, .inl _), (4, .inl _), (5, .inl _)]) (And.intro rfl (And.intro rfl (And.intro rfl (And.intro rfl (And.intro rfl (And.intro rfl True.intro)))))) ⟨_, _, _, _, _, rfl, rfl, by omega, rfl⟩ (by omega)
        · intro c52
          refine And.intro ⟨rfl, by decide, by decide⟩ ?_
          refine And.intro (by first | exact ⟨by decide, by decide⟩ | omega) (And.intro ?_ ?_)
          · intro c53
            refine Exists.intro xm_291 (And.intro mi_291 (And.intro ⟨rfl, rfl, rfl, rfl⟩ (And.intro True.intro ?_)))
            refine fcallp hB11 (ct_M_least_31c1d (fBz h0 hB11) (by first | exact ⟨by decide, by decide⟩ | omega) (by first | exact ⟨by decide, by decide⟩ | omega)) ?_
            rintro _ ⟨z54, rfl, hz54⟩
            refine fstore1 rS_750_750_0_23_1_0 (fzs_sub (by decide +kernel) hW) ⟨by decide, by decide⟩ (by first | exact ⟨hb.2.2.2.2.1.1, Int.le_trans (Int.le_sub_one_of_lt (Int.lt_of_lt_of_le c9 uz2)) (by decide)⟩ | omega) (by first | exact ⟨hz54.1.1, hz54.1.2⟩ | omega) ?_
            intro IhB55 ehB55 hB55
            have t56 := fup_self ehB55
            have t57 : IhB55 741 8 = IhB11 741 8 := (congrFun (congrFun ehB55 741) 8).trans (fup_ne (by first | exact Or.inl (by decide) | omega))
            have k58 := fBz_eq hB55 (a := 741) (j := 9) (by decide +kernel)
            refine And.intro ⟨rfl, by decide, by decide⟩ ?_
            refine fload1 rL_750_750_0_23_1_0 h0 hB55 ⟨by decide, by decide⟩ (by first | exact ⟨hb.2.2.2.2.1.1, Int.le_trans (Int.le_sub_one_of_lt (Int.lt_of_lt_of_le c9 uz2)) (by decide)⟩ | omega) ?_
            intro z59 lz59 uz59 qz59
            intro z60 hz60 ez60 bz60
            clear ez60
            try replace bz60 := bz60 (by omega)
            exact fcutJ (I := IhB55) (j := jc_M_share_3f03c_46) (lv' := [(0, .inr (.inr (some 740))), (1, .inl _), (2, .inl _), (3, .inl _), (4, .inl _), (5, .inl _)]) (And.intro rfl (And.intro rfl (And.intro rfl (And.intro rfl (And.intro rfl (And.intro rfl True.intro)))))) ⟨_, _, _, _, _, rfl, rfl, by omega, rfl⟩ (by omega)
          · intro c61
            refine fstore1 rS_750_750_0_23_1_0 (fzs_sub (by decide +kernel) hW) ⟨by decide, by decide⟩ (by first | exact ⟨hb.2.2.2.2.1.1, Int.le_trans (Int.le_sub_one_of_lt (Int.lt_of_lt_of_le c9 uz2)) (by decide)⟩ | omega) (by first | exact ⟨by decide, by decide⟩ | omega) ?_
            intro IhB62 ehB62 hB62
            have t63 := fup_self ehB62
            have t64 : IhB62 741 8 = IhB11 741 8 := (congrFun (congrFun ehB62 741) 8).trans (fup_ne (by first | exact Or.inl (by decide) | omega))
            have k65 := fBz_eq hB62 (a := 741) (j := 9) (by decide +kernel)
            refine And.intro ⟨rfl, by decide, by decide⟩ ?_
            refine fload1 rL_750_750_0_23_1_0 h0 hB62 ⟨by decide, by decide⟩ (by first | exact ⟨hb.2.2.2.2.1.1, Int.le_trans (Int.le_sub_one_of_lt (Int.lt_of_lt_of_le c9 uz2)) (by decide)⟩ | omega) ?_
            intro z66 lz66 uz66 qz66
            intro z67 hz67 ez67 bz67
            clear ez67
            try replace bz67 := bz67 (by omega)
            exact fcutJ (I := IhB62) (j := jc_M_share_3f03c_46) (lv' := [(0, .inr (.inr (some 740))), (1, .inl _), (2, .inl _), (3, .inl _), (4, .inl _), (5, .inl _)]) (And.intro rfl (And.intro rfl (And.intro rfl (And.intro rfl (And.intro rfl (And.intro rfl True.intro)))))) ⟨_, _, _, _, _, rfl, rfl, by omega, rfl⟩ (by omega)
    · rintro m _ _ I1 hB1 ⟨y1, y2, y4, y5, y6, y7, rfl, rfl, hb, hm⟩
      have k68 := fBz_eq hB1 (a := 741) (j := 9) (by decide +kernel)
      refine And.intro ⟨rfl, by decide, by decide⟩ ?_
      refine fload1 rL_741_741_8_8_1_0 h0 hB1 ⟨by decide, by decide⟩ (by first | exact ⟨by decide, by decide⟩ | omega) ?_
      intro z69 lz69 uz69 qz69
      have pz69 := fld_at qz69 8 (by omega)
      refine And.intro (And.intro (by first | exact fi_ hb.2.2.2.2.2.1 hb.2.2.2.2.2.2 rfl | omega) (by first | exact fi_ lz69 uz69 rfl | omega)) (And.intro ?_ ?_)
      · intro c70
        refine And.intro (by first | exact fi_ hb.2.1.1 hb.2.1.2 rfl | omega) ?_
        refine And.intro ⟨rfl, by decide, by decide⟩ ?_
        refine fload1 rL_750_750_0_23_1_0 h0 hB1 ⟨by decide, by decide⟩ (by first | exact ⟨hb.1.1, hb.1.2⟩ | omega) ?_
        intro z71 lz71 uz71 qz71
        refine And.intro (by first | exact fi_ lz71 uz71 rfl | omega) ?_
        intro z72 hz72 ez72 bz72
        refine And.intro (by first | exact fi_ hb.2.2.1.1 hb.2.2.1.2 rfl | omega) ?_
        refine And.intro (And.intro (by omega) (by omega)) ?_
        intro z73 hz73 ez73
        intro z74 hz74 ez74 bz74
        clear ez74
        skip
        refine And.intro (And.intro (by first | exact fi_ hb.2.2.2.2.1.1 hb.2.2.2.2.1.2 rfl | omega) (by first | exact fi_ hb.2.2.2.1.1 hb.2.2.2.1.2 rfl | omega)) (And.intro ?_ ?_)
        · intro c75
          intro z76 hz76 ez76 bz76
          clear ez76
          try replace bz76 := bz76 (by omega)
          refine And.intro (True.intro) ?_
          exact ⟨_, rfl, by omega⟩
        · intro c77
          intro z78 hz78 ez78 bz78
          clear ez78
          try replace bz78 := bz78 (by omega)
          refine And.intro (True.intro) ?_
          exact ⟨_, rfl, by omega⟩
      · intro c79
        refine And.intro (by first | exact fi_ hb.2.1.1 hb.2.1.2 rfl | omega) ?_
        refine And.intro ⟨rfl, by decide, by decide⟩ ?_
        refine fload1 rL_750_750_0_23_1_0 h0 hB1 ⟨by decide, by decide⟩ (by first | exact ⟨hb.2.2.2.2.2.1, Int.le_trans (Int.le_sub_one_of_lt (Int.lt_of_lt_of_le c79 uz69)) (by decide)⟩ | omega) ?_
        intro z80 lz80 uz80 qz80
        refine And.intro (by first | exact fi_ lz80 uz80 rfl | omega) ?_
        intro z81 hz81 ez81 bz81
        refine And.intro (by first | exact fi_ hb.2.2.1.1 hb.2.2.1.2 rfl | omega) ?_
        refine And.intro (And.intro (by omega) (by omega)) ?_
        intro z82 hz82 ez82
        intro z83 hz83 ez83 bz83
        clear ez83
        skip
        intro z84 hz84 ez84 bz84
        clear ez84
        try replace bz84 := bz84 (by omega)
        refine And.intro (And.intro (by first | exact fi_ hb.2.2.2.2.2.1 (Int.le_sub_one_of_lt (Int.lt_of_lt_of_le c79 uz69)) rfl | omega) (by first | exact fi_ hb.1.1 hb.1.2 rfl | omega)) (And.intro ?_ ?_)
        · intro c85
          intro z86 hz86 ez86 bz86
          clear ez86
          try replace bz86 := bz86 (by omega)
          exact fcutJ (I := I1) (j := jc_M_share_3f03c_159) (lv' := [(0, .inr (.inr (some 740))), (1, .inl _), (2, .inl _), (4, .inl _), (5, .inl _), (6, .inl _), (7, .inl _)]) (And.intro rfl (And.intro rfl (And.intro rfl (And.intro rfl (And.intro rfl (And.intro rfl (And.intro rfl True.intro))))))) ⟨_, _, _, _, _, _, rfl, rfl, by omega, rfl⟩ (by omega)
        · intro c87
          refine And.intro ⟨rfl, by decide, by decide⟩ ?_
          refine fload1 rL_750_750_0_23_1_0 h0 hB1 ⟨by decide, by decide⟩ (by first | exact ⟨hb.2.2.2.2.2.1, Int.le_trans (Int.le_sub_one_of_lt (Int.lt_of_lt_of_le c87 hb.1.2)) (by decide)⟩ | omega) ?_
          intro z88 lz88 uz88 qz88
          refine And.intro (by first | exact fi_ lz88 uz88 rfl | omega) (And.intro ?_ ?_)
          · intro c89
            intro z90 hz90 ez90 bz90
            clear ez90
            try replace bz90 := bz90 (by omega)
            exact fcutJ (I := I1) (j := jc_M_share_3f03c_159) (lv' := [(0, .inr (.inr (some 740))), (1, .inl _), (2, .inl _), (4, .inl _), (5, .inl _), (6, .inl _), (7, .inl _)]) (And.intro rfl (And.intro rfl (And.intro rfl (And.intro rfl (And.intro rfl (And.intro rfl (And.intro rfl True.intro))))))) ⟨_, _, _, _, _, _, rfl, rfl, by omega, rfl⟩ (by omega)
          · intro c91
            intro z92 hz92 ez92 bz92
            clear ez92
            try replace bz92 := bz92 (by omega)
            exact fcutJ (I := I1) (j := jc_M_share_3f03c_159) (lv' := [(0, .inr (.inr (some 740))), (1, .inl _), (2, .inl _), (4, .inl _), (5, .inl _), (6, .inl _), (7, .inl _)]) (And.intro rfl (And.intro rfl (And.intro rfl (And.intro rfl (And.intro rfl (And.intro rfl (And.intro rfl True.intro))))))) ⟨_, _, _, _, _, _, rfl, rfl, by omega, rfl⟩ (by omega)
  · have hB0 := fB_self (zn := znJ) (K := fKc wz_0adc5) h0
    refine Exists.intro xm_252 (And.intro mi_252 (And.intro ⟨rfl, rfl, rfl, rfl⟩ (And.intro rfl ?_)))
    refine fcallp hB0 (ct_M_isPerson_4d30c (fBz h0 hB0) (by first | exact ⟨ha1.1, ha1.2⟩ | omega)) ?_
    rintro _ ⟨z93, rfl, hz93⟩
    refine And.intro (by omega) (And.intro ?_ ?_)
    · intro c94
      refine And.intro (True.intro) ?_
      exact ⟨_, rfl, (by first | exact ⟨by decide, by decide⟩ | omega)⟩
    · intro c95
      refine And.intro (by first | exact fi_ ha2.1 ha2.2 rfl | omega) ?_
      refine Exists.intro xm_238 (And.intro mi_238 (And.intro ⟨rfl, rfl, rfl, rfl⟩ (And.intro True.intro ?_)))
      refine fcallp hB0 (ct_M_isIn_27230 (fBz h0 hB0) (by first | exact ⟨ha2.1, ha2.2⟩ | omega) (by first | exact ⟨by decide, by decide⟩ | omega) (by first | exact ⟨by decide, by decide⟩ | omega)) ?_
      rintro _ ⟨z96, rfl, hz96⟩
      refine And.intro (by omega) (And.intro ?_ ?_)
      · intro c97
        refine Exists.intro xm_248 (And.intro mi_248 (And.intro ⟨rfl, rfl, rfl, rfl⟩ (And.intro rfl ?_)))
        refine fcallp hB0 (ct_M_isDead_21e1a (fBz h0 hB0) (by omega)) ?_
        rintro _ ⟨z98, rfl, hz98⟩
        refine And.intro (by omega) (And.intro ?_ ?_)
        · intro c99
          refine Exists.intro xm_254 (And.intro mi_254 (And.intro ⟨rfl, rfl, rfl, rfl⟩ (And.intro rfl ?_)))
          refine fcallp hB0 (ct_M_counts_1278f (fBz h0 hB0) (by first | exact ⟨by decide, by decide⟩ | omega)) ?_
          rintro _ ⟨z100, rfl, hz100⟩
          exact fcutJ (I := I) (j := jc_M_share_3f03c_46) (lv' := [(0, .inr (.inr (some 740))), (1, .inl _), (2, .inl _), (3, .inl _), (4, .inl _), (5, .inl _)]) (And.intro rfl (And.intro rfl (And.intro rfl (And.intro rfl (And.intro rfl (And.intro rfl True.intro)))))) ⟨_, _, _, _, _, rfl, rfl, by omega, rfl⟩ (by omega)
        · intro c101
          refine And.intro (True.intro) ?_
          exact ⟨_, rfl, (by first | exact ⟨by decide, by decide⟩ | omega)⟩
      · intro c102
        refine And.intro (True.intro) ?_
        exact ⟨_, rfl, (by first | exact ⟨by decide, by decide⟩ | omega)⟩
abbrev jc_Charter_nextShed_baa16_8 : Nat → fL → List fV → fH → Prop := fun m lv st I => ∃ (y2 : Int) (y3 : Int) (y4 : Int), lv = [(0, .inr (.inr (some 187))), (1, .inr (.inr (some 1))), (2, .inl y2), (3, .inl y3), (4, .inl y4)] ∧ st = [] ∧ ((((0 ≤ y2 ∧ y2 ≤ 23) ∨ y2 = (-1000000005)) ∧ ((-2147483648) ≤ y3 ∧ y3 ≤ 2147483647) ∧ (0 ≤ y4 ∧ y4 ≤ 24))) ∧ m = (1 + 1 * (24 - y4) : Int).toNat
set_option maxRecDepth 8000 in
theorem ct_Charter_nextShed_baa16 {I : fH}  (h0 : fB bsJ I)  : fC ρ base n F xTc vwCl xTys D dA la gJ (fbz bsJ znJ (fKc wz_3d14b) I) xm_152 [.inr (.inr (some 187)), .inr (.inr (some 1))] I (fun _ r => ∃ z, r = some (.inl z) ∧ ((0 ≤ z ∧ z ≤ 23) ∨ z = (-1000000005))) := by
  have hW : fzs wz_3d14b (fKc wz_3d14b) := fKc_ok _
  refine f_meth (rb := rbJ) (J := [(8, jc_Charter_nextShed_baa16_8)]) 26 400 xG xin_152 x6_152 okJ (fB_self h0) ?_ ?_
  · refine List.forall_mem_cons.mpr ⟨?_, fun q h => absurd h List.not_mem_nil⟩
    · rintro m _ _ I1 hB1 ⟨y2, y3, y4, rfl, rfl, hb, hm⟩
      refine And.intro ⟨rfl, by decide, by decide⟩ ?_
      refine And.intro ⟨rfl, by decide, by decide⟩ (fgetf fb_163_13 h0 hB1 ?_)
      intro z1 lz1 uz1 qz1
      refine And.intro (And.intro (by first | exact fi_ hb.2.2.1 hb.2.2.2 rfl | omega) (by first | exact fi_ lz1 uz1 rfl | omega)) (And.intro ?_ ?_)
      · intro c2
        refine And.intro (by omega) (And.intro ?_ ?_)
        · intro c3
          refine And.intro (True.intro) ?_
          exact ⟨_, rfl, by omega⟩
        · intro c4
          refine And.intro ⟨rfl, by decide, by decide⟩ ?_
          refine fstore rS_210_210_0_23_1_0 (fzs_sub (by decide +kernel) hW) (by omega) (by first | exact ⟨by decide, by decide⟩ | omega) ?_
          intro IhB5 ehB5 hB5
          have t6 := fup_self ehB5
          have t7 : IhB5 163 13 = I1 163 13 := (congrFun (congrFun ehB5 163) 13).trans (fup_ne (by first | exact Or.inl (by decide) | omega))
          refine And.intro (True.intro) ?_
          exact ⟨_, rfl, by omega⟩
      · intro c8
        refine And.intro ⟨rfl, by decide, by decide⟩ ?_
        refine fload1 rL_210_210_0_23_1_0 h0 hB1 ⟨by decide, by decide⟩ (by first | exact ⟨hb.2.2.1, Int.le_trans (Int.le_sub_one_of_lt (Int.lt_of_lt_of_le c8 uz1)) (by decide)⟩ | omega) ?_
        intro z9 lz9 uz9 qz9
        refine And.intro (And.intro (by first | exact fi_ lz9 uz9 rfl | omega) (by first | exact fi_ hb.2.1.1 hb.2.1.2 rfl | omega)) (And.intro ?_ ?_)
        · intro c10
          exact fcutJ (I := I1) (j := jc_Charter_nextShed_baa16_8) (lv' := [(0, .inr (.inr (some 187))), (1, .inr (.inr (some 1))), (2, .inl _), (3, .inl _), (4, .inl _)]) (And.intro rfl (And.intro rfl (And.intro rfl (And.intro rfl (And.intro rfl True.intro))))) ⟨_, _, _, rfl, rfl, by omega, rfl⟩ (by omega)
        · intro c11
          refine And.intro ⟨rfl, by decide, by decide⟩ ?_
          refine fload1 rL_210_210_0_23_1_0 h0 hB1 ⟨by decide, by decide⟩ (by first | exact ⟨hb.2.2.1, Int.le_trans (Int.le_sub_one_of_lt (Int.lt_of_lt_of_le c8 uz1)) (by decide)⟩ | omega) ?_
          intro z12 lz12 uz12 qz12
          exact fcutJ (I := I1) (j := jc_Charter_nextShed_baa16_8) (lv' := [(0, .inr (.inr (some 187))), (1, .inr (.inr (some 1))), (2, .inl _), (3, .inl _), (4, .inl _)]) (And.intro rfl (And.intro rfl (And.intro rfl (And.intro rfl (And.intro rfl True.intro))))) ⟨_, _, _, rfl, rfl, by omega, rfl⟩ (by omega)
  · have hB0 := fB_self (zn := znJ) (K := fKc wz_3d14b) h0
    exact fcutJ (I := I) (j := jc_Charter_nextShed_baa16_8) (lv' := [(0, .inr (.inr (some 187))), (1, .inr (.inr (some 1))), (2, .inl _), (3, .inl _), (4, .inl _)]) (And.intro rfl (And.intro rfl (And.intro rfl (And.intro rfl (And.intro rfl True.intro))))) ⟨_, _, _, rfl, rfl, by omega, rfl⟩ (by omega)
set_option maxRecDepth 8000 in
theorem ct_Charter_putWork_fb8e9 {I : fH} {x2 : Int} (h0 : fB bsJ I) (ha2 : (0 ≤ x2 ∧ x2 ≤ 23)) : fC ρ base n F xTc vwCl xTys D dA la gJ (fbz bsJ znJ (fKc wz_56c9a) I) xm_151 [.inr (.inr (some 187)), .inr (.inr (some 1)), .inl x2] I (fun _ r => r = none) := by
  have hW : fzs wz_56c9a (fKc wz_56c9a) := fKc_ok _
  refine f_meth (rb := rbJ) (J := []) 1 400 xG xin_151 x6_151 okJ (fB_self h0) ?_ ?_
  · exact fun q h => absurd h List.not_mem_nil
  · have hB0 := fB_self (zn := znJ) (K := fKc wz_56c9a) h0
    refine And.intro ⟨rfl, by decide, by decide⟩ ?_
    refine And.intro ⟨rfl, by decide, by decide⟩ ?_
    refine fload1 rL_164_164_0_23_1_0 h0 hB0 ⟨by decide, by decide⟩ (by first | exact ⟨ha2.1, ha2.2⟩ | omega) ?_
    intro z1 lz1 uz1 qz1
    refine And.intro (And.intro (by first | exact fi_ lz1 uz1 rfl | omega) (by first | exact ⟨by decide, by decide⟩ | omega)) (And.intro ?_ ?_)
    · intro c2
      refine And.intro ⟨rfl, by decide, by decide⟩ ?_
      refine fload1 rL_164_164_0_23_1_0 h0 hB0 ⟨by decide, by decide⟩ (by first | exact ⟨ha2.1, ha2.2⟩ | omega) ?_
      intro z3 lz3 uz3 qz3
      refine Exists.intro xm_30 (And.intro mi_30 (And.intro ⟨rfl, rfl, rfl, rfl⟩ (And.intro rfl ?_)))
      refine fcall _ h0 (fzs_sub (by decide +kernel) hW) hB0 (ct_Charter_put_c2709 (fBz h0 hB0) (by first | exact ⟨by decide, by decide⟩ | omega) (by first | exact ⟨lz3, uz3⟩ | omega)) ?_
      rintro IhB5 _ hB5 fhB5 rfl
      refine And.intro ⟨rfl, by decide, by decide⟩ ?_
      refine fload1 rL_166_166_0_23_1_0 h0 hB5 ⟨by decide, by decide⟩ (by first | exact ⟨ha2.1, ha2.2⟩ | omega) ?_
      intro z6 lz6 uz6 qz6
      refine Exists.intro xm_30 (And.intro mi_30 (And.intro ⟨rfl, rfl, rfl, rfl⟩ (And.intro rfl ?_)))
      refine fcall _ h0 (fzs_sub (by decide +kernel) hW) hB5 (ct_Charter_put_c2709 (fBz h0 hB5) (by first | exact ⟨by decide, by decide⟩ | omega) (by first | exact ⟨lz6, uz6⟩ | omega)) ?_
      rintro IhB8 _ hB8 fhB8 rfl
      refine And.intro (by omega) (And.intro ?_ ?_)
      · intro c9
        refine Exists.intro xm_30 (And.intro mi_30 (And.intro ⟨rfl, rfl, rfl, rfl⟩ (And.intro rfl ?_)))
        refine fcall _ h0 (fzs_sub (by decide +kernel) hW) hB8 (ct_Charter_put_c2709 (fBz h0 hB8) (by first | exact ⟨by decide, by decide⟩ | omega) (by omega)) ?_
        rintro IhB11 _ hB11 fhB11 rfl
        refine And.intro (by omega) (And.intro ?_ ?_)
        · intro c12
          refine Exists.intro xm_30 (And.intro mi_30 (And.intro ⟨rfl, rfl, rfl, rfl⟩ (And.intro rfl ?_)))
          refine fcall _ h0 (fzs_sub (by decide +kernel) hW) hB11 (ct_Charter_put_c2709 (fBz h0 hB11) (by first | exact ⟨by decide, by decide⟩ | omega) (by omega)) ?_
          rintro IhB14 _ hB14 fhB14 rfl
          refine And.intro ⟨rfl, by decide, by decide⟩ ?_
          refine fload1 rL_168_168_0_23_1_0 h0 hB14 ⟨by decide, by decide⟩ (by first | exact ⟨ha2.1, ha2.2⟩ | omega) ?_
          intro z15 lz15 uz15 qz15
          refine Exists.intro xm_30 (And.intro mi_30 (And.intro ⟨rfl, rfl, rfl, rfl⟩ (And.intro rfl ?_)))
          refine fcall _ h0 (fzs_sub (by decide +kernel) hW) hB14 (ct_Charter_put_c2709 (fBz h0 hB14) (by first | exact ⟨by decide, by decide⟩ | omega) (by first | exact ⟨lz15, uz15⟩ | omega)) ?_
          rintro IhB17 _ hB17 fhB17 rfl
          refine And.intro ⟨rfl, by decide, by decide⟩ ?_
          refine And.intro ⟨rfl, by decide, by decide⟩ ?_
          refine fload1 rL_165_165_0_23_1_0 h0 hB17 ⟨by decide, by decide⟩ (by first | exact ⟨ha2.1, ha2.2⟩ | omega) ?_
          intro z18 lz18 uz18 qz18
          refine Exists.intro xm_20 (And.intro mi_20 (And.intro ⟨rfl, rfl, rfl, rfl⟩ (And.intro rfl ?_)))
          refine fcallp hB17 (ct_People_livingIn_ff6d0 (fBz h0 hB17) (by first | exact ⟨lz18, uz18⟩ | omega)) ?_
          rintro _ ⟨z19, rfl, hz19⟩
          refine Exists.intro xm_30 (And.intro mi_30 (And.intro ⟨rfl, rfl, rfl, rfl⟩ (And.intro rfl ?_)))
          refine fcall _ h0 (fzs_sub (by decide +kernel) hW) hB17 (ct_Charter_put_c2709 (fBz h0 hB17) (by first | exact ⟨by decide, by decide⟩ | omega) (by first | exact ⟨hz19.1, hz19.2⟩ | omega)) ?_
          rintro IhB21 _ hB21 fhB21 rfl
          refine Exists.intro xm_31 (And.intro mi_31 (And.intro ⟨rfl, rfl, rfl, rfl⟩ (And.intro rfl ?_)))
          refine fcallp hB21 (ct_City_level_61deb (fBz h0 hB21)) ?_
          rintro _ ⟨z22, rfl, hz22⟩
          refine Exists.intro xm_30 (And.intro mi_30 (And.intro ⟨rfl, rfl, rfl, rfl⟩ (And.intro rfl ?_)))
          refine fcall _ h0 (fzs_sub (by decide +kernel) hW) hB21 (ct_Charter_put_c2709 (fBz h0 hB21) (by first | exact ⟨by decide, by decide⟩ | omega) (by first | exact ⟨Int.le_trans (by decide) hz22.1, Int.le_trans hz22.2 (by decide)⟩ | omega)) ?_
          rintro IhB24 _ hB24 fhB24 rfl
          exact rfl
        · intro c25
          refine And.intro ⟨rfl, by decide, by decide⟩ ?_
          refine fload1 rL_171_171_0_23_1_0 h0 hB11 ⟨by decide, by decide⟩ (by first | exact ⟨ha2.1, ha2.2⟩ | omega) ?_
          intro z26 lz26 uz26 qz26
          refine Exists.intro xm_30 (And.intro mi_30 (And.intro ⟨rfl, rfl, rfl, rfl⟩ (And.intro rfl ?_)))
          refine fcall _ h0 (fzs_sub (by decide +kernel) hW) hB11 (ct_Charter_put_c2709 (fBz h0 hB11) (by first | exact ⟨by decide, by decide⟩ | omega) (by first | exact ⟨lz26, uz26⟩ | omega)) ?_
          rintro IhB28 _ hB28 fhB28 rfl
          refine And.intro ⟨rfl, by decide, by decide⟩ ?_
          refine fload1 rL_168_168_0_23_1_0 h0 hB28 ⟨by decide, by decide⟩ (by first | exact ⟨ha2.1, ha2.2⟩ | omega) ?_
          intro z29 lz29 uz29 qz29
          refine Exists.intro xm_30 (And.intro mi_30 (And.intro ⟨rfl, rfl, rfl, rfl⟩ (And.intro rfl ?_)))
          refine fcall _ h0 (fzs_sub (by decide +kernel) hW) hB28 (ct_Charter_put_c2709 (fBz h0 hB28) (by first | exact ⟨by decide, by decide⟩ | omega) (by first | exact ⟨lz29, uz29⟩ | omega)) ?_
          rintro IhB31 _ hB31 fhB31 rfl
          refine And.intro ⟨rfl, by decide, by decide⟩ ?_
          refine And.intro ⟨rfl, by decide, by decide⟩ ?_
          refine fload1 rL_165_165_0_23_1_0 h0 hB31 ⟨by decide, by decide⟩ (by first | exact ⟨ha2.1, ha2.2⟩ | omega) ?_
          intro z32 lz32 uz32 qz32
          refine Exists.intro xm_20 (And.intro mi_20 (And.intro ⟨rfl, rfl, rfl, rfl⟩ (And.intro rfl ?_)))
          refine fcallp hB31 (ct_People_livingIn_ff6d0 (fBz h0 hB31) (by first | exact ⟨lz32, uz32⟩ | omega)) ?_
          rintro _ ⟨z33, rfl, hz33⟩
          refine Exists.intro xm_30 (And.intro mi_30 (And.intro ⟨rfl, rfl, rfl, rfl⟩ (And.intro rfl ?_)))
          refine fcall _ h0 (fzs_sub (by decide +kernel) hW) hB31 (ct_Charter_put_c2709 (fBz h0 hB31) (by first | exact ⟨by decide, by decide⟩ | omega) (by first | exact ⟨hz33.1, hz33.2⟩ | omega)) ?_
          rintro IhB35 _ hB35 fhB35 rfl
          refine Exists.intro xm_31 (And.intro mi_31 (And.intro ⟨rfl, rfl, rfl, rfl⟩ (And.intro rfl ?_)))
          refine fcallp hB35 (ct_City_level_61deb (fBz h0 hB35)) ?_
          rintro _ ⟨z36, rfl, hz36⟩
          refine Exists.intro xm_30 (And.intro mi_30 (And.intro ⟨rfl, rfl, rfl, rfl⟩ (And.intro rfl ?_)))
          refine fcall _ h0 (fzs_sub (by decide +kernel) hW) hB35 (ct_Charter_put_c2709 (fBz h0 hB35) (by first | exact ⟨by decide, by decide⟩ | omega) (by first | exact ⟨Int.le_trans (by decide) hz36.1, Int.le_trans hz36.2 (by decide)⟩ | omega)) ?_
          rintro IhB38 _ hB38 fhB38 rfl
          exact rfl
      · intro c39
        refine And.intro ⟨rfl, by decide, by decide⟩ ?_
        refine fload1 rL_172_172_0_23_1_0 h0 hB8 ⟨by decide, by decide⟩ (by first | exact ⟨ha2.1, ha2.2⟩ | omega) ?_
        intro z40 lz40 uz40 qz40
        refine Exists.intro xm_30 (And.intro mi_30 (And.intro ⟨rfl, rfl, rfl, rfl⟩ (And.intro rfl ?_)))
        refine fcall _ h0 (fzs_sub (by decide +kernel) hW) hB8 (ct_Charter_put_c2709 (fBz h0 hB8) (by first | exact ⟨by decide, by decide⟩ | omega) (by first | exact ⟨lz40, uz40⟩ | omega)) ?_
        rintro IhB42 _ hB42 fhB42 rfl
        refine And.intro (by omega) (And.intro ?_ ?_)
        · intro c43
          refine Exists.intro xm_30 (And.intro mi_30 (And.intro ⟨rfl, rfl, rfl, rfl⟩ (And.intro rfl ?_)))
          refine fcall _ h0 (fzs_sub (by decide +kernel) hW) hB42 (ct_Charter_put_c2709 (fBz h0 hB42) (by first | exact ⟨by decide, by decide⟩ | omega) (by omega)) ?_
          rintro IhB45 _ hB45 fhB45 rfl
          refine And.intro ⟨rfl, by decide, by decide⟩ ?_
          refine fload1 rL_168_168_0_23_1_0 h0 hB45 ⟨by decide, by decide⟩ (by first | exact ⟨ha2.1, ha2.2⟩ | omega) ?_
          intro z46 lz46 uz46 qz46
          refine Exists.intro xm_30 (And.intro mi_30 (And.intro ⟨rfl, rfl, rfl, rfl⟩ (And.intro rfl ?_)))
          refine fcall _ h0 (fzs_sub (by decide +kernel) hW) hB45 (ct_Charter_put_c2709 (fBz h0 hB45) (by first | exact ⟨by decide, by decide⟩ | omega) (by first | exact ⟨lz46, uz46⟩ | omega)) ?_
          rintro IhB48 _ hB48 fhB48 rfl
          refine And.intro ⟨rfl, by decide, by decide⟩ ?_
          refine And.intro ⟨rfl, by decide, by decide⟩ ?_
          refine fload1 rL_165_165_0_23_1_0 h0 hB48 ⟨by decide, by decide⟩ (by first | exact ⟨ha2.1, ha2.2⟩ | omega) ?_
          intro z49 lz49 uz49 qz49
          refine Exists.intro xm_20 (And.intro mi_20 (And.intro ⟨rfl, rfl, rfl, rfl⟩ (And.intro rfl ?_)))
          refine fcallp hB48 (ct_People_livingIn_ff6d0 (fBz h0 hB48) (by first | exact ⟨lz49, uz49⟩ | omega)) ?_
          rintro _ ⟨z50, rfl, hz50⟩
          refine Exists.intro xm_30 (And.intro mi_30 (And.intro ⟨rfl, rfl, rfl, rfl⟩ (And.intro rfl ?_)))
          refine fcall _ h0 (fzs_sub (by decide +kernel) hW) hB48 (ct_Charter_put_c2709 (fBz h0 hB48) (by first | exact ⟨by decide, by decide⟩ | omega) (by first | exact ⟨hz50.1, hz50.2⟩ | omega)) ?_
          rintro IhB52 _ hB52 fhB52 rfl
          refine Exists.intro xm_31 (And.intro mi_31 (And.intro ⟨rfl, rfl, rfl, rfl⟩ (And.intro rfl ?_)))
          refine fcallp hB52 (ct_City_level_61deb (fBz h0 hB52)) ?_
          rintro _ ⟨z53, rfl, hz53⟩
          refine Exists.intro xm_30 (And.intro mi_30 (And.intro ⟨rfl, rfl, rfl, rfl⟩ (And.intro rfl ?_)))
          refine fcall _ h0 (fzs_sub (by decide +kernel) hW) hB52 (ct_Charter_put_c2709 (fBz h0 hB52) (by first | exact ⟨by decide, by decide⟩ | omega) (by first | exact ⟨Int.le_trans (by decide) hz53.1, Int.le_trans hz53.2 (by decide)⟩ | omega)) ?_
          rintro IhB55 _ hB55 fhB55 rfl
          exact rfl
        · intro c56
          refine And.intro ⟨rfl, by decide, by decide⟩ ?_
          refine fload1 rL_171_171_0_23_1_0 h0 hB42 ⟨by decide, by decide⟩ (by first | exact ⟨ha2.1, ha2.2⟩ | omega) ?_
          intro z57 lz57 uz57 qz57
          refine Exists.intro xm_30 (And.intro mi_30 (And.intro ⟨rfl, rfl, rfl, rfl⟩ (And.intro rfl ?_)))
          refine fcall _ h0 (fzs_sub (by decide +kernel) hW) hB42 (ct_Charter_put_c2709 (fBz h0 hB42) (by first | exact ⟨by decide, by decide⟩ | omega) (by first | exact ⟨lz57, uz57⟩ | omega)) ?_
          rintro IhB59 _ hB59 fhB59 rfl
          refine And.intro ⟨rfl, by decide, by decide⟩ ?_
          refine fload1 rL_168_168_0_23_1_0 h0 hB59 ⟨by decide, by decide⟩ (by first | exact ⟨ha2.1, ha2.2⟩ | omega) ?_
          intro z60 lz60 uz60 qz60
          refine Exists.intro xm_30 (And.intro mi_30 (And.intro ⟨rfl, rfl, rfl, rfl⟩ (And.intro rfl ?_)))
          refine fcall _ h0 (fzs_sub (by decide +kernel) hW) hB59 (ct_Charter_put_c2709 (fBz h0 hB59) (by first | exact ⟨by decide, by decide⟩ | omega) (by first | exact ⟨lz60, uz60⟩ | omega)) ?_
          rintro IhB62 _ hB62 fhB62 rfl
          refine And.intro ⟨rfl, by decide, by decide⟩ ?_
          refine And.intro ⟨rfl, by decide, by decide⟩ ?_
          refine fload1 rL_165_165_0_23_1_0 h0 hB62 ⟨by decide, by decide⟩ (by first | exact ⟨ha2.1, ha2.2⟩ | omega) ?_
          intro z63 lz63 uz63 qz63
          refine Exists.intro xm_20 (And.intro mi_20 (And.intro ⟨rfl, rfl, rfl, rfl⟩ (And.intro rfl ?_)))
          refine fcallp hB62 (ct_People_livingIn_ff6d0 (fBz h0 hB62) (by first | exact ⟨lz63, uz63⟩ | omega)) ?_
          rintro _ ⟨z64, rfl, hz64⟩
          refine Exists.intro xm_30 (And.intro mi_30 (And.intro ⟨rfl, rfl, rfl, rfl⟩ (And.intro rfl ?_)))
          refine fcall _ h0 (fzs_sub (by decide +kernel) hW) hB62 (ct_Charter_put_c2709 (fBz h0 hB62) (by first | exact ⟨by decide, by decide⟩ | omega) (by first | exact ⟨hz64.1, hz64.2⟩ | omega)) ?_
          rintro IhB66 _ hB66 fhB66 rfl
          refine Exists.intro xm_31 (And.intro mi_31 (And.intro ⟨rfl, rfl, rfl, rfl⟩ (And.intro rfl ?_)))
          refine fcallp hB66 (ct_City_level_61deb (fBz h0 hB66)) ?_
          rintro _ ⟨z67, rfl, hz67⟩
          refine Exists.intro xm_30 (And.intro mi_30 (And.intro ⟨rfl, rfl, rfl, rfl⟩ (And.intro rfl ?_)))
          refine fcall _ h0 (fzs_sub (by decide +kernel) hW) hB66 (ct_Charter_put_c2709 (fBz h0 hB66) (by first | exact ⟨by decide, by decide⟩ | omega) (by first | exact ⟨Int.le_trans (by decide) hz67.1, Int.le_trans hz67.2 (by decide)⟩ | omega)) ?_
          rintro IhB69 _ hB69 fhB69 rfl
          exact rfl
    · intro c70
      refine And.intro ⟨rfl, by decide, by decide⟩ ?_
      refine fload1 rL_164_164_0_23_1_0 h0 hB0 ⟨by decide, by decide⟩ (by first | exact ⟨ha2.1, ha2.2⟩ | omega) ?_
      intro z71 lz71 uz71 qz71
      refine Exists.intro xm_30 (And.intro mi_30 (And.intro ⟨rfl, rfl, rfl, rfl⟩ (And.intro rfl ?_)))
      refine fcall _ h0 (fzs_sub (by decide +kernel) hW) hB0 (ct_Charter_put_c2709 (fBz h0 hB0) (by first | exact ⟨by decide, by decide⟩ | omega) (by first | exact ⟨lz71, uz71⟩ | omega)) ?_
      rintro IhB73 _ hB73 fhB73 rfl
      refine And.intro ⟨rfl, by decide, by decide⟩ ?_
      refine fload1 rL_166_166_0_23_1_0 h0 hB73 ⟨by decide, by decide⟩ (by first | exact ⟨ha2.1, ha2.2⟩ | omega) ?_
      intro z74 lz74 uz74 qz74
      refine Exists.intro xm_30 (And.intro mi_30 (And.intro ⟨rfl, rfl, rfl, rfl⟩ (And.intro rfl ?_)))
      refine fcall _ h0 (fzs_sub (by decide +kernel) hW) hB73 (ct_Charter_put_c2709 (fBz h0 hB73) (by first | exact ⟨by decide, by decide⟩ | omega) (by first | exact ⟨lz74, uz74⟩ | omega)) ?_
      rintro IhB76 _ hB76 fhB76 rfl
      refine And.intro (by first | exact ⟨by decide, by decide⟩ | omega) (And.intro ?_ ?_)
      · intro c77
        refine Exists.intro xm_30 (And.intro mi_30 (And.intro ⟨rfl, rfl, rfl, rfl⟩ (And.intro rfl ?_)))
        refine fcall _ h0 (fzs_sub (by decide +kernel) hW) hB76 (ct_Charter_put_c2709 (fBz h0 hB76) (by first | exact ⟨by decide, by decide⟩ | omega) (by omega)) ?_
        rintro IhB79 _ hB79 fhB79 rfl
        refine And.intro (by first | exact ⟨by decide, by decide⟩ | omega) (And.intro ?_ ?_)
        · intro c80
          refine Exists.intro xm_30 (And.intro mi_30 (And.intro ⟨rfl, rfl, rfl, rfl⟩ (And.intro rfl ?_)))
          refine fcall _ h0 (fzs_sub (by decide +kernel) hW) hB79 (ct_Charter_put_c2709 (fBz h0 hB79) (by first | exact ⟨by decide, by decide⟩ | omega) (by omega)) ?_
          rintro IhB82 _ hB82 fhB82 rfl
          refine And.intro ⟨rfl, by decide, by decide⟩ ?_
          refine fload1 rL_168_168_0_23_1_0 h0 hB82 ⟨by decide, by decide⟩ (by first | exact ⟨ha2.1, ha2.2⟩ | omega) ?_
          intro z83 lz83 uz83 qz83
          refine Exists.intro xm_30 (And.intro mi_30 (And.intro ⟨rfl, rfl, rfl, rfl⟩ (And.intro rfl ?_)))
          refine fcall _ h0 (fzs_sub (by decide +kernel) hW) hB82 (ct_Charter_put_c2709 (fBz h0 hB82) (by first | exact ⟨by decide, by decide⟩ | omega) (by first | exact ⟨lz83, uz83⟩ | omega)) ?_
          rintro IhB85 _ hB85 fhB85 rfl
          refine And.intro ⟨rfl, by decide, by decide⟩ ?_
          refine And.intro ⟨rfl, by decide, by decide⟩ ?_
          refine fload1 rL_165_165_0_23_1_0 h0 hB85 ⟨by decide, by decide⟩ (by first | exact ⟨ha2.1, ha2.2⟩ | omega) ?_
          intro z86 lz86 uz86 qz86
          refine Exists.intro xm_20 (And.intro mi_20 (And.intro ⟨rfl, rfl, rfl, rfl⟩ (And.intro rfl ?_)))
          refine fcallp hB85 (ct_People_livingIn_ff6d0 (fBz h0 hB85) (by first | exact ⟨lz86, uz86⟩ | omega)) ?_
          rintro _ ⟨z87, rfl, hz87⟩
          refine Exists.intro xm_30 (And.intro mi_30 (And.intro ⟨rfl, rfl, rfl, rfl⟩ (And.intro rfl ?_)))
          refine fcall _ h0 (fzs_sub (by decide +kernel) hW) hB85 (ct_Charter_put_c2709 (fBz h0 hB85) (by first | exact ⟨by decide, by decide⟩ | omega) (by first | exact ⟨hz87.1, hz87.2⟩ | omega)) ?_
          rintro IhB89 _ hB89 fhB89 rfl
          refine Exists.intro xm_31 (And.intro mi_31 (And.intro ⟨rfl, rfl, rfl, rfl⟩ (And.intro rfl ?_)))
          refine fcallp hB89 (ct_City_level_61deb (fBz h0 hB89)) ?_
          rintro _ ⟨z90, rfl, hz90⟩
          refine Exists.intro xm_30 (And.intro mi_30 (And.intro ⟨rfl, rfl, rfl, rfl⟩ (And.intro rfl ?_)))
          refine fcall _ h0 (fzs_sub (by decide +kernel) hW) hB89 (ct_Charter_put_c2709 (fBz h0 hB89) (by first | exact ⟨by decide, by decide⟩ | omega) (by first | exact ⟨Int.le_trans (by decide) hz90.1, Int.le_trans hz90.2 (by decide)⟩ | omega)) ?_
          rintro IhB92 _ hB92 fhB92 rfl
          exact rfl
        · intro c93
          refine And.intro ⟨rfl, by decide, by decide⟩ ?_
          refine fload1 rL_171_171_0_23_1_0 h0 hB79 ⟨by decide, by decide⟩ (by first | exact ⟨ha2.1, ha2.2⟩ | omega) ?_
          intro z94 lz94 uz94 qz94
          refine Exists.intro xm_30 (And.intro mi_30 (And.intro ⟨rfl, rfl, rfl, rfl⟩ (And.intro rfl ?_)))
          refine fcall _ h0 (fzs_sub (by decide +kernel) hW) hB79 (ct_Charter_put_c2709 (fBz h0 hB79) (by first | exact ⟨by decide, by decide⟩ | omega) (by first | exact ⟨lz94, uz94⟩ | omega)) ?_
          rintro IhB96 _ hB96 fhB96 rfl
          refine And.intro ⟨rfl, by decide, by decide⟩ ?_
          refine fload1 rL_168_168_0_23_1_0 h0 hB96 ⟨by decide, by decide⟩ (by first | exact ⟨ha2.1, ha2.2⟩ | omega) ?_
          intro z97 lz97 uz97 qz97
          refine Exists.intro xm_30 (And.intro mi_30 (And.intro ⟨rfl, rfl, rfl, rfl⟩ (And.intro rfl ?_)))
          refine fcall _ h0 (fzs_sub (by decide +kernel) hW) hB96 (ct_Charter_put_c2709 (fBz h0 hB96) (by first | exact ⟨by decide, by decide⟩ | omega) (by first | exact ⟨lz97, uz97⟩ | omega)) ?_
          rintro IhB99 _ hB99 fhB99 rfl
          refine And.intro ⟨rfl, by decide, by decide⟩ ?_
          refine And.intro ⟨rfl, by decide, by decide⟩ ?_
          refine fload1 rL_165_165_0_23_1_0 h0 hB99 ⟨by decide, by decide⟩ (by first | exact ⟨ha2.1, ha2.2⟩ | omega) ?_
          intro z100 lz100 uz100 qz100
          refine Exists.intro xm_20 (And.intro mi_20 (And.intro ⟨rfl, rfl, rfl, rfl⟩ (And.intro rfl ?_)))
          refine fcallp hB99 (ct_People_livingIn_ff6d0 (fBz h0 hB99) (by first | exact ⟨lz100, uz100⟩ | omega)) ?_
          rintro _ ⟨z101, rfl, hz101⟩
          refine Exists.intro xm_30 (And.intro mi_30 (And.intro ⟨rfl, rfl, rfl, rfl⟩ (And.intro rfl ?_)))
          refine fcall _ h0 (fzs_sub (by decide +kernel) hW) hB99 (ct_Charter_put_c2709 (fBz h0 hB99) (by first | exact ⟨by decide, by decide⟩ | omega) (by first | exact ⟨hz101.1, hz101.2⟩ | omega)) ?_
          rintro IhB103 _ hB103 fhB103 rfl
          refine Exists.intro xm_31 (And.intro mi_31 (And.intro ⟨rfl, rfl, rfl, rfl⟩ (And.intro rfl ?_)))
          refine fcallp hB103 (ct_City_level_61deb (fBz h0 hB103)) ?_
          rintro _ ⟨z104, rfl, hz104⟩
          refine Exists.intro xm_30 (And.intro mi_30 (And.intro ⟨rfl, rfl, rfl, rfl⟩ (And.intro rfl ?_)))
          refine fcall _ h0 (fzs_sub (by decide +kernel) hW) hB103 (ct_Charter_put_c2709 (fBz h0 hB103) (by first | exact ⟨by decide, by decide⟩ | omega) (by first | exact ⟨Int.le_trans (by decide) hz104.1, Int.le_trans hz104.2 (by decide)⟩ | omega)) ?_
          rintro IhB106 _ hB106 fhB106 rfl
          exact rfl
      · intro c107
        refine And.intro ⟨rfl, by decide, by decide⟩ ?_
        refine fload1 rL_172_172_0_23_1_0 h0 hB76 ⟨by decide, by decide⟩ (by first | exact ⟨ha2.1, ha2.2⟩ | omega) ?_
        intro z108 lz108 uz108 qz108
        refine Exists.intro xm_30 (And.intro mi_30 (And.intro ⟨rfl, rfl, rfl, rfl⟩ (And.intro rfl ?_)))
        refine fcall _ h0 (fzs_sub (by decide +kernel) hW) hB76 (ct_Charter_put_c2709 (fBz h0 hB76) (by first | exact ⟨by decide, by decide⟩ | omega) (by first | exact ⟨lz108, uz108⟩ | omega)) ?_
        rintro IhB110 _ hB110 fhB110 rfl
        refine And.intro (by first | exact ⟨by decide, by decide⟩ | omega) (And.intro ?_ ?_)
        · intro c111
          refine Exists.intro xm_30 (And.intro mi_30 (And.intro ⟨rfl, rfl, rfl, rfl⟩ (And.intro rfl ?_)))
          refine fcall _ h0 (fzs_sub (by decide +kernel) hW) hB110 (ct_Charter_put_c2709 (fBz h0 hB110) (by first | exact ⟨by decide, by decide⟩ | omega) (by omega)) ?_
          rintro IhB113 _ hB113 fhB113 rfl
          refine And.intro ⟨rfl, by decide, by decide⟩ ?_
          refine fload1 rL_168_168_0_23_1_0 h0 hB113 ⟨by decide, by decide⟩ (by first | exact ⟨ha2.1, ha2.2⟩ | omega) ?_
          intro z114 lz114 uz114 qz114
          refine Exists.intro xm_30 (And.intro mi_30 (And.intro ⟨rfl, rfl, rfl, rfl⟩ (And.intro rfl ?_)))
          refine fcall _ h0 (fzs_sub (by decide +kernel) hW) hB113 (ct_Charter_put_c2709 (fBz h0 hB113) (by first | exact ⟨by decide, by decide⟩ | omega) (by first | exact ⟨lz114, uz114⟩ | omega)) ?_
          rintro IhB116 _ hB116 fhB116 rfl
          refine And.intro ⟨rfl, by decide, by decide⟩ ?_
          refine And.intro ⟨rfl, by decide, by decide⟩ ?_
          refine fload1 rL_165_165_0_23_1_0 h0 hB116 ⟨by decide, by decide⟩ (by first | exact ⟨ha2.1, ha2.2⟩ | omega) ?_
          intro z117 lz117 uz117 qz117
          refine Exists.intro xm_20 (And.intro mi_20 (And.intro ⟨rfl, rfl, rfl, rfl⟩ (And.intro rfl ?_)))
          refine fcallp hB116 (ct_People_livingIn_ff6d0 (fBz h0 hB116) (by first | exact ⟨lz117, uz117⟩ | omega)) ?_
          rintro _ ⟨z118, rfl, hz118⟩
          refine Exists.intro xm_30 (And.intro mi_30 (And.intro ⟨rfl, rfl, rfl, rfl⟩ (And.intro rfl ?_)))
          refine fcall _ h0 (fzs_sub (by decide +kernel) hW) hB116 (ct_Charter_put_c2709 (fBz h0 hB116) (by first | exact ⟨by decide, by decide⟩ | omega) (by first | exact ⟨hz118.1, hz118.2⟩ | omega)) ?_
          rintro IhB120 _ hB120 fhB120 rfl
          refine Exists.intro xm_31 (And.intro mi_31 (And.intro ⟨rfl, rfl, rfl, rfl⟩ (And.intro rfl ?_)))
          refine fcallp hB120 (ct_City_level_61deb (fBz h0 hB120)) ?_
          rintro _ ⟨z121, rfl, hz121⟩
          refine Exists.intro xm_30 (And.intro mi_30 (And.intro ⟨rfl, rfl, rfl, rfl⟩ (And.intro rfl ?_)))
          refine fcall _ h0 (fzs_sub (by decide +kernel) hW) hB120 (ct_Charter_put_c2709 (fBz h0 hB120) (by first | exact ⟨by decide, by decide⟩ | omega) (by first | exact ⟨Int.le_trans (by decide) hz121.1, Int.le_trans hz121.2 (by decide)⟩ | omega)) ?_
          rintro IhB123 _ hB123 fhB123 rfl
          exact rfl
        · intro c124
          refine And.intro ⟨rfl, by decide, by decide⟩ ?_
          refine fload1 rL_171_171_0_23_1_0 h0 hB110 ⟨by decide, by decide⟩ (by first | exact ⟨ha2.1, ha2.2⟩ | omega) ?_
          intro z125 lz125 uz125 qz125
          refine Exists.intro xm_30 (And.intro mi_30 (And.intro ⟨rfl, rfl, rfl, rfl⟩ (And.intro rfl ?_)))
          refine fcall _ h0 (fzs_sub (by decide +kernel) hW) hB110 (ct_Charter_put_c2709 (fBz h0 hB110) (by first | exact ⟨by decide, by decide⟩ | omega) (by first | exact ⟨lz125, uz125⟩ | omega)) ?_
          rintro IhB127 _ hB127 fhB127 rfl
          refine And.intro ⟨rfl, by decide, by decide⟩ ?_
          refine fload1 rL_168_168_0_23_1_0 h0 hB127 ⟨by decide, by decide⟩ (by first | exact ⟨ha2.1, ha2.2⟩ | omega) ?_
          intro z128 lz128 uz128 qz128
          refine Exists.intro xm_30 (And.intro mi_30 (And.intro ⟨rfl, rfl, rfl, rfl⟩ (And.intro rfl ?_)))
          refine fcall _ h0 (fzs_sub (by decide +kernel) hW) hB127 (ct_Charter_put_c2709 (fBz h0 hB127) (by first | exact ⟨by decide, by decide⟩ | omega) (by first | exact ⟨lz128, uz128⟩ | omega)) ?_
          rintro IhB130 _ hB130 fhB130 rfl
          refine And.intro ⟨rfl, by decide, by decide⟩ ?_
          refine And.intro ⟨rfl, by decide, by decide⟩ ?_
          refine fload1 rL_165_165_0_23_1_0 h0 hB130 ⟨by decide, by decide⟩ (by first | exact ⟨ha2.1, ha2.2⟩ | omega) ?_
          intro z131 lz131 uz131 qz131
          refine Exists.intro xm_20 (And.intro mi_20 (And.intro ⟨rfl, rfl, rfl, rfl⟩ (And.intro rfl ?_)))
          refine fcallp hB130 (ct_People_livingIn_ff6d0 (fBz h0 hB130) (by first | exact ⟨lz131, uz131⟩ | omega)) ?_
          rintro _ ⟨z132, rfl, hz132⟩
          refine Exists.intro xm_30 (And.intro mi_30 (And.intro ⟨rfl, rfl, rfl, rfl⟩ (And.intro rfl ?_)))
          refine fcall _ h0 (fzs_sub (by decide +kernel) hW) hB130 (ct_Charter_put_c2709 (fBz h0 hB130) (by first | exact ⟨by decide, by decide⟩ | omega) (by first | exact ⟨hz132.1, hz132.2⟩ | omega)) ?_
          rintro IhB134 _ hB134 fhB134 rfl
          refine Exists.intro xm_31 (And.intro mi_31 (And.intro ⟨rfl, rfl, rfl, rfl⟩ (And.intro rfl ?_)))
          refine fcallp hB134 (ct_City_level_61deb (fBz h0 hB134)) ?_
          rintro _ ⟨z135, rfl, hz135⟩
          refine Exists.intro xm_30 (And.intro mi_30 (And.intro ⟨rfl, rfl, rfl, rfl⟩ (And.intro rfl ?_)))
          refine fcall _ h0 (fzs_sub (by decide +kernel) hW) hB134 (ct_Charter_put_c2709 (fBz h0 hB134) (by first | exact ⟨by decide, by decide⟩ | omega) (by first | exact ⟨Int.le_trans (by decide) hz135.1, Int.le_trans hz135.2 (by decide)⟩ | omega)) ?_
          rintro IhB137 _ hB137 fhB137 rfl
          exact rfl
set_option maxRecDepth 8000 in
theorem ct_Charter_shedWorth_7321f {I : fH} {x2 : Int} (h0 : fB bsJ I) (ha2 : (0 ≤ x2 ∧ x2 ≤ 23)) : fC ρ base n F xTc vwCl xTys D dA la gJ (fbz bsJ znJ (fKc wz_7d09b) I) xm_150 [.inr (.inr (some 187)), .inr (.inr (some 1)), .inl x2] I (fun _ r => ∃ z, r = some (.inl z) ∧ ((-2147483648) ≤ z ∧ z ≤ 2147483647)) := by
  have hW : fzs wz_7d09b (fKc wz_7d09b) := fKc_ok _
  refine f_meth (rb := rbJ) (J := []) 1 400 xG xin_150 x6_150 okJ (fB_self h0) ?_ ?_
  · exact fun q h => absurd h List.not_mem_nil
  · have hB0 := fB_self (zn := znJ) (K := fKc wz_7d09b) h0
    refine And.intro ⟨rfl, by decide, by decide⟩ ?_
    refine Exists.intro xm_50 (And.intro mi_50 (And.intro ⟨rfl, rfl, rfl, rfl⟩ (And.intro rfl ?_)))
    refine fcallp hB0 (ct_Works_isGone_6681e (fBz h0 hB0) (by first | exact ⟨ha2.1, ha2.2⟩ | omega)) ?_
    rintro _ ⟨z1, rfl, hz1⟩
    refine And.intro (by omega) (And.intro ?_ ?_)
    · intro c2
      refine Exists.intro xm_32 (And.intro mi_32 (And.intro ⟨rfl, rfl, rfl, rfl⟩ (And.intro rfl ?_)))
      refine fcallp hB0 (ct_City_hour_b7a7b (fBz h0 hB0)) ?_
      rintro _ ⟨z3, rfl, hz3⟩
      refine Exists.intro xm_34 (And.intro mi_34 (And.intro ⟨rfl, rfl, rfl, rfl⟩ (And.intro rfl ?_)))
      refine fcallp hB0 (ct_Charter_counting_8f92c (fBz h0 hB0) (by first | exact ⟨by decide, by decide⟩ | omega) (by first | exact ⟨hz3.1, hz3.2⟩ | omega)) ?_
      rintro _ ⟨z4, rfl, hz4⟩
      refine And.intro (by omega) (And.intro ?_ ?_)
      · intro c5
        refine Exists.intro xm_151 (And.intro mi_151 (And.intro ⟨rfl, rfl, rfl, rfl⟩ (And.intro rfl ?_)))
        refine fcall _ h0 (fzs_sub (by decide +kernel) hW) hB0 (ct_Charter_putWork_fb8e9 (fBz h0 hB0) (by first | exact ⟨ha2.1, ha2.2⟩ | omega)) ?_
        rintro IhB7 _ hB7 fhB7 rfl
        refine Exists.intro xm_36 (And.intro mi_36 (And.intro ⟨rfl, rfl, rfl, rfl⟩ (And.intro rfl ?_)))
        refine fcall _ h0 (fzs_sub (by decide +kernel) hW) hB7 (ct_Charter_worth_04d20 (fBz h0 hB7) (by omega)) ?_
        rintro IhB9 _ hB9 fhB9 ⟨z8, rfl, hz8⟩
        refine And.intro (True.intro) ?_
        exact ⟨_, rfl, (by first | exact ⟨hz8.1, hz8.2⟩ | omega)⟩
      · intro c10
        refine And.intro ⟨rfl, by decide, by decide⟩ ?_
        refine And.intro ⟨rfl, by decide, by decide⟩ ?_
        refine fload1 rL_166_166_0_23_1_0 h0 hB0 ⟨by decide, by decide⟩ (by first | exact ⟨ha2.1, ha2.2⟩ | omega) ?_
        intro z11 lz11 uz11 qz11
        refine And.intro (True.intro) ?_
        exact ⟨_, rfl, (by first | exact ⟨lz11, uz11⟩ | omega)⟩
    · intro c12
      refine And.intro (True.intro) ?_
      exact ⟨_, rfl, (by first | exact ⟨by decide, by decide⟩ | omega)⟩
abbrev jc_Charter_rankSheds_09e4d_2 : Nat → fL → List fV → fH → Prop := fun m lv st I => ∃ (y2 : Int), lv = [(0, .inr (.inr (some 187))), (1, .inr (.inr (some 1))), (2, .inl y2)] ∧ st = [] ∧ (((0 ≤ y2 ∧ y2 ≤ 24))) ∧ m = (1 + 1 * (24 - y2) : Int).toNat
set_option maxRecDepth 8000 in
theorem ct_Charter_rankSheds_09e4d {I : fH}  (h0 : fB bsJ I)  : fC ρ base n F xTc vwCl xTys D dA la gJ (fbz bsJ znJ (fKc wz_b4fc8) I) xm_149 [.inr (.inr (some 187)), .inr (.inr (some 1))] I (fun _ r => r = none) := by
  have hW : fzs wz_b4fc8 (fKc wz_b4fc8) := fKc_ok _
  refine f_meth (rb := rbJ) (J := [(2, jc_Charter_rankSheds_09e4d_2)]) 26 400 xG xin_149 x6_149 okJ (fB_self h0) ?_ ?_
  · refine List.forall_mem_cons.mpr ⟨?_, fun q h => absurd h List.not_mem_nil⟩
    · rintro m _ _ I1 hB1 ⟨y2, rfl, rfl, hb, hm⟩
      refine And.intro ⟨rfl, by decide, by decide⟩ ?_
      refine And.intro ⟨rfl, by decide, by decide⟩ (fgetf fb_163_13 h0 hB1 ?_)
      intro z1 lz1 uz1 qz1
      refine And.intro (And.intro (by first | exact fi_ hb.1 hb.2 rfl | omega) (by first | exact fi_ lz1 uz1 rfl | omega)) (And.intro ?_ ?_)
      · intro c2
        exact rfl
      · intro c3
        refine And.intro ⟨rfl, by decide, by decide⟩ ?_
        refine Exists.intro xm_150 (And.intro mi_150 (And.intro ⟨rfl, rfl, rfl, rfl⟩ (And.intro rfl ?_)))
        refine fcall _ h0 (fzs_sub (by decide +kernel) hW) hB1 (ct_Charter_shedWorth_7321f (fBz h0 hB1) (by first | exact ⟨hb.1, Int.le_trans (Int.le_sub_one_of_lt (Int.lt_of_lt_of_le c3 uz1)) (by decide)⟩ | omega)) ?_
        rintro IhB5 _ hB5 fhB5 ⟨z4, rfl, hz4⟩
        have t6 := fhB5 163 13 (by decide +kernel)
        refine fstore1 rS_210_210_0_23_1_0 (fzs_sub (by decide +kernel) hW) ⟨by decide, by decide⟩ (by first | exact ⟨hb.1, Int.le_trans (Int.le_sub_one_of_lt (Int.lt_of_lt_of_le c3 uz1)) (by decide)⟩ | omega) (by first | exact ⟨hz4.1, hz4.2⟩ | omega) ?_
        intro IhB7 ehB7 hB7
        have t8 := fup_self ehB7
        have t9 : IhB7 163 13 = IhB5 163 13 := (congrFun (congrFun ehB7 163) 13).trans (fup_ne (by first | exact Or.inl (by decide) | omega))
        exact fcutJ (I := IhB7) (j := jc_Charter_rankSheds_09e4d_2) (lv' := [(0, .inr (.inr (some 187))), (1, .inr (.inr (some 1))), (2, .inl _)]) (And.intro rfl (And.intro rfl (And.intro rfl True.intro))) ⟨_, rfl, rfl, by omega, rfl⟩ (by omega)
  · have hB0 := fB_self (zn := znJ) (K := fKc wz_b4fc8) h0
    exact fcutJ (I := I) (j := jc_Charter_rankSheds_09e4d_2) (lv' := [(0, .inr (.inr (some 187))), (1, .inr (.inr (some 1))), (2, .inl _)]) (And.intro rfl (And.intro rfl (And.intro rfl True.intro))) ⟨_, rfl, rfl, by omega, rfl⟩ (by omega)
abbrev jc_X_order_a16c4_32 : Nat → fL → List fV → fH → Prop := fun m lv st I => ∃ (y1 : Int) (y2 : Int) (y3 : Int), lv = [(0, .inr (.inr (some 0))), (1, .inl y1), (2, .inl y2), (3, .inl y3)] ∧ st = [] ∧ (((0 ≤ y1 ∧ y1 ≤ 2147483647) ∧ ((0 ≤ y2 ∧ y2 ≤ 23) ∨ y2 = (-1000000005)) ∧ (0 ≤ y3 ∧ y3 ≤ 2147483647))) ∧ m = (1 + 1 * (2147483647 - y3) : Int).toNat
set_option maxRecDepth 8000 in
theorem ct_X_order_a16c4 {I : fH} {x1 : Int} (h0 : fB bsJ I) (ha1 : ((-2147483648) ≤ x1 ∧ x1 ≤ 2147483647)) : fC ρ base n F xTc vwCl xTys D dA la gJ (fbz bsJ znJ (fKc wz_b4fc8) I) xm_148 [.inr (.inr (some 0)), .inl x1] I (fun _ r => ∃ z, r = some (.inl z) ∧ ((0 ≤ z ∧ z ≤ 23) ∨ z = (-1000000005) ∨ z = (-1000000001))) := by
  have hW : fzs wz_b4fc8 (fKc wz_b4fc8) := fKc_ok _
  refine f_meth (rb := rbJ) (J := [(32, jc_X_order_a16c4_32)]) 2147483649 400 xG xin_148 x6_148 okJ (fB_self h0) ?_ ?_
  · refine List.forall_mem_cons.mpr ⟨?_, fun q h => absurd h List.not_mem_nil⟩
    · rintro m _ _ I1 hB1 ⟨y1, y2, y3, rfl, rfl, hb, hm⟩
      refine And.intro (And.intro (by first | exact fi_ hb.2.2.1 hb.2.2.2 rfl | omega) (by first | exact fi_ hb.1.1 hb.1.2 rfl | omega)) (And.intro ?_ ?_)
      · intro c1
        refine And.intro (True.intro) ?_
        exact ⟨_, rfl, by omega⟩
      · intro c2
        refine And.intro (by omega) (And.intro ?_ ?_)
        · intro c3
          refine And.intro (True.intro) ?_
          exact ⟨_, rfl, by omega⟩
        · intro c4
          refine And.intro ⟨rfl, by decide, by decide⟩ ?_
          refine And.intro ⟨rfl, by decide, by decide⟩ ?_
          refine Exists.intro xm_152 (And.intro mi_152 (And.intro ⟨rfl, rfl, rfl, rfl⟩ (And.intro rfl ?_)))
          refine fcall _ h0 (fzs_sub (by decide +kernel) hW) hB1 (ct_Charter_nextShed_baa16 (fBz h0 hB1)) ?_
          rintro IhB6 _ hB6 fhB6 ⟨z5, rfl, hz5⟩
          exact fcutJ (I := IhB6) (j := jc_X_order_a16c4_32) (lv' := [(0, .inr (.inr (some 0))), (1, .inl _), (2, .inl _), (3, .inl _)]) (And.intro rfl (And.intro rfl (And.intro rfl (And.intro rfl True.intro)))) ⟨_, _, _, rfl, rfl, by omega, rfl⟩ (by omega)
  · have hB0 := fB_self (zn := znJ) (K := fKc wz_b4fc8) h0
    refine And.intro (by first | exact fi_ ha1.1 ha1.2 rfl | omega) (And.intro ?_ ?_)
    · intro c7
      refine And.intro ⟨rfl, by decide, by decide⟩ ?_
      refine And.intro ⟨rfl, by decide, by decide⟩ ?_
      refine Exists.intro xm_149 (And.intro mi_149 (And.intro ⟨rfl, rfl, rfl, rfl⟩ (And.intro rfl ?_)))
      refine fcall _ h0 (fzs_sub (by decide +kernel) hW) hB0 (ct_Charter_rankSheds_09e4d (fBz h0 hB0)) ?_
      rintro IhB9 _ hB9 fhB9 rfl
      refine And.intro ⟨rfl, by decide, by decide⟩ ?_
      refine And.intro ⟨rfl, by decide, by decide⟩ ?_
      refine Exists.intro xm_152 (And.intro mi_152 (And.intro ⟨rfl, rfl, rfl, rfl⟩ (And.intro rfl ?_)))
      refine fcall _ h0 (fzs_sub (by decide +kernel) hW) hB9 (ct_Charter_nextShed_baa16 (fBz h0 hB9)) ?_
      rintro IhB11 _ hB11 fhB11 ⟨z10, rfl, hz10⟩
      exact fcutJ (I := IhB11) (j := jc_X_order_a16c4_32) (lv' := [(0, .inr (.inr (some 0))), (1, .inl _), (2, .inl _), (3, .inl _)]) (And.intro rfl (And.intro rfl (And.intro rfl (And.intro rfl True.intro)))) ⟨_, _, _, rfl, rfl, by omega, rfl⟩ (by omega)
    · intro c12
      refine And.intro (True.intro) ?_
      exact ⟨_, rfl, by omega⟩
set_option maxRecDepth 8000 in
theorem ct_M_worthOf_2d64c {I : fH} {x1 : Int} {x2 : Int} (h0 : fB bsJ I) (ha1 : ((-1) ≤ x1 ∧ x1 ≤ 11)) (ha2 : (0 ≤ x2 ∧ x2 ≤ 23)) (hp0 : sI I 741) (hp1 : x1 < I 741 9) : fC ρ base n F xTc vwCl xTys D dA la gJ (fbz bsJ znJ (fKc wz_5ef89) I) xm_435 [.inr (.inr (some 740)), .inl x1, .inl x2] I (fun _ r => ∃ z, r = some (.inl z) ∧ ((-2147483648) ≤ z ∧ z ≤ 2147483647)) := by
  have hW : fzs wz_5ef89 (fKc wz_5ef89) := fKc_ok _
  refine f_meth (rb := rbJ) (J := []) 1 400 xG xin_435 x6_435 okJ (fB_self h0) ?_ ?_
  · exact fun q h => absurd h List.not_mem_nil
  · have hB0 := fB_self (zn := znJ) (K := fKc wz_5ef89) h0
    refine Exists.intro xm_244 (And.intro mi_244 (And.intro ⟨rfl, rfl, rfl, rfl⟩ (And.intro rfl ?_)))
    refine fcallp hB0 (ct_M_workAt_83d38 (fBz h0 hB0) (by first | exact ⟨ha2.1, ha2.2⟩ | omega)) ?_
    rintro _ ⟨_, rfl, rfl⟩
    refine And.intro ⟨rfl, by decide, by decide⟩ ?_
    refine fload rL_741_741_530_852_14_0 h0 hB0 (by omega) ?_
    intro z2 lz2 uz2 qz2
    refine And.intro (And.intro (by first | exact fi_ lz2 uz2 rfl | omega) (by first | exact ⟨by decide, by decide⟩ | omega)) (And.intro ?_ ?_)
    · intro c3
      refine And.intro ⟨rfl, by decide, by decide⟩ ?_
      refine And.intro ⟨rfl, by decide, by decide⟩ ?_
      refine fload rL_741_741_530_852_14_0 h0 hB0 (by omega) ?_
      intro z4 lz4 uz4 qz4
      refine fstore1 rS_748_748_0_127_1_0 (fzs_sub (by decide +kernel) hW) ⟨by decide, by decide⟩ (by first | exact ⟨by decide, by decide⟩ | omega) (by first | exact ⟨lz4, uz4⟩ | omega) ?_
      intro IhB5 ehB5 hB5
      have t6 := fup_self ehB5
      have t7 := fup_at ehB5 107 (by first | rfl | omega)
      have k8 := fBz_eq hB5 (a := 741) (j := 9) (by decide +kernel)
      refine And.intro ⟨rfl, by decide, by decide⟩ ?_
      refine And.intro ⟨rfl, by decide, by decide⟩ ?_
      refine fload rL_741_741_532_854_14_0 h0 hB5 (by omega) ?_
      intro z9 lz9 uz9 qz9
      refine fstore1 rS_748_748_0_127_1_0 (fzs_sub (by decide +kernel) hW) ⟨by decide, by decide⟩ (by first | exact ⟨by decide, by decide⟩ | omega) (by first | exact ⟨lz9, uz9⟩ | omega) ?_
      intro IhB10 ehB10 hB10
      have t11 := fup_self ehB10
      have t12 : IhB10 748 107 = IhB5 748 107 := (congrFun (congrFun ehB10 748) 107).trans (fup_ne (by first | decide | omega))
      have t13 := fup_at ehB10 109 (by first | rfl | omega)
      have k14 := fBz_eq hB10 (a := 741) (j := 9) (by decide +kernel)
      refine And.intro ⟨rfl, by decide, by decide⟩ ?_
      refine And.intro (by omega) (And.intro ?_ ?_)
      · intro c15
        refine fstore1 rS_748_748_0_127_1_0 (fzs_sub (by decide +kernel) hW) ⟨by decide, by decide⟩ (by first | exact ⟨by decide, by decide⟩ | omega) (by omega) ?_
        intro IhB16 ehB16 hB16
        have t17 := fup_self ehB16
        have t18 := fup_at ehB16 103 (by first | rfl | omega)
        have t19 : IhB16 748 107 = IhB10 748 107 := (congrFun (congrFun ehB16 748) 107).trans (fup_ne (by first | decide | omega))
        have t20 : IhB16 748 109 = IhB10 748 109 := (congrFun (congrFun ehB16 748) 109).trans (fup_ne (by first | decide | omega))
        have k21 := fBz_eq hB16 (a := 741) (j := 9) (by decide +kernel)
        refine And.intro ⟨rfl, by decide, by decide⟩ ?_
        refine And.intro (by omega) (And.intro ?_ ?_)
        · intro c22
          refine fstore1 rS_748_748_0_127_1_0 (fzs_sub (by decide +kernel) hW) ⟨by decide, by decide⟩ (by first | exact ⟨by decide, by decide⟩ | omega) (by omega) ?_
          intro IhB23 ehB23 hB23
          have t24 := fup_self ehB23
          have t25 : IhB23 748 103 = IhB16 748 103 := (congrFun (congrFun ehB23 748) 103).trans (fup_ne (by first | decide | omega))
          have t26 : IhB23 748 107 = IhB16 748 107 := (congrFun (congrFun ehB23 748) 107).trans (fup_ne (by first | decide | omega))
          have t27 := fup_at ehB23 108 (by first | rfl | omega)
          have t28 : IhB23 748 109 = IhB16 748 109 := (congrFun (congrFun ehB23 748) 109).trans (fup_ne (by first | decide | omega))
          have k29 := fBz_eq hB23 (a := 741) (j := 9) (by decide +kernel)
          refine And.intro ⟨rfl, by decide, by decide⟩ ?_
          refine And.intro ⟨rfl, by decide, by decide⟩ ?_
          refine fload rL_741_741_534_856_14_0 h0 hB23 (by omega) ?_
          intro z30 lz30 uz30 qz30
          refine fstore1 rS_748_748_0_127_1_0 (fzs_sub (by decide +kernel) hW) ⟨by decide, by decide⟩ (by first | exact ⟨by decide, by decide⟩ | omega) (by first | exact ⟨lz30, uz30⟩ | omega) ?_
          intro IhB31 ehB31 hB31
          have t32 := fup_self ehB31
          have t33 := fup_at ehB31 102 (by first | rfl | omega)
          have t34 : IhB31 748 103 = IhB23 748 103 := (congrFun (congrFun ehB31 748) 103).trans (fup_ne (by first | decide | omega))
          have t35 : IhB31 748 107 = IhB23 748 107 := (congrFun (congrFun ehB31 748) 107).trans (fup_ne (by first | decide | omega))
          have t36 : IhB31 748 108 = IhB23 748 108 := (congrFun (congrFun ehB31 748) 108).trans (fup_ne (by first | decide | omega))
          have t37 : IhB31 748 109 = IhB23 748 109 := (congrFun (congrFun ehB31 748) 109).trans (fup_ne (by first | decide | omega))
          have k38 := fBz_eq hB31 (a := 741) (j := 9) (by decide +kernel)
          refine And.intro ⟨rfl, by decide, by decide⟩ ?_
          refine And.intro ⟨rfl, by decide, by decide⟩ ?_
          refine fload rL_741_741_531_853_14_0 h0 hB31 (by omega) ?_
          intro z39 lz39 uz39 qz39
          refine Exists.intro xm_246 (And.intro mi_246 (And.intro ⟨rfl, rfl, rfl, rfl⟩ (And.intro rfl ?_)))
          refine fcallp hB31 (ct_M_peopleIn_76ab1 (fBz h0 hB31) (by first | exact ⟨lz39, uz39⟩ | omega)) ?_
          rintro _ ⟨z40, rfl, hz40⟩
          refine fstore1 rS_748_748_0_127_1_0 (fzs_sub (by decide +kernel) hW) ⟨by decide, by decide⟩ (by first | exact ⟨by decide, by decide⟩ | omega) (by first | exact ⟨hz40.1, hz40.2⟩ | omega) ?_
          intro IhB41 ehB41 hB41
          have t42 := fup_self ehB41
          have t43 : IhB41 748 102 = IhB31 748 102 := (congrFun (congrFun ehB41 748) 102).trans (fup_ne (by first | decide | omega))
          have t44 : IhB41 748 103 = IhB31 748 103 := (congrFun (congrFun ehB41 748) 103).trans (fup_ne (by first | decide | omega))
          have t45 : IhB41 748 107 = IhB31 748 107 := (congrFun (congrFun ehB41 748) 107).trans (fup_ne (by first | decide | omega))
          have t46 : IhB41 748 108 = IhB31 748 108 := (congrFun (congrFun ehB41 748) 108).trans (fup_ne (by first | decide | omega))
          have t47 : IhB41 748 109 = IhB31 748 109 := (congrFun (congrFun ehB41 748) 109).trans (fup_ne (by first | decide | omega))
          have t48 := fup_at ehB41 112 (by first | rfl | omega)
          have k49 := fBz_eq hB41 (a := 741) (j := 9) (by decide +kernel)
          refine And.intro (by first | exact fi_ ha1.1 ha1.2 rfl | omega) (And.intro ?_ ?_)
          · intro c50
            refine Exists.intro xm_259 (And.intro mi_259 (And.intro ⟨rfl, rfl, rfl, rfl⟩ (And.intro rfl ?_)))
            refine fcall _ h0 (fzs_sub (by decide +kernel) hW) hB41 (ct_M_worked_0bc29 (fBz h0 hB41) (by first | exact ⟨Int.le_trans (by decide) (Int.le_trans (Int.le_refl _) c50), ha1.2⟩ | omega) (sI_keep hp0 h0 hB41 (by decide +kernel)) (by omega)) ?_
            rintro IhB52 _ hB52 fhB52 ⟨z51, rfl, hz51⟩
            have k53 := fBz_eq hB52 (a := 741) (j := 9) (by decide +kernel)
            refine And.intro (True.intro) ?_
            exact ⟨_, rfl, (by first | exact ⟨hz51.1, hz51.2⟩ | omega)⟩
          · intro c54
            refine And.intro ⟨rfl, by decide, by decide⟩ ?_
            refine fload rL_741_741_532_854_14_0 h0 hB41 (by omega) ?_
            intro z55 lz55 uz55 qz55
            refine And.intro (True.intro) ?_
            exact ⟨_, rfl, (by first | exact ⟨lz55, uz55⟩ | omega)⟩
        · intro c56
          refine And.intro ⟨rfl, by decide, by decide⟩ ?_
          refine fload rL_741_741_535_857_14_0 h0 hB16 (by omega) ?_
          intro z57 lz57 uz57 qz57
          refine fstore1 rS_748_748_0_127_1_0 (fzs_sub (by decide +kernel) hW) ⟨by decide, by decide⟩ (by first | exact ⟨by decide, by decide⟩ | omega) (by first | exact ⟨lz57, uz57⟩ | omega) ?_
          intro IhB58 ehB58 hB58
          have t59 := fup_self ehB58
          have t60 : IhB58 748 103 = IhB16 748 103 := (congrFun (congrFun ehB58 748) 103).trans (fup_ne (by first | decide | omega))
          have t61 : IhB58 748 107 = IhB16 748 107 := (congrFun (congrFun ehB58 748) 107).trans (fup_ne (by first | decide | omega))
          have t62 := fup_at ehB58 108 (by first | rfl | omega)
          have t63 : IhB58 748 109 = IhB16 748 109 := (congrFun (congrFun ehB58 748) 109).trans (fup_ne (by first | decide | omega))
          have k64 := fBz_eq hB58 (a := 741) (j := 9) (by decide +kernel)
          refine And.intro ⟨rfl, by decide, by decide⟩ ?_
          refine And.intro ⟨rfl, by decide, by decide⟩ ?_
          refine fload rL_741_741_534_856_14_0 h0 hB58 (by omega) ?_
          intro z65 lz65 uz65 qz65
          refine fstore1 rS_748_748_0_127_1_0 (fzs_sub (by decide +kernel) hW) ⟨by decide, by decide⟩ (by first | exact ⟨by decide, by decide⟩ | omega) (by first | exact ⟨lz65, uz65⟩ | omega) ?_
          intro IhB66 ehB66 hB66
          have t67 := fup_self ehB66
          have t68 := fup_at ehB66 102 (by first | rfl | omega)
          have t69 : IhB66 748 103 = IhB58 748 103 := (congrFun (congrFun ehB66 748) 103).trans (fup_ne (by first | decide | omega))
          have t70 : IhB66 748 107 = IhB58 748 107 := (congrFun (congrFun ehB66 748) 107).trans (fup_ne (by first | decide | omega))
          have t71 : IhB66 748 108 = IhB58 748 108 := (congrFun (congrFun ehB66 748) 108).trans (fup_ne (by first | decide | omega))
          have t72 : IhB66 748 109 = IhB58 748 109 := (congrFun (congrFun ehB66 748) 109).trans (fup_ne (by first | decide | omega))
          have k73 := fBz_eq hB66 (a := 741) (j := 9) (by decide +kernel)
          refine And.intro ⟨rfl, by decide, by decide⟩ ?_
          refine And.intro ⟨rfl, by decide, by decide⟩ ?_
          refine fload rL_741_741_531_853_14_0 h0 hB66 (by omega) ?_
          intro z74 lz74 uz74 qz74
          refine Exists.intro xm_246 (And.intro mi_246 (And.intro ⟨rfl, rfl, rfl, rfl⟩ (And.intro rfl ?_)))
          refine fcallp hB66 (ct_M_peopleIn_76ab1 (fBz h0 hB66) (by first | exact ⟨lz74, uz74⟩ | omega)) ?_
          rintro _ ⟨z75, rfl, hz75⟩
          refine fstore1 rS_748_748_0_127_1_0 (fzs_sub (by decide +kernel) hW) ⟨by decide, by decide⟩ (by first | exact ⟨by decide, by decide⟩ | omega) (by first | exact ⟨hz75.1, hz75.2⟩ | omega) ?_
          intro IhB76 ehB76 hB76
          have t77 := fup_self ehB76
          have t78 : IhB76 748 102 = IhB66 748 102 := (congrFun (congrFun ehB76 748) 102).trans (fup_ne (by first | decide | omega))
          have t79 : IhB76 748 103 = IhB66 748 103 := (congrFun (congrFun ehB76 748) 103).trans (fup_ne (by first | decide | omega))
          have t80 : IhB76 748 107 = IhB66 748 107 := (congrFun (congrFun ehB76 748) 107).trans (fup_ne (by first | decide | omega))
          have t81 : IhB76 748 108 = IhB66 748 108 := (congrFun (congrFun ehB76 748) 108).trans (fup_ne (by first | decide | omega))
          have t82 : IhB76 748 109 = IhB66 748 109 := (congrFun (congrFun ehB76 748) 109).trans (fup_ne (by first | decide | omega))
          have t83 := fup_at ehB76 112 (by first | rfl | omega)
          have k84 := fBz_eq hB76 (a := 741) (j := 9) (by decide +kernel)
          refine And.intro (by first | exact fi_ ha1.1 ha1.2 rfl | omega) (And.intro ?_ ?_)
          · intro c85
            refine Exists.intro xm_259 (And.intro mi_259 (And.intro ⟨rfl, rfl, rfl, rfl⟩ (And.intro rfl ?_)))
            refine fcall _ h0 (fzs_sub (by decide +kernel) hW) hB76 (ct_M_worked_0bc29 (fBz h0 hB76) (by first | exact ⟨Int.le_trans (by decide) (Int.le_trans (Int.le_refl _) c85), ha1.2⟩ | omega) (sI_keep hp0 h0 hB76 (by decide +kernel)) (by omega)) ?_
            rintro IhB87 _ hB87 fhB87 ⟨z86, rfl, hz86⟩
            have k88 := fBz_eq hB87 (a := 741) (j := 9) (by decide +kernel)
            refine And.intro (True.intro) ?_
            exact ⟨_, rfl, (by first | exact ⟨hz86.1, hz86.2⟩ | omega)⟩
          · intro c89
            refine And.intro ⟨rfl, by decide, by decide⟩ ?_
            refine fload rL_741_741_532_854_14_0 h0 hB76 (by omega) ?_
            intro z90 lz90 uz90 qz90
            refine And.intro (True.intro) ?_
            exact ⟨_, rfl, (by first | exact ⟨lz90, uz90⟩ | omega)⟩
      · intro c91
        refine And.intro ⟨rfl, by decide, by decide⟩ ?_
        refine fload rL_741_741_536_858_14_0 h0 hB10 (by omega) ?_
        intro z92 lz92 uz92 qz92
        refine fstore1 rS_748_748_0_127_1_0 (fzs_sub (by decide +kernel) hW) ⟨by decide, by decide⟩ (by first | exact ⟨by decide, by decide⟩ | omega) (by first | exact ⟨lz92, uz92⟩ | omega) ?_
        intro IhB93 ehB93 hB93
        have t94 := fup_self ehB93
        have t95 := fup_at ehB93 103 (by first | rfl | omega)
        have t96 : IhB93 748 107 = IhB10 748 107 := (congrFun (congrFun ehB93 748) 107).trans (fup_ne (by first | decide | omega))
        have t97 : IhB93 748 109 = IhB10 748 109 := (congrFun (congrFun ehB93 748) 109).trans (fup_ne (by first | decide | omega))
        have k98 := fBz_eq hB93 (a := 741) (j := 9) (by decide +kernel)
        refine And.intro ⟨rfl, by decide, by decide⟩ ?_
        refine And.intro (by omega) (And.intro ?_ ?_)
        · intro c99
          refine fstore1 rS_748_748_0_127_1_0 (fzs_sub (by decide +kernel) hW) ⟨by decide, by decide⟩ (by first | exact ⟨by decide, by decide⟩ | omega) (by omega) ?_
          intro IhB100 ehB100 hB100
          have t101 := fup_self ehB100
          have t102 : IhB100 748 103 = IhB93 748 103 := (congrFun (congrFun ehB100 748) 103).trans (fup_ne (by first | decide | omega))
          have t103 : IhB100 748 107 = IhB93 748 107 := (congrFun (congrFun ehB100 748) 107).trans (fup_ne (by first | decide | omega))
          have t104 := fup_at ehB100 108 (by first | rfl | omega)
          have t105 : IhB100 748 109 = IhB93 748 109 := (congrFun (congrFun ehB100 748) 109).trans (fup_ne (by first | decide | omega))
          have k106 := fBz_eq hB100 (a := 741) (j := 9) (by decide +kernel)
          refine And.intro ⟨rfl, by decide, by decide⟩ ?_
          refine And.intro ⟨rfl, by decide, by decide⟩ ?_
          refine fload rL_741_741_534_856_14_0 h0 hB100 (by omega) ?_
          intro z107 lz107 uz107 qz107
          refine fstore1 rS_748_748_0_127_1_0 (fzs_sub (by decide +kernel) hW) ⟨by decide, by decide⟩ (by first | exact ⟨by decide, by decide⟩ | omega) (by first | exact ⟨lz107, uz107⟩ | omega) ?_
          intro IhB108 ehB108 hB108
          have t109 := fup_self ehB108
          have t110 := fup_at ehB108 102 (by first | rfl | omega)
          have t111 : IhB108 748 103 = IhB100 748 103 := (congrFun (congrFun ehB108 748) 103).trans (fup_ne (by first | decide | omega))
          have t112 : IhB108 748 107 = IhB100 748 107 := (congrFun (congrFun ehB108 748) 107).trans (fup_ne (by first | decide | omega))
          have t113 : IhB108 748 108 = IhB100 748 108 := (congrFun (congrFun ehB108 748) 108).trans (fup_ne (by first | decide | omega))
          have t114 : IhB108 748 109 = IhB100 748 109 := (congrFun (congrFun ehB108 748) 109).trans (fup_ne (by first | decide | omega))
          have k115 := fBz_eq hB108 (a := 741) (j := 9) (by decide +kernel)
          refine And.intro ⟨rfl, by decide, by decide⟩ ?_
          refine And.intro ⟨rfl, by decide, by decide⟩ ?_
          refine fload rL_741_741_531_853_14_0 h0 hB108 (by omega) ?_
          intro z116 lz116 uz116 qz116
          refine Exists.intro xm_246 (And.intro mi_246 (And.intro ⟨rfl, rfl, rfl, rfl⟩ (And.intro rfl ?_)))
          refine fcallp hB108 (ct_M_peopleIn_76ab1 (fBz h0 hB108) (by first | exact ⟨lz116, uz116⟩ | omega)) ?_
          rintro _ ⟨z117, rfl, hz117⟩
          refine fstore1 rS_748_748_0_127_1_0 (fzs_sub (by decide +kernel) hW) ⟨by decide, by decide⟩ (by first | exact ⟨by decide, by decide⟩ | omega) (by first | exact ⟨hz117.1, hz117.2⟩ | omega) ?_
          intro IhB118 ehB118 hB118
          have t119 := fup_self ehB118
          have t120 : IhB118 748 102 = IhB108 748 102 := (congrFun (congrFun ehB118 748) 102).trans (fup_ne (by first | decide | omega))
          have t121 : IhB118 748 103 = IhB108 748 103 := (congrFun (congrFun ehB118 748) 103).trans (fup_ne (by first | decide | omega))
          have t122 : IhB118 748 107 = IhB108 748 107 := (congrFun (congrFun ehB118 748) 107).trans (fup_ne (by first | decide | omega))
          have t123 : IhB118 748 108 = IhB108 748 108 := (congrFun (congrFun ehB118 748) 108).trans (fup_ne (by first | decide | omega))
          have t124 : IhB118 748 109 = IhB108 748 109 := (congrFun (congrFun ehB118 748) 109).trans (fup_ne (by first | decide | omega))
          have t125 := fup_at ehB118 112 (by first | rfl | omega)
          have k126 := fBz_eq hB118 (a := 741) (j := 9) (by decide +kernel)
          refine And.intro (by first | exact fi_ ha1.1 ha1.2 rfl | omega) (And.intro ?_ ?_)
          · intro c127
            refine Exists.intro xm_259 (And.intro mi_259 (And.intro ⟨rfl, rfl, rfl, rfl⟩ (And.intro rfl ?_)))
            refine fcall _ h0 (fzs_sub (by decide +kernel) hW) hB118 (ct_M_worked_0bc29 (fBz h0 hB118) (by first | exact ⟨Int.le_trans (by decide) (Int.le_trans (Int.le_refl _) c127), ha1.2⟩ | omega) (sI_keep hp0 h0 hB118 (by decide +kernel)) (by omega)) ?_
            rintro IhB129 _ hB129 fhB129 ⟨z128, rfl, hz128⟩
            have k130 := fBz_eq hB129 (a := 741) (j := 9) (by decide +kernel)
            refine And.intro (True.intro) ?_
            exact ⟨_, rfl, (by first | exact ⟨hz128.1, hz128.2⟩ | omega)⟩
          · intro c131
            refine And.intro ⟨rfl, by decide, by decide⟩ ?_
            refine fload rL_741_741_532_854_14_0 h0 hB118 (by omega) ?_
            intro z132 lz132 uz132 qz132
            refine And.intro (True.intro) ?_
            exact ⟨_, rfl, (by first | exact ⟨lz132, uz132⟩ | omega)⟩
        · intro c133
          refine And.intro ⟨rfl, by decide, by decide⟩ ?_
          refine fload rL_741_741_535_857_14_0 h0 hB93 (by omega) ?_
          intro z134 lz134 uz134 qz134
          refine fstore1 rS_748_748_0_127_1_0 (fzs_sub (by decide +kernel) hW) ⟨by decide, by decide⟩ (by first | exact ⟨by decide, by decide⟩ | omega) (by first | exact ⟨lz134, uz134⟩ | omega) ?_
          intro IhB135 ehB135 hB135
          have t136 := fup_self ehB135
          have t137 : IhB135 748 103 = IhB93 748 103 := (congrFun (congrFun ehB135 748) 103).trans (fup_ne (by first | decide | omega))
          have t138 : IhB135 748 107 = IhB93 748 107 := (congrFun (congrFun ehB135 748) 107).trans (fup_ne (by first | decide | omega))
          have t139 := fup_at ehB135 108 (by first | rfl | omega)
          have t140 : IhB135 748 109 = IhB93 748 109 := (congrFun (congrFun ehB135 748) 109).trans (fup_ne (by first | decide | omega))
          have k141 := fBz_eq hB135 (a := 741) (j := 9) (by decide +kernel)
          refine And.intro ⟨rfl, by decide, by decide⟩ ?_
          refine And.intro ⟨rfl, by decide, by decide⟩ ?_
          refine fload rL_741_741_534_856_14_0 h0 hB135 (by omega) ?_
          intro z142 lz142 uz142 qz142
          refine fstore1 rS_748_748_0_127_1_0 (fzs_sub (by decide +kernel) hW) ⟨by decide, by decide⟩ (by first | exact ⟨by decide, by decide⟩ | omega) (by first | exact ⟨lz142, uz142⟩ | omega) ?_
          intro IhB143 ehB143 hB143
          have t144 := fup_self ehB143
          have t145 := fup_at ehB143 102 (by first | rfl | omega)
          have t146 : IhB143 748 103 = IhB135 748 103 := (congrFun (congrFun ehB143 748) 103).trans (fup_ne (by first | decide | omega))
          have t147 : IhB143 748 107 = IhB135 748 107 := (congrFun (congrFun ehB143 748) 107).trans (fup_ne (by first | decide | omega))
          have t148 : IhB143 748 108 = IhB135 748 108 := (congrFun (congrFun ehB143 748) 108).trans (fup_ne (by first | decide | omega))
          have t149 : IhB143 748 109 = IhB135 748 109 := (congrFun (congrFun ehB143 748) 109).trans (fup_ne (by first | decide | omega))
          have k150 := fBz_eq hB143 (a := 741) (j := 9) (by decide +kernel)
          refine And.intro ⟨rfl, by decide, by decide⟩ ?_
          refine And.intro ⟨rfl, by decide, by decide⟩ ?_
          refine fload rL_741_741_531_853_14_0 h0 hB143 (by omega) ?_
          intro z151 lz151 uz151 qz151
          refine Exists.intro xm_246 (And.intro mi_246 (And.intro ⟨rfl, rfl, rfl, rfl⟩ (And.intro rfl ?_)))
          refine fcallp hB143 (ct_M_peopleIn_76ab1 (fBz h0 hB143) (by first | exact ⟨lz151, uz151⟩ | omega)) ?_
          rintro _ ⟨z152, rfl, hz152⟩
          refine fstore1 rS_748_748_0_127_1_0 (fzs_sub (by decide +kernel) hW) ⟨by decide, by decide⟩ (by first | exact ⟨by decide, by decide⟩ | omega) (by first | exact ⟨hz152.1, hz152.2⟩ | omega) ?_
          intro IhB153 ehB153 hB153
          have t154 := fup_self ehB153
          have t155 : IhB153 748 102 = IhB143 748 102 := (congrFun (congrFun ehB153 748) 102).trans (fup_ne (by first | decide | omega))
          have t156 : IhB153 748 103 = IhB143 748 103 := (congrFun (congrFun ehB153 748) 103).trans (fup_ne (by first | decide | omega))
          have t157 : IhB153 748 107 = IhB143 748 107 := (congrFun (congrFun ehB153 748) 107).trans (fup_ne (by first | decide | omega))
          have t158 : IhB153 748 108 = IhB143 748 108 := (congrFun (congrFun ehB153 748) 108).trans (fup_ne (by first | decide | omega))
          have t159 : IhB153 748 109 = IhB143 748 109 := (congrFun (congrFun ehB153 748) 109).trans (fup_ne (by first | decide | omega))
          have t160 := fup_at ehB153 112 (by first | rfl | omega)
          have k161 := fBz_eq hB153 (a := 741) (j := 9) (by decide +kernel)
          refine And.intro (by first | exact fi_ ha1.1 ha1.2 rfl | omega) (And.intro ?_ ?_)
          · intro c162
            refine Exists.intro xm_259 (And.intro mi_259 (And.intro ⟨rfl, rfl, rfl, rfl⟩ (And.intro rfl ?_)))
            refine fcall _ h0 (fzs_sub (by decide +kernel) hW) hB153 (ct_M_worked_0bc29 (fBz h0 hB153) (by first | exact ⟨Int.le_trans (by decide) (Int.le_trans (Int.le_refl _) c162), ha1.2⟩ | omega) (sI_keep hp0 h0 hB153 (by decide +kernel)) (by omega)) ?_
            rintro IhB164 _ hB164 fhB164 ⟨z163, rfl, hz163⟩
            have k165 := fBz_eq hB164 (a := 741) (j := 9) (by decide +kernel)
            refine And.intro (True.intro) ?_
            exact ⟨_, rfl, (by first | exact ⟨hz163.1, hz163.2⟩ | omega)⟩
          · intro c166
            refine And.intro ⟨rfl, by decide, by decide⟩ ?_
            refine fload rL_741_741_532_854_14_0 h0 hB153 (by omega) ?_
            intro z167 lz167 uz167 qz167
            refine And.intro (True.intro) ?_
            exact ⟨_, rfl, (by first | exact ⟨lz167, uz167⟩ | omega)⟩
    · intro c168
      refine And.intro ⟨rfl, by decide, by decide⟩ ?_
      refine And.intro ⟨rfl, by decide, by decide⟩ ?_
      refine fload rL_741_741_530_852_14_0 h0 hB0 (by omega) ?_
      intro z169 lz169 uz169 qz169
      refine fstore1 rS_748_748_0_127_1_0 (fzs_sub (by decide +kernel) hW) ⟨by decide, by decide⟩ (by first | exact ⟨by decide, by decide⟩ | omega) (by first | exact ⟨lz169, uz169⟩ | omega) ?_
      intro IhB170 ehB170 hB170
      have t171 := fup_self ehB170
      have t172 := fup_at ehB170 107 (by first | rfl | omega)
      have k173 := fBz_eq hB170 (a := 741) (j := 9) (by decide +kernel)
      refine And.intro ⟨rfl, by decide, by decide⟩ ?_
      refine And.intro ⟨rfl, by decide, by decide⟩ ?_
      refine fload rL_741_741_532_854_14_0 h0 hB170 (by omega) ?_
      intro z174 lz174 uz174 qz174
      refine fstore1 rS_748_748_0_127_1_0 (fzs_sub (by decide +kernel) hW) ⟨by decide, by decide⟩ (by first | exact ⟨by decide, by decide⟩ | omega) (by first | exact ⟨lz174, uz174⟩ | omega) ?_
      intro IhB175 ehB175 hB175
      have t176 := fup_self ehB175
      have t177 : IhB175 748 107 = IhB170 748 107 := (congrFun (congrFun ehB175 748) 107).trans (fup_ne (by first | decide | omega))
      have t178 := fup_at ehB175 109 (by first | rfl | omega)
      have k179 := fBz_eq hB175 (a := 741) (j := 9) (by decide +kernel)
      refine And.intro ⟨rfl, by decide, by decide⟩ ?_
      refine And.intro (by first | exact ⟨by decide, by decide⟩ | omega) (And.intro ?_ ?_)
      · intro c180
        refine fstore1 rS_748_748_0_127_1_0 (fzs_sub (by decide +kernel) hW) ⟨by decide, by decide⟩ (by first | exact ⟨by decide, by decide⟩ | omega) (by omega) ?_
        intro IhB181 ehB181 hB181
        have t182 := fup_self ehB181
        have t183 := fup_at ehB181 103 (by first | rfl | omega)
        have t184 : IhB181 748 107 = IhB175 748 107 := (congrFun (congrFun ehB181 748) 107).trans (fup_ne (by first | decide | omega))
        have t185 : IhB181 748 109 = IhB175 748 109 := (congrFun (congrFun ehB181 748) 109).trans (fup_ne (by first | decide | omega))
        have k186 := fBz_eq hB181 (a := 741) (j := 9) (by decide +kernel)
        refine And.intro ⟨rfl, by decide, by decide⟩ ?_
        refine And.intro (by first | exact ⟨by decide, by decide⟩ | omega) (And.intro ?_ ?_)
        · intro c187
          refine fstore1 rS_748_748_0_127_1_0 (fzs_sub (by decide +kernel) hW) ⟨by decide, by decide⟩ (by first | exact ⟨by decide, by decide⟩ | omega) (by omega) ?_
          intro IhB188 ehB188 hB188
          have t189 := fup_self ehB188
          have t190 : IhB188 748 103 = IhB181 748 103 := (congrFun (congrFun ehB188 748) 103).trans (fup_ne (by first | decide | omega))
          have t191 : IhB188 748 107 = IhB181 748 107 := (congrFun (congrFun ehB188 748) 107).trans (fup_ne (by first | decide | omega))
          have t192 := fup_at ehB188 108 (by first | rfl | omega)
          have t193 : IhB188 748 109 = IhB181 748 109 := (congrFun (congrFun ehB188 748) 109).trans (fup_ne (by first | decide | omega))
          have k194 := fBz_eq hB188 (a := 741) (j := 9) (by decide +kernel)
          refine And.intro ⟨rfl, by decide, by decide⟩ ?_
          refine And.intro ⟨rfl, by decide, by decide⟩ ?_
          refine fload rL_741_741_534_856_14_0 h0 hB188 (by omega) ?_
          intro z195 lz195 uz195 qz195
          refine fstore1 rS_748_748_0_127_1_0 (fzs_sub (by decide +kernel) hW) ⟨by decide, by decide⟩ (by first | exact ⟨by decide, by decide⟩ | omega) (by first | exact ⟨lz195, uz195⟩ | omega) ?_
          intro IhB196 ehB196 hB196
          have t197 := fup_self ehB196
          have t198 := fup_at ehB196 102 (by first | rfl | omega)
          have t199 : IhB196 748 103 = IhB188 748 103 := (congrFun (congrFun ehB196 748) 103).trans (fup_ne (by first | decide | omega))
          have t200 : IhB196 748 107 = IhB188 748 107 := (congrFun (congrFun ehB196 748) 107).trans (fup_ne (by first | decide | omega))
          have t201 : IhB196 748 108 = IhB188 748 108 := (congrFun (congrFun ehB196 748) 108).trans (fup_ne (by first | decide | omega))
          have t202 : IhB196 748 109 = IhB188 748 109 := (congrFun (congrFun ehB196 748) 109).trans (fup_ne (by first | decide | omega))
          have k203 := fBz_eq hB196 (a := 741) (j := 9) (by decide +kernel)
          refine And.intro ⟨rfl, by decide, by decide⟩ ?_
          refine And.intro ⟨rfl, by decide, by decide⟩ ?_
          refine fload rL_741_741_531_853_14_0 h0 hB196 (by omega) ?_
          intro z204 lz204 uz204 qz204
          refine Exists.intro xm_246 (And.intro mi_246 (And.intro ⟨rfl, rfl, rfl, rfl⟩ (And.intro rfl ?_)))
          refine fcallp hB196 (ct_M_peopleIn_76ab1 (fBz h0 hB196) (by first | exact ⟨lz204, uz204⟩ | omega)) ?_
          rintro _ ⟨z205, rfl, hz205⟩
          refine fstore1 rS_748_748_0_127_1_0 (fzs_sub (by decide +kernel) hW) ⟨by decide, by decide⟩ (by first | exact ⟨by decide, by decide⟩ | omega) (by first | exact ⟨hz205.1, hz205.2⟩ | omega) ?_
          intro IhB206 ehB206 hB206
          have t207 := fup_self ehB206
          have t208 : IhB206 748 102 = IhB196 748 102 := (congrFun (congrFun ehB206 748) 102).trans (fup_ne (by first | decide | omega))
          have t209 : IhB206 748 103 = IhB196 748 103 := (congrFun (congrFun ehB206 748) 103).trans (fup_ne (by first | decide | omega))
          have t210 : IhB206 748 107 = IhB196 748 107 := (congrFun (congrFun ehB206 748) 107).trans (fup_ne (by first | decide | omega))
          have t211 : IhB206 748 108 = IhB196 748 108 := (congrFun (congrFun ehB206 748) 108).trans (fup_ne (by first | decide | omega))
          have t212 : IhB206 748 109 = IhB196 748 109 := (congrFun (congrFun ehB206 748) 109).trans (fup_ne (by first | decide | omega))
          have t213 := fup_at ehB206 112 (by first | rfl | omega)
          have k214 := fBz_eq hB206 (a := 741) (j := 9) (by decide +kernel)
          refine And.intro (by first | exact fi_ ha1.1 ha1.2 rfl | omega) (And.intro ?_ ?_)
          · intro c215
            refine Exists.intro xm_259 (And.intro mi_259 (And.intro ⟨rfl, rfl, rfl, rfl⟩ (And.intro rfl ?_)))
            refine fcall _ h0 (fzs_sub (by decide +kernel) hW) hB206 (ct_M_worked_0bc29 (fBz h0 hB206) (by first | exact ⟨Int.le_trans (by decide) (Int.le_trans (Int.le_refl _) c215), ha1.2⟩ | omega) (sI_keep hp0 h0 hB206 (by decide +kernel)) (by omega)) ?_
            rintro IhB217 _ hB217 fhB217 ⟨z216, rfl, hz216⟩
            have k218 := fBz_eq hB217 (a := 741) (j := 9) (by decide +kernel)
            refine And.intro (True.intro) ?_
            exact ⟨_, rfl, (by first | exact ⟨hz216.1, hz216.2⟩ | omega)⟩
          · intro c219
            refine And.intro ⟨rfl, by decide, by decide⟩ ?_
            refine fload rL_741_741_532_854_14_0 h0 hB206 (by omega) ?_
            intro z220 lz220 uz220 qz220
            refine And.intro (True.intro) ?_
            exact ⟨_, rfl, (by first | exact ⟨lz220, uz220⟩ | omega)⟩
        · intro c221
          refine And.intro ⟨rfl, by decide, by decide⟩ ?_
          refine fload rL_741_741_535_857_14_0 h0 hB181 (by omega) ?_
          intro z222 lz222 uz222 qz222
          refine fstore1 rS_748_748_0_127_1_0 (fzs_sub (by decide +kernel) hW) ⟨by decide, by decide⟩ (by first | exact ⟨by decide, by decide⟩ | omega) (by first | exact ⟨lz222, uz222⟩ | omega) ?_
          intro IhB223 ehB223 hB223
          have t224 := fup_self ehB223
          have t225 : IhB223 748 103 = IhB181 748 103 := (congrFun (congrFun ehB223 748) 103).trans (fup_ne (by first | decide | omega))
          have t226 : IhB223 748 107 = IhB181 748 107 := (congrFun (congrFun ehB223 748) 107).trans (fup_ne (by first | decide | omega))
          have t227 := fup_at ehB223 108 (by first | rfl | omega)
          have t228 : IhB223 748 109 = IhB181 748 109 := (congrFun (congrFun ehB223 748) 109).trans (fup_ne (by first | decide | omega))
          have k229 := fBz_eq hB223 (a := 741) (j := 9) (by decide +kernel)
          refine And.intro ⟨rfl, by decide, by decide⟩ ?_
          refine And.intro ⟨rfl, by decide, by decide⟩ ?_
          refine fload rL_741_741_534_856_14_0 h0 hB223 (by omega) ?_
          intro z230 lz230 uz230 qz230
          refine fstore1 rS_748_748_0_127_1_0 (fzs_sub (by decide +kernel) hW) ⟨by decide, by decide⟩ (by first | exact ⟨by decide, by decide⟩ | omega) (by first | exact ⟨lz230, uz230⟩ | omega) ?_
          intro IhB231 ehB231 hB231
          have t232 := fup_self ehB231
          have t233 := fup_at ehB231 102 (by first | rfl | omega)
          have t234 : IhB231 748 103 = IhB223 748 103 := (congrFun (congrFun ehB231 748) 103).trans (fup_ne (by first | decide | omega))
          have t235 : IhB231 748 107 = IhB223 748 107 := (congrFun (congrFun ehB231 748) 107).trans (fup_ne (by first | decide | omega))
          have t236 : IhB231 748 108 = IhB223 748 108 := (congrFun (congrFun ehB231 748) 108).trans (fup_ne (by first | decide | omega))
          have t237 : IhB231 748 109 = IhB223 748 109 := (congrFun (congrFun ehB231 748) 109).trans (fup_ne (by first | decide | omega))
          have k238 := fBz_eq hB231 (a := 741) (j := 9) (by decide +kernel)
          refine And.intro ⟨rfl, by decide, by decide⟩ ?_
          refine And.intro ⟨rfl, by decide, by decide⟩ ?_
          refine fload rL_741_741_531_853_14_0 h0 hB231 (by omega) ?_
          intro z239 lz239 uz239 qz239
          refine Exists.intro xm_246 (And.intro mi_246 (And.intro ⟨rfl, rfl, rfl, rfl⟩ (And.intro rfl ?_)))
          refine fcallp hB231 (ct_M_peopleIn_76ab1 (fBz h0 hB231) (by first | exact ⟨lz239, uz239⟩ | omega)) ?_
          rintro _ ⟨z240, rfl, hz240⟩
          refine fstore1 rS_748_748_0_127_1_0 (fzs_sub (by decide +kernel) hW) ⟨by decide, by decide⟩ (by first | exact ⟨by decide, by decide⟩ | omega) (by first | exact ⟨hz240.1, hz240.2⟩ | omega) ?_
          intro IhB241 ehB241 hB241
          have t242 := fup_self ehB241
          have t243 : IhB241 748 102 = IhB231 748 102 := (congrFun (congrFun ehB241 748) 102).trans (fup_ne (by first | decide | omega))
          have t244 : IhB241 748 103 = IhB231 748 103 := (congrFun (congrFun ehB241 748) 103).trans (fup_ne (by first | decide | omega))
          have t245 : IhB241 748 107 = IhB231 748 107 := (congrFun (congrFun ehB241 748) 107).trans (fup_ne (by first | decide | omega))
          have t246 : IhB241 748 108 = IhB231 748 108 := (congrFun (congrFun ehB241 748) 108).trans (fup_ne (by first | decide | omega))
          have t247 : IhB241 748 109 = IhB231 748 109 := (congrFun (congrFun ehB241 748) 109).trans (fup_ne (by first | decide | omega))
          have t248 := fup_at ehB241 112 (by first | rfl | omega)
          have k249 := fBz_eq hB241 (a := 741) (j := 9) (by decide +kernel)
          refine And.intro (by first | exact fi_ ha1.1 ha1.2 rfl | omega) (And.intro ?_ ?_)
          · intro c250
            refine Exists.intro xm_259 (And.intro mi_259 (And.intro ⟨rfl, rfl, rfl, rfl⟩ (And.intro rfl ?_)))
            refine fcall _ h0 (fzs_sub (by decide +kernel) hW) hB241 (ct_M_worked_0bc29 (fBz h0 hB241) (by first | exact ⟨Int.le_trans (by decide) (Int.le_trans (Int.le_refl _) c250), ha1.2⟩ | omega) (sI_keep hp0 h0 hB241 (by decide +kernel)) (by omega)) ?_
            rintro IhB252 _ hB252 fhB252 ⟨z251, rfl, hz251⟩
            have k253 := fBz_eq hB252 (a := 741) (j := 9) (by decide +kernel)
            refine And.intro (True.intro) ?_
            exact ⟨_, rfl, (by first | exact ⟨hz251.1, hz251.2⟩ | omega)⟩
          · intro c254
            refine And.intro ⟨rfl, by decide, by decide⟩ ?_
            refine fload rL_741_741_532_854_14_0 h0 hB241 (by omega) ?_
            intro z255 lz255 uz255 qz255
            refine And.intro (True.intro) ?_
            exact ⟨_, rfl, (by first | exact ⟨lz255, uz255⟩ | omega)⟩
      · intro c256
        refine And.intro ⟨rfl, by decide, by decide⟩ ?_
        refine fload rL_741_741_536_858_14_0 h0 hB175 (by omega) ?_
        intro z257 lz257 uz257 qz257
        refine fstore1 rS_748_748_0_127_1_0 (fzs_sub (by decide +kernel) hW) ⟨by decide, by decide⟩ (by first | exact ⟨by decide, by decide⟩ | omega) (by first | exact ⟨lz257, uz257⟩ | omega) ?_
        intro IhB258 ehB258 hB258
        have t259 := fup_self ehB258
        have t260 := fup_at ehB258 103 (by first | rfl | omega)
        have t261 : IhB258 748 107 = IhB175 748 107 := (congrFun (congrFun ehB258 748) 107).trans (fup_ne (by first | decide | omega))
        have t262 : IhB258 748 109 = IhB175 748 109 := (congrFun (congrFun ehB258 748) 109).trans (fup_ne (by first | decide | omega))
        have k263 := fBz_eq hB258 (a := 741) (j := 9) (by decide +kernel)
        refine And.intro ⟨rfl, by decide, by decide⟩ ?_
        refine And.intro (by first | exact ⟨by decide, by decide⟩ | omega) (And.intro ?_ ?_)
        · intro c264
          refine fstore1 rS_748_748_0_127_1_0 (fzs_sub (by decide +kernel) hW) ⟨by decide, by decide⟩ (by first | exact ⟨by decide, by decide⟩ | omega) (by omega) ?_
          intro IhB265 ehB265 hB265
          have t266 := fup_self ehB265
          have t267 : IhB265 748 103 = IhB258 748 103 := (congrFun (congrFun ehB265 748) 103).trans (fup_ne (by first | decide | omega))
          have t268 : IhB265 748 107 = IhB258 748 107 := (congrFun (congrFun ehB265 748) 107).trans (fup_ne (by first | decide | omega))
          have t269 := fup_at ehB265 108 (by first | rfl | omega)
          have t270 : IhB265 748 109 = IhB258 748 109 := (congrFun (congrFun ehB265 748) 109).trans (fup_ne (by first | decide | omega))
          have k271 := fBz_eq hB265 (a := 741) (j := 9) (by decide +kernel)
          refine And.intro ⟨rfl, by decide, by decide⟩ ?_
          refine And.intro ⟨rfl, by decide, by decide⟩ ?_
          refine fload rL_741_741_534_856_14_0 h0 hB265 (by omega) ?_
          intro z272 lz272 uz272 qz272
          refine fstore1 rS_748_748_0_127_1_0 (fzs_sub (by decide +kernel) hW) ⟨by decide, by decide⟩ (by first | exact ⟨by decide, by decide⟩ | omega) (by first | exact ⟨lz272, uz272⟩ | omega) ?_
          intro IhB273 ehB273 hB273
          have t274 := fup_self ehB273
          have t275 := fup_at ehB273 102 (by first | rfl | omega)
          have t276 : IhB273 748 103 = IhB265 748 103 := (congrFun (congrFun ehB273 748) 103).trans (fup_ne (by first | decide | omega))
          have t277 : IhB273 748 107 = IhB265 748 107 := (congrFun (congrFun ehB273 748) 107).trans (fup_ne (by first | decide | omega))
          have t278 : IhB273 748 108 = IhB265 748 108 := (congrFun (congrFun ehB273 748) 108).trans (fup_ne (by first | decide | omega))
          have t279 : IhB273 748 109 = IhB265 748 109 := (congrFun (congrFun ehB273 748) 109).trans (fup_ne (by first | decide | omega))
          have k280 := fBz_eq hB273 (a := 741) (j := 9) (by decide +kernel)
          refine And.intro ⟨rfl, by decide, by decide⟩ ?_
          refine And.intro ⟨rfl, by decide, by decide⟩ ?_
          refine fload rL_741_741_531_853_14_0 h0 hB273 (by omega) ?_
          intro z281 lz281 uz281 qz281
          refine Exists.intro xm_246 (And.intro mi_246 (And.intro ⟨rfl, rfl, rfl, rfl⟩ (And.intro rfl ?_)))
          refine fcallp hB273 (ct_M_peopleIn_76ab1 (fBz h0 hB273) (by first | exact ⟨lz281, uz281⟩ | omega)) ?_
          rintro _ ⟨z282, rfl, hz282⟩
          refine fstore1 rS_748_748_0_127_1_0 (fzs_sub (by decide +kernel) hW) ⟨by decide, by decide⟩ (by first | exact ⟨by decide, by decide⟩ | omega) (by first | exact ⟨hz282.1, hz282.2⟩ | omega) ?_
          intro IhB283 ehB283 hB283
          have t284 := fup_self ehB283
          have t285 : IhB283 748 102 = IhB273 748 102 := (congrFun (congrFun ehB283 748) 102).trans (fup_ne (by first | decide | omega))
          have t286 : IhB283 748 103 = IhB273 748 103 := (congrFun (congrFun ehB283 748) 103).trans (fup_ne (by first | decide | omega))
          have t287 : IhB283 748 107 = IhB273 748 107 := (congrFun (congrFun ehB283 748) 107).trans (fup_ne (by first | decide | omega))
          have t288 : IhB283 748 108 = IhB273 748 108 := (congrFun (congrFun ehB283 748) 108).trans (fup_ne (by first | decide | omega))
          have t289 : IhB283 748 109 = IhB273 748 109 := (congrFun (congrFun ehB283 748) 109).trans (fup_ne (by first | decide | omega))
          have t290 := fup_at ehB283 112 (by first | rfl | omega)
          have k291 := fBz_eq hB283 (a := 741) (j := 9) (by decide +kernel)
          refine And.intro (by first | exact fi_ ha1.1 ha1.2 rfl | omega) (And.intro ?_ ?_)
          · intro c292
            refine Exists.intro xm_259 (And.intro mi_259 (And.intro ⟨rfl, rfl, rfl, rfl⟩ (And.intro rfl ?_)))
            refine fcall _ h0 (fzs_sub (by decide +kernel) hW) hB283 (ct_M_worked_0bc29 (fBz h0 hB283) (by first | exact ⟨Int.le_trans (by decide) (Int.le_trans (Int.le_refl _) c292), ha1.2⟩ | omega) (sI_keep hp0 h0 hB283 (by decide +kernel)) (by omega)) ?_
            rintro IhB294 _ hB294 fhB294 ⟨z293, rfl, hz293⟩
            have k295 := fBz_eq hB294 (a := 741) (j := 9) (by decide +kernel)
            refine And.intro (True.intro) ?_
            exact ⟨_, rfl, (by first | exact ⟨hz293.1, hz293.2⟩ | omega)⟩
          · intro c296
            refine And.intro ⟨rfl, by decide, by decide⟩ ?_
            refine fload rL_741_741_532_854_14_0 h0 hB283 (by omega) ?_
            intro z297 lz297 uz297 qz297
            refine And.intro (True.intro) ?_
            exact ⟨_, rfl, (by first | exact ⟨lz297, uz297⟩ | omega)⟩
        · intro c298
          refine And.intro ⟨rfl, by decide, by decide⟩ ?_
          refine fload rL_741_741_535_857_14_0 h0 hB258 (by omega) ?_
          intro z299 lz299 uz299 qz299
          refine fstore1 rS_748_748_0_127_1_0 (fzs_sub (by decide +kernel) hW) ⟨by decide, by decide⟩ (by first | exact ⟨by decide, by decide⟩ | omega) (by first | exact ⟨lz299, uz299⟩ | omega) ?_
          intro IhB300 ehB300 hB300
          have t301 := fup_self ehB300
          have t302 : IhB300 748 103 = IhB258 748 103 := (congrFun (congrFun ehB300 748) 103).trans (fup_ne (by first | decide | omega))
          have t303 : IhB300 748 107 = IhB258 748 107 := (congrFun (congrFun ehB300 748) 107).trans (fup_ne (by first | decide | omega))
          have t304 := fup_at ehB300 108 (by first | rfl | omega)
          have t305 : IhB300 748 109 = IhB258 748 109 := (congrFun (congrFun ehB300 748) 109).trans (fup_ne (by first | decide | omega))
          have k306 := fBz_eq hB300 (a := 741) (j := 9) (by decide +kernel)
          refine And.intro ⟨rfl, by decide, by decide⟩ ?_
          refine And.intro ⟨rfl, by decide, by decide⟩ ?_
          refine fload rL_741_741_534_856_14_0 h0 hB300 (by omega) ?_
          intro z307 lz307 uz307 qz307
          refine fstore1 rS_748_748_0_127_1_0 (fzs_sub (by decide +kernel) hW) ⟨by decide, by decide⟩ (by first | exact ⟨by decide, by decide⟩ | omega) (by first | exact ⟨lz307, uz307⟩ | omega) ?_
          intro IhB308 ehB308 hB308
          have t309 := fup_self ehB308
          have t310 := fup_at ehB308 102 (by first | rfl | omega)
          have t311 : IhB308 748 103 = IhB300 748 103 := (congrFun (congrFun ehB308 748) 103).trans (fup_ne (by first | decide | omega))
          have t312 : IhB308 748 107 = IhB300 748 107 := (congrFun (congrFun ehB308 748) 107).trans (fup_ne (by first | decide | omega))
          have t313 : IhB308 748 108 = IhB300 748 108 := (congrFun (congrFun ehB308 748) 108).trans (fup_ne (by first | decide | omega))
          have t314 : IhB308 748 109 = IhB300 748 109 := (congrFun (congrFun ehB308 748) 109).trans (fup_ne (by first | decide | omega))
          have k315 := fBz_eq hB308 (a := 741) (j := 9) (by decide +kernel)
          refine And.intro ⟨rfl, by decide, by decide⟩ ?_
          refine And.intro ⟨rfl, by decide, by decide⟩ ?_
          refine fload rL_741_741_531_853_14_0 h0 hB308 (by omega) ?_
          intro z316 lz316 uz316 qz316
          refine Exists.intro xm_246 (And.intro mi_246 (And.intro ⟨rfl, rfl, rfl, rfl⟩ (And.intro rfl ?_)))
          refine fcallp hB308 (ct_M_peopleIn_76ab1 (fBz h0 hB308) (by first | exact ⟨lz316, uz316⟩ | omega)) ?_
          rintro _ ⟨z317, rfl, hz317⟩
          refine fstore1 rS_748_748_0_127_1_0 (fzs_sub (by decide +kernel) hW) ⟨by decide, by decide⟩ (by first | exact ⟨by decide, by decide⟩ | omega) (by first | exact ⟨hz317.1, hz317.2⟩ | omega) ?_
          intro IhB318 ehB318 hB318
          have t319 := fup_self ehB318
          have t320 : IhB318 748 102 = IhB308 748 102 := (congrFun (congrFun ehB318 748) 102).trans (fup_ne (by first | decide | omega))
          have t321 : IhB318 748 103 = IhB308 748 103 := (congrFun (congrFun ehB318 748) 103).trans (fup_ne (by first | decide | omega))
          have t322 : IhB318 748 107 = IhB308 748 107 := (congrFun (congrFun ehB318 748) 107).trans (fup_ne (by first | decide | omega))
          have t323 : IhB318 748 108 = IhB308 748 108 := (congrFun (congrFun ehB318 748) 108).trans (fup_ne (by first | decide | omega))
          have t324 : IhB318 748 109 = IhB308 748 109 := (congrFun (congrFun ehB318 748) 109).trans (fup_ne (by first | decide | omega))
          have t325 := fup_at ehB318 112 (by first | rfl | omega)
          have k326 := fBz_eq hB318 (a := 741) (j := 9) (by decide +kernel)
          refine And.intro (by first | exact fi_ ha1.1 ha1.2 rfl | omega) (And.intro ?_ ?_)
          · intro c327
            refine Exists.intro xm_259 (And.intro mi_259 (And.intro ⟨rfl, rfl, rfl, rfl⟩ (And.intro rfl ?_)))
            refine fcall _ h0 (fzs_sub (by decide +kernel) hW) hB318 (ct_M_worked_0bc29 (fBz h0 hB318) (by first | exact ⟨Int.le_trans (by decide) (Int.le_trans (Int.le_refl _) c327), ha1.2⟩ | omega) (sI_keep hp0 h0 hB318 (by decide +kernel)) (by omega)) ?_
            rintro IhB329 _ hB329 fhB329 ⟨z328, rfl, hz328⟩
            have k330 := fBz_eq hB329 (a := 741) (j := 9) (by decide +kernel)
            refine And.intro (True.intro) ?_
            exact ⟨_, rfl, (by first | exact ⟨hz328.1, hz328.2⟩ | omega)⟩
          · intro c331
            refine And.intro ⟨rfl, by decide, by decide⟩ ?_
            refine fload rL_741_741_532_854_14_0 h0 hB318 (by omega) ?_
            intro z332 lz332 uz332 qz332
            refine And.intro (True.intro) ?_
            exact ⟨_, rfl, (by first | exact ⟨lz332, uz332⟩ | omega)⟩
abbrev jc_M_findShed_fb485_10 : Nat → fL → List fV → fH → Prop := fun m lv st I => ∃ (y1 : Int) (y2 : Int) (y3 : Int), lv = [(0, .inr (.inr (some 740))), (1, .inl y1), (2, .inl y2), (3, .inl y3)] ∧ st = [] ∧ ((((-1) ≤ y1 ∧ y1 ≤ 11) ∧ (0 ≤ y2 ∧ y2 ≤ 24) ∧ (0 ≤ y3 ∧ y3 ≤ 24) ∧ (y2 ≤ y3) ∧ (y1 < I 741 9))) ∧ m = (25 + 25 * (24 - y3) : Int).toNat
abbrev jc_M_findShed_fb485_52 : Nat → fL → List fV → fH → Prop := fun m lv st I => ∃ (y1 : Int) (y2 : Int) (y3 : Int) (y4 : Int) (y5 : Int), lv = [(0, .inr (.inr (some 740))), (1, .inl y1), (2, .inl y2), (3, .inl y3), (4, .inl y4), (5, .inl y5)] ∧ st = [] ∧ ((((-1) ≤ y1 ∧ y1 ≤ 11) ∧ (0 ≤ y2 ∧ y2 ≤ 23) ∧ (0 ≤ y3 ∧ y3 ≤ 23) ∧ (1 ≤ y4 ∧ y4 ≤ 2147483647) ∧ (0 ≤ y5 ∧ y5 ≤ 23) ∧ (1 ≤ I 741 7 ∧ I 741 7 ≤ 24) ∧ (y2 ≤ y3) ∧ (y5 ≤ y2) ∧ (y1 < I 741 9))) ∧ m = (1 + 25 * (24 - y3) + 1 * (y5 - 0) : Int).toNat
set_option maxRecDepth 8000 in
theorem ct_M_findShed_fb485 {I : fH}  (h0 : fB bsJ I) (hp0 : sI I 741) : fC ρ base n F xTc vwCl xTys D dA la gJ (fbz bsJ znJ (fKc wz_c83f0) I) xm_434 [.inr (.inr (some 740))] I (fun _ r => ∃ z, r = some (.inl z) ∧ (0 ≤ z ∧ z ≤ 24)) := by
  have hW : fzs wz_c83f0 (fKc wz_c83f0) := fKc_ok _
  refine f_meth (rb := rbJ) (J := [(10, jc_M_findShed_fb485_10), (52, jc_M_findShed_fb485_52)]) 626 400 xG xin_434 x6_434 okJ (fB_self h0) ?_ ?_
  · refine List.forall_mem_cons.mpr ⟨?_, List.forall_mem_cons.mpr ⟨?_, fun q h => absurd h List.not_mem_nil⟩⟩
    · rintro m _ _ I1 hB1 ⟨y1, y2, y3, rfl, rfl, hb, hm⟩
      have k1 := fBz_eq hB1 (a := 741) (j := 9) (by decide +kernel)
      refine And.intro ⟨rfl, by decide, by decide⟩ ?_
      refine fload1 rL_741_741_7_7_1_0 h0 hB1 ⟨by decide, by decide⟩ (by first | exact ⟨by decide, by decide⟩ | omega) ?_
      intro z2 lz2 uz2 qz2
      have pz2 := fld_at qz2 7 (by omega)
      refine And.intro (And.intro (by first | exact fi_ hb.2.2.1.1 hb.2.2.1.2 rfl | omega) (by first | exact fi_ lz2 uz2 rfl | omega)) (And.intro ?_ ?_)
      · intro c3
        refine And.intro (True.intro) ?_
        exact ⟨_, rfl, (by first | exact ⟨hb.2.1.1, hb.2.1.2⟩ | omega)⟩
      · intro c4
        refine Exists.intro xm_245 (And.intro mi_245 (And.intro ⟨rfl, rfl, rfl, rfl⟩ (And.intro rfl ?_)))
        refine fcallp hB1 (ct_M_isGone_0de37 (fBz h0 hB1) (by first | exact ⟨hb.2.2.1.1, Int.le_trans (Int.le_sub_one_of_lt (Int.lt_of_lt_of_le c4 uz2)) (by decide)⟩ | omega)) ?_
        rintro _ ⟨z5, rfl, hz5⟩
        refine And.intro (by omega) (And.intro ?_ ?_)
        · intro c6
          refine Exists.intro xm_435 (And.intro mi_435 (And.intro ⟨rfl, rfl, rfl, rfl⟩ (And.intro rfl ?_)))
          refine fcall _ h0 (fzs_sub (by decide +kernel) hW) hB1 (ct_M_worthOf_2d64c (fBz h0 hB1) (by first | exact ⟨hb.1.1, hb.1.2⟩ | omega) (by first | exact ⟨hb.2.2.1.1, Int.le_trans (Int.le_sub_one_of_lt (Int.lt_of_lt_of_le c4 uz2)) (by decide)⟩ | omega) (sI_keep hp0 h0 hB1 (by decide +kernel)) (by omega)) ?_
          rintro IhB8 _ hB8 fhB8 ⟨z7, rfl, hz7⟩
          have t9 := fhB8 741 7 (by decide +kernel)
          have k10 := fBz_eq hB8 (a := 741) (j := 9) (by decide +kernel)
          refine And.intro (by first | exact fi_ hz7.1 hz7.2 rfl | omega) (And.intro ?_ ?_)
          · intro c11
            exact fcutJ (I := IhB8) (j := jc_M_findShed_fb485_52) (lv' := [(0, .inr (.inr (some 740))), (1, .inl _), (2, .inl _), (3, .inl _), (4, .inl _), (5, .inl _)]) (And.intro rfl (And.intro rfl (And.intro rfl (And.intro rfl (And.intro rfl (And.intro rfl True.intro)))))) ⟨_, _, _, _, _, rfl, rfl, by omega, rfl⟩ (by omega)
          · intro c12
            exact fcutJ (I := IhB8) (j := jc_M_findShed_fb485_10) (lv' := [(0, .inr (.inr (some 740))), (1, .inl _), (2, .inl _), (3, .inl _)]) (And.intro rfl (And.intro rfl (And.intro rfl (And.intro rfl True.intro)))) ⟨_, _, _, rfl, rfl, by omega, rfl⟩ (by omega)
        · intro c13
          refine And.intro (by first | exact ⟨by decide, by decide⟩ | omega) (And.intro ?_ ?_)
          · intro c14
            exact fcutJ (I := I1) (j := jc_M_findShed_fb485_52) (lv' := [(0, .inr (.inr (some 740))), (1, .inl _), (2, .inl _), (3, .inl _), (4, .inl _), (5, .inl _)]) (And.intro rfl (And.intro rfl (And.intro rfl (And.intro rfl (And.intro rfl (And.intro rfl True.intro)))))) ⟨_, _, _, _, _, rfl, rfl, by omega, rfl⟩ (by omega)
          · intro c15
            exact fcutJ (I := I1) (j := jc_M_findShed_fb485_10) (lv' := [(0, .inr (.inr (some 740))), (1, .inl _), (2, .inl _), (3, .inl _)]) (And.intro rfl (And.intro rfl (And.intro rfl (And.intro rfl True.intro)))) ⟨_, _, _, rfl, rfl, by omega, rfl⟩ (by omega)
    · rintro m _ _ I1 hB1 ⟨y1, y2, y3, y4, y5, rfl, rfl, hb, hm⟩
      have k16 := fBz_eq hB1 (a := 741) (j := 9) (by decide +kernel)
      refine And.intro (by first | exact fi_ hb.2.2.2.2.1.1 hb.2.2.2.2.1.2 rfl | omega) (And.intro ?_ ?_)
      · intro c17
        refine And.intro ⟨rfl, by decide, by decide⟩ ?_
        refine fstore1 rS_752_752_0_23_1_0 (fzs_sub (by decide +kernel) hW) ⟨by decide, by decide⟩ (by first | exact ⟨hb.2.2.2.2.1.1, Int.le_trans (Int.le_trans c17 (Int.le_refl _)) (by decide)⟩ | omega) (by first | exact ⟨Int.le_trans (by decide) hb.2.2.2.1.1, hb.2.2.2.1.2⟩ | omega) ?_
        intro IhB18 ehB18 hB18
        have t19 := fup_self ehB18
        have t20 : IhB18 741 7 = I1 741 7 := (congrFun (congrFun ehB18 741) 7).trans (fup_ne (by first | exact Or.inl (by decide) | omega))
        have k21 := fBz_eq hB18 (a := 741) (j := 9) (by decide +kernel)
        refine And.intro ⟨rfl, by decide, by decide⟩ ?_
        refine fstore1 rS_751_751_0_23_1_0 (fzs_sub (by decide +kernel) hW) ⟨by decide, by decide⟩ (by first | exact ⟨hb.2.2.2.2.1.1, Int.le_trans (Int.le_trans c17 (Int.le_refl _)) (by decide)⟩ | omega) (by first | exact ⟨hb.2.2.1.1, hb.2.2.1.2⟩ | omega) ?_
        intro IhB22 ehB22 hB22
        have t23 := fup_self ehB22
        have t24 : IhB22 741 7 = IhB18 741 7 := (congrFun (congrFun ehB22 741) 7).trans (fup_ne (by first | exact Or.inl (by decide) | omega))
        have k25 := fBz_eq hB22 (a := 741) (j := 9) (by decide +kernel)
        intro z26 hz26 bz26
        have bz26 := bz26 (by omega)
        exact fcutJ (I := IhB22) (j := jc_M_findShed_fb485_10) (lv' := [(0, .inr (.inr (some 740))), (1, .inl _), (2, .inl _), (3, .inl _)]) (And.intro rfl (And.intro rfl (And.intro rfl (And.intro rfl True.intro)))) ⟨_, _, _, rfl, rfl, by omega, rfl⟩ (by omega)
      · intro c27
        refine And.intro ⟨rfl, by decide, by decide⟩ ?_
        refine fload rL_752_752_0_23_1_0 h0 hB1 (by omega) ?_
        intro z28 lz28 uz28 qz28
        refine And.intro (And.intro (by first | exact fi_ lz28 uz28 rfl | omega) (by first | exact fi_ hb.2.2.2.1.1 hb.2.2.2.1.2 rfl | omega)) (And.intro ?_ ?_)
        · intro c29
          refine And.intro ⟨rfl, by decide, by decide⟩ ?_
          refine fstore1 rS_752_752_0_23_1_0 (fzs_sub (by decide +kernel) hW) ⟨by decide, by decide⟩ (by first | exact ⟨Int.le_trans (by decide) (Int.add_one_le_of_lt (Int.lt_of_le_of_lt (Int.le_refl _) c27)), hb.2.2.2.2.1.2⟩ | omega) (by first | exact ⟨Int.le_trans (by decide) hb.2.2.2.1.1, hb.2.2.2.1.2⟩ | omega) ?_
          intro IhB30 ehB30 hB30
          have t31 := fup_self ehB30
          have t32 : IhB30 741 7 = I1 741 7 := (congrFun (congrFun ehB30 741) 7).trans (fup_ne (by first | exact Or.inl (by decide) | omega))
          have k33 := fBz_eq hB30 (a := 741) (j := 9) (by decide +kernel)
          refine And.intro ⟨rfl, by decide, by decide⟩ ?_
          refine fstore1 rS_751_751_0_23_1_0 (fzs_sub (by decide +kernel) hW) ⟨by decide, by decide⟩ (by first | exact ⟨Int.le_trans (by decide) (Int.add_one_le_of_lt (Int.lt_of_le_of_lt (Int.le_refl _) c27)), hb.2.2.2.2.1.2⟩ | omega) (by first | exact ⟨hb.2.2.1.1, hb.2.2.1.2⟩ | omega) ?_
          intro IhB34 ehB34 hB34
          have t35 := fup_self ehB34
          have t36 : IhB34 741 7 = IhB30 741 7 := (congrFun (congrFun ehB34 741) 7).trans (fup_ne (by first | exact Or.inl (by decide) | omega))
          have k37 := fBz_eq hB34 (a := 741) (j := 9) (by decide +kernel)
          intro z38 hz38 bz38
          have bz38 := bz38 (by omega)
          exact fcutJ (I := IhB34) (j := jc_M_findShed_fb485_10) (lv' := [(0, .inr (.inr (some 740))), (1, .inl _), (2, .inl _), (3, .inl _)]) (And.intro rfl (And.intro rfl (And.intro rfl (And.intro rfl True.intro)))) ⟨_, _, _, rfl, rfl, by omega, rfl⟩ (by omega)
        · intro c39
          refine And.intro ⟨rfl, by decide, by decide⟩ ?_
          refine And.intro ⟨rfl, by decide, by decide⟩ ?_
          refine fload rL_752_752_0_23_1_0 h0 hB1 (by omega) ?_
          intro z40 lz40 uz40 qz40
          refine fstore1 rS_752_752_0_23_1_0 (fzs_sub (by decide +kernel) hW) ⟨by decide, by decide⟩ (by first | exact ⟨Int.le_trans (by decide) (Int.add_one_le_of_lt (Int.lt_of_le_of_lt (Int.le_refl _) c27)), hb.2.2.2.2.1.2⟩ | omega) (by first | exact ⟨lz40, uz40⟩ | omega) ?_
          intro IhB41 ehB41 hB41
          have t42 := fup_self ehB41
          have t43 : IhB41 741 7 = I1 741 7 := (congrFun (congrFun ehB41 741) 7).trans (fup_ne (by first | exact Or.inl (by decide) | omega))
          have k44 := fBz_eq hB41 (a := 741) (j := 9) (by decide +kernel)
          refine And.intro ⟨rfl, by decide, by decide⟩ ?_
          refine And.intro ⟨rfl, by decide, by decide⟩ ?_
          refine fload rL_751_751_0_23_1_0 h0 hB41 (by omega) ?_
          intro z45 lz45 uz45 qz45
          refine fstore1 rS_751_751_0_23_1_0 (fzs_sub (by decide +kernel) hW) ⟨by decide, by decide⟩ (by first | exact ⟨Int.le_trans (by decide) (Int.add_one_le_of_lt (Int.lt_of_le_of_lt (Int.le_refl _) c27)), hb.2.2.2.2.1.2⟩ | omega) (by first | exact ⟨lz45, uz45⟩ | omega) ?_
          intro IhB46 ehB46 hB46
          have t47 := fup_self ehB46
          have t48 : IhB46 741 7 = IhB41 741 7 := (congrFun (congrFun ehB46 741) 7).trans (fup_ne (by first | exact Or.inl (by decide) | omega))
          have k49 := fBz_eq hB46 (a := 741) (j := 9) (by decide +kernel)
          exact fcutJ (I := IhB46) (j := jc_M_findShed_fb485_52) (lv' := [(0, .inr (.inr (some 740))), (1, .inl _), (2, .inl _), (3, .inl _), (4, .inl _), (5, .inl _)]) (And.intro rfl (And.intro rfl (And.intro rfl (And.intro rfl (And.intro rfl (And.intro rfl True.intro)))))) ⟨_, _, _, _, _, rfl, rfl, by omega, rfl⟩ (by omega)
  · have hB0 := fB_self (zn := znJ) (K := fKc wz_c83f0) h0
    refine Exists.intro xm_254 (And.intro mi_254 (And.intro ⟨rfl, rfl, rfl, rfl⟩ (And.intro rfl ?_)))
    refine fcallp hB0 (ct_M_counts_1278f (fBz h0 hB0) (by first | exact ⟨by decide, by decide⟩ | omega)) ?_
    rintro _ ⟨z50, rfl, hz50⟩
    exact fcutJ (I := I) (j := jc_M_findShed_fb485_10) (lv' := [(0, .inr (.inr (some 740))), (1, .inl _), (2, .inl _), (3, .inl _)]) (And.intro rfl (And.intro rfl (And.intro rfl (And.intro rfl True.intro)))) ⟨_, _, _, rfl, rfl, by omega, rfl⟩ (by omega)
set_option maxRecDepth 8000 in
theorem ct_M_order_8f559 {I : fH} {x1 : Int} (h0 : fB bsJ I) (ha1 : ((-2147483648) ≤ x1 ∧ x1 ≤ 2147483647)) (hp0 : sI I 741) : fC ρ base n F xTc vwCl xTys D dA la gJ (fbz bsJ znJ (fKc wz_c83f0) I) xm_433 [.inr (.inr (some 740)), .inl x1] I (fun _ r => ∃ z, r = some (.inl z) ∧ ((0 ≤ z ∧ z ≤ 23) ∨ z = (-1000000005) ∨ z = (-1000000001))) := by
  have hW : fzs wz_c83f0 (fKc wz_c83f0) := fKc_ok _
  refine f_meth (rb := rbJ) (J := []) 1 400 xG xin_433 x6_433 okJ (fB_self h0) ?_ ?_
  · exact fun q h => absurd h List.not_mem_nil
  · have hB0 := fB_self (zn := znJ) (K := fKc wz_c83f0) h0
    refine And.intro (by first | exact fi_ ha1.1 ha1.2 rfl | omega) (And.intro ?_ ?_)
    · intro c1
      refine Exists.intro xm_434 (And.intro mi_434 (And.intro ⟨rfl, rfl, rfl, rfl⟩ (And.intro rfl ?_)))
      refine fcall _ h0 (fzs_sub (by decide +kernel) hW) hB0 (ct_M_findShed_fb485 (fBz h0 hB0) (sI_keep hp0 h0 hB0 (by decide +kernel))) ?_
      rintro IhB3 _ hB3 fhB3 ⟨z2, rfl, hz2⟩
      refine And.intro (And.intro (by first | exact fi_ (Int.le_trans (Int.le_refl _) c1) ha1.2 rfl | omega) (by first | exact fi_ hz2.1 hz2.2 rfl | omega)) (And.intro ?_ ?_)
      · intro c4
        refine And.intro (True.intro) ?_
        exact ⟨_, rfl, by omega⟩
      · intro c5
        refine And.intro ⟨rfl, by decide, by decide⟩ ?_
        refine fload1 rL_751_751_0_23_1_0 h0 hB3 ⟨by decide, by decide⟩ (by first | exact ⟨Int.le_trans (by decide) (Int.le_trans (Int.le_refl _) c1), Int.le_trans (Int.le_sub_one_of_lt (Int.lt_of_lt_of_le c5 hz2.2)) (by decide)⟩ | omega) ?_
        intro z6 lz6 uz6 qz6
        refine And.intro (True.intro) ?_
        exact ⟨_, rfl, by omega⟩
    · intro c7
      refine And.intro (True.intro) ?_
      exact ⟨_, rfl, by omega⟩
set_option maxRecDepth 8000 in
theorem ct_City_shedWork_42a03 {I : fH} {x1 : Int} (h0 : fB bsJ I) (ha1 : (0 ≤ x1 ∧ x1 ≤ 23)) : fC ρ base n F xTc vwCl xTys D dA la gJ (fbz bsJ znJ (fKc wz_a5b5b) I) xm_154 [.inr (.inr (some 1)), .inl x1] I (fun _ r => r = none) := by
  have hW : fzs wz_a5b5b (fKc wz_a5b5b) := fKc_ok _
  refine f_meth (rb := rbJ) (J := []) 1 400 xG xin_154 x6_154 okJ (fB_self h0) ?_ ?_
  · exact fun q h => absurd h List.not_mem_nil
  · have hB0 := fB_self (zn := znJ) (K := fKc wz_a5b5b) h0
    refine And.intro ⟨rfl, by decide, by decide⟩ ?_
    refine Exists.intro xm_64 (And.intro mi_64 (And.intro ⟨rfl, rfl, rfl, rfl⟩ (And.intro rfl ?_)))
    refine fcallp hB0 (ct_Works_isSkin_801f8 (fBz h0 hB0) (by first | exact ⟨ha1.1, ha1.2⟩ | omega)) ?_
    rintro _ ⟨z1, rfl, hz1⟩
    refine And.intro (by omega) (And.intro ?_ ?_)
    · intro c2
      refine And.intro ⟨rfl, by decide, by decide⟩ ?_
      refine And.intro ⟨rfl, by decide, by decide⟩ ?_
      refine fstore1 rS_174_174_0_23_1_0 (fzs_sub (by decide +kernel) hW) ⟨by decide, by decide⟩ (by first | exact ⟨ha1.1, ha1.2⟩ | omega) (by first | exact ⟨by decide, by decide⟩ | omega) ?_
      intro IhB3 ehB3 hB3
      have t4 := fup_self ehB3
      exact rfl
    · intro c5
      refine And.intro ⟨rfl, by decide, by decide⟩ ?_
      refine And.intro ⟨rfl, by decide, by decide⟩ ?_
      refine fload1 rL_172_172_0_23_1_0 h0 hB0 ⟨by decide, by decide⟩ (by first | exact ⟨ha1.1, ha1.2⟩ | omega) ?_
      intro z6 lz6 uz6 qz6
      refine Exists.intro xm_81 (And.intro mi_81 (And.intro ⟨rfl, rfl, rfl, rfl⟩ (And.intro rfl ?_)))
      refine fcall _ h0 (fzs_sub (by decide +kernel) hW) hB0 (ct_City_loseGas_68982 (fBz h0 hB0) (by first | exact ⟨ha1.1, ha1.2⟩ | omega) (by first | exact ⟨lz6, uz6⟩ | omega)) ?_
      rintro IhB8 _ hB8 fhB8 rfl
      refine And.intro ⟨rfl, by decide, by decide⟩ ?_
      refine And.intro ⟨rfl, by decide, by decide⟩ ?_
      refine fstore1 rS_174_174_0_23_1_0 (fzs_sub (by decide +kernel) hW) ⟨by decide, by decide⟩ (by first | exact ⟨ha1.1, ha1.2⟩ | omega) (by first | exact ⟨by decide, by decide⟩ | omega) ?_
      intro IhB9 ehB9 hB9
      have t10 := fup_self ehB9
      exact rfl
set_option maxRecDepth 8000 in
theorem ct_X_shed_66828 {I : fH}  (h0 : fB bsJ I)  : fC ρ base n F xTc vwCl xTys D dA la gJ (fbz bsJ znJ (fKc wz_9b72b) I) xm_153 [.inr (.inr (some 0))] I (fun _ r => ∃ z, r = some (.inl z) ∧ ((0 ≤ z ∧ z ≤ 23) ∨ z = (-1000000002))) := by
  have hW : fzs wz_9b72b (fKc wz_9b72b) := fKc_ok _
  refine f_meth (rb := rbJ) (J := []) 1 400 xG xin_153 x6_153 okJ (fB_self h0) ?_ ?_
  · exact fun q h => absurd h List.not_mem_nil
  · have hB0 := fB_self (zn := znJ) (K := fKc wz_9b72b) h0
    refine And.intro ⟨rfl, by decide, by decide⟩ ?_
    refine And.intro ⟨rfl, by decide, by decide⟩ ?_
    refine Exists.intro xm_149 (And.intro mi_149 (And.intro ⟨rfl, rfl, rfl, rfl⟩ (And.intro rfl ?_)))
    refine fcall _ h0 (fzs_sub (by decide +kernel) hW) hB0 (ct_Charter_rankSheds_09e4d (fBz h0 hB0)) ?_
    rintro IhB2 _ hB2 fhB2 rfl
    refine And.intro ⟨rfl, by decide, by decide⟩ ?_
    refine And.intro ⟨rfl, by decide, by decide⟩ ?_
    refine Exists.intro xm_152 (And.intro mi_152 (And.intro ⟨rfl, rfl, rfl, rfl⟩ (And.intro rfl ?_)))
    refine fcall _ h0 (fzs_sub (by decide +kernel) hW) hB2 (ct_Charter_nextShed_baa16 (fBz h0 hB2)) ?_
    rintro IhB4 _ hB4 fhB4 ⟨z3, rfl, hz3⟩
    refine And.intro (by omega) (And.intro ?_ ?_)
    · intro c5
      refine And.intro ⟨rfl, by decide, by decide⟩ ?_
      refine Exists.intro xm_154 (And.intro mi_154 (And.intro ⟨rfl, rfl, rfl, rfl⟩ (And.intro rfl ?_)))
      refine fcall _ h0 (fzs_sub (by decide +kernel) hW) hB4 (ct_City_shedWork_42a03 (fBz h0 hB4) (by omega)) ?_
      rintro IhB7 _ hB7 fhB7 rfl
      refine And.intro (True.intro) ?_
      exact ⟨_, rfl, by omega⟩
    · intro c8
      refine And.intro (True.intro) ?_
      exact ⟨_, rfl, by omega⟩
end CT

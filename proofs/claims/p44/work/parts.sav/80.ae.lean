set_option linter.all false
/-! contracts (written by gen95.py) -/
abbrev wz_ad13a : List Nat := [20108, 20305, 20306, 20307]
theorem x6_295 : f60c xTc xTys xm_295 = true := by decide +kernel
theorem rL_741_741_537_859_14_0 : frL gJ bsJ 100 ((741, 741), (537, 859), (14, 0), ((-2147483648), 2147483647)) := frL_hull (by decide) (by decide +kernel)
theorem rS_741_741_537_859_14_0 : frS gJ bsJ znJ [20307] 100 ((741, 741), (537, 859), (14, 0), ((-2147483648), 2147483647)) := frS_of (by decide +kernel)
theorem rL_741_741_38_418_20_0 : frL gJ bsJ 100 ((741, 741), (38, 418), (20, 0), ((-2147483648), 2147483647)) := frL_hull (by decide) (by decide +kernel)
theorem rS_741_741_38_418_20_0 : frS gJ bsJ znJ [20108] 100 ((741, 741), (38, 418), (20, 0), ((-2147483648), 2147483647)) := frS_of (by decide +kernel)
abbrev wz_11492 : List Nat := [20308, 20309, 20310]
theorem x6_296 : f60c xTc xTys xm_296 = true := by decide +kernel
theorem rL_741_741_540_862_14_0 : frL gJ bsJ 100 ((741, 741), (540, 862), (14, 0), ((-2147483648), 2147483647)) := frL_hull (by decide) (by decide +kernel)
theorem rS_741_741_540_862_14_0 : frS gJ bsJ znJ [20310] 100 ((741, 741), (540, 862), (14, 0), ((-2147483648), 2147483647)) := frS_of (by decide +kernel)
theorem rS_741_741_538_860_14_0 : frS gJ bsJ znJ [20308] 100 ((741, 741), (538, 860), (14, 0), (0, 1)) := frS_of (by decide +kernel)
abbrev wz_40ea8 : List Nat := [20002, 20022, 20101, 20102, 20103, 20104, 20105, 20107, 20108, 20109, 20110, 20111, 20305, 20306, 20307, 20308, 20309, 20310]
theorem x6_288 : f60c xTc xTys xm_288 = true := by decide +kernel
theorem x6_300 : f60c xTc xTys xm_300 = true := by decide +kernel
abbrev wz_69747 : List Nat := [20101, 20102, 20103, 20104, 20105, 20107, 20108, 20109, 20110, 20111, 20403]
theorem x6_299 : f60c xTc xTys xm_299 = true := by decide +kernel
theorem rL_741_741_31_411_20_0 : frL gJ bsJ 100 ((741, 741), (31, 411), (20, 0), (0, 999999)) := frL_of (by decide +kernel)
theorem rS_741_741_31_411_20_0 : frS gJ bsJ znJ [20101] 100 ((741, 741), (31, 411), (20, 0), (0, 999999)) := frS_of (by decide +kernel)
theorem rS_741_741_873_1011_6_0 : frS gJ bsJ znJ [20403] 100 ((741, 741), (873, 1011), (6, 0), (0, 100)) := frS_of (by decide +kernel)
abbrev wz_d1017 : List Nat := [20304, 20312]
theorem x6_302 : f60c xTc xTys xm_302 = true := by decide +kernel
theorem rL_741_741_542_864_14_0 : frL gJ bsJ 100 ((741, 741), (542, 864), (14, 0), ((-2147483648), 2147483647)) := frL_hull (by decide) (by decide +kernel)
theorem rS_741_741_542_864_14_0 : frS gJ bsJ znJ [20312] 100 ((741, 741), (542, 864), (14, 0), ((-2147483648), 2147483647)) := frS_of (by decide +kernel)
theorem rL_741_741_541_863_14_0 : frL gJ bsJ 100 ((741, 741), (541, 863), (14, 0), (0, 99)) := frL_of (by decide +kernel)
abbrev wz_f4290 : List Nat := [20000, 20001, 20002, 20013, 20022, 20101, 20102, 20103, 20104, 20105, 20107, 20108, 20109, 20110, 20111, 20112, 20113, 20114, 20115, 20116, 20117, 20304, 20305, 20306, 20307, 20308, 20309, 20310, 20312, 20403, 20700, 20701, 20702, 20703, 20704, 20705, 20706, 20707]
theorem x6_285 : f60c xTc xTys xm_285 = true := by decide +kernel
theorem rS_741_741_0_0_1_0 : frS gJ bsJ znJ [20000] 100 ((741, 741), (0, 0), (1, 0), (0, 22000)) := frS_of (by decide +kernel)
theorem x6_284 : f60c xTc xTys xm_284 = true := by decide +kernel
theorem fb_741_0 : bsJ 741 0 = (0, 22000) := by decide +kernel
abbrev wz_4ceb6 : List Nat := [178, 179, 180, 181, 10404]
theorem x6_100 : f60c xTc xTys xm_100 = true := by decide +kernel
theorem rS_178_178_0_23_1_0 : frS gJ bsJ znJ [178] 100 ((178, 178), (0, 23), (1, 0), (0, 99)) := frS_of (by decide +kernel)
theorem rS_179_179_0_23_1_0 : frS gJ bsJ znJ [179] 100 ((179, 179), (0, 23), (1, 0), (0, 3)) := frS_of (by decide +kernel)
theorem rS_180_180_0_23_1_0 : frS gJ bsJ znJ [180] 100 ((180, 180), (0, 23), (1, 0), (0, 19)) := frS_of (by decide +kernel)
theorem x6_99 : f60c xTc xTys xm_99 = true := by decide +kernel
abbrev wz_e1d4d : List Nat := [20008, 20400, 20401, 20402, 20403, 20404]
theorem x6_305 : f60c xTc xTys xm_305 = true := by decide +kernel
theorem rS_741_741_870_1008_6_0 : frS gJ bsJ znJ [20400] 100 ((741, 741), (870, 1008), (6, 0), (0, 99)) := frS_of (by decide +kernel)
theorem rS_741_741_871_1009_6_0 : frS gJ bsJ znJ [20401] 100 ((741, 741), (871, 1009), (6, 0), (0, 3)) := frS_of (by decide +kernel)
theorem rS_741_741_872_1010_6_0 : frS gJ bsJ znJ [20402] 100 ((741, 741), (872, 1010), (6, 0), (0, 19)) := frS_of (by decide +kernel)
theorem rS_741_741_874_1012_6_0 : frS gJ bsJ znJ [20404] 100 ((741, 741), (874, 1012), (6, 0), ((-2147483648), 2147483647)) := frS_of (by decide +kernel)
theorem rS_741_741_8_8_1_0 : frS gJ bsJ znJ [20008] 100 ((741, 741), (8, 8), (1, 0), (0, 24)) := frS_of (by decide +kernel)
abbrev wz_389c2 : List Nat := [178]
abbrev wz_acbb3 : List Nat := [179]
abbrev wz_23056 : List Nat := [180]
abbrev wz_816f0 : List Nat := [178, 179, 180, 181]
theorem x6_101 : f60c xTc xTys xm_101 = true := by decide +kernel
abbrev wz_4df1d : List Nat := [20400, 20401, 20402, 20403]
theorem x6_306 : f60c xTc xTys xm_306 = true := by decide +kernel
theorem x6_102 : f60c xTc xTys xm_102 = true := by decide +kernel
theorem x6_307 : f60c xTc xTys xm_307 = true := by decide +kernel
theorem rL_741_741_870_1011_6_3 : frL gJ bsJ 100 ((741, 741), (870, 1011), (6, 3), (0, 100)) := frL_of (by decide +kernel)
theorem x6_105 : f60c xTc xTys xm_105 = true := by decide +kernel
theorem x6_106 : f60c xTc xTys xm_106 = true := by decide +kernel
theorem x6_104 : f60c xTc xTys xm_104 = true := by decide +kernel
abbrev wz_7e5e0 : List Nat := [178, 179, 180, 181, 207, 208, 10404]
theorem x6_103 : f60c xTc xTys xm_103 = true := by decide +kernel
theorem x6_309 : f60c xTc xTys xm_309 = true := by decide +kernel
abbrev wz_d6a43 : List Nat := [748, 749, 20008, 20400, 20401, 20402, 20403, 20404]
theorem x6_308 : f60c xTc xTys xm_308 = true := by decide +kernel
abbrev wz_b3a7d : List Nat := [700, 11701]
theorem x6_109 : f60c xTc xTys xm_109 = true := by decide +kernel
theorem fb_699_1 : bsJ 699 1 = (0, 96) := by decide +kernel
theorem rS_700_700_0_95_1_0 : frS gJ bsJ znJ [700] 100 ((700, 700), (0, 95), (1, 0), (0, 255)) := frS_of (by decide +kernel)
section CT
variable {ρ : Nat → Int32} {base n : Nat} {F : Nat → Prop} {D : va_G} {dA : Nat → ClassId} {la : Launch}
abbrev jc_M_wears_b070e_26 (x1 : Int) (I0 : fH) : Nat → fL → List fV → fH → Prop := fun m lv st I => ∃ (y2 : Int), lv = [(0, .inr (.inr (some 740))), (2, .inl y2)] ∧ st = [] ∧ ((((530 ≤ y2 ∧ y2 ≤ 852) ∧ (y2 - 530) % 14 ≤ 0) ∧ (y2 = 530 + 14 * x1)) ∧ (weJ (mR I0) x1 (gt (mR I0) (537 + 14 * x1) + sTb (mR I0) 2 (sLv (mR I0)) / 10) (mR I))) ∧ m = (1 + 1 * I 741 (y2 + ((7 : Nat) : Int)).toNat : Int).toNat
set_option maxRecDepth 8000 in
theorem ct_M_wears_b070e {I : fH} {x1 : Int} (h0 : fB bsJ I) (ha1 : (0 ≤ x1 ∧ x1 ≤ 23)) (hp0 : okA (mR I)) : fC ρ base n F xTc vwCl xTys D dA la gJ (fbz bsJ znJ (fKc wz_ad13a) I) xm_295 [.inr (.inr (some 740)), .inl x1] I (fun I' r => r = none ∧ True ∧ (mR I' = sSk2 (sWe (mR I) x1 (gt (mR I) (537 + 14 * x1) + sTb (mR I) 2 (sLv (mR I)) / 10)) x1)) := by
  have hW : fzs wz_ad13a (fKc wz_ad13a) := fKc_ok _
  refine f_meth (rb := rbJ) (J := [(26, (jc_M_wears_b070e_26 x1 I))]) 2147483650 400 xG xin_295 x6_295 okJ (fB_self h0) ?_ ?_
  · refine List.forall_mem_cons.mpr ⟨?_, fun q h => absurd h List.not_mem_nil⟩
    · rintro m _ _ I1 hB1 ⟨y2, rfl, rfl, ⟨hb, hx0⟩, hm⟩
      refine And.intro ⟨rfl, by decide, by decide⟩ ?_
      refine fload rL_741_741_537_859_14_0 h0 hB1 (by omega) ?_
      intro z1 lz1 uz1 qz1
      have v34 := mL_r (i0 := 537) (i1 := 859) (m := 14) (q := 0) (by decide +kernel) qz1 (by omega) rfl
      refine And.intro (And.intro (by first | exact fi_ lz1 uz1 rfl | omega) (by first | exact ⟨by decide, by decide⟩ | omega)) (And.intro ?_ ?_)
      · intro c2
        refine And.intro ⟨rfl, by decide, by decide⟩ ?_
        refine And.intro ⟨rfl, by decide, by decide⟩ ?_
        refine fload rL_741_741_537_859_14_0 h0 hB1 (by omega) ?_
        intro z3 lz3 uz3 qz3
        have v98 := mL_r (i0 := 537) (i1 := 859) (m := 14) (q := 0) (by decide +kernel) qz3 (by omega) rfl
        refine Exists.intro xm_291 (And.intro mi_291 (And.intro ⟨rfl, rfl, rfl, rfl⟩ (And.intro True.intro ?_)))
        refine fcallp hB1 (ct_M_least_31c1d (fBz h0 hB1) (by first | exact ⟨by decide, by decide⟩ | omega) (by first | exact ⟨lz3, uz3⟩ | omega)) ?_
        rintro _ ⟨z4, rfl, hz4⟩
        refine fstore rS_741_741_537_859_14_0 (fzs_sub (by decide +kernel) hW) (by omega) (by first | exact ⟨hz4.1.1, hz4.1.2⟩ | omega) ?_
        intro IhB5 ehB5 hB5
        have t6 := fup_self ehB5
        have r102 := mS_r (i0 := 537) (i1 := 859) (m := 14) (q := 0) (by decide +kernel) ehB5 (by omega) rfl
        have e102 := r102.trans (weJ_end (by omega) hx0 (by omega) v34 (p := 535 + 14 * x1) rfl (by first | exact Or.inl (by omega) | exact Or.inr ⟨_, gt_at v47 (by omega), by omega⟩) (by omega) v98 (mn_le (by omega) (by omega) (by omega)))
        skip
        refine And.intro ⟨rfl, by decide, by decide⟩ ?_
        refine fload rL_741_741_535_857_14_0 h0 hB5 (by omega) ?_
        intro z7 lz7 uz7 qz7
        have v110 := mL_r (i0 := 535) (i1 := 857) (m := 14) (q := 0) (by decide +kernel) qz7 (by omega) rfl
        rw [e102] at v110
        refine And.intro (by first | exact fi_ lz7 uz7 rfl | omega) (And.intro ?_ ?_)
        · intro c8
          exact ⟨rfl, True.intro, (by rw [e102]; exact (sSk2_n v110 (by omega) (by omega)))⟩
        · intro c9
          refine And.intro ⟨rfl, by decide, by decide⟩ ?_
          refine fload rL_741_741_536_858_14_0 h0 hB5 (by omega) ?_
          intro z10 lz10 uz10 qz10
          have v122 := mL_r (i0 := 536) (i1 := 858) (m := 14) (q := 0) (by decide +kernel) qz10 (by omega) rfl
          rw [e102] at v122
          refine And.intro ⟨rfl, by decide, by decide⟩ ?_
          refine fload rL_741_741_536_858_14_0 h0 hB5 (by omega) ?_
          intro z11 lz11 uz11 qz11
          have v132 := mL_r (i0 := 536) (i1 := 858) (m := 14) (q := 0) (by decide +kernel) qz11 (by omega) rfl
          rw [e102] at v132
          refine And.intro (And.intro (by first | exact fi_ lz11 uz11 rfl | omega) (And.intro (by first | exact ⟨by decide, by decide⟩ | omega) (And.intro (by first | exact by decide | omega) rfl))) ?_
          intro z12 hz12 ez12 dz12
          have dz12 := dz12 (by omega) (by omega)
          change _ = _ / _ at dz12
          intro z13 hz13 ez13 bz13
          have bz13 := bz13 (by omega)
          refine Exists.intro xm_291 (And.intro mi_291 (And.intro ⟨rfl, rfl, rfl, rfl⟩ (And.intro True.intro ?_)))
          refine fcallp hB5 (ct_M_least_31c1d (fBz h0 hB5) (by first | exact ⟨lz10, Int.le_trans uz10 (by decide)⟩ | omega) (by omega)) ?_
          rintro _ ⟨z14, rfl, hz14⟩
          refine And.intro ⟨rfl, by decide, by decide⟩ ?_
          refine fload rL_741_741_536_858_14_0 h0 hB5 (by omega) ?_
          intro z15 lz15 uz15 qz15
          have v150 := mL_r (i0 := 536) (i1 := 858) (m := 14) (q := 0) (by decide +kernel) qz15 (by omega) rfl
          rw [e102] at v150
          intro z16 hz16 ez16 bz16
          try replace bz16 := bz16 (by omega)
          refine fstore rS_741_741_536_858_14_0 (fzs_sub (by decide +kernel) hW) (by omega) (by omega) ?_
          intro IhB17 ehB17 hB17
          have t18 := fup_self ehB17
          have r153 := mS_r (i0 := 536) (i1 := 858) (m := 14) (q := 0) (by decide +kernel) ehB17 (by omega) rfl
          refine And.intro ⟨rfl, by decide, by decide⟩ ?_
          refine And.intro ⟨rfl, by decide, by decide⟩ ?_
          refine fload rL_741_741_531_853_14_0 h0 hB17 (by omega) ?_
          intro z19 lz19 uz19 qz19
          have v166 := mL_r (i0 := 531) (i1 := 853) (m := 14) (q := 0) (by decide +kernel) qz19 (by omega) rfl
          rw [r153, e102] at v166
          refine Exists.intro xm_239 (And.intro mi_239 (And.intro ⟨rfl, rfl, rfl, rfl⟩ (And.intro rfl ?_)))
          refine fcallp hB17 (ct_M_cellAt_c15f4 (fBz h0 hB17) (by first | exact ⟨lz19, uz19⟩ | omega)) ?_
          rintro _ ⟨_, rfl, rfl⟩
          refine fload rL_741_741_38_418_20_0 h0 hB17 (by omega) ?_
          intro z21 lz21 uz21 qz21
          have v176 := mL_r (i0 := 38) (i1 := 418) (m := 20) (q := 0) (by decide +kernel) qz21 (by omega) rfl
          rw [r153, e102] at v176
          intro z22 hz22 ez22 bz22
          try replace bz22 := bz22 (by omega)
          refine fstore rS_741_741_38_418_20_0 (fzs_sub (by decide +kernel) hW) (by omega) (by omega) ?_
          intro IhB23 ehB23 hB23
          have t24 := fup_self ehB23
          have r179 := mS_r (i0 := 38) (i1 := 418) (m := 20) (q := 0) (by decide +kernel) ehB23 (by omega) rfl
          exact ⟨rfl, True.intro, (by rw [r179, r153, e102]; exact ((sLs_of (by omega) (by omega) (by omega) v166 (by omega) (by omega) (by omega) hz22 ez22 v176).trans (sSk2_y v110 (by omega) (by omega) v122 (by omega) (mn_le (by omega) (by omega) (by omega)))))⟩
      · intro c25
        refine And.intro ⟨rfl, by decide, by decide⟩ ?_
        refine fload rL_741_741_535_857_14_0 h0 hB1 (by omega) ?_
        intro z26 lz26 uz26 qz26
        have v47 := mL_r (i0 := 535) (i1 := 857) (m := 14) (q := 0) (by decide +kernel) qz26 (by omega) rfl
        refine And.intro (by first | exact fi_ lz26 uz26 rfl | omega) (And.intro ?_ ?_)
        · intro c27
          refine And.intro ⟨rfl, by decide, by decide⟩ ?_
          refine And.intro ⟨rfl, by decide, by decide⟩ ?_
          refine fload rL_741_741_537_859_14_0 h0 hB1 (by omega) ?_
          intro z28 lz28 uz28 qz28
          have v98 := mL_r (i0 := 537) (i1 := 859) (m := 14) (q := 0) (by decide +kernel) qz28 (by omega) rfl
          refine Exists.intro xm_291 (And.intro mi_291 (And.intro ⟨rfl, rfl, rfl, rfl⟩ (And.intro True.intro ?_)))
          refine fcallp hB1 (ct_M_least_31c1d (fBz h0 hB1) (by first | exact ⟨by decide, by decide⟩ | omega) (by first | exact ⟨lz28, uz28⟩ | omega)) ?_
          rintro _ ⟨z29, rfl, hz29⟩
          refine fstore rS_741_741_537_859_14_0 (fzs_sub (by decide +kernel) hW) (by omega) (by first | exact ⟨hz29.1.1, hz29.1.2⟩ | omega) ?_
          intro IhB30 ehB30 hB30
          have t31 := fup_self ehB30
          have r102 := mS_r (i0 := 537) (i1 := 859) (m := 14) (q := 0) (by decide +kernel) ehB30 (by omega) rfl
          have e102 := r102.trans (weJ_end (by omega) hx0 (by omega) v34 (p := 535 + 14 * x1) rfl (by first | exact Or.inl (by omega) | exact Or.inr ⟨_, gt_at v47 (by omega), by omega⟩) (by omega) v98 (mn_le (by omega) (by omega) (by omega)))
          skip
          refine And.intro ⟨rfl, by decide, by decide⟩ ?_
          refine fload rL_741_741_535_857_14_0 h0 hB30 (by omega) ?_
          intro z32 lz32 uz32 qz32
          have v110 := mL_r (i0 := 535) (i1 := 857) (m := 14) (q := 0) (by decide +kernel) qz32 (by omega) rfl
          rw [e102] at v110
          refine And.intro (by first | exact fi_ lz32 uz32 rfl | omega) (And.intro ?_ ?_)
          · intro c33
            exact ⟨rfl, True.intro, (by rw [e102]; exact (sSk2_n v110 (by omega) (by omega)))⟩
          · intro c34
            refine And.intro ⟨rfl, by decide, by decide⟩ ?_
            refine fload rL_741_741_536_858_14_0 h0 hB30 (by omega) ?_
            intro z35 lz35 uz35 qz35
            have v122 := mL_r (i0 := 536) (i1 := 858) (m := 14) (q := 0) (by decide +kernel) qz35 (by omega) rfl
            rw [e102] at v122
            refine And.intro ⟨rfl, by decide, by decide⟩ ?_
            refine fload rL_741_741_536_858_14_0 h0 hB30 (by omega) ?_
            intro z36 lz36 uz36 qz36
            have v132 := mL_r (i0 := 536) (i1 := 858) (m := 14) (q := 0) (by decide +kernel) qz36 (by omega) rfl
            rw [e102] at v132
            refine And.intro (And.intro (by first | exact fi_ lz36 uz36 rfl | omega) (And.intro (by first | exact ⟨by decide, by decide⟩ | omega) (And.intro (by first | exact by decide | omega) rfl))) ?_
            intro z37 hz37 ez37 dz37
            have dz37 := dz37 (by omega) (by omega)
            change _ = _ / _ at dz37
            intro z38 hz38 ez38 bz38
            have bz38 := bz38 (by omega)
            refine Exists.intro xm_291 (And.intro mi_291 (And.intro ⟨rfl, rfl, rfl, rfl⟩ (And.intro True.intro ?_)))
            refine fcallp hB30 (ct_M_least_31c1d (fBz h0 hB30) (by first | exact ⟨lz35, Int.le_trans uz35 (by decide)⟩ | omega) (by omega)) ?_
            rintro _ ⟨z39, rfl, hz39⟩
            refine And.intro ⟨rfl, by decide, by decide⟩ ?_
            refine fload rL_741_741_536_858_14_0 h0 hB30 (by omega) ?_
            intro z40 lz40 uz40 qz40
            have v150 := mL_r (i0 := 536) (i1 := 858) (m := 14) (q := 0) (by decide +kernel) qz40 (by omega) rfl
            rw [e102] at v150
            intro z41 hz41 ez41 bz41
            try replace bz41 := bz41 (by omega)
            refine fstore rS_741_741_536_858_14_0 (fzs_sub (by decide +kernel) hW) (by omega) (by omega) ?_
            intro IhB42 ehB42 hB42
            have t43 := fup_self ehB42
            have r153 := mS_r (i0 := 536) (i1 := 858) (m := 14) (q := 0) (by decide +kernel) ehB42 (by omega) rfl
            refine And.intro ⟨rfl, by decide, by decide⟩ ?_
            refine And.intro ⟨rfl, by decide, by decide⟩ ?_
            refine fload rL_741_741_531_853_14_0 h0 hB42 (by omega) ?_
            intro z44 lz44 uz44 qz44
            have v166 := mL_r (i0 := 531) (i1 := 853) (m := 14) (q := 0) (by decide +kernel) qz44 (by omega) rfl
            rw [r153, e102] at v166
            refine Exists.intro xm_239 (And.intro mi_239 (And.intro ⟨rfl, rfl, rfl, rfl⟩ (And.intro rfl ?_)))
            refine fcallp hB42 (ct_M_cellAt_c15f4 (fBz h0 hB42) (by first | exact ⟨lz44, uz44⟩ | omega)) ?_
            rintro _ ⟨_, rfl, rfl⟩
            refine fload rL_741_741_38_418_20_0 h0 hB42 (by omega) ?_
            intro z46 lz46 uz46 qz46
            have v176 := mL_r (i0 := 38) (i1 := 418) (m := 20) (q := 0) (by decide +kernel) qz46 (by omega) rfl
            rw [r153, e102] at v176
            intro z47 hz47 ez47 bz47
            try replace bz47 := bz47 (by omega)
            refine fstore rS_741_741_38_418_20_0 (fzs_sub (by decide +kernel) hW) (by omega) (by omega) ?_
            intro IhB48 ehB48 hB48
            have t49 := fup_self ehB48
            have r179 := mS_r (i0 := 38) (i1 := 418) (m := 20) (q := 0) (by decide +kernel) ehB48 (by omega) rfl
            exact ⟨rfl, True.intro, (by rw [r179, r153, e102]; exact ((sLs_of (by omega) (by omega) (by omega) v166 (by omega) (by omega) (by omega) hz47 ez47 v176).trans (sSk2_y v110 (by omega) (by omega) v122 (by omega) (mn_le (by omega) (by omega) (by omega)))))⟩
        · intro c50
          refine And.intro ⟨rfl, by decide, by decide⟩ ?_
          refine fload rL_741_741_537_859_14_0 h0 hB1 (by omega) ?_
          intro z51 lz51 uz51 qz51
          have v60 := mL_r (i0 := 537) (i1 := 859) (m := 14) (q := 0) (by decide +kernel) qz51 (by omega) rfl
          intro z52 hz52 ez52 bz52
          try replace bz52 := bz52 (by omega)
          refine fstore rS_741_741_537_859_14_0 (fzs_sub (by decide +kernel) hW) (by omega) (by omega) ?_
          intro IhB53 ehB53 hB53
          have t54 := fup_self ehB53
          have r64 := mS_r (i0 := 537) (i1 := 859) (m := 14) (q := 0) (by decide +kernel) ehB53 (by omega) rfl
          refine And.intro ⟨rfl, by decide, by decide⟩ ?_
          refine fload rL_741_741_535_857_14_0 h0 hB53 (by omega) ?_
          intro z55 lz55 uz55 qz55
          have v73 := mL_r (i0 := 535) (i1 := 857) (m := 14) (q := 0) (by decide +kernel) qz55 (by omega) rfl
          rw [r64] at v73
          have u73 := qz55.trans (fup_other ehB53 _ _ (Or.inr (by omega)))
          intro z56 hz56 ez56 bz56
          have bz56 := bz56 (by omega)
          refine fstore rS_741_741_535_857_14_0 (fzs_sub (by decide +kernel) hW) (by omega) (by omega) ?_
          intro IhB57 ehB57 hB57
          have t58 := fup_self ehB57
          have r76 := mS_r (i0 := 535) (i1 := 857) (m := 14) (q := 0) (by decide +kernel) ehB57 (by omega) rfl
          have w76 := fup_other ehB57 741 (y2 + ((7 : Nat) : Int)).toNat (by omega)
          exact fcutJ (I := IhB57) (j := (jc_M_wears_b070e_26 x1 I)) (lv' := [(0, .inr (.inr (some 740))), (2, .inl _)]) (And.intro rfl (And.intro rfl True.intro)) ⟨_, rfl, rfl, ⟨by omega, (by rw [r76, r64]; exact (weJ_go (by omega) hx0 (by omega) v34 (by omega) (by omega) v47 (by omega) (by omega) (by omega) (by omega) (by have q := gt_at (gt_n (by omega) (by omega) v73) (show _ = 535 + 14 * x1 by omega); have q2 := gt_at v47 (show _ = 535 + 14 * x1 by omega); omega)))⟩, rfl⟩ (by omega)
  · have hB0 := fB_self (zn := znJ) (K := fKc wz_ad13a) h0
    refine Exists.intro xm_244 (And.intro mi_244 (And.intro ⟨rfl, rfl, rfl, rfl⟩ (And.intro rfl ?_)))
    refine fcallp hB0 (ct_M_workAt_83d38 (fBz h0 hB0) (by first | exact ⟨ha1.1, ha1.2⟩ | omega)) ?_
    rintro _ ⟨_, rfl, rfl⟩
    refine And.intro ⟨rfl, by decide, by decide⟩ ?_
    refine fload rL_741_741_537_859_14_0 h0 hB0 (by omega) ?_
    intro z60 lz60 uz60 qz60
    have v15 := mL_r (i0 := 537) (i1 := 859) (m := 14) (q := 0) (by decide +kernel) qz60 (by omega) rfl
    have w15 : 0 ≤ z60 ∧ z60 ≤ 99 := by rw [gt_at v15 (show _ = 537 + 14 * x1 by omega)]; exact (okA_at hp0 (by omega)).2.2.2.2
    refine Exists.intro xm_281 (And.intro mi_281 (And.intro ⟨rfl, rfl, rfl, rfl⟩ (And.intro rfl ?_)))
    refine fcallp hB0 (ct_M_table_49021 (fBz h0 hB0) (by omega)) ?_
    rintro _ ⟨z61, rfl, hz61, g0z61⟩
    refine And.intro (And.intro (by first | exact fi_ hz61.1 hz61.2 rfl | omega) (And.intro (by first | exact ⟨by decide, by decide⟩ | omega) (And.intro (by first | exact by decide | omega) rfl))) ?_
    intro z62 hz62 ez62 dz62
    have dz62 := dz62 (by omega) (by omega)
    change _ = _ / _ at dz62
    intro z63 hz63 ez63 bz63
    try replace bz63 := bz63 (by omega)
    refine fstore rS_741_741_537_859_14_0 (fzs_sub (by decide +kernel) hW) (by omega) (by omega) ?_
    intro IhB64 ehB64 hB64
    have t65 := fup_self ehB64
    have r25 := mS_r (i0 := 537) (i1 := 859) (m := 14) (q := 0) (by decide +kernel) ehB64 (by omega) rfl
    exact fcutJ (I := IhB64) (j := (jc_M_wears_b070e_26 x1 I)) (lv' := [(0, .inr (.inr (some 740))), (2, .inl _)]) (And.intro rfl (And.intro rfl True.intro)) ⟨_, rfl, rfl, ⟨by omega, (by rw [r25]; exact (weJ_0 (by omega) ((mR_rng (i0 := 535) (i1 := 857) (m := 14) (q := 0) (lo := 0) (hi := 99999) (by decide +kernel) h0 (by omega)).1) v15 (by omega) g0z61 (by omega) (by omega) (by omega)))⟩, rfl⟩ (by omega)
set_option maxRecDepth 8000 in
theorem ct_M_falls_0e45b {I : fH} {x1 : Int} (h0 : fB bsJ I) (ha1 : (0 ≤ x1 ∧ x1 ≤ 23)) (hp0 : 0 ≤ I 741 (530 + 14 * x1 + ((9 : Nat) : Int)).toNat) (hp1 : gt (mR I) (538 + 14 * x1) = 0) : fC ρ base n F xTc vwCl xTys D dA la gJ (fbz bsJ znJ (fKc wz_11492) I) xm_296 [.inr (.inr (some 740)), .inl x1] I (fun I' r => r = none ∧ True ∧ (mR I' = sPr (mR I) x1)) := by
  have hW : fzs wz_11492 (fKc wz_11492) := fKc_ok _
  refine f_meth (rb := rbJ) (J := []) 1 400 xG xin_296 x6_296 okJ (fB_self h0) ?_ ?_
  · exact fun q h => absurd h List.not_mem_nil
  · have hB0 := fB_self (zn := znJ) (K := fKc wz_11492) h0
    refine Exists.intro xm_244 (And.intro mi_244 (And.intro ⟨rfl, rfl, rfl, rfl⟩ (And.intro rfl ?_)))
    refine fcallp hB0 (ct_M_workAt_83d38 (fBz h0 hB0) (by first | exact ⟨ha1.1, ha1.2⟩ | omega)) ?_
    rintro _ ⟨_, rfl, rfl⟩
    refine And.intro ⟨rfl, by decide, by decide⟩ ?_
    refine fload rL_741_741_539_861_14_0 h0 hB0 (by omega) ?_
    intro z2 lz2 uz2 qz2
    have v15 := mL_r (i0 := 539) (i1 := 861) (m := 14) (q := 0) (by decide +kernel) qz2 (by omega) rfl
    have w15 : z2 = gt (mR I) (539 + 14 * x1) := gt_at v15 (by omega)
    refine And.intro ⟨rfl, by decide, by decide⟩ ?_
    refine fload rL_741_741_539_861_14_0 h0 hB0 (by omega) ?_
    intro z3 lz3 uz3 qz3
    have v24 := mL_r (i0 := 539) (i1 := 861) (m := 14) (q := 0) (by decide +kernel) qz3 (by omega) rfl
    have w24 : z3 = gt (mR I) (539 + 14 * x1) := gt_at v24 (by omega)
    refine And.intro (by first | exact fi_ lz3 uz3 rfl | omega) (And.intro ?_ ?_)
    · intro c4
      refine fstore rS_741_741_539_861_14_0 (fzs_sub (by decide +kernel) hW) (by omega) (by omega) ?_
      intro IhB5 ehB5 hB5
      have t6 := fup_self ehB5
      have r34 := mS_r (i0 := 539) (i1 := 861) (m := 14) (q := 0) (by decide +kernel) ehB5 (by omega) rfl
      refine And.intro ⟨rfl, by decide, by decide⟩ ?_
      refine fload rL_741_741_540_862_14_0 h0 hB5 (by omega) ?_
      intro z7 lz7 uz7 qz7
      have v44 := mL_r (i0 := 540) (i1 := 862) (m := 14) (q := 0) (by decide +kernel) qz7 (by omega) rfl
      rw [r34] at v44
      refine And.intro ⟨rfl, by decide, by decide⟩ ?_
      refine And.intro ⟨rfl, by decide, by decide⟩ ?_
      refine fload rL_741_741_539_861_14_0 h0 hB5 (by omega) ?_
      intro z8 lz8 uz8 qz8
      have v60 := mL_r (i0 := 539) (i1 := 861) (m := 14) (q := 0) (by decide +kernel) qz8 (by omega) rfl
      rw [r34] at v60
      have w60 := gt_e (by omega) (by omega) v60
      refine fload rL_741_741_1081_1141_1_0 h0 hB5 (by omega) ?_
      intro z9 lz9 uz9 qz9
      have v62 := mL_r (i0 := 1081) (i1 := 1141) (m := 1) (q := 0) (by decide +kernel) qz9 (by omega) rfl
      rw [r34] at v62
      intro z10 hz10 ez10 bz10
      try replace bz10 := bz10 (by omega)
      refine fstore rS_741_741_540_862_14_0 (fzs_sub (by decide +kernel) hW) (by omega) (by omega) ?_
      intro IhB11 ehB11 hB11
      have t12 := fup_self ehB11
      have r64 := mS_r (i0 := 540) (i1 := 862) (m := 14) (q := 0) (by decide +kernel) ehB11 (by omega) rfl
      refine And.intro ⟨rfl, by decide, by decide⟩ ?_
      refine fload rL_741_741_540_862_14_0 h0 hB11 (by omega) ?_
      intro z13 lz13 uz13 qz13
      have v73 := mL_r (i0 := 540) (i1 := 862) (m := 14) (q := 0) (by decide +kernel) qz13 (by omega) rfl
      rw [r64, r34] at v73
      refine And.intro ⟨rfl, by decide, by decide⟩ ?_
      refine fload rL_741_741_535_857_14_0 h0 hB11 (by omega) ?_
      intro z14 lz14 uz14 qz14
      have v81 := mL_r (i0 := 535) (i1 := 857) (m := 14) (q := 0) (by decide +kernel) qz14 (by omega) rfl
      rw [r64, r34] at v81
      refine And.intro (And.intro (by first | exact fi_ lz13 uz13 rfl | omega) (by first | exact fi_ lz14 uz14 rfl | omega)) (And.intro ?_ ?_)
      · intro c15
        exact ⟨rfl, True.intro, (by rw [r64, r34]; exact (sPr_z (by omega) v15 (by omega) (by omega) (by omega) (by split <;> omega) v44 (by omega) v62 (by omega) (by omega) (by omega) (by omega) (by omega) hz10 ez10 (gt_e (by omega) (by omega) v73) (gt_n (by omega) (by omega) (gt_n (by omega) (by omega) v81)) (by omega) (by omega) hp1))⟩
      · intro c16
        refine And.intro ⟨rfl, by decide, by decide⟩ ?_
        refine fstore rS_741_741_538_860_14_0 (fzs_sub (by decide +kernel) hW) (by omega) (by first | exact ⟨by decide, by decide⟩ | omega) ?_
        intro IhB17 ehB17 hB17
        have t18 := fup_self ehB17
        have r94 := mS_r (i0 := 538) (i1 := 860) (m := 14) (q := 0) (by decide +kernel) ehB17 (by omega) rfl
        exact ⟨rfl, True.intro, (by rw [r94, r64, r34]; exact (sPr_y (by omega) v15 (by omega) (by omega) (by omega) (by split <;> omega) v44 (by omega) v62 (by omega) (by omega) (by omega) (by omega) (by omega) hz10 ez10 (gt_e (by omega) (by omega) v73) (gt_n (by omega) (by omega) (gt_n (by omega) (by omega) v81)) (by omega) (by omega) (by split <;> omega)))⟩
    · intro c19
      refine fstore rS_741_741_539_861_14_0 (fzs_sub (by decide +kernel) hW) (by omega) (by omega) ?_
      intro IhB20 ehB20 hB20
      have t21 := fup_self ehB20
      have r34 := mS_r (i0 := 539) (i1 := 861) (m := 14) (q := 0) (by decide +kernel) ehB20 (by omega) rfl
      refine And.intro ⟨rfl, by decide, by decide⟩ ?_
      refine fload rL_741_741_540_862_14_0 h0 hB20 (by omega) ?_
      intro z22 lz22 uz22 qz22
      have v44 := mL_r (i0 := 540) (i1 := 862) (m := 14) (q := 0) (by decide +kernel) qz22 (by omega) rfl
      rw [r34] at v44
      refine And.intro ⟨rfl, by decide, by decide⟩ ?_
      refine And.intro ⟨rfl, by decide, by decide⟩ ?_
      refine fload rL_741_741_539_861_14_0 h0 hB20 (by omega) ?_
      intro z23 lz23 uz23 qz23
      have v60 := mL_r (i0 := 539) (i1 := 861) (m := 14) (q := 0) (by decide +kernel) qz23 (by omega) rfl
      rw [r34] at v60
      have w60 := gt_e (by omega) (by omega) v60
      refine fload rL_741_741_1081_1141_1_0 h0 hB20 (by omega) ?_
      intro z24 lz24 uz24 qz24
      have v62 := mL_r (i0 := 1081) (i1 := 1141) (m := 1) (q := 0) (by decide +kernel) qz24 (by omega) rfl
      rw [r34] at v62
      intro z25 hz25 ez25 bz25
      try replace bz25 := bz25 (by omega)
      refine fstore rS_741_741_540_862_14_0 (fzs_sub (by decide +kernel) hW) (by omega) (by omega) ?_
      intro IhB26 ehB26 hB26
      have t27 := fup_self ehB26
      have r64 := mS_r (i0 := 540) (i1 := 862) (m := 14) (q := 0) (by decide +kernel) ehB26 (by omega) rfl
      refine And.intro ⟨rfl, by decide, by decide⟩ ?_
      refine fload rL_741_741_540_862_14_0 h0 hB26 (by omega) ?_
      intro z28 lz28 uz28 qz28
      have v73 := mL_r (i0 := 540) (i1 := 862) (m := 14) (q := 0) (by decide +kernel) qz28 (by omega) rfl
      rw [r64, r34] at v73
      refine And.intro ⟨rfl, by decide, by decide⟩ ?_
      refine fload rL_741_741_535_857_14_0 h0 hB26 (by omega) ?_
      intro z29 lz29 uz29 qz29
      have v81 := mL_r (i0 := 535) (i1 := 857) (m := 14) (q := 0) (by decide +kernel) qz29 (by omega) rfl
      rw [r64, r34] at v81
      refine And.intro (And.intro (by first | exact fi_ lz28 uz28 rfl | omega) (by first | exact fi_ lz29 uz29 rfl | omega)) (And.intro ?_ ?_)
      · intro c30
        exact ⟨rfl, True.intro, (by rw [r64, r34]; exact (sPr_z (by omega) v15 (by omega) (by omega) (by omega) (by split <;> omega) v44 (by omega) v62 (by omega) (by omega) (by omega) (by omega) (by omega) hz25 ez25 (gt_e (by omega) (by omega) v73) (gt_n (by omega) (by omega) (gt_n (by omega) (by omega) v81)) (by omega) (by omega) hp1))⟩
      · intro c31
        refine And.intro ⟨rfl, by decide, by decide⟩ ?_
        refine fstore rS_741_741_538_860_14_0 (fzs_sub (by decide +kernel) hW) (by omega) (by first | exact ⟨by decide, by decide⟩ | omega) ?_
        intro IhB32 ehB32 hB32
        have t33 := fup_self ehB32
        have r94 := mS_r (i0 := 538) (i1 := 860) (m := 14) (q := 0) (by decide +kernel) ehB32 (by omega) rfl
        exact ⟨rfl, True.intro, (by rw [r94, r64, r34]; exact (sPr_y (by omega) v15 (by omega) (by omega) (by omega) (by split <;> omega) v44 (by omega) v62 (by omega) (by omega) (by omega) (by omega) (by omega) hz25 ez25 (gt_e (by omega) (by omega) v73) (gt_n (by omega) (by omega) (gt_n (by omega) (by omega) v81)) (by omega) (by omega) (by split <;> omega)))⟩
set_option maxRecDepth 8000 in
theorem ct_M_works_ee8a5 {I : fH} {x1 : Int} (h0 : fB bsJ I) (ha1 : (0 ≤ x1 ∧ x1 ≤ 23)) (hp0 : okA (mR I)) (hp1 : gt (mR I) (538 + 14 * x1) = 0) : fC ρ base n F xTc vwCl xTys D dA la gJ (fbz bsJ znJ (fKc wz_40ea8) I) xm_288 [.inr (.inr (some 740)), .inl x1] I (fun I' r => r = none ∧ True ∧ (mR I' = sWk (mR I) x1)) := by
  have hW : fzs wz_40ea8 (fKc wz_40ea8) := fKc_ok _
  refine f_meth (rb := rbJ) (J := []) 1 400 xG xin_288 x6_288 okJ (fB_self h0) ?_ ?_
  · exact fun q h => absurd h List.not_mem_nil
  · have hB0 := fB_self (zn := znJ) (K := fKc wz_40ea8) h0
    refine Exists.intro xm_244 (And.intro mi_244 (And.intro ⟨rfl, rfl, rfl, rfl⟩ (And.intro rfl ?_)))
    refine fcallp hB0 (ct_M_workAt_83d38 (fBz h0 hB0) (by first | exact ⟨ha1.1, ha1.2⟩ | omega)) ?_
    rintro _ ⟨_, rfl, rfl⟩
    refine And.intro ⟨rfl, by decide, by decide⟩ ?_
    refine fload rL_741_741_530_852_14_0 h0 hB0 (by omega) ?_
    intro z2 lz2 uz2 qz2
    have v13 := mL_r (i0 := 530) (i1 := 852) (m := 14) (q := 0) (by decide +kernel) qz2 (by omega) rfl
    refine And.intro (by first | exact fi_ lz2 uz2 rfl | omega) (And.intro ?_ ?_)
    · refine And.intro (fun ex => ?_) (And.intro (fun ex => ?_) (And.intro (fun ex => ?_) (And.intro (fun ex => ?_) (And.intro (fun ex => ?_) (And.intro (fun ex => ?_) (True.intro))))))
      · skip
        refine Exists.intro xm_294 (And.intro mi_294 (And.intro ⟨rfl, rfl, rfl, rfl⟩ (And.intro rfl ?_)))
        refine fcallp hB0 (ct_M_isCovered_bfece (fBz h0 hB0) (by first | exact ⟨ha1.1, ha1.2⟩ | omega)) ?_
        rintro _ ⟨z3, rfl, hz3, g0z3⟩
        refine And.intro (by omega) (And.intro ?_ ?_)
        · intro c4
          exact ⟨rfl, True.intro, ((sSk_y (g0z3.elim (fun q => q.2) (fun q => absurd q.1 (by omega)))).trans ((sWk_at v13 (by omega)).1 (by omega)))⟩
        · intro c5
          refine Exists.intro xm_295 (And.intro mi_295 (And.intro ⟨rfl, rfl, rfl, rfl⟩ (And.intro rfl ?_)))
          refine fcall _ h0 (fzs_sub (by decide +kernel) hW) hB0 (ct_M_wears_b070e (fBz h0 hB0) (by first | exact ⟨ha1.1, ha1.2⟩ | omega) hp0) ?_
          rintro IhB7 _ hB7 fhB7 ⟨rfl, hz6, g0z6⟩
          exact ⟨rfl, True.intro, (by rw [g0z6]; exact ((sSk_n (g0z3.elim (fun q => absurd q.1 (by omega)) (fun q => q.2)) rfl rfl).trans ((sWk_at v13 (by omega)).1 (by omega))))⟩
      · skip
        refine Exists.intro xm_289 (And.intro mi_289 (And.intro ⟨rfl, rfl, rfl, rfl⟩ (And.intro rfl ?_)))
        refine fcall _ h0 (fzs_sub (by decide +kernel) hW) hB0 (ct_M_garden_cfd54 (fBz h0 hB0) (by first | exact ⟨ha1.1, ha1.2⟩ | omega)) ?_
        rintro IhB9 _ hB9 fhB9 ⟨rfl, hz8, g0z8⟩
        exact ⟨rfl, True.intro, (by rw [g0z8]; exact ((sWk_at v13 (by omega)).2.1 (by omega)))⟩
      · skip
        refine Exists.intro xm_293 (And.intro mi_293 (And.intro ⟨rfl, rfl, rfl, rfl⟩ (And.intro rfl ?_)))
        refine fcall _ h0 (fzs_sub (by decide +kernel) hW) hB0 (ct_M_still_f4bbc (fBz h0 hB0) (by first | exact ⟨ha1.1, ha1.2⟩ | omega)) ?_
        rintro IhB11 _ hB11 fhB11 ⟨rfl, hz10, g0z10⟩
        exact ⟨rfl, True.intro, (by rw [g0z10]; exact ((sWk_at v13 (by omega)).2.2.1 (by omega)))⟩
      · skip
        refine And.intro ⟨rfl, by decide, by decide⟩ ?_
        refine fload1 rL_741_741_22_22_1_0 h0 hB0 ⟨by decide, by decide⟩ (by first | exact ⟨by decide, by decide⟩ | omega) ?_
        intro z12 lz12 uz12 qz12
        have pz12 := fld_at qz12 22 (by omega)
        have v74 := mL_r (i0 := 22) (i1 := 22) (m := 1) (q := 0) (by decide +kernel) qz12 (by omega) rfl
        refine And.intro ⟨rfl, by decide, by decide⟩ ?_
        refine fload rL_741_741_535_857_14_0 h0 hB0 (by omega) ?_
        intro z13 lz13 uz13 qz13
        have v82 := mL_r (i0 := 535) (i1 := 857) (m := 14) (q := 0) (by decide +kernel) qz13 (by omega) rfl
        refine And.intro (And.intro (by first | exact fi_ lz12 uz12 rfl | omega) (by first | exact fi_ lz13 uz13 rfl | omega)) (And.intro ?_ ?_)
        · intro c14
          exact ⟨rfl, True.intro, ((sRo_n v74 (by omega) v82 (by omega) (by omega)).trans ((sWk_at v13 (by omega)).2.2.2.1 (by omega)))⟩
        · intro c15
          refine And.intro ⟨rfl, by decide, by decide⟩ ?_
          refine fload1 rL_741_741_22_22_1_0 h0 hB0 ⟨by decide, by decide⟩ (by first | exact ⟨by decide, by decide⟩ | omega) ?_
          intro z16 lz16 uz16 qz16
          have pz16 := fld_at qz16 22 (by omega)
          have v93 := mL_r (i0 := 22) (i1 := 22) (m := 1) (q := 0) (by decide +kernel) qz16 (by omega) rfl
          refine And.intro ⟨rfl, by decide, by decide⟩ ?_
          refine fload rL_741_741_535_857_14_0 h0 hB0 (by omega) ?_
          intro z17 lz17 uz17 qz17
          have v101 := mL_r (i0 := 535) (i1 := 857) (m := 14) (q := 0) (by decide +kernel) qz17 (by omega) rfl
          intro z18 hz18 ez18 bz18
          have bz18 := bz18 (by omega)
          refine fstore1 rS_741_741_22_22_1_0 (fzs_sub (by decide +kernel) hW) ⟨by decide, by decide⟩ (by first | exact ⟨by decide, by decide⟩ | omega) (by omega) ?_
          intro IhB19 ehB19 hB19
          have t20 := fup_self ehB19
          have t21 := fup_at ehB19 22 (by first | rfl | omega)
          have r103 := mS_r (i0 := 22) (i1 := 22) (m := 1) (q := 0) (by decide +kernel) ehB19 (by omega) rfl
          refine And.intro ⟨rfl, by decide, by decide⟩ ?_
          refine fload1 rL_741_741_2_2_1_0 h0 hB19 ⟨by decide, by decide⟩ (by first | exact ⟨by decide, by decide⟩ | omega) ?_
          intro z22 lz22 uz22 qz22
          have pz22 := fld_at qz22 2 (by omega)
          have v110 := mL_r (i0 := 2) (i1 := 2) (m := 1) (q := 0) (by decide +kernel) qz22 (by omega) rfl
          rw [r103] at v110
          intro z23 hz23 ez23 bz23
          try replace bz23 := bz23 (by omega)
          refine fstore1 rS_741_741_2_2_1_0 (fzs_sub (by decide +kernel) hW) ⟨by decide, by decide⟩ (by first | exact ⟨by decide, by decide⟩ | omega) (by omega) ?_
          intro IhB24 ehB24 hB24
          have t25 := fup_self ehB24
          have t26 := fup_at ehB24 2 (by first | rfl | omega)
          have t27 : IhB24 741 22 = IhB19 741 22 := (congrFun (congrFun ehB24 741) 22).trans (fup_ne (by first | decide | omega))
          have r113 := mS_r (i0 := 2) (i1 := 2) (m := 1) (q := 0) (by decide +kernel) ehB24 (by omega) rfl
          exact ⟨rfl, True.intro, (by rw [r113, r103]; exact ((sRo_y v74 (by omega) v82 (by omega) (by omega) (by omega) (by omega) (by omega) hz23 ez23 v110).trans ((sWk_at v13 (by omega)).2.2.2.1 (by omega))))⟩
      · skip
        refine And.intro ⟨rfl, by decide, by decide⟩ ?_
        refine fload rL_741_741_536_858_14_0 h0 hB0 (by omega) ?_
        intro z28 lz28 uz28 qz28
        have v126 := mL_r (i0 := 536) (i1 := 858) (m := 14) (q := 0) (by decide +kernel) qz28 (by omega) rfl
        have w126 := okA_pat hp0 v13 (by omega) (by omega) hp1 v126 (by omega) (by omega)
        intro z29 hz29 ez29 bz29
        have bz29 := bz29 (by omega)
        refine fstore rS_741_741_536_858_14_0 (fzs_sub (by decide +kernel) hW) (by omega) (by omega) ?_
        intro IhB30 ehB30 hB30
        have t31 := fup_self ehB30
        have r129 := mS_r (i0 := 536) (i1 := 858) (m := 14) (q := 0) (by decide +kernel) ehB30 (by omega) rfl
        refine And.intro ⟨rfl, by decide, by decide⟩ ?_
        refine And.intro ⟨rfl, by decide, by decide⟩ ?_
        refine fload rL_741_741_536_858_14_0 h0 hB30 (by omega) ?_
        intro z32 lz32 uz32 qz32
        have v146 := mL_r (i0 := 536) (i1 := 858) (m := 14) (q := 0) (by decide +kernel) qz32 (by omega) rfl
        rw [r129] at v146
        refine And.intro (by first | exact fi_ lz32 uz32 rfl | omega) (And.intro ?_ ?_)
        · intro c33
          refine fstore rS_741_741_538_860_14_0 (fzs_sub (by decide +kernel) hW) (by omega) (by omega) ?_
          intro IhB34 ehB34 hB34
          have t35 := fup_self ehB34
          have r155 := mS_r (i0 := 538) (i1 := 860) (m := 14) (q := 0) (by decide +kernel) ehB34 (by omega) rfl
          exact ⟨rfl, True.intro, (by rw [r155, r129]; exact ((sPa_of (by omega) v126 (by omega) (by omega) (by omega) v146 (by omega) (by omega) (by have q := gt_e (by omega) (by omega) v146; split <;> omega)).trans ((sWk_at v13 (by omega)).2.2.2.2.1 (by omega))))⟩
        · intro c36
          refine fstore rS_741_741_538_860_14_0 (fzs_sub (by decide +kernel) hW) (by omega) (by first | exact ⟨by decide, by decide⟩ | omega) ?_
          intro IhB37 ehB37 hB37
          have t38 := fup_self ehB37
          have r155 := mS_r (i0 := 538) (i1 := 860) (m := 14) (q := 0) (by decide +kernel) ehB37 (by omega) rfl
          exact ⟨rfl, True.intro, (by rw [r155, r129]; exact ((sPa_of (by omega) v126 (by omega) (by omega) (by omega) v146 (by omega) (by omega) (by have q := gt_e (by omega) (by omega) v146; split <;> omega)).trans ((sWk_at v13 (by omega)).2.2.2.2.1 (by omega))))⟩
      · skip
        refine And.intro ⟨rfl, by decide, by decide⟩ ?_
        refine fload rL_741_741_539_861_14_0 h0 hB0 (by omega) ?_
        intro z39 lz39 uz39 qz39
        have v183 := mL_r (i0 := 539) (i1 := 861) (m := 14) (q := 0) (by decide +kernel) qz39 (by omega) rfl
        refine And.intro (by first | exact fi_ lz39 uz39 rfl | omega) (And.intro ?_ ?_)
        · intro c40
          exact ⟨rfl, True.intro, ((sPr_n v183 (by omega) (by omega)).trans ((sWk_at v13 (by omega)).2.2.2.2.2.1 (by omega)))⟩
        · intro c41
          refine Exists.intro xm_296 (And.intro mi_296 (And.intro ⟨rfl, rfl, rfl, rfl⟩ (And.intro rfl ?_)))
          refine fcall _ h0 (fzs_sub (by decide +kernel) hW) hB0 (ct_M_falls_0e45b (fBz h0 hB0) (by first | exact ⟨ha1.1, ha1.2⟩ | omega) (by omega) hp1) ?_
          rintro IhB43 _ hB43 fhB43 ⟨rfl, hz42, g0z42⟩
          exact ⟨rfl, True.intro, (by rw [g0z42]; exact ((sWk_at v13 (by omega)).2.2.2.2.2.1 (by omega)))⟩
    · intro c44
      simp only [List.length_cons, List.length_nil] at c44
      exact ⟨rfl, True.intro, (by exact ((sWk_at v13 (by omega)).2.2.2.2.2.2 (by omega)))⟩
set_option maxRecDepth 8000 in
theorem ct_M_need_68cc2 {I : fH} {x1 : Int} (h0 : fB bsJ I) (ha1 : (0 ≤ x1 ∧ x1 ≤ 23)) : fC ρ base n F xTc vwCl xTys D dA la gJ (fbz bsJ znJ (fKc []) I) xm_300 [.inr (.inr (some 740)), .inl x1] I (fun _ r => ∃ z, r = some (.inl z) ∧ (1 ≤ z ∧ z ≤ 2) ∧ (z = sNd (mR I) x1)) := by
  have hW : fzs [] (fKc []) := fKc_ok _
  refine f_meth (rb := rbJ) (J := []) 1 400 xG xin_300 x6_300 okJ (fB_self h0) ?_ ?_
  · exact fun q h => absurd h List.not_mem_nil
  · have hB0 := fB_self (zn := znJ) (K := fKc []) h0
    refine And.intro ⟨rfl, by decide, by decide⟩ ?_
    refine Exists.intro xm_247 (And.intro mi_247 (And.intro ⟨rfl, rfl, rfl, rfl⟩ (And.intro rfl ?_)))
    refine fcallp hB0 (ct_M_personAt_9b331 (fBz h0 hB0) (by first | exact ⟨ha1.1, ha1.2⟩ | omega)) ?_
    rintro _ ⟨_, rfl, rfl⟩
    refine fload rL_741_741_870_1008_6_0 h0 hB0 (by omega) ?_
    intro z2 lz2 uz2 qz2
    have v11 := mL_r (i0 := 870) (i1 := 1008) (m := 6) (q := 0) (by decide +kernel) qz2 (by omega) rfl
    refine And.intro (And.intro (by first | exact fi_ lz2 uz2 rfl | omega) (by first | exact ⟨by decide, by decide⟩ | omega)) (And.intro ?_ ?_)
    · intro c3
      refine And.intro (True.intro) ?_
      exact ⟨_, rfl, by omega, (sNd_of v11 (by omega) (by omega))⟩
    · intro c4
      refine And.intro (True.intro) ?_
      exact ⟨_, rfl, (by first | exact ⟨by decide, by decide⟩ | omega), (sNd_of v11 (by omega) (by omega))⟩
set_option maxRecDepth 8000 in
theorem ct_M_breathes_a87a8 {I : fH} {x1 : Int} (h0 : fB bsJ I) (ha1 : (0 ≤ x1 ∧ x1 ≤ 23)) : fC ρ base n F xTc vwCl xTys D dA la gJ (fbz bsJ znJ (fKc wz_69747) I) xm_299 [.inr (.inr (some 740)), .inl x1] I (fun I' r => r = none ∧ True ∧ (mR I' = sBr (mR I) x1)) := by
  have hW : fzs wz_69747 (fKc wz_69747) := fKc_ok _
  refine f_meth (rb := rbJ) (J := []) 1 400 xG xin_299 x6_299 okJ (fB_self h0) ?_ ?_
  · exact fun q h => absurd h List.not_mem_nil
  · have hB0 := fB_self (zn := znJ) (K := fKc wz_69747) h0
    refine Exists.intro xm_247 (And.intro mi_247 (And.intro ⟨rfl, rfl, rfl, rfl⟩ (And.intro rfl ?_)))
    refine fcallp hB0 (ct_M_personAt_9b331 (fBz h0 hB0) (by first | exact ⟨ha1.1, ha1.2⟩ | omega)) ?_
    rintro _ ⟨_, rfl, rfl⟩
    refine And.intro ⟨rfl, by decide, by decide⟩ ?_
    refine fload rL_741_741_872_1010_6_0 h0 hB0 (by omega) ?_
    intro z2 lz2 uz2 qz2
    have v13 := mL_r (i0 := 872) (i1 := 1010) (m := 6) (q := 0) (by decide +kernel) qz2 (by omega) rfl
    have w13 : z2 = gt (mR I) (872 + 6 * x1) := gt_at v13 (by omega)
    refine Exists.intro xm_239 (And.intro mi_239 (And.intro ⟨rfl, rfl, rfl, rfl⟩ (And.intro rfl ?_)))
    refine fcallp hB0 (ct_M_cellAt_c15f4 (fBz h0 hB0) (by first | exact ⟨lz2, uz2⟩ | omega)) ?_
    rintro _ ⟨_, rfl, rfl⟩
    refine Exists.intro xm_300 (And.intro mi_300 (And.intro ⟨rfl, rfl, rfl, rfl⟩ (And.intro rfl ?_)))
    refine fcallp hB0 (ct_M_need_68cc2 (fBz h0 hB0) (by first | exact ⟨ha1.1, ha1.2⟩ | omega)) ?_
    rintro _ ⟨z4, rfl, hz4, g0z4⟩
    refine And.intro ⟨rfl, by decide, by decide⟩ ?_
    refine fload rL_741_741_31_411_20_0 h0 hB0 (by omega) ?_
    intro z5 lz5 uz5 qz5
    have v37 := mL_r (i0 := 31) (i1 := 411) (m := 20) (q := 0) (by decide +kernel) qz5 (by omega) rfl
    refine Exists.intro xm_291 (And.intro mi_291 (And.intro ⟨rfl, rfl, rfl, rfl⟩ (And.intro True.intro ?_)))
    refine fcallp hB0 (ct_M_least_31c1d (fBz h0 hB0) (by first | exact ⟨Int.le_trans (by decide) hz4.1, Int.le_trans hz4.2 (by decide)⟩ | omega) (by first | exact ⟨Int.le_trans (by decide) lz5, Int.le_trans uz5 (by decide)⟩ | omega)) ?_
    rintro _ ⟨z6, rfl, hz6⟩
    refine And.intro ⟨rfl, by decide, by decide⟩ ?_
    refine fload rL_741_741_31_411_20_0 h0 hB0 (by omega) ?_
    intro z7 lz7 uz7 qz7
    have v50 := mL_r (i0 := 31) (i1 := 411) (m := 20) (q := 0) (by decide +kernel) qz7 (by omega) rfl
    intro z8 hz8 ez8 bz8
    clear ez8
    have bz8 := bz8 (by omega)
    refine fstore rS_741_741_31_411_20_0 (fzs_sub (by decide +kernel) hW) (by omega) (by omega) ?_
    intro IhB9 ehB9 hB9
    have t10 := fup_self ehB9
    have r54 := mS_r (i0 := 31) (i1 := 411) (m := 20) (q := 0) (by decide +kernel) ehB9 (by omega) rfl
    refine And.intro (And.intro (by first | exact fi_ hz6.1.1 hz6.1.2 rfl | omega) (And.intro (by first | exact ⟨by decide, by decide⟩ | omega) (And.intro (by first | exact by decide | omega) rfl))) ?_
    intro z11 hz11 ez11 dz11
    have dz11 := dz11 (by omega) (by omega)
    change _ = _ / _ at dz11
    refine Exists.intro xm_292 (And.intro mi_292 (And.intro ⟨rfl, rfl, rfl, rfl⟩ (And.intro rfl ?_)))
    refine fcall _ h0 (fzs_sub (by decide +kernel) hW) hB9 (ct_M_comes_305fc (fBz h0 hB9) (by first | exact ⟨lz2, uz2⟩ | omega) (by first | exact ⟨by decide, by decide⟩ | omega) (by omega) (by omega) (by omega)) ?_
    rintro IhB13 _ hB13 fhB13 ⟨rfl, hz12, g0z12⟩
    refine And.intro (And.intro (by first | exact fi_ hz6.1.1 hz6.1.2 rfl | omega) (And.intro (by first | exact ⟨by decide, by decide⟩ | omega) (And.intro (by first | exact by decide | omega) rfl))) ?_
    intro z14 hz14 ez14 dz14
    have dz14 := dz14 (by omega) (by omega)
    change _ = _ / _ at dz14
    intro z15 hz15 ez15 bz15
    clear ez15
    have bz15 := bz15 (by omega)
    refine Exists.intro xm_292 (And.intro mi_292 (And.intro ⟨rfl, rfl, rfl, rfl⟩ (And.intro rfl ?_)))
    refine fcall _ h0 (fzs_sub (by decide +kernel) hW) hB13 (ct_M_comes_305fc (fBz h0 hB13) (by first | exact ⟨lz2, uz2⟩ | omega) (by first | exact ⟨by decide, by decide⟩ | omega) (by omega) (by omega) (by omega)) ?_
    rintro IhB17 _ hB17 fhB17 ⟨rfl, hz16, g0z16⟩
    refine Exists.intro xm_300 (And.intro mi_300 (And.intro ⟨rfl, rfl, rfl, rfl⟩ (And.intro rfl ?_)))
    refine fcallp hB17 (ct_M_need_68cc2 (fBz h0 hB17) (by first | exact ⟨ha1.1, ha1.2⟩ | omega)) ?_
    rintro _ ⟨z18, rfl, hz18, g0z18⟩
    try rw [g0z16, g0z12, r54] at g0z18
    have w82 : z18 = z4 := nd_same g0z18 (by rw [gt_sCo (by omega) (by omega) (by omega) (by omega) (by omega), gt_sCo (by omega) (by omega) (by omega) (by omega) (by omega), gt_ne (by omega) (by omega)]) g0z4
    refine And.intro (And.intro (by first | exact fi_ hz6.1.1 hz6.1.2 rfl | omega) (by first | exact fi_ hz18.1 hz18.2 rfl | omega)) (And.intro ?_ ?_)
    · intro c19
      refine And.intro ⟨rfl, by decide, by decide⟩ ?_
      refine Exists.intro xm_239 (And.intro mi_239 (And.intro ⟨rfl, rfl, rfl, rfl⟩ (And.intro rfl ?_)))
      refine fcallp hB17 (ct_M_cellAt_c15f4 (fBz h0 hB17) (by first | exact ⟨lz2, uz2⟩ | omega)) ?_
      rintro _ ⟨_, rfl, rfl⟩
      refine fload rL_741_741_34_414_20_0 h0 hB17 (by omega) ?_
      intro z21 lz21 uz21 qz21
      have v106 := mL_r (i0 := 34) (i1 := 414) (m := 20) (q := 0) (by decide +kernel) qz21 (by omega) rfl
      rw [g0z16, g0z12, r54] at v106
      refine And.intro ⟨rfl, by decide, by decide⟩ ?_
      refine Exists.intro xm_239 (And.intro mi_239 (And.intro ⟨rfl, rfl, rfl, rfl⟩ (And.intro rfl ?_)))
      refine fcallp hB17 (ct_M_cellAt_c15f4 (fBz h0 hB17) (by first | exact ⟨lz2, uz2⟩ | omega)) ?_
      rintro _ ⟨_, rfl, rfl⟩
      refine fload rL_741_741_30_410_20_0 h0 hB17 (by omega) ?_
      intro z23 lz23 uz23 qz23
      have v118 := mL_r (i0 := 30) (i1 := 410) (m := 20) (q := 0) (by decide +kernel) qz23 (by omega) rfl
      rw [g0z16, g0z12, r54] at v118
      refine And.intro (And.intro (by first | exact fi_ lz21 uz21 rfl | omega) (by first | exact fi_ lz23 uz23 rfl | omega)) (And.intro ?_ ?_)
      · intro c24
        refine And.intro ⟨rfl, by decide, by decide⟩ ?_
        refine fload rL_741_741_873_1011_6_0 h0 hB17 (by omega) ?_
        intro z25 lz25 uz25 qz25
        have v137 := mL_r (i0 := 873) (i1 := 1011) (m := 6) (q := 0) (by decide +kernel) qz25 (by omega) rfl
        rw [g0z16, g0z12, r54] at v137
        refine And.intro (by omega) (And.intro ?_ ?_)
        · intro c26
          intro z27 hz27 ez27 bz27
          clear ez27
          have bz27 := bz27 (by omega)
          refine And.intro ⟨rfl, by decide, by decide⟩ ?_
          refine And.intro (by omega) (And.intro ?_ ?_)
          · intro c28
            refine Exists.intro xm_291 (And.intro mi_291 (And.intro ⟨rfl, rfl, rfl, rfl⟩ (And.intro True.intro ?_)))
            refine fcallp hB17 (ct_M_least_31c1d (fBz h0 hB17) (by first | exact ⟨by decide, by decide⟩ | omega) (by omega)) ?_
            rintro _ ⟨z29, rfl, hz29⟩
            refine fstore rS_741_741_873_1011_6_0 (fzs_sub (by decide +kernel) hW) (by omega) (by omega) ?_
            intro IhB30 ehB30 hB30
            have t31 := fup_self ehB30
            have r175 := mS_r (i0 := 873) (i1 := 1011) (m := 6) (q := 0) (by decide +kernel) ehB30 (by omega) rfl
            exact ⟨rfl, True.intro, (by rw [r175, g0z16, g0z12, r54]; exact (sBr_of (n := z6) (m := 0) (R2 := _) v13 (by omega) g0z4 (by omega) (mn_of (mn_le (by omega) (by omega) (by omega)) rfl v37) (by omega) (by omega) (by omega) (by omega) (by omega) rfl rfl rfl v106 (by omega) v118 (by omega) (by (repeat' split) <;> omega) v137 (by omega) (by omega) (mn_le (by (repeat' split) <;> omega) (by (repeat' split) <;> omega) (by (repeat' split) <;> omega))))⟩
          · intro c32
            refine fstore rS_741_741_873_1011_6_0 (fzs_sub (by decide +kernel) hW) (by omega) (by first | exact ⟨by decide, by decide⟩ | omega) ?_
            intro IhB33 ehB33 hB33
            have t34 := fup_self ehB33
            have r175 := mS_r (i0 := 873) (i1 := 1011) (m := 6) (q := 0) (by decide +kernel) ehB33 (by omega) rfl
            exact ⟨rfl, True.intro, (by rw [r175, g0z16, g0z12, r54]; exact (sBr_of (n := z6) (m := 0) (R2 := _) v13 (by omega) g0z4 (by omega) (mn_of (mn_le (by omega) (by omega) (by omega)) rfl v37) (by omega) (by omega) (by omega) (by omega) (by omega) rfl rfl rfl v106 (by omega) v118 (by omega) (by (repeat' split) <;> omega) v137 (by omega) (by omega) (mn_le (by (repeat' split) <;> omega) (by (repeat' split) <;> omega) (by (repeat' split) <;> omega))))⟩
        · intro c35
          intro z36 hz36 ez36 bz36
          clear ez36
          have bz36 := bz36 (by omega)
          refine And.intro ⟨rfl, by decide, by decide⟩ ?_
          refine And.intro (by omega) (And.intro ?_ ?_)
          · intro c37
            refine Exists.intro xm_291 (And.intro mi_291 (And.intro ⟨rfl, rfl, rfl, rfl⟩ (And.intro True.intro ?_)))
            refine fcallp hB17 (ct_M_least_31c1d (fBz h0 hB17) (by first | exact ⟨by decide, by decide⟩ | omega) (by omega)) ?_
            rintro _ ⟨z38, rfl, hz38⟩
            refine fstore rS_741_741_873_1011_6_0 (fzs_sub (by decide +kernel) hW) (by omega) (by omega) ?_
            intro IhB39 ehB39 hB39
            have t40 := fup_self ehB39
            have r175 := mS_r (i0 := 873) (i1 := 1011) (m := 6) (q := 0) (by decide +kernel) ehB39 (by omega) rfl
            exact ⟨rfl, True.intro, (by rw [r175, g0z16, g0z12, r54]; exact (sBr_of (n := z6) (m := 0) (R2 := _) v13 (by omega) g0z4 (by omega) (mn_of (mn_le (by omega) (by omega) (by omega)) rfl v37) (by omega) (by omega) (by omega) (by omega) (by omega) rfl rfl rfl v106 (by omega) v118 (by omega) (by (repeat' split) <;> omega) v137 (by omega) (by omega) (mn_le (by (repeat' split) <;> omega) (by (repeat' split) <;> omega) (by (repeat' split) <;> omega))))⟩
          · intro c41
            refine fstore rS_741_741_873_1011_6_0 (fzs_sub (by decide +kernel) hW) (by omega) (by first | exact ⟨by decide, by decide⟩ | omega) ?_
            intro IhB42 ehB42 hB42
            have t43 := fup_self ehB42
            have r175 := mS_r (i0 := 873) (i1 := 1011) (m := 6) (q := 0) (by decide +kernel) ehB42 (by omega) rfl
            exact ⟨rfl, True.intro, (by rw [r175, g0z16, g0z12, r54]; exact (sBr_of (n := z6) (m := 0) (R2 := _) v13 (by omega) g0z4 (by omega) (mn_of (mn_le (by omega) (by omega) (by omega)) rfl v37) (by omega) (by omega) (by omega) (by omega) (by omega) rfl rfl rfl v106 (by omega) v118 (by omega) (by (repeat' split) <;> omega) v137 (by omega) (by omega) (mn_le (by (repeat' split) <;> omega) (by (repeat' split) <;> omega) (by (repeat' split) <;> omega))))⟩
      · intro c44
        refine And.intro ⟨rfl, by decide, by decide⟩ ?_
        refine fload rL_741_741_873_1011_6_0 h0 hB17 (by omega) ?_
        intro z45 lz45 uz45 qz45
        have v137 := mL_r (i0 := 873) (i1 := 1011) (m := 6) (q := 0) (by decide +kernel) qz45 (by omega) rfl
        rw [g0z16, g0z12, r54] at v137
        refine And.intro (by omega) (And.intro ?_ ?_)
        · intro c46
          intro z47 hz47 ez47 bz47
          clear ez47
          have bz47 := bz47 (by omega)
          refine And.intro ⟨rfl, by decide, by decide⟩ ?_
          refine And.intro (by omega) (And.intro ?_ ?_)
          · intro c48
            refine Exists.intro xm_291 (And.intro mi_291 (And.intro ⟨rfl, rfl, rfl, rfl⟩ (And.intro True.intro ?_)))
            refine fcallp hB17 (ct_M_least_31c1d (fBz h0 hB17) (by first | exact ⟨by decide, by decide⟩ | omega) (by omega)) ?_
            rintro _ ⟨z49, rfl, hz49⟩
            refine fstore rS_741_741_873_1011_6_0 (fzs_sub (by decide +kernel) hW) (by omega) (by omega) ?_
            intro IhB50 ehB50 hB50
            have t51 := fup_self ehB50
            have r175 := mS_r (i0 := 873) (i1 := 1011) (m := 6) (q := 0) (by decide +kernel) ehB50 (by omega) rfl
            exact ⟨rfl, True.intro, (by rw [r175, g0z16, g0z12, r54]; exact (sBr_of (n := z6) (m := 3) (R2 := _) v13 (by omega) g0z4 (by omega) (mn_of (mn_le (by omega) (by omega) (by omega)) rfl v37) (by omega) (by omega) (by omega) (by omega) (by omega) rfl rfl rfl v106 (by omega) v118 (by omega) (by (repeat' split) <;> omega) v137 (by omega) (by omega) (mn_le (by (repeat' split) <;> omega) (by (repeat' split) <;> omega) (by (repeat' split) <;> omega))))⟩
          · intro c52
            refine fstore rS_741_741_873_1011_6_0 (fzs_sub (by decide +kernel) hW) (by omega) (by first | exact ⟨by decide, by decide⟩ | omega) ?_
            intro IhB53 ehB53 hB53
            have t54 := fup_self ehB53
            have r175 := mS_r (i0 := 873) (i1 := 1011) (m := 6) (q := 0) (by decide +kernel) ehB53 (by omega) rfl
            exact ⟨rfl, True.intro, (by rw [r175, g0z16, g0z12, r54]; exact (sBr_of (n := z6) (m := 3) (R2 := _) v13 (by omega) g0z4 (by omega) (mn_of (mn_le (by omega) (by omega) (by omega)) rfl v37) (by omega) (by omega) (by omega) (by omega) (by omega) rfl rfl rfl v106 (by omega) v118 (by omega) (by (repeat' split) <;> omega) v137 (by omega) (by omega) (mn_le (by (repeat' split) <;> omega) (by (repeat' split) <;> omega) (by (repeat' split) <;> omega))))⟩
        · intro c55
          intro z56 hz56 ez56 bz56
          clear ez56
          have bz56 := bz56 (by omega)
          refine And.intro ⟨rfl, by decide, by decide⟩ ?_
          refine And.intro (by omega) (And.intro ?_ ?_)
          · intro c57
            refine Exists.intro xm_291 (And.intro mi_291 (And.intro ⟨rfl, rfl, rfl, rfl⟩ (And.intro True.intro ?_)))
            refine fcallp hB17 (ct_M_least_31c1d (fBz h0 hB17) (by first | exact ⟨by decide, by decide⟩ | omega) (by omega)) ?_
            rintro _ ⟨z58, rfl, hz58⟩
            refine fstore rS_741_741_873_1011_6_0 (fzs_sub (by decide +kernel) hW) (by omega) (by omega) ?_
            intro IhB59 ehB59 hB59
            have t60 := fup_self ehB59
            have r175 := mS_r (i0 := 873) (i1 := 1011) (m := 6) (q := 0) (by decide +kernel) ehB59 (by omega) rfl
            exact ⟨rfl, True.intro, (by rw [r175, g0z16, g0z12, r54]; exact (sBr_of (n := z6) (m := 3) (R2 := _) v13 (by omega) g0z4 (by omega) (mn_of (mn_le (by omega) (by omega) (by omega)) rfl v37) (by omega) (by omega) (by omega) (by omega) (by omega) rfl rfl rfl v106 (by omega) v118 (by omega) (by (repeat' split) <;> omega) v137 (by omega) (by omega) (mn_le (by (repeat' split) <;> omega) (by (repeat' split) <;> omega) (by (repeat' split) <;> omega))))⟩
          · intro c61
            refine fstore rS_741_741_873_1011_6_0 (fzs_sub (by decide +kernel) hW) (by omega) (by first | exact ⟨by decide, by decide⟩ | omega) ?_
            intro IhB62 ehB62 hB62
            have t63 := fup_self ehB62
            have r175 := mS_r (i0 := 873) (i1 := 1011) (m := 6) (q := 0) (by decide +kernel) ehB62 (by omega) rfl
            exact ⟨rfl, True.intro, (by rw [r175, g0z16, g0z12, r54]; exact (sBr_of (n := z6) (m := 3) (R2 := _) v13 (by omega) g0z4 (by omega) (mn_of (mn_le (by omega) (by omega) (by omega)) rfl v37) (by omega) (by omega) (by omega) (by omega) (by omega) rfl rfl rfl v106 (by omega) v118 (by omega) (by (repeat' split) <;> omega) v137 (by omega) (by omega) (mn_le (by (repeat' split) <;> omega) (by (repeat' split) <;> omega) (by (repeat' split) <;> omega))))⟩
    · intro c64
      refine And.intro ⟨rfl, by decide, by decide⟩ ?_
      refine Exists.intro xm_239 (And.intro mi_239 (And.intro ⟨rfl, rfl, rfl, rfl⟩ (And.intro rfl ?_)))
      refine fcallp hB17 (ct_M_cellAt_c15f4 (fBz h0 hB17) (by first | exact ⟨lz2, uz2⟩ | omega)) ?_
      rintro _ ⟨_, rfl, rfl⟩
      refine fload rL_741_741_34_414_20_0 h0 hB17 (by omega) ?_
      intro z66 lz66 uz66 qz66
      have v106 := mL_r (i0 := 34) (i1 := 414) (m := 20) (q := 0) (by decide +kernel) qz66 (by omega) rfl
      rw [g0z16, g0z12, r54] at v106
      refine And.intro ⟨rfl, by decide, by decide⟩ ?_
      refine Exists.intro xm_239 (And.intro mi_239 (And.intro ⟨rfl, rfl, rfl, rfl⟩ (And.intro rfl ?_)))
      refine fcallp hB17 (ct_M_cellAt_c15f4 (fBz h0 hB17) (by first | exact ⟨lz2, uz2⟩ | omega)) ?_
      rintro _ ⟨_, rfl, rfl⟩
      refine fload rL_741_741_30_410_20_0 h0 hB17 (by omega) ?_
      intro z68 lz68 uz68 qz68
      have v118 := mL_r (i0 := 30) (i1 := 410) (m := 20) (q := 0) (by decide +kernel) qz68 (by omega) rfl
      rw [g0z16, g0z12, r54] at v118
      refine And.intro (And.intro (by first | exact fi_ lz66 uz66 rfl | omega) (by first | exact fi_ lz68 uz68 rfl | omega)) (And.intro ?_ ?_)
      · intro c69
        refine And.intro ⟨rfl, by decide, by decide⟩ ?_
        refine fload rL_741_741_873_1011_6_0 h0 hB17 (by omega) ?_
        intro z70 lz70 uz70 qz70
        have v137 := mL_r (i0 := 873) (i1 := 1011) (m := 6) (q := 0) (by decide +kernel) qz70 (by omega) rfl
        rw [g0z16, g0z12, r54] at v137
        refine And.intro (by omega) (And.intro ?_ ?_)
        · intro c71
          intro z72 hz72 ez72 bz72
          clear ez72
          have bz72 := bz72 (by omega)
          refine And.intro ⟨rfl, by decide, by decide⟩ ?_
          refine And.intro (by omega) (And.intro ?_ ?_)
          · intro c73
            refine Exists.intro xm_291 (And.intro mi_291 (And.intro ⟨rfl, rfl, rfl, rfl⟩ (And.intro True.intro ?_)))
            refine fcallp hB17 (ct_M_least_31c1d (fBz h0 hB17) (by first | exact ⟨by decide, by decide⟩ | omega) (by omega)) ?_
            rintro _ ⟨z74, rfl, hz74⟩
            refine fstore rS_741_741_873_1011_6_0 (fzs_sub (by decide +kernel) hW) (by omega) (by omega) ?_
            intro IhB75 ehB75 hB75
            have t76 := fup_self ehB75
            have r175 := mS_r (i0 := 873) (i1 := 1011) (m := 6) (q := 0) (by decide +kernel) ehB75 (by omega) rfl
            exact ⟨rfl, True.intro, (by rw [r175, g0z16, g0z12, r54]; exact (sBr_of (n := z6) (m := 5) (R2 := _) v13 (by omega) g0z4 (by omega) (mn_of (mn_le (by omega) (by omega) (by omega)) rfl v37) (by omega) (by omega) (by omega) (by omega) (by omega) rfl rfl rfl v106 (by omega) v118 (by omega) (by (repeat' split) <;> omega) v137 (by omega) (by omega) (mn_le (by (repeat' split) <;> omega) (by (repeat' split) <;> omega) (by (repeat' split) <;> omega))))⟩
          · intro c77
            refine fstore rS_741_741_873_1011_6_0 (fzs_sub (by decide +kernel) hW) (by omega) (by first | exact ⟨by decide, by decide⟩ | omega) ?_
            intro IhB78 ehB78 hB78
            have t79 := fup_self ehB78
            have r175 := mS_r (i0 := 873) (i1 := 1011) (m := 6) (q := 0) (by decide +kernel) ehB78 (by omega) rfl
            exact ⟨rfl, True.intro, (by rw [r175, g0z16, g0z12, r54]; exact (sBr_of (n := z6) (m := 5) (R2 := _) v13 (by omega) g0z4 (by omega) (mn_of (mn_le (by omega) (by omega) (by omega)) rfl v37) (by omega) (by omega) (by omega) (by omega) (by omega) rfl rfl rfl v106 (by omega) v118 (by omega) (by (repeat' split) <;> omega) v137 (by omega) (by omega) (mn_le (by (repeat' split) <;> omega) (by (repeat' split) <;> omega) (by (repeat' split) <;> omega))))⟩
        · intro c80
          intro z81 hz81 ez81 bz81
          clear ez81
          have bz81 := bz81 (by omega)
          refine And.intro ⟨rfl, by decide, by decide⟩ ?_
          refine And.intro (by omega) (And.intro ?_ ?_)
          · intro c82
            refine Exists.intro xm_291 (And.intro mi_291 (And.intro ⟨rfl, rfl, rfl, rfl⟩ (And.intro True.intro ?_)))
            refine fcallp hB17 (ct_M_least_31c1d (fBz h0 hB17) (by first | exact ⟨by decide, by decide⟩ | omega) (by omega)) ?_
            rintro _ ⟨z83, rfl, hz83⟩
            refine fstore rS_741_741_873_1011_6_0 (fzs_sub (by decide +kernel) hW) (by omega) (by omega) ?_
            intro IhB84 ehB84 hB84
            have t85 := fup_self ehB84
            have r175 := mS_r (i0 := 873) (i1 := 1011) (m := 6) (q := 0) (by decide +kernel) ehB84 (by omega) rfl
            exact ⟨rfl, True.intro, (by rw [r175, g0z16, g0z12, r54]; exact (sBr_of (n := z6) (m := 5) (R2 := _) v13 (by omega) g0z4 (by omega) (mn_of (mn_le (by omega) (by omega) (by omega)) rfl v37) (by omega) (by omega) (by omega) (by omega) (by omega) rfl rfl rfl v106 (by omega) v118 (by omega) (by (repeat' split) <;> omega) v137 (by omega) (by omega) (mn_le (by (repeat' split) <;> omega) (by (repeat' split) <;> omega) (by (repeat' split) <;> omega))))⟩
          · intro c86
            refine fstore rS_741_741_873_1011_6_0 (fzs_sub (by decide +kernel) hW) (by omega) (by first | exact ⟨by decide, by decide⟩ | omega) ?_
            intro IhB87 ehB87 hB87
            have t88 := fup_self ehB87
            have r175 := mS_r (i0 := 873) (i1 := 1011) (m := 6) (q := 0) (by decide +kernel) ehB87 (by omega) rfl
            exact ⟨rfl, True.intro, (by rw [r175, g0z16, g0z12, r54]; exact (sBr_of (n := z6) (m := 5) (R2 := _) v13 (by omega) g0z4 (by omega) (mn_of (mn_le (by omega) (by omega) (by omega)) rfl v37) (by omega) (by omega) (by omega) (by omega) (by omega) rfl rfl rfl v106 (by omega) v118 (by omega) (by (repeat' split) <;> omega) v137 (by omega) (by omega) (mn_le (by (repeat' split) <;> omega) (by (repeat' split) <;> omega) (by (repeat' split) <;> omega))))⟩
      · intro c89
        refine And.intro ⟨rfl, by decide, by decide⟩ ?_
        refine fload rL_741_741_873_1011_6_0 h0 hB17 (by omega) ?_
        intro z90 lz90 uz90 qz90
        have v137 := mL_r (i0 := 873) (i1 := 1011) (m := 6) (q := 0) (by decide +kernel) qz90 (by omega) rfl
        rw [g0z16, g0z12, r54] at v137
        refine And.intro (by omega) (And.intro ?_ ?_)
        · intro c91
          intro z92 hz92 ez92 bz92
          clear ez92
          have bz92 := bz92 (by omega)
          refine And.intro ⟨rfl, by decide, by decide⟩ ?_
          refine And.intro (by omega) (And.intro ?_ ?_)
          · intro c93
            refine Exists.intro xm_291 (And.intro mi_291 (And.intro ⟨rfl, rfl, rfl, rfl⟩ (And.intro True.intro ?_)))
            refine fcallp hB17 (ct_M_least_31c1d (fBz h0 hB17) (by first | exact ⟨by decide, by decide⟩ | omega) (by omega)) ?_
            rintro _ ⟨z94, rfl, hz94⟩
            refine fstore rS_741_741_873_1011_6_0 (fzs_sub (by decide +kernel) hW) (by omega) (by omega) ?_
            intro IhB95 ehB95 hB95
            have t96 := fup_self ehB95
            have r175 := mS_r (i0 := 873) (i1 := 1011) (m := 6) (q := 0) (by decide +kernel) ehB95 (by omega) rfl
            exact ⟨rfl, True.intro, (by rw [r175, g0z16, g0z12, r54]; exact (sBr_of (n := z6) (m := 8) (R2 := _) v13 (by omega) g0z4 (by omega) (mn_of (mn_le (by omega) (by omega) (by omega)) rfl v37) (by omega) (by omega) (by omega) (by omega) (by omega) rfl rfl rfl v106 (by omega) v118 (by omega) (by (repeat' split) <;> omega) v137 (by omega) (by omega) (mn_le (by (repeat' split) <;> omega) (by (repeat' split) <;> omega) (by (repeat' split) <;> omega))))⟩
          · intro c97
            refine fstore rS_741_741_873_1011_6_0 (fzs_sub (by decide +kernel) hW) (by omega) (by first | exact ⟨by decide, by decide⟩ | omega) ?_
            intro IhB98 ehB98 hB98
            have t99 := fup_self ehB98
            have r175 := mS_r (i0 := 873) (i1 := 1011) (m := 6) (q := 0) (by decide +kernel) ehB98 (by omega) rfl
            exact ⟨rfl, True.intro, (by rw [r175, g0z16, g0z12, r54]; exact (sBr_of (n := z6) (m := 8) (R2 := _) v13 (by omega) g0z4 (by omega) (mn_of (mn_le (by omega) (by omega) (by omega)) rfl v37) (by omega) (by omega) (by omega) (by omega) (by omega) rfl rfl rfl v106 (by omega) v118 (by omega) (by (repeat' split) <;> omega) v137 (by omega) (by omega) (mn_le (by (repeat' split) <;> omega) (by (repeat' split) <;> omega) (by (repeat' split) <;> omega))))⟩
        · intro c100
          intro z101 hz101 ez101 bz101
          clear ez101
          have bz101 := bz101 (by omega)
          refine And.intro ⟨rfl, by decide, by decide⟩ ?_
          refine And.intro (by omega) (And.intro ?_ ?_)
          · intro c102
            refine Exists.intro xm_291 (And.intro mi_291 (And.intro ⟨rfl, rfl, rfl, rfl⟩ (And.intro True.intro ?_)))
            refine fcallp hB17 (ct_M_least_31c1d (fBz h0 hB17) (by first | exact ⟨by decide, by decide⟩ | omega) (by omega)) ?_
            rintro _ ⟨z103, rfl, hz103⟩
            refine fstore rS_741_741_873_1011_6_0 (fzs_sub (by decide +kernel) hW) (by omega) (by omega) ?_
            intro IhB104 ehB104 hB104
            have t105 := fup_self ehB104
            have r175 := mS_r (i0 := 873) (i1 := 1011) (m := 6) (q := 0) (by decide +kernel) ehB104 (by omega) rfl
            exact ⟨rfl, True.intro, (by rw [r175, g0z16, g0z12, r54]; exact (sBr_of (n := z6) (m := 8) (R2 := _) v13 (by omega) g0z4 (by omega) (mn_of (mn_le (by omega) (by omega) (by omega)) rfl v37) (by omega) (by omega) (by omega) (by omega) (by omega) rfl rfl rfl v106 (by omega) v118 (by omega) (by (repeat' split) <;> omega) v137 (by omega) (by omega) (mn_le (by (repeat' split) <;> omega) (by (repeat' split) <;> omega) (by (repeat' split) <;> omega))))⟩
          · intro c106
            refine fstore rS_741_741_873_1011_6_0 (fzs_sub (by decide +kernel) hW) (by omega) (by first | exact ⟨by decide, by decide⟩ | omega) ?_
            intro IhB107 ehB107 hB107
            have t108 := fup_self ehB107
            have r175 := mS_r (i0 := 873) (i1 := 1011) (m := 6) (q := 0) (by decide +kernel) ehB107 (by omega) rfl
            exact ⟨rfl, True.intro, (by rw [r175, g0z16, g0z12, r54]; exact (sBr_of (n := z6) (m := 8) (R2 := _) v13 (by omega) g0z4 (by omega) (mn_of (mn_le (by omega) (by omega) (by omega)) rfl v37) (by omega) (by omega) (by omega) (by omega) (by omega) rfl rfl rfl v106 (by omega) v118 (by omega) (by (repeat' split) <;> omega) v137 (by omega) (by omega) (mn_le (by (repeat' split) <;> omega) (by (repeat' split) <;> omega) (by (repeat' split) <;> omega))))⟩
abbrev jc_M_fouls_5e9bc_27 (x1 : Int) (I0 : fH) : Nat → fL → List fV → fH → Prop := fun m lv st I => ∃ (y2 : Int), lv = [(0, .inr (.inr (some 740))), (2, .inl y2)] ∧ st = [] ∧ ((((530 ≤ y2 ∧ y2 ≤ 852) ∧ (y2 - 530) % 14 ≤ 0) ∧ (y2 = 530 + 14 * x1)) ∧ (foJ (mR I0) x1 (gt (mR I0) (542 + 14 * x1) + gt (mR I0) (541 + 14 * x1)) (I 741 (y2 + ((12 : Nat) : Int)).toNat) (mR I))) ∧ m = (1 + 1 * I 741 (y2 + ((12 : Nat) : Int)).toNat : Int).toNat
set_option maxRecDepth 8000 in
theorem ct_M_fouls_5e9bc {I : fH} {x1 : Int} (h0 : fB bsJ I) (ha1 : (0 ≤ x1 ∧ x1 ≤ 23)) (hp0 : okA (mR I)) : fC ρ base n F xTc vwCl xTys D dA la gJ (fbz bsJ znJ (fKc wz_d1017) I) xm_302 [.inr (.inr (some 740)), .inl x1] I (fun I' r => r = none ∧ True ∧ (mR I' = sFo (mR I) x1)) := by
  have hW : fzs wz_d1017 (fKc wz_d1017) := fKc_ok _
  refine f_meth (rb := rbJ) (J := [(27, (jc_M_fouls_5e9bc_27 x1 I))]) 2147483650 400 xG xin_302 x6_302 okJ (fB_self h0) ?_ ?_
  · refine List.forall_mem_cons.mpr ⟨?_, fun q h => absurd h List.not_mem_nil⟩
    · rintro m _ _ I1 hB1 ⟨y2, rfl, rfl, ⟨hb, hx0⟩, hm⟩
      refine And.intro ⟨rfl, by decide, by decide⟩ ?_
      refine fload rL_741_741_542_864_14_0 h0 hB1 (by omega) ?_
      intro z1 lz1 uz1 qz1
      have v35 := mL_r (i0 := 542) (i1 := 864) (m := 14) (q := 0) (by decide +kernel) qz1 (by omega) rfl
      refine And.intro (And.intro (by first | exact fi_ lz1 uz1 rfl | omega) (by first | exact ⟨by decide, by decide⟩ | omega)) (And.intro ?_ ?_)
      · intro c2
        exact ⟨rfl, True.intro, (foJ_end hx0 (by omega))⟩
      · intro c3
        refine And.intro ⟨rfl, by decide, by decide⟩ ?_
        refine fload rL_741_741_542_864_14_0 h0 hB1 (by omega) ?_
        intro z4 lz4 uz4 qz4
        have v50 := mL_r (i0 := 542) (i1 := 864) (m := 14) (q := 0) (by decide +kernel) qz4 (by omega) rfl
        intro z5 hz5 ez5 bz5
        clear ez5
        try replace bz5 := bz5 (by omega)
        refine fstore rS_741_741_542_864_14_0 (fzs_sub (by decide +kernel) hW) (by omega) (by omega) ?_
        intro IhB6 ehB6 hB6
        have t7 := fup_self ehB6
        have r54 := mS_r (i0 := 542) (i1 := 864) (m := 14) (q := 0) (by decide +kernel) ehB6 (by omega) rfl
        refine And.intro ⟨rfl, by decide, by decide⟩ ?_
        refine And.intro ⟨rfl, by decide, by decide⟩ ?_
        refine fload rL_741_741_534_856_14_0 h0 hB6 (by omega) ?_
        intro z8 lz8 uz8 qz8
        have v71 := mL_r (i0 := 534) (i1 := 856) (m := 14) (q := 0) (by decide +kernel) qz8 (by omega) rfl
        rw [r54] at v71
        intro z9 hz9 ez9 bz9
        clear ez9
        have bz9 := bz9 (by omega)
        refine Exists.intro xm_291 (And.intro mi_291 (And.intro ⟨rfl, rfl, rfl, rfl⟩ (And.intro True.intro ?_)))
        refine fcallp hB6 (ct_M_least_31c1d (fBz h0 hB6) (by first | exact ⟨by decide, by decide⟩ | omega) (by omega)) ?_
        rintro _ ⟨z10, rfl, hz10⟩
        refine fstore rS_741_741_534_856_14_0 (fzs_sub (by decide +kernel) hW) (by omega) (by omega) ?_
        intro IhB11 ehB11 hB11
        have t12 := fup_self ehB11
        have r77 := mS_r (i0 := 534) (i1 := 856) (m := 14) (q := 0) (by decide +kernel) ehB11 (by omega) rfl
        have w77 := fup_other ehB11 741 (y2 + ((12 : Nat) : Int)).toNat (by omega)
        exact fcutJ (I := IhB11) (j := (jc_M_fouls_5e9bc_27 x1 I)) (lv' := [(0, .inr (.inr (some 740))), (2, .inl _)]) (And.intro rfl (And.intro rfl True.intro)) ⟨_, rfl, rfl, ⟨by omega, (foJ_y (by rw [r77, r54]; exact (foJ_go (by omega) hx0 (by omega) (by omega) (by omega) (by omega) v71 (by omega) (mn_le (by omega) (by omega) (by omega)))) (by omega))⟩, rfl⟩ (by omega)
  · have hB0 := fB_self (zn := znJ) (K := fKc wz_d1017) h0
    refine Exists.intro xm_244 (And.intro mi_244 (And.intro ⟨rfl, rfl, rfl, rfl⟩ (And.intro rfl ?_)))
    refine fcallp hB0 (ct_M_workAt_83d38 (fBz h0 hB0) (by first | exact ⟨ha1.1, ha1.2⟩ | omega)) ?_
    rintro _ ⟨_, rfl, rfl⟩
    refine And.intro ⟨rfl, by decide, by decide⟩ ?_
    refine fload rL_741_741_542_864_14_0 h0 hB0 (by omega) ?_
    intro z14 lz14 uz14 qz14
    have v15 := mL_r (i0 := 542) (i1 := 864) (m := 14) (q := 0) (by decide +kernel) qz14 (by omega) rfl
    have w15 := okA_sum (w := x1) hp0 v15 (by omega) (by omega)
    refine And.intro ⟨rfl, by decide, by decide⟩ ?_
    refine fload rL_741_741_541_863_14_0 h0 hB0 (by omega) ?_
    intro z15 lz15 uz15 qz15
    have v24 := mL_r (i0 := 541) (i1 := 863) (m := 14) (q := 0) (by decide +kernel) qz15 (by omega) rfl
    intro z16 hz16 ez16 bz16
    clear ez16
    try replace bz16 := bz16 (by omega)
    refine fstore rS_741_741_542_864_14_0 (fzs_sub (by decide +kernel) hW) (by omega) (by omega) ?_
    intro IhB17 ehB17 hB17
    have t18 := fup_self ehB17
    have r26 := mS_r (i0 := 542) (i1 := 864) (m := 14) (q := 0) (by decide +kernel) ehB17 (by omega) rfl
    exact fcutJ (I := IhB17) (j := (jc_M_fouls_5e9bc_27 x1 I)) (lv' := [(0, .inr (.inr (some 740))), (2, .inl _)]) (And.intro rfl (And.intro rfl True.intro)) ⟨_, rfl, rfl, ⟨by omega, (foJ_y (by rw [r26]; exact (foJ_0 (by omega) ((mR_rng (i0 := 534) (i1 := 856) (m := 14) (q := 0) (lo := 0) (hi := 100) (by decide +kernel) h0 (by omega)).2) v15 (by omega) v24 (by omega) (by omega) (by omega) (by omega))) (by omega))⟩, rfl⟩ (by omega)
abbrev jc_M_minute_7c04c_6 (I0 : fH) : Nat → fL → List fV → fH → Prop := fun m lv st I => ∃ (y1 : Int), lv = [(0, .inr (.inr (some 740))), (1, .inl y1)] ∧ st = [] ∧ (((0 ≤ y1 ∧ y1 ≤ 24) ∧ (I 741 0 = I0 741 0) ∧ (y1 ≤ I0 741 7)) ∧ (mR I = nf sWk1 (sCome (mR I0)) y1.toNat) ∧ (okA (mR I)) ∧ (okB (mR I)) ∧ (gt (sCome (mR I0)) 7 = I0 741 7)) ∧ m = (97 + 1 * (24 - y1) : Int).toNat
abbrev jc_M_minute_7c04c_54 (I0 : fH) : Nat → fL → List fV → fH → Prop := fun m lv st I => ∃ (y1 : Int), lv = [(0, .inr (.inr (some 740))), (1, .inl y1)] ∧ st = [] ∧ (((0 ≤ y1 ∧ y1 ≤ 24) ∧ (I 741 0 = I0 741 0) ∧ (y1 ≤ I0 741 6)) ∧ (mR I = nf sFl1 (sMi1 (sCome (mR I0))) y1.toNat) ∧ (okA (mR I)) ∧ (okB (mR I)) ∧ (gt (sMi1 (sCome (mR I0))) 6 = I0 741 6)) ∧ m = (72 + 1 * (24 - y1) : Int).toNat
abbrev jc_M_minute_7c04c_78 (I0 : fH) : Nat → fL → List fV → fH → Prop := fun m lv st I => ∃ (y1 : Int), lv = [(0, .inr (.inr (some 740))), (1, .inl y1)] ∧ st = [] ∧ (((0 ≤ y1 ∧ y1 ≤ 20) ∧ (I 741 0 = I0 741 0) ∧ (y1 ≤ I0 741 5)) ∧ (mR I = nf sLk (sMi2 (sMi1 (sCome (mR I0)))) y1.toNat) ∧ (okA (mR I)) ∧ (okB (mR I)) ∧ (gt (sMi2 (sMi1 (sCome (mR I0)))) 5 = I0 741 5)) ∧ m = (51 + 1 * (20 - y1) : Int).toNat
abbrev jc_M_minute_7c04c_101 (I0 : fH) : Nat → fL → List fV → fH → Prop := fun m lv st I => ∃ (y1 : Int), lv = [(0, .inr (.inr (some 740))), (1, .inl y1)] ∧ st = [] ∧ (((0 ≤ y1 ∧ y1 ≤ 24) ∧ (I 741 0 = I0 741 0) ∧ (y1 ≤ I0 741 8)) ∧ (mR I = nf sBr0 (sMi3 (sMi2 (sMi1 (sCome (mR I0))))) y1.toNat) ∧ (okA (mR I)) ∧ (okB (mR I)) ∧ (gt (sMi3 (sMi2 (sMi1 (sCome (mR I0))))) 8 = I0 741 8)) ∧ m = (26 + 1 * (24 - y1) : Int).toNat
abbrev jc_M_minute_7c04c_147 (I0 : fH) : Nat → fL → List fV → fH → Prop := fun m lv st I => ∃ (y1 : Int), lv = [(0, .inr (.inr (some 740))), (1, .inl y1)] ∧ st = [] ∧ (((0 ≤ y1 ∧ y1 ≤ 24) ∧ (I 741 0 = I0 741 0) ∧ (y1 ≤ I0 741 7)) ∧ (mR I = nf sFo1 (sMi5 (sRi (sMi4 (sMi3 (sMi2 (sMi1 (sCome (mR I0)))))))) y1.toNat) ∧ (okA (mR I)) ∧ (okB (mR I)) ∧ (gt (sMi5 (sRi (sMi4 (sMi3 (sMi2 (sMi1 (sCome (mR I0)))))))) 7 = I0 741 7)) ∧ m = (1 + 1 * (24 - y1) : Int).toNat
set_option maxRecDepth 8000 in
theorem ct_M_minute_7c04c {I : fH}  (h0 : fB bsJ I) (hp0 : sI I 741) (hp1 : I 741 0 ≤ 21999) (hp2 : okA (mR I)) (hp3 : okB (mR I)) (hp4 : 0 ≤ gt (mR I) 0 ∧ gt (mR I) 0 ≤ 30000) : fC ρ base n F xTc vwCl xTys D dA la gJ (fbz bsJ znJ (fKc wz_f4290) I) xm_285 [.inr (.inr (some 740))] I (fun I' r => r = none ∧ I' 741 0 = I 741 0 + 1 ∧ (okA (mR I')) ∧ (okB (mR I')) ∧ (mR I' = sMin (mR I))) := by
  have hW : fzs wz_f4290 (fKc wz_f4290) := fKc_ok _
  refine f_meth (rb := rbJ) (J := [(6, (jc_M_minute_7c04c_6 I)), (54, (jc_M_minute_7c04c_54 I)), (78, (jc_M_minute_7c04c_78 I)), (101, (jc_M_minute_7c04c_101 I)), (147, (jc_M_minute_7c04c_147 I))]) 122 400 xG xin_285 x6_285 okJ (fB_self h0) ?_ ?_
  · refine List.forall_mem_cons.mpr ⟨?_, List.forall_mem_cons.mpr ⟨?_, List.forall_mem_cons.mpr ⟨?_, List.forall_mem_cons.mpr ⟨?_, List.forall_mem_cons.mpr ⟨?_, fun q h => absurd h List.not_mem_nil⟩⟩⟩⟩⟩
    · rintro m _ _ I1 hB1 ⟨y1, rfl, rfl, ⟨hb, hx0, hx1, hx2, hx3⟩, hm⟩
      have k1 := fBz_eq hB1 (a := 741) (j := 7) (by decide +kernel)
      have k2 := fBz_eq hB1 (a := 741) (j := 6) (by decide +kernel)
      have k3 := fBz_eq hB1 (a := 741) (j := 5) (by decide +kernel)
      have k4 := fBz_eq hB1 (a := 741) (j := 8) (by decide +kernel)
      have k5 := fBz_eq hB1 (a := 741) (j := 7) (by decide +kernel)
      have b6 := fBd fb_741_7 (fBz h0 hB1)
      have b7 := fBd fb_741_6 (fBz h0 hB1)
      have b8 := fBd fb_741_5 (fBz h0 hB1)
      have b9 := fBd fb_741_8 (fBz h0 hB1)
      have b10 := fBd fb_741_7 (fBz h0 hB1)
      refine And.intro ⟨rfl, by decide, by decide⟩ ?_
      refine fload1 rL_741_741_7_7_1_0 h0 hB1 ⟨by decide, by decide⟩ (by first | exact ⟨by decide, by decide⟩ | omega) ?_
      intro z11 lz11 uz11 qz11
      have pz11 := fld_at qz11 7 (by omega)
      have v13 := mL_r (i0 := 7) (i1 := 7) (m := 1) (q := 0) (by decide +kernel) qz11 (by omega) rfl
      refine And.intro (And.intro (by first | exact fi_ hb.1.1 hb.1.2 rfl | omega) (by first | exact fi_ lz11 uz11 rfl | omega)) (And.intro ?_ ?_)
      · intro c12
        have m54 : mR I1 = (sMi1 (sCome (mR I))) := nf_end hx0 (by omega)
        have n54 : I1 741 6 = gt (mR I1) 6 := (show I1 741 6 = gt (mR I1) 6 from (mR_ld (I := I1) (k := 6) (by decide +kernel)).symm)
        exact fcutJ (I := I1) (j := (jc_M_minute_7c04c_54 I)) (lv' := [(0, .inr (.inr (some 740))), (1, .inl _)]) (And.intro rfl (And.intro rfl True.intro)) ⟨_, rfl, rfl, ⟨by omega, m54, hx1, hx2, (by rw [← m54]; omega)⟩, rfl⟩ (by omega)
      · intro c13
        refine And.intro ⟨rfl, by decide, by decide⟩ ?_
        refine Exists.intro xm_244 (And.intro mi_244 (And.intro ⟨rfl, rfl, rfl, rfl⟩ (And.intro rfl ?_)))
        refine fcallp hB1 (ct_M_workAt_83d38 (fBz h0 hB1) (by first | exact ⟨hb.1.1, Int.le_trans (Int.le_sub_one_of_lt (Int.lt_of_lt_of_le c13 uz11)) (by decide)⟩ | omega)) ?_
        rintro _ ⟨_, rfl, rfl⟩
        refine fload rL_741_741_533_855_14_0 h0 hB1 (by omega) ?_
        intro z15 lz15 uz15 qz15
        have v28 := mL_r (i0 := 533) (i1 := 855) (m := 14) (q := 0) (by decide +kernel) qz15 (by omega) rfl
        refine And.intro (And.intro (by first | exact fi_ lz15 uz15 rfl | omega) (by first | exact ⟨by decide, by decide⟩ | omega)) (And.intro ?_ ?_)
        · intro c16
          have s6 : mR I1 = sWk1 y1.toNat (mR I1) := sWk1_n (u := y1) (by omega) (Or.inl ⟨_, v28, by omega, by omega⟩)
          exact fcutJ (I := I1) (j := (jc_M_minute_7c04c_6 I)) (lv' := [(0, .inr (.inr (some 740))), (1, .inl _)]) (And.intro rfl (And.intro rfl True.intro)) ⟨_, rfl, rfl, ⟨by omega, (nf_row hx0 (by omega) (by omega) s6), hx1, hx2, hx3⟩, rfl⟩ (by omega)
        · intro c17
          refine Exists.intro xm_245 (And.intro mi_245 (And.intro ⟨rfl, rfl, rfl, rfl⟩ (And.intro rfl ?_)))
          refine fcallp hB1 (ct_M_isGone_0de37 (fBz h0 hB1) (by first | exact ⟨hb.1.1, Int.le_trans (Int.le_sub_one_of_lt (Int.lt_of_lt_of_le c13 uz11)) (by decide)⟩ | omega)) ?_
          rintro _ ⟨z18, rfl, hz18, g0z18⟩
          refine And.intro (by omega) (And.intro ?_ ?_)
          · intro c19
            have s6 : mR I1 = sWk1 y1.toNat (mR I1) := sWk1_n (p := 0) (u := y1) (by omega) (Or.inr (g0z18.elim (fun q => q.2) (fun q => absurd q.1 (by omega))))
            exact fcutJ (I := I1) (j := (jc_M_minute_7c04c_6 I)) (lv' := [(0, .inr (.inr (some 740))), (1, .inl _)]) (And.intro rfl (And.intro rfl True.intro)) ⟨_, rfl, rfl, ⟨by omega, (nf_row hx0 (by omega) (by omega) s6), hx1, hx2, hx3⟩, rfl⟩ (by omega)
          · intro c20
            refine Exists.intro xm_288 (And.intro mi_288 (And.intro ⟨rfl, rfl, rfl, rfl⟩ (And.intro rfl ?_)))
            refine fcall _ h0 (fzs_sub (by decide +kernel) hW) hB1 (ct_M_works_ee8a5 (fBz h0 hB1) (by first | exact ⟨hb.1.1, Int.le_trans (Int.le_sub_one_of_lt (Int.lt_of_lt_of_le c13 uz11)) (by decide)⟩ | omega) hx1 (by have q := (g0z18.elim (fun q => absurd q.1 (by omega)) (fun q => q.2)); exact q)) ?_
            rintro IhB22 _ hB22 fhB22 ⟨rfl, hz21, g0z21⟩
            have t23 := fhB22 741 0 (by decide +kernel)
            have t24 := fhB22 741 7 (by decide +kernel)
            have k25 := fBz_eq hB22 (a := 741) (j := 7) (by decide +kernel)
            have k26 := fBz_eq hB22 (a := 741) (j := 6) (by decide +kernel)
            have k27 := fBz_eq hB22 (a := 741) (j := 5) (by decide +kernel)
            have k28 := fBz_eq hB22 (a := 741) (j := 8) (by decide +kernel)
            have k29 := fBz_eq hB22 (a := 741) (j := 7) (by decide +kernel)
            have s6 : mR IhB22 = sWk1 y1.toNat (mR I1) := (g0z21).trans (sWk1_y (u := y1) (by omega) v28 (by omega) (by omega) (by have q := (g0z18.elim (fun q => absurd q.1 (by omega)) (fun q => q.2)); omega))
            exact fcutJ (I := IhB22) (j := (jc_M_minute_7c04c_6 I)) (lv' := [(0, .inr (.inr (some 740))), (1, .inl _)]) (And.intro rfl (And.intro rfl True.intro)) ⟨_, rfl, rfl, ⟨by omega, (nf_row hx0 (by omega) (by omega) s6), (by rw [s6]; exact okA_wk1 hx1 (by omega) (mR_rng (i0 := 531) (i1 := 853) (m := 14) (q := 0) (lo := 0) (hi := 19) (by decide +kernel) (fBz h0 hB1) (by omega)) ((mR_rng (i0 := 535) (i1 := 857) (m := 14) (q := 0) (lo := 0) (hi := 99999) (by decide +kernel) (fBz h0 hB1) (by omega)).1) (by have q1 := (hx1 y1.toNat (by omega)).2.2.2.2; have q2 := tb_pos (r := (mR I1)) (mR_rng (i0 := 1) (i1 := 1) (m := 1) (q := 0) (lo := 0) (hi := 600) (by decide +kernel) (fBz h0 hB1) (by omega)) (fun i h1 h2 => ((mR_rng (i0 := 1142) (i1 := 1202) (m := 1) (q := 0) (lo := 0) (hi := 9999) (by decide +kernel) (fBz h0 hB1) (by omega)).1)); omega)), (okB_frm mB_ok fhB22 (by decide +kernel) ((mR_rng (i0 := 13) (i1 := 13) (m := 1) (q := 0) (lo := 0) (hi := 90) (by decide +kernel) (fBz h0 hB1) (by omega)).2) hx2), hx3⟩, rfl⟩ (by omega)
    · rintro m _ _ I1 hB1 ⟨y1, rfl, rfl, ⟨hb, hx0, hx1, hx2, hx3⟩, hm⟩
      have k30 := fBz_eq hB1 (a := 741) (j := 7) (by decide +kernel)
      have k31 := fBz_eq hB1 (a := 741) (j := 6) (by decide +kernel)
      have k32 := fBz_eq hB1 (a := 741) (j := 5) (by decide +kernel)
      have k33 := fBz_eq hB1 (a := 741) (j := 8) (by decide +kernel)
      have k34 := fBz_eq hB1 (a := 741) (j := 7) (by decide +kernel)
      have b35 := fBd fb_741_7 (fBz h0 hB1)
      have b36 := fBd fb_741_6 (fBz h0 hB1)
      have b37 := fBd fb_741_5 (fBz h0 hB1)
      have b38 := fBd fb_741_8 (fBz h0 hB1)
      have b39 := fBd fb_741_7 (fBz h0 hB1)
      refine And.intro ⟨rfl, by decide, by decide⟩ ?_
      refine fload1 rL_741_741_6_6_1_0 h0 hB1 ⟨by decide, by decide⟩ (by first | exact ⟨by decide, by decide⟩ | omega) ?_
      intro z40 lz40 uz40 qz40
      have pz40 := fld_at qz40 6 (by omega)
      have v61 := mL_r (i0 := 6) (i1 := 6) (m := 1) (q := 0) (by decide +kernel) qz40 (by omega) rfl
      refine And.intro (And.intro (by first | exact fi_ hb.1.1 hb.1.2 rfl | omega) (by first | exact fi_ lz40 uz40 rfl | omega)) (And.intro ?_ ?_)
      · intro c41
        have m78 : mR I1 = (sMi2 (sMi1 (sCome (mR I)))) := nf_end hx0 (by omega)
        have n78 : I1 741 5 = gt (mR I1) 5 := (show I1 741 5 = gt (mR I1) 5 from (mR_ld (I := I1) (k := 5) (by decide +kernel)).symm)
        exact fcutJ (I := I1) (j := (jc_M_minute_7c04c_78 I)) (lv' := [(0, .inr (.inr (some 740))), (1, .inl _)]) (And.intro rfl (And.intro rfl True.intro)) ⟨_, rfl, rfl, ⟨by omega, m78, hx1, hx2, (by rw [← m78]; omega)⟩, rfl⟩ (by omega)
      · intro c42
        refine Exists.intro xm_297 (And.intro mi_297 (And.intro ⟨rfl, rfl, rfl, rfl⟩ (And.intro rfl ?_)))
        refine fcall _ h0 (fzs_sub (by decide +kernel) hW) hB1 (ct_M_flows_1ceaa (fBz h0 hB1) (by first | exact ⟨hb.1.1, Int.le_trans (Int.le_sub_one_of_lt (Int.lt_of_lt_of_le c42 uz40)) (by decide)⟩ | omega) (sI_keep hp0 h0 hB1 (by decide +kernel)) (by omega)) ?_
        rintro IhB44 _ hB44 fhB44 ⟨rfl, hz43, g0z43⟩
        have t45 := fhB44 741 0 (by decide +kernel)
        have t46 := fhB44 741 6 (by decide +kernel)
        have k47 := fBz_eq hB44 (a := 741) (j := 7) (by decide +kernel)
        have k48 := fBz_eq hB44 (a := 741) (j := 6) (by decide +kernel)
        have k49 := fBz_eq hB44 (a := 741) (j := 5) (by decide +kernel)
        have k50 := fBz_eq hB44 (a := 741) (j := 8) (by decide +kernel)
        have k51 := fBz_eq hB44 (a := 741) (j := 7) (by decide +kernel)
        exact fcutJ (I := IhB44) (j := (jc_M_minute_7c04c_54 I)) (lv' := [(0, .inr (.inr (some 740))), (1, .inl _)]) (And.intro rfl (And.intro rfl True.intro)) ⟨_, rfl, rfl, ⟨by omega, (nf_row hx0 (by omega) (by omega) g0z43), (okA_frm mA_ok fhB44 (by decide +kernel) hx1), (okB_frm mB_ok fhB44 (by decide +kernel) ((mR_rng (i0 := 13) (i1 := 13) (m := 1) (q := 0) (lo := 0) (hi := 90) (by decide +kernel) (fBz h0 hB1) (by omega)).2) hx2), hx3⟩, rfl⟩ (by omega)
    · rintro m _ _ I1 hB1 ⟨y1, rfl, rfl, ⟨hb, hx0, hx1, hx2, hx3⟩, hm⟩
      have k52 := fBz_eq hB1 (a := 741) (j := 7) (by decide +kernel)
      have k53 := fBz_eq hB1 (a := 741) (j := 6) (by decide +kernel)
      have k54 := fBz_eq hB1 (a := 741) (j := 5) (by decide +kernel)
      have k55 := fBz_eq hB1 (a := 741) (j := 8) (by decide +kernel)
      have k56 := fBz_eq hB1 (a := 741) (j := 7) (by decide +kernel)
      have b57 := fBd fb_741_7 (fBz h0 hB1)
      have b58 := fBd fb_741_6 (fBz h0 hB1)
      have b59 := fBd fb_741_5 (fBz h0 hB1)
      have b60 := fBd fb_741_8 (fBz h0 hB1)
      have b61 := fBd fb_741_7 (fBz h0 hB1)
      refine And.intro ⟨rfl, by decide, by decide⟩ ?_
      refine fload1 rL_741_741_5_5_1_0 h0 hB1 ⟨by decide, by decide⟩ (by first | exact ⟨by decide, by decide⟩ | omega) ?_
      intro z62 lz62 uz62 qz62
      have pz62 := fld_at qz62 5 (by omega)
      have v84 := mL_r (i0 := 5) (i1 := 5) (m := 1) (q := 0) (by decide +kernel) qz62 (by omega) rfl
      refine And.intro (And.intro (by first | exact fi_ hb.1.1 hb.1.2 rfl | omega) (by first | exact fi_ lz62 uz62 rfl | omega)) (And.intro ?_ ?_)
      · intro c63
        have m101 : mR I1 = (sMi3 (sMi2 (sMi1 (sCome (mR I))))) := nf_end hx0 (by omega)
        have n101 : I1 741 8 = gt (mR I1) 8 := (show I1 741 8 = gt (mR I1) 8 from (mR_ld (I := I1) (k := 8) (by decide +kernel)).symm)
        exact fcutJ (I := I1) (j := (jc_M_minute_7c04c_101 I)) (lv' := [(0, .inr (.inr (some 740))), (1, .inl _)]) (And.intro rfl (And.intro rfl True.intro)) ⟨_, rfl, rfl, ⟨by omega, m101, hx1, hx2, (by rw [← m101]; omega)⟩, rfl⟩ (by omega)
      · intro c64
        refine Exists.intro xm_298 (And.intro mi_298 (And.intro ⟨rfl, rfl, rfl, rfl⟩ (And.intro rfl ?_)))
        refine fcall _ h0 (fzs_sub (by decide +kernel) hW) hB1 (ct_M_leaks_eedee (fBz h0 hB1) (by first | exact ⟨hb.1.1, Int.le_trans (Int.le_sub_one_of_lt (Int.lt_of_lt_of_le c64 uz62)) (by decide)⟩ | omega)) ?_
        rintro IhB66 _ hB66 fhB66 ⟨rfl, hz65, g0z65⟩
        have t67 := fhB66 741 0 (by decide +kernel)
        have t68 := fhB66 741 5 (by decide +kernel)
        have k69 := fBz_eq hB66 (a := 741) (j := 7) (by decide +kernel)
        have k70 := fBz_eq hB66 (a := 741) (j := 6) (by decide +kernel)
        have k71 := fBz_eq hB66 (a := 741) (j := 5) (by decide +kernel)
        have k72 := fBz_eq hB66 (a := 741) (j := 8) (by decide +kernel)
        have k73 := fBz_eq hB66 (a := 741) (j := 7) (by decide +kernel)
        exact fcutJ (I := IhB66) (j := (jc_M_minute_7c04c_78 I)) (lv' := [(0, .inr (.inr (some 740))), (1, .inl _)]) (And.intro rfl (And.intro rfl True.intro)) ⟨_, rfl, rfl, ⟨by omega, (nf_row hx0 (by omega) (by omega) g0z65), (okA_frm mA_ok fhB66 (by decide +kernel) hx1), (okB_frm mB_ok fhB66 (by decide +kernel) ((mR_rng (i0 := 13) (i1 := 13) (m := 1) (q := 0) (lo := 0) (hi := 90) (by decide +kernel) (fBz h0 hB1) (by omega)).2) hx2), hx3⟩, rfl⟩ (by omega)
    · rintro m _ _ I1 hB1 ⟨y1, rfl, rfl, ⟨hb, hx0, hx1, hx2, hx3⟩, hm⟩
      have k74 := fBz_eq hB1 (a := 741) (j := 7) (by decide +kernel)
      have k75 := fBz_eq hB1 (a := 741) (j := 6) (by decide +kernel)
      have k76 := fBz_eq hB1 (a := 741) (j := 5) (by decide +kernel)
      have k77 := fBz_eq hB1 (a := 741) (j := 8) (by decide +kernel)
      have k78 := fBz_eq hB1 (a := 741) (j := 7) (by decide +kernel)
      have b79 := fBd fb_741_7 (fBz h0 hB1)
      have b80 := fBd fb_741_6 (fBz h0 hB1)
      have b81 := fBd fb_741_5 (fBz h0 hB1)
      have b82 := fBd fb_741_8 (fBz h0 hB1)
      have b83 := fBd fb_741_7 (fBz h0 hB1)
      refine And.intro ⟨rfl, by decide, by decide⟩ ?_
      refine fload1 rL_741_741_8_8_1_0 h0 hB1 ⟨by decide, by decide⟩ (by first | exact ⟨by decide, by decide⟩ | omega) ?_
      intro z84 lz84 uz84 qz84
      have pz84 := fld_at qz84 8 (by omega)
      have v108 := mL_r (i0 := 8) (i1 := 8) (m := 1) (q := 0) (by decide +kernel) qz84 (by omega) rfl
      refine And.intro (And.intro (by first | exact fi_ hb.1.1 hb.1.2 rfl | omega) (by first | exact fi_ lz84 uz84 rfl | omega)) (And.intro ?_ ?_)
      · intro c85
        refine Exists.intro xm_301 (And.intro mi_301 (And.intro ⟨rfl, rfl, rfl, rfl⟩ (And.intro rfl ?_)))
        refine fcall _ h0 (fzs_sub (by decide +kernel) hW) hB1 (ct_M_floats_933b1 (fBz h0 hB1)) ?_
        rintro IhB87 _ hB87 fhB87 ⟨rfl, hz86, g0z86⟩
        have t88 := fhB87 741 0 (by decide +kernel)
        have t89 := fhB87 741 8 (by decide +kernel)
        have k90 := fBz_eq hB87 (a := 741) (j := 7) (by decide +kernel)
        have k91 := fBz_eq hB87 (a := 741) (j := 6) (by decide +kernel)
        have k92 := fBz_eq hB87 (a := 741) (j := 5) (by decide +kernel)
        have k93 := fBz_eq hB87 (a := 741) (j := 8) (by decide +kernel)
        have k94 := fBz_eq hB87 (a := 741) (j := 7) (by decide +kernel)
        refine And.intro ⟨rfl, by decide, by decide⟩ ?_
        refine fload1 rL_741_741_2_2_1_0 h0 hB87 ⟨by decide, by decide⟩ (by first | exact ⟨by decide, by decide⟩ | omega) ?_
        intro z95 lz95 uz95 qz95
        have pz95 := fld_at qz95 2 (by omega)
        have v141 := mL_r (i0 := 2) (i1 := 2) (m := 1) (q := 0) (by decide +kernel) qz95 (by omega) rfl
        rw [g0z86] at v141
        intro z96 hz96 ez96 bz96
        try replace bz96 := bz96 (by omega)
        refine fstore1 rS_741_741_2_2_1_0 (fzs_sub (by decide +kernel) hW) ⟨by decide, by decide⟩ (by first | exact ⟨by decide, by decide⟩ | omega) (by omega) ?_
        intro IhB97 ehB97 hB97
        have t98 := fup_self ehB97
        have t99 : IhB97 741 0 = IhB87 741 0 := (congrFun (congrFun ehB97 741) 0).trans (fup_ne (by first | decide | omega))
        have t100 := fup_at ehB97 2 (by first | rfl | omega)
        have t101 : IhB97 741 8 = IhB87 741 8 := (congrFun (congrFun ehB97 741) 8).trans (fup_ne (by first | decide | omega))
        have k102 := fBz_eq hB97 (a := 741) (j := 7) (by decide +kernel)
        have k103 := fBz_eq hB97 (a := 741) (j := 6) (by decide +kernel)
        have k104 := fBz_eq hB97 (a := 741) (j := 5) (by decide +kernel)
        have k105 := fBz_eq hB97 (a := 741) (j := 8) (by decide +kernel)
        have k106 := fBz_eq hB97 (a := 741) (j := 7) (by decide +kernel)
        have r144 := mS_r (i0 := 2) (i1 := 2) (m := 1) (q := 0) (by decide +kernel) ehB97 (by omega) rfl
        have m4 : mR I1 = (sMi4 (sMi3 (sMi2 (sMi1 (sCome (mR I)))))) := nf_end hx0 (by omega)
        have m6 : mR IhB97 = (sMi5 (sRi (sMi4 (sMi3 (sMi2 (sMi1 (sCome (mR I)))))))) := by rw [r144, g0z86, m4]; exact rud_cg rfl ((wr_add hz96 ez96).trans (by rw [v141, m4]; rfl))
        have b132 : okB (mR IhB87) := (okB_frm mB_ok fhB87 (by decide +kernel) ((mR_rng (i0 := 13) (i1 := 13) (m := 1) (q := 0) (lo := 0) (hi := 90) (by decide +kernel) (fBz h0 hB1) (by omega)).2) hx2)
        have n147 : IhB97 741 7 = gt (mR IhB97) 7 := (show IhB97 741 7 = gt (mR IhB97) 7 from (mR_ld (I := IhB97) (k := 7) (by decide +kernel)).symm)
        exact fcutJ (I := IhB97) (j := (jc_M_minute_7c04c_147 I)) (lv' := [(0, .inr (.inr (some 740))), (1, .inl _)]) (And.intro rfl (And.intro rfl True.intro)) ⟨_, rfl, rfl, ⟨by omega, m6, (by rw [r144]; exact okA_lo (okA_frm mA_ok fhB87 (by decide +kernel) hx1) (by omega)), (by rw [r144]; exact okB_lo b132 ((mR_rng (i0 := 13) (i1 := 13) (m := 1) (q := 0) (lo := 0) (hi := 90) (by decide +kernel) (fBz h0 hB87) (by omega)).2) (by omega) (by omega) (by omega)), (by rw [← m6]; omega)⟩, rfl⟩ (by omega)
      · intro c107
        refine Exists.intro xm_248 (And.intro mi_248 (And.intro ⟨rfl, rfl, rfl, rfl⟩ (And.intro rfl ?_)))
        refine fcallp hB1 (ct_M_isDead_21e1a (fBz h0 hB1) (by first | exact ⟨hb.1.1, Int.le_trans (Int.le_sub_one_of_lt (Int.lt_of_lt_of_le c107 uz84)) (by decide)⟩ | omega)) ?_
        rintro _ ⟨z108, rfl, hz108, g0z108⟩
        refine And.intro (by omega) (And.intro ?_ ?_)
        · intro c109
          have s101 : mR I1 = sBr0 y1.toNat (mR I1) := sBr0_y (u := y1) (by omega) (g0z108.elim (fun q => q.2) (fun q => absurd q.1 (by omega)))
          exact fcutJ (I := I1) (j := (jc_M_minute_7c04c_101 I)) (lv' := [(0, .inr (.inr (some 740))), (1, .inl _)]) (And.intro rfl (And.intro rfl True.intro)) ⟨_, rfl, rfl, ⟨by omega, (nf_row hx0 (by omega) (by omega) s101), hx1, hx2, hx3⟩, rfl⟩ (by omega)
        · intro c110
          refine Exists.intro xm_299 (And.intro mi_299 (And.intro ⟨rfl, rfl, rfl, rfl⟩ (And.intro rfl ?_)))
          refine fcall _ h0 (fzs_sub (by decide +kernel) hW) hB1 (ct_M_breathes_a87a8 (fBz h0 hB1) (by first | exact ⟨hb.1.1, Int.le_trans (Int.le_sub_one_of_lt (Int.lt_of_lt_of_le c107 uz84)) (by decide)⟩ | omega)) ?_
          rintro IhB112 _ hB112 fhB112 ⟨rfl, hz111, g0z111⟩
          have t113 := fhB112 741 0 (by decide +kernel)
          have t114 := fhB112 741 8 (by decide +kernel)
          have k115 := fBz_eq hB112 (a := 741) (j := 7) (by decide +kernel)
          have k116 := fBz_eq hB112 (a := 741) (j := 6) (by decide +kernel)
          have k117 := fBz_eq hB112 (a := 741) (j := 5) (by decide +kernel)
          have k118 := fBz_eq hB112 (a := 741) (j := 8) (by decide +kernel)
          have k119 := fBz_eq hB112 (a := 741) (j := 7) (by decide +kernel)
          have s101 : mR IhB112 = sBr0 y1.toNat (mR I1) := (g0z111).trans (sBr0_n (u := y1) (by omega) (g0z108.elim (fun q => absurd q.1 (by omega)) (fun q => q.2)))
          exact fcutJ (I := IhB112) (j := (jc_M_minute_7c04c_101 I)) (lv' := [(0, .inr (.inr (some 740))), (1, .inl _)]) (And.intro rfl (And.intro rfl True.intro)) ⟨_, rfl, rfl, ⟨by omega, (nf_row hx0 (by omega) (by omega) s101), (okA_frm mA_ok fhB112 (by decide +kernel) hx1), (okB_frm mB_ok fhB112 (by decide +kernel) ((mR_rng (i0 := 13) (i1 := 13) (m := 1) (q := 0) (lo := 0) (hi := 90) (by decide +kernel) (fBz h0 hB1) (by omega)).2) hx2), hx3⟩, rfl⟩ (by omega)
    · rintro m _ _ I1 hB1 ⟨y1, rfl, rfl, ⟨hb, hx0, hx1, hx2, hx3⟩, hm⟩
      have k120 := fBz_eq hB1 (a := 741) (j := 7) (by decide +kernel)
      have k121 := fBz_eq hB1 (a := 741) (j := 6) (by decide +kernel)
      have k122 := fBz_eq hB1 (a := 741) (j := 5) (by decide +kernel)
      have k123 := fBz_eq hB1 (a := 741) (j := 8) (by decide +kernel)
      have k124 := fBz_eq hB1 (a := 741) (j := 7) (by decide +kernel)
      have b125 := fBd fb_741_7 (fBz h0 hB1)
      have b126 := fBd fb_741_6 (fBz h0 hB1)
      have b127 := fBd fb_741_5 (fBz h0 hB1)
      have b128 := fBd fb_741_8 (fBz h0 hB1)
      have b129 := fBd fb_741_7 (fBz h0 hB1)
      refine And.intro ⟨rfl, by decide, by decide⟩ ?_
      refine fload1 rL_741_741_7_7_1_0 h0 hB1 ⟨by decide, by decide⟩ (by first | exact ⟨by decide, by decide⟩ | omega) ?_
      intro z130 lz130 uz130 qz130
      have pz130 := fld_at qz130 7 (by omega)
      have v154 := mL_r (i0 := 7) (i1 := 7) (m := 1) (q := 0) (by decide +kernel) qz130 (by omega) rfl
      refine And.intro (And.intro (by first | exact fi_ hb.1.1 hb.1.2 rfl | omega) (by first | exact fi_ lz130 uz130 rfl | omega)) (And.intro ?_ ?_)
      · intro c131
        refine And.intro ⟨rfl, by decide, by decide⟩ ?_
        refine fload1 rL_741_741_0_0_1_0 h0 hB1 ⟨by decide, by decide⟩ (by first | exact ⟨by decide, by decide⟩ | omega) ?_
        intro z132 lz132 uz132 qz132
        have pz132 := fld_at qz132 0 (by omega)
        have v183 := mL_r (i0 := 0) (i1 := 0) (m := 1) (q := 0) (by decide +kernel) qz132 (by omega) rfl
        refine fstore1 rS_741_741_0_0_1_0 (fzs_sub (by decide +kernel) hW) ⟨by decide, by decide⟩ (by first | exact ⟨by decide, by decide⟩ | omega) (by omega) ?_
        intro IhB133 ehB133 hB133
        have t134 := fup_self ehB133
        have t135 := fup_at ehB133 0 (by first | rfl | omega)
        have t136 : IhB133 741 7 = I1 741 7 := (congrFun (congrFun ehB133 741) 7).trans (fup_ne (by first | decide | omega))
        have k137 := fBz_eq hB133 (a := 741) (j := 7) (by decide +kernel)
        have k138 := fBz_eq hB133 (a := 741) (j := 6) (by decide +kernel)
        have k139 := fBz_eq hB133 (a := 741) (j := 5) (by decide +kernel)
        have k140 := fBz_eq hB133 (a := 741) (j := 8) (by decide +kernel)
        have k141 := fBz_eq hB133 (a := 741) (j := 7) (by decide +kernel)
        have r186 := mS_r (i0 := 0) (i1 := 0) (m := 1) (q := 0) (by decide +kernel) ehB133 (by omega) rfl
        have m6 : mR I1 = sMi6 (sMi5 (sRi (sMi4 (sMi3 (sMi2 (sMi1 (sCome (mR I)))))))) := nf_end hx0 (by omega)
        have w0 : I 741 0 = gt (mR I) 0 := (show I 741 0 = gt (mR I) 0 from (mR_ld (I := I) (k := 0) (by decide +kernel)).symm)
        have n0 : I1 741 0 = gt (mR I1) 0 := (show I1 741 0 = gt (mR I1) 0 from (mR_ld (I := I1) (k := 0) (by decide +kernel)).symm)
        have S186 : okS (mR IhB133) 0 := by rw [r186]; exact okS_up hx2 ((mR_rng (i0 := 13) (i1 := 13) (m := 1) (q := 0) (lo := 0) (hi := 90) (by decide +kernel) (fBz h0 hB1) (by omega)).2) (by omega) (by omega)
        have a186 : okA (mR IhB133) := by rw [r186]; exact okA_lo hx1 (by omega)
        have n186 : IhB133 741 0 = gt (mR IhB133) 0 := (show IhB133 741 0 = gt (mR IhB133) 0 from (mR_ld (I := IhB133) (k := 0) (by decide +kernel)).symm)
        have e186 : mR IhB133 = rud (sMi6 (sMi5 (sRi (sMi4 (sMi3 (sMi2 (sMi1 (sCome (mR I))))))))) 0 (gt (sMi6 (sMi5 (sRi (sMi4 (sMi3 (sMi2 (sMi1 (sCome (mR I))))))))) 0 + 1) := by rw [r186, m6]; exact rud_cg (by omega) (by have q := gt_at v183 (show _ = (0 : Int) by omega); rw [m6] at q; exact (show _ = z132 + 1 by omega).trans (by rw [q]))
        refine And.intro ⟨rfl, by decide, by decide⟩ ?_
        refine fload1 rL_741_741_0_0_1_0 h0 hB133 ⟨by decide, by decide⟩ (by first | exact ⟨by decide, by decide⟩ | omega) ?_
        intro z142 lz142 uz142 qz142
        have pz142 := fld_at qz142 0 (by omega)
        have v192 := mL_r (i0 := 0) (i1 := 0) (m := 1) (q := 0) (by decide +kernel) qz142 (by omega) rfl
        rw [r186] at v192
        refine And.intro (And.intro (by first | exact fi_ lz142 uz142 rfl | omega) (And.intro (by first | exact ⟨by decide, by decide⟩ | omega) (And.intro (by first | exact by decide | omega) rfl))) ?_
        intro z143 hz143 ez143 dz143
        have dz143 := dz143 (by omega) (by omega)
        change _ = _ % _ at dz143
        refine And.intro (by omega) (And.intro ?_ ?_)
        · intro c144
          exact ⟨rfl, by omega, a186, S186.1, (mi_n (r4 := (sMi4 (sMi3 (sMi2 (sMi1 (sCome (mR I))))))) e186 n186 (by omega))⟩
        · intro c145
          refine Exists.intro xm_303 (And.intro mi_303 (And.intro ⟨rfl, rfl, rfl, rfl⟩ (And.intro rfl ?_)))
          refine fcall _ h0 (fzs_sub (by decide +kernel) hW) hB133 (ct_M_sends_ddcd7 (fBz h0 hB133) S186 (by omega)) ?_
          rintro IhB147 _ hB147 fhB147 ⟨rfl, hz146, g0z146⟩
          have t148 := fhB147 741 0 (by decide +kernel)
          have t149 := fhB147 741 7 (by decide +kernel)
          have k150 := fBz_eq hB147 (a := 741) (j := 7) (by decide +kernel)
          have k151 := fBz_eq hB147 (a := 741) (j := 6) (by decide +kernel)
          have k152 := fBz_eq hB147 (a := 741) (j := 5) (by decide +kernel)
          have k153 := fBz_eq hB147 (a := 741) (j := 8) (by decide +kernel)
          have k154 := fBz_eq hB147 (a := 741) (j := 7) (by decide +kernel)
          exact ⟨rfl, by omega, (okA_frm mA_ok fhB147 (by decide +kernel) a186), (by rw [g0z146]; exact (okS_nf S186 (by omega) ((mR_rng (i0 := 13) (i1 := 13) (m := 1) (q := 0) (lo := 0) (hi := 90) (by decide +kernel) (fBz h0 hB133) (by omega)).1) _ (by have q := (mR_rng (i0 := 5) (i1 := 5) (m := 1) (q := 0) (lo := 0) (hi := 20) (by decide +kernel) (fBz h0 hB133) (i := 5) (by omega)); omega)).1.1), ((g0z146).trans (mi_y (r4 := (sMi4 (sMi3 (sMi2 (sMi1 (sCome (mR I))))))) e186 n186 (by omega)))⟩
      · intro c155
        refine Exists.intro xm_245 (And.intro mi_245 (And.intro ⟨rfl, rfl, rfl, rfl⟩ (And.intro rfl ?_)))
        refine fcallp hB1 (ct_M_isGone_0de37 (fBz h0 hB1) (by first | exact ⟨hb.1.1, Int.le_trans (Int.le_sub_one_of_lt (Int.lt_of_lt_of_le c155 uz130)) (by decide)⟩ | omega)) ?_
        rintro _ ⟨z156, rfl, hz156, g0z156⟩
        refine And.intro (by omega) (And.intro ?_ ?_)
        · intro c157
          have s147 : mR I1 = sFo1 y1.toNat (mR I1) := sFo1_n (x := gt (mR I1) (538 + 14 * y1)) (u := y1) rfl rfl (by omega) (g0z156.elim (fun q => q.2) (fun q => absurd q.1 (by omega)))
          exact fcutJ (I := I1) (j := (jc_M_minute_7c04c_147 I)) (lv' := [(0, .inr (.inr (some 740))), (1, .inl _)]) (And.intro rfl (And.intro rfl True.intro)) ⟨_, rfl, rfl, ⟨by omega, (nf_row hx0 (by omega) (by omega) s147), (by rw [s147]; exact okA_fo1 hx1), hx2, hx3⟩, rfl⟩ (by omega)
        · intro c158
          refine Exists.intro xm_302 (And.intro mi_302 (And.intro ⟨rfl, rfl, rfl, rfl⟩ (And.intro rfl ?_)))
          refine fcall _ h0 (fzs_sub (by decide +kernel) hW) hB1 (ct_M_fouls_5e9bc (fBz h0 hB1) (by first | exact ⟨hb.1.1, Int.le_trans (Int.le_sub_one_of_lt (Int.lt_of_lt_of_le c155 uz130)) (by decide)⟩ | omega) hx1) ?_
          rintro IhB160 _ hB160 fhB160 ⟨rfl, hz159, g0z159⟩
          have t161 := fhB160 741 0 (by decide +kernel)
          have t162 := fhB160 741 7 (by decide +kernel)
          have k163 := fBz_eq hB160 (a := 741) (j := 7) (by decide +kernel)
          have k164 := fBz_eq hB160 (a := 741) (j := 6) (by decide +kernel)
          have k165 := fBz_eq hB160 (a := 741) (j := 5) (by decide +kernel)
          have k166 := fBz_eq hB160 (a := 741) (j := 8) (by decide +kernel)
          have k167 := fBz_eq hB160 (a := 741) (j := 7) (by decide +kernel)
          have s147 : mR IhB160 = sFo1 y1.toNat (mR I1) := (g0z159).trans (sFo1_y (x := gt (mR I1) (538 + 14 * y1)) (u := y1) rfl rfl (by omega) (by have q := (g0z156.elim (fun q => absurd q.1 (by omega)) (fun q => q.2)); omega))
          exact fcutJ (I := IhB160) (j := (jc_M_minute_7c04c_147 I)) (lv' := [(0, .inr (.inr (some 740))), (1, .inl _)]) (And.intro rfl (And.intro rfl True.intro)) ⟨_, rfl, rfl, ⟨by omega, (nf_row hx0 (by omega) (by omega) s147), (by rw [s147]; exact okA_fo1 hx1), (okB_frm mB_ok fhB160 (by decide +kernel) ((mR_rng (i0 := 13) (i1 := 13) (m := 1) (q := 0) (lo := 0) (hi := 90) (by decide +kernel) (fBz h0 hB1) (by omega)).2) hx2), hx3⟩, rfl⟩ (by omega)
  · have hB0 := fB_self (zn := znJ) (K := fKc wz_f4290) h0
    have b168 := fBd fb_741_7 (fBz h0 hB0)
    have b169 := fBd fb_741_6 (fBz h0 hB0)
    have b170 := fBd fb_741_5 (fBz h0 hB0)
    have b171 := fBd fb_741_8 (fBz h0 hB0)
    have b172 := fBd fb_741_7 (fBz h0 hB0)
    refine Exists.intro xm_286 (And.intro mi_286 (And.intro ⟨rfl, rfl, rfl, rfl⟩ (And.intro rfl ?_)))
    refine fcall _ h0 (fzs_sub (by decide +kernel) hW) hB0 (ct_M_come_3ca41 (fBz h0 hB0)) ?_
    rintro IhB174 _ hB174 fhB174 ⟨rfl, hz173, g0z173⟩
    have t175 := fhB174 741 0 (by decide +kernel)
    have k176 := fBz_eq hB174 (a := 741) (j := 7) (by decide +kernel)
    have k177 := fBz_eq hB174 (a := 741) (j := 6) (by decide +kernel)
    have k178 := fBz_eq hB174 (a := 741) (j := 5) (by decide +kernel)
    have k179 := fBz_eq hB174 (a := 741) (j := 8) (by decide +kernel)
    have k180 := fBz_eq hB174 (a := 741) (j := 7) (by decide +kernel)
    have w7 : I 741 7 = gt (mR I) 7 := (show I 741 7 = gt (mR I) 7 from (mR_ld (I := I) (k := 7) (by decide +kernel)).symm)
    exact fcutJ (I := IhB174) (j := (jc_M_minute_7c04c_6 I)) (lv' := [(0, .inr (.inr (some 740))), (1, .inl _)]) (And.intro rfl (And.intro rfl True.intro)) ⟨_, rfl, rfl, ⟨by omega, g0z173, (okA_frm mA_ok fhB174 (by decide +kernel) hp2), (by rw [g0z173]; exact (okB_come hp3 ((mR_rng (i0 := 13) (i1 := 13) (m := 1) (q := 0) (lo := 0) (hi := 90) (by decide +kernel) h0 (by omega)).1)).1), (((okB_come hp3 ((mR_rng (i0 := 13) (i1 := 13) (m := 1) (q := 0) (lo := 0) (hi := 90) (by decide +kernel) h0 (by omega)).1)).2 7 (by omega) (by omega) (by omega)).trans w7.symm)⟩, rfl⟩ (by omega)
abbrev jc_M_run_ddfc8_34 (x1 : Int) (I0 : fH) : Nat → fL → List fV → fH → Prop := fun m lv st I => ∃ (y1 : Int) (y2 : Int), lv = [(0, .inr (.inr (some 740))), (1, .inl y1), (2, .inl y2)] ∧ st = [] ∧ (((1 ≤ y1 ∧ y1 ≤ 120) ∧ (0 ≤ y2 ∧ y2 ≤ 120) ∧ (I 741 0 = I0 741 0 + y2) ∧ (I0 741 0 + y1 ≤ 20000) ∧ (y2 ≤ y1) ∧ (y1 = x1) ∧ (1 ≤ x1) ∧ (x1 ≤ 120)) ∧ (mR I = nMin (mR I0) y2.toNat) ∧ (okA (mR I)) ∧ (okB (mR I))) ∧ m = (1 + 1 * (120 - y2) : Int).toNat
set_option maxRecDepth 8000 in
theorem ct_M_run_ddfc8 {I : fH} {x1 : Int} (h0 : fB bsJ I) (ha1 : ((-2147483648) ≤ x1 ∧ x1 ≤ 2147483647)) (hp0 : sI I 741) (hp1 : I 741 0 ≤ 20000) (hp2 : okA (mR I)) (hp3 : okB (mR I)) : fC ρ base n F xTc vwCl xTys D dA la gJ (fbz bsJ znJ (fKc wz_f4290) I) xm_284 [.inr (.inr (some 740)), .inl x1] I (fun I' r => ∃ z, r = some (.inl z) ∧ (((0 ≤ z ∧ z ≤ 22000) ∨ z = (-1000000003) ∨ z = (-1000000001)) ∧ ((1 ≤ x1 ∧ x1 ≤ 120 ∧ I 741 0 + x1 ≤ 20000 → z = I 741 0 + x1 ∧ I' 741 0 = I 741 0 + x1) ∧ (1 ≤ x1 ∧ x1 ≤ 120 ∧ 20000 < I 741 0 + x1 → z = (-1000000003) ∧ I' 741 0 = I 741 0) ∧ (¬ (1 ≤ x1 ∧ x1 ≤ 120) → z = (-1000000001) ∧ I' 741 0 = I 741 0))) ∧ (okA (mR I')) ∧ (okB (mR I')) ∧ (((1 ≤ x1 ∧ x1 ≤ 120 ∧ I 741 0 + x1 ≤ 20000) ∧ mR I' = nMin (mR I) x1.toNat) ∨ (¬ (1 ≤ x1 ∧ x1 ≤ 120 ∧ I 741 0 + x1 ≤ 20000) ∧ mR I' = mR I))) := by
  have hW : fzs wz_f4290 (fKc wz_f4290) := fKc_ok _
  refine f_meth (rb := rbJ) (J := [(34, (jc_M_run_ddfc8_34 x1 I))]) 122 400 xG xin_284 x6_284 okJ (fB_self h0) ?_ ?_
  · refine List.forall_mem_cons.mpr ⟨?_, fun q h => absurd h List.not_mem_nil⟩
    · rintro m _ _ I1 hB1 ⟨y1, y2, rfl, rfl, ⟨hb, hx0, hx1, hx2⟩, hm⟩
      have b1 := fBd fb_741_0 (fBz h0 hB1)
      refine And.intro (And.intro (by first | exact fi_ hb.2.1.1 hb.2.1.2 rfl | omega) (by first | exact fi_ hb.1.1 hb.1.2 rfl | omega)) (And.intro ?_ ?_)
      · intro c2
        refine And.intro ⟨rfl, by decide, by decide⟩ ?_
        refine fload1 rL_741_741_0_0_1_0 h0 hB1 ⟨by decide, by decide⟩ (by first | exact ⟨by decide, by decide⟩ | omega) ?_
        intro z3 lz3 uz3 qz3
        have pz3 := fld_at qz3 0 (by omega)
        refine And.intro (True.intro) ?_
        exact ⟨_, rfl, by omega, hx1, hx2, (Or.inl ⟨by omega, by have q := hx0; rw [show y2 = x1 by omega] at q; exact q⟩)⟩
      · intro c4
        refine Exists.intro xm_285 (And.intro mi_285 (And.intro ⟨rfl, rfl, rfl, rfl⟩ (And.intro rfl ?_)))
        refine fcall _ h0 (fzs_sub (by decide +kernel) hW) hB1 (ct_M_minute_7c04c (fBz h0 hB1) (sI_keep hp0 h0 hB1 (by decide +kernel)) (by omega) hx1 hx2 (by have q : I1 741 0 = gt (mR I1) 0 := (show I1 741 0 = gt (mR I1) 0 from (mR_ld (I := I1) (k := 0) (by decide +kernel)).symm); omega)) ?_
        rintro IhB6 _ hB6 fhB6 ⟨rfl, hz5, g0z5, g1z5, g2z5⟩
        exact fcutJ (I := IhB6) (j := (jc_M_run_ddfc8_34 x1 I)) (lv' := [(0, .inr (.inr (some 740))), (1, .inl _), (2, .inl _)]) (And.intro rfl (And.intro rfl (And.intro rfl True.intro))) ⟨_, _, rfl, rfl, ⟨by omega, (nMin_S hx0 (by omega) (by omega) g2z5), g0z5, g1z5⟩, rfl⟩ (by omega)
  · have hB0 := fB_self (zn := znJ) (K := fKc wz_f4290) h0
    have b7 := fBd fb_741_0 (fBz h0 hB0)
    refine And.intro (by first | exact fi_ ha1.1 ha1.2 rfl | omega) ?_
    refine Exists.intro xm_238 (And.intro mi_238 (And.intro ⟨rfl, rfl, rfl, rfl⟩ (And.intro True.intro ?_)))
    refine fcallp hB0 (ct_M_isIn_27230 (fBz h0 hB0) (by first | exact ⟨ha1.1, ha1.2⟩ | omega) (by first | exact ⟨by decide, by decide⟩ | omega) (by first | exact ⟨by decide, by decide⟩ | omega)) ?_
    rintro _ ⟨z8, rfl, hz8⟩
    refine And.intro (by omega) (And.intro ?_ ?_)
    · intro c9
      refine And.intro ⟨rfl, by decide, by decide⟩ ?_
      refine fload1 rL_741_741_0_0_1_0 h0 hB0 ⟨by decide, by decide⟩ (by first | exact ⟨by decide, by decide⟩ | omega) ?_
      intro z10 lz10 uz10 qz10
      have pz10 := fld_at qz10 0 (by omega)
      refine And.intro (by omega) (And.intro ?_ ?_)
      · intro c11
        exact fcutJ (I := I) (j := (jc_M_run_ddfc8_34 x1 I)) (lv' := [(0, .inr (.inr (some 740))), (1, .inl _), (2, .inl _)]) (And.intro rfl (And.intro rfl (And.intro rfl True.intro))) ⟨_, _, rfl, rfl, ⟨by omega, rfl, hp2, hp3⟩, rfl⟩ (by omega)
      · intro c12
        refine And.intro (True.intro) ?_
        exact ⟨_, rfl, by omega, hp2, hp3, (Or.inr ⟨by omega, rfl⟩)⟩
    · intro c13
      refine And.intro (True.intro) ?_
      exact ⟨_, rfl, by omega, hp2, hp3, (Or.inr ⟨by omega, rfl⟩)⟩
set_option maxRecDepth 8000 in
theorem ct_People_addPerson_f57f7 {I : fH} {x1 : Int} {x2 : Int} {x3 : Int} (h0 : fB bsJ I) (ha1 : (0 ≤ x1 ∧ x1 ≤ 99)) (ha2 : (0 ≤ x2 ∧ x2 ≤ 3)) (ha3 : (0 ≤ x3 ∧ x3 ≤ 19)) : fC ρ base n F xTc vwCl xTys D dA la gJ (fbz bsJ znJ (fKc wz_4ceb6) I) xm_100 [.inr (.inr (some 177)), .inl x1, .inl x2, .inl x3] I (fun I' r => ∃ z, r = some (.inl z) ∧ ((0 ≤ z ∧ z ≤ 23) ∨ z = (-1000000003)) ∧ ((cR 0 I', z) = oPers1 (cR 0 I) x1 x2 x3)) := by
  have hW : fzs wz_4ceb6 (fKc wz_4ceb6) := fKc_ok _
  refine f_meth (rb := rbJ) (J := []) 1 400 xG xin_100 x6_100 okJ (fB_self h0) ?_ ?_
  · exact fun q h => absurd h List.not_mem_nil
  · have hB0 := fB_self (zn := znJ) (K := fKc wz_4ceb6) h0
    have w908 : I 177 4 = gt (cR 0 I) 8 := (cL_f (d := 0) (a := 177) (j := 4) (r := 8) (p := 8) (I := I) (z := I 177 4) (by decide +kernel) (by decide) rfl rfl)
    refine And.intro ⟨rfl, by decide, by decide⟩ (fgetf fb_177_4 h0 hB0 ?_)
    intro z1 lz1 uz1 qz1
    have v1 := cL_f (d := 0) (a := 177) (j := 4) (r := 8) (p := 8) (by decide +kernel) (by decide) qz1 rfl
    refine And.intro (And.intro (by first | exact fi_ lz1 uz1 rfl | omega) (by first | exact ⟨by decide, by decide⟩ | omega)) (And.intro ?_ ?_)
    · intro c2
      refine And.intro ⟨rfl, by decide, by decide⟩ ?_
      refine fstore1 rS_178_178_0_23_1_0 (fzs_sub (by decide +kernel) hW) ⟨by decide, by decide⟩ (by first | exact ⟨lz1, Int.le_trans (Int.le_sub_one_of_lt (Int.lt_of_lt_of_le c2 (Int.le_refl _))) (by decide)⟩ | omega) (by first | exact ⟨ha1.1, ha1.2⟩ | omega) ?_
      intro IhB3 ehB3 hB3
      have t4 := fup_self ehB3
      have t5 : IhB3 177 4 = I 177 4 := (congrFun (congrFun ehB3 177) 4).trans (fup_ne (by first | exact Or.inl (by decide) | omega))
      have r23 := cS_a (d := 0) (a := 178) (n := 24) (b := 870) (m := 6) (by decide +kernel) (by decide) ehB3 (by omega) rfl
      refine And.intro ⟨rfl, by decide, by decide⟩ ?_
      refine fstore1 rS_179_179_0_23_1_0 (fzs_sub (by decide +kernel) hW) ⟨by decide, by decide⟩ (by first | exact ⟨lz1, Int.le_trans (Int.le_sub_one_of_lt (Int.lt_of_lt_of_le c2 (Int.le_refl _))) (by decide)⟩ | omega) (by first | exact ⟨ha2.1, ha2.2⟩ | omega) ?_
      intro IhB6 ehB6 hB6
      have t7 := fup_self ehB6
      have t8 : IhB6 177 4 = IhB3 177 4 := (congrFun (congrFun ehB6 177) 4).trans (fup_ne (by first | exact Or.inl (by decide) | omega))
      have r31 := cS_a (d := 0) (a := 179) (n := 24) (b := 871) (m := 6) (by decide +kernel) (by decide) ehB6 (by omega) rfl
      refine And.intro ⟨rfl, by decide, by decide⟩ ?_
      refine fstore1 rS_180_180_0_23_1_0 (fzs_sub (by decide +kernel) hW) ⟨by decide, by decide⟩ (by first | exact ⟨lz1, Int.le_trans (Int.le_sub_one_of_lt (Int.lt_of_lt_of_le c2 (Int.le_refl _))) (by decide)⟩ | omega) (by first | exact ⟨ha3.1, ha3.2⟩ | omega) ?_
      intro IhB9 ehB9 hB9
      have t10 := fup_self ehB9
      have t11 : IhB9 177 4 = IhB6 177 4 := (congrFun (congrFun ehB9 177) 4).trans (fup_ne (by first | exact Or.inl (by decide) | omega))
      have r39 := cS_a (d := 0) (a := 180) (n := 24) (b := 872) (m := 6) (by decide +kernel) (by decide) ehB9 (by omega) rfl
      refine And.intro ⟨rfl, by decide, by decide⟩ ?_
      refine fstore1 rS_181_181_0_23_1_0 (fzs_sub (by decide +kernel) hW) ⟨by decide, by decide⟩ (by first | exact ⟨lz1, Int.le_trans (Int.le_sub_one_of_lt (Int.lt_of_lt_of_le c2 (Int.le_refl _))) (by decide)⟩ | omega) (by first | exact ⟨by decide, by decide⟩ | omega) ?_
      intro IhB12 ehB12 hB12
      have t13 := fup_self ehB12
      have t14 : IhB12 177 4 = IhB9 177 4 := (congrFun (congrFun ehB12 177) 4).trans (fup_ne (by first | exact Or.inl (by decide) | omega))
      have r47 := cS_a (d := 0) (a := 181) (n := 24) (b := 873) (m := 6) (by decide +kernel) (by decide) ehB12 (by omega) rfl
      refine And.intro ⟨rfl, by decide, by decide⟩ (And.intro rfl (And.intro (Or.inl rfl) (fputf fb_177_4 (by decide +kernel) hW (by omega) ?_)))
      intro IhB15 ehB15 hB15
      have t16 := fup_at ehB15 4 (by first | rfl | omega)
      have r53 := cS_f (d := 0) (a := 177) (j := 4) (r := 8) (p := 8) (by decide +kernel) (by decide) ehB15 rfl
      refine And.intro (True.intro) ?_
      exact ⟨_, rfl, by omega, (pr_y (by omega) (by rw [r53, r47, r39, r31, r23]; exact (rud_c (rud_c (rud_c (rud_c (rud_c rfl (by omega) (by first | omega | decide)) (by omega) (by first | omega | decide)) (by omega) (by first | omega | decide)) (by omega) (by first | omega | decide)) (by omega) (by first | omega | decide))) (by omega))⟩
    · intro c17
      refine And.intro (True.intro) ?_
      exact ⟨_, rfl, by omega, (pr_n (fun q => by omega) rfl)⟩
set_option maxRecDepth 8000 in
theorem ct_X_person_26141 {I : fH} {x1 : Int} {x2 : Int} {x3 : Int} (h0 : fB bsJ I) (ha1 : ((-2147483648) ≤ x1 ∧ x1 ≤ 2147483647)) (ha2 : ((-2147483648) ≤ x2 ∧ x2 ≤ 2147483647)) (ha3 : ((-2147483648) ≤ x3 ∧ x3 ≤ 2147483647)) : fC ρ base n F xTc vwCl xTys D dA la gJ (fbz bsJ znJ (fKc wz_4ceb6) I) xm_99 [.inr (.inr (some 0)), .inl x1, .inl x2, .inl x3] I (fun I' r => ∃ z, r = some (.inl z) ∧ ((0 ≤ z ∧ z ≤ 23) ∨ z = (-1000000003) ∨ z = (-1000000001)) ∧ ((cR 0 I', z) = oPers (cR 0 I) x1 x2 x3)) := by
  have hW : fzs wz_4ceb6 (fKc wz_4ceb6) := fKc_ok _
  refine f_meth (rb := rbJ) (J := []) 1 400 xG xin_99 x6_99 okJ (fB_self h0) ?_ ?_
  · exact fun q h => absurd h List.not_mem_nil
  · have hB0 := fB_self (zn := znJ) (K := fKc wz_4ceb6) h0
    have w905 : I 2 5 = gt (cR 0 I) 5 := (cL_f (d := 0) (a := 2) (j := 5) (r := 5) (p := 5) (I := I) (z := I 2 5) (by decide +kernel) (by decide) rfl rfl)
    refine Exists.intro xm_13 (And.intro mi_13 (And.intro ⟨rfl, rfl, rfl, rfl⟩ (And.intro True.intro ?_)))
    refine fcallp hB0 (ct_X_within_c27b1 (fBz h0 hB0) (by first | exact ⟨ha1.1, ha1.2⟩ | omega) (by first | exact ⟨by decide, by decide⟩ | omega) (by first | exact ⟨by decide, by decide⟩ | omega)) ?_
    rintro _ ⟨z1, rfl, hz1⟩
    refine And.intro (by omega) (And.intro ?_ ?_)
    · intro c2
      refine And.intro (True.intro) ?_
      exact ⟨_, rfl, by omega, (pr_n (fun q => by omega) rfl)⟩
    · intro c3
      refine Exists.intro xm_13 (And.intro mi_13 (And.intro ⟨rfl, rfl, rfl, rfl⟩ (And.intro True.intro ?_)))
      refine fcallp hB0 (ct_X_within_c27b1 (fBz h0 hB0) (by first | exact ⟨ha2.1, ha2.2⟩ | omega) (by first | exact ⟨by decide, by decide⟩ | omega) (by first | exact ⟨by decide, by decide⟩ | omega)) ?_
      rintro _ ⟨z4, rfl, hz4⟩
      refine And.intro (by omega) (And.intro ?_ ?_)
      · intro c5
        refine And.intro (True.intro) ?_
        exact ⟨_, rfl, by omega, (pr_n (fun q => by omega) rfl)⟩
      · intro c6
        refine And.intro ⟨rfl, by decide, by decide⟩ ?_
        refine Exists.intro xm_17 (And.intro mi_17 (And.intro ⟨rfl, rfl, rfl, rfl⟩ (And.intro rfl ?_)))
        refine fcallp hB0 (ct_City_isCell_46f02 (fBz h0 hB0) (by first | exact ⟨ha3.1, ha3.2⟩ | omega)) ?_
        rintro _ ⟨z7, rfl, hz7⟩
        refine And.intro (by omega) (And.intro ?_ ?_)
        · intro c8
          refine And.intro ⟨rfl, by decide, by decide⟩ ?_
          refine And.intro ⟨rfl, by decide, by decide⟩ ?_
          refine Exists.intro xm_100 (And.intro mi_100 (And.intro ⟨rfl, rfl, rfl, rfl⟩ (And.intro rfl ?_)))
          refine fcall _ h0 (fzs_sub (by decide +kernel) hW) hB0 (ct_People_addPerson_f57f7 (fBz h0 hB0) (by first | exact ⟨Int.le_trans (by decide) (Int.le_trans (Int.le_refl _) hz1.1), Int.le_trans (Int.le_trans hz1.2 (Int.le_refl _)) (by decide)⟩ | omega) (by first | exact ⟨Int.le_trans (by decide) (Int.le_trans (Int.le_refl _) hz4.1), Int.le_trans (Int.le_trans hz4.2 (Int.le_refl _)) (by decide)⟩ | omega) (by omega)) ?_
          rintro IhB10 _ hB10 fhB10 ⟨z9, rfl, hz9, g0z9⟩
          refine And.intro (True.intro) ?_
          exact ⟨_, rfl, by omega, (pr_i (by omega) g0z9)⟩
        · intro c11
          refine And.intro (True.intro) ?_
          exact ⟨_, rfl, by omega, (pr_n (fun q => by omega) rfl)⟩
set_option maxRecDepth 8000 in
theorem ct_M_person_81c92 {I : fH} {x1 : Int} {x2 : Int} {x3 : Int} (h0 : fB bsJ I) (ha1 : ((-2147483648) ≤ x1 ∧ x1 ≤ 2147483647)) (ha2 : ((-2147483648) ≤ x2 ∧ x2 ≤ 2147483647)) (ha3 : ((-2147483648) ≤ x3 ∧ x3 ≤ 2147483647)) : fC ρ base n F xTc vwCl xTys D dA la gJ (fbz bsJ znJ (fKc wz_e1d4d) I) xm_305 [.inr (.inr (some 740)), .inl x1, .inl x2, .inl x3] I (fun I' r => ∃ z, r = some (.inl z) ∧ ((0 ≤ z ∧ z ≤ 23) ∨ z = (-1000000003) ∨ z = (-1000000001)) ∧ ((mR I', z) = oPers (mR I) x1 x2 x3) ∧ (mNew I I')) := by
  have hW : fzs wz_e1d4d (fKc wz_e1d4d) := fKc_ok _
  refine f_meth (rb := rbJ) (J := []) 1 400 xG xin_305 x6_305 okJ (fB_self h0) ?_ ?_
  · exact fun q h => absurd h List.not_mem_nil
  · have hB0 := fB_self (zn := znJ) (K := fKc wz_e1d4d) h0
    have w905 : I 741 5 = gt (mR I) 5 := (show I 741 5 = gt (mR I) 5 from (mR_ld (I := I) (k := 5) (by decide +kernel)).symm)
    have w908 : I 741 8 = gt (mR I) 8 := (show I 741 8 = gt (mR I) 8 from (mR_ld (I := I) (k := 8) (by decide +kernel)).symm)
    refine And.intro (by first | exact fi_ ha1.1 ha1.2 rfl | omega) ?_
    refine Exists.intro xm_238 (And.intro mi_238 (And.intro ⟨rfl, rfl, rfl, rfl⟩ (And.intro True.intro ?_)))
    refine fcallp hB0 (ct_M_isIn_27230 (fBz h0 hB0) (by first | exact ⟨ha1.1, ha1.2⟩ | omega) (by first | exact ⟨by decide, by decide⟩ | omega) (by first | exact ⟨by decide, by decide⟩ | omega)) ?_
    rintro _ ⟨z1, rfl, hz1⟩
    refine And.intro (by omega) (And.intro ?_ ?_)
    · intro c2
      refine And.intro (True.intro) ?_
      exact ⟨_, rfl, by omega, (pr_n (fun q => by omega) rfl), (fun _ _ => Or.inl rfl)⟩
    · intro c3
      refine And.intro (by first | exact fi_ ha2.1 ha2.2 rfl | omega) ?_
      refine Exists.intro xm_238 (And.intro mi_238 (And.intro ⟨rfl, rfl, rfl, rfl⟩ (And.intro True.intro ?_)))
      refine fcallp hB0 (ct_M_isIn_27230 (fBz h0 hB0) (by first | exact ⟨ha2.1, ha2.2⟩ | omega) (by first | exact ⟨by decide, by decide⟩ | omega) (by first | exact ⟨by decide, by decide⟩ | omega)) ?_
      rintro _ ⟨z4, rfl, hz4⟩
      refine And.intro (by omega) (And.intro ?_ ?_)
      · intro c5
        refine And.intro (True.intro) ?_
        exact ⟨_, rfl, by omega, (pr_n (fun q => by omega) rfl), (fun _ _ => Or.inl rfl)⟩
      · intro c6
        refine Exists.intro xm_241 (And.intro mi_241 (And.intro ⟨rfl, rfl, rfl, rfl⟩ (And.intro rfl ?_)))
        refine fcallp hB0 (ct_M_isCell_45859 (fBz h0 hB0) (by first | exact ⟨ha3.1, ha3.2⟩ | omega)) ?_
        rintro _ ⟨z7, rfl, hz7⟩
        refine And.intro (by omega) (And.intro ?_ ?_)
        · intro c8
          refine And.intro ⟨rfl, by decide, by decide⟩ ?_
          refine fload1 rL_741_741_8_8_1_0 h0 hB0 ⟨by decide, by decide⟩ (by first | exact ⟨by decide, by decide⟩ | omega) ?_
          intro z9 lz9 uz9 qz9
          have pz9 := fld_at qz9 8 (by omega)
          have v41 := mL_r (i0 := 8) (i1 := 8) (m := 1) (q := 0) (by decide +kernel) qz9 (by omega) rfl
          refine And.intro (And.intro (by first | exact fi_ lz9 uz9 rfl | omega) (by first | exact ⟨by decide, by decide⟩ | omega)) (And.intro ?_ ?_)
          · intro c10
            refine And.intro ⟨rfl, by decide, by decide⟩ ?_
            refine fload1 rL_741_741_8_8_1_0 h0 hB0 ⟨by decide, by decide⟩ (by first | exact ⟨by decide, by decide⟩ | omega) ?_
            intro z11 lz11 uz11 qz11
            have pz11 := fld_at qz11 8 (by omega)
            have v57 := mL_r (i0 := 8) (i1 := 8) (m := 1) (q := 0) (by decide +kernel) qz11 (by omega) rfl
            refine Exists.intro xm_247 (And.intro mi_247 (And.intro ⟨rfl, rfl, rfl, rfl⟩ (And.intro rfl ?_)))
            refine fcallp hB0 (ct_M_personAt_9b331 (fBz h0 hB0) (by omega)) ?_
            rintro _ ⟨_, rfl, rfl⟩
            refine And.intro ⟨rfl, by decide, by decide⟩ ?_
            refine fstore rS_741_741_870_1008_6_0 (fzs_sub (by decide +kernel) hW) (by omega) (by first | exact ⟨Int.le_trans (by decide) (Int.le_trans (Int.le_refl _) hz1.1), Int.le_trans (Int.le_trans hz1.2 (Int.le_refl _)) (by decide)⟩ | omega) ?_
            intro IhB13 ehB13 hB13
            have t14 := fup_self ehB13
            have t15 : IhB13 741 8 = I 741 8 := (congrFun (congrFun ehB13 741) 8).trans (fup_ne (by first | exact Or.inl (by decide) | omega))
            have r72 := mS_r (i0 := 870) (i1 := 1008) (m := 6) (q := 0) (by decide +kernel) ehB13 (by omega) rfl
            refine And.intro ⟨rfl, by decide, by decide⟩ ?_
            refine fstore rS_741_741_871_1009_6_0 (fzs_sub (by decide +kernel) hW) (by omega) (by first | exact ⟨Int.le_trans (by decide) (Int.le_trans (Int.le_refl _) hz4.1), Int.le_trans (Int.le_trans hz4.2 (Int.le_refl _)) (by decide)⟩ | omega) ?_
            intro IhB16 ehB16 hB16
            have t17 := fup_self ehB16
            have t18 : IhB16 741 8 = IhB13 741 8 := (congrFun (congrFun ehB16 741) 8).trans (fup_ne (by first | exact Or.inl (by decide) | omega))
            have r82 := mS_r (i0 := 871) (i1 := 1009) (m := 6) (q := 0) (by decide +kernel) ehB16 (by omega) rfl
            refine And.intro ⟨rfl, by decide, by decide⟩ ?_
            refine fstore rS_741_741_872_1010_6_0 (fzs_sub (by decide +kernel) hW) (by omega) (by omega) ?_
            intro IhB19 ehB19 hB19
            have t20 := fup_self ehB19
            have t21 : IhB19 741 8 = IhB16 741 8 := (congrFun (congrFun ehB19 741) 8).trans (fup_ne (by first | exact Or.inl (by decide) | omega))
            have r92 := mS_r (i0 := 872) (i1 := 1010) (m := 6) (q := 0) (by decide +kernel) ehB19 (by omega) rfl
            refine And.intro ⟨rfl, by decide, by decide⟩ ?_
            refine fstore rS_741_741_873_1011_6_0 (fzs_sub (by decide +kernel) hW) (by omega) (by first | exact ⟨by decide, by decide⟩ | omega) ?_
            intro IhB22 ehB22 hB22
            have t23 := fup_self ehB22
            have t24 : IhB22 741 8 = IhB19 741 8 := (congrFun (congrFun ehB22 741) 8).trans (fup_ne (by first | exact Or.inl (by decide) | omega))
            have r102 := mS_r (i0 := 873) (i1 := 1011) (m := 6) (q := 0) (by decide +kernel) ehB22 (by omega) rfl
            refine And.intro ⟨rfl, by decide, by decide⟩ ?_
            refine fstore rS_741_741_874_1012_6_0 (fzs_sub (by decide +kernel) hW) (by omega) (by first | exact ⟨by decide, by decide⟩ | omega) ?_
            intro IhB25 ehB25 hB25
            have t26 := fup_self ehB25
            have t27 : IhB25 741 8 = IhB22 741 8 := (congrFun (congrFun ehB25 741) 8).trans (fup_ne (by first | exact Or.inl (by decide) | omega))
            have r112 := mR_nc (i0 := 874) (i1 := 1012) (m := 6) (q := 0) (by decide +kernel) ehB25 (by omega)
            refine And.intro ⟨rfl, by decide, by decide⟩ ?_
            refine fload1 rL_741_741_8_8_1_0 h0 hB25 ⟨by decide, by decide⟩ (by first | exact ⟨by decide, by decide⟩ | omega) ?_
            intro z28 lz28 uz28 qz28
            have pz28 := fld_at qz28 8 (by omega)
            have v120 := mL_r (i0 := 8) (i1 := 8) (m := 1) (q := 0) (by decide +kernel) qz28 (by omega) rfl
            rw [r112, r102, r92, r82, r72] at v120
            refine fstore1 rS_741_741_8_8_1_0 (fzs_sub (by decide +kernel) hW) ⟨by decide, by decide⟩ (by first | exact ⟨by decide, by decide⟩ | omega) (by omega) ?_
            intro IhB29 ehB29 hB29
            have t30 := fup_self ehB29
            have t31 := fup_at ehB29 8 (by first | rfl | omega)
            have r123 := mS_r (i0 := 8) (i1 := 8) (m := 1) (q := 0) (by decide +kernel) ehB29 (by omega) rfl
            refine And.intro ⟨rfl, by decide, by decide⟩ ?_
            refine fload1 rL_741_741_8_8_1_0 h0 hB29 ⟨by decide, by decide⟩ (by first | exact ⟨by decide, by decide⟩ | omega) ?_
            intro z32 lz32 uz32 qz32
            have pz32 := fld_at qz32 8 (by omega)
            have v130 := mL_r (i0 := 8) (i1 := 8) (m := 1) (q := 0) (by decide +kernel) qz32 (by omega) rfl
            rw [r123, r112, r102, r92, r82, r72] at v130
            refine And.intro (True.intro) ?_
            exact ⟨_, rfl, by omega, (pr_i (by omega) (pr_y (by omega) (by rw [r123, r112, r102, r92, r82, r72]; exact (rud_c (rud_c (rud_c (rud_c (rud_c rfl (by omega) (by first | omega | decide)) (by omega) (by first | omega | decide)) (by omega) (by first | omega | decide)) (by omega) (by first | omega | decide)) (by omega) (by first | omega | decide))) (by omega))), (mNew_of (n := z11) ehB13 ehB16 ehB19 ehB22 ehB25 ehB29 ⟨by omega, by omega, by omega, by omega, by omega⟩ (by omega) ⟨by omega, by omega⟩ rfl)⟩
          · intro c33
            refine And.intro (True.intro) ?_
            exact ⟨_, rfl, by omega, (pr_i (by omega) (pr_n (fun q => by omega) rfl)), (fun _ _ => Or.inl rfl)⟩
        · intro c34
          refine And.intro (True.intro) ?_
          exact ⟨_, rfl, by omega, (pr_n (fun q => by omega) rfl), (fun _ _ => Or.inl rfl)⟩
set_option maxRecDepth 8000 in
theorem ct_X_swap_95246 {I : fH} {x1 : Int} {x2 : Int} (h0 : fB bsJ I) (ha1 : (0 ≤ x1 ∧ x1 ≤ 23)) (ha2 : (0 ≤ x2 ∧ x2 ≤ 99)) : fC ρ base n F xTc vwCl xTys D dA la gJ (fbz bsJ znJ (fKc wz_389c2) I) xm_18 [.inr (.inr (some 178)), .inl x1, .inl x2] I (fun I' r => ∃ z, r = some (.inl z) ∧ (0 ≤ z ∧ z ≤ 99) ∧ (I' = fupd I 178 x1.toNat x2) ∧ (z = I 178 x1.toNat)) := by
  have hW : fzs wz_389c2 (fKc wz_389c2) := fKc_ok _
  refine f_meth (rb := rbJ) (J := []) 1 400 xG xin_18 x6_18 okJ (fB_self h0) ?_ ?_
  · exact fun q h => absurd h List.not_mem_nil
  · have hB0 := fB_self (zn := znJ) (K := fKc wz_389c2) h0
    refine fload1 rL_178_178_0_23_1_0 h0 hB0 ⟨by decide, by decide⟩ (by first | exact ⟨ha1.1, ha1.2⟩ | omega) ?_
    intro z1 lz1 uz1 qz1
    refine fstore1 rS_178_178_0_23_1_0 (fzs_sub (by decide +kernel) hW) ⟨by decide, by decide⟩ (by first | exact ⟨ha1.1, ha1.2⟩ | omega) (by first | exact ⟨ha2.1, ha2.2⟩ | omega) ?_
    intro IhB2 ehB2 hB2
    have t3 := fup_self ehB2
    refine And.intro (True.intro) ?_
    exact ⟨_, rfl, (by first | exact ⟨lz1, uz1⟩ | omega), ehB2, qz1⟩
set_option maxRecDepth 8000 in
theorem ct_X_swap_55e24 {I : fH} {x1 : Int} {x2 : Int} (h0 : fB bsJ I) (ha1 : (0 ≤ x1 ∧ x1 ≤ 23)) (ha2 : (0 ≤ x2 ∧ x2 ≤ 100)) : fC ρ base n F xTc vwCl xTys D dA la gJ (fbz bsJ znJ (fKc wz_b5181) I) xm_18 [.inr (.inr (some 181)), .inl x1, .inl x2] I (fun I' r => ∃ z, r = some (.inl z) ∧ (0 ≤ z ∧ z ≤ 100) ∧ (I' = fupd I 181 x1.toNat x2) ∧ (z = I 181 x1.toNat)) := by
  have hW : fzs wz_b5181 (fKc wz_b5181) := fKc_ok _
  refine f_meth (rb := rbJ) (J := []) 1 400 xG xin_18 x6_18 okJ (fB_self h0) ?_ ?_
  · exact fun q h => absurd h List.not_mem_nil
  · have hB0 := fB_self (zn := znJ) (K := fKc wz_b5181) h0
    refine fload1 rL_181_181_0_23_1_0 h0 hB0 ⟨by decide, by decide⟩ (by first | exact ⟨ha1.1, ha1.2⟩ | omega) ?_
    intro z1 lz1 uz1 qz1
    refine fstore1 rS_181_181_0_23_1_0 (fzs_sub (by decide +kernel) hW) ⟨by decide, by decide⟩ (by first | exact ⟨ha1.1, ha1.2⟩ | omega) (by first | exact ⟨ha2.1, ha2.2⟩ | omega) ?_
    intro IhB2 ehB2 hB2
    have t3 := fup_self ehB2
    refine And.intro (True.intro) ?_
    exact ⟨_, rfl, (by first | exact ⟨lz1, uz1⟩ | omega), ehB2, qz1⟩
set_option maxRecDepth 8000 in
theorem ct_X_swap_fb34f {I : fH} {x1 : Int} {x2 : Int} (h0 : fB bsJ I) (ha1 : (0 ≤ x1 ∧ x1 ≤ 23)) (ha2 : (0 ≤ x2 ∧ x2 ≤ 3)) : fC ρ base n F xTc vwCl xTys D dA la gJ (fbz bsJ znJ (fKc wz_acbb3) I) xm_18 [.inr (.inr (some 179)), .inl x1, .inl x2] I (fun I' r => ∃ z, r = some (.inl z) ∧ (0 ≤ z ∧ z ≤ 3) ∧ (I' = fupd I 179 x1.toNat x2) ∧ (z = I 179 x1.toNat)) := by
  have hW : fzs wz_acbb3 (fKc wz_acbb3) := fKc_ok _
  refine f_meth (rb := rbJ) (J := []) 1 400 xG xin_18 x6_18 okJ (fB_self h0) ?_ ?_
  · exact fun q h => absurd h List.not_mem_nil
  · have hB0 := fB_self (zn := znJ) (K := fKc wz_acbb3) h0
    refine fload1 rL_179_179_0_23_1_0 h0 hB0 ⟨by decide, by decide⟩ (by first | exact ⟨ha1.1, ha1.2⟩ | omega) ?_
    intro z1 lz1 uz1 qz1
    refine fstore1 rS_179_179_0_23_1_0 (fzs_sub (by decide +kernel) hW) ⟨by decide, by decide⟩ (by first | exact ⟨ha1.1, ha1.2⟩ | omega) (by first | exact ⟨ha2.1, ha2.2⟩ | omega) ?_
    intro IhB2 ehB2 hB2
    have t3 := fup_self ehB2
    refine And.intro (True.intro) ?_
    exact ⟨_, rfl, (by first | exact ⟨lz1, uz1⟩ | omega), ehB2, qz1⟩
set_option maxRecDepth 8000 in
theorem ct_X_swap_fb805 {I : fH} {x1 : Int} {x2 : Int} (h0 : fB bsJ I) (ha1 : (0 ≤ x1 ∧ x1 ≤ 23)) (ha2 : (0 ≤ x2 ∧ x2 ≤ 19)) : fC ρ base n F xTc vwCl xTys D dA la gJ (fbz bsJ znJ (fKc wz_23056) I) xm_18 [.inr (.inr (some 180)), .inl x1, .inl x2] I (fun I' r => ∃ z, r = some (.inl z) ∧ (0 ≤ z ∧ z ≤ 19) ∧ (I' = fupd I 180 x1.toNat x2) ∧ (z = I 180 x1.toNat)) := by
  have hW : fzs wz_23056 (fKc wz_23056) := fKc_ok _
  refine f_meth (rb := rbJ) (J := []) 1 400 xG xin_18 x6_18 okJ (fB_self h0) ?_ ?_
  · exact fun q h => absurd h List.not_mem_nil
  · have hB0 := fB_self (zn := znJ) (K := fKc wz_23056) h0
    refine fload1 rL_180_180_0_23_1_0 h0 hB0 ⟨by decide, by decide⟩ (by first | exact ⟨ha1.1, ha1.2⟩ | omega) ?_
    intro z1 lz1 uz1 qz1
    refine fstore1 rS_180_180_0_23_1_0 (fzs_sub (by decide +kernel) hW) ⟨by decide, by decide⟩ (by first | exact ⟨ha1.1, ha1.2⟩ | omega) (by first | exact ⟨ha2.1, ha2.2⟩ | omega) ?_
    intro IhB2 ehB2 hB2
    have t3 := fup_self ehB2
    refine And.intro (True.intro) ?_
    exact ⟨_, rfl, (by first | exact ⟨lz1, uz1⟩ | omega), ehB2, qz1⟩
set_option maxRecDepth 8000 in
theorem ct_X_be_4c6d8 {I : fH} {x1 : Int} {x2 : Int} {x3 : Int} (h0 : fB bsJ I) (ha1 : ((-2147483648) ≤ x1 ∧ x1 ≤ 2147483647)) (ha2 : ((-2147483648) ≤ x2 ∧ x2 ≤ 2147483647)) (ha3 : ((-2147483648) ≤ x3 ∧ x3 ≤ 2147483647)) : fC ρ base n F xTc vwCl xTys D dA la gJ (fbz bsJ znJ (fKc wz_816f0) I) xm_101 [.inr (.inr (some 0)), .inl x1, .inl x2, .inl x3] I (fun I' r => ∃ z, r = some (.inl z) ∧ ((0 ≤ z ∧ z ≤ 100) ∨ z = (-1000000001)) ∧ ((cR 0 I', z) = oBe (cR 0 I) x1 x2 x3)) := by
  have hW : fzs wz_816f0 (fKc wz_816f0) := fKc_ok _
  refine f_meth (rb := rbJ) (J := []) 1 400 xG xin_101 x6_101 okJ (fB_self h0) ?_ ?_
  · exact fun q h => absurd h List.not_mem_nil
  · have hB0 := fB_self (zn := znJ) (K := fKc wz_816f0) h0
    have w905 : I 2 5 = gt (cR 0 I) 5 := (cL_f (d := 0) (a := 2) (j := 5) (r := 5) (p := 5) (I := I) (z := I 2 5) (by decide +kernel) (by decide) rfl rfl)
    have w908 : I 177 4 = gt (cR 0 I) 8 := (cL_f (d := 0) (a := 177) (j := 4) (r := 8) (p := 8) (I := I) (z := I 177 4) (by decide +kernel) (by decide) rfl rfl)
    refine And.intro ⟨rfl, by decide, by decide⟩ ?_
    refine Exists.intro xm_27 (And.intro mi_27 (And.intro ⟨rfl, rfl, rfl, rfl⟩ (And.intro rfl ?_)))
    refine fcallp hB0 (ct_City_isPerson_ff059 (fBz h0 hB0) (by first | exact ⟨ha1.1, ha1.2⟩ | omega)) ?_
    rintro _ ⟨z1, rfl, hz1⟩
    refine And.intro (by omega) (And.intro ?_ ?_)
    · intro c2
      refine And.intro (by first | exact fi_ ha2.1 ha2.2 rfl | omega) (And.intro ?_ ?_)
      · refine And.intro (fun ex => ?_) (And.intro (fun ex => ?_) (And.intro (fun ex => ?_) (And.intro (fun ex => ?_) (True.intro))))
        · skip
          refine Exists.intro xm_13 (And.intro mi_13 (And.intro ⟨rfl, rfl, rfl, rfl⟩ (And.intro True.intro ?_)))
          refine fcallp hB0 (ct_X_within_c27b1 (fBz h0 hB0) (by first | exact ⟨ha3.1, ha3.2⟩ | omega) (by first | exact ⟨by decide, by decide⟩ | omega) (by first | exact ⟨by decide, by decide⟩ | omega)) ?_
          rintro _ ⟨z3, rfl, hz3⟩
          refine And.intro (by omega) (And.intro ?_ ?_)
          · intro c4
            refine And.intro (True.intro) ?_
            exact ⟨_, rfl, by omega, (pr_n (fun q => by omega) rfl)⟩
          · intro c5
            refine And.intro ⟨rfl, by decide, by decide⟩ ?_
            refine And.intro ⟨rfl, by decide, by decide⟩ ?_
            refine And.intro ⟨rfl, by decide, by decide⟩ ?_
            refine Exists.intro xm_18 (And.intro mi_18 (And.intro ⟨rfl, rfl, rfl, rfl⟩ (And.intro True.intro ?_)))
            refine fcall _ h0 (fzs_sub (by decide +kernel) hW) hB0 (ct_X_swap_95246 (fBz h0 hB0) (by omega) (by first | exact ⟨Int.le_trans (by decide) (Int.le_trans (Int.le_refl _) hz3.1), Int.le_trans (Int.le_trans hz3.2 (Int.le_refl _)) (by decide)⟩ | omega)) ?_
            rintro IhB7 _ hB7 fhB7 ⟨z6, rfl, hz6, g0z6, g1z6⟩
            have v66 := cL_a (d := 0) (a := 178) (n := 24) (b := 870) (m := 6) (by decide +kernel) (by decide) g1z6 (by omega) rfl
            have r66 := cS_a (d := 0) (a := 178) (n := 24) (b := 870) (m := 6) (by decide +kernel) (by decide) g0z6 (by omega) rfl
            refine And.intro (True.intro) ?_
            exact ⟨_, rfl, by omega, (pr_y (by omega) (by rw [r66]; exact (rud_cg (by omega) rfl)) (gt_at v66 (by omega)))⟩
        · skip
          refine Exists.intro xm_13 (And.intro mi_13 (And.intro ⟨rfl, rfl, rfl, rfl⟩ (And.intro True.intro ?_)))
          refine fcallp hB0 (ct_X_within_c27b1 (fBz h0 hB0) (by first | exact ⟨ha3.1, ha3.2⟩ | omega) (by first | exact ⟨by decide, by decide⟩ | omega) (by first | exact ⟨by decide, by decide⟩ | omega)) ?_
          rintro _ ⟨z8, rfl, hz8⟩
          refine And.intro (by omega) (And.intro ?_ ?_)
          · intro c9
            refine And.intro (True.intro) ?_
            exact ⟨_, rfl, by omega, (pr_n (fun q => by omega) rfl)⟩
          · intro c10
            refine And.intro ⟨rfl, by decide, by decide⟩ ?_
            refine And.intro ⟨rfl, by decide, by decide⟩ ?_
            refine And.intro ⟨rfl, by decide, by decide⟩ ?_
            refine Exists.intro xm_18 (And.intro mi_18 (And.intro ⟨rfl, rfl, rfl, rfl⟩ (And.intro True.intro ?_)))
            refine fcall _ h0 (fzs_sub (by decide +kernel) hW) hB0 (ct_X_swap_fb34f (fBz h0 hB0) (by omega) (by first | exact ⟨Int.le_trans (by decide) (Int.le_trans (Int.le_refl _) hz8.1), Int.le_trans (Int.le_trans hz8.2 (Int.le_refl _)) (by decide)⟩ | omega)) ?_
            rintro IhB12 _ hB12 fhB12 ⟨z11, rfl, hz11, g0z11, g1z11⟩
            have v96 := cL_a (d := 0) (a := 179) (n := 24) (b := 871) (m := 6) (by decide +kernel) (by decide) g1z11 (by omega) rfl
            have r96 := cS_a (d := 0) (a := 179) (n := 24) (b := 871) (m := 6) (by decide +kernel) (by decide) g0z11 (by omega) rfl
            refine And.intro (True.intro) ?_
            exact ⟨_, rfl, by omega, (pr_y (by omega) (by rw [r96]; exact (rud_cg (by omega) rfl)) (gt_at v96 (by omega)))⟩
        · skip
          refine And.intro ⟨rfl, by decide, by decide⟩ ?_
          refine Exists.intro xm_17 (And.intro mi_17 (And.intro ⟨rfl, rfl, rfl, rfl⟩ (And.intro rfl ?_)))
          refine fcallp hB0 (ct_City_isCell_46f02 (fBz h0 hB0) (by first | exact ⟨ha3.1, ha3.2⟩ | omega)) ?_
          rintro _ ⟨z13, rfl, hz13⟩
          refine And.intro (by omega) (And.intro ?_ ?_)
          · intro c14
            refine And.intro (True.intro) ?_
            exact ⟨_, rfl, by omega, (pr_n (fun q => by omega) rfl)⟩
          · intro c15
            refine And.intro ⟨rfl, by decide, by decide⟩ ?_
            refine And.intro ⟨rfl, by decide, by decide⟩ ?_
            refine And.intro ⟨rfl, by decide, by decide⟩ ?_
            refine Exists.intro xm_18 (And.intro mi_18 (And.intro ⟨rfl, rfl, rfl, rfl⟩ (And.intro True.intro ?_)))
            refine fcall _ h0 (fzs_sub (by decide +kernel) hW) hB0 (ct_X_swap_fb805 (fBz h0 hB0) (by omega) (by omega)) ?_
            rintro IhB17 _ hB17 fhB17 ⟨z16, rfl, hz16, g0z16, g1z16⟩
            have v128 := cL_a (d := 0) (a := 180) (n := 24) (b := 872) (m := 6) (by decide +kernel) (by decide) g1z16 (by omega) rfl
            have r128 := cS_a (d := 0) (a := 180) (n := 24) (b := 872) (m := 6) (by decide +kernel) (by decide) g0z16 (by omega) rfl
            refine And.intro (True.intro) ?_
            exact ⟨_, rfl, by omega, (pr_y (by omega) (by rw [r128]; exact (rud_cg (by omega) rfl)) (gt_at v128 (by omega)))⟩
        · skip
          refine Exists.intro xm_13 (And.intro mi_13 (And.intro ⟨rfl, rfl, rfl, rfl⟩ (And.intro True.intro ?_)))
          refine fcallp hB0 (ct_X_within_c27b1 (fBz h0 hB0) (by first | exact ⟨ha3.1, ha3.2⟩ | omega) (by first | exact ⟨by decide, by decide⟩ | omega) (by first | exact ⟨by decide, by decide⟩ | omega)) ?_
          rintro _ ⟨z18, rfl, hz18⟩
          refine And.intro (by omega) (And.intro ?_ ?_)
          · intro c19
            refine And.intro (True.intro) ?_
            exact ⟨_, rfl, by omega, (pr_n (fun q => by omega) rfl)⟩
          · intro c20
            refine And.intro ⟨rfl, by decide, by decide⟩ ?_
            refine And.intro ⟨rfl, by decide, by decide⟩ ?_
            refine And.intro ⟨rfl, by decide, by decide⟩ ?_
            refine Exists.intro xm_18 (And.intro mi_18 (And.intro ⟨rfl, rfl, rfl, rfl⟩ (And.intro True.intro ?_)))
            refine fcall _ h0 (fzs_sub (by decide +kernel) hW) hB0 (ct_X_swap_55e24 (fBz h0 hB0) (by omega) (by first | exact ⟨Int.le_trans (by decide) (Int.le_trans (Int.le_refl _) hz18.1), Int.le_trans (Int.le_trans hz18.2 (Int.le_refl _)) (by decide)⟩ | omega)) ?_
            rintro IhB22 _ hB22 fhB22 ⟨z21, rfl, hz21, g0z21, g1z21⟩
            have v159 := cL_a (d := 0) (a := 181) (n := 24) (b := 873) (m := 6) (by decide +kernel) (by decide) g1z21 (by omega) rfl
            have r159 := cS_a (d := 0) (a := 181) (n := 24) (b := 873) (m := 6) (by decide +kernel) (by decide) g0z21 (by omega) rfl
            refine And.intro (True.intro) ?_
            exact ⟨_, rfl, by omega, (pr_y (by omega) (by rw [r159]; exact (rud_cg (by omega) rfl)) (gt_at v159 (by omega)))⟩
      · intro c23
        simp only [List.length_cons, List.length_nil] at c23
        refine And.intro (True.intro) ?_
        exact ⟨_, rfl, by omega, (pr_n (fun q => by omega) rfl)⟩
    · intro c24
      refine And.intro (True.intro) ?_
      exact ⟨_, rfl, by omega, (pr_n (fun q => by omega) rfl)⟩
theorem ct_M_put_48bc1 {I : fH} {x1 x2 : Int} (h0 : fB bsJ I) (ha1 : 870 ≤ x1 ∧ x1 ≤ 1011) (ha2 : -2147483648 ≤ x2 ∧ x2 ≤ 2147483647) (hp0 : ((x1 - 870) % 6 = 2 ∧ 0 ≤ x2 ∧ x2 ≤ 19) ∨ ((x1 - 870) % 6 = 0 ∧ 0 ≤ x2 ∧ x2 ≤ 99) ∨ ((x1 - 870) % 6 = 1 ∧ 0 ≤ x2 ∧ x2 ≤ 3) ∨ ((x1 - 870) % 6 = 3 ∧ 0 ≤ x2 ∧ x2 ≤ 100)) : fC ρ base n F xTc vwCl xTys D dA la gJ (fbz bsJ znJ (fKc wz_4df1d) I) xm_242 [.inr (.inr (some 740)), .inl x1, .inl x2] I (fun I' r => ∃ z, r = some (.inl z) ∧ (-2147483648 ≤ z ∧ z ≤ 2147483647) ∧ (I' = fupd I 741 x1.toNat x2) ∧ (z = I 741 x1.toNat)) := by
  have hq : znJ 741 x1.toNat ∈ wz_4df1d ∧ (bsJ 741 x1.toNat).1 ≤ x2 ∧ x2 ≤ (bsJ 741 x1.toNat).2 := by
    rcases hp0 with hp0 | hp0 | hp0 | hp0
    · exact (frS_at rS_741_741_872_1010_6_0 (by decide +kernel) (by omega) (by omega)).2
    · exact (frS_at rS_741_741_870_1008_6_0 (by decide +kernel) (by omega) (by omega)).2
    · exact (frS_at rS_741_741_871_1009_6_0 (by decide +kernel) (by omega) (by omega)).2
    · exact (frS_at rS_741_741_873_1011_6_0 (by decide +kernel) (by omega) (by omega)).2
  refine fC_mono (ct_put h0 (by omega) hq.1 hq.2) (fun I' r _ q => ?_)
  obtain ⟨z, e, e2, e3⟩ := q
  have h3 := (frL_at rL_741_741_0_4899_1_0 h0 (a := 741) (i := x1) (by omega)).2
  exact ⟨z, e, by omega, e3, e2⟩
set_option maxRecDepth 8000 in
theorem ct_M_be_60845 {I : fH} {x1 : Int} {x2 : Int} {x3 : Int} (h0 : fB bsJ I) (ha1 : ((-2147483648) ≤ x1 ∧ x1 ≤ 2147483647)) (ha2 : ((-2147483648) ≤ x2 ∧ x2 ≤ 2147483647)) (ha3 : ((-2147483648) ≤ x3 ∧ x3 ≤ 2147483647)) : fC ρ base n F xTc vwCl xTys D dA la gJ (fbz bsJ znJ (fKc wz_4df1d) I) xm_306 [.inr (.inr (some 740)), .inl x1, .inl x2, .inl x3] I (fun I' r => ∃ z, r = some (.inl z) ∧ ((0 ≤ z ∧ z ≤ 100) ∨ z = (-1000000001)) ∧ ((mR I', z) = oBe (mR I) x1 x2 x3)) := by
  have hW : fzs wz_4df1d (fKc wz_4df1d) := fKc_ok _
  refine f_meth (rb := rbJ) (J := []) 1 400 xG xin_306 x6_306 okJ (fB_self h0) ?_ ?_
  · exact fun q h => absurd h List.not_mem_nil
  · have hB0 := fB_self (zn := znJ) (K := fKc wz_4df1d) h0
    have w905 : I 741 5 = gt (mR I) 5 := (show I 741 5 = gt (mR I) 5 from (mR_ld (I := I) (k := 5) (by decide +kernel)).symm)
    have w908 : I 741 8 = gt (mR I) 8 := (show I 741 8 = gt (mR I) 8 from (mR_ld (I := I) (k := 8) (by decide +kernel)).symm)
    refine And.intro (by first | exact fi_ ha2.1 ha2.2 rfl | omega) (And.intro ?_ ?_)
    · intro c1
      refine And.intro (And.intro (by first | exact fi_ ha2.1 ha2.2 rfl | omega) (by first | exact ⟨by decide, by decide⟩ | omega)) (And.intro ?_ ?_)
      · intro c2
        refine And.intro (And.intro (by first | exact fi_ ha2.1 ha2.2 rfl | omega) (by first | exact ⟨by decide, by decide⟩ | omega)) (And.intro ?_ ?_)
        · intro c3
          refine And.intro (And.intro (by first | exact fi_ ha2.1 ha2.2 rfl | omega) (by first | exact ⟨by decide, by decide⟩ | omega)) (And.intro ?_ ?_)
          · intro c4
            refine Exists.intro xm_252 (And.intro mi_252 (And.intro ⟨rfl, rfl, rfl, rfl⟩ (And.intro rfl ?_)))
            refine fcallp hB0 (ct_M_isPerson_4d30c (fBz h0 hB0) (by first | exact ⟨ha1.1, ha1.2⟩ | omega)) ?_
            rintro _ ⟨z5, rfl, hz5⟩
            refine And.intro (by omega) (And.intro ?_ ?_)
            · intro c6
              refine And.intro (True.intro) ?_
              exact ⟨_, rfl, by omega, (pr_n (fun q => by omega) rfl)⟩
            · intro c7
              refine And.intro (by omega) (And.intro ?_ ?_)
              · intro c8
                refine And.intro (True.intro) ?_
                exact ⟨_, rfl, by omega, (pr_n (fun q => by omega) rfl)⟩
              · intro c9
                refine Exists.intro xm_247 (And.intro mi_247 (And.intro ⟨rfl, rfl, rfl, rfl⟩ (And.intro rfl ?_)))
                refine fcallp hB0 (ct_M_personAt_9b331 (fBz h0 hB0) (by omega)) ?_
                rintro _ ⟨_, rfl, rfl⟩
                intro z11 hz11 ez11 bz11
                clear ez11
                try replace bz11 := bz11 (by omega)
                refine Exists.intro xm_242 (And.intro mi_242 (And.intro ⟨rfl, rfl, rfl, rfl⟩ (And.intro rfl ?_)))
                refine fcall _ h0 (fzs_sub (by decide +kernel) hW) hB0 (ct_M_put_48bc1 (fBz h0 hB0) (by omega) (by first | exact ⟨ha3.1, ha3.2⟩ | omega) (by omega)) ?_
                rintro IhB13 _ hB13 fhB13 ⟨z12, rfl, hz12, g0z12, g1z12⟩
                have v92 := mL_r (i0 := 870) (i1 := 1011) (m := 6) (q := 3) (by decide +kernel) g1z12 (by omega) rfl
                have r92 := mS_r (i0 := 870) (i1 := 1011) (m := 6) (q := 3) (by decide +kernel) g0z12 (by omega) rfl
                have b92 := mV_rng (i0 := 870) (i1 := 1011) (m := 6) (q := 3) (lo := 0) (hi := 100) v92 (by decide +kernel) h0 (by omega)
                refine And.intro (True.intro) ?_
                exact ⟨_, rfl, by omega, (pr_y (by omega) (by rw [r92]; exact (rud_cg (by omega) rfl)) (gt_at v92 (by omega)))⟩
          · intro c14
            refine And.intro (by first | exact fi_ ha3.1 ha3.2 rfl | omega) ?_
            refine Exists.intro xm_238 (And.intro mi_238 (And.intro ⟨rfl, rfl, rfl, rfl⟩ (And.intro True.intro ?_)))
            refine fcallp hB0 (ct_M_isIn_27230 (fBz h0 hB0) (by first | exact ⟨ha3.1, ha3.2⟩ | omega) (by first | exact ⟨by decide, by decide⟩ | omega) (by first | exact ⟨by decide, by decide⟩ | omega)) ?_
            rintro _ ⟨z15, rfl, hz15⟩
            refine And.intro (by omega) (And.intro ?_ ?_)
            · intro c16
              refine Exists.intro xm_252 (And.intro mi_252 (And.intro ⟨rfl, rfl, rfl, rfl⟩ (And.intro rfl ?_)))
              refine fcallp hB0 (ct_M_isPerson_4d30c (fBz h0 hB0) (by first | exact ⟨ha1.1, ha1.2⟩ | omega)) ?_
              rintro _ ⟨z17, rfl, hz17⟩
              refine And.intro (by omega) (And.intro ?_ ?_)
              · intro c18
                refine And.intro (True.intro) ?_
                exact ⟨_, rfl, by omega, (pr_n (fun q => by omega) rfl)⟩
              · intro c19
                refine And.intro (by omega) (And.intro ?_ ?_)
                · intro c20
                  refine And.intro (True.intro) ?_
                  exact ⟨_, rfl, by omega, (pr_n (fun q => by omega) rfl)⟩
                · intro c21
                  refine Exists.intro xm_247 (And.intro mi_247 (And.intro ⟨rfl, rfl, rfl, rfl⟩ (And.intro rfl ?_)))
                  refine fcallp hB0 (ct_M_personAt_9b331 (fBz h0 hB0) (by omega)) ?_
                  rintro _ ⟨_, rfl, rfl⟩
                  intro z23 hz23 ez23 bz23
                  clear ez23
                  try replace bz23 := bz23 (by omega)
                  refine Exists.intro xm_242 (And.intro mi_242 (And.intro ⟨rfl, rfl, rfl, rfl⟩ (And.intro rfl ?_)))
                  refine fcall _ h0 (fzs_sub (by decide +kernel) hW) hB0 (ct_M_put_48bc1 (fBz h0 hB0) (by omega) (by first | exact ⟨ha3.1, ha3.2⟩ | omega) (by omega)) ?_
                  rintro IhB25 _ hB25 fhB25 ⟨z24, rfl, hz24, g0z24, g1z24⟩
                  have v92 := mL_r (i0 := 870) (i1 := 1011) (m := 6) (q := 3) (by decide +kernel) g1z24 (by omega) rfl
                  have r92 := mS_r (i0 := 870) (i1 := 1011) (m := 6) (q := 3) (by decide +kernel) g0z24 (by omega) rfl
                  have b92 := mV_rng (i0 := 870) (i1 := 1011) (m := 6) (q := 3) (lo := 0) (hi := 100) v92 (by decide +kernel) h0 (by omega)
                  refine And.intro (True.intro) ?_
                  exact ⟨_, rfl, by omega, (pr_y (by omega) (by rw [r92]; exact (rud_cg (by omega) rfl)) (gt_at v92 (by omega)))⟩
            · intro c26
              refine Exists.intro xm_252 (And.intro mi_252 (And.intro ⟨rfl, rfl, rfl, rfl⟩ (And.intro rfl ?_)))
              refine fcallp hB0 (ct_M_isPerson_4d30c (fBz h0 hB0) (by first | exact ⟨ha1.1, ha1.2⟩ | omega)) ?_
              rintro _ ⟨z27, rfl, hz27⟩
              refine And.intro (by omega) (And.intro ?_ ?_)
              · intro c28
                refine And.intro (True.intro) ?_
                exact ⟨_, rfl, by omega, (pr_n (fun q => by omega) rfl)⟩
              · intro c29
                refine And.intro (by first | exact ⟨by decide, by decide⟩ | omega) (And.intro ?_ ?_)
                · intro c30
                  refine And.intro (True.intro) ?_
                  exact ⟨_, rfl, by omega, (pr_n (fun q => by omega) rfl)⟩
                · intro c31
                  refine Exists.intro xm_247 (And.intro mi_247 (And.intro ⟨rfl, rfl, rfl, rfl⟩ (And.intro rfl ?_)))
                  refine fcallp hB0 (ct_M_personAt_9b331 (fBz h0 hB0) (by omega)) ?_
                  rintro _ ⟨_, rfl, rfl⟩
                  intro z33 hz33 ez33 bz33
                  clear ez33
                  try replace bz33 := bz33 (by omega)
                  refine Exists.intro xm_242 (And.intro mi_242 (And.intro ⟨rfl, rfl, rfl, rfl⟩ (And.intro rfl ?_)))
                  refine fcall _ h0 (fzs_sub (by decide +kernel) hW) hB0 (ct_M_put_48bc1 (fBz h0 hB0) (by omega) (by first | exact ⟨Int.le_trans (by decide) (Int.le_trans (Int.le_refl _) hz15.1), Int.le_trans (Int.le_trans hz15.2 (Int.le_refl _)) (by decide)⟩ | omega) (by omega)) ?_
                  rintro IhB35 _ hB35 fhB35 ⟨z34, rfl, hz34, g0z34, g1z34⟩
                  have v92 := mL_r (i0 := 870) (i1 := 1011) (m := 6) (q := 3) (by decide +kernel) g1z34 (by omega) rfl
                  have r92 := mS_r (i0 := 870) (i1 := 1011) (m := 6) (q := 3) (by decide +kernel) g0z34 (by omega) rfl
                  have b92 := mV_rng (i0 := 870) (i1 := 1011) (m := 6) (q := 3) (lo := 0) (hi := 100) v92 (by decide +kernel) h0 (by omega)
                  refine And.intro (True.intro) ?_
                  exact ⟨_, rfl, by omega, (pr_y (by omega) (by rw [r92]; exact (rud_cg (by omega) rfl)) (gt_at v92 (by omega)))⟩
        · intro c36
          refine Exists.intro xm_241 (And.intro mi_241 (And.intro ⟨rfl, rfl, rfl, rfl⟩ (And.intro rfl ?_)))
          refine fcallp hB0 (ct_M_isCell_45859 (fBz h0 hB0) (by first | exact ⟨ha3.1, ha3.2⟩ | omega)) ?_
          rintro _ ⟨z37, rfl, hz37⟩
          refine Exists.intro xm_252 (And.intro mi_252 (And.intro ⟨rfl, rfl, rfl, rfl⟩ (And.intro rfl ?_)))
          refine fcallp hB0 (ct_M_isPerson_4d30c (fBz h0 hB0) (by first | exact ⟨ha1.1, ha1.2⟩ | omega)) ?_
          rintro _ ⟨z38, rfl, hz38⟩
          refine And.intro (by omega) (And.intro ?_ ?_)
          · intro c39
            refine And.intro (True.intro) ?_
            exact ⟨_, rfl, by omega, (pr_n (fun q => by omega) rfl)⟩
          · intro c40
            refine And.intro (by omega) (And.intro ?_ ?_)
            · intro c41
              refine And.intro (True.intro) ?_
              exact ⟨_, rfl, by omega, (pr_n (fun q => by omega) rfl)⟩
            · intro c42
              refine Exists.intro xm_247 (And.intro mi_247 (And.intro ⟨rfl, rfl, rfl, rfl⟩ (And.intro rfl ?_)))
              refine fcallp hB0 (ct_M_personAt_9b331 (fBz h0 hB0) (by omega)) ?_
              rintro _ ⟨_, rfl, rfl⟩
              intro z44 hz44 ez44 bz44
              clear ez44
              try replace bz44 := bz44 (by omega)
              refine Exists.intro xm_242 (And.intro mi_242 (And.intro ⟨rfl, rfl, rfl, rfl⟩ (And.intro rfl ?_)))
              refine fcall _ h0 (fzs_sub (by decide +kernel) hW) hB0 (ct_M_put_48bc1 (fBz h0 hB0) (by omega) (by first | exact ⟨ha3.1, ha3.2⟩ | omega) (by omega)) ?_
              rintro IhB46 _ hB46 fhB46 ⟨z45, rfl, hz45, g0z45, g1z45⟩
              have v92 := mL_r (i0 := 870) (i1 := 1011) (m := 6) (q := 3) (by decide +kernel) g1z45 (by omega) rfl
              have r92 := mS_r (i0 := 870) (i1 := 1011) (m := 6) (q := 3) (by decide +kernel) g0z45 (by omega) rfl
              have b92 := mV_rng (i0 := 870) (i1 := 1011) (m := 6) (q := 3) (lo := 0) (hi := 100) v92 (by decide +kernel) h0 (by omega)
              refine And.intro (True.intro) ?_
              exact ⟨_, rfl, by omega, (pr_y (by omega) (by rw [r92]; exact (rud_cg (by omega) rfl)) (gt_at v92 (by omega)))⟩
      · intro c47
        refine And.intro (by first | exact fi_ ha3.1 ha3.2 rfl | omega) ?_
        refine Exists.intro xm_238 (And.intro mi_238 (And.intro ⟨rfl, rfl, rfl, rfl⟩ (And.intro True.intro ?_)))
        refine fcallp hB0 (ct_M_isIn_27230 (fBz h0 hB0) (by first | exact ⟨ha3.1, ha3.2⟩ | omega) (by first | exact ⟨by decide, by decide⟩ | omega) (by first | exact ⟨by decide, by decide⟩ | omega)) ?_
        rintro _ ⟨z48, rfl, hz48⟩
        refine Exists.intro xm_252 (And.intro mi_252 (And.intro ⟨rfl, rfl, rfl, rfl⟩ (And.intro rfl ?_)))
        refine fcallp hB0 (ct_M_isPerson_4d30c (fBz h0 hB0) (by first | exact ⟨ha1.1, ha1.2⟩ | omega)) ?_
        rintro _ ⟨z49, rfl, hz49⟩
        refine And.intro (by omega) (And.intro ?_ ?_)
        · intro c50
          refine And.intro (True.intro) ?_
          exact ⟨_, rfl, by omega, (pr_n (fun q => by omega) rfl)⟩
        · intro c51
          refine And.intro (by omega) (And.intro ?_ ?_)
          · intro c52
            refine And.intro (True.intro) ?_
            exact ⟨_, rfl, by omega, (pr_n (fun q => by omega) rfl)⟩
          · intro c53
            refine Exists.intro xm_247 (And.intro mi_247 (And.intro ⟨rfl, rfl, rfl, rfl⟩ (And.intro rfl ?_)))
            refine fcallp hB0 (ct_M_personAt_9b331 (fBz h0 hB0) (by omega)) ?_
            rintro _ ⟨_, rfl, rfl⟩
            intro z55 hz55 ez55 bz55
            clear ez55
            try replace bz55 := bz55 (by omega)
            refine Exists.intro xm_242 (And.intro mi_242 (And.intro ⟨rfl, rfl, rfl, rfl⟩ (And.intro rfl ?_)))
            refine fcall _ h0 (fzs_sub (by decide +kernel) hW) hB0 (ct_M_put_48bc1 (fBz h0 hB0) (by omega) (by first | exact ⟨Int.le_trans (by decide) (Int.le_trans (Int.le_refl _) hz48.1), Int.le_trans (Int.le_trans hz48.2 (Int.le_refl _)) (by decide)⟩ | omega) (by omega)) ?_
            rintro IhB57 _ hB57 fhB57 ⟨z56, rfl, hz56, g0z56, g1z56⟩
            have v92 := mL_r (i0 := 870) (i1 := 1011) (m := 6) (q := 3) (by decide +kernel) g1z56 (by omega) rfl
            have r92 := mS_r (i0 := 870) (i1 := 1011) (m := 6) (q := 3) (by decide +kernel) g0z56 (by omega) rfl
            have b92 := mV_rng (i0 := 870) (i1 := 1011) (m := 6) (q := 3) (lo := 0) (hi := 100) v92 (by decide +kernel) h0 (by omega)
            refine And.intro (True.intro) ?_
            exact ⟨_, rfl, by omega, (pr_y (by omega) (by rw [r92]; exact (rud_cg (by omega) rfl)) (gt_at v92 (by omega)))⟩
    · intro c58
      refine And.intro (by first | exact fi_ ha3.1 ha3.2 rfl | omega) ?_
      refine Exists.intro xm_238 (And.intro mi_238 (And.intro ⟨rfl, rfl, rfl, rfl⟩ (And.intro True.intro ?_)))
      refine fcallp hB0 (ct_M_isIn_27230 (fBz h0 hB0) (by first | exact ⟨ha3.1, ha3.2⟩ | omega) (by first | exact ⟨by decide, by decide⟩ | omega) (by first | exact ⟨by decide, by decide⟩ | omega)) ?_
      rintro _ ⟨z59, rfl, hz59⟩
      refine Exists.intro xm_252 (And.intro mi_252 (And.intro ⟨rfl, rfl, rfl, rfl⟩ (And.intro rfl ?_)))
      refine fcallp hB0 (ct_M_isPerson_4d30c (fBz h0 hB0) (by first | exact ⟨ha1.1, ha1.2⟩ | omega)) ?_
      rintro _ ⟨z60, rfl, hz60⟩
      refine And.intro (by omega) (And.intro ?_ ?_)
      · intro c61
        refine And.intro (True.intro) ?_
        exact ⟨_, rfl, by omega, (pr_n (fun q => by omega) rfl)⟩
      · intro c62
        refine And.intro (by omega) (And.intro ?_ ?_)
        · intro c63
          refine And.intro (True.intro) ?_
          exact ⟨_, rfl, by omega, (pr_n (fun q => by omega) rfl)⟩
        · intro c64
          refine Exists.intro xm_247 (And.intro mi_247 (And.intro ⟨rfl, rfl, rfl, rfl⟩ (And.intro rfl ?_)))
          refine fcallp hB0 (ct_M_personAt_9b331 (fBz h0 hB0) (by omega)) ?_
          rintro _ ⟨_, rfl, rfl⟩
          intro z66 hz66 ez66 bz66
          clear ez66
          try replace bz66 := bz66 (by omega)
          refine Exists.intro xm_242 (And.intro mi_242 (And.intro ⟨rfl, rfl, rfl, rfl⟩ (And.intro rfl ?_)))
          refine fcall _ h0 (fzs_sub (by decide +kernel) hW) hB0 (ct_M_put_48bc1 (fBz h0 hB0) (by omega) (by first | exact ⟨Int.le_trans (by decide) (Int.le_trans (Int.le_refl _) hz59.1), Int.le_trans (Int.le_trans hz59.2 (Int.le_refl _)) (by decide)⟩ | omega) (by omega)) ?_
          rintro IhB68 _ hB68 fhB68 ⟨z67, rfl, hz67, g0z67, g1z67⟩
          have v92 := mL_r (i0 := 870) (i1 := 1011) (m := 6) (q := 3) (by decide +kernel) g1z67 (by omega) rfl
          have r92 := mS_r (i0 := 870) (i1 := 1011) (m := 6) (q := 3) (by decide +kernel) g0z67 (by omega) rfl
          have b92 := mV_rng (i0 := 870) (i1 := 1011) (m := 6) (q := 3) (lo := 0) (hi := 100) v92 (by decide +kernel) h0 (by omega)
          refine And.intro (True.intro) ?_
          exact ⟨_, rfl, by omega, (pr_y (by omega) (by rw [r92]; exact (rud_cg (by omega) rfl)) (gt_at v92 (by omega)))⟩
set_option maxRecDepth 8000 in
theorem ct_X_is_3f9a5 {I : fH} {x1 : Int} {x2 : Int} (h0 : fB bsJ I) (ha1 : ((-2147483648) ≤ x1 ∧ x1 ≤ 2147483647)) (ha2 : ((-2147483648) ≤ x2 ∧ x2 ≤ 2147483647)) : fC ρ base n F xTc vwCl xTys D dA la gJ (fbz bsJ znJ (fKc []) I) xm_102 [.inr (.inr (some 0)), .inl x1, .inl x2] I (fun _ r => ∃ z, r = some (.inl z) ∧ ((0 ≤ z ∧ z ≤ 100) ∨ z = (-1000000001)) ∧ (z = oIs (cR 0 I) x1 x2)) := by
  have hW : fzs [] (fKc []) := fKc_ok _
  refine f_meth (rb := rbJ) (J := []) 1 400 xG xin_102 x6_102 okJ (fB_self h0) ?_ ?_
  · exact fun q h => absurd h List.not_mem_nil
  · have hB0 := fB_self (zn := znJ) (K := fKc []) h0
    have w908 : I 177 4 = gt (cR 0 I) 8 := (cL_f (d := 0) (a := 177) (j := 4) (r := 8) (p := 8) (I := I) (z := I 177 4) (by decide +kernel) (by decide) rfl rfl)
    refine And.intro ⟨rfl, by decide, by decide⟩ ?_
    refine Exists.intro xm_27 (And.intro mi_27 (And.intro ⟨rfl, rfl, rfl, rfl⟩ (And.intro rfl ?_)))
    refine fcallp hB0 (ct_City_isPerson_ff059 (fBz h0 hB0) (by first | exact ⟨ha1.1, ha1.2⟩ | omega)) ?_
    rintro _ ⟨z1, rfl, hz1⟩
    refine And.intro (by omega) (And.intro ?_ ?_)
    · intro c2
      refine And.intro (by first | exact fi_ ha2.1 ha2.2 rfl | omega) (And.intro ?_ ?_)
      · refine And.intro (fun ex => ?_) (And.intro (fun ex => ?_) (And.intro (fun ex => ?_) (And.intro (fun ex => ?_) (And.intro (fun ex => ?_) (True.intro)))))
        · skip
          refine And.intro ⟨rfl, by decide, by decide⟩ ?_
          refine And.intro ⟨rfl, by decide, by decide⟩ ?_
          refine And.intro ⟨rfl, by decide, by decide⟩ ?_
          refine fload rL_178_178_0_23_1_0 h0 hB0 (by omega) ?_
          intro z3 lz3 uz3 qz3
          have v59 := cL_a (d := 0) (a := 178) (n := 24) (b := 870) (m := 6) (by decide +kernel) (by decide) qz3 (by omega) rfl
          refine And.intro (True.intro) ?_
          exact ⟨_, rfl, by omega, (if_y (by omega) (if_n (by omega) (gt_to v59 (by omega))))⟩
        · skip
          refine And.intro ⟨rfl, by decide, by decide⟩ ?_
          refine And.intro ⟨rfl, by decide, by decide⟩ ?_
          refine And.intro ⟨rfl, by decide, by decide⟩ ?_
          refine fload rL_179_179_0_23_1_0 h0 hB0 (by omega) ?_
          intro z4 lz4 uz4 qz4
          have v72 := cL_a (d := 0) (a := 179) (n := 24) (b := 871) (m := 6) (by decide +kernel) (by decide) qz4 (by omega) rfl
          refine And.intro (True.intro) ?_
          exact ⟨_, rfl, by omega, (if_y (by omega) (if_n (by omega) (gt_to v72 (by omega))))⟩
        · skip
          refine And.intro ⟨rfl, by decide, by decide⟩ ?_
          refine And.intro ⟨rfl, by decide, by decide⟩ ?_
          refine And.intro ⟨rfl, by decide, by decide⟩ ?_
          refine fload rL_180_180_0_23_1_0 h0 hB0 (by omega) ?_
          intro z5 lz5 uz5 qz5
          have v85 := cL_a (d := 0) (a := 180) (n := 24) (b := 872) (m := 6) (by decide +kernel) (by decide) qz5 (by omega) rfl
          refine And.intro (True.intro) ?_
          exact ⟨_, rfl, by omega, (if_y (by omega) (if_n (by omega) (gt_to v85 (by omega))))⟩
        · skip
          refine And.intro ⟨rfl, by decide, by decide⟩ ?_
          refine And.intro ⟨rfl, by decide, by decide⟩ ?_
          refine And.intro ⟨rfl, by decide, by decide⟩ ?_
          refine fload rL_181_181_0_23_1_0 h0 hB0 (by omega) ?_
          intro z6 lz6 uz6 qz6
          have v98 := cL_a (d := 0) (a := 181) (n := 24) (b := 873) (m := 6) (by decide +kernel) (by decide) qz6 (by omega) rfl
          refine And.intro (True.intro) ?_
          exact ⟨_, rfl, by omega, (if_y (by omega) (if_n (by omega) (gt_to v98 (by omega))))⟩
        · skip
          refine And.intro ⟨rfl, by decide, by decide⟩ ?_
          refine And.intro ⟨rfl, by decide, by decide⟩ ?_
          refine Exists.intro xm_21 (And.intro mi_21 (And.intro ⟨rfl, rfl, rfl, rfl⟩ (And.intro rfl ?_)))
          refine fcallp hB0 (ct_People_isDead_edb17 (fBz h0 hB0) (by omega)) ?_
          rintro _ ⟨z7, rfl, hz7, g0z7⟩
          refine And.intro (by omega) (And.intro ?_ ?_)
          · intro c8
            refine And.intro (True.intro) ?_
            exact ⟨_, rfl, by omega, (if_y (by omega) (if_y (by omega) (cI_neg (g0z7.elim (fun q => absurd q.1 (by omega)) (fun q => q.2))).symm))⟩
          · intro c9
            refine And.intro (True.intro) ?_
            exact ⟨_, rfl, by omega, (if_y (by omega) (if_y (by omega) (cI_pos (g0z7.elim (fun q => q.2) (fun q => absurd q.1 (by omega)))).symm))⟩
      · intro c10
        simp only [List.length_cons, List.length_nil] at c10
        refine And.intro (True.intro) ?_
        exact ⟨_, rfl, by omega, (if_n (fun q => by omega) rfl)⟩
    · intro c11
      refine And.intro (True.intro) ?_
      exact ⟨_, rfl, by omega, (if_n (fun q => by omega) rfl)⟩
set_option maxRecDepth 8000 in
theorem ct_M_is_815af {I : fH} {x1 : Int} {x2 : Int} (h0 : fB bsJ I) (ha1 : ((-2147483648) ≤ x1 ∧ x1 ≤ 2147483647)) (ha2 : ((-2147483648) ≤ x2 ∧ x2 ≤ 2147483647)) : fC ρ base n F xTc vwCl xTys D dA la gJ (fbz bsJ znJ (fKc []) I) xm_307 [.inr (.inr (some 740)), .inl x1, .inl x2] I (fun _ r => ∃ z, r = some (.inl z) ∧ ((0 ≤ z ∧ z ≤ 100) ∨ z = (-1000000001)) ∧ (z = oIs (mR I) x1 x2)) := by
  have hW : fzs [] (fKc []) := fKc_ok _
  refine f_meth (rb := rbJ) (J := []) 1 400 xG xin_307 x6_307 okJ (fB_self h0) ?_ ?_
  · exact fun q h => absurd h List.not_mem_nil
  · have hB0 := fB_self (zn := znJ) (K := fKc []) h0
    have w908 : I 741 8 = gt (mR I) 8 := (show I 741 8 = gt (mR I) 8 from (mR_ld (I := I) (k := 8) (by decide +kernel)).symm)
    refine Exists.intro xm_252 (And.intro mi_252 (And.intro ⟨rfl, rfl, rfl, rfl⟩ (And.intro rfl ?_)))
    refine fcallp hB0 (ct_M_isPerson_4d30c (fBz h0 hB0) (by first | exact ⟨ha1.1, ha1.2⟩ | omega)) ?_
    rintro _ ⟨z1, rfl, hz1⟩
    refine And.intro (by omega) (And.intro ?_ ?_)
    · intro c2
      refine And.intro (True.intro) ?_
      exact ⟨_, rfl, by omega, (if_n (fun q => by omega) rfl)⟩
    · intro c3
      refine And.intro (by first | exact fi_ ha2.1 ha2.2 rfl | omega) ?_
      refine Exists.intro xm_238 (And.intro mi_238 (And.intro ⟨rfl, rfl, rfl, rfl⟩ (And.intro True.intro ?_)))
      refine fcallp hB0 (ct_M_isIn_27230 (fBz h0 hB0) (by first | exact ⟨ha2.1, ha2.2⟩ | omega) (by first | exact ⟨by decide, by decide⟩ | omega) (by first | exact ⟨by decide, by decide⟩ | omega)) ?_
      rintro _ ⟨z4, rfl, hz4⟩
      refine And.intro (by omega) (And.intro ?_ ?_)
      · intro c5
        refine And.intro (And.intro (by first | exact fi_ (Int.le_trans (Int.le_refl _) hz4.1) (Int.le_trans hz4.2 (Int.le_refl _)) rfl | omega) (by first | exact ⟨by decide, by decide⟩ | omega)) (And.intro ?_ ?_)
        · intro c6
          refine And.intro ⟨rfl, by decide, by decide⟩ ?_
          refine Exists.intro xm_247 (And.intro mi_247 (And.intro ⟨rfl, rfl, rfl, rfl⟩ (And.intro rfl ?_)))
          refine fcallp hB0 (ct_M_personAt_9b331 (fBz h0 hB0) (by omega)) ?_
          rintro _ ⟨_, rfl, rfl⟩
          refine fload rL_741_741_870_1011_6_3 h0 hB0 (by omega) ?_
          intro z8 lz8 uz8 qz8
          have v55 := mL_r (i0 := 870) (i1 := 1011) (m := 6) (q := 3) (by decide +kernel) qz8 (by omega) rfl
          refine And.intro (True.intro) ?_
          exact ⟨_, rfl, by omega, (if_y (by omega) (if_n (by omega) (gt_to v55 (by omega))))⟩
        · intro c9
          refine Exists.intro xm_248 (And.intro mi_248 (And.intro ⟨rfl, rfl, rfl, rfl⟩ (And.intro rfl ?_)))
          refine fcallp hB0 (ct_M_isDead_21e1a (fBz h0 hB0) (by omega)) ?_
          rintro _ ⟨z10, rfl, hz10, g0z10⟩
          refine And.intro (by omega) (And.intro ?_ ?_)
          · intro c11
            refine And.intro (True.intro) ?_
            exact ⟨_, rfl, by omega, (if_y (by omega) (if_y (by omega) (cI_neg (g0z10.elim (fun q => absurd q.1 (by omega)) (fun q => q.2))).symm))⟩
          · intro c12
            refine And.intro (True.intro) ?_
            exact ⟨_, rfl, by omega, (if_y (by omega) (if_y (by omega) (cI_pos (g0z10.elim (fun q => q.2) (fun q => absurd q.1 (by omega)))).symm))⟩
      · intro c13
        refine And.intro (True.intro) ?_
        exact ⟨_, rfl, by omega, (if_n (fun q => by omega) rfl)⟩
abbrev jc_Works_gardenRates_79462_4 (I0 : fH) : Nat → fL → List fV → fH → Prop := fun m lv st I => ∃ (y1 : Int) (y2 : Int), lv = [(0, .inr (.inr (some 163))), (1, .inl y1), (2, .inl y2)] ∧ st = [] ∧ (((0 ≤ y1 ∧ y1 ≤ 2399976) ∧ (0 ≤ y2 ∧ y2 ≤ 24) ∧ (y2 ≤ I0 163 13) ∧ (y1 ≤ 99999 * y2) ∧ (0 ≤ y1)) ∧ (y1 = sm (sGdr (cR 0 I0)) y2.toNat)) ∧ m = (1 + 1 * (24 - y2) : Int).toNat
set_option maxRecDepth 8000 in
theorem ct_Works_gardenRates_79462 {I : fH}  (h0 : fB bsJ I)  : fC ρ base n F xTc vwCl xTys D dA la gJ (fbz bsJ znJ (fKc []) I) xm_105 [.inr (.inr (some 163))] I (fun _ r => ∃ z, r = some (.inl z) ∧ (0 ≤ z ∧ z ≤ 2399976) ∧ (z = sm (sGdr (cR 0 I)) (gt (cR 0 I) 7).toNat)) := by
  have hW : fzs [] (fKc []) := fKc_ok _
  refine f_meth (rb := rbJ) (J := [(4, (jc_Works_gardenRates_79462_4 I))]) 26 400 xG xin_105 x6_105 okJ (fB_self h0) ?_ ?_
  · refine List.forall_mem_cons.mpr ⟨?_, fun q h => absurd h List.not_mem_nil⟩
    · rintro m _ _ I1 hB1 ⟨y1, y2, rfl, rfl, ⟨hb, hx0⟩, hm⟩
      have eJ : I1 = I := fFr_nil (fFr_of hB1)
      have k1 := fBz_eq hB1 (a := 163) (j := 13) (by decide +kernel)
      have b2 := fBd fb_163_13 (fBz h0 hB1)
      refine And.intro ⟨rfl, by decide, by decide⟩ (fgetf fb_163_13 h0 hB1 ?_)
      intro z3 lz3 uz3 qz3
      have v6 := cL_f (d := 0) (a := 163) (j := 13) (r := 7) (p := 7) (by decide +kernel) (by decide) qz3 rfl
      rw [eJ] at v6
      refine And.intro (And.intro (by first | exact fi_ hb.2.1.1 hb.2.1.2 rfl | omega) (by first | exact fi_ lz3 uz3 rfl | omega)) (And.intro ?_ ?_)
      · intro c4
        refine And.intro (True.intro) ?_
        have w7 := (cL_f (d := 0) (a := 163) (j := 13) (r := 7) (p := 7) (I := I) (z := I 163 13) (by decide +kernel) (by decide) rfl rfl)
        exact ⟨_, rfl, (by first | exact ⟨hb.1.1, hb.1.2⟩ | omega), (sm_fin hx0 (by omega))⟩
      · intro c5
        refine And.intro ⟨rfl, by decide, by decide⟩ ?_
        refine fload1 rL_164_164_0_23_1_0 h0 hB1 ⟨by decide, by decide⟩ (by first | exact ⟨hb.2.1.1, Int.le_trans (Int.le_sub_one_of_lt (Int.lt_of_lt_of_le c5 uz3)) (by decide)⟩ | omega) ?_
        intro z6 lz6 uz6 qz6
        have v17 := cL_a (d := 0) (a := 164) (n := 24) (b := 530) (m := 14) (by decide +kernel) (by decide) qz6 (by omega) rfl
        rw [eJ] at v17
        refine And.intro (And.intro (by first | exact fi_ lz6 uz6 rfl | omega) (by first | exact ⟨by decide, by decide⟩ | omega)) (And.intro ?_ ?_)
        · intro c7
          exact fcutJ (I := I1) (j := (jc_Works_gardenRates_79462_4 I)) (lv' := [(0, .inr (.inr (some 163))), (1, .inl _), (2, .inl _)]) (And.intro rfl (And.intro rfl (And.intro rfl True.intro))) ⟨_, _, rfl, rfl, ⟨by omega, (sm_at (v := 0) hx0 (by omega) (by omega) (sGdr_n (w := y2) (by omega) (Or.inl (by have q := gt_at v17 (show _ = 530 + 14 * y2 by omega); omega)) rfl) (by omega))⟩, rfl⟩ (by omega)
        · intro c8
          refine And.intro ⟨rfl, by decide, by decide⟩ ?_
          refine fload1 rL_174_174_0_23_1_0 h0 hB1 ⟨by decide, by decide⟩ (by first | exact ⟨hb.2.1.1, Int.le_trans (Int.le_sub_one_of_lt (Int.lt_of_lt_of_le c5 uz3)) (by decide)⟩ | omega) ?_
          intro z9 lz9 uz9 qz9
          have v27 := cL_a (d := 0) (a := 174) (n := 24) (b := 538) (m := 14) (by decide +kernel) (by decide) qz9 (by omega) rfl
          rw [eJ] at v27
          refine And.intro (by first | exact fi_ lz9 uz9 rfl | omega) (And.intro ?_ ?_)
          · intro c10
            exact fcutJ (I := I1) (j := (jc_Works_gardenRates_79462_4 I)) (lv' := [(0, .inr (.inr (some 163))), (1, .inl _), (2, .inl _)]) (And.intro rfl (And.intro rfl (And.intro rfl True.intro))) ⟨_, _, rfl, rfl, ⟨by omega, (sm_at (v := 0) hx0 (by omega) (by omega) (sGdr_n (w := y2) (by omega) (Or.inr (by have q := gt_at v27 (show _ = 538 + 14 * y2 by omega); omega)) rfl) (by omega))⟩, rfl⟩ (by omega)
          · intro c11
            refine And.intro ⟨rfl, by decide, by decide⟩ ?_
            refine fload1 rL_171_171_0_23_1_0 h0 hB1 ⟨by decide, by decide⟩ (by first | exact ⟨hb.2.1.1, Int.le_trans (Int.le_sub_one_of_lt (Int.lt_of_lt_of_le c5 uz3)) (by decide)⟩ | omega) ?_
            intro z12 lz12 uz12 qz12
            have v37 := cL_a (d := 0) (a := 171) (n := 24) (b := 535) (m := 14) (by decide +kernel) (by decide) qz12 (by omega) rfl
            rw [eJ] at v37
            intro z13 hz13 ez13 bz13
            clear ez13
            have bz13 := bz13 (by omega)
            exact fcutJ (I := I1) (j := (jc_Works_gardenRates_79462_4 I)) (lv' := [(0, .inr (.inr (some 163))), (1, .inl _), (2, .inl _)]) (And.intro rfl (And.intro rfl (And.intro rfl True.intro))) ⟨_, _, rfl, rfl, ⟨by omega, (sm_at (v := z12) hx0 (by omega) (by omega) (sGdr_y (w := y2) (by omega) (by have q := gt_at v17 (show _ = 530 + 14 * y2 by omega); omega) (by have q := gt_at v27 (show _ = 538 + 14 * y2 by omega); omega) (gt_at v37 (by omega))) (by omega))⟩, rfl⟩ (by omega)
  · have hB0 := fB_self (zn := znJ) (K := fKc []) h0
    have b14 := fBd fb_163_13 (fBz h0 hB0)
    exact fcutJ (I := I) (j := (jc_Works_gardenRates_79462_4 I)) (lv' := [(0, .inr (.inr (some 163))), (1, .inl _), (2, .inl _)]) (And.intro rfl (And.intro rfl (And.intro rfl True.intro))) ⟨_, _, rfl, rfl, ⟨by omega, rfl⟩, rfl⟩ (by omega)
abbrev jc_People_needs_d1cfd_4 (I0 : fH) : Nat → fL → List fV → fH → Prop := fun m lv st I => ∃ (y1 : Int) (y2 : Int), lv = [(0, .inr (.inr (some 177))), (1, .inl y1), (2, .inl y2)] ∧ st = [] ∧ (((0 ≤ y1 ∧ y1 ≤ 48) ∧ (0 ≤ y2 ∧ y2 ≤ 24) ∧ (y2 ≤ I0 177 4) ∧ (y1 ≤ 2 * y2) ∧ (0 ≤ y1)) ∧ (y1 = sm (sNds (cR 0 I0)) y2.toNat)) ∧ m = (1 + 1 * (24 - y2) : Int).toNat
set_option maxRecDepth 8000 in
theorem ct_People_needs_d1cfd {I : fH}  (h0 : fB bsJ I)  : fC ρ base n F xTc vwCl xTys D dA la gJ (fbz bsJ znJ (fKc []) I) xm_106 [.inr (.inr (some 177))] I (fun _ r => ∃ z, r = some (.inl z) ∧ (0 ≤ z ∧ z ≤ 48) ∧ (z = sm (sNds (cR 0 I)) (gt (cR 0 I) 8).toNat)) := by
  have hW : fzs [] (fKc []) := fKc_ok _
  refine f_meth (rb := rbJ) (J := [(4, (jc_People_needs_d1cfd_4 I))]) 26 400 xG xin_106 x6_106 okJ (fB_self h0) ?_ ?_
  · refine List.forall_mem_cons.mpr ⟨?_, fun q h => absurd h List.not_mem_nil⟩
    · rintro m _ _ I1 hB1 ⟨y1, y2, rfl, rfl, ⟨hb, hx0⟩, hm⟩
      have eJ : I1 = I := fFr_nil (fFr_of hB1)
      have k1 := fBz_eq hB1 (a := 177) (j := 4) (by decide +kernel)
      have b2 := fBd fb_177_4 (fBz h0 hB1)
      refine And.intro ⟨rfl, by decide, by decide⟩ (fgetf fb_177_4 h0 hB1 ?_)
      intro z3 lz3 uz3 qz3
      have v6 := cL_f (d := 0) (a := 177) (j := 4) (r := 8) (p := 8) (by decide +kernel) (by decide) qz3 rfl
      rw [eJ] at v6
      refine And.intro (And.intro (by first | exact fi_ hb.2.1.1 hb.2.1.2 rfl | omega) (by first | exact fi_ lz3 uz3 rfl | omega)) (And.intro ?_ ?_)
      · intro c4
        refine And.intro (True.intro) ?_
        have w8 := (cL_f (d := 0) (a := 177) (j := 4) (r := 8) (p := 8) (I := I) (z := I 177 4) (by decide +kernel) (by decide) rfl rfl)
        exact ⟨_, rfl, (by first | exact ⟨hb.1.1, hb.1.2⟩ | omega), (sm_fin hx0 (by omega))⟩
      · intro c5
        refine Exists.intro xm_21 (And.intro mi_21 (And.intro ⟨rfl, rfl, rfl, rfl⟩ (And.intro rfl ?_)))
        refine fcallp hB1 (ct_People_isDead_edb17 (fBz h0 hB1) (by first | exact ⟨hb.2.1.1, Int.le_trans (Int.le_sub_one_of_lt (Int.lt_of_lt_of_le c5 uz3)) (by decide)⟩ | omega)) ?_
        rintro _ ⟨z6, rfl, hz6, g0z6⟩
        try rw [eJ] at g0z6
        refine And.intro (by omega) (And.intro ?_ ?_)
        · intro c7
          exact fcutJ (I := I1) (j := (jc_People_needs_d1cfd_4 I)) (lv' := [(0, .inr (.inr (some 177))), (1, .inl _), (2, .inl _)]) (And.intro rfl (And.intro rfl (And.intro rfl True.intro))) ⟨_, _, rfl, rfl, ⟨by omega, (sm_at (v := 0) hx0 (by omega) (by omega) (sNds_d (w := y2) (by omega) (g0z6.elim (fun q => q.2) (fun q => absurd q.1 (by omega))) rfl) (by omega))⟩, rfl⟩ (by omega)
        · intro c8
          refine Exists.intro xm_92 (And.intro mi_92 (And.intro ⟨rfl, rfl, rfl, rfl⟩ (And.intro rfl ?_)))
          refine fcallp hB1 (ct_People_needOf_69fc2 (fBz h0 hB1) (by first | exact ⟨hb.2.1.1, Int.le_trans (Int.le_sub_one_of_lt (Int.lt_of_lt_of_le c5 uz3)) (by decide)⟩ | omega)) ?_
          rintro _ ⟨z9, rfl, hz9, g0z9⟩
          try rw [eJ] at g0z9
          intro z10 hz10 ez10 bz10
          clear ez10
          have bz10 := bz10 (by omega)
          exact fcutJ (I := I1) (j := (jc_People_needs_d1cfd_4 I)) (lv' := [(0, .inr (.inr (some 177))), (1, .inl _), (2, .inl _)]) (And.intro rfl (And.intro rfl (And.intro rfl True.intro))) ⟨_, _, rfl, rfl, ⟨by omega, (sm_at (v := z9) hx0 (by omega) (by omega) (sNds_l (w := y2) (by omega) (g0z6.elim (fun q => absurd q.1 (by omega)) (fun q => q.2)) g0z9) (by omega))⟩, rfl⟩ (by omega)
  · have hB0 := fB_self (zn := znJ) (K := fKc []) h0
    have b11 := fBd fb_177_4 (fBz h0 hB0)
    exact fcutJ (I := I) (j := (jc_People_needs_d1cfd_4 I)) (lv' := [(0, .inr (.inr (some 177))), (1, .inl _), (2, .inl _)]) (And.intro rfl (And.intro rfl (And.intro rfl True.intro))) ⟨_, _, rfl, rfl, ⟨by omega, rfl⟩, rfl⟩ (by omega)
set_option maxRecDepth 8000 in
theorem ct_Charter_mayBeBorn_dcbbd {I : fH}  (h0 : fB bsJ I) (hp0 : okL (cLw 0 I)) : fC ρ base n F xTc vwCl xTys D dA la gJ (fbz bsJ znJ (fKc wz_7d09b) I) xm_104 [.inr (.inr (some 187)), .inr (.inr (some 1))] I (fun I' r => ∃ z, r = some (.inl z) ∧ (0 ≤ z ∧ z ≤ 1) ∧ ((z = 1 ∧ alw (cLw 0 I) 3 (sHr (cR 0 I)) (nmB (cR 0 I))) ∨ (z = 0 ∧ ¬ alw (cLw 0 I) 3 (sHr (cR 0 I)) (nmB (cR 0 I)))) ∧ (cR 0 I' = cR 0 I)) := by
  have hW : fzs wz_7d09b (fKc wz_7d09b) := fKc_ok _
  refine f_meth (rb := rbJ) (J := []) 1 400 xG xin_104 x6_104 okJ (fB_self h0) ?_ ?_
  · exact fun q h => absurd h List.not_mem_nil
  · have hB0 := fB_self (zn := znJ) (K := fKc wz_7d09b) h0
    refine And.intro ⟨rfl, by decide, by decide⟩ ?_
    refine Exists.intro xm_67 (And.intro mi_67 (And.intro ⟨rfl, rfl, rfl, rfl⟩ (And.intro rfl ?_)))
    refine fcallp hB0 (ct_People_living_beea0 (fBz h0 hB0)) ?_
    rintro _ ⟨z1, rfl, hz1, g0z1⟩
    refine Exists.intro xm_30 (And.intro mi_30 (And.intro ⟨rfl, rfl, rfl, rfl⟩ (And.intro rfl ?_)))
    refine fcall _ h0 (fzs_sub (by decide +kernel) hW) hB0 (ct_Charter_put_c2709 (fBz h0 hB0) (by first | exact ⟨by decide, by decide⟩ | omega) (by first | exact ⟨hz1.1, Int.le_trans hz1.2 (by decide)⟩ | omega)) ?_
    rintro IhB3 _ hB3 fhB3 ⟨rfl, hz2, g0z2⟩
    have r10 := cR_fr (d := 0) cZ0_ok fhB3 (by decide +kernel)
    refine And.intro ⟨rfl, by decide, by decide⟩ ?_
    refine Exists.intro xm_105 (And.intro mi_105 (And.intro ⟨rfl, rfl, rfl, rfl⟩ (And.intro rfl ?_)))
    refine fcallp hB3 (ct_Works_gardenRates_79462 (fBz h0 hB3)) ?_
    rintro _ ⟨z4, rfl, hz4, g0z4⟩
    try rw [r10] at g0z4
    refine Exists.intro xm_30 (And.intro mi_30 (And.intro ⟨rfl, rfl, rfl, rfl⟩ (And.intro rfl ?_)))
    refine fcall _ h0 (fzs_sub (by decide +kernel) hW) hB3 (ct_Charter_put_c2709 (fBz h0 hB3) (by first | exact ⟨by decide, by decide⟩ | omega) (by first | exact ⟨hz4.1, hz4.2⟩ | omega)) ?_
    rintro IhB6 _ hB6 fhB6 ⟨rfl, hz5, g0z5⟩
    have r23 := cR_fr (d := 0) cZ0_ok fhB6 (by decide +kernel)
    refine And.intro ⟨rfl, by decide, by decide⟩ ?_
    refine Exists.intro xm_106 (And.intro mi_106 (And.intro ⟨rfl, rfl, rfl, rfl⟩ (And.intro rfl ?_)))
    refine fcallp hB6 (ct_People_needs_d1cfd (fBz h0 hB6)) ?_
    rintro _ ⟨z7, rfl, hz7, g0z7⟩
    try rw [r23, r10] at g0z7
    refine Exists.intro xm_30 (And.intro mi_30 (And.intro ⟨rfl, rfl, rfl, rfl⟩ (And.intro rfl ?_)))
    refine fcall _ h0 (fzs_sub (by decide +kernel) hW) hB6 (ct_Charter_put_c2709 (fBz h0 hB6) (by first | exact ⟨by decide, by decide⟩ | omega) (by first | exact ⟨hz7.1, Int.le_trans hz7.2 (by decide)⟩ | omega)) ?_
    rintro IhB9 _ hB9 fhB9 ⟨rfl, hz8, g0z8⟩
    have r36 := cR_fr (d := 0) cZ0_ok fhB9 (by decide +kernel)
    refine Exists.intro xm_31 (And.intro mi_31 (And.intro ⟨rfl, rfl, rfl, rfl⟩ (And.intro rfl ?_)))
    refine fcallp hB9 (ct_City_level_61deb (fBz h0 hB9)) ?_
    rintro _ ⟨z10, rfl, hz10, g0z10⟩
    try rw [r36, r23, r10] at g0z10
    refine Exists.intro xm_30 (And.intro mi_30 (And.intro ⟨rfl, rfl, rfl, rfl⟩ (And.intro rfl ?_)))
    refine fcall _ h0 (fzs_sub (by decide +kernel) hW) hB9 (ct_Charter_put_c2709 (fBz h0 hB9) (by first | exact ⟨by decide, by decide⟩ | omega) (by first | exact ⟨hz10.1, Int.le_trans hz10.2 (by decide)⟩ | omega)) ?_
    rintro IhB12 _ hB12 fhB12 ⟨rfl, hz11, g0z11⟩
    have r46 := cR_fr (d := 0) cZ0_ok fhB12 (by decide +kernel)
    refine Exists.intro xm_32 (And.intro mi_32 (And.intro ⟨rfl, rfl, rfl, rfl⟩ (And.intro rfl ?_)))
    refine fcallp hB12 (ct_City_hour_b7a7b (fBz h0 hB12)) ?_
    rintro _ ⟨z13, rfl, hz13, g0z13⟩
    try rw [r46, r36, r23, r10] at g0z13
    have eL : cLw 0 IhB12 = cLw 0 I := (cLw_fr lZ0_ok (fFr_of hB12) (by decide +kernel))
    refine Exists.intro xm_33 (And.intro mi_33 (And.intro ⟨rfl, rfl, rfl, rfl⟩ (And.intro rfl ?_)))
    refine fcall _ h0 (fzs_sub (by decide +kernel) hW) hB12 (ct_Charter_allows_3e335 (fBz h0 hB12) (by first | exact ⟨by decide, by decide⟩ | omega) (by first | exact ⟨hz13.1, hz13.2⟩ | omega) (by rw [eL]; exact hp0)) ?_
    rintro IhB15 _ hB15 fhB15 ⟨z14, rfl, hz14, g0z14, g1z14⟩
    refine And.intro (⟨by omega, by omega⟩) ?_
    exact ⟨_, rfl, by omega, (alw_tr g0z14 eL g0z13 hp0 (nmB_c g0z2 g0z5 g0z8 g0z11 (by decide) (by decide) (by decide) (by decide) g0z1 g0z4 g0z7 g0z10)), (cR_fr (d := 0) cZ0_ok (fFr_of hB15) (by decide +kernel))⟩
set_option maxRecDepth 8000 in
theorem ct_X_birth_faa88 {I : fH} {x1 : Int} (h0 : fB bsJ I) (ha1 : ((-2147483648) ≤ x1 ∧ x1 ≤ 2147483647)) (hp0 : okL (cLw 0 I)) : fC ρ base n F xTc vwCl xTys D dA la gJ (fbz bsJ znJ (fKc wz_7e5e0) I) xm_103 [.inr (.inr (some 0)), .inl x1] I (fun I' r => ∃ z, r = some (.inl z) ∧ ((0 ≤ z ∧ z ≤ 23) ∨ z = (-1000000003) ∨ z = (-1000000002) ∨ z = (-1000000001)) ∧ ((cR 0 I', z) = oBirth (cR 0 I) (cLw 0 I) x1)) := by
  have hW : fzs wz_7e5e0 (fKc wz_7e5e0) := fKc_ok _
  refine f_meth (rb := rbJ) (J := []) 1 400 xG xin_103 x6_103 okJ (fB_self h0) ?_ ?_
  · exact fun q h => absurd h List.not_mem_nil
  · have hB0 := fB_self (zn := znJ) (K := fKc wz_7e5e0) h0
    have w905 : I 2 5 = gt (cR 0 I) 5 := (cL_f (d := 0) (a := 2) (j := 5) (r := 5) (p := 5) (I := I) (z := I 2 5) (by decide +kernel) (by decide) rfl rfl)
    refine And.intro ⟨rfl, by decide, by decide⟩ ?_
    refine Exists.intro xm_17 (And.intro mi_17 (And.intro ⟨rfl, rfl, rfl, rfl⟩ (And.intro rfl ?_)))
    refine fcallp hB0 (ct_City_isCell_46f02 (fBz h0 hB0) (by first | exact ⟨ha1.1, ha1.2⟩ | omega)) ?_
    rintro _ ⟨z1, rfl, hz1⟩
    refine And.intro (by omega) (And.intro ?_ ?_)
    · intro c2
      refine And.intro ⟨rfl, by decide, by decide⟩ ?_
      refine And.intro ⟨rfl, by decide, by decide⟩ ?_
      refine Exists.intro xm_104 (And.intro mi_104 (And.intro ⟨rfl, rfl, rfl, rfl⟩ (And.intro rfl ?_)))
      refine fcall _ h0 (fzs_sub (by decide +kernel) hW) hB0 (ct_Charter_mayBeBorn_dcbbd (fBz h0 hB0) hp0) ?_
      rintro IhB4 _ hB4 fhB4 ⟨z3, rfl, hz3, g0z3, g1z3⟩
      refine And.intro (by omega) (And.intro ?_ ?_)
      · intro c5
        refine And.intro (True.intro) ?_
        exact ⟨_, rfl, by omega, (pr_i (by omega) (ci_n (g0z3.elim (fun q => absurd q.1 (by omega)) (fun q => q.2)) (pr_e (by rw [g1z3]) rfl)))⟩
      · intro c6
        refine And.intro ⟨rfl, by decide, by decide⟩ ?_
        refine And.intro ⟨rfl, by decide, by decide⟩ ?_
        refine Exists.intro xm_100 (And.intro mi_100 (And.intro ⟨rfl, rfl, rfl, rfl⟩ (And.intro rfl ?_)))
        refine fcall _ h0 (fzs_sub (by decide +kernel) hW) hB4 (ct_People_addPerson_f57f7 (fBz h0 hB4) (by first | exact ⟨by decide, by decide⟩ | omega) (by first | exact ⟨by decide, by decide⟩ | omega) (by omega)) ?_
        rintro IhB8 _ hB8 fhB8 ⟨z7, rfl, hz7, g0z7⟩
        refine And.intro (True.intro) ?_
        exact ⟨_, rfl, by omega, (pr_i (by omega) (ci_y (g0z3.elim (fun q => q.2) (fun q => absurd q.1 (by omega))) (by rw [g0z7, g1z3]; exact oPers1_0 (by omega) (by omega))))⟩
    · intro c9
      refine And.intro (True.intro) ?_
      exact ⟨_, rfl, by omega, (pr_n (fun q => by omega) rfl)⟩
abbrev jc_M_mayBirth_669a5_16 (I0 : fH) : Nat → fL → List fV → fH → Prop := fun m lv st I => ∃ (y1 : Int) (y2 : Int) (y3 : Int) (y4 : Int) (y5 : Int), lv = [(0, .inr (.inr (some 740))), (1, .inl y1), (2, .inl y2), (3, .inl y3), (4, .inl y4), (5, .inl y5)] ∧ st = [] ∧ ((((-1) ≤ y1 ∧ y1 ≤ 11) ∧ (0 ≤ y2 ∧ y2 ≤ 24) ∧ (0 ≤ y3 ∧ y3 ≤ 48) ∧ (0 ≤ y4 ∧ y4 ≤ 0) ∧ (0 ≤ y5 ∧ y5 ≤ 24) ∧ (y1 < I 741 9) ∧ (y5 ≤ I0 741 8) ∧ (y2 ≤ y5) ∧ (y3 ≤ 2 * y5)) ∧ (y1 = cnT (mLw 741 I0) 3 (sHr (mR I0))) ∧ (y2 = sm (sLiv (mR I0)) y5.toNat) ∧ (y3 = sm (sNds (mR I0)) y5.toNat)) ∧ m = (26 + 1 * (24 - y5) : Int).toNat
abbrev jc_M_mayBirth_669a5_76 (I0 : fH) : Nat → fL → List fV → fH → Prop := fun m lv st I => ∃ (y1 : Int) (y2 : Int) (y3 : Int) (y4 : Int) (y5 : Int), lv = [(0, .inr (.inr (some 740))), (1, .inl y1), (2, .inl y2), (3, .inl y3), (4, .inl y4), (5, .inl y5)] ∧ st = [] ∧ ((((-1) ≤ y1 ∧ y1 ≤ 11) ∧ (0 ≤ y2 ∧ y2 ≤ 24) ∧ (0 ≤ y3 ∧ y3 ≤ 48) ∧ (0 ≤ y4 ∧ y4 ≤ 2399976) ∧ (0 ≤ y5 ∧ y5 ≤ 24) ∧ (y1 < I 741 9) ∧ (y5 ≤ I0 741 7) ∧ (y4 ≤ 99999 * y5)) ∧ (y1 = cnT (mLw 741 I0) 3 (sHr (mR I0))) ∧ (y2 = sm (sLiv (mR I0)) (gt (mR I0) 8).toNat) ∧ (y3 = sm (sNds (mR I0)) (gt (mR I0) 8).toNat) ∧ (y4 = sm (sGdr (mR I0)) y5.toNat)) ∧ m = (1 + 1 * (24 - y5) : Int).toNat
set_option maxRecDepth 8000 in
theorem ct_M_mayBirth_669a5 {I : fH}  (h0 : fB bsJ I) (hp0 : sI I 741) (hp1 : okL (mLw 741 I)) (hp2 : okE 741 I) : fC ρ base n F xTc vwCl xTys D dA la gJ (fbz bsJ znJ (fKc wz_5ef89) I) xm_309 [.inr (.inr (some 740))] I (fun I' r => ∃ z, r = some (.inl z) ∧ (0 ≤ z ∧ z ≤ 1) ∧ ((z = 1 ∧ alw (mLw 741 I) 3 (sHr (mR I)) (nmB (mR I))) ∨ (z = 0 ∧ ¬ alw (mLw 741 I) 3 (sHr (mR I)) (nmB (mR I)))) ∧ (mR I' = mR I)) := by
  have hW : fzs wz_5ef89 (fKc wz_5ef89) := fKc_ok _
  refine f_meth (rb := rbJ) (J := [(16, (jc_M_mayBirth_669a5_16 I)), (76, (jc_M_mayBirth_669a5_76 I))]) 51 400 xG xin_309 x6_309 okJ (fB_self h0) ?_ ?_
  · refine List.forall_mem_cons.mpr ⟨?_, List.forall_mem_cons.mpr ⟨?_, fun q h => absurd h List.not_mem_nil⟩⟩
    · rintro m _ _ I1 hB1 ⟨y1, y2, y3, y4, y5, rfl, rfl, ⟨hb, hx0, hx1, hx2⟩, hm⟩
      have k1 := fBz_eq hB1 (a := 741) (j := 9) (by decide +kernel)
      have k2 := fBz_eq hB1 (a := 741) (j := 8) (by decide +kernel)
      have k3 := fBz_eq hB1 (a := 741) (j := 7) (by decide +kernel)
      have b4 := fBd fb_741_8 (fBz h0 hB1)
      have b5 := fBd fb_741_7 (fBz h0 hB1)
      have eR : mR I1 = mR I := mR_fr (fFr_of hB1) (by decide +kernel)
      skip
      have w8 := (show I 741 8 = gt (mR I) 8 from (mR_ld (I := I) (k := 8) (by decide +kernel)).symm)
      refine And.intro ⟨rfl, by decide, by decide⟩ ?_
      refine fload1 rL_741_741_8_8_1_0 h0 hB1 ⟨by decide, by decide⟩ (by first | exact ⟨by decide, by decide⟩ | omega) ?_
      intro z6 lz6 uz6 qz6
      have pz6 := fld_at qz6 8 (by omega)
      have v24 := mL_r (i0 := 8) (i1 := 8) (m := 1) (q := 0) (by decide +kernel) qz6 (by omega) rfl
      rw [eR] at v24
      refine And.intro (And.intro (by first | exact fi_ hb.2.2.2.2.1.1 hb.2.2.2.2.1.2 rfl | omega) (by first | exact fi_ lz6 uz6 rfl | omega)) (And.intro ?_ ?_)
      · intro c7
        exact fcutJ (I := I1) (j := (jc_M_mayBirth_669a5_76 I)) (lv' := [(0, .inr (.inr (some 740))), (1, .inl _), (2, .inl _), (3, .inl _), (4, .inl _), (5, .inl _)]) (And.intro rfl (And.intro rfl (And.intro rfl (And.intro rfl (And.intro rfl (And.intro rfl True.intro)))))) ⟨_, _, _, _, _, rfl, rfl, ⟨by omega, hx0, (sm_fin hx1 (by omega)), (sm_fin hx2 (by omega)), (by show y4 = 0; omega)⟩, rfl⟩ (by omega)
      · intro c8
        refine Exists.intro xm_248 (And.intro mi_248 (And.intro ⟨rfl, rfl, rfl, rfl⟩ (And.intro rfl ?_)))
        refine fcallp hB1 (ct_M_isDead_21e1a (fBz h0 hB1) (by first | exact ⟨hb.2.2.2.2.1.1, Int.le_trans (Int.le_sub_one_of_lt (Int.lt_of_lt_of_le c8 uz6)) (by decide)⟩ | omega)) ?_
        rintro _ ⟨z9, rfl, hz9, g0z9⟩
        try rw [eR] at g0z9
        refine And.intro (by omega) (And.intro ?_ ?_)
        · intro c10
          intro z11 hz11 ez11 bz11
          clear ez11
          have bz11 := bz11 (by omega)
          refine Exists.intro xm_248 (And.intro mi_248 (And.intro ⟨rfl, rfl, rfl, rfl⟩ (And.intro rfl ?_)))
          refine fcallp hB1 (ct_M_isDead_21e1a (fBz h0 hB1) (by first | exact ⟨hb.2.2.2.2.1.1, Int.le_trans (Int.le_sub_one_of_lt (Int.lt_of_lt_of_le c8 uz6)) (by decide)⟩ | omega)) ?_
          rintro _ ⟨z12, rfl, hz12, g0z12⟩
          try rw [eR] at g0z12
          refine And.intro (by omega) (And.intro ?_ ?_)
          · intro c13
            refine Exists.intro xm_300 (And.intro mi_300 (And.intro ⟨rfl, rfl, rfl, rfl⟩ (And.intro rfl ?_)))
            refine fcallp hB1 (ct_M_need_68cc2 (fBz h0 hB1) (by first | exact ⟨hb.2.2.2.2.1.1, Int.le_trans (Int.le_sub_one_of_lt (Int.lt_of_lt_of_le c8 uz6)) (by decide)⟩ | omega)) ?_
            rintro _ ⟨z14, rfl, hz14, g0z14⟩
            try rw [eR] at g0z14
            intro z15 hz15 ez15 bz15
            clear ez15
            have bz15 := bz15 (by omega)
            exact fcutJ (I := I1) (j := (jc_M_mayBirth_669a5_16 I)) (lv' := [(0, .inr (.inr (some 740))), (1, .inl _), (2, .inl _), (3, .inl _), (4, .inl _), (5, .inl _)]) (And.intro rfl (And.intro rfl (And.intro rfl (And.intro rfl (And.intro rfl (And.intro rfl True.intro)))))) ⟨_, _, _, _, _, rfl, rfl, ⟨by omega, hx0, (sm_at (v := 1) hx1 (by omega) (by omega) (sLiv_l (w := y5) (by omega) (g0z9.elim (fun q => absurd q.1 (by omega)) (fun q => q.2)) rfl) (by omega)), (sm_at (v := z14) hx2 (by omega) (by omega) (sNds_l (w := y5) (by omega) (g0z12.elim (fun q => absurd q.1 (by omega)) (fun q => q.2)) g0z14) (by omega))⟩, rfl⟩ (by omega)
          · intro c16
            intro z17 hz17 ez17 bz17
            clear ez17
            have bz17 := bz17 (by omega)
            exact fcutJ (I := I1) (j := (jc_M_mayBirth_669a5_16 I)) (lv' := [(0, .inr (.inr (some 740))), (1, .inl _), (2, .inl _), (3, .inl _), (4, .inl _), (5, .inl _)]) (And.intro rfl (And.intro rfl (And.intro rfl (And.intro rfl (And.intro rfl (And.intro rfl True.intro)))))) ⟨_, _, _, _, _, rfl, rfl, ⟨by omega, hx0, (sm_at (v := 1) hx1 (by omega) (by omega) (sLiv_l (w := y5) (by omega) (g0z9.elim (fun q => absurd q.1 (by omega)) (fun q => q.2)) rfl) (by omega)), (sm_at (v := 0) hx2 (by omega) (by omega) (sNds_d (w := y5) (by omega) (g0z12.elim (fun q => q.2) (fun q => absurd q.1 (by omega))) rfl) (by omega))⟩, rfl⟩ (by omega)
        · intro c18
          intro z19 hz19 ez19 bz19
          clear ez19
          have bz19 := bz19 (by omega)
          refine Exists.intro xm_248 (And.intro mi_248 (And.intro ⟨rfl, rfl, rfl, rfl⟩ (And.intro rfl ?_)))
          refine fcallp hB1 (ct_M_isDead_21e1a (fBz h0 hB1) (by first | exact ⟨hb.2.2.2.2.1.1, Int.le_trans (Int.le_sub_one_of_lt (Int.lt_of_lt_of_le c8 uz6)) (by decide)⟩ | omega)) ?_
          rintro _ ⟨z20, rfl, hz20, g0z20⟩
          try rw [eR] at g0z20
          refine And.intro (by omega) (And.intro ?_ ?_)
          · intro c21
            refine Exists.intro xm_300 (And.intro mi_300 (And.intro ⟨rfl, rfl, rfl, rfl⟩ (And.intro rfl ?_)))
            refine fcallp hB1 (ct_M_need_68cc2 (fBz h0 hB1) (by first | exact ⟨hb.2.2.2.2.1.1, Int.le_trans (Int.le_sub_one_of_lt (Int.lt_of_lt_of_le c8 uz6)) (by decide)⟩ | omega)) ?_
            rintro _ ⟨z22, rfl, hz22, g0z22⟩
            try rw [eR] at g0z22
            intro z23 hz23 ez23 bz23
            clear ez23
            have bz23 := bz23 (by omega)
            exact fcutJ (I := I1) (j := (jc_M_mayBirth_669a5_16 I)) (lv' := [(0, .inr (.inr (some 740))), (1, .inl _), (2, .inl _), (3, .inl _), (4, .inl _), (5, .inl _)]) (And.intro rfl (And.intro rfl (And.intro rfl (And.intro rfl (And.intro rfl (And.intro rfl True.intro)))))) ⟨_, _, _, _, _, rfl, rfl, ⟨by omega, hx0, (sm_at (v := 0) hx1 (by omega) (by omega) (sLiv_d (w := y5) (by omega) (g0z9.elim (fun q => q.2) (fun q => absurd q.1 (by omega))) rfl) (by omega)), (sm_at (v := z22) hx2 (by omega) (by omega) (sNds_l (w := y5) (by omega) (g0z20.elim (fun q => absurd q.1 (by omega)) (fun q => q.2)) g0z22) (by omega))⟩, rfl⟩ (by omega)
          · intro c24
            intro z25 hz25 ez25 bz25
            clear ez25
            have bz25 := bz25 (by omega)
            exact fcutJ (I := I1) (j := (jc_M_mayBirth_669a5_16 I)) (lv' := [(0, .inr (.inr (some 740))), (1, .inl _), (2, .inl _), (3, .inl _), (4, .inl _), (5, .inl _)]) (And.intro rfl (And.intro rfl (And.intro rfl (And.intro rfl (And.intro rfl (And.intro rfl True.intro)))))) ⟨_, _, _, _, _, rfl, rfl, ⟨by omega, hx0, (sm_at (v := 0) hx1 (by omega) (by omega) (sLiv_d (w := y5) (by omega) (g0z9.elim (fun q => q.2) (fun q => absurd q.1 (by omega))) rfl) (by omega)), (sm_at (v := 0) hx2 (by omega) (by omega) (sNds_d (w := y5) (by omega) (g0z20.elim (fun q => q.2) (fun q => absurd q.1 (by omega))) rfl) (by omega))⟩, rfl⟩ (by omega)
    · rintro m _ _ I1 hB1 ⟨y1, y2, y3, y4, y5, rfl, rfl, ⟨hb, hx0, hx1, hx2, hx3⟩, hm⟩
      have k26 := fBz_eq hB1 (a := 741) (j := 9) (by decide +kernel)
      have k27 := fBz_eq hB1 (a := 741) (j := 8) (by decide +kernel)
      have k28 := fBz_eq hB1 (a := 741) (j := 7) (by decide +kernel)
      have b29 := fBd fb_741_8 (fBz h0 hB1)
      have b30 := fBd fb_741_7 (fBz h0 hB1)
      have eR : mR I1 = mR I := mR_fr (fFr_of hB1) (by decide +kernel)
      skip
      have w7 := (show I 741 7 = gt (mR I) 7 from (mR_ld (I := I) (k := 7) (by decide +kernel)).symm)
      refine And.intro ⟨rfl, by decide, by decide⟩ ?_
      refine fload1 rL_741_741_7_7_1_0 h0 hB1 ⟨by decide, by decide⟩ (by first | exact ⟨by decide, by decide⟩ | omega) ?_
      intro z31 lz31 uz31 qz31
      have pz31 := fld_at qz31 7 (by omega)
      have v84 := mL_r (i0 := 7) (i1 := 7) (m := 1) (q := 0) (by decide +kernel) qz31 (by omega) rfl
      rw [eR] at v84
      refine And.intro (And.intro (by first | exact fi_ hb.2.2.2.2.1.1 hb.2.2.2.2.1.2 rfl | omega) (by first | exact fi_ lz31 uz31 rfl | omega)) (And.intro ?_ ?_)
      · intro c32
        refine And.intro ⟨rfl, by decide, by decide⟩ ?_
        refine fstore1 rS_748_748_0_127_1_0 (fzs_sub (by decide +kernel) hW) ⟨by decide, by decide⟩ (by first | exact ⟨by decide, by decide⟩ | omega) (by first | exact ⟨Int.le_trans (by decide) hb.2.1.1, Int.le_trans hb.2.1.2 (by decide)⟩ | omega) ?_
        intro IhB33 ehB33 hB33
        have t34 := fup_self ehB33
        have t35 : IhB33 741 7 = I1 741 7 := (congrFun (congrFun ehB33 741) 7).trans (fup_ne (by first | decide | omega))
        have t36 := fup_at ehB33 112 (by first | rfl | omega)
        have k37 := fBz_eq hB33 (a := 741) (j := 9) (by decide +kernel)
        have k38 := fBz_eq hB33 (a := 741) (j := 8) (by decide +kernel)
        have k39 := fBz_eq hB33 (a := 741) (j := 7) (by decide +kernel)
        have r142 := mR_ot ehB33 (by decide)
        refine And.intro ⟨rfl, by decide, by decide⟩ ?_
        refine fstore1 rS_748_748_0_127_1_0 (fzs_sub (by decide +kernel) hW) ⟨by decide, by decide⟩ (by first | exact ⟨by decide, by decide⟩ | omega) (by first | exact ⟨Int.le_trans (by decide) hb.2.2.2.1.1, Int.le_trans hb.2.2.2.1.2 (by decide)⟩ | omega) ?_
        intro IhB40 ehB40 hB40
        have t41 := fup_self ehB40
        have t42 : IhB40 741 7 = IhB33 741 7 := (congrFun (congrFun ehB40 741) 7).trans (fup_ne (by first | decide | omega))
        have t43 := fup_at ehB40 111 (by first | rfl | omega)
        have t44 : IhB40 748 112 = IhB33 748 112 := (congrFun (congrFun ehB40 748) 112).trans (fup_ne (by first | decide | omega))
        have k45 := fBz_eq hB40 (a := 741) (j := 9) (by decide +kernel)
        have k46 := fBz_eq hB40 (a := 741) (j := 8) (by decide +kernel)
        have k47 := fBz_eq hB40 (a := 741) (j := 7) (by decide +kernel)
        have r151 := mR_ot ehB40 (by decide)
        refine And.intro ⟨rfl, by decide, by decide⟩ ?_
        refine fstore1 rS_748_748_0_127_1_0 (fzs_sub (by decide +kernel) hW) ⟨by decide, by decide⟩ (by first | exact ⟨by decide, by decide⟩ | omega) (by first | exact ⟨Int.le_trans (by decide) hb.2.2.1.1, Int.le_trans hb.2.2.1.2 (by decide)⟩ | omega) ?_
        intro IhB48 ehB48 hB48
        have t49 := fup_self ehB48
        have t50 : IhB48 741 7 = IhB40 741 7 := (congrFun (congrFun ehB48 741) 7).trans (fup_ne (by first | decide | omega))
        have t51 : IhB48 748 111 = IhB40 748 111 := (congrFun (congrFun ehB48 748) 111).trans (fup_ne (by first | decide | omega))
        have t52 : IhB48 748 112 = IhB40 748 112 := (congrFun (congrFun ehB48 748) 112).trans (fup_ne (by first | decide | omega))
        have t53 := fup_at ehB48 117 (by first | rfl | omega)
        have k54 := fBz_eq hB48 (a := 741) (j := 9) (by decide +kernel)
        have k55 := fBz_eq hB48 (a := 741) (j := 8) (by decide +kernel)
        have k56 := fBz_eq hB48 (a := 741) (j := 7) (by decide +kernel)
        have r159 := mR_ot ehB48 (by decide)
        have eL : mLw 741 IhB48 = mLw 741 I := (mLw_fr (fFr_of hB48) (by decide +kernel))
        have eQ : mR IhB48 = mR I := mR_fr (fFr_of hB48) (by decide +kernel)
        refine And.intro (by first | exact fi_ hb.1.1 hb.1.2 rfl | omega) (And.intro ?_ ?_)
        · intro c57
          refine And.intro (⟨by decide, by decide⟩) ?_
          exact ⟨_, rfl, (by first | exact ⟨by decide, by decide⟩ | omega), (Or.inl ⟨by omega, alw_m0 hx0 (by omega)⟩), (mR_fr (fFr_of hB48) (by decide +kernel))⟩
        · intro c58
          refine Exists.intro xm_259 (And.intro mi_259 (And.intro ⟨rfl, rfl, rfl, rfl⟩ (And.intro rfl ?_)))
          refine fcall _ h0 (fzs_sub (by decide +kernel) hW) hB48 (ct_M_worked_0bc29 (fBz h0 hB48) (by first | exact ⟨Int.le_trans (by decide) (Int.le_trans (Int.le_refl _) c58), hb.1.2⟩ | omega) (sI_keep hp0 h0 hB48 (by decide +kernel)) (by omega) (by rw [eL]; exact hp1) (okE_fr (fFr_of hB48) (by decide +kernel) hp2) (by rw [eL]; show y1 < I 741 9; omega)) ?_
          rintro IhB60 _ hB60 fhB60 ⟨z59, rfl, hz59, g0z59⟩
          have t61 := fhB60 741 7 (by decide +kernel)
          have k62 := fBz_eq hB60 (a := 741) (j := 9) (by decide +kernel)
          have k63 := fBz_eq hB60 (a := 741) (j := 8) (by decide +kernel)
          have k64 := fBz_eq hB60 (a := 741) (j := 7) (by decide +kernel)
          have r166 := mR_fr fhB60 (by decide +kernel)
          refine And.intro (by first | exact fi_ hz59.1 hz59.2 rfl | omega) (And.intro ?_ ?_)
          · intro c65
            refine And.intro (⟨by omega, by omega⟩) ?_
            exact ⟨_, rfl, by omega, (Or.inr ⟨by omega, fun a => absurd ((alw_w hx0 (by omega) eL hp1 g0z59 (nmB_m eQ (pn_st ehB33 rfl) (pn_st ehB40 rfl) (pn_st ehB48 rfl) hx1 (sm_fin hx3 (by omega)) hx2)).mpr a) (by omega)⟩), (mR_fr (fFr_of hB60) (by decide +kernel))⟩
          · intro c66
            refine And.intro (⟨by decide, by decide⟩) ?_
            exact ⟨_, rfl, (by first | exact ⟨by decide, by decide⟩ | omega), (Or.inl ⟨by omega, (alw_w hx0 (by omega) eL hp1 g0z59 (nmB_m eQ (pn_st ehB33 rfl) (pn_st ehB40 rfl) (pn_st ehB48 rfl) hx1 (sm_fin hx3 (by omega)) hx2)).mp (by omega)⟩), (mR_fr (fFr_of hB60) (by decide +kernel))⟩
      · intro c67
        refine Exists.intro xm_267 (And.intro mi_267 (And.intro ⟨rfl, rfl, rfl, rfl⟩ (And.intro rfl ?_)))
        refine fcallp hB1 (ct_M_kindOf_31275 (fBz h0 hB1) (by first | exact ⟨hb.2.2.2.2.1.1, Int.le_trans (Int.le_sub_one_of_lt (Int.lt_of_lt_of_le c67 uz31)) (by decide)⟩ | omega)) ?_
        rintro _ ⟨z68, rfl, hz68, g0z68, g1z68⟩
        try rw [eR] at g0z68
        try rw [eR] at g1z68
        refine And.intro (And.intro (by first | exact fi_ hz68.1 hz68.2 rfl | omega) (by first | exact ⟨by decide, by decide⟩ | omega)) (And.intro ?_ ?_)
        · intro c69
          intro z70 hz70 ez70 bz70
          clear ez70
          have bz70 := bz70 (by omega)
          exact fcutJ (I := I1) (j := (jc_M_mayBirth_669a5_76 I)) (lv' := [(0, .inr (.inr (some 740))), (1, .inl _), (2, .inl _), (3, .inl _), (4, .inl _), (5, .inl _)]) (And.intro rfl (And.intro rfl (And.intro rfl (And.intro rfl (And.intro rfl (And.intro rfl True.intro)))))) ⟨_, _, _, _, _, rfl, rfl, ⟨by omega, hx0, hx1, hx2, (sm_at (v := 0) hx3 (by omega) (by omega) (sGdr_n (w := y5) (by omega) (Or.inl (by omega)) rfl) (by omega))⟩, rfl⟩ (by omega)
        · intro c71
          refine Exists.intro xm_245 (And.intro mi_245 (And.intro ⟨rfl, rfl, rfl, rfl⟩ (And.intro rfl ?_)))
          refine fcallp hB1 (ct_M_isGone_0de37 (fBz h0 hB1) (by first | exact ⟨hb.2.2.2.2.1.1, Int.le_trans (Int.le_sub_one_of_lt (Int.lt_of_lt_of_le c67 uz31)) (by decide)⟩ | omega)) ?_
          rintro _ ⟨z72, rfl, hz72, g0z72⟩
          try rw [eR] at g0z72
          refine And.intro (by omega) (And.intro ?_ ?_)
          · intro c73
            intro z74 hz74 ez74 bz74
            clear ez74
            have bz74 := bz74 (by omega)
            exact fcutJ (I := I1) (j := (jc_M_mayBirth_669a5_76 I)) (lv' := [(0, .inr (.inr (some 740))), (1, .inl _), (2, .inl _), (3, .inl _), (4, .inl _), (5, .inl _)]) (And.intro rfl (And.intro rfl (And.intro rfl (And.intro rfl (And.intro rfl (And.intro rfl True.intro)))))) ⟨_, _, _, _, _, rfl, rfl, ⟨by omega, hx0, hx1, hx2, (sm_at (v := 0) hx3 (by omega) (by omega) (sGdr_n (w := y5) (by omega) (Or.inr (by omega)) rfl) (by omega))⟩, rfl⟩ (by omega)
          · intro c75
            refine And.intro ⟨rfl, by decide, by decide⟩ ?_
            refine Exists.intro xm_244 (And.intro mi_244 (And.intro ⟨rfl, rfl, rfl, rfl⟩ (And.intro rfl ?_)))
            refine fcallp hB1 (ct_M_workAt_83d38 (fBz h0 hB1) (by first | exact ⟨hb.2.2.2.2.1.1, Int.le_trans (Int.le_sub_one_of_lt (Int.lt_of_lt_of_le c67 uz31)) (by decide)⟩ | omega)) ?_
            rintro _ ⟨_, rfl, rfl⟩
            refine fload rL_741_741_535_857_14_0 h0 hB1 (by omega) ?_
            intro z77 lz77 uz77 qz77
            have v121 := mL_r (i0 := 535) (i1 := 857) (m := 14) (q := 0) (by decide +kernel) qz77 (by omega) rfl
            rw [eR] at v121
            intro z78 hz78 ez78 bz78
            clear ez78
            have bz78 := bz78 (by omega)
            exact fcutJ (I := I1) (j := (jc_M_mayBirth_669a5_76 I)) (lv' := [(0, .inr (.inr (some 740))), (1, .inl _), (2, .inl _), (3, .inl _), (4, .inl _), (5, .inl _)]) (And.intro rfl (And.intro rfl (And.intro rfl (And.intro rfl (And.intro rfl (And.intro rfl True.intro)))))) ⟨_, _, _, _, _, rfl, rfl, ⟨by omega, hx0, hx1, hx2, (sm_at (v := z77) hx3 (by omega) (by omega) (sGdr_y (w := y5) (by omega) (by omega) (by omega) (gt_at v121 (by omega))) (by omega))⟩, rfl⟩ (by omega)
  · have hB0 := fB_self (zn := znJ) (K := fKc wz_5ef89) h0
    have b79 := fBd fb_741_8 (fBz h0 hB0)
    have b80 := fBd fb_741_7 (fBz h0 hB0)
    refine Exists.intro xm_254 (And.intro mi_254 (And.intro ⟨rfl, rfl, rfl, rfl⟩ (And.intro rfl ?_)))
    refine fcallp hB0 (ct_M_counts_1278f (fBz h0 hB0) (by first | exact ⟨by decide, by decide⟩ | omega)) ?_
    rintro _ ⟨z81, rfl, hz81, g0z81⟩
    exact fcutJ (I := I) (j := (jc_M_mayBirth_669a5_16 I)) (lv' := [(0, .inr (.inr (some 740))), (1, .inl _), (2, .inl _), (3, .inl _), (4, .inl _), (5, .inl _)]) (And.intro rfl (And.intro rfl (And.intro rfl (And.intro rfl (And.intro rfl (And.intro rfl True.intro)))))) ⟨_, _, _, _, _, rfl, rfl, ⟨by omega, g0z81, rfl, rfl⟩, rfl⟩ (by omega)
set_option maxRecDepth 8000 in
theorem ct_M_birth_69b9b {I : fH} {x1 : Int} (h0 : fB bsJ I) (ha1 : ((-2147483648) ≤ x1 ∧ x1 ≤ 2147483647)) (hp0 : sI I 741) (hp1 : okL (mLw 741 I)) (hp2 : okE 741 I) : fC ρ base n F xTc vwCl xTys D dA la gJ (fbz bsJ znJ (fKc wz_d6a43) I) xm_308 [.inr (.inr (some 740)), .inl x1] I (fun I' r => ∃ z, r = some (.inl z) ∧ ((0 ≤ z ∧ z ≤ 23) ∨ z = (-1000000003) ∨ z = (-1000000002) ∨ z = (-1000000001)) ∧ ((mR I', z) = oBirth (mR I) (mLw 741 I) x1) ∧ (mNew I I')) := by
  have hW : fzs wz_d6a43 (fKc wz_d6a43) := fKc_ok _
  refine f_meth (rb := rbJ) (J := []) 1 400 xG xin_308 x6_308 okJ (fB_self h0) ?_ ?_
  · exact fun q h => absurd h List.not_mem_nil
  · have hB0 := fB_self (zn := znJ) (K := fKc wz_d6a43) h0
    have w905 : I 741 5 = gt (mR I) 5 := (show I 741 5 = gt (mR I) 5 from (mR_ld (I := I) (k := 5) (by decide +kernel)).symm)
    refine Exists.intro xm_241 (And.intro mi_241 (And.intro ⟨rfl, rfl, rfl, rfl⟩ (And.intro rfl ?_)))
    refine fcallp hB0 (ct_M_isCell_45859 (fBz h0 hB0) (by first | exact ⟨ha1.1, ha1.2⟩ | omega)) ?_
    rintro _ ⟨z1, rfl, hz1⟩
    refine And.intro (by omega) (And.intro ?_ ?_)
    · intro c2
      refine Exists.intro xm_309 (And.intro mi_309 (And.intro ⟨rfl, rfl, rfl, rfl⟩ (And.intro rfl ?_)))
      refine fcall _ h0 (fzs_sub (by decide +kernel) hW) hB0 (ct_M_mayBirth_669a5 (fBz h0 hB0) (sI_keep hp0 h0 hB0 (by decide +kernel)) hp1 hp2) ?_
      rintro IhB4 _ hB4 fhB4 ⟨z3, rfl, hz3, g0z3, g1z3⟩
      refine And.intro (by omega) (And.intro ?_ ?_)
      · intro c5
        refine Exists.intro xm_305 (And.intro mi_305 (And.intro ⟨rfl, rfl, rfl, rfl⟩ (And.intro rfl ?_)))
        refine fcall _ h0 (fzs_sub (by decide +kernel) hW) hB4 (ct_M_person_81c92 (fBz h0 hB4) (by first | exact ⟨by decide, by decide⟩ | omega) (by first | exact ⟨by decide, by decide⟩ | omega) (by first | exact ⟨ha1.1, ha1.2⟩ | omega)) ?_
        rintro IhB7 _ hB7 fhB7 ⟨z6, rfl, hz6, g0z6, g1z6⟩
        refine And.intro (True.intro) ?_
        exact ⟨_, rfl, by omega, (pr_i (by omega) (ci_y (g0z3.elim (fun q => q.2) (fun q => absurd q.1 (by omega))) (by rw [g0z6, g1z3]; exact oPers_1 (by omega) (by omega) (by omega)))), (mNew_fr fhB4 (by decide +kernel) g1z6)⟩
      · intro c8
        refine And.intro (True.intro) ?_
        exact ⟨_, rfl, by omega, (pr_i (by omega) (ci_n (g0z3.elim (fun q => absurd q.1 (by omega)) (fun q => q.2)) (pr_e (by rw [g1z3]) rfl))), (mNew_z fhB4 (by decide +kernel))⟩
    · intro c9
      refine And.intro (True.intro) ?_
      exact ⟨_, rfl, by omega, (pr_n (fun q => by omega) rfl), (fun _ _ => Or.inl rfl)⟩
abbrev jc_Tape_addFour_4538c_3 (x1 : Int) (I0 : fH) : Nat → fL → List fV → fH → Prop := fun m lv st I => ∃ (y1 : Int) (y2 : Int), lv = [(0, .inr (.inr (some 699))), (1, .inl y1), (2, .inl y2)] ∧ st = [] ∧ ((((-2147483648) ≤ y1 ∧ y1 ≤ 2147483647) ∧ ((-8) ≤ y2 ∧ y2 ≤ 24) ∧ (I0 699 1 ≤ 92 → 8 * (I 699 1 - I0 699 1) = 24 - y2) ∧ (y1 = x1) ∧ (I0 699 1 ≤ I 699 1) ∧ (0 ≤ I0 699 1)) ∧ (I0 699 1 ≤ 92 → ∀ j, I 700 j = fbk (I0 700) (I0 699 1) x1 (I 699 1 - I0 699 1) j)) ∧ m = (1 + 1 * (y2 - (-8)) : Int).toNat
set_option maxRecDepth 8000 in
theorem ct_Tape_addFour_4538c {I : fH} {x1 : Int} (h0 : fB bsJ I) (ha1 : ((-2147483648) ≤ x1 ∧ x1 ≤ 2147483647)) : fC ρ base n F xTc vwCl xTys D dA la gJ (fbz bsJ znJ (fKc wz_b3a7d) I) xm_109 [.inr (.inr (some 699)), .inl x1] I (fun I' r => r = none ∧ (I 699 1 ≤ 92 → I' 699 1 = I 699 1 + 4) ∧ (I 699 1 ≤ 92 → ∀ j, I' 700 j = fbk (I 700) (I 699 1) x1 4 j)) := by
  have hW : fzs wz_b3a7d (fKc wz_b3a7d) := fKc_ok _
  refine f_meth (rb := rbJ) (J := [(3, (jc_Tape_addFour_4538c_3 x1 I))]) 34 400 xG xin_109 x6_109 okJ (fB_self h0) ?_ ?_
  · refine List.forall_mem_cons.mpr ⟨?_, fun q h => absurd h List.not_mem_nil⟩
    · rintro m _ _ I1 hB1 ⟨y1, y2, rfl, rfl, ⟨hb, hx0⟩, hm⟩
      have b1 := fBd fb_699_1 (fBz h0 hB1)
      have ey1 : x1 = y1 := by omega
      subst ey1
      refine And.intro (by first | exact fi_ hb.2.1.1 hb.2.1.2 rfl | omega) (And.intro ?_ ?_)
      · intro c2
        exact ⟨rfl, by omega, (fun q => by have r3 : I1 699 1 - I 699 1 = 4 := (by omega); have h := hx0 q; rw [r3] at h; exact h)⟩
      · intro c3
        refine And.intro ⟨rfl, by decide, by decide⟩ (fgetf fb_699_1 h0 hB1 ?_)
        intro z4 lz4 uz4 qz4
        refine And.intro (And.intro (by first | exact fi_ lz4 uz4 rfl | omega) (by first | exact ⟨by decide, by decide⟩ | omega)) (And.intro ?_ ?_)
        · intro c5
          exact ⟨rfl, by omega, (fun q => by have r3 : I1 699 1 - I 699 1 = 4 := (by omega); have h := hx0 q; rw [r3] at h; exact h)⟩
        · intro c6
          refine And.intro ⟨rfl, by decide, by decide⟩ ?_
          refine And.intro ⟨rfl, by decide, by decide⟩ (fgetf fb_699_1 h0 hB1 ?_)
          intro z7 lz7 uz7 qz7
          intro z8 hz8 ez8
          intro z9 hz9 ez9 bz9
          have bz9 := bz9 (by omega)
          refine fstore rS_700_700_0_95_1_0 (fzs_sub (by decide +kernel) hW) (by omega) (by first | exact ⟨bz9.1, bz9.2⟩ | omega) ?_
          intro IhB10 ehB10 hB10
          have t11 := fup_self ehB10
          have t12 : IhB10 699 1 = I1 699 1 := (congrFun (congrFun ehB10 699) 1).trans (fup_ne (by first | exact Or.inl (by decide) | omega))
          refine And.intro ⟨rfl, by decide, by decide⟩ (fgetf fb_699_1 h0 hB10 ?_)
          intro z13 lz13 uz13 qz13
          refine And.intro ⟨rfl, by decide, by decide⟩ (And.intro rfl (And.intro (Or.inl rfl) (fputf fb_699_1 (by decide +kernel) hW (by omega) ?_)))
          intro IhB14 ehB14 hB14
          have t15 := fup_at ehB14 1 (by first | rfl | omega)
          exact fcutJ (I := IhB14) (j := (jc_Tape_addFour_4538c_3 x1 I)) (lv' := [(0, .inr (.inr (some 699))), (1, .inl _), (2, .inl _)]) (And.intro rfl (And.intro rfl (And.intro rfl True.intro))) ⟨_, _, rfl, rfl, ⟨by omega, (fun q => by have r3 : 8 * (I1 699 1 - I 699 1) = 24 - y2 := (by omega); exact fbk_go (hx0 q) (by omega) (by omega) (by omega) ehB10 ehB14 (by decide) (by omega) (by omega) ez8 (by omega) ez9)⟩, rfl⟩ (by omega)
  · have hB0 := fB_self (zn := znJ) (K := fKc wz_b3a7d) h0
    have b16 := fBd fb_699_1 (fBz h0 hB0)
    exact fcutJ (I := I) (j := (jc_Tape_addFour_4538c_3 x1 I)) (lv' := [(0, .inr (.inr (some 699))), (1, .inl _), (2, .inl _)]) (And.intro rfl (And.intro rfl (And.intro rfl True.intro))) ⟨_, _, rfl, rfl, ⟨by omega, (fun _ => fbk_0 (by omega))⟩, rfl⟩ (by omega)
end CT

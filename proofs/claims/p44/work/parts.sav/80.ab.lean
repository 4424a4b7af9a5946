set_option linter.all false
/-! contracts (written by gen95.py) -/
theorem x6_257 : f60c xTc xTys xm_257 = true := by decide +kernel
theorem rL_741_741_0_0_1_0 : frL gJ bsJ 100 ((741, 741), (0, 0), (1, 0), (0, 22000)) := frL_of (by decide +kernel)
theorem x6_256 : f60c xTc xTys xm_256 = true := by decide +kernel
theorem rL_741_741_1211_3411_200_0 : frL gJ bsJ 100 ((741, 741), (1211, 3411), (200, 0), ((-2147483648), 2147483647)) := frL_hull (by decide) (by decide +kernel)
theorem rL_741_741_1212_3412_200_0 : frL gJ bsJ 100 ((741, 741), (1212, 3412), (200, 0), ((-2147483648), 2147483647)) := frL_hull (by decide) (by decide +kernel)
theorem x6_254 : f60c xTc xTys xm_254 = true := by decide +kernel
theorem fb_741_9 : bsJ 741 9 = (0, 12) := by decide +kernel
theorem rL_741_741_9_9_1_0 : frL gJ bsJ 100 ((741, 741), (9, 9), (1, 0), (0, 12)) := frL_of (by decide +kernel)
theorem rL_741_741_1210_3410_200_0 : frL gJ bsJ 100 ((741, 741), (1210, 3410), (200, 0), ((-2147483648), 2147483647)) := frL_hull (by decide) (by decide +kernel)
abbrev wz_3c4d3 : List Nat := [748]
theorem x6_258 : f60c xTc xTys xm_258 = true := by decide +kernel
theorem rL_741_741_870_1008_6_0 : frL gJ bsJ 100 ((741, 741), (870, 1008), (6, 0), (0, 99)) := frL_of (by decide +kernel)
theorem rL_741_741_871_1009_6_0 : frL gJ bsJ 100 ((741, 741), (871, 1009), (6, 0), (0, 3)) := frL_of (by decide +kernel)
theorem x6_253 : f60c xTc xTys xm_253 = true := by decide +kernel
theorem x6_252 : f60c xTc xTys xm_252 = true := by decide +kernel
abbrev wz_4080a : List Nat := [748, 749, 20203]
theorem x6_250 : f60c xTc xTys xm_250 = true := by decide +kernel
abbrev wz_ba6ab : List Nat := [182]
theorem rL_182_182_0_5_1_0 : frL gJ bsJ 100 ((182, 182), (0, 5), (1, 0), (0, 999999)) := frL_of (by decide +kernel)
theorem rS_182_182_0_5_1_0 : frS gJ bsJ znJ [182] 100 ((182, 182), (0, 5), (1, 0), (0, 999999)) := frS_of (by decide +kernel)
theorem x6_39 : f60c xTc xTys xm_39 = true := by decide +kernel
abbrev wz_77ac1 : List Nat := [20017, 20018, 20019, 20020, 20021, 20022]
theorem rL_741_741_17_22_1_0 : frL gJ bsJ 100 ((741, 741), (17, 22), (1, 0), (0, 999999)) := frL_of (by decide +kernel)
theorem rS_741_741_17_22_1_0 : frS gJ bsJ znJ [20017, 20018, 20019, 20020, 20021, 20022] 100 ((741, 741), (17, 22), (1, 0), (0, 999999)) := frS_of (by decide +kernel)
theorem x6_262 : f60c xTc xTys xm_262 = true := by decide +kernel
abbrev wz_d3fe1 : List Nat := [5, 182]
theorem x6_40 : f60c xTc xTys xm_40 = true := by decide +kernel
abbrev wz_a3123 : List Nat := [20017, 20018, 20019, 20020, 20021, 20022, 20101, 20102, 20103, 20104, 20105]
theorem x6_263 : f60c xTc xTys xm_263 = true := by decide +kernel
abbrev wz_53189 : List Nat := [164, 165, 166, 167, 168, 169, 170, 171, 172, 173, 174, 175, 176, 10313]
theorem x6_43 : f60c xTc xTys xm_43 = true := by decide +kernel
theorem rS_164_164_0_23_1_0 : frS gJ bsJ znJ [164] 100 ((164, 164), (0, 23), (1, 0), (0, 6)) := frS_of (by decide +kernel)
theorem rS_165_165_0_23_1_0 : frS gJ bsJ znJ [165] 100 ((165, 165), (0, 23), (1, 0), (0, 19)) := frS_of (by decide +kernel)
theorem rS_166_166_0_23_1_0 : frS gJ bsJ znJ [166] 100 ((166, 166), (0, 23), (1, 0), (0, 9999)) := frS_of (by decide +kernel)
theorem rS_167_167_0_23_1_0 : frS gJ bsJ znJ [167] 100 ((167, 167), (0, 23), (1, 0), (0, 1)) := frS_of (by decide +kernel)
theorem rS_168_168_0_23_1_0 : frS gJ bsJ znJ [168] 100 ((168, 168), (0, 23), (1, 0), (0, 100)) := frS_of (by decide +kernel)
theorem rS_169_169_0_23_1_0 : frS gJ bsJ znJ [169] 100 ((169, 169), (0, 23), (1, 0), (0, 99)) := frS_of (by decide +kernel)
theorem rS_170_170_0_23_1_0 : frS gJ bsJ znJ [170] 100 ((170, 170), (0, 23), (1, 0), ((-2147483648), 2147483647)) := frS_dflt (by decide) (by decide +kernel)
theorem rS_171_171_0_23_1_0 : frS gJ bsJ znJ [171] 100 ((171, 171), (0, 23), (1, 0), (0, 99999)) := frS_of (by decide +kernel)
theorem rS_172_172_0_23_1_0 : frS gJ bsJ znJ [172] 100 ((172, 172), (0, 23), (1, 0), (0, 99999)) := frS_of (by decide +kernel)
theorem rS_173_173_0_23_1_0 : frS gJ bsJ znJ [173] 100 ((173, 173), (0, 23), (1, 0), (0, 99)) := frS_of (by decide +kernel)
theorem rS_174_174_0_23_1_0 : frS gJ bsJ znJ [174] 100 ((174, 174), (0, 23), (1, 0), (0, 1)) := frS_of (by decide +kernel)
theorem rS_175_175_0_23_1_0 : frS gJ bsJ znJ [175] 100 ((175, 175), (0, 23), (1, 0), ((-1000000005), 60)) := frS_of (by decide +kernel)
theorem rS_176_176_0_23_1_0 : frS gJ bsJ znJ [176] 100 ((176, 176), (0, 23), (1, 0), ((-2147483648), 2147483647)) := frS_dflt (by decide) (by decide +kernel)
theorem x6_42 : f60c xTc xTys xm_42 = true := by decide +kernel
theorem rL_164_164_0_23_1_0 : frL gJ bsJ 100 ((164, 164), (0, 23), (1, 0), (0, 6)) := frL_of (by decide +kernel)
theorem x6_41 : f60c xTc xTys xm_41 = true := by decide +kernel
theorem x6_266 : f60c xTc xTys xm_266 = true := by decide +kernel
theorem x6_267 : f60c xTc xTys xm_267 = true := by decide +kernel
theorem rL_741_741_530_852_14_0 : frL gJ bsJ 100 ((741, 741), (530, 852), (14, 0), (0, 6)) := frL_of (by decide +kernel)
theorem x6_265 : f60c xTc xTys xm_265 = true := by decide +kernel
abbrev wz_6345f : List Nat := [20007, 20300, 20301, 20302, 20303, 20304, 20305, 20306, 20307, 20308, 20309, 20310, 20311, 20312, 20313]
theorem x6_264 : f60c xTc xTys xm_264 = true := by decide +kernel
theorem rS_741_741_530_852_14_0 : frS gJ bsJ znJ [20300] 100 ((741, 741), (530, 852), (14, 0), (0, 6)) := frS_of (by decide +kernel)
theorem rS_741_741_531_853_14_0 : frS gJ bsJ znJ [20301] 100 ((741, 741), (531, 853), (14, 0), (0, 19)) := frS_of (by decide +kernel)
theorem rS_741_741_532_854_14_0 : frS gJ bsJ znJ [20302] 100 ((741, 741), (532, 854), (14, 0), (0, 9999)) := frS_of (by decide +kernel)
theorem rS_741_741_533_855_14_0 : frS gJ bsJ znJ [20303] 100 ((741, 741), (533, 855), (14, 0), (0, 1)) := frS_of (by decide +kernel)
theorem rS_741_741_535_857_14_0 : frS gJ bsJ znJ [20305] 100 ((741, 741), (535, 857), (14, 0), (0, 99999)) := frS_of (by decide +kernel)
theorem rS_741_741_536_858_14_0 : frS gJ bsJ znJ [20306] 100 ((741, 741), (536, 858), (14, 0), (0, 99999)) := frS_of (by decide +kernel)
theorem rS_741_741_539_861_14_0 : frS gJ bsJ znJ [20309] 100 ((741, 741), (539, 861), (14, 0), ((-1), 60)) := frS_of (by decide +kernel)
theorem rS_741_741_7_7_1_0 : frS gJ bsJ znJ [20007] 100 ((741, 741), (7, 7), (1, 0), (0, 24)) := frS_of (by decide +kernel)
theorem rS_741_741_530_865_14_13 : frS gJ bsJ znJ [20300, 20301, 20302, 20303, 20304, 20305, 20306, 20307, 20308, 20309, 20310, 20311, 20312, 20313] 100 ((741, 741), (530, 865), (14, 13), (0, 1)) := frS_of (by decide +kernel)
theorem x6_45 : f60c xTc xTys xm_45 = true := by decide +kernel
theorem x6_46 : f60c xTc xTys xm_46 = true := by decide +kernel
theorem rL_166_166_0_23_1_0 : frL gJ bsJ 100 ((166, 166), (0, 23), (1, 0), (0, 9999)) := frL_of (by decide +kernel)
theorem rL_167_167_0_23_1_0 : frL gJ bsJ 100 ((167, 167), (0, 23), (1, 0), (0, 1)) := frL_of (by decide +kernel)
theorem rL_168_168_0_23_1_0 : frL gJ bsJ 100 ((168, 168), (0, 23), (1, 0), (0, 100)) := frL_of (by decide +kernel)
theorem rL_171_171_0_23_1_0 : frL gJ bsJ 100 ((171, 171), (0, 23), (1, 0), (0, 99999)) := frL_of (by decide +kernel)
theorem rL_172_172_0_23_1_0 : frL gJ bsJ 100 ((172, 172), (0, 23), (1, 0), (0, 99999)) := frL_of (by decide +kernel)
theorem rL_173_173_0_23_1_0 : frL gJ bsJ 100 ((173, 173), (0, 23), (1, 0), (0, 99)) := frL_of (by decide +kernel)
theorem rL_175_175_0_23_1_0 : frL gJ bsJ 100 ((175, 175), (0, 23), (1, 0), ((-1000000005), 60)) := frL_of (by decide +kernel)
theorem rL_176_176_0_23_1_0 : frL gJ bsJ 100 ((176, 176), (0, 23), (1, 0), ((-2147483648), 2147483647)) := frL_hull (by decide) (by decide +kernel)
theorem x6_44 : f60c xTc xTys xm_44 = true := by decide +kernel
theorem x6_269 : f60c xTc xTys xm_269 = true := by decide +kernel
theorem x6_268 : f60c xTc xTys xm_268 = true := by decide +kernel
theorem rL_741_741_530_862_14_10 : frL gJ bsJ 100 ((741, 741), (530, 862), (14, 10), ((-2147483648), 2147483647)) := frL_hull (by decide) (by decide +kernel)
theorem x6_48 : f60c xTc xTys xm_48 = true := by decide +kernel
theorem x6_47 : f60c xTc xTys xm_47 = true := by decide +kernel
theorem x6_270 : f60c xTc xTys xm_270 = true := by decide +kernel
theorem rL_741_741_535_857_14_0 : frL gJ bsJ 100 ((741, 741), (535, 857), (14, 0), (0, 99999)) := frL_of (by decide +kernel)
theorem x6_50 : f60c xTc xTys xm_50 = true := by decide +kernel
abbrev wz_31db8 : List Nat := [167]
abbrev wz_b92a7 : List Nat := [169]
theorem rL_169_169_0_23_1_0 : frL gJ bsJ 100 ((169, 169), (0, 23), (1, 0), (0, 99)) := frL_of (by decide +kernel)
abbrev wz_451e1 : List Nat := [167, 169]
theorem x6_49 : f60c xTc xTys xm_49 = true := by decide +kernel
abbrev wz_4cdea : List Nat := [20301, 20303, 20305, 20307, 20309, 20311, 20313]
theorem rS_741_741_541_863_14_0 : frS gJ bsJ znJ [20311] 100 ((741, 741), (541, 863), (14, 0), (0, 99)) := frS_of (by decide +kernel)
theorem x6_271 : f60c xTc xTys xm_271 = true := by decide +kernel
abbrev wz_5fd86 : List Nat := [168]
theorem x6_51 : f60c xTc xTys xm_51 = true := by decide +kernel
abbrev wz_38a0a : List Nat := [20304]
theorem rL_741_741_534_856_14_0 : frL gJ bsJ 100 ((741, 741), (534, 856), (14, 0), (0, 100)) := frL_of (by decide +kernel)
theorem rS_741_741_534_856_14_0 : frS gJ bsJ znJ [20304] 100 ((741, 741), (534, 856), (14, 0), (0, 100)) := frS_of (by decide +kernel)
theorem x6_272 : f60c xTc xTys xm_272 = true := by decide +kernel
abbrev wz_9fac9 : List Nat := [171, 182]
theorem x6_52 : f60c xTc xTys xm_52 = true := by decide +kernel
section CT
variable {ρ : Nat → Int32} {base n : Nat} {F : Nat → Prop} {D : va_G} {dA : Nat → ClassId} {la : Launch}
set_option maxRecDepth 8000 in
theorem ct_M_hour_9a688 {I : fH}  (h0 : fB bsJ I)  : fC ρ base n F xTc vwCl xTys D dA la gJ (fbz bsJ znJ (fKc []) I) xm_257 [.inr (.inr (some 740))] I (fun _ r => ∃ z, r = some (.inl z) ∧ (0 ≤ z ∧ z ≤ 366) ∧ (z = sHr (mR I))) := by
  have hW : fzs [] (fKc []) := fKc_ok _
  refine f_meth (rb := rbJ) (J := []) 1 400 xG xin_257 x6_257 okJ (fB_self h0) ?_ ?_
  · exact fun q h => absurd h List.not_mem_nil
  · have hB0 := fB_self (zn := znJ) (K := fKc []) h0
    refine And.intro ⟨rfl, by decide, by decide⟩ ?_
    refine fload1 rL_741_741_0_0_1_0 h0 hB0 ⟨by decide, by decide⟩ (by first | exact ⟨by decide, by decide⟩ | omega) ?_
    intro z1 lz1 uz1 qz1
    have pz1 := fld_at qz1 0 (by omega)
    have v5 := mL_r (i0 := 0) (i1 := 0) (m := 1) (q := 0) (by decide +kernel) qz1 (by omega) rfl
    refine And.intro (And.intro (by first | exact fi_ lz1 uz1 rfl | omega) (And.intro (by first | exact ⟨by decide, by decide⟩ | omega) (And.intro (by first | exact by decide | omega) rfl))) ?_
    intro z2 hz2 ez2 dz2
    have dz2 := dz2 (by omega) (by omega)
    change _ = _ / _ at dz2
    refine And.intro (True.intro) ?_
    exact ⟨_, rfl, by omega, (sHr_m v5 (by omega) (by omega) (by omega))⟩
set_option maxRecDepth 8000 in
theorem ct_M_isInForce_508bf {I : fH} {x1 : Int} (h0 : fB bsJ I) (ha1 : (0 ≤ x1 ∧ x1 ≤ 11)) (hp0 : x1 < (mLw 741 I).n) : fC ρ base n F xTc vwCl xTys D dA la gJ (fbz bsJ znJ (fKc []) I) xm_256 [.inr (.inr (some 740)), .inl x1] I (fun _ r => ∃ z, r = some (.inl z) ∧ (0 ≤ z ∧ z ≤ 1) ∧ ((z = 1 ∧ (0 ≤ (mLw 741 I).fld x1.toNat 1 ∧ (mLw 741 I).fld x1.toNat 1 ≤ sHr (mR I) ∧ ((mLw 741 I).fld x1.toNat 2 < 0 ∨ sHr (mR I) < (mLw 741 I).fld x1.toNat 2))) ∨ (z = 0 ∧ ¬ (0 ≤ (mLw 741 I).fld x1.toNat 1 ∧ (mLw 741 I).fld x1.toNat 1 ≤ sHr (mR I) ∧ ((mLw 741 I).fld x1.toNat 2 < 0 ∨ sHr (mR I) < (mLw 741 I).fld x1.toNat 2))))) := by
  have hW : fzs [] (fKc []) := fKc_ok _
  refine f_meth (rb := rbJ) (J := []) 1 400 xG xin_256 x6_256 okJ (fB_self h0) ?_ ?_
  · exact fun q h => absurd h List.not_mem_nil
  · have hB0 := fB_self (zn := znJ) (K := fKc []) h0
    refine Exists.intro xm_255 (And.intro mi_255 (And.intro ⟨rfl, rfl, rfl, rfl⟩ (And.intro rfl ?_)))
    refine fcallp hB0 (ct_M_textAt_ea474 (fBz h0 hB0) (by first | exact ⟨ha1.1, ha1.2⟩ | omega)) ?_
    rintro _ ⟨_, rfl, rfl⟩
    refine And.intro ⟨rfl, by decide, by decide⟩ ?_
    refine fload rL_741_741_1211_3411_200_0 h0 hB0 (by omega) ?_
    intro z2 lz2 uz2 qz2
    have f13 := mF_k (s := 741) (t := x1) (k := 1) (fld_at qz2 (1211 + 200 * x1.toNat) (by omega)) (by omega) (by omega) (by omega) hp0
    refine And.intro (by first | exact fi_ lz2 uz2 rfl | omega) (And.intro ?_ ?_)
    · intro c3
      refine And.intro (⟨by omega, by omega⟩) ?_
      exact ⟨_, rfl, by omega, (by omega)⟩
    · intro c4
      refine And.intro ⟨rfl, by decide, by decide⟩ ?_
      refine fload rL_741_741_1211_3411_200_0 h0 hB0 (by omega) ?_
      intro z5 lz5 uz5 qz5
      have f24 := mF_k (s := 741) (t := x1) (k := 1) (fld_at qz5 (1211 + 200 * x1.toNat) (by omega)) (by omega) (by omega) (by omega) hp0
      refine Exists.intro xm_257 (And.intro mi_257 (And.intro ⟨rfl, rfl, rfl, rfl⟩ (And.intro rfl ?_)))
      refine fcallp hB0 (ct_M_hour_9a688 (fBz h0 hB0)) ?_
      rintro _ ⟨z6, rfl, hz6, g0z6⟩
      refine And.intro (And.intro (by first | exact fi_ lz5 uz5 rfl | omega) (by first | exact fi_ hz6.1 hz6.2 rfl | omega)) (And.intro ?_ ?_)
      · intro c7
        refine And.intro (⟨by omega, by omega⟩) ?_
        exact ⟨_, rfl, by omega, (by omega)⟩
      · intro c8
        refine And.intro ⟨rfl, by decide, by decide⟩ ?_
        refine fload rL_741_741_1212_3412_200_0 h0 hB0 (by omega) ?_
        intro z9 lz9 uz9 qz9
        have f39 := mF_k (s := 741) (t := x1) (k := 2) (fld_at qz9 (1212 + 200 * x1.toNat) (by omega)) (by omega) (by omega) (by omega) hp0
        refine And.intro (by first | exact fi_ lz9 uz9 rfl | omega) (And.intro ?_ ?_)
        · intro c10
          refine And.intro (⟨by decide, by decide⟩) ?_
          exact ⟨_, rfl, (by first | exact ⟨by decide, by decide⟩ | omega), (by omega)⟩
        · intro c11
          refine And.intro ⟨rfl, by decide, by decide⟩ ?_
          refine fload rL_741_741_1212_3412_200_0 h0 hB0 (by omega) ?_
          intro z12 lz12 uz12 qz12
          refine Exists.intro xm_257 (And.intro mi_257 (And.intro ⟨rfl, rfl, rfl, rfl⟩ (And.intro rfl ?_)))
          refine fcallp hB0 (ct_M_hour_9a688 (fBz h0 hB0)) ?_
          rintro _ ⟨z13, rfl, hz13, g0z13⟩
          refine And.intro (And.intro (by first | exact fi_ lz12 uz12 rfl | omega) (by first | exact fi_ hz13.1 hz13.2 rfl | omega)) (And.intro ?_ ?_)
          · intro c14
            refine And.intro (⟨by omega, by omega⟩) ?_
            exact ⟨_, rfl, by omega, (by omega)⟩
          · intro c15
            refine And.intro (⟨by decide, by decide⟩) ?_
            exact ⟨_, rfl, (by first | exact ⟨by decide, by decide⟩ | omega), (by omega)⟩
abbrev jc_M_counts_1278f_4 (x1 : Int) (I0 : fH) : Nat → fL → List fV → fH → Prop := fun m lv st I => ∃ (y1 : Int) (y2 : Int) (y3 : Int), lv = [(0, .inr (.inr (some 740))), (1, .inl y1), (2, .inl y2), (3, .inl y3)] ∧ st = [] ∧ (((0 ≤ y1 ∧ y1 ≤ 5) ∧ ((-1) ≤ y2 ∧ y2 ≤ 11) ∧ (0 ≤ y3 ∧ y3 ≤ 12) ∧ (y2 < I 741 9) ∧ (y1 = x1) ∧ (y3 ≤ I0 741 9)) ∧ (y2 = cnL (mLw 741 I0) x1 (sHr (mR I0)) y3.toNat)) ∧ m = (1 + 1 * (12 - y3) : Int).toNat
set_option maxRecDepth 8000 in
theorem ct_M_counts_1278f {I : fH} {x1 : Int} (h0 : fB bsJ I) (ha1 : (0 ≤ x1 ∧ x1 ≤ 5)) : fC ρ base n F xTc vwCl xTys D dA la gJ (fbz bsJ znJ (fKc []) I) xm_254 [.inr (.inr (some 740)), .inl x1] I (fun _ r => ∃ z, r = some (.inl z) ∧ (((-1) ≤ z ∧ z ≤ 11) ∧ (z < I 741 9)) ∧ (z = cnT (mLw 741 I) x1 (sHr (mR I)))) := by
  have hW : fzs [] (fKc []) := fKc_ok _
  refine f_meth (rb := rbJ) (J := [(4, (jc_M_counts_1278f_4 x1 I))]) 14 400 xG xin_254 x6_254 okJ (fB_self h0) ?_ ?_
  · refine List.forall_mem_cons.mpr ⟨?_, fun q h => absurd h List.not_mem_nil⟩
    · rintro m _ _ I1 hB1 ⟨y1, y2, y3, rfl, rfl, ⟨hb, hx0⟩, hm⟩
      have eJ : I1 = I := fFr_nil (fFr_of hB1)
      have k1 := fBz_eq hB1 (a := 741) (j := 9) (by decide +kernel)
      have k2 := fBz_eq hB1 (a := 741) (j := 9) (by decide +kernel)
      have b3 := fBd fb_741_9 (fBz h0 hB1)
      have b4 := fBd fb_741_9 (fBz h0 hB1)
      refine And.intro ⟨rfl, by decide, by decide⟩ ?_
      refine fload1 rL_741_741_9_9_1_0 h0 hB1 ⟨by decide, by decide⟩ (by first | exact ⟨by decide, by decide⟩ | omega) ?_
      intro z5 lz5 uz5 qz5
      have pz5 := fld_at qz5 9 (by omega)
      refine And.intro (And.intro (by first | exact fi_ hb.2.2.1.1 hb.2.2.1.2 rfl | omega) (by first | exact fi_ lz5 uz5 rfl | omega)) (And.intro ?_ ?_)
      · intro c6
        refine And.intro (True.intro) ?_
        exact ⟨_, rfl, by omega, (cnL_z hx0 (by show y3 = I 741 9; omega) (by omega))⟩
      · intro c7
        refine And.intro ⟨rfl, by decide, by decide⟩ ?_
        refine Exists.intro xm_255 (And.intro mi_255 (And.intro ⟨rfl, rfl, rfl, rfl⟩ (And.intro rfl ?_)))
        refine fcallp hB1 (ct_M_textAt_ea474 (fBz h0 hB1) (by first | exact ⟨hb.2.2.1.1, Int.le_trans (Int.le_sub_one_of_lt (Int.lt_of_lt_of_le c7 uz5)) (by decide)⟩ | omega)) ?_
        rintro _ ⟨_, rfl, rfl⟩
        refine fload rL_741_741_1210_3410_200_0 h0 hB1 (by omega) ?_
        intro z9 lz9 uz9 qz9
        have f26 := mF_k (s := 741) (t := y3) (k := 0) ((fld_at qz9 (1210 + 200 * y3.toNat) (by omega)).trans (congrFun (congrFun (fFr_nil (fFr_of hB1)) 741) _)) (by omega) (by omega) (by omega) (by show y3 < I 741 9; omega)
        refine And.intro (And.intro (by first | exact fi_ lz9 uz9 rfl | omega) (by first | exact fi_ hb.1.1 hb.1.2 rfl | omega)) (And.intro ?_ ?_)
        · intro c10
          refine And.intro (by omega) (And.intro ?_ ?_)
          · intro c11
            exact fcutJ (I := I1) (j := (jc_M_counts_1278f_4 x1 I)) (lv' := [(0, .inr (.inr (some 740))), (1, .inl _), (2, .inl _), (3, .inl _)]) (And.intro rfl (And.intro rfl (And.intro rfl (And.intro rfl True.intro)))) ⟨_, _, _, rfl, rfl, ⟨by omega, (cnL_n hx0 (by omega) (by omega) (fun q => by have q1 := q.1; omega))⟩, rfl⟩ (by omega)
          · intro c12
            refine And.intro (by first | exact fi_ hb.2.1.1 hb.2.1.2 rfl | omega) (And.intro ?_ ?_)
            · intro c13
              exact fcutJ (I := I1) (j := (jc_M_counts_1278f_4 x1 I)) (lv' := [(0, .inr (.inr (some 740))), (1, .inl _), (2, .inl _), (3, .inl _)]) (And.intro rfl (And.intro rfl (And.intro rfl (And.intro rfl True.intro)))) ⟨_, _, _, rfl, rfl, ⟨by omega, (by exfalso; omega)⟩, rfl⟩ (by omega)
            · intro c14
              refine And.intro ⟨rfl, by decide, by decide⟩ ?_
              refine Exists.intro xm_255 (And.intro mi_255 (And.intro ⟨rfl, rfl, rfl, rfl⟩ (And.intro rfl ?_)))
              refine fcallp hB1 (ct_M_textAt_ea474 (fBz h0 hB1) (by first | exact ⟨hb.2.2.1.1, Int.le_trans (Int.le_sub_one_of_lt (Int.lt_of_lt_of_le c7 uz5)) (by decide)⟩ | omega)) ?_
              rintro _ ⟨_, rfl, rfl⟩
              refine fload rL_741_741_1211_3411_200_0 h0 hB1 (by omega) ?_
              intro z16 lz16 uz16 qz16
              have f66 := mF_k (s := 741) (t := y3) (k := 1) ((fld_at qz16 (1211 + 200 * y3.toNat) (by omega)).trans (congrFun (congrFun (fFr_nil (fFr_of hB1)) 741) _)) (by omega) (by omega) (by omega) (by show y3 < I 741 9; omega)
              refine And.intro ⟨rfl, by decide, by decide⟩ ?_
              refine Exists.intro xm_255 (And.intro mi_255 (And.intro ⟨rfl, rfl, rfl, rfl⟩ (And.intro rfl ?_)))
              refine fcallp hB1 (ct_M_textAt_ea474 (fBz h0 hB1) (by first | exact ⟨Int.le_trans (by decide) (Int.le_trans (Int.le_refl _) c14), hb.2.1.2⟩ | omega)) ?_
              rintro _ ⟨_, rfl, rfl⟩
              refine fload rL_741_741_1211_3411_200_0 h0 hB1 (by omega) ?_
              intro z18 lz18 uz18 qz18
              have f78 := mF_k (s := 741) (t := y2) (k := 1) ((fld_at qz18 (1211 + 200 * y2.toNat) (by omega)).trans (congrFun (congrFun (fFr_nil (fFr_of hB1)) 741) _)) (by omega) (by omega) (by omega) (by show y2 < I 741 9; omega)
              refine And.intro (And.intro (by first | exact fi_ lz16 uz16 rfl | omega) (by first | exact fi_ lz18 uz18 rfl | omega)) (And.intro ?_ ?_)
              · intro c19
                exact fcutJ (I := I1) (j := (jc_M_counts_1278f_4 x1 I)) (lv' := [(0, .inr (.inr (some 740))), (1, .inl _), (2, .inl _), (3, .inl _)]) (And.intro rfl (And.intro rfl (And.intro rfl (And.intro rfl True.intro)))) ⟨_, _, _, rfl, rfl, ⟨by omega, (by exfalso; omega)⟩, rfl⟩ (by omega)
              · intro c20
                exact fcutJ (I := I1) (j := (jc_M_counts_1278f_4 x1 I)) (lv' := [(0, .inr (.inr (some 740))), (1, .inl _), (2, .inl _), (3, .inl _)]) (And.intro rfl (And.intro rfl (And.intro rfl (And.intro rfl True.intro)))) ⟨_, _, _, rfl, rfl, ⟨by omega, (by exfalso; omega)⟩, rfl⟩ (by omega)
        · intro c21
          refine Exists.intro xm_256 (And.intro mi_256 (And.intro ⟨rfl, rfl, rfl, rfl⟩ (And.intro rfl ?_)))
          refine fcallp hB1 (ct_M_isInForce_508bf (fBz h0 hB1) (by first | exact ⟨hb.2.2.1.1, Int.le_trans (Int.le_sub_one_of_lt (Int.lt_of_lt_of_le c7 uz5)) (by decide)⟩ | omega) (by show y3 < I1 741 9; omega)) ?_
          rintro _ ⟨z22, rfl, hz22, g0z22⟩
          try rw [eJ] at g0z22
          try rw [show I1 = I from (fFr_nil (fFr_of hB1))] at g0z22
          refine And.intro (by omega) (And.intro ?_ ?_)
          · intro c23
            refine And.intro (by omega) (And.intro ?_ ?_)
            · intro c24
              exact fcutJ (I := I1) (j := (jc_M_counts_1278f_4 x1 I)) (lv' := [(0, .inr (.inr (some 740))), (1, .inl _), (2, .inl _), (3, .inl _)]) (And.intro rfl (And.intro rfl (And.intro rfl (And.intro rfl True.intro)))) ⟨_, _, _, rfl, rfl, ⟨by omega, (cnL_n hx0 (by omega) (by omega) (fun q => (g0z22.elim (fun q => absurd q.1 (by omega)) (fun q => q.2)) q.2.1))⟩, rfl⟩ (by omega)
            · intro c25
              refine And.intro (by first | exact fi_ hb.2.1.1 hb.2.1.2 rfl | omega) (And.intro ?_ ?_)
              · intro c26
                exact fcutJ (I := I1) (j := (jc_M_counts_1278f_4 x1 I)) (lv' := [(0, .inr (.inr (some 740))), (1, .inl _), (2, .inl _), (3, .inl _)]) (And.intro rfl (And.intro rfl (And.intro rfl (And.intro rfl True.intro)))) ⟨_, _, _, rfl, rfl, ⟨by omega, (by exfalso; omega)⟩, rfl⟩ (by omega)
              · intro c27
                refine And.intro ⟨rfl, by decide, by decide⟩ ?_
                refine Exists.intro xm_255 (And.intro mi_255 (And.intro ⟨rfl, rfl, rfl, rfl⟩ (And.intro rfl ?_)))
                refine fcallp hB1 (ct_M_textAt_ea474 (fBz h0 hB1) (by first | exact ⟨hb.2.2.1.1, Int.le_trans (Int.le_sub_one_of_lt (Int.lt_of_lt_of_le c7 uz5)) (by decide)⟩ | omega)) ?_
                rintro _ ⟨_, rfl, rfl⟩
                refine fload rL_741_741_1211_3411_200_0 h0 hB1 (by omega) ?_
                intro z29 lz29 uz29 qz29
                have f66 := mF_k (s := 741) (t := y3) (k := 1) ((fld_at qz29 (1211 + 200 * y3.toNat) (by omega)).trans (congrFun (congrFun (fFr_nil (fFr_of hB1)) 741) _)) (by omega) (by omega) (by omega) (by show y3 < I 741 9; omega)
                refine And.intro ⟨rfl, by decide, by decide⟩ ?_
                refine Exists.intro xm_255 (And.intro mi_255 (And.intro ⟨rfl, rfl, rfl, rfl⟩ (And.intro rfl ?_)))
                refine fcallp hB1 (ct_M_textAt_ea474 (fBz h0 hB1) (by first | exact ⟨Int.le_trans (by decide) (Int.le_trans (Int.le_refl _) c27), hb.2.1.2⟩ | omega)) ?_
                rintro _ ⟨_, rfl, rfl⟩
                refine fload rL_741_741_1211_3411_200_0 h0 hB1 (by omega) ?_
                intro z31 lz31 uz31 qz31
                have f78 := mF_k (s := 741) (t := y2) (k := 1) ((fld_at qz31 (1211 + 200 * y2.toNat) (by omega)).trans (congrFun (congrFun (fFr_nil (fFr_of hB1)) 741) _)) (by omega) (by omega) (by omega) (by show y2 < I 741 9; omega)
                refine And.intro (And.intro (by first | exact fi_ lz29 uz29 rfl | omega) (by first | exact fi_ lz31 uz31 rfl | omega)) (And.intro ?_ ?_)
                · intro c32
                  exact fcutJ (I := I1) (j := (jc_M_counts_1278f_4 x1 I)) (lv' := [(0, .inr (.inr (some 740))), (1, .inl _), (2, .inl _), (3, .inl _)]) (And.intro rfl (And.intro rfl (And.intro rfl (And.intro rfl True.intro)))) ⟨_, _, _, rfl, rfl, ⟨by omega, (by exfalso; omega)⟩, rfl⟩ (by omega)
                · intro c33
                  exact fcutJ (I := I1) (j := (jc_M_counts_1278f_4 x1 I)) (lv' := [(0, .inr (.inr (some 740))), (1, .inl _), (2, .inl _), (3, .inl _)]) (And.intro rfl (And.intro rfl (And.intro rfl (And.intro rfl True.intro)))) ⟨_, _, _, rfl, rfl, ⟨by omega, (by exfalso; omega)⟩, rfl⟩ (by omega)
          · intro c34
            refine And.intro (by first | exact ⟨by decide, by decide⟩ | omega) (And.intro ?_ ?_)
            · intro c35
              exact fcutJ (I := I1) (j := (jc_M_counts_1278f_4 x1 I)) (lv' := [(0, .inr (.inr (some 740))), (1, .inl _), (2, .inl _), (3, .inl _)]) (And.intro rfl (And.intro rfl (And.intro rfl (And.intro rfl True.intro)))) ⟨_, _, _, rfl, rfl, ⟨by omega, (by exfalso; omega)⟩, rfl⟩ (by omega)
            · intro c36
              refine And.intro (by first | exact fi_ hb.2.1.1 hb.2.1.2 rfl | omega) (And.intro ?_ ?_)
              · intro c37
                exact fcutJ (I := I1) (j := (jc_M_counts_1278f_4 x1 I)) (lv' := [(0, .inr (.inr (some 740))), (1, .inl _), (2, .inl _), (3, .inl _)]) (And.intro rfl (And.intro rfl (And.intro rfl (And.intro rfl True.intro)))) ⟨_, _, _, rfl, rfl, ⟨by omega, (cnL_y hx0 (by omega) (by omega) (by omega) (g0z22.elim (fun q => q.2) (fun q => absurd q.1 (by omega))) (Or.inl (by omega)))⟩, rfl⟩ (by omega)
              · intro c38
                refine And.intro ⟨rfl, by decide, by decide⟩ ?_
                refine Exists.intro xm_255 (And.intro mi_255 (And.intro ⟨rfl, rfl, rfl, rfl⟩ (And.intro rfl ?_)))
                refine fcallp hB1 (ct_M_textAt_ea474 (fBz h0 hB1) (by first | exact ⟨hb.2.2.1.1, Int.le_trans (Int.le_sub_one_of_lt (Int.lt_of_lt_of_le c7 uz5)) (by decide)⟩ | omega)) ?_
                rintro _ ⟨_, rfl, rfl⟩
                refine fload rL_741_741_1211_3411_200_0 h0 hB1 (by omega) ?_
                intro z40 lz40 uz40 qz40
                have f66 := mF_k (s := 741) (t := y3) (k := 1) ((fld_at qz40 (1211 + 200 * y3.toNat) (by omega)).trans (congrFun (congrFun (fFr_nil (fFr_of hB1)) 741) _)) (by omega) (by omega) (by omega) (by show y3 < I 741 9; omega)
                refine And.intro ⟨rfl, by decide, by decide⟩ ?_
                refine Exists.intro xm_255 (And.intro mi_255 (And.intro ⟨rfl, rfl, rfl, rfl⟩ (And.intro rfl ?_)))
                refine fcallp hB1 (ct_M_textAt_ea474 (fBz h0 hB1) (by first | exact ⟨Int.le_trans (by decide) (Int.le_trans (Int.le_refl _) c38), hb.2.1.2⟩ | omega)) ?_
                rintro _ ⟨_, rfl, rfl⟩
                refine fload rL_741_741_1211_3411_200_0 h0 hB1 (by omega) ?_
                intro z42 lz42 uz42 qz42
                have f78 := mF_k (s := 741) (t := y2) (k := 1) ((fld_at qz42 (1211 + 200 * y2.toNat) (by omega)).trans (congrFun (congrFun (fFr_nil (fFr_of hB1)) 741) _)) (by omega) (by omega) (by omega) (by show y2 < I 741 9; omega)
                refine And.intro (And.intro (by first | exact fi_ lz40 uz40 rfl | omega) (by first | exact fi_ lz42 uz42 rfl | omega)) (And.intro ?_ ?_)
                · intro c43
                  exact fcutJ (I := I1) (j := (jc_M_counts_1278f_4 x1 I)) (lv' := [(0, .inr (.inr (some 740))), (1, .inl _), (2, .inl _), (3, .inl _)]) (And.intro rfl (And.intro rfl (And.intro rfl (And.intro rfl True.intro)))) ⟨_, _, _, rfl, rfl, ⟨by omega, (cnL_n hx0 (by omega) (by omega) (fun q => by have q1 := q.2.2; omega))⟩, rfl⟩ (by omega)
                · intro c44
                  exact fcutJ (I := I1) (j := (jc_M_counts_1278f_4 x1 I)) (lv' := [(0, .inr (.inr (some 740))), (1, .inl _), (2, .inl _), (3, .inl _)]) (And.intro rfl (And.intro rfl (And.intro rfl (And.intro rfl True.intro)))) ⟨_, _, _, rfl, rfl, ⟨by omega, (cnL_y hx0 (by omega) (by omega) (by omega) (g0z22.elim (fun q => q.2) (fun q => absurd q.1 (by omega))) (Or.inr (by omega)))⟩, rfl⟩ (by omega)
  · have hB0 := fB_self (zn := znJ) (K := fKc []) h0
    have b45 := fBd fb_741_9 (fBz h0 hB0)
    have b46 := fBd fb_741_9 (fBz h0 hB0)
    exact fcutJ (I := I) (j := (jc_M_counts_1278f_4 x1 I)) (lv' := [(0, .inr (.inr (some 740))), (1, .inl _), (2, .inl _), (3, .inl _)]) (And.intro rfl (And.intro rfl (And.intro rfl (And.intro rfl True.intro)))) ⟨_, _, _, rfl, rfl, ⟨by omega, rfl⟩, rfl⟩ (by omega)
set_option maxRecDepth 8000 in
theorem ct_M_nameOne_43c7d {I : fH} {x1 : Int} (h0 : fB bsJ I) (ha1 : (0 ≤ x1 ∧ x1 ≤ 23)) : fC ρ base n F xTc vwCl xTys D dA la gJ (fbz bsJ znJ (fKc wz_3c4d3) I) xm_258 [.inr (.inr (some 740)), .inl x1] I (fun I' r => r = none ∧ True ∧ (I' 748 = nmQ (mR I) x1 (I 748)) ∧ (mR I' = mR I)) := by
  have hW : fzs wz_3c4d3 (fKc wz_3c4d3) := fKc_ok _
  refine f_meth (rb := rbJ) (J := []) 1 400 xG xin_258 x6_258 okJ (fB_self h0) ?_ ?_
  · exact fun q h => absurd h List.not_mem_nil
  · have hB0 := fB_self (zn := znJ) (K := fKc wz_3c4d3) h0
    refine And.intro ⟨rfl, by decide, by decide⟩ ?_
    refine And.intro ⟨rfl, by decide, by decide⟩ ?_
    refine Exists.intro xm_247 (And.intro mi_247 (And.intro ⟨rfl, rfl, rfl, rfl⟩ (And.intro rfl ?_)))
    refine fcallp hB0 (ct_M_personAt_9b331 (fBz h0 hB0) (by first | exact ⟨ha1.1, ha1.2⟩ | omega)) ?_
    rintro _ ⟨_, rfl, rfl⟩
    refine fload rL_741_741_870_1008_6_0 h0 hB0 (by omega) ?_
    intro z2 lz2 uz2 qz2
    have v17 := mL_r (i0 := 870) (i1 := 1008) (m := 6) (q := 0) (by decide +kernel) qz2 (by omega) rfl
    refine fstore1 rS_748_748_0_127_1_0 (fzs_sub (by decide +kernel) hW) ⟨by decide, by decide⟩ (by first | exact ⟨by decide, by decide⟩ | omega) (by first | exact ⟨Int.le_trans (by decide) lz2, Int.le_trans uz2 (by decide)⟩ | omega) ?_
    intro IhB3 ehB3 hB3
    have t4 := fup_self ehB3
    have t5 := fup_at ehB3 97 (by first | rfl | omega)
    have r18 := mR_ot ehB3 (by decide)
    refine And.intro ⟨rfl, by decide, by decide⟩ ?_
    refine And.intro ⟨rfl, by decide, by decide⟩ ?_
    refine Exists.intro xm_247 (And.intro mi_247 (And.intro ⟨rfl, rfl, rfl, rfl⟩ (And.intro rfl ?_)))
    refine fcallp hB3 (ct_M_personAt_9b331 (fBz h0 hB3) (by first | exact ⟨ha1.1, ha1.2⟩ | omega)) ?_
    rintro _ ⟨_, rfl, rfl⟩
    intro z7 hz7 ez7 bz7
    clear ez7
    have bz7 := bz7 (by omega)
    refine fload rL_741_741_871_1009_6_0 h0 hB3 (by omega) ?_
    intro z8 lz8 uz8 qz8
    have v36 := mL_r (i0 := 871) (i1 := 1009) (m := 6) (q := 0) (by decide +kernel) qz8 (by omega) rfl
    rw [r18] at v36
    refine fstore1 rS_748_748_0_127_1_0 (fzs_sub (by decide +kernel) hW) ⟨by decide, by decide⟩ (by first | exact ⟨by decide, by decide⟩ | omega) (by first | exact ⟨Int.le_trans (by decide) lz8, Int.le_trans uz8 (by decide)⟩ | omega) ?_
    intro IhB9 ehB9 hB9
    have t10 := fup_self ehB9
    have t11 : IhB9 748 97 = IhB3 748 97 := (congrFun (congrFun ehB9 748) 97).trans (fup_ne (by first | decide | omega))
    have t12 := fup_at ehB9 99 (by first | rfl | omega)
    have r37 := mR_ot ehB9 (by decide)
    refine And.intro ⟨rfl, by decide, by decide⟩ ?_
    refine And.intro ⟨rfl, by decide, by decide⟩ ?_
    refine Exists.intro xm_247 (And.intro mi_247 (And.intro ⟨rfl, rfl, rfl, rfl⟩ (And.intro rfl ?_)))
    refine fcallp hB9 (ct_M_personAt_9b331 (fBz h0 hB9) (by first | exact ⟨ha1.1, ha1.2⟩ | omega)) ?_
    rintro _ ⟨_, rfl, rfl⟩
    intro z14 hz14 ez14 bz14
    clear ez14
    have bz14 := bz14 (by omega)
    refine fload rL_741_741_873_1011_6_0 h0 hB9 (by omega) ?_
    intro z15 lz15 uz15 qz15
    have v55 := mL_r (i0 := 873) (i1 := 1011) (m := 6) (q := 0) (by decide +kernel) qz15 (by omega) rfl
    rw [r37, r18] at v55
    refine fstore1 rS_748_748_0_127_1_0 (fzs_sub (by decide +kernel) hW) ⟨by decide, by decide⟩ (by first | exact ⟨by decide, by decide⟩ | omega) (by first | exact ⟨Int.le_trans (by decide) lz15, Int.le_trans uz15 (by decide)⟩ | omega) ?_
    intro IhB16 ehB16 hB16
    have t17 := fup_self ehB16
    have t18 : IhB16 748 97 = IhB9 748 97 := (congrFun (congrFun ehB16 748) 97).trans (fup_ne (by first | decide | omega))
    have t19 : IhB16 748 99 = IhB9 748 99 := (congrFun (congrFun ehB16 748) 99).trans (fup_ne (by first | decide | omega))
    have t20 := fup_at ehB16 115 (by first | rfl | omega)
    have r56 := mR_ot ehB16 (by decide)
    exact ⟨rfl, True.intro, (nmQ_of (pn_st ehB3 rfl) (pn_st ehB9 rfl) (pn_st ehB16 rfl) (gt_at v17 (by omega)) (gt_at v36 (by omega)) (gt_at v55 (by omega))), (by rw [r56, r37, r18])⟩
set_option maxRecDepth 8000 in
theorem ct_M_mayOpen_42d58 {I : fH} {x1 : Int} {x2 : Int} (h0 : fB bsJ I) (ha1 : (0 ≤ x1 ∧ x1 ≤ 23)) (ha2 : (0 ≤ x2 ∧ x2 ≤ 23)) (hp0 : sI I 741) (hp1 : okL (mLw 741 I)) (hp2 : okE 741 I) : fC ρ base n F xTc vwCl xTys D dA la gJ (fbz bsJ znJ (fKc wz_5ef89) I) xm_253 [.inr (.inr (some 740)), .inl x1, .inl x2] I (fun I' r => ∃ z, r = some (.inl z) ∧ (0 ≤ z ∧ z ≤ 1) ∧ ((z = 1 ∧ alw (mLw 741 I) 1 (sHr (mR I)) (nmO (mR I) x1 x2)) ∨ (z = 0 ∧ ¬ alw (mLw 741 I) 1 (sHr (mR I)) (nmO (mR I) x1 x2))) ∧ (mR I' = mR I)) := by
  have hW : fzs wz_5ef89 (fKc wz_5ef89) := fKc_ok _
  refine f_meth (rb := rbJ) (J := []) 1 400 xG xin_253 x6_253 okJ (fB_self h0) ?_ ?_
  · exact fun q h => absurd h List.not_mem_nil
  · have hB0 := fB_self (zn := znJ) (K := fKc wz_5ef89) h0
    refine Exists.intro xm_254 (And.intro mi_254 (And.intro ⟨rfl, rfl, rfl, rfl⟩ (And.intro rfl ?_)))
    refine fcallp hB0 (ct_M_counts_1278f (fBz h0 hB0) (by first | exact ⟨by decide, by decide⟩ | omega)) ?_
    rintro _ ⟨z1, rfl, hz1, g0z1⟩
    refine Exists.intro xm_258 (And.intro mi_258 (And.intro ⟨rfl, rfl, rfl, rfl⟩ (And.intro rfl ?_)))
    refine fcall _ h0 (fzs_sub (by decide +kernel) hW) hB0 (ct_M_nameOne_43c7d (fBz h0 hB0) (by first | exact ⟨ha1.1, ha1.2⟩ | omega)) ?_
    rintro IhB3 _ hB3 fhB3 ⟨rfl, hz2, g0z2, g1z2⟩
    have k4 := fBz_eq hB3 (a := 741) (j := 9) (by decide +kernel)
    refine And.intro ⟨rfl, by decide, by decide⟩ ?_
    refine fstore1 rS_748_748_0_127_1_0 (fzs_sub (by decide +kernel) hW) ⟨by decide, by decide⟩ (by first | exact ⟨by decide, by decide⟩ | omega) (by first | exact ⟨Int.le_trans (by decide) ha2.1, Int.le_trans ha2.2 (by decide)⟩ | omega) ?_
    intro IhB5 ehB5 hB5
    have t6 := fup_self ehB5
    have t7 := fup_at ehB5 110 (by first | rfl | omega)
    have k8 := fBz_eq hB5 (a := 741) (j := 9) (by decide +kernel)
    have r18 := mR_ot ehB5 (by decide)
    have eL : mLw 741 IhB5 = mLw 741 I := (mLw_fr (fFr_of hB5) (by decide +kernel))
    have eQ : mR IhB5 = mR I := mR_fr (fFr_of hB5) (by decide +kernel)
    refine And.intro (by first | exact fi_ hz1.1.1 hz1.1.2 rfl | omega) (And.intro ?_ ?_)
    · intro c9
      refine And.intro (⟨by decide, by decide⟩) ?_
      exact ⟨_, rfl, (by first | exact ⟨by decide, by decide⟩ | omega), (Or.inl ⟨by omega, alw_m0 g0z1 (by omega)⟩), (mR_fr (fFr_of hB5) (by decide +kernel))⟩
    · intro c10
      refine Exists.intro xm_259 (And.intro mi_259 (And.intro ⟨rfl, rfl, rfl, rfl⟩ (And.intro rfl ?_)))
      refine fcall _ h0 (fzs_sub (by decide +kernel) hW) hB5 (ct_M_worked_0bc29 (fBz h0 hB5) (by first | exact ⟨Int.le_trans (by decide) (Int.le_trans (Int.le_refl _) c10), hz1.1.2⟩ | omega) (sI_keep hp0 h0 hB5 (by decide +kernel)) (by omega) (by rw [eL]; exact hp1) (okE_fr (fFr_of hB5) (by decide +kernel) hp2) (by rw [eL]; show z1 < I 741 9; omega)) ?_
      rintro IhB12 _ hB12 fhB12 ⟨z11, rfl, hz11, g0z11⟩
      have k13 := fBz_eq hB12 (a := 741) (j := 9) (by decide +kernel)
      have r25 := mR_fr fhB12 (by decide +kernel)
      refine And.intro (by first | exact fi_ hz11.1 hz11.2 rfl | omega) (And.intro ?_ ?_)
      · intro c14
        refine And.intro (⟨by omega, by omega⟩) ?_
        exact ⟨_, rfl, by omega, (Or.inr ⟨by omega, fun a => absurd ((alw_w g0z1 (by omega) eL hp1 g0z11 (nmW_1 eQ g0z2 (pn_st ehB5 rfl) (by decide))).mpr a) (by omega)⟩), (mR_fr (fFr_of hB12) (by decide +kernel))⟩
      · intro c15
        refine And.intro (⟨by decide, by decide⟩) ?_
        exact ⟨_, rfl, (by first | exact ⟨by decide, by decide⟩ | omega), (Or.inl ⟨by omega, (alw_w g0z1 (by omega) eL hp1 g0z11 (nmW_1 eQ g0z2 (pn_st ehB5 rfl) (by decide))).mp (by omega)⟩), (mR_fr (fFr_of hB12) (by decide +kernel))⟩
set_option maxRecDepth 8000 in
theorem ct_M_isPerson_4d30c {I : fH} {x1 : Int} (h0 : fB bsJ I) (ha1 : ((-2147483648) ≤ x1 ∧ x1 ≤ 2147483647)) : fC ρ base n F xTc vwCl xTys D dA la gJ (fbz bsJ znJ (fKc []) I) xm_252 [.inr (.inr (some 740)), .inl x1] I (fun _ r => ∃ z, r = some (.inl z) ∧ (((z = 1 ∧ 0 ≤ x1 ∧ x1 ≤ 23) ∨ z = 0) ∧ ((z = 1 ∧ 0 ≤ x1 ∧ x1 < I 741 8) ∨ (z = 0 ∧ ¬ (0 ≤ x1 ∧ x1 < I 741 8))))) := by
  have hW : fzs [] (fKc []) := fKc_ok _
  refine f_meth (rb := rbJ) (J := []) 1 400 xG xin_252 x6_252 okJ (fB_self h0) ?_ ?_
  · exact fun q h => absurd h List.not_mem_nil
  · have hB0 := fB_self (zn := znJ) (K := fKc []) h0
    have b1 := fBd fb_741_8 (fBz h0 hB0)
    refine And.intro (by first | exact fi_ ha1.1 ha1.2 rfl | omega) ?_
    refine And.intro ⟨rfl, by decide, by decide⟩ ?_
    refine fload1 rL_741_741_8_8_1_0 h0 hB0 ⟨by decide, by decide⟩ (by first | exact ⟨by decide, by decide⟩ | omega) ?_
    intro z2 lz2 uz2 qz2
    have pz2 := fld_at qz2 8 (by omega)
    refine And.intro (by omega) ?_
    refine Exists.intro xm_238 (And.intro mi_238 (And.intro ⟨rfl, rfl, rfl, rfl⟩ (And.intro True.intro ?_)))
    refine fcallp hB0 (ct_M_isIn_27230 (fBz h0 hB0) (by first | exact ⟨ha1.1, ha1.2⟩ | omega) (by first | exact ⟨by decide, by decide⟩ | omega) (by omega)) ?_
    rintro _ ⟨z3, rfl, hz3⟩
    refine And.intro (⟨by omega, by omega⟩) ?_
    exact ⟨_, rfl, by omega⟩
set_option maxRecDepth 8000 in
theorem ct_M_turn_a8e81 {I : fH} {x1 : Int} {x2 : Int} {x3 : Int} (h0 : fB bsJ I) (ha1 : ((-2147483648) ≤ x1 ∧ x1 ≤ 2147483647)) (ha2 : ((-2147483648) ≤ x2 ∧ x2 ≤ 2147483647)) (ha3 : ((-2147483648) ≤ x3 ∧ x3 ≤ 2147483647)) (hp0 : sI I 741) (hp1 : okL (mLw 741 I)) (hp2 : okE 741 I) : fC ρ base n F xTc vwCl xTys D dA la gJ (fbz bsJ znJ (fKc wz_4080a) I) xm_250 [.inr (.inr (some 740)), .inl x1, .inl x2, .inl x3] I (fun I' r => ∃ z, r = some (.inl z) ∧ ((0 ≤ z ∧ z ≤ 1) ∨ z = (-1000000002) ∨ z = (-1000000001)) ∧ ((mR I', z) = oTurn (mR I) (mLw 741 I) x1 x2 x3)) := by
  have hW : fzs wz_4080a (fKc wz_4080a) := fKc_ok _
  refine f_meth (rb := rbJ) (J := []) 1 400 xG xin_250 x6_250 okJ (fB_self h0) ?_ ?_
  · exact fun q h => absurd h List.not_mem_nil
  · have hB0 := fB_self (zn := znJ) (K := fKc wz_4080a) h0
    have w906 : I 741 6 = gt (mR I) 6 := (show I 741 6 = gt (mR I) 6 from (mR_ld (I := I) (k := 6) (by decide +kernel)).symm)
    have w908 : I 741 8 = gt (mR I) 8 := (show I 741 8 = gt (mR I) 8 from (mR_ld (I := I) (k := 8) (by decide +kernel)).symm)
    refine Exists.intro xm_251 (And.intro mi_251 (And.intro ⟨rfl, rfl, rfl, rfl⟩ (And.intro rfl ?_)))
    refine fcallp hB0 (ct_M_isLock_5e2b8 (fBz h0 hB0) (by first | exact ⟨ha1.1, ha1.2⟩ | omega)) ?_
    rintro _ ⟨z1, rfl, hz1⟩
    refine And.intro (by omega) (And.intro ?_ ?_)
    · intro c2
      refine And.intro (True.intro) ?_
      exact ⟨_, rfl, by omega, (pr_n (fun q => by omega) rfl)⟩
    · intro c3
      refine Exists.intro xm_252 (And.intro mi_252 (And.intro ⟨rfl, rfl, rfl, rfl⟩ (And.intro rfl ?_)))
      refine fcallp hB0 (ct_M_isPerson_4d30c (fBz h0 hB0) (by first | exact ⟨ha2.1, ha2.2⟩ | omega)) ?_
      rintro _ ⟨z4, rfl, hz4⟩
      refine And.intro (by omega) (And.intro ?_ ?_)
      · intro c5
        refine And.intro (True.intro) ?_
        exact ⟨_, rfl, by omega, (pr_n (fun q => by omega) rfl)⟩
      · intro c6
        refine And.intro (by first | exact fi_ ha3.1 ha3.2 rfl | omega) ?_
        refine Exists.intro xm_238 (And.intro mi_238 (And.intro ⟨rfl, rfl, rfl, rfl⟩ (And.intro True.intro ?_)))
        refine fcallp hB0 (ct_M_isIn_27230 (fBz h0 hB0) (by first | exact ⟨ha3.1, ha3.2⟩ | omega) (by first | exact ⟨by decide, by decide⟩ | omega) (by first | exact ⟨by decide, by decide⟩ | omega)) ?_
        rintro _ ⟨z7, rfl, hz7⟩
        refine And.intro (by omega) (And.intro ?_ ?_)
        · intro c8
          refine Exists.intro xm_248 (And.intro mi_248 (And.intro ⟨rfl, rfl, rfl, rfl⟩ (And.intro rfl ?_)))
          refine fcallp hB0 (ct_M_isDead_21e1a (fBz h0 hB0) (by omega)) ?_
          rintro _ ⟨z9, rfl, hz9, g0z9⟩
          refine And.intro (by omega) (And.intro ?_ ?_)
          · intro c10
            refine And.intro (True.intro) ?_
            exact ⟨_, rfl, by omega, (pr_i (by omega) (ci_n (fun q => q.1 (g0z9.elim (fun q => q.2) (fun q => absurd q.1 (by omega)))) rfl))⟩
          · intro c11
            refine Exists.intro xm_253 (And.intro mi_253 (And.intro ⟨rfl, rfl, rfl, rfl⟩ (And.intro rfl ?_)))
            refine fcall _ h0 (fzs_sub (by decide +kernel) hW) hB0 (ct_M_mayOpen_42d58 (fBz h0 hB0) (by omega) (by omega) (sI_keep hp0 h0 hB0 (by decide +kernel)) hp1 hp2) ?_
            rintro IhB13 _ hB13 fhB13 ⟨z12, rfl, hz12, g0z12, g1z12⟩
            refine And.intro (by omega) (And.intro ?_ ?_)
            · intro c14
              refine Exists.intro xm_242 (And.intro mi_242 (And.intro ⟨rfl, rfl, rfl, rfl⟩ (And.intro rfl ?_)))
              refine fcall _ h0 (fzs_sub (by decide +kernel) hW) hB13 (ct_M_put_4fc33 (fBz h0 hB13) (by omega) (by first | exact ⟨Int.le_trans (by decide) (Int.le_trans (Int.le_refl _) hz7.1), Int.le_trans (Int.le_trans hz7.2 (Int.le_refl _)) (by decide)⟩ | omega)) ?_
              rintro IhB16 _ hB16 fhB16 ⟨z15, rfl, hz15, g0z15, g1z15⟩
              have v62 := mL_r (i0 := 433) (i1 := 525) (m := 4) (q := 0) (by decide +kernel) g1z15 (by omega) rfl
              rw [g1z12] at v62
              have r62 := mS_r (i0 := 433) (i1 := 525) (m := 4) (q := 0) (by decide +kernel) g0z15 (by omega) rfl
              refine And.intro (True.intro) ?_
              exact ⟨_, rfl, by omega, (pr_i (by omega) (ci_y ⟨(g0z9.elim (fun q => absurd q.1 (by omega)) (fun q => q.2)), (g0z12.elim (fun q => q.2) (fun q => absurd q.1 (by omega)))⟩ (pr_e (by rw [r62, g1z12]; exact (rud_cg (by omega) rfl)) (gt_at v62 (by omega)))))⟩
            · intro c17
              refine And.intro (True.intro) ?_
              exact ⟨_, rfl, by omega, (pr_i (by omega) (ci_n (fun q => (g0z12.elim (fun q => absurd q.1 (by omega)) (fun q => q.2)) q.2) (pr_e (by rw [g1z12]) rfl)))⟩
        · intro c18
          refine And.intro (True.intro) ?_
          exact ⟨_, rfl, by omega, (pr_n (fun q => by omega) rfl)⟩
set_option maxRecDepth 8000 in
theorem ct_X_swap_d5564 {I : fH} {x1 : Int} {x2 : Int} (h0 : fB bsJ I) (ha1 : (0 ≤ x1 ∧ x1 ≤ 5)) (ha2 : (0 ≤ x2 ∧ x2 ≤ 999999)) : fC ρ base n F xTc vwCl xTys D dA la gJ (fbz bsJ znJ (fKc wz_ba6ab) I) xm_18 [.inr (.inr (some 182)), .inl x1, .inl x2] I (fun I' r => ∃ z, r = some (.inl z) ∧ (0 ≤ z ∧ z ≤ 999999) ∧ (I' = fupd I 182 x1.toNat x2) ∧ (z = I 182 x1.toNat)) := by
  have hW : fzs wz_ba6ab (fKc wz_ba6ab) := fKc_ok _
  refine f_meth (rb := rbJ) (J := []) 1 400 xG xin_18 x6_18 okJ (fB_self h0) ?_ ?_
  · exact fun q h => absurd h List.not_mem_nil
  · have hB0 := fB_self (zn := znJ) (K := fKc wz_ba6ab) h0
    refine fload1 rL_182_182_0_5_1_0 h0 hB0 ⟨by decide, by decide⟩ (by first | exact ⟨ha1.1, ha1.2⟩ | omega) ?_
    intro z1 lz1 uz1 qz1
    refine fstore1 rS_182_182_0_5_1_0 (fzs_sub (by decide +kernel) hW) ⟨by decide, by decide⟩ (by first | exact ⟨ha1.1, ha1.2⟩ | omega) (by first | exact ⟨ha2.1, ha2.2⟩ | omega) ?_
    intro IhB2 ehB2 hB2
    have t3 := fup_self ehB2
    refine And.intro (True.intro) ?_
    exact ⟨_, rfl, (by first | exact ⟨lz1, uz1⟩ | omega), ehB2, qz1⟩
set_option maxRecDepth 8000 in
theorem ct_X_store_70ffd {I : fH} {x1 : Int} {x2 : Int} (h0 : fB bsJ I) (ha1 : ((-2147483648) ≤ x1 ∧ x1 ≤ 2147483647)) (ha2 : ((-2147483648) ≤ x2 ∧ x2 ≤ 2147483647)) : fC ρ base n F xTc vwCl xTys D dA la gJ (fbz bsJ znJ (fKc wz_ba6ab) I) xm_39 [.inr (.inr (some 0)), .inl x1, .inl x2] I (fun I' r => ∃ z, r = some (.inl z) ∧ ((0 ≤ z ∧ z ≤ 999999) ∨ z = (-1000000001)) ∧ ((cR 0 I', z) = oStore (cR 0 I) x1 x2)) := by
  have hW : fzs wz_ba6ab (fKc wz_ba6ab) := fKc_ok _
  refine f_meth (rb := rbJ) (J := []) 1 400 xG xin_39 x6_39 okJ (fB_self h0) ?_ ?_
  · exact fun q h => absurd h List.not_mem_nil
  · have hB0 := fB_self (zn := znJ) (K := fKc wz_ba6ab) h0
    refine Exists.intro xm_13 (And.intro mi_13 (And.intro ⟨rfl, rfl, rfl, rfl⟩ (And.intro True.intro ?_)))
    refine fcallp hB0 (ct_X_within_c27b1 (fBz h0 hB0) (by first | exact ⟨ha1.1, ha1.2⟩ | omega) (by first | exact ⟨by decide, by decide⟩ | omega) (by first | exact ⟨by decide, by decide⟩ | omega)) ?_
    rintro _ ⟨z1, rfl, hz1⟩
    refine And.intro (by omega) (And.intro ?_ ?_)
    · intro c2
      refine And.intro (True.intro) ?_
      exact ⟨_, rfl, by omega, (pr_n (fun q => by omega) rfl)⟩
    · intro c3
      refine Exists.intro xm_13 (And.intro mi_13 (And.intro ⟨rfl, rfl, rfl, rfl⟩ (And.intro True.intro ?_)))
      refine fcallp hB0 (ct_X_within_c27b1 (fBz h0 hB0) (by first | exact ⟨ha2.1, ha2.2⟩ | omega) (by first | exact ⟨by decide, by decide⟩ | omega) (by first | exact ⟨by decide, by decide⟩ | omega)) ?_
      rintro _ ⟨z4, rfl, hz4⟩
      refine And.intro (by omega) (And.intro ?_ ?_)
      · intro c5
        refine And.intro ⟨rfl, by decide, by decide⟩ ?_
        refine And.intro ⟨rfl, by decide, by decide⟩ ?_
        refine Exists.intro xm_18 (And.intro mi_18 (And.intro ⟨rfl, rfl, rfl, rfl⟩ (And.intro True.intro ?_)))
        refine fcall _ h0 (fzs_sub (by decide +kernel) hW) hB0 (ct_X_swap_d5564 (fBz h0 hB0) (by first | exact ⟨Int.le_trans (by decide) (Int.le_trans (Int.le_refl _) hz1.1), Int.le_trans (Int.le_trans hz1.2 (Int.le_refl _)) (by decide)⟩ | omega) (by first | exact ⟨Int.le_trans (by decide) (Int.le_trans (Int.le_refl _) hz4.1), Int.le_trans (Int.le_trans hz4.2 (Int.le_refl _)) (by decide)⟩ | omega)) ?_
        rintro IhB7 _ hB7 fhB7 ⟨z6, rfl, hz6, g0z6, g1z6⟩
        have v31 := cL_a (d := 0) (a := 182) (n := 6) (b := 17) (m := 1) (by decide +kernel) (by decide) g1z6 (by omega) rfl
        have r31 := cS_a (d := 0) (a := 182) (n := 6) (b := 17) (m := 1) (by decide +kernel) (by decide) g0z6 (by omega) rfl
        refine And.intro (True.intro) ?_
        exact ⟨_, rfl, by omega, (pr_y (by omega) (by rw [r31]; exact (rud_cg (by omega) rfl)) (gt_at v31 (by omega)))⟩
      · intro c8
        refine And.intro (True.intro) ?_
        exact ⟨_, rfl, by omega, (pr_n (fun q => by omega) rfl)⟩
set_option maxRecDepth 8000 in
theorem ct_M_put_8560c {I : fH} {x1 : Int} {x2 : Int} (h0 : fB bsJ I) (ha1 : (17 ≤ x1 ∧ x1 ≤ 22)) (ha2 : (0 ≤ x2 ∧ x2 ≤ 999999)) : fC ρ base n F xTc vwCl xTys D dA la gJ (fbz bsJ znJ (fKc wz_77ac1) I) xm_242 [.inr (.inr (some 740)), .inl x1, .inl x2] I (fun I' r => ∃ z, r = some (.inl z) ∧ (0 ≤ z ∧ z ≤ 999999) ∧ (I' = fupd I 741 x1.toNat x2) ∧ (z = I 741 x1.toNat)) := by
  have hW : fzs wz_77ac1 (fKc wz_77ac1) := fKc_ok _
  refine f_meth (rb := rbJ) (J := []) 1 400 xG xin_242 x6_242 okJ (fB_self h0) ?_ ?_
  · exact fun q h => absurd h List.not_mem_nil
  · have hB0 := fB_self (zn := znJ) (K := fKc wz_77ac1) h0
    refine And.intro ⟨rfl, by decide, by decide⟩ ?_
    refine fload1 rL_741_741_17_22_1_0 h0 hB0 ⟨by decide, by decide⟩ (by first | exact ⟨ha1.1, ha1.2⟩ | omega) ?_
    intro z1 lz1 uz1 qz1
    refine And.intro ⟨rfl, by decide, by decide⟩ ?_
    refine fstore1 rS_741_741_17_22_1_0 (fzs_sub (by decide +kernel) hW) ⟨by decide, by decide⟩ (by first | exact ⟨ha1.1, ha1.2⟩ | omega) (by first | exact ⟨ha2.1, ha2.2⟩ | omega) ?_
    intro IhB2 ehB2 hB2
    have t3 := fup_self ehB2
    refine And.intro (True.intro) ?_
    exact ⟨_, rfl, (by first | exact ⟨lz1, uz1⟩ | omega), ehB2, qz1⟩
set_option maxRecDepth 8000 in
theorem ct_M_store_73882 {I : fH} {x1 : Int} {x2 : Int} (h0 : fB bsJ I) (ha1 : ((-2147483648) ≤ x1 ∧ x1 ≤ 2147483647)) (ha2 : ((-2147483648) ≤ x2 ∧ x2 ≤ 2147483647)) : fC ρ base n F xTc vwCl xTys D dA la gJ (fbz bsJ znJ (fKc wz_77ac1) I) xm_262 [.inr (.inr (some 740)), .inl x1, .inl x2] I (fun I' r => ∃ z, r = some (.inl z) ∧ ((0 ≤ z ∧ z ≤ 999999) ∨ z = (-1000000001)) ∧ ((mR I', z) = oStore (mR I) x1 x2)) := by
  have hW : fzs wz_77ac1 (fKc wz_77ac1) := fKc_ok _
  refine f_meth (rb := rbJ) (J := []) 1 400 xG xin_262 x6_262 okJ (fB_self h0) ?_ ?_
  · exact fun q h => absurd h List.not_mem_nil
  · have hB0 := fB_self (zn := znJ) (K := fKc wz_77ac1) h0
    refine And.intro (by first | exact fi_ ha1.1 ha1.2 rfl | omega) ?_
    refine Exists.intro xm_238 (And.intro mi_238 (And.intro ⟨rfl, rfl, rfl, rfl⟩ (And.intro True.intro ?_)))
    refine fcallp hB0 (ct_M_isIn_27230 (fBz h0 hB0) (by first | exact ⟨ha1.1, ha1.2⟩ | omega) (by first | exact ⟨by decide, by decide⟩ | omega) (by first | exact ⟨by decide, by decide⟩ | omega)) ?_
    rintro _ ⟨z1, rfl, hz1⟩
    refine And.intro (by omega) (And.intro ?_ ?_)
    · intro c2
      refine And.intro (True.intro) ?_
      exact ⟨_, rfl, by omega, (pr_n (fun q => by omega) rfl)⟩
    · intro c3
      refine And.intro (by first | exact fi_ ha2.1 ha2.2 rfl | omega) ?_
      refine Exists.intro xm_238 (And.intro mi_238 (And.intro ⟨rfl, rfl, rfl, rfl⟩ (And.intro True.intro ?_)))
      refine fcallp hB0 (ct_M_isIn_27230 (fBz h0 hB0) (by first | exact ⟨ha2.1, ha2.2⟩ | omega) (by first | exact ⟨by decide, by decide⟩ | omega) (by first | exact ⟨by decide, by decide⟩ | omega)) ?_
      rintro _ ⟨z4, rfl, hz4⟩
      refine And.intro (by omega) (And.intro ?_ ?_)
      · intro c5
        refine And.intro (True.intro) ?_
        exact ⟨_, rfl, by omega, (pr_n (fun q => by omega) rfl)⟩
      · intro c6
        refine Exists.intro xm_242 (And.intro mi_242 (And.intro ⟨rfl, rfl, rfl, rfl⟩ (And.intro rfl ?_)))
        refine fcall _ h0 (fzs_sub (by decide +kernel) hW) hB0 (ct_M_put_8560c (fBz h0 hB0) (by omega) (by first | exact ⟨Int.le_trans (by decide) (Int.le_trans (Int.le_refl _) hz4.1), Int.le_trans (Int.le_trans hz4.2 (Int.le_refl _)) (by decide)⟩ | omega)) ?_
        rintro IhB8 _ hB8 fhB8 ⟨z7, rfl, hz7, g0z7, g1z7⟩
        have v30 := mL_r (i0 := 17) (i1 := 22) (m := 1) (q := 0) (by decide +kernel) g1z7 (by omega) rfl
        have r30 := mS_r (i0 := 17) (i1 := 22) (m := 1) (q := 0) (by decide +kernel) g0z7 (by omega) rfl
        refine And.intro (True.intro) ?_
        exact ⟨_, rfl, by omega, (pr_y (by omega) (by rw [r30]; exact (rud_cg (by omega) rfl)) (gt_at v30 (by omega)))⟩
set_option maxRecDepth 8000 in
theorem ct_X_give_dfa8a {I : fH} {x1 : Int} {x2 : Int} {x3 : Int} (h0 : fB bsJ I) (ha1 : ((-2147483648) ≤ x1 ∧ x1 ≤ 2147483647)) (ha2 : ((-2147483648) ≤ x2 ∧ x2 ≤ 2147483647)) (ha3 : ((-2147483648) ≤ x3 ∧ x3 ≤ 2147483647)) : fC ρ base n F xTc vwCl xTys D dA la gJ (fbz bsJ znJ (fKc wz_d3fe1) I) xm_40 [.inr (.inr (some 0)), .inl x1, .inl x2, .inl x3] I (fun I' r => ∃ z, r = some (.inl z) ∧ ((0 ≤ z ∧ z ≤ 999999) ∨ z = (-1000000002) ∨ z = (-1000000001)) ∧ ((cR 0 I', z) = oGive (cR 0 I) x1 x2 x3)) := by
  have hW : fzs wz_d3fe1 (fKc wz_d3fe1) := fKc_ok _
  refine f_meth (rb := rbJ) (J := []) 1 400 xG xin_40 x6_40 okJ (fB_self h0) ?_ ?_
  · exact fun q h => absurd h List.not_mem_nil
  · have hB0 := fB_self (zn := znJ) (K := fKc wz_d3fe1) h0
    have w905 : I 2 5 = gt (cR 0 I) 5 := (cL_f (d := 0) (a := 2) (j := 5) (r := 5) (p := 5) (I := I) (z := I 2 5) (by decide +kernel) (by decide) rfl rfl)
    refine Exists.intro xm_13 (And.intro mi_13 (And.intro ⟨rfl, rfl, rfl, rfl⟩ (And.intro True.intro ?_)))
    refine fcallp hB0 (ct_X_within_c27b1 (fBz h0 hB0) (by first | exact ⟨ha1.1, ha1.2⟩ | omega) (by first | exact ⟨by decide, by decide⟩ | omega) (by first | exact ⟨by decide, by decide⟩ | omega)) ?_
    rintro _ ⟨z1, rfl, hz1⟩
    refine And.intro (by omega) (And.intro ?_ ?_)
    · intro c2
      refine And.intro (True.intro) ?_
      exact ⟨_, rfl, by omega, (pr_n (fun q => by omega) rfl)⟩
    · intro c3
      refine And.intro (And.intro (by first | exact fi_ (Int.le_trans (Int.le_refl _) hz1.1) (Int.le_trans hz1.2 (Int.le_refl _)) rfl | omega) (by first | exact ⟨by decide, by decide⟩ | omega)) (And.intro ?_ ?_)
      · intro c4
        refine And.intro (True.intro) ?_
        exact ⟨_, rfl, by omega, (pr_n (fun q => by omega) rfl)⟩
      · intro c5
        refine And.intro ⟨rfl, by decide, by decide⟩ ?_
        refine Exists.intro xm_17 (And.intro mi_17 (And.intro ⟨rfl, rfl, rfl, rfl⟩ (And.intro rfl ?_)))
        refine fcallp hB0 (ct_City_isCell_46f02 (fBz h0 hB0) (by first | exact ⟨ha2.1, ha2.2⟩ | omega)) ?_
        rintro _ ⟨z6, rfl, hz6⟩
        refine And.intro (by omega) (And.intro ?_ ?_)
        · intro c7
          refine And.intro (True.intro) ?_
          exact ⟨_, rfl, by omega, (pr_n (fun q => by omega) rfl)⟩
        · intro c8
          refine Exists.intro xm_13 (And.intro mi_13 (And.intro ⟨rfl, rfl, rfl, rfl⟩ (And.intro True.intro ?_)))
          refine fcallp hB0 (ct_X_within_c27b1 (fBz h0 hB0) (by first | exact ⟨ha3.1, ha3.2⟩ | omega) (by first | exact ⟨by decide, by decide⟩ | omega) (by first | exact ⟨by decide, by decide⟩ | omega)) ?_
          rintro _ ⟨z9, rfl, hz9⟩
          refine And.intro (by omega) (And.intro ?_ ?_)
          · intro c10
            refine And.intro (And.intro (by first | exact fi_ (Int.le_trans (Int.le_refl _) hz1.1) (Int.le_trans hz1.2 (Int.le_refl _)) rfl | omega) (by first | exact ⟨by decide, by decide⟩ | omega)) (And.intro ?_ ?_)
            · intro c11
              refine And.intro ⟨rfl, by decide, by decide⟩ ?_
              refine And.intro ⟨rfl, by decide, by decide⟩ ?_
              refine fload1 rL_182_182_0_5_1_0 h0 hB0 ⟨by decide, by decide⟩ (by first | exact ⟨Int.le_trans (by decide) (Int.le_trans (Int.le_refl _) hz1.1), Int.le_trans (Int.le_trans hz1.2 (Int.le_refl _)) (by decide)⟩ | omega) ?_
              intro z12 lz12 uz12 qz12
              have v58 := cL_a (d := 0) (a := 182) (n := 6) (b := 17) (m := 1) (by decide +kernel) (by decide) qz12 (by omega) rfl
              refine And.intro (And.intro (by first | exact fi_ lz12 uz12 rfl | omega) (by first | exact fi_ (Int.le_trans (Int.le_refl _) hz9.1) (Int.le_trans hz9.2 (Int.le_refl _)) rfl | omega)) (And.intro ?_ ?_)
              · intro c13
                refine And.intro (True.intro) ?_
                exact ⟨_, rfl, by omega, (pr_i (by omega) (pr_i (Or.inl (by rw [← gt_at v58 (show _ = 17 + x1 by omega)]; omega)) rfl))⟩
              · intro c14
                refine And.intro ⟨rfl, by decide, by decide⟩ ?_
                refine And.intro ⟨rfl, by decide, by decide⟩ ?_
                refine And.intro ⟨rfl, by decide, by decide⟩ ?_
                refine And.intro ⟨rfl, by decide⟩ (And.intro (by omega) ?_)
                refine fload rL_6_25_0_4_1_0 h0 hB0 (by omega) ?_
                intro z15 lz15 uz15 qz15
                have v77 := cL_r (d := 0) (a := 6) (nr := 20) (n := 5) (b := 31) (mr := 20) (m := 1) (by decide +kernel) (by decide) qz15 (by omega) (by omega) rfl
                intro z16 hz16 ez16 bz16
                clear ez16
                have bz16 := bz16 (by omega)
                refine And.intro (by omega) (And.intro ?_ ?_)
                · intro c17
                  refine And.intro ⟨rfl, by decide, by decide⟩ ?_
                  refine And.intro ⟨rfl, by decide, by decide⟩ ?_
                  refine fload1 rL_182_182_0_5_1_0 h0 hB0 ⟨by decide, by decide⟩ (by first | exact ⟨Int.le_trans (by decide) (Int.le_trans (Int.le_refl _) hz1.1), Int.le_trans (Int.le_trans hz1.2 (Int.le_refl _)) (by decide)⟩ | omega) ?_
                  intro z18 lz18 uz18 qz18
                  have v97 := cL_a (d := 0) (a := 182) (n := 6) (b := 17) (m := 1) (by decide +kernel) (by decide) qz18 (by omega) rfl
                  intro z19 hz19 ez19 bz19
                  clear ez19
                  have bz19 := bz19 (by omega)
                  refine fstore1 rS_182_182_0_5_1_0 (fzs_sub (by decide +kernel) hW) ⟨by decide, by decide⟩ (by first | exact ⟨Int.le_trans (by decide) (Int.le_trans (Int.le_refl _) hz1.1), Int.le_trans (Int.le_trans hz1.2 (Int.le_refl _)) (by decide)⟩ | omega) (by omega) ?_
                  intro IhB20 ehB20 hB20
                  have t21 := fup_self ehB20
                  have r100 := cS_a (d := 0) (a := 182) (n := 6) (b := 17) (m := 1) (by decide +kernel) (by decide) ehB20 (by omega) rfl
                  refine And.intro ⟨rfl, by decide, by decide⟩ ?_
                  refine And.intro ⟨rfl, by decide, by decide⟩ ?_
                  refine And.intro ⟨rfl, by decide, by decide⟩ ?_
                  refine And.intro ⟨rfl, by decide⟩ (And.intro (by omega) ?_)
                  refine fload rL_6_25_0_4_1_0 h0 hB20 (by omega) ?_
                  intro z22 lz22 uz22 qz22
                  have v116 := cL_r (d := 0) (a := 6) (nr := 20) (n := 5) (b := 31) (mr := 20) (m := 1) (by decide +kernel) (by decide) qz22 (by omega) (by omega) rfl
                  rw [r100] at v116
                  have u116 := qz22.trans (fup_other ehB20 _ _ (Or.inl (by omega)))
                  intro z23 hz23 ez23 bz23
                  clear ez23
                  have bz23 := bz23 (by omega)
                  refine fstore rS_6_25_0_4_1_0 (fzs_sub (by decide +kernel) hW) (by omega) (by omega) ?_
                  intro IhB24 ehB24 hB24
                  have t25 := fup_self ehB24
                  have r119 := cS_r (d := 0) (a := 6) (nr := 20) (n := 5) (b := 31) (mr := 20) (m := 1) (by decide +kernel) (by decide) ehB24 (by omega) (by omega) rfl
                  refine And.intro ⟨rfl, by decide, by decide⟩ ?_
                  refine And.intro ⟨rfl, by decide, by decide⟩ ?_
                  refine fload1 rL_182_182_0_5_1_0 h0 hB24 ⟨by decide, by decide⟩ (by first | exact ⟨Int.le_trans (by decide) (Int.le_trans (Int.le_refl _) hz1.1), Int.le_trans (Int.le_trans hz1.2 (Int.le_refl _)) (by decide)⟩ | omega) ?_
                  intro z26 lz26 uz26 qz26
                  have v128 := cL_a (d := 0) (a := 182) (n := 6) (b := 17) (m := 1) (by decide +kernel) (by decide) qz26 (by omega) rfl
                  rw [r119, r100] at v128
                  refine And.intro (True.intro) ?_
                  exact ⟨_, rfl, by omega, (pr_i (by omega) (pr_n (fun q => by have q1 := gt_at v58 (show _ = 17 + x1 by omega); have q2 := gt_at v77 (show _ = oGiA x2 x1 by unfold oGiA; split <;> omega); omega) (pr_e (by rw [r119, r100]; exact (gi_of (by omega) (by omega) (by unfold oGiA; split <;> omega) (by omega) v97 (by omega) v116 (by omega))) (by rw [v128, gt_ne (by omega) (by omega), gt_same (by omega) (by omega)]; have q1 := gt_at v97 (show _ = 17 + x1 by omega); omega))))⟩
                · intro c27
                  refine And.intro (True.intro) ?_
                  exact ⟨_, rfl, by omega, (pr_i (by omega) (pr_i (Or.inr (by rw [← gt_at v77 (show _ = oGiA x2 x1 by unfold oGiA; split <;> omega)]; omega)) rfl))⟩
            · intro c28
              refine And.intro ⟨rfl, by decide, by decide⟩ ?_
              refine And.intro ⟨rfl, by decide, by decide⟩ ?_
              refine fload1 rL_182_182_0_5_1_0 h0 hB0 ⟨by decide, by decide⟩ (by first | exact ⟨Int.le_trans (by decide) (Int.le_trans (Int.le_refl _) (Int.le_of_eq c28.symm)), Int.le_trans (Int.le_trans hz1.2 (Int.le_refl _)) (by decide)⟩ | omega) ?_
              intro z29 lz29 uz29 qz29
              have v58 := cL_a (d := 0) (a := 182) (n := 6) (b := 17) (m := 1) (by decide +kernel) (by decide) qz29 (by omega) rfl
              refine And.intro (And.intro (by first | exact fi_ lz29 uz29 rfl | omega) (by first | exact fi_ (Int.le_trans (Int.le_refl _) hz9.1) (Int.le_trans hz9.2 (Int.le_refl _)) rfl | omega)) (And.intro ?_ ?_)
              · intro c30
                refine And.intro (True.intro) ?_
                exact ⟨_, rfl, by omega, (pr_i (by omega) (pr_i (Or.inl (by rw [← gt_at v58 (show _ = 17 + x1 by omega)]; omega)) rfl))⟩
              · intro c31
                refine And.intro ⟨rfl, by decide, by decide⟩ ?_
                refine And.intro ⟨rfl, by decide, by decide⟩ ?_
                refine And.intro ⟨rfl, by decide, by decide⟩ ?_
                refine And.intro ⟨rfl, by decide⟩ (And.intro (by omega) ?_)
                refine fload rL_6_25_0_4_1_0 h0 hB0 (by omega) ?_
                intro z32 lz32 uz32 qz32
                have v77 := cL_r (d := 0) (a := 6) (nr := 20) (n := 5) (b := 31) (mr := 20) (m := 1) (by decide +kernel) (by decide) qz32 (by omega) (by omega) rfl
                intro z33 hz33 ez33 bz33
                clear ez33
                have bz33 := bz33 (by omega)
                refine And.intro (by omega) (And.intro ?_ ?_)
                · intro c34
                  refine And.intro ⟨rfl, by decide, by decide⟩ ?_
                  refine And.intro ⟨rfl, by decide, by decide⟩ ?_
                  refine fload1 rL_182_182_0_5_1_0 h0 hB0 ⟨by decide, by decide⟩ (by first | exact ⟨Int.le_trans (by decide) (Int.le_trans (Int.le_refl _) (Int.le_of_eq c28.symm)), Int.le_trans (Int.le_trans hz1.2 (Int.le_refl _)) (by decide)⟩ | omega) ?_
                  intro z35 lz35 uz35 qz35
                  have v97 := cL_a (d := 0) (a := 182) (n := 6) (b := 17) (m := 1) (by decide +kernel) (by decide) qz35 (by omega) rfl
                  intro z36 hz36 ez36 bz36
                  clear ez36
                  have bz36 := bz36 (by omega)
                  refine fstore1 rS_182_182_0_5_1_0 (fzs_sub (by decide +kernel) hW) ⟨by decide, by decide⟩ (by first | exact ⟨Int.le_trans (by decide) (Int.le_trans (Int.le_refl _) (Int.le_of_eq c28.symm)), Int.le_trans (Int.le_trans hz1.2 (Int.le_refl _)) (by decide)⟩ | omega) (by omega) ?_
                  intro IhB37 ehB37 hB37
                  have t38 := fup_self ehB37
                  have r100 := cS_a (d := 0) (a := 182) (n := 6) (b := 17) (m := 1) (by decide +kernel) (by decide) ehB37 (by omega) rfl
                  refine And.intro ⟨rfl, by decide, by decide⟩ ?_
                  refine And.intro ⟨rfl, by decide, by decide⟩ ?_
                  refine And.intro ⟨rfl, by decide, by decide⟩ ?_
                  refine And.intro ⟨rfl, by decide⟩ (And.intro (by omega) ?_)
                  refine fload rL_6_25_0_4_1_0 h0 hB37 (by omega) ?_
                  intro z39 lz39 uz39 qz39
                  have v116 := cL_r (d := 0) (a := 6) (nr := 20) (n := 5) (b := 31) (mr := 20) (m := 1) (by decide +kernel) (by decide) qz39 (by omega) (by omega) rfl
                  rw [r100] at v116
                  have u116 := qz39.trans (fup_other ehB37 _ _ (Or.inl (by omega)))
                  intro z40 hz40 ez40 bz40
                  clear ez40
                  have bz40 := bz40 (by omega)
                  refine fstore rS_6_25_0_4_1_0 (fzs_sub (by decide +kernel) hW) (by omega) (by omega) ?_
                  intro IhB41 ehB41 hB41
                  have t42 := fup_self ehB41
                  have r119 := cS_r (d := 0) (a := 6) (nr := 20) (n := 5) (b := 31) (mr := 20) (m := 1) (by decide +kernel) (by decide) ehB41 (by omega) (by omega) rfl
                  refine And.intro ⟨rfl, by decide, by decide⟩ ?_
                  refine And.intro ⟨rfl, by decide, by decide⟩ ?_
                  refine fload1 rL_182_182_0_5_1_0 h0 hB41 ⟨by decide, by decide⟩ (by first | exact ⟨Int.le_trans (by decide) (Int.le_trans (Int.le_refl _) (Int.le_of_eq c28.symm)), Int.le_trans (Int.le_trans hz1.2 (Int.le_refl _)) (by decide)⟩ | omega) ?_
                  intro z43 lz43 uz43 qz43
                  have v128 := cL_a (d := 0) (a := 182) (n := 6) (b := 17) (m := 1) (by decide +kernel) (by decide) qz43 (by omega) rfl
                  rw [r119, r100] at v128
                  refine And.intro (True.intro) ?_
                  exact ⟨_, rfl, by omega, (pr_i (by omega) (pr_n (fun q => by have q1 := gt_at v58 (show _ = 17 + x1 by omega); have q2 := gt_at v77 (show _ = oGiA x2 x1 by unfold oGiA; split <;> omega); omega) (pr_e (by rw [r119, r100]; exact (gi_of (by omega) (by omega) (by unfold oGiA; split <;> omega) (by omega) v97 (by omega) v116 (by omega))) (by rw [v128, gt_ne (by omega) (by omega), gt_same (by omega) (by omega)]; have q1 := gt_at v97 (show _ = 17 + x1 by omega); omega))))⟩
                · intro c44
                  refine And.intro (True.intro) ?_
                  exact ⟨_, rfl, by omega, (pr_i (by omega) (pr_i (Or.inr (by rw [← gt_at v77 (show _ = oGiA x2 x1 by unfold oGiA; split <;> omega)]; omega)) rfl))⟩
          · intro c45
            refine And.intro (True.intro) ?_
            exact ⟨_, rfl, by omega, (pr_n (fun q => by omega) rfl)⟩
set_option maxRecDepth 8000 in
theorem ct_M_give_8f5c0 {I : fH} {x1 : Int} {x2 : Int} {x3 : Int} (h0 : fB bsJ I) (ha1 : ((-2147483648) ≤ x1 ∧ x1 ≤ 2147483647)) (ha2 : ((-2147483648) ≤ x2 ∧ x2 ≤ 2147483647)) (ha3 : ((-2147483648) ≤ x3 ∧ x3 ≤ 2147483647)) : fC ρ base n F xTc vwCl xTys D dA la gJ (fbz bsJ znJ (fKc wz_a3123) I) xm_263 [.inr (.inr (some 740)), .inl x1, .inl x2, .inl x3] I (fun I' r => ∃ z, r = some (.inl z) ∧ ((0 ≤ z ∧ z ≤ 999999) ∨ z = (-1000000002) ∨ z = (-1000000001)) ∧ ((mR I', z) = oGive (mR I) x1 x2 x3)) := by
  have hW : fzs wz_a3123 (fKc wz_a3123) := fKc_ok _
  refine f_meth (rb := rbJ) (J := []) 1 400 xG xin_263 x6_263 okJ (fB_self h0) ?_ ?_
  · exact fun q h => absurd h List.not_mem_nil
  · have hB0 := fB_self (zn := znJ) (K := fKc wz_a3123) h0
    have w905 : I 741 5 = gt (mR I) 5 := (show I 741 5 = gt (mR I) 5 from (mR_ld (I := I) (k := 5) (by decide +kernel)).symm)
    refine And.intro (by first | exact fi_ ha1.1 ha1.2 rfl | omega) ?_
    refine Exists.intro xm_238 (And.intro mi_238 (And.intro ⟨rfl, rfl, rfl, rfl⟩ (And.intro True.intro ?_)))
    refine fcallp hB0 (ct_M_isIn_27230 (fBz h0 hB0) (by first | exact ⟨ha1.1, ha1.2⟩ | omega) (by first | exact ⟨by decide, by decide⟩ | omega) (by first | exact ⟨by decide, by decide⟩ | omega)) ?_
    rintro _ ⟨z1, rfl, hz1⟩
    refine And.intro (by omega) (And.intro ?_ ?_)
    · intro c2
      refine And.intro (True.intro) ?_
      exact ⟨_, rfl, by omega, (pr_n (fun q => by omega) rfl)⟩
    · intro c3
      refine And.intro (And.intro (by first | exact fi_ (Int.le_trans (Int.le_refl _) hz1.1) (Int.le_trans hz1.2 (Int.le_refl _)) rfl | omega) (by first | exact ⟨by decide, by decide⟩ | omega)) (And.intro ?_ ?_)
      · intro c4
        refine And.intro (True.intro) ?_
        exact ⟨_, rfl, by omega, (pr_n (fun q => by omega) rfl)⟩
      · intro c5
        refine Exists.intro xm_241 (And.intro mi_241 (And.intro ⟨rfl, rfl, rfl, rfl⟩ (And.intro rfl ?_)))
        refine fcallp hB0 (ct_M_isCell_45859 (fBz h0 hB0) (by first | exact ⟨ha2.1, ha2.2⟩ | omega)) ?_
        rintro _ ⟨z6, rfl, hz6⟩
        refine And.intro (by omega) (And.intro ?_ ?_)
        · intro c7
          refine And.intro (True.intro) ?_
          exact ⟨_, rfl, by omega, (pr_n (fun q => by omega) rfl)⟩
        · intro c8
          refine And.intro (by first | exact fi_ ha3.1 ha3.2 rfl | omega) ?_
          refine Exists.intro xm_238 (And.intro mi_238 (And.intro ⟨rfl, rfl, rfl, rfl⟩ (And.intro True.intro ?_)))
          refine fcallp hB0 (ct_M_isIn_27230 (fBz h0 hB0) (by first | exact ⟨ha3.1, ha3.2⟩ | omega) (by first | exact ⟨by decide, by decide⟩ | omega) (by first | exact ⟨by decide, by decide⟩ | omega)) ?_
          rintro _ ⟨z9, rfl, hz9⟩
          refine And.intro (by omega) (And.intro ?_ ?_)
          · intro c10
            refine Exists.intro xm_239 (And.intro mi_239 (And.intro ⟨rfl, rfl, rfl, rfl⟩ (And.intro rfl ?_)))
            refine fcallp hB0 (ct_M_cellAt_c15f4 (fBz h0 hB0) (by omega)) ?_
            rintro _ ⟨_, rfl, rfl⟩
            refine And.intro (And.intro (by first | exact fi_ (Int.le_trans (Int.le_refl _) hz1.1) (Int.le_trans hz1.2 (Int.le_refl _)) rfl | omega) (by first | exact ⟨by decide, by decide⟩ | omega)) (And.intro ?_ ?_)
            · intro c12
              refine And.intro ⟨rfl, by decide, by decide⟩ ?_
              refine fload rL_741_741_17_22_1_0 h0 hB0 (by omega) ?_
              intro z13 lz13 uz13 qz13
              have v68 := mL_r (i0 := 17) (i1 := 22) (m := 1) (q := 0) (by decide +kernel) qz13 (by omega) rfl
              refine And.intro (And.intro (by first | exact fi_ lz13 uz13 rfl | omega) (by first | exact fi_ (Int.le_trans (Int.le_refl _) hz9.1) (Int.le_trans hz9.2 (Int.le_refl _)) rfl | omega)) (And.intro ?_ ?_)
              · intro c14
                refine And.intro (True.intro) ?_
                exact ⟨_, rfl, by omega, (pr_i (by omega) (pr_i (Or.inl (by rw [← gt_at v68 (show _ = 17 + x1 by omega)]; omega)) rfl))⟩
              · intro c15
                refine And.intro ⟨rfl, by decide, by decide⟩ ?_
                refine fload rL_741_741_31_415_20_4 h0 hB0 (by omega) ?_
                intro z16 lz16 uz16 qz16
                have v79 := mL_r (i0 := 31) (i1 := 415) (m := 20) (q := 4) (by decide +kernel) qz16 (by omega) rfl
                intro z17 hz17 ez17 bz17
                clear ez17
                have bz17 := bz17 (by omega)
                refine And.intro (by omega) (And.intro ?_ ?_)
                · intro c18
                  refine And.intro ⟨rfl, by decide, by decide⟩ ?_
                  refine fload rL_741_741_31_415_20_4 h0 hB0 (by omega) ?_
                  intro z19 lz19 uz19 qz19
                  have v97 := mL_r (i0 := 31) (i1 := 415) (m := 20) (q := 4) (by decide +kernel) qz19 (by omega) rfl
                  intro z20 hz20 ez20 bz20
                  clear ez20
                  have bz20 := bz20 (by omega)
                  refine fstore rS_741_741_31_415_20_4 (fzs_sub (by decide +kernel) hW) (by omega) (by omega) ?_
                  intro IhB21 ehB21 hB21
                  have t22 := fup_self ehB21
                  have r100 := mS_r (i0 := 31) (i1 := 415) (m := 20) (q := 4) (by decide +kernel) ehB21 (by omega) rfl
                  refine And.intro ⟨rfl, by decide, by decide⟩ ?_
                  refine fload rL_741_741_17_22_1_0 h0 hB21 (by omega) ?_
                  intro z23 lz23 uz23 qz23
                  have v110 := mL_r (i0 := 17) (i1 := 22) (m := 1) (q := 0) (by decide +kernel) qz23 (by omega) rfl
                  rw [r100] at v110
                  have u110 := qz23.trans (fup_other ehB21 _ _ (Or.inr (by omega)))
                  intro z24 hz24 ez24 bz24
                  clear ez24
                  have bz24 := bz24 (by omega)
                  refine fstore rS_741_741_17_22_1_0 (fzs_sub (by decide +kernel) hW) (by omega) (by omega) ?_
                  intro IhB25 ehB25 hB25
                  have t26 := fup_self ehB25
                  have r113 := mS_r (i0 := 17) (i1 := 22) (m := 1) (q := 0) (by decide +kernel) ehB25 (by omega) rfl
                  refine And.intro ⟨rfl, by decide, by decide⟩ ?_
                  refine fload rL_741_741_17_22_1_0 h0 hB25 (by omega) ?_
                  intro z27 lz27 uz27 qz27
                  have v122 := mL_r (i0 := 17) (i1 := 22) (m := 1) (q := 0) (by decide +kernel) qz27 (by omega) rfl
                  rw [r113, r100] at v122
                  refine And.intro (True.intro) ?_
                  exact ⟨_, rfl, by omega, (pr_i (by omega) (pr_n (fun q => by have q1 := gt_at v68 (show _ = 17 + x1 by omega); have q2 := gt_at v79 (show _ = oGiA x2 x1 by unfold oGiA; split <;> omega); omega) (pr_e (by rw [r113, r100]; exact (gi_ofm (by omega) (by omega) (by unfold oGiA; split <;> omega) (by omega) v97 (by omega) v110 (by omega))) (by have q1 := gt_at (gt_n (by omega) (by omega) v110) (show _ = 17 + x1 by omega); omega))))⟩
                · intro c28
                  refine And.intro (True.intro) ?_
                  exact ⟨_, rfl, by omega, (pr_i (by omega) (pr_i (Or.inr (by rw [← gt_at v79 (show _ = oGiA x2 x1 by unfold oGiA; split <;> omega)]; omega)) rfl))⟩
            · intro c29
              refine And.intro ⟨rfl, by decide, by decide⟩ ?_
              refine fload rL_741_741_17_22_1_0 h0 hB0 (by omega) ?_
              intro z30 lz30 uz30 qz30
              have v68 := mL_r (i0 := 17) (i1 := 22) (m := 1) (q := 0) (by decide +kernel) qz30 (by omega) rfl
              refine And.intro (And.intro (by first | exact fi_ lz30 uz30 rfl | omega) (by first | exact fi_ (Int.le_trans (Int.le_refl _) hz9.1) (Int.le_trans hz9.2 (Int.le_refl _)) rfl | omega)) (And.intro ?_ ?_)
              · intro c31
                refine And.intro (True.intro) ?_
                exact ⟨_, rfl, by omega, (pr_i (by omega) (pr_i (Or.inl (by rw [← gt_at v68 (show _ = 17 + x1 by omega)]; omega)) rfl))⟩
              · intro c32
                refine And.intro ⟨rfl, by decide, by decide⟩ ?_
                refine fload rL_741_741_31_415_20_4 h0 hB0 (by omega) ?_
                intro z33 lz33 uz33 qz33
                have v79 := mL_r (i0 := 31) (i1 := 415) (m := 20) (q := 4) (by decide +kernel) qz33 (by omega) rfl
                intro z34 hz34 ez34 bz34
                clear ez34
                have bz34 := bz34 (by omega)
                refine And.intro (by omega) (And.intro ?_ ?_)
                · intro c35
                  refine And.intro ⟨rfl, by decide, by decide⟩ ?_
                  refine fload rL_741_741_31_415_20_4 h0 hB0 (by omega) ?_
                  intro z36 lz36 uz36 qz36
                  have v97 := mL_r (i0 := 31) (i1 := 415) (m := 20) (q := 4) (by decide +kernel) qz36 (by omega) rfl
                  intro z37 hz37 ez37 bz37
                  clear ez37
                  have bz37 := bz37 (by omega)
                  refine fstore rS_741_741_31_415_20_4 (fzs_sub (by decide +kernel) hW) (by omega) (by omega) ?_
                  intro IhB38 ehB38 hB38
                  have t39 := fup_self ehB38
                  have r100 := mS_r (i0 := 31) (i1 := 415) (m := 20) (q := 4) (by decide +kernel) ehB38 (by omega) rfl
                  refine And.intro ⟨rfl, by decide, by decide⟩ ?_
                  refine fload rL_741_741_17_22_1_0 h0 hB38 (by omega) ?_
                  intro z40 lz40 uz40 qz40
                  have v110 := mL_r (i0 := 17) (i1 := 22) (m := 1) (q := 0) (by decide +kernel) qz40 (by omega) rfl
                  rw [r100] at v110
                  have u110 := qz40.trans (fup_other ehB38 _ _ (Or.inr (by omega)))
                  intro z41 hz41 ez41 bz41
                  clear ez41
                  have bz41 := bz41 (by omega)
                  refine fstore rS_741_741_17_22_1_0 (fzs_sub (by decide +kernel) hW) (by omega) (by omega) ?_
                  intro IhB42 ehB42 hB42
                  have t43 := fup_self ehB42
                  have r113 := mS_r (i0 := 17) (i1 := 22) (m := 1) (q := 0) (by decide +kernel) ehB42 (by omega) rfl
                  refine And.intro ⟨rfl, by decide, by decide⟩ ?_
                  refine fload rL_741_741_17_22_1_0 h0 hB42 (by omega) ?_
                  intro z44 lz44 uz44 qz44
                  have v122 := mL_r (i0 := 17) (i1 := 22) (m := 1) (q := 0) (by decide +kernel) qz44 (by omega) rfl
                  rw [r113, r100] at v122
                  refine And.intro (True.intro) ?_
                  exact ⟨_, rfl, by omega, (pr_i (by omega) (pr_n (fun q => by have q1 := gt_at v68 (show _ = 17 + x1 by omega); have q2 := gt_at v79 (show _ = oGiA x2 x1 by unfold oGiA; split <;> omega); omega) (pr_e (by rw [r113, r100]; exact (gi_ofm (by omega) (by omega) (by unfold oGiA; split <;> omega) (by omega) v97 (by omega) v110 (by omega))) (by have q1 := gt_at (gt_n (by omega) (by omega) v110) (show _ = 17 + x1 by omega); omega))))⟩
                · intro c45
                  refine And.intro (True.intro) ?_
                  exact ⟨_, rfl, by omega, (pr_i (by omega) (pr_i (Or.inr (by rw [← gt_at v79 (show _ = oGiA x2 x1 by unfold oGiA; split <;> omega)]; omega)) rfl))⟩
          · intro c46
            refine And.intro (True.intro) ?_
            exact ⟨_, rfl, by omega, (pr_n (fun q => by omega) rfl)⟩
set_option maxRecDepth 8000 in
theorem ct_Works_addWork_6a13b {I : fH} {x1 : Int} {x2 : Int} {x3 : Int} {x4 : Int} {x5 : Int} (h0 : fB bsJ I) (ha1 : ((-2147483648) ≤ x1 ∧ x1 ≤ 2147483647)) (ha2 : (0 ≤ x2 ∧ x2 ≤ 19)) (ha3 : (1 ≤ x3 ∧ x3 ≤ 9999)) (ha4 : ((-2147483648) ≤ x4 ∧ x4 ≤ 2147483647)) (ha5 : ((-2147483648) ≤ x5 ∧ x5 ≤ 2147483647)) (hp0 : 0 ≤ x1 ∧ x1 ≤ 6) (hp1 : 0 ≤ x4 ∧ x4 ≤ 99999) (hp2 : 0 ≤ x5 ∧ x5 ≤ 99999) : fC ρ base n F xTc vwCl xTys D dA la gJ (fbz bsJ znJ (fKc wz_53189) I) xm_43 [.inr (.inr (some 163)), .inl x1, .inl x2, .inl x3, .inl x4, .inl x5] I (fun I' r => ∃ z, r = some (.inl z) ∧ (((0 ≤ z ∧ z ≤ 23) ∨ z = (-1000000003)) ∧ ((I 163 13 < 24 → z = I 163 13 ∧ I' 163 13 = I 163 13 + 1) ∧ (24 ≤ I 163 13 → z = (-1000000003) ∧ I' 163 13 = I 163 13))) ∧ (∀ j : Nat, I' 164 j = if (j : Int) = z then x1 else I 164 j) ∧ ((cR 0 I', z) = oNewW (cR 0 I) x1 x2 x3 x4 x5)) := by
  have hW : fzs wz_53189 (fKc wz_53189) := fKc_ok _
  refine f_meth (rb := rbJ) (J := []) 1 400 xG xin_43 x6_43 okJ (fB_self h0) ?_ ?_
  · exact fun q h => absurd h List.not_mem_nil
  · have hB0 := fB_self (zn := znJ) (K := fKc wz_53189) h0
    have w907 : I 163 13 = gt (cR 0 I) 7 := (cL_f (d := 0) (a := 163) (j := 13) (r := 7) (p := 7) (I := I) (z := I 163 13) (by decide +kernel) (by decide) rfl rfl)
    refine And.intro ⟨rfl, by decide, by decide⟩ (fgetf fb_163_13 h0 hB0 ?_)
    intro z1 lz1 uz1 qz1
    have v1 := cL_f (d := 0) (a := 163) (j := 13) (r := 7) (p := 7) (by decide +kernel) (by decide) qz1 rfl
    refine And.intro (And.intro (by first | exact fi_ lz1 uz1 rfl | omega) (by first | exact ⟨by decide, by decide⟩ | omega)) (And.intro ?_ ?_)
    · intro c2
      refine And.intro ⟨rfl, by decide, by decide⟩ ?_
      refine fstore1 rS_164_164_0_23_1_0 (fzs_sub (by decide +kernel) hW) ⟨by decide, by decide⟩ (by first | exact ⟨lz1, Int.le_trans (Int.le_sub_one_of_lt (Int.lt_of_lt_of_le c2 (Int.le_refl _))) (by decide)⟩ | omega) (by omega) ?_
      intro IhB3 ehB3 hB3
      have t4 := fup_self ehB3
      have t5 : IhB3 163 13 = I 163 13 := (congrFun (congrFun ehB3 163) 13).trans (fup_ne (by first | exact Or.inl (by decide) | omega))
      have r23 := cS_a (d := 0) (a := 164) (n := 24) (b := 530) (m := 14) (by decide +kernel) (by decide) ehB3 (by omega) rfl
      refine And.intro ⟨rfl, by decide, by decide⟩ ?_
      refine fstore1 rS_165_165_0_23_1_0 (fzs_sub (by decide +kernel) hW) ⟨by decide, by decide⟩ (by first | exact ⟨lz1, Int.le_trans (Int.le_sub_one_of_lt (Int.lt_of_lt_of_le c2 (Int.le_refl _))) (by decide)⟩ | omega) (by first | exact ⟨ha2.1, ha2.2⟩ | omega) ?_
      intro IhB6 ehB6 hB6
      have t7 := fup_self ehB6
      have t8 : IhB6 163 13 = IhB3 163 13 := (congrFun (congrFun ehB6 163) 13).trans (fup_ne (by first | exact Or.inl (by decide) | omega))
      have r31 := cS_a (d := 0) (a := 165) (n := 24) (b := 531) (m := 14) (by decide +kernel) (by decide) ehB6 (by omega) rfl
      refine And.intro ⟨rfl, by decide, by decide⟩ ?_
      refine fstore1 rS_166_166_0_23_1_0 (fzs_sub (by decide +kernel) hW) ⟨by decide, by decide⟩ (by first | exact ⟨lz1, Int.le_trans (Int.le_sub_one_of_lt (Int.lt_of_lt_of_le c2 (Int.le_refl _))) (by decide)⟩ | omega) (by first | exact ⟨Int.le_trans (by decide) ha3.1, ha3.2⟩ | omega) ?_
      intro IhB9 ehB9 hB9
      have t10 := fup_self ehB9
      have t11 : IhB9 163 13 = IhB6 163 13 := (congrFun (congrFun ehB9 163) 13).trans (fup_ne (by first | exact Or.inl (by decide) | omega))
      have r39 := cS_a (d := 0) (a := 166) (n := 24) (b := 532) (m := 14) (by decide +kernel) (by decide) ehB9 (by omega) rfl
      refine And.intro ⟨rfl, by decide, by decide⟩ ?_
      refine fstore1 rS_167_167_0_23_1_0 (fzs_sub (by decide +kernel) hW) ⟨by decide, by decide⟩ (by first | exact ⟨lz1, Int.le_trans (Int.le_sub_one_of_lt (Int.lt_of_lt_of_le c2 (Int.le_refl _))) (by decide)⟩ | omega) (by first | exact ⟨by decide, by decide⟩ | omega) ?_
      intro IhB12 ehB12 hB12
      have t13 := fup_self ehB12
      have t14 : IhB12 163 13 = IhB9 163 13 := (congrFun (congrFun ehB12 163) 13).trans (fup_ne (by first | exact Or.inl (by decide) | omega))
      have r47 := cS_a (d := 0) (a := 167) (n := 24) (b := 533) (m := 14) (by decide +kernel) (by decide) ehB12 (by omega) rfl
      refine And.intro ⟨rfl, by decide, by decide⟩ ?_
      refine fstore1 rS_168_168_0_23_1_0 (fzs_sub (by decide +kernel) hW) ⟨by decide, by decide⟩ (by first | exact ⟨lz1, Int.le_trans (Int.le_sub_one_of_lt (Int.lt_of_lt_of_le c2 (Int.le_refl _))) (by decide)⟩ | omega) (by first | exact ⟨by decide, by decide⟩ | omega) ?_
      intro IhB15 ehB15 hB15
      have t16 := fup_self ehB15
      have t17 : IhB15 163 13 = IhB12 163 13 := (congrFun (congrFun ehB15 163) 13).trans (fup_ne (by first | exact Or.inl (by decide) | omega))
      have r55 := cS_a (d := 0) (a := 168) (n := 24) (b := 534) (m := 14) (by decide +kernel) (by decide) ehB15 (by omega) rfl
      refine And.intro ⟨rfl, by decide, by decide⟩ ?_
      refine fstore1 rS_169_169_0_23_1_0 (fzs_sub (by decide +kernel) hW) ⟨by decide, by decide⟩ (by first | exact ⟨lz1, Int.le_trans (Int.le_sub_one_of_lt (Int.lt_of_lt_of_le c2 (Int.le_refl _))) (by decide)⟩ | omega) (by first | exact ⟨by decide, by decide⟩ | omega) ?_
      intro IhB18 ehB18 hB18
      have t19 := fup_self ehB18
      have t20 : IhB18 163 13 = IhB15 163 13 := (congrFun (congrFun ehB18 163) 13).trans (fup_ne (by first | exact Or.inl (by decide) | omega))
      have r63 := cS_a (d := 0) (a := 169) (n := 24) (b := 541) (m := 14) (by decide +kernel) (by decide) ehB18 (by omega) rfl
      refine And.intro ⟨rfl, by decide, by decide⟩ ?_
      refine fstore1 rS_170_170_0_23_1_0 (fzs_sub (by decide +kernel) hW) ⟨by decide, by decide⟩ (by first | exact ⟨lz1, Int.le_trans (Int.le_sub_one_of_lt (Int.lt_of_lt_of_le c2 (Int.le_refl _))) (by decide)⟩ | omega) (by first | exact ⟨by decide, by decide⟩ | omega) ?_
      intro IhB21 ehB21 hB21
      have t22 := fup_self ehB21
      have t23 : IhB21 163 13 = IhB18 163 13 := (congrFun (congrFun ehB21 163) 13).trans (fup_ne (by first | exact Or.inl (by decide) | omega))
      have r71 := cS_a (d := 0) (a := 170) (n := 24) (b := 542) (m := 14) (by decide +kernel) (by decide) ehB21 (by omega) rfl
      refine And.intro ⟨rfl, by decide, by decide⟩ ?_
      refine fstore1 rS_171_171_0_23_1_0 (fzs_sub (by decide +kernel) hW) ⟨by decide, by decide⟩ (by first | exact ⟨lz1, Int.le_trans (Int.le_sub_one_of_lt (Int.lt_of_lt_of_le c2 (Int.le_refl _))) (by decide)⟩ | omega) (by omega) ?_
      intro IhB24 ehB24 hB24
      have t25 := fup_self ehB24
      have t26 : IhB24 163 13 = IhB21 163 13 := (congrFun (congrFun ehB24 163) 13).trans (fup_ne (by first | exact Or.inl (by decide) | omega))
      have r80 := cS_a (d := 0) (a := 171) (n := 24) (b := 535) (m := 14) (by decide +kernel) (by decide) ehB24 (by omega) rfl
      refine And.intro ⟨rfl, by decide, by decide⟩ ?_
      refine fstore1 rS_172_172_0_23_1_0 (fzs_sub (by decide +kernel) hW) ⟨by decide, by decide⟩ (by first | exact ⟨lz1, Int.le_trans (Int.le_sub_one_of_lt (Int.lt_of_lt_of_le c2 (Int.le_refl _))) (by decide)⟩ | omega) (by omega) ?_
      intro IhB27 ehB27 hB27
      have t28 := fup_self ehB27
      have t29 : IhB27 163 13 = IhB24 163 13 := (congrFun (congrFun ehB27 163) 13).trans (fup_ne (by first | exact Or.inl (by decide) | omega))
      have r89 := cS_a (d := 0) (a := 172) (n := 24) (b := 536) (m := 14) (by decide +kernel) (by decide) ehB27 (by omega) rfl
      refine And.intro ⟨rfl, by decide, by decide⟩ ?_
      refine fstore1 rS_173_173_0_23_1_0 (fzs_sub (by decide +kernel) hW) ⟨by decide, by decide⟩ (by first | exact ⟨lz1, Int.le_trans (Int.le_sub_one_of_lt (Int.lt_of_lt_of_le c2 (Int.le_refl _))) (by decide)⟩ | omega) (by first | exact ⟨by decide, by decide⟩ | omega) ?_
      intro IhB30 ehB30 hB30
      have t31 := fup_self ehB30
      have t32 : IhB30 163 13 = IhB27 163 13 := (congrFun (congrFun ehB30 163) 13).trans (fup_ne (by first | exact Or.inl (by decide) | omega))
      have r97 := cS_a (d := 0) (a := 173) (n := 24) (b := 537) (m := 14) (by decide +kernel) (by decide) ehB30 (by omega) rfl
      refine And.intro ⟨rfl, by decide, by decide⟩ ?_
      refine fstore1 rS_174_174_0_23_1_0 (fzs_sub (by decide +kernel) hW) ⟨by decide, by decide⟩ (by first | exact ⟨lz1, Int.le_trans (Int.le_sub_one_of_lt (Int.lt_of_lt_of_le c2 (Int.le_refl _))) (by decide)⟩ | omega) (by first | exact ⟨by decide, by decide⟩ | omega) ?_
      intro IhB33 ehB33 hB33
      have t34 := fup_self ehB33
      have t35 : IhB33 163 13 = IhB30 163 13 := (congrFun (congrFun ehB33 163) 13).trans (fup_ne (by first | exact Or.inl (by decide) | omega))
      have r105 := cS_a (d := 0) (a := 174) (n := 24) (b := 538) (m := 14) (by decide +kernel) (by decide) ehB33 (by omega) rfl
      refine And.intro ⟨rfl, by decide, by decide⟩ ?_
      refine fstore1 rS_175_175_0_23_1_0 (fzs_sub (by decide +kernel) hW) ⟨by decide, by decide⟩ (by first | exact ⟨lz1, Int.le_trans (Int.le_sub_one_of_lt (Int.lt_of_lt_of_le c2 (Int.le_refl _))) (by decide)⟩ | omega) (by first | exact ⟨by decide, by decide⟩ | omega) ?_
      intro IhB36 ehB36 hB36
      have t37 := fup_self ehB36
      have t38 : IhB36 163 13 = IhB33 163 13 := (congrFun (congrFun ehB36 163) 13).trans (fup_ne (by first | exact Or.inl (by decide) | omega))
      have r114 := cS_l (d := 0) ehB36 (by omega) rfl
      refine And.intro ⟨rfl, by decide, by decide⟩ ?_
      refine fstore1 rS_176_176_0_23_1_0 (fzs_sub (by decide +kernel) hW) ⟨by decide, by decide⟩ (by first | exact ⟨lz1, Int.le_trans (Int.le_sub_one_of_lt (Int.lt_of_lt_of_le c2 (Int.le_refl _))) (by decide)⟩ | omega) (by first | exact ⟨by decide, by decide⟩ | omega) ?_
      intro IhB39 ehB39 hB39
      have t40 := fup_self ehB39
      have t41 : IhB39 163 13 = IhB36 163 13 := (congrFun (congrFun ehB39 163) 13).trans (fup_ne (by first | exact Or.inl (by decide) | omega))
      have r122 := cS_a (d := 0) (a := 176) (n := 24) (b := 540) (m := 14) (by decide +kernel) (by decide) ehB39 (by omega) rfl
      refine And.intro ⟨rfl, by decide, by decide⟩ (And.intro rfl (And.intro (Or.inl rfl) (fputf fb_163_13 (by decide +kernel) hW (by omega) ?_)))
      intro IhB42 ehB42 hB42
      have t43 := fup_at ehB42 13 (by first | rfl | omega)
      have r128 := cS_f (d := 0) (a := 163) (j := 13) (r := 7) (p := 7) (by decide +kernel) (by decide) ehB42 rfl
      refine And.intro (True.intro) ?_
      exact ⟨_, rfl, by omega, (fun j => ((fup_other ehB42 164 j (Or.inl (by decide))).trans ((fup_other ehB39 164 j (Or.inl (by decide))).trans ((fup_other ehB36 164 j (Or.inl (by decide))).trans ((fup_other ehB33 164 j (Or.inl (by decide))).trans ((fup_other ehB30 164 j (Or.inl (by decide))).trans ((fup_other ehB27 164 j (Or.inl (by decide))).trans ((fup_other ehB24 164 j (Or.inl (by decide))).trans ((fup_other ehB21 164 j (Or.inl (by decide))).trans ((fup_other ehB18 164 j (Or.inl (by decide))).trans ((fup_other ehB15 164 j (Or.inl (by decide))).trans ((fup_other ehB12 164 j (Or.inl (by decide))).trans ((fup_other ehB9 164 j (Or.inl (by decide))).trans (fup_other ehB6 164 j (Or.inl (by decide))))))))))))))).trans ((fup_if ehB3 j).trans (if_go (by omega) rfl))), (pr_y (by omega) (Eq.trans (by rw [r128, r122, r114, r105, r97, r89, r80, r71, r63, r55, r47, r39, r31, r23]; exact (rud_c (rud_c (rud_c (rud_c (rud_c (rud_c (rud_c (rud_c (rud_c (rud_c (rud_c (rud_c (rud_c (rud_c rfl (by omega) (by first | omega | decide)) (by omega) (by first | omega | decide)) (by omega) (by first | omega | decide)) (by omega) (by first | omega | decide)) (by omega) (by first | omega | decide)) (by omega) (by first | omega | decide)) (by omega) (by first | omega | decide)) (by omega) (by first | omega | decide)) (by omega) (by first | omega | decide)) (by omega) (by first | omega | decide)) (by omega) (by first | omega | decide)) (by omega) (by first | omega | decide)) (by omega) (by first | omega | decide)) (by omega) (by first | omega | decide))) (wo_cl (n := z1) (by omega) (by omega))) (by omega))⟩
    · intro c44
      refine And.intro (True.intro) ?_
      exact ⟨_, rfl, by omega, (fun j => if_no (by omega)), (pr_n (fun q => by omega) rfl)⟩
set_option maxRecDepth 8000 in
theorem ct_Works_canBe_a5940 {I : fH} {x1 : Int} {x2 : Int} {x3 : Int} (h0 : fB bsJ I) (ha1 : ((-2147483648) ≤ x1 ∧ x1 ≤ 2147483647)) (ha2 : ((-2147483648) ≤ x2 ∧ x2 ≤ 2147483647)) (ha3 : ((-2147483648) ≤ x3 ∧ x3 ≤ 2147483647)) : fC ρ base n F xTc vwCl xTys D dA la gJ (fbz bsJ znJ (fKc []) I) xm_42 [.inr (.inr (some 163)), .inl x1, .inl x2, .inl x3] I (fun _ r => ∃ z, r = some (.inl z) ∧ (0 ≤ z ∧ z ≤ 1) ∧ ((z = 1 ∧ wFit (I 163 13) (I 164 x2.toNat) x1 x2 x3) ∨ (z = 0 ∧ ¬ wFit (I 163 13) (I 164 x2.toNat) x1 x2 x3))) := by
  have hW : fzs [] (fKc []) := fKc_ok _
  refine f_meth (rb := rbJ) (J := []) 1 400 xG xin_42 x6_42 okJ (fB_self h0) ?_ ?_
  · exact fun q h => absurd h List.not_mem_nil
  · have hB0 := fB_self (zn := znJ) (K := fKc []) h0
    have b1 := fBd fb_163_13 (fBz h0 hB0)
    refine And.intro (by first | exact fi_ ha1.1 ha1.2 rfl | omega) (And.intro ?_ ?_)
    · refine And.intro (fun ex => ?_) (And.intro (fun ex => ?_) (And.intro (fun ex => ?_) (And.intro (fun ex => ?_) (And.intro (fun ex => ?_) (And.intro (fun ex => ?_) (And.intro (fun ex => ?_) (True.intro)))))))
      · skip
        refine And.intro (by first | exact fi_ ha2.1 ha2.2 rfl | omega) (And.intro ?_ ?_)
        · intro c2
          refine And.intro (⟨by omega, by omega⟩) ?_
          exact ⟨_, rfl, by omega, (by first | exact Or.inl ⟨by omega, by unfold wFit; omega⟩ | exact Or.inr ⟨by omega, by unfold wFit; omega⟩)⟩
        · intro c3
          refine And.intro (by first | exact fi_ ha3.1 ha3.2 rfl | omega) (And.intro ?_ ?_)
          · intro c4
            refine And.intro (⟨by omega, by omega⟩) ?_
            exact ⟨_, rfl, by omega, (by first | exact Or.inl ⟨by omega, by unfold wFit; omega⟩ | exact Or.inr ⟨by omega, by unfold wFit; omega⟩)⟩
          · intro c5
            refine And.intro (⟨by decide, by decide⟩) ?_
            exact ⟨_, rfl, (by first | exact ⟨by decide, by decide⟩ | omega), (by first | exact Or.inl ⟨by omega, by unfold wFit; omega⟩ | exact Or.inr ⟨by omega, by unfold wFit; omega⟩)⟩
      · skip
        refine Exists.intro xm_13 (And.intro mi_13 (And.intro ⟨rfl, rfl, rfl, rfl⟩ (And.intro True.intro ?_)))
        refine fcallp hB0 (ct_X_within_c27b1 (fBz h0 hB0) (by first | exact ⟨ha2.1, ha2.2⟩ | omega) (by first | exact ⟨by decide, by decide⟩ | omega) (by first | exact ⟨by decide, by decide⟩ | omega)) ?_
        rintro _ ⟨z6, rfl, hz6⟩
        refine And.intro (by omega) (And.intro ?_ ?_)
        · intro c7
          refine And.intro (⟨by omega, by omega⟩) ?_
          exact ⟨_, rfl, by omega, (by first | exact Or.inl ⟨by omega, by unfold wFit; omega⟩ | exact Or.inr ⟨by omega, by unfold wFit; omega⟩)⟩
        · intro c8
          refine Exists.intro xm_13 (And.intro mi_13 (And.intro ⟨rfl, rfl, rfl, rfl⟩ (And.intro True.intro ?_)))
          refine fcallp hB0 (ct_X_within_c27b1 (fBz h0 hB0) (by first | exact ⟨ha3.1, ha3.2⟩ | omega) (by first | exact ⟨by decide, by decide⟩ | omega) (by first | exact ⟨by decide, by decide⟩ | omega)) ?_
          rintro _ ⟨z9, rfl, hz9⟩
          refine And.intro (by omega) (And.intro ?_ ?_)
          · intro c10
            refine And.intro (⟨by omega, by omega⟩) ?_
            exact ⟨_, rfl, by omega, (by first | exact Or.inl ⟨by omega, by unfold wFit; omega⟩ | exact Or.inr ⟨by omega, by unfold wFit; omega⟩)⟩
          · intro c11
            refine And.intro (⟨by decide, by decide⟩) ?_
            exact ⟨_, rfl, (by first | exact ⟨by decide, by decide⟩ | omega), (by first | exact Or.inl ⟨by omega, by unfold wFit; omega⟩ | exact Or.inr ⟨by omega, by unfold wFit; omega⟩)⟩
      · skip
        refine Exists.intro xm_13 (And.intro mi_13 (And.intro ⟨rfl, rfl, rfl, rfl⟩ (And.intro True.intro ?_)))
        refine fcallp hB0 (ct_X_within_c27b1 (fBz h0 hB0) (by first | exact ⟨ha2.1, ha2.2⟩ | omega) (by first | exact ⟨by decide, by decide⟩ | omega) (by first | exact ⟨by decide, by decide⟩ | omega)) ?_
        rintro _ ⟨z12, rfl, hz12⟩
        refine And.intro (by omega) (And.intro ?_ ?_)
        · intro c13
          refine And.intro (⟨by omega, by omega⟩) ?_
          exact ⟨_, rfl, by omega, (by first | exact Or.inl ⟨by omega, by unfold wFit; omega⟩ | exact Or.inr ⟨by omega, by unfold wFit; omega⟩)⟩
        · intro c14
          refine And.intro (by first | exact fi_ ha3.1 ha3.2 rfl | omega) (And.intro ?_ ?_)
          · intro c15
            refine And.intro (⟨by omega, by omega⟩) ?_
            exact ⟨_, rfl, by omega, (by first | exact Or.inl ⟨by omega, by unfold wFit; omega⟩ | exact Or.inr ⟨by omega, by unfold wFit; omega⟩)⟩
          · intro c16
            refine And.intro (⟨by decide, by decide⟩) ?_
            exact ⟨_, rfl, (by first | exact ⟨by decide, by decide⟩ | omega), (by first | exact Or.inl ⟨by omega, by unfold wFit; omega⟩ | exact Or.inr ⟨by omega, by unfold wFit; omega⟩)⟩
      · skip
        refine Exists.intro xm_13 (And.intro mi_13 (And.intro ⟨rfl, rfl, rfl, rfl⟩ (And.intro True.intro ?_)))
        refine fcallp hB0 (ct_X_within_c27b1 (fBz h0 hB0) (by first | exact ⟨ha2.1, ha2.2⟩ | omega) (by first | exact ⟨by decide, by decide⟩ | omega) (by first | exact ⟨by decide, by decide⟩ | omega)) ?_
        rintro _ ⟨z17, rfl, hz17⟩
        refine And.intro (by omega) (And.intro ?_ ?_)
        · intro c18
          refine And.intro (⟨by omega, by omega⟩) ?_
          exact ⟨_, rfl, by omega, (by first | exact Or.inl ⟨by omega, by unfold wFit; omega⟩ | exact Or.inr ⟨by omega, by unfold wFit; omega⟩)⟩
        · intro c19
          refine And.intro (by first | exact fi_ ha3.1 ha3.2 rfl | omega) (And.intro ?_ ?_)
          · intro c20
            refine And.intro (⟨by omega, by omega⟩) ?_
            exact ⟨_, rfl, by omega, (by first | exact Or.inl ⟨by omega, by unfold wFit; omega⟩ | exact Or.inr ⟨by omega, by unfold wFit; omega⟩)⟩
          · intro c21
            refine And.intro (⟨by decide, by decide⟩) ?_
            exact ⟨_, rfl, (by first | exact ⟨by decide, by decide⟩ | omega), (by first | exact Or.inl ⟨by omega, by unfold wFit; omega⟩ | exact Or.inr ⟨by omega, by unfold wFit; omega⟩)⟩
      · skip
        refine Exists.intro xm_13 (And.intro mi_13 (And.intro ⟨rfl, rfl, rfl, rfl⟩ (And.intro True.intro ?_)))
        refine fcallp hB0 (ct_X_within_c27b1 (fBz h0 hB0) (by first | exact ⟨ha2.1, ha2.2⟩ | omega) (by first | exact ⟨by decide, by decide⟩ | omega) (by first | exact ⟨by decide, by decide⟩ | omega)) ?_
        rintro _ ⟨z22, rfl, hz22⟩
        refine And.intro (by omega) (And.intro ?_ ?_)
        · intro c23
          refine And.intro (⟨by omega, by omega⟩) ?_
          exact ⟨_, rfl, by omega, (by first | exact Or.inl ⟨by omega, by unfold wFit; omega⟩ | exact Or.inr ⟨by omega, by unfold wFit; omega⟩)⟩
        · intro c24
          refine And.intro (by first | exact fi_ ha3.1 ha3.2 rfl | omega) (And.intro ?_ ?_)
          · intro c25
            refine And.intro (⟨by omega, by omega⟩) ?_
            exact ⟨_, rfl, by omega, (by first | exact Or.inl ⟨by omega, by unfold wFit; omega⟩ | exact Or.inr ⟨by omega, by unfold wFit; omega⟩)⟩
          · intro c26
            refine And.intro (⟨by decide, by decide⟩) ?_
            exact ⟨_, rfl, (by first | exact ⟨by decide, by decide⟩ | omega), (by first | exact Or.inl ⟨by omega, by unfold wFit; omega⟩ | exact Or.inr ⟨by omega, by unfold wFit; omega⟩)⟩
      · skip
        refine And.intro ⟨rfl, by decide, by decide⟩ (fgetf fb_163_13 h0 hB0 ?_)
        intro z27 lz27 uz27 qz27
        refine Exists.intro xm_13 (And.intro mi_13 (And.intro ⟨rfl, rfl, rfl, rfl⟩ (And.intro True.intro ?_)))
        refine fcallp hB0 (ct_X_within_c27b1 (fBz h0 hB0) (by first | exact ⟨ha2.1, ha2.2⟩ | omega) (by first | exact ⟨by decide, by decide⟩ | omega) (by omega)) ?_
        rintro _ ⟨z28, rfl, hz28⟩
        refine And.intro (by omega) (And.intro ?_ ?_)
        · intro c29
          refine And.intro (⟨by omega, by omega⟩) ?_
          exact ⟨_, rfl, by omega, (by first | exact Or.inl ⟨by omega, by unfold wFit; omega⟩ | exact Or.inr ⟨by omega, by unfold wFit; omega⟩)⟩
        · intro c30
          refine And.intro ⟨rfl, by decide, by decide⟩ ?_
          refine fload rL_164_164_0_23_1_0 h0 hB0 (by omega) ?_
          intro z31 lz31 uz31 qz31
          refine And.intro (And.intro (by first | exact fi_ lz31 uz31 rfl | omega) (by first | exact ⟨by decide, by decide⟩ | omega)) (And.intro ?_ ?_)
          · intro c32
            refine And.intro (⟨by omega, by omega⟩) ?_
            exact ⟨_, rfl, by omega, (by first | exact Or.inl ⟨by omega, by unfold wFit; omega⟩ | exact Or.inr ⟨by omega, by unfold wFit; omega⟩)⟩
          · intro c33
            refine Exists.intro xm_13 (And.intro mi_13 (And.intro ⟨rfl, rfl, rfl, rfl⟩ (And.intro True.intro ?_)))
            refine fcallp hB0 (ct_X_within_c27b1 (fBz h0 hB0) (by first | exact ⟨ha3.1, ha3.2⟩ | omega) (by first | exact ⟨by decide, by decide⟩ | omega) (by first | exact ⟨by decide, by decide⟩ | omega)) ?_
            rintro _ ⟨z34, rfl, hz34⟩
            refine And.intro (by omega) (And.intro ?_ ?_)
            · intro c35
              refine And.intro (⟨by omega, by omega⟩) ?_
              exact ⟨_, rfl, by omega, (by first | exact Or.inl ⟨by omega, by unfold wFit; omega⟩ | exact Or.inr ⟨by omega, by unfold wFit; omega⟩)⟩
            · intro c36
              refine And.intro (⟨by decide, by decide⟩) ?_
              exact ⟨_, rfl, (by first | exact ⟨by decide, by decide⟩ | omega), (by first | exact Or.inl ⟨by omega, by unfold wFit; omega⟩ | exact Or.inr ⟨by omega, by unfold wFit; omega⟩)⟩
      · skip
        refine Exists.intro xm_13 (And.intro mi_13 (And.intro ⟨rfl, rfl, rfl, rfl⟩ (And.intro True.intro ?_)))
        refine fcallp hB0 (ct_X_within_c27b1 (fBz h0 hB0) (by first | exact ⟨ha2.1, ha2.2⟩ | omega) (by first | exact ⟨by decide, by decide⟩ | omega) (by first | exact ⟨by decide, by decide⟩ | omega)) ?_
        rintro _ ⟨z37, rfl, hz37⟩
        refine And.intro (by omega) (And.intro ?_ ?_)
        · intro c38
          refine And.intro (⟨by omega, by omega⟩) ?_
          exact ⟨_, rfl, by omega, (by first | exact Or.inl ⟨by omega, by unfold wFit; omega⟩ | exact Or.inr ⟨by omega, by unfold wFit; omega⟩)⟩
        · intro c39
          refine And.intro (by first | exact fi_ ha3.1 ha3.2 rfl | omega) (And.intro ?_ ?_)
          · intro c40
            refine And.intro (⟨by omega, by omega⟩) ?_
            exact ⟨_, rfl, by omega, (by first | exact Or.inl ⟨by omega, by unfold wFit; omega⟩ | exact Or.inr ⟨by omega, by unfold wFit; omega⟩)⟩
          · intro c41
            refine And.intro (⟨by decide, by decide⟩) ?_
            exact ⟨_, rfl, (by first | exact ⟨by decide, by decide⟩ | omega), (by first | exact Or.inl ⟨by omega, by unfold wFit; omega⟩ | exact Or.inr ⟨by omega, by unfold wFit; omega⟩)⟩
    · intro c42
      simp only [List.length_cons, List.length_nil] at c42
      refine And.intro (⟨by decide, by decide⟩) ?_
      exact ⟨_, rfl, (by first | exact ⟨by decide, by decide⟩ | omega), (by first | exact Or.inl ⟨by omega, by unfold wFit; omega⟩ | exact Or.inr ⟨by omega, by unfold wFit; omega⟩)⟩
set_option maxRecDepth 8000 in
theorem ct_X_work_2ffbc {I : fH} {x1 : Int} {x2 : Int} {x3 : Int} {x4 : Int} {x5 : Int} (h0 : fB bsJ I) (ha1 : ((-2147483648) ≤ x1 ∧ x1 ≤ 2147483647)) (ha2 : ((-2147483648) ≤ x2 ∧ x2 ≤ 2147483647)) (ha3 : ((-2147483648) ≤ x3 ∧ x3 ≤ 2147483647)) (ha4 : ((-2147483648) ≤ x4 ∧ x4 ≤ 2147483647)) (ha5 : ((-2147483648) ≤ x5 ∧ x5 ≤ 2147483647)) : fC ρ base n F xTc vwCl xTys D dA la gJ (fbz bsJ znJ (fKc wz_53189) I) xm_41 [.inr (.inr (some 0)), .inl x1, .inl x2, .inl x3, .inl x4, .inl x5] I (fun I' r => ∃ z, r = some (.inl z) ∧ ((0 ≤ z ∧ z ≤ 23) ∨ z = (-1000000003) ∨ z = (-1000000001)) ∧ (∀ j : Nat, I' 164 j = if (j : Int) = z then x1 else I 164 j) ∧ (((0 ≤ x2 ∧ x2 < I 2 5 ∧ 1 ≤ x3 ∧ x3 ≤ 9999) ∧ wFit (I 163 13) (I 164 x4.toNat) x1 x4 x5 ∧ ((I 163 13 < 24 ∧ z = I 163 13 ∧ I' 163 13 = I 163 13 + 1) ∨ (24 ≤ I 163 13 ∧ z = (-1000000003) ∧ I' 163 13 = I 163 13))) ∨ (¬ ((0 ≤ x2 ∧ x2 < I 2 5 ∧ 1 ≤ x3 ∧ x3 ≤ 9999) ∧ wFit (I 163 13) (I 164 x4.toNat) x1 x4 x5) ∧ z = (-1000000001) ∧ I' 163 13 = I 163 13)) ∧ ((cR 0 I', z) = oWork (cR 0 I) x1 x2 x3 x4 x5)) := by
  have hW : fzs wz_53189 (fKc wz_53189) := fKc_ok _
  refine f_meth (rb := rbJ) (J := []) 1 400 xG xin_41 x6_41 okJ (fB_self h0) ?_ ?_
  · exact fun q h => absurd h List.not_mem_nil
  · have hB0 := fB_self (zn := znJ) (K := fKc wz_53189) h0
    have b1 := fBd fb_163_13 (fBz h0 hB0)
    have w905 : I 2 5 = gt (cR 0 I) 5 := (cL_f (d := 0) (a := 2) (j := 5) (r := 5) (p := 5) (I := I) (z := I 2 5) (by decide +kernel) (by decide) rfl rfl)
    have w907 : I 163 13 = gt (cR 0 I) 7 := (cL_f (d := 0) (a := 163) (j := 13) (r := 7) (p := 7) (I := I) (z := I 163 13) (by decide +kernel) (by decide) rfl rfl)
    refine And.intro ⟨rfl, by decide, by decide⟩ ?_
    refine Exists.intro xm_17 (And.intro mi_17 (And.intro ⟨rfl, rfl, rfl, rfl⟩ (And.intro rfl ?_)))
    refine fcallp hB0 (ct_City_isCell_46f02 (fBz h0 hB0) (by first | exact ⟨ha2.1, ha2.2⟩ | omega)) ?_
    rintro _ ⟨z2, rfl, hz2⟩
    refine And.intro (by omega) (And.intro ?_ ?_)
    · intro c3
      refine And.intro (True.intro) ?_
      exact ⟨_, rfl, by omega, (by first | exact g0nil0 | exact fun j => if_no (by omega)), (by first | exact Or.inr ⟨fun q => absurd q.1 (by omega), by omega, by omega⟩ | exact Or.inr ⟨fun q => g0nil0.elim (fun w => absurd w.1 (by omega)) (fun w => w.2 q.2), by omega, by omega⟩), (ci_n (fun w => by have w1 := w.1; omega) rfl)⟩
    · intro c4
      refine Exists.intro xm_13 (And.intro mi_13 (And.intro ⟨rfl, rfl, rfl, rfl⟩ (And.intro True.intro ?_)))
      refine fcallp hB0 (ct_X_within_c27b1 (fBz h0 hB0) (by first | exact ⟨ha3.1, ha3.2⟩ | omega) (by first | exact ⟨by decide, by decide⟩ | omega) (by first | exact ⟨by decide, by decide⟩ | omega)) ?_
      rintro _ ⟨z5, rfl, hz5⟩
      refine And.intro (by omega) (And.intro ?_ ?_)
      · intro c6
        refine And.intro (True.intro) ?_
        exact ⟨_, rfl, by omega, (by first | exact g0nil0 | exact fun j => if_no (by omega)), (by first | exact Or.inr ⟨fun q => absurd q.1 (by omega), by omega, by omega⟩ | exact Or.inr ⟨fun q => g0nil0.elim (fun w => absurd w.1 (by omega)) (fun w => w.2 q.2), by omega, by omega⟩), (ci_n (fun w => by have w1 := w.1; omega) rfl)⟩
      · intro c7
        refine And.intro ⟨rfl, by decide, by decide⟩ ?_
        refine And.intro ⟨rfl, by decide, by decide⟩ ?_
        refine Exists.intro xm_42 (And.intro mi_42 (And.intro ⟨rfl, rfl, rfl, rfl⟩ (And.intro rfl ?_)))
        refine fcallp hB0 (ct_Works_canBe_a5940 (fBz h0 hB0) (by first | exact ⟨ha1.1, ha1.2⟩ | omega) (by first | exact ⟨ha4.1, ha4.2⟩ | omega) (by first | exact ⟨ha5.1, ha5.2⟩ | omega)) ?_
        rintro _ ⟨z8, rfl, hz8, g0z8⟩
        refine And.intro (by omega) (And.intro ?_ ?_)
        · intro c9
          have wf := wFit_bd (g0z8.elim (fun q => q.2) (fun q => absurd q.1 (by omega))) (by omega)
          refine And.intro ⟨rfl, by decide, by decide⟩ ?_
          refine And.intro ⟨rfl, by decide, by decide⟩ ?_
          refine Exists.intro xm_43 (And.intro mi_43 (And.intro ⟨rfl, rfl, rfl, rfl⟩ (And.intro rfl ?_)))
          refine fcall _ h0 (fzs_sub (by decide +kernel) hW) hB0 (ct_Works_addWork_6a13b (fBz h0 hB0) (by first | exact ⟨ha1.1, ha1.2⟩ | omega) (by omega) (by first | exact ⟨Int.le_trans (by decide) (Int.le_trans (Int.le_refl _) hz5.1), Int.le_trans (Int.le_trans hz5.2 (Int.le_refl _)) (by decide)⟩ | omega) (by first | exact ⟨ha4.1, ha4.2⟩ | omega) (by first | exact ⟨ha5.1, ha5.2⟩ | omega) (by omega) (by omega) (by omega)) ?_
          rintro IhB11 _ hB11 fhB11 ⟨z10, rfl, hz10, g0z10, g1z10⟩
          refine And.intro (True.intro) ?_
          exact ⟨_, rfl, by omega, (by first | exact g0z10 | exact fun j => if_no (by omega)), (g0z8.elim (fun q => Or.inl ⟨by omega, q.2, by omega⟩) (fun q => absurd q.1 (by omega))), (ci_y ⟨⟨by omega, by omega, by omega⟩, (wFit_congr (by omega) (fun l1 l2 => (cL_a (d := 0) (a := 164) (n := 24) (b := 530) (m := 14) (i := x4) (by decide +kernel) (by decide) rfl (by omega) (by omega))) (g0z8.elim (fun q => q.2) (fun q => absurd q.1 (by omega))))⟩ g1z10)⟩
        · intro c12
          refine And.intro (True.intro) ?_
          exact ⟨_, rfl, by omega, (by first | exact g0z10 | exact fun j => if_no (by omega)), (by first | exact Or.inr ⟨fun q => absurd q.1 (by omega), by omega, by omega⟩ | exact Or.inr ⟨fun q => g0z8.elim (fun w => absurd w.1 (by omega)) (fun w => w.2 q.2), by omega, by omega⟩), (ci_n (fun w => (g0z8.elim (fun q => absurd q.1 (by omega)) (fun q => q.2)) (wFit_congr (by omega) (fun l1 l2 => (cL_a (d := 0) (a := 164) (n := 24) (b := 530) (m := 14) (i := x4) (by decide +kernel) (by decide) rfl (by omega) (by omega)).symm) w.2)) rfl)⟩
set_option maxRecDepth 8000 in
theorem ct_M_isWork_a0fef {I : fH} {x1 : Int} (h0 : fB bsJ I) (ha1 : ((-2147483648) ≤ x1 ∧ x1 ≤ 2147483647)) : fC ρ base n F xTc vwCl xTys D dA la gJ (fbz bsJ znJ (fKc []) I) xm_266 [.inr (.inr (some 740)), .inl x1] I (fun _ r => ∃ z, r = some (.inl z) ∧ (((z = 1 ∧ 0 ≤ x1 ∧ x1 ≤ 23) ∨ z = 0) ∧ ((z = 1 ∧ 0 ≤ x1 ∧ x1 < I 741 7) ∨ (z = 0 ∧ ¬ (0 ≤ x1 ∧ x1 < I 741 7))))) := by
  have hW : fzs [] (fKc []) := fKc_ok _
  refine f_meth (rb := rbJ) (J := []) 1 400 xG xin_266 x6_266 okJ (fB_self h0) ?_ ?_
  · exact fun q h => absurd h List.not_mem_nil
  · have hB0 := fB_self (zn := znJ) (K := fKc []) h0
    have b1 := fBd fb_741_7 (fBz h0 hB0)
    refine And.intro (by first | exact fi_ ha1.1 ha1.2 rfl | omega) ?_
    refine And.intro ⟨rfl, by decide, by decide⟩ ?_
    refine fload1 rL_741_741_7_7_1_0 h0 hB0 ⟨by decide, by decide⟩ (by first | exact ⟨by decide, by decide⟩ | omega) ?_
    intro z2 lz2 uz2 qz2
    have pz2 := fld_at qz2 7 (by omega)
    refine And.intro (by omega) ?_
    refine Exists.intro xm_238 (And.intro mi_238 (And.intro ⟨rfl, rfl, rfl, rfl⟩ (And.intro True.intro ?_)))
    refine fcallp hB0 (ct_M_isIn_27230 (fBz h0 hB0) (by first | exact ⟨ha1.1, ha1.2⟩ | omega) (by first | exact ⟨by decide, by decide⟩ | omega) (by omega)) ?_
    rintro _ ⟨z3, rfl, hz3⟩
    refine And.intro (⟨by omega, by omega⟩) ?_
    exact ⟨_, rfl, by omega⟩
set_option maxRecDepth 8000 in
theorem ct_M_kindOf_31275 {I : fH} {x1 : Int} (h0 : fB bsJ I) (ha1 : (0 ≤ x1 ∧ x1 ≤ 23)) : fC ρ base n F xTc vwCl xTys D dA la gJ (fbz bsJ znJ (fKc []) I) xm_267 [.inr (.inr (some 740)), .inl x1] I (fun _ r => ∃ z, r = some (.inl z) ∧ (0 ≤ z ∧ z ≤ 6) ∧ (z = I 741 (530 + 14 * x1).toNat) ∧ (z = gt (mR I) (530 + 14 * x1))) := by
  have hW : fzs [] (fKc []) := fKc_ok _
  refine f_meth (rb := rbJ) (J := []) 1 400 xG xin_267 x6_267 okJ (fB_self h0) ?_ ?_
  · exact fun q h => absurd h List.not_mem_nil
  · have hB0 := fB_self (zn := znJ) (K := fKc []) h0
    refine And.intro ⟨rfl, by decide, by decide⟩ ?_
    refine Exists.intro xm_244 (And.intro mi_244 (And.intro ⟨rfl, rfl, rfl, rfl⟩ (And.intro rfl ?_)))
    refine fcallp hB0 (ct_M_workAt_83d38 (fBz h0 hB0) (by first | exact ⟨ha1.1, ha1.2⟩ | omega)) ?_
    rintro _ ⟨_, rfl, rfl⟩
    refine fload rL_741_741_530_852_14_0 h0 hB0 (by omega) ?_
    intro z2 lz2 uz2 qz2
    have v11 := mL_r (i0 := 530) (i1 := 852) (m := 14) (q := 0) (by decide +kernel) qz2 (by omega) rfl
    refine And.intro (True.intro) ?_
    exact ⟨_, rfl, (by first | exact ⟨lz2, uz2⟩ | omega), (fld_at qz2 _ (by omega)), (gt_at v11 (by omega))⟩
set_option maxRecDepth 8000 in
theorem ct_M_fits_3179d {I : fH} {x1 : Int} {x2 : Int} {x3 : Int} (h0 : fB bsJ I) (ha1 : (0 ≤ x1 ∧ x1 ≤ 6)) (ha2 : ((-2147483648) ≤ x2 ∧ x2 ≤ 2147483647)) (ha3 : ((-2147483648) ≤ x3 ∧ x3 ≤ 2147483647)) : fC ρ base n F xTc vwCl xTys D dA la gJ (fbz bsJ znJ (fKc []) I) xm_265 [.inr (.inr (some 740)), .inl x1, .inl x2, .inl x3] I (fun _ r => ∃ z, r = some (.inl z) ∧ (0 ≤ z ∧ z ≤ 1) ∧ ((z = 1 ∧ wFit (I 741 7) (I 741 (530 + 14 * x2).toNat) x1 x2 x3) ∨ (z = 0 ∧ ¬ wFit (I 741 7) (I 741 (530 + 14 * x2).toNat) x1 x2 x3))) := by
  have hW : fzs [] (fKc []) := fKc_ok _
  refine f_meth (rb := rbJ) (J := []) 1 400 xG xin_265 x6_265 okJ (fB_self h0) ?_ ?_
  · exact fun q h => absurd h List.not_mem_nil
  · have hB0 := fB_self (zn := znJ) (K := fKc []) h0
    refine And.intro (by first | exact fi_ ha1.1 ha1.2 rfl | omega) (And.intro ?_ ?_)
    · refine And.intro (fun ex => ?_) (And.intro (fun ex => ?_) (And.intro (fun ex => ?_) (And.intro (fun ex => ?_) (And.intro (fun ex => ?_) (And.intro (fun ex => ?_) (True.intro))))))
      · skip
        refine And.intro (by first | exact fi_ ha2.1 ha2.2 rfl | omega) (And.intro ?_ ?_)
        · intro c1
          refine And.intro (⟨by omega, by omega⟩) ?_
          exact ⟨_, rfl, by omega, (by first | exact Or.inl ⟨by omega, by unfold wFit; omega⟩ | exact Or.inr ⟨by omega, by unfold wFit; omega⟩)⟩
        · intro c2
          refine And.intro (by first | exact fi_ ha3.1 ha3.2 rfl | omega) (And.intro ?_ ?_)
          · intro c3
            refine And.intro (⟨by omega, by omega⟩) ?_
            exact ⟨_, rfl, by omega, (by first | exact Or.inl ⟨by omega, by unfold wFit; omega⟩ | exact Or.inr ⟨by omega, by unfold wFit; omega⟩)⟩
          · intro c4
            refine And.intro (⟨by decide, by decide⟩) ?_
            exact ⟨_, rfl, (by first | exact ⟨by decide, by decide⟩ | omega), (by first | exact Or.inl ⟨by omega, by unfold wFit; omega⟩ | exact Or.inr ⟨by omega, by unfold wFit; omega⟩)⟩
      · skip
        refine And.intro (by first | exact fi_ ha2.1 ha2.2 rfl | omega) ?_
        refine Exists.intro xm_238 (And.intro mi_238 (And.intro ⟨rfl, rfl, rfl, rfl⟩ (And.intro True.intro ?_)))
        refine fcallp hB0 (ct_M_isIn_27230 (fBz h0 hB0) (by first | exact ⟨ha2.1, ha2.2⟩ | omega) (by first | exact ⟨by decide, by decide⟩ | omega) (by first | exact ⟨by decide, by decide⟩ | omega)) ?_
        rintro _ ⟨z5, rfl, hz5⟩
        refine And.intro (by omega) (And.intro ?_ ?_)
        · intro c6
          refine And.intro (⟨by omega, by omega⟩) ?_
          exact ⟨_, rfl, by omega, (by first | exact Or.inl ⟨by omega, by unfold wFit; omega⟩ | exact Or.inr ⟨by omega, by unfold wFit; omega⟩)⟩
        · intro c7
          refine And.intro (by first | exact fi_ ha3.1 ha3.2 rfl | omega) ?_
          refine Exists.intro xm_238 (And.intro mi_238 (And.intro ⟨rfl, rfl, rfl, rfl⟩ (And.intro True.intro ?_)))
          refine fcallp hB0 (ct_M_isIn_27230 (fBz h0 hB0) (by first | exact ⟨ha3.1, ha3.2⟩ | omega) (by first | exact ⟨by decide, by decide⟩ | omega) (by first | exact ⟨by decide, by decide⟩ | omega)) ?_
          rintro _ ⟨z8, rfl, hz8⟩
          refine And.intro (by omega) (And.intro ?_ ?_)
          · intro c9
            refine And.intro (⟨by omega, by omega⟩) ?_
            exact ⟨_, rfl, by omega, (by first | exact Or.inl ⟨by omega, by unfold wFit; omega⟩ | exact Or.inr ⟨by omega, by unfold wFit; omega⟩)⟩
          · intro c10
            refine And.intro (⟨by decide, by decide⟩) ?_
            exact ⟨_, rfl, (by first | exact ⟨by decide, by decide⟩ | omega), (by first | exact Or.inl ⟨by omega, by unfold wFit; omega⟩ | exact Or.inr ⟨by omega, by unfold wFit; omega⟩)⟩
      · skip
        refine And.intro (by first | exact fi_ ha2.1 ha2.2 rfl | omega) ?_
        refine Exists.intro xm_238 (And.intro mi_238 (And.intro ⟨rfl, rfl, rfl, rfl⟩ (And.intro True.intro ?_)))
        refine fcallp hB0 (ct_M_isIn_27230 (fBz h0 hB0) (by first | exact ⟨ha2.1, ha2.2⟩ | omega) (by first | exact ⟨by decide, by decide⟩ | omega) (by first | exact ⟨by decide, by decide⟩ | omega)) ?_
        rintro _ ⟨z11, rfl, hz11⟩
        refine And.intro (by omega) (And.intro ?_ ?_)
        · intro c12
          refine And.intro (⟨by omega, by omega⟩) ?_
          exact ⟨_, rfl, by omega, (by first | exact Or.inl ⟨by omega, by unfold wFit; omega⟩ | exact Or.inr ⟨by omega, by unfold wFit; omega⟩)⟩
        · intro c13
          refine And.intro (by first | exact fi_ ha3.1 ha3.2 rfl | omega) (And.intro ?_ ?_)
          · intro c14
            refine And.intro (⟨by omega, by omega⟩) ?_
            exact ⟨_, rfl, by omega, (by first | exact Or.inl ⟨by omega, by unfold wFit; omega⟩ | exact Or.inr ⟨by omega, by unfold wFit; omega⟩)⟩
          · intro c15
            refine And.intro (⟨by decide, by decide⟩) ?_
            exact ⟨_, rfl, (by first | exact ⟨by decide, by decide⟩ | omega), (by first | exact Or.inl ⟨by omega, by unfold wFit; omega⟩ | exact Or.inr ⟨by omega, by unfold wFit; omega⟩)⟩
      · skip
        refine And.intro (by first | exact fi_ ha2.1 ha2.2 rfl | omega) ?_
        refine Exists.intro xm_238 (And.intro mi_238 (And.intro ⟨rfl, rfl, rfl, rfl⟩ (And.intro True.intro ?_)))
        refine fcallp hB0 (ct_M_isIn_27230 (fBz h0 hB0) (by first | exact ⟨ha2.1, ha2.2⟩ | omega) (by first | exact ⟨by decide, by decide⟩ | omega) (by first | exact ⟨by decide, by decide⟩ | omega)) ?_
        rintro _ ⟨z16, rfl, hz16⟩
        refine And.intro (by omega) (And.intro ?_ ?_)
        · intro c17
          refine And.intro (⟨by omega, by omega⟩) ?_
          exact ⟨_, rfl, by omega, (by first | exact Or.inl ⟨by omega, by unfold wFit; omega⟩ | exact Or.inr ⟨by omega, by unfold wFit; omega⟩)⟩
        · intro c18
          refine And.intro (by first | exact fi_ ha3.1 ha3.2 rfl | omega) (And.intro ?_ ?_)
          · intro c19
            refine And.intro (⟨by omega, by omega⟩) ?_
            exact ⟨_, rfl, by omega, (by first | exact Or.inl ⟨by omega, by unfold wFit; omega⟩ | exact Or.inr ⟨by omega, by unfold wFit; omega⟩)⟩
          · intro c20
            refine And.intro (⟨by decide, by decide⟩) ?_
            exact ⟨_, rfl, (by first | exact ⟨by decide, by decide⟩ | omega), (by first | exact Or.inl ⟨by omega, by unfold wFit; omega⟩ | exact Or.inr ⟨by omega, by unfold wFit; omega⟩)⟩
      · skip
        refine And.intro (by first | exact fi_ ha2.1 ha2.2 rfl | omega) ?_
        refine Exists.intro xm_238 (And.intro mi_238 (And.intro ⟨rfl, rfl, rfl, rfl⟩ (And.intro True.intro ?_)))
        refine fcallp hB0 (ct_M_isIn_27230 (fBz h0 hB0) (by first | exact ⟨ha2.1, ha2.2⟩ | omega) (by first | exact ⟨by decide, by decide⟩ | omega) (by first | exact ⟨by decide, by decide⟩ | omega)) ?_
        rintro _ ⟨z21, rfl, hz21⟩
        refine And.intro (by omega) (And.intro ?_ ?_)
        · intro c22
          refine And.intro (⟨by omega, by omega⟩) ?_
          exact ⟨_, rfl, by omega, (by first | exact Or.inl ⟨by omega, by unfold wFit; omega⟩ | exact Or.inr ⟨by omega, by unfold wFit; omega⟩)⟩
        · intro c23
          refine And.intro (by first | exact fi_ ha3.1 ha3.2 rfl | omega) (And.intro ?_ ?_)
          · intro c24
            refine And.intro (⟨by omega, by omega⟩) ?_
            exact ⟨_, rfl, by omega, (by first | exact Or.inl ⟨by omega, by unfold wFit; omega⟩ | exact Or.inr ⟨by omega, by unfold wFit; omega⟩)⟩
          · intro c25
            refine And.intro (⟨by decide, by decide⟩) ?_
            exact ⟨_, rfl, (by first | exact ⟨by decide, by decide⟩ | omega), (by first | exact Or.inl ⟨by omega, by unfold wFit; omega⟩ | exact Or.inr ⟨by omega, by unfold wFit; omega⟩)⟩
      · skip
        refine Exists.intro xm_266 (And.intro mi_266 (And.intro ⟨rfl, rfl, rfl, rfl⟩ (And.intro rfl ?_)))
        refine fcallp hB0 (ct_M_isWork_a0fef (fBz h0 hB0) (by first | exact ⟨ha2.1, ha2.2⟩ | omega)) ?_
        rintro _ ⟨z26, rfl, hz26⟩
        refine And.intro (by omega) (And.intro ?_ ?_)
        · intro c27
          refine And.intro (⟨by omega, by omega⟩) ?_
          exact ⟨_, rfl, by omega, (by first | exact Or.inl ⟨by omega, by unfold wFit; omega⟩ | exact Or.inr ⟨by omega, by unfold wFit; omega⟩)⟩
        · intro c28
          refine Exists.intro xm_267 (And.intro mi_267 (And.intro ⟨rfl, rfl, rfl, rfl⟩ (And.intro rfl ?_)))
          refine fcallp hB0 (ct_M_kindOf_31275 (fBz h0 hB0) (by omega)) ?_
          rintro _ ⟨z29, rfl, hz29, g0z29, g1z29⟩
          refine And.intro (And.intro (by first | exact fi_ hz29.1 hz29.2 rfl | omega) (by first | exact ⟨by decide, by decide⟩ | omega)) (And.intro ?_ ?_)
          · intro c30
            refine And.intro (⟨by omega, by omega⟩) ?_
            exact ⟨_, rfl, by omega, (by first | exact Or.inl ⟨by omega, by unfold wFit; omega⟩ | exact Or.inr ⟨by omega, by unfold wFit; omega⟩)⟩
          · intro c31
            refine And.intro (by first | exact fi_ ha3.1 ha3.2 rfl | omega) ?_
            refine Exists.intro xm_238 (And.intro mi_238 (And.intro ⟨rfl, rfl, rfl, rfl⟩ (And.intro True.intro ?_)))
            refine fcallp hB0 (ct_M_isIn_27230 (fBz h0 hB0) (by first | exact ⟨ha3.1, ha3.2⟩ | omega) (by first | exact ⟨by decide, by decide⟩ | omega) (by first | exact ⟨by decide, by decide⟩ | omega)) ?_
            rintro _ ⟨z32, rfl, hz32⟩
            refine And.intro (by omega) (And.intro ?_ ?_)
            · intro c33
              refine And.intro (⟨by omega, by omega⟩) ?_
              exact ⟨_, rfl, by omega, (by first | exact Or.inl ⟨by omega, by unfold wFit; omega⟩ | exact Or.inr ⟨by omega, by unfold wFit; omega⟩)⟩
            · intro c34
              refine And.intro (⟨by decide, by decide⟩) ?_
              exact ⟨_, rfl, (by first | exact ⟨by decide, by decide⟩ | omega), (by first | exact Or.inl ⟨by omega, by unfold wFit; omega⟩ | exact Or.inr ⟨by omega, by unfold wFit; omega⟩)⟩
    · intro c35
      simp only [List.length_cons, List.length_nil] at c35
      refine And.intro (And.intro (by first | exact fi_ ha1.1 ha1.2 rfl | omega) (by first | exact ⟨by decide, by decide⟩ | omega)) (And.intro ?_ ?_)
      · intro c36
        refine And.intro (⟨by omega, by omega⟩) ?_
        exact ⟨_, rfl, by omega, (by first | exact Or.inl ⟨by omega, by unfold wFit; omega⟩ | exact Or.inr ⟨by omega, by unfold wFit; omega⟩)⟩
      · intro c37
        refine And.intro (by first | exact fi_ ha2.1 ha2.2 rfl | omega) ?_
        refine Exists.intro xm_238 (And.intro mi_238 (And.intro ⟨rfl, rfl, rfl, rfl⟩ (And.intro True.intro ?_)))
        refine fcallp hB0 (ct_M_isIn_27230 (fBz h0 hB0) (by first | exact ⟨ha2.1, ha2.2⟩ | omega) (by first | exact ⟨by decide, by decide⟩ | omega) (by first | exact ⟨by decide, by decide⟩ | omega)) ?_
        rintro _ ⟨z38, rfl, hz38⟩
        refine And.intro (by omega) (And.intro ?_ ?_)
        · intro c39
          refine And.intro (⟨by omega, by omega⟩) ?_
          exact ⟨_, rfl, by omega, (by first | exact Or.inl ⟨by omega, by unfold wFit; omega⟩ | exact Or.inr ⟨by omega, by unfold wFit; omega⟩)⟩
        · intro c40
          refine And.intro (by first | exact fi_ ha3.1 ha3.2 rfl | omega) (And.intro ?_ ?_)
          · intro c41
            refine And.intro (⟨by omega, by omega⟩) ?_
            exact ⟨_, rfl, by omega, (by first | exact Or.inl ⟨by omega, by unfold wFit; omega⟩ | exact Or.inr ⟨by omega, by unfold wFit; omega⟩)⟩
          · intro c42
            refine And.intro (⟨by decide, by decide⟩) ?_
            exact ⟨_, rfl, (by first | exact ⟨by decide, by decide⟩ | omega), (by first | exact Or.inl ⟨by omega, by unfold wFit; omega⟩ | exact Or.inr ⟨by omega, by unfold wFit; omega⟩)⟩
abbrev jc_M_work_37e82_78 (x1 : Int) (x2 : Int) (x3 : Int) (x4 : Int) (x5 : Int) (I0 : fH) : Nat → fL → List fV → fH → Prop := fun m lv st I => ∃ (y1 : Int) (y2 : Int) (y3 : Int) (y4 : Int) (y5 : Int) (y6 : Int) (y7 : Int), lv = [(0, .inr (.inr (some 740))), (1, .inl y1), (2, .inl y2), (3, .inl y3), (4, .inl y4), (5, .inl y5), (6, .inl y6), (7, .inl y7)] ∧ st = [] ∧ (((0 ≤ y1 ∧ y1 ≤ 6) ∧ (0 ≤ y2 ∧ y2 ≤ 19) ∧ (1 ≤ y3 ∧ y3 ≤ 9999) ∧ ((-2147483648) ≤ y4 ∧ y4 ≤ 2147483647) ∧ ((-2147483648) ≤ y5 ∧ y5 ≤ 2147483647) ∧ ((530 ≤ y6 ∧ y6 ≤ 852) ∧ (y6 - 530) % 14 ≤ 0) ∧ (0 ≤ y7 ∧ y7 ≤ 19) ∧ (0 ≤ I 741 7 ∧ I 741 7 ≤ 23) ∧ (y6 = 530 + 14 * I0 741 7) ∧ (I 741 7 = I0 741 7) ∧ (0 ≤ I0 741 7) ∧ (I0 741 7 < 24) ∧ (y1 = x1) ∧ (0 ≤ x2) ∧ (x2 < I0 741 5) ∧ (1 ≤ x3) ∧ (x3 ≤ 9999) ∧ (y4 = x4) ∧ (y5 = x5) ∧ (y2 = x2) ∧ (y3 = x3) ∧ (y7 ≤ 14)) ∧ (∀ j : Nat, (j : Int) ≠ I0 741 7 → I 741 (530 + 14 * j) = I0 741 (530 + 14 * j)) ∧ (wFit (I0 741 7) (I0 741 (530 + 14 * x4).toNat) x1 x4 x5) ∧ (mR I = cpy (mR I0) y6 (fun _ => 0) (zmn y7 13).toNat)) ∧ m = (1 + 1 * (19 - y7) : Int).toNat
set_option maxRecDepth 8000 in
theorem ct_M_work_37e82 {I : fH} {x1 : Int} {x2 : Int} {x3 : Int} {x4 : Int} {x5 : Int} (h0 : fB bsJ I) (ha1 : ((-2147483648) ≤ x1 ∧ x1 ≤ 2147483647)) (ha2 : ((-2147483648) ≤ x2 ∧ x2 ≤ 2147483647)) (ha3 : ((-2147483648) ≤ x3 ∧ x3 ≤ 2147483647)) (ha4 : ((-2147483648) ≤ x4 ∧ x4 ≤ 2147483647)) (ha5 : ((-2147483648) ≤ x5 ∧ x5 ≤ 2147483647)) : fC ρ base n F xTc vwCl xTys D dA la gJ (fbz bsJ znJ (fKc wz_6345f) I) xm_264 [.inr (.inr (some 740)), .inl x1, .inl x2, .inl x3, .inl x4, .inl x5] I (fun I' r => ∃ z, r = some (.inl z) ∧ ((0 ≤ z ∧ z ≤ 23) ∨ z = (-1000000003) ∨ z = (-1000000001)) ∧ (∀ j : Nat, j < 24 → I' 741 (530 + 14 * j) = if (j : Int) = z then x1 else I 741 (530 + 14 * j)) ∧ (((0 ≤ x2 ∧ x2 < I 741 5 ∧ 1 ≤ x3 ∧ x3 ≤ 9999) ∧ wFit (I 741 7) (I 741 (530 + 14 * x4).toNat) x1 x4 x5 ∧ ((I 741 7 < 24 ∧ z = I 741 7 ∧ I' 741 7 = I 741 7 + 1) ∨ (24 ≤ I 741 7 ∧ z = (-1000000003) ∧ I' 741 7 = I 741 7))) ∨ (¬ ((0 ≤ x2 ∧ x2 < I 741 5 ∧ 1 ≤ x3 ∧ x3 ≤ 9999) ∧ wFit (I 741 7) (I 741 (530 + 14 * x4).toNat) x1 x4 x5) ∧ z = (-1000000001) ∧ I' 741 7 = I 741 7)) ∧ ((mR I', z) = oWork (mR I) x1 x2 x3 x4 x5)) := by
  have hW : fzs wz_6345f (fKc wz_6345f) := fKc_ok _
  refine f_meth (rb := rbJ) (J := [(78, (jc_M_work_37e82_78 x1 x2 x3 x4 x5 I))]) 21 400 xG xin_264 x6_264 okJ (fB_self h0) ?_ ?_
  · refine List.forall_mem_cons.mpr ⟨?_, fun q h => absurd h List.not_mem_nil⟩
    · rintro m _ _ I1 hB1 ⟨y1, y2, y3, y4, y5, y6, y7, rfl, rfl, ⟨hb, hx0, hx1, hx2⟩, hm⟩
      have b1 := fBd fb_741_7 (fBz h0 hB1)
      have b2 := fBd fb_741_5 (fBz h0 hB1)
      have ey1 : x1 = y1 := by omega
      subst ey1
      have wb := wFit_bd hx1 (by omega)
      refine And.intro (And.intro (by first | exact fi_ hb.2.2.2.2.2.2.1.1 hb.2.2.2.2.2.2.1.2 rfl | omega) (by first | exact ⟨by decide, by decide⟩ | omega)) (And.intro ?_ ?_)
      · intro c3
        refine And.intro ⟨rfl, by decide, by decide⟩ ?_
        refine fstore rS_741_741_530_852_14_0 (fzs_sub (by decide +kernel) hW) (by omega) (by first | exact ⟨hb.1.1, hb.1.2⟩ | omega) ?_
        intro IhB4 ehB4 hB4
        have t5 := fup_self ehB4
        have t6 : IhB4 741 7 = I1 741 7 := (congrFun (congrFun ehB4 741) 7).trans (fup_ne (by first | exact Or.inl (by decide) | omega))
        have r111 := mS_r (i0 := 530) (i1 := 852) (m := 14) (q := 0) (by decide +kernel) ehB4 (by omega) rfl
        refine And.intro ⟨rfl, by decide, by decide⟩ ?_
        refine fstore rS_741_741_531_853_14_0 (fzs_sub (by decide +kernel) hW) (by omega) (by first | exact ⟨hb.2.1.1, hb.2.1.2⟩ | omega) ?_
        intro IhB7 ehB7 hB7
        have t8 := fup_self ehB7
        have t9 : IhB7 741 7 = IhB4 741 7 := (congrFun (congrFun ehB7 741) 7).trans (fup_ne (by first | exact Or.inl (by decide) | omega))
        have r121 := mS_r (i0 := 531) (i1 := 853) (m := 14) (q := 0) (by decide +kernel) ehB7 (by omega) rfl
        refine And.intro ⟨rfl, by decide, by decide⟩ ?_
        refine fstore rS_741_741_532_854_14_0 (fzs_sub (by decide +kernel) hW) (by omega) (by first | exact ⟨Int.le_trans (by decide) hb.2.2.1.1, hb.2.2.1.2⟩ | omega) ?_
        intro IhB10 ehB10 hB10
        have t11 := fup_self ehB10
        have t12 : IhB10 741 7 = IhB7 741 7 := (congrFun (congrFun ehB10 741) 7).trans (fup_ne (by first | exact Or.inl (by decide) | omega))
        have r131 := mS_r (i0 := 532) (i1 := 854) (m := 14) (q := 0) (by decide +kernel) ehB10 (by omega) rfl
        refine And.intro ⟨rfl, by decide, by decide⟩ ?_
        refine fstore rS_741_741_533_855_14_0 (fzs_sub (by decide +kernel) hW) (by omega) (by first | exact ⟨by decide, by decide⟩ | omega) ?_
        intro IhB13 ehB13 hB13
        have t14 := fup_self ehB13
        have t15 : IhB13 741 7 = IhB10 741 7 := (congrFun (congrFun ehB13 741) 7).trans (fup_ne (by first | exact Or.inl (by decide) | omega))
        have r141 := mS_r (i0 := 533) (i1 := 855) (m := 14) (q := 0) (by decide +kernel) ehB13 (by omega) rfl
        refine And.intro ⟨rfl, by decide, by decide⟩ ?_
        refine fstore rS_741_741_535_857_14_0 (fzs_sub (by decide +kernel) hW) (by omega) (by omega) ?_
        intro IhB16 ehB16 hB16
        have t17 := fup_self ehB16
        have t18 : IhB16 741 7 = IhB13 741 7 := (congrFun (congrFun ehB16 741) 7).trans (fup_ne (by first | exact Or.inl (by decide) | omega))
        have r152 := mS_r (i0 := 535) (i1 := 857) (m := 14) (q := 0) (by decide +kernel) ehB16 (by omega) rfl
        refine And.intro ⟨rfl, by decide, by decide⟩ ?_
        refine fstore rS_741_741_536_858_14_0 (fzs_sub (by decide +kernel) hW) (by omega) (by omega) ?_
        intro IhB19 ehB19 hB19
        have t20 := fup_self ehB19
        have t21 : IhB19 741 7 = IhB16 741 7 := (congrFun (congrFun ehB19 741) 7).trans (fup_ne (by first | exact Or.inl (by decide) | omega))
        have r164 := mS_r (i0 := 536) (i1 := 858) (m := 14) (q := 0) (by decide +kernel) ehB19 (by omega) rfl
        refine And.intro ⟨rfl, by decide, by decide⟩ ?_
        refine fstore rS_741_741_539_861_14_0 (fzs_sub (by decide +kernel) hW) (by omega) (by first | exact ⟨by decide, by decide⟩ | omega) ?_
        intro IhB22 ehB22 hB22
        have t23 := fup_self ehB22
        have t24 : IhB22 741 7 = IhB19 741 7 := (congrFun (congrFun ehB22 741) 7).trans (fup_ne (by first | exact Or.inl (by decide) | omega))
        have r175 := mS_r (i0 := 539) (i1 := 861) (m := 14) (q := 0) (by decide +kernel) ehB22 (by omega) rfl
        refine And.intro ⟨rfl, by decide, by decide⟩ ?_
        refine fload1 rL_741_741_7_7_1_0 h0 hB22 ⟨by decide, by decide⟩ (by first | exact ⟨by decide, by decide⟩ | omega) ?_
        intro z25 lz25 uz25 qz25
        have pz25 := fld_at qz25 7 (by omega)
        have v183 := mL_r (i0 := 7) (i1 := 7) (m := 1) (q := 0) (by decide +kernel) qz25 (by omega) rfl
        rw [r175, r164, r152, r141, r131, r121, r111] at v183
        refine fstore1 rS_741_741_7_7_1_0 (fzs_sub (by decide +kernel) hW) ⟨by decide, by decide⟩ (by first | exact ⟨by decide, by decide⟩ | omega) (by omega) ?_
        intro IhB26 ehB26 hB26
        have t27 := fup_self ehB26
        have t28 := fup_at ehB26 7 (by first | rfl | omega)
        have r186 := mS_r (i0 := 7) (i1 := 7) (m := 1) (q := 0) (by decide +kernel) ehB26 (by omega) rfl
        refine And.intro ⟨rfl, by decide, by decide⟩ ?_
        refine fload1 rL_741_741_7_7_1_0 h0 hB26 ⟨by decide, by decide⟩ (by first | exact ⟨by decide, by decide⟩ | omega) ?_
        intro z29 lz29 uz29 qz29
        have pz29 := fld_at qz29 7 (by omega)
        have v193 := mL_r (i0 := 7) (i1 := 7) (m := 1) (q := 0) (by decide +kernel) qz29 (by omega) rfl
        rw [r186, r175, r164, r152, r141, r131, r121, r111] at v193
        refine And.intro (True.intro) ?_
        have w905 : I 741 5 = gt (mR I) 5 := (show I 741 5 = gt (mR I) 5 from (mR_ld (I := I) (k := 5) (by decide +kernel)).symm)
        have w907 : I 741 7 = gt (mR I) 7 := (show I 741 7 = gt (mR I) 7 from (mR_ld (I := I) (k := 7) (by decide +kernel)).symm)
        exact ⟨_, rfl, by omega, (fun j hj => ((fup_other ehB26 741 (530 + 14 * j) (Or.inr (by omega))).trans ((fup_other ehB22 741 (530 + 14 * j) (Or.inr (by omega))).trans ((fup_other ehB19 741 (530 + 14 * j) (Or.inr (by omega))).trans ((fup_other ehB16 741 (530 + 14 * j) (Or.inr (by omega))).trans ((fup_other ehB13 741 (530 + 14 * j) (Or.inr (by omega))).trans ((fup_other ehB10 741 (530 + 14 * j) (Or.inr (by omega))).trans (fup_other ehB7 741 (530 + 14 * j) (Or.inr (by omega))))))))).trans ((fup_if ehB4 (530 + 14 * j)).trans (if_gx (q := (j : Int) = z29 - ((1 : Nat) : Int)) (by omega) (fun hn => hx0 j (by omega))))), (Or.inl ⟨by omega, hx1, by omega⟩), (ci_y ⟨⟨by omega, by omega, by omega⟩, (wFit_congr (by omega) (fun l1 l2 => (mL_cov (i := 530 + 14 * x4) (I := I) (mwo_k (by omega)) rfl)) hx1)⟩ (pr_y (by omega) (by rw [r186, r175, r164, r152, r141, r131, r121, r111]; exact (mwo_end hx2 (by omega) (by omega) (by omega) (by omega) (by omega) (by omega) (by omega) (by omega) (by omega) (by omega) (by omega) (by omega) (by omega) (by omega) (by omega) (by omega) (by omega) (by omega))) (by omega)))⟩
      · intro c30
        refine And.intro ⟨rfl, by decide, by decide⟩ ?_
        refine fstore rS_741_741_530_865_14_13 (fzs_sub (by decide +kernel) hW) (by omega) (by first | exact ⟨by decide, by decide⟩ | omega) ?_
        intro IhB31 ehB31 hB31
        have t32 := fup_self ehB31
        have t33 : IhB31 741 7 = I1 741 7 := (congrFun (congrFun ehB31 741) 7).trans (fup_ne (by first | exact Or.inl (by decide) | omega))
        exact fcutJ (I := IhB31) (j := (jc_M_work_37e82_78 x1 x2 x3 x4 x5 I)) (lv' := [(0, .inr (.inr (some 740))), (1, .inl _), (2, .inl _), (3, .inl _), (4, .inl _), (5, .inl _), (6, .inl _), (7, .inl _)]) (And.intro rfl (And.intro rfl (And.intro rfl (And.intro rfl (And.intro rfl (And.intro rfl (And.intro rfl (And.intro rfl True.intro)))))))) ⟨_, _, _, _, _, _, _, rfl, rfl, ⟨by omega, (fun j h => (fup_other ehB31 741 (530 + 14 * j) (Or.inr (by omega))).trans (hx0 j h)), hx1, (mwo_S (n := I 741 7) hx2 ehB31 (by omega) (by omega) (by omega) (by omega) (by omega) (by omega))⟩, rfl⟩ (by omega)
  · have hB0 := fB_self (zn := znJ) (K := fKc wz_6345f) h0
    have b34 := fBd fb_741_7 (fBz h0 hB0)
    have b35 := fBd fb_741_5 (fBz h0 hB0)
    have w905 : I 741 5 = gt (mR I) 5 := (show I 741 5 = gt (mR I) 5 from (mR_ld (I := I) (k := 5) (by decide +kernel)).symm)
    have w907 : I 741 7 = gt (mR I) 7 := (show I 741 7 = gt (mR I) 7 from (mR_ld (I := I) (k := 7) (by decide +kernel)).symm)
    refine And.intro (by first | exact fi_ ha1.1 ha1.2 rfl | omega) ?_
    refine Exists.intro xm_238 (And.intro mi_238 (And.intro ⟨rfl, rfl, rfl, rfl⟩ (And.intro True.intro ?_)))
    refine fcallp hB0 (ct_M_isIn_27230 (fBz h0 hB0) (by first | exact ⟨ha1.1, ha1.2⟩ | omega) (by first | exact ⟨by decide, by decide⟩ | omega) (by first | exact ⟨by decide, by decide⟩ | omega)) ?_
    rintro _ ⟨z36, rfl, hz36⟩
    refine And.intro (by omega) (And.intro ?_ ?_)
    · intro c37
      refine And.intro (True.intro) ?_
      have w905 : I 741 5 = gt (mR I) 5 := (show I 741 5 = gt (mR I) 5 from (mR_ld (I := I) (k := 5) (by decide +kernel)).symm)
      have w907 : I 741 7 = gt (mR I) 7 := (show I 741 7 = gt (mR I) 7 from (mR_ld (I := I) (k := 7) (by decide +kernel)).symm)
      exact ⟨_, rfl, by omega, (fun j _ => if_no (by omega)), (by first | exact Or.inr ⟨fun q => absurd q.1 (by omega), by omega, by omega⟩ | exact Or.inr ⟨fun q => absurd q.2 (by unfold wFit; omega), by omega, by omega⟩ | exact Or.inr ⟨fun q => g0nil0.elim (fun w => absurd w.1 (by omega)) (fun w => w.2 q.2), by omega, by omega⟩), (ci_n (fun w => by have w1 := w.1; have w2 := (wFit_bd w.2 (by omega)).1; omega) rfl)⟩
    · intro c38
      refine Exists.intro xm_241 (And.intro mi_241 (And.intro ⟨rfl, rfl, rfl, rfl⟩ (And.intro rfl ?_)))
      refine fcallp hB0 (ct_M_isCell_45859 (fBz h0 hB0) (by first | exact ⟨ha2.1, ha2.2⟩ | omega)) ?_
      rintro _ ⟨z39, rfl, hz39⟩
      refine And.intro (by omega) (And.intro ?_ ?_)
      · intro c40
        refine And.intro (True.intro) ?_
        have w905 : I 741 5 = gt (mR I) 5 := (show I 741 5 = gt (mR I) 5 from (mR_ld (I := I) (k := 5) (by decide +kernel)).symm)
        have w907 : I 741 7 = gt (mR I) 7 := (show I 741 7 = gt (mR I) 7 from (mR_ld (I := I) (k := 7) (by decide +kernel)).symm)
        exact ⟨_, rfl, by omega, (fun j _ => if_no (by omega)), (by first | exact Or.inr ⟨fun q => absurd q.1 (by omega), by omega, by omega⟩ | exact Or.inr ⟨fun q => absurd q.2 (by unfold wFit; omega), by omega, by omega⟩ | exact Or.inr ⟨fun q => g0nil0.elim (fun w => absurd w.1 (by omega)) (fun w => w.2 q.2), by omega, by omega⟩), (ci_n (fun w => by have w1 := w.1; have w2 := (wFit_bd w.2 (by omega)).1; omega) rfl)⟩
      · intro c41
        refine And.intro (by first | exact fi_ ha3.1 ha3.2 rfl | omega) ?_
        refine Exists.intro xm_238 (And.intro mi_238 (And.intro ⟨rfl, rfl, rfl, rfl⟩ (And.intro True.intro ?_)))
        refine fcallp hB0 (ct_M_isIn_27230 (fBz h0 hB0) (by first | exact ⟨ha3.1, ha3.2⟩ | omega) (by first | exact ⟨by decide, by decide⟩ | omega) (by first | exact ⟨by decide, by decide⟩ | omega)) ?_
        rintro _ ⟨z42, rfl, hz42⟩
        refine And.intro (by omega) (And.intro ?_ ?_)
        · intro c43
          refine And.intro (True.intro) ?_
          have w905 : I 741 5 = gt (mR I) 5 := (show I 741 5 = gt (mR I) 5 from (mR_ld (I := I) (k := 5) (by decide +kernel)).symm)
          have w907 : I 741 7 = gt (mR I) 7 := (show I 741 7 = gt (mR I) 7 from (mR_ld (I := I) (k := 7) (by decide +kernel)).symm)
          exact ⟨_, rfl, by omega, (fun j _ => if_no (by omega)), (by first | exact Or.inr ⟨fun q => absurd q.1 (by omega), by omega, by omega⟩ | exact Or.inr ⟨fun q => absurd q.2 (by unfold wFit; omega), by omega, by omega⟩ | exact Or.inr ⟨fun q => g0nil0.elim (fun w => absurd w.1 (by omega)) (fun w => w.2 q.2), by omega, by omega⟩), (ci_n (fun w => by have w1 := w.1; have w2 := (wFit_bd w.2 (by omega)).1; omega) rfl)⟩
        · intro c44
          refine Exists.intro xm_265 (And.intro mi_265 (And.intro ⟨rfl, rfl, rfl, rfl⟩ (And.intro rfl ?_)))
          refine fcallp hB0 (ct_M_fits_3179d (fBz h0 hB0) (by first | exact ⟨Int.le_trans (by decide) (Int.le_trans (Int.le_refl _) hz36.1), Int.le_trans (Int.le_trans hz36.2 (Int.le_refl _)) (by decide)⟩ | omega) (by first | exact ⟨ha4.1, ha4.2⟩ | omega) (by first | exact ⟨ha5.1, ha5.2⟩ | omega)) ?_
          rintro _ ⟨z45, rfl, hz45, g0z45⟩
          refine And.intro (by omega) (And.intro ?_ ?_)
          · intro c46
            refine And.intro ⟨rfl, by decide, by decide⟩ ?_
            refine fload1 rL_741_741_7_7_1_0 h0 hB0 ⟨by decide, by decide⟩ (by first | exact ⟨by decide, by decide⟩ | omega) ?_
            intro z47 lz47 uz47 qz47
            have pz47 := fld_at qz47 7 (by omega)
            have v53 := mL_r (i0 := 7) (i1 := 7) (m := 1) (q := 0) (by decide +kernel) qz47 (by omega) rfl
            refine And.intro (And.intro (by first | exact fi_ lz47 uz47 rfl | omega) (by first | exact ⟨by decide, by decide⟩ | omega)) (And.intro ?_ ?_)
            · intro c48
              refine And.intro ⟨rfl, by decide, by decide⟩ ?_
              refine fload1 rL_741_741_7_7_1_0 h0 hB0 ⟨by decide, by decide⟩ (by first | exact ⟨by decide, by decide⟩ | omega) ?_
              intro z49 lz49 uz49 qz49
              have pz49 := fld_at qz49 7 (by omega)
              have v69 := mL_r (i0 := 7) (i1 := 7) (m := 1) (q := 0) (by decide +kernel) qz49 (by omega) rfl
              refine Exists.intro xm_244 (And.intro mi_244 (And.intro ⟨rfl, rfl, rfl, rfl⟩ (And.intro rfl ?_)))
              refine fcallp hB0 (ct_M_workAt_83d38 (fBz h0 hB0) (by omega)) ?_
              rintro _ ⟨_, rfl, rfl⟩
              exact fcutJ (I := I) (j := (jc_M_work_37e82_78 x1 x2 x3 x4 x5 I)) (lv' := [(0, .inr (.inr (some 740))), (1, .inl _), (2, .inl _), (3, .inl _), (4, .inl _), (5, .inl _), (6, .inl _), (7, .inl _)]) (And.intro rfl (And.intro rfl (And.intro rfl (And.intro rfl (And.intro rfl (And.intro rfl (And.intro rfl (And.intro rfl True.intro)))))))) ⟨_, _, _, _, _, _, _, rfl, rfl, ⟨by omega, (fun j _ => rfl), (g0z45.elim (fun q => q.2) (fun q => absurd q.1 (by omega))), (cpy_0' (by unfold zmn; split <;> omega))⟩, rfl⟩ (by omega)
            · intro c51
              refine And.intro (True.intro) ?_
              have w905 : I 741 5 = gt (mR I) 5 := (show I 741 5 = gt (mR I) 5 from (mR_ld (I := I) (k := 5) (by decide +kernel)).symm)
              have w907 : I 741 7 = gt (mR I) 7 := (show I 741 7 = gt (mR I) 7 from (mR_ld (I := I) (k := 7) (by decide +kernel)).symm)
              exact ⟨_, rfl, by omega, (fun j _ => if_no (by omega)), (Or.inl ⟨by omega, (g0z45.elim (fun q => q.2) (fun q => absurd q.1 (by omega))), by omega⟩), (ci_y ⟨⟨by omega, by omega, by omega⟩, (wFit_congr (by omega) (fun l1 l2 => (mL_cov (i := 530 + 14 * x4) (I := I) (mwo_k (by omega)) rfl)) (g0z45.elim (fun q => q.2) (fun q => absurd q.1 (by omega))))⟩ (pr_n (fun q => by omega) rfl))⟩
          · intro c52
            refine And.intro (True.intro) ?_
            have w905 : I 741 5 = gt (mR I) 5 := (show I 741 5 = gt (mR I) 5 from (mR_ld (I := I) (k := 5) (by decide +kernel)).symm)
            have w907 : I 741 7 = gt (mR I) 7 := (show I 741 7 = gt (mR I) 7 from (mR_ld (I := I) (k := 7) (by decide +kernel)).symm)
            exact ⟨_, rfl, by omega, (fun j _ => if_no (by omega)), (by first | exact Or.inr ⟨fun q => absurd q.1 (by omega), by omega, by omega⟩ | exact Or.inr ⟨fun q => absurd q.2 (by unfold wFit; omega), by omega, by omega⟩ | exact Or.inr ⟨fun q => g0z45.elim (fun w => absurd w.1 (by omega)) (fun w => w.2 q.2), by omega, by omega⟩), (ci_n (fun w => (g0z45.elim (fun q => absurd q.1 (by omega)) (fun q => q.2)) (wFit_congr (by omega) (fun l1 l2 => (mL_cov (i := 530 + 14 * x4) (I := I) (mwo_k (by omega)) rfl).symm) w.2)) rfl)⟩
set_option maxRecDepth 8000 in
theorem ct_City_isWork_11526 {I : fH} {x1 : Int} (h0 : fB bsJ I) (ha1 : ((-2147483648) ≤ x1 ∧ x1 ≤ 2147483647)) : fC ρ base n F xTc vwCl xTys D dA la gJ (fbz bsJ znJ (fKc []) I) xm_45 [.inr (.inr (some 1)), .inl x1] I (fun _ r => ∃ z, r = some (.inl z) ∧ (((z = 1 ∧ 0 ≤ x1 ∧ x1 ≤ 23) ∨ z = 0) ∧ ((z = 1 ∧ 0 ≤ x1 ∧ x1 < I 163 13) ∨ (z = 0 ∧ ¬ (0 ≤ x1 ∧ x1 < I 163 13))))) := by
  have hW : fzs [] (fKc []) := fKc_ok _
  refine f_meth (rb := rbJ) (J := []) 1 400 xG xin_45 x6_45 okJ (fB_self h0) ?_ ?_
  · exact fun q h => absurd h List.not_mem_nil
  · have hB0 := fB_self (zn := znJ) (K := fKc []) h0
    refine And.intro ⟨rfl, by decide, by decide⟩ ?_
    refine And.intro ⟨rfl, by decide, by decide⟩ (fgetf fb_163_13 h0 hB0 ?_)
    intro z1 lz1 uz1 qz1
    refine Exists.intro xm_13 (And.intro mi_13 (And.intro ⟨rfl, rfl, rfl, rfl⟩ (And.intro True.intro ?_)))
    refine fcallp hB0 (ct_X_within_c27b1 (fBz h0 hB0) (by first | exact ⟨ha1.1, ha1.2⟩ | omega) (by first | exact ⟨by decide, by decide⟩ | omega) (by omega)) ?_
    rintro _ ⟨z2, rfl, hz2⟩
    refine And.intro (⟨by omega, by omega⟩) ?_
    exact ⟨_, rfl, by omega⟩
set_option maxRecDepth 8000 in
theorem ct_Works_tellOf_99893 {I : fH} {x1 : Int} {x2 : Int} (h0 : fB bsJ I) (ha1 : (0 ≤ x1 ∧ x1 ≤ 23)) (ha2 : ((-2147483648) ≤ x2 ∧ x2 ≤ 2147483647)) (hp0 : okA (cR 0 I)) : fC ρ base n F xTc vwCl xTys D dA la gJ (fbz bsJ znJ (fKc []) I) xm_46 [.inr (.inr (some 163)), .inl x1, .inl x2] I (fun _ r => ∃ z, r = some (.inl z) ∧ ((-2147483648) ≤ z ∧ z ≤ 2147483647) ∧ (z = oTell (cR 0 I) x1 x2)) := by
  have hW : fzs [] (fKc []) := fKc_ok _
  refine f_meth (rb := rbJ) (J := []) 1 400 xG xin_46 x6_46 okJ (fB_self h0) ?_ ?_
  · exact fun q h => absurd h List.not_mem_nil
  · have hB0 := fB_self (zn := znJ) (K := fKc []) h0
    refine And.intro (by first | exact fi_ ha2.1 ha2.2 rfl | omega) (And.intro ?_ ?_)
    · refine And.intro (fun ex => ?_) (And.intro (fun ex => ?_) (And.intro (fun ex => ?_) (And.intro (fun ex => ?_) (And.intro (fun ex => ?_) (And.intro (fun ex => ?_) (And.intro (fun ex => ?_) (And.intro (fun ex => ?_) (And.intro (fun ex => ?_) (And.intro (fun ex => ?_) (And.intro (fun ex => ?_) (True.intro)))))))))))
      · skip
        refine And.intro ⟨rfl, by decide, by decide⟩ ?_
        refine fload1 rL_164_164_0_23_1_0 h0 hB0 ⟨by decide, by decide⟩ (by first | exact ⟨ha1.1, ha1.2⟩ | omega) ?_
        intro z1 lz1 uz1 qz1
        have v65 := cL_a (d := 0) (a := 164) (n := 24) (b := 530) (m := 14) (by decide +kernel) (by decide) qz1 (by omega) rfl
        refine And.intro (True.intro) ?_
        exact ⟨_, rfl, (by first | exact ⟨Int.le_trans (by decide) lz1, Int.le_trans uz1 (by decide)⟩ | omega), (tl_k (by omega) (by omega) v65 (by omega))⟩
      · skip
        refine And.intro ⟨rfl, by decide, by decide⟩ ?_
        refine fload1 rL_165_165_0_23_1_0 h0 hB0 ⟨by decide, by decide⟩ (by first | exact ⟨ha1.1, ha1.2⟩ | omega) ?_
        intro z2 lz2 uz2 qz2
        have v72 := cL_a (d := 0) (a := 165) (n := 24) (b := 531) (m := 14) (by decide +kernel) (by decide) qz2 (by omega) rfl
        refine And.intro (True.intro) ?_
        exact ⟨_, rfl, (by first | exact ⟨Int.le_trans (by decide) lz2, Int.le_trans uz2 (by decide)⟩ | omega), (tl_k (by omega) (by omega) v72 (by omega))⟩
      · skip
        refine And.intro ⟨rfl, by decide, by decide⟩ ?_
        refine fload1 rL_166_166_0_23_1_0 h0 hB0 ⟨by decide, by decide⟩ (by first | exact ⟨ha1.1, ha1.2⟩ | omega) ?_
        intro z3 lz3 uz3 qz3
        have v79 := cL_a (d := 0) (a := 166) (n := 24) (b := 532) (m := 14) (by decide +kernel) (by decide) qz3 (by omega) rfl
        refine And.intro (True.intro) ?_
        exact ⟨_, rfl, (by first | exact ⟨Int.le_trans (by decide) lz3, Int.le_trans uz3 (by decide)⟩ | omega), (tl_k (by omega) (by omega) v79 (by omega))⟩
      · skip
        refine And.intro ⟨rfl, by decide, by decide⟩ ?_
        refine fload1 rL_167_167_0_23_1_0 h0 hB0 ⟨by decide, by decide⟩ (by first | exact ⟨ha1.1, ha1.2⟩ | omega) ?_
        intro z4 lz4 uz4 qz4
        have v86 := cL_a (d := 0) (a := 167) (n := 24) (b := 533) (m := 14) (by decide +kernel) (by decide) qz4 (by omega) rfl
        refine And.intro (True.intro) ?_
        exact ⟨_, rfl, (by first | exact ⟨Int.le_trans (by decide) lz4, Int.le_trans uz4 (by decide)⟩ | omega), (tl_k (by omega) (by omega) v86 (by omega))⟩
      · skip
        refine And.intro ⟨rfl, by decide, by decide⟩ ?_
        refine fload1 rL_168_168_0_23_1_0 h0 hB0 ⟨by decide, by decide⟩ (by first | exact ⟨ha1.1, ha1.2⟩ | omega) ?_
        intro z5 lz5 uz5 qz5
        have v93 := cL_a (d := 0) (a := 168) (n := 24) (b := 534) (m := 14) (by decide +kernel) (by decide) qz5 (by omega) rfl
        refine And.intro (True.intro) ?_
        exact ⟨_, rfl, (by first | exact ⟨Int.le_trans (by decide) lz5, Int.le_trans uz5 (by decide)⟩ | omega), (tl_k (by omega) (by omega) v93 (by omega))⟩
      · skip
        refine And.intro ⟨rfl, by decide, by decide⟩ ?_
        refine fload1 rL_171_171_0_23_1_0 h0 hB0 ⟨by decide, by decide⟩ (by first | exact ⟨ha1.1, ha1.2⟩ | omega) ?_
        intro z6 lz6 uz6 qz6
        have v100 := cL_a (d := 0) (a := 171) (n := 24) (b := 535) (m := 14) (by decide +kernel) (by decide) qz6 (by omega) rfl
        refine And.intro (True.intro) ?_
        exact ⟨_, rfl, (by first | exact ⟨Int.le_trans (by decide) lz6, Int.le_trans uz6 (by decide)⟩ | omega), (tl_k (by omega) (by omega) v100 (by omega))⟩
      · skip
        refine And.intro ⟨rfl, by decide, by decide⟩ ?_
        refine fload1 rL_172_172_0_23_1_0 h0 hB0 ⟨by decide, by decide⟩ (by first | exact ⟨ha1.1, ha1.2⟩ | omega) ?_
        intro z7 lz7 uz7 qz7
        have v107 := cL_a (d := 0) (a := 172) (n := 24) (b := 536) (m := 14) (by decide +kernel) (by decide) qz7 (by omega) rfl
        refine And.intro (True.intro) ?_
        exact ⟨_, rfl, (by first | exact ⟨Int.le_trans (by decide) lz7, Int.le_trans uz7 (by decide)⟩ | omega), (tl_k (by omega) (by omega) v107 (by omega))⟩
      · skip
        refine And.intro ⟨rfl, by decide, by decide⟩ ?_
        refine fload1 rL_173_173_0_23_1_0 h0 hB0 ⟨by decide, by decide⟩ (by first | exact ⟨ha1.1, ha1.2⟩ | omega) ?_
        intro z8 lz8 uz8 qz8
        have v114 := cL_a (d := 0) (a := 173) (n := 24) (b := 537) (m := 14) (by decide +kernel) (by decide) qz8 (by omega) rfl
        refine And.intro (True.intro) ?_
        exact ⟨_, rfl, (by first | exact ⟨Int.le_trans (by decide) lz8, Int.le_trans uz8 (by decide)⟩ | omega), (tl_k (by omega) (by omega) v114 (by omega))⟩
      · skip
        refine And.intro ⟨rfl, by decide, by decide⟩ ?_
        refine fload1 rL_174_174_0_23_1_0 h0 hB0 ⟨by decide, by decide⟩ (by first | exact ⟨ha1.1, ha1.2⟩ | omega) ?_
        intro z9 lz9 uz9 qz9
        have v121 := cL_a (d := 0) (a := 174) (n := 24) (b := 538) (m := 14) (by decide +kernel) (by decide) qz9 (by omega) rfl
        refine And.intro (True.intro) ?_
        exact ⟨_, rfl, (by first | exact ⟨Int.le_trans (by decide) lz9, Int.le_trans uz9 (by decide)⟩ | omega), (tl_k (by omega) (by omega) v121 (by omega))⟩
      · skip
        refine And.intro ⟨rfl, by decide, by decide⟩ ?_
        refine fload1 rL_175_175_0_23_1_0 h0 hB0 ⟨by decide, by decide⟩ (by first | exact ⟨ha1.1, ha1.2⟩ | omega) ?_
        intro z10 lz10 uz10 qz10
        have v128 := cL_l (d := 0) qz10 (by omega) rfl
        refine And.intro (True.intro) ?_
        exact ⟨_, rfl, (by first | exact ⟨Int.le_trans (by decide) lz10, Int.le_trans uz10 (by decide)⟩ | omega), (tl_9 (by omega) (orN_of hp0 (by omega) v128))⟩
      · skip
        refine And.intro ⟨rfl, by decide, by decide⟩ ?_
        refine fload1 rL_176_176_0_23_1_0 h0 hB0 ⟨by decide, by decide⟩ (by first | exact ⟨ha1.1, ha1.2⟩ | omega) ?_
        intro z11 lz11 uz11 qz11
        have v135 := cL_a (d := 0) (a := 176) (n := 24) (b := 540) (m := 14) (by decide +kernel) (by decide) qz11 (by omega) rfl
        refine And.intro (True.intro) ?_
        exact ⟨_, rfl, (by first | exact ⟨lz11, uz11⟩ | omega), (tl_k (by omega) (by omega) v135 (by omega))⟩
    · intro c12
      simp only [List.length_cons, List.length_nil] at c12
      refine And.intro (True.intro) ?_
      exact ⟨_, rfl, (by first | exact ⟨by decide, by decide⟩ | omega), (tl_b (fun q => by omega) rfl)⟩
set_option maxRecDepth 8000 in
theorem ct_X_has_bd0f1 {I : fH} {x1 : Int} {x2 : Int} (h0 : fB bsJ I) (ha1 : ((-2147483648) ≤ x1 ∧ x1 ≤ 2147483647)) (ha2 : ((-2147483648) ≤ x2 ∧ x2 ≤ 2147483647)) (hp0 : okA (cR 0 I)) : fC ρ base n F xTc vwCl xTys D dA la gJ (fbz bsJ znJ (fKc []) I) xm_44 [.inr (.inr (some 0)), .inl x1, .inl x2] I (fun _ r => ∃ z, r = some (.inl z) ∧ ((-2147483648) ≤ z ∧ z ≤ 2147483647) ∧ (z = oHas (cR 0 I) x1 x2)) := by
  have hW : fzs [] (fKc []) := fKc_ok _
  refine f_meth (rb := rbJ) (J := []) 1 400 xG xin_44 x6_44 okJ (fB_self h0) ?_ ?_
  · exact fun q h => absurd h List.not_mem_nil
  · have hB0 := fB_self (zn := znJ) (K := fKc []) h0
    have w907 : I 163 13 = gt (cR 0 I) 7 := (cL_f (d := 0) (a := 163) (j := 13) (r := 7) (p := 7) (I := I) (z := I 163 13) (by decide +kernel) (by decide) rfl rfl)
    refine And.intro ⟨rfl, by decide, by decide⟩ ?_
    refine Exists.intro xm_45 (And.intro mi_45 (And.intro ⟨rfl, rfl, rfl, rfl⟩ (And.intro rfl ?_)))
    refine fcallp hB0 (ct_City_isWork_11526 (fBz h0 hB0) (by first | exact ⟨ha1.1, ha1.2⟩ | omega)) ?_
    rintro _ ⟨z1, rfl, hz1⟩
    refine And.intro (by omega) (And.intro ?_ ?_)
    · intro c2
      refine And.intro (True.intro) ?_
      exact ⟨_, rfl, by omega, (if_n (fun q => by omega) rfl)⟩
    · intro c3
      refine And.intro ⟨rfl, by decide, by decide⟩ ?_
      refine And.intro ⟨rfl, by decide, by decide⟩ ?_
      refine Exists.intro xm_46 (And.intro mi_46 (And.intro ⟨rfl, rfl, rfl, rfl⟩ (And.intro rfl ?_)))
      refine fcallp hB0 (ct_Works_tellOf_99893 (fBz h0 hB0) (by omega) (by first | exact ⟨ha2.1, ha2.2⟩ | omega) hp0) ?_
      rintro _ ⟨z4, rfl, hz4, g0z4⟩
      refine And.intro (True.intro) ?_
      exact ⟨_, rfl, (by first | exact ⟨hz4.1, hz4.2⟩ | omega), (if_y (by omega) g0z4)⟩
set_option maxRecDepth 8000 in
theorem ct_M_orNone_a2a87 {I : fH} {x0 : Int} (h0 : fB bsJ I) (ha0 : ((-2147483648) ≤ x0 ∧ x0 ≤ 2147483647)) : fC ρ base n F xTc vwCl xTys D dA la gJ (fbz bsJ znJ (fKc []) I) xm_269 [.inl x0] I (fun _ r => ∃ z, r = some (.inl z) ∧ ((0 ≤ z ∧ z ≤ 2147483647) ∨ z = (-1000000005)) ∧ (z = orN x0)) := by
  have hW : fzs [] (fKc []) := fKc_ok _
  refine f_meth (rb := rbJ) (J := []) 1 400 xG xin_269 x6_269 okJ (fB_self h0) ?_ ?_
  · exact fun q h => absurd h List.not_mem_nil
  · have hB0 := fB_self (zn := znJ) (K := fKc []) h0
    refine And.intro (by first | exact fi_ ha0.1 ha0.2 rfl | omega) (And.intro ?_ ?_)
    · intro c1
      refine And.intro (True.intro) ?_
      exact ⟨_, rfl, by omega, (by unfold orN; split <;> omega)⟩
    · intro c2
      refine And.intro (True.intro) ?_
      exact ⟨_, rfl, by omega, (by unfold orN; split <;> omega)⟩
set_option maxRecDepth 8000 in
theorem ct_M_has_04f65 {I : fH} {x1 : Int} {x2 : Int} (h0 : fB bsJ I) (ha1 : ((-2147483648) ≤ x1 ∧ x1 ≤ 2147483647)) (ha2 : ((-2147483648) ≤ x2 ∧ x2 ≤ 2147483647)) : fC ρ base n F xTc vwCl xTys D dA la gJ (fbz bsJ znJ (fKc []) I) xm_268 [.inr (.inr (some 740)), .inl x1, .inl x2] I (fun _ r => ∃ z, r = some (.inl z) ∧ ((-2147483648) ≤ z ∧ z ≤ 2147483647) ∧ (z = oHas (mR I) x1 x2)) := by
  have hW : fzs [] (fKc []) := fKc_ok _
  refine f_meth (rb := rbJ) (J := []) 1 400 xG xin_268 x6_268 okJ (fB_self h0) ?_ ?_
  · exact fun q h => absurd h List.not_mem_nil
  · have hB0 := fB_self (zn := znJ) (K := fKc []) h0
    have w907 : I 741 7 = gt (mR I) 7 := (show I 741 7 = gt (mR I) 7 from (mR_ld (I := I) (k := 7) (by decide +kernel)).symm)
    refine Exists.intro xm_266 (And.intro mi_266 (And.intro ⟨rfl, rfl, rfl, rfl⟩ (And.intro rfl ?_)))
    refine fcallp hB0 (ct_M_isWork_a0fef (fBz h0 hB0) (by first | exact ⟨ha1.1, ha1.2⟩ | omega)) ?_
    rintro _ ⟨z1, rfl, hz1⟩
    refine And.intro (by omega) (And.intro ?_ ?_)
    · intro c2
      refine And.intro (True.intro) ?_
      exact ⟨_, rfl, (by first | exact ⟨by decide, by decide⟩ | omega), (if_n (fun q => by omega) rfl)⟩
    · intro c3
      refine And.intro (by first | exact fi_ ha2.1 ha2.2 rfl | omega) ?_
      refine Exists.intro xm_238 (And.intro mi_238 (And.intro ⟨rfl, rfl, rfl, rfl⟩ (And.intro True.intro ?_)))
      refine fcallp hB0 (ct_M_isIn_27230 (fBz h0 hB0) (by first | exact ⟨ha2.1, ha2.2⟩ | omega) (by first | exact ⟨by decide, by decide⟩ | omega) (by first | exact ⟨by decide, by decide⟩ | omega)) ?_
      rintro _ ⟨z4, rfl, hz4⟩
      refine And.intro (by omega) (And.intro ?_ ?_)
      · intro c5
        refine And.intro ⟨rfl, by decide, by decide⟩ ?_
        refine Exists.intro xm_244 (And.intro mi_244 (And.intro ⟨rfl, rfl, rfl, rfl⟩ (And.intro rfl ?_)))
        refine fcallp hB0 (ct_M_workAt_83d38 (fBz h0 hB0) (by omega)) ?_
        rintro _ ⟨_, rfl, rfl⟩
        refine fload rL_741_741_530_862_14_10 h0 hB0 (by omega) ?_
        intro z7 lz7 uz7 qz7
        have v34 := mL_r (i0 := 530) (i1 := 862) (m := 14) (q := 10) (by decide +kernel) qz7 (by omega) rfl
        refine And.intro (And.intro (by first | exact fi_ (Int.le_trans (Int.le_refl _) hz4.1) (Int.le_trans hz4.2 (Int.le_refl _)) rfl | omega) (by first | exact ⟨by decide, by decide⟩ | omega)) (And.intro ?_ ?_)
        · intro c8
          refine And.intro (True.intro) ?_
          exact ⟨_, rfl, (by first | exact ⟨lz7, uz7⟩ | omega), (if_y (by omega) (tl_k (by omega) (by omega) v34 (by omega)))⟩
        · intro c9
          refine Exists.intro xm_269 (And.intro mi_269 (And.intro ⟨rfl, rfl, rfl, rfl⟩ (And.intro True.intro ?_)))
          refine fcallp hB0 (ct_M_orNone_a2a87 (fBz h0 hB0) (by first | exact ⟨lz7, uz7⟩ | omega)) ?_
          rintro _ ⟨z10, rfl, hz10, g0z10⟩
          refine And.intro (True.intro) ?_
          exact ⟨_, rfl, by omega, (if_y (by omega) (tl_9 (by omega) (g0z10.trans (congrArg orN (gt_at v34 (by omega))))))⟩
      · intro c11
        refine And.intro (True.intro) ?_
        exact ⟨_, rfl, (by first | exact ⟨by decide, by decide⟩ | omega), (if_y (by omega) (tl_b (fun q => by omega) rfl))⟩
set_option maxRecDepth 8000 in
theorem ct_Works_isOf_7baa9 {I : fH} {x1 : Int} {x2 : Int} (h0 : fB bsJ I) (ha1 : (0 ≤ x1 ∧ x1 ≤ 23)) (ha2 : (0 ≤ x2 ∧ x2 ≤ 6)) : fC ρ base n F xTc vwCl xTys D dA la gJ (fbz bsJ znJ (fKc []) I) xm_48 [.inr (.inr (some 163)), .inl x1, .inl x2] I (fun _ r => ∃ z, r = some (.inl z) ∧ (0 ≤ z ∧ z ≤ 1) ∧ ((z = 1 ∧ asOk x2 (gt (cR 0 I) (530 + 14 * x1))) ∨ (z = 0 ∧ ¬ asOk x2 (gt (cR 0 I) (530 + 14 * x1))))) := by
  have hW : fzs [] (fKc []) := fKc_ok _
  refine f_meth (rb := rbJ) (J := []) 1 400 xG xin_48 x6_48 okJ (fB_self h0) ?_ ?_
  · exact fun q h => absurd h List.not_mem_nil
  · have hB0 := fB_self (zn := znJ) (K := fKc []) h0
    refine And.intro ⟨rfl, by decide, by decide⟩ ?_
    refine fload1 rL_164_164_0_23_1_0 h0 hB0 ⟨by decide, by decide⟩ (by first | exact ⟨ha1.1, ha1.2⟩ | omega) ?_
    intro z1 lz1 uz1 qz1
    have v5 := cL_a (d := 0) (a := 164) (n := 24) (b := 530) (m := 14) (by decide +kernel) (by decide) qz1 (by omega) rfl
    refine And.intro (by first | exact fi_ ha2.1 ha2.2 rfl | omega) (And.intro ?_ ?_)
    · intro c2
      refine And.intro (⟨by decide, by decide⟩) ?_
      exact ⟨_, rfl, (by first | exact ⟨by decide, by decide⟩ | omega), (by rw [← gt_at v5 (show _ = 530 + 14 * x1 by omega)]; unfold asOk; omega)⟩
    · intro c3
      refine And.intro (And.intro (by first | exact fi_ ha2.1 ha2.2 rfl | omega) (by first | exact fi_ lz1 uz1 rfl | omega)) (And.intro ?_ ?_)
      · intro c4
        refine And.intro (⟨by decide, by decide⟩) ?_
        exact ⟨_, rfl, (by first | exact ⟨by decide, by decide⟩ | omega), (by rw [← gt_at v5 (show _ = 530 + 14 * x1 by omega)]; unfold asOk; omega)⟩
      · intro c5
        refine And.intro (And.intro (by first | exact fi_ ha2.1 ha2.2 rfl | omega) (by first | exact ⟨by decide, by decide⟩ | omega)) (And.intro ?_ ?_)
        · intro c6
          refine And.intro (And.intro (by first | exact fi_ ha2.1 ha2.2 rfl | omega) (by first | exact ⟨by decide, by decide⟩ | omega)) (And.intro ?_ ?_)
          · intro c7
            refine And.intro (⟨by omega, by omega⟩) ?_
            exact ⟨_, rfl, by omega, (by rw [← gt_at v5 (show _ = 530 + 14 * x1 by omega)]; unfold asOk; omega)⟩
          · intro c8
            refine And.intro (And.intro (by first | exact fi_ lz1 uz1 rfl | omega) (by first | exact ⟨by decide, by decide⟩ | omega)) (And.intro ?_ ?_)
            · intro c9
              refine And.intro (⟨by omega, by omega⟩) ?_
              exact ⟨_, rfl, by omega, (by rw [← gt_at v5 (show _ = 530 + 14 * x1 by omega)]; unfold asOk; omega)⟩
            · intro c10
              refine And.intro (⟨by decide, by decide⟩) ?_
              exact ⟨_, rfl, (by first | exact ⟨by decide, by decide⟩ | omega), (by rw [← gt_at v5 (show _ = 530 + 14 * x1 by omega)]; unfold asOk; omega)⟩
        · intro c11
          refine And.intro (And.intro (by first | exact fi_ lz1 uz1 rfl | omega) (by first | exact ⟨by decide, by decide⟩ | omega)) (And.intro ?_ ?_)
          · intro c12
            refine And.intro (⟨by decide, by decide⟩) ?_
            exact ⟨_, rfl, (by first | exact ⟨by decide, by decide⟩ | omega), (by rw [← gt_at v5 (show _ = 530 + 14 * x1 by omega)]; unfold asOk; omega)⟩
          · intro c13
            refine And.intro (And.intro (by first | exact fi_ (Int.le_trans (Int.le_refl _) (Int.le_of_eq c11.symm)) (Int.le_trans (Int.le_of_eq c11) (Int.le_refl _)) rfl | omega) (by first | exact ⟨by decide, by decide⟩ | omega)) (And.intro ?_ ?_)
            · intro c14
              refine And.intro (⟨by omega, by omega⟩) ?_
              exact ⟨_, rfl, by omega, (by rw [← gt_at v5 (show _ = 530 + 14 * x1 by omega)]; unfold asOk; omega)⟩
            · intro c15
              refine And.intro (And.intro (by first | exact fi_ lz1 uz1 rfl | omega) (by first | exact ⟨by decide, by decide⟩ | omega)) (And.intro ?_ ?_)
              · intro c16
                refine And.intro (⟨by omega, by omega⟩) ?_
                exact ⟨_, rfl, by omega, (by rw [← gt_at v5 (show _ = 530 + 14 * x1 by omega)]; unfold asOk; omega)⟩
              · intro c17
                refine And.intro (⟨by decide, by decide⟩) ?_
                exact ⟨_, rfl, (by first | exact ⟨by decide, by decide⟩ | omega), (by rw [← gt_at v5 (show _ = 530 + 14 * x1 by omega)]; unfold asOk; omega)⟩
set_option maxRecDepth 8000 in
theorem ct_X_as_22830 {I : fH} {x1 : Int} {x2 : Int} (h0 : fB bsJ I) (ha1 : ((-2147483648) ≤ x1 ∧ x1 ≤ 2147483647)) (ha2 : ((-2147483648) ≤ x2 ∧ x2 ≤ 2147483647)) : fC ρ base n F xTc vwCl xTys D dA la gJ (fbz bsJ znJ (fKc []) I) xm_47 [.inr (.inr (some 0)), .inl x1, .inl x2] I (fun _ r => ∃ z, r = some (.inl z) ∧ ((0 ≤ z ∧ z ≤ 99999) ∨ z = (-1000000012) ∨ z = (-1000000001)) ∧ (z = oAs (cR 0 I) x1 x2)) := by
  have hW : fzs [] (fKc []) := fKc_ok _
  refine f_meth (rb := rbJ) (J := []) 1 400 xG xin_47 x6_47 okJ (fB_self h0) ?_ ?_
  · exact fun q h => absurd h List.not_mem_nil
  · have hB0 := fB_self (zn := znJ) (K := fKc []) h0
    have w907 : I 163 13 = gt (cR 0 I) 7 := (cL_f (d := 0) (a := 163) (j := 13) (r := 7) (p := 7) (I := I) (z := I 163 13) (by decide +kernel) (by decide) rfl rfl)
    refine And.intro ⟨rfl, by decide, by decide⟩ ?_
    refine Exists.intro xm_45 (And.intro mi_45 (And.intro ⟨rfl, rfl, rfl, rfl⟩ (And.intro rfl ?_)))
    refine fcallp hB0 (ct_City_isWork_11526 (fBz h0 hB0) (by first | exact ⟨ha1.1, ha1.2⟩ | omega)) ?_
    rintro _ ⟨z1, rfl, hz1⟩
    refine And.intro (by omega) (And.intro ?_ ?_)
    · intro c2
      refine And.intro (True.intro) ?_
      exact ⟨_, rfl, by omega, (if_n (fun q => by omega) rfl)⟩
    · intro c3
      refine Exists.intro xm_13 (And.intro mi_13 (And.intro ⟨rfl, rfl, rfl, rfl⟩ (And.intro True.intro ?_)))
      refine fcallp hB0 (ct_X_within_c27b1 (fBz h0 hB0) (by first | exact ⟨ha2.1, ha2.2⟩ | omega) (by first | exact ⟨by decide, by decide⟩ | omega) (by first | exact ⟨by decide, by decide⟩ | omega)) ?_
      rintro _ ⟨z4, rfl, hz4⟩
      refine And.intro (by omega) (And.intro ?_ ?_)
      · intro c5
        refine And.intro ⟨rfl, by decide, by decide⟩ ?_
        refine And.intro ⟨rfl, by decide, by decide⟩ ?_
        refine Exists.intro xm_48 (And.intro mi_48 (And.intro ⟨rfl, rfl, rfl, rfl⟩ (And.intro rfl ?_)))
        refine fcallp hB0 (ct_Works_isOf_7baa9 (fBz h0 hB0) (by omega) (by first | exact ⟨Int.le_trans (by decide) (Int.le_trans (Int.le_refl _) hz4.1), Int.le_trans (Int.le_trans hz4.2 (Int.le_refl _)) (by decide)⟩ | omega)) ?_
        rintro _ ⟨z6, rfl, hz6, g0z6⟩
        refine And.intro (by omega) (And.intro ?_ ?_)
        · intro c7
          refine And.intro (True.intro) ?_
          exact ⟨_, rfl, by omega, (if_y (by omega) (if_n (g0z6.elim (fun q => absurd q.1 (by omega)) (fun q => q.2)) rfl))⟩
        · intro c8
          refine And.intro ⟨rfl, by decide, by decide⟩ ?_
          refine And.intro ⟨rfl, by decide, by decide⟩ ?_
          refine And.intro ⟨rfl, by decide, by decide⟩ ?_
          refine fload rL_171_171_0_23_1_0 h0 hB0 (by omega) ?_
          intro z9 lz9 uz9 qz9
          have v50 := cL_a (d := 0) (a := 171) (n := 24) (b := 535) (m := 14) (by decide +kernel) (by decide) qz9 (by omega) rfl
          refine And.intro (True.intro) ?_
          exact ⟨_, rfl, by omega, (if_y (by omega) (if_y (g0z6.elim (fun q => q.2) (fun q => absurd q.1 (by omega))) (gt_to v50 (by omega))))⟩
      · intro c10
        refine And.intro (True.intro) ?_
        exact ⟨_, rfl, by omega, (if_n (fun q => by omega) rfl)⟩
set_option maxRecDepth 8000 in
theorem ct_M_as_6573b {I : fH} {x1 : Int} {x2 : Int} (h0 : fB bsJ I) (ha1 : ((-2147483648) ≤ x1 ∧ x1 ≤ 2147483647)) (ha2 : ((-2147483648) ≤ x2 ∧ x2 ≤ 2147483647)) : fC ρ base n F xTc vwCl xTys D dA la gJ (fbz bsJ znJ (fKc []) I) xm_270 [.inr (.inr (some 740)), .inl x1, .inl x2] I (fun _ r => ∃ z, r = some (.inl z) ∧ ((0 ≤ z ∧ z ≤ 99999) ∨ z = (-1000000012) ∨ z = (-1000000001)) ∧ (z = oAs (mR I) x1 x2)) := by
  have hW : fzs [] (fKc []) := fKc_ok _
  refine f_meth (rb := rbJ) (J := []) 1 400 xG xin_270 x6_270 okJ (fB_self h0) ?_ ?_
  · exact fun q h => absurd h List.not_mem_nil
  · have hB0 := fB_self (zn := znJ) (K := fKc []) h0
    have w907 : I 741 7 = gt (mR I) 7 := (show I 741 7 = gt (mR I) 7 from (mR_ld (I := I) (k := 7) (by decide +kernel)).symm)
    refine Exists.intro xm_266 (And.intro mi_266 (And.intro ⟨rfl, rfl, rfl, rfl⟩ (And.intro rfl ?_)))
    refine fcallp hB0 (ct_M_isWork_a0fef (fBz h0 hB0) (by first | exact ⟨ha1.1, ha1.2⟩ | omega)) ?_
    rintro _ ⟨z1, rfl, hz1⟩
    refine And.intro (by omega) (And.intro ?_ ?_)
    · intro c2
      refine And.intro (True.intro) ?_
      exact ⟨_, rfl, by omega, (if_n (fun q => by omega) rfl)⟩
    · intro c3
      refine And.intro (by first | exact fi_ ha2.1 ha2.2 rfl | omega) ?_
      refine Exists.intro xm_238 (And.intro mi_238 (And.intro ⟨rfl, rfl, rfl, rfl⟩ (And.intro True.intro ?_)))
      refine fcallp hB0 (ct_M_isIn_27230 (fBz h0 hB0) (by first | exact ⟨ha2.1, ha2.2⟩ | omega) (by first | exact ⟨by decide, by decide⟩ | omega) (by first | exact ⟨by decide, by decide⟩ | omega)) ?_
      rintro _ ⟨z4, rfl, hz4⟩
      refine And.intro (by omega) (And.intro ?_ ?_)
      · intro c5
        refine Exists.intro xm_267 (And.intro mi_267 (And.intro ⟨rfl, rfl, rfl, rfl⟩ (And.intro rfl ?_)))
        refine fcallp hB0 (ct_M_kindOf_31275 (fBz h0 hB0) (by omega)) ?_
        rintro _ ⟨z6, rfl, hz6, g0z6, g1z6⟩
        refine And.intro (by first | exact fi_ (Int.le_trans (Int.le_refl _) hz4.1) (Int.le_trans hz4.2 (Int.le_refl _)) rfl | omega) (And.intro ?_ ?_)
        · intro c7
          refine And.intro (by first | exact ⟨by decide, by decide⟩ | omega) (And.intro ?_ ?_)
          · intro c8
            refine And.intro (True.intro) ?_
            exact ⟨_, rfl, by omega, (if_y (by omega) (if_n (by rw [← g1z6]; unfold asOk; omega) rfl))⟩
          · intro c9
            refine And.intro ⟨rfl, by decide, by decide⟩ ?_
            refine Exists.intro xm_244 (And.intro mi_244 (And.intro ⟨rfl, rfl, rfl, rfl⟩ (And.intro rfl ?_)))
            refine fcallp hB0 (ct_M_workAt_83d38 (fBz h0 hB0) (by omega)) ?_
            rintro _ ⟨_, rfl, rfl⟩
            refine fload rL_741_741_535_857_14_0 h0 hB0 (by omega) ?_
            intro z11 lz11 uz11 qz11
            have v81 := mL_r (i0 := 535) (i1 := 857) (m := 14) (q := 0) (by decide +kernel) qz11 (by omega) rfl
            refine And.intro (True.intro) ?_
            exact ⟨_, rfl, by omega, (if_y (by omega) (if_y (by rw [← g1z6]; unfold asOk; omega) (gt_to v81 (by omega))))⟩
        · intro c12
          refine And.intro (And.intro (by first | exact fi_ (Int.le_trans (Int.le_refl _) hz4.1) (Int.le_trans hz4.2 (Int.le_refl _)) rfl | omega) (by first | exact fi_ hz6.1 hz6.2 rfl | omega)) (And.intro ?_ ?_)
          · intro c13
            refine And.intro (by first | exact ⟨by decide, by decide⟩ | omega) (And.intro ?_ ?_)
            · intro c14
              refine And.intro (True.intro) ?_
              exact ⟨_, rfl, by omega, (if_y (by omega) (if_n (by rw [← g1z6]; unfold asOk; omega) rfl))⟩
            · intro c15
              refine And.intro ⟨rfl, by decide, by decide⟩ ?_
              refine Exists.intro xm_244 (And.intro mi_244 (And.intro ⟨rfl, rfl, rfl, rfl⟩ (And.intro rfl ?_)))
              refine fcallp hB0 (ct_M_workAt_83d38 (fBz h0 hB0) (by omega)) ?_
              rintro _ ⟨_, rfl, rfl⟩
              refine fload rL_741_741_535_857_14_0 h0 hB0 (by omega) ?_
              intro z17 lz17 uz17 qz17
              have v81 := mL_r (i0 := 535) (i1 := 857) (m := 14) (q := 0) (by decide +kernel) qz17 (by omega) rfl
              refine And.intro (True.intro) ?_
              exact ⟨_, rfl, by omega, (if_y (by omega) (if_y (by rw [← g1z6]; unfold asOk; omega) (gt_to v81 (by omega))))⟩
          · intro c18
            refine And.intro (And.intro (by first | exact fi_ (Int.le_trans (Int.le_refl _) hz4.1) (Int.le_trans hz4.2 (Int.le_refl _)) rfl | omega) (by first | exact ⟨by decide, by decide⟩ | omega)) (And.intro ?_ ?_)
            · intro c19
              refine And.intro (And.intro (by first | exact fi_ (Int.le_trans (Int.le_refl _) hz4.1) (Int.le_trans hz4.2 (Int.le_refl _)) rfl | omega) (by first | exact ⟨by decide, by decide⟩ | omega)) (And.intro ?_ ?_)
              · intro c20
                refine And.intro (by omega) (And.intro ?_ ?_)
                · intro c21
                  refine And.intro (True.intro) ?_
                  exact ⟨_, rfl, by omega, (if_y (by omega) (if_n (by rw [← g1z6]; unfold asOk; omega) rfl))⟩
                · intro c22
                  refine And.intro ⟨rfl, by decide, by decide⟩ ?_
                  refine Exists.intro xm_244 (And.intro mi_244 (And.intro ⟨rfl, rfl, rfl, rfl⟩ (And.intro rfl ?_)))
                  refine fcallp hB0 (ct_M_workAt_83d38 (fBz h0 hB0) (by omega)) ?_
                  rintro _ ⟨_, rfl, rfl⟩
                  refine fload rL_741_741_535_857_14_0 h0 hB0 (by omega) ?_
                  intro z24 lz24 uz24 qz24
                  have v81 := mL_r (i0 := 535) (i1 := 857) (m := 14) (q := 0) (by decide +kernel) qz24 (by omega) rfl
                  refine And.intro (True.intro) ?_
                  exact ⟨_, rfl, by omega, (if_y (by omega) (if_y (by rw [← g1z6]; unfold asOk; omega) (gt_to v81 (by omega))))⟩
              · intro c25
                refine And.intro (And.intro (by first | exact fi_ hz6.1 hz6.2 rfl | omega) (by first | exact ⟨by decide, by decide⟩ | omega)) (And.intro ?_ ?_)
                · intro c26
                  refine And.intro (by omega) (And.intro ?_ ?_)
                  · intro c27
                    refine And.intro (True.intro) ?_
                    exact ⟨_, rfl, by omega, (if_y (by omega) (if_n (by rw [← g1z6]; unfold asOk; omega) rfl))⟩
                  · intro c28
                    refine And.intro ⟨rfl, by decide, by decide⟩ ?_
                    refine Exists.intro xm_244 (And.intro mi_244 (And.intro ⟨rfl, rfl, rfl, rfl⟩ (And.intro rfl ?_)))
                    refine fcallp hB0 (ct_M_workAt_83d38 (fBz h0 hB0) (by omega)) ?_
                    rintro _ ⟨_, rfl, rfl⟩
                    refine fload rL_741_741_535_857_14_0 h0 hB0 (by omega) ?_
                    intro z30 lz30 uz30 qz30
                    have v81 := mL_r (i0 := 535) (i1 := 857) (m := 14) (q := 0) (by decide +kernel) qz30 (by omega) rfl
                    refine And.intro (True.intro) ?_
                    exact ⟨_, rfl, by omega, (if_y (by omega) (if_y (by rw [← g1z6]; unfold asOk; omega) (gt_to v81 (by omega))))⟩
                · intro c31
                  refine And.intro (by first | exact ⟨by decide, by decide⟩ | omega) (And.intro ?_ ?_)
                  · intro c32
                    refine And.intro (True.intro) ?_
                    exact ⟨_, rfl, by omega, (if_y (by omega) (if_n (by rw [← g1z6]; unfold asOk; omega) rfl))⟩
                  · intro c33
                    refine And.intro ⟨rfl, by decide, by decide⟩ ?_
                    refine Exists.intro xm_244 (And.intro mi_244 (And.intro ⟨rfl, rfl, rfl, rfl⟩ (And.intro rfl ?_)))
                    refine fcallp hB0 (ct_M_workAt_83d38 (fBz h0 hB0) (by omega)) ?_
                    rintro _ ⟨_, rfl, rfl⟩
                    refine fload rL_741_741_535_857_14_0 h0 hB0 (by omega) ?_
                    intro z35 lz35 uz35 qz35
                    have v81 := mL_r (i0 := 535) (i1 := 857) (m := 14) (q := 0) (by decide +kernel) qz35 (by omega) rfl
                    refine And.intro (True.intro) ?_
                    exact ⟨_, rfl, by omega, (if_y (by omega) (if_y (by rw [← g1z6]; unfold asOk; omega) (gt_to v81 (by omega))))⟩
            · intro c36
              refine And.intro (And.intro (by first | exact fi_ hz6.1 hz6.2 rfl | omega) (by first | exact ⟨by decide, by decide⟩ | omega)) (And.intro ?_ ?_)
              · intro c37
                refine And.intro (by first | exact ⟨by decide, by decide⟩ | omega) (And.intro ?_ ?_)
                · intro c38
                  refine And.intro (True.intro) ?_
                  exact ⟨_, rfl, by omega, (if_y (by omega) (if_n (by rw [← g1z6]; unfold asOk; omega) rfl))⟩
                · intro c39
                  refine And.intro ⟨rfl, by decide, by decide⟩ ?_
                  refine Exists.intro xm_244 (And.intro mi_244 (And.intro ⟨rfl, rfl, rfl, rfl⟩ (And.intro rfl ?_)))
                  refine fcallp hB0 (ct_M_workAt_83d38 (fBz h0 hB0) (by omega)) ?_
                  rintro _ ⟨_, rfl, rfl⟩
                  refine fload rL_741_741_535_857_14_0 h0 hB0 (by omega) ?_
                  intro z41 lz41 uz41 qz41
                  have v81 := mL_r (i0 := 535) (i1 := 857) (m := 14) (q := 0) (by decide +kernel) qz41 (by omega) rfl
                  refine And.intro (True.intro) ?_
                  exact ⟨_, rfl, by omega, (if_y (by omega) (if_y (by rw [← g1z6]; unfold asOk; omega) (gt_to v81 (by omega))))⟩
              · intro c42
                refine And.intro (And.intro (by first | exact fi_ (Int.le_trans (Int.le_refl _) (Int.le_of_eq c36.symm)) (Int.le_trans (Int.le_of_eq c36) (Int.le_refl _)) rfl | omega) (by first | exact ⟨by decide, by decide⟩ | omega)) (And.intro ?_ ?_)
                · intro c43
                  refine And.intro (by omega) (And.intro ?_ ?_)
                  · intro c44
                    refine And.intro (True.intro) ?_
                    exact ⟨_, rfl, by omega, (if_y (by omega) (if_n (by rw [← g1z6]; unfold asOk; omega) rfl))⟩
                  · intro c45
                    refine And.intro ⟨rfl, by decide, by decide⟩ ?_
                    refine Exists.intro xm_244 (And.intro mi_244 (And.intro ⟨rfl, rfl, rfl, rfl⟩ (And.intro rfl ?_)))
                    refine fcallp hB0 (ct_M_workAt_83d38 (fBz h0 hB0) (by omega)) ?_
                    rintro _ ⟨_, rfl, rfl⟩
                    refine fload rL_741_741_535_857_14_0 h0 hB0 (by omega) ?_
                    intro z47 lz47 uz47 qz47
                    have v81 := mL_r (i0 := 535) (i1 := 857) (m := 14) (q := 0) (by decide +kernel) qz47 (by omega) rfl
                    refine And.intro (True.intro) ?_
                    exact ⟨_, rfl, by omega, (if_y (by omega) (if_y (by rw [← g1z6]; unfold asOk; omega) (gt_to v81 (by omega))))⟩
                · intro c48
                  refine And.intro (And.intro (by first | exact fi_ hz6.1 hz6.2 rfl | omega) (by first | exact ⟨by decide, by decide⟩ | omega)) (And.intro ?_ ?_)
                  · intro c49
                    refine And.intro (by omega) (And.intro ?_ ?_)
                    · intro c50
                      refine And.intro (True.intro) ?_
                      exact ⟨_, rfl, by omega, (if_y (by omega) (if_n (by rw [← g1z6]; unfold asOk; omega) rfl))⟩
                    · intro c51
                      refine And.intro ⟨rfl, by decide, by decide⟩ ?_
                      refine Exists.intro xm_244 (And.intro mi_244 (And.intro ⟨rfl, rfl, rfl, rfl⟩ (And.intro rfl ?_)))
                      refine fcallp hB0 (ct_M_workAt_83d38 (fBz h0 hB0) (by omega)) ?_
                      rintro _ ⟨_, rfl, rfl⟩
                      refine fload rL_741_741_535_857_14_0 h0 hB0 (by omega) ?_
                      intro z53 lz53 uz53 qz53
                      have v81 := mL_r (i0 := 535) (i1 := 857) (m := 14) (q := 0) (by decide +kernel) qz53 (by omega) rfl
                      refine And.intro (True.intro) ?_
                      exact ⟨_, rfl, by omega, (if_y (by omega) (if_y (by rw [← g1z6]; unfold asOk; omega) (gt_to v81 (by omega))))⟩
                  · intro c54
                    refine And.intro (by first | exact ⟨by decide, by decide⟩ | omega) (And.intro ?_ ?_)
                    · intro c55
                      refine And.intro (True.intro) ?_
                      exact ⟨_, rfl, by omega, (if_y (by omega) (if_n (by rw [← g1z6]; unfold asOk; omega) rfl))⟩
                    · intro c56
                      refine And.intro ⟨rfl, by decide, by decide⟩ ?_
                      refine Exists.intro xm_244 (And.intro mi_244 (And.intro ⟨rfl, rfl, rfl, rfl⟩ (And.intro rfl ?_)))
                      refine fcallp hB0 (ct_M_workAt_83d38 (fBz h0 hB0) (by omega)) ?_
                      rintro _ ⟨_, rfl, rfl⟩
                      refine fload rL_741_741_535_857_14_0 h0 hB0 (by omega) ?_
                      intro z58 lz58 uz58 qz58
                      have v81 := mL_r (i0 := 535) (i1 := 857) (m := 14) (q := 0) (by decide +kernel) qz58 (by omega) rfl
                      refine And.intro (True.intro) ?_
                      exact ⟨_, rfl, by omega, (if_y (by omega) (if_y (by rw [← g1z6]; unfold asOk; omega) (gt_to v81 (by omega))))⟩
      · intro c59
        refine And.intro (True.intro) ?_
        exact ⟨_, rfl, by omega, (if_n (fun q => by omega) rfl)⟩
set_option maxRecDepth 8000 in
theorem ct_Works_isGone_6681e {I : fH} {x1 : Int} (h0 : fB bsJ I) (ha1 : (0 ≤ x1 ∧ x1 ≤ 23)) : fC ρ base n F xTc vwCl xTys D dA la gJ (fbz bsJ znJ (fKc []) I) xm_50 [.inr (.inr (some 163)), .inl x1] I (fun _ r => ∃ z, r = some (.inl z) ∧ (0 ≤ z ∧ z ≤ 1) ∧ ((z = 1 ∧ gt (cR 0 I) (538 + 14 * x1) = 1) ∨ (z = 0 ∧ gt (cR 0 I) (538 + 14 * x1) = 0))) := by
  have hW : fzs [] (fKc []) := fKc_ok _
  refine f_meth (rb := rbJ) (J := []) 1 400 xG xin_50 x6_50 okJ (fB_self h0) ?_ ?_
  · exact fun q h => absurd h List.not_mem_nil
  · have hB0 := fB_self (zn := znJ) (K := fKc []) h0
    refine And.intro ⟨rfl, by decide, by decide⟩ ?_
    refine fload1 rL_174_174_0_23_1_0 h0 hB0 ⟨by decide, by decide⟩ (by first | exact ⟨ha1.1, ha1.2⟩ | omega) ?_
    intro z1 lz1 uz1 qz1
    have v5 := cL_a (d := 0) (a := 174) (n := 24) (b := 538) (m := 14) (by decide +kernel) (by decide) qz1 (by omega) rfl
    refine And.intro (And.intro (by first | exact fi_ lz1 uz1 rfl | omega) (by first | exact ⟨by decide, by decide⟩ | omega)) (And.intro ?_ ?_)
    · intro c2
      refine And.intro (⟨by omega, by omega⟩) ?_
      exact ⟨_, rfl, by omega, (gn_of v5 (by omega) (by omega))⟩
    · intro c3
      refine And.intro (⟨by decide, by decide⟩) ?_
      exact ⟨_, rfl, (by first | exact ⟨by decide, by decide⟩ | omega), (gn_of v5 (by omega) (by omega))⟩
set_option maxRecDepth 8000 in
theorem ct_X_swap_f56fb {I : fH} {x1 : Int} {x2 : Int} (h0 : fB bsJ I) (ha1 : (0 ≤ x1 ∧ x1 ≤ 23)) (ha2 : (0 ≤ x2 ∧ x2 ≤ 1)) : fC ρ base n F xTc vwCl xTys D dA la gJ (fbz bsJ znJ (fKc wz_31db8) I) xm_18 [.inr (.inr (some 167)), .inl x1, .inl x2] I (fun I' r => ∃ z, r = some (.inl z) ∧ (0 ≤ z ∧ z ≤ 1) ∧ (I' = fupd I 167 x1.toNat x2) ∧ (z = I 167 x1.toNat)) := by
  have hW : fzs wz_31db8 (fKc wz_31db8) := fKc_ok _
  refine f_meth (rb := rbJ) (J := []) 1 400 xG xin_18 x6_18 okJ (fB_self h0) ?_ ?_
  · exact fun q h => absurd h List.not_mem_nil
  · have hB0 := fB_self (zn := znJ) (K := fKc wz_31db8) h0
    refine fload1 rL_167_167_0_23_1_0 h0 hB0 ⟨by decide, by decide⟩ (by first | exact ⟨ha1.1, ha1.2⟩ | omega) ?_
    intro z1 lz1 uz1 qz1
    refine fstore1 rS_167_167_0_23_1_0 (fzs_sub (by decide +kernel) hW) ⟨by decide, by decide⟩ (by first | exact ⟨ha1.1, ha1.2⟩ | omega) (by first | exact ⟨ha2.1, ha2.2⟩ | omega) ?_
    intro IhB2 ehB2 hB2
    have t3 := fup_self ehB2
    refine And.intro (True.intro) ?_
    exact ⟨_, rfl, (by first | exact ⟨lz1, uz1⟩ | omega), ehB2, qz1⟩
set_option maxRecDepth 8000 in
theorem ct_X_swap_fc3ce {I : fH} {x1 : Int} {x2 : Int} (h0 : fB bsJ I) (ha1 : (0 ≤ x1 ∧ x1 ≤ 23)) (ha2 : (0 ≤ x2 ∧ x2 ≤ 99)) : fC ρ base n F xTc vwCl xTys D dA la gJ (fbz bsJ znJ (fKc wz_b92a7) I) xm_18 [.inr (.inr (some 169)), .inl x1, .inl x2] I (fun I' r => ∃ z, r = some (.inl z) ∧ (0 ≤ z ∧ z ≤ 99) ∧ (I' = fupd I 169 x1.toNat x2) ∧ (z = I 169 x1.toNat)) := by
  have hW : fzs wz_b92a7 (fKc wz_b92a7) := fKc_ok _
  refine f_meth (rb := rbJ) (J := []) 1 400 xG xin_18 x6_18 okJ (fB_self h0) ?_ ?_
  · exact fun q h => absurd h List.not_mem_nil
  · have hB0 := fB_self (zn := znJ) (K := fKc wz_b92a7) h0
    refine fload1 rL_169_169_0_23_1_0 h0 hB0 ⟨by decide, by decide⟩ (by first | exact ⟨ha1.1, ha1.2⟩ | omega) ?_
    intro z1 lz1 uz1 qz1
    refine fstore1 rS_169_169_0_23_1_0 (fzs_sub (by decide +kernel) hW) ⟨by decide, by decide⟩ (by first | exact ⟨ha1.1, ha1.2⟩ | omega) (by first | exact ⟨ha2.1, ha2.2⟩ | omega) ?_
    intro IhB2 ehB2 hB2
    have t3 := fup_self ehB2
    refine And.intro (True.intro) ?_
    exact ⟨_, rfl, (by first | exact ⟨lz1, uz1⟩ | omega), ehB2, qz1⟩
set_option maxRecDepth 8000 in
theorem ct_X_tune_a06cc {I : fH} {x1 : Int} {x2 : Int} {x3 : Int} (h0 : fB bsJ I) (ha1 : ((-2147483648) ≤ x1 ∧ x1 ≤ 2147483647)) (ha2 : ((-2147483648) ≤ x2 ∧ x2 ≤ 2147483647)) (ha3 : ((-2147483648) ≤ x3 ∧ x3 ≤ 2147483647)) : fC ρ base n F xTc vwCl xTys D dA la gJ (fbz bsJ znJ (fKc wz_451e1) I) xm_49 [.inr (.inr (some 0)), .inl x1, .inl x2, .inl x3] I (fun I' r => ∃ z, r = some (.inl z) ∧ ((0 ≤ z ∧ z ≤ 99) ∨ z = (-1000000002) ∨ z = (-1000000001)) ∧ ((cR 0 I', z) = oTune (cR 0 I) x1 x2 x3)) := by
  have hW : fzs wz_451e1 (fKc wz_451e1) := fKc_ok _
  refine f_meth (rb := rbJ) (J := []) 1 400 xG xin_49 x6_49 okJ (fB_self h0) ?_ ?_
  · exact fun q h => absurd h List.not_mem_nil
  · have hB0 := fB_self (zn := znJ) (K := fKc wz_451e1) h0
    have w907 : I 163 13 = gt (cR 0 I) 7 := (cL_f (d := 0) (a := 163) (j := 13) (r := 7) (p := 7) (I := I) (z := I 163 13) (by decide +kernel) (by decide) rfl rfl)
    refine And.intro ⟨rfl, by decide, by decide⟩ ?_
    refine Exists.intro xm_45 (And.intro mi_45 (And.intro ⟨rfl, rfl, rfl, rfl⟩ (And.intro rfl ?_)))
    refine fcallp hB0 (ct_City_isWork_11526 (fBz h0 hB0) (by first | exact ⟨ha1.1, ha1.2⟩ | omega)) ?_
    rintro _ ⟨z1, rfl, hz1⟩
    refine And.intro (by omega) (And.intro ?_ ?_)
    · intro c2
      refine And.intro (True.intro) ?_
      exact ⟨_, rfl, by omega, (pr_n (fun q => by have q1 := q.2.2.2; split at q1 <;> omega) rfl)⟩
    · intro c3
      refine Exists.intro xm_13 (And.intro mi_13 (And.intro ⟨rfl, rfl, rfl, rfl⟩ (And.intro True.intro ?_)))
      refine fcallp hB0 (ct_X_within_c27b1 (fBz h0 hB0) (by first | exact ⟨ha2.1, ha2.2⟩ | omega) (by first | exact ⟨by decide, by decide⟩ | omega) (by first | exact ⟨by decide, by decide⟩ | omega)) ?_
      rintro _ ⟨z4, rfl, hz4⟩
      refine And.intro (by omega) (And.intro ?_ ?_)
      · intro c5
        refine And.intro (True.intro) ?_
        exact ⟨_, rfl, by omega, (pr_n (fun q => by have q1 := q.2.2.2; split at q1 <;> omega) rfl)⟩
      · intro c6
        refine And.intro (by first | exact fi_ (Int.le_trans (Int.le_refl _) hz4.1) (Int.le_trans hz4.2 (Int.le_refl _)) rfl | omega) (And.intro ?_ ?_)
        · intro c7
          refine Exists.intro xm_13 (And.intro mi_13 (And.intro ⟨rfl, rfl, rfl, rfl⟩ (And.intro True.intro ?_)))
          refine fcallp hB0 (ct_X_within_c27b1 (fBz h0 hB0) (by first | exact ⟨ha3.1, ha3.2⟩ | omega) (by first | exact ⟨by decide, by decide⟩ | omega) (by omega)) ?_
          rintro _ ⟨z8, rfl, hz8⟩
          refine And.intro (by omega) (And.intro ?_ ?_)
          · intro c9
            refine And.intro ⟨rfl, by decide, by decide⟩ ?_
            refine And.intro ⟨rfl, by decide, by decide⟩ ?_
            refine Exists.intro xm_50 (And.intro mi_50 (And.intro ⟨rfl, rfl, rfl, rfl⟩ (And.intro rfl ?_)))
            refine fcallp hB0 (ct_Works_isGone_6681e (fBz h0 hB0) (by omega)) ?_
            rintro _ ⟨z10, rfl, hz10, g0z10⟩
            refine And.intro (by omega) (And.intro ?_ ?_)
            · intro c11
              refine And.intro (by first | exact fi_ (Int.le_trans (Int.le_refl _) hz4.1) (Int.le_trans hz4.2 (Int.le_refl _)) rfl | omega) (And.intro ?_ ?_)
              · intro c12
                refine And.intro ⟨rfl, by decide, by decide⟩ ?_
                refine And.intro ⟨rfl, by decide, by decide⟩ ?_
                refine And.intro ⟨rfl, by decide, by decide⟩ ?_
                refine Exists.intro xm_18 (And.intro mi_18 (And.intro ⟨rfl, rfl, rfl, rfl⟩ (And.intro True.intro ?_)))
                refine fcall _ h0 (fzs_sub (by decide +kernel) hW) hB0 (ct_X_swap_fc3ce (fBz h0 hB0) (by omega) (by omega)) ?_
                rintro IhB14 _ hB14 fhB14 ⟨z13, rfl, hz13, g0z13, g1z13⟩
                have v92 := cL_a (d := 0) (a := 169) (n := 24) (b := 541) (m := 14) (by decide +kernel) (by decide) g1z13 (by omega) rfl
                have r92 := cS_a (d := 0) (a := 169) (n := 24) (b := 541) (m := 14) (by decide +kernel) (by decide) g0z13 (by omega) rfl
                refine And.intro (True.intro) ?_
                exact ⟨_, rfl, by omega, (pr_i ⟨by omega, by omega, by omega, by split <;> omega⟩ (pr_n (fun q => by have q1 := (g0z10.elim (fun q => absurd q.1 (by omega)) (fun q => q.2)); omega) (pr_e (by rw [r92]; exact (rud_cg (by first | omega | (split <;> omega)) rfl)) (gt_at v92 (by first | omega | (split <;> omega))))))⟩
              · intro c15
                refine And.intro ⟨rfl, by decide, by decide⟩ ?_
                refine And.intro ⟨rfl, by decide, by decide⟩ ?_
                refine And.intro ⟨rfl, by decide, by decide⟩ ?_
                refine Exists.intro xm_18 (And.intro mi_18 (And.intro ⟨rfl, rfl, rfl, rfl⟩ (And.intro True.intro ?_)))
                refine fcall _ h0 (fzs_sub (by decide +kernel) hW) hB0 (ct_X_swap_f56fb (fBz h0 hB0) (by omega) (by omega)) ?_
                rintro IhB17 _ hB17 fhB17 ⟨z16, rfl, hz16, g0z16, g1z16⟩
                have v74 := cL_a (d := 0) (a := 167) (n := 24) (b := 533) (m := 14) (by decide +kernel) (by decide) g1z16 (by omega) rfl
                have r74 := cS_a (d := 0) (a := 167) (n := 24) (b := 533) (m := 14) (by decide +kernel) (by decide) g0z16 (by omega) rfl
                refine And.intro (True.intro) ?_
                exact ⟨_, rfl, by omega, (pr_i ⟨by omega, by omega, by omega, by split <;> omega⟩ (pr_n (fun q => by have q1 := (g0z10.elim (fun q => absurd q.1 (by omega)) (fun q => q.2)); omega) (pr_e (by rw [r74]; exact (rud_cg (by first | omega | (split <;> omega)) rfl)) (gt_at v74 (by first | omega | (split <;> omega))))))⟩
            · intro c18
              refine And.intro (True.intro) ?_
              exact ⟨_, rfl, by omega, (pr_i ⟨by omega, by omega, by omega, by split <;> omega⟩ (pr_i (g0z10.elim (fun q => q.2) (fun q => absurd q.1 (by omega))) rfl))⟩
          · intro c19
            refine And.intro (True.intro) ?_
            exact ⟨_, rfl, by omega, (pr_n (fun q => by have q1 := q.2.2.2; split at q1 <;> omega) rfl)⟩
        · intro c20
          refine Exists.intro xm_13 (And.intro mi_13 (And.intro ⟨rfl, rfl, rfl, rfl⟩ (And.intro True.intro ?_)))
          refine fcallp hB0 (ct_X_within_c27b1 (fBz h0 hB0) (by first | exact ⟨ha3.1, ha3.2⟩ | omega) (by first | exact ⟨by decide, by decide⟩ | omega) (by first | exact ⟨by decide, by decide⟩ | omega)) ?_
          rintro _ ⟨z21, rfl, hz21⟩
          refine And.intro (by omega) (And.intro ?_ ?_)
          · intro c22
            refine And.intro ⟨rfl, by decide, by decide⟩ ?_
            refine And.intro ⟨rfl, by decide, by decide⟩ ?_
            refine Exists.intro xm_50 (And.intro mi_50 (And.intro ⟨rfl, rfl, rfl, rfl⟩ (And.intro rfl ?_)))
            refine fcallp hB0 (ct_Works_isGone_6681e (fBz h0 hB0) (by omega)) ?_
            rintro _ ⟨z23, rfl, hz23, g0z23⟩
            refine And.intro (by omega) (And.intro ?_ ?_)
            · intro c24
              refine And.intro (by first | exact fi_ (Int.le_trans (Int.le_refl _) hz4.1) (Int.le_trans (Int.le_of_eq c20) (Int.le_refl _)) rfl | omega) (And.intro ?_ ?_)
              · intro c25
                refine And.intro ⟨rfl, by decide, by decide⟩ ?_
                refine And.intro ⟨rfl, by decide, by decide⟩ ?_
                refine And.intro ⟨rfl, by decide, by decide⟩ ?_
                refine Exists.intro xm_18 (And.intro mi_18 (And.intro ⟨rfl, rfl, rfl, rfl⟩ (And.intro True.intro ?_)))
                refine fcall _ h0 (fzs_sub (by decide +kernel) hW) hB0 (ct_X_swap_fc3ce (fBz h0 hB0) (by omega) (by first | exact ⟨Int.le_trans (by decide) (Int.le_trans (Int.le_refl _) hz21.1), Int.le_trans (Int.le_trans hz21.2 (Int.le_refl _)) (by decide)⟩ | omega)) ?_
                rintro IhB27 _ hB27 fhB27 ⟨z26, rfl, hz26, g0z26, g1z26⟩
                have v92 := cL_a (d := 0) (a := 169) (n := 24) (b := 541) (m := 14) (by decide +kernel) (by decide) g1z26 (by omega) rfl
                have r92 := cS_a (d := 0) (a := 169) (n := 24) (b := 541) (m := 14) (by decide +kernel) (by decide) g0z26 (by omega) rfl
                refine And.intro (True.intro) ?_
                exact ⟨_, rfl, by omega, (pr_i ⟨by omega, by omega, by omega, by split <;> omega⟩ (pr_n (fun q => by have q1 := (g0z23.elim (fun q => absurd q.1 (by omega)) (fun q => q.2)); omega) (pr_e (by rw [r92]; exact (rud_cg (by first | omega | (split <;> omega)) rfl)) (gt_at v92 (by first | omega | (split <;> omega))))))⟩
              · intro c28
                refine And.intro ⟨rfl, by decide, by decide⟩ ?_
                refine And.intro ⟨rfl, by decide, by decide⟩ ?_
                refine And.intro ⟨rfl, by decide, by decide⟩ ?_
                refine Exists.intro xm_18 (And.intro mi_18 (And.intro ⟨rfl, rfl, rfl, rfl⟩ (And.intro True.intro ?_)))
                refine fcall _ h0 (fzs_sub (by decide +kernel) hW) hB0 (ct_X_swap_f56fb (fBz h0 hB0) (by omega) (by first | exact ⟨Int.le_trans (by decide) (Int.le_trans (Int.le_refl _) hz21.1), Int.le_trans (Int.le_trans hz21.2 (Int.le_refl _)) (by decide)⟩ | omega)) ?_
                rintro IhB30 _ hB30 fhB30 ⟨z29, rfl, hz29, g0z29, g1z29⟩
                have v74 := cL_a (d := 0) (a := 167) (n := 24) (b := 533) (m := 14) (by decide +kernel) (by decide) g1z29 (by omega) rfl
                have r74 := cS_a (d := 0) (a := 167) (n := 24) (b := 533) (m := 14) (by decide +kernel) (by decide) g0z29 (by omega) rfl
                refine And.intro (True.intro) ?_
                exact ⟨_, rfl, by omega, (pr_i ⟨by omega, by omega, by omega, by split <;> omega⟩ (pr_n (fun q => by have q1 := (g0z23.elim (fun q => absurd q.1 (by omega)) (fun q => q.2)); omega) (pr_e (by rw [r74]; exact (rud_cg (by first | omega | (split <;> omega)) rfl)) (gt_at v74 (by first | omega | (split <;> omega))))))⟩
            · intro c31
              refine And.intro (True.intro) ?_
              exact ⟨_, rfl, by omega, (pr_i ⟨by omega, by omega, by omega, by split <;> omega⟩ (pr_i (g0z23.elim (fun q => q.2) (fun q => absurd q.1 (by omega))) rfl))⟩
          · intro c32
            refine And.intro (True.intro) ?_
            exact ⟨_, rfl, by omega, (pr_n (fun q => by have q1 := q.2.2.2; split at q1 <;> omega) rfl)⟩
theorem ct_M_put_649af {I : fH} {x1 x2 : Int} (h0 : fB bsJ I) (ha1 : 533 ≤ x1 ∧ x1 ≤ 863) (ha2 : -2147483648 ≤ x2 ∧ x2 ≤ 2147483647) (hp0 : ((x1 - 530) % 14 = 3 ∧ 0 ≤ x2 ∧ x2 ≤ 1) ∨ ((x1 - 530) % 14 = 11 ∧ 0 ≤ x2 ∧ x2 ≤ 99)) : fC ρ base n F xTc vwCl xTys D dA la gJ (fbz bsJ znJ (fKc wz_4cdea) I) xm_242 [.inr (.inr (some 740)), .inl x1, .inl x2] I (fun I' r => ∃ z, r = some (.inl z) ∧ (-2147483648 ≤ z ∧ z ≤ 2147483647) ∧ (I' = fupd I 741 x1.toNat x2) ∧ (z = I 741 x1.toNat)) := by
  have hq : znJ 741 x1.toNat ∈ wz_4cdea ∧ (bsJ 741 x1.toNat).1 ≤ x2 ∧ x2 ≤ (bsJ 741 x1.toNat).2 := by
    rcases hp0 with hp0 | hp0
    · exact (frS_at rS_741_741_533_855_14_0 (by decide +kernel) (by omega) (by omega)).2
    · exact (frS_at rS_741_741_541_863_14_0 (by decide +kernel) (by omega) (by omega)).2
  refine fC_mono (ct_put h0 (by omega) hq.1 hq.2) (fun I' r _ q => ?_)
  obtain ⟨z, e, e2, e3⟩ := q
  have h3 := (frL_at rL_741_741_0_4899_1_0 h0 (a := 741) (i := x1) (by omega)).2
  exact ⟨z, e, by omega, e3, e2⟩
set_option maxRecDepth 8000 in
theorem ct_M_tune_14fd5 {I : fH} {x1 : Int} {x2 : Int} {x3 : Int} (h0 : fB bsJ I) (ha1 : ((-2147483648) ≤ x1 ∧ x1 ≤ 2147483647)) (ha2 : ((-2147483648) ≤ x2 ∧ x2 ≤ 2147483647)) (ha3 : ((-2147483648) ≤ x3 ∧ x3 ≤ 2147483647)) : fC ρ base n F xTc vwCl xTys D dA la gJ (fbz bsJ znJ (fKc wz_4cdea) I) xm_271 [.inr (.inr (some 740)), .inl x1, .inl x2, .inl x3] I (fun I' r => ∃ z, r = some (.inl z) ∧ ((-2147483648) ≤ z ∧ z ≤ 2147483647) ∧ ((mR I', z) = oTune (mR I) x1 x2 x3)) := by
  have hW : fzs wz_4cdea (fKc wz_4cdea) := fKc_ok _
  refine f_meth (rb := rbJ) (J := []) 1 400 xG xin_271 x6_271 okJ (fB_self h0) ?_ ?_
  · exact fun q h => absurd h List.not_mem_nil
  · have hB0 := fB_self (zn := znJ) (K := fKc wz_4cdea) h0
    have w907 : I 741 7 = gt (mR I) 7 := (show I 741 7 = gt (mR I) 7 from (mR_ld (I := I) (k := 7) (by decide +kernel)).symm)
    refine Exists.intro xm_266 (And.intro mi_266 (And.intro ⟨rfl, rfl, rfl, rfl⟩ (And.intro rfl ?_)))
    refine fcallp hB0 (ct_M_isWork_a0fef (fBz h0 hB0) (by first | exact ⟨ha1.1, ha1.2⟩ | omega)) ?_
    rintro _ ⟨z1, rfl, hz1⟩
    refine And.intro (by omega) (And.intro ?_ ?_)
    · intro c2
      refine And.intro (True.intro) ?_
      exact ⟨_, rfl, (by first | exact ⟨by decide, by decide⟩ | omega), (pr_n (fun q => by have q1 := q.2.2.2; split at q1 <;> omega) rfl)⟩
    · intro c3
      refine And.intro (by first | exact fi_ ha2.1 ha2.2 rfl | omega) ?_
      refine Exists.intro xm_238 (And.intro mi_238 (And.intro ⟨rfl, rfl, rfl, rfl⟩ (And.intro True.intro ?_)))
      refine fcallp hB0 (ct_M_isIn_27230 (fBz h0 hB0) (by first | exact ⟨ha2.1, ha2.2⟩ | omega) (by first | exact ⟨by decide, by decide⟩ | omega) (by first | exact ⟨by decide, by decide⟩ | omega)) ?_
      rintro _ ⟨z4, rfl, hz4⟩
      refine And.intro (by omega) (And.intro ?_ ?_)
      · intro c5
        refine And.intro (True.intro) ?_
        exact ⟨_, rfl, (by first | exact ⟨by decide, by decide⟩ | omega), (pr_n (fun q => by have q1 := q.2.2.2; split at q1 <;> omega) rfl)⟩
      · intro c6
        refine And.intro (by first | exact fi_ ha3.1 ha3.2 rfl | omega) ?_
        refine And.intro (by first | exact fi_ (Int.le_trans (Int.le_refl _) hz4.1) (Int.le_trans hz4.2 (Int.le_refl _)) rfl | omega) (And.intro ?_ ?_)
        · intro c7
          refine Exists.intro xm_238 (And.intro mi_238 (And.intro ⟨rfl, rfl, rfl, rfl⟩ (And.intro True.intro ?_)))
          refine fcallp hB0 (ct_M_isIn_27230 (fBz h0 hB0) (by first | exact ⟨ha3.1, ha3.2⟩ | omega) (by first | exact ⟨by decide, by decide⟩ | omega) (by omega)) ?_
          rintro _ ⟨z8, rfl, hz8⟩
          refine And.intro (by omega) (And.intro ?_ ?_)
          · intro c9
            refine Exists.intro xm_245 (And.intro mi_245 (And.intro ⟨rfl, rfl, rfl, rfl⟩ (And.intro rfl ?_)))
            refine fcallp hB0 (ct_M_isGone_0de37 (fBz h0 hB0) (by omega)) ?_
            rintro _ ⟨z10, rfl, hz10, g0z10⟩
            refine And.intro (by omega) (And.intro ?_ ?_)
            · intro c11
              refine Exists.intro xm_244 (And.intro mi_244 (And.intro ⟨rfl, rfl, rfl, rfl⟩ (And.intro rfl ?_)))
              refine fcallp hB0 (ct_M_workAt_83d38 (fBz h0 hB0) (by omega)) ?_
              rintro _ ⟨_, rfl, rfl⟩
              refine And.intro (by first | exact fi_ (Int.le_trans (Int.le_refl _) hz4.1) (Int.le_trans hz4.2 (Int.le_refl _)) rfl | omega) (And.intro ?_ ?_)
              · intro c13
                refine Exists.intro xm_242 (And.intro mi_242 (And.intro ⟨rfl, rfl, rfl, rfl⟩ (And.intro rfl ?_)))
                refine fcall _ h0 (fzs_sub (by decide +kernel) hW) hB0 (ct_M_put_649af (fBz h0 hB0) (by omega) (by first | exact ⟨Int.le_trans (by decide) (Int.le_trans (Int.le_refl _) hz8.1), ha3.2⟩ | omega) (by omega)) ?_
                rintro IhB15 _ hB15 fhB15 ⟨z14, rfl, hz14, g0z14, g1z14⟩
                have v72 := mL_r (i0 := 541) (i1 := 863) (m := 14) (q := 0) (by decide +kernel) g1z14 (by omega) rfl
                have r72 := mS_r (i0 := 541) (i1 := 863) (m := 14) (q := 0) (by decide +kernel) g0z14 (by omega) rfl
                skip
                have b72 := mV_rng (i0 := 541) (i1 := 863) (m := 14) (q := 0) (lo := 0) (hi := 99) v72 (by decide +kernel) h0 (by omega)
                refine And.intro (True.intro) ?_
                exact ⟨_, rfl, (by first | exact ⟨hz14.1, hz14.2⟩ | omega), (pr_i ⟨by omega, by omega, by omega, by split <;> omega⟩ (pr_n (fun q => by have q1 := (g0z10.elim (fun q => absurd q.1 (by omega)) (fun q => q.2)); omega) (pr_e (by rw [r72]; exact (rud_cg (by first | omega | (split <;> omega)) rfl)) (gt_at v72 (by first | omega | (split <;> omega))))))⟩
              · intro c16
                refine Exists.intro xm_242 (And.intro mi_242 (And.intro ⟨rfl, rfl, rfl, rfl⟩ (And.intro rfl ?_)))
                refine fcall _ h0 (fzs_sub (by decide +kernel) hW) hB0 (ct_M_put_649af (fBz h0 hB0) (by omega) (by first | exact ⟨Int.le_trans (by decide) (Int.le_trans (Int.le_refl _) hz8.1), ha3.2⟩ | omega) (by omega)) ?_
                rintro IhB18 _ hB18 fhB18 ⟨z17, rfl, hz17, g0z17, g1z17⟩
                have v72 := mL_r (i0 := 533) (i1 := 855) (m := 14) (q := 0) (by decide +kernel) g1z17 (by omega) rfl
                have r72 := mS_r (i0 := 533) (i1 := 855) (m := 14) (q := 0) (by decide +kernel) g0z17 (by omega) rfl
                skip
                have b72 := mV_rng (i0 := 533) (i1 := 855) (m := 14) (q := 0) (lo := 0) (hi := 99) v72 (by decide +kernel) h0 (by omega)
                refine And.intro (True.intro) ?_
                exact ⟨_, rfl, (by first | exact ⟨hz17.1, hz17.2⟩ | omega), (pr_i ⟨by omega, by omega, by omega, by split <;> omega⟩ (pr_n (fun q => by have q1 := (g0z10.elim (fun q => absurd q.1 (by omega)) (fun q => q.2)); omega) (pr_e (by rw [r72]; exact (rud_cg (by first | omega | (split <;> omega)) rfl)) (gt_at v72 (by first | omega | (split <;> omega))))))⟩
            · intro c19
              refine And.intro (True.intro) ?_
              exact ⟨_, rfl, (by first | exact ⟨by decide, by decide⟩ | omega), (pr_i ⟨by omega, by omega, by omega, by split <;> omega⟩ (pr_i (g0z10.elim (fun q => q.2) (fun q => absurd q.1 (by omega))) rfl))⟩
          · intro c20
            refine And.intro (True.intro) ?_
            exact ⟨_, rfl, (by first | exact ⟨by decide, by decide⟩ | omega), (pr_n (fun q => by have q1 := q.2.2.2; split at q1 <;> omega) rfl)⟩
        · intro c21
          refine Exists.intro xm_238 (And.intro mi_238 (And.intro ⟨rfl, rfl, rfl, rfl⟩ (And.intro True.intro ?_)))
          refine fcallp hB0 (ct_M_isIn_27230 (fBz h0 hB0) (by first | exact ⟨ha3.1, ha3.2⟩ | omega) (by first | exact ⟨by decide, by decide⟩ | omega) (by first | exact ⟨by decide, by decide⟩ | omega)) ?_
          rintro _ ⟨z22, rfl, hz22⟩
          refine And.intro (by omega) (And.intro ?_ ?_)
          · intro c23
            refine Exists.intro xm_245 (And.intro mi_245 (And.intro ⟨rfl, rfl, rfl, rfl⟩ (And.intro rfl ?_)))
            refine fcallp hB0 (ct_M_isGone_0de37 (fBz h0 hB0) (by omega)) ?_
            rintro _ ⟨z24, rfl, hz24, g0z24⟩
            refine And.intro (by omega) (And.intro ?_ ?_)
            · intro c25
              refine Exists.intro xm_244 (And.intro mi_244 (And.intro ⟨rfl, rfl, rfl, rfl⟩ (And.intro rfl ?_)))
              refine fcallp hB0 (ct_M_workAt_83d38 (fBz h0 hB0) (by omega)) ?_
              rintro _ ⟨_, rfl, rfl⟩
              refine And.intro (by first | exact fi_ (Int.le_trans (Int.le_refl _) hz4.1) (Int.le_trans (Int.le_of_eq c21) (Int.le_refl _)) rfl | omega) (And.intro ?_ ?_)
              · intro c27
                refine Exists.intro xm_242 (And.intro mi_242 (And.intro ⟨rfl, rfl, rfl, rfl⟩ (And.intro rfl ?_)))
                refine fcall _ h0 (fzs_sub (by decide +kernel) hW) hB0 (ct_M_put_649af (fBz h0 hB0) (by omega) (by first | exact ⟨Int.le_trans (by decide) (Int.le_trans (Int.le_refl _) hz22.1), Int.le_trans (Int.le_trans hz22.2 (Int.le_refl _)) (by decide)⟩ | omega) (by omega)) ?_
                rintro IhB29 _ hB29 fhB29 ⟨z28, rfl, hz28, g0z28, g1z28⟩
                have v72 := mL_r (i0 := 541) (i1 := 863) (m := 14) (q := 0) (by decide +kernel) g1z28 (by omega) rfl
                have r72 := mS_r (i0 := 541) (i1 := 863) (m := 14) (q := 0) (by decide +kernel) g0z28 (by omega) rfl
                skip
                have b72 := mV_rng (i0 := 541) (i1 := 863) (m := 14) (q := 0) (lo := 0) (hi := 99) v72 (by decide +kernel) h0 (by omega)
                refine And.intro (True.intro) ?_
                exact ⟨_, rfl, (by first | exact ⟨hz28.1, hz28.2⟩ | omega), (pr_i ⟨by omega, by omega, by omega, by split <;> omega⟩ (pr_n (fun q => by have q1 := (g0z24.elim (fun q => absurd q.1 (by omega)) (fun q => q.2)); omega) (pr_e (by rw [r72]; exact (rud_cg (by first | omega | (split <;> omega)) rfl)) (gt_at v72 (by first | omega | (split <;> omega))))))⟩
              · intro c30
                refine Exists.intro xm_242 (And.intro mi_242 (And.intro ⟨rfl, rfl, rfl, rfl⟩ (And.intro rfl ?_)))
                refine fcall _ h0 (fzs_sub (by decide +kernel) hW) hB0 (ct_M_put_649af (fBz h0 hB0) (by omega) (by first | exact ⟨Int.le_trans (by decide) (Int.le_trans (Int.le_refl _) hz22.1), Int.le_trans (Int.le_trans hz22.2 (Int.le_refl _)) (by decide)⟩ | omega) (by omega)) ?_
                rintro IhB32 _ hB32 fhB32 ⟨z31, rfl, hz31, g0z31, g1z31⟩
                have v72 := mL_r (i0 := 533) (i1 := 855) (m := 14) (q := 0) (by decide +kernel) g1z31 (by omega) rfl
                have r72 := mS_r (i0 := 533) (i1 := 855) (m := 14) (q := 0) (by decide +kernel) g0z31 (by omega) rfl
                skip
                have b72 := mV_rng (i0 := 533) (i1 := 855) (m := 14) (q := 0) (lo := 0) (hi := 99) v72 (by decide +kernel) h0 (by omega)
                refine And.intro (True.intro) ?_
                exact ⟨_, rfl, (by first | exact ⟨hz31.1, hz31.2⟩ | omega), (pr_i ⟨by omega, by omega, by omega, by split <;> omega⟩ (pr_n (fun q => by have q1 := (g0z24.elim (fun q => absurd q.1 (by omega)) (fun q => q.2)); omega) (pr_e (by rw [r72]; exact (rud_cg (by first | omega | (split <;> omega)) rfl)) (gt_at v72 (by first | omega | (split <;> omega))))))⟩
            · intro c33
              refine And.intro (True.intro) ?_
              exact ⟨_, rfl, (by first | exact ⟨by decide, by decide⟩ | omega), (pr_i ⟨by omega, by omega, by omega, by split <;> omega⟩ (pr_i (g0z24.elim (fun q => q.2) (fun q => absurd q.1 (by omega))) rfl))⟩
          · intro c34
            refine And.intro (True.intro) ?_
            exact ⟨_, rfl, (by first | exact ⟨by decide, by decide⟩ | omega), (pr_n (fun q => by have q1 := q.2.2.2; split at q1 <;> omega) rfl)⟩
set_option maxRecDepth 8000 in
theorem ct_X_swap_4d491 {I : fH} {x1 : Int} {x2 : Int} (h0 : fB bsJ I) (ha1 : (0 ≤ x1 ∧ x1 ≤ 23)) (ha2 : (0 ≤ x2 ∧ x2 ≤ 0)) : fC ρ base n F xTc vwCl xTys D dA la gJ (fbz bsJ znJ (fKc wz_5fd86) I) xm_18 [.inr (.inr (some 168)), .inl x1, .inl x2] I (fun I' r => ∃ z, r = some (.inl z) ∧ (0 ≤ z ∧ z ≤ 100) ∧ (I' = fupd I 168 x1.toNat x2) ∧ (z = I 168 x1.toNat)) := by
  have hW : fzs wz_5fd86 (fKc wz_5fd86) := fKc_ok _
  refine f_meth (rb := rbJ) (J := []) 1 400 xG xin_18 x6_18 okJ (fB_self h0) ?_ ?_
  · exact fun q h => absurd h List.not_mem_nil
  · have hB0 := fB_self (zn := znJ) (K := fKc wz_5fd86) h0
    refine fload1 rL_168_168_0_23_1_0 h0 hB0 ⟨by decide, by decide⟩ (by first | exact ⟨ha1.1, ha1.2⟩ | omega) ?_
    intro z1 lz1 uz1 qz1
    refine fstore1 rS_168_168_0_23_1_0 (fzs_sub (by decide +kernel) hW) ⟨by decide, by decide⟩ (by first | exact ⟨ha1.1, ha1.2⟩ | omega) (by first | exact ⟨ha2.1, Int.le_trans ha2.2 (by decide)⟩ | omega) ?_
    intro IhB2 ehB2 hB2
    have t3 := fup_self ehB2
    refine And.intro (True.intro) ?_
    exact ⟨_, rfl, (by first | exact ⟨lz1, uz1⟩ | omega), ehB2, qz1⟩
set_option maxRecDepth 8000 in
theorem ct_X_clean_d14e5 {I : fH} {x1 : Int} (h0 : fB bsJ I) (ha1 : ((-2147483648) ≤ x1 ∧ x1 ≤ 2147483647)) : fC ρ base n F xTc vwCl xTys D dA la gJ (fbz bsJ znJ (fKc wz_5fd86) I) xm_51 [.inr (.inr (some 0)), .inl x1] I (fun I' r => ∃ z, r = some (.inl z) ∧ ((0 ≤ z ∧ z ≤ 100) ∨ z = (-1000000002) ∨ z = (-1000000001)) ∧ ((cR 0 I', z) = oClean (cR 0 I) x1)) := by
  have hW : fzs wz_5fd86 (fKc wz_5fd86) := fKc_ok _
  refine f_meth (rb := rbJ) (J := []) 1 400 xG xin_51 x6_51 okJ (fB_self h0) ?_ ?_
  · exact fun q h => absurd h List.not_mem_nil
  · have hB0 := fB_self (zn := znJ) (K := fKc wz_5fd86) h0
    have w907 : I 163 13 = gt (cR 0 I) 7 := (cL_f (d := 0) (a := 163) (j := 13) (r := 7) (p := 7) (I := I) (z := I 163 13) (by decide +kernel) (by decide) rfl rfl)
    refine And.intro ⟨rfl, by decide, by decide⟩ ?_
    refine Exists.intro xm_45 (And.intro mi_45 (And.intro ⟨rfl, rfl, rfl, rfl⟩ (And.intro rfl ?_)))
    refine fcallp hB0 (ct_City_isWork_11526 (fBz h0 hB0) (by first | exact ⟨ha1.1, ha1.2⟩ | omega)) ?_
    rintro _ ⟨z1, rfl, hz1⟩
    refine And.intro (by omega) (And.intro ?_ ?_)
    · intro c2
      refine And.intro ⟨rfl, by decide, by decide⟩ ?_
      refine And.intro ⟨rfl, by decide, by decide⟩ ?_
      refine Exists.intro xm_50 (And.intro mi_50 (And.intro ⟨rfl, rfl, rfl, rfl⟩ (And.intro rfl ?_)))
      refine fcallp hB0 (ct_Works_isGone_6681e (fBz h0 hB0) (by omega)) ?_
      rintro _ ⟨z3, rfl, hz3, g0z3⟩
      refine And.intro (by omega) (And.intro ?_ ?_)
      · intro c4
        refine And.intro ⟨rfl, by decide, by decide⟩ ?_
        refine And.intro ⟨rfl, by decide, by decide⟩ ?_
        refine And.intro ⟨rfl, by decide, by decide⟩ ?_
        refine Exists.intro xm_18 (And.intro mi_18 (And.intro ⟨rfl, rfl, rfl, rfl⟩ (And.intro True.intro ?_)))
        refine fcall _ h0 (fzs_sub (by decide +kernel) hW) hB0 (ct_X_swap_4d491 (fBz h0 hB0) (by omega) (by first | exact ⟨by decide, by decide⟩ | omega)) ?_
        rintro IhB6 _ hB6 fhB6 ⟨z5, rfl, hz5, g0z5, g1z5⟩
        have v45 := cL_a (d := 0) (a := 168) (n := 24) (b := 534) (m := 14) (by decide +kernel) (by decide) g1z5 (by omega) rfl
        have r45 := cS_a (d := 0) (a := 168) (n := 24) (b := 534) (m := 14) (by decide +kernel) (by decide) g0z5 (by omega) rfl
        refine And.intro (True.intro) ?_
        exact ⟨_, rfl, by omega, (pr_i (by omega) (pr_n (fun q => by have q1 := (g0z3.elim (fun q => absurd q.1 (by omega)) (fun q => q.2)); omega) (pr_e (by rw [r45]; exact (rud_cg (by omega) rfl)) (gt_at v45 (by omega)))))⟩
      · intro c7
        refine And.intro (True.intro) ?_
        exact ⟨_, rfl, by omega, (pr_i (by omega) (pr_i (g0z3.elim (fun q => q.2) (fun q => absurd q.1 (by omega))) rfl))⟩
    · intro c8
      refine And.intro (True.intro) ?_
      exact ⟨_, rfl, by omega, (pr_n (fun q => by omega) rfl)⟩
set_option maxRecDepth 8000 in
theorem ct_M_put_d2826 {I : fH} {x1 : Int} {x2 : Int} (h0 : fB bsJ I) (ha1 : ((534 ≤ x1 ∧ x1 ≤ 856) ∧ (x1 - 534) % 14 ≤ 0)) (ha2 : (0 ≤ x2 ∧ x2 ≤ 0)) : fC ρ base n F xTc vwCl xTys D dA la gJ (fbz bsJ znJ (fKc wz_38a0a) I) xm_242 [.inr (.inr (some 740)), .inl x1, .inl x2] I (fun I' r => ∃ z, r = some (.inl z) ∧ (0 ≤ z ∧ z ≤ 100) ∧ (I' = fupd I 741 x1.toNat x2) ∧ (z = I 741 x1.toNat)) := by
  have hW : fzs wz_38a0a (fKc wz_38a0a) := fKc_ok _
  refine f_meth (rb := rbJ) (J := []) 1 400 xG xin_242 x6_242 okJ (fB_self h0) ?_ ?_
  · exact fun q h => absurd h List.not_mem_nil
  · have hB0 := fB_self (zn := znJ) (K := fKc wz_38a0a) h0
    refine And.intro ⟨rfl, by decide, by decide⟩ ?_
    refine fload rL_741_741_534_856_14_0 h0 hB0 (by omega) ?_
    intro z1 lz1 uz1 qz1
    refine And.intro ⟨rfl, by decide, by decide⟩ ?_
    refine fstore rS_741_741_534_856_14_0 (fzs_sub (by decide +kernel) hW) (by omega) (by first | exact ⟨ha2.1, Int.le_trans ha2.2 (by decide)⟩ | omega) ?_
    intro IhB2 ehB2 hB2
    have t3 := fup_self ehB2
    refine And.intro (True.intro) ?_
    exact ⟨_, rfl, (by first | exact ⟨lz1, uz1⟩ | omega), ehB2, qz1⟩
set_option maxRecDepth 8000 in
theorem ct_M_clean_8ba19 {I : fH} {x1 : Int} (h0 : fB bsJ I) (ha1 : ((-2147483648) ≤ x1 ∧ x1 ≤ 2147483647)) : fC ρ base n F xTc vwCl xTys D dA la gJ (fbz bsJ znJ (fKc wz_38a0a) I) xm_272 [.inr (.inr (some 740)), .inl x1] I (fun I' r => ∃ z, r = some (.inl z) ∧ ((0 ≤ z ∧ z ≤ 100) ∨ z = (-1000000002) ∨ z = (-1000000001)) ∧ ((mR I', z) = oClean (mR I) x1)) := by
  have hW : fzs wz_38a0a (fKc wz_38a0a) := fKc_ok _
  refine f_meth (rb := rbJ) (J := []) 1 400 xG xin_272 x6_272 okJ (fB_self h0) ?_ ?_
  · exact fun q h => absurd h List.not_mem_nil
  · have hB0 := fB_self (zn := znJ) (K := fKc wz_38a0a) h0
    have w907 : I 741 7 = gt (mR I) 7 := (show I 741 7 = gt (mR I) 7 from (mR_ld (I := I) (k := 7) (by decide +kernel)).symm)
    refine Exists.intro xm_266 (And.intro mi_266 (And.intro ⟨rfl, rfl, rfl, rfl⟩ (And.intro rfl ?_)))
    refine fcallp hB0 (ct_M_isWork_a0fef (fBz h0 hB0) (by first | exact ⟨ha1.1, ha1.2⟩ | omega)) ?_
    rintro _ ⟨z1, rfl, hz1⟩
    refine And.intro (by omega) (And.intro ?_ ?_)
    · intro c2
      refine Exists.intro xm_245 (And.intro mi_245 (And.intro ⟨rfl, rfl, rfl, rfl⟩ (And.intro rfl ?_)))
      refine fcallp hB0 (ct_M_isGone_0de37 (fBz h0 hB0) (by omega)) ?_
      rintro _ ⟨z3, rfl, hz3, g0z3⟩
      refine And.intro (by omega) (And.intro ?_ ?_)
      · intro c4
        refine Exists.intro xm_244 (And.intro mi_244 (And.intro ⟨rfl, rfl, rfl, rfl⟩ (And.intro rfl ?_)))
        refine fcallp hB0 (ct_M_workAt_83d38 (fBz h0 hB0) (by omega)) ?_
        rintro _ ⟨_, rfl, rfl⟩
        refine Exists.intro xm_242 (And.intro mi_242 (And.intro ⟨rfl, rfl, rfl, rfl⟩ (And.intro rfl ?_)))
        refine fcall _ h0 (fzs_sub (by decide +kernel) hW) hB0 (ct_M_put_d2826 (fBz h0 hB0) (by omega) (by first | exact ⟨by decide, by decide⟩ | omega)) ?_
        rintro IhB7 _ hB7 fhB7 ⟨z6, rfl, hz6, g0z6, g1z6⟩
        have v35 := mL_r (i0 := 534) (i1 := 856) (m := 14) (q := 0) (by decide +kernel) g1z6 (by omega) rfl
        have r35 := mS_r (i0 := 534) (i1 := 856) (m := 14) (q := 0) (by decide +kernel) g0z6 (by omega) rfl
        refine And.intro (True.intro) ?_
        exact ⟨_, rfl, by omega, (pr_i (by omega) (pr_n (fun q => by have q1 := (g0z3.elim (fun q => absurd q.1 (by omega)) (fun q => q.2)); omega) (pr_e (by rw [r35]; exact (rud_cg (by omega) rfl)) (gt_at v35 (by omega)))))⟩
      · intro c8
        refine And.intro (True.intro) ?_
        exact ⟨_, rfl, by omega, (pr_i (by omega) (pr_i (g0z3.elim (fun q => q.2) (fun q => absurd q.1 (by omega))) rfl))⟩
    · intro c9
      refine And.intro (True.intro) ?_
      exact ⟨_, rfl, by omega, (pr_n (fun q => by omega) rfl)⟩
set_option maxRecDepth 8000 in
theorem ct_X_sew_ca0d8 {I : fH} {x1 : Int} (h0 : fB bsJ I) (ha1 : ((-2147483648) ≤ x1 ∧ x1 ≤ 2147483647)) : fC ρ base n F xTc vwCl xTys D dA la gJ (fbz bsJ znJ (fKc wz_9fac9) I) xm_52 [.inr (.inr (some 0)), .inl x1] I (fun I' r => ∃ z, r = some (.inl z) ∧ ((0 ≤ z ∧ z ≤ 99999) ∨ z = (-1000000012) ∨ z = (-1000000002) ∨ z = (-1000000001)) ∧ ((cR 0 I', z) = oSew (cR 0 I) x1)) := by
  have hW : fzs wz_9fac9 (fKc wz_9fac9) := fKc_ok _
  refine f_meth (rb := rbJ) (J := []) 1 400 xG xin_52 x6_52 okJ (fB_self h0) ?_ ?_
  · exact fun q h => absurd h List.not_mem_nil
  · have hB0 := fB_self (zn := znJ) (K := fKc wz_9fac9) h0
    have w907 : I 163 13 = gt (cR 0 I) 7 := (cL_f (d := 0) (a := 163) (j := 13) (r := 7) (p := 7) (I := I) (z := I 163 13) (by decide +kernel) (by decide) rfl rfl)
    refine And.intro ⟨rfl, by decide, by decide⟩ ?_
    refine Exists.intro xm_45 (And.intro mi_45 (And.intro ⟨rfl, rfl, rfl, rfl⟩ (And.intro rfl ?_)))
    refine fcallp hB0 (ct_City_isWork_11526 (fBz h0 hB0) (by first | exact ⟨ha1.1, ha1.2⟩ | omega)) ?_
    rintro _ ⟨z1, rfl, hz1⟩
    refine And.intro (by omega) (And.intro ?_ ?_)
    · intro c2
      refine And.intro ⟨rfl, by decide, by decide⟩ ?_
      refine And.intro ⟨rfl, by decide, by decide⟩ ?_
      refine And.intro ⟨rfl, by decide, by decide⟩ ?_
      refine fload rL_164_164_0_23_1_0 h0 hB0 (by omega) ?_
      intro z3 lz3 uz3 qz3
      have v27 := cL_a (d := 0) (a := 164) (n := 24) (b := 530) (m := 14) (by decide +kernel) (by decide) qz3 (by omega) rfl
      refine And.intro (And.intro (by first | exact fi_ lz3 uz3 rfl | omega) (by first | exact ⟨by decide, by decide⟩ | omega)) (And.intro ?_ ?_)
      · intro c4
        refine Exists.intro xm_50 (And.intro mi_50 (And.intro ⟨rfl, rfl, rfl, rfl⟩ (And.intro rfl ?_)))
        refine fcallp hB0 (ct_Works_isGone_6681e (fBz h0 hB0) (by omega)) ?_
        rintro _ ⟨z5, rfl, hz5, g0z5⟩
        refine And.intro (by omega) (And.intro ?_ ?_)
        · intro c6
          refine And.intro (True.intro) ?_
          exact ⟨_, rfl, by omega, (pr_i (by omega) (pr_n (fun q => q (by rw [← (gt_at v27 (show _ = 530 + 14 * x1 by omega))]; omega)) (pr_i (Or.inl (g0z5.elim (fun q => q.2) (fun q => absurd q.1 (by omega)))) rfl)))⟩
        · intro c7
          refine And.intro ⟨rfl, by decide, by decide⟩ ?_
          refine fload rL_171_171_0_23_1_0 h0 hB0 (by omega) ?_
          intro z8 lz8 uz8 qz8
          have v48 := cL_a (d := 0) (a := 171) (n := 24) (b := 535) (m := 14) (by decide +kernel) (by decide) qz8 (by omega) rfl
          refine And.intro (And.intro (by first | exact fi_ lz8 uz8 rfl | omega) (by first | exact ⟨by decide, by decide⟩ | omega)) (And.intro ?_ ?_)
          · intro c9
            refine And.intro (True.intro) ?_
            exact ⟨_, rfl, by omega, (pr_i (by omega) (pr_n (fun q => q (by rw [← (gt_at v27 (show _ = 530 + 14 * x1 by omega))]; omega)) (pr_i (Or.inr (Or.inl (by rw [← gt_at v48 (show _ = 535 + 14 * x1 by omega)]; omega))) rfl)))⟩
          · intro c10
            refine And.intro ⟨rfl, by decide, by decide⟩ ?_
            refine And.intro ⟨rfl, by decide, by decide⟩ ?_
            refine fload1 rL_182_182_0_5_1_0 h0 hB0 ⟨by decide, by decide⟩ (by first | exact ⟨by decide, by decide⟩ | omega) ?_
            intro z11 lz11 uz11 qz11
            have pz11 := fld_at qz11 4 (by omega)
            have v62 := cL_a (d := 0) (a := 182) (n := 6) (b := 17) (m := 1) (by decide +kernel) (by decide) qz11 (by omega) rfl
            refine And.intro (And.intro (by first | exact fi_ lz11 uz11 rfl | omega) (by first | exact ⟨by decide, by decide⟩ | omega)) (And.intro ?_ ?_)
            · intro c12
              refine And.intro ⟨rfl, by decide, by decide⟩ ?_
              refine And.intro ⟨rfl, by decide, by decide⟩ ?_
              refine fload1 rL_182_182_0_5_1_0 h0 hB0 ⟨by decide, by decide⟩ (by first | exact ⟨by decide, by decide⟩ | omega) ?_
              intro z13 lz13 uz13 qz13
              have pz13 := fld_at qz13 4 (by omega)
              have v79 := cL_a (d := 0) (a := 182) (n := 6) (b := 17) (m := 1) (by decide +kernel) (by decide) qz13 (by omega) rfl
              refine fstore1 rS_182_182_0_5_1_0 (fzs_sub (by decide +kernel) hW) ⟨by decide, by decide⟩ (by first | exact ⟨by decide, by decide⟩ | omega) (by omega) ?_
              intro IhB14 ehB14 hB14
              have t15 := fup_self ehB14
              have t16 := fup_at ehB14 4 (by first | rfl | omega)
              have r82 := cS_a (d := 0) (a := 182) (n := 6) (b := 17) (m := 1) (by decide +kernel) (by decide) ehB14 (by omega) rfl
              refine And.intro ⟨rfl, by decide, by decide⟩ ?_
              refine fload rL_171_171_0_23_1_0 h0 hB14 (by omega) ?_
              intro z17 lz17 uz17 qz17
              have v89 := cL_a (d := 0) (a := 171) (n := 24) (b := 535) (m := 14) (by decide +kernel) (by decide) qz17 (by omega) rfl
              rw [r82] at v89
              have u89 := qz17.trans (fup_other ehB14 _ _ (Or.inl (by omega)))
              intro z18 hz18 ez18 bz18
              clear ez18
              have bz18 := bz18 (by omega)
              refine fstore rS_171_171_0_23_1_0 (fzs_sub (by decide +kernel) hW) (by omega) (by omega) ?_
              intro IhB19 ehB19 hB19
              have t20 := fup_self ehB19
              have t21 : IhB19 182 4 = IhB14 182 4 := (congrFun (congrFun ehB19 182) 4).trans (fup_ne (by first | exact Or.inl (by decide) | omega))
              have r92 := cS_a (d := 0) (a := 171) (n := 24) (b := 535) (m := 14) (by decide +kernel) (by decide) ehB19 (by omega) rfl
              refine And.intro ⟨rfl, by decide, by decide⟩ ?_
              refine fload rL_171_171_0_23_1_0 h0 hB19 (by omega) ?_
              intro z22 lz22 uz22 qz22
              have v98 := cL_a (d := 0) (a := 171) (n := 24) (b := 535) (m := 14) (by decide +kernel) (by decide) qz22 (by omega) rfl
              rw [r92, r82] at v98
              refine And.intro (True.intro) ?_
              exact ⟨_, rfl, by omega, (pr_i (by omega) (pr_n (fun q => q (by rw [← (gt_at v27 (show _ = 530 + 14 * x1 by omega))]; omega)) (pr_n (fun q => by have q1 := (g0z5.elim (fun q => absurd q.1 (by omega)) (fun q => q.2)); have q2 := gt_at v48 (show _ = 535 + 14 * x1 by omega); have q3 := gt_at v62 (show _ = (21 : Int) by omega); omega) (pr_e (by rw [r92, r82]; exact (se_of (by omega) v79 (by omega) (by omega) v89 (by omega) (by omega) (by omega))) (by have q1 := gt_at (gt_n (by omega) (by omega) v89) (show _ = 535 + 14 * x1 by omega); omega)))))⟩
            · intro c23
              refine And.intro (True.intro) ?_
              exact ⟨_, rfl, by omega, (pr_i (by omega) (pr_n (fun q => q (by rw [← (gt_at v27 (show _ = 530 + 14 * x1 by omega))]; omega)) (pr_i (Or.inr (Or.inr (by rw [← gt_at v62 (show _ = (21 : Int) by omega)]; omega))) rfl)))⟩
      · intro c24
        refine And.intro (True.intro) ?_
        exact ⟨_, rfl, by omega, (pr_i (by omega) (pr_i (by rw [← (gt_at v27 (show _ = 530 + 14 * x1 by omega))]; omega) rfl))⟩
    · intro c25
      refine And.intro (True.intro) ?_
      exact ⟨_, rfl, by omega, (pr_n (fun q => by omega) rfl)⟩
end CT

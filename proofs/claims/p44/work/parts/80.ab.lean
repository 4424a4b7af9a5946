set_option linter.all false
/-! contracts (written by gen95.py) -/
theorem x6_252 : f60c xTc xTys xm_252 = true := by decide +kernel
abbrev wz_4080a : List Nat := [748, 749, 20203]
theorem x6_250 : f60c xTc xTys xm_250 = true := by decide +kernel
abbrev wz_ba6ab : List Nat := [182]
theorem rL_182_182_0_5_1_0 : frL gJ bsJ 100 ((182, 182), (0, 5), (1, 0), ((-2147483648), 2147483647)) := frL_hull (by decide) (by decide +kernel)
theorem rS_182_182_0_5_1_0 : frS gJ bsJ znJ [182] 100 ((182, 182), (0, 5), (1, 0), ((-2147483648), 2147483647)) := frS_dflt (by decide) (by decide +kernel)
theorem x6_39 : f60c xTc xTys xm_39 = true := by decide +kernel
abbrev wz_77ac1 : List Nat := [20017, 20018, 20019, 20020, 20021, 20022]
theorem rL_741_741_17_22_1_0 : frL gJ bsJ 100 ((741, 741), (17, 22), (1, 0), ((-2147483648), 2147483647)) := frL_hull (by decide) (by decide +kernel)
theorem rS_741_741_17_22_1_0 : frS gJ bsJ znJ [20017, 20018, 20019, 20020, 20021, 20022] 100 ((741, 741), (17, 22), (1, 0), ((-2147483648), 2147483647)) := frS_of (by decide +kernel)
theorem x6_262 : f60c xTc xTys xm_262 = true := by decide +kernel
abbrev wz_d3fe1 : List Nat := [5, 182]
theorem x6_40 : f60c xTc xTys xm_40 = true := by decide +kernel
abbrev wz_a3123 : List Nat := [20017, 20018, 20019, 20020, 20021, 20022, 20101, 20102, 20103, 20104, 20105]
theorem x6_263 : f60c xTc xTys xm_263 = true := by decide +kernel
theorem rS_741_741_31_415_20_4 : frS gJ bsJ znJ [20101, 20102, 20103, 20104, 20105] 100 ((741, 741), (31, 415), (20, 4), ((-2147483648), 2147483647)) := frS_of (by decide +kernel)
abbrev wz_53189 : List Nat := [164, 165, 166, 167, 168, 169, 170, 171, 172, 173, 174, 175, 176, 10313]
theorem x6_43 : f60c xTc xTys xm_43 = true := by decide +kernel
theorem rS_164_164_0_23_1_0 : frS gJ bsJ znJ [164] 100 ((164, 164), (0, 23), (1, 0), ((-2147483648), 2147483647)) := frS_dflt (by decide) (by decide +kernel)
theorem rS_165_165_0_23_1_0 : frS gJ bsJ znJ [165] 100 ((165, 165), (0, 23), (1, 0), (0, 19)) := frS_of (by decide +kernel)
theorem rS_166_166_0_23_1_0 : frS gJ bsJ znJ [166] 100 ((166, 166), (0, 23), (1, 0), ((-2147483648), 2147483647)) := frS_dflt (by decide) (by decide +kernel)
theorem rS_167_167_0_23_1_0 : frS gJ bsJ znJ [167] 100 ((167, 167), (0, 23), (1, 0), ((-2147483648), 2147483647)) := frS_dflt (by decide) (by decide +kernel)
theorem rS_168_168_0_23_1_0 : frS gJ bsJ znJ [168] 100 ((168, 168), (0, 23), (1, 0), ((-2147483648), 2147483647)) := frS_dflt (by decide) (by decide +kernel)
theorem rS_169_169_0_23_1_0 : frS gJ bsJ znJ [169] 100 ((169, 169), (0, 23), (1, 0), ((-2147483648), 2147483647)) := frS_dflt (by decide) (by decide +kernel)
theorem rS_170_170_0_23_1_0 : frS gJ bsJ znJ [170] 100 ((170, 170), (0, 23), (1, 0), ((-2147483648), 2147483647)) := frS_dflt (by decide) (by decide +kernel)
theorem rS_171_171_0_23_1_0 : frS gJ bsJ znJ [171] 100 ((171, 171), (0, 23), (1, 0), ((-2147483648), 2147483647)) := frS_dflt (by decide) (by decide +kernel)
theorem rS_172_172_0_23_1_0 : frS gJ bsJ znJ [172] 100 ((172, 172), (0, 23), (1, 0), ((-2147483648), 2147483647)) := frS_dflt (by decide) (by decide +kernel)
theorem rS_173_173_0_23_1_0 : frS gJ bsJ znJ [173] 100 ((173, 173), (0, 23), (1, 0), ((-2147483648), 2147483647)) := frS_dflt (by decide) (by decide +kernel)
theorem rS_174_174_0_23_1_0 : frS gJ bsJ znJ [174] 100 ((174, 174), (0, 23), (1, 0), ((-2147483648), 2147483647)) := frS_dflt (by decide) (by decide +kernel)
theorem rS_175_175_0_23_1_0 : frS gJ bsJ znJ [175] 100 ((175, 175), (0, 23), (1, 0), ((-1000000005), 60)) := frS_of (by decide +kernel)
theorem rS_176_176_0_23_1_0 : frS gJ bsJ znJ [176] 100 ((176, 176), (0, 23), (1, 0), ((-2147483648), 2147483647)) := frS_dflt (by decide) (by decide +kernel)
theorem x6_42 : f60c xTc xTys xm_42 = true := by decide +kernel
theorem rL_164_164_0_23_1_0 : frL gJ bsJ 100 ((164, 164), (0, 23), (1, 0), ((-2147483648), 2147483647)) := frL_hull (by decide) (by decide +kernel)
theorem x6_41 : f60c xTc xTys xm_41 = true := by decide +kernel
theorem x6_266 : f60c xTc xTys xm_266 = true := by decide +kernel
theorem fb_741_7 : bsJ 741 7 = (0, 24) := by decide +kernel
theorem x6_267 : f60c xTc xTys xm_267 = true := by decide +kernel
theorem rL_741_741_530_852_14_0 : frL gJ bsJ 100 ((741, 741), (530, 852), (14, 0), ((-2147483648), 2147483647)) := frL_hull (by decide) (by decide +kernel)
theorem x6_265 : f60c xTc xTys xm_265 = true := by decide +kernel
abbrev wz_6345f : List Nat := [20007, 20300, 20301, 20302, 20303, 20304, 20305, 20306, 20307, 20308, 20309, 20310, 20311, 20312, 20313]
theorem x6_264 : f60c xTc xTys xm_264 = true := by decide +kernel
theorem rS_741_741_530_852_14_0 : frS gJ bsJ znJ [20300] 100 ((741, 741), (530, 852), (14, 0), ((-2147483648), 2147483647)) := frS_of (by decide +kernel)
theorem rS_741_741_531_853_14_0 : frS gJ bsJ znJ [20301] 100 ((741, 741), (531, 853), (14, 0), (0, 19)) := frS_of (by decide +kernel)
theorem rS_741_741_532_854_14_0 : frS gJ bsJ znJ [20302] 100 ((741, 741), (532, 854), (14, 0), ((-2147483648), 2147483647)) := frS_of (by decide +kernel)
theorem rS_741_741_533_855_14_0 : frS gJ bsJ znJ [20303] 100 ((741, 741), (533, 855), (14, 0), ((-2147483648), 2147483647)) := frS_of (by decide +kernel)
theorem rS_741_741_535_857_14_0 : frS gJ bsJ znJ [20305] 100 ((741, 741), (535, 857), (14, 0), ((-2147483648), 2147483647)) := frS_of (by decide +kernel)
theorem rS_741_741_536_858_14_0 : frS gJ bsJ znJ [20306] 100 ((741, 741), (536, 858), (14, 0), ((-2147483648), 2147483647)) := frS_of (by decide +kernel)
theorem rS_741_741_539_861_14_0 : frS gJ bsJ znJ [20309] 100 ((741, 741), (539, 861), (14, 0), ((-1), 60)) := frS_of (by decide +kernel)
theorem rS_741_741_7_7_1_0 : frS gJ bsJ znJ [20007] 100 ((741, 741), (7, 7), (1, 0), (0, 24)) := frS_of (by decide +kernel)
theorem rS_741_741_530_865_14_13 : frS gJ bsJ znJ [20300, 20301, 20302, 20303, 20304, 20305, 20306, 20307, 20308, 20309, 20310, 20311, 20312, 20313] 100 ((741, 741), (530, 865), (14, 13), (0, 19)) := frS_of (by decide +kernel)
theorem x6_45 : f60c xTc xTys xm_45 = true := by decide +kernel
theorem x6_46 : f60c xTc xTys xm_46 = true := by decide +kernel
theorem rL_166_166_0_23_1_0 : frL gJ bsJ 100 ((166, 166), (0, 23), (1, 0), ((-2147483648), 2147483647)) := frL_hull (by decide) (by decide +kernel)
theorem rL_167_167_0_23_1_0 : frL gJ bsJ 100 ((167, 167), (0, 23), (1, 0), ((-2147483648), 2147483647)) := frL_hull (by decide) (by decide +kernel)
theorem rL_168_168_0_23_1_0 : frL gJ bsJ 100 ((168, 168), (0, 23), (1, 0), ((-2147483648), 2147483647)) := frL_hull (by decide) (by decide +kernel)
theorem rL_171_171_0_23_1_0 : frL gJ bsJ 100 ((171, 171), (0, 23), (1, 0), ((-2147483648), 2147483647)) := frL_hull (by decide) (by decide +kernel)
theorem rL_172_172_0_23_1_0 : frL gJ bsJ 100 ((172, 172), (0, 23), (1, 0), ((-2147483648), 2147483647)) := frL_hull (by decide) (by decide +kernel)
theorem rL_173_173_0_23_1_0 : frL gJ bsJ 100 ((173, 173), (0, 23), (1, 0), ((-2147483648), 2147483647)) := frL_hull (by decide) (by decide +kernel)
theorem rL_175_175_0_23_1_0 : frL gJ bsJ 100 ((175, 175), (0, 23), (1, 0), ((-1000000005), 60)) := frL_of (by decide +kernel)
theorem rL_176_176_0_23_1_0 : frL gJ bsJ 100 ((176, 176), (0, 23), (1, 0), ((-2147483648), 2147483647)) := frL_hull (by decide) (by decide +kernel)
theorem x6_44 : f60c xTc xTys xm_44 = true := by decide +kernel
theorem x6_269 : f60c xTc xTys xm_269 = true := by decide +kernel
theorem x6_268 : f60c xTc xTys xm_268 = true := by decide +kernel
theorem rL_741_741_530_862_14_10 : frL gJ bsJ 100 ((741, 741), (530, 862), (14, 10), ((-2147483648), 2147483647)) := frL_hull (by decide) (by decide +kernel)
theorem x6_48 : f60c xTc xTys xm_48 = true := by decide +kernel
theorem x6_47 : f60c xTc xTys xm_47 = true := by decide +kernel
theorem x6_270 : f60c xTc xTys xm_270 = true := by decide +kernel
theorem rL_741_741_535_857_14_0 : frL gJ bsJ 100 ((741, 741), (535, 857), (14, 0), ((-2147483648), 2147483647)) := frL_hull (by decide) (by decide +kernel)
theorem x6_50 : f60c xTc xTys xm_50 = true := by decide +kernel
abbrev wz_31db8 : List Nat := [167]
abbrev wz_b92a7 : List Nat := [169]
theorem rL_169_169_0_23_1_0 : frL gJ bsJ 100 ((169, 169), (0, 23), (1, 0), ((-2147483648), 2147483647)) := frL_hull (by decide) (by decide +kernel)
abbrev wz_451e1 : List Nat := [167, 169]
theorem x6_49 : f60c xTc xTys xm_49 = true := by decide +kernel
abbrev wz_4cdea : List Nat := [20301, 20303, 20305, 20307, 20309, 20311, 20313]
theorem rS_741_741_541_863_14_0 : frS gJ bsJ znJ [20311] 100 ((741, 741), (541, 863), (14, 0), ((-2147483648), 2147483647)) := frS_of (by decide +kernel)
theorem x6_271 : f60c xTc xTys xm_271 = true := by decide +kernel
abbrev wz_5fd86 : List Nat := [168]
theorem x6_51 : f60c xTc xTys xm_51 = true := by decide +kernel
abbrev wz_38a0a : List Nat := [20304]
theorem rL_741_741_534_856_14_0 : frL gJ bsJ 100 ((741, 741), (534, 856), (14, 0), ((-2147483648), 2147483647)) := frL_hull (by decide) (by decide +kernel)
theorem rS_741_741_534_856_14_0 : frS gJ bsJ znJ [20304] 100 ((741, 741), (534, 856), (14, 0), ((-2147483648), 2147483647)) := frS_of (by decide +kernel)
theorem x6_272 : f60c xTc xTys xm_272 = true := by decide +kernel
abbrev wz_9fac9 : List Nat := [171, 182]
theorem x6_52 : f60c xTc xTys xm_52 = true := by decide +kernel
abbrev wz_2acdb : List Nat := [20021, 20305]
theorem x6_273 : f60c xTc xTys xm_273 = true := by decide +kernel
theorem rL_741_741_21_21_1_0 : frL gJ bsJ 100 ((741, 741), (21, 21), (1, 0), ((-2147483648), 2147483647)) := frL_hull (by decide) (by decide +kernel)
theorem rS_741_741_21_21_1_0 : frS gJ bsJ znJ [20021] 100 ((741, 741), (21, 21), (1, 0), ((-2147483648), 2147483647)) := frS_of (by decide +kernel)
theorem x6_55 : f60c xTc xTys xm_55 = true := by decide +kernel
theorem x6_54 : f60c xTc xTys xm_54 = true := by decide +kernel
abbrev wz_0ffea : List Nat := [175]
theorem x6_53 : f60c xTc xTys xm_53 = true := by decide +kernel
theorem x6_275 : f60c xTc xTys xm_275 = true := by decide +kernel
theorem rL_741_741_539_861_14_0 : frL gJ bsJ 100 ((741, 741), (539, 861), (14, 0), ((-1), 60)) := frL_of (by decide +kernel)
abbrev wz_7172e : List Nat := [20309]
theorem x6_274 : f60c xTc xTys xm_274 = true := by decide +kernel
theorem x6_57 : f60c xTc xTys xm_57 = true := by decide +kernel
theorem rL_185_185_0_60_1_0 : frL gJ bsJ 100 ((185, 185), (0, 60), (1, 0), ((-2147483648), 2147483647)) := frL_hull (by decide) (by decide +kernel)
theorem x6_56 : f60c xTc xTys xm_56 = true := by decide +kernel
theorem x6_276 : f60c xTc xTys xm_276 = true := by decide +kernel
theorem rL_741_741_1081_1141_1_0 : frL gJ bsJ 100 ((741, 741), (1081, 1141), (1, 0), ((-2147483648), 2147483647)) := frL_hull (by decide) (by decide +kernel)
abbrev wz_2d238 : List Nat := [183]
theorem rL_184_186_0_60_1_0 : frL gJ bsJ 100 ((184, 186), (0, 60), (1, 0), ((-2147483648), 2147483647)) := frL_hull (by decide) (by decide +kernel)
theorem rS_184_186_0_60_1_0 : frS gJ bsJ znJ [183] 100 ((184, 186), (0, 60), (1, 0), ((-2147483648), 2147483647)) := frS_dflt (by decide) (by decide +kernel)
theorem x6_58 : f60c xTc xTys xm_58 = true := by decide +kernel
abbrev wz_bcfb8 : List Nat := [20500]
theorem rL_741_741_1020_1202_61_60 : frL gJ bsJ 100 ((741, 741), (1020, 1202), (61, 60), ((-2147483648), 2147483647)) := frL_hull (by decide) (by decide +kernel)
theorem rS_741_741_1020_1202_61_60 : frS gJ bsJ znJ [20500] 100 ((741, 741), (1020, 1202), (61, 60), ((-2147483648), 2147483647)) := frS_of (by decide +kernel)
theorem x6_277 : f60c xTc xTys xm_277 = true := by decide +kernel
abbrev wz_310ed : List Nat := [10105, 10106, 10107, 10108]
theorem x6_60 : f60c xTc xTys xm_60 = true := by decide +kernel
theorem fb_1_6 : bsJ 1 6 = ((-2147483648), 2147483647) := by decide +kernel
theorem fb_1_7 : bsJ 1 7 = ((-2147483648), 2147483647) := by decide +kernel
theorem fb_1_8 : bsJ 1 8 = ((-2147483648), 2147483647) := by decide +kernel
section CT
variable {ρ : Nat → Int32} {base n : Nat} {F : Nat → Prop} {D : va_G} {dA : Nat → ClassId} {la : Launch}
set_option maxRecDepth 8000 in
theorem ct_M_isPerson_4d30c {I : fH} {x1 : Int} (h0 : fB bsJ I) (ha1 : ((-2147483648) ≤ x1 ∧ x1 ≤ 2147483647)) : fC ρ base n F xTc vwCl xTys D dA la gJ (fbz bsJ znJ (fKc []) I) xm_252 [.inr (.inr (some 740)), .inl x1] I (fun _ r => ∃ z, r = some (.inl z) ∧ ((z = 1 ∧ 0 ≤ x1 ∧ x1 ≤ 23) ∨ z = 0)) := by
  have hW : fzs [] (fKc []) := fKc_ok _
  refine f_meth (rb := rbJ) (J := []) 1 400 xG xin_252 x6_252 okJ (fB_self h0) ?_ ?_
  · exact fun q h => absurd h List.not_mem_nil
  · have hB0 := fB_self (zn := znJ) (K := fKc []) h0
    refine And.intro (by first | exact fi_ ha1.1 ha1.2 rfl | omega) ?_
    refine And.intro ⟨rfl, by decide, by decide⟩ ?_
    refine fload1 rL_741_741_8_8_1_0 h0 hB0 ⟨by decide, by decide⟩ (by first | exact ⟨by decide, by decide⟩ | omega) ?_
    intro z1 lz1 uz1 qz1
    have pz1 := fld_at qz1 8 (by omega)
    refine And.intro (by omega) ?_
    refine Exists.intro xm_238 (And.intro mi_238 (And.intro ⟨rfl, rfl, rfl, rfl⟩ (And.intro True.intro ?_)))
    refine fcallp hB0 (ct_M_isIn_27230 (fBz h0 hB0) (by first | exact ⟨ha1.1, ha1.2⟩ | omega) (by first | exact ⟨by decide, by decide⟩ | omega) (by omega)) ?_
    rintro _ ⟨z2, rfl, hz2⟩
    refine And.intro (⟨by omega, by omega⟩) ?_
    exact ⟨_, rfl, by omega⟩
set_option maxRecDepth 8000 in
theorem ct_M_turn_a8e81 {I : fH} {x1 : Int} {x2 : Int} {x3 : Int} (h0 : fB bsJ I) (ha1 : ((-2147483648) ≤ x1 ∧ x1 ≤ 2147483647)) (ha2 : ((-2147483648) ≤ x2 ∧ x2 ≤ 2147483647)) (ha3 : ((-2147483648) ≤ x3 ∧ x3 ≤ 2147483647)) (hp0 : sI I 741) : fC ρ base n F xTc vwCl xTys D dA la gJ (fbz bsJ znJ (fKc wz_4080a) I) xm_250 [.inr (.inr (some 740)), .inl x1, .inl x2, .inl x3] I (fun _ r => ∃ z, r = some (.inl z) ∧ ((-2147483648) ≤ z ∧ z ≤ 2147483647)) := by
  have hW : fzs wz_4080a (fKc wz_4080a) := fKc_ok _
  refine f_meth (rb := rbJ) (J := []) 1 400 xG xin_250 x6_250 okJ (fB_self h0) ?_ ?_
  · exact fun q h => absurd h List.not_mem_nil
  · have hB0 := fB_self (zn := znJ) (K := fKc wz_4080a) h0
    refine Exists.intro xm_251 (And.intro mi_251 (And.intro ⟨rfl, rfl, rfl, rfl⟩ (And.intro rfl ?_)))
    refine fcallp hB0 (ct_M_isLock_5e2b8 (fBz h0 hB0) (by first | exact ⟨ha1.1, ha1.2⟩ | omega)) ?_
    rintro _ ⟨z1, rfl, hz1⟩
    refine And.intro (by omega) (And.intro ?_ ?_)
    · intro c2
      refine And.intro (True.intro) ?_
      exact ⟨_, rfl, (by first | exact ⟨by decide, by decide⟩ | omega)⟩
    · intro c3
      refine Exists.intro xm_252 (And.intro mi_252 (And.intro ⟨rfl, rfl, rfl, rfl⟩ (And.intro rfl ?_)))
      refine fcallp hB0 (ct_M_isPerson_4d30c (fBz h0 hB0) (by first | exact ⟨ha2.1, ha2.2⟩ | omega)) ?_
      rintro _ ⟨z4, rfl, hz4⟩
      refine And.intro (by omega) (And.intro ?_ ?_)
      · intro c5
        refine And.intro (True.intro) ?_
        exact ⟨_, rfl, (by first | exact ⟨by decide, by decide⟩ | omega)⟩
      · intro c6
        refine And.intro (by first | exact fi_ ha3.1 ha3.2 rfl | omega) ?_
        refine Exists.intro xm_238 (And.intro mi_238 (And.intro ⟨rfl, rfl, rfl, rfl⟩ (And.intro True.intro ?_)))
        refine fcallp hB0 (ct_M_isIn_27230 (fBz h0 hB0) (by first | exact ⟨ha3.1, ha3.2⟩ | omega) (by first | exact ⟨by decide, by decide⟩ | omega) (by first | exact ⟨by decide, by decide⟩ | omega)) ?_
        rintro _ ⟨z7, rfl, hz7⟩
        refine And.intro (by omega) (And.intro ?_ ?_)
        · intro c8
          refine Exists.intro xm_248 (And.intro mi_248 (And.intro ⟨rfl, rfl, rfl, rfl⟩ (And.intro rfl ?_)))
          refine fcallp hB0 (ct_M_isDead_21e1a (fBz h0 hB0) (by omega)) ?_
          rintro _ ⟨z9, rfl, hz9⟩
          refine And.intro (by omega) (And.intro ?_ ?_)
          · intro c10
            refine And.intro (True.intro) ?_
            exact ⟨_, rfl, (by first | exact ⟨by decide, by decide⟩ | omega)⟩
          · intro c11
            refine Exists.intro xm_253 (And.intro mi_253 (And.intro ⟨rfl, rfl, rfl, rfl⟩ (And.intro rfl ?_)))
            refine fcall _ h0 (fzs_sub (by decide +kernel) hW) hB0 (ct_M_mayOpen_42d58 (fBz h0 hB0) (by omega) (by omega) (sI_keep hp0 h0 hB0 (by decide +kernel))) ?_
            rintro IhB13 _ hB13 fhB13 ⟨z12, rfl, hz12⟩
            refine And.intro (by omega) (And.intro ?_ ?_)
            · intro c14
              refine Exists.intro xm_242 (And.intro mi_242 (And.intro ⟨rfl, rfl, rfl, rfl⟩ (And.intro rfl ?_)))
              refine fcall _ h0 (fzs_sub (by decide +kernel) hW) hB13 (ct_M_put_4fc33 (fBz h0 hB13) (by omega) (by first | exact ⟨Int.le_trans (by decide) (Int.le_trans (Int.le_refl _) hz7.1), Int.le_trans (Int.le_trans hz7.2 (Int.le_refl _)) (by decide)⟩ | omega)) ?_
              rintro IhB16 _ hB16 fhB16 ⟨z15, rfl, hz15, g0z15, g1z15⟩
              refine And.intro (True.intro) ?_
              exact ⟨_, rfl, (by first | exact ⟨hz15.1, hz15.2⟩ | omega)⟩
            · intro c17
              refine And.intro (True.intro) ?_
              exact ⟨_, rfl, (by first | exact ⟨by decide, by decide⟩ | omega)⟩
        · intro c18
          refine And.intro (True.intro) ?_
          exact ⟨_, rfl, (by first | exact ⟨by decide, by decide⟩ | omega)⟩
set_option maxRecDepth 8000 in
theorem ct_X_swap_d5564 {I : fH} {x1 : Int} {x2 : Int} (h0 : fB bsJ I) (ha1 : (0 ≤ x1 ∧ x1 ≤ 5)) (ha2 : (0 ≤ x2 ∧ x2 ≤ 999999)) : fC ρ base n F xTc vwCl xTys D dA la gJ (fbz bsJ znJ (fKc wz_ba6ab) I) xm_18 [.inr (.inr (some 182)), .inl x1, .inl x2] I (fun I' r => ∃ z, r = some (.inl z) ∧ ((-2147483648) ≤ z ∧ z ≤ 2147483647) ∧ (I' = fupd I 182 x1.toNat x2) ∧ (z = I 182 x1.toNat)) := by
  have hW : fzs wz_ba6ab (fKc wz_ba6ab) := fKc_ok _
  refine f_meth (rb := rbJ) (J := []) 1 400 xG xin_18 x6_18 okJ (fB_self h0) ?_ ?_
  · exact fun q h => absurd h List.not_mem_nil
  · have hB0 := fB_self (zn := znJ) (K := fKc wz_ba6ab) h0
    refine fload1 rL_182_182_0_5_1_0 h0 hB0 ⟨by decide, by decide⟩ (by first | exact ⟨ha1.1, ha1.2⟩ | omega) ?_
    intro z1 lz1 uz1 qz1
    refine fstore1 rS_182_182_0_5_1_0 (fzs_sub (by decide +kernel) hW) ⟨by decide, by decide⟩ (by first | exact ⟨ha1.1, ha1.2⟩ | omega) (by first | exact ⟨Int.le_trans (by decide) ha2.1, Int.le_trans ha2.2 (by decide)⟩ | omega) ?_
    intro IhB2 ehB2 hB2
    have t3 := fup_self ehB2
    refine And.intro (True.intro) ?_
    exact ⟨_, rfl, (by first | exact ⟨lz1, uz1⟩ | omega), ehB2, qz1⟩
set_option maxRecDepth 8000 in
theorem ct_X_store_70ffd {I : fH} {x1 : Int} {x2 : Int} (h0 : fB bsJ I) (ha1 : ((-2147483648) ≤ x1 ∧ x1 ≤ 2147483647)) (ha2 : ((-2147483648) ≤ x2 ∧ x2 ≤ 2147483647)) : fC ρ base n F xTc vwCl xTys D dA la gJ (fbz bsJ znJ (fKc wz_ba6ab) I) xm_39 [.inr (.inr (some 0)), .inl x1, .inl x2] I (fun _ r => ∃ z, r = some (.inl z) ∧ ((-2147483648) ≤ z ∧ z ≤ 2147483647)) := by
  have hW : fzs wz_ba6ab (fKc wz_ba6ab) := fKc_ok _
  refine f_meth (rb := rbJ) (J := []) 1 400 xG xin_39 x6_39 okJ (fB_self h0) ?_ ?_
  · exact fun q h => absurd h List.not_mem_nil
  · have hB0 := fB_self (zn := znJ) (K := fKc wz_ba6ab) h0
    refine Exists.intro xm_13 (And.intro mi_13 (And.intro ⟨rfl, rfl, rfl, rfl⟩ (And.intro True.intro ?_)))
    refine fcallp hB0 (ct_X_within_c27b1 (fBz h0 hB0) (by first | exact ⟨ha1.1, ha1.2⟩ | omega) (by first | exact ⟨by decide, by decide⟩ | omega) (by first | exact ⟨by decide, by decide⟩ | omega)) ?_
    rintro _ ⟨z1, rfl, hz1⟩
    refine And.intro (by omega) (And.intro ?_ ?_)
    · intro c2
      refine And.intro (True.intro) ?_
      exact ⟨_, rfl, (by first | exact ⟨by decide, by decide⟩ | omega)⟩
    · intro c3
      refine Exists.intro xm_13 (And.intro mi_13 (And.intro ⟨rfl, rfl, rfl, rfl⟩ (And.intro True.intro ?_)))
      refine fcallp hB0 (ct_X_within_c27b1 (fBz h0 hB0) (by first | exact ⟨ha2.1, ha2.2⟩ | omega) (by first | exact ⟨by decide, by decide⟩ | omega) (by first | exact ⟨by decide, by decide⟩ | omega)) ?_
      rintro _ ⟨z4, rfl, hz4⟩
      refine And.intro (by omega) (And.intro ?_ ?_)
      · intro c5
        refine And.intro ⟨rfl, by decide, by decide⟩ ?_
        refine And.intro ⟨rfl, by decide, by decide⟩ ?_
        refine Exists.intro xm_18 (And.intro mi_18 (And.intro ⟨rfl, rfl, rfl, rfl⟩ (And.intro True.intro ?_)))
        refine fcall _ h0 (fzs_sub (by decide +kernel) hW) hB0 (ct_X_swap_d5564 (fBz h0 hB0) (by first | exact ⟨Int.le_trans (by decide) (Int.le_trans (Int.le_refl _) hz1.1), Int.le_trans (Int.le_trans hz1.2 (Int.le_refl _)) (by decide)⟩ | omega) (by first | exact ⟨Int.le_trans (by decide) (Int.le_trans (Int.le_refl _) hz4.1), Int.le_trans (Int.le_trans hz4.2 (Int.le_refl _)) (by decide)⟩ | omega)) ?_
        rintro IhB7 _ hB7 fhB7 ⟨z6, rfl, hz6, g0z6, g1z6⟩
        refine And.intro (True.intro) ?_
        exact ⟨_, rfl, (by first | exact ⟨hz6.1, hz6.2⟩ | omega)⟩
      · intro c8
        refine And.intro (True.intro) ?_
        exact ⟨_, rfl, (by first | exact ⟨by decide, by decide⟩ | omega)⟩
set_option maxRecDepth 8000 in
theorem ct_M_put_8560c {I : fH} {x1 : Int} {x2 : Int} (h0 : fB bsJ I) (ha1 : (17 ≤ x1 ∧ x1 ≤ 22)) (ha2 : (0 ≤ x2 ∧ x2 ≤ 999999)) : fC ρ base n F xTc vwCl xTys D dA la gJ (fbz bsJ znJ (fKc wz_77ac1) I) xm_242 [.inr (.inr (some 740)), .inl x1, .inl x2] I (fun I' r => ∃ z, r = some (.inl z) ∧ ((-2147483648) ≤ z ∧ z ≤ 2147483647) ∧ (I' = fupd I 741 x1.toNat x2) ∧ (z = I 741 x1.toNat)) := by
  have hW : fzs wz_77ac1 (fKc wz_77ac1) := fKc_ok _
  refine f_meth (rb := rbJ) (J := []) 1 400 xG xin_242 x6_242 okJ (fB_self h0) ?_ ?_
  · exact fun q h => absurd h List.not_mem_nil
  · have hB0 := fB_self (zn := znJ) (K := fKc wz_77ac1) h0
    refine And.intro ⟨rfl, by decide, by decide⟩ ?_
    refine fload1 rL_741_741_17_22_1_0 h0 hB0 ⟨by decide, by decide⟩ (by first | exact ⟨ha1.1, ha1.2⟩ | omega) ?_
    intro z1 lz1 uz1 qz1
    refine And.intro ⟨rfl, by decide, by decide⟩ ?_
    refine fstore1 rS_741_741_17_22_1_0 (fzs_sub (by decide +kernel) hW) ⟨by decide, by decide⟩ (by first | exact ⟨ha1.1, ha1.2⟩ | omega) (by first | exact ⟨Int.le_trans (by decide) ha2.1, Int.le_trans ha2.2 (by decide)⟩ | omega) ?_
    intro IhB2 ehB2 hB2
    have t3 := fup_self ehB2
    refine And.intro (True.intro) ?_
    exact ⟨_, rfl, (by first | exact ⟨lz1, uz1⟩ | omega), ehB2, qz1⟩
set_option maxRecDepth 8000 in
theorem ct_M_store_73882 {I : fH} {x1 : Int} {x2 : Int} (h0 : fB bsJ I) (ha1 : ((-2147483648) ≤ x1 ∧ x1 ≤ 2147483647)) (ha2 : ((-2147483648) ≤ x2 ∧ x2 ≤ 2147483647)) : fC ρ base n F xTc vwCl xTys D dA la gJ (fbz bsJ znJ (fKc wz_77ac1) I) xm_262 [.inr (.inr (some 740)), .inl x1, .inl x2] I (fun _ r => ∃ z, r = some (.inl z) ∧ ((-2147483648) ≤ z ∧ z ≤ 2147483647)) := by
  have hW : fzs wz_77ac1 (fKc wz_77ac1) := fKc_ok _
  refine f_meth (rb := rbJ) (J := []) 1 400 xG xin_262 x6_262 okJ (fB_self h0) ?_ ?_
  · exact fun q h => absurd h List.not_mem_nil
  · have hB0 := fB_self (zn := znJ) (K := fKc wz_77ac1) h0
    refine And.intro (by first | exact fi_ ha1.1 ha1.2 rfl | omega) ?_
    refine Exists.intro xm_238 (And.intro mi_238 (And.intro ⟨rfl, rfl, rfl, rfl⟩ (And.intro True.intro ?_)))
    refine fcallp hB0 (ct_M_isIn_27230 (fBz h0 hB0) (by first | exact ⟨ha1.1, ha1.2⟩ | omega) (by first | exact ⟨by decide, by decide⟩ | omega) (by first | exact ⟨by decide, by decide⟩ | omega)) ?_
    rintro _ ⟨z1, rfl, hz1⟩
    refine And.intro (by omega) (And.intro ?_ ?_)
    · intro c2
      refine And.intro (True.intro) ?_
      exact ⟨_, rfl, by omega⟩
    · intro c3
      refine And.intro (by first | exact fi_ ha2.1 ha2.2 rfl | omega) ?_
      refine Exists.intro xm_238 (And.intro mi_238 (And.intro ⟨rfl, rfl, rfl, rfl⟩ (And.intro True.intro ?_)))
      refine fcallp hB0 (ct_M_isIn_27230 (fBz h0 hB0) (by first | exact ⟨ha2.1, ha2.2⟩ | omega) (by first | exact ⟨by decide, by decide⟩ | omega) (by first | exact ⟨by decide, by decide⟩ | omega)) ?_
      rintro _ ⟨z4, rfl, hz4⟩
      refine And.intro (by omega) (And.intro ?_ ?_)
      · intro c5
        refine And.intro (True.intro) ?_
        exact ⟨_, rfl, by omega⟩
      · intro c6
        refine Exists.intro xm_242 (And.intro mi_242 (And.intro ⟨rfl, rfl, rfl, rfl⟩ (And.intro rfl ?_)))
        refine fcall _ h0 (fzs_sub (by decide +kernel) hW) hB0 (ct_M_put_8560c (fBz h0 hB0) (by omega) (by first | exact ⟨Int.le_trans (by decide) (Int.le_trans (Int.le_refl _) hz4.1), Int.le_trans (Int.le_trans hz4.2 (Int.le_refl _)) (by decide)⟩ | omega)) ?_
        rintro IhB8 _ hB8 fhB8 ⟨z7, rfl, hz7, g0z7, g1z7⟩
        refine And.intro (True.intro) ?_
        exact ⟨_, rfl, (by first | exact ⟨hz7.1, hz7.2⟩ | omega)⟩
set_option maxRecDepth 8000 in
theorem ct_X_give_dfa8a {I : fH} {x1 : Int} {x2 : Int} {x3 : Int} (h0 : fB bsJ I) (ha1 : ((-2147483648) ≤ x1 ∧ x1 ≤ 2147483647)) (ha2 : ((-2147483648) ≤ x2 ∧ x2 ≤ 2147483647)) (ha3 : ((-2147483648) ≤ x3 ∧ x3 ≤ 2147483647)) : fC ρ base n F xTc vwCl xTys D dA la gJ (fbz bsJ znJ (fKc wz_d3fe1) I) xm_40 [.inr (.inr (some 0)), .inl x1, .inl x2, .inl x3] I (fun _ r => ∃ z, r = some (.inl z) ∧ ((-2147483648) ≤ z ∧ z ≤ 2147483647)) := by
  have hW : fzs wz_d3fe1 (fKc wz_d3fe1) := fKc_ok _
  refine f_meth (rb := rbJ) (J := []) 1 400 xG xin_40 x6_40 okJ (fB_self h0) ?_ ?_
  · exact fun q h => absurd h List.not_mem_nil
  · have hB0 := fB_self (zn := znJ) (K := fKc wz_d3fe1) h0
    refine Exists.intro xm_13 (And.intro mi_13 (And.intro ⟨rfl, rfl, rfl, rfl⟩ (And.intro True.intro ?_)))
    refine fcallp hB0 (ct_X_within_c27b1 (fBz h0 hB0) (by first | exact ⟨ha1.1, ha1.2⟩ | omega) (by first | exact ⟨by decide, by decide⟩ | omega) (by first | exact ⟨by decide, by decide⟩ | omega)) ?_
    rintro _ ⟨z1, rfl, hz1⟩
    refine And.intro (by omega) (And.intro ?_ ?_)
    · intro c2
      refine And.intro (True.intro) ?_
      exact ⟨_, rfl, (by first | exact ⟨by decide, by decide⟩ | omega)⟩
    · intro c3
      refine And.intro (And.intro (by first | exact fi_ (Int.le_trans (Int.le_refl _) hz1.1) (Int.le_trans hz1.2 (Int.le_refl _)) rfl | omega) (by first | exact ⟨by decide, by decide⟩ | omega)) (And.intro ?_ ?_)
      · intro c4
        refine And.intro (True.intro) ?_
        exact ⟨_, rfl, (by first | exact ⟨by decide, by decide⟩ | omega)⟩
      · intro c5
        refine And.intro ⟨rfl, by decide, by decide⟩ ?_
        refine Exists.intro xm_17 (And.intro mi_17 (And.intro ⟨rfl, rfl, rfl, rfl⟩ (And.intro rfl ?_)))
        refine fcallp hB0 (ct_City_isCell_46f02 (fBz h0 hB0) (by first | exact ⟨ha2.1, ha2.2⟩ | omega)) ?_
        rintro _ ⟨z6, rfl, hz6⟩
        refine And.intro (by omega) (And.intro ?_ ?_)
        · intro c7
          refine And.intro (True.intro) ?_
          exact ⟨_, rfl, (by first | exact ⟨by decide, by decide⟩ | omega)⟩
        · intro c8
          refine Exists.intro xm_13 (And.intro mi_13 (And.intro ⟨rfl, rfl, rfl, rfl⟩ (And.intro True.intro ?_)))
          refine fcallp hB0 (ct_X_within_c27b1 (fBz h0 hB0) (by first | exact ⟨ha3.1, ha3.2⟩ | omega) (by first | exact ⟨by decide, by decide⟩ | omega) (by first | exact ⟨by decide, by decide⟩ | omega)) ?_
          rintro _ ⟨z9, rfl, hz9⟩
          refine And.intro (by omega) (And.intro ?_ ?_)
          · intro c10
            refine And.intro (And.intro (by first | exact fi_ (Int.le_trans (Int.le_refl _) hz1.1) (Int.le_trans hz1.2 (Int.le_refl _)) rfl | omega) (by first | exact ⟨by decide, by decide⟩ | omega)) (And.intro ?_ ?_)
            · intro c11
              refine And.intro ⟨rfl, by decide, by decide⟩ ?_
              refine And.intro ⟨rfl, by decide, by decide⟩ ?_
              refine fload1 rL_182_182_0_5_1_0 h0 hB0 ⟨by decide, by decide⟩ (by first | exact ⟨Int.le_trans (by decide) (Int.le_trans (Int.le_refl _) hz1.1), Int.le_trans (Int.le_trans hz1.2 (Int.le_refl _)) (by decide)⟩ | omega) ?_
              intro z12 lz12 uz12 qz12
              refine And.intro (And.intro (by first | exact fi_ lz12 uz12 rfl | omega) (by first | exact fi_ (Int.le_trans (Int.le_refl _) hz9.1) (Int.le_trans hz9.2 (Int.le_refl _)) rfl | omega)) (And.intro ?_ ?_)
              · intro c13
                refine And.intro (True.intro) ?_
                exact ⟨_, rfl, (by first | exact ⟨by decide, by decide⟩ | omega)⟩
              · intro c14
                refine And.intro ⟨rfl, by decide, by decide⟩ ?_
                refine And.intro ⟨rfl, by decide, by decide⟩ ?_
                refine And.intro ⟨rfl, by decide, by decide⟩ ?_
                refine And.intro ⟨rfl, by decide⟩ (And.intro (by omega) ?_)
                refine fload rL_6_25_0_4_1_0 h0 hB0 (by omega) ?_
                intro z15 lz15 uz15 qz15
                intro z16 hz16 ez16 bz16
                clear ez16
                try replace bz16 := bz16 (by omega)
                refine And.intro (by omega) (And.intro ?_ ?_)
                · intro c17
                  refine And.intro ⟨rfl, by decide, by decide⟩ ?_
                  refine And.intro ⟨rfl, by decide, by decide⟩ ?_
                  refine fload1 rL_182_182_0_5_1_0 h0 hB0 ⟨by decide, by decide⟩ (by first | exact ⟨Int.le_trans (by decide) (Int.le_trans (Int.le_refl _) hz1.1), Int.le_trans (Int.le_trans hz1.2 (Int.le_refl _)) (by decide)⟩ | omega) ?_
                  intro z18 lz18 uz18 qz18
                  intro z19 hz19 ez19 bz19
                  clear ez19
                  try replace bz19 := bz19 (by omega)
                  refine fstore1 rS_182_182_0_5_1_0 (fzs_sub (by decide +kernel) hW) ⟨by decide, by decide⟩ (by first | exact ⟨Int.le_trans (by decide) (Int.le_trans (Int.le_refl _) hz1.1), Int.le_trans (Int.le_trans hz1.2 (Int.le_refl _)) (by decide)⟩ | omega) (by omega) ?_
                  intro IhB20 ehB20 hB20
                  have t21 := fup_self ehB20
                  refine And.intro ⟨rfl, by decide, by decide⟩ ?_
                  refine And.intro ⟨rfl, by decide, by decide⟩ ?_
                  refine And.intro ⟨rfl, by decide, by decide⟩ ?_
                  refine And.intro ⟨rfl, by decide⟩ (And.intro (by omega) ?_)
                  refine fload rL_6_25_0_4_1_0 h0 hB20 (by omega) ?_
                  intro z22 lz22 uz22 qz22
                  intro z23 hz23 ez23 bz23
                  clear ez23
                  try replace bz23 := bz23 (by omega)
                  refine fstore rS_6_25_0_4_1_0 (fzs_sub (by decide +kernel) hW) (by omega) (by omega) ?_
                  intro IhB24 ehB24 hB24
                  have t25 := fup_self ehB24
                  refine And.intro ⟨rfl, by decide, by decide⟩ ?_
                  refine And.intro ⟨rfl, by decide, by decide⟩ ?_
                  refine fload1 rL_182_182_0_5_1_0 h0 hB24 ⟨by decide, by decide⟩ (by first | exact ⟨Int.le_trans (by decide) (Int.le_trans (Int.le_refl _) hz1.1), Int.le_trans (Int.le_trans hz1.2 (Int.le_refl _)) (by decide)⟩ | omega) ?_
                  intro z26 lz26 uz26 qz26
                  refine And.intro (True.intro) ?_
                  exact ⟨_, rfl, (by first | exact ⟨lz26, uz26⟩ | omega)⟩
                · intro c27
                  refine And.intro (True.intro) ?_
                  exact ⟨_, rfl, (by first | exact ⟨by decide, by decide⟩ | omega)⟩
            · intro c28
              refine And.intro ⟨rfl, by decide, by decide⟩ ?_
              refine And.intro ⟨rfl, by decide, by decide⟩ ?_
              refine fload1 rL_182_182_0_5_1_0 h0 hB0 ⟨by decide, by decide⟩ (by first | exact ⟨Int.le_trans (by decide) (Int.le_trans (Int.le_refl _) (Int.le_of_eq c28.symm)), Int.le_trans (Int.le_trans hz1.2 (Int.le_refl _)) (by decide)⟩ | omega) ?_
              intro z29 lz29 uz29 qz29
              refine And.intro (And.intro (by first | exact fi_ lz29 uz29 rfl | omega) (by first | exact fi_ (Int.le_trans (Int.le_refl _) hz9.1) (Int.le_trans hz9.2 (Int.le_refl _)) rfl | omega)) (And.intro ?_ ?_)
              · intro c30
                refine And.intro (True.intro) ?_
                exact ⟨_, rfl, (by first | exact ⟨by decide, by decide⟩ | omega)⟩
              · intro c31
                refine And.intro ⟨rfl, by decide, by decide⟩ ?_
                refine And.intro ⟨rfl, by decide, by decide⟩ ?_
                refine And.intro ⟨rfl, by decide, by decide⟩ ?_
                refine And.intro ⟨rfl, by decide⟩ (And.intro (by omega) ?_)
                refine fload rL_6_25_0_4_1_0 h0 hB0 (by omega) ?_
                intro z32 lz32 uz32 qz32
                intro z33 hz33 ez33 bz33
                clear ez33
                try replace bz33 := bz33 (by omega)
                refine And.intro (by omega) (And.intro ?_ ?_)
                · intro c34
                  refine And.intro ⟨rfl, by decide, by decide⟩ ?_
                  refine And.intro ⟨rfl, by decide, by decide⟩ ?_
                  refine fload1 rL_182_182_0_5_1_0 h0 hB0 ⟨by decide, by decide⟩ (by first | exact ⟨Int.le_trans (by decide) (Int.le_trans (Int.le_refl _) (Int.le_of_eq c28.symm)), Int.le_trans (Int.le_trans hz1.2 (Int.le_refl _)) (by decide)⟩ | omega) ?_
                  intro z35 lz35 uz35 qz35
                  intro z36 hz36 ez36 bz36
                  clear ez36
                  try replace bz36 := bz36 (by omega)
                  refine fstore1 rS_182_182_0_5_1_0 (fzs_sub (by decide +kernel) hW) ⟨by decide, by decide⟩ (by first | exact ⟨Int.le_trans (by decide) (Int.le_trans (Int.le_refl _) (Int.le_of_eq c28.symm)), Int.le_trans (Int.le_trans hz1.2 (Int.le_refl _)) (by decide)⟩ | omega) (by omega) ?_
                  intro IhB37 ehB37 hB37
                  have t38 := fup_self ehB37
                  refine And.intro ⟨rfl, by decide, by decide⟩ ?_
                  refine And.intro ⟨rfl, by decide, by decide⟩ ?_
                  refine And.intro ⟨rfl, by decide, by decide⟩ ?_
                  refine And.intro ⟨rfl, by decide⟩ (And.intro (by omega) ?_)
                  refine fload rL_6_25_0_4_1_0 h0 hB37 (by omega) ?_
                  intro z39 lz39 uz39 qz39
                  intro z40 hz40 ez40 bz40
                  clear ez40
                  try replace bz40 := bz40 (by omega)
                  refine fstore rS_6_25_0_4_1_0 (fzs_sub (by decide +kernel) hW) (by omega) (by omega) ?_
                  intro IhB41 ehB41 hB41
                  have t42 := fup_self ehB41
                  refine And.intro ⟨rfl, by decide, by decide⟩ ?_
                  refine And.intro ⟨rfl, by decide, by decide⟩ ?_
                  refine fload1 rL_182_182_0_5_1_0 h0 hB41 ⟨by decide, by decide⟩ (by first | exact ⟨Int.le_trans (by decide) (Int.le_trans (Int.le_refl _) (Int.le_of_eq c28.symm)), Int.le_trans (Int.le_trans hz1.2 (Int.le_refl _)) (by decide)⟩ | omega) ?_
                  intro z43 lz43 uz43 qz43
                  refine And.intro (True.intro) ?_
                  exact ⟨_, rfl, (by first | exact ⟨lz43, uz43⟩ | omega)⟩
                · intro c44
                  refine And.intro (True.intro) ?_
                  exact ⟨_, rfl, (by first | exact ⟨by decide, by decide⟩ | omega)⟩
          · intro c45
            refine And.intro (True.intro) ?_
            exact ⟨_, rfl, (by first | exact ⟨by decide, by decide⟩ | omega)⟩
set_option maxRecDepth 8000 in
theorem ct_M_give_8f5c0 {I : fH} {x1 : Int} {x2 : Int} {x3 : Int} (h0 : fB bsJ I) (ha1 : ((-2147483648) ≤ x1 ∧ x1 ≤ 2147483647)) (ha2 : ((-2147483648) ≤ x2 ∧ x2 ≤ 2147483647)) (ha3 : ((-2147483648) ≤ x3 ∧ x3 ≤ 2147483647)) : fC ρ base n F xTc vwCl xTys D dA la gJ (fbz bsJ znJ (fKc wz_a3123) I) xm_263 [.inr (.inr (some 740)), .inl x1, .inl x2, .inl x3] I (fun _ r => ∃ z, r = some (.inl z) ∧ ((-2147483648) ≤ z ∧ z ≤ 2147483647)) := by
  have hW : fzs wz_a3123 (fKc wz_a3123) := fKc_ok _
  refine f_meth (rb := rbJ) (J := []) 1 400 xG xin_263 x6_263 okJ (fB_self h0) ?_ ?_
  · exact fun q h => absurd h List.not_mem_nil
  · have hB0 := fB_self (zn := znJ) (K := fKc wz_a3123) h0
    refine And.intro (by first | exact fi_ ha1.1 ha1.2 rfl | omega) ?_
    refine Exists.intro xm_238 (And.intro mi_238 (And.intro ⟨rfl, rfl, rfl, rfl⟩ (And.intro True.intro ?_)))
    refine fcallp hB0 (ct_M_isIn_27230 (fBz h0 hB0) (by first | exact ⟨ha1.1, ha1.2⟩ | omega) (by first | exact ⟨by decide, by decide⟩ | omega) (by first | exact ⟨by decide, by decide⟩ | omega)) ?_
    rintro _ ⟨z1, rfl, hz1⟩
    refine And.intro (by omega) (And.intro ?_ ?_)
    · intro c2
      refine And.intro (True.intro) ?_
      exact ⟨_, rfl, (by first | exact ⟨by decide, by decide⟩ | omega)⟩
    · intro c3
      refine And.intro (And.intro (by first | exact fi_ (Int.le_trans (Int.le_refl _) hz1.1) (Int.le_trans hz1.2 (Int.le_refl _)) rfl | omega) (by first | exact ⟨by decide, by decide⟩ | omega)) (And.intro ?_ ?_)
      · intro c4
        refine And.intro (True.intro) ?_
        exact ⟨_, rfl, (by first | exact ⟨by decide, by decide⟩ | omega)⟩
      · intro c5
        refine Exists.intro xm_241 (And.intro mi_241 (And.intro ⟨rfl, rfl, rfl, rfl⟩ (And.intro rfl ?_)))
        refine fcallp hB0 (ct_M_isCell_45859 (fBz h0 hB0) (by first | exact ⟨ha2.1, ha2.2⟩ | omega)) ?_
        rintro _ ⟨z6, rfl, hz6⟩
        refine And.intro (by omega) (And.intro ?_ ?_)
        · intro c7
          refine And.intro (True.intro) ?_
          exact ⟨_, rfl, (by first | exact ⟨by decide, by decide⟩ | omega)⟩
        · intro c8
          refine And.intro (by first | exact fi_ ha3.1 ha3.2 rfl | omega) ?_
          refine Exists.intro xm_238 (And.intro mi_238 (And.intro ⟨rfl, rfl, rfl, rfl⟩ (And.intro True.intro ?_)))
          refine fcallp hB0 (ct_M_isIn_27230 (fBz h0 hB0) (by first | exact ⟨ha3.1, ha3.2⟩ | omega) (by first | exact ⟨by decide, by decide⟩ | omega) (by first | exact ⟨by decide, by decide⟩ | omega)) ?_
          rintro _ ⟨z9, rfl, hz9⟩
          refine And.intro (by omega) (And.intro ?_ ?_)
          · intro c10
            refine Exists.intro xm_239 (And.intro mi_239 (And.intro ⟨rfl, rfl, rfl, rfl⟩ (And.intro rfl ?_)))
            refine fcallp hB0 (ct_M_cellAt_c15f4 (fBz h0 hB0) (by omega)) ?_
            rintro _ ⟨_, rfl, rfl⟩
            refine And.intro (And.intro (by first | exact fi_ (Int.le_trans (Int.le_refl _) hz1.1) (Int.le_trans hz1.2 (Int.le_refl _)) rfl | omega) (by first | exact ⟨by decide, by decide⟩ | omega)) (And.intro ?_ ?_)
            · intro c12
              refine And.intro ⟨rfl, by decide, by decide⟩ ?_
              refine fload rL_741_741_17_22_1_0 h0 hB0 (by omega) ?_
              intro z13 lz13 uz13 qz13
              refine And.intro (And.intro (by first | exact fi_ lz13 uz13 rfl | omega) (by first | exact fi_ (Int.le_trans (Int.le_refl _) hz9.1) (Int.le_trans hz9.2 (Int.le_refl _)) rfl | omega)) (And.intro ?_ ?_)
              · intro c14
                refine And.intro (True.intro) ?_
                exact ⟨_, rfl, (by first | exact ⟨by decide, by decide⟩ | omega)⟩
              · intro c15
                refine And.intro ⟨rfl, by decide, by decide⟩ ?_
                refine fload rL_741_741_31_415_20_4 h0 hB0 (by omega) ?_
                intro z16 lz16 uz16 qz16
                intro z17 hz17 ez17 bz17
                clear ez17
                try replace bz17 := bz17 (by omega)
                refine And.intro (by omega) (And.intro ?_ ?_)
                · intro c18
                  refine And.intro ⟨rfl, by decide, by decide⟩ ?_
                  refine fload rL_741_741_31_415_20_4 h0 hB0 (by omega) ?_
                  intro z19 lz19 uz19 qz19
                  intro z20 hz20 ez20 bz20
                  clear ez20
                  try replace bz20 := bz20 (by omega)
                  refine fstore rS_741_741_31_415_20_4 (fzs_sub (by decide +kernel) hW) (by omega) (by omega) ?_
                  intro IhB21 ehB21 hB21
                  have t22 := fup_self ehB21
                  refine And.intro ⟨rfl, by decide, by decide⟩ ?_
                  refine fload rL_741_741_17_22_1_0 h0 hB21 (by omega) ?_
                  intro z23 lz23 uz23 qz23
                  intro z24 hz24 ez24 bz24
                  clear ez24
                  try replace bz24 := bz24 (by omega)
                  refine fstore rS_741_741_17_22_1_0 (fzs_sub (by decide +kernel) hW) (by omega) (by omega) ?_
                  intro IhB25 ehB25 hB25
                  have t26 := fup_self ehB25
                  refine And.intro ⟨rfl, by decide, by decide⟩ ?_
                  refine fload rL_741_741_17_22_1_0 h0 hB25 (by omega) ?_
                  intro z27 lz27 uz27 qz27
                  refine And.intro (True.intro) ?_
                  exact ⟨_, rfl, (by first | exact ⟨lz27, uz27⟩ | omega)⟩
                · intro c28
                  refine And.intro (True.intro) ?_
                  exact ⟨_, rfl, (by first | exact ⟨by decide, by decide⟩ | omega)⟩
            · intro c29
              refine And.intro ⟨rfl, by decide, by decide⟩ ?_
              refine fload rL_741_741_17_22_1_0 h0 hB0 (by omega) ?_
              intro z30 lz30 uz30 qz30
              refine And.intro (And.intro (by first | exact fi_ lz30 uz30 rfl | omega) (by first | exact fi_ (Int.le_trans (Int.le_refl _) hz9.1) (Int.le_trans hz9.2 (Int.le_refl _)) rfl | omega)) (And.intro ?_ ?_)
              · intro c31
                refine And.intro (True.intro) ?_
                exact ⟨_, rfl, (by first | exact ⟨by decide, by decide⟩ | omega)⟩
              · intro c32
                refine And.intro ⟨rfl, by decide, by decide⟩ ?_
                refine fload rL_741_741_31_415_20_4 h0 hB0 (by omega) ?_
                intro z33 lz33 uz33 qz33
                intro z34 hz34 ez34 bz34
                clear ez34
                try replace bz34 := bz34 (by omega)
                refine And.intro (by omega) (And.intro ?_ ?_)
                · intro c35
                  refine And.intro ⟨rfl, by decide, by decide⟩ ?_
                  refine fload rL_741_741_31_415_20_4 h0 hB0 (by omega) ?_
                  intro z36 lz36 uz36 qz36
                  intro z37 hz37 ez37 bz37
                  clear ez37
                  try replace bz37 := bz37 (by omega)
                  refine fstore rS_741_741_31_415_20_4 (fzs_sub (by decide +kernel) hW) (by omega) (by omega) ?_
                  intro IhB38 ehB38 hB38
                  have t39 := fup_self ehB38
                  refine And.intro ⟨rfl, by decide, by decide⟩ ?_
                  refine fload rL_741_741_17_22_1_0 h0 hB38 (by omega) ?_
                  intro z40 lz40 uz40 qz40
                  intro z41 hz41 ez41 bz41
                  clear ez41
                  try replace bz41 := bz41 (by omega)
                  refine fstore rS_741_741_17_22_1_0 (fzs_sub (by decide +kernel) hW) (by omega) (by omega) ?_
                  intro IhB42 ehB42 hB42
                  have t43 := fup_self ehB42
                  refine And.intro ⟨rfl, by decide, by decide⟩ ?_
                  refine fload rL_741_741_17_22_1_0 h0 hB42 (by omega) ?_
                  intro z44 lz44 uz44 qz44
                  refine And.intro (True.intro) ?_
                  exact ⟨_, rfl, (by first | exact ⟨lz44, uz44⟩ | omega)⟩
                · intro c45
                  refine And.intro (True.intro) ?_
                  exact ⟨_, rfl, (by first | exact ⟨by decide, by decide⟩ | omega)⟩
          · intro c46
            refine And.intro (True.intro) ?_
            exact ⟨_, rfl, (by first | exact ⟨by decide, by decide⟩ | omega)⟩
set_option maxRecDepth 8000 in
theorem ct_Works_addWork_6a13b {I : fH} {x1 : Int} {x2 : Int} {x3 : Int} {x4 : Int} {x5 : Int} (h0 : fB bsJ I) (ha1 : ((-2147483648) ≤ x1 ∧ x1 ≤ 2147483647)) (ha2 : (0 ≤ x2 ∧ x2 ≤ 19)) (ha3 : (1 ≤ x3 ∧ x3 ≤ 9999)) (ha4 : ((-2147483648) ≤ x4 ∧ x4 ≤ 2147483647)) (ha5 : ((-2147483648) ≤ x5 ∧ x5 ≤ 2147483647)) : fC ρ base n F xTc vwCl xTys D dA la gJ (fbz bsJ znJ (fKc wz_53189) I) xm_43 [.inr (.inr (some 163)), .inl x1, .inl x2, .inl x3, .inl x4, .inl x5] I (fun I' r => ∃ z, r = some (.inl z) ∧ (((0 ≤ z ∧ z ≤ 23) ∨ z = (-1000000003)) ∧ ((I 163 13 < 24 → z = I 163 13 ∧ I' 163 13 = I 163 13 + 1) ∧ (24 ≤ I 163 13 → z = (-1000000003) ∧ I' 163 13 = I 163 13))) ∧ (∀ j : Nat, I' 164 j = if (j : Int) = z then x1 else I 164 j)) := by
  have hW : fzs wz_53189 (fKc wz_53189) := fKc_ok _
  refine f_meth (rb := rbJ) (J := []) 1 400 xG xin_43 x6_43 okJ (fB_self h0) ?_ ?_
  · exact fun q h => absurd h List.not_mem_nil
  · have hB0 := fB_self (zn := znJ) (K := fKc wz_53189) h0
    refine And.intro ⟨rfl, by decide, by decide⟩ (fgetf fb_163_13 h0 hB0 ?_)
    intro z1 lz1 uz1 qz1
    refine And.intro (And.intro (by first | exact fi_ lz1 uz1 rfl | omega) (by first | exact ⟨by decide, by decide⟩ | omega)) (And.intro ?_ ?_)
    · intro c2
      refine And.intro ⟨rfl, by decide, by decide⟩ ?_
      refine fstore1 rS_164_164_0_23_1_0 (fzs_sub (by decide +kernel) hW) ⟨by decide, by decide⟩ (by first | exact ⟨lz1, Int.le_trans (Int.le_sub_one_of_lt (Int.lt_of_lt_of_le c2 (Int.le_refl _))) (by decide)⟩ | omega) (by first | exact ⟨ha1.1, ha1.2⟩ | omega) ?_
      intro IhB3 ehB3 hB3
      have t4 := fup_self ehB3
      have t5 : IhB3 163 13 = I 163 13 := (congrFun (congrFun ehB3 163) 13).trans (fup_ne (by first | exact Or.inl (by decide) | omega))
      refine And.intro ⟨rfl, by decide, by decide⟩ ?_
      refine fstore1 rS_165_165_0_23_1_0 (fzs_sub (by decide +kernel) hW) ⟨by decide, by decide⟩ (by first | exact ⟨lz1, Int.le_trans (Int.le_sub_one_of_lt (Int.lt_of_lt_of_le c2 (Int.le_refl _))) (by decide)⟩ | omega) (by first | exact ⟨ha2.1, ha2.2⟩ | omega) ?_
      intro IhB6 ehB6 hB6
      have t7 := fup_self ehB6
      have t8 : IhB6 163 13 = IhB3 163 13 := (congrFun (congrFun ehB6 163) 13).trans (fup_ne (by first | exact Or.inl (by decide) | omega))
      refine And.intro ⟨rfl, by decide, by decide⟩ ?_
      refine fstore1 rS_166_166_0_23_1_0 (fzs_sub (by decide +kernel) hW) ⟨by decide, by decide⟩ (by first | exact ⟨lz1, Int.le_trans (Int.le_sub_one_of_lt (Int.lt_of_lt_of_le c2 (Int.le_refl _))) (by decide)⟩ | omega) (by first | exact ⟨Int.le_trans (by decide) ha3.1, Int.le_trans ha3.2 (by decide)⟩ | omega) ?_
      intro IhB9 ehB9 hB9
      have t10 := fup_self ehB9
      have t11 : IhB9 163 13 = IhB6 163 13 := (congrFun (congrFun ehB9 163) 13).trans (fup_ne (by first | exact Or.inl (by decide) | omega))
      refine And.intro ⟨rfl, by decide, by decide⟩ ?_
      refine fstore1 rS_167_167_0_23_1_0 (fzs_sub (by decide +kernel) hW) ⟨by decide, by decide⟩ (by first | exact ⟨lz1, Int.le_trans (Int.le_sub_one_of_lt (Int.lt_of_lt_of_le c2 (Int.le_refl _))) (by decide)⟩ | omega) (by first | exact ⟨by decide, by decide⟩ | omega) ?_
      intro IhB12 ehB12 hB12
      have t13 := fup_self ehB12
      have t14 : IhB12 163 13 = IhB9 163 13 := (congrFun (congrFun ehB12 163) 13).trans (fup_ne (by first | exact Or.inl (by decide) | omega))
      refine And.intro ⟨rfl, by decide, by decide⟩ ?_
      refine fstore1 rS_168_168_0_23_1_0 (fzs_sub (by decide +kernel) hW) ⟨by decide, by decide⟩ (by first | exact ⟨lz1, Int.le_trans (Int.le_sub_one_of_lt (Int.lt_of_lt_of_le c2 (Int.le_refl _))) (by decide)⟩ | omega) (by first | exact ⟨by decide, by decide⟩ | omega) ?_
      intro IhB15 ehB15 hB15
      have t16 := fup_self ehB15
      have t17 : IhB15 163 13 = IhB12 163 13 := (congrFun (congrFun ehB15 163) 13).trans (fup_ne (by first | exact Or.inl (by decide) | omega))
      refine And.intro ⟨rfl, by decide, by decide⟩ ?_
      refine fstore1 rS_169_169_0_23_1_0 (fzs_sub (by decide +kernel) hW) ⟨by decide, by decide⟩ (by first | exact ⟨lz1, Int.le_trans (Int.le_sub_one_of_lt (Int.lt_of_lt_of_le c2 (Int.le_refl _))) (by decide)⟩ | omega) (by first | exact ⟨by decide, by decide⟩ | omega) ?_
      intro IhB18 ehB18 hB18
      have t19 := fup_self ehB18
      have t20 : IhB18 163 13 = IhB15 163 13 := (congrFun (congrFun ehB18 163) 13).trans (fup_ne (by first | exact Or.inl (by decide) | omega))
      refine And.intro ⟨rfl, by decide, by decide⟩ ?_
      refine fstore1 rS_170_170_0_23_1_0 (fzs_sub (by decide +kernel) hW) ⟨by decide, by decide⟩ (by first | exact ⟨lz1, Int.le_trans (Int.le_sub_one_of_lt (Int.lt_of_lt_of_le c2 (Int.le_refl _))) (by decide)⟩ | omega) (by first | exact ⟨by decide, by decide⟩ | omega) ?_
      intro IhB21 ehB21 hB21
      have t22 := fup_self ehB21
      have t23 : IhB21 163 13 = IhB18 163 13 := (congrFun (congrFun ehB21 163) 13).trans (fup_ne (by first | exact Or.inl (by decide) | omega))
      refine And.intro ⟨rfl, by decide, by decide⟩ ?_
      refine fstore1 rS_171_171_0_23_1_0 (fzs_sub (by decide +kernel) hW) ⟨by decide, by decide⟩ (by first | exact ⟨lz1, Int.le_trans (Int.le_sub_one_of_lt (Int.lt_of_lt_of_le c2 (Int.le_refl _))) (by decide)⟩ | omega) (by first | exact ⟨ha4.1, ha4.2⟩ | omega) ?_
      intro IhB24 ehB24 hB24
      have t25 := fup_self ehB24
      have t26 : IhB24 163 13 = IhB21 163 13 := (congrFun (congrFun ehB24 163) 13).trans (fup_ne (by first | exact Or.inl (by decide) | omega))
      refine And.intro ⟨rfl, by decide, by decide⟩ ?_
      refine fstore1 rS_172_172_0_23_1_0 (fzs_sub (by decide +kernel) hW) ⟨by decide, by decide⟩ (by first | exact ⟨lz1, Int.le_trans (Int.le_sub_one_of_lt (Int.lt_of_lt_of_le c2 (Int.le_refl _))) (by decide)⟩ | omega) (by first | exact ⟨ha5.1, ha5.2⟩ | omega) ?_
      intro IhB27 ehB27 hB27
      have t28 := fup_self ehB27
      have t29 : IhB27 163 13 = IhB24 163 13 := (congrFun (congrFun ehB27 163) 13).trans (fup_ne (by first | exact Or.inl (by decide) | omega))
      refine And.intro ⟨rfl, by decide, by decide⟩ ?_
      refine fstore1 rS_173_173_0_23_1_0 (fzs_sub (by decide +kernel) hW) ⟨by decide, by decide⟩ (by first | exact ⟨lz1, Int.le_trans (Int.le_sub_one_of_lt (Int.lt_of_lt_of_le c2 (Int.le_refl _))) (by decide)⟩ | omega) (by first | exact ⟨by decide, by decide⟩ | omega) ?_
      intro IhB30 ehB30 hB30
      have t31 := fup_self ehB30
      have t32 : IhB30 163 13 = IhB27 163 13 := (congrFun (congrFun ehB30 163) 13).trans (fup_ne (by first | exact Or.inl (by decide) | omega))
      refine And.intro ⟨rfl, by decide, by decide⟩ ?_
      refine fstore1 rS_174_174_0_23_1_0 (fzs_sub (by decide +kernel) hW) ⟨by decide, by decide⟩ (by first | exact ⟨lz1, Int.le_trans (Int.le_sub_one_of_lt (Int.lt_of_lt_of_le c2 (Int.le_refl _))) (by decide)⟩ | omega) (by first | exact ⟨by decide, by decide⟩ | omega) ?_
      intro IhB33 ehB33 hB33
      have t34 := fup_self ehB33
      have t35 : IhB33 163 13 = IhB30 163 13 := (congrFun (congrFun ehB33 163) 13).trans (fup_ne (by first | exact Or.inl (by decide) | omega))
      refine And.intro ⟨rfl, by decide, by decide⟩ ?_
      refine fstore1 rS_175_175_0_23_1_0 (fzs_sub (by decide +kernel) hW) ⟨by decide, by decide⟩ (by first | exact ⟨lz1, Int.le_trans (Int.le_sub_one_of_lt (Int.lt_of_lt_of_le c2 (Int.le_refl _))) (by decide)⟩ | omega) (by first | exact ⟨by decide, by decide⟩ | omega) ?_
      intro IhB36 ehB36 hB36
      have t37 := fup_self ehB36
      have t38 : IhB36 163 13 = IhB33 163 13 := (congrFun (congrFun ehB36 163) 13).trans (fup_ne (by first | exact Or.inl (by decide) | omega))
      refine And.intro ⟨rfl, by decide, by decide⟩ ?_
      refine fstore1 rS_176_176_0_23_1_0 (fzs_sub (by decide +kernel) hW) ⟨by decide, by decide⟩ (by first | exact ⟨lz1, Int.le_trans (Int.le_sub_one_of_lt (Int.lt_of_lt_of_le c2 (Int.le_refl _))) (by decide)⟩ | omega) (by first | exact ⟨by decide, by decide⟩ | omega) ?_
      intro IhB39 ehB39 hB39
      have t40 := fup_self ehB39
      have t41 : IhB39 163 13 = IhB36 163 13 := (congrFun (congrFun ehB39 163) 13).trans (fup_ne (by first | exact Or.inl (by decide) | omega))
      refine And.intro ⟨rfl, by decide, by decide⟩ (And.intro rfl (And.intro (Or.inl rfl) (fputf fb_163_13 (by decide +kernel) hW (by omega) ?_)))
      intro IhB42 ehB42 hB42
      have t43 := fup_at ehB42 13 (by first | rfl | omega)
      refine And.intro (True.intro) ?_
      exact ⟨_, rfl, by omega, (fun j => ((fup_other ehB42 164 j (Or.inl (by decide))).trans ((fup_other ehB39 164 j (Or.inl (by decide))).trans ((fup_other ehB36 164 j (Or.inl (by decide))).trans ((fup_other ehB33 164 j (Or.inl (by decide))).trans ((fup_other ehB30 164 j (Or.inl (by decide))).trans ((fup_other ehB27 164 j (Or.inl (by decide))).trans ((fup_other ehB24 164 j (Or.inl (by decide))).trans ((fup_other ehB21 164 j (Or.inl (by decide))).trans ((fup_other ehB18 164 j (Or.inl (by decide))).trans ((fup_other ehB15 164 j (Or.inl (by decide))).trans ((fup_other ehB12 164 j (Or.inl (by decide))).trans ((fup_other ehB9 164 j (Or.inl (by decide))).trans (fup_other ehB6 164 j (Or.inl (by decide))))))))))))))).trans ((fup_if ehB3 j).trans (if_go (by omega) rfl)))⟩
    · intro c44
      refine And.intro (True.intro) ?_
      exact ⟨_, rfl, by omega, (fun j => if_no (by omega))⟩
set_option maxRecDepth 8000 in
theorem ct_Works_canBe_a5940 {I : fH} {x1 : Int} {x2 : Int} {x3 : Int} (h0 : fB bsJ I) (ha1 : ((-2147483648) ≤ x1 ∧ x1 ≤ 2147483647)) (ha2 : ((-2147483648) ≤ x2 ∧ x2 ≤ 2147483647)) (ha3 : ((-2147483648) ≤ x3 ∧ x3 ≤ 2147483647)) : fC ρ base n F xTc vwCl xTys D dA la gJ (fbz bsJ znJ (fKc []) I) xm_42 [.inr (.inr (some 163)), .inl x1, .inl x2, .inl x3] I (fun _ r => ∃ z, r = some (.inl z) ∧ (0 ≤ z ∧ z ≤ 1) ∧ ((z = 1 ∧ wFit (I 163 13) (I 164 x2.toNat) x1 x2 x3) ∨ (z = 0 ∧ ¬ wFit (I 163 13) (I 164 x2.toNat) x1 x2 x3))) := by
  have hW : fzs [] (fKc []) := fKc_ok _
  refine f_meth (rb := rbJ) (J := []) 1 400 xG xin_42 x6_42 okJ (fB_self h0) ?_ ?_
  · exact fun q h => absurd h List.not_mem_nil
  · have hB0 := fB_self (zn := znJ) (K := fKc []) h0
    have b1 := fBd fb_163_13 (fBz h0 hB0)
    refine And.intro (by first | exact fi_ ha1.1 ha1.2 rfl | omega) (And.intro ?_ ?_)
    · refine And.intro (fun ex => ?_) (And.intro (fun ex => ?_) (And.intro (fun ex => ?_) (And.intro (fun ex => ?_) (And.intro (fun ex => ?_) (And.intro (fun ex => ?_) (And.intro (fun ex => ?_) (True.intro)))))))
      · skip
        refine And.intro (by first | exact fi_ ha2.1 ha2.2 rfl | omega) (And.intro ?_ ?_)
        · intro c2
          refine And.intro (⟨by omega, by omega⟩) ?_
          exact ⟨_, rfl, by omega, (by first | exact Or.inl ⟨by omega, by unfold wFit; omega⟩ | exact Or.inr ⟨by omega, by unfold wFit; omega⟩)⟩
        · intro c3
          refine And.intro (by first | exact fi_ ha3.1 ha3.2 rfl | omega) (And.intro ?_ ?_)
          · intro c4
            refine And.intro (⟨by omega, by omega⟩) ?_
            exact ⟨_, rfl, by omega, (by first | exact Or.inl ⟨by omega, by unfold wFit; omega⟩ | exact Or.inr ⟨by omega, by unfold wFit; omega⟩)⟩
          · intro c5
            refine And.intro (⟨by decide, by decide⟩) ?_
            exact ⟨_, rfl, (by first | exact ⟨by decide, by decide⟩ | omega), (by first | exact Or.inl ⟨by omega, by unfold wFit; omega⟩ | exact Or.inr ⟨by omega, by unfold wFit; omega⟩)⟩
      · skip
        refine Exists.intro xm_13 (And.intro mi_13 (And.intro ⟨rfl, rfl, rfl, rfl⟩ (And.intro True.intro ?_)))
        refine fcallp hB0 (ct_X_within_c27b1 (fBz h0 hB0) (by first | exact ⟨ha2.1, ha2.2⟩ | omega) (by first | exact ⟨by decide, by decide⟩ | omega) (by first | exact ⟨by decide, by decide⟩ | omega)) ?_
        rintro _ ⟨z6, rfl, hz6⟩
        refine And.intro (by omega) (And.intro ?_ ?_)
        · intro c7
          refine And.intro (⟨by omega, by omega⟩) ?_
          exact ⟨_, rfl, by omega, (by first | exact Or.inl ⟨by omega, by unfold wFit; omega⟩ | exact Or.inr ⟨by omega, by unfold wFit; omega⟩)⟩
        · intro c8
          refine Exists.intro xm_13 (And.intro mi_13 (And.intro ⟨rfl, rfl, rfl, rfl⟩ (And.intro True.intro ?_)))
          refine fcallp hB0 (ct_X_within_c27b1 (fBz h0 hB0) (by first | exact ⟨ha3.1, ha3.2⟩ | omega) (by first | exact ⟨by decide, by decide⟩ | omega) (by first | exact ⟨by decide, by decide⟩ | omega)) ?_
          rintro _ ⟨z9, rfl, hz9⟩
          refine And.intro (by omega) (And.intro ?_ ?_)
          · intro c10
            refine And.intro (⟨by omega, by omega⟩) ?_
            exact ⟨_, rfl, by omega, (by first | exact Or.inl ⟨by omega, by unfold wFit; omega⟩ | exact Or.inr ⟨by omega, by unfold wFit; omega⟩)⟩
          · intro c11
            refine And.intro (⟨by decide, by decide⟩) ?_
            exact ⟨_, rfl, (by first | exact ⟨by decide, by decide⟩ | omega), (by first | exact Or.inl ⟨by omega, by unfold wFit; omega⟩ | exact Or.inr ⟨by omega, by unfold wFit; omega⟩)⟩
      · skip
        refine Exists.intro xm_13 (And.intro mi_13 (And.intro ⟨rfl, rfl, rfl, rfl⟩ (And.intro True.intro ?_)))
        refine fcallp hB0 (ct_X_within_c27b1 (fBz h0 hB0) (by first | exact ⟨ha2.1, ha2.2⟩ | omega) (by first | exact ⟨by decide, by decide⟩ | omega) (by first | exact ⟨by decide, by decide⟩ | omega)) ?_
        rintro _ ⟨z12, rfl, hz12⟩
        refine And.intro (by omega) (And.intro ?_ ?_)
        · intro c13
          refine And.intro (⟨by omega, by omega⟩) ?_
          exact ⟨_, rfl, by omega, (by first | exact Or.inl ⟨by omega, by unfold wFit; omega⟩ | exact Or.inr ⟨by omega, by unfold wFit; omega⟩)⟩
        · intro c14
          refine And.intro (by first | exact fi_ ha3.1 ha3.2 rfl | omega) (And.intro ?_ ?_)
          · intro c15
            refine And.intro (⟨by omega, by omega⟩) ?_
            exact ⟨_, rfl, by omega, (by first | exact Or.inl ⟨by omega, by unfold wFit; omega⟩ | exact Or.inr ⟨by omega, by unfold wFit; omega⟩)⟩
          · intro c16
            refine And.intro (⟨by decide, by decide⟩) ?_
            exact ⟨_, rfl, (by first | exact ⟨by decide, by decide⟩ | omega), (by first | exact Or.inl ⟨by omega, by unfold wFit; omega⟩ | exact Or.inr ⟨by omega, by unfold wFit; omega⟩)⟩
      · skip
        refine Exists.intro xm_13 (And.intro mi_13 (And.intro ⟨rfl, rfl, rfl, rfl⟩ (And.intro True.intro ?_)))
        refine fcallp hB0 (ct_X_within_c27b1 (fBz h0 hB0) (by first | exact ⟨ha2.1, ha2.2⟩ | omega) (by first | exact ⟨by decide, by decide⟩ | omega) (by first | exact ⟨by decide, by decide⟩ | omega)) ?_
        rintro _ ⟨z17, rfl, hz17⟩
        refine And.intro (by omega) (And.intro ?_ ?_)
        · intro c18
          refine And.intro (⟨by omega, by omega⟩) ?_
          exact ⟨_, rfl, by omega, (by first | exact Or.inl ⟨by omega, by unfold wFit; omega⟩ | exact Or.inr ⟨by omega, by unfold wFit; omega⟩)⟩
        · intro c19
          refine And.intro (by first | exact fi_ ha3.1 ha3.2 rfl | omega) (And.intro ?_ ?_)
          · intro c20
            refine And.intro (⟨by omega, by omega⟩) ?_
            exact ⟨_, rfl, by omega, (by first | exact Or.inl ⟨by omega, by unfold wFit; omega⟩ | exact Or.inr ⟨by omega, by unfold wFit; omega⟩)⟩
          · intro c21
            refine And.intro (⟨by decide, by decide⟩) ?_
            exact ⟨_, rfl, (by first | exact ⟨by decide, by decide⟩ | omega), (by first | exact Or.inl ⟨by omega, by unfold wFit; omega⟩ | exact Or.inr ⟨by omega, by unfold wFit; omega⟩)⟩
      · skip
        refine Exists.intro xm_13 (And.intro mi_13 (And.intro ⟨rfl, rfl, rfl, rfl⟩ (And.intro True.intro ?_)))
        refine fcallp hB0 (ct_X_within_c27b1 (fBz h0 hB0) (by first | exact ⟨ha2.1, ha2.2⟩ | omega) (by first | exact ⟨by decide, by decide⟩ | omega) (by first | exact ⟨by decide, by decide⟩ | omega)) ?_
        rintro _ ⟨z22, rfl, hz22⟩
        refine And.intro (by omega) (And.intro ?_ ?_)
        · intro c23
          refine And.intro (⟨by omega, by omega⟩) ?_
          exact ⟨_, rfl, by omega, (by first | exact Or.inl ⟨by omega, by unfold wFit; omega⟩ | exact Or.inr ⟨by omega, by unfold wFit; omega⟩)⟩
        · intro c24
          refine And.intro (by first | exact fi_ ha3.1 ha3.2 rfl | omega) (And.intro ?_ ?_)
          · intro c25
            refine And.intro (⟨by omega, by omega⟩) ?_
            exact ⟨_, rfl, by omega, (by first | exact Or.inl ⟨by omega, by unfold wFit; omega⟩ | exact Or.inr ⟨by omega, by unfold wFit; omega⟩)⟩
          · intro c26
            refine And.intro (⟨by decide, by decide⟩) ?_
            exact ⟨_, rfl, (by first | exact ⟨by decide, by decide⟩ | omega), (by first | exact Or.inl ⟨by omega, by unfold wFit; omega⟩ | exact Or.inr ⟨by omega, by unfold wFit; omega⟩)⟩
      · skip
        refine And.intro ⟨rfl, by decide, by decide⟩ (fgetf fb_163_13 h0 hB0 ?_)
        intro z27 lz27 uz27 qz27
        refine Exists.intro xm_13 (And.intro mi_13 (And.intro ⟨rfl, rfl, rfl, rfl⟩ (And.intro True.intro ?_)))
        refine fcallp hB0 (ct_X_within_c27b1 (fBz h0 hB0) (by first | exact ⟨ha2.1, ha2.2⟩ | omega) (by first | exact ⟨by decide, by decide⟩ | omega) (by omega)) ?_
        rintro _ ⟨z28, rfl, hz28⟩
        refine And.intro (by omega) (And.intro ?_ ?_)
        · intro c29
          refine And.intro (⟨by omega, by omega⟩) ?_
          exact ⟨_, rfl, by omega, (by first | exact Or.inl ⟨by omega, by unfold wFit; omega⟩ | exact Or.inr ⟨by omega, by unfold wFit; omega⟩)⟩
        · intro c30
          refine And.intro ⟨rfl, by decide, by decide⟩ ?_
          refine fload rL_164_164_0_23_1_0 h0 hB0 (by omega) ?_
          intro z31 lz31 uz31 qz31
          refine And.intro (And.intro (by first | exact fi_ lz31 uz31 rfl | omega) (by first | exact ⟨by decide, by decide⟩ | omega)) (And.intro ?_ ?_)
          · intro c32
            refine And.intro (⟨by omega, by omega⟩) ?_
            exact ⟨_, rfl, by omega, (by first | exact Or.inl ⟨by omega, by unfold wFit; omega⟩ | exact Or.inr ⟨by omega, by unfold wFit; omega⟩)⟩
          · intro c33
            refine Exists.intro xm_13 (And.intro mi_13 (And.intro ⟨rfl, rfl, rfl, rfl⟩ (And.intro True.intro ?_)))
            refine fcallp hB0 (ct_X_within_c27b1 (fBz h0 hB0) (by first | exact ⟨ha3.1, ha3.2⟩ | omega) (by first | exact ⟨by decide, by decide⟩ | omega) (by first | exact ⟨by decide, by decide⟩ | omega)) ?_
            rintro _ ⟨z34, rfl, hz34⟩
            refine And.intro (by omega) (And.intro ?_ ?_)
            · intro c35
              refine And.intro (⟨by omega, by omega⟩) ?_
              exact ⟨_, rfl, by omega, (by first | exact Or.inl ⟨by omega, by unfold wFit; omega⟩ | exact Or.inr ⟨by omega, by unfold wFit; omega⟩)⟩
            · intro c36
              refine And.intro (⟨by decide, by decide⟩) ?_
              exact ⟨_, rfl, (by first | exact ⟨by decide, by decide⟩ | omega), (by first | exact Or.inl ⟨by omega, by unfold wFit; omega⟩ | exact Or.inr ⟨by omega, by unfold wFit; omega⟩)⟩
      · skip
        refine Exists.intro xm_13 (And.intro mi_13 (And.intro ⟨rfl, rfl, rfl, rfl⟩ (And.intro True.intro ?_)))
        refine fcallp hB0 (ct_X_within_c27b1 (fBz h0 hB0) (by first | exact ⟨ha2.1, ha2.2⟩ | omega) (by first | exact ⟨by decide, by decide⟩ | omega) (by first | exact ⟨by decide, by decide⟩ | omega)) ?_
        rintro _ ⟨z37, rfl, hz37⟩
        refine And.intro (by omega) (And.intro ?_ ?_)
        · intro c38
          refine And.intro (⟨by omega, by omega⟩) ?_
          exact ⟨_, rfl, by omega, (by first | exact Or.inl ⟨by omega, by unfold wFit; omega⟩ | exact Or.inr ⟨by omega, by unfold wFit; omega⟩)⟩
        · intro c39
          refine And.intro (by first | exact fi_ ha3.1 ha3.2 rfl | omega) (And.intro ?_ ?_)
          · intro c40
            refine And.intro (⟨by omega, by omega⟩) ?_
            exact ⟨_, rfl, by omega, (by first | exact Or.inl ⟨by omega, by unfold wFit; omega⟩ | exact Or.inr ⟨by omega, by unfold wFit; omega⟩)⟩
          · intro c41
            refine And.intro (⟨by decide, by decide⟩) ?_
            exact ⟨_, rfl, (by first | exact ⟨by decide, by decide⟩ | omega), (by first | exact Or.inl ⟨by omega, by unfold wFit; omega⟩ | exact Or.inr ⟨by omega, by unfold wFit; omega⟩)⟩
    · intro c42
      simp only [List.length_cons, List.length_nil] at c42
      refine And.intro (⟨by decide, by decide⟩) ?_
      exact ⟨_, rfl, (by first | exact ⟨by decide, by decide⟩ | omega), (by first | exact Or.inl ⟨by omega, by unfold wFit; omega⟩ | exact Or.inr ⟨by omega, by unfold wFit; omega⟩)⟩
set_option maxRecDepth 8000 in
theorem ct_X_work_2ffbc {I : fH} {x1 : Int} {x2 : Int} {x3 : Int} {x4 : Int} {x5 : Int} (h0 : fB bsJ I) (ha1 : ((-2147483648) ≤ x1 ∧ x1 ≤ 2147483647)) (ha2 : ((-2147483648) ≤ x2 ∧ x2 ≤ 2147483647)) (ha3 : ((-2147483648) ≤ x3 ∧ x3 ≤ 2147483647)) (ha4 : ((-2147483648) ≤ x4 ∧ x4 ≤ 2147483647)) (ha5 : ((-2147483648) ≤ x5 ∧ x5 ≤ 2147483647)) : fC ρ base n F xTc vwCl xTys D dA la gJ (fbz bsJ znJ (fKc wz_53189) I) xm_41 [.inr (.inr (some 0)), .inl x1, .inl x2, .inl x3, .inl x4, .inl x5] I (fun I' r => ∃ z, r = some (.inl z) ∧ ((0 ≤ z ∧ z ≤ 23) ∨ z = (-1000000003) ∨ z = (-1000000001)) ∧ (∀ j : Nat, I' 164 j = if (j : Int) = z then x1 else I 164 j) ∧ (((0 ≤ x2 ∧ x2 < I 2 5 ∧ 1 ≤ x3 ∧ x3 ≤ 9999) ∧ wFit (I 163 13) (I 164 x4.toNat) x1 x4 x5 ∧ ((I 163 13 < 24 ∧ z = I 163 13 ∧ I' 163 13 = I 163 13 + 1) ∨ (24 ≤ I 163 13 ∧ z = (-1000000003) ∧ I' 163 13 = I 163 13))) ∨ (¬ ((0 ≤ x2 ∧ x2 < I 2 5 ∧ 1 ≤ x3 ∧ x3 ≤ 9999) ∧ wFit (I 163 13) (I 164 x4.toNat) x1 x4 x5) ∧ z = (-1000000001) ∧ I' 163 13 = I 163 13))) := by
  have hW : fzs wz_53189 (fKc wz_53189) := fKc_ok _
  refine f_meth (rb := rbJ) (J := []) 1 400 xG xin_41 x6_41 okJ (fB_self h0) ?_ ?_
  · exact fun q h => absurd h List.not_mem_nil
  · have hB0 := fB_self (zn := znJ) (K := fKc wz_53189) h0
    have b1 := fBd fb_163_13 (fBz h0 hB0)
    refine And.intro ⟨rfl, by decide, by decide⟩ ?_
    refine Exists.intro xm_17 (And.intro mi_17 (And.intro ⟨rfl, rfl, rfl, rfl⟩ (And.intro rfl ?_)))
    refine fcallp hB0 (ct_City_isCell_46f02 (fBz h0 hB0) (by first | exact ⟨ha2.1, ha2.2⟩ | omega)) ?_
    rintro _ ⟨z2, rfl, hz2⟩
    refine And.intro (by omega) (And.intro ?_ ?_)
    · intro c3
      refine And.intro (True.intro) ?_
      exact ⟨_, rfl, by omega, (by first | exact g0nil0 | exact fun j => if_no (by omega)), (by first | exact Or.inr ⟨fun q => absurd q.1 (by omega), by omega, by omega⟩ | exact Or.inr ⟨fun q => g0nil0.elim (fun w => absurd w.1 (by omega)) (fun w => w.2 q.2), by omega, by omega⟩)⟩
    · intro c4
      refine Exists.intro xm_13 (And.intro mi_13 (And.intro ⟨rfl, rfl, rfl, rfl⟩ (And.intro True.intro ?_)))
      refine fcallp hB0 (ct_X_within_c27b1 (fBz h0 hB0) (by first | exact ⟨ha3.1, ha3.2⟩ | omega) (by first | exact ⟨by decide, by decide⟩ | omega) (by first | exact ⟨by decide, by decide⟩ | omega)) ?_
      rintro _ ⟨z5, rfl, hz5⟩
      refine And.intro (by omega) (And.intro ?_ ?_)
      · intro c6
        refine And.intro (True.intro) ?_
        exact ⟨_, rfl, by omega, (by first | exact g0nil0 | exact fun j => if_no (by omega)), (by first | exact Or.inr ⟨fun q => absurd q.1 (by omega), by omega, by omega⟩ | exact Or.inr ⟨fun q => g0nil0.elim (fun w => absurd w.1 (by omega)) (fun w => w.2 q.2), by omega, by omega⟩)⟩
      · intro c7
        refine And.intro ⟨rfl, by decide, by decide⟩ ?_
        refine And.intro ⟨rfl, by decide, by decide⟩ ?_
        refine Exists.intro xm_42 (And.intro mi_42 (And.intro ⟨rfl, rfl, rfl, rfl⟩ (And.intro rfl ?_)))
        refine fcallp hB0 (ct_Works_canBe_a5940 (fBz h0 hB0) (by first | exact ⟨ha1.1, ha1.2⟩ | omega) (by first | exact ⟨ha4.1, ha4.2⟩ | omega) (by first | exact ⟨ha5.1, ha5.2⟩ | omega)) ?_
        rintro _ ⟨z8, rfl, hz8, g0z8⟩
        refine And.intro (by omega) (And.intro ?_ ?_)
        · intro c9
          refine And.intro ⟨rfl, by decide, by decide⟩ ?_
          refine And.intro ⟨rfl, by decide, by decide⟩ ?_
          refine Exists.intro xm_43 (And.intro mi_43 (And.intro ⟨rfl, rfl, rfl, rfl⟩ (And.intro rfl ?_)))
          refine fcall _ h0 (fzs_sub (by decide +kernel) hW) hB0 (ct_Works_addWork_6a13b (fBz h0 hB0) (by first | exact ⟨ha1.1, ha1.2⟩ | omega) (by omega) (by first | exact ⟨Int.le_trans (by decide) (Int.le_trans (Int.le_refl _) hz5.1), Int.le_trans (Int.le_trans hz5.2 (Int.le_refl _)) (by decide)⟩ | omega) (by first | exact ⟨ha4.1, ha4.2⟩ | omega) (by first | exact ⟨ha5.1, ha5.2⟩ | omega)) ?_
          rintro IhB11 _ hB11 fhB11 ⟨z10, rfl, hz10, g0z10⟩
          refine And.intro (True.intro) ?_
          exact ⟨_, rfl, by omega, (by first | exact g0z10 | exact fun j => if_no (by omega)), (g0z8.elim (fun q => Or.inl ⟨by omega, q.2, by omega⟩) (fun q => absurd q.1 (by omega)))⟩
        · intro c12
          refine And.intro (True.intro) ?_
          exact ⟨_, rfl, by omega, (by first | exact g0z10 | exact fun j => if_no (by omega)), (by first | exact Or.inr ⟨fun q => absurd q.1 (by omega), by omega, by omega⟩ | exact Or.inr ⟨fun q => g0z8.elim (fun w => absurd w.1 (by omega)) (fun w => w.2 q.2), by omega, by omega⟩)⟩
set_option maxRecDepth 8000 in
theorem ct_M_isWork_a0fef {I : fH} {x1 : Int} (h0 : fB bsJ I) (ha1 : ((-2147483648) ≤ x1 ∧ x1 ≤ 2147483647)) : fC ρ base n F xTc vwCl xTys D dA la gJ (fbz bsJ znJ (fKc []) I) xm_266 [.inr (.inr (some 740)), .inl x1] I (fun _ r => ∃ z, r = some (.inl z) ∧ (((z = 1 ∧ 0 ≤ x1 ∧ x1 ≤ 23) ∨ z = 0) ∧ ((z = 1 ∧ 0 ≤ x1 ∧ x1 < I 741 7) ∨ (z = 0 ∧ ¬ (0 ≤ x1 ∧ x1 < I 741 7))))) := by
  have hW : fzs [] (fKc []) := fKc_ok _
  refine f_meth (rb := rbJ) (J := []) 1 400 xG xin_266 x6_266 okJ (fB_self h0) ?_ ?_
  · exact fun q h => absurd h List.not_mem_nil
  · have hB0 := fB_self (zn := znJ) (K := fKc []) h0
    have b1 := fBd fb_741_7 (fBz h0 hB0)
    refine And.intro (by first | exact fi_ ha1.1 ha1.2 rfl | omega) ?_
    refine And.intro ⟨rfl, by decide, by decide⟩ ?_
    refine fload1 rL_741_741_7_7_1_0 h0 hB0 ⟨by decide, by decide⟩ (by first | exact ⟨by decide, by decide⟩ | omega) ?_
    intro z2 lz2 uz2 qz2
    have pz2 := fld_at qz2 7 (by omega)
    refine And.intro (by omega) ?_
    refine Exists.intro xm_238 (And.intro mi_238 (And.intro ⟨rfl, rfl, rfl, rfl⟩ (And.intro True.intro ?_)))
    refine fcallp hB0 (ct_M_isIn_27230 (fBz h0 hB0) (by first | exact ⟨ha1.1, ha1.2⟩ | omega) (by first | exact ⟨by decide, by decide⟩ | omega) (by omega)) ?_
    rintro _ ⟨z3, rfl, hz3⟩
    refine And.intro (⟨by omega, by omega⟩) ?_
    exact ⟨_, rfl, by omega⟩
set_option maxRecDepth 8000 in
theorem ct_M_kindOf_31275 {I : fH} {x1 : Int} (h0 : fB bsJ I) (ha1 : (0 ≤ x1 ∧ x1 ≤ 23)) : fC ρ base n F xTc vwCl xTys D dA la gJ (fbz bsJ znJ (fKc []) I) xm_267 [.inr (.inr (some 740)), .inl x1] I (fun _ r => ∃ z, r = some (.inl z) ∧ ((-2147483648) ≤ z ∧ z ≤ 2147483647) ∧ (z = I 741 (530 + 14 * x1).toNat)) := by
  have hW : fzs [] (fKc []) := fKc_ok _
  refine f_meth (rb := rbJ) (J := []) 1 400 xG xin_267 x6_267 okJ (fB_self h0) ?_ ?_
  · exact fun q h => absurd h List.not_mem_nil
  · have hB0 := fB_self (zn := znJ) (K := fKc []) h0
    refine And.intro ⟨rfl, by decide, by decide⟩ ?_
    refine Exists.intro xm_244 (And.intro mi_244 (And.intro ⟨rfl, rfl, rfl, rfl⟩ (And.intro rfl ?_)))
    refine fcallp hB0 (ct_M_workAt_83d38 (fBz h0 hB0) (by first | exact ⟨ha1.1, ha1.2⟩ | omega)) ?_
    rintro _ ⟨_, rfl, rfl⟩
    refine fload rL_741_741_530_852_14_0 h0 hB0 (by omega) ?_
    intro z2 lz2 uz2 qz2
    refine And.intro (True.intro) ?_
    exact ⟨_, rfl, (by first | exact ⟨lz2, uz2⟩ | omega), (fld_at qz2 _ (by omega))⟩
set_option maxRecDepth 8000 in
theorem ct_M_fits_3179d {I : fH} {x1 : Int} {x2 : Int} {x3 : Int} (h0 : fB bsJ I) (ha1 : (0 ≤ x1 ∧ x1 ≤ 6)) (ha2 : ((-2147483648) ≤ x2 ∧ x2 ≤ 2147483647)) (ha3 : ((-2147483648) ≤ x3 ∧ x3 ≤ 2147483647)) : fC ρ base n F xTc vwCl xTys D dA la gJ (fbz bsJ znJ (fKc []) I) xm_265 [.inr (.inr (some 740)), .inl x1, .inl x2, .inl x3] I (fun _ r => ∃ z, r = some (.inl z) ∧ (0 ≤ z ∧ z ≤ 1) ∧ ((z = 1 ∧ wFit (I 741 7) (I 741 (530 + 14 * x2).toNat) x1 x2 x3) ∨ (z = 0 ∧ ¬ wFit (I 741 7) (I 741 (530 + 14 * x2).toNat) x1 x2 x3))) := by
  have hW : fzs [] (fKc []) := fKc_ok _
  refine f_meth (rb := rbJ) (J := []) 1 400 xG xin_265 x6_265 okJ (fB_self h0) ?_ ?_
  · exact fun q h => absurd h List.not_mem_nil
  · have hB0 := fB_self (zn := znJ) (K := fKc []) h0
    refine And.intro (by first | exact fi_ ha1.1 ha1.2 rfl | omega) (And.intro ?_ ?_)
    · refine And.intro (fun ex => ?_) (And.intro (fun ex => ?_) (And.intro (fun ex => ?_) (And.intro (fun ex => ?_) (And.intro (fun ex => ?_) (And.intro (fun ex => ?_) (True.intro))))))
      · skip
        refine And.intro (by first | exact fi_ ha2.1 ha2.2 rfl | omega) (And.intro ?_ ?_)
        · intro c1
          refine And.intro (⟨by omega, by omega⟩) ?_
          exact ⟨_, rfl, by omega, (by first | exact Or.inl ⟨by omega, by unfold wFit; omega⟩ | exact Or.inr ⟨by omega, by unfold wFit; omega⟩)⟩
        · intro c2
          refine And.intro (by first | exact fi_ ha3.1 ha3.2 rfl | omega) (And.intro ?_ ?_)
          · intro c3
            refine And.intro (⟨by omega, by omega⟩) ?_
            exact ⟨_, rfl, by omega, (by first | exact Or.inl ⟨by omega, by unfold wFit; omega⟩ | exact Or.inr ⟨by omega, by unfold wFit; omega⟩)⟩
          · intro c4
            refine And.intro (⟨by decide, by decide⟩) ?_
            exact ⟨_, rfl, (by first | exact ⟨by decide, by decide⟩ | omega), (by first | exact Or.inl ⟨by omega, by unfold wFit; omega⟩ | exact Or.inr ⟨by omega, by unfold wFit; omega⟩)⟩
      · skip
        refine And.intro (by first | exact fi_ ha2.1 ha2.2 rfl | omega) ?_
        refine Exists.intro xm_238 (And.intro mi_238 (And.intro ⟨rfl, rfl, rfl, rfl⟩ (And.intro True.intro ?_)))
        refine fcallp hB0 (ct_M_isIn_27230 (fBz h0 hB0) (by first | exact ⟨ha2.1, ha2.2⟩ | omega) (by first | exact ⟨by decide, by decide⟩ | omega) (by first | exact ⟨by decide, by decide⟩ | omega)) ?_
        rintro _ ⟨z5, rfl, hz5⟩
        refine And.intro (by omega) (And.intro ?_ ?_)
        · intro c6
          refine And.intro (⟨by omega, by omega⟩) ?_
          exact ⟨_, rfl, by omega, (by first | exact Or.inl ⟨by omega, by unfold wFit; omega⟩ | exact Or.inr ⟨by omega, by unfold wFit; omega⟩)⟩
        · intro c7
          refine And.intro (by first | exact fi_ ha3.1 ha3.2 rfl | omega) ?_
          refine Exists.intro xm_238 (And.intro mi_238 (And.intro ⟨rfl, rfl, rfl, rfl⟩ (And.intro True.intro ?_)))
          refine fcallp hB0 (ct_M_isIn_27230 (fBz h0 hB0) (by first | exact ⟨ha3.1, ha3.2⟩ | omega) (by first | exact ⟨by decide, by decide⟩ | omega) (by first | exact ⟨by decide, by decide⟩ | omega)) ?_
          rintro _ ⟨z8, rfl, hz8⟩
          refine And.intro (by omega) (And.intro ?_ ?_)
          · intro c9
            refine And.intro (⟨by omega, by omega⟩) ?_
            exact ⟨_, rfl, by omega, (by first | exact Or.inl ⟨by omega, by unfold wFit; omega⟩ | exact Or.inr ⟨by omega, by unfold wFit; omega⟩)⟩
          · intro c10
            refine And.intro (⟨by decide, by decide⟩) ?_
            exact ⟨_, rfl, (by first | exact ⟨by decide, by decide⟩ | omega), (by first | exact Or.inl ⟨by omega, by unfold wFit; omega⟩ | exact Or.inr ⟨by omega, by unfold wFit; omega⟩)⟩
      · skip
        refine And.intro (by first | exact fi_ ha2.1 ha2.2 rfl | omega) ?_
        refine Exists.intro xm_238 (And.intro mi_238 (And.intro ⟨rfl, rfl, rfl, rfl⟩ (And.intro True.intro ?_)))
        refine fcallp hB0 (ct_M_isIn_27230 (fBz h0 hB0) (by first | exact ⟨ha2.1, ha2.2⟩ | omega) (by first | exact ⟨by decide, by decide⟩ | omega) (by first | exact ⟨by decide, by decide⟩ | omega)) ?_
        rintro _ ⟨z11, rfl, hz11⟩
        refine And.intro (by omega) (And.intro ?_ ?_)
        · intro c12
          refine And.intro (⟨by omega, by omega⟩) ?_
          exact ⟨_, rfl, by omega, (by first | exact Or.inl ⟨by omega, by unfold wFit; omega⟩ | exact Or.inr ⟨by omega, by unfold wFit; omega⟩)⟩
        · intro c13
          refine And.intro (by first | exact fi_ ha3.1 ha3.2 rfl | omega) (And.intro ?_ ?_)
          · intro c14
            refine And.intro (⟨by omega, by omega⟩) ?_
            exact ⟨_, rfl, by omega, (by first | exact Or.inl ⟨by omega, by unfold wFit; omega⟩ | exact Or.inr ⟨by omega, by unfold wFit; omega⟩)⟩
          · intro c15
            refine And.intro (⟨by decide, by decide⟩) ?_
            exact ⟨_, rfl, (by first | exact ⟨by decide, by decide⟩ | omega), (by first | exact Or.inl ⟨by omega, by unfold wFit; omega⟩ | exact Or.inr ⟨by omega, by unfold wFit; omega⟩)⟩
      · skip
        refine And.intro (by first | exact fi_ ha2.1 ha2.2 rfl | omega) ?_
        refine Exists.intro xm_238 (And.intro mi_238 (And.intro ⟨rfl, rfl, rfl, rfl⟩ (And.intro True.intro ?_)))
        refine fcallp hB0 (ct_M_isIn_27230 (fBz h0 hB0) (by first | exact ⟨ha2.1, ha2.2⟩ | omega) (by first | exact ⟨by decide, by decide⟩ | omega) (by first | exact ⟨by decide, by decide⟩ | omega)) ?_
        rintro _ ⟨z16, rfl, hz16⟩
        refine And.intro (by omega) (And.intro ?_ ?_)
        · intro c17
          refine And.intro (⟨by omega, by omega⟩) ?_
          exact ⟨_, rfl, by omega, (by first | exact Or.inl ⟨by omega, by unfold wFit; omega⟩ | exact Or.inr ⟨by omega, by unfold wFit; omega⟩)⟩
        · intro c18
          refine And.intro (by first | exact fi_ ha3.1 ha3.2 rfl | omega) (And.intro ?_ ?_)
          · intro c19
            refine And.intro (⟨by omega, by omega⟩) ?_
            exact ⟨_, rfl, by omega, (by first | exact Or.inl ⟨by omega, by unfold wFit; omega⟩ | exact Or.inr ⟨by omega, by unfold wFit; omega⟩)⟩
          · intro c20
            refine And.intro (⟨by decide, by decide⟩) ?_
            exact ⟨_, rfl, (by first | exact ⟨by decide, by decide⟩ | omega), (by first | exact Or.inl ⟨by omega, by unfold wFit; omega⟩ | exact Or.inr ⟨by omega, by unfold wFit; omega⟩)⟩
      · skip
        refine And.intro (by first | exact fi_ ha2.1 ha2.2 rfl | omega) ?_
        refine Exists.intro xm_238 (And.intro mi_238 (And.intro ⟨rfl, rfl, rfl, rfl⟩ (And.intro True.intro ?_)))
        refine fcallp hB0 (ct_M_isIn_27230 (fBz h0 hB0) (by first | exact ⟨ha2.1, ha2.2⟩ | omega) (by first | exact ⟨by decide, by decide⟩ | omega) (by first | exact ⟨by decide, by decide⟩ | omega)) ?_
        rintro _ ⟨z21, rfl, hz21⟩
        refine And.intro (by omega) (And.intro ?_ ?_)
        · intro c22
          refine And.intro (⟨by omega, by omega⟩) ?_
          exact ⟨_, rfl, by omega, (by first | exact Or.inl ⟨by omega, by unfold wFit; omega⟩ | exact Or.inr ⟨by omega, by unfold wFit; omega⟩)⟩
        · intro c23
          refine And.intro (by first | exact fi_ ha3.1 ha3.2 rfl | omega) (And.intro ?_ ?_)
          · intro c24
            refine And.intro (⟨by omega, by omega⟩) ?_
            exact ⟨_, rfl, by omega, (by first | exact Or.inl ⟨by omega, by unfold wFit; omega⟩ | exact Or.inr ⟨by omega, by unfold wFit; omega⟩)⟩
          · intro c25
            refine And.intro (⟨by decide, by decide⟩) ?_
            exact ⟨_, rfl, (by first | exact ⟨by decide, by decide⟩ | omega), (by first | exact Or.inl ⟨by omega, by unfold wFit; omega⟩ | exact Or.inr ⟨by omega, by unfold wFit; omega⟩)⟩
      · skip
        refine Exists.intro xm_266 (And.intro mi_266 (And.intro ⟨rfl, rfl, rfl, rfl⟩ (And.intro rfl ?_)))
        refine fcallp hB0 (ct_M_isWork_a0fef (fBz h0 hB0) (by first | exact ⟨ha2.1, ha2.2⟩ | omega)) ?_
        rintro _ ⟨z26, rfl, hz26⟩
        refine And.intro (by omega) (And.intro ?_ ?_)
        · intro c27
          refine And.intro (⟨by omega, by omega⟩) ?_
          exact ⟨_, rfl, by omega, (by first | exact Or.inl ⟨by omega, by unfold wFit; omega⟩ | exact Or.inr ⟨by omega, by unfold wFit; omega⟩)⟩
        · intro c28
          refine Exists.intro xm_267 (And.intro mi_267 (And.intro ⟨rfl, rfl, rfl, rfl⟩ (And.intro rfl ?_)))
          refine fcallp hB0 (ct_M_kindOf_31275 (fBz h0 hB0) (by omega)) ?_
          rintro _ ⟨z29, rfl, hz29, g0z29⟩
          refine And.intro (And.intro (by first | exact fi_ hz29.1 hz29.2 rfl | omega) (by first | exact ⟨by decide, by decide⟩ | omega)) (And.intro ?_ ?_)
          · intro c30
            refine And.intro (⟨by omega, by omega⟩) ?_
            exact ⟨_, rfl, by omega, (by first | exact Or.inl ⟨by omega, by unfold wFit; omega⟩ | exact Or.inr ⟨by omega, by unfold wFit; omega⟩)⟩
          · intro c31
            refine And.intro (by first | exact fi_ ha3.1 ha3.2 rfl | omega) ?_
            refine Exists.intro xm_238 (And.intro mi_238 (And.intro ⟨rfl, rfl, rfl, rfl⟩ (And.intro True.intro ?_)))
            refine fcallp hB0 (ct_M_isIn_27230 (fBz h0 hB0) (by first | exact ⟨ha3.1, ha3.2⟩ | omega) (by first | exact ⟨by decide, by decide⟩ | omega) (by first | exact ⟨by decide, by decide⟩ | omega)) ?_
            rintro _ ⟨z32, rfl, hz32⟩
            refine And.intro (by omega) (And.intro ?_ ?_)
            · intro c33
              refine And.intro (⟨by omega, by omega⟩) ?_
              exact ⟨_, rfl, by omega, (by first | exact Or.inl ⟨by omega, by unfold wFit; omega⟩ | exact Or.inr ⟨by omega, by unfold wFit; omega⟩)⟩
            · intro c34
              refine And.intro (⟨by decide, by decide⟩) ?_
              exact ⟨_, rfl, (by first | exact ⟨by decide, by decide⟩ | omega), (by first | exact Or.inl ⟨by omega, by unfold wFit; omega⟩ | exact Or.inr ⟨by omega, by unfold wFit; omega⟩)⟩
    · intro c35
      simp only [List.length_cons, List.length_nil] at c35
      refine And.intro (And.intro (by first | exact fi_ ha1.1 ha1.2 rfl | omega) (by first | exact ⟨by decide, by decide⟩ | omega)) (And.intro ?_ ?_)
      · intro c36
        refine And.intro (⟨by omega, by omega⟩) ?_
        exact ⟨_, rfl, by omega, (by first | exact Or.inl ⟨by omega, by unfold wFit; omega⟩ | exact Or.inr ⟨by omega, by unfold wFit; omega⟩)⟩
      · intro c37
        refine And.intro (by first | exact fi_ ha2.1 ha2.2 rfl | omega) ?_
        refine Exists.intro xm_238 (And.intro mi_238 (And.intro ⟨rfl, rfl, rfl, rfl⟩ (And.intro True.intro ?_)))
        refine fcallp hB0 (ct_M_isIn_27230 (fBz h0 hB0) (by first | exact ⟨ha2.1, ha2.2⟩ | omega) (by first | exact ⟨by decide, by decide⟩ | omega) (by first | exact ⟨by decide, by decide⟩ | omega)) ?_
        rintro _ ⟨z38, rfl, hz38⟩
        refine And.intro (by omega) (And.intro ?_ ?_)
        · intro c39
          refine And.intro (⟨by omega, by omega⟩) ?_
          exact ⟨_, rfl, by omega, (by first | exact Or.inl ⟨by omega, by unfold wFit; omega⟩ | exact Or.inr ⟨by omega, by unfold wFit; omega⟩)⟩
        · intro c40
          refine And.intro (by first | exact fi_ ha3.1 ha3.2 rfl | omega) (And.intro ?_ ?_)
          · intro c41
            refine And.intro (⟨by omega, by omega⟩) ?_
            exact ⟨_, rfl, by omega, (by first | exact Or.inl ⟨by omega, by unfold wFit; omega⟩ | exact Or.inr ⟨by omega, by unfold wFit; omega⟩)⟩
          · intro c42
            refine And.intro (⟨by decide, by decide⟩) ?_
            exact ⟨_, rfl, (by first | exact ⟨by decide, by decide⟩ | omega), (by first | exact Or.inl ⟨by omega, by unfold wFit; omega⟩ | exact Or.inr ⟨by omega, by unfold wFit; omega⟩)⟩
abbrev jc_M_work_37e82_78 (x1 : Int) (x2 : Int) (x3 : Int) (x4 : Int) (x5 : Int) (I0 : fH) : Nat → fL → List fV → fH → Prop := fun m lv st I => ∃ (y1 : Int) (y2 : Int) (y3 : Int) (y4 : Int) (y5 : Int) (y6 : Int) (y7 : Int), lv = [(0, .inr (.inr (some 740))), (1, .inl y1), (2, .inl y2), (3, .inl y3), (4, .inl y4), (5, .inl y5), (6, .inl y6), (7, .inl y7)] ∧ st = [] ∧ (((0 ≤ y1 ∧ y1 ≤ 6) ∧ (0 ≤ y2 ∧ y2 ≤ 19) ∧ (1 ≤ y3 ∧ y3 ≤ 9999) ∧ ((-2147483648) ≤ y4 ∧ y4 ≤ 2147483647) ∧ ((-2147483648) ≤ y5 ∧ y5 ≤ 2147483647) ∧ ((530 ≤ y6 ∧ y6 ≤ 852) ∧ (y6 - 530) % 14 ≤ 0) ∧ (0 ≤ y7 ∧ y7 ≤ 19) ∧ (0 ≤ I 741 7 ∧ I 741 7 ≤ 23) ∧ (y6 = 530 + 14 * I0 741 7) ∧ (I 741 7 = I0 741 7) ∧ (0 ≤ I0 741 7) ∧ (I0 741 7 < 24) ∧ (y1 = x1) ∧ (0 ≤ x2) ∧ (x2 < I0 741 5) ∧ (1 ≤ x3) ∧ (x3 ≤ 9999)) ∧ (∀ j : Nat, (j : Int) ≠ I0 741 7 → I 741 (530 + 14 * j) = I0 741 (530 + 14 * j)) ∧ (wFit (I0 741 7) (I0 741 (530 + 14 * x4).toNat) x1 x4 x5)) ∧ m = (1 + 1 * (19 - y7) : Int).toNat
set_option maxRecDepth 8000 in
theorem ct_M_work_37e82 {I : fH} {x1 : Int} {x2 : Int} {x3 : Int} {x4 : Int} {x5 : Int} (h0 : fB bsJ I) (ha1 : ((-2147483648) ≤ x1 ∧ x1 ≤ 2147483647)) (ha2 : ((-2147483648) ≤ x2 ∧ x2 ≤ 2147483647)) (ha3 : ((-2147483648) ≤ x3 ∧ x3 ≤ 2147483647)) (ha4 : ((-2147483648) ≤ x4 ∧ x4 ≤ 2147483647)) (ha5 : ((-2147483648) ≤ x5 ∧ x5 ≤ 2147483647)) : fC ρ base n F xTc vwCl xTys D dA la gJ (fbz bsJ znJ (fKc wz_6345f) I) xm_264 [.inr (.inr (some 740)), .inl x1, .inl x2, .inl x3, .inl x4, .inl x5] I (fun I' r => ∃ z, r = some (.inl z) ∧ ((0 ≤ z ∧ z ≤ 23) ∨ z = (-1000000003) ∨ z = (-1000000001)) ∧ (∀ j : Nat, j < 24 → I' 741 (530 + 14 * j) = if (j : Int) = z then x1 else I 741 (530 + 14 * j)) ∧ (((0 ≤ x2 ∧ x2 < I 741 5 ∧ 1 ≤ x3 ∧ x3 ≤ 9999) ∧ wFit (I 741 7) (I 741 (530 + 14 * x4).toNat) x1 x4 x5 ∧ ((I 741 7 < 24 ∧ z = I 741 7 ∧ I' 741 7 = I 741 7 + 1) ∨ (24 ≤ I 741 7 ∧ z = (-1000000003) ∧ I' 741 7 = I 741 7))) ∨ (¬ ((0 ≤ x2 ∧ x2 < I 741 5 ∧ 1 ≤ x3 ∧ x3 ≤ 9999) ∧ wFit (I 741 7) (I 741 (530 + 14 * x4).toNat) x1 x4 x5) ∧ z = (-1000000001) ∧ I' 741 7 = I 741 7))) := by
  have hW : fzs wz_6345f (fKc wz_6345f) := fKc_ok _
  refine f_meth (rb := rbJ) (J := [(78, (jc_M_work_37e82_78 x1 x2 x3 x4 x5 I))]) 21 400 xG xin_264 x6_264 okJ (fB_self h0) ?_ ?_
  · refine List.forall_mem_cons.mpr ⟨?_, fun q h => absurd h List.not_mem_nil⟩
    · rintro m _ _ I1 hB1 ⟨y1, y2, y3, y4, y5, y6, y7, rfl, rfl, ⟨hb, hx0, hx1⟩, hm⟩
      have b1 := fBd fb_741_7 (fBz h0 hB1)
      have b2 := fBd fb_741_5 (fBz h0 hB1)
      have ey1 : x1 = y1 := by omega
      subst ey1
      refine And.intro (And.intro (by first | exact fi_ hb.2.2.2.2.2.2.1.1 hb.2.2.2.2.2.2.1.2 rfl | omega) (by first | exact ⟨by decide, by decide⟩ | omega)) (And.intro ?_ ?_)
      · intro c3
        refine And.intro ⟨rfl, by decide, by decide⟩ ?_
        refine fstore rS_741_741_530_852_14_0 (fzs_sub (by decide +kernel) hW) (by omega) (by first | exact ⟨Int.le_trans (by decide) hb.1.1, Int.le_trans hb.1.2 (by decide)⟩ | omega) ?_
        intro IhB4 ehB4 hB4
        have t5 := fup_self ehB4
        have t6 : IhB4 741 7 = I1 741 7 := (congrFun (congrFun ehB4 741) 7).trans (fup_ne (by first | exact Or.inl (by decide) | omega))
        refine And.intro ⟨rfl, by decide, by decide⟩ ?_
        refine fstore rS_741_741_531_853_14_0 (fzs_sub (by decide +kernel) hW) (by omega) (by first | exact ⟨hb.2.1.1, hb.2.1.2⟩ | omega) ?_
        intro IhB7 ehB7 hB7
        have t8 := fup_self ehB7
        have t9 : IhB7 741 7 = IhB4 741 7 := (congrFun (congrFun ehB7 741) 7).trans (fup_ne (by first | exact Or.inl (by decide) | omega))
        refine And.intro ⟨rfl, by decide, by decide⟩ ?_
        refine fstore rS_741_741_532_854_14_0 (fzs_sub (by decide +kernel) hW) (by omega) (by first | exact ⟨Int.le_trans (by decide) hb.2.2.1.1, Int.le_trans hb.2.2.1.2 (by decide)⟩ | omega) ?_
        intro IhB10 ehB10 hB10
        have t11 := fup_self ehB10
        have t12 : IhB10 741 7 = IhB7 741 7 := (congrFun (congrFun ehB10 741) 7).trans (fup_ne (by first | exact Or.inl (by decide) | omega))
        refine And.intro ⟨rfl, by decide, by decide⟩ ?_
        refine fstore rS_741_741_533_855_14_0 (fzs_sub (by decide +kernel) hW) (by omega) (by first | exact ⟨by decide, by decide⟩ | omega) ?_
        intro IhB13 ehB13 hB13
        have t14 := fup_self ehB13
        have t15 : IhB13 741 7 = IhB10 741 7 := (congrFun (congrFun ehB13 741) 7).trans (fup_ne (by first | exact Or.inl (by decide) | omega))
        refine And.intro ⟨rfl, by decide, by decide⟩ ?_
        refine fstore rS_741_741_535_857_14_0 (fzs_sub (by decide +kernel) hW) (by omega) (by first | exact ⟨hb.2.2.2.1.1, hb.2.2.2.1.2⟩ | omega) ?_
        intro IhB16 ehB16 hB16
        have t17 := fup_self ehB16
        have t18 : IhB16 741 7 = IhB13 741 7 := (congrFun (congrFun ehB16 741) 7).trans (fup_ne (by first | exact Or.inl (by decide) | omega))
        refine And.intro ⟨rfl, by decide, by decide⟩ ?_
        refine fstore rS_741_741_536_858_14_0 (fzs_sub (by decide +kernel) hW) (by omega) (by first | exact ⟨hb.2.2.2.2.1.1, hb.2.2.2.2.1.2⟩ | omega) ?_
        intro IhB19 ehB19 hB19
        have t20 := fup_self ehB19
        have t21 : IhB19 741 7 = IhB16 741 7 := (congrFun (congrFun ehB19 741) 7).trans (fup_ne (by first | exact Or.inl (by decide) | omega))
        refine And.intro ⟨rfl, by decide, by decide⟩ ?_
        refine fstore rS_741_741_539_861_14_0 (fzs_sub (by decide +kernel) hW) (by omega) (by first | exact ⟨by decide, by decide⟩ | omega) ?_
        intro IhB22 ehB22 hB22
        have t23 := fup_self ehB22
        have t24 : IhB22 741 7 = IhB19 741 7 := (congrFun (congrFun ehB22 741) 7).trans (fup_ne (by first | exact Or.inl (by decide) | omega))
        refine And.intro ⟨rfl, by decide, by decide⟩ ?_
        refine fload1 rL_741_741_7_7_1_0 h0 hB22 ⟨by decide, by decide⟩ (by first | exact ⟨by decide, by decide⟩ | omega) ?_
        intro z25 lz25 uz25 qz25
        have pz25 := fld_at qz25 7 (by omega)
        refine fstore1 rS_741_741_7_7_1_0 (fzs_sub (by decide +kernel) hW) ⟨by decide, by decide⟩ (by first | exact ⟨by decide, by decide⟩ | omega) (by omega) ?_
        intro IhB26 ehB26 hB26
        have t27 := fup_self ehB26
        have t28 := fup_at ehB26 7 (by first | rfl | omega)
        refine And.intro ⟨rfl, by decide, by decide⟩ ?_
        refine fload1 rL_741_741_7_7_1_0 h0 hB26 ⟨by decide, by decide⟩ (by first | exact ⟨by decide, by decide⟩ | omega) ?_
        intro z29 lz29 uz29 qz29
        have pz29 := fld_at qz29 7 (by omega)
        refine And.intro (True.intro) ?_
        exact ⟨_, rfl, by omega, (fun j hj => ((fup_other ehB26 741 (530 + 14 * j) (Or.inr (by omega))).trans ((fup_other ehB22 741 (530 + 14 * j) (Or.inr (by omega))).trans ((fup_other ehB19 741 (530 + 14 * j) (Or.inr (by omega))).trans ((fup_other ehB16 741 (530 + 14 * j) (Or.inr (by omega))).trans ((fup_other ehB13 741 (530 + 14 * j) (Or.inr (by omega))).trans ((fup_other ehB10 741 (530 + 14 * j) (Or.inr (by omega))).trans (fup_other ehB7 741 (530 + 14 * j) (Or.inr (by omega))))))))).trans ((fup_if ehB4 (530 + 14 * j)).trans (if_gx (q := (j : Int) = z29 - ((1 : Nat) : Int)) (by omega) (fun hn => hx0 j (by omega))))), (Or.inl ⟨by omega, hx1, by omega⟩)⟩
      · intro c30
        refine And.intro ⟨rfl, by decide, by decide⟩ ?_
        refine fstore rS_741_741_530_865_14_13 (fzs_sub (by decide +kernel) hW) (by omega) (by first | exact ⟨by decide, by decide⟩ | omega) ?_
        intro IhB31 ehB31 hB31
        have t32 := fup_self ehB31
        have t33 : IhB31 741 7 = I1 741 7 := (congrFun (congrFun ehB31 741) 7).trans (fup_ne (by first | exact Or.inl (by decide) | omega))
        exact fcutJ (I := IhB31) (j := (jc_M_work_37e82_78 x1 x2 x3 x4 x5 I)) (lv' := [(0, .inr (.inr (some 740))), (1, .inl _), (2, .inl _), (3, .inl _), (4, .inl _), (5, .inl _), (6, .inl _), (7, .inl _)]) (And.intro rfl (And.intro rfl (And.intro rfl (And.intro rfl (And.intro rfl (And.intro rfl (And.intro rfl (And.intro rfl True.intro)))))))) ⟨_, _, _, _, _, _, _, rfl, rfl, ⟨by omega, (fun j h => (fup_other ehB31 741 (530 + 14 * j) (Or.inr (by omega))).trans (hx0 j h)), hx1⟩, rfl⟩ (by omega)
  · have hB0 := fB_self (zn := znJ) (K := fKc wz_6345f) h0
    have b34 := fBd fb_741_7 (fBz h0 hB0)
    have b35 := fBd fb_741_5 (fBz h0 hB0)
    refine And.intro (by first | exact fi_ ha1.1 ha1.2 rfl | omega) ?_
    refine Exists.intro xm_238 (And.intro mi_238 (And.intro ⟨rfl, rfl, rfl, rfl⟩ (And.intro True.intro ?_)))
    refine fcallp hB0 (ct_M_isIn_27230 (fBz h0 hB0) (by first | exact ⟨ha1.1, ha1.2⟩ | omega) (by first | exact ⟨by decide, by decide⟩ | omega) (by first | exact ⟨by decide, by decide⟩ | omega)) ?_
    rintro _ ⟨z36, rfl, hz36⟩
    refine And.intro (by omega) (And.intro ?_ ?_)
    · intro c37
      refine And.intro (True.intro) ?_
      exact ⟨_, rfl, by omega, (fun j _ => if_no (by omega)), (by first | exact Or.inr ⟨fun q => absurd q.1 (by omega), by omega, by omega⟩ | exact Or.inr ⟨fun q => absurd q.2 (by unfold wFit; omega), by omega, by omega⟩ | exact Or.inr ⟨fun q => g0nil0.elim (fun w => absurd w.1 (by omega)) (fun w => w.2 q.2), by omega, by omega⟩)⟩
    · intro c38
      refine Exists.intro xm_241 (And.intro mi_241 (And.intro ⟨rfl, rfl, rfl, rfl⟩ (And.intro rfl ?_)))
      refine fcallp hB0 (ct_M_isCell_45859 (fBz h0 hB0) (by first | exact ⟨ha2.1, ha2.2⟩ | omega)) ?_
      rintro _ ⟨z39, rfl, hz39⟩
      refine And.intro (by omega) (And.intro ?_ ?_)
      · intro c40
        refine And.intro (True.intro) ?_
        exact ⟨_, rfl, by omega, (fun j _ => if_no (by omega)), (by first | exact Or.inr ⟨fun q => absurd q.1 (by omega), by omega, by omega⟩ | exact Or.inr ⟨fun q => absurd q.2 (by unfold wFit; omega), by omega, by omega⟩ | exact Or.inr ⟨fun q => g0nil0.elim (fun w => absurd w.1 (by omega)) (fun w => w.2 q.2), by omega, by omega⟩)⟩
      · intro c41
        refine And.intro (by first | exact fi_ ha3.1 ha3.2 rfl | omega) ?_
        refine Exists.intro xm_238 (And.intro mi_238 (And.intro ⟨rfl, rfl, rfl, rfl⟩ (And.intro True.intro ?_)))
        refine fcallp hB0 (ct_M_isIn_27230 (fBz h0 hB0) (by first | exact ⟨ha3.1, ha3.2⟩ | omega) (by first | exact ⟨by decide, by decide⟩ | omega) (by first | exact ⟨by decide, by decide⟩ | omega)) ?_
        rintro _ ⟨z42, rfl, hz42⟩
        refine And.intro (by omega) (And.intro ?_ ?_)
        · intro c43
          refine And.intro (True.intro) ?_
          exact ⟨_, rfl, by omega, (fun j _ => if_no (by omega)), (by first | exact Or.inr ⟨fun q => absurd q.1 (by omega), by omega, by omega⟩ | exact Or.inr ⟨fun q => absurd q.2 (by unfold wFit; omega), by omega, by omega⟩ | exact Or.inr ⟨fun q => g0nil0.elim (fun w => absurd w.1 (by omega)) (fun w => w.2 q.2), by omega, by omega⟩)⟩
        · intro c44
          refine Exists.intro xm_265 (And.intro mi_265 (And.intro ⟨rfl, rfl, rfl, rfl⟩ (And.intro rfl ?_)))
          refine fcallp hB0 (ct_M_fits_3179d (fBz h0 hB0) (by first | exact ⟨Int.le_trans (by decide) (Int.le_trans (Int.le_refl _) hz36.1), Int.le_trans (Int.le_trans hz36.2 (Int.le_refl _)) (by decide)⟩ | omega) (by first | exact ⟨ha4.1, ha4.2⟩ | omega) (by first | exact ⟨ha5.1, ha5.2⟩ | omega)) ?_
          rintro _ ⟨z45, rfl, hz45, g0z45⟩
          refine And.intro (by omega) (And.intro ?_ ?_)
          · intro c46
            refine And.intro ⟨rfl, by decide, by decide⟩ ?_
            refine fload1 rL_741_741_7_7_1_0 h0 hB0 ⟨by decide, by decide⟩ (by first | exact ⟨by decide, by decide⟩ | omega) ?_
            intro z47 lz47 uz47 qz47
            have pz47 := fld_at qz47 7 (by omega)
            refine And.intro (And.intro (by first | exact fi_ lz47 uz47 rfl | omega) (by first | exact ⟨by decide, by decide⟩ | omega)) (And.intro ?_ ?_)
            · intro c48
              refine And.intro ⟨rfl, by decide, by decide⟩ ?_
              refine fload1 rL_741_741_7_7_1_0 h0 hB0 ⟨by decide, by decide⟩ (by first | exact ⟨by decide, by decide⟩ | omega) ?_
              intro z49 lz49 uz49 qz49
              have pz49 := fld_at qz49 7 (by omega)
              refine Exists.intro xm_244 (And.intro mi_244 (And.intro ⟨rfl, rfl, rfl, rfl⟩ (And.intro rfl ?_)))
              refine fcallp hB0 (ct_M_workAt_83d38 (fBz h0 hB0) (by omega)) ?_
              rintro _ ⟨_, rfl, rfl⟩
              exact fcutJ (I := I) (j := (jc_M_work_37e82_78 x1 x2 x3 x4 x5 I)) (lv' := [(0, .inr (.inr (some 740))), (1, .inl _), (2, .inl _), (3, .inl _), (4, .inl _), (5, .inl _), (6, .inl _), (7, .inl _)]) (And.intro rfl (And.intro rfl (And.intro rfl (And.intro rfl (And.intro rfl (And.intro rfl (And.intro rfl (And.intro rfl True.intro)))))))) ⟨_, _, _, _, _, _, _, rfl, rfl, ⟨by omega, (fun j _ => rfl), (g0z45.elim (fun q => q.2) (fun q => absurd q.1 (by omega)))⟩, rfl⟩ (by omega)
            · intro c51
              refine And.intro (True.intro) ?_
              exact ⟨_, rfl, by omega, (fun j _ => if_no (by omega)), (Or.inl ⟨by omega, (g0z45.elim (fun q => q.2) (fun q => absurd q.1 (by omega))), by omega⟩)⟩
          · intro c52
            refine And.intro (True.intro) ?_
            exact ⟨_, rfl, by omega, (fun j _ => if_no (by omega)), (by first | exact Or.inr ⟨fun q => absurd q.1 (by omega), by omega, by omega⟩ | exact Or.inr ⟨fun q => absurd q.2 (by unfold wFit; omega), by omega, by omega⟩ | exact Or.inr ⟨fun q => g0z45.elim (fun w => absurd w.1 (by omega)) (fun w => w.2 q.2), by omega, by omega⟩)⟩
set_option maxRecDepth 8000 in
theorem ct_City_isWork_11526 {I : fH} {x1 : Int} (h0 : fB bsJ I) (ha1 : ((-2147483648) ≤ x1 ∧ x1 ≤ 2147483647)) : fC ρ base n F xTc vwCl xTys D dA la gJ (fbz bsJ znJ (fKc []) I) xm_45 [.inr (.inr (some 1)), .inl x1] I (fun _ r => ∃ z, r = some (.inl z) ∧ ((z = 1 ∧ 0 ≤ x1 ∧ x1 ≤ 23) ∨ z = 0)) := by
  have hW : fzs [] (fKc []) := fKc_ok _
  refine f_meth (rb := rbJ) (J := []) 1 400 xG xin_45 x6_45 okJ (fB_self h0) ?_ ?_
  · exact fun q h => absurd h List.not_mem_nil
  · have hB0 := fB_self (zn := znJ) (K := fKc []) h0
    refine And.intro ⟨rfl, by decide, by decide⟩ ?_
    refine And.intro ⟨rfl, by decide, by decide⟩ (fgetf fb_163_13 h0 hB0 ?_)
    intro z1 lz1 uz1 qz1
    refine Exists.intro xm_13 (And.intro mi_13 (And.intro ⟨rfl, rfl, rfl, rfl⟩ (And.intro True.intro ?_)))
    refine fcallp hB0 (ct_X_within_c27b1 (fBz h0 hB0) (by first | exact ⟨ha1.1, ha1.2⟩ | omega) (by first | exact ⟨by decide, by decide⟩ | omega) (by omega)) ?_
    rintro _ ⟨z2, rfl, hz2⟩
    refine And.intro (⟨by omega, by omega⟩) ?_
    exact ⟨_, rfl, by omega⟩
set_option maxRecDepth 8000 in
theorem ct_Works_tellOf_99893 {I : fH} {x1 : Int} {x2 : Int} (h0 : fB bsJ I) (ha1 : (0 ≤ x1 ∧ x1 ≤ 23)) (ha2 : ((-2147483648) ≤ x2 ∧ x2 ≤ 2147483647)) : fC ρ base n F xTc vwCl xTys D dA la gJ (fbz bsJ znJ (fKc []) I) xm_46 [.inr (.inr (some 163)), .inl x1, .inl x2] I (fun _ r => ∃ z, r = some (.inl z) ∧ ((-2147483648) ≤ z ∧ z ≤ 2147483647)) := by
  have hW : fzs [] (fKc []) := fKc_ok _
  refine f_meth (rb := rbJ) (J := []) 1 400 xG xin_46 x6_46 okJ (fB_self h0) ?_ ?_
  · exact fun q h => absurd h List.not_mem_nil
  · have hB0 := fB_self (zn := znJ) (K := fKc []) h0
    refine And.intro (by first | exact fi_ ha2.1 ha2.2 rfl | omega) (And.intro ?_ ?_)
    · refine And.intro (fun ex => ?_) (And.intro (fun ex => ?_) (And.intro (fun ex => ?_) (And.intro (fun ex => ?_) (And.intro (fun ex => ?_) (And.intro (fun ex => ?_) (And.intro (fun ex => ?_) (And.intro (fun ex => ?_) (And.intro (fun ex => ?_) (And.intro (fun ex => ?_) (And.intro (fun ex => ?_) (True.intro)))))))))))
      · skip
        refine And.intro ⟨rfl, by decide, by decide⟩ ?_
        refine fload1 rL_164_164_0_23_1_0 h0 hB0 ⟨by decide, by decide⟩ (by first | exact ⟨ha1.1, ha1.2⟩ | omega) ?_
        intro z1 lz1 uz1 qz1
        refine And.intro (True.intro) ?_
        exact ⟨_, rfl, (by first | exact ⟨lz1, uz1⟩ | omega)⟩
      · skip
        refine And.intro ⟨rfl, by decide, by decide⟩ ?_
        refine fload1 rL_165_165_0_23_1_0 h0 hB0 ⟨by decide, by decide⟩ (by first | exact ⟨ha1.1, ha1.2⟩ | omega) ?_
        intro z2 lz2 uz2 qz2
        refine And.intro (True.intro) ?_
        exact ⟨_, rfl, (by first | exact ⟨Int.le_trans (by decide) lz2, Int.le_trans uz2 (by decide)⟩ | omega)⟩
      · skip
        refine And.intro ⟨rfl, by decide, by decide⟩ ?_
        refine fload1 rL_166_166_0_23_1_0 h0 hB0 ⟨by decide, by decide⟩ (by first | exact ⟨ha1.1, ha1.2⟩ | omega) ?_
        intro z3 lz3 uz3 qz3
        refine And.intro (True.intro) ?_
        exact ⟨_, rfl, (by first | exact ⟨lz3, uz3⟩ | omega)⟩
      · skip
        refine And.intro ⟨rfl, by decide, by decide⟩ ?_
        refine fload1 rL_167_167_0_23_1_0 h0 hB0 ⟨by decide, by decide⟩ (by first | exact ⟨ha1.1, ha1.2⟩ | omega) ?_
        intro z4 lz4 uz4 qz4
        refine And.intro (True.intro) ?_
        exact ⟨_, rfl, (by first | exact ⟨lz4, uz4⟩ | omega)⟩
      · skip
        refine And.intro ⟨rfl, by decide, by decide⟩ ?_
        refine fload1 rL_168_168_0_23_1_0 h0 hB0 ⟨by decide, by decide⟩ (by first | exact ⟨ha1.1, ha1.2⟩ | omega) ?_
        intro z5 lz5 uz5 qz5
        refine And.intro (True.intro) ?_
        exact ⟨_, rfl, (by first | exact ⟨lz5, uz5⟩ | omega)⟩
      · skip
        refine And.intro ⟨rfl, by decide, by decide⟩ ?_
        refine fload1 rL_171_171_0_23_1_0 h0 hB0 ⟨by decide, by decide⟩ (by first | exact ⟨ha1.1, ha1.2⟩ | omega) ?_
        intro z6 lz6 uz6 qz6
        refine And.intro (True.intro) ?_
        exact ⟨_, rfl, (by first | exact ⟨lz6, uz6⟩ | omega)⟩
      · skip
        refine And.intro ⟨rfl, by decide, by decide⟩ ?_
        refine fload1 rL_172_172_0_23_1_0 h0 hB0 ⟨by decide, by decide⟩ (by first | exact ⟨ha1.1, ha1.2⟩ | omega) ?_
        intro z7 lz7 uz7 qz7
        refine And.intro (True.intro) ?_
        exact ⟨_, rfl, (by first | exact ⟨lz7, uz7⟩ | omega)⟩
      · skip
        refine And.intro ⟨rfl, by decide, by decide⟩ ?_
        refine fload1 rL_173_173_0_23_1_0 h0 hB0 ⟨by decide, by decide⟩ (by first | exact ⟨ha1.1, ha1.2⟩ | omega) ?_
        intro z8 lz8 uz8 qz8
        refine And.intro (True.intro) ?_
        exact ⟨_, rfl, (by first | exact ⟨lz8, uz8⟩ | omega)⟩
      · skip
        refine And.intro ⟨rfl, by decide, by decide⟩ ?_
        refine fload1 rL_174_174_0_23_1_0 h0 hB0 ⟨by decide, by decide⟩ (by first | exact ⟨ha1.1, ha1.2⟩ | omega) ?_
        intro z9 lz9 uz9 qz9
        refine And.intro (True.intro) ?_
        exact ⟨_, rfl, (by first | exact ⟨lz9, uz9⟩ | omega)⟩
      · skip
        refine And.intro ⟨rfl, by decide, by decide⟩ ?_
        refine fload1 rL_175_175_0_23_1_0 h0 hB0 ⟨by decide, by decide⟩ (by first | exact ⟨ha1.1, ha1.2⟩ | omega) ?_
        intro z10 lz10 uz10 qz10
        refine And.intro (True.intro) ?_
        exact ⟨_, rfl, (by first | exact ⟨Int.le_trans (by decide) lz10, Int.le_trans uz10 (by decide)⟩ | omega)⟩
      · skip
        refine And.intro ⟨rfl, by decide, by decide⟩ ?_
        refine fload1 rL_176_176_0_23_1_0 h0 hB0 ⟨by decide, by decide⟩ (by first | exact ⟨ha1.1, ha1.2⟩ | omega) ?_
        intro z11 lz11 uz11 qz11
        refine And.intro (True.intro) ?_
        exact ⟨_, rfl, (by first | exact ⟨lz11, uz11⟩ | omega)⟩
    · intro c12
      refine And.intro (True.intro) ?_
      exact ⟨_, rfl, (by first | exact ⟨by decide, by decide⟩ | omega)⟩
set_option maxRecDepth 8000 in
theorem ct_X_has_bd0f1 {I : fH} {x1 : Int} {x2 : Int} (h0 : fB bsJ I) (ha1 : ((-2147483648) ≤ x1 ∧ x1 ≤ 2147483647)) (ha2 : ((-2147483648) ≤ x2 ∧ x2 ≤ 2147483647)) : fC ρ base n F xTc vwCl xTys D dA la gJ (fbz bsJ znJ (fKc []) I) xm_44 [.inr (.inr (some 0)), .inl x1, .inl x2] I (fun _ r => ∃ z, r = some (.inl z) ∧ ((-2147483648) ≤ z ∧ z ≤ 2147483647)) := by
  have hW : fzs [] (fKc []) := fKc_ok _
  refine f_meth (rb := rbJ) (J := []) 1 400 xG xin_44 x6_44 okJ (fB_self h0) ?_ ?_
  · exact fun q h => absurd h List.not_mem_nil
  · have hB0 := fB_self (zn := znJ) (K := fKc []) h0
    refine And.intro ⟨rfl, by decide, by decide⟩ ?_
    refine Exists.intro xm_45 (And.intro mi_45 (And.intro ⟨rfl, rfl, rfl, rfl⟩ (And.intro rfl ?_)))
    refine fcallp hB0 (ct_City_isWork_11526 (fBz h0 hB0) (by first | exact ⟨ha1.1, ha1.2⟩ | omega)) ?_
    rintro _ ⟨z1, rfl, hz1⟩
    refine And.intro (by omega) (And.intro ?_ ?_)
    · intro c2
      refine And.intro (True.intro) ?_
      exact ⟨_, rfl, by omega⟩
    · intro c3
      refine And.intro ⟨rfl, by decide, by decide⟩ ?_
      refine And.intro ⟨rfl, by decide, by decide⟩ ?_
      refine Exists.intro xm_46 (And.intro mi_46 (And.intro ⟨rfl, rfl, rfl, rfl⟩ (And.intro rfl ?_)))
      refine fcallp hB0 (ct_Works_tellOf_99893 (fBz h0 hB0) (by omega) (by first | exact ⟨ha2.1, ha2.2⟩ | omega)) ?_
      rintro _ ⟨z4, rfl, hz4⟩
      refine And.intro (True.intro) ?_
      exact ⟨_, rfl, (by first | exact ⟨hz4.1, hz4.2⟩ | omega)⟩
set_option maxRecDepth 8000 in
theorem ct_M_orNone_a2a87 {I : fH} {x0 : Int} (h0 : fB bsJ I) (ha0 : ((-2147483648) ≤ x0 ∧ x0 ≤ 2147483647)) : fC ρ base n F xTc vwCl xTys D dA la gJ (fbz bsJ znJ (fKc []) I) xm_269 [.inl x0] I (fun _ r => ∃ z, r = some (.inl z) ∧ ((0 ≤ z ∧ z ≤ 2147483647) ∨ z = (-1000000005))) := by
  have hW : fzs [] (fKc []) := fKc_ok _
  refine f_meth (rb := rbJ) (J := []) 1 400 xG xin_269 x6_269 okJ (fB_self h0) ?_ ?_
  · exact fun q h => absurd h List.not_mem_nil
  · have hB0 := fB_self (zn := znJ) (K := fKc []) h0
    refine And.intro (by first | exact fi_ ha0.1 ha0.2 rfl | omega) (And.intro ?_ ?_)
    · intro c1
      refine And.intro (True.intro) ?_
      exact ⟨_, rfl, by omega⟩
    · intro c2
      refine And.intro (True.intro) ?_
      exact ⟨_, rfl, by omega⟩
set_option maxRecDepth 8000 in
theorem ct_M_has_04f65 {I : fH} {x1 : Int} {x2 : Int} (h0 : fB bsJ I) (ha1 : ((-2147483648) ≤ x1 ∧ x1 ≤ 2147483647)) (ha2 : ((-2147483648) ≤ x2 ∧ x2 ≤ 2147483647)) : fC ρ base n F xTc vwCl xTys D dA la gJ (fbz bsJ znJ (fKc []) I) xm_268 [.inr (.inr (some 740)), .inl x1, .inl x2] I (fun _ r => ∃ z, r = some (.inl z) ∧ ((-2147483648) ≤ z ∧ z ≤ 2147483647)) := by
  have hW : fzs [] (fKc []) := fKc_ok _
  refine f_meth (rb := rbJ) (J := []) 1 400 xG xin_268 x6_268 okJ (fB_self h0) ?_ ?_
  · exact fun q h => absurd h List.not_mem_nil
  · have hB0 := fB_self (zn := znJ) (K := fKc []) h0
    refine Exists.intro xm_266 (And.intro mi_266 (And.intro ⟨rfl, rfl, rfl, rfl⟩ (And.intro rfl ?_)))
    refine fcallp hB0 (ct_M_isWork_a0fef (fBz h0 hB0) (by first | exact ⟨ha1.1, ha1.2⟩ | omega)) ?_
    rintro _ ⟨z1, rfl, hz1⟩
    refine And.intro (by omega) (And.intro ?_ ?_)
    · intro c2
      refine And.intro (True.intro) ?_
      exact ⟨_, rfl, (by first | exact ⟨by decide, by decide⟩ | omega)⟩
    · intro c3
      refine And.intro (by first | exact fi_ ha2.1 ha2.2 rfl | omega) ?_
      refine Exists.intro xm_238 (And.intro mi_238 (And.intro ⟨rfl, rfl, rfl, rfl⟩ (And.intro True.intro ?_)))
      refine fcallp hB0 (ct_M_isIn_27230 (fBz h0 hB0) (by first | exact ⟨ha2.1, ha2.2⟩ | omega) (by first | exact ⟨by decide, by decide⟩ | omega) (by first | exact ⟨by decide, by decide⟩ | omega)) ?_
      rintro _ ⟨z4, rfl, hz4⟩
      refine And.intro (by omega) (And.intro ?_ ?_)
      · intro c5
        refine And.intro ⟨rfl, by decide, by decide⟩ ?_
        refine Exists.intro xm_244 (And.intro mi_244 (And.intro ⟨rfl, rfl, rfl, rfl⟩ (And.intro rfl ?_)))
        refine fcallp hB0 (ct_M_workAt_83d38 (fBz h0 hB0) (by omega)) ?_
        rintro _ ⟨_, rfl, rfl⟩
        refine fload rL_741_741_530_862_14_10 h0 hB0 (by omega) ?_
        intro z7 lz7 uz7 qz7
        refine And.intro (And.intro (by first | exact fi_ (Int.le_trans (Int.le_refl _) hz4.1) (Int.le_trans hz4.2 (Int.le_refl _)) rfl | omega) (by first | exact ⟨by decide, by decide⟩ | omega)) (And.intro ?_ ?_)
        · intro c8
          refine And.intro (True.intro) ?_
          exact ⟨_, rfl, (by first | exact ⟨lz7, uz7⟩ | omega)⟩
        · intro c9
          refine Exists.intro xm_269 (And.intro mi_269 (And.intro ⟨rfl, rfl, rfl, rfl⟩ (And.intro True.intro ?_)))
          refine fcallp hB0 (ct_M_orNone_a2a87 (fBz h0 hB0) (by first | exact ⟨lz7, uz7⟩ | omega)) ?_
          rintro _ ⟨z10, rfl, hz10⟩
          refine And.intro (True.intro) ?_
          exact ⟨_, rfl, by omega⟩
      · intro c11
        refine And.intro (True.intro) ?_
        exact ⟨_, rfl, (by first | exact ⟨by decide, by decide⟩ | omega)⟩
set_option maxRecDepth 8000 in
theorem ct_Works_isOf_7baa9 {I : fH} {x1 : Int} {x2 : Int} (h0 : fB bsJ I) (ha1 : (0 ≤ x1 ∧ x1 ≤ 23)) (ha2 : (0 ≤ x2 ∧ x2 ≤ 6)) : fC ρ base n F xTc vwCl xTys D dA la gJ (fbz bsJ znJ (fKc []) I) xm_48 [.inr (.inr (some 163)), .inl x1, .inl x2] I (fun _ r => ∃ z, r = some (.inl z) ∧ (0 ≤ z ∧ z ≤ 1)) := by
  have hW : fzs [] (fKc []) := fKc_ok _
  refine f_meth (rb := rbJ) (J := []) 1 400 xG xin_48 x6_48 okJ (fB_self h0) ?_ ?_
  · exact fun q h => absurd h List.not_mem_nil
  · have hB0 := fB_self (zn := znJ) (K := fKc []) h0
    refine And.intro ⟨rfl, by decide, by decide⟩ ?_
    refine fload1 rL_164_164_0_23_1_0 h0 hB0 ⟨by decide, by decide⟩ (by first | exact ⟨ha1.1, ha1.2⟩ | omega) ?_
    intro z1 lz1 uz1 qz1
    refine And.intro (by first | exact fi_ ha2.1 ha2.2 rfl | omega) (And.intro ?_ ?_)
    · intro c2
      refine And.intro (⟨by decide, by decide⟩) ?_
      exact ⟨_, rfl, (by first | exact ⟨by decide, by decide⟩ | omega)⟩
    · intro c3
      refine And.intro (And.intro (by first | exact fi_ ha2.1 ha2.2 rfl | omega) (by first | exact fi_ lz1 uz1 rfl | omega)) (And.intro ?_ ?_)
      · intro c4
        refine And.intro (⟨by decide, by decide⟩) ?_
        exact ⟨_, rfl, (by first | exact ⟨by decide, by decide⟩ | omega)⟩
      · intro c5
        refine And.intro (And.intro (by first | exact fi_ ha2.1 ha2.2 rfl | omega) (by first | exact ⟨by decide, by decide⟩ | omega)) (And.intro ?_ ?_)
        · intro c6
          refine And.intro (And.intro (by first | exact fi_ ha2.1 ha2.2 rfl | omega) (by first | exact ⟨by decide, by decide⟩ | omega)) (And.intro ?_ ?_)
          · intro c7
            refine And.intro (⟨by omega, by omega⟩) ?_
            exact ⟨_, rfl, by omega⟩
          · intro c8
            refine And.intro (And.intro (by first | exact fi_ lz1 uz1 rfl | omega) (by first | exact ⟨by decide, by decide⟩ | omega)) (And.intro ?_ ?_)
            · intro c9
              refine And.intro (⟨by omega, by omega⟩) ?_
              exact ⟨_, rfl, by omega⟩
            · intro c10
              refine And.intro (⟨by decide, by decide⟩) ?_
              exact ⟨_, rfl, (by first | exact ⟨by decide, by decide⟩ | omega)⟩
        · intro c11
          refine And.intro (And.intro (by first | exact fi_ lz1 uz1 rfl | omega) (by first | exact ⟨by decide, by decide⟩ | omega)) (And.intro ?_ ?_)
          · intro c12
            refine And.intro (⟨by decide, by decide⟩) ?_
            exact ⟨_, rfl, (by first | exact ⟨by decide, by decide⟩ | omega)⟩
          · intro c13
            refine And.intro (And.intro (by first | exact fi_ (Int.le_trans (Int.le_refl _) (Int.le_of_eq c11.symm)) (Int.le_trans (Int.le_of_eq c11) (Int.le_refl _)) rfl | omega) (by first | exact ⟨by decide, by decide⟩ | omega)) (And.intro ?_ ?_)
            · intro c14
              refine And.intro (⟨by omega, by omega⟩) ?_
              exact ⟨_, rfl, by omega⟩
            · intro c15
              refine And.intro (And.intro (by first | exact fi_ lz1 uz1 rfl | omega) (by first | exact ⟨by decide, by decide⟩ | omega)) (And.intro ?_ ?_)
              · intro c16
                refine And.intro (⟨by omega, by omega⟩) ?_
                exact ⟨_, rfl, by omega⟩
              · intro c17
                refine And.intro (⟨by decide, by decide⟩) ?_
                exact ⟨_, rfl, (by first | exact ⟨by decide, by decide⟩ | omega)⟩
set_option maxRecDepth 8000 in
theorem ct_X_as_22830 {I : fH} {x1 : Int} {x2 : Int} (h0 : fB bsJ I) (ha1 : ((-2147483648) ≤ x1 ∧ x1 ≤ 2147483647)) (ha2 : ((-2147483648) ≤ x2 ∧ x2 ≤ 2147483647)) : fC ρ base n F xTc vwCl xTys D dA la gJ (fbz bsJ znJ (fKc []) I) xm_47 [.inr (.inr (some 0)), .inl x1, .inl x2] I (fun _ r => ∃ z, r = some (.inl z) ∧ ((-2147483648) ≤ z ∧ z ≤ 2147483647)) := by
  have hW : fzs [] (fKc []) := fKc_ok _
  refine f_meth (rb := rbJ) (J := []) 1 400 xG xin_47 x6_47 okJ (fB_self h0) ?_ ?_
  · exact fun q h => absurd h List.not_mem_nil
  · have hB0 := fB_self (zn := znJ) (K := fKc []) h0
    refine And.intro ⟨rfl, by decide, by decide⟩ ?_
    refine Exists.intro xm_45 (And.intro mi_45 (And.intro ⟨rfl, rfl, rfl, rfl⟩ (And.intro rfl ?_)))
    refine fcallp hB0 (ct_City_isWork_11526 (fBz h0 hB0) (by first | exact ⟨ha1.1, ha1.2⟩ | omega)) ?_
    rintro _ ⟨z1, rfl, hz1⟩
    refine And.intro (by omega) (And.intro ?_ ?_)
    · intro c2
      refine And.intro (True.intro) ?_
      exact ⟨_, rfl, (by first | exact ⟨by decide, by decide⟩ | omega)⟩
    · intro c3
      refine Exists.intro xm_13 (And.intro mi_13 (And.intro ⟨rfl, rfl, rfl, rfl⟩ (And.intro True.intro ?_)))
      refine fcallp hB0 (ct_X_within_c27b1 (fBz h0 hB0) (by first | exact ⟨ha2.1, ha2.2⟩ | omega) (by first | exact ⟨by decide, by decide⟩ | omega) (by first | exact ⟨by decide, by decide⟩ | omega)) ?_
      rintro _ ⟨z4, rfl, hz4⟩
      refine And.intro (by omega) (And.intro ?_ ?_)
      · intro c5
        refine And.intro ⟨rfl, by decide, by decide⟩ ?_
        refine And.intro ⟨rfl, by decide, by decide⟩ ?_
        refine Exists.intro xm_48 (And.intro mi_48 (And.intro ⟨rfl, rfl, rfl, rfl⟩ (And.intro rfl ?_)))
        refine fcallp hB0 (ct_Works_isOf_7baa9 (fBz h0 hB0) (by omega) (by first | exact ⟨Int.le_trans (by decide) (Int.le_trans (Int.le_refl _) hz4.1), Int.le_trans (Int.le_trans hz4.2 (Int.le_refl _)) (by decide)⟩ | omega)) ?_
        rintro _ ⟨z6, rfl, hz6⟩
        refine And.intro (by omega) (And.intro ?_ ?_)
        · intro c7
          refine And.intro (True.intro) ?_
          exact ⟨_, rfl, by omega⟩
        · intro c8
          refine And.intro ⟨rfl, by decide, by decide⟩ ?_
          refine And.intro ⟨rfl, by decide, by decide⟩ ?_
          refine And.intro ⟨rfl, by decide, by decide⟩ ?_
          refine fload rL_171_171_0_23_1_0 h0 hB0 (by omega) ?_
          intro z9 lz9 uz9 qz9
          refine And.intro (True.intro) ?_
          exact ⟨_, rfl, (by first | exact ⟨lz9, uz9⟩ | omega)⟩
      · intro c10
        refine And.intro (True.intro) ?_
        exact ⟨_, rfl, (by first | exact ⟨by decide, by decide⟩ | omega)⟩
abbrev jc_M_as_6573b_20 : Nat → fL → List fV → fH → Prop := fun m lv st I => lv = [] ∧ st = [] ∧ (True) ∧ m = (1 : Int).toNat
abbrev jc_M_as_6573b_48 : Nat → fL → List fV → fH → Prop := fun m lv st I => ∃ (y1 : Int) (y2 : Int) (y3 : Int), lv = [(0, .inr (.inr (some 740))), (1, .inl y1), (2, .inl y2), (3, .inl y3)] ∧ st = [] ∧ (((0 ≤ y1 ∧ y1 ≤ 23) ∧ (1 ≤ y2 ∧ y2 ≤ 6) ∧ ((-2147483648) ≤ y3 ∧ y3 ≤ 2147483647))) ∧ m = (4 : Int).toNat
abbrev jc_M_as_6573b_58 : Nat → fL → List fV → fH → Prop := fun m lv st I => ∃ (y1 : Int), lv = [(0, .inr (.inr (some 740))), (1, .inl y1)] ∧ st = [] ∧ (((0 ≤ y1 ∧ y1 ≤ 23))) ∧ m = (2 : Int).toNat
abbrev jc_M_as_6573b_62 : Nat → fL → List fV → fH → Prop := fun m lv st I => ∃ (y1 : Int), lv = [(0, .inr (.inr (some 740))), (1, .inl y1)] ∧ st = [] ∧ (((0 ≤ y1 ∧ y1 ≤ 23))) ∧ m = (3 : Int).toNat
set_option maxRecDepth 8000 in
theorem ct_M_as_6573b {I : fH} {x1 : Int} {x2 : Int} (h0 : fB bsJ I) (ha1 : ((-2147483648) ≤ x1 ∧ x1 ≤ 2147483647)) (ha2 : ((-2147483648) ≤ x2 ∧ x2 ≤ 2147483647)) : fC ρ base n F xTc vwCl xTys D dA la gJ (fbz bsJ znJ (fKc []) I) xm_270 [.inr (.inr (some 740)), .inl x1, .inl x2] I (fun _ r => ∃ z, r = some (.inl z) ∧ ((-2147483648) ≤ z ∧ z ≤ 2147483647)) := by
  have hW : fzs [] (fKc []) := fKc_ok _
  refine f_meth (rb := rbJ) (J := [(20, jc_M_as_6573b_20), (48, jc_M_as_6573b_48), (58, jc_M_as_6573b_58), (62, jc_M_as_6573b_62)]) 5 400 xG xin_270 x6_270 okJ (fB_self h0) ?_ ?_
  · refine List.forall_mem_cons.mpr ⟨?_, List.forall_mem_cons.mpr ⟨?_, List.forall_mem_cons.mpr ⟨?_, List.forall_mem_cons.mpr ⟨?_, fun q h => absurd h List.not_mem_nil⟩⟩⟩⟩
    · rintro m _ _ I1 hB1 ⟨rfl, rfl, hb, hm⟩
      refine And.intro (True.intro) ?_
      exact ⟨_, rfl, (by first | exact ⟨by decide, by decide⟩ | omega)⟩
    · rintro m _ _ I1 hB1 ⟨y1, y2, y3, rfl, rfl, hb, hm⟩
      refine And.intro (And.intro (by first | exact fi_ hb.2.1.1 hb.2.1.2 rfl | omega) (by first | exact ⟨by decide, by decide⟩ | omega)) (And.intro ?_ ?_)
      · intro c1
        exact fcutJ (I := I1) (j := jc_M_as_6573b_62) (lv' := [(0, .inr (.inr (some 740))), (1, .inl _)]) (And.intro rfl (And.intro rfl True.intro)) ⟨_, rfl, rfl, by omega, rfl⟩ (by omega)
      · intro c2
        refine And.intro (And.intro (by first | exact fi_ hb.2.2.1 hb.2.2.2 rfl | omega) (by first | exact ⟨by decide, by decide⟩ | omega)) (And.intro ?_ ?_)
        · intro c3
          exact fcutJ (I := I1) (j := jc_M_as_6573b_62) (lv' := [(0, .inr (.inr (some 740))), (1, .inl _)]) (And.intro rfl (And.intro rfl True.intro)) ⟨_, rfl, rfl, by omega, rfl⟩ (by omega)
        · intro c4
          exact fcutJ (I := I1) (j := jc_M_as_6573b_58) (lv' := [(0, .inr (.inr (some 740))), (1, .inl _)]) (And.intro rfl (And.intro rfl True.intro)) ⟨_, rfl, rfl, by omega, rfl⟩ (by omega)
    · rintro m _ _ I1 hB1 ⟨y1, rfl, rfl, hb, hm⟩
      refine And.intro (by first | exact ⟨by decide, by decide⟩ | omega) (And.intro ?_ ?_)
      · intro c5
        refine And.intro (True.intro) ?_
        exact ⟨_, rfl, by omega⟩
      · intro c6
        refine And.intro ⟨rfl, by decide, by decide⟩ ?_
        refine Exists.intro xm_244 (And.intro mi_244 (And.intro ⟨rfl, rfl, rfl, rfl⟩ (And.intro rfl ?_)))
        refine fcallp hB1 (ct_M_workAt_83d38 (fBz h0 hB1) (by first | exact ⟨hb.1, hb.2⟩ | omega)) ?_
        rintro _ ⟨_, rfl, rfl⟩
        refine fload rL_741_741_535_857_14_0 h0 hB1 (by omega) ?_
        intro z8 lz8 uz8 qz8
        refine And.intro (True.intro) ?_
        exact ⟨_, rfl, (by first | exact ⟨lz8, uz8⟩ | omega)⟩
    · rintro m _ _ I1 hB1 ⟨y1, rfl, rfl, hb, hm⟩
      refine And.intro (by omega) (And.intro ?_ ?_)
      · intro c9
        refine And.intro (True.intro) ?_
        exact ⟨_, rfl, by omega⟩
      · intro c10
        refine And.intro ⟨rfl, by decide, by decide⟩ ?_
        refine Exists.intro xm_244 (And.intro mi_244 (And.intro ⟨rfl, rfl, rfl, rfl⟩ (And.intro rfl ?_)))
        refine fcallp hB1 (ct_M_workAt_83d38 (fBz h0 hB1) (by first | exact ⟨hb.1, hb.2⟩ | omega)) ?_
        rintro _ ⟨_, rfl, rfl⟩
        refine fload rL_741_741_535_857_14_0 h0 hB1 (by omega) ?_
        intro z12 lz12 uz12 qz12
        refine And.intro (True.intro) ?_
        exact ⟨_, rfl, (by first | exact ⟨lz12, uz12⟩ | omega)⟩
  · have hB0 := fB_self (zn := znJ) (K := fKc []) h0
    refine Exists.intro xm_266 (And.intro mi_266 (And.intro ⟨rfl, rfl, rfl, rfl⟩ (And.intro rfl ?_)))
    refine fcallp hB0 (ct_M_isWork_a0fef (fBz h0 hB0) (by first | exact ⟨ha1.1, ha1.2⟩ | omega)) ?_
    rintro _ ⟨z13, rfl, hz13⟩
    refine And.intro (by omega) (And.intro ?_ ?_)
    · intro c14
      exact fcutJ (I := I) (j := jc_M_as_6573b_20) (lv' := []) (True.intro) ⟨rfl, rfl, True.intro, rfl⟩ (by omega)
    · intro c15
      refine And.intro (by first | exact fi_ ha2.1 ha2.2 rfl | omega) ?_
      refine Exists.intro xm_238 (And.intro mi_238 (And.intro ⟨rfl, rfl, rfl, rfl⟩ (And.intro True.intro ?_)))
      refine fcallp hB0 (ct_M_isIn_27230 (fBz h0 hB0) (by first | exact ⟨ha2.1, ha2.2⟩ | omega) (by first | exact ⟨by decide, by decide⟩ | omega) (by first | exact ⟨by decide, by decide⟩ | omega)) ?_
      rintro _ ⟨z16, rfl, hz16⟩
      refine And.intro (by omega) (And.intro ?_ ?_)
      · intro c17
        refine Exists.intro xm_267 (And.intro mi_267 (And.intro ⟨rfl, rfl, rfl, rfl⟩ (And.intro rfl ?_)))
        refine fcallp hB0 (ct_M_kindOf_31275 (fBz h0 hB0) (by omega)) ?_
        rintro _ ⟨z18, rfl, hz18, g0z18⟩
        refine And.intro (by first | exact fi_ (Int.le_trans (Int.le_refl _) hz16.1) (Int.le_trans hz16.2 (Int.le_refl _)) rfl | omega) (And.intro ?_ ?_)
        · intro c19
          exact fcutJ (I := I) (j := jc_M_as_6573b_58) (lv' := [(0, .inr (.inr (some 740))), (1, .inl _)]) (And.intro rfl (And.intro rfl True.intro)) ⟨_, rfl, rfl, by omega, rfl⟩ (by omega)
        · intro c20
          refine And.intro (And.intro (by first | exact fi_ (Int.le_trans (Int.le_refl _) hz16.1) (Int.le_trans hz16.2 (Int.le_refl _)) rfl | omega) (by first | exact fi_ hz18.1 hz18.2 rfl | omega)) (And.intro ?_ ?_)
          · intro c21
            exact fcutJ (I := I) (j := jc_M_as_6573b_58) (lv' := [(0, .inr (.inr (some 740))), (1, .inl _)]) (And.intro rfl (And.intro rfl True.intro)) ⟨_, rfl, rfl, by omega, rfl⟩ (by omega)
          · intro c22
            refine And.intro (And.intro (by first | exact fi_ (Int.le_trans (Int.le_refl _) hz16.1) (Int.le_trans hz16.2 (Int.le_refl _)) rfl | omega) (by first | exact ⟨by decide, by decide⟩ | omega)) (And.intro ?_ ?_)
            · intro c23
              exact fcutJ (I := I) (j := jc_M_as_6573b_48) (lv' := [(0, .inr (.inr (some 740))), (1, .inl _), (2, .inl _), (3, .inl _)]) (And.intro rfl (And.intro rfl (And.intro rfl (And.intro rfl True.intro)))) ⟨_, _, _, rfl, rfl, by omega, rfl⟩ (by omega)
            · intro c24
              refine And.intro (And.intro (by first | exact fi_ hz18.1 hz18.2 rfl | omega) (by first | exact ⟨by decide, by decide⟩ | omega)) (And.intro ?_ ?_)
              · intro c25
                exact fcutJ (I := I) (j := jc_M_as_6573b_58) (lv' := [(0, .inr (.inr (some 740))), (1, .inl _)]) (And.intro rfl (And.intro rfl True.intro)) ⟨_, rfl, rfl, by omega, rfl⟩ (by omega)
              · intro c26
                exact fcutJ (I := I) (j := jc_M_as_6573b_48) (lv' := [(0, .inr (.inr (some 740))), (1, .inl _), (2, .inl _), (3, .inl _)]) (And.intro rfl (And.intro rfl (And.intro rfl (And.intro rfl True.intro)))) ⟨_, _, _, rfl, rfl, by omega, rfl⟩ (by omega)
      · intro c27
        exact fcutJ (I := I) (j := jc_M_as_6573b_20) (lv' := []) (True.intro) ⟨rfl, rfl, True.intro, rfl⟩ (by omega)
set_option maxRecDepth 8000 in
theorem ct_Works_isGone_6681e {I : fH} {x1 : Int} (h0 : fB bsJ I) (ha1 : (0 ≤ x1 ∧ x1 ≤ 23)) : fC ρ base n F xTc vwCl xTys D dA la gJ (fbz bsJ znJ (fKc []) I) xm_50 [.inr (.inr (some 163)), .inl x1] I (fun _ r => ∃ z, r = some (.inl z) ∧ (0 ≤ z ∧ z ≤ 1)) := by
  have hW : fzs [] (fKc []) := fKc_ok _
  refine f_meth (rb := rbJ) (J := []) 1 400 xG xin_50 x6_50 okJ (fB_self h0) ?_ ?_
  · exact fun q h => absurd h List.not_mem_nil
  · have hB0 := fB_self (zn := znJ) (K := fKc []) h0
    refine And.intro ⟨rfl, by decide, by decide⟩ ?_
    refine fload1 rL_174_174_0_23_1_0 h0 hB0 ⟨by decide, by decide⟩ (by first | exact ⟨ha1.1, ha1.2⟩ | omega) ?_
    intro z1 lz1 uz1 qz1
    refine And.intro (And.intro (by first | exact fi_ lz1 uz1 rfl | omega) (by first | exact ⟨by decide, by decide⟩ | omega)) (And.intro ?_ ?_)
    · intro c2
      refine And.intro (⟨by omega, by omega⟩) ?_
      exact ⟨_, rfl, by omega⟩
    · intro c3
      refine And.intro (⟨by decide, by decide⟩) ?_
      exact ⟨_, rfl, (by first | exact ⟨by decide, by decide⟩ | omega)⟩
set_option maxRecDepth 8000 in
theorem ct_X_swap_f56fb {I : fH} {x1 : Int} {x2 : Int} (h0 : fB bsJ I) (ha1 : (0 ≤ x1 ∧ x1 ≤ 23)) (ha2 : ((-2147483648) ≤ x2 ∧ x2 ≤ 2147483647)) : fC ρ base n F xTc vwCl xTys D dA la gJ (fbz bsJ znJ (fKc wz_31db8) I) xm_18 [.inr (.inr (some 167)), .inl x1, .inl x2] I (fun I' r => ∃ z, r = some (.inl z) ∧ ((-2147483648) ≤ z ∧ z ≤ 2147483647) ∧ (I' = fupd I 167 x1.toNat x2) ∧ (z = I 167 x1.toNat)) := by
  have hW : fzs wz_31db8 (fKc wz_31db8) := fKc_ok _
  refine f_meth (rb := rbJ) (J := []) 1 400 xG xin_18 x6_18 okJ (fB_self h0) ?_ ?_
  · exact fun q h => absurd h List.not_mem_nil
  · have hB0 := fB_self (zn := znJ) (K := fKc wz_31db8) h0
    refine fload1 rL_167_167_0_23_1_0 h0 hB0 ⟨by decide, by decide⟩ (by first | exact ⟨ha1.1, ha1.2⟩ | omega) ?_
    intro z1 lz1 uz1 qz1
    refine fstore1 rS_167_167_0_23_1_0 (fzs_sub (by decide +kernel) hW) ⟨by decide, by decide⟩ (by first | exact ⟨ha1.1, ha1.2⟩ | omega) (by first | exact ⟨ha2.1, ha2.2⟩ | omega) ?_
    intro IhB2 ehB2 hB2
    have t3 := fup_self ehB2
    refine And.intro (True.intro) ?_
    exact ⟨_, rfl, (by first | exact ⟨lz1, uz1⟩ | omega), ehB2, qz1⟩
set_option maxRecDepth 8000 in
theorem ct_X_swap_fc3ce {I : fH} {x1 : Int} {x2 : Int} (h0 : fB bsJ I) (ha1 : (0 ≤ x1 ∧ x1 ≤ 23)) (ha2 : ((-2147483648) ≤ x2 ∧ x2 ≤ 2147483647)) : fC ρ base n F xTc vwCl xTys D dA la gJ (fbz bsJ znJ (fKc wz_b92a7) I) xm_18 [.inr (.inr (some 169)), .inl x1, .inl x2] I (fun I' r => ∃ z, r = some (.inl z) ∧ ((-2147483648) ≤ z ∧ z ≤ 2147483647) ∧ (I' = fupd I 169 x1.toNat x2) ∧ (z = I 169 x1.toNat)) := by
  have hW : fzs wz_b92a7 (fKc wz_b92a7) := fKc_ok _
  refine f_meth (rb := rbJ) (J := []) 1 400 xG xin_18 x6_18 okJ (fB_self h0) ?_ ?_
  · exact fun q h => absurd h List.not_mem_nil
  · have hB0 := fB_self (zn := znJ) (K := fKc wz_b92a7) h0
    refine fload1 rL_169_169_0_23_1_0 h0 hB0 ⟨by decide, by decide⟩ (by first | exact ⟨ha1.1, ha1.2⟩ | omega) ?_
    intro z1 lz1 uz1 qz1
    refine fstore1 rS_169_169_0_23_1_0 (fzs_sub (by decide +kernel) hW) ⟨by decide, by decide⟩ (by first | exact ⟨ha1.1, ha1.2⟩ | omega) (by first | exact ⟨ha2.1, ha2.2⟩ | omega) ?_
    intro IhB2 ehB2 hB2
    have t3 := fup_self ehB2
    refine And.intro (True.intro) ?_
    exact ⟨_, rfl, (by first | exact ⟨lz1, uz1⟩ | omega), ehB2, qz1⟩
set_option maxRecDepth 8000 in
theorem ct_X_tune_a06cc {I : fH} {x1 : Int} {x2 : Int} {x3 : Int} (h0 : fB bsJ I) (ha1 : ((-2147483648) ≤ x1 ∧ x1 ≤ 2147483647)) (ha2 : ((-2147483648) ≤ x2 ∧ x2 ≤ 2147483647)) (ha3 : ((-2147483648) ≤ x3 ∧ x3 ≤ 2147483647)) : fC ρ base n F xTc vwCl xTys D dA la gJ (fbz bsJ znJ (fKc wz_451e1) I) xm_49 [.inr (.inr (some 0)), .inl x1, .inl x2, .inl x3] I (fun _ r => ∃ z, r = some (.inl z) ∧ ((-2147483648) ≤ z ∧ z ≤ 2147483647)) := by
  have hW : fzs wz_451e1 (fKc wz_451e1) := fKc_ok _
  refine f_meth (rb := rbJ) (J := []) 1 400 xG xin_49 x6_49 okJ (fB_self h0) ?_ ?_
  · exact fun q h => absurd h List.not_mem_nil
  · have hB0 := fB_self (zn := znJ) (K := fKc wz_451e1) h0
    refine And.intro ⟨rfl, by decide, by decide⟩ ?_
    refine Exists.intro xm_45 (And.intro mi_45 (And.intro ⟨rfl, rfl, rfl, rfl⟩ (And.intro rfl ?_)))
    refine fcallp hB0 (ct_City_isWork_11526 (fBz h0 hB0) (by first | exact ⟨ha1.1, ha1.2⟩ | omega)) ?_
    rintro _ ⟨z1, rfl, hz1⟩
    refine And.intro (by omega) (And.intro ?_ ?_)
    · intro c2
      refine And.intro (True.intro) ?_
      exact ⟨_, rfl, (by first | exact ⟨by decide, by decide⟩ | omega)⟩
    · intro c3
      refine Exists.intro xm_13 (And.intro mi_13 (And.intro ⟨rfl, rfl, rfl, rfl⟩ (And.intro True.intro ?_)))
      refine fcallp hB0 (ct_X_within_c27b1 (fBz h0 hB0) (by first | exact ⟨ha2.1, ha2.2⟩ | omega) (by first | exact ⟨by decide, by decide⟩ | omega) (by first | exact ⟨by decide, by decide⟩ | omega)) ?_
      rintro _ ⟨z4, rfl, hz4⟩
      refine And.intro (by omega) (And.intro ?_ ?_)
      · intro c5
        refine And.intro (True.intro) ?_
        exact ⟨_, rfl, (by first | exact ⟨by decide, by decide⟩ | omega)⟩
      · intro c6
        refine And.intro (by first | exact fi_ (Int.le_trans (Int.le_refl _) hz4.1) (Int.le_trans hz4.2 (Int.le_refl _)) rfl | omega) (And.intro ?_ ?_)
        · intro c7
          refine Exists.intro xm_13 (And.intro mi_13 (And.intro ⟨rfl, rfl, rfl, rfl⟩ (And.intro True.intro ?_)))
          refine fcallp hB0 (ct_X_within_c27b1 (fBz h0 hB0) (by first | exact ⟨ha3.1, ha3.2⟩ | omega) (by first | exact ⟨by decide, by decide⟩ | omega) (by omega)) ?_
          rintro _ ⟨z8, rfl, hz8⟩
          refine And.intro (by omega) (And.intro ?_ ?_)
          · intro c9
            refine And.intro ⟨rfl, by decide, by decide⟩ ?_
            refine And.intro ⟨rfl, by decide, by decide⟩ ?_
            refine Exists.intro xm_50 (And.intro mi_50 (And.intro ⟨rfl, rfl, rfl, rfl⟩ (And.intro rfl ?_)))
            refine fcallp hB0 (ct_Works_isGone_6681e (fBz h0 hB0) (by omega)) ?_
            rintro _ ⟨z10, rfl, hz10⟩
            refine And.intro (by omega) (And.intro ?_ ?_)
            · intro c11
              refine And.intro (by first | exact fi_ (Int.le_trans (Int.le_refl _) hz4.1) (Int.le_trans hz4.2 (Int.le_refl _)) rfl | omega) (And.intro ?_ ?_)
              · intro c12
                refine And.intro ⟨rfl, by decide, by decide⟩ ?_
                refine And.intro ⟨rfl, by decide, by decide⟩ ?_
                refine And.intro ⟨rfl, by decide, by decide⟩ ?_
                refine Exists.intro xm_18 (And.intro mi_18 (And.intro ⟨rfl, rfl, rfl, rfl⟩ (And.intro True.intro ?_)))
                refine fcall _ h0 (fzs_sub (by decide +kernel) hW) hB0 (ct_X_swap_fc3ce (fBz h0 hB0) (by omega) (by first | exact ⟨Int.le_trans (by decide) (Int.le_trans (Int.le_refl _) hz8.1), ha3.2⟩ | omega)) ?_
                rintro IhB14 _ hB14 fhB14 ⟨z13, rfl, hz13, g0z13, g1z13⟩
                refine And.intro (True.intro) ?_
                exact ⟨_, rfl, (by first | exact ⟨hz13.1, hz13.2⟩ | omega)⟩
              · intro c15
                refine And.intro ⟨rfl, by decide, by decide⟩ ?_
                refine And.intro ⟨rfl, by decide, by decide⟩ ?_
                refine And.intro ⟨rfl, by decide, by decide⟩ ?_
                refine Exists.intro xm_18 (And.intro mi_18 (And.intro ⟨rfl, rfl, rfl, rfl⟩ (And.intro True.intro ?_)))
                refine fcall _ h0 (fzs_sub (by decide +kernel) hW) hB0 (ct_X_swap_f56fb (fBz h0 hB0) (by omega) (by first | exact ⟨Int.le_trans (by decide) (Int.le_trans (Int.le_refl _) hz8.1), ha3.2⟩ | omega)) ?_
                rintro IhB17 _ hB17 fhB17 ⟨z16, rfl, hz16, g0z16, g1z16⟩
                refine And.intro (True.intro) ?_
                exact ⟨_, rfl, (by first | exact ⟨hz16.1, hz16.2⟩ | omega)⟩
            · intro c18
              refine And.intro (True.intro) ?_
              exact ⟨_, rfl, (by first | exact ⟨by decide, by decide⟩ | omega)⟩
          · intro c19
            refine And.intro (True.intro) ?_
            exact ⟨_, rfl, (by first | exact ⟨by decide, by decide⟩ | omega)⟩
        · intro c20
          refine Exists.intro xm_13 (And.intro mi_13 (And.intro ⟨rfl, rfl, rfl, rfl⟩ (And.intro True.intro ?_)))
          refine fcallp hB0 (ct_X_within_c27b1 (fBz h0 hB0) (by first | exact ⟨ha3.1, ha3.2⟩ | omega) (by first | exact ⟨by decide, by decide⟩ | omega) (by first | exact ⟨by decide, by decide⟩ | omega)) ?_
          rintro _ ⟨z21, rfl, hz21⟩
          refine And.intro (by omega) (And.intro ?_ ?_)
          · intro c22
            refine And.intro ⟨rfl, by decide, by decide⟩ ?_
            refine And.intro ⟨rfl, by decide, by decide⟩ ?_
            refine Exists.intro xm_50 (And.intro mi_50 (And.intro ⟨rfl, rfl, rfl, rfl⟩ (And.intro rfl ?_)))
            refine fcallp hB0 (ct_Works_isGone_6681e (fBz h0 hB0) (by omega)) ?_
            rintro _ ⟨z23, rfl, hz23⟩
            refine And.intro (by omega) (And.intro ?_ ?_)
            · intro c24
              refine And.intro (by first | exact fi_ (Int.le_trans (Int.le_refl _) hz4.1) (Int.le_trans (Int.le_of_eq c20) (Int.le_refl _)) rfl | omega) (And.intro ?_ ?_)
              · intro c25
                refine And.intro ⟨rfl, by decide, by decide⟩ ?_
                refine And.intro ⟨rfl, by decide, by decide⟩ ?_
                refine And.intro ⟨rfl, by decide, by decide⟩ ?_
                refine Exists.intro xm_18 (And.intro mi_18 (And.intro ⟨rfl, rfl, rfl, rfl⟩ (And.intro True.intro ?_)))
                refine fcall _ h0 (fzs_sub (by decide +kernel) hW) hB0 (ct_X_swap_fc3ce (fBz h0 hB0) (by omega) (by first | exact ⟨Int.le_trans (by decide) (Int.le_trans (Int.le_refl _) hz21.1), Int.le_trans (Int.le_trans hz21.2 (Int.le_refl _)) (by decide)⟩ | omega)) ?_
                rintro IhB27 _ hB27 fhB27 ⟨z26, rfl, hz26, g0z26, g1z26⟩
                refine And.intro (True.intro) ?_
                exact ⟨_, rfl, (by first | exact ⟨hz26.1, hz26.2⟩ | omega)⟩
              · intro c28
                refine And.intro ⟨rfl, by decide, by decide⟩ ?_
                refine And.intro ⟨rfl, by decide, by decide⟩ ?_
                refine And.intro ⟨rfl, by decide, by decide⟩ ?_
                refine Exists.intro xm_18 (And.intro mi_18 (And.intro ⟨rfl, rfl, rfl, rfl⟩ (And.intro True.intro ?_)))
                refine fcall _ h0 (fzs_sub (by decide +kernel) hW) hB0 (ct_X_swap_f56fb (fBz h0 hB0) (by omega) (by first | exact ⟨Int.le_trans (by decide) (Int.le_trans (Int.le_refl _) hz21.1), Int.le_trans (Int.le_trans hz21.2 (Int.le_refl _)) (by decide)⟩ | omega)) ?_
                rintro IhB30 _ hB30 fhB30 ⟨z29, rfl, hz29, g0z29, g1z29⟩
                refine And.intro (True.intro) ?_
                exact ⟨_, rfl, (by first | exact ⟨hz29.1, hz29.2⟩ | omega)⟩
            · intro c31
              refine And.intro (True.intro) ?_
              exact ⟨_, rfl, (by first | exact ⟨by decide, by decide⟩ | omega)⟩
          · intro c32
            refine And.intro (True.intro) ?_
            exact ⟨_, rfl, (by first | exact ⟨by decide, by decide⟩ | omega)⟩
theorem ct_M_put_649af {I : fH} {x1 x2 : Int} (h0 : fB bsJ I) (ha1 : 533 ≤ x1 ∧ x1 ≤ 863) (ha2 : -2147483648 ≤ x2 ∧ x2 ≤ 2147483647) (hp0 : ((x1 - 530) % 14 = 3 ∧ (-2147483648) ≤ x2 ∧ x2 ≤ 2147483647) ∨ ((x1 - 530) % 14 = 11 ∧ (-2147483648) ≤ x2 ∧ x2 ≤ 2147483647)) : fC ρ base n F xTc vwCl xTys D dA la gJ (fbz bsJ znJ (fKc wz_4cdea) I) xm_242 [.inr (.inr (some 740)), .inl x1, .inl x2] I (fun I' r => ∃ z, r = some (.inl z) ∧ (-2147483648 ≤ z ∧ z ≤ 2147483647) ∧ (I' = fupd I 741 x1.toNat x2) ∧ (z = I 741 x1.toNat)) := by
  have hq : znJ 741 x1.toNat ∈ wz_4cdea ∧ (bsJ 741 x1.toNat).1 ≤ x2 ∧ x2 ≤ (bsJ 741 x1.toNat).2 := by
    rcases hp0 with hp0 | hp0
    · exact (frS_at rS_741_741_533_855_14_0 (by decide +kernel) (by omega) (by omega)).2
    · exact (frS_at rS_741_741_541_863_14_0 (by decide +kernel) (by omega) (by omega)).2
  refine fC_mono (ct_put h0 (by omega) hq.1 hq.2) (fun I' r _ q => ?_)
  obtain ⟨z, e, e2, e3⟩ := q
  have h3 := (frL_at rL_741_741_0_4899_1_0 h0 (a := 741) (i := x1) (by omega)).2
  exact ⟨z, e, by omega, e3, e2⟩
set_option maxRecDepth 8000 in
theorem ct_M_tune_14fd5 {I : fH} {x1 : Int} {x2 : Int} {x3 : Int} (h0 : fB bsJ I) (ha1 : ((-2147483648) ≤ x1 ∧ x1 ≤ 2147483647)) (ha2 : ((-2147483648) ≤ x2 ∧ x2 ≤ 2147483647)) (ha3 : ((-2147483648) ≤ x3 ∧ x3 ≤ 2147483647)) : fC ρ base n F xTc vwCl xTys D dA la gJ (fbz bsJ znJ (fKc wz_4cdea) I) xm_271 [.inr (.inr (some 740)), .inl x1, .inl x2, .inl x3] I (fun _ r => ∃ z, r = some (.inl z) ∧ ((-2147483648) ≤ z ∧ z ≤ 2147483647)) := by
  have hW : fzs wz_4cdea (fKc wz_4cdea) := fKc_ok _
  refine f_meth (rb := rbJ) (J := []) 1 400 xG xin_271 x6_271 okJ (fB_self h0) ?_ ?_
  · exact fun q h => absurd h List.not_mem_nil
  · have hB0 := fB_self (zn := znJ) (K := fKc wz_4cdea) h0
    refine Exists.intro xm_266 (And.intro mi_266 (And.intro ⟨rfl, rfl, rfl, rfl⟩ (And.intro rfl ?_)))
    refine fcallp hB0 (ct_M_isWork_a0fef (fBz h0 hB0) (by first | exact ⟨ha1.1, ha1.2⟩ | omega)) ?_
    rintro _ ⟨z1, rfl, hz1⟩
    refine And.intro (by omega) (And.intro ?_ ?_)
    · intro c2
      refine And.intro (True.intro) ?_
      exact ⟨_, rfl, (by first | exact ⟨by decide, by decide⟩ | omega)⟩
    · intro c3
      refine And.intro (by first | exact fi_ ha2.1 ha2.2 rfl | omega) ?_
      refine Exists.intro xm_238 (And.intro mi_238 (And.intro ⟨rfl, rfl, rfl, rfl⟩ (And.intro True.intro ?_)))
      refine fcallp hB0 (ct_M_isIn_27230 (fBz h0 hB0) (by first | exact ⟨ha2.1, ha2.2⟩ | omega) (by first | exact ⟨by decide, by decide⟩ | omega) (by first | exact ⟨by decide, by decide⟩ | omega)) ?_
      rintro _ ⟨z4, rfl, hz4⟩
      refine And.intro (by omega) (And.intro ?_ ?_)
      · intro c5
        refine And.intro (True.intro) ?_
        exact ⟨_, rfl, (by first | exact ⟨by decide, by decide⟩ | omega)⟩
      · intro c6
        refine And.intro (by first | exact fi_ ha3.1 ha3.2 rfl | omega) ?_
        refine And.intro (by first | exact fi_ (Int.le_trans (Int.le_refl _) hz4.1) (Int.le_trans hz4.2 (Int.le_refl _)) rfl | omega) (And.intro ?_ ?_)
        · intro c7
          refine Exists.intro xm_238 (And.intro mi_238 (And.intro ⟨rfl, rfl, rfl, rfl⟩ (And.intro True.intro ?_)))
          refine fcallp hB0 (ct_M_isIn_27230 (fBz h0 hB0) (by first | exact ⟨ha3.1, ha3.2⟩ | omega) (by first | exact ⟨by decide, by decide⟩ | omega) (by omega)) ?_
          rintro _ ⟨z8, rfl, hz8⟩
          refine And.intro (by omega) (And.intro ?_ ?_)
          · intro c9
            refine Exists.intro xm_245 (And.intro mi_245 (And.intro ⟨rfl, rfl, rfl, rfl⟩ (And.intro rfl ?_)))
            refine fcallp hB0 (ct_M_isGone_0de37 (fBz h0 hB0) (by omega)) ?_
            rintro _ ⟨z10, rfl, hz10⟩
            refine And.intro (by omega) (And.intro ?_ ?_)
            · intro c11
              refine Exists.intro xm_244 (And.intro mi_244 (And.intro ⟨rfl, rfl, rfl, rfl⟩ (And.intro rfl ?_)))
              refine fcallp hB0 (ct_M_workAt_83d38 (fBz h0 hB0) (by omega)) ?_
              rintro _ ⟨_, rfl, rfl⟩
              refine And.intro (by first | exact fi_ (Int.le_trans (Int.le_refl _) hz4.1) (Int.le_trans hz4.2 (Int.le_refl _)) rfl | omega) (And.intro ?_ ?_)
              · intro c13
                refine Exists.intro xm_242 (And.intro mi_242 (And.intro ⟨rfl, rfl, rfl, rfl⟩ (And.intro rfl ?_)))
                refine fcall _ h0 (fzs_sub (by decide +kernel) hW) hB0 (ct_M_put_649af (fBz h0 hB0) (by omega) (by first | exact ⟨Int.le_trans (by decide) (Int.le_trans (Int.le_refl _) hz8.1), ha3.2⟩ | omega) (by omega)) ?_
                rintro IhB15 _ hB15 fhB15 ⟨z14, rfl, hz14, g0z14, g1z14⟩
                refine And.intro (True.intro) ?_
                exact ⟨_, rfl, (by first | exact ⟨hz14.1, hz14.2⟩ | omega)⟩
              · intro c16
                refine Exists.intro xm_242 (And.intro mi_242 (And.intro ⟨rfl, rfl, rfl, rfl⟩ (And.intro rfl ?_)))
                refine fcall _ h0 (fzs_sub (by decide +kernel) hW) hB0 (ct_M_put_649af (fBz h0 hB0) (by omega) (by first | exact ⟨Int.le_trans (by decide) (Int.le_trans (Int.le_refl _) hz8.1), ha3.2⟩ | omega) (by omega)) ?_
                rintro IhB18 _ hB18 fhB18 ⟨z17, rfl, hz17, g0z17, g1z17⟩
                refine And.intro (True.intro) ?_
                exact ⟨_, rfl, (by first | exact ⟨hz17.1, hz17.2⟩ | omega)⟩
            · intro c19
              refine And.intro (True.intro) ?_
              exact ⟨_, rfl, (by first | exact ⟨by decide, by decide⟩ | omega)⟩
          · intro c20
            refine And.intro (True.intro) ?_
            exact ⟨_, rfl, (by first | exact ⟨by decide, by decide⟩ | omega)⟩
        · intro c21
          refine Exists.intro xm_238 (And.intro mi_238 (And.intro ⟨rfl, rfl, rfl, rfl⟩ (And.intro True.intro ?_)))
          refine fcallp hB0 (ct_M_isIn_27230 (fBz h0 hB0) (by first | exact ⟨ha3.1, ha3.2⟩ | omega) (by first | exact ⟨by decide, by decide⟩ | omega) (by first | exact ⟨by decide, by decide⟩ | omega)) ?_
          rintro _ ⟨z22, rfl, hz22⟩
          refine And.intro (by omega) (And.intro ?_ ?_)
          · intro c23
            refine Exists.intro xm_245 (And.intro mi_245 (And.intro ⟨rfl, rfl, rfl, rfl⟩ (And.intro rfl ?_)))
            refine fcallp hB0 (ct_M_isGone_0de37 (fBz h0 hB0) (by omega)) ?_
            rintro _ ⟨z24, rfl, hz24⟩
            refine And.intro (by omega) (And.intro ?_ ?_)
            · intro c25
              refine Exists.intro xm_244 (And.intro mi_244 (And.intro ⟨rfl, rfl, rfl, rfl⟩ (And.intro rfl ?_)))
              refine fcallp hB0 (ct_M_workAt_83d38 (fBz h0 hB0) (by omega)) ?_
              rintro _ ⟨_, rfl, rfl⟩
              refine And.intro (by first | exact fi_ (Int.le_trans (Int.le_refl _) hz4.1) (Int.le_trans (Int.le_of_eq c21) (Int.le_refl _)) rfl | omega) (And.intro ?_ ?_)
              · intro c27
                refine Exists.intro xm_242 (And.intro mi_242 (And.intro ⟨rfl, rfl, rfl, rfl⟩ (And.intro rfl ?_)))
                refine fcall _ h0 (fzs_sub (by decide +kernel) hW) hB0 (ct_M_put_649af (fBz h0 hB0) (by omega) (by first | exact ⟨Int.le_trans (by decide) (Int.le_trans (Int.le_refl _) hz22.1), Int.le_trans (Int.le_trans hz22.2 (Int.le_refl _)) (by decide)⟩ | omega) (by omega)) ?_
                rintro IhB29 _ hB29 fhB29 ⟨z28, rfl, hz28, g0z28, g1z28⟩
                refine And.intro (True.intro) ?_
                exact ⟨_, rfl, (by first | exact ⟨hz28.1, hz28.2⟩ | omega)⟩
              · intro c30
                refine Exists.intro xm_242 (And.intro mi_242 (And.intro ⟨rfl, rfl, rfl, rfl⟩ (And.intro rfl ?_)))
                refine fcall _ h0 (fzs_sub (by decide +kernel) hW) hB0 (ct_M_put_649af (fBz h0 hB0) (by omega) (by first | exact ⟨Int.le_trans (by decide) (Int.le_trans (Int.le_refl _) hz22.1), Int.le_trans (Int.le_trans hz22.2 (Int.le_refl _)) (by decide)⟩ | omega) (by omega)) ?_
                rintro IhB32 _ hB32 fhB32 ⟨z31, rfl, hz31, g0z31, g1z31⟩
                refine And.intro (True.intro) ?_
                exact ⟨_, rfl, (by first | exact ⟨hz31.1, hz31.2⟩ | omega)⟩
            · intro c33
              refine And.intro (True.intro) ?_
              exact ⟨_, rfl, (by first | exact ⟨by decide, by decide⟩ | omega)⟩
          · intro c34
            refine And.intro (True.intro) ?_
            exact ⟨_, rfl, (by first | exact ⟨by decide, by decide⟩ | omega)⟩
set_option maxRecDepth 8000 in
theorem ct_X_swap_4d491 {I : fH} {x1 : Int} {x2 : Int} (h0 : fB bsJ I) (ha1 : (0 ≤ x1 ∧ x1 ≤ 23)) (ha2 : (0 ≤ x2 ∧ x2 ≤ 0)) : fC ρ base n F xTc vwCl xTys D dA la gJ (fbz bsJ znJ (fKc wz_5fd86) I) xm_18 [.inr (.inr (some 168)), .inl x1, .inl x2] I (fun I' r => ∃ z, r = some (.inl z) ∧ ((-2147483648) ≤ z ∧ z ≤ 2147483647) ∧ (I' = fupd I 168 x1.toNat x2) ∧ (z = I 168 x1.toNat)) := by
  have hW : fzs wz_5fd86 (fKc wz_5fd86) := fKc_ok _
  refine f_meth (rb := rbJ) (J := []) 1 400 xG xin_18 x6_18 okJ (fB_self h0) ?_ ?_
  · exact fun q h => absurd h List.not_mem_nil
  · have hB0 := fB_self (zn := znJ) (K := fKc wz_5fd86) h0
    refine fload1 rL_168_168_0_23_1_0 h0 hB0 ⟨by decide, by decide⟩ (by first | exact ⟨ha1.1, ha1.2⟩ | omega) ?_
    intro z1 lz1 uz1 qz1
    refine fstore1 rS_168_168_0_23_1_0 (fzs_sub (by decide +kernel) hW) ⟨by decide, by decide⟩ (by first | exact ⟨ha1.1, ha1.2⟩ | omega) (by first | exact ⟨Int.le_trans (by decide) ha2.1, Int.le_trans ha2.2 (by decide)⟩ | omega) ?_
    intro IhB2 ehB2 hB2
    have t3 := fup_self ehB2
    refine And.intro (True.intro) ?_
    exact ⟨_, rfl, (by first | exact ⟨lz1, uz1⟩ | omega), ehB2, qz1⟩
set_option maxRecDepth 8000 in
theorem ct_X_clean_d14e5 {I : fH} {x1 : Int} (h0 : fB bsJ I) (ha1 : ((-2147483648) ≤ x1 ∧ x1 ≤ 2147483647)) : fC ρ base n F xTc vwCl xTys D dA la gJ (fbz bsJ znJ (fKc wz_5fd86) I) xm_51 [.inr (.inr (some 0)), .inl x1] I (fun _ r => ∃ z, r = some (.inl z) ∧ ((-2147483648) ≤ z ∧ z ≤ 2147483647)) := by
  have hW : fzs wz_5fd86 (fKc wz_5fd86) := fKc_ok _
  refine f_meth (rb := rbJ) (J := []) 1 400 xG xin_51 x6_51 okJ (fB_self h0) ?_ ?_
  · exact fun q h => absurd h List.not_mem_nil
  · have hB0 := fB_self (zn := znJ) (K := fKc wz_5fd86) h0
    refine And.intro ⟨rfl, by decide, by decide⟩ ?_
    refine Exists.intro xm_45 (And.intro mi_45 (And.intro ⟨rfl, rfl, rfl, rfl⟩ (And.intro rfl ?_)))
    refine fcallp hB0 (ct_City_isWork_11526 (fBz h0 hB0) (by first | exact ⟨ha1.1, ha1.2⟩ | omega)) ?_
    rintro _ ⟨z1, rfl, hz1⟩
    refine And.intro (by omega) (And.intro ?_ ?_)
    · intro c2
      refine And.intro ⟨rfl, by decide, by decide⟩ ?_
      refine And.intro ⟨rfl, by decide, by decide⟩ ?_
      refine Exists.intro xm_50 (And.intro mi_50 (And.intro ⟨rfl, rfl, rfl, rfl⟩ (And.intro rfl ?_)))
      refine fcallp hB0 (ct_Works_isGone_6681e (fBz h0 hB0) (by omega)) ?_
      rintro _ ⟨z3, rfl, hz3⟩
      refine And.intro (by omega) (And.intro ?_ ?_)
      · intro c4
        refine And.intro ⟨rfl, by decide, by decide⟩ ?_
        refine And.intro ⟨rfl, by decide, by decide⟩ ?_
        refine And.intro ⟨rfl, by decide, by decide⟩ ?_
        refine Exists.intro xm_18 (And.intro mi_18 (And.intro ⟨rfl, rfl, rfl, rfl⟩ (And.intro True.intro ?_)))
        refine fcall _ h0 (fzs_sub (by decide +kernel) hW) hB0 (ct_X_swap_4d491 (fBz h0 hB0) (by omega) (by first | exact ⟨by decide, by decide⟩ | omega)) ?_
        rintro IhB6 _ hB6 fhB6 ⟨z5, rfl, hz5, g0z5, g1z5⟩
        refine And.intro (True.intro) ?_
        exact ⟨_, rfl, (by first | exact ⟨hz5.1, hz5.2⟩ | omega)⟩
      · intro c7
        refine And.intro (True.intro) ?_
        exact ⟨_, rfl, (by first | exact ⟨by decide, by decide⟩ | omega)⟩
    · intro c8
      refine And.intro (True.intro) ?_
      exact ⟨_, rfl, (by first | exact ⟨by decide, by decide⟩ | omega)⟩
set_option maxRecDepth 8000 in
theorem ct_M_put_d2826 {I : fH} {x1 : Int} {x2 : Int} (h0 : fB bsJ I) (ha1 : ((534 ≤ x1 ∧ x1 ≤ 856) ∧ (x1 - 534) % 14 ≤ 0)) (ha2 : (0 ≤ x2 ∧ x2 ≤ 0)) : fC ρ base n F xTc vwCl xTys D dA la gJ (fbz bsJ znJ (fKc wz_38a0a) I) xm_242 [.inr (.inr (some 740)), .inl x1, .inl x2] I (fun I' r => ∃ z, r = some (.inl z) ∧ ((-2147483648) ≤ z ∧ z ≤ 2147483647) ∧ (I' = fupd I 741 x1.toNat x2) ∧ (z = I 741 x1.toNat)) := by
  have hW : fzs wz_38a0a (fKc wz_38a0a) := fKc_ok _
  refine f_meth (rb := rbJ) (J := []) 1 400 xG xin_242 x6_242 okJ (fB_self h0) ?_ ?_
  · exact fun q h => absurd h List.not_mem_nil
  · have hB0 := fB_self (zn := znJ) (K := fKc wz_38a0a) h0
    refine And.intro ⟨rfl, by decide, by decide⟩ ?_
    refine fload rL_741_741_534_856_14_0 h0 hB0 (by omega) ?_
    intro z1 lz1 uz1 qz1
    refine And.intro ⟨rfl, by decide, by decide⟩ ?_
    refine fstore rS_741_741_534_856_14_0 (fzs_sub (by decide +kernel) hW) (by omega) (by first | exact ⟨Int.le_trans (by decide) ha2.1, Int.le_trans ha2.2 (by decide)⟩ | omega) ?_
    intro IhB2 ehB2 hB2
    have t3 := fup_self ehB2
    refine And.intro (True.intro) ?_
    exact ⟨_, rfl, (by first | exact ⟨lz1, uz1⟩ | omega), ehB2, qz1⟩
set_option maxRecDepth 8000 in
theorem ct_M_clean_8ba19 {I : fH} {x1 : Int} (h0 : fB bsJ I) (ha1 : ((-2147483648) ≤ x1 ∧ x1 ≤ 2147483647)) : fC ρ base n F xTc vwCl xTys D dA la gJ (fbz bsJ znJ (fKc wz_38a0a) I) xm_272 [.inr (.inr (some 740)), .inl x1] I (fun _ r => ∃ z, r = some (.inl z) ∧ ((-2147483648) ≤ z ∧ z ≤ 2147483647)) := by
  have hW : fzs wz_38a0a (fKc wz_38a0a) := fKc_ok _
  refine f_meth (rb := rbJ) (J := []) 1 400 xG xin_272 x6_272 okJ (fB_self h0) ?_ ?_
  · exact fun q h => absurd h List.not_mem_nil
  · have hB0 := fB_self (zn := znJ) (K := fKc wz_38a0a) h0
    refine Exists.intro xm_266 (And.intro mi_266 (And.intro ⟨rfl, rfl, rfl, rfl⟩ (And.intro rfl ?_)))
    refine fcallp hB0 (ct_M_isWork_a0fef (fBz h0 hB0) (by first | exact ⟨ha1.1, ha1.2⟩ | omega)) ?_
    rintro _ ⟨z1, rfl, hz1⟩
    refine And.intro (by omega) (And.intro ?_ ?_)
    · intro c2
      refine Exists.intro xm_245 (And.intro mi_245 (And.intro ⟨rfl, rfl, rfl, rfl⟩ (And.intro rfl ?_)))
      refine fcallp hB0 (ct_M_isGone_0de37 (fBz h0 hB0) (by omega)) ?_
      rintro _ ⟨z3, rfl, hz3⟩
      refine And.intro (by omega) (And.intro ?_ ?_)
      · intro c4
        refine Exists.intro xm_244 (And.intro mi_244 (And.intro ⟨rfl, rfl, rfl, rfl⟩ (And.intro rfl ?_)))
        refine fcallp hB0 (ct_M_workAt_83d38 (fBz h0 hB0) (by omega)) ?_
        rintro _ ⟨_, rfl, rfl⟩
        refine Exists.intro xm_242 (And.intro mi_242 (And.intro ⟨rfl, rfl, rfl, rfl⟩ (And.intro rfl ?_)))
        refine fcall _ h0 (fzs_sub (by decide +kernel) hW) hB0 (ct_M_put_d2826 (fBz h0 hB0) (by omega) (by first | exact ⟨by decide, by decide⟩ | omega)) ?_
        rintro IhB7 _ hB7 fhB7 ⟨z6, rfl, hz6, g0z6, g1z6⟩
        refine And.intro (True.intro) ?_
        exact ⟨_, rfl, (by first | exact ⟨hz6.1, hz6.2⟩ | omega)⟩
      · intro c8
        refine And.intro (True.intro) ?_
        exact ⟨_, rfl, (by first | exact ⟨by decide, by decide⟩ | omega)⟩
    · intro c9
      refine And.intro (True.intro) ?_
      exact ⟨_, rfl, (by first | exact ⟨by decide, by decide⟩ | omega)⟩
set_option maxRecDepth 8000 in
theorem ct_X_sew_ca0d8 {I : fH} {x1 : Int} (h0 : fB bsJ I) (ha1 : ((-2147483648) ≤ x1 ∧ x1 ≤ 2147483647)) : fC ρ base n F xTc vwCl xTys D dA la gJ (fbz bsJ znJ (fKc wz_9fac9) I) xm_52 [.inr (.inr (some 0)), .inl x1] I (fun _ r => ∃ z, r = some (.inl z) ∧ ((-2147483648) ≤ z ∧ z ≤ 2147483647)) := by
  have hW : fzs wz_9fac9 (fKc wz_9fac9) := fKc_ok _
  refine f_meth (rb := rbJ) (J := []) 1 400 xG xin_52 x6_52 okJ (fB_self h0) ?_ ?_
  · exact fun q h => absurd h List.not_mem_nil
  · have hB0 := fB_self (zn := znJ) (K := fKc wz_9fac9) h0
    refine And.intro ⟨rfl, by decide, by decide⟩ ?_
    refine Exists.intro xm_45 (And.intro mi_45 (And.intro ⟨rfl, rfl, rfl, rfl⟩ (And.intro rfl ?_)))
    refine fcallp hB0 (ct_City_isWork_11526 (fBz h0 hB0) (by first | exact ⟨ha1.1, ha1.2⟩ | omega)) ?_
    rintro _ ⟨z1, rfl, hz1⟩
    refine And.intro (by omega) (And.intro ?_ ?_)
    · intro c2
      refine And.intro ⟨rfl, by decide, by decide⟩ ?_
      refine And.intro ⟨rfl, by decide, by decide⟩ ?_
      refine And.intro ⟨rfl, by decide, by decide⟩ ?_
      refine fload rL_164_164_0_23_1_0 h0 hB0 (by omega) ?_
      intro z3 lz3 uz3 qz3
      refine And.intro (And.intro (by first | exact fi_ lz3 uz3 rfl | omega) (by first | exact ⟨by decide, by decide⟩ | omega)) (And.intro ?_ ?_)
      · intro c4
        refine Exists.intro xm_50 (And.intro mi_50 (And.intro ⟨rfl, rfl, rfl, rfl⟩ (And.intro rfl ?_)))
        refine fcallp hB0 (ct_Works_isGone_6681e (fBz h0 hB0) (by omega)) ?_
        rintro _ ⟨z5, rfl, hz5⟩
        refine And.intro (by omega) (And.intro ?_ ?_)
        · intro c6
          refine And.intro (True.intro) ?_
          exact ⟨_, rfl, (by first | exact ⟨by decide, by decide⟩ | omega)⟩
        · intro c7
          refine And.intro ⟨rfl, by decide, by decide⟩ ?_
          refine fload rL_171_171_0_23_1_0 h0 hB0 (by omega) ?_
          intro z8 lz8 uz8 qz8
          refine And.intro (And.intro (by first | exact fi_ lz8 uz8 rfl | omega) (by first | exact ⟨by decide, by decide⟩ | omega)) (And.intro ?_ ?_)
          · intro c9
            refine And.intro (True.intro) ?_
            exact ⟨_, rfl, (by first | exact ⟨by decide, by decide⟩ | omega)⟩
          · intro c10
            refine And.intro ⟨rfl, by decide, by decide⟩ ?_
            refine And.intro ⟨rfl, by decide, by decide⟩ ?_
            refine fload1 rL_182_182_0_5_1_0 h0 hB0 ⟨by decide, by decide⟩ (by first | exact ⟨by decide, by decide⟩ | omega) ?_
            intro z11 lz11 uz11 qz11
            have pz11 := fld_at qz11 4 (by omega)
            refine And.intro (And.intro (by first | exact fi_ lz11 uz11 rfl | omega) (by first | exact ⟨by decide, by decide⟩ | omega)) (And.intro ?_ ?_)
            · intro c12
              refine And.intro ⟨rfl, by decide, by decide⟩ ?_
              refine And.intro ⟨rfl, by decide, by decide⟩ ?_
              refine fload1 rL_182_182_0_5_1_0 h0 hB0 ⟨by decide, by decide⟩ (by first | exact ⟨by decide, by decide⟩ | omega) ?_
              intro z13 lz13 uz13 qz13
              have pz13 := fld_at qz13 4 (by omega)
              refine fstore1 rS_182_182_0_5_1_0 (fzs_sub (by decide +kernel) hW) ⟨by decide, by decide⟩ (by first | exact ⟨by decide, by decide⟩ | omega) (by omega) ?_
              intro IhB14 ehB14 hB14
              have t15 := fup_self ehB14
              have t16 := fup_at ehB14 4 (by first | rfl | omega)
              refine And.intro ⟨rfl, by decide, by decide⟩ ?_
              refine fload rL_171_171_0_23_1_0 h0 hB14 (by omega) ?_
              intro z17 lz17 uz17 qz17
              intro z18 hz18 ez18 bz18
              clear ez18
              clear bz18
              refine fstore rS_171_171_0_23_1_0 (fzs_sub (by decide +kernel) hW) (by omega) (by omega) ?_
              intro IhB19 ehB19 hB19
              have t20 := fup_self ehB19
              have t21 : IhB19 182 4 = IhB14 182 4 := (congrFun (congrFun ehB19 182) 4).trans (fup_ne (by first | exact Or.inl (by decide) | omega))
              refine And.intro ⟨rfl, by decide, by decide⟩ ?_
              refine fload rL_171_171_0_23_1_0 h0 hB19 (by omega) ?_
              intro z22 lz22 uz22 qz22
              refine And.intro (True.intro) ?_
              exact ⟨_, rfl, (by first | exact ⟨lz22, uz22⟩ | omega)⟩
            · intro c23
              refine And.intro (True.intro) ?_
              exact ⟨_, rfl, (by first | exact ⟨by decide, by decide⟩ | omega)⟩
      · intro c24
        refine And.intro (True.intro) ?_
        exact ⟨_, rfl, (by first | exact ⟨by decide, by decide⟩ | omega)⟩
    · intro c25
      refine And.intro (True.intro) ?_
      exact ⟨_, rfl, (by first | exact ⟨by decide, by decide⟩ | omega)⟩
set_option maxRecDepth 8000 in
theorem ct_M_sew_b534e {I : fH} {x1 : Int} (h0 : fB bsJ I) (ha1 : ((-2147483648) ≤ x1 ∧ x1 ≤ 2147483647)) : fC ρ base n F xTc vwCl xTys D dA la gJ (fbz bsJ znJ (fKc wz_2acdb) I) xm_273 [.inr (.inr (some 740)), .inl x1] I (fun _ r => ∃ z, r = some (.inl z) ∧ ((-2147483648) ≤ z ∧ z ≤ 2147483647)) := by
  have hW : fzs wz_2acdb (fKc wz_2acdb) := fKc_ok _
  refine f_meth (rb := rbJ) (J := []) 1 400 xG xin_273 x6_273 okJ (fB_self h0) ?_ ?_
  · exact fun q h => absurd h List.not_mem_nil
  · have hB0 := fB_self (zn := znJ) (K := fKc wz_2acdb) h0
    refine Exists.intro xm_266 (And.intro mi_266 (And.intro ⟨rfl, rfl, rfl, rfl⟩ (And.intro rfl ?_)))
    refine fcallp hB0 (ct_M_isWork_a0fef (fBz h0 hB0) (by first | exact ⟨ha1.1, ha1.2⟩ | omega)) ?_
    rintro _ ⟨z1, rfl, hz1⟩
    refine And.intro (by omega) (And.intro ?_ ?_)
    · intro c2
      refine Exists.intro xm_267 (And.intro mi_267 (And.intro ⟨rfl, rfl, rfl, rfl⟩ (And.intro rfl ?_)))
      refine fcallp hB0 (ct_M_kindOf_31275 (fBz h0 hB0) (by omega)) ?_
      rintro _ ⟨z3, rfl, hz3, g0z3⟩
      refine And.intro (And.intro (by first | exact fi_ hz3.1 hz3.2 rfl | omega) (by first | exact ⟨by decide, by decide⟩ | omega)) (And.intro ?_ ?_)
      · intro c4
        refine Exists.intro xm_244 (And.intro mi_244 (And.intro ⟨rfl, rfl, rfl, rfl⟩ (And.intro rfl ?_)))
        refine fcallp hB0 (ct_M_workAt_83d38 (fBz h0 hB0) (by omega)) ?_
        rintro _ ⟨_, rfl, rfl⟩
        refine Exists.intro xm_245 (And.intro mi_245 (And.intro ⟨rfl, rfl, rfl, rfl⟩ (And.intro rfl ?_)))
        refine fcallp hB0 (ct_M_isGone_0de37 (fBz h0 hB0) (by omega)) ?_
        rintro _ ⟨z6, rfl, hz6⟩
        refine And.intro (by omega) (And.intro ?_ ?_)
        · intro c7
          refine And.intro (True.intro) ?_
          exact ⟨_, rfl, (by first | exact ⟨by decide, by decide⟩ | omega)⟩
        · intro c8
          refine And.intro ⟨rfl, by decide, by decide⟩ ?_
          refine fload rL_741_741_535_857_14_0 h0 hB0 (by omega) ?_
          intro z9 lz9 uz9 qz9
          refine And.intro (And.intro (by first | exact fi_ lz9 uz9 rfl | omega) (by first | exact ⟨by decide, by decide⟩ | omega)) (And.intro ?_ ?_)
          · intro c10
            refine And.intro (True.intro) ?_
            exact ⟨_, rfl, (by first | exact ⟨by decide, by decide⟩ | omega)⟩
          · intro c11
            refine And.intro ⟨rfl, by decide, by decide⟩ ?_
            refine fload1 rL_741_741_21_21_1_0 h0 hB0 ⟨by decide, by decide⟩ (by first | exact ⟨by decide, by decide⟩ | omega) ?_
            intro z12 lz12 uz12 qz12
            have pz12 := fld_at qz12 21 (by omega)
            refine And.intro (by first | exact fi_ lz12 uz12 rfl | omega) (And.intro ?_ ?_)
            · intro c13
              refine And.intro ⟨rfl, by decide, by decide⟩ ?_
              refine fload1 rL_741_741_21_21_1_0 h0 hB0 ⟨by decide, by decide⟩ (by first | exact ⟨by decide, by decide⟩ | omega) ?_
              intro z14 lz14 uz14 qz14
              have pz14 := fld_at qz14 21 (by omega)
              intro z15 hz15 ez15 bz15
              clear ez15
              clear bz15
              refine fstore1 rS_741_741_21_21_1_0 (fzs_sub (by decide +kernel) hW) ⟨by decide, by decide⟩ (by first | exact ⟨by decide, by decide⟩ | omega) (by omega) ?_
              intro IhB16 ehB16 hB16
              have t17 := fup_self ehB16
              have t18 := fup_at ehB16 21 (by first | rfl | omega)
              refine And.intro ⟨rfl, by decide, by decide⟩ ?_
              refine fload rL_741_741_535_857_14_0 h0 hB16 (by omega) ?_
              intro z19 lz19 uz19 qz19
              intro z20 hz20 ez20 bz20
              clear ez20
              clear bz20
              refine fstore rS_741_741_535_857_14_0 (fzs_sub (by decide +kernel) hW) (by omega) (by omega) ?_
              intro IhB21 ehB21 hB21
              have t22 := fup_self ehB21
              have t23 : IhB21 741 21 = IhB16 741 21 := (congrFun (congrFun ehB21 741) 21).trans (fup_ne (by first | exact Or.inl (by decide) | omega))
              refine And.intro ⟨rfl, by decide, by decide⟩ ?_
              refine fload rL_741_741_535_857_14_0 h0 hB21 (by omega) ?_
              intro z24 lz24 uz24 qz24
              refine And.intro (True.intro) ?_
              exact ⟨_, rfl, (by first | exact ⟨lz24, uz24⟩ | omega)⟩
            · intro c25
              refine And.intro (True.intro) ?_
              exact ⟨_, rfl, (by first | exact ⟨by decide, by decide⟩ | omega)⟩
      · intro c26
        refine And.intro (True.intro) ?_
        exact ⟨_, rfl, (by first | exact ⟨by decide, by decide⟩ | omega)⟩
    · intro c27
      refine And.intro (True.intro) ?_
      exact ⟨_, rfl, (by first | exact ⟨by decide, by decide⟩ | omega)⟩
set_option maxRecDepth 8000 in
theorem ct_Works_isDropped_adfda {I : fH} {x1 : Int} (h0 : fB bsJ I) (ha1 : (0 ≤ x1 ∧ x1 ≤ 23)) : fC ρ base n F xTc vwCl xTys D dA la gJ (fbz bsJ znJ (fKc []) I) xm_55 [.inr (.inr (some 163)), .inl x1] I (fun _ r => ∃ z, r = some (.inl z) ∧ (0 ≤ z ∧ z ≤ 1)) := by
  have hW : fzs [] (fKc []) := fKc_ok _
  refine f_meth (rb := rbJ) (J := []) 1 400 xG xin_55 x6_55 okJ (fB_self h0) ?_ ?_
  · exact fun q h => absurd h List.not_mem_nil
  · have hB0 := fB_self (zn := znJ) (K := fKc []) h0
    refine And.intro ⟨rfl, by decide, by decide⟩ ?_
    refine fload1 rL_175_175_0_23_1_0 h0 hB0 ⟨by decide, by decide⟩ (by first | exact ⟨ha1.1, ha1.2⟩ | omega) ?_
    intro z1 lz1 uz1 qz1
    refine And.intro (And.intro (by first | exact fi_ lz1 uz1 rfl | omega) (by first | exact ⟨by decide, by decide⟩ | omega)) (And.intro ?_ ?_)
    · intro c2
      refine And.intro (⟨by omega, by omega⟩) ?_
      exact ⟨_, rfl, by omega⟩
    · intro c3
      refine And.intro (⟨by decide, by decide⟩) ?_
      exact ⟨_, rfl, (by first | exact ⟨by decide, by decide⟩ | omega)⟩
set_option maxRecDepth 8000 in
theorem ct_X_refusedProbe_344cc {I : fH} {x1 : Int} (h0 : fB bsJ I) (ha1 : ((-2147483648) ≤ x1 ∧ x1 ≤ 2147483647)) : fC ρ base n F xTc vwCl xTys D dA la gJ (fbz bsJ znJ (fKc []) I) xm_54 [.inr (.inr (some 0)), .inl x1] I (fun _ r => ∃ z, r = some (.inl z) ∧ (((0 ≤ z ∧ z ≤ 0) ∨ z = (-1000000012) ∨ z = (-1000000002) ∨ z = (-1000000001)) ∧ (z = 0 → 0 ≤ x1 ∧ x1 ≤ 23))) := by
  have hW : fzs [] (fKc []) := fKc_ok _
  refine f_meth (rb := rbJ) (J := []) 1 400 xG xin_54 x6_54 okJ (fB_self h0) ?_ ?_
  · exact fun q h => absurd h List.not_mem_nil
  · have hB0 := fB_self (zn := znJ) (K := fKc []) h0
    refine And.intro ⟨rfl, by decide, by decide⟩ ?_
    refine Exists.intro xm_45 (And.intro mi_45 (And.intro ⟨rfl, rfl, rfl, rfl⟩ (And.intro rfl ?_)))
    refine fcallp hB0 (ct_City_isWork_11526 (fBz h0 hB0) (by first | exact ⟨ha1.1, ha1.2⟩ | omega)) ?_
    rintro _ ⟨z1, rfl, hz1⟩
    refine And.intro (by omega) (And.intro ?_ ?_)
    · intro c2
      refine And.intro ⟨rfl, by decide, by decide⟩ ?_
      refine And.intro ⟨rfl, by decide, by decide⟩ ?_
      refine And.intro ⟨rfl, by decide, by decide⟩ ?_
      refine fload rL_164_164_0_23_1_0 h0 hB0 (by omega) ?_
      intro z3 lz3 uz3 qz3
      refine And.intro (And.intro (by first | exact fi_ lz3 uz3 rfl | omega) (by first | exact ⟨by decide, by decide⟩ | omega)) (And.intro ?_ ?_)
      · intro c4
        refine And.intro ⟨rfl, by decide, by decide⟩ ?_
        refine And.intro ⟨rfl, by decide, by decide⟩ ?_
        refine Exists.intro xm_50 (And.intro mi_50 (And.intro ⟨rfl, rfl, rfl, rfl⟩ (And.intro rfl ?_)))
        refine fcallp hB0 (ct_Works_isGone_6681e (fBz h0 hB0) (by omega)) ?_
        rintro _ ⟨z5, rfl, hz5⟩
        refine And.intro (by omega) (And.intro ?_ ?_)
        · intro c6
          refine And.intro (True.intro) ?_
          exact ⟨_, rfl, by omega⟩
        · intro c7
          refine And.intro ⟨rfl, by decide, by decide⟩ ?_
          refine And.intro ⟨rfl, by decide, by decide⟩ ?_
          refine Exists.intro xm_55 (And.intro mi_55 (And.intro ⟨rfl, rfl, rfl, rfl⟩ (And.intro rfl ?_)))
          refine fcallp hB0 (ct_Works_isDropped_adfda (fBz h0 hB0) (by omega)) ?_
          rintro _ ⟨z8, rfl, hz8⟩
          refine And.intro (by omega) (And.intro ?_ ?_)
          · intro c9
            refine And.intro (True.intro) ?_
            exact ⟨_, rfl, by omega⟩
          · intro c10
            refine And.intro (True.intro) ?_
            exact ⟨_, rfl, by omega⟩
      · intro c11
        refine And.intro (True.intro) ?_
        exact ⟨_, rfl, by omega⟩
    · intro c12
      refine And.intro (True.intro) ?_
      exact ⟨_, rfl, by omega⟩
set_option maxRecDepth 8000 in
theorem ct_X_drop_cdd18 {I : fH} {x1 : Int} (h0 : fB bsJ I) (ha1 : ((-2147483648) ≤ x1 ∧ x1 ≤ 2147483647)) : fC ρ base n F xTc vwCl xTys D dA la gJ (fbz bsJ znJ (fKc wz_0ffea) I) xm_53 [.inr (.inr (some 0)), .inl x1] I (fun _ r => ∃ z, r = some (.inl z) ∧ ((0 ≤ z ∧ z ≤ 60) ∨ z = (-1000000012) ∨ z = (-1000000002) ∨ z = (-1000000001))) := by
  have hW : fzs wz_0ffea (fKc wz_0ffea) := fKc_ok _
  refine f_meth (rb := rbJ) (J := []) 1 400 xG xin_53 x6_53 okJ (fB_self h0) ?_ ?_
  · exact fun q h => absurd h List.not_mem_nil
  · have hB0 := fB_self (zn := znJ) (K := fKc wz_0ffea) h0
    refine Exists.intro xm_54 (And.intro mi_54 (And.intro ⟨rfl, rfl, rfl, rfl⟩ (And.intro rfl ?_)))
    refine fcallp hB0 (ct_X_refusedProbe_344cc (fBz h0 hB0) (by first | exact ⟨ha1.1, ha1.2⟩ | omega)) ?_
    rintro _ ⟨z1, rfl, hz1⟩
    refine And.intro (by omega) (And.intro ?_ ?_)
    · intro c2
      refine And.intro ⟨rfl, by decide, by decide⟩ ?_
      refine And.intro ⟨rfl, by decide, by decide⟩ ?_
      refine And.intro ⟨rfl, by decide, by decide⟩ ?_
      refine And.intro ⟨rfl, by decide, by decide⟩ ?_
      refine Exists.intro xm_31 (And.intro mi_31 (And.intro ⟨rfl, rfl, rfl, rfl⟩ (And.intro rfl ?_)))
      refine fcallp hB0 (ct_City_level_61deb (fBz h0 hB0)) ?_
      rintro _ ⟨z3, rfl, hz3⟩
      refine fstore rS_175_175_0_23_1_0 (fzs_sub (by decide +kernel) hW) (by omega) (by first | exact ⟨Int.le_trans (by decide) hz3.1, hz3.2⟩ | omega) ?_
      intro IhB4 ehB4 hB4
      have t5 := fup_self ehB4
      refine And.intro ⟨rfl, by decide, by decide⟩ ?_
      refine Exists.intro xm_31 (And.intro mi_31 (And.intro ⟨rfl, rfl, rfl, rfl⟩ (And.intro rfl ?_)))
      refine fcallp hB4 (ct_City_level_61deb (fBz h0 hB4)) ?_
      rintro _ ⟨z6, rfl, hz6⟩
      refine And.intro (True.intro) ?_
      exact ⟨_, rfl, by omega⟩
    · intro c7
      refine And.intro (True.intro) ?_
      exact ⟨_, rfl, by omega⟩
set_option maxRecDepth 8000 in
theorem ct_M_stops_1e639 {I : fH} {x1 : Int} (h0 : fB bsJ I) (ha1 : ((-2147483648) ≤ x1 ∧ x1 ≤ 2147483647)) : fC ρ base n F xTc vwCl xTys D dA la gJ (fbz bsJ znJ (fKc []) I) xm_275 [.inr (.inr (some 740)), .inl x1] I (fun _ r => ∃ z, r = some (.inl z) ∧ (((0 ≤ z ∧ z ≤ 0) ∨ z = (-1000000012) ∨ z = (-1000000002) ∨ z = (-1000000001)) ∧ (z = 0 → 0 ≤ x1 ∧ x1 ≤ 23))) := by
  have hW : fzs [] (fKc []) := fKc_ok _
  refine f_meth (rb := rbJ) (J := []) 1 400 xG xin_275 x6_275 okJ (fB_self h0) ?_ ?_
  · exact fun q h => absurd h List.not_mem_nil
  · have hB0 := fB_self (zn := znJ) (K := fKc []) h0
    refine Exists.intro xm_266 (And.intro mi_266 (And.intro ⟨rfl, rfl, rfl, rfl⟩ (And.intro rfl ?_)))
    refine fcallp hB0 (ct_M_isWork_a0fef (fBz h0 hB0) (by first | exact ⟨ha1.1, ha1.2⟩ | omega)) ?_
    rintro _ ⟨z1, rfl, hz1⟩
    refine And.intro (by omega) (And.intro ?_ ?_)
    · intro c2
      refine Exists.intro xm_267 (And.intro mi_267 (And.intro ⟨rfl, rfl, rfl, rfl⟩ (And.intro rfl ?_)))
      refine fcallp hB0 (ct_M_kindOf_31275 (fBz h0 hB0) (by omega)) ?_
      rintro _ ⟨z3, rfl, hz3, g0z3⟩
      refine And.intro (And.intro (by first | exact fi_ hz3.1 hz3.2 rfl | omega) (by first | exact ⟨by decide, by decide⟩ | omega)) (And.intro ?_ ?_)
      · intro c4
        refine Exists.intro xm_245 (And.intro mi_245 (And.intro ⟨rfl, rfl, rfl, rfl⟩ (And.intro rfl ?_)))
        refine fcallp hB0 (ct_M_isGone_0de37 (fBz h0 hB0) (by omega)) ?_
        rintro _ ⟨z5, rfl, hz5⟩
        refine And.intro (by omega) (And.intro ?_ ?_)
        · intro c6
          refine And.intro (True.intro) ?_
          exact ⟨_, rfl, by omega⟩
        · intro c7
          refine And.intro ⟨rfl, by decide, by decide⟩ ?_
          refine Exists.intro xm_244 (And.intro mi_244 (And.intro ⟨rfl, rfl, rfl, rfl⟩ (And.intro rfl ?_)))
          refine fcallp hB0 (ct_M_workAt_83d38 (fBz h0 hB0) (by omega)) ?_
          rintro _ ⟨_, rfl, rfl⟩
          refine fload rL_741_741_539_861_14_0 h0 hB0 (by omega) ?_
          intro z9 lz9 uz9 qz9
          refine And.intro (by first | exact fi_ lz9 uz9 rfl | omega) (And.intro ?_ ?_)
          · intro c10
            refine And.intro (True.intro) ?_
            exact ⟨_, rfl, by omega⟩
          · intro c11
            refine And.intro (True.intro) ?_
            exact ⟨_, rfl, by omega⟩
      · intro c12
        refine And.intro (True.intro) ?_
        exact ⟨_, rfl, by omega⟩
    · intro c13
      refine And.intro (True.intro) ?_
      exact ⟨_, rfl, by omega⟩
set_option maxRecDepth 8000 in
theorem ct_M_drop_6f2b6 {I : fH} {x1 : Int} (h0 : fB bsJ I) (ha1 : ((-2147483648) ≤ x1 ∧ x1 ≤ 2147483647)) : fC ρ base n F xTc vwCl xTys D dA la gJ (fbz bsJ znJ (fKc wz_7172e) I) xm_274 [.inr (.inr (some 740)), .inl x1] I (fun _ r => ∃ z, r = some (.inl z) ∧ ((0 ≤ z ∧ z ≤ 60) ∨ z = (-1000000012) ∨ z = (-1000000002) ∨ z = (-1000000001))) := by
  have hW : fzs wz_7172e (fKc wz_7172e) := fKc_ok _
  refine f_meth (rb := rbJ) (J := []) 1 400 xG xin_274 x6_274 okJ (fB_self h0) ?_ ?_
  · exact fun q h => absurd h List.not_mem_nil
  · have hB0 := fB_self (zn := znJ) (K := fKc wz_7172e) h0
    refine Exists.intro xm_275 (And.intro mi_275 (And.intro ⟨rfl, rfl, rfl, rfl⟩ (And.intro rfl ?_)))
    refine fcallp hB0 (ct_M_stops_1e639 (fBz h0 hB0) (by first | exact ⟨ha1.1, ha1.2⟩ | omega)) ?_
    rintro _ ⟨z1, rfl, hz1⟩
    refine And.intro (by omega) (And.intro ?_ ?_)
    · intro c2
      refine And.intro ⟨rfl, by decide, by decide⟩ ?_
      refine Exists.intro xm_244 (And.intro mi_244 (And.intro ⟨rfl, rfl, rfl, rfl⟩ (And.intro rfl ?_)))
      refine fcallp hB0 (ct_M_workAt_83d38 (fBz h0 hB0) (by omega)) ?_
      rintro _ ⟨_, rfl, rfl⟩
      refine Exists.intro xm_260 (And.intro mi_260 (And.intro ⟨rfl, rfl, rfl, rfl⟩ (And.intro rfl ?_)))
      refine fcallp hB0 (ct_M_level_daf8a (fBz h0 hB0)) ?_
      rintro _ ⟨z4, rfl, hz4⟩
      refine fstore rS_741_741_539_861_14_0 (fzs_sub (by decide +kernel) hW) (by omega) (by first | exact ⟨Int.le_trans (by decide) hz4.1, hz4.2⟩ | omega) ?_
      intro IhB5 ehB5 hB5
      have t6 := fup_self ehB5
      refine Exists.intro xm_260 (And.intro mi_260 (And.intro ⟨rfl, rfl, rfl, rfl⟩ (And.intro rfl ?_)))
      refine fcallp hB5 (ct_M_level_daf8a (fBz h0 hB5)) ?_
      rintro _ ⟨z7, rfl, hz7⟩
      refine And.intro (True.intro) ?_
      exact ⟨_, rfl, by omega⟩
    · intro c8
      refine And.intro (True.intro) ?_
      exact ⟨_, rfl, by omega⟩
abbrev jc_City_minutesTillLost_961fa_10 : Nat → fL → List fV → fH → Prop := fun m lv st I => ∃ (y1 : Int) (y2 : Int) (y3 : Int) (y4 : Int), lv = [(0, .inr (.inr (some 1))), (1, .inl y1), (2, .inl y2), (3, .inl y3), (4, .inl y4)] ∧ st = [] ∧ ((((-2147483648) ≤ y1 ∧ y1 ≤ 2147483647) ∧ (0 ≤ y2 ∧ y2 ≤ 60) ∧ ((-2147483648) ≤ y3 ∧ y3 ≤ 2147483647) ∧ (1 ≤ y4 ∧ y4 ≤ 1001))) ∧ m = (1 + 1 * (1001 - y4) : Int).toNat
set_option maxRecDepth 8000 in
theorem ct_City_minutesTillLost_961fa {I : fH} {x1 : Int} (h0 : fB bsJ I) (ha1 : ((-2147483648) ≤ x1 ∧ x1 ≤ 2147483647)) : fC ρ base n F xTc vwCl xTys D dA la gJ (fbz bsJ znJ (fKc []) I) xm_57 [.inr (.inr (some 1)), .inl x1] I (fun _ r => ∃ z, r = some (.inl z) ∧ (1 ≤ z ∧ z ≤ 1000)) := by
  have hW : fzs [] (fKc []) := fKc_ok _
  refine f_meth (rb := rbJ) (J := [(10, jc_City_minutesTillLost_961fa_10)]) 1002 400 xG xin_57 x6_57 okJ (fB_self h0) ?_ ?_
  · refine List.forall_mem_cons.mpr ⟨?_, fun q h => absurd h List.not_mem_nil⟩
    · rintro m _ _ I1 hB1 ⟨y1, y2, y3, y4, rfl, rfl, hb, hm⟩
      refine And.intro (And.intro (by first | exact fi_ hb.2.2.2.1 hb.2.2.2.2 rfl | omega) (by first | exact ⟨by decide, by decide⟩ | omega)) (And.intro ?_ ?_)
      · intro c1
        refine And.intro (True.intro) ?_
        exact ⟨_, rfl, (by first | exact ⟨by decide, by decide⟩ | omega)⟩
      · intro c2
        refine And.intro (And.intro (by first | exact ⟨by decide, by decide⟩ | omega) (And.intro (by omega) rfl)) ?_
        intro z3 hz3
        refine And.intro ⟨rfl, by decide, by decide⟩ ?_
        refine And.intro ⟨rfl, by decide⟩ (And.intro (by first | exact ⟨by decide, by decide⟩ | omega) ?_)
        refine fload rL_185_185_0_60_1_0 h0 hB1 (by omega) ?_
        intro z4 lz4 uz4 qz4
        intro z5 hz5 ez5 bz5
        clear ez5
        clear bz5
        refine And.intro (by omega) (And.intro ?_ ?_)
        · intro c6
          exact fcutJ (I := I1) (j := jc_City_minutesTillLost_961fa_10) (lv' := [(0, .inr (.inr (some 1))), (1, .inl _), (2, .inl _), (3, .inl _), (4, .inl _)]) (And.intro rfl (And.intro rfl (And.intro rfl (And.intro rfl (And.intro rfl True.intro))))) ⟨_, _, _, _, rfl, rfl, by omega, rfl⟩ (by omega)
        · intro c7
          refine And.intro (True.intro) ?_
          exact ⟨_, rfl, (by first | exact ⟨hb.2.2.2.1, Int.le_trans (Int.le_trans c2 (Int.le_refl _)) (by decide)⟩ | omega)⟩
  · have hB0 := fB_self (zn := znJ) (K := fKc []) h0
    refine Exists.intro xm_31 (And.intro mi_31 (And.intro ⟨rfl, rfl, rfl, rfl⟩ (And.intro rfl ?_)))
    refine fcallp hB0 (ct_City_level_61deb (fBz h0 hB0)) ?_
    rintro _ ⟨z8, rfl, hz8⟩
    exact fcutJ (I := I) (j := jc_City_minutesTillLost_961fa_10) (lv' := [(0, .inr (.inr (some 1))), (1, .inl _), (2, .inl _), (3, .inl _), (4, .inl _)]) (And.intro rfl (And.intro rfl (And.intro rfl (And.intro rfl (And.intro rfl True.intro))))) ⟨_, _, _, _, rfl, rfl, by omega, rfl⟩ (by omega)
set_option maxRecDepth 8000 in
theorem ct_X_depth_b4eb4 {I : fH} {x1 : Int} (h0 : fB bsJ I) (ha1 : ((-2147483648) ≤ x1 ∧ x1 ≤ 2147483647)) : fC ρ base n F xTc vwCl xTys D dA la gJ (fbz bsJ znJ (fKc []) I) xm_56 [.inr (.inr (some 0)), .inl x1] I (fun _ r => ∃ z, r = some (.inl z) ∧ ((0 ≤ z ∧ z ≤ 1000) ∨ z = (-1000000012) ∨ z = (-1000000002) ∨ z = (-1000000001))) := by
  have hW : fzs [] (fKc []) := fKc_ok _
  refine f_meth (rb := rbJ) (J := []) 1 400 xG xin_56 x6_56 okJ (fB_self h0) ?_ ?_
  · exact fun q h => absurd h List.not_mem_nil
  · have hB0 := fB_self (zn := znJ) (K := fKc []) h0
    refine Exists.intro xm_54 (And.intro mi_54 (And.intro ⟨rfl, rfl, rfl, rfl⟩ (And.intro rfl ?_)))
    refine fcallp hB0 (ct_X_refusedProbe_344cc (fBz h0 hB0) (by first | exact ⟨ha1.1, ha1.2⟩ | omega)) ?_
    rintro _ ⟨z1, rfl, hz1⟩
    refine And.intro (by omega) (And.intro ?_ ?_)
    · intro c2
      refine And.intro ⟨rfl, by decide, by decide⟩ ?_
      refine And.intro ⟨rfl, by decide, by decide⟩ ?_
      refine And.intro ⟨rfl, by decide, by decide⟩ ?_
      refine And.intro ⟨rfl, by decide, by decide⟩ ?_
      refine fload rL_171_171_0_23_1_0 h0 hB0 (by omega) ?_
      intro z3 lz3 uz3 qz3
      refine Exists.intro xm_57 (And.intro mi_57 (And.intro ⟨rfl, rfl, rfl, rfl⟩ (And.intro rfl ?_)))
      refine fcallp hB0 (ct_City_minutesTillLost_961fa (fBz h0 hB0) (by first | exact ⟨lz3, uz3⟩ | omega)) ?_
      rintro _ ⟨z4, rfl, hz4⟩
      refine And.intro (True.intro) ?_
      exact ⟨_, rfl, by omega⟩
    · intro c5
      refine And.intro (True.intro) ?_
      exact ⟨_, rfl, by omega⟩
abbrev jc_M_depth_0e6f9_23 : Nat → fL → List fV → fH → Prop := fun m lv st I => ∃ (y1 : Int) (y3 : Int) (y4 : Int) (y5 : Int), lv = [(0, .inr (.inr (some 740))), (1, .inl y1), (3, .inl y3), (4, .inl y4), (5, .inl y5)] ∧ st = [] ∧ (((0 ≤ y1 ∧ y1 ≤ 23) ∧ (0 ≤ y3 ∧ y3 ≤ 60) ∧ ((-2147483648) ≤ y4 ∧ y4 ≤ 2147483647) ∧ (1 ≤ y5 ∧ y5 ≤ 1001))) ∧ m = (1 + 1 * (1001 - y5) : Int).toNat
set_option maxRecDepth 8000 in
theorem ct_M_depth_0e6f9 {I : fH} {x1 : Int} (h0 : fB bsJ I) (ha1 : ((-2147483648) ≤ x1 ∧ x1 ≤ 2147483647)) : fC ρ base n F xTc vwCl xTys D dA la gJ (fbz bsJ znJ (fKc []) I) xm_276 [.inr (.inr (some 740)), .inl x1] I (fun _ r => ∃ z, r = some (.inl z) ∧ ((0 ≤ z ∧ z ≤ 1000) ∨ z = (-1000000012) ∨ z = (-1000000002) ∨ z = (-1000000001))) := by
  have hW : fzs [] (fKc []) := fKc_ok _
  refine f_meth (rb := rbJ) (J := [(23, jc_M_depth_0e6f9_23)]) 1002 400 xG xin_276 x6_276 okJ (fB_self h0) ?_ ?_
  · refine List.forall_mem_cons.mpr ⟨?_, fun q h => absurd h List.not_mem_nil⟩
    · rintro m _ _ I1 hB1 ⟨y1, y3, y4, y5, rfl, rfl, hb, hm⟩
      refine And.intro (And.intro (by first | exact fi_ hb.2.2.2.1 hb.2.2.2.2 rfl | omega) (by first | exact ⟨by decide, by decide⟩ | omega)) (And.intro ?_ ?_)
      · intro c1
        refine And.intro (True.intro) ?_
        exact ⟨_, rfl, by omega⟩
      · intro c2
        refine And.intro (by first | exact fi_ hb.2.1.1 hb.2.1.2 rfl | omega) (And.intro ?_ ?_)
        · intro c3
          intro z4 hz4 ez4 bz4
          clear ez4
          have bz4 := bz4 (by omega)
          refine And.intro ⟨rfl, by decide, by decide⟩ ?_
          intro z5 hz5 ez5 bz5
          clear ez5
          have bz5 := bz5 (by omega)
          refine fload rL_741_741_1081_1141_1_0 h0 hB1 (by omega) ?_
          intro z6 lz6 uz6 qz6
          intro z7 hz7 ez7 bz7
          clear ez7
          clear bz7
          refine And.intro ⟨rfl, by decide, by decide⟩ ?_
          refine Exists.intro xm_244 (And.intro mi_244 (And.intro ⟨rfl, rfl, rfl, rfl⟩ (And.intro rfl ?_)))
          refine fcallp hB1 (ct_M_workAt_83d38 (fBz h0 hB1) (by first | exact ⟨hb.1.1, hb.1.2⟩ | omega)) ?_
          rintro _ ⟨_, rfl, rfl⟩
          refine fload rL_741_741_535_857_14_0 h0 hB1 (by omega) ?_
          intro z9 lz9 uz9 qz9
          refine And.intro (by omega) (And.intro ?_ ?_)
          · intro c10
            exact fcutJ (I := I1) (j := jc_M_depth_0e6f9_23) (lv' := [(0, .inr (.inr (some 740))), (1, .inl _), (3, .inl _), (4, .inl _), (5, .inl _)]) (And.intro rfl (And.intro rfl (And.intro rfl (And.intro rfl (And.intro rfl True.intro))))) ⟨_, _, _, _, rfl, rfl, by omega, rfl⟩ (by omega)
          · intro c11
            refine And.intro (True.intro) ?_
            exact ⟨_, rfl, by omega⟩
        · intro c12
          intro z13 hz13 ez13 bz13
          clear ez13
          have bz13 := bz13 (by omega)
          refine And.intro ⟨rfl, by decide, by decide⟩ ?_
          intro z14 hz14 ez14 bz14
          clear ez14
          have bz14 := bz14 (by omega)
          refine fload rL_741_741_1081_1141_1_0 h0 hB1 (by omega) ?_
          intro z15 lz15 uz15 qz15
          intro z16 hz16 ez16 bz16
          clear ez16
          clear bz16
          refine And.intro ⟨rfl, by decide, by decide⟩ ?_
          refine Exists.intro xm_244 (And.intro mi_244 (And.intro ⟨rfl, rfl, rfl, rfl⟩ (And.intro rfl ?_)))
          refine fcallp hB1 (ct_M_workAt_83d38 (fBz h0 hB1) (by first | exact ⟨hb.1.1, hb.1.2⟩ | omega)) ?_
          rintro _ ⟨_, rfl, rfl⟩
          refine fload rL_741_741_535_857_14_0 h0 hB1 (by omega) ?_
          intro z18 lz18 uz18 qz18
          refine And.intro (by omega) (And.intro ?_ ?_)
          · intro c19
            exact fcutJ (I := I1) (j := jc_M_depth_0e6f9_23) (lv' := [(0, .inr (.inr (some 740))), (1, .inl _), (3, .inl _), (4, .inl _), (5, .inl _)]) (And.intro rfl (And.intro rfl (And.intro rfl (And.intro rfl (And.intro rfl True.intro))))) ⟨_, _, _, _, rfl, rfl, by omega, rfl⟩ (by omega)
          · intro c20
            refine And.intro (True.intro) ?_
            exact ⟨_, rfl, by omega⟩
  · have hB0 := fB_self (zn := znJ) (K := fKc []) h0
    refine Exists.intro xm_275 (And.intro mi_275 (And.intro ⟨rfl, rfl, rfl, rfl⟩ (And.intro rfl ?_)))
    refine fcallp hB0 (ct_M_stops_1e639 (fBz h0 hB0) (by first | exact ⟨ha1.1, ha1.2⟩ | omega)) ?_
    rintro _ ⟨z21, rfl, hz21⟩
    refine And.intro (by omega) (And.intro ?_ ?_)
    · intro c22
      refine Exists.intro xm_260 (And.intro mi_260 (And.intro ⟨rfl, rfl, rfl, rfl⟩ (And.intro rfl ?_)))
      refine fcallp hB0 (ct_M_level_daf8a (fBz h0 hB0)) ?_
      rintro _ ⟨z23, rfl, hz23⟩
      exact fcutJ (I := I) (j := jc_M_depth_0e6f9_23) (lv' := [(0, .inr (.inr (some 740))), (1, .inl _), (3, .inl _), (4, .inl _), (5, .inl _)]) (And.intro rfl (And.intro rfl (And.intro rfl (And.intro rfl (And.intro rfl True.intro))))) ⟨_, _, _, _, rfl, rfl, by omega, rfl⟩ (by omega)
    · intro c24
      refine And.intro (True.intro) ?_
      exact ⟨_, rfl, by omega⟩
set_option maxRecDepth 8000 in
theorem ct_X_swap_2eeae {I : fH} {x0 : Nat} {x1 : Int} {x2 : Int} (h0 : fB bsJ I) (ha0 : (184 ≤ x0 ∧ x0 ≤ 186)) (ha1 : (0 ≤ x1 ∧ x1 ≤ 60)) (ha2 : (0 ≤ x2 ∧ x2 ≤ 9999)) : fC ρ base n F xTc vwCl xTys D dA la gJ (fbz bsJ znJ (fKc wz_2d238) I) xm_18 [.inr (.inr (some x0)), .inl x1, .inl x2] I (fun I' r => ∃ z, r = some (.inl z) ∧ ((-2147483648) ≤ z ∧ z ≤ 2147483647) ∧ (I' = fupd I x0 x1.toNat x2) ∧ (z = I x0 x1.toNat)) := by
  have hW : fzs wz_2d238 (fKc wz_2d238) := fKc_ok _
  refine f_meth (rb := rbJ) (J := []) 1 400 xG xin_18 x6_18 okJ (fB_self h0) ?_ ?_
  · exact fun q h => absurd h List.not_mem_nil
  · have hB0 := fB_self (zn := znJ) (K := fKc wz_2d238) h0
    refine fload rL_184_186_0_60_1_0 h0 hB0 (by omega) ?_
    intro z1 lz1 uz1 qz1
    refine fstore rS_184_186_0_60_1_0 (fzs_sub (by decide +kernel) hW) (by omega) (by first | exact ⟨Int.le_trans (by decide) ha2.1, Int.le_trans ha2.2 (by decide)⟩ | omega) ?_
    intro IhB2 ehB2 hB2
    have t3 := fup_self ehB2
    refine And.intro (True.intro) ?_
    exact ⟨_, rfl, (by first | exact ⟨lz1, uz1⟩ | omega), ehB2, qz1⟩
set_option maxRecDepth 8000 in
theorem ct_X_table_655e5 {I : fH} {x1 : Int} {x2 : Int} {x3 : Int} (h0 : fB bsJ I) (ha1 : ((-2147483648) ≤ x1 ∧ x1 ≤ 2147483647)) (ha2 : ((-2147483648) ≤ x2 ∧ x2 ≤ 2147483647)) (ha3 : ((-2147483648) ≤ x3 ∧ x3 ≤ 2147483647)) : fC ρ base n F xTc vwCl xTys D dA la gJ (fbz bsJ znJ (fKc wz_2d238) I) xm_58 [.inr (.inr (some 0)), .inl x1, .inl x2, .inl x3] I (fun I' r => ∃ z, r = some (.inl z) ∧ ((-2147483648) ≤ z ∧ z ≤ 2147483647) ∧ (((0 ≤ x1 ∧ x1 ≤ 2 ∧ 0 ≤ x2 ∧ x2 ≤ 60 ∧ 0 ≤ x3 ∧ x3 ≤ 9999) ∧ I' = fupd I (184 + x1.toNat) x2.toNat x3 ∧ z = I (184 + x1.toNat) x2.toNat) ∨ (¬ (0 ≤ x1 ∧ x1 ≤ 2 ∧ 0 ≤ x2 ∧ x2 ≤ 60 ∧ 0 ≤ x3 ∧ x3 ≤ 9999) ∧ I' = I ∧ z = (-1000000001)))) := by
  have hW : fzs wz_2d238 (fKc wz_2d238) := fKc_ok _
  refine f_meth (rb := rbJ) (J := []) 1 400 xG xin_58 x6_58 okJ (fB_self h0) ?_ ?_
  · exact fun q h => absurd h List.not_mem_nil
  · have hB0 := fB_self (zn := znJ) (K := fKc wz_2d238) h0
    refine Exists.intro xm_13 (And.intro mi_13 (And.intro ⟨rfl, rfl, rfl, rfl⟩ (And.intro True.intro ?_)))
    refine fcallp hB0 (ct_X_within_c27b1 (fBz h0 hB0) (by first | exact ⟨ha1.1, ha1.2⟩ | omega) (by first | exact ⟨by decide, by decide⟩ | omega) (by first | exact ⟨by decide, by decide⟩ | omega)) ?_
    rintro _ ⟨z1, rfl, hz1⟩
    refine And.intro (by omega) (And.intro ?_ ?_)
    · intro c2
      refine And.intro (True.intro) ?_
      exact ⟨_, rfl, (by first | exact ⟨by decide, by decide⟩ | omega), (by first | exact Or.inl ⟨by omega, g0nil0, g1nil0⟩ | exact Or.inr ⟨by omega, rfl, by omega⟩)⟩
    · intro c3
      refine Exists.intro xm_13 (And.intro mi_13 (And.intro ⟨rfl, rfl, rfl, rfl⟩ (And.intro True.intro ?_)))
      refine fcallp hB0 (ct_X_within_c27b1 (fBz h0 hB0) (by first | exact ⟨ha2.1, ha2.2⟩ | omega) (by first | exact ⟨by decide, by decide⟩ | omega) (by first | exact ⟨by decide, by decide⟩ | omega)) ?_
      rintro _ ⟨z4, rfl, hz4⟩
      refine And.intro (by omega) (And.intro ?_ ?_)
      · intro c5
        refine And.intro (True.intro) ?_
        exact ⟨_, rfl, (by first | exact ⟨by decide, by decide⟩ | omega), (by first | exact Or.inl ⟨by omega, g0nil0, g1nil0⟩ | exact Or.inr ⟨by omega, rfl, by omega⟩)⟩
      · intro c6
        refine Exists.intro xm_13 (And.intro mi_13 (And.intro ⟨rfl, rfl, rfl, rfl⟩ (And.intro True.intro ?_)))
        refine fcallp hB0 (ct_X_within_c27b1 (fBz h0 hB0) (by first | exact ⟨ha3.1, ha3.2⟩ | omega) (by first | exact ⟨by decide, by decide⟩ | omega) (by first | exact ⟨by decide, by decide⟩ | omega)) ?_
        rintro _ ⟨z7, rfl, hz7⟩
        refine And.intro (by omega) (And.intro ?_ ?_)
        · intro c8
          refine And.intro ⟨rfl, by decide, by decide⟩ ?_
          refine And.intro ⟨rfl, by decide, by decide⟩ ?_
          refine And.intro ⟨rfl, by decide⟩ (And.intro (by first | exact ⟨Int.le_trans (by decide) (Int.le_trans (Int.le_refl _) hz1.1), Int.lt_of_le_of_lt (Int.le_trans hz1.2 (Int.le_refl _)) (by decide)⟩ | omega) ?_)
          refine Exists.intro xm_18 (And.intro mi_18 (And.intro ⟨rfl, rfl, rfl, rfl⟩ (And.intro True.intro ?_)))
          refine fcall _ h0 (fzs_sub (by decide +kernel) hW) hB0 (ct_X_swap_2eeae (fBz h0 hB0) (by omega) (by first | exact ⟨Int.le_trans (by decide) (Int.le_trans (Int.le_refl _) hz4.1), Int.le_trans (Int.le_trans hz4.2 (Int.le_refl _)) (by decide)⟩ | omega) (by first | exact ⟨Int.le_trans (by decide) (Int.le_trans (Int.le_refl _) hz7.1), Int.le_trans (Int.le_trans hz7.2 (Int.le_refl _)) (by decide)⟩ | omega)) ?_
          rintro IhB10 _ hB10 fhB10 ⟨z9, rfl, hz9, g0z9, g1z9⟩
          refine And.intro (True.intro) ?_
          exact ⟨_, rfl, (by first | exact ⟨hz9.1, hz9.2⟩ | omega), (by first | exact Or.inl ⟨by omega, g0z9, g1z9⟩ | exact Or.inr ⟨by omega, rfl, by omega⟩)⟩
        · intro c11
          refine And.intro (True.intro) ?_
          exact ⟨_, rfl, (by first | exact ⟨by decide, by decide⟩ | omega), (by first | exact Or.inl ⟨by omega, g0z9, g1z9⟩ | exact Or.inr ⟨by omega, rfl, by omega⟩)⟩
set_option maxRecDepth 8000 in
theorem ct_M_put_b8f03 {I : fH} {x1 : Int} {x2 : Int} (h0 : fB bsJ I) (ha1 : ((1020 ≤ x1 ∧ x1 ≤ 1202) ∧ (x1 - 1020) % 61 ≤ 60)) (ha2 : (0 ≤ x2 ∧ x2 ≤ 9999)) : fC ρ base n F xTc vwCl xTys D dA la gJ (fbz bsJ znJ (fKc wz_bcfb8) I) xm_242 [.inr (.inr (some 740)), .inl x1, .inl x2] I (fun I' r => ∃ z, r = some (.inl z) ∧ ((-2147483648) ≤ z ∧ z ≤ 2147483647) ∧ (I' = fupd I 741 x1.toNat x2) ∧ (z = I 741 x1.toNat)) := by
  have hW : fzs wz_bcfb8 (fKc wz_bcfb8) := fKc_ok _
  refine f_meth (rb := rbJ) (J := []) 1 400 xG xin_242 x6_242 okJ (fB_self h0) ?_ ?_
  · exact fun q h => absurd h List.not_mem_nil
  · have hB0 := fB_self (zn := znJ) (K := fKc wz_bcfb8) h0
    refine And.intro ⟨rfl, by decide, by decide⟩ ?_
    refine fload rL_741_741_1020_1202_61_60 h0 hB0 (by omega) ?_
    intro z1 lz1 uz1 qz1
    refine And.intro ⟨rfl, by decide, by decide⟩ ?_
    refine fstore rS_741_741_1020_1202_61_60 (fzs_sub (by decide +kernel) hW) (by omega) (by first | exact ⟨Int.le_trans (by decide) ha2.1, Int.le_trans ha2.2 (by decide)⟩ | omega) ?_
    intro IhB2 ehB2 hB2
    have t3 := fup_self ehB2
    refine And.intro (True.intro) ?_
    exact ⟨_, rfl, (by first | exact ⟨lz1, uz1⟩ | omega), ehB2, qz1⟩
set_option maxRecDepth 8000 in
theorem ct_M_table_57a0f {I : fH} {x1 : Int} {x2 : Int} {x3 : Int} (h0 : fB bsJ I) (ha1 : ((-2147483648) ≤ x1 ∧ x1 ≤ 2147483647)) (ha2 : ((-2147483648) ≤ x2 ∧ x2 ≤ 2147483647)) (ha3 : ((-2147483648) ≤ x3 ∧ x3 ≤ 2147483647)) : fC ρ base n F xTc vwCl xTys D dA la gJ (fbz bsJ znJ (fKc wz_bcfb8) I) xm_277 [.inr (.inr (some 740)), .inl x1, .inl x2, .inl x3] I (fun I' r => ∃ z, r = some (.inl z) ∧ ((-2147483648) ≤ z ∧ z ≤ 2147483647) ∧ (((0 ≤ x1 ∧ x1 ≤ 2 ∧ 0 ≤ x2 ∧ x2 ≤ 60 ∧ 0 ≤ x3 ∧ x3 ≤ 9999) ∧ I' = fupd I 741 (1020 + 61 * x1 + x2).toNat x3 ∧ z = I 741 (1020 + 61 * x1 + x2).toNat) ∨ (¬ (0 ≤ x1 ∧ x1 ≤ 2 ∧ 0 ≤ x2 ∧ x2 ≤ 60 ∧ 0 ≤ x3 ∧ x3 ≤ 9999) ∧ I' = I ∧ z = (-1000000001)))) := by
  have hW : fzs wz_bcfb8 (fKc wz_bcfb8) := fKc_ok _
  refine f_meth (rb := rbJ) (J := []) 1 400 xG xin_277 x6_277 okJ (fB_self h0) ?_ ?_
  · exact fun q h => absurd h List.not_mem_nil
  · have hB0 := fB_self (zn := znJ) (K := fKc wz_bcfb8) h0
    refine And.intro (by first | exact fi_ ha1.1 ha1.2 rfl | omega) ?_
    refine Exists.intro xm_238 (And.intro mi_238 (And.intro ⟨rfl, rfl, rfl, rfl⟩ (And.intro True.intro ?_)))
    refine fcallp hB0 (ct_M_isIn_27230 (fBz h0 hB0) (by first | exact ⟨ha1.1, ha1.2⟩ | omega) (by first | exact ⟨by decide, by decide⟩ | omega) (by first | exact ⟨by decide, by decide⟩ | omega)) ?_
    rintro _ ⟨z1, rfl, hz1⟩
    refine And.intro (by omega) (And.intro ?_ ?_)
    · intro c2
      refine And.intro (True.intro) ?_
      exact ⟨_, rfl, by omega, (by first | exact Or.inl ⟨by omega, g0nil0.trans (fupd_ix (by omega)), g1nil0.trans (fld_ix (by omega))⟩ | exact Or.inr ⟨by omega, rfl, by omega⟩)⟩
    · intro c3
      refine And.intro (by first | exact fi_ ha2.1 ha2.2 rfl | omega) ?_
      refine Exists.intro xm_238 (And.intro mi_238 (And.intro ⟨rfl, rfl, rfl, rfl⟩ (And.intro True.intro ?_)))
      refine fcallp hB0 (ct_M_isIn_27230 (fBz h0 hB0) (by first | exact ⟨ha2.1, ha2.2⟩ | omega) (by first | exact ⟨by decide, by decide⟩ | omega) (by first | exact ⟨by decide, by decide⟩ | omega)) ?_
      rintro _ ⟨z4, rfl, hz4⟩
      refine And.intro (by omega) (And.intro ?_ ?_)
      · intro c5
        refine And.intro (True.intro) ?_
        exact ⟨_, rfl, by omega, (by first | exact Or.inl ⟨by omega, g0nil0.trans (fupd_ix (by omega)), g1nil0.trans (fld_ix (by omega))⟩ | exact Or.inr ⟨by omega, rfl, by omega⟩)⟩
      · intro c6
        refine And.intro (by first | exact fi_ ha3.1 ha3.2 rfl | omega) ?_
        refine Exists.intro xm_238 (And.intro mi_238 (And.intro ⟨rfl, rfl, rfl, rfl⟩ (And.intro True.intro ?_)))
        refine fcallp hB0 (ct_M_isIn_27230 (fBz h0 hB0) (by first | exact ⟨ha3.1, ha3.2⟩ | omega) (by first | exact ⟨by decide, by decide⟩ | omega) (by first | exact ⟨by decide, by decide⟩ | omega)) ?_
        rintro _ ⟨z7, rfl, hz7⟩
        refine And.intro (by omega) (And.intro ?_ ?_)
        · intro c8
          refine And.intro (True.intro) ?_
          exact ⟨_, rfl, by omega, (by first | exact Or.inl ⟨by omega, g0nil0.trans (fupd_ix (by omega)), g1nil0.trans (fld_ix (by omega))⟩ | exact Or.inr ⟨by omega, rfl, by omega⟩)⟩
        · intro c9
          refine Exists.intro xm_242 (And.intro mi_242 (And.intro ⟨rfl, rfl, rfl, rfl⟩ (And.intro rfl ?_)))
          refine fcall _ h0 (fzs_sub (by decide +kernel) hW) hB0 (ct_M_put_b8f03 (fBz h0 hB0) (by omega) (by first | exact ⟨Int.le_trans (by decide) (Int.le_trans (Int.le_refl _) hz7.1), Int.le_trans (Int.le_trans hz7.2 (Int.le_refl _)) (by decide)⟩ | omega)) ?_
          rintro IhB11 _ hB11 fhB11 ⟨z10, rfl, hz10, g0z10, g1z10⟩
          refine And.intro (True.intro) ?_
          exact ⟨_, rfl, (by first | exact ⟨hz10.1, hz10.2⟩ | omega), (by first | exact Or.inl ⟨by omega, g0z10.trans (fupd_ix (by omega)), g1z10.trans (fld_ix (by omega))⟩ | exact Or.inr ⟨by omega, rfl, by omega⟩)⟩
abbrev jc_City_setTo_b8c84_28 : Nat → fL → List fV → fH → Prop := fun m lv st I => ∃ (y1 : Int) (y2 : Int), lv = [(0, .inr (.inr (some 1))), (1, .inl y1), (2, .inl y2)] ∧ st = [] ∧ ((((-2147483648) ≤ y1 ∧ y1 ≤ 2147483647) ∧ ((-2147483648) ≤ y2 ∧ y2 ≤ 2147483647))) ∧ m = (5 : Int).toNat
abbrev jc_City_setTo_b8c84_56 : Nat → fL → List fV → fH → Prop := fun m lv st I => ∃ (y1 : Int) (y2 : Int), lv = [(0, .inr (.inr (some 1))), (1, .inl y1), (2, .inl y2)] ∧ st = [] ∧ ((((-2147483648) ≤ y1 ∧ y1 ≤ 2147483647) ∧ ((-2147483648) ≤ y2 ∧ y2 ≤ 2147483647))) ∧ m = (4 : Int).toNat
abbrev jc_City_setTo_b8c84_85 : Nat → fL → List fV → fH → Prop := fun m lv st I => ∃ (y1 : Int) (y2 : Int), lv = [(0, .inr (.inr (some 1))), (1, .inl y1), (2, .inl y2)] ∧ st = [] ∧ ((((-2147483648) ≤ y1 ∧ y1 ≤ 2147483647) ∧ ((-2147483648) ≤ y2 ∧ y2 ≤ 2147483647))) ∧ m = (3 : Int).toNat
abbrev jc_City_setTo_b8c84_113 : Nat → fL → List fV → fH → Prop := fun m lv st I => lv = [] ∧ st = [] ∧ (True) ∧ m = (2 : Int).toNat
abbrev jc_City_setTo_b8c84_116 : Nat → fL → List fV → fH → Prop := fun m lv st I => ∃ (y3 : Int), lv = [(3, .inl y3)] ∧ st = [] ∧ ((((-2147483648) ≤ y3 ∧ y3 ≤ 2147483647))) ∧ m = (1 : Int).toNat
set_option maxRecDepth 8000 in
theorem ct_City_setTo_b8c84 {I : fH} {x1 : Int} {x2 : Int} (h0 : fB bsJ I) (ha1 : ((-2147483648) ≤ x1 ∧ x1 ≤ 2147483647)) (ha2 : ((-2147483648) ≤ x2 ∧ x2 ≤ 2147483647)) : fC ρ base n F xTc vwCl xTys D dA la gJ (fbz bsJ znJ (fKc wz_310ed) I) xm_60 [.inr (.inr (some 1)), .inl x1, .inl x2] I (fun _ r => ∃ z, r = some (.inl z) ∧ ((-2147483648) ≤ z ∧ z ≤ 2147483647)) := by
  have hW : fzs wz_310ed (fKc wz_310ed) := fKc_ok _
  refine f_meth (rb := rbJ) (J := [(28, jc_City_setTo_b8c84_28), (56, jc_City_setTo_b8c84_56), (85, jc_City_setTo_b8c84_85), (113, jc_City_setTo_b8c84_113), (116, jc_City_setTo_b8c84_116)]) 6 400 xG xin_60 x6_60 okJ (fB_self h0) ?_ ?_
  · refine List.forall_mem_cons.mpr ⟨?_, List.forall_mem_cons.mpr ⟨?_, List.forall_mem_cons.mpr ⟨?_, List.forall_mem_cons.mpr ⟨?_, List.forall_mem_cons.mpr ⟨?_, fun q h => absurd h List.not_mem_nil⟩⟩⟩⟩⟩
    · rintro m _ _ I1 hB1 ⟨y1, y2, rfl, rfl, hb, hm⟩
      refine And.intro (And.intro (by first | exact fi_ hb.1.1 hb.1.2 rfl | omega) (by first | exact ⟨by decide, by decide⟩ | omega)) (And.intro ?_ ?_)
      · intro c1
        exact fcutJ (I := I1) (j := jc_City_setTo_b8c84_56) (lv' := [(0, .inr (.inr (some 1))), (1, .inl _), (2, .inl _)]) (And.intro rfl (And.intro rfl (And.intro rfl True.intro))) ⟨_, _, rfl, rfl, by omega, rfl⟩ (by omega)
      · intro c2
        refine Exists.intro xm_13 (And.intro mi_13 (And.intro ⟨rfl, rfl, rfl, rfl⟩ (And.intro True.intro ?_)))
        refine fcallp hB1 (ct_X_within_c27b1 (fBz h0 hB1) (by first | exact ⟨hb.2.1, hb.2.2⟩ | omega) (by first | exact ⟨by decide, by decide⟩ | omega) (by first | exact ⟨by decide, by decide⟩ | omega)) ?_
        rintro _ ⟨z3, rfl, hz3⟩
        refine And.intro (by omega) (And.intro ?_ ?_)
        · intro c4
          exact fcutJ (I := I1) (j := jc_City_setTo_b8c84_56) (lv' := [(0, .inr (.inr (some 1))), (1, .inl _), (2, .inl _)]) (And.intro rfl (And.intro rfl (And.intro rfl True.intro))) ⟨_, _, rfl, rfl, by omega, rfl⟩ (by omega)
        · intro c5
          refine And.intro ⟨rfl, by decide, by decide⟩ (fgetf fb_1_6 h0 hB1 ?_)
          intro z6 lz6 uz6 qz6
          refine And.intro ⟨rfl, by decide, by decide⟩ (And.intro rfl (And.intro (Or.inl rfl) (fputf fb_1_6 (by decide +kernel) hW (by first | exact ⟨Int.le_trans (by decide) (Int.le_trans (Int.le_refl _) hz3.1), Int.le_trans (Int.le_trans hz3.2 (Int.le_refl _)) (by decide)⟩ | omega) ?_)))
          intro IhB7 ehB7 hB7
          have t8 := fup_at ehB7 6 (by first | rfl | omega)
          exact fcutJ (I := IhB7) (j := jc_City_setTo_b8c84_116) (lv' := [(3, .inl _)]) (And.intro rfl True.intro) ⟨_, rfl, rfl, by omega, rfl⟩ (by omega)
    · rintro m _ _ I1 hB1 ⟨y1, y2, rfl, rfl, hb, hm⟩
      refine And.intro (And.intro (by first | exact fi_ hb.1.1 hb.1.2 rfl | omega) (by first | exact ⟨by decide, by decide⟩ | omega)) (And.intro ?_ ?_)
      · intro c9
        exact fcutJ (I := I1) (j := jc_City_setTo_b8c84_85) (lv' := [(0, .inr (.inr (some 1))), (1, .inl _), (2, .inl _)]) (And.intro rfl (And.intro rfl (And.intro rfl True.intro))) ⟨_, _, rfl, rfl, by omega, rfl⟩ (by omega)
      · intro c10
        refine Exists.intro xm_13 (And.intro mi_13 (And.intro ⟨rfl, rfl, rfl, rfl⟩ (And.intro True.intro ?_)))
        refine fcallp hB1 (ct_X_within_c27b1 (fBz h0 hB1) (by first | exact ⟨hb.2.1, hb.2.2⟩ | omega) (by first | exact ⟨by decide, by decide⟩ | omega) (by first | exact ⟨by decide, by decide⟩ | omega)) ?_
        rintro _ ⟨z11, rfl, hz11⟩
        refine And.intro (by omega) (And.intro ?_ ?_)
        · intro c12
          exact fcutJ (I := I1) (j := jc_City_setTo_b8c84_85) (lv' := [(0, .inr (.inr (some 1))), (1, .inl _), (2, .inl _)]) (And.intro rfl (And.intro rfl (And.intro rfl True.intro))) ⟨_, _, rfl, rfl, by omega, rfl⟩ (by omega)
        · intro c13
          refine And.intro ⟨rfl, by decide, by decide⟩ (fgetf fb_1_7 h0 hB1 ?_)
          intro z14 lz14 uz14 qz14
          refine And.intro ⟨rfl, by decide, by decide⟩ (And.intro rfl (And.intro (Or.inl rfl) (fputf fb_1_7 (by decide +kernel) hW (by first | exact ⟨Int.le_trans (by decide) (Int.le_trans (Int.le_refl _) hz11.1), Int.le_trans (Int.le_trans hz11.2 (Int.le_refl _)) (by decide)⟩ | omega) ?_)))
          intro IhB15 ehB15 hB15
          have t16 := fup_at ehB15 7 (by first | rfl | omega)
          exact fcutJ (I := IhB15) (j := jc_City_setTo_b8c84_116) (lv' := [(3, .inl _)]) (And.intro rfl True.intro) ⟨_, rfl, rfl, by omega, rfl⟩ (by omega)
    · rintro m _ _ I1 hB1 ⟨y1, y2, rfl, rfl, hb, hm⟩
      refine And.intro (And.intro (by first | exact fi_ hb.1.1 hb.1.2 rfl | omega) (by first | exact ⟨by decide, by decide⟩ | omega)) (And.intro ?_ ?_)
      · intro c17
        exact fcutJ (I := I1) (j := jc_City_setTo_b8c84_113) (lv' := []) (True.intro) ⟨rfl, rfl, True.intro, rfl⟩ (by omega)
      · intro c18
        refine Exists.intro xm_13 (And.intro mi_13 (And.intro ⟨rfl, rfl, rfl, rfl⟩ (And.intro True.intro ?_)))
        refine fcallp hB1 (ct_X_within_c27b1 (fBz h0 hB1) (by first | exact ⟨hb.2.1, hb.2.2⟩ | omega) (by first | exact ⟨by decide, by decide⟩ | omega) (by first | exact ⟨by decide, by decide⟩ | omega)) ?_
        rintro _ ⟨z19, rfl, hz19⟩
        refine And.intro (by omega) (And.intro ?_ ?_)
        · intro c20
          exact fcutJ (I := I1) (j := jc_City_setTo_b8c84_113) (lv' := []) (True.intro) ⟨rfl, rfl, True.intro, rfl⟩ (by omega)
        · intro c21
          refine And.intro ⟨rfl, by decide, by decide⟩ (fgetf fb_1_8 h0 hB1 ?_)
          intro z22 lz22 uz22 qz22
          refine And.intro ⟨rfl, by decide, by decide⟩ (And.intro rfl (And.intro (Or.inl rfl) (fputf fb_1_8 (by decide +kernel) hW (by first | exact ⟨Int.le_trans (by decide) (Int.le_trans (Int.le_refl _) hz19.1), Int.le_trans (Int.le_trans hz19.2 (Int.le_refl _)) (by decide)⟩ | omega) ?_)))
          intro IhB23 ehB23 hB23
          have t24 := fup_at ehB23 8 (by first | rfl | omega)
          exact fcutJ (I := IhB23) (j := jc_City_setTo_b8c84_116) (lv' := [(3, .inl _)]) (And.intro rfl True.intro) ⟨_, rfl, rfl, by omega, rfl⟩ (by omega)
    · rintro m _ _ I1 hB1 ⟨rfl, rfl, hb, hm⟩
      exact fcutJ (I := I1) (j := jc_City_setTo_b8c84_116) (lv' := [(3, .inl _)]) (And.intro rfl True.intro) ⟨_, rfl, rfl, by omega, rfl⟩ (by omega)
    · rintro m _ _ I1 hB1 ⟨y3, rfl, rfl, hb, hm⟩
      refine And.intro (True.intro) ?_
      exact ⟨_, rfl, (by first | exact ⟨hb.1, hb.2⟩ | omega)⟩
  · have hB0 := fB_self (zn := znJ) (K := fKc wz_310ed) h0
    refine And.intro (by first | exact fi_ ha1.1 ha1.2 rfl | omega) (And.intro ?_ ?_)
    · intro c25
      exact fcutJ (I := I) (j := jc_City_setTo_b8c84_28) (lv' := [(0, .inr (.inr (some 1))), (1, .inl _), (2, .inl _)]) (And.intro rfl (And.intro rfl (And.intro rfl True.intro))) ⟨_, _, rfl, rfl, by omega, rfl⟩ (by omega)
    · intro c26
      refine Exists.intro xm_13 (And.intro mi_13 (And.intro ⟨rfl, rfl, rfl, rfl⟩ (And.intro True.intro ?_)))
      refine fcallp hB0 (ct_X_within_c27b1 (fBz h0 hB0) (by first | exact ⟨ha2.1, ha2.2⟩ | omega) (by first | exact ⟨by decide, by decide⟩ | omega) (by first | exact ⟨by decide, by decide⟩ | omega)) ?_
      rintro _ ⟨z27, rfl, hz27⟩
      refine And.intro (by omega) (And.intro ?_ ?_)
      · intro c28
        exact fcutJ (I := I) (j := jc_City_setTo_b8c84_28) (lv' := [(0, .inr (.inr (some 1))), (1, .inl _), (2, .inl _)]) (And.intro rfl (And.intro rfl (And.intro rfl True.intro))) ⟨_, _, rfl, rfl, by omega, rfl⟩ (by omega)
      · intro c29
        refine And.intro ⟨rfl, by decide, by decide⟩ (fgetf fb_1_5 h0 hB0 ?_)
        intro z30 lz30 uz30 qz30
        refine And.intro ⟨rfl, by decide, by decide⟩ (And.intro rfl (And.intro (Or.inl rfl) (fputf fb_1_5 (by decide +kernel) hW (by first | exact ⟨Int.le_trans (by decide) (Int.le_trans (Int.le_refl _) hz27.1), Int.le_trans (Int.le_trans hz27.2 (Int.le_refl _)) (by decide)⟩ | omega) ?_)))
        intro IhB31 ehB31 hB31
        have t32 := fup_at ehB31 5 (by first | rfl | omega)
        exact fcutJ (I := IhB31) (j := jc_City_setTo_b8c84_116) (lv' := [(3, .inl _)]) (And.intro rfl True.intro) ⟨_, rfl, rfl, by omega, rfl⟩ (by omega)
end CT

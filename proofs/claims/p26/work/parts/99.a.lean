/-! contracts (written by gen95.py) -/
abbrev wz_4b79b : List Nat := [20101, 20102, 20103, 20104, 20105, 20106]
theorem x6_240 : f60c xTc xTys xm_240 = true := by decide +kernel
abbrev wz_5ef89 : List Nat := [748, 749]
abbrev wz_3c4d3 : List Nat := [748]
abbrev wz_4cdea : List Nat := [20301, 20303, 20305, 20307, 20309, 20311, 20313]
theorem x6_271 : f60c xTc xTys xm_271 = true := by decide +kernel
abbrev wz_72684 : List Nat := [20001, 20002, 20003, 20004]
theorem x6_278 : f60c xTc xTys xm_278 = true := by decide +kernel
abbrev wz_4df1d : List Nat := [20400, 20401, 20402, 20403]
theorem x6_306 : f60c xTc xTys xm_306 = true := by decide +kernel
theorem x6_309 : f60c xTc xTys xm_309 = true := by decide +kernel
theorem rL_741_741_8_8_1_0 : frL gJ bsJ 100 ((741, 741), (8, 8), (1, 0), (0, 24)) := frL_of (by decide +kernel)
theorem rL_741_741_7_7_1_0 : frL gJ bsJ 100 ((741, 741), (7, 7), (1, 0), (0, 24)) := frL_of (by decide +kernel)
theorem rS_748_748_0_127_1_0 : frS gJ bsJ znJ [748] 100 ((748, 748), (0, 127), (1, 0), ((-2147483648), 2147483647)) := frS_dflt (by decide) (by decide +kernel)
theorem rL_741_741_535_857_14_0 : frL gJ bsJ 100 ((741, 741), (535, 857), (14, 0), ((-2147483648), 2147483647)) := frL_hull (by decide) (by decide +kernel)
abbrev wz_5dd44 : List Nat := [188, 189, 190, 191, 192, 193, 10506]
theorem x6_131 : f60c xTc xTys xm_131 = true := by decide +kernel
theorem fb_187_6 : bsJ 187 6 = (0, 12) := by decide +kernel
theorem fb_699_2 : bsJ 699 2 = ((-2147483648), 2147483647) := by decide +kernel
theorem rS_188_188_0_11_1_0 : frS gJ bsJ znJ [188] 100 ((188, 188), (0, 11), (1, 0), ((-2147483648), 2147483647)) := frS_dflt (by decide) (by decide +kernel)
theorem rS_189_189_0_11_1_0 : frS gJ bsJ znJ [189] 100 ((189, 189), (0, 11), (1, 0), ((-2147483648), 2147483647)) := frS_dflt (by decide) (by decide +kernel)
theorem rS_190_190_0_11_1_0 : frS gJ bsJ znJ [190] 100 ((190, 190), (0, 11), (1, 0), ((-2147483648), 2147483647)) := frS_dflt (by decide) (by decide +kernel)
theorem fb_699_5 : bsJ 699 5 = ((-2147483648), 2147483647) := by decide +kernel
theorem rS_191_191_0_11_1_0 : frS gJ bsJ znJ [191] 100 ((191, 191), (0, 11), (1, 0), ((-2147483648), 2147483647)) := frS_dflt (by decide) (by decide +kernel)
theorem fb_699_4 : bsJ 699 4 = (0, 96) := by decide +kernel
theorem rS_192_192_0_11_1_0 : frS gJ bsJ znJ [192] 100 ((192, 192), (0, 11), (1, 0), (0, 96)) := frS_of (by decide +kernel)
abbrev wz_1c18d : List Nat := [12209, 12210, 12211, 12212, 12213]
abbrev wz_6dafe : List Nat := [12216, 20605, 20840]
abbrev wz_2212a : List Nat := [12209, 12210, 12211, 12212, 12213, 12214, 12215, 12216, 12218, 20605, 20840]
theorem x6_404 : f60c xTc xTys xm_404 = true := by decide +kernel
theorem fb_740_8 : bsJ 740 8 = (0, 96) := by decide +kernel
theorem fb_740_14 : bsJ 740 14 = (0, 8) := by decide +kernel
theorem fb_740_15 : bsJ 740 15 = (0, 8) := by decide +kernel
theorem fb_740_11 : bsJ 740 11 = ((-2147483648), 2147483647) := by decide +kernel
theorem fb_740_13 : bsJ 740 13 = ((-2147483648), 2147483647) := by decide +kernel
theorem fb_740_18 : bsJ 740 18 = ((-2147483648), 2147483647) := by decide +kernel
theorem fb_740_12 : bsJ 740 12 = ((-2147483648), 2147483647) := by decide +kernel
theorem x6_405 : f60c xTc xTys xm_405 = true := by decide +kernel
theorem x6_430 : f60c xTc xTys xm_430 = true := by decide +kernel
abbrev wz_4d25e : List Nat := [757, 758, 12233, 12234, 12235]
abbrev wz_518f7 : List Nat := [760, 12239]
abbrev wz_96c9e : List Nat := [757, 758, 760, 12233, 12234, 12235, 12239]
theorem x6_492 : f60c xTc xTys xm_492 = true := by decide +kernel
theorem rL_741_741_12_12_1_0 : frL gJ bsJ 100 ((741, 741), (12, 12), (1, 0), (0, 7)) := frL_of (by decide +kernel)
theorem rL_758_758_0_6_1_0 : frL gJ bsJ 100 ((758, 758), (0, 6), (1, 0), (0, 6)) := frL_of (by decide +kernel)
theorem rL_741_741_4370_4388_3_0 : frL gJ bsJ 100 ((741, 741), (4370, 4388), (3, 0), ((-2147483648), 2147483647)) := frL_hull (by decide) (by decide +kernel)
section CT
variable {ρ : Nat → Int32} {base n : Nat} {F : Nat → Prop} {D : va_G} {dA : Nat → ClassId} {la : Launch}
theorem ct_M_isIn_27230 {I : fH} {x0 : Int} {x1 : Int} {x2 : Int} (h0 : fB bsJ I) (ha0 : ((-2147483648) ≤ x0 ∧ x0 ≤ 2147483647)) (ha1 : ((-100000) ≤ x1 ∧ x1 ≤ 97)) (ha2 : ((-1) ≤ x2 ∧ x2 ≤ 999999)) : fC ρ base n F xTc vwCl xTys D dA la gJ (fbz bsJ znJ (fKc []) I) xm_238 [.inr (.inl x0), .inr (.inl x1), .inr (.inl x2)] I (fun _ r => ∃ z, r = some (.inl z) ∧ ((z = 1 ∧ x1 ≤ x0 ∧ x0 ≤ x2) ∨ (z = 0 ∧ (x0 < x1 ∨ x2 < x0)))) := sorry
theorem ct_M_cellAt_c15f4 {I : fH} {x1 : Int} (h0 : fB bsJ I) (ha1 : (0 ≤ x1 ∧ x1 ≤ 19)) : fC ρ base n F xTc vwCl xTys D dA la gJ (fbz bsJ znJ (fKc []) I) xm_239 [.inr (.inr (some 740)), .inl x1] I (fun _ r => ∃ z, r = some (.inl z) ∧ (z = 30 + 20 * x1)) := sorry
theorem ct_M_isCell_45859 {I : fH} {x1 : Int} (h0 : fB bsJ I) (ha1 : ((-2147483648) ≤ x1 ∧ x1 ≤ 2147483647)) : fC ρ base n F xTc vwCl xTys D dA la gJ (fbz bsJ znJ (fKc []) I) xm_241 [.inr (.inr (some 740)), .inl x1] I (fun _ r => ∃ z, r = some (.inl z) ∧ (((z = 1 ∧ 0 ≤ x1 ∧ x1 ≤ 19) ∨ z = 0) ∧ (z = 1 → x1 < I 741 5))) := sorry
theorem ct_M_put_84228 {I : fH} {x1 : Int} {x2 : Int} (h0 : fB bsJ I) (ha1 : ((31 ≤ x1 ∧ x1 ≤ 416) ∧ (x1 - 31) % 20 ≤ 5)) (ha2 : ((-2147483648) ≤ x2 ∧ x2 ≤ 2147483647)) : fC ρ base n F xTc vwCl xTys D dA la gJ (fbz bsJ znJ (fKc wz_4b79b) I) xm_242 [.inr (.inr (some 740)), .inl x1, .inl x2] I (fun _ r => ∃ z, r = some (.inl z) ∧ ((-2147483648) ≤ z ∧ z ≤ 2147483647)) := sorry
set_option maxRecDepth 8000 in
theorem ct_M_air_7df55 {I : fH} {x1 : Int} {x2 : Int} {x3 : Int} (h0 : fB bsJ I) (ha1 : ((-2147483648) ≤ x1 ∧ x1 ≤ 2147483647)) (ha2 : ((-2147483648) ≤ x2 ∧ x2 ≤ 2147483647)) (ha3 : ((-2147483648) ≤ x3 ∧ x3 ≤ 2147483647)) : fC ρ base n F xTc vwCl xTys D dA la gJ (fbz bsJ znJ (fKc wz_4b79b) I) xm_240 [.inr (.inr (some 740)), .inl x1, .inl x2, .inl x3] I (fun _ r => ∃ z, r = some (.inl z) ∧ ((-2147483648) ≤ z ∧ z ≤ 2147483647)) := by
  have hW : fzs wz_4b79b (fKc wz_4b79b) := fKc_ok _
  refine f_meth (rb := rbJ) (J := []) 1 400 xG xin_240 x6_240 okJ (fB_self h0) ?_ ?_
  · exact fun q h => absurd h List.not_mem_nil
  · have hB0 := fB_self (zn := znJ) (K := fKc wz_4b79b) h0
    refine Exists.intro xm_241 (And.intro mi_241 (And.intro ⟨rfl, rfl, rfl, rfl⟩ (And.intro rfl ?_)))
    refine fcallp hB0 (ct_M_isCell_45859 (fBz h0 hB0) (by omega)) ?_
    rintro _ ⟨z1, rfl, hz1⟩
    refine And.intro (by omega) (And.intro ?_ ?_)
    · intro c2
      refine And.intro (True.intro) ?_
      exact ⟨_, rfl, by omega⟩
    · intro c3
      refine And.intro (by omega) ?_
      refine Exists.intro xm_238 (And.intro mi_238 (And.intro ⟨rfl, rfl, rfl, rfl⟩ (And.intro True.intro ?_)))
      refine fcallp hB0 (ct_M_isIn_27230 (fBz h0 hB0) (by omega) (by omega) (by omega)) ?_
      rintro _ ⟨z4, rfl, hz4⟩
      refine And.intro (by omega) (And.intro ?_ ?_)
      · intro c5
        refine And.intro (True.intro) ?_
        exact ⟨_, rfl, by omega⟩
      · intro c6
        refine And.intro (by omega) ?_
        refine And.intro (by omega) (And.intro ?_ ?_)
        · intro c7
          refine Exists.intro xm_238 (And.intro mi_238 (And.intro ⟨rfl, rfl, rfl, rfl⟩ (And.intro True.intro ?_)))
          refine fcallp hB0 (ct_M_isIn_27230 (fBz h0 hB0) (by omega) (by omega) (by omega)) ?_
          rintro _ ⟨z8, rfl, hz8⟩
          refine And.intro (by omega) (And.intro ?_ ?_)
          · intro c9
            refine Exists.intro xm_239 (And.intro mi_239 (And.intro ⟨rfl, rfl, rfl, rfl⟩ (And.intro rfl ?_)))
            refine fcallp hB0 (ct_M_cellAt_c15f4 (fBz h0 hB0) (by omega)) ?_
            rintro _ ⟨_, rfl, rfl⟩
            refine And.intro (by omega) (And.intro ?_ ?_)
            · intro c11
              refine Exists.intro xm_242 (And.intro mi_242 (And.intro ⟨rfl, rfl, rfl, rfl⟩ (And.intro rfl ?_)))
              refine fcall _ h0 (fzs_sub (by decide +kernel) hW) hB0 (ct_M_put_84228 (fBz h0 hB0) (by omega) (by omega)) ?_
              rintro IhB13 _ hB13 fhB13 ⟨z12, rfl, hz12⟩
              refine And.intro (True.intro) ?_
              exact ⟨_, rfl, by omega⟩
            · intro c14
              refine Exists.intro xm_242 (And.intro mi_242 (And.intro ⟨rfl, rfl, rfl, rfl⟩ (And.intro rfl ?_)))
              refine fcall _ h0 (fzs_sub (by decide +kernel) hW) hB0 (ct_M_put_84228 (fBz h0 hB0) (by omega) (by omega)) ?_
              rintro IhB16 _ hB16 fhB16 ⟨z15, rfl, hz15⟩
              refine And.intro (True.intro) ?_
              exact ⟨_, rfl, by omega⟩
          · intro c17
            refine And.intro (True.intro) ?_
            exact ⟨_, rfl, by omega⟩
        · intro c18
          refine Exists.intro xm_238 (And.intro mi_238 (And.intro ⟨rfl, rfl, rfl, rfl⟩ (And.intro True.intro ?_)))
          refine fcallp hB0 (ct_M_isIn_27230 (fBz h0 hB0) (by omega) (by omega) (by omega)) ?_
          rintro _ ⟨z19, rfl, hz19⟩
          refine And.intro (by omega) (And.intro ?_ ?_)
          · intro c20
            refine Exists.intro xm_239 (And.intro mi_239 (And.intro ⟨rfl, rfl, rfl, rfl⟩ (And.intro rfl ?_)))
            refine fcallp hB0 (ct_M_cellAt_c15f4 (fBz h0 hB0) (by omega)) ?_
            rintro _ ⟨_, rfl, rfl⟩
            refine And.intro (by omega) (And.intro ?_ ?_)
            · intro c22
              refine Exists.intro xm_242 (And.intro mi_242 (And.intro ⟨rfl, rfl, rfl, rfl⟩ (And.intro rfl ?_)))
              refine fcall _ h0 (fzs_sub (by decide +kernel) hW) hB0 (ct_M_put_84228 (fBz h0 hB0) (by omega) (by omega)) ?_
              rintro IhB24 _ hB24 fhB24 ⟨z23, rfl, hz23⟩
              refine And.intro (True.intro) ?_
              exact ⟨_, rfl, by omega⟩
            · intro c25
              refine Exists.intro xm_242 (And.intro mi_242 (And.intro ⟨rfl, rfl, rfl, rfl⟩ (And.intro rfl ?_)))
              refine fcall _ h0 (fzs_sub (by decide +kernel) hW) hB0 (ct_M_put_84228 (fBz h0 hB0) (by omega) (by omega)) ?_
              rintro IhB27 _ hB27 fhB27 ⟨z26, rfl, hz26⟩
              refine And.intro (True.intro) ?_
              exact ⟨_, rfl, by omega⟩
          · intro c28
            refine And.intro (True.intro) ?_
            exact ⟨_, rfl, by omega⟩
theorem ct_M_workAt_83d38 {I : fH} {x1 : Int} (h0 : fB bsJ I) (ha1 : (0 ≤ x1 ∧ x1 ≤ 23)) : fC ρ base n F xTc vwCl xTys D dA la gJ (fbz bsJ znJ (fKc []) I) xm_244 [.inr (.inr (some 740)), .inl x1] I (fun _ r => ∃ z, r = some (.inl z) ∧ (z = 530 + 14 * x1)) := sorry
theorem ct_M_personAt_9b331 {I : fH} {x1 : Int} (h0 : fB bsJ I) (ha1 : (0 ≤ x1 ∧ x1 ≤ 23)) : fC ρ base n F xTc vwCl xTys D dA la gJ (fbz bsJ znJ (fKc []) I) xm_247 [.inr (.inr (some 740)), .inl x1] I (fun _ r => ∃ z, r = some (.inl z) ∧ (z = 870 + 6 * x1)) := sorry
theorem ct_M_isDead_21e1a {I : fH} {x1 : Int} (h0 : fB bsJ I) (ha1 : (0 ≤ x1 ∧ x1 ≤ 23)) : fC ρ base n F xTc vwCl xTys D dA la gJ (fbz bsJ znJ (fKc []) I) xm_248 [.inr (.inr (some 740)), .inl x1] I (fun _ r => ∃ z, r = some (.inl z) ∧ (0 ≤ z ∧ z ≤ 1)) := sorry
theorem ct_M_isGone_0de37 {I : fH} {x1 : Int} (h0 : fB bsJ I) (ha1 : (0 ≤ x1 ∧ x1 ≤ 23)) : fC ρ base n F xTc vwCl xTys D dA la gJ (fbz bsJ znJ (fKc []) I) xm_245 [.inr (.inr (some 740)), .inl x1] I (fun _ r => ∃ z, r = some (.inl z) ∧ (0 ≤ z ∧ z ≤ 1)) := sorry
theorem ct_M_isLock_5e2b8 {I : fH} {x1 : Int} (h0 : fB bsJ I) (ha1 : ((-2147483648) ≤ x1 ∧ x1 ≤ 2147483647)) : fC ρ base n F xTc vwCl xTys D dA la gJ (fbz bsJ znJ (fKc []) I) xm_251 [.inr (.inr (some 740)), .inl x1] I (fun _ r => ∃ z, r = some (.inl z) ∧ ((z = 1 ∧ 0 ≤ x1 ∧ x1 ≤ 23) ∨ z = 0)) := sorry
theorem ct_M_joined_15edc {I : fH} {x0 : Int} {x1 : Int} {x2 : Int} (h0 : fB bsJ I) (ha0 : ((-2147483648) ≤ x0 ∧ x0 ≤ 2147483647)) (ha1 : ((-2147483648) ≤ x1 ∧ x1 ≤ 2147483647)) (ha2 : ((-2147483648) ≤ x2 ∧ x2 ≤ 2147483647)) : fC ρ base n F xTc vwCl xTys D dA la gJ (fbz bsJ znJ (fKc []) I) xm_261 [.inl x0, .inl x1, .inl x2] I (fun _ r => ∃ z, r = some (.inl z) ∧ ((-2147483648) ≤ z ∧ z ≤ 2147483647)) := sorry
theorem ct_M_level_daf8a {I : fH}  (h0 : fB bsJ I)  : fC ρ base n F xTc vwCl xTys D dA la gJ (fbz bsJ znJ (fKc []) I) xm_260 [.inr (.inr (some 740))] I (fun _ r => ∃ z, r = some (.inl z) ∧ (0 ≤ z ∧ z ≤ 60)) := sorry
theorem ct_M_textAt_ea474 {I : fH} {x1 : Int} (h0 : fB bsJ I) (ha1 : (0 ≤ x1 ∧ x1 ≤ 11)) : fC ρ base n F xTc vwCl xTys D dA la gJ (fbz bsJ znJ (fKc []) I) xm_255 [.inr (.inr (some 740)), .inl x1] I (fun _ r => ∃ z, r = some (.inl z) ∧ (z = 1210 + 200 * x1)) := sorry
theorem ct_M_worked_0bc29 {I : fH} {x1 : Int} (h0 : fB bsJ I) (ha1 : (0 ≤ x1 ∧ x1 ≤ 11)) (hp0 : sI I 741) (hp1 : x1 < I 741 9) : fC ρ base n F xTc vwCl xTys D dA la gJ (fbz bsJ znJ (fKc wz_5ef89) I) xm_259 [.inr (.inr (some 740)), .inl x1] I (fun _ r => ∃ z, r = some (.inl z) ∧ ((-2147483648) ≤ z ∧ z ≤ 2147483647)) := sorry
theorem ct_M_hour_9a688 {I : fH}  (h0 : fB bsJ I)  : fC ρ base n F xTc vwCl xTys D dA la gJ (fbz bsJ znJ (fKc []) I) xm_257 [.inr (.inr (some 740))] I (fun _ r => ∃ z, r = some (.inl z) ∧ (0 ≤ z ∧ z ≤ 366)) := sorry
theorem ct_M_isInForce_508bf {I : fH} {x1 : Int} (h0 : fB bsJ I) (ha1 : (0 ≤ x1 ∧ x1 ≤ 11)) : fC ρ base n F xTc vwCl xTys D dA la gJ (fbz bsJ znJ (fKc []) I) xm_256 [.inr (.inr (some 740)), .inl x1] I (fun _ r => ∃ z, r = some (.inl z) ∧ (0 ≤ z ∧ z ≤ 1)) := sorry
theorem ct_M_counts_1278f {I : fH} {x1 : Int} (h0 : fB bsJ I) (ha1 : (0 ≤ x1 ∧ x1 ≤ 5)) : fC ρ base n F xTc vwCl xTys D dA la gJ (fbz bsJ znJ (fKc []) I) xm_254 [.inr (.inr (some 740)), .inl x1] I (fun _ r => ∃ z, r = some (.inl z) ∧ (((-1) ≤ z ∧ z ≤ 11) ∧ (z < I 741 9))) := sorry
theorem ct_M_nameOne_43c7d {I : fH} {x1 : Int} (h0 : fB bsJ I) (ha1 : (0 ≤ x1 ∧ x1 ≤ 23)) : fC ρ base n F xTc vwCl xTys D dA la gJ (fbz bsJ znJ (fKc wz_3c4d3) I) xm_258 [.inr (.inr (some 740)), .inl x1] I (fun _ r => r = none) := sorry
theorem ct_M_mayOpen_42d58 {I : fH} {x1 : Int} {x2 : Int} (h0 : fB bsJ I) (ha1 : (0 ≤ x1 ∧ x1 ≤ 23)) (ha2 : (0 ≤ x2 ∧ x2 ≤ 23)) (hp0 : sI I 741) : fC ρ base n F xTc vwCl xTys D dA la gJ (fbz bsJ znJ (fKc wz_5ef89) I) xm_253 [.inr (.inr (some 740)), .inl x1, .inl x2] I (fun _ r => ∃ z, r = some (.inl z) ∧ (0 ≤ z ∧ z ≤ 1)) := sorry
theorem ct_M_isPerson_4d30c {I : fH} {x1 : Int} (h0 : fB bsJ I) (ha1 : ((-2147483648) ≤ x1 ∧ x1 ≤ 2147483647)) : fC ρ base n F xTc vwCl xTys D dA la gJ (fbz bsJ znJ (fKc []) I) xm_252 [.inr (.inr (some 740)), .inl x1] I (fun _ r => ∃ z, r = some (.inl z) ∧ ((z = 1 ∧ 0 ≤ x1 ∧ x1 ≤ 23) ∨ z = 0)) := sorry
theorem ct_M_isWork_a0fef {I : fH} {x1 : Int} (h0 : fB bsJ I) (ha1 : ((-2147483648) ≤ x1 ∧ x1 ≤ 2147483647)) : fC ρ base n F xTc vwCl xTys D dA la gJ (fbz bsJ znJ (fKc []) I) xm_266 [.inr (.inr (some 740)), .inl x1] I (fun _ r => ∃ z, r = some (.inl z) ∧ ((z = 1 ∧ 0 ≤ x1 ∧ x1 ≤ 23) ∨ z = 0)) := sorry
theorem ct_M_kindOf_31275 {I : fH} {x1 : Int} (h0 : fB bsJ I) (ha1 : (0 ≤ x1 ∧ x1 ≤ 23)) : fC ρ base n F xTc vwCl xTys D dA la gJ (fbz bsJ znJ (fKc []) I) xm_267 [.inr (.inr (some 740)), .inl x1] I (fun _ r => ∃ z, r = some (.inl z) ∧ ((-2147483648) ≤ z ∧ z ≤ 2147483647)) := sorry
theorem ct_M_put_649af {I : fH} {x1 x2 : Int} (h0 : fB bsJ I) (ha1 : 533 ≤ x1 ∧ x1 ≤ 863) (ha2 : -2147483648 ≤ x2 ∧ x2 ≤ 2147483647) (hp0 : ((x1 - 530) % 14 = 3 ∧ (-2147483648) ≤ x2 ∧ x2 ≤ 2147483647) ∨ ((x1 - 530) % 14 = 11 ∧ (-2147483648) ≤ x2 ∧ x2 ≤ 2147483647)) : fC ρ base n F xTc vwCl xTys D dA la gJ (fbz bsJ znJ (fKc wz_4cdea) I) xm_242 [.inr (.inr (some 740)), .inl x1, .inl x2] I (fun _ r => ∃ z, r = some (.inl z) ∧ (-2147483648 ≤ z ∧ z ≤ 2147483647)) := sorry
set_option maxRecDepth 8000 in
theorem ct_M_tune_14fd5 {I : fH} {x1 : Int} {x2 : Int} {x3 : Int} (h0 : fB bsJ I) (ha1 : ((-2147483648) ≤ x1 ∧ x1 ≤ 2147483647)) (ha2 : ((-2147483648) ≤ x2 ∧ x2 ≤ 2147483647)) (ha3 : ((-2147483648) ≤ x3 ∧ x3 ≤ 2147483647)) : fC ρ base n F xTc vwCl xTys D dA la gJ (fbz bsJ znJ (fKc wz_4cdea) I) xm_271 [.inr (.inr (some 740)), .inl x1, .inl x2, .inl x3] I (fun _ r => ∃ z, r = some (.inl z) ∧ ((-2147483648) ≤ z ∧ z ≤ 2147483647)) := by
  have hW : fzs wz_4cdea (fKc wz_4cdea) := fKc_ok _
  refine f_meth (rb := rbJ) (J := []) 1 400 xG xin_271 x6_271 okJ (fB_self h0) ?_ ?_
  · exact fun q h => absurd h List.not_mem_nil
  · have hB0 := fB_self (zn := znJ) (K := fKc wz_4cdea) h0
    refine Exists.intro xm_266 (And.intro mi_266 (And.intro ⟨rfl, rfl, rfl, rfl⟩ (And.intro rfl ?_)))
    refine fcallp hB0 (ct_M_isWork_a0fef (fBz h0 hB0) (by omega)) ?_
    rintro _ ⟨z1, rfl, hz1⟩
    refine And.intro (by omega) (And.intro ?_ ?_)
    · intro c2
      refine And.intro (True.intro) ?_
      exact ⟨_, rfl, by omega⟩
    · intro c3
      refine And.intro (by omega) ?_
      refine Exists.intro xm_238 (And.intro mi_238 (And.intro ⟨rfl, rfl, rfl, rfl⟩ (And.intro True.intro ?_)))
      refine fcallp hB0 (ct_M_isIn_27230 (fBz h0 hB0) (by omega) (by omega) (by omega)) ?_
      rintro _ ⟨z4, rfl, hz4⟩
      refine And.intro (by omega) (And.intro ?_ ?_)
      · intro c5
        refine And.intro (True.intro) ?_
        exact ⟨_, rfl, by omega⟩
      · intro c6
        refine And.intro (by omega) ?_
        refine And.intro (by omega) (And.intro ?_ ?_)
        · intro c7
          refine Exists.intro xm_238 (And.intro mi_238 (And.intro ⟨rfl, rfl, rfl, rfl⟩ (And.intro True.intro ?_)))
          refine fcallp hB0 (ct_M_isIn_27230 (fBz h0 hB0) (by omega) (by omega) (by omega)) ?_
          rintro _ ⟨z8, rfl, hz8⟩
          refine And.intro (by omega) (And.intro ?_ ?_)
          · intro c9
            refine Exists.intro xm_245 (And.intro mi_245 (And.intro ⟨rfl, rfl, rfl, rfl⟩ (And.intro rfl ?_)))
            refine fcallp hB0 (ct_M_isGone_0de37 (fBz h0 hB0) (by omega)) ?_
            rintro _ ⟨z10, rfl, hz10⟩
            refine And.intro (by omega) (And.intro ?_ ?_)
            · intro c11
              refine Exists.intro xm_244 (And.intro mi_244 (And.intro ⟨rfl, rfl, rfl, rfl⟩ (And.intro rfl ?_)))
              refine fcallp hB0 (ct_M_workAt_83d38 (fBz h0 hB0) (by omega)) ?_
              rintro _ ⟨_, rfl, rfl⟩
              refine And.intro (by omega) (And.intro ?_ ?_)
              · intro c13
                refine Exists.intro xm_242 (And.intro mi_242 (And.intro ⟨rfl, rfl, rfl, rfl⟩ (And.intro rfl ?_)))
                refine fcall _ h0 (fzs_sub (by decide +kernel) hW) hB0 (ct_M_put_649af (fBz h0 hB0) (by omega) (by omega) (by omega)) ?_
                rintro IhB15 _ hB15 fhB15 ⟨z14, rfl, hz14⟩
                refine And.intro (True.intro) ?_
                exact ⟨_, rfl, by omega⟩
              · intro c16
                refine Exists.intro xm_242 (And.intro mi_242 (And.intro ⟨rfl, rfl, rfl, rfl⟩ (And.intro rfl ?_)))
                refine fcall _ h0 (fzs_sub (by decide +kernel) hW) hB0 (ct_M_put_649af (fBz h0 hB0) (by omega) (by omega) (by omega)) ?_
                rintro IhB18 _ hB18 fhB18 ⟨z17, rfl, hz17⟩
                refine And.intro (True.intro) ?_
                exact ⟨_, rfl, by omega⟩
            · intro c19
              refine And.intro (True.intro) ?_
              exact ⟨_, rfl, by omega⟩
          · intro c20
            refine And.intro (True.intro) ?_
            exact ⟨_, rfl, by omega⟩
        · intro c21
          refine Exists.intro xm_238 (And.intro mi_238 (And.intro ⟨rfl, rfl, rfl, rfl⟩ (And.intro True.intro ?_)))
          refine fcallp hB0 (ct_M_isIn_27230 (fBz h0 hB0) (by omega) (by omega) (by omega)) ?_
          rintro _ ⟨z22, rfl, hz22⟩
          refine And.intro (by omega) (And.intro ?_ ?_)
          · intro c23
            refine Exists.intro xm_245 (And.intro mi_245 (And.intro ⟨rfl, rfl, rfl, rfl⟩ (And.intro rfl ?_)))
            refine fcallp hB0 (ct_M_isGone_0de37 (fBz h0 hB0) (by omega)) ?_
            rintro _ ⟨z24, rfl, hz24⟩
            refine And.intro (by omega) (And.intro ?_ ?_)
            · intro c25
              refine Exists.intro xm_244 (And.intro mi_244 (And.intro ⟨rfl, rfl, rfl, rfl⟩ (And.intro rfl ?_)))
              refine fcallp hB0 (ct_M_workAt_83d38 (fBz h0 hB0) (by omega)) ?_
              rintro _ ⟨_, rfl, rfl⟩
              refine And.intro (by omega) (And.intro ?_ ?_)
              · intro c27
                refine Exists.intro xm_242 (And.intro mi_242 (And.intro ⟨rfl, rfl, rfl, rfl⟩ (And.intro rfl ?_)))
                refine fcall _ h0 (fzs_sub (by decide +kernel) hW) hB0 (ct_M_put_649af (fBz h0 hB0) (by omega) (by omega) (by omega)) ?_
                rintro IhB29 _ hB29 fhB29 ⟨z28, rfl, hz28⟩
                refine And.intro (True.intro) ?_
                exact ⟨_, rfl, by omega⟩
              · intro c30
                refine Exists.intro xm_242 (And.intro mi_242 (And.intro ⟨rfl, rfl, rfl, rfl⟩ (And.intro rfl ?_)))
                refine fcall _ h0 (fzs_sub (by decide +kernel) hW) hB0 (ct_M_put_649af (fBz h0 hB0) (by omega) (by omega) (by omega)) ?_
                rintro IhB32 _ hB32 fhB32 ⟨z31, rfl, hz31⟩
                refine And.intro (True.intro) ?_
                exact ⟨_, rfl, by omega⟩
            · intro c33
              refine And.intro (True.intro) ?_
              exact ⟨_, rfl, by omega⟩
          · intro c34
            refine And.intro (True.intro) ?_
            exact ⟨_, rfl, by omega⟩
theorem ct_M_put_0b81c {I : fH} {x1 x2 : Int} (h0 : fB bsJ I) (ha1 : 1 ≤ x1 ∧ x1 ≤ 4) (ha2 : -2147483648 ≤ x2 ∧ x2 ≤ 2147483647) (hp0 : (x1 = 1 ∧ 0 ≤ x2 ∧ x2 ≤ 600) ∨ (x1 = 2 ∧ (-2147483648) ≤ x2 ∧ x2 ≤ 2147483647) ∨ (x1 = 3 ∧ 2 ≤ x2 ∧ x2 ≤ 9999) ∨ (x1 = 4 ∧ 0 ≤ x2 ∧ x2 ≤ 99)) : fC ρ base n F xTc vwCl xTys D dA la gJ (fbz bsJ znJ (fKc wz_72684) I) xm_242 [.inr (.inr (some 740)), .inl x1, .inl x2] I (fun _ r => ∃ z, r = some (.inl z) ∧ (-2147483648 ≤ z ∧ z ≤ 2147483647)) := sorry
abbrev jc_M_set_d6f28_73 : Nat → fL → List fV → fH → Prop := fun m lv st I => ∃ (y1 : Int) (y2 : Int), lv = [(0, .inr (.inr (some 740))), (1, .inl y1), (2, .inl y2)] ∧ st = [] ∧ ((((-2147483648) ≤ y1 ∧ y1 ≤ 2147483647) ∧ ((-2147483648) ≤ y2 ∧ y2 ≤ 2147483647))) ∧ m = (1 : Int).toNat
set_option maxRecDepth 8000 in
theorem ct_M_set_d6f28 {I : fH} {x1 : Int} {x2 : Int} (h0 : fB bsJ I) (ha1 : ((-2147483648) ≤ x1 ∧ x1 ≤ 2147483647)) (ha2 : ((-2147483648) ≤ x2 ∧ x2 ≤ 2147483647)) : fC ρ base n F xTc vwCl xTys D dA la gJ (fbz bsJ znJ (fKc wz_72684) I) xm_278 [.inr (.inr (some 740)), .inl x1, .inl x2] I (fun _ r => ∃ z, r = some (.inl z) ∧ ((-2147483648) ≤ z ∧ z ≤ 2147483647)) := by
  have hW : fzs wz_72684 (fKc wz_72684) := fKc_ok _
  refine f_meth (rb := rbJ) (J := [(73, jc_M_set_d6f28_73)]) 2 400 xG xin_278 x6_278 okJ (fB_self h0) ?_ ?_
  · refine List.forall_mem_cons.mpr ⟨?_, fun q h => absurd h List.not_mem_nil⟩
    · rintro m _ _ I1 hB1 ⟨y1, y2, rfl, rfl, hb, hm⟩
      refine And.intro (by omega) (And.intro ?_ ?_)
      · intro c1
        refine And.intro (True.intro) ?_
        exact ⟨_, rfl, by omega⟩
      · intro c2
        intro z3 hz3 ez3 bz3
        clear ez3
        try replace bz3 := bz3 (by omega)
        refine Exists.intro xm_242 (And.intro mi_242 (And.intro ⟨rfl, rfl, rfl, rfl⟩ (And.intro rfl ?_)))
        refine fcall _ h0 (fzs_sub (by decide +kernel) hW) hB1 (ct_M_put_0b81c (fBz h0 hB1) (by omega) (by omega) (by omega)) ?_
        rintro IhB5 _ hB5 fhB5 ⟨z4, rfl, hz4⟩
        refine And.intro (True.intro) ?_
        exact ⟨_, rfl, by omega⟩
  · have hB0 := fB_self (zn := znJ) (K := fKc wz_72684) h0
    refine And.intro (by omega) (And.intro ?_ ?_)
    · intro c6
      refine And.intro (by omega) (And.intro ?_ ?_)
      · intro c7
        refine And.intro (by omega) (And.intro ?_ ?_)
        · intro c8
          refine And.intro (by omega) (And.intro ?_ ?_)
          · intro c9
            exact fcutJ (I := I) (j := jc_M_set_d6f28_73) (lv' := [(0, .inr (.inr (some 740))), (1, .inl _), (2, .inl _)]) (And.intro rfl (And.intro rfl (And.intro rfl True.intro))) ⟨_, _, rfl, rfl, by omega, rfl⟩ (by omega)
          · intro c10
            refine And.intro (by omega) ?_
            refine Exists.intro xm_238 (And.intro mi_238 (And.intro ⟨rfl, rfl, rfl, rfl⟩ (And.intro True.intro ?_)))
            refine fcallp hB0 (ct_M_isIn_27230 (fBz h0 hB0) (by omega) (by omega) (by omega)) ?_
            rintro _ ⟨z11, rfl, hz11⟩
            refine And.intro (by omega) (And.intro ?_ ?_)
            · intro c12
              exact fcutJ (I := I) (j := jc_M_set_d6f28_73) (lv' := [(0, .inr (.inr (some 740))), (1, .inl _), (2, .inl _)]) (And.intro rfl (And.intro rfl (And.intro rfl True.intro))) ⟨_, _, rfl, rfl, by omega, rfl⟩ (by omega)
            · intro c13
              refine And.intro (by omega) (And.intro ?_ ?_)
              · intro c14
                refine And.intro (True.intro) ?_
                exact ⟨_, rfl, by omega⟩
              · intro c15
                intro z16 hz16 ez16 bz16
                clear ez16
                try replace bz16 := bz16 (by omega)
                refine Exists.intro xm_242 (And.intro mi_242 (And.intro ⟨rfl, rfl, rfl, rfl⟩ (And.intro rfl ?_)))
                refine fcall _ h0 (fzs_sub (by decide +kernel) hW) hB0 (ct_M_put_0b81c (fBz h0 hB0) (by omega) (by omega) (by omega)) ?_
                rintro IhB18 _ hB18 fhB18 ⟨z17, rfl, hz17⟩
                refine And.intro (True.intro) ?_
                exact ⟨_, rfl, by omega⟩
        · intro c19
          refine And.intro (by omega) ?_
          refine Exists.intro xm_238 (And.intro mi_238 (And.intro ⟨rfl, rfl, rfl, rfl⟩ (And.intro True.intro ?_)))
          refine fcallp hB0 (ct_M_isIn_27230 (fBz h0 hB0) (by omega) (by omega) (by omega)) ?_
          rintro _ ⟨z20, rfl, hz20⟩
          refine And.intro (by omega) (And.intro ?_ ?_)
          · intro c21
            refine And.intro (True.intro) ?_
            exact ⟨_, rfl, by omega⟩
          · intro c22
            intro z23 hz23 ez23 bz23
            clear ez23
            try replace bz23 := bz23 (by omega)
            refine Exists.intro xm_242 (And.intro mi_242 (And.intro ⟨rfl, rfl, rfl, rfl⟩ (And.intro rfl ?_)))
            refine fcall _ h0 (fzs_sub (by decide +kernel) hW) hB0 (ct_M_put_0b81c (fBz h0 hB0) (by omega) (by omega) (by omega)) ?_
            rintro IhB25 _ hB25 fhB25 ⟨z24, rfl, hz24⟩
            refine And.intro (True.intro) ?_
            exact ⟨_, rfl, by omega⟩
      · intro c26
        refine And.intro (by omega) ?_
        refine Exists.intro xm_238 (And.intro mi_238 (And.intro ⟨rfl, rfl, rfl, rfl⟩ (And.intro True.intro ?_)))
        refine fcallp hB0 (ct_M_isIn_27230 (fBz h0 hB0) (by omega) (by omega) (by omega)) ?_
        rintro _ ⟨z27, rfl, hz27⟩
        refine And.intro (by omega) (And.intro ?_ ?_)
        · intro c28
          refine And.intro (True.intro) ?_
          exact ⟨_, rfl, by omega⟩
        · intro c29
          intro z30 hz30 ez30 bz30
          clear ez30
          try replace bz30 := bz30 (by omega)
          refine Exists.intro xm_242 (And.intro mi_242 (And.intro ⟨rfl, rfl, rfl, rfl⟩ (And.intro rfl ?_)))
          refine fcall _ h0 (fzs_sub (by decide +kernel) hW) hB0 (ct_M_put_0b81c (fBz h0 hB0) (by omega) (by omega) (by omega)) ?_
          rintro IhB32 _ hB32 fhB32 ⟨z31, rfl, hz31⟩
          refine And.intro (True.intro) ?_
          exact ⟨_, rfl, by omega⟩
    · intro c33
      refine And.intro (by omega) ?_
      refine Exists.intro xm_238 (And.intro mi_238 (And.intro ⟨rfl, rfl, rfl, rfl⟩ (And.intro True.intro ?_)))
      refine fcallp hB0 (ct_M_isIn_27230 (fBz h0 hB0) (by omega) (by omega) (by omega)) ?_
      rintro _ ⟨z34, rfl, hz34⟩
      refine And.intro (by omega) (And.intro ?_ ?_)
      · intro c35
        refine And.intro (True.intro) ?_
        exact ⟨_, rfl, by omega⟩
      · intro c36
        intro z37 hz37 ez37 bz37
        clear ez37
        try replace bz37 := bz37 (by omega)
        refine Exists.intro xm_242 (And.intro mi_242 (And.intro ⟨rfl, rfl, rfl, rfl⟩ (And.intro rfl ?_)))
        refine fcall _ h0 (fzs_sub (by decide +kernel) hW) hB0 (ct_M_put_0b81c (fBz h0 hB0) (by omega) (by omega) (by omega)) ?_
        rintro IhB39 _ hB39 fhB39 ⟨z38, rfl, hz38⟩
        refine And.intro (True.intro) ?_
        exact ⟨_, rfl, by omega⟩
theorem ct_M_need_68cc2 {I : fH} {x1 : Int} (h0 : fB bsJ I) (ha1 : (0 ≤ x1 ∧ x1 ≤ 23)) : fC ρ base n F xTc vwCl xTys D dA la gJ (fbz bsJ znJ (fKc []) I) xm_300 [.inr (.inr (some 740)), .inl x1] I (fun _ r => ∃ z, r = some (.inl z) ∧ (1 ≤ z ∧ z ≤ 2)) := sorry
theorem ct_M_put_48bc1 {I : fH} {x1 x2 : Int} (h0 : fB bsJ I) (ha1 : 870 ≤ x1 ∧ x1 ≤ 1011) (ha2 : -2147483648 ≤ x2 ∧ x2 ≤ 2147483647) (hp0 : ((x1 - 870) % 6 = 2 ∧ 0 ≤ x2 ∧ x2 ≤ 19) ∨ ((x1 - 870) % 6 ≤ 1 ∧ (-2147483648) ≤ x2 ∧ x2 ≤ 2147483647) ∨ ((x1 - 870) % 6 = 3 ∧ (-2147483648) ≤ x2 ∧ x2 ≤ 2147483647)) : fC ρ base n F xTc vwCl xTys D dA la gJ (fbz bsJ znJ (fKc wz_4df1d) I) xm_242 [.inr (.inr (some 740)), .inl x1, .inl x2] I (fun _ r => ∃ z, r = some (.inl z) ∧ (-2147483648 ≤ z ∧ z ≤ 2147483647)) := sorry
abbrev jc_M_be_60845_67 : Nat → fL → List fV → fH → Prop := fun m lv st I => ∃ (y1 : Int) (y2 : Int) (y3 : Int), lv = [(0, .inr (.inr (some 740))), (1, .inl y1), (2, .inl y2), (3, .inl y3)] ∧ st = [] ∧ ((((-2147483648) ≤ y1 ∧ y1 ≤ 2147483647) ∧ ((-2147483648) ≤ y2 ∧ y2 ≤ 2147483647) ∧ ((-2147483648) ≤ y3 ∧ y3 ≤ 2147483647))) ∧ m = (2 : Int).toNat
abbrev jc_M_be_60845_98 : Nat → fL → List fV → fH → Prop := fun m lv st I => lv = [] ∧ st = [] ∧ (True) ∧ m = (1 : Int).toNat
set_option maxRecDepth 8000 in
theorem ct_M_be_60845 {I : fH} {x1 : Int} {x2 : Int} {x3 : Int} (h0 : fB bsJ I) (ha1 : ((-2147483648) ≤ x1 ∧ x1 ≤ 2147483647)) (ha2 : ((-2147483648) ≤ x2 ∧ x2 ≤ 2147483647)) (ha3 : ((-2147483648) ≤ x3 ∧ x3 ≤ 2147483647)) : fC ρ base n F xTc vwCl xTys D dA la gJ (fbz bsJ znJ (fKc wz_4df1d) I) xm_306 [.inr (.inr (some 740)), .inl x1, .inl x2, .inl x3] I (fun _ r => ∃ z, r = some (.inl z) ∧ ((-2147483648) ≤ z ∧ z ≤ 2147483647)) := by
  have hW : fzs wz_4df1d (fKc wz_4df1d) := fKc_ok _
  refine f_meth (rb := rbJ) (J := [(67, jc_M_be_60845_67), (98, jc_M_be_60845_98)]) 3 400 xG xin_306 x6_306 okJ (fB_self h0) ?_ ?_
  · refine List.forall_mem_cons.mpr ⟨?_, List.forall_mem_cons.mpr ⟨?_, fun q h => absurd h List.not_mem_nil⟩⟩
    · rintro m _ _ I1 hB1 ⟨y1, y2, y3, rfl, rfl, hb, hm⟩
      refine Exists.intro xm_252 (And.intro mi_252 (And.intro ⟨rfl, rfl, rfl, rfl⟩ (And.intro rfl ?_)))
      refine fcallp hB1 (ct_M_isPerson_4d30c (fBz h0 hB1) (by omega)) ?_
      rintro _ ⟨z1, rfl, hz1⟩
      refine And.intro (by omega) (And.intro ?_ ?_)
      · intro c2
        exact fcutJ (I := I1) (j := jc_M_be_60845_98) (lv' := []) (True.intro) ⟨rfl, rfl, True.intro, rfl⟩ (by omega)
      · intro c3
        refine And.intro (by omega) (And.intro ?_ ?_)
        · intro c4
          exact fcutJ (I := I1) (j := jc_M_be_60845_98) (lv' := []) (True.intro) ⟨rfl, rfl, True.intro, rfl⟩ (by omega)
        · intro c5
          refine Exists.intro xm_247 (And.intro mi_247 (And.intro ⟨rfl, rfl, rfl, rfl⟩ (And.intro rfl ?_)))
          refine fcallp hB1 (ct_M_personAt_9b331 (fBz h0 hB1) (by omega)) ?_
          rintro _ ⟨_, rfl, rfl⟩
          intro z7 hz7 ez7 bz7
          clear ez7
          try replace bz7 := bz7 (by omega)
          refine Exists.intro xm_242 (And.intro mi_242 (And.intro ⟨rfl, rfl, rfl, rfl⟩ (And.intro rfl ?_)))
          refine fcall _ h0 (fzs_sub (by decide +kernel) hW) hB1 (ct_M_put_48bc1 (fBz h0 hB1) (by omega) (by omega) (by omega)) ?_
          rintro IhB9 _ hB9 fhB9 ⟨z8, rfl, hz8⟩
          refine And.intro (True.intro) ?_
          exact ⟨_, rfl, by omega⟩
    · rintro m _ _ I1 hB1 ⟨rfl, rfl, hb, hm⟩
      refine And.intro (True.intro) ?_
      exact ⟨_, rfl, by omega⟩
  · have hB0 := fB_self (zn := znJ) (K := fKc wz_4df1d) h0
    refine And.intro (by omega) (And.intro ?_ ?_)
    · intro c10
      refine And.intro (by omega) (And.intro ?_ ?_)
      · intro c11
        refine And.intro (by omega) (And.intro ?_ ?_)
        · intro c12
          refine And.intro (by omega) (And.intro ?_ ?_)
          · intro c13
            exact fcutJ (I := I) (j := jc_M_be_60845_67) (lv' := [(0, .inr (.inr (some 740))), (1, .inl _), (2, .inl _), (3, .inl _)]) (And.intro rfl (And.intro rfl (And.intro rfl (And.intro rfl True.intro)))) ⟨_, _, _, rfl, rfl, by omega, rfl⟩ (by omega)
          · intro c14
            refine And.intro (by omega) ?_
            refine Exists.intro xm_238 (And.intro mi_238 (And.intro ⟨rfl, rfl, rfl, rfl⟩ (And.intro True.intro ?_)))
            refine fcallp hB0 (ct_M_isIn_27230 (fBz h0 hB0) (by omega) (by omega) (by omega)) ?_
            rintro _ ⟨z15, rfl, hz15⟩
            refine And.intro (by omega) (And.intro ?_ ?_)
            · intro c16
              exact fcutJ (I := I) (j := jc_M_be_60845_67) (lv' := [(0, .inr (.inr (some 740))), (1, .inl _), (2, .inl _), (3, .inl _)]) (And.intro rfl (And.intro rfl (And.intro rfl (And.intro rfl True.intro)))) ⟨_, _, _, rfl, rfl, by omega, rfl⟩ (by omega)
            · intro c17
              refine Exists.intro xm_252 (And.intro mi_252 (And.intro ⟨rfl, rfl, rfl, rfl⟩ (And.intro rfl ?_)))
              refine fcallp hB0 (ct_M_isPerson_4d30c (fBz h0 hB0) (by omega)) ?_
              rintro _ ⟨z18, rfl, hz18⟩
              refine And.intro (by omega) (And.intro ?_ ?_)
              · intro c19
                exact fcutJ (I := I) (j := jc_M_be_60845_98) (lv' := []) (True.intro) ⟨rfl, rfl, True.intro, rfl⟩ (by omega)
              · intro c20
                refine And.intro (by omega) (And.intro ?_ ?_)
                · intro c21
                  exact fcutJ (I := I) (j := jc_M_be_60845_98) (lv' := []) (True.intro) ⟨rfl, rfl, True.intro, rfl⟩ (by omega)
                · intro c22
                  refine Exists.intro xm_247 (And.intro mi_247 (And.intro ⟨rfl, rfl, rfl, rfl⟩ (And.intro rfl ?_)))
                  refine fcallp hB0 (ct_M_personAt_9b331 (fBz h0 hB0) (by omega)) ?_
                  rintro _ ⟨_, rfl, rfl⟩
                  intro z24 hz24 ez24 bz24
                  clear ez24
                  try replace bz24 := bz24 (by omega)
                  refine Exists.intro xm_242 (And.intro mi_242 (And.intro ⟨rfl, rfl, rfl, rfl⟩ (And.intro rfl ?_)))
                  refine fcall _ h0 (fzs_sub (by decide +kernel) hW) hB0 (ct_M_put_48bc1 (fBz h0 hB0) (by omega) (by omega) (by omega)) ?_
                  rintro IhB26 _ hB26 fhB26 ⟨z25, rfl, hz25⟩
                  refine And.intro (True.intro) ?_
                  exact ⟨_, rfl, by omega⟩
        · intro c27
          refine Exists.intro xm_241 (And.intro mi_241 (And.intro ⟨rfl, rfl, rfl, rfl⟩ (And.intro rfl ?_)))
          refine fcallp hB0 (ct_M_isCell_45859 (fBz h0 hB0) (by omega)) ?_
          rintro _ ⟨z28, rfl, hz28⟩
          refine Exists.intro xm_252 (And.intro mi_252 (And.intro ⟨rfl, rfl, rfl, rfl⟩ (And.intro rfl ?_)))
          refine fcallp hB0 (ct_M_isPerson_4d30c (fBz h0 hB0) (by omega)) ?_
          rintro _ ⟨z29, rfl, hz29⟩
          refine And.intro (by omega) (And.intro ?_ ?_)
          · intro c30
            exact fcutJ (I := I) (j := jc_M_be_60845_98) (lv' := []) (True.intro) ⟨rfl, rfl, True.intro, rfl⟩ (by omega)
          · intro c31
            refine And.intro (by omega) (And.intro ?_ ?_)
            · intro c32
              exact fcutJ (I := I) (j := jc_M_be_60845_98) (lv' := []) (True.intro) ⟨rfl, rfl, True.intro, rfl⟩ (by omega)
            · intro c33
              refine Exists.intro xm_247 (And.intro mi_247 (And.intro ⟨rfl, rfl, rfl, rfl⟩ (And.intro rfl ?_)))
              refine fcallp hB0 (ct_M_personAt_9b331 (fBz h0 hB0) (by omega)) ?_
              rintro _ ⟨_, rfl, rfl⟩
              intro z35 hz35 ez35 bz35
              clear ez35
              try replace bz35 := bz35 (by omega)
              refine Exists.intro xm_242 (And.intro mi_242 (And.intro ⟨rfl, rfl, rfl, rfl⟩ (And.intro rfl ?_)))
              refine fcall _ h0 (fzs_sub (by decide +kernel) hW) hB0 (ct_M_put_48bc1 (fBz h0 hB0) (by omega) (by omega) (by omega)) ?_
              rintro IhB37 _ hB37 fhB37 ⟨z36, rfl, hz36⟩
              refine And.intro (True.intro) ?_
              exact ⟨_, rfl, by omega⟩
      · intro c38
        refine And.intro (by omega) ?_
        refine Exists.intro xm_238 (And.intro mi_238 (And.intro ⟨rfl, rfl, rfl, rfl⟩ (And.intro True.intro ?_)))
        refine fcallp hB0 (ct_M_isIn_27230 (fBz h0 hB0) (by omega) (by omega) (by omega)) ?_
        rintro _ ⟨z39, rfl, hz39⟩
        refine Exists.intro xm_252 (And.intro mi_252 (And.intro ⟨rfl, rfl, rfl, rfl⟩ (And.intro rfl ?_)))
        refine fcallp hB0 (ct_M_isPerson_4d30c (fBz h0 hB0) (by omega)) ?_
        rintro _ ⟨z40, rfl, hz40⟩
        refine And.intro (by omega) (And.intro ?_ ?_)
        · intro c41
          exact fcutJ (I := I) (j := jc_M_be_60845_98) (lv' := []) (True.intro) ⟨rfl, rfl, True.intro, rfl⟩ (by omega)
        · intro c42
          refine And.intro (by omega) (And.intro ?_ ?_)
          · intro c43
            exact fcutJ (I := I) (j := jc_M_be_60845_98) (lv' := []) (True.intro) ⟨rfl, rfl, True.intro, rfl⟩ (by omega)
          · intro c44
            refine Exists.intro xm_247 (And.intro mi_247 (And.intro ⟨rfl, rfl, rfl, rfl⟩ (And.intro rfl ?_)))
            refine fcallp hB0 (ct_M_personAt_9b331 (fBz h0 hB0) (by omega)) ?_
            rintro _ ⟨_, rfl, rfl⟩
            intro z46 hz46 ez46 bz46
            clear ez46
            try replace bz46 := bz46 (by omega)
            refine Exists.intro xm_242 (And.intro mi_242 (And.intro ⟨rfl, rfl, rfl, rfl⟩ (And.intro rfl ?_)))
            refine fcall _ h0 (fzs_sub (by decide +kernel) hW) hB0 (ct_M_put_48bc1 (fBz h0 hB0) (by omega) (by omega) (by omega)) ?_
            rintro IhB48 _ hB48 fhB48 ⟨z47, rfl, hz47⟩
            refine And.intro (True.intro) ?_
            exact ⟨_, rfl, by omega⟩
    · intro c49
      refine And.intro (by omega) ?_
      refine Exists.intro xm_238 (And.intro mi_238 (And.intro ⟨rfl, rfl, rfl, rfl⟩ (And.intro True.intro ?_)))
      refine fcallp hB0 (ct_M_isIn_27230 (fBz h0 hB0) (by omega) (by omega) (by omega)) ?_
      rintro _ ⟨z50, rfl, hz50⟩
      refine Exists.intro xm_252 (And.intro mi_252 (And.intro ⟨rfl, rfl, rfl, rfl⟩ (And.intro rfl ?_)))
      refine fcallp hB0 (ct_M_isPerson_4d30c (fBz h0 hB0) (by omega)) ?_
      rintro _ ⟨z51, rfl, hz51⟩
      refine And.intro (by omega) (And.intro ?_ ?_)
      · intro c52
        exact fcutJ (I := I) (j := jc_M_be_60845_98) (lv' := []) (True.intro) ⟨rfl, rfl, True.intro, rfl⟩ (by omega)
      · intro c53
        refine And.intro (by omega) (And.intro ?_ ?_)
        · intro c54
          exact fcutJ (I := I) (j := jc_M_be_60845_98) (lv' := []) (True.intro) ⟨rfl, rfl, True.intro, rfl⟩ (by omega)
        · intro c55
          refine Exists.intro xm_247 (And.intro mi_247 (And.intro ⟨rfl, rfl, rfl, rfl⟩ (And.intro rfl ?_)))
          refine fcallp hB0 (ct_M_personAt_9b331 (fBz h0 hB0) (by omega)) ?_
          rintro _ ⟨_, rfl, rfl⟩
          intro z57 hz57 ez57 bz57
          clear ez57
          try replace bz57 := bz57 (by omega)
          refine Exists.intro xm_242 (And.intro mi_242 (And.intro ⟨rfl, rfl, rfl, rfl⟩ (And.intro rfl ?_)))
          refine fcall _ h0 (fzs_sub (by decide +kernel) hW) hB0 (ct_M_put_48bc1 (fBz h0 hB0) (by omega) (by omega) (by omega)) ?_
          rintro IhB59 _ hB59 fhB59 ⟨z58, rfl, hz58⟩
          refine And.intro (True.intro) ?_
          exact ⟨_, rfl, by omega⟩
abbrev jc_M_mayBirth_669a5_16 : Nat → fL → List fV → fH → Prop := fun m lv st I => ∃ (y1 : Int) (y2 : Int) (y3 : Int) (y4 : Int) (y5 : Int), lv = [(0, .inr (.inr (some 740))), (1, .inl y1), (2, .inl y2), (3, .inl y3), (4, .inl y4), (5, .inl y5)] ∧ st = [] ∧ ((((-1) ≤ y1 ∧ y1 ≤ 11) ∧ ((-2147483648) ≤ y2 ∧ y2 ≤ 2147483647) ∧ ((-2147483648) ≤ y3 ∧ y3 ≤ 2147483647) ∧ (0 ≤ y4 ∧ y4 ≤ 0) ∧ (0 ≤ y5 ∧ y5 ≤ 24) ∧ (y1 < I 741 9))) ∧ m = (26 + 1 * (24 - y5) : Int).toNat
abbrev jc_M_mayBirth_669a5_76 : Nat → fL → List fV → fH → Prop := fun m lv st I => ∃ (y1 : Int) (y2 : Int) (y3 : Int) (y4 : Int) (y5 : Int), lv = [(0, .inr (.inr (some 740))), (1, .inl y1), (2, .inl y2), (3, .inl y3), (4, .inl y4), (5, .inl y5)] ∧ st = [] ∧ ((((-1) ≤ y1 ∧ y1 ≤ 11) ∧ ((-2147483648) ≤ y2 ∧ y2 ≤ 2147483647) ∧ ((-2147483648) ≤ y3 ∧ y3 ≤ 2147483647) ∧ ((-2147483648) ≤ y4 ∧ y4 ≤ 2147483647) ∧ (0 ≤ y5 ∧ y5 ≤ 24) ∧ (y1 < I 741 9))) ∧ m = (1 + 1 * (24 - y5) : Int).toNat
set_option maxRecDepth 8000 in
theorem ct_M_mayBirth_669a5 {I : fH}  (h0 : fB bsJ I) (hp0 : sI I 741) : fC ρ base n F xTc vwCl xTys D dA la gJ (fbz bsJ znJ (fKc wz_5ef89) I) xm_309 [.inr (.inr (some 740))] I (fun _ r => ∃ z, r = some (.inl z) ∧ (0 ≤ z ∧ z ≤ 1)) := by
  have hW : fzs wz_5ef89 (fKc wz_5ef89) := fKc_ok _
  refine f_meth (rb := rbJ) (J := [(16, jc_M_mayBirth_669a5_16), (76, jc_M_mayBirth_669a5_76)]) 51 400 xG xin_309 x6_309 okJ (fB_self h0) ?_ ?_
  · refine List.forall_mem_cons.mpr ⟨?_, List.forall_mem_cons.mpr ⟨?_, fun q h => absurd h List.not_mem_nil⟩⟩
    · rintro m _ _ I1 hB1 ⟨y1, y2, y3, y4, y5, rfl, rfl, hb, hm⟩
      have k1 := fBz_eq hB1 (a := 741) (j := 9) (by decide +kernel)
      refine And.intro ⟨rfl, by decide, by decide⟩ ?_
      refine fload rL_741_741_8_8_1_0 h0 hB1 (by omega) ?_
      intro z2 lz2 uz2 qz2
      have pz2 := fld_at qz2 8 (by omega)
      refine And.intro (by omega) (And.intro ?_ ?_)
      · intro c3
        exact fcutJ (I := I1) (j := jc_M_mayBirth_669a5_76) (lv' := [(0, .inr (.inr (some 740))), (1, .inl _), (2, .inl _), (3, .inl _), (4, .inl _), (5, .inl _)]) (And.intro rfl (And.intro rfl (And.intro rfl (And.intro rfl (And.intro rfl (And.intro rfl True.intro)))))) ⟨_, _, _, _, _, rfl, rfl, by omega, rfl⟩ (by omega)
      · intro c4
        refine Exists.intro xm_248 (And.intro mi_248 (And.intro ⟨rfl, rfl, rfl, rfl⟩ (And.intro rfl ?_)))
        refine fcallp hB1 (ct_M_isDead_21e1a (fBz h0 hB1) (by omega)) ?_
        rintro _ ⟨z5, rfl, hz5⟩
        refine And.intro (by omega) (And.intro ?_ ?_)
        · intro c6
          intro z7 hz7 ez7 bz7
          clear ez7
          try replace bz7 := bz7 (by omega)
          refine Exists.intro xm_248 (And.intro mi_248 (And.intro ⟨rfl, rfl, rfl, rfl⟩ (And.intro rfl ?_)))
          refine fcallp hB1 (ct_M_isDead_21e1a (fBz h0 hB1) (by omega)) ?_
          rintro _ ⟨z8, rfl, hz8⟩
          refine And.intro (by omega) (And.intro ?_ ?_)
          · intro c9
            refine Exists.intro xm_300 (And.intro mi_300 (And.intro ⟨rfl, rfl, rfl, rfl⟩ (And.intro rfl ?_)))
            refine fcallp hB1 (ct_M_need_68cc2 (fBz h0 hB1) (by omega)) ?_
            rintro _ ⟨z10, rfl, hz10⟩
            intro z11 hz11 ez11 bz11
            clear ez11
            try replace bz11 := bz11 (by omega)
            exact fcutJ (I := I1) (j := jc_M_mayBirth_669a5_16) (lv' := [(0, .inr (.inr (some 740))), (1, .inl _), (2, .inl _), (3, .inl _), (4, .inl _), (5, .inl _)]) (And.intro rfl (And.intro rfl (And.intro rfl (And.intro rfl (And.intro rfl (And.intro rfl True.intro)))))) ⟨_, _, _, _, _, rfl, rfl, by omega, rfl⟩ (by omega)
          · intro c12
            intro z13 hz13 ez13 bz13
            clear ez13
            try replace bz13 := bz13 (by omega)
            exact fcutJ (I := I1) (j := jc_M_mayBirth_669a5_16) (lv' := [(0, .inr (.inr (some 740))), (1, .inl _), (2, .inl _), (3, .inl _), (4, .inl _), (5, .inl _)]) (And.intro rfl (And.intro rfl (And.intro rfl (And.intro rfl (And.intro rfl (And.intro rfl True.intro)))))) ⟨_, _, _, _, _, rfl, rfl, by omega, rfl⟩ (by omega)
        · intro c14
          intro z15 hz15 ez15 bz15
          clear ez15
          try replace bz15 := bz15 (by omega)
          refine Exists.intro xm_248 (And.intro mi_248 (And.intro ⟨rfl, rfl, rfl, rfl⟩ (And.intro rfl ?_)))
          refine fcallp hB1 (ct_M_isDead_21e1a (fBz h0 hB1) (by omega)) ?_
          rintro _ ⟨z16, rfl, hz16⟩
          refine And.intro (by omega) (And.intro ?_ ?_)
          · intro c17
            refine Exists.intro xm_300 (And.intro mi_300 (And.intro ⟨rfl, rfl, rfl, rfl⟩ (And.intro rfl ?_)))
            refine fcallp hB1 (ct_M_need_68cc2 (fBz h0 hB1) (by omega)) ?_
            rintro _ ⟨z18, rfl, hz18⟩
            intro z19 hz19 ez19 bz19
            clear ez19
            try replace bz19 := bz19 (by omega)
            exact fcutJ (I := I1) (j := jc_M_mayBirth_669a5_16) (lv' := [(0, .inr (.inr (some 740))), (1, .inl _), (2, .inl _), (3, .inl _), (4, .inl _), (5, .inl _)]) (And.intro rfl (And.intro rfl (And.intro rfl (And.intro rfl (And.intro rfl (And.intro rfl True.intro)))))) ⟨_, _, _, _, _, rfl, rfl, by omega, rfl⟩ (by omega)
          · intro c20
            intro z21 hz21 ez21 bz21
            clear ez21
            try replace bz21 := bz21 (by omega)
            exact fcutJ (I := I1) (j := jc_M_mayBirth_669a5_16) (lv' := [(0, .inr (.inr (some 740))), (1, .inl _), (2, .inl _), (3, .inl _), (4, .inl _), (5, .inl _)]) (And.intro rfl (And.intro rfl (And.intro rfl (And.intro rfl (And.intro rfl (And.intro rfl True.intro)))))) ⟨_, _, _, _, _, rfl, rfl, by omega, rfl⟩ (by omega)
    · rintro m _ _ I1 hB1 ⟨y1, y2, y3, y4, y5, rfl, rfl, hb, hm⟩
      have k22 := fBz_eq hB1 (a := 741) (j := 9) (by decide +kernel)
      refine And.intro ⟨rfl, by decide, by decide⟩ ?_
      refine fload rL_741_741_7_7_1_0 h0 hB1 (by omega) ?_
      intro z23 lz23 uz23 qz23
      have pz23 := fld_at qz23 7 (by omega)
      refine And.intro (by omega) (And.intro ?_ ?_)
      · intro c24
        refine And.intro ⟨rfl, by decide, by decide⟩ ?_
        refine fstore rS_748_748_0_127_1_0 (fzs_sub (by decide +kernel) hW) (by omega) (by omega) ?_
        intro IhB25 ehB25 hB25
        have t26 := fup_self ehB25
        have t27 : IhB25 741 7 = I1 741 7 := (congrFun (congrFun ehB25 741) 7).trans (fup_ne (by omega))
        have t28 := fup_at ehB25 112 (by omega)
        have k29 := fBz_eq hB25 (a := 741) (j := 9) (by decide +kernel)
        refine And.intro ⟨rfl, by decide, by decide⟩ ?_
        refine fstore rS_748_748_0_127_1_0 (fzs_sub (by decide +kernel) hW) (by omega) (by omega) ?_
        intro IhB30 ehB30 hB30
        have t31 := fup_self ehB30
        have t32 : IhB30 741 7 = IhB25 741 7 := (congrFun (congrFun ehB30 741) 7).trans (fup_ne (by omega))
        have t33 := fup_at ehB30 111 (by omega)
        have t34 : IhB30 748 112 = IhB25 748 112 := (congrFun (congrFun ehB30 748) 112).trans (fup_ne (by omega))
        have k35 := fBz_eq hB30 (a := 741) (j := 9) (by decide +kernel)
        refine And.intro ⟨rfl, by decide, by decide⟩ ?_
        refine fstore rS_748_748_0_127_1_0 (fzs_sub (by decide +kernel) hW) (by omega) (by omega) ?_
        intro IhB36 ehB36 hB36
        have t37 := fup_self ehB36
        have t38 : IhB36 741 7 = IhB30 741 7 := (congrFun (congrFun ehB36 741) 7).trans (fup_ne (by omega))
        have t39 : IhB36 748 111 = IhB30 748 111 := (congrFun (congrFun ehB36 748) 111).trans (fup_ne (by omega))
        have t40 : IhB36 748 112 = IhB30 748 112 := (congrFun (congrFun ehB36 748) 112).trans (fup_ne (by omega))
        have t41 := fup_at ehB36 117 (by omega)
        have k42 := fBz_eq hB36 (a := 741) (j := 9) (by decide +kernel)
        refine And.intro (by omega) (And.intro ?_ ?_)
        · intro c43
          refine And.intro (⟨by omega, by omega⟩) ?_
          exact ⟨_, rfl, by omega⟩
        · intro c44
          refine Exists.intro xm_259 (And.intro mi_259 (And.intro ⟨rfl, rfl, rfl, rfl⟩ (And.intro rfl ?_)))
          refine fcall _ h0 (fzs_sub (by decide +kernel) hW) hB36 (ct_M_worked_0bc29 (fBz h0 hB36) (by omega) (sI_keep hp0 h0 hB36 (by decide +kernel)) (by omega)) ?_
          rintro IhB46 _ hB46 fhB46 ⟨z45, rfl, hz45⟩
          have t47 := fhB46 741 7 (by decide +kernel)
          have k48 := fBz_eq hB46 (a := 741) (j := 9) (by decide +kernel)
          refine And.intro (by omega) (And.intro ?_ ?_)
          · intro c49
            refine And.intro (⟨by omega, by omega⟩) ?_
            exact ⟨_, rfl, by omega⟩
          · intro c50
            refine And.intro (⟨by omega, by omega⟩) ?_
            exact ⟨_, rfl, by omega⟩
      · intro c51
        refine Exists.intro xm_267 (And.intro mi_267 (And.intro ⟨rfl, rfl, rfl, rfl⟩ (And.intro rfl ?_)))
        refine fcallp hB1 (ct_M_kindOf_31275 (fBz h0 hB1) (by omega)) ?_
        rintro _ ⟨z52, rfl, hz52⟩
        refine And.intro (by omega) (And.intro ?_ ?_)
        · intro c53
          intro z54 hz54 ez54 bz54
          clear ez54
          try replace bz54 := bz54 (by omega)
          exact fcutJ (I := I1) (j := jc_M_mayBirth_669a5_76) (lv' := [(0, .inr (.inr (some 740))), (1, .inl _), (2, .inl _), (3, .inl _), (4, .inl _), (5, .inl _)]) (And.intro rfl (And.intro rfl (And.intro rfl (And.intro rfl (And.intro rfl (And.intro rfl True.intro)))))) ⟨_, _, _, _, _, rfl, rfl, by omega, rfl⟩ (by omega)
        · intro c55
          refine Exists.intro xm_245 (And.intro mi_245 (And.intro ⟨rfl, rfl, rfl, rfl⟩ (And.intro rfl ?_)))
          refine fcallp hB1 (ct_M_isGone_0de37 (fBz h0 hB1) (by omega)) ?_
          rintro _ ⟨z56, rfl, hz56⟩
          refine And.intro (by omega) (And.intro ?_ ?_)
          · intro c57
            intro z58 hz58 ez58 bz58
            clear ez58
            try replace bz58 := bz58 (by omega)
            exact fcutJ (I := I1) (j := jc_M_mayBirth_669a5_76) (lv' := [(0, .inr (.inr (some 740))), (1, .inl _), (2, .inl _), (3, .inl _), (4, .inl _), (5, .inl _)]) (And.intro rfl (And.intro rfl (And.intro rfl (And.intro rfl (And.intro rfl (And.intro rfl True.intro)))))) ⟨_, _, _, _, _, rfl, rfl, by omega, rfl⟩ (by omega)
          · intro c59
            refine And.intro ⟨rfl, by decide, by decide⟩ ?_
            refine Exists.intro xm_244 (And.intro mi_244 (And.intro ⟨rfl, rfl, rfl, rfl⟩ (And.intro rfl ?_)))
            refine fcallp hB1 (ct_M_workAt_83d38 (fBz h0 hB1) (by omega)) ?_
            rintro _ ⟨_, rfl, rfl⟩
            refine fload rL_741_741_535_857_14_0 h0 hB1 (by omega) ?_
            intro z61 lz61 uz61 qz61
            intro z62 hz62 ez62 bz62
            clear ez62
            try replace bz62 := bz62 (by omega)
            exact fcutJ (I := I1) (j := jc_M_mayBirth_669a5_76) (lv' := [(0, .inr (.inr (some 740))), (1, .inl _), (2, .inl _), (3, .inl _), (4, .inl _), (5, .inl _)]) (And.intro rfl (And.intro rfl (And.intro rfl (And.intro rfl (And.intro rfl (And.intro rfl True.intro)))))) ⟨_, _, _, _, _, rfl, rfl, by omega, rfl⟩ (by omega)
  · have hB0 := fB_self (zn := znJ) (K := fKc wz_5ef89) h0
    refine Exists.intro xm_254 (And.intro mi_254 (And.intro ⟨rfl, rfl, rfl, rfl⟩ (And.intro rfl ?_)))
    refine fcallp hB0 (ct_M_counts_1278f (fBz h0 hB0) (by omega)) ?_
    rintro _ ⟨z63, rfl, hz63⟩
    exact fcutJ (I := I) (j := jc_M_mayBirth_669a5_16) (lv' := [(0, .inr (.inr (some 740))), (1, .inl _), (2, .inl _), (3, .inl _), (4, .inl _), (5, .inl _)]) (And.intro rfl (And.intro rfl (And.intro rfl (And.intro rfl (And.intro rfl (And.intro rfl True.intro)))))) ⟨_, _, _, _, _, rfl, rfl, by omega, rfl⟩ (by omega)
set_option maxRecDepth 8000 in
theorem ct_Charter_addText_b135c {I : fH}  (h0 : fB bsJ I)  : fC ρ base n F xTc vwCl xTys D dA la gJ (fbz bsJ znJ (fKc wz_5dd44) I) xm_131 [.inr (.inr (some 187)), .inr (.inr (some 699))] I (fun _ r => ∃ z, r = some (.inl z) ∧ ((0 ≤ z ∧ z ≤ 11) ∨ z = (-1000000003))) := by
  have hW : fzs wz_5dd44 (fKc wz_5dd44) := fKc_ok _
  refine f_meth (rb := rbJ) (J := []) 1 400 xG xin_131 x6_131 okJ (fB_self h0) ?_ ?_
  · exact fun q h => absurd h List.not_mem_nil
  · have hB0 := fB_self (zn := znJ) (K := fKc wz_5dd44) h0
    refine And.intro ⟨rfl, by decide, by decide⟩ (fgetf fb_187_6 h0 hB0 ?_)
    intro z1 lz1 uz1 qz1
    refine And.intro (by omega) (And.intro ?_ ?_)
    · intro c2
      refine And.intro ⟨rfl, by decide, by decide⟩ ?_
      refine And.intro ⟨rfl, by decide, by decide⟩ (fgetf fb_699_2 h0 hB0 ?_)
      intro z3 lz3 uz3 qz3
      refine fstore rS_188_188_0_11_1_0 (fzs_sub (by decide +kernel) hW) (by omega) (by omega) ?_
      intro IhB4 ehB4 hB4
      have t5 := fup_self ehB4
      have t6 : IhB4 187 6 = I 187 6 := (congrFun (congrFun ehB4 187) 6).trans (fup_ne (by omega))
      have t7 : IhB4 699 2 = I 699 2 := (congrFun (congrFun ehB4 699) 2).trans (fup_ne (by omega))
      refine And.intro ⟨rfl, by decide, by decide⟩ ?_
      refine fstore rS_189_189_0_11_1_0 (fzs_sub (by decide +kernel) hW) (by omega) (by omega) ?_
      intro IhB8 ehB8 hB8
      have t9 := fup_self ehB8
      have t10 : IhB8 187 6 = IhB4 187 6 := (congrFun (congrFun ehB8 187) 6).trans (fup_ne (by omega))
      have t11 : IhB8 699 2 = IhB4 699 2 := (congrFun (congrFun ehB8 699) 2).trans (fup_ne (by omega))
      refine And.intro ⟨rfl, by decide, by decide⟩ ?_
      refine fstore rS_190_190_0_11_1_0 (fzs_sub (by decide +kernel) hW) (by omega) (by omega) ?_
      intro IhB12 ehB12 hB12
      have t13 := fup_self ehB12
      have t14 : IhB12 187 6 = IhB8 187 6 := (congrFun (congrFun ehB12 187) 6).trans (fup_ne (by omega))
      have t15 : IhB12 699 2 = IhB8 699 2 := (congrFun (congrFun ehB12 699) 2).trans (fup_ne (by omega))
      refine And.intro ⟨rfl, by decide, by decide⟩ ?_
      refine And.intro ⟨rfl, by decide, by decide⟩ (fgetf fb_699_5 h0 hB12 ?_)
      intro z16 lz16 uz16 qz16
      refine fstore rS_191_191_0_11_1_0 (fzs_sub (by decide +kernel) hW) (by omega) (by omega) ?_
      intro IhB17 ehB17 hB17
      have t18 := fup_self ehB17
      have t19 : IhB17 187 6 = IhB12 187 6 := (congrFun (congrFun ehB17 187) 6).trans (fup_ne (by omega))
      have t20 : IhB17 699 2 = IhB12 699 2 := (congrFun (congrFun ehB17 699) 2).trans (fup_ne (by omega))
      have t21 : IhB17 699 5 = IhB12 699 5 := (congrFun (congrFun ehB17 699) 5).trans (fup_ne (by omega))
      refine And.intro ⟨rfl, by decide, by decide⟩ ?_
      refine And.intro ⟨rfl, by decide, by decide⟩ (fgetf fb_699_4 h0 hB17 ?_)
      intro z22 lz22 uz22 qz22
      refine fstore rS_192_192_0_11_1_0 (fzs_sub (by decide +kernel) hW) (by omega) (by omega) ?_
      intro IhB23 ehB23 hB23
      have t24 := fup_self ehB23
      have t25 : IhB23 187 6 = IhB17 187 6 := (congrFun (congrFun ehB23 187) 6).trans (fup_ne (by omega))
      have t26 : IhB23 699 2 = IhB17 699 2 := (congrFun (congrFun ehB23 699) 2).trans (fup_ne (by omega))
      have t27 : IhB23 699 4 = IhB17 699 4 := (congrFun (congrFun ehB23 699) 4).trans (fup_ne (by omega))
      have t28 : IhB23 699 5 = IhB17 699 5 := (congrFun (congrFun ehB23 699) 5).trans (fup_ne (by omega))
      refine And.intro ⟨rfl, by decide, by decide⟩ ?_
      refine And.intro ⟨rfl, by decide, by decide⟩ ?_
      refine And.intro ⟨rfl, by decide⟩ (And.intro (by omega) ?_)
      refine Exists.intro xm_75 (And.intro mi_75 (And.intro ⟨rfl, rfl, rfl, rfl⟩ (And.intro True.intro ?_)))
      refine fcall _ h0 (fzs_sub (by decide +kernel) hW) hB23 (ct_copyRow (W := [193]) (len := 96) (fBz h0 hB23) (frCy (a0 := 194) (a1 := 205) (by decide +kernel) (by omega))) ?_
      rintro IhB29 _ hB29 fhB29 ⟨rfl, ehB29⟩
      have t30 := fhB29 187 6 (by decide +kernel)
      have t31 := fhB29 699 2 (by decide +kernel)
      have t32 := fhB29 699 4 (by decide +kernel)
      have t33 := fhB29 699 5 (by decide +kernel)
      refine And.intro ⟨rfl, by decide, by decide⟩ (And.intro rfl (And.intro (Or.inl rfl) (fputf fb_187_6 (by decide +kernel) hW (by omega) ?_)))
      intro IhB34 ehB34 hB34
      have t35 := fup_at ehB34 6 (by omega)
      have t36 : IhB34 699 2 = IhB29 699 2 := (congrFun (congrFun ehB34 699) 2).trans (fup_ne (by omega))
      have t37 : IhB34 699 4 = IhB29 699 4 := (congrFun (congrFun ehB34 699) 4).trans (fup_ne (by omega))
      have t38 : IhB34 699 5 = IhB29 699 5 := (congrFun (congrFun ehB34 699) 5).trans (fup_ne (by omega))
      refine And.intro (True.intro) ?_
      exact ⟨_, rfl, by omega⟩
    · intro c39
      refine And.intro (True.intro) ?_
      exact ⟨_, rfl, by omega⟩
theorem ct_M_isLetter_13ae5 {I : fH} {x1 : Int} (h0 : fB bsJ I) (ha1 : (0 ≤ x1 ∧ x1 ≤ 96)) : fC ρ base n F xTc vwCl xTys D dA la gJ (fbz bsJ znJ (fKc []) I) xm_315 [.inr (.inr (some 740)), .inl x1] I (fun _ r => ∃ z, r = some (.inl z) ∧ (((z = 1 ∧ (-2147483648) ≤ x1 ∧ x1 ≤ 95) ∨ z = 0) ∧ ((z = 1 → x1 < I 740 8 ∧ 97 ≤ I 747 x1.toNat ∧ I 747 x1.toNat ≤ 122) ∧ (z = 0 → ¬ (x1 < I 740 8 ∧ 97 ≤ I 747 x1.toNat ∧ I 747 x1.toNat ≤ 122))))) := sorry
theorem ct_M_isDigit_7604c {I : fH} {x1 : Int} (h0 : fB bsJ I) (ha1 : (0 ≤ x1 ∧ x1 ≤ 96)) : fC ρ base n F xTc vwCl xTys D dA la gJ (fbz bsJ znJ (fKc []) I) xm_316 [.inr (.inr (some 740)), .inl x1] I (fun _ r => ∃ z, r = some (.inl z) ∧ (((z = 1 ∧ (-2147483648) ≤ x1 ∧ x1 ≤ 95) ∨ z = 0) ∧ ((z = 1 → x1 < I 740 8 ∧ 48 ≤ I 747 x1.toNat ∧ I 747 x1.toNat ≤ 57) ∧ (z = 0 → ¬ (x1 < I 740 8 ∧ 48 ≤ I 747 x1.toNat ∧ I 747 x1.toNat ≤ 57))))) := sorry
theorem ct_M_next_c8003 {I : fH}  (h0 : fB bsJ I) (hp0 : I 740 10 ≤ I 740 8) : fC ρ base n F xTc vwCl xTys D dA la gJ (fbz bsJ znJ (fKc wz_1c18d) I) xm_314 [.inr (.inr (some 740))] I (fun I' r => r = none ∧ (I 740 10 ≤ I' 740 9 ∧ I' 740 9 ≤ I' 740 10 ∧ I' 740 10 ≤ I' 740 8 ∧ (I' 740 11 = 0 ∨ I' 740 9 < I' 740 10))) := sorry
theorem ct_M_isSign_90da9 {I : fH} {x1 : Int} (h0 : fB bsJ I) (ha1 : (33 ≤ x1 ∧ x1 ≤ 124)) : fC ρ base n F xTc vwCl xTys D dA la gJ (fbz bsJ znJ (fKc []) I) xm_423 [.inr (.inr (some 740)), .inl x1] I (fun _ r => ∃ z, r = some (.inl z) ∧ ((0 ≤ z ∧ z ≤ 1) ∧ (z = 1 → I 740 11 = 3 ∧ I 740 13 = x1))) := sorry
theorem ct_M_step_2c704 {I : fH} {x1 : Int} {x2 : Int} (h0 : fB bsJ I) (ha1 : (0 ≤ x1 ∧ x1 ≤ 2)) (ha2 : ((-2147483648) ≤ x2 ∧ x2 ≤ 2147483647)) (hp0 : 0 ≤ I 740 16 ∧ I 740 16 ≤ 96) (hp1 : (1215 ≤ I 740 17 ∧ I 740 17 ≤ 3415 ∧ (I 740 17 - 1215) % 200 = 0) ∨ I 740 17 = 4700) : fC ρ base n F xTc vwCl xTys D dA la gJ (fbz bsJ znJ (fKc wz_6dafe) I) xm_421 [.inr (.inr (some 740)), .inl x1, .inl x2] I (fun I' r => r = none ∧ (I' 740 16 = I 740 16 + 1) ∧ (sPut I I' (I 740 17) (I 740 16) x1 x2)) := sorry
theorem ct_M_isName_49450 {I : fH} {x0 : Int} {x1 : Int} (h0 : fB bsJ I) (ha0 : ((-1) ≤ x0 ∧ x0 ≤ 5)) (ha1 : ((-2147483648) ≤ x1 ∧ x1 ≤ 2147483647)) : fC ρ base n F xTc vwCl xTys D dA la gJ (fbz bsJ znJ (fKc []) I) xm_422 [.inl x0, .inl x1] I (fun _ r => ∃ z, r = some (.inl z) ∧ ((0 ≤ z ∧ z ≤ 1) ∧ (z = 1 → 97 ≤ x1 ∧ x1 ≤ 121))) := sorry
set_option maxRecDepth 8000 in
theorem ct_M_part0_cc4b8 {I : fH} {x1 : Int} (h0 : fB bsJ I) (ha1 : ((-1) ≤ x1 ∧ x1 ≤ 5)) (hp0 : I 740 9 ≤ I 740 10 ∧ I 740 10 ≤ I 740 8 ∧ (I 740 11 = 0 ∨ I 740 9 < I 740 10)) (hp1 : 0 ≤ I 740 16 ∧ I 740 16 ≤ I 740 9) (hp2 : 16 ≤ I 740 14 + I 740 15) (hp3 : (1215 ≤ I 740 17 ∧ I 740 17 ≤ 3415 ∧ (I 740 17 - 1215) % 200 = 0) ∨ I 740 17 = 4700) : fC ρ base n F xTc vwCl xTys D dA la gJ (fbz bsJ znJ (fKc wz_2212a) I) xm_404 [.inr (.inr (some 740)), .inl x1] I (fun I' r => ∃ z, r = some (.inl z) ∧ ((0 ≤ z ∧ z ≤ 1) ∧ (I 740 9 ≤ I' 740 9 ∧ I' 740 9 ≤ I' 740 10 ∧ I' 740 10 ≤ I' 740 8 ∧ (I' 740 11 = 0 ∨ I' 740 9 < I' 740 10) ∧ (z = 1 → I 740 16 ≤ I' 740 16 ∧ I' 740 16 - I 740 16 ≤ I' 740 9 - I 740 9 ∧ I' 740 14 = I 740 14 ∧ I' 740 15 = I 740 15))) ∧ (sBe I I' (I 740 17) (I 740 16)) ∧ (z = 1 → sOne I' (I 740 17) (I 740 16) (I' 740 16))) := by
  have hW : fzs wz_2212a (fKc wz_2212a) := fKc_ok _
  refine f_meth (rb := rbJ) (J := []) 1 400 xG xin_404 x6_404 okJ (fB_self h0) ?_ ?_
  · exact fun q h => absurd h List.not_mem_nil
  · have hB0 := fB_self (zn := znJ) (K := fKc wz_2212a) h0
    have b1 := fBd fb_740_8 (fBz h0 hB0)
    have b2 := fBd fb_740_14 (fBz h0 hB0)
    have b3 := fBd fb_740_15 (fBz h0 hB0)
    refine And.intro ⟨rfl, by decide, by decide⟩ (fgetf fb_740_11 h0 hB0 ?_)
    intro z4 lz4 uz4 qz4
    refine And.intro (by omega) (And.intro ?_ ?_)
    · intro c5
      refine And.intro ⟨rfl, by decide, by decide⟩ (fgetf fb_740_11 h0 hB0 ?_)
      intro z6 lz6 uz6 qz6
      refine And.intro (by omega) (And.intro ?_ ?_)
      · intro c7
        refine Exists.intro xm_423 (And.intro mi_423 (And.intro ⟨rfl, rfl, rfl, rfl⟩ (And.intro rfl ?_)))
        refine fcallp hB0 (ct_M_isSign_90da9 (fBz h0 hB0) (by omega)) ?_
        rintro _ ⟨z8, rfl, hz8⟩
        refine And.intro (by omega) (And.intro ?_ ?_)
        · intro c9
          refine Exists.intro xm_423 (And.intro mi_423 (And.intro ⟨rfl, rfl, rfl, rfl⟩ (And.intro rfl ?_)))
          refine fcallp hB0 (ct_M_isSign_90da9 (fBz h0 hB0) (by omega)) ?_
          rintro _ ⟨z10, rfl, hz10⟩
          refine And.intro (by omega) (And.intro ?_ ?_)
          · intro c11
            refine And.intro (⟨by omega, by omega⟩) ?_
            exact ⟨_, rfl, by omega, sBe_refl, (fun q => absurd q (by omega))⟩
          · intro c12
            refine And.intro ⟨rfl, by decide, by decide⟩ (fgetf fb_740_14 h0 hB0 ?_)
            intro z13 lz13 uz13 qz13
            refine And.intro (by omega) (And.intro ?_ ?_)
            · intro c14
              refine And.intro ⟨rfl, by decide, by decide⟩ (fgetf fb_740_14 h0 hB0 ?_)
              intro z15 lz15 uz15 qz15
              refine And.intro ⟨rfl, by decide, by decide⟩ (And.intro rfl (And.intro (Or.inl rfl) (fputf fb_740_14 (by decide +kernel) hW (by omega) ?_)))
              intro IhB16 ehB16 hB16
              have t17 : IhB16 740 9 = I 740 9 := (congrFun (congrFun ehB16 740) 9).trans (fup_ne (by omega))
              have t18 : IhB16 740 10 = I 740 10 := (congrFun (congrFun ehB16 740) 10).trans (fup_ne (by omega))
              have t19 : IhB16 740 11 = I 740 11 := (congrFun (congrFun ehB16 740) 11).trans (fup_ne (by omega))
              have t20 : IhB16 740 13 = I 740 13 := (congrFun (congrFun ehB16 740) 13).trans (fup_ne (by omega))
              have t21 := fup_at ehB16 14 (by omega)
              have t22 : IhB16 740 15 = I 740 15 := (congrFun (congrFun ehB16 740) 15).trans (fup_ne (by omega))
              have t23 : IhB16 740 16 = I 740 16 := (congrFun (congrFun ehB16 740) 16).trans (fup_ne (by omega))
              have k24 := fBz_eq hB16 (a := 740) (j := 8) (by decide +kernel)
              have k25 := fBz_eq hB16 (a := 740) (j := 17) (by decide +kernel)
              refine Exists.intro xm_314 (And.intro mi_314 (And.intro ⟨rfl, rfl, rfl, rfl⟩ (And.intro rfl ?_)))
              refine fcall _ h0 (fzs_sub (by decide +kernel) hW) hB16 (ct_M_next_c8003 (fBz h0 hB16) (by omega)) ?_
              rintro IhB27 _ hB27 fhB27 ⟨rfl, hz26⟩
              have t28 := fhB27 740 14 (by decide +kernel)
              have t29 := fhB27 740 15 (by decide +kernel)
              have t30 := fhB27 740 16 (by decide +kernel)
              have k31 := fBz_eq hB27 (a := 740) (j := 8) (by decide +kernel)
              have k32 := fBz_eq hB27 (a := 740) (j := 17) (by decide +kernel)
              exfalso
              omega
            · intro c33
              refine And.intro (⟨by omega, by omega⟩) ?_
              exact ⟨_, rfl, by omega, sBe_refl, (fun q => absurd q (by omega))⟩
        · intro c34
          refine And.intro ⟨rfl, by decide, by decide⟩ (fgetf fb_740_15 h0 hB0 ?_)
          intro z35 lz35 uz35 qz35
          refine And.intro (by omega) (And.intro ?_ ?_)
          · intro c36
            refine Exists.intro xm_423 (And.intro mi_423 (And.intro ⟨rfl, rfl, rfl, rfl⟩ (And.intro rfl ?_)))
            refine fcallp hB0 (ct_M_isSign_90da9 (fBz h0 hB0) (by omega)) ?_
            rintro _ ⟨z37, rfl, hz37⟩
            refine And.intro (by omega) (And.intro ?_ ?_)
            · intro c38
              refine And.intro (⟨by omega, by omega⟩) ?_
              exact ⟨_, rfl, by omega, sBe_refl, (fun q => absurd q (by omega))⟩
            · intro c39
              refine And.intro ⟨rfl, by decide, by decide⟩ (fgetf fb_740_14 h0 hB0 ?_)
              intro z40 lz40 uz40 qz40
              refine And.intro (by omega) (And.intro ?_ ?_)
              · intro c41
                refine And.intro ⟨rfl, by decide, by decide⟩ (fgetf fb_740_14 h0 hB0 ?_)
                intro z42 lz42 uz42 qz42
                refine And.intro ⟨rfl, by decide, by decide⟩ (And.intro rfl (And.intro (Or.inl rfl) (fputf fb_740_14 (by decide +kernel) hW (by omega) ?_)))
                intro IhB43 ehB43 hB43
                have t44 : IhB43 740 9 = I 740 9 := (congrFun (congrFun ehB43 740) 9).trans (fup_ne (by omega))
                have t45 : IhB43 740 10 = I 740 10 := (congrFun (congrFun ehB43 740) 10).trans (fup_ne (by omega))
                have t46 : IhB43 740 11 = I 740 11 := (congrFun (congrFun ehB43 740) 11).trans (fup_ne (by omega))
                have t47 : IhB43 740 13 = I 740 13 := (congrFun (congrFun ehB43 740) 13).trans (fup_ne (by omega))
                have t48 := fup_at ehB43 14 (by omega)
                have t49 : IhB43 740 15 = I 740 15 := (congrFun (congrFun ehB43 740) 15).trans (fup_ne (by omega))
                have t50 : IhB43 740 16 = I 740 16 := (congrFun (congrFun ehB43 740) 16).trans (fup_ne (by omega))
                have k51 := fBz_eq hB43 (a := 740) (j := 8) (by decide +kernel)
                have k52 := fBz_eq hB43 (a := 740) (j := 17) (by decide +kernel)
                refine Exists.intro xm_314 (And.intro mi_314 (And.intro ⟨rfl, rfl, rfl, rfl⟩ (And.intro rfl ?_)))
                refine fcall _ h0 (fzs_sub (by decide +kernel) hW) hB43 (ct_M_next_c8003 (fBz h0 hB43) (by omega)) ?_
                rintro IhB54 _ hB54 fhB54 ⟨rfl, hz53⟩
                have t55 := fhB54 740 14 (by decide +kernel)
                have t56 := fhB54 740 15 (by decide +kernel)
                have t57 := fhB54 740 16 (by decide +kernel)
                have k58 := fBz_eq hB54 (a := 740) (j := 8) (by decide +kernel)
                have k59 := fBz_eq hB54 (a := 740) (j := 17) (by decide +kernel)
                exfalso
                omega
              · intro c60
                refine And.intro (⟨by omega, by omega⟩) ?_
                exact ⟨_, rfl, by omega, sBe_refl, (fun q => absurd q (by omega))⟩
          · intro c61
            refine And.intro ⟨rfl, by decide, by decide⟩ (fgetf fb_740_15 h0 hB0 ?_)
            intro z62 lz62 uz62 qz62
            refine And.intro ⟨rfl, by decide, by decide⟩ (And.intro rfl (And.intro (Or.inl rfl) (fputf fb_740_15 (by decide +kernel) hW (by omega) ?_)))
            intro IhB63 ehB63 hB63
            have t64 : IhB63 740 9 = I 740 9 := (congrFun (congrFun ehB63 740) 9).trans (fup_ne (by omega))
            have t65 : IhB63 740 10 = I 740 10 := (congrFun (congrFun ehB63 740) 10).trans (fup_ne (by omega))
            have t66 : IhB63 740 11 = I 740 11 := (congrFun (congrFun ehB63 740) 11).trans (fup_ne (by omega))
            have t67 : IhB63 740 13 = I 740 13 := (congrFun (congrFun ehB63 740) 13).trans (fup_ne (by omega))
            have t68 : IhB63 740 14 = I 740 14 := (congrFun (congrFun ehB63 740) 14).trans (fup_ne (by omega))
            have t69 := fup_at ehB63 15 (by omega)
            have t70 : IhB63 740 16 = I 740 16 := (congrFun (congrFun ehB63 740) 16).trans (fup_ne (by omega))
            have k71 := fBz_eq hB63 (a := 740) (j := 8) (by decide +kernel)
            have k72 := fBz_eq hB63 (a := 740) (j := 17) (by decide +kernel)
            refine Exists.intro xm_314 (And.intro mi_314 (And.intro ⟨rfl, rfl, rfl, rfl⟩ (And.intro rfl ?_)))
            refine fcall _ h0 (fzs_sub (by decide +kernel) hW) hB63 (ct_M_next_c8003 (fBz h0 hB63) (by omega)) ?_
            rintro IhB74 _ hB74 fhB74 ⟨rfl, hz73⟩
            have t75 := fhB74 740 14 (by decide +kernel)
            have t76 := fhB74 740 15 (by decide +kernel)
            have t77 := fhB74 740 16 (by decide +kernel)
            have k78 := fBz_eq hB74 (a := 740) (j := 8) (by decide +kernel)
            have k79 := fBz_eq hB74 (a := 740) (j := 17) (by decide +kernel)
            exfalso
            omega
      · intro c80
        refine And.intro ⟨rfl, by decide, by decide⟩ (fgetf fb_740_13 h0 hB0 ?_)
        intro z81 lz81 uz81 qz81
        refine And.intro (by omega) (And.intro ?_ ?_)
        · intro c82
          refine Exists.intro xm_423 (And.intro mi_423 (And.intro ⟨rfl, rfl, rfl, rfl⟩ (And.intro rfl ?_)))
          refine fcallp hB0 (ct_M_isSign_90da9 (fBz h0 hB0) (by omega)) ?_
          rintro _ ⟨z83, rfl, hz83⟩
          refine And.intro (by omega) (And.intro ?_ ?_)
          · intro c84
            refine Exists.intro xm_423 (And.intro mi_423 (And.intro ⟨rfl, rfl, rfl, rfl⟩ (And.intro rfl ?_)))
            refine fcallp hB0 (ct_M_isSign_90da9 (fBz h0 hB0) (by omega)) ?_
            rintro _ ⟨z85, rfl, hz85⟩
            refine And.intro (by omega) (And.intro ?_ ?_)
            · intro c86
              refine And.intro (⟨by omega, by omega⟩) ?_
              exact ⟨_, rfl, by omega, sBe_refl, (fun q => absurd q (by omega))⟩
            · intro c87
              refine And.intro ⟨rfl, by decide, by decide⟩ (fgetf fb_740_14 h0 hB0 ?_)
              intro z88 lz88 uz88 qz88
              refine And.intro (by omega) (And.intro ?_ ?_)
              · intro c89
                refine And.intro ⟨rfl, by decide, by decide⟩ (fgetf fb_740_14 h0 hB0 ?_)
                intro z90 lz90 uz90 qz90
                refine And.intro ⟨rfl, by decide, by decide⟩ (And.intro rfl (And.intro (Or.inl rfl) (fputf fb_740_14 (by decide +kernel) hW (by omega) ?_)))
                intro IhB91 ehB91 hB91
                have t92 : IhB91 740 9 = I 740 9 := (congrFun (congrFun ehB91 740) 9).trans (fup_ne (by omega))
                have t93 : IhB91 740 10 = I 740 10 := (congrFun (congrFun ehB91 740) 10).trans (fup_ne (by omega))
                have t94 : IhB91 740 11 = I 740 11 := (congrFun (congrFun ehB91 740) 11).trans (fup_ne (by omega))
                have t95 : IhB91 740 13 = I 740 13 := (congrFun (congrFun ehB91 740) 13).trans (fup_ne (by omega))
                have t96 := fup_at ehB91 14 (by omega)
                have t97 : IhB91 740 15 = I 740 15 := (congrFun (congrFun ehB91 740) 15).trans (fup_ne (by omega))
                have t98 : IhB91 740 16 = I 740 16 := (congrFun (congrFun ehB91 740) 16).trans (fup_ne (by omega))
                have k99 := fBz_eq hB91 (a := 740) (j := 8) (by decide +kernel)
                have k100 := fBz_eq hB91 (a := 740) (j := 17) (by decide +kernel)
                refine Exists.intro xm_314 (And.intro mi_314 (And.intro ⟨rfl, rfl, rfl, rfl⟩ (And.intro rfl ?_)))
                refine fcall _ h0 (fzs_sub (by decide +kernel) hW) hB91 (ct_M_next_c8003 (fBz h0 hB91) (by omega)) ?_
                rintro IhB102 _ hB102 fhB102 ⟨rfl, hz101⟩
                have t103 := fhB102 740 14 (by decide +kernel)
                have t104 := fhB102 740 15 (by decide +kernel)
                have t105 := fhB102 740 16 (by decide +kernel)
                have k106 := fBz_eq hB102 (a := 740) (j := 8) (by decide +kernel)
                have k107 := fBz_eq hB102 (a := 740) (j := 17) (by decide +kernel)
                exfalso
                omega
              · intro c108
                refine And.intro (⟨by omega, by omega⟩) ?_
                exact ⟨_, rfl, by omega, sBe_refl, (fun q => absurd q (by omega))⟩
          · intro c109
            refine And.intro ⟨rfl, by decide, by decide⟩ (fgetf fb_740_15 h0 hB0 ?_)
            intro z110 lz110 uz110 qz110
            refine And.intro (by omega) (And.intro ?_ ?_)
            · intro c111
              refine Exists.intro xm_423 (And.intro mi_423 (And.intro ⟨rfl, rfl, rfl, rfl⟩ (And.intro rfl ?_)))
              refine fcallp hB0 (ct_M_isSign_90da9 (fBz h0 hB0) (by omega)) ?_
              rintro _ ⟨z112, rfl, hz112⟩
              refine And.intro (by omega) (And.intro ?_ ?_)
              · intro c113
                refine And.intro (⟨by omega, by omega⟩) ?_
                exact ⟨_, rfl, by omega, sBe_refl, (fun q => absurd q (by omega))⟩
              · intro c114
                refine And.intro ⟨rfl, by decide, by decide⟩ (fgetf fb_740_14 h0 hB0 ?_)
                intro z115 lz115 uz115 qz115
                refine And.intro (by omega) (And.intro ?_ ?_)
                · intro c116
                  refine And.intro ⟨rfl, by decide, by decide⟩ (fgetf fb_740_14 h0 hB0 ?_)
                  intro z117 lz117 uz117 qz117
                  refine And.intro ⟨rfl, by decide, by decide⟩ (And.intro rfl (And.intro (Or.inl rfl) (fputf fb_740_14 (by decide +kernel) hW (by omega) ?_)))
                  intro IhB118 ehB118 hB118
                  have t119 : IhB118 740 9 = I 740 9 := (congrFun (congrFun ehB118 740) 9).trans (fup_ne (by omega))
                  have t120 : IhB118 740 10 = I 740 10 := (congrFun (congrFun ehB118 740) 10).trans (fup_ne (by omega))
                  have t121 : IhB118 740 11 = I 740 11 := (congrFun (congrFun ehB118 740) 11).trans (fup_ne (by omega))
                  have t122 : IhB118 740 13 = I 740 13 := (congrFun (congrFun ehB118 740) 13).trans (fup_ne (by omega))
                  have t123 := fup_at ehB118 14 (by omega)
                  have t124 : IhB118 740 15 = I 740 15 := (congrFun (congrFun ehB118 740) 15).trans (fup_ne (by omega))
                  have t125 : IhB118 740 16 = I 740 16 := (congrFun (congrFun ehB118 740) 16).trans (fup_ne (by omega))
                  have k126 := fBz_eq hB118 (a := 740) (j := 8) (by decide +kernel)
                  have k127 := fBz_eq hB118 (a := 740) (j := 17) (by decide +kernel)
                  refine Exists.intro xm_314 (And.intro mi_314 (And.intro ⟨rfl, rfl, rfl, rfl⟩ (And.intro rfl ?_)))
                  refine fcall _ h0 (fzs_sub (by decide +kernel) hW) hB118 (ct_M_next_c8003 (fBz h0 hB118) (by omega)) ?_
                  rintro IhB129 _ hB129 fhB129 ⟨rfl, hz128⟩
                  have t130 := fhB129 740 14 (by decide +kernel)
                  have t131 := fhB129 740 15 (by decide +kernel)
                  have t132 := fhB129 740 16 (by decide +kernel)
                  have k133 := fBz_eq hB129 (a := 740) (j := 8) (by decide +kernel)
                  have k134 := fBz_eq hB129 (a := 740) (j := 17) (by decide +kernel)
                  exfalso
                  omega
                · intro c135
                  refine And.intro (⟨by omega, by omega⟩) ?_
                  exact ⟨_, rfl, by omega, sBe_refl, (fun q => absurd q (by omega))⟩
            · intro c136
              refine And.intro ⟨rfl, by decide, by decide⟩ (fgetf fb_740_15 h0 hB0 ?_)
              intro z137 lz137 uz137 qz137
              refine And.intro ⟨rfl, by decide, by decide⟩ (And.intro rfl (And.intro (Or.inl rfl) (fputf fb_740_15 (by decide +kernel) hW (by omega) ?_)))
              intro IhB138 ehB138 hB138
              have t139 : IhB138 740 9 = I 740 9 := (congrFun (congrFun ehB138 740) 9).trans (fup_ne (by omega))
              have t140 : IhB138 740 10 = I 740 10 := (congrFun (congrFun ehB138 740) 10).trans (fup_ne (by omega))
              have t141 : IhB138 740 11 = I 740 11 := (congrFun (congrFun ehB138 740) 11).trans (fup_ne (by omega))
              have t142 : IhB138 740 13 = I 740 13 := (congrFun (congrFun ehB138 740) 13).trans (fup_ne (by omega))
              have t143 : IhB138 740 14 = I 740 14 := (congrFun (congrFun ehB138 740) 14).trans (fup_ne (by omega))
              have t144 := fup_at ehB138 15 (by omega)
              have t145 : IhB138 740 16 = I 740 16 := (congrFun (congrFun ehB138 740) 16).trans (fup_ne (by omega))
              have k146 := fBz_eq hB138 (a := 740) (j := 8) (by decide +kernel)
              have k147 := fBz_eq hB138 (a := 740) (j := 17) (by decide +kernel)
              refine Exists.intro xm_314 (And.intro mi_314 (And.intro ⟨rfl, rfl, rfl, rfl⟩ (And.intro rfl ?_)))
              refine fcall _ h0 (fzs_sub (by decide +kernel) hW) hB138 (ct_M_next_c8003 (fBz h0 hB138) (by omega)) ?_
              rintro IhB149 _ hB149 fhB149 ⟨rfl, hz148⟩
              have t150 := fhB149 740 14 (by decide +kernel)
              have t151 := fhB149 740 15 (by decide +kernel)
              have t152 := fhB149 740 16 (by decide +kernel)
              have k153 := fBz_eq hB149 (a := 740) (j := 8) (by decide +kernel)
              have k154 := fBz_eq hB149 (a := 740) (j := 17) (by decide +kernel)
              exfalso
              omega
        · intro c155
          refine And.intro ⟨rfl, by decide, by decide⟩ (fgetf fb_740_13 h0 hB0 ?_)
          intro z156 lz156 uz156 qz156
          refine Exists.intro xm_422 (And.intro mi_422 (And.intro ⟨rfl, rfl, rfl, rfl⟩ (And.intro True.intro ?_)))
          refine fcallp hB0 (ct_M_isName_49450 (fBz h0 hB0) (by omega) (by omega)) ?_
          rintro _ ⟨z157, rfl, hz157⟩
          refine And.intro (by omega) (And.intro ?_ ?_)
          · intro c158
            refine Exists.intro xm_423 (And.intro mi_423 (And.intro ⟨rfl, rfl, rfl, rfl⟩ (And.intro rfl ?_)))
            refine fcallp hB0 (ct_M_isSign_90da9 (fBz h0 hB0) (by omega)) ?_
            rintro _ ⟨z159, rfl, hz159⟩
            refine And.intro (by omega) (And.intro ?_ ?_)
            · intro c160
              refine Exists.intro xm_423 (And.intro mi_423 (And.intro ⟨rfl, rfl, rfl, rfl⟩ (And.intro rfl ?_)))
              refine fcallp hB0 (ct_M_isSign_90da9 (fBz h0 hB0) (by omega)) ?_
              rintro _ ⟨z161, rfl, hz161⟩
              refine And.intro (by omega) (And.intro ?_ ?_)
              · intro c162
                refine And.intro (⟨by omega, by omega⟩) ?_
                exact ⟨_, rfl, by omega, sBe_refl, (fun q => absurd q (by omega))⟩
              · intro c163
                refine And.intro ⟨rfl, by decide, by decide⟩ (fgetf fb_740_14 h0 hB0 ?_)
                intro z164 lz164 uz164 qz164
                refine And.intro (by omega) (And.intro ?_ ?_)
                · intro c165
                  refine And.intro ⟨rfl, by decide, by decide⟩ (fgetf fb_740_14 h0 hB0 ?_)
                  intro z166 lz166 uz166 qz166
                  refine And.intro ⟨rfl, by decide, by decide⟩ (And.intro rfl (And.intro (Or.inl rfl) (fputf fb_740_14 (by decide +kernel) hW (by omega) ?_)))
                  intro IhB167 ehB167 hB167
                  have t168 : IhB167 740 9 = I 740 9 := (congrFun (congrFun ehB167 740) 9).trans (fup_ne (by omega))
                  have t169 : IhB167 740 10 = I 740 10 := (congrFun (congrFun ehB167 740) 10).trans (fup_ne (by omega))
                  have t170 : IhB167 740 11 = I 740 11 := (congrFun (congrFun ehB167 740) 11).trans (fup_ne (by omega))
                  have t171 : IhB167 740 13 = I 740 13 := (congrFun (congrFun ehB167 740) 13).trans (fup_ne (by omega))
                  have t172 := fup_at ehB167 14 (by omega)
                  have t173 : IhB167 740 15 = I 740 15 := (congrFun (congrFun ehB167 740) 15).trans (fup_ne (by omega))
                  have t174 : IhB167 740 16 = I 740 16 := (congrFun (congrFun ehB167 740) 16).trans (fup_ne (by omega))
                  have k175 := fBz_eq hB167 (a := 740) (j := 8) (by decide +kernel)
                  have k176 := fBz_eq hB167 (a := 740) (j := 17) (by decide +kernel)
                  refine Exists.intro xm_314 (And.intro mi_314 (And.intro ⟨rfl, rfl, rfl, rfl⟩ (And.intro rfl ?_)))
                  refine fcall _ h0 (fzs_sub (by decide +kernel) hW) hB167 (ct_M_next_c8003 (fBz h0 hB167) (by omega)) ?_
                  rintro IhB178 _ hB178 fhB178 ⟨rfl, hz177⟩
                  have t179 := fhB178 740 14 (by decide +kernel)
                  have t180 := fhB178 740 15 (by decide +kernel)
                  have t181 := fhB178 740 16 (by decide +kernel)
                  have k182 := fBz_eq hB178 (a := 740) (j := 8) (by decide +kernel)
                  have k183 := fBz_eq hB178 (a := 740) (j := 17) (by decide +kernel)
                  exfalso
                  omega
                · intro c184
                  refine And.intro (⟨by omega, by omega⟩) ?_
                  exact ⟨_, rfl, by omega, sBe_refl, (fun q => absurd q (by omega))⟩
            · intro c185
              refine And.intro ⟨rfl, by decide, by decide⟩ (fgetf fb_740_15 h0 hB0 ?_)
              intro z186 lz186 uz186 qz186
              refine And.intro (by omega) (And.intro ?_ ?_)
              · intro c187
                refine Exists.intro xm_423 (And.intro mi_423 (And.intro ⟨rfl, rfl, rfl, rfl⟩ (And.intro rfl ?_)))
                refine fcallp hB0 (ct_M_isSign_90da9 (fBz h0 hB0) (by omega)) ?_
                rintro _ ⟨z188, rfl, hz188⟩
                refine And.intro (by omega) (And.intro ?_ ?_)
                · intro c189
                  refine And.intro (⟨by omega, by omega⟩) ?_
                  exact ⟨_, rfl, by omega, sBe_refl, (fun q => absurd q (by omega))⟩
                · intro c190
                  refine And.intro ⟨rfl, by decide, by decide⟩ (fgetf fb_740_14 h0 hB0 ?_)
                  intro z191 lz191 uz191 qz191
                  refine And.intro (by omega) (And.intro ?_ ?_)
                  · intro c192
                    refine And.intro ⟨rfl, by decide, by decide⟩ (fgetf fb_740_14 h0 hB0 ?_)
                    intro z193 lz193 uz193 qz193
                    refine And.intro ⟨rfl, by decide, by decide⟩ (And.intro rfl (And.intro (Or.inl rfl) (fputf fb_740_14 (by decide +kernel) hW (by omega) ?_)))
                    intro IhB194 ehB194 hB194
                    have t195 : IhB194 740 9 = I 740 9 := (congrFun (congrFun ehB194 740) 9).trans (fup_ne (by omega))
                    have t196 : IhB194 740 10 = I 740 10 := (congrFun (congrFun ehB194 740) 10).trans (fup_ne (by omega))
                    have t197 : IhB194 740 11 = I 740 11 := (congrFun (congrFun ehB194 740) 11).trans (fup_ne (by omega))
                    have t198 : IhB194 740 13 = I 740 13 := (congrFun (congrFun ehB194 740) 13).trans (fup_ne (by omega))
                    have t199 := fup_at ehB194 14 (by omega)
                    have t200 : IhB194 740 15 = I 740 15 := (congrFun (congrFun ehB194 740) 15).trans (fup_ne (by omega))
                    have t201 : IhB194 740 16 = I 740 16 := (congrFun (congrFun ehB194 740) 16).trans (fup_ne (by omega))
                    have k202 := fBz_eq hB194 (a := 740) (j := 8) (by decide +kernel)
                    have k203 := fBz_eq hB194 (a := 740) (j := 17) (by decide +kernel)
                    refine Exists.intro xm_314 (And.intro mi_314 (And.intro ⟨rfl, rfl, rfl, rfl⟩ (And.intro rfl ?_)))
                    refine fcall _ h0 (fzs_sub (by decide +kernel) hW) hB194 (ct_M_next_c8003 (fBz h0 hB194) (by omega)) ?_
                    rintro IhB205 _ hB205 fhB205 ⟨rfl, hz204⟩
                    have t206 := fhB205 740 14 (by decide +kernel)
                    have t207 := fhB205 740 15 (by decide +kernel)
                    have t208 := fhB205 740 16 (by decide +kernel)
                    have k209 := fBz_eq hB205 (a := 740) (j := 8) (by decide +kernel)
                    have k210 := fBz_eq hB205 (a := 740) (j := 17) (by decide +kernel)
                    exfalso
                    omega
                  · intro c211
                    refine And.intro (⟨by omega, by omega⟩) ?_
                    exact ⟨_, rfl, by omega, sBe_refl, (fun q => absurd q (by omega))⟩
              · intro c212
                refine And.intro ⟨rfl, by decide, by decide⟩ (fgetf fb_740_15 h0 hB0 ?_)
                intro z213 lz213 uz213 qz213
                refine And.intro ⟨rfl, by decide, by decide⟩ (And.intro rfl (And.intro (Or.inl rfl) (fputf fb_740_15 (by decide +kernel) hW (by omega) ?_)))
                intro IhB214 ehB214 hB214
                have t215 : IhB214 740 9 = I 740 9 := (congrFun (congrFun ehB214 740) 9).trans (fup_ne (by omega))
                have t216 : IhB214 740 10 = I 740 10 := (congrFun (congrFun ehB214 740) 10).trans (fup_ne (by omega))
                have t217 : IhB214 740 11 = I 740 11 := (congrFun (congrFun ehB214 740) 11).trans (fup_ne (by omega))
                have t218 : IhB214 740 13 = I 740 13 := (congrFun (congrFun ehB214 740) 13).trans (fup_ne (by omega))
                have t219 : IhB214 740 14 = I 740 14 := (congrFun (congrFun ehB214 740) 14).trans (fup_ne (by omega))
                have t220 := fup_at ehB214 15 (by omega)
                have t221 : IhB214 740 16 = I 740 16 := (congrFun (congrFun ehB214 740) 16).trans (fup_ne (by omega))
                have k222 := fBz_eq hB214 (a := 740) (j := 8) (by decide +kernel)
                have k223 := fBz_eq hB214 (a := 740) (j := 17) (by decide +kernel)
                refine Exists.intro xm_314 (And.intro mi_314 (And.intro ⟨rfl, rfl, rfl, rfl⟩ (And.intro rfl ?_)))
                refine fcall _ h0 (fzs_sub (by decide +kernel) hW) hB214 (ct_M_next_c8003 (fBz h0 hB214) (by omega)) ?_
                rintro IhB225 _ hB225 fhB225 ⟨rfl, hz224⟩
                have t226 := fhB225 740 14 (by decide +kernel)
                have t227 := fhB225 740 15 (by decide +kernel)
                have t228 := fhB225 740 16 (by decide +kernel)
                have k229 := fBz_eq hB225 (a := 740) (j := 8) (by decide +kernel)
                have k230 := fBz_eq hB225 (a := 740) (j := 17) (by decide +kernel)
                exfalso
                omega
          · intro c231
            refine And.intro ⟨rfl, by decide, by decide⟩ (fgetf fb_740_13 h0 hB0 ?_)
            intro z232 lz232 uz232 qz232
            refine Exists.intro xm_421 (And.intro mi_421 (And.intro ⟨rfl, rfl, rfl, rfl⟩ (And.intro rfl ?_)))
            refine fcall _ h0 (fzs_sub (by decide +kernel) hW) hB0 (ct_M_step_2c704 (fBz h0 hB0) (by omega) (by omega) (by omega) (by omega)) ?_
            rintro IhB234 _ hB234 fhB234 ⟨rfl, hz233, g0z233⟩
            have t235 := fhB234 740 9 (by decide +kernel)
            have t236 := fhB234 740 10 (by decide +kernel)
            have t237 := fhB234 740 11 (by decide +kernel)
            have t238 := fhB234 740 13 (by decide +kernel)
            have t239 := fhB234 740 14 (by decide +kernel)
            have t240 := fhB234 740 15 (by decide +kernel)
            have k241 := fBz_eq hB234 (a := 740) (j := 8) (by decide +kernel)
            have k242 := fBz_eq hB234 (a := 740) (j := 17) (by decide +kernel)
            refine And.intro ⟨rfl, by decide, by decide⟩ (fgetf fb_740_18 h0 hB234 ?_)
            intro z243 lz243 uz243 qz243
            intro z244 hz244 ez244 bz244
            clear ez244
            try replace bz244 := bz244 (by omega)
            refine And.intro ⟨rfl, by decide, by decide⟩ (And.intro rfl (And.intro (Or.inl rfl) (fputf fb_740_18 (by decide +kernel) hW (by omega) ?_)))
            intro IhB245 ehB245 hB245
            have t246 : IhB245 740 9 = IhB234 740 9 := (congrFun (congrFun ehB245 740) 9).trans (fup_ne (by omega))
            have t247 : IhB245 740 10 = IhB234 740 10 := (congrFun (congrFun ehB245 740) 10).trans (fup_ne (by omega))
            have t248 : IhB245 740 11 = IhB234 740 11 := (congrFun (congrFun ehB245 740) 11).trans (fup_ne (by omega))
            have t249 : IhB245 740 13 = IhB234 740 13 := (congrFun (congrFun ehB245 740) 13).trans (fup_ne (by omega))
            have t250 : IhB245 740 14 = IhB234 740 14 := (congrFun (congrFun ehB245 740) 14).trans (fup_ne (by omega))
            have t251 : IhB245 740 15 = IhB234 740 15 := (congrFun (congrFun ehB245 740) 15).trans (fup_ne (by omega))
            have t252 : IhB245 740 16 = IhB234 740 16 := (congrFun (congrFun ehB245 740) 16).trans (fup_ne (by omega))
            have t253 := fup_at ehB245 18 (by omega)
            have k254 := fBz_eq hB245 (a := 740) (j := 8) (by decide +kernel)
            have k255 := fBz_eq hB245 (a := 740) (j := 17) (by decide +kernel)
            refine Exists.intro xm_314 (And.intro mi_314 (And.intro ⟨rfl, rfl, rfl, rfl⟩ (And.intro rfl ?_)))
            refine fcall _ h0 (fzs_sub (by decide +kernel) hW) hB245 (ct_M_next_c8003 (fBz h0 hB245) (by omega)) ?_
            rintro IhB257 _ hB257 fhB257 ⟨rfl, hz256⟩
            have t258 := fhB257 740 14 (by decide +kernel)
            have t259 := fhB257 740 15 (by decide +kernel)
            have t260 := fhB257 740 16 (by decide +kernel)
            have t261 := fhB257 740 18 (by decide +kernel)
            have k262 := fBz_eq hB257 (a := 740) (j := 8) (by decide +kernel)
            have k263 := fBz_eq hB257 (a := 740) (j := 17) (by decide +kernel)
            refine And.intro (⟨by omega, by omega⟩) ?_
            exact ⟨_, rfl, by omega, (par_leaf (M := IhB257 740 16) (by omega) (by omega) g0z233 (fun j => (fFr_S fhB257 (by decide +kernel) j).trans (fup_other ehB245 741 j (Or.inl (by decide)))) (by omega) (by omega)).1, (fun _ => (par_leaf (M := IhB257 740 16) (by omega) (by omega) g0z233 (fun j => (fFr_S fhB257 (by decide +kernel) j).trans (fup_other ehB245 741 j (Or.inl (by decide)))) (by omega) (by omega)).2)⟩
    · intro c264
      refine And.intro ⟨rfl, by decide, by decide⟩ (fgetf fb_740_12 h0 hB0 ?_)
      intro z265 lz265 uz265 qz265
      refine Exists.intro xm_421 (And.intro mi_421 (And.intro ⟨rfl, rfl, rfl, rfl⟩ (And.intro rfl ?_)))
      refine fcall _ h0 (fzs_sub (by decide +kernel) hW) hB0 (ct_M_step_2c704 (fBz h0 hB0) (by omega) (by omega) (by omega) (by omega)) ?_
      rintro IhB267 _ hB267 fhB267 ⟨rfl, hz266, g0z266⟩
      have t268 := fhB267 740 9 (by decide +kernel)
      have t269 := fhB267 740 10 (by decide +kernel)
      have t270 := fhB267 740 11 (by decide +kernel)
      have t271 := fhB267 740 12 (by decide +kernel)
      have t272 := fhB267 740 13 (by decide +kernel)
      have t273 := fhB267 740 14 (by decide +kernel)
      have t274 := fhB267 740 15 (by decide +kernel)
      have k275 := fBz_eq hB267 (a := 740) (j := 8) (by decide +kernel)
      have k276 := fBz_eq hB267 (a := 740) (j := 17) (by decide +kernel)
      refine And.intro ⟨rfl, by decide, by decide⟩ (fgetf fb_740_18 h0 hB267 ?_)
      intro z277 lz277 uz277 qz277
      intro z278 hz278 ez278 bz278
      clear ez278
      try replace bz278 := bz278 (by omega)
      refine And.intro ⟨rfl, by decide, by decide⟩ (And.intro rfl (And.intro (Or.inl rfl) (fputf fb_740_18 (by decide +kernel) hW (by omega) ?_)))
      intro IhB279 ehB279 hB279
      have t280 : IhB279 740 9 = IhB267 740 9 := (congrFun (congrFun ehB279 740) 9).trans (fup_ne (by omega))
      have t281 : IhB279 740 10 = IhB267 740 10 := (congrFun (congrFun ehB279 740) 10).trans (fup_ne (by omega))
      have t282 : IhB279 740 11 = IhB267 740 11 := (congrFun (congrFun ehB279 740) 11).trans (fup_ne (by omega))
      have t283 : IhB279 740 12 = IhB267 740 12 := (congrFun (congrFun ehB279 740) 12).trans (fup_ne (by omega))
      have t284 : IhB279 740 13 = IhB267 740 13 := (congrFun (congrFun ehB279 740) 13).trans (fup_ne (by omega))
      have t285 : IhB279 740 14 = IhB267 740 14 := (congrFun (congrFun ehB279 740) 14).trans (fup_ne (by omega))
      have t286 : IhB279 740 15 = IhB267 740 15 := (congrFun (congrFun ehB279 740) 15).trans (fup_ne (by omega))
      have t287 : IhB279 740 16 = IhB267 740 16 := (congrFun (congrFun ehB279 740) 16).trans (fup_ne (by omega))
      have t288 := fup_at ehB279 18 (by omega)
      have k289 := fBz_eq hB279 (a := 740) (j := 8) (by decide +kernel)
      have k290 := fBz_eq hB279 (a := 740) (j := 17) (by decide +kernel)
      refine Exists.intro xm_314 (And.intro mi_314 (And.intro ⟨rfl, rfl, rfl, rfl⟩ (And.intro rfl ?_)))
      refine fcall _ h0 (fzs_sub (by decide +kernel) hW) hB279 (ct_M_next_c8003 (fBz h0 hB279) (by omega)) ?_
      rintro IhB292 _ hB292 fhB292 ⟨rfl, hz291⟩
      have t293 := fhB292 740 14 (by decide +kernel)
      have t294 := fhB292 740 15 (by decide +kernel)
      have t295 := fhB292 740 16 (by decide +kernel)
      have t296 := fhB292 740 18 (by decide +kernel)
      have k297 := fBz_eq hB292 (a := 740) (j := 8) (by decide +kernel)
      have k298 := fBz_eq hB292 (a := 740) (j := 17) (by decide +kernel)
      refine And.intro (⟨by omega, by omega⟩) ?_
      exact ⟨_, rfl, by omega, (par_leaf (M := IhB292 740 16) (by omega) (by omega) g0z266 (fun j => (fFr_S fhB292 (by decide +kernel) j).trans (fup_other ehB279 741 j (Or.inl (by decide)))) (by omega) (by omega)).1, (fun _ => (par_leaf (M := IhB292 740 16) (by omega) (by omega) g0z266 (fun j => (fFr_S fhB292 (by decide +kernel) j).trans (fup_other ehB279 741 j (Or.inl (by decide)))) (by omega) (by omega)).2)⟩
theorem ct_M_term_10b42 {I : fH} {x1 : Int} (h0 : fB bsJ I) (ha1 : ((-1) ≤ x1 ∧ x1 ≤ 5)) (hp0 : I 740 9 ≤ I 740 10 ∧ I 740 10 ≤ I 740 8 ∧ (I 740 11 = 0 ∨ I 740 9 < I 740 10)) (hp1 : 0 ≤ I 740 16 ∧ I 740 16 ≤ I 740 9) (hp2 : 16 ≤ I 740 14 + I 740 15) (hp3 : (1215 ≤ I 740 17 ∧ I 740 17 ≤ 3415 ∧ (I 740 17 - 1215) % 200 = 0) ∨ I 740 17 = 4700) : fC ρ base n F xTc vwCl xTys D dA la gJ (fbz bsJ znJ (fKc wz_2212a) I) xm_387 [.inr (.inr (some 740)), .inl x1] I (fun I' r => ∃ z, r = some (.inl z) ∧ ((0 ≤ z ∧ z ≤ 1) ∧ (I 740 9 ≤ I' 740 9 ∧ I' 740 9 ≤ I' 740 10 ∧ I' 740 10 ≤ I' 740 8 ∧ (I' 740 11 = 0 ∨ I' 740 9 < I' 740 10) ∧ (z = 1 → I 740 16 ≤ I' 740 16 ∧ I' 740 16 - I 740 16 ≤ I' 740 9 - I 740 9 ∧ I' 740 14 = I 740 14 ∧ I' 740 15 = I 740 15))) ∧ (sBe I I' (I 740 17) (I 740 16)) ∧ (z = 1 → sOne I' (I 740 17) (I 740 16) (I' 740 16))) := sorry
theorem ct_M_sum_87c34 {I : fH} {x1 : Int} (h0 : fB bsJ I) (ha1 : ((-1) ≤ x1 ∧ x1 ≤ 5)) (hp0 : I 740 9 ≤ I 740 10 ∧ I 740 10 ≤ I 740 8 ∧ (I 740 11 = 0 ∨ I 740 9 < I 740 10)) (hp1 : 0 ≤ I 740 16 ∧ I 740 16 ≤ I 740 9) (hp2 : 16 ≤ I 740 14 + I 740 15) (hp3 : (1215 ≤ I 740 17 ∧ I 740 17 ≤ 3415 ∧ (I 740 17 - 1215) % 200 = 0) ∨ I 740 17 = 4700) : fC ρ base n F xTc vwCl xTys D dA la gJ (fbz bsJ znJ (fKc wz_2212a) I) xm_370 [.inr (.inr (some 740)), .inl x1] I (fun I' r => ∃ z, r = some (.inl z) ∧ ((0 ≤ z ∧ z ≤ 1) ∧ (I 740 9 ≤ I' 740 9 ∧ I' 740 9 ≤ I' 740 10 ∧ I' 740 10 ≤ I' 740 8 ∧ (I' 740 11 = 0 ∨ I' 740 9 < I' 740 10) ∧ (z = 1 → I 740 16 ≤ I' 740 16 ∧ I' 740 16 - I 740 16 ≤ I' 740 9 - I 740 9 ∧ I' 740 14 = I 740 14 ∧ I' 740 15 = I 740 15))) ∧ (sBe I I' (I 740 17) (I 740 16)) ∧ (z = 1 → sOne I' (I 740 17) (I 740 16) (I' 740 16))) := sorry
theorem ct_M_test_011bc {I : fH} {x1 : Int} (h0 : fB bsJ I) (ha1 : ((-1) ≤ x1 ∧ x1 ≤ 5)) (hp0 : I 740 9 ≤ I 740 10 ∧ I 740 10 ≤ I 740 8 ∧ (I 740 11 = 0 ∨ I 740 9 < I 740 10)) (hp1 : 0 ≤ I 740 16 ∧ I 740 16 ≤ I 740 9) (hp2 : 16 ≤ I 740 14 + I 740 15) (hp3 : (1215 ≤ I 740 17 ∧ I 740 17 ≤ 3415 ∧ (I 740 17 - 1215) % 200 = 0) ∨ I 740 17 = 4700) : fC ρ base n F xTc vwCl xTys D dA la gJ (fbz bsJ znJ (fKc wz_2212a) I) xm_353 [.inr (.inr (some 740)), .inl x1] I (fun I' r => ∃ z, r = some (.inl z) ∧ ((0 ≤ z ∧ z ≤ 1) ∧ (I 740 9 ≤ I' 740 9 ∧ I' 740 9 ≤ I' 740 10 ∧ I' 740 10 ≤ I' 740 8 ∧ (I' 740 11 = 0 ∨ I' 740 9 < I' 740 10) ∧ (z = 1 → I 740 16 ≤ I' 740 16 ∧ I' 740 16 - I 740 16 ≤ I' 740 9 - I 740 9 ∧ I' 740 14 = I 740 14 ∧ I' 740 15 = I 740 15))) ∧ (sBe I I' (I 740 17) (I 740 16)) ∧ (z = 1 → sOne I' (I 740 17) (I 740 16) (I' 740 16))) := sorry
theorem ct_M_both_747b2 {I : fH} {x1 : Int} (h0 : fB bsJ I) (ha1 : ((-1) ≤ x1 ∧ x1 ≤ 5)) (hp0 : I 740 9 ≤ I 740 10 ∧ I 740 10 ≤ I 740 8 ∧ (I 740 11 = 0 ∨ I 740 9 < I 740 10)) (hp1 : 0 ≤ I 740 16 ∧ I 740 16 ≤ I 740 9) (hp2 : 16 ≤ I 740 14 + I 740 15) (hp3 : (1215 ≤ I 740 17 ∧ I 740 17 ≤ 3415 ∧ (I 740 17 - 1215) % 200 = 0) ∨ I 740 17 = 4700) : fC ρ base n F xTc vwCl xTys D dA la gJ (fbz bsJ znJ (fKc wz_2212a) I) xm_336 [.inr (.inr (some 740)), .inl x1] I (fun I' r => ∃ z, r = some (.inl z) ∧ ((0 ≤ z ∧ z ≤ 1) ∧ (I 740 9 ≤ I' 740 9 ∧ I' 740 9 ≤ I' 740 10 ∧ I' 740 10 ≤ I' 740 8 ∧ (I' 740 11 = 0 ∨ I' 740 9 < I' 740 10) ∧ (z = 1 → I 740 16 ≤ I' 740 16 ∧ I' 740 16 - I 740 16 ≤ I' 740 9 - I 740 9 ∧ I' 740 14 = I 740 14 ∧ I' 740 15 = I 740 15))) ∧ (sBe I I' (I 740 17) (I 740 16)) ∧ (z = 1 → sOne I' (I 740 17) (I 740 16) (I' 740 16))) := sorry
theorem ct_M_either_f12bf {I : fH} {x1 : Int} (h0 : fB bsJ I) (ha1 : ((-1) ≤ x1 ∧ x1 ≤ 5)) (hp0 : I 740 9 ≤ I 740 10 ∧ I 740 10 ≤ I 740 8 ∧ (I 740 11 = 0 ∨ I 740 9 < I 740 10)) (hp1 : 0 ≤ I 740 16 ∧ I 740 16 ≤ I 740 9) (hp2 : 16 ≤ I 740 14 + I 740 15) (hp3 : (1215 ≤ I 740 17 ∧ I 740 17 ≤ 3415 ∧ (I 740 17 - 1215) % 200 = 0) ∨ I 740 17 = 4700) : fC ρ base n F xTc vwCl xTys D dA la gJ (fbz bsJ znJ (fKc wz_2212a) I) xm_319 [.inr (.inr (some 740)), .inl x1] I (fun I' r => ∃ z, r = some (.inl z) ∧ ((0 ≤ z ∧ z ≤ 1) ∧ (I 740 9 ≤ I' 740 9 ∧ I' 740 9 ≤ I' 740 10 ∧ I' 740 10 ≤ I' 740 8 ∧ (I' 740 11 = 0 ∨ I' 740 9 < I' 740 10) ∧ (z = 1 → I 740 16 ≤ I' 740 16 ∧ I' 740 16 - I 740 16 ≤ I' 740 9 - I 740 9 ∧ I' 740 14 = I 740 14 ∧ I' 740 15 = I 740 15))) ∧ (sBe I I' (I 740 17) (I 740 16)) ∧ (z = 1 → sOne I' (I 740 17) (I 740 16) (I' 740 16))) := sorry
set_option maxRecDepth 8000 in
theorem ct_M_part0_18b69 {I : fH} {x1 : Int} (h0 : fB bsJ I) (ha1 : ((-1) ≤ x1 ∧ x1 ≤ 5)) (hp0 : I 740 9 ≤ I 740 10 ∧ I 740 10 ≤ I 740 8 ∧ (I 740 11 = 0 ∨ I 740 9 < I 740 10)) (hp1 : 0 ≤ I 740 16 ∧ I 740 16 ≤ I 740 9) (hp2 : 15 ≤ I 740 14 + I 740 15) (hp3 : (1215 ≤ I 740 17 ∧ I 740 17 ≤ 3415 ∧ (I 740 17 - 1215) % 200 = 0) ∨ I 740 17 = 4700) : fC ρ base n F xTc vwCl xTys D dA la gJ (fbz bsJ znJ (fKc wz_2212a) I) xm_405 [.inr (.inr (some 740)), .inl x1] I (fun I' r => ∃ z, r = some (.inl z) ∧ ((0 ≤ z ∧ z ≤ 1) ∧ (I 740 9 ≤ I' 740 9 ∧ I' 740 9 ≤ I' 740 10 ∧ I' 740 10 ≤ I' 740 8 ∧ (I' 740 11 = 0 ∨ I' 740 9 < I' 740 10) ∧ (z = 1 → I 740 16 ≤ I' 740 16 ∧ I' 740 16 - I 740 16 ≤ I' 740 9 - I 740 9 ∧ I' 740 14 = I 740 14 ∧ I' 740 15 = I 740 15))) ∧ (sBe I I' (I 740 17) (I 740 16)) ∧ (z = 1 → sOne I' (I 740 17) (I 740 16) (I' 740 16))) := by
  have hW : fzs wz_2212a (fKc wz_2212a) := fKc_ok _
  refine f_meth (rb := rbJ) (J := []) 1 400 xG xin_405 x6_405 okJ (fB_self h0) ?_ ?_
  · exact fun q h => absurd h List.not_mem_nil
  · have hB0 := fB_self (zn := znJ) (K := fKc wz_2212a) h0
    have b1 := fBd fb_740_8 (fBz h0 hB0)
    have b2 := fBd fb_740_14 (fBz h0 hB0)
    have b3 := fBd fb_740_15 (fBz h0 hB0)
    refine And.intro ⟨rfl, by decide, by decide⟩ (fgetf fb_740_11 h0 hB0 ?_)
    intro z4 lz4 uz4 qz4
    refine And.intro (by omega) (And.intro ?_ ?_)
    · intro c5
      refine And.intro ⟨rfl, by decide, by decide⟩ (fgetf fb_740_11 h0 hB0 ?_)
      intro z6 lz6 uz6 qz6
      refine And.intro (by omega) (And.intro ?_ ?_)
      · intro c7
        refine Exists.intro xm_423 (And.intro mi_423 (And.intro ⟨rfl, rfl, rfl, rfl⟩ (And.intro rfl ?_)))
        refine fcallp hB0 (ct_M_isSign_90da9 (fBz h0 hB0) (by omega)) ?_
        rintro _ ⟨z8, rfl, hz8⟩
        refine And.intro (by omega) (And.intro ?_ ?_)
        · intro c9
          refine Exists.intro xm_423 (And.intro mi_423 (And.intro ⟨rfl, rfl, rfl, rfl⟩ (And.intro rfl ?_)))
          refine fcallp hB0 (ct_M_isSign_90da9 (fBz h0 hB0) (by omega)) ?_
          rintro _ ⟨z10, rfl, hz10⟩
          refine And.intro (by omega) (And.intro ?_ ?_)
          · intro c11
            refine And.intro (⟨by omega, by omega⟩) ?_
            exact ⟨_, rfl, by omega, sBe_refl, (fun q => absurd q (by omega))⟩
          · intro c12
            refine And.intro ⟨rfl, by decide, by decide⟩ (fgetf fb_740_14 h0 hB0 ?_)
            intro z13 lz13 uz13 qz13
            refine And.intro (by omega) (And.intro ?_ ?_)
            · intro c14
              refine And.intro ⟨rfl, by decide, by decide⟩ (fgetf fb_740_14 h0 hB0 ?_)
              intro z15 lz15 uz15 qz15
              refine And.intro ⟨rfl, by decide, by decide⟩ (And.intro rfl (And.intro (Or.inl rfl) (fputf fb_740_14 (by decide +kernel) hW (by omega) ?_)))
              intro IhB16 ehB16 hB16
              have t17 : IhB16 740 9 = I 740 9 := (congrFun (congrFun ehB16 740) 9).trans (fup_ne (by omega))
              have t18 : IhB16 740 10 = I 740 10 := (congrFun (congrFun ehB16 740) 10).trans (fup_ne (by omega))
              have t19 : IhB16 740 11 = I 740 11 := (congrFun (congrFun ehB16 740) 11).trans (fup_ne (by omega))
              have t20 : IhB16 740 13 = I 740 13 := (congrFun (congrFun ehB16 740) 13).trans (fup_ne (by omega))
              have t21 := fup_at ehB16 14 (by omega)
              have t22 : IhB16 740 15 = I 740 15 := (congrFun (congrFun ehB16 740) 15).trans (fup_ne (by omega))
              have t23 : IhB16 740 16 = I 740 16 := (congrFun (congrFun ehB16 740) 16).trans (fup_ne (by omega))
              have k24 := fBz_eq hB16 (a := 740) (j := 8) (by decide +kernel)
              have k25 := fBz_eq hB16 (a := 740) (j := 17) (by decide +kernel)
              refine Exists.intro xm_314 (And.intro mi_314 (And.intro ⟨rfl, rfl, rfl, rfl⟩ (And.intro rfl ?_)))
              refine fcall _ h0 (fzs_sub (by decide +kernel) hW) hB16 (ct_M_next_c8003 (fBz h0 hB16) (by omega)) ?_
              rintro IhB27 _ hB27 fhB27 ⟨rfl, hz26⟩
              have t28 := fhB27 740 14 (by decide +kernel)
              have t29 := fhB27 740 15 (by decide +kernel)
              have t30 := fhB27 740 16 (by decide +kernel)
              have k31 := fBz_eq hB27 (a := 740) (j := 8) (by decide +kernel)
              have k32 := fBz_eq hB27 (a := 740) (j := 17) (by decide +kernel)
              refine Exists.intro xm_319 (And.intro mi_319 (And.intro ⟨rfl, rfl, rfl, rfl⟩ (And.intro rfl ?_)))
              refine fcall _ h0 (fzs_sub (by decide +kernel) hW) hB27 (ct_M_either_f12bf (fBz h0 hB27) (by omega) (by omega) (by omega) (by omega) (by omega)) ?_
              rintro IhB34 _ hB34 fhB34 ⟨z33, rfl, hz33, g0z33, g1z33⟩
              have k35 := fBz_eq hB34 (a := 740) (j := 8) (by decide +kernel)
              have k36 := fBz_eq hB34 (a := 740) (j := 17) (by decide +kernel)
              refine And.intro (by omega) (And.intro ?_ ?_)
              · intro c37
                refine And.intro (⟨by omega, by omega⟩) ?_
                exact ⟨_, rfl, by omega, (par_be0 (fun j => (fFr_S fhB27 (by decide +kernel) j).trans (fup_other ehB16 741 j (Or.inl (by decide)))) g0z33 (by omega) (by omega)), (fun q => absurd q (by omega))⟩
              · intro c38
                refine Exists.intro xm_423 (And.intro mi_423 (And.intro ⟨rfl, rfl, rfl, rfl⟩ (And.intro rfl ?_)))
                refine fcallp hB34 (ct_M_isSign_90da9 (fBz h0 hB34) (by omega)) ?_
                rintro _ ⟨z39, rfl, hz39⟩
                refine And.intro (by omega) (And.intro ?_ ?_)
                · intro c40
                  refine And.intro ⟨rfl, by decide, by decide⟩ (fgetf fb_740_14 h0 hB34 ?_)
                  intro z41 lz41 uz41 qz41
                  refine And.intro ⟨rfl, by decide, by decide⟩ (And.intro rfl (And.intro (Or.inl rfl) (fputf fb_740_14 (by decide +kernel) hW (by omega) ?_)))
                  intro IhB42 ehB42 hB42
                  have t43 : IhB42 740 9 = IhB34 740 9 := (congrFun (congrFun ehB42 740) 9).trans (fup_ne (by omega))
                  have t44 : IhB42 740 10 = IhB34 740 10 := (congrFun (congrFun ehB42 740) 10).trans (fup_ne (by omega))
                  have t45 : IhB42 740 11 = IhB34 740 11 := (congrFun (congrFun ehB42 740) 11).trans (fup_ne (by omega))
                  have t46 : IhB42 740 13 = IhB34 740 13 := (congrFun (congrFun ehB42 740) 13).trans (fup_ne (by omega))
                  have t47 := fup_at ehB42 14 (by omega)
                  have t48 : IhB42 740 15 = IhB34 740 15 := (congrFun (congrFun ehB42 740) 15).trans (fup_ne (by omega))
                  have t49 : IhB42 740 16 = IhB34 740 16 := (congrFun (congrFun ehB42 740) 16).trans (fup_ne (by omega))
                  have k50 := fBz_eq hB42 (a := 740) (j := 8) (by decide +kernel)
                  have k51 := fBz_eq hB42 (a := 740) (j := 17) (by decide +kernel)
                  refine Exists.intro xm_314 (And.intro mi_314 (And.intro ⟨rfl, rfl, rfl, rfl⟩ (And.intro rfl ?_)))
                  refine fcall _ h0 (fzs_sub (by decide +kernel) hW) hB42 (ct_M_next_c8003 (fBz h0 hB42) (by omega)) ?_
                  rintro IhB53 _ hB53 fhB53 ⟨rfl, hz52⟩
                  have t54 := fhB53 740 14 (by decide +kernel)
                  have t55 := fhB53 740 15 (by decide +kernel)
                  have t56 := fhB53 740 16 (by decide +kernel)
                  have k57 := fBz_eq hB53 (a := 740) (j := 8) (by decide +kernel)
                  have k58 := fBz_eq hB53 (a := 740) (j := 17) (by decide +kernel)
                  refine And.intro (⟨by omega, by omega⟩) ?_
                  exact ⟨_, rfl, by omega, (par_par (M3 := IhB53 740 16) (by omega) (fun j => (fFr_S fhB27 (by decide +kernel) j).trans (fup_other ehB16 741 j (Or.inl (by decide)))) g0z33 (g1z33 (by omega)) (fun j => (fFr_S fhB53 (by decide +kernel) j).trans (fup_other ehB42 741 j (Or.inl (by decide)))) (by omega) (by omega) (by omega)).1, (fun _ => (par_par (M3 := IhB53 740 16) (by omega) (fun j => (fFr_S fhB27 (by decide +kernel) j).trans (fup_other ehB16 741 j (Or.inl (by decide)))) g0z33 (g1z33 (by omega)) (fun j => (fFr_S fhB53 (by decide +kernel) j).trans (fup_other ehB42 741 j (Or.inl (by decide)))) (by omega) (by omega) (by omega)).2)⟩
                · intro c59
                  refine And.intro (⟨by omega, by omega⟩) ?_
                  exact ⟨_, rfl, by omega, (par_be0 (fun j => (fFr_S fhB27 (by decide +kernel) j).trans (fup_other ehB16 741 j (Or.inl (by decide)))) g0z33 (by omega) (by omega)), (fun q => absurd q (by omega))⟩
            · intro c60
              refine And.intro (⟨by omega, by omega⟩) ?_
              exact ⟨_, rfl, by omega, sBe_refl, (fun q => absurd q (by omega))⟩
        · intro c61
          refine And.intro ⟨rfl, by decide, by decide⟩ (fgetf fb_740_15 h0 hB0 ?_)
          intro z62 lz62 uz62 qz62
          refine And.intro (by omega) (And.intro ?_ ?_)
          · intro c63
            refine Exists.intro xm_423 (And.intro mi_423 (And.intro ⟨rfl, rfl, rfl, rfl⟩ (And.intro rfl ?_)))
            refine fcallp hB0 (ct_M_isSign_90da9 (fBz h0 hB0) (by omega)) ?_
            rintro _ ⟨z64, rfl, hz64⟩
            refine And.intro (by omega) (And.intro ?_ ?_)
            · intro c65
              refine And.intro (⟨by omega, by omega⟩) ?_
              exact ⟨_, rfl, by omega, sBe_refl, (fun q => absurd q (by omega))⟩
            · intro c66
              refine And.intro ⟨rfl, by decide, by decide⟩ (fgetf fb_740_14 h0 hB0 ?_)
              intro z67 lz67 uz67 qz67
              refine And.intro (by omega) (And.intro ?_ ?_)
              · intro c68
                refine And.intro ⟨rfl, by decide, by decide⟩ (fgetf fb_740_14 h0 hB0 ?_)
                intro z69 lz69 uz69 qz69
                refine And.intro ⟨rfl, by decide, by decide⟩ (And.intro rfl (And.intro (Or.inl rfl) (fputf fb_740_14 (by decide +kernel) hW (by omega) ?_)))
                intro IhB70 ehB70 hB70
                have t71 : IhB70 740 9 = I 740 9 := (congrFun (congrFun ehB70 740) 9).trans (fup_ne (by omega))
                have t72 : IhB70 740 10 = I 740 10 := (congrFun (congrFun ehB70 740) 10).trans (fup_ne (by omega))
                have t73 : IhB70 740 11 = I 740 11 := (congrFun (congrFun ehB70 740) 11).trans (fup_ne (by omega))
                have t74 : IhB70 740 13 = I 740 13 := (congrFun (congrFun ehB70 740) 13).trans (fup_ne (by omega))
                have t75 := fup_at ehB70 14 (by omega)
                have t76 : IhB70 740 15 = I 740 15 := (congrFun (congrFun ehB70 740) 15).trans (fup_ne (by omega))
                have t77 : IhB70 740 16 = I 740 16 := (congrFun (congrFun ehB70 740) 16).trans (fup_ne (by omega))
                have k78 := fBz_eq hB70 (a := 740) (j := 8) (by decide +kernel)
                have k79 := fBz_eq hB70 (a := 740) (j := 17) (by decide +kernel)
                refine Exists.intro xm_314 (And.intro mi_314 (And.intro ⟨rfl, rfl, rfl, rfl⟩ (And.intro rfl ?_)))
                refine fcall _ h0 (fzs_sub (by decide +kernel) hW) hB70 (ct_M_next_c8003 (fBz h0 hB70) (by omega)) ?_
                rintro IhB81 _ hB81 fhB81 ⟨rfl, hz80⟩
                have t82 := fhB81 740 14 (by decide +kernel)
                have t83 := fhB81 740 15 (by decide +kernel)
                have t84 := fhB81 740 16 (by decide +kernel)
                have k85 := fBz_eq hB81 (a := 740) (j := 8) (by decide +kernel)
                have k86 := fBz_eq hB81 (a := 740) (j := 17) (by decide +kernel)
                refine Exists.intro xm_319 (And.intro mi_319 (And.intro ⟨rfl, rfl, rfl, rfl⟩ (And.intro rfl ?_)))
                refine fcall _ h0 (fzs_sub (by decide +kernel) hW) hB81 (ct_M_either_f12bf (fBz h0 hB81) (by omega) (by omega) (by omega) (by omega) (by omega)) ?_
                rintro IhB88 _ hB88 fhB88 ⟨z87, rfl, hz87, g0z87, g1z87⟩
                have k89 := fBz_eq hB88 (a := 740) (j := 8) (by decide +kernel)
                have k90 := fBz_eq hB88 (a := 740) (j := 17) (by decide +kernel)
                refine And.intro (by omega) (And.intro ?_ ?_)
                · intro c91
                  refine And.intro (⟨by omega, by omega⟩) ?_
                  exact ⟨_, rfl, by omega, (par_be0 (fun j => (fFr_S fhB81 (by decide +kernel) j).trans (fup_other ehB70 741 j (Or.inl (by decide)))) g0z87 (by omega) (by omega)), (fun q => absurd q (by omega))⟩
                · intro c92
                  refine Exists.intro xm_423 (And.intro mi_423 (And.intro ⟨rfl, rfl, rfl, rfl⟩ (And.intro rfl ?_)))
                  refine fcallp hB88 (ct_M_isSign_90da9 (fBz h0 hB88) (by omega)) ?_
                  rintro _ ⟨z93, rfl, hz93⟩
                  refine And.intro (by omega) (And.intro ?_ ?_)
                  · intro c94
                    refine And.intro ⟨rfl, by decide, by decide⟩ (fgetf fb_740_14 h0 hB88 ?_)
                    intro z95 lz95 uz95 qz95
                    refine And.intro ⟨rfl, by decide, by decide⟩ (And.intro rfl (And.intro (Or.inl rfl) (fputf fb_740_14 (by decide +kernel) hW (by omega) ?_)))
                    intro IhB96 ehB96 hB96
                    have t97 : IhB96 740 9 = IhB88 740 9 := (congrFun (congrFun ehB96 740) 9).trans (fup_ne (by omega))
                    have t98 : IhB96 740 10 = IhB88 740 10 := (congrFun (congrFun ehB96 740) 10).trans (fup_ne (by omega))
                    have t99 : IhB96 740 11 = IhB88 740 11 := (congrFun (congrFun ehB96 740) 11).trans (fup_ne (by omega))
                    have t100 : IhB96 740 13 = IhB88 740 13 := (congrFun (congrFun ehB96 740) 13).trans (fup_ne (by omega))
                    have t101 := fup_at ehB96 14 (by omega)
                    have t102 : IhB96 740 15 = IhB88 740 15 := (congrFun (congrFun ehB96 740) 15).trans (fup_ne (by omega))
                    have t103 : IhB96 740 16 = IhB88 740 16 := (congrFun (congrFun ehB96 740) 16).trans (fup_ne (by omega))
                    have k104 := fBz_eq hB96 (a := 740) (j := 8) (by decide +kernel)
                    have k105 := fBz_eq hB96 (a := 740) (j := 17) (by decide +kernel)
                    refine Exists.intro xm_314 (And.intro mi_314 (And.intro ⟨rfl, rfl, rfl, rfl⟩ (And.intro rfl ?_)))
                    refine fcall _ h0 (fzs_sub (by decide +kernel) hW) hB96 (ct_M_next_c8003 (fBz h0 hB96) (by omega)) ?_
                    rintro IhB107 _ hB107 fhB107 ⟨rfl, hz106⟩
                    have t108 := fhB107 740 14 (by decide +kernel)
                    have t109 := fhB107 740 15 (by decide +kernel)
                    have t110 := fhB107 740 16 (by decide +kernel)
                    have k111 := fBz_eq hB107 (a := 740) (j := 8) (by decide +kernel)
                    have k112 := fBz_eq hB107 (a := 740) (j := 17) (by decide +kernel)
                    refine And.intro (⟨by omega, by omega⟩) ?_
                    exact ⟨_, rfl, by omega, (par_par (M3 := IhB107 740 16) (by omega) (fun j => (fFr_S fhB81 (by decide +kernel) j).trans (fup_other ehB70 741 j (Or.inl (by decide)))) g0z87 (g1z87 (by omega)) (fun j => (fFr_S fhB107 (by decide +kernel) j).trans (fup_other ehB96 741 j (Or.inl (by decide)))) (by omega) (by omega) (by omega)).1, (fun _ => (par_par (M3 := IhB107 740 16) (by omega) (fun j => (fFr_S fhB81 (by decide +kernel) j).trans (fup_other ehB70 741 j (Or.inl (by decide)))) g0z87 (g1z87 (by omega)) (fun j => (fFr_S fhB107 (by decide +kernel) j).trans (fup_other ehB96 741 j (Or.inl (by decide)))) (by omega) (by omega) (by omega)).2)⟩
                  · intro c113
                    refine And.intro (⟨by omega, by omega⟩) ?_
                    exact ⟨_, rfl, by omega, (par_be0 (fun j => (fFr_S fhB81 (by decide +kernel) j).trans (fup_other ehB70 741 j (Or.inl (by decide)))) g0z87 (by omega) (by omega)), (fun q => absurd q (by omega))⟩
              · intro c114
                refine And.intro (⟨by omega, by omega⟩) ?_
                exact ⟨_, rfl, by omega, sBe_refl, (fun q => absurd q (by omega))⟩
          · intro c115
            refine And.intro ⟨rfl, by decide, by decide⟩ (fgetf fb_740_15 h0 hB0 ?_)
            intro z116 lz116 uz116 qz116
            refine And.intro ⟨rfl, by decide, by decide⟩ (And.intro rfl (And.intro (Or.inl rfl) (fputf fb_740_15 (by decide +kernel) hW (by omega) ?_)))
            intro IhB117 ehB117 hB117
            have t118 : IhB117 740 9 = I 740 9 := (congrFun (congrFun ehB117 740) 9).trans (fup_ne (by omega))
            have t119 : IhB117 740 10 = I 740 10 := (congrFun (congrFun ehB117 740) 10).trans (fup_ne (by omega))
            have t120 : IhB117 740 11 = I 740 11 := (congrFun (congrFun ehB117 740) 11).trans (fup_ne (by omega))
            have t121 : IhB117 740 13 = I 740 13 := (congrFun (congrFun ehB117 740) 13).trans (fup_ne (by omega))
            have t122 : IhB117 740 14 = I 740 14 := (congrFun (congrFun ehB117 740) 14).trans (fup_ne (by omega))
            have t123 := fup_at ehB117 15 (by omega)
            have t124 : IhB117 740 16 = I 740 16 := (congrFun (congrFun ehB117 740) 16).trans (fup_ne (by omega))
            have k125 := fBz_eq hB117 (a := 740) (j := 8) (by decide +kernel)
            have k126 := fBz_eq hB117 (a := 740) (j := 17) (by decide +kernel)
            refine Exists.intro xm_314 (And.intro mi_314 (And.intro ⟨rfl, rfl, rfl, rfl⟩ (And.intro rfl ?_)))
            refine fcall _ h0 (fzs_sub (by decide +kernel) hW) hB117 (ct_M_next_c8003 (fBz h0 hB117) (by omega)) ?_
            rintro IhB128 _ hB128 fhB128 ⟨rfl, hz127⟩
            have t129 := fhB128 740 14 (by decide +kernel)
            have t130 := fhB128 740 15 (by decide +kernel)
            have t131 := fhB128 740 16 (by decide +kernel)
            have k132 := fBz_eq hB128 (a := 740) (j := 8) (by decide +kernel)
            have k133 := fBz_eq hB128 (a := 740) (j := 17) (by decide +kernel)
            refine Exists.intro xm_404 (And.intro mi_404 (And.intro ⟨rfl, rfl, rfl, rfl⟩ (And.intro rfl ?_)))
            refine fcall _ h0 (fzs_sub (by decide +kernel) hW) hB128 (ct_M_part0_cc4b8 (fBz h0 hB128) (by omega) (by omega) (by omega) (by omega) (by omega)) ?_
            rintro IhB135 _ hB135 fhB135 ⟨z134, rfl, hz134, g0z134, g1z134⟩
            have k136 := fBz_eq hB135 (a := 740) (j := 8) (by decide +kernel)
            have k137 := fBz_eq hB135 (a := 740) (j := 17) (by decide +kernel)
            refine And.intro (by omega) (And.intro ?_ ?_)
            · intro c138
              refine And.intro ⟨rfl, by decide, by decide⟩ (fgetf fb_740_15 h0 hB135 ?_)
              intro z139 lz139 uz139 qz139
              refine And.intro ⟨rfl, by decide, by decide⟩ (And.intro rfl (And.intro (Or.inl rfl) (fputf fb_740_15 (by decide +kernel) hW (by omega) ?_)))
              intro IhB140 ehB140 hB140
              have t141 : IhB140 740 9 = IhB135 740 9 := (congrFun (congrFun ehB140 740) 9).trans (fup_ne (by omega))
              have t142 : IhB140 740 10 = IhB135 740 10 := (congrFun (congrFun ehB140 740) 10).trans (fup_ne (by omega))
              have t143 : IhB140 740 11 = IhB135 740 11 := (congrFun (congrFun ehB140 740) 11).trans (fup_ne (by omega))
              have t144 : IhB140 740 13 = IhB135 740 13 := (congrFun (congrFun ehB140 740) 13).trans (fup_ne (by omega))
              have t145 : IhB140 740 14 = IhB135 740 14 := (congrFun (congrFun ehB140 740) 14).trans (fup_ne (by omega))
              have t146 := fup_at ehB140 15 (by omega)
              have t147 : IhB140 740 16 = IhB135 740 16 := (congrFun (congrFun ehB140 740) 16).trans (fup_ne (by omega))
              have k148 := fBz_eq hB140 (a := 740) (j := 8) (by decide +kernel)
              have k149 := fBz_eq hB140 (a := 740) (j := 17) (by decide +kernel)
              refine Exists.intro xm_421 (And.intro mi_421 (And.intro ⟨rfl, rfl, rfl, rfl⟩ (And.intro rfl ?_)))
              refine fcall _ h0 (fzs_sub (by decide +kernel) hW) hB140 (ct_M_step_2c704 (fBz h0 hB140) (by omega) (by omega) (by omega) (by omega)) ?_
              rintro IhB151 _ hB151 fhB151 ⟨rfl, hz150, g0z150⟩
              have t152 := fhB151 740 9 (by decide +kernel)
              have t153 := fhB151 740 10 (by decide +kernel)
              have t154 := fhB151 740 11 (by decide +kernel)
              have t155 := fhB151 740 13 (by decide +kernel)
              have t156 := fhB151 740 14 (by decide +kernel)
              have t157 := fhB151 740 15 (by decide +kernel)
              have k158 := fBz_eq hB151 (a := 740) (j := 8) (by decide +kernel)
              have k159 := fBz_eq hB151 (a := 740) (j := 17) (by decide +kernel)
              refine And.intro (⟨by omega, by omega⟩) ?_
              exact ⟨_, rfl, by omega, (par_not (M3 := IhB151 740 16) (by omega) (fun j => (fFr_S fhB128 (by decide +kernel) j).trans (fup_other ehB117 741 j (Or.inl (by decide)))) g0z134 (g1z134 (by omega)) (fun j => fup_other ehB140 741 j (Or.inl (by decide))) g0z150 (by omega) (by omega) (by omega) (by omega) (by omega) (by omega)).1, (fun _ => (par_not (M3 := IhB151 740 16) (by omega) (fun j => (fFr_S fhB128 (by decide +kernel) j).trans (fup_other ehB117 741 j (Or.inl (by decide)))) g0z134 (g1z134 (by omega)) (fun j => fup_other ehB140 741 j (Or.inl (by decide))) g0z150 (by omega) (by omega) (by omega) (by omega) (by omega) (by omega)).2)⟩
            · intro c160
              refine And.intro (⟨by omega, by omega⟩) ?_
              exact ⟨_, rfl, by omega, (par_be0 (fun j => (fFr_S fhB128 (by decide +kernel) j).trans (fup_other ehB117 741 j (Or.inl (by decide)))) g0z134 (by omega) (by omega)), (fun q => absurd q (by omega))⟩
      · intro c161
        refine And.intro ⟨rfl, by decide, by decide⟩ (fgetf fb_740_13 h0 hB0 ?_)
        intro z162 lz162 uz162 qz162
        refine And.intro (by omega) (And.intro ?_ ?_)
        · intro c163
          refine Exists.intro xm_423 (And.intro mi_423 (And.intro ⟨rfl, rfl, rfl, rfl⟩ (And.intro rfl ?_)))
          refine fcallp hB0 (ct_M_isSign_90da9 (fBz h0 hB0) (by omega)) ?_
          rintro _ ⟨z164, rfl, hz164⟩
          refine And.intro (by omega) (And.intro ?_ ?_)
          · intro c165
            refine Exists.intro xm_423 (And.intro mi_423 (And.intro ⟨rfl, rfl, rfl, rfl⟩ (And.intro rfl ?_)))
            refine fcallp hB0 (ct_M_isSign_90da9 (fBz h0 hB0) (by omega)) ?_
            rintro _ ⟨z166, rfl, hz166⟩
            refine And.intro (by omega) (And.intro ?_ ?_)
            · intro c167
              refine And.intro (⟨by omega, by omega⟩) ?_
              exact ⟨_, rfl, by omega, sBe_refl, (fun q => absurd q (by omega))⟩
            · intro c168
              refine And.intro ⟨rfl, by decide, by decide⟩ (fgetf fb_740_14 h0 hB0 ?_)
              intro z169 lz169 uz169 qz169
              refine And.intro (by omega) (And.intro ?_ ?_)
              · intro c170
                refine And.intro ⟨rfl, by decide, by decide⟩ (fgetf fb_740_14 h0 hB0 ?_)
                intro z171 lz171 uz171 qz171
                refine And.intro ⟨rfl, by decide, by decide⟩ (And.intro rfl (And.intro (Or.inl rfl) (fputf fb_740_14 (by decide +kernel) hW (by omega) ?_)))
                intro IhB172 ehB172 hB172
                have t173 : IhB172 740 9 = I 740 9 := (congrFun (congrFun ehB172 740) 9).trans (fup_ne (by omega))
                have t174 : IhB172 740 10 = I 740 10 := (congrFun (congrFun ehB172 740) 10).trans (fup_ne (by omega))
                have t175 : IhB172 740 11 = I 740 11 := (congrFun (congrFun ehB172 740) 11).trans (fup_ne (by omega))
                have t176 : IhB172 740 13 = I 740 13 := (congrFun (congrFun ehB172 740) 13).trans (fup_ne (by omega))
                have t177 := fup_at ehB172 14 (by omega)
                have t178 : IhB172 740 15 = I 740 15 := (congrFun (congrFun ehB172 740) 15).trans (fup_ne (by omega))
                have t179 : IhB172 740 16 = I 740 16 := (congrFun (congrFun ehB172 740) 16).trans (fup_ne (by omega))
                have k180 := fBz_eq hB172 (a := 740) (j := 8) (by decide +kernel)
                have k181 := fBz_eq hB172 (a := 740) (j := 17) (by decide +kernel)
                refine Exists.intro xm_314 (And.intro mi_314 (And.intro ⟨rfl, rfl, rfl, rfl⟩ (And.intro rfl ?_)))
                refine fcall _ h0 (fzs_sub (by decide +kernel) hW) hB172 (ct_M_next_c8003 (fBz h0 hB172) (by omega)) ?_
                rintro IhB183 _ hB183 fhB183 ⟨rfl, hz182⟩
                have t184 := fhB183 740 14 (by decide +kernel)
                have t185 := fhB183 740 15 (by decide +kernel)
                have t186 := fhB183 740 16 (by decide +kernel)
                have k187 := fBz_eq hB183 (a := 740) (j := 8) (by decide +kernel)
                have k188 := fBz_eq hB183 (a := 740) (j := 17) (by decide +kernel)
                refine Exists.intro xm_319 (And.intro mi_319 (And.intro ⟨rfl, rfl, rfl, rfl⟩ (And.intro rfl ?_)))
                refine fcall _ h0 (fzs_sub (by decide +kernel) hW) hB183 (ct_M_either_f12bf (fBz h0 hB183) (by omega) (by omega) (by omega) (by omega) (by omega)) ?_
                rintro IhB190 _ hB190 fhB190 ⟨z189, rfl, hz189, g0z189, g1z189⟩
                have k191 := fBz_eq hB190 (a := 740) (j := 8) (by decide +kernel)
                have k192 := fBz_eq hB190 (a := 740) (j := 17) (by decide +kernel)
                refine And.intro (by omega) (And.intro ?_ ?_)
                · intro c193
                  refine And.intro (⟨by omega, by omega⟩) ?_
                  exact ⟨_, rfl, by omega, (par_be0 (fun j => (fFr_S fhB183 (by decide +kernel) j).trans (fup_other ehB172 741 j (Or.inl (by decide)))) g0z189 (by omega) (by omega)), (fun q => absurd q (by omega))⟩
                · intro c194
                  refine Exists.intro xm_423 (And.intro mi_423 (And.intro ⟨rfl, rfl, rfl, rfl⟩ (And.intro rfl ?_)))
                  refine fcallp hB190 (ct_M_isSign_90da9 (fBz h0 hB190) (by omega)) ?_
                  rintro _ ⟨z195, rfl, hz195⟩
                  refine And.intro (by omega) (And.intro ?_ ?_)
                  · intro c196
                    refine And.intro ⟨rfl, by decide, by decide⟩ (fgetf fb_740_14 h0 hB190 ?_)
                    intro z197 lz197 uz197 qz197
                    refine And.intro ⟨rfl, by decide, by decide⟩ (And.intro rfl (And.intro (Or.inl rfl) (fputf fb_740_14 (by decide +kernel) hW (by omega) ?_)))
                    intro IhB198 ehB198 hB198
                    have t199 : IhB198 740 9 = IhB190 740 9 := (congrFun (congrFun ehB198 740) 9).trans (fup_ne (by omega))
                    have t200 : IhB198 740 10 = IhB190 740 10 := (congrFun (congrFun ehB198 740) 10).trans (fup_ne (by omega))
                    have t201 : IhB198 740 11 = IhB190 740 11 := (congrFun (congrFun ehB198 740) 11).trans (fup_ne (by omega))
                    have t202 : IhB198 740 13 = IhB190 740 13 := (congrFun (congrFun ehB198 740) 13).trans (fup_ne (by omega))
                    have t203 := fup_at ehB198 14 (by omega)
                    have t204 : IhB198 740 15 = IhB190 740 15 := (congrFun (congrFun ehB198 740) 15).trans (fup_ne (by omega))
                    have t205 : IhB198 740 16 = IhB190 740 16 := (congrFun (congrFun ehB198 740) 16).trans (fup_ne (by omega))
                    have k206 := fBz_eq hB198 (a := 740) (j := 8) (by decide +kernel)
                    have k207 := fBz_eq hB198 (a := 740) (j := 17) (by decide +kernel)
                    refine Exists.intro xm_314 (And.intro mi_314 (And.intro ⟨rfl, rfl, rfl, rfl⟩ (And.intro rfl ?_)))
                    refine fcall _ h0 (fzs_sub (by decide +kernel) hW) hB198 (ct_M_next_c8003 (fBz h0 hB198) (by omega)) ?_
                    rintro IhB209 _ hB209 fhB209 ⟨rfl, hz208⟩
                    have t210 := fhB209 740 14 (by decide +kernel)
                    have t211 := fhB209 740 15 (by decide +kernel)
                    have t212 := fhB209 740 16 (by decide +kernel)
                    have k213 := fBz_eq hB209 (a := 740) (j := 8) (by decide +kernel)
                    have k214 := fBz_eq hB209 (a := 740) (j := 17) (by decide +kernel)
                    refine And.intro (⟨by omega, by omega⟩) ?_
                    exact ⟨_, rfl, by omega, (par_par (M3 := IhB209 740 16) (by omega) (fun j => (fFr_S fhB183 (by decide +kernel) j).trans (fup_other ehB172 741 j (Or.inl (by decide)))) g0z189 (g1z189 (by omega)) (fun j => (fFr_S fhB209 (by decide +kernel) j).trans (fup_other ehB198 741 j (Or.inl (by decide)))) (by omega) (by omega) (by omega)).1, (fun _ => (par_par (M3 := IhB209 740 16) (by omega) (fun j => (fFr_S fhB183 (by decide +kernel) j).trans (fup_other ehB172 741 j (Or.inl (by decide)))) g0z189 (g1z189 (by omega)) (fun j => (fFr_S fhB209 (by decide +kernel) j).trans (fup_other ehB198 741 j (Or.inl (by decide)))) (by omega) (by omega) (by omega)).2)⟩
                  · intro c215
                    refine And.intro (⟨by omega, by omega⟩) ?_
                    exact ⟨_, rfl, by omega, (par_be0 (fun j => (fFr_S fhB183 (by decide +kernel) j).trans (fup_other ehB172 741 j (Or.inl (by decide)))) g0z189 (by omega) (by omega)), (fun q => absurd q (by omega))⟩
              · intro c216
                refine And.intro (⟨by omega, by omega⟩) ?_
                exact ⟨_, rfl, by omega, sBe_refl, (fun q => absurd q (by omega))⟩
          · intro c217
            refine And.intro ⟨rfl, by decide, by decide⟩ (fgetf fb_740_15 h0 hB0 ?_)
            intro z218 lz218 uz218 qz218
            refine And.intro (by omega) (And.intro ?_ ?_)
            · intro c219
              refine Exists.intro xm_423 (And.intro mi_423 (And.intro ⟨rfl, rfl, rfl, rfl⟩ (And.intro rfl ?_)))
              refine fcallp hB0 (ct_M_isSign_90da9 (fBz h0 hB0) (by omega)) ?_
              rintro _ ⟨z220, rfl, hz220⟩
              refine And.intro (by omega) (And.intro ?_ ?_)
              · intro c221
                refine And.intro (⟨by omega, by omega⟩) ?_
                exact ⟨_, rfl, by omega, sBe_refl, (fun q => absurd q (by omega))⟩
              · intro c222
                refine And.intro ⟨rfl, by decide, by decide⟩ (fgetf fb_740_14 h0 hB0 ?_)
                intro z223 lz223 uz223 qz223
                refine And.intro (by omega) (And.intro ?_ ?_)
                · intro c224
                  refine And.intro ⟨rfl, by decide, by decide⟩ (fgetf fb_740_14 h0 hB0 ?_)
                  intro z225 lz225 uz225 qz225
                  refine And.intro ⟨rfl, by decide, by decide⟩ (And.intro rfl (And.intro (Or.inl rfl) (fputf fb_740_14 (by decide +kernel) hW (by omega) ?_)))
                  intro IhB226 ehB226 hB226
                  have t227 : IhB226 740 9 = I 740 9 := (congrFun (congrFun ehB226 740) 9).trans (fup_ne (by omega))
                  have t228 : IhB226 740 10 = I 740 10 := (congrFun (congrFun ehB226 740) 10).trans (fup_ne (by omega))
                  have t229 : IhB226 740 11 = I 740 11 := (congrFun (congrFun ehB226 740) 11).trans (fup_ne (by omega))
                  have t230 : IhB226 740 13 = I 740 13 := (congrFun (congrFun ehB226 740) 13).trans (fup_ne (by omega))
                  have t231 := fup_at ehB226 14 (by omega)
                  have t232 : IhB226 740 15 = I 740 15 := (congrFun (congrFun ehB226 740) 15).trans (fup_ne (by omega))
                  have t233 : IhB226 740 16 = I 740 16 := (congrFun (congrFun ehB226 740) 16).trans (fup_ne (by omega))
                  have k234 := fBz_eq hB226 (a := 740) (j := 8) (by decide +kernel)
                  have k235 := fBz_eq hB226 (a := 740) (j := 17) (by decide +kernel)
                  refine Exists.intro xm_314 (And.intro mi_314 (And.intro ⟨rfl, rfl, rfl, rfl⟩ (And.intro rfl ?_)))
                  refine fcall _ h0 (fzs_sub (by decide +kernel) hW) hB226 (ct_M_next_c8003 (fBz h0 hB226) (by omega)) ?_
                  rintro IhB237 _ hB237 fhB237 ⟨rfl, hz236⟩
                  have t238 := fhB237 740 14 (by decide +kernel)
                  have t239 := fhB237 740 15 (by decide +kernel)
                  have t240 := fhB237 740 16 (by decide +kernel)
                  have k241 := fBz_eq hB237 (a := 740) (j := 8) (by decide +kernel)
                  have k242 := fBz_eq hB237 (a := 740) (j := 17) (by decide +kernel)
                  refine Exists.intro xm_319 (And.intro mi_319 (And.intro ⟨rfl, rfl, rfl, rfl⟩ (And.intro rfl ?_)))
                  refine fcall _ h0 (fzs_sub (by decide +kernel) hW) hB237 (ct_M_either_f12bf (fBz h0 hB237) (by omega) (by omega) (by omega) (by omega) (by omega)) ?_
                  rintro IhB244 _ hB244 fhB244 ⟨z243, rfl, hz243, g0z243, g1z243⟩
                  have k245 := fBz_eq hB244 (a := 740) (j := 8) (by decide +kernel)
                  have k246 := fBz_eq hB244 (a := 740) (j := 17) (by decide +kernel)
                  refine And.intro (by omega) (And.intro ?_ ?_)
                  · intro c247
                    refine And.intro (⟨by omega, by omega⟩) ?_
                    exact ⟨_, rfl, by omega, (par_be0 (fun j => (fFr_S fhB237 (by decide +kernel) j).trans (fup_other ehB226 741 j (Or.inl (by decide)))) g0z243 (by omega) (by omega)), (fun q => absurd q (by omega))⟩
                  · intro c248
                    refine Exists.intro xm_423 (And.intro mi_423 (And.intro ⟨rfl, rfl, rfl, rfl⟩ (And.intro rfl ?_)))
                    refine fcallp hB244 (ct_M_isSign_90da9 (fBz h0 hB244) (by omega)) ?_
                    rintro _ ⟨z249, rfl, hz249⟩
                    refine And.intro (by omega) (And.intro ?_ ?_)
                    · intro c250
                      refine And.intro ⟨rfl, by decide, by decide⟩ (fgetf fb_740_14 h0 hB244 ?_)
                      intro z251 lz251 uz251 qz251
                      refine And.intro ⟨rfl, by decide, by decide⟩ (And.intro rfl (And.intro (Or.inl rfl) (fputf fb_740_14 (by decide +kernel) hW (by omega) ?_)))
                      intro IhB252 ehB252 hB252
                      have t253 : IhB252 740 9 = IhB244 740 9 := (congrFun (congrFun ehB252 740) 9).trans (fup_ne (by omega))
                      have t254 : IhB252 740 10 = IhB244 740 10 := (congrFun (congrFun ehB252 740) 10).trans (fup_ne (by omega))
                      have t255 : IhB252 740 11 = IhB244 740 11 := (congrFun (congrFun ehB252 740) 11).trans (fup_ne (by omega))
                      have t256 : IhB252 740 13 = IhB244 740 13 := (congrFun (congrFun ehB252 740) 13).trans (fup_ne (by omega))
                      have t257 := fup_at ehB252 14 (by omega)
                      have t258 : IhB252 740 15 = IhB244 740 15 := (congrFun (congrFun ehB252 740) 15).trans (fup_ne (by omega))
                      have t259 : IhB252 740 16 = IhB244 740 16 := (congrFun (congrFun ehB252 740) 16).trans (fup_ne (by omega))
                      have k260 := fBz_eq hB252 (a := 740) (j := 8) (by decide +kernel)
                      have k261 := fBz_eq hB252 (a := 740) (j := 17) (by decide +kernel)
                      refine Exists.intro xm_314 (And.intro mi_314 (And.intro ⟨rfl, rfl, rfl, rfl⟩ (And.intro rfl ?_)))
                      refine fcall _ h0 (fzs_sub (by decide +kernel) hW) hB252 (ct_M_next_c8003 (fBz h0 hB252) (by omega)) ?_
                      rintro IhB263 _ hB263 fhB263 ⟨rfl, hz262⟩
                      have t264 := fhB263 740 14 (by decide +kernel)
                      have t265 := fhB263 740 15 (by decide +kernel)
                      have t266 := fhB263 740 16 (by decide +kernel)
                      have k267 := fBz_eq hB263 (a := 740) (j := 8) (by decide +kernel)
                      have k268 := fBz_eq hB263 (a := 740) (j := 17) (by decide +kernel)
                      refine And.intro (⟨by omega, by omega⟩) ?_
                      exact ⟨_, rfl, by omega, (par_par (M3 := IhB263 740 16) (by omega) (fun j => (fFr_S fhB237 (by decide +kernel) j).trans (fup_other ehB226 741 j (Or.inl (by decide)))) g0z243 (g1z243 (by omega)) (fun j => (fFr_S fhB263 (by decide +kernel) j).trans (fup_other ehB252 741 j (Or.inl (by decide)))) (by omega) (by omega) (by omega)).1, (fun _ => (par_par (M3 := IhB263 740 16) (by omega) (fun j => (fFr_S fhB237 (by decide +kernel) j).trans (fup_other ehB226 741 j (Or.inl (by decide)))) g0z243 (g1z243 (by omega)) (fun j => (fFr_S fhB263 (by decide +kernel) j).trans (fup_other ehB252 741 j (Or.inl (by decide)))) (by omega) (by omega) (by omega)).2)⟩
                    · intro c269
                      refine And.intro (⟨by omega, by omega⟩) ?_
                      exact ⟨_, rfl, by omega, (par_be0 (fun j => (fFr_S fhB237 (by decide +kernel) j).trans (fup_other ehB226 741 j (Or.inl (by decide)))) g0z243 (by omega) (by omega)), (fun q => absurd q (by omega))⟩
                · intro c270
                  refine And.intro (⟨by omega, by omega⟩) ?_
                  exact ⟨_, rfl, by omega, sBe_refl, (fun q => absurd q (by omega))⟩
            · intro c271
              refine And.intro ⟨rfl, by decide, by decide⟩ (fgetf fb_740_15 h0 hB0 ?_)
              intro z272 lz272 uz272 qz272
              refine And.intro ⟨rfl, by decide, by decide⟩ (And.intro rfl (And.intro (Or.inl rfl) (fputf fb_740_15 (by decide +kernel) hW (by omega) ?_)))
              intro IhB273 ehB273 hB273
              have t274 : IhB273 740 9 = I 740 9 := (congrFun (congrFun ehB273 740) 9).trans (fup_ne (by omega))
              have t275 : IhB273 740 10 = I 740 10 := (congrFun (congrFun ehB273 740) 10).trans (fup_ne (by omega))
              have t276 : IhB273 740 11 = I 740 11 := (congrFun (congrFun ehB273 740) 11).trans (fup_ne (by omega))
              have t277 : IhB273 740 13 = I 740 13 := (congrFun (congrFun ehB273 740) 13).trans (fup_ne (by omega))
              have t278 : IhB273 740 14 = I 740 14 := (congrFun (congrFun ehB273 740) 14).trans (fup_ne (by omega))
              have t279 := fup_at ehB273 15 (by omega)
              have t280 : IhB273 740 16 = I 740 16 := (congrFun (congrFun ehB273 740) 16).trans (fup_ne (by omega))
              have k281 := fBz_eq hB273 (a := 740) (j := 8) (by decide +kernel)
              have k282 := fBz_eq hB273 (a := 740) (j := 17) (by decide +kernel)
              refine Exists.intro xm_314 (And.intro mi_314 (And.intro ⟨rfl, rfl, rfl, rfl⟩ (And.intro rfl ?_)))
              refine fcall _ h0 (fzs_sub (by decide +kernel) hW) hB273 (ct_M_next_c8003 (fBz h0 hB273) (by omega)) ?_
              rintro IhB284 _ hB284 fhB284 ⟨rfl, hz283⟩
              have t285 := fhB284 740 14 (by decide +kernel)
              have t286 := fhB284 740 15 (by decide +kernel)
              have t287 := fhB284 740 16 (by decide +kernel)
              have k288 := fBz_eq hB284 (a := 740) (j := 8) (by decide +kernel)
              have k289 := fBz_eq hB284 (a := 740) (j := 17) (by decide +kernel)
              refine Exists.intro xm_404 (And.intro mi_404 (And.intro ⟨rfl, rfl, rfl, rfl⟩ (And.intro rfl ?_)))
              refine fcall _ h0 (fzs_sub (by decide +kernel) hW) hB284 (ct_M_part0_cc4b8 (fBz h0 hB284) (by omega) (by omega) (by omega) (by omega) (by omega)) ?_
              rintro IhB291 _ hB291 fhB291 ⟨z290, rfl, hz290, g0z290, g1z290⟩
              have k292 := fBz_eq hB291 (a := 740) (j := 8) (by decide +kernel)
              have k293 := fBz_eq hB291 (a := 740) (j := 17) (by decide +kernel)
              refine And.intro (by omega) (And.intro ?_ ?_)
              · intro c294
                refine And.intro ⟨rfl, by decide, by decide⟩ (fgetf fb_740_15 h0 hB291 ?_)
                intro z295 lz295 uz295 qz295
                refine And.intro ⟨rfl, by decide, by decide⟩ (And.intro rfl (And.intro (Or.inl rfl) (fputf fb_740_15 (by decide +kernel) hW (by omega) ?_)))
                intro IhB296 ehB296 hB296
                have t297 : IhB296 740 9 = IhB291 740 9 := (congrFun (congrFun ehB296 740) 9).trans (fup_ne (by omega))
                have t298 : IhB296 740 10 = IhB291 740 10 := (congrFun (congrFun ehB296 740) 10).trans (fup_ne (by omega))
                have t299 : IhB296 740 11 = IhB291 740 11 := (congrFun (congrFun ehB296 740) 11).trans (fup_ne (by omega))
                have t300 : IhB296 740 13 = IhB291 740 13 := (congrFun (congrFun ehB296 740) 13).trans (fup_ne (by omega))
                have t301 : IhB296 740 14 = IhB291 740 14 := (congrFun (congrFun ehB296 740) 14).trans (fup_ne (by omega))
                have t302 := fup_at ehB296 15 (by omega)
                have t303 : IhB296 740 16 = IhB291 740 16 := (congrFun (congrFun ehB296 740) 16).trans (fup_ne (by omega))
                have k304 := fBz_eq hB296 (a := 740) (j := 8) (by decide +kernel)
                have k305 := fBz_eq hB296 (a := 740) (j := 17) (by decide +kernel)
                refine Exists.intro xm_421 (And.intro mi_421 (And.intro ⟨rfl, rfl, rfl, rfl⟩ (And.intro rfl ?_)))
                refine fcall _ h0 (fzs_sub (by decide +kernel) hW) hB296 (ct_M_step_2c704 (fBz h0 hB296) (by omega) (by omega) (by omega) (by omega)) ?_
                rintro IhB307 _ hB307 fhB307 ⟨rfl, hz306, g0z306⟩
                have t308 := fhB307 740 9 (by decide +kernel)
                have t309 := fhB307 740 10 (by decide +kernel)
                have t310 := fhB307 740 11 (by decide +kernel)
                have t311 := fhB307 740 13 (by decide +kernel)
                have t312 := fhB307 740 14 (by decide +kernel)
                have t313 := fhB307 740 15 (by decide +kernel)
                have k314 := fBz_eq hB307 (a := 740) (j := 8) (by decide +kernel)
                have k315 := fBz_eq hB307 (a := 740) (j := 17) (by decide +kernel)
                refine And.intro (⟨by omega, by omega⟩) ?_
                exact ⟨_, rfl, by omega, (par_not (M3 := IhB307 740 16) (by omega) (fun j => (fFr_S fhB284 (by decide +kernel) j).trans (fup_other ehB273 741 j (Or.inl (by decide)))) g0z290 (g1z290 (by omega)) (fun j => fup_other ehB296 741 j (Or.inl (by decide))) g0z306 (by omega) (by omega) (by omega) (by omega) (by omega) (by omega)).1, (fun _ => (par_not (M3 := IhB307 740 16) (by omega) (fun j => (fFr_S fhB284 (by decide +kernel) j).trans (fup_other ehB273 741 j (Or.inl (by decide)))) g0z290 (g1z290 (by omega)) (fun j => fup_other ehB296 741 j (Or.inl (by decide))) g0z306 (by omega) (by omega) (by omega) (by omega) (by omega) (by omega)).2)⟩
              · intro c316
                refine And.intro (⟨by omega, by omega⟩) ?_
                exact ⟨_, rfl, by omega, (par_be0 (fun j => (fFr_S fhB284 (by decide +kernel) j).trans (fup_other ehB273 741 j (Or.inl (by decide)))) g0z290 (by omega) (by omega)), (fun q => absurd q (by omega))⟩
        · intro c317
          refine And.intro ⟨rfl, by decide, by decide⟩ (fgetf fb_740_13 h0 hB0 ?_)
          intro z318 lz318 uz318 qz318
          refine Exists.intro xm_422 (And.intro mi_422 (And.intro ⟨rfl, rfl, rfl, rfl⟩ (And.intro True.intro ?_)))
          refine fcallp hB0 (ct_M_isName_49450 (fBz h0 hB0) (by omega) (by omega)) ?_
          rintro _ ⟨z319, rfl, hz319⟩
          refine And.intro (by omega) (And.intro ?_ ?_)
          · intro c320
            refine Exists.intro xm_423 (And.intro mi_423 (And.intro ⟨rfl, rfl, rfl, rfl⟩ (And.intro rfl ?_)))
            refine fcallp hB0 (ct_M_isSign_90da9 (fBz h0 hB0) (by omega)) ?_
            rintro _ ⟨z321, rfl, hz321⟩
            refine And.intro (by omega) (And.intro ?_ ?_)
            · intro c322
              refine Exists.intro xm_423 (And.intro mi_423 (And.intro ⟨rfl, rfl, rfl, rfl⟩ (And.intro rfl ?_)))
              refine fcallp hB0 (ct_M_isSign_90da9 (fBz h0 hB0) (by omega)) ?_
              rintro _ ⟨z323, rfl, hz323⟩
              refine And.intro (by omega) (And.intro ?_ ?_)
              · intro c324
                refine And.intro (⟨by omega, by omega⟩) ?_
                exact ⟨_, rfl, by omega, sBe_refl, (fun q => absurd q (by omega))⟩
              · intro c325
                refine And.intro ⟨rfl, by decide, by decide⟩ (fgetf fb_740_14 h0 hB0 ?_)
                intro z326 lz326 uz326 qz326
                refine And.intro (by omega) (And.intro ?_ ?_)
                · intro c327
                  refine And.intro ⟨rfl, by decide, by decide⟩ (fgetf fb_740_14 h0 hB0 ?_)
                  intro z328 lz328 uz328 qz328
                  refine And.intro ⟨rfl, by decide, by decide⟩ (And.intro rfl (And.intro (Or.inl rfl) (fputf fb_740_14 (by decide +kernel) hW (by omega) ?_)))
                  intro IhB329 ehB329 hB329
                  have t330 : IhB329 740 9 = I 740 9 := (congrFun (congrFun ehB329 740) 9).trans (fup_ne (by omega))
                  have t331 : IhB329 740 10 = I 740 10 := (congrFun (congrFun ehB329 740) 10).trans (fup_ne (by omega))
                  have t332 : IhB329 740 11 = I 740 11 := (congrFun (congrFun ehB329 740) 11).trans (fup_ne (by omega))
                  have t333 : IhB329 740 13 = I 740 13 := (congrFun (congrFun ehB329 740) 13).trans (fup_ne (by omega))
                  have t334 := fup_at ehB329 14 (by omega)
                  have t335 : IhB329 740 15 = I 740 15 := (congrFun (congrFun ehB329 740) 15).trans (fup_ne (by omega))
                  have t336 : IhB329 740 16 = I 740 16 := (congrFun (congrFun ehB329 740) 16).trans (fup_ne (by omega))
                  have k337 := fBz_eq hB329 (a := 740) (j := 8) (by decide +kernel)
                  have k338 := fBz_eq hB329 (a := 740) (j := 17) (by decide +kernel)
                  refine Exists.intro xm_314 (And.intro mi_314 (And.intro ⟨rfl, rfl, rfl, rfl⟩ (And.intro rfl ?_)))
                  refine fcall _ h0 (fzs_sub (by decide +kernel) hW) hB329 (ct_M_next_c8003 (fBz h0 hB329) (by omega)) ?_
                  rintro IhB340 _ hB340 fhB340 ⟨rfl, hz339⟩
                  have t341 := fhB340 740 14 (by decide +kernel)
                  have t342 := fhB340 740 15 (by decide +kernel)
                  have t343 := fhB340 740 16 (by decide +kernel)
                  have k344 := fBz_eq hB340 (a := 740) (j := 8) (by decide +kernel)
                  have k345 := fBz_eq hB340 (a := 740) (j := 17) (by decide +kernel)
                  refine Exists.intro xm_319 (And.intro mi_319 (And.intro ⟨rfl, rfl, rfl, rfl⟩ (And.intro rfl ?_)))
                  refine fcall _ h0 (fzs_sub (by decide +kernel) hW) hB340 (ct_M_either_f12bf (fBz h0 hB340) (by omega) (by omega) (by omega) (by omega) (by omega)) ?_
                  rintro IhB347 _ hB347 fhB347 ⟨z346, rfl, hz346, g0z346, g1z346⟩
                  have k348 := fBz_eq hB347 (a := 740) (j := 8) (by decide +kernel)
                  have k349 := fBz_eq hB347 (a := 740) (j := 17) (by decide +kernel)
                  refine And.intro (by omega) (And.intro ?_ ?_)
                  · intro c350
                    refine And.intro (⟨by omega, by omega⟩) ?_
                    exact ⟨_, rfl, by omega, (par_be0 (fun j => (fFr_S fhB340 (by decide +kernel) j).trans (fup_other ehB329 741 j (Or.inl (by decide)))) g0z346 (by omega) (by omega)), (fun q => absurd q (by omega))⟩
                  · intro c351
                    refine Exists.intro xm_423 (And.intro mi_423 (And.intro ⟨rfl, rfl, rfl, rfl⟩ (And.intro rfl ?_)))
                    refine fcallp hB347 (ct_M_isSign_90da9 (fBz h0 hB347) (by omega)) ?_
                    rintro _ ⟨z352, rfl, hz352⟩
                    refine And.intro (by omega) (And.intro ?_ ?_)
                    · intro c353
                      refine And.intro ⟨rfl, by decide, by decide⟩ (fgetf fb_740_14 h0 hB347 ?_)
                      intro z354 lz354 uz354 qz354
                      refine And.intro ⟨rfl, by decide, by decide⟩ (And.intro rfl (And.intro (Or.inl rfl) (fputf fb_740_14 (by decide +kernel) hW (by omega) ?_)))
                      intro IhB355 ehB355 hB355
                      have t356 : IhB355 740 9 = IhB347 740 9 := (congrFun (congrFun ehB355 740) 9).trans (fup_ne (by omega))
                      have t357 : IhB355 740 10 = IhB347 740 10 := (congrFun (congrFun ehB355 740) 10).trans (fup_ne (by omega))
                      have t358 : IhB355 740 11 = IhB347 740 11 := (congrFun (congrFun ehB355 740) 11).trans (fup_ne (by omega))
                      have t359 : IhB355 740 13 = IhB347 740 13 := (congrFun (congrFun ehB355 740) 13).trans (fup_ne (by omega))
                      have t360 := fup_at ehB355 14 (by omega)
                      have t361 : IhB355 740 15 = IhB347 740 15 := (congrFun (congrFun ehB355 740) 15).trans (fup_ne (by omega))
                      have t362 : IhB355 740 16 = IhB347 740 16 := (congrFun (congrFun ehB355 740) 16).trans (fup_ne (by omega))
                      have k363 := fBz_eq hB355 (a := 740) (j := 8) (by decide +kernel)
                      have k364 := fBz_eq hB355 (a := 740) (j := 17) (by decide +kernel)
                      refine Exists.intro xm_314 (And.intro mi_314 (And.intro ⟨rfl, rfl, rfl, rfl⟩ (And.intro rfl ?_)))
                      refine fcall _ h0 (fzs_sub (by decide +kernel) hW) hB355 (ct_M_next_c8003 (fBz h0 hB355) (by omega)) ?_
                      rintro IhB366 _ hB366 fhB366 ⟨rfl, hz365⟩
                      have t367 := fhB366 740 14 (by decide +kernel)
                      have t368 := fhB366 740 15 (by decide +kernel)
                      have t369 := fhB366 740 16 (by decide +kernel)
                      have k370 := fBz_eq hB366 (a := 740) (j := 8) (by decide +kernel)
                      have k371 := fBz_eq hB366 (a := 740) (j := 17) (by decide +kernel)
                      refine And.intro (⟨by omega, by omega⟩) ?_
                      exact ⟨_, rfl, by omega, (par_par (M3 := IhB366 740 16) (by omega) (fun j => (fFr_S fhB340 (by decide +kernel) j).trans (fup_other ehB329 741 j (Or.inl (by decide)))) g0z346 (g1z346 (by omega)) (fun j => (fFr_S fhB366 (by decide +kernel) j).trans (fup_other ehB355 741 j (Or.inl (by decide)))) (by omega) (by omega) (by omega)).1, (fun _ => (par_par (M3 := IhB366 740 16) (by omega) (fun j => (fFr_S fhB340 (by decide +kernel) j).trans (fup_other ehB329 741 j (Or.inl (by decide)))) g0z346 (g1z346 (by omega)) (fun j => (fFr_S fhB366 (by decide +kernel) j).trans (fup_other ehB355 741 j (Or.inl (by decide)))) (by omega) (by omega) (by omega)).2)⟩
                    · intro c372
                      refine And.intro (⟨by omega, by omega⟩) ?_
                      exact ⟨_, rfl, by omega, (par_be0 (fun j => (fFr_S fhB340 (by decide +kernel) j).trans (fup_other ehB329 741 j (Or.inl (by decide)))) g0z346 (by omega) (by omega)), (fun q => absurd q (by omega))⟩
                · intro c373
                  refine And.intro (⟨by omega, by omega⟩) ?_
                  exact ⟨_, rfl, by omega, sBe_refl, (fun q => absurd q (by omega))⟩
            · intro c374
              refine And.intro ⟨rfl, by decide, by decide⟩ (fgetf fb_740_15 h0 hB0 ?_)
              intro z375 lz375 uz375 qz375
              refine And.intro (by omega) (And.intro ?_ ?_)
              · intro c376
                refine Exists.intro xm_423 (And.intro mi_423 (And.intro ⟨rfl, rfl, rfl, rfl⟩ (And.intro rfl ?_)))
                refine fcallp hB0 (ct_M_isSign_90da9 (fBz h0 hB0) (by omega)) ?_
                rintro _ ⟨z377, rfl, hz377⟩
                refine And.intro (by omega) (And.intro ?_ ?_)
                · intro c378
                  refine And.intro (⟨by omega, by omega⟩) ?_
                  exact ⟨_, rfl, by omega, sBe_refl, (fun q => absurd q (by omega))⟩
                · intro c379
                  refine And.intro ⟨rfl, by decide, by decide⟩ (fgetf fb_740_14 h0 hB0 ?_)
                  intro z380 lz380 uz380 qz380
                  refine And.intro (by omega) (And.intro ?_ ?_)
                  · intro c381
                    refine And.intro ⟨rfl, by decide, by decide⟩ (fgetf fb_740_14 h0 hB0 ?_)
                    intro z382 lz382 uz382 qz382
                    refine And.intro ⟨rfl, by decide, by decide⟩ (And.intro rfl (And.intro (Or.inl rfl) (fputf fb_740_14 (by decide +kernel) hW (by omega) ?_)))
                    intro IhB383 ehB383 hB383
                    have t384 : IhB383 740 9 = I 740 9 := (congrFun (congrFun ehB383 740) 9).trans (fup_ne (by omega))
                    have t385 : IhB383 740 10 = I 740 10 := (congrFun (congrFun ehB383 740) 10).trans (fup_ne (by omega))
                    have t386 : IhB383 740 11 = I 740 11 := (congrFun (congrFun ehB383 740) 11).trans (fup_ne (by omega))
                    have t387 : IhB383 740 13 = I 740 13 := (congrFun (congrFun ehB383 740) 13).trans (fup_ne (by omega))
                    have t388 := fup_at ehB383 14 (by omega)
                    have t389 : IhB383 740 15 = I 740 15 := (congrFun (congrFun ehB383 740) 15).trans (fup_ne (by omega))
                    have t390 : IhB383 740 16 = I 740 16 := (congrFun (congrFun ehB383 740) 16).trans (fup_ne (by omega))
                    have k391 := fBz_eq hB383 (a := 740) (j := 8) (by decide +kernel)
                    have k392 := fBz_eq hB383 (a := 740) (j := 17) (by decide +kernel)
                    refine Exists.intro xm_314 (And.intro mi_314 (And.intro ⟨rfl, rfl, rfl, rfl⟩ (And.intro rfl ?_)))
                    refine fcall _ h0 (fzs_sub (by decide +kernel) hW) hB383 (ct_M_next_c8003 (fBz h0 hB383) (by omega)) ?_
                    rintro IhB394 _ hB394 fhB394 ⟨rfl, hz393⟩
                    have t395 := fhB394 740 14 (by decide +kernel)
                    have t396 := fhB394 740 15 (by decide +kernel)
                    have t397 := fhB394 740 16 (by decide +kernel)
                    have k398 := fBz_eq hB394 (a := 740) (j := 8) (by decide +kernel)
                    have k399 := fBz_eq hB394 (a := 740) (j := 17) (by decide +kernel)
                    refine Exists.intro xm_319 (And.intro mi_319 (And.intro ⟨rfl, rfl, rfl, rfl⟩ (And.intro rfl ?_)))
                    refine fcall _ h0 (fzs_sub (by decide +kernel) hW) hB394 (ct_M_either_f12bf (fBz h0 hB394) (by omega) (by omega) (by omega) (by omega) (by omega)) ?_
                    rintro IhB401 _ hB401 fhB401 ⟨z400, rfl, hz400, g0z400, g1z400⟩
                    have k402 := fBz_eq hB401 (a := 740) (j := 8) (by decide +kernel)
                    have k403 := fBz_eq hB401 (a := 740) (j := 17) (by decide +kernel)
                    refine And.intro (by omega) (And.intro ?_ ?_)
                    · intro c404
                      refine And.intro (⟨by omega, by omega⟩) ?_
                      exact ⟨_, rfl, by omega, (par_be0 (fun j => (fFr_S fhB394 (by decide +kernel) j).trans (fup_other ehB383 741 j (Or.inl (by decide)))) g0z400 (by omega) (by omega)), (fun q => absurd q (by omega))⟩
                    · intro c405
                      refine Exists.intro xm_423 (And.intro mi_423 (And.intro ⟨rfl, rfl, rfl, rfl⟩ (And.intro rfl ?_)))
                      refine fcallp hB401 (ct_M_isSign_90da9 (fBz h0 hB401) (by omega)) ?_
                      rintro _ ⟨z406, rfl, hz406⟩
                      refine And.intro (by omega) (And.intro ?_ ?_)
                      · intro c407
                        refine And.intro ⟨rfl, by decide, by decide⟩ (fgetf fb_740_14 h0 hB401 ?_)
                        intro z408 lz408 uz408 qz408
                        refine And.intro ⟨rfl, by decide, by decide⟩ (And.intro rfl (And.intro (Or.inl rfl) (fputf fb_740_14 (by decide +kernel) hW (by omega) ?_)))
                        intro IhB409 ehB409 hB409
                        have t410 : IhB409 740 9 = IhB401 740 9 := (congrFun (congrFun ehB409 740) 9).trans (fup_ne (by omega))
                        have t411 : IhB409 740 10 = IhB401 740 10 := (congrFun (congrFun ehB409 740) 10).trans (fup_ne (by omega))
                        have t412 : IhB409 740 11 = IhB401 740 11 := (congrFun (congrFun ehB409 740) 11).trans (fup_ne (by omega))
                        have t413 : IhB409 740 13 = IhB401 740 13 := (congrFun (congrFun ehB409 740) 13).trans (fup_ne (by omega))
                        have t414 := fup_at ehB409 14 (by omega)
                        have t415 : IhB409 740 15 = IhB401 740 15 := (congrFun (congrFun ehB409 740) 15).trans (fup_ne (by omega))
                        have t416 : IhB409 740 16 = IhB401 740 16 := (congrFun (congrFun ehB409 740) 16).trans (fup_ne (by omega))
                        have k417 := fBz_eq hB409 (a := 740) (j := 8) (by decide +kernel)
                        have k418 := fBz_eq hB409 (a := 740) (j := 17) (by decide +kernel)
                        refine Exists.intro xm_314 (And.intro mi_314 (And.intro ⟨rfl, rfl, rfl, rfl⟩ (And.intro rfl ?_)))
                        refine fcall _ h0 (fzs_sub (by decide +kernel) hW) hB409 (ct_M_next_c8003 (fBz h0 hB409) (by omega)) ?_
                        rintro IhB420 _ hB420 fhB420 ⟨rfl, hz419⟩
                        have t421 := fhB420 740 14 (by decide +kernel)
                        have t422 := fhB420 740 15 (by decide +kernel)
                        have t423 := fhB420 740 16 (by decide +kernel)
                        have k424 := fBz_eq hB420 (a := 740) (j := 8) (by decide +kernel)
                        have k425 := fBz_eq hB420 (a := 740) (j := 17) (by decide +kernel)
                        refine And.intro (⟨by omega, by omega⟩) ?_
                        exact ⟨_, rfl, by omega, (par_par (M3 := IhB420 740 16) (by omega) (fun j => (fFr_S fhB394 (by decide +kernel) j).trans (fup_other ehB383 741 j (Or.inl (by decide)))) g0z400 (g1z400 (by omega)) (fun j => (fFr_S fhB420 (by decide +kernel) j).trans (fup_other ehB409 741 j (Or.inl (by decide)))) (by omega) (by omega) (by omega)).1, (fun _ => (par_par (M3 := IhB420 740 16) (by omega) (fun j => (fFr_S fhB394 (by decide +kernel) j).trans (fup_other ehB383 741 j (Or.inl (by decide)))) g0z400 (g1z400 (by omega)) (fun j => (fFr_S fhB420 (by decide +kernel) j).trans (fup_other ehB409 741 j (Or.inl (by decide)))) (by omega) (by omega) (by omega)).2)⟩
                      · intro c426
                        refine And.intro (⟨by omega, by omega⟩) ?_
                        exact ⟨_, rfl, by omega, (par_be0 (fun j => (fFr_S fhB394 (by decide +kernel) j).trans (fup_other ehB383 741 j (Or.inl (by decide)))) g0z400 (by omega) (by omega)), (fun q => absurd q (by omega))⟩
                  · intro c427
                    refine And.intro (⟨by omega, by omega⟩) ?_
                    exact ⟨_, rfl, by omega, sBe_refl, (fun q => absurd q (by omega))⟩
              · intro c428
                refine And.intro ⟨rfl, by decide, by decide⟩ (fgetf fb_740_15 h0 hB0 ?_)
                intro z429 lz429 uz429 qz429
                refine And.intro ⟨rfl, by decide, by decide⟩ (And.intro rfl (And.intro (Or.inl rfl) (fputf fb_740_15 (by decide +kernel) hW (by omega) ?_)))
                intro IhB430 ehB430 hB430
                have t431 : IhB430 740 9 = I 740 9 := (congrFun (congrFun ehB430 740) 9).trans (fup_ne (by omega))
                have t432 : IhB430 740 10 = I 740 10 := (congrFun (congrFun ehB430 740) 10).trans (fup_ne (by omega))
                have t433 : IhB430 740 11 = I 740 11 := (congrFun (congrFun ehB430 740) 11).trans (fup_ne (by omega))
                have t434 : IhB430 740 13 = I 740 13 := (congrFun (congrFun ehB430 740) 13).trans (fup_ne (by omega))
                have t435 : IhB430 740 14 = I 740 14 := (congrFun (congrFun ehB430 740) 14).trans (fup_ne (by omega))
                have t436 := fup_at ehB430 15 (by omega)
                have t437 : IhB430 740 16 = I 740 16 := (congrFun (congrFun ehB430 740) 16).trans (fup_ne (by omega))
                have k438 := fBz_eq hB430 (a := 740) (j := 8) (by decide +kernel)
                have k439 := fBz_eq hB430 (a := 740) (j := 17) (by decide +kernel)
                refine Exists.intro xm_314 (And.intro mi_314 (And.intro ⟨rfl, rfl, rfl, rfl⟩ (And.intro rfl ?_)))
                refine fcall _ h0 (fzs_sub (by decide +kernel) hW) hB430 (ct_M_next_c8003 (fBz h0 hB430) (by omega)) ?_
                rintro IhB441 _ hB441 fhB441 ⟨rfl, hz440⟩
                have t442 := fhB441 740 14 (by decide +kernel)
                have t443 := fhB441 740 15 (by decide +kernel)
                have t444 := fhB441 740 16 (by decide +kernel)
                have k445 := fBz_eq hB441 (a := 740) (j := 8) (by decide +kernel)
                have k446 := fBz_eq hB441 (a := 740) (j := 17) (by decide +kernel)
                refine Exists.intro xm_404 (And.intro mi_404 (And.intro ⟨rfl, rfl, rfl, rfl⟩ (And.intro rfl ?_)))
                refine fcall _ h0 (fzs_sub (by decide +kernel) hW) hB441 (ct_M_part0_cc4b8 (fBz h0 hB441) (by omega) (by omega) (by omega) (by omega) (by omega)) ?_
                rintro IhB448 _ hB448 fhB448 ⟨z447, rfl, hz447, g0z447, g1z447⟩
                have k449 := fBz_eq hB448 (a := 740) (j := 8) (by decide +kernel)
                have k450 := fBz_eq hB448 (a := 740) (j := 17) (by decide +kernel)
                refine And.intro (by omega) (And.intro ?_ ?_)
                · intro c451
                  refine And.intro ⟨rfl, by decide, by decide⟩ (fgetf fb_740_15 h0 hB448 ?_)
                  intro z452 lz452 uz452 qz452
                  refine And.intro ⟨rfl, by decide, by decide⟩ (And.intro rfl (And.intro (Or.inl rfl) (fputf fb_740_15 (by decide +kernel) hW (by omega) ?_)))
                  intro IhB453 ehB453 hB453
                  have t454 : IhB453 740 9 = IhB448 740 9 := (congrFun (congrFun ehB453 740) 9).trans (fup_ne (by omega))
                  have t455 : IhB453 740 10 = IhB448 740 10 := (congrFun (congrFun ehB453 740) 10).trans (fup_ne (by omega))
                  have t456 : IhB453 740 11 = IhB448 740 11 := (congrFun (congrFun ehB453 740) 11).trans (fup_ne (by omega))
                  have t457 : IhB453 740 13 = IhB448 740 13 := (congrFun (congrFun ehB453 740) 13).trans (fup_ne (by omega))
                  have t458 : IhB453 740 14 = IhB448 740 14 := (congrFun (congrFun ehB453 740) 14).trans (fup_ne (by omega))
                  have t459 := fup_at ehB453 15 (by omega)
                  have t460 : IhB453 740 16 = IhB448 740 16 := (congrFun (congrFun ehB453 740) 16).trans (fup_ne (by omega))
                  have k461 := fBz_eq hB453 (a := 740) (j := 8) (by decide +kernel)
                  have k462 := fBz_eq hB453 (a := 740) (j := 17) (by decide +kernel)
                  refine Exists.intro xm_421 (And.intro mi_421 (And.intro ⟨rfl, rfl, rfl, rfl⟩ (And.intro rfl ?_)))
                  refine fcall _ h0 (fzs_sub (by decide +kernel) hW) hB453 (ct_M_step_2c704 (fBz h0 hB453) (by omega) (by omega) (by omega) (by omega)) ?_
                  rintro IhB464 _ hB464 fhB464 ⟨rfl, hz463, g0z463⟩
                  have t465 := fhB464 740 9 (by decide +kernel)
                  have t466 := fhB464 740 10 (by decide +kernel)
                  have t467 := fhB464 740 11 (by decide +kernel)
                  have t468 := fhB464 740 13 (by decide +kernel)
                  have t469 := fhB464 740 14 (by decide +kernel)
                  have t470 := fhB464 740 15 (by decide +kernel)
                  have k471 := fBz_eq hB464 (a := 740) (j := 8) (by decide +kernel)
                  have k472 := fBz_eq hB464 (a := 740) (j := 17) (by decide +kernel)
                  refine And.intro (⟨by omega, by omega⟩) ?_
                  exact ⟨_, rfl, by omega, (par_not (M3 := IhB464 740 16) (by omega) (fun j => (fFr_S fhB441 (by decide +kernel) j).trans (fup_other ehB430 741 j (Or.inl (by decide)))) g0z447 (g1z447 (by omega)) (fun j => fup_other ehB453 741 j (Or.inl (by decide))) g0z463 (by omega) (by omega) (by omega) (by omega) (by omega) (by omega)).1, (fun _ => (par_not (M3 := IhB464 740 16) (by omega) (fun j => (fFr_S fhB441 (by decide +kernel) j).trans (fup_other ehB430 741 j (Or.inl (by decide)))) g0z447 (g1z447 (by omega)) (fun j => fup_other ehB453 741 j (Or.inl (by decide))) g0z463 (by omega) (by omega) (by omega) (by omega) (by omega) (by omega)).2)⟩
                · intro c473
                  refine And.intro (⟨by omega, by omega⟩) ?_
                  exact ⟨_, rfl, by omega, (par_be0 (fun j => (fFr_S fhB441 (by decide +kernel) j).trans (fup_other ehB430 741 j (Or.inl (by decide)))) g0z447 (by omega) (by omega)), (fun q => absurd q (by omega))⟩
          · intro c474
            refine And.intro ⟨rfl, by decide, by decide⟩ (fgetf fb_740_13 h0 hB0 ?_)
            intro z475 lz475 uz475 qz475
            refine Exists.intro xm_421 (And.intro mi_421 (And.intro ⟨rfl, rfl, rfl, rfl⟩ (And.intro rfl ?_)))
            refine fcall _ h0 (fzs_sub (by decide +kernel) hW) hB0 (ct_M_step_2c704 (fBz h0 hB0) (by omega) (by omega) (by omega) (by omega)) ?_
            rintro IhB477 _ hB477 fhB477 ⟨rfl, hz476, g0z476⟩
            have t478 := fhB477 740 9 (by decide +kernel)
            have t479 := fhB477 740 10 (by decide +kernel)
            have t480 := fhB477 740 11 (by decide +kernel)
            have t481 := fhB477 740 13 (by decide +kernel)
            have t482 := fhB477 740 14 (by decide +kernel)
            have t483 := fhB477 740 15 (by decide +kernel)
            have k484 := fBz_eq hB477 (a := 740) (j := 8) (by decide +kernel)
            have k485 := fBz_eq hB477 (a := 740) (j := 17) (by decide +kernel)
            refine And.intro ⟨rfl, by decide, by decide⟩ (fgetf fb_740_18 h0 hB477 ?_)
            intro z486 lz486 uz486 qz486
            intro z487 hz487 ez487 bz487
            clear ez487
            try replace bz487 := bz487 (by omega)
            refine And.intro ⟨rfl, by decide, by decide⟩ (And.intro rfl (And.intro (Or.inl rfl) (fputf fb_740_18 (by decide +kernel) hW (by omega) ?_)))
            intro IhB488 ehB488 hB488
            have t489 : IhB488 740 9 = IhB477 740 9 := (congrFun (congrFun ehB488 740) 9).trans (fup_ne (by omega))
            have t490 : IhB488 740 10 = IhB477 740 10 := (congrFun (congrFun ehB488 740) 10).trans (fup_ne (by omega))
            have t491 : IhB488 740 11 = IhB477 740 11 := (congrFun (congrFun ehB488 740) 11).trans (fup_ne (by omega))
            have t492 : IhB488 740 13 = IhB477 740 13 := (congrFun (congrFun ehB488 740) 13).trans (fup_ne (by omega))
            have t493 : IhB488 740 14 = IhB477 740 14 := (congrFun (congrFun ehB488 740) 14).trans (fup_ne (by omega))
            have t494 : IhB488 740 15 = IhB477 740 15 := (congrFun (congrFun ehB488 740) 15).trans (fup_ne (by omega))
            have t495 : IhB488 740 16 = IhB477 740 16 := (congrFun (congrFun ehB488 740) 16).trans (fup_ne (by omega))
            have t496 := fup_at ehB488 18 (by omega)
            have k497 := fBz_eq hB488 (a := 740) (j := 8) (by decide +kernel)
            have k498 := fBz_eq hB488 (a := 740) (j := 17) (by decide +kernel)
            refine Exists.intro xm_314 (And.intro mi_314 (And.intro ⟨rfl, rfl, rfl, rfl⟩ (And.intro rfl ?_)))
            refine fcall _ h0 (fzs_sub (by decide +kernel) hW) hB488 (ct_M_next_c8003 (fBz h0 hB488) (by omega)) ?_
            rintro IhB500 _ hB500 fhB500 ⟨rfl, hz499⟩
            have t501 := fhB500 740 14 (by decide +kernel)
            have t502 := fhB500 740 15 (by decide +kernel)
            have t503 := fhB500 740 16 (by decide +kernel)
            have t504 := fhB500 740 18 (by decide +kernel)
            have k505 := fBz_eq hB500 (a := 740) (j := 8) (by decide +kernel)
            have k506 := fBz_eq hB500 (a := 740) (j := 17) (by decide +kernel)
            refine And.intro (⟨by omega, by omega⟩) ?_
            exact ⟨_, rfl, by omega, (par_leaf (M := IhB500 740 16) (by omega) (by omega) g0z476 (fun j => (fFr_S fhB500 (by decide +kernel) j).trans (fup_other ehB488 741 j (Or.inl (by decide)))) (by omega) (by omega)).1, (fun _ => (par_leaf (M := IhB500 740 16) (by omega) (by omega) g0z476 (fun j => (fFr_S fhB500 (by decide +kernel) j).trans (fup_other ehB488 741 j (Or.inl (by decide)))) (by omega) (by omega)).2)⟩
    · intro c507
      refine And.intro ⟨rfl, by decide, by decide⟩ (fgetf fb_740_12 h0 hB0 ?_)
      intro z508 lz508 uz508 qz508
      refine Exists.intro xm_421 (And.intro mi_421 (And.intro ⟨rfl, rfl, rfl, rfl⟩ (And.intro rfl ?_)))
      refine fcall _ h0 (fzs_sub (by decide +kernel) hW) hB0 (ct_M_step_2c704 (fBz h0 hB0) (by omega) (by omega) (by omega) (by omega)) ?_
      rintro IhB510 _ hB510 fhB510 ⟨rfl, hz509, g0z509⟩
      have t511 := fhB510 740 9 (by decide +kernel)
      have t512 := fhB510 740 10 (by decide +kernel)
      have t513 := fhB510 740 11 (by decide +kernel)
      have t514 := fhB510 740 12 (by decide +kernel)
      have t515 := fhB510 740 13 (by decide +kernel)
      have t516 := fhB510 740 14 (by decide +kernel)
      have t517 := fhB510 740 15 (by decide +kernel)
      have k518 := fBz_eq hB510 (a := 740) (j := 8) (by decide +kernel)
      have k519 := fBz_eq hB510 (a := 740) (j := 17) (by decide +kernel)
      refine And.intro ⟨rfl, by decide, by decide⟩ (fgetf fb_740_18 h0 hB510 ?_)
      intro z520 lz520 uz520 qz520
      intro z521 hz521 ez521 bz521
      clear ez521
      try replace bz521 := bz521 (by omega)
      refine And.intro ⟨rfl, by decide, by decide⟩ (And.intro rfl (And.intro (Or.inl rfl) (fputf fb_740_18 (by decide +kernel) hW (by omega) ?_)))
      intro IhB522 ehB522 hB522
      have t523 : IhB522 740 9 = IhB510 740 9 := (congrFun (congrFun ehB522 740) 9).trans (fup_ne (by omega))
      have t524 : IhB522 740 10 = IhB510 740 10 := (congrFun (congrFun ehB522 740) 10).trans (fup_ne (by omega))
      have t525 : IhB522 740 11 = IhB510 740 11 := (congrFun (congrFun ehB522 740) 11).trans (fup_ne (by omega))
      have t526 : IhB522 740 12 = IhB510 740 12 := (congrFun (congrFun ehB522 740) 12).trans (fup_ne (by omega))
      have t527 : IhB522 740 13 = IhB510 740 13 := (congrFun (congrFun ehB522 740) 13).trans (fup_ne (by omega))
      have t528 : IhB522 740 14 = IhB510 740 14 := (congrFun (congrFun ehB522 740) 14).trans (fup_ne (by omega))
      have t529 : IhB522 740 15 = IhB510 740 15 := (congrFun (congrFun ehB522 740) 15).trans (fup_ne (by omega))
      have t530 : IhB522 740 16 = IhB510 740 16 := (congrFun (congrFun ehB522 740) 16).trans (fup_ne (by omega))
      have t531 := fup_at ehB522 18 (by omega)
      have k532 := fBz_eq hB522 (a := 740) (j := 8) (by decide +kernel)
      have k533 := fBz_eq hB522 (a := 740) (j := 17) (by decide +kernel)
      refine Exists.intro xm_314 (And.intro mi_314 (And.intro ⟨rfl, rfl, rfl, rfl⟩ (And.intro rfl ?_)))
      refine fcall _ h0 (fzs_sub (by decide +kernel) hW) hB522 (ct_M_next_c8003 (fBz h0 hB522) (by omega)) ?_
      rintro IhB535 _ hB535 fhB535 ⟨rfl, hz534⟩
      have t536 := fhB535 740 14 (by decide +kernel)
      have t537 := fhB535 740 15 (by decide +kernel)
      have t538 := fhB535 740 16 (by decide +kernel)
      have t539 := fhB535 740 18 (by decide +kernel)
      have k540 := fBz_eq hB535 (a := 740) (j := 8) (by decide +kernel)
      have k541 := fBz_eq hB535 (a := 740) (j := 17) (by decide +kernel)
      refine And.intro (⟨by omega, by omega⟩) ?_
      exact ⟨_, rfl, by omega, (par_leaf (M := IhB535 740 16) (by omega) (by omega) g0z509 (fun j => (fFr_S fhB535 (by decide +kernel) j).trans (fup_other ehB522 741 j (Or.inl (by decide)))) (by omega) (by omega)).1, (fun _ => (par_leaf (M := IhB535 740 16) (by omega) (by omega) g0z509 (fun j => (fFr_S fhB535 (by decide +kernel) j).trans (fup_other ehB522 741 j (Or.inl (by decide)))) (by omega) (by omega)).2)⟩
theorem ct_M_mayVote_8be76 {I : fH} {x1 : Int} (h0 : fB bsJ I) (ha1 : (0 ≤ x1 ∧ x1 ≤ 23)) (hp0 : sI I 741) : fC ρ base n F xTc vwCl xTys D dA la gJ (fbz bsJ znJ (fKc wz_5ef89) I) xm_428 [.inr (.inr (some 740)), .inl x1] I (fun _ r => ∃ z, r = some (.inl z) ∧ (0 ≤ z ∧ z ≤ 1)) := sorry
set_option maxRecDepth 8000 in
theorem ct_M_may_cbf6c {I : fH} {x1 : Int} {x2 : Int} {x3 : Int} (h0 : fB bsJ I) (ha1 : ((-2147483648) ≤ x1 ∧ x1 ≤ 2147483647)) (ha2 : ((-2147483648) ≤ x2 ∧ x2 ≤ 2147483647)) (ha3 : ((-2147483648) ≤ x3 ∧ x3 ≤ 2147483647)) (hp0 : sI I 741) : fC ρ base n F xTc vwCl xTys D dA la gJ (fbz bsJ znJ (fKc wz_5ef89) I) xm_430 [.inr (.inr (some 740)), .inl x1, .inl x2, .inl x3] I (fun _ r => ∃ z, r = some (.inl z) ∧ ((0 ≤ z ∧ z ≤ 1) ∨ z = (-1000000001))) := by
  have hW : fzs wz_5ef89 (fKc wz_5ef89) := fKc_ok _
  refine f_meth (rb := rbJ) (J := []) 1 400 xG xin_430 x6_430 okJ (fB_self h0) ?_ ?_
  · exact fun q h => absurd h List.not_mem_nil
  · have hB0 := fB_self (zn := znJ) (K := fKc wz_5ef89) h0
    refine And.intro (by omega) ?_
    refine Exists.intro xm_238 (And.intro mi_238 (And.intro ⟨rfl, rfl, rfl, rfl⟩ (And.intro True.intro ?_)))
    refine fcallp hB0 (ct_M_isIn_27230 (fBz h0 hB0) (by omega) (by omega) (by omega)) ?_
    rintro _ ⟨z1, rfl, hz1⟩
    refine And.intro (by omega) (And.intro ?_ ?_)
    · intro c2
      refine And.intro (True.intro) ?_
      exact ⟨_, rfl, by omega⟩
    · intro c3
      refine And.intro (by omega) (And.intro ?_ ?_)
      · intro c4
        refine And.intro (by omega) (And.intro ?_ ?_)
        · intro c5
          refine And.intro (by omega) (And.intro ?_ ?_)
          · intro c6
            refine And.intro (by omega) (And.intro ?_ ?_)
            · intro c7
              refine Exists.intro xm_309 (And.intro mi_309 (And.intro ⟨rfl, rfl, rfl, rfl⟩ (And.intro rfl ?_)))
              refine fcall _ h0 (fzs_sub (by decide +kernel) hW) hB0 (ct_M_mayBirth_669a5 (fBz h0 hB0) (sI_keep hp0 h0 hB0 (by decide +kernel))) ?_
              rintro IhB9 _ hB9 fhB9 ⟨z8, rfl, hz8⟩
              refine And.intro (by omega) (And.intro ?_ ?_)
              · intro c10
                refine And.intro (True.intro) ?_
                exact ⟨_, rfl, by omega⟩
              · intro c11
                refine And.intro (True.intro) ?_
                exact ⟨_, rfl, by omega⟩
            · intro c12
              refine Exists.intro xm_428 (And.intro mi_428 (And.intro ⟨rfl, rfl, rfl, rfl⟩ (And.intro rfl ?_)))
              refine fcall _ h0 (fzs_sub (by decide +kernel) hW) hB0 (ct_M_mayVote_8be76 (fBz h0 hB0) (by omega) (sI_keep hp0 h0 hB0 (by decide +kernel))) ?_
              rintro IhB14 _ hB14 fhB14 ⟨z13, rfl, hz13⟩
              refine And.intro (by omega) (And.intro ?_ ?_)
              · intro c15
                refine And.intro (True.intro) ?_
                exact ⟨_, rfl, by omega⟩
              · intro c16
                refine And.intro (True.intro) ?_
                exact ⟨_, rfl, by omega⟩
          · intro c17
            refine Exists.intro xm_253 (And.intro mi_253 (And.intro ⟨rfl, rfl, rfl, rfl⟩ (And.intro rfl ?_)))
            refine fcall _ h0 (fzs_sub (by decide +kernel) hW) hB0 (ct_M_mayOpen_42d58 (fBz h0 hB0) (by omega) (by omega) (sI_keep hp0 h0 hB0 (by decide +kernel))) ?_
            rintro IhB19 _ hB19 fhB19 ⟨z18, rfl, hz18⟩
            refine And.intro (by omega) (And.intro ?_ ?_)
            · intro c20
              refine And.intro (True.intro) ?_
              exact ⟨_, rfl, by omega⟩
            · intro c21
              refine And.intro (True.intro) ?_
              exact ⟨_, rfl, by omega⟩
        · intro c22
          refine Exists.intro xm_251 (And.intro mi_251 (And.intro ⟨rfl, rfl, rfl, rfl⟩ (And.intro rfl ?_)))
          refine fcallp hB0 (ct_M_isLock_5e2b8 (fBz h0 hB0) (by omega)) ?_
          rintro _ ⟨z23, rfl, hz23⟩
          refine And.intro (by omega) (And.intro ?_ ?_)
          · intro c24
            refine And.intro (by omega) (And.intro ?_ ?_)
            · intro c25
              refine And.intro (by omega) (And.intro ?_ ?_)
              · intro c26
                refine Exists.intro xm_309 (And.intro mi_309 (And.intro ⟨rfl, rfl, rfl, rfl⟩ (And.intro rfl ?_)))
                refine fcall _ h0 (fzs_sub (by decide +kernel) hW) hB0 (ct_M_mayBirth_669a5 (fBz h0 hB0) (sI_keep hp0 h0 hB0 (by decide +kernel))) ?_
                rintro IhB28 _ hB28 fhB28 ⟨z27, rfl, hz27⟩
                refine And.intro (by omega) (And.intro ?_ ?_)
                · intro c29
                  refine And.intro (True.intro) ?_
                  exact ⟨_, rfl, by omega⟩
                · intro c30
                  refine And.intro (True.intro) ?_
                  exact ⟨_, rfl, by omega⟩
              · intro c31
                refine Exists.intro xm_428 (And.intro mi_428 (And.intro ⟨rfl, rfl, rfl, rfl⟩ (And.intro rfl ?_)))
                refine fcall _ h0 (fzs_sub (by decide +kernel) hW) hB0 (ct_M_mayVote_8be76 (fBz h0 hB0) (by omega) (sI_keep hp0 h0 hB0 (by decide +kernel))) ?_
                rintro IhB33 _ hB33 fhB33 ⟨z32, rfl, hz32⟩
                refine And.intro (by omega) (And.intro ?_ ?_)
                · intro c34
                  refine And.intro (True.intro) ?_
                  exact ⟨_, rfl, by omega⟩
                · intro c35
                  refine And.intro (True.intro) ?_
                  exact ⟨_, rfl, by omega⟩
            · intro c36
              refine Exists.intro xm_253 (And.intro mi_253 (And.intro ⟨rfl, rfl, rfl, rfl⟩ (And.intro rfl ?_)))
              refine fcall _ h0 (fzs_sub (by decide +kernel) hW) hB0 (ct_M_mayOpen_42d58 (fBz h0 hB0) (by omega) (by omega) (sI_keep hp0 h0 hB0 (by decide +kernel))) ?_
              rintro IhB38 _ hB38 fhB38 ⟨z37, rfl, hz37⟩
              refine And.intro (by omega) (And.intro ?_ ?_)
              · intro c39
                refine And.intro (True.intro) ?_
                exact ⟨_, rfl, by omega⟩
              · intro c40
                refine And.intro (True.intro) ?_
                exact ⟨_, rfl, by omega⟩
          · intro c41
            refine And.intro (True.intro) ?_
            exact ⟨_, rfl, by omega⟩
      · intro c42
        refine Exists.intro xm_252 (And.intro mi_252 (And.intro ⟨rfl, rfl, rfl, rfl⟩ (And.intro rfl ?_)))
        refine fcallp hB0 (ct_M_isPerson_4d30c (fBz h0 hB0) (by omega)) ?_
        rintro _ ⟨z43, rfl, hz43⟩
        refine And.intro (by omega) (And.intro ?_ ?_)
        · intro c44
          refine And.intro (True.intro) ?_
          exact ⟨_, rfl, by omega⟩
        · intro c45
          refine Exists.intro xm_248 (And.intro mi_248 (And.intro ⟨rfl, rfl, rfl, rfl⟩ (And.intro rfl ?_)))
          refine fcallp hB0 (ct_M_isDead_21e1a (fBz h0 hB0) (by omega)) ?_
          rintro _ ⟨z46, rfl, hz46⟩
          refine And.intro (by omega) (And.intro ?_ ?_)
          · intro c47
            refine And.intro (True.intro) ?_
            exact ⟨_, rfl, by omega⟩
          · intro c48
            refine And.intro (by omega) (And.intro ?_ ?_)
            · intro c49
              refine And.intro (by omega) (And.intro ?_ ?_)
              · intro c50
                refine And.intro (by omega) (And.intro ?_ ?_)
                · intro c51
                  refine Exists.intro xm_309 (And.intro mi_309 (And.intro ⟨rfl, rfl, rfl, rfl⟩ (And.intro rfl ?_)))
                  refine fcall _ h0 (fzs_sub (by decide +kernel) hW) hB0 (ct_M_mayBirth_669a5 (fBz h0 hB0) (sI_keep hp0 h0 hB0 (by decide +kernel))) ?_
                  rintro IhB53 _ hB53 fhB53 ⟨z52, rfl, hz52⟩
                  refine And.intro (by omega) (And.intro ?_ ?_)
                  · intro c54
                    refine And.intro (True.intro) ?_
                    exact ⟨_, rfl, by omega⟩
                  · intro c55
                    refine And.intro (True.intro) ?_
                    exact ⟨_, rfl, by omega⟩
                · intro c56
                  refine Exists.intro xm_428 (And.intro mi_428 (And.intro ⟨rfl, rfl, rfl, rfl⟩ (And.intro rfl ?_)))
                  refine fcall _ h0 (fzs_sub (by decide +kernel) hW) hB0 (ct_M_mayVote_8be76 (fBz h0 hB0) (by omega) (sI_keep hp0 h0 hB0 (by decide +kernel))) ?_
                  rintro IhB58 _ hB58 fhB58 ⟨z57, rfl, hz57⟩
                  refine And.intro (by omega) (And.intro ?_ ?_)
                  · intro c59
                    refine And.intro (True.intro) ?_
                    exact ⟨_, rfl, by omega⟩
                  · intro c60
                    refine And.intro (True.intro) ?_
                    exact ⟨_, rfl, by omega⟩
              · intro c61
                refine Exists.intro xm_253 (And.intro mi_253 (And.intro ⟨rfl, rfl, rfl, rfl⟩ (And.intro rfl ?_)))
                refine fcall _ h0 (fzs_sub (by decide +kernel) hW) hB0 (ct_M_mayOpen_42d58 (fBz h0 hB0) (by omega) (by omega) (sI_keep hp0 h0 hB0 (by decide +kernel))) ?_
                rintro IhB63 _ hB63 fhB63 ⟨z62, rfl, hz62⟩
                refine And.intro (by omega) (And.intro ?_ ?_)
                · intro c64
                  refine And.intro (True.intro) ?_
                  exact ⟨_, rfl, by omega⟩
                · intro c65
                  refine And.intro (True.intro) ?_
                  exact ⟨_, rfl, by omega⟩
            · intro c66
              refine Exists.intro xm_251 (And.intro mi_251 (And.intro ⟨rfl, rfl, rfl, rfl⟩ (And.intro rfl ?_)))
              refine fcallp hB0 (ct_M_isLock_5e2b8 (fBz h0 hB0) (by omega)) ?_
              rintro _ ⟨z67, rfl, hz67⟩
              refine And.intro (by omega) (And.intro ?_ ?_)
              · intro c68
                refine And.intro (by omega) (And.intro ?_ ?_)
                · intro c69
                  refine And.intro (by omega) (And.intro ?_ ?_)
                  · intro c70
                    refine Exists.intro xm_309 (And.intro mi_309 (And.intro ⟨rfl, rfl, rfl, rfl⟩ (And.intro rfl ?_)))
                    refine fcall _ h0 (fzs_sub (by decide +kernel) hW) hB0 (ct_M_mayBirth_669a5 (fBz h0 hB0) (sI_keep hp0 h0 hB0 (by decide +kernel))) ?_
                    rintro IhB72 _ hB72 fhB72 ⟨z71, rfl, hz71⟩
                    refine And.intro (by omega) (And.intro ?_ ?_)
                    · intro c73
                      refine And.intro (True.intro) ?_
                      exact ⟨_, rfl, by omega⟩
                    · intro c74
                      refine And.intro (True.intro) ?_
                      exact ⟨_, rfl, by omega⟩
                  · intro c75
                    refine Exists.intro xm_428 (And.intro mi_428 (And.intro ⟨rfl, rfl, rfl, rfl⟩ (And.intro rfl ?_)))
                    refine fcall _ h0 (fzs_sub (by decide +kernel) hW) hB0 (ct_M_mayVote_8be76 (fBz h0 hB0) (by omega) (sI_keep hp0 h0 hB0 (by decide +kernel))) ?_
                    rintro IhB77 _ hB77 fhB77 ⟨z76, rfl, hz76⟩
                    refine And.intro (by omega) (And.intro ?_ ?_)
                    · intro c78
                      refine And.intro (True.intro) ?_
                      exact ⟨_, rfl, by omega⟩
                    · intro c79
                      refine And.intro (True.intro) ?_
                      exact ⟨_, rfl, by omega⟩
                · intro c80
                  refine Exists.intro xm_253 (And.intro mi_253 (And.intro ⟨rfl, rfl, rfl, rfl⟩ (And.intro rfl ?_)))
                  refine fcall _ h0 (fzs_sub (by decide +kernel) hW) hB0 (ct_M_mayOpen_42d58 (fBz h0 hB0) (by omega) (by omega) (sI_keep hp0 h0 hB0 (by decide +kernel))) ?_
                  rintro IhB82 _ hB82 fhB82 ⟨z81, rfl, hz81⟩
                  refine And.intro (by omega) (And.intro ?_ ?_)
                  · intro c83
                    refine And.intro (True.intro) ?_
                    exact ⟨_, rfl, by omega⟩
                  · intro c84
                    refine And.intro (True.intro) ?_
                    exact ⟨_, rfl, by omega⟩
              · intro c85
                refine And.intro (True.intro) ?_
                exact ⟨_, rfl, by omega⟩
theorem ct_M_seek_c83ec {I : fH} {x1 : Int} {x2 : Int} {x3 : Int} {x4 : Int} {x5 : Int} (h0 : fB bsJ I) (ha1 : (1 ≤ x1 ∧ x1 ≤ 60)) (ha2 : (7 ≤ x2 ∧ x2 ≤ 7)) (ha3 : ((-2147483648) ≤ x3 ∧ x3 ≤ 2147483647)) (ha4 : ((-2147483648) ≤ x4 ∧ x4 ≤ 2147483647)) (ha5 : ((-2147483648) ≤ x5 ∧ x5 ≤ 2147483647)) (hp0 : x2 = 7) (hp1 : x2 ≤ I 741 12) : fC ρ base n F xTc vwCl xTys D dA la gJ (fbz bsJ znJ (fKc wz_4d25e) I) xm_479 [.inr (.inr (some 740)), .inl x1, .inl x2, .inl x3, .inl x4, .inl x5] I (fun _ r => r = none) := sorry
theorem ct_M_seek_ae1ea {I : fH} {x1 : Int} {x2 : Int} {x3 : Int} {x4 : Int} {x5 : Int} (h0 : fB bsJ I) (ha1 : (1 ≤ x1 ∧ x1 ≤ 60)) (ha2 : (6 ≤ x2 ∧ x2 ≤ 6)) (ha3 : ((-2147483648) ≤ x3 ∧ x3 ≤ 2147483647)) (ha4 : ((-2147483648) ≤ x4 ∧ x4 ≤ 2147483647)) (ha5 : ((-2147483648) ≤ x5 ∧ x5 ≤ 2147483647)) (hp0 : x2 = 6) (hp1 : x2 ≤ I 741 12) : fC ρ base n F xTc vwCl xTys D dA la gJ (fbz bsJ znJ (fKc wz_4d25e) I) xm_480 [.inr (.inr (some 740)), .inl x1, .inl x2, .inl x3, .inl x4, .inl x5] I (fun _ r => r = none) := sorry
theorem ct_M_seek_5a34b {I : fH} {x1 : Int} {x2 : Int} {x3 : Int} {x4 : Int} {x5 : Int} (h0 : fB bsJ I) (ha1 : (1 ≤ x1 ∧ x1 ≤ 60)) (ha2 : (5 ≤ x2 ∧ x2 ≤ 5)) (ha3 : ((-2147483648) ≤ x3 ∧ x3 ≤ 2147483647)) (ha4 : ((-2147483648) ≤ x4 ∧ x4 ≤ 2147483647)) (ha5 : ((-2147483648) ≤ x5 ∧ x5 ≤ 2147483647)) (hp0 : x2 = 5) (hp1 : x2 ≤ I 741 12) : fC ρ base n F xTc vwCl xTys D dA la gJ (fbz bsJ znJ (fKc wz_4d25e) I) xm_481 [.inr (.inr (some 740)), .inl x1, .inl x2, .inl x3, .inl x4, .inl x5] I (fun _ r => r = none) := sorry
theorem ct_M_seek_2af86 {I : fH} {x1 : Int} {x2 : Int} {x3 : Int} {x4 : Int} {x5 : Int} (h0 : fB bsJ I) (ha1 : (1 ≤ x1 ∧ x1 ≤ 60)) (ha2 : (4 ≤ x2 ∧ x2 ≤ 4)) (ha3 : ((-2147483648) ≤ x3 ∧ x3 ≤ 2147483647)) (ha4 : ((-2147483648) ≤ x4 ∧ x4 ≤ 2147483647)) (ha5 : ((-2147483648) ≤ x5 ∧ x5 ≤ 2147483647)) (hp0 : x2 = 4) (hp1 : x2 ≤ I 741 12) : fC ρ base n F xTc vwCl xTys D dA la gJ (fbz bsJ znJ (fKc wz_4d25e) I) xm_482 [.inr (.inr (some 740)), .inl x1, .inl x2, .inl x3, .inl x4, .inl x5] I (fun _ r => r = none) := sorry
theorem ct_M_seek_6e4c8 {I : fH} {x1 : Int} {x2 : Int} {x3 : Int} {x4 : Int} {x5 : Int} (h0 : fB bsJ I) (ha1 : (1 ≤ x1 ∧ x1 ≤ 60)) (ha2 : (3 ≤ x2 ∧ x2 ≤ 3)) (ha3 : ((-2147483648) ≤ x3 ∧ x3 ≤ 2147483647)) (ha4 : ((-2147483648) ≤ x4 ∧ x4 ≤ 2147483647)) (ha5 : ((-2147483648) ≤ x5 ∧ x5 ≤ 2147483647)) (hp0 : x2 = 3) (hp1 : x2 ≤ I 741 12) : fC ρ base n F xTc vwCl xTys D dA la gJ (fbz bsJ znJ (fKc wz_4d25e) I) xm_483 [.inr (.inr (some 740)), .inl x1, .inl x2, .inl x3, .inl x4, .inl x5] I (fun _ r => r = none) := sorry
theorem ct_M_seek_92ac3 {I : fH} {x1 : Int} {x2 : Int} {x3 : Int} {x4 : Int} {x5 : Int} (h0 : fB bsJ I) (ha1 : (1 ≤ x1 ∧ x1 ≤ 60)) (ha2 : (2 ≤ x2 ∧ x2 ≤ 2)) (ha3 : ((-2147483648) ≤ x3 ∧ x3 ≤ 2147483647)) (ha4 : ((-2147483648) ≤ x4 ∧ x4 ≤ 2147483647)) (ha5 : ((-2147483648) ≤ x5 ∧ x5 ≤ 2147483647)) (hp0 : x2 = 2) (hp1 : x2 ≤ I 741 12) : fC ρ base n F xTc vwCl xTys D dA la gJ (fbz bsJ znJ (fKc wz_4d25e) I) xm_484 [.inr (.inr (some 740)), .inl x1, .inl x2, .inl x3, .inl x4, .inl x5] I (fun _ r => r = none) := sorry
theorem ct_M_seek_58809 {I : fH} {x1 : Int} {x2 : Int} {x3 : Int} {x4 : Int} {x5 : Int} (h0 : fB bsJ I) (ha1 : (1 ≤ x1 ∧ x1 ≤ 60)) (ha2 : (1 ≤ x2 ∧ x2 ≤ 1)) (ha3 : ((-2147483648) ≤ x3 ∧ x3 ≤ 2147483647)) (ha4 : ((-2147483648) ≤ x4 ∧ x4 ≤ 2147483647)) (ha5 : ((-2147483648) ≤ x5 ∧ x5 ≤ 2147483647)) (hp0 : x2 = 1) (hp1 : x2 ≤ I 741 12) : fC ρ base n F xTc vwCl xTys D dA la gJ (fbz bsJ znJ (fKc wz_4d25e) I) xm_485 [.inr (.inr (some 740)), .inl x1, .inl x2, .inl x3, .inl x4, .inl x5] I (fun _ r => r = none) := sorry
theorem ct_M_seek_71684 {I : fH} {x1 : Int} {x2 : Int} {x3 : Int} {x4 : Int} {x5 : Int} (h0 : fB bsJ I) (ha1 : (1 ≤ x1 ∧ x1 ≤ 60)) (ha2 : (0 ≤ x2 ∧ x2 ≤ 0)) (ha3 : (0 ≤ x3 ∧ x3 ≤ 0)) (ha4 : (0 ≤ x4 ∧ x4 ≤ 0)) (ha5 : (0 ≤ x5 ∧ x5 ≤ 0)) (hp0 : x2 = 0) (hp1 : x2 ≤ I 741 12) : fC ρ base n F xTc vwCl xTys D dA la gJ (fbz bsJ znJ (fKc wz_4d25e) I) xm_486 [.inr (.inr (some 740)), .inl x1, .inl x2, .inl x3, .inl x4, .inl x5] I (fun _ r => r = none) := sorry
theorem ct_M_findOrder_1fb74 {I : fH} {x1 : Int} {x2 : Int} (h0 : fB bsJ I) (ha1 : (1 ≤ x1 ∧ x1 ≤ 60)) (ha2 : (1 ≤ x2 ∧ x2 ≤ 20000)) : fC ρ base n F xTc vwCl xTys D dA la gJ (fbz bsJ znJ (fKc wz_4d25e) I) xm_478 [.inr (.inr (some 740)), .inl x1, .inl x2] I (fun _ r => ∃ z, r = some (.inl z) ∧ ((0 ≤ z ∧ z ≤ 2147483647) ∨ z = (-1000000004) ∨ z = (-1000000002))) := sorry
theorem ct_M_isYears_9dc65 {I : fH} {x0 : Int} (h0 : fB bsJ I) (ha0 : ((-2147483648) ≤ x0 ∧ x0 ≤ 2147483647)) : fC ρ base n F xTc vwCl xTys D dA la gJ (fbz bsJ znJ (fKc []) I) xm_477 [.inl x0] I (fun _ r => ∃ z, r = some (.inl z) ∧ ((z = 1 ∧ 1 ≤ x0 ∧ x0 ≤ 60) ∨ z = 0)) := sorry
theorem ct_M_dueIs_00623 {I : fH} {x1 : Int} {x2 : Int} (h0 : fB bsJ I) (ha1 : (0 ≤ x1 ∧ x1 ≤ 600)) (ha2 : ((-2147483648) ≤ x2 ∧ x2 ≤ 2147483647)) (hp0 : I 740 39 ≤ 58) : fC ρ base n F xTc vwCl xTys D dA la gJ (fbz bsJ znJ (fKc wz_518f7) I) xm_491 [.inr (.inr (some 740)), .inl x1, .inl x2] I (fun I' r => r = none ∧ I' 740 39 = I 740 39 + 2) := sorry
abbrev jc_M_rowsOfOrder_afdec_24 : Nat → fL → List fV → fH → Prop := fun m lv st I => ∃ (y2 : Int) (y3 : Int) (y4 : Int), lv = [(0, .inr (.inr (some 740))), (2, .inl y2), (3, .inl y3), (4, .inl y4)] ∧ st = [] ∧ ((((0 ≤ y2 ∧ y2 ≤ 2147483647) ∨ y2 = (-1000000004) ∨ y2 = (-1000000002)) ∧ ((-2147483648) ≤ y3 ∧ y3 ≤ 2147483647) ∧ (0 ≤ y4 ∧ y4 ≤ 7) ∧ (I 740 39 = 2 * y4))) ∧ m = (1 + 1 * (7 - y4) : Int).toNat
set_option maxRecDepth 8000 in
theorem ct_M_rowsOfOrder_afdec {I : fH} {x1 : Int} (h0 : fB bsJ I) (ha1 : ((-2147483648) ≤ x1 ∧ x1 ≤ 2147483647)) (hp0 : I 740 39 = 0) : fC ρ base n F xTc vwCl xTys D dA la gJ (fbz bsJ znJ (fKc wz_96c9e) I) xm_492 [.inr (.inr (some 740)), .inl x1] I (fun _ r => ∃ z, r = some (.inl z) ∧ ((0 ≤ z ∧ z ≤ 0) ∨ z = (-1000000004) ∨ z = (-1000000002) ∨ z = (-1000000001))) := by
  have hW : fzs wz_96c9e (fKc wz_96c9e) := fKc_ok _
  refine f_meth (rb := rbJ) (J := [(24, jc_M_rowsOfOrder_afdec_24)]) 9 400 xG xin_492 x6_492 okJ (fB_self h0) ?_ ?_
  · refine List.forall_mem_cons.mpr ⟨?_, fun q h => absurd h List.not_mem_nil⟩
    · rintro m _ _ I1 hB1 ⟨y2, y3, y4, rfl, rfl, hb, hm⟩
      refine And.intro ⟨rfl, by decide, by decide⟩ ?_
      refine fload rL_741_741_12_12_1_0 h0 hB1 (by omega) ?_
      intro z1 lz1 uz1 qz1
      have pz1 := fld_at qz1 12 (by omega)
      refine And.intro (by omega) (And.intro ?_ ?_)
      · intro c2
        refine And.intro (by omega) (And.intro ?_ ?_)
        · intro c3
          refine And.intro (True.intro) ?_
          exact ⟨_, rfl, by omega⟩
        · intro c4
          refine And.intro (True.intro) ?_
          exact ⟨_, rfl, by omega⟩
      · intro c5
        refine And.intro (by omega) (And.intro ?_ ?_)
        · intro c6
          refine And.intro (by omega) (And.intro ?_ ?_)
          · intro c7
            refine And.intro (True.intro) ?_
            exact ⟨_, rfl, by omega⟩
          · intro c8
            refine And.intro (True.intro) ?_
            exact ⟨_, rfl, by omega⟩
        · intro c9
          refine And.intro ⟨rfl, by decide, by decide⟩ ?_
          refine And.intro ⟨rfl, by decide, by decide⟩ ?_
          refine fload rL_758_758_0_6_1_0 h0 hB1 (by omega) ?_
          intro z10 lz10 uz10 qz10
          refine fload rL_741_741_4370_4388_3_0 h0 hB1 (by omega) ?_
          intro z11 lz11 uz11 qz11
          intro z12 hz12 ez12 bz12
          clear ez12
          try replace bz12 := bz12 (by omega)
          refine And.intro ⟨rfl, by decide, by decide⟩ ?_
          refine fload rL_758_758_0_6_1_0 h0 hB1 (by omega) ?_
          intro z13 lz13 uz13 qz13
          refine Exists.intro xm_491 (And.intro mi_491 (And.intro ⟨rfl, rfl, rfl, rfl⟩ (And.intro rfl ?_)))
          refine fcall _ h0 (fzs_sub (by decide +kernel) hW) hB1 (ct_M_dueIs_00623 (fBz h0 hB1) (by omega) (by omega) (by omega)) ?_
          rintro IhB15 _ hB15 fhB15 ⟨rfl, hz14⟩
          have t16 := fhB15 741 12 (by decide +kernel)
          exact fcutJ (I := IhB15) (j := jc_M_rowsOfOrder_afdec_24) (lv' := [(0, .inr (.inr (some 740))), (2, .inl _), (3, .inl _), (4, .inl _)]) (And.intro rfl (And.intro rfl (And.intro rfl (And.intro rfl True.intro)))) ⟨_, _, _, rfl, rfl, by omega, rfl⟩ (by omega)
  · have hB0 := fB_self (zn := znJ) (K := fKc wz_96c9e) h0
    refine Exists.intro xm_477 (And.intro mi_477 (And.intro ⟨rfl, rfl, rfl, rfl⟩ (And.intro True.intro ?_)))
    refine fcallp hB0 (ct_M_isYears_9dc65 (fBz h0 hB0) (by omega)) ?_
    rintro _ ⟨z17, rfl, hz17⟩
    refine And.intro (by omega) (And.intro ?_ ?_)
    · intro c18
      refine Exists.intro xm_478 (And.intro mi_478 (And.intro ⟨rfl, rfl, rfl, rfl⟩ (And.intro rfl ?_)))
      refine fcall _ h0 (fzs_sub (by decide +kernel) hW) hB0 (ct_M_findOrder_1fb74 (fBz h0 hB0) (by omega) (by omega)) ?_
      rintro IhB20 _ hB20 fhB20 ⟨z19, rfl, hz19⟩
      have t21 := fhB20 740 39 (by decide +kernel)
      exact fcutJ (I := IhB20) (j := jc_M_rowsOfOrder_afdec_24) (lv' := [(0, .inr (.inr (some 740))), (2, .inl _), (3, .inl _), (4, .inl _)]) (And.intro rfl (And.intro rfl (And.intro rfl (And.intro rfl True.intro)))) ⟨_, _, _, rfl, rfl, by omega, rfl⟩ (by omega)
    · intro c22
      refine And.intro (True.intro) ?_
      exact ⟨_, rfl, by omega⟩
end CT

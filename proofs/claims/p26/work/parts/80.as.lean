/-! contracts (written by gen95.py) -/
theorem x6_443 : f60c xTc xTys xm_443 = true := by decide +kernel
theorem x6_168 : f60c xTc xTys xm_168 = true := by decide +kernel
theorem x6_167 : f60c xTc xTys xm_167 = true := by decide +kernel
theorem x6_166 : f60c xTc xTys xm_166 = true := by decide +kernel
abbrev wz_25294 : List Nat := [746, 753]
theorem x6_444 : f60c xTc xTys xm_444 = true := by decide +kernel
theorem rS_753_753_0_29_1_0 : frS gJ bsJ znJ [753] 100 ((753, 753), (0, 29), (1, 0), ((-2147483648), 2147483647)) := frS_dflt (by decide) (by decide +kernel)
theorem rL_753_753_0_29_1_0 : frL gJ bsJ 100 ((753, 753), (0, 29), (1, 0), ((-2147483648), 2147483647)) := frL_hull (by decide) (by decide +kernel)
abbrev wz_9f933 : List Nat := [212]
theorem rL_213_220_0_11_1_0 : frL gJ bsJ 100 ((213, 220), (0, 11), (1, 0), ((-2147483648), 2147483647)) := frL_hull (by decide) (by decide +kernel)
theorem rS_213_220_0_11_1_0 : frS gJ bsJ znJ [212] 100 ((213, 220), (0, 11), (1, 0), ((-2147483648), 2147483647)) := frS_dflt (by decide) (by decide +kernel)
theorem x6_169 : f60c xTc xTys xm_169 = true := by decide +kernel
theorem x6_446 : f60c xTc xTys xm_446 = true := by decide +kernel
theorem x6_447 : f60c xTc xTys xm_447 = true := by decide +kernel
abbrev wz_663b8 : List Nat := [20830]
theorem rL_741_741_4400_4495_12_11 : frL gJ bsJ 100 ((741, 741), (4400, 4495), (12, 11), ((-2147483648), 2147483647)) := frL_hull (by decide) (by decide +kernel)
theorem rS_741_741_4400_4495_12_11 : frS gJ bsJ znJ [20830] 100 ((741, 741), (4400, 4495), (12, 11), ((-2147483648), 2147483647)) := frS_of (by decide +kernel)
theorem x6_445 : f60c xTc xTys xm_445 = true := by decide +kernel
theorem x6_172 : f60c xTc xTys xm_172 = true := by decide +kernel
theorem rL_221_221_0_7_1_0 : frL gJ bsJ 100 ((221, 221), (0, 7), (1, 0), ((-2147483648), 2147483647)) := frL_hull (by decide) (by decide +kernel)
theorem x6_171 : f60c xTc xTys xm_171 = true := by decide +kernel
theorem x6_499 : f60c xTc xTys xm_499 = true := by decide +kernel
abbrev wz_ae6a8 : List Nat := [221]
theorem x6_170 : f60c xTc xTys xm_170 = true := by decide +kernel
theorem rS_221_221_0_7_1_0 : frS gJ bsJ znJ [221] 100 ((221, 221), (0, 7), (1, 0), ((-2147483648), 2147483647)) := frS_dflt (by decide) (by decide +kernel)
theorem x6_450 : f60c xTc xTys xm_450 = true := by decide +kernel
theorem x6_449 : f60c xTc xTys xm_449 = true := by decide +kernel
theorem rL_741_741_4500_4507_1_0 : frL gJ bsJ 100 ((741, 741), (4500, 4507), (1, 0), ((-2147483648), 2147483647)) := frL_hull (by decide) (by decide +kernel)
abbrev wz_1ea73 : List Nat := [20831]
theorem x6_448 : f60c xTc xTys xm_448 = true := by decide +kernel
theorem rS_741_741_4500_4507_1_0 : frS gJ bsJ znJ [20831] 100 ((741, 741), (4500, 4507), (1, 0), ((-2147483648), 2147483647)) := frS_of (by decide +kernel)
theorem x6_175 : f60c xTc xTys xm_175 = true := by decide +kernel
theorem x6_174 : f60c xTc xTys xm_174 = true := by decide +kernel
theorem x6_173 : f60c xTc xTys xm_173 = true := by decide +kernel
theorem x6_452 : f60c xTc xTys xm_452 = true := by decide +kernel
theorem x6_451 : f60c xTc xTys xm_451 = true := by decide +kernel
abbrev wz_0e223 : List Nat := [222]
theorem rL_222_222_0_47_1_0 : frL gJ bsJ 100 ((222, 222), (0, 47), (1, 0), ((-2147483648), 2147483647)) := frL_hull (by decide) (by decide +kernel)
theorem rS_222_222_0_47_1_0 : frS gJ bsJ znJ [222] 100 ((222, 222), (0, 47), (1, 0), ((-2147483648), 2147483647)) := frS_dflt (by decide) (by decide +kernel)
theorem x6_176 : f60c xTc xTys xm_176 = true := by decide +kernel
abbrev wz_c7e2d : List Nat := [20832]
theorem rL_741_741_4510_4557_1_0 : frL gJ bsJ 100 ((741, 741), (4510, 4557), (1, 0), ((-2147483648), 2147483647)) := frL_hull (by decide) (by decide +kernel)
theorem rS_741_741_4510_4557_1_0 : frS gJ bsJ znJ [20832] 100 ((741, 741), (4510, 4557), (1, 0), ((-2147483648), 2147483647)) := frS_of (by decide +kernel)
theorem x6_453 : f60c xTc xTys xm_453 = true := by decide +kernel
theorem x6_182 : f60c xTc xTys xm_182 = true := by decide +kernel
theorem fb_727_6 : bsJ 727 6 = (0, 48) := by decide +kernel
theorem rL_728_728_0_23_1_0 : frL gJ bsJ 100 ((728, 728), (0, 23), (1, 0), ((-2147483648), 2147483647)) := frL_hull (by decide) (by decide +kernel)
theorem rL_729_729_0_23_1_0 : frL gJ bsJ 100 ((729, 729), (0, 23), (1, 0), ((-2147483648), 2147483647)) := frL_hull (by decide) (by decide +kernel)
theorem rL_731_731_0_48_1_0 : frL gJ bsJ 100 ((731, 731), (0, 48), (1, 0), ((-2147483648), 2147483647)) := frL_hull (by decide) (by decide +kernel)
theorem fb_727_7 : bsJ 727 7 = ((-2147483648), 2147483647) := by decide +kernel
abbrev wz_01654 : List Nat := [730]
theorem x6_181 : f60c xTc xTys xm_181 = true := by decide +kernel
theorem rS_730_730_0_23_1_0 : frS gJ bsJ znJ [730] 100 ((730, 730), (0, 23), (1, 0), ((-2147483648), 2147483647)) := frS_dflt (by decide) (by decide +kernel)
abbrev wz_f185d : List Nat := [728, 730]
theorem x6_183 : f60c xTc xTys xm_183 = true := by decide +kernel
theorem rS_728_728_0_23_1_0 : frS gJ bsJ znJ [728] 100 ((728, 728), (0, 23), (1, 0), ((-2147483648), 2147483647)) := frS_dflt (by decide) (by decide +kernel)
theorem rL_730_730_0_23_1_0 : frL gJ bsJ 100 ((730, 730), (0, 23), (1, 0), ((-2147483648), 2147483647)) := frL_hull (by decide) (by decide +kernel)
abbrev wz_2d739 : List Nat := [728, 729, 11900]
theorem x6_184 : f60c xTc xTys xm_184 = true := by decide +kernel
theorem rS_729_729_0_23_1_0 : frS gJ bsJ znJ [729] 100 ((729, 729), (0, 23), (1, 0), ((-2147483648), 2147483647)) := frS_dflt (by decide) (by decide +kernel)
theorem fb_727_0 : bsJ 727 0 = ((-2147483648), 2147483647) := by decide +kernel
theorem x6_180 : f60c xTc xTys xm_180 = true := by decide +kernel
abbrev wz_06305 : List Nat := [728, 729, 731]
theorem x6_179 : f60c xTc xTys xm_179 = true := by decide +kernel
theorem rS_731_731_0_48_1_0 : frS gJ bsJ znJ [731] 100 ((731, 731), (0, 48), (1, 0), ((-2147483648), 2147483647)) := frS_dflt (by decide) (by decide +kernel)
abbrev wz_81562 : List Nat := [728, 729, 730, 731, 11900, 11901, 11906, 11907]
theorem x6_178 : f60c xTc xTys xm_178 = true := by decide +kernel
theorem fb_727_1 : bsJ 727 1 = ((-2147483648), 2147483647) := by decide +kernel
theorem x6_177 : f60c xTc xTys xm_177 = true := by decide +kernel
theorem x6_458 : f60c xTc xTys xm_458 = true := by decide +kernel
abbrev wz_69d61 : List Nat := [12227, 12228]
theorem x6_460 : f60c xTc xTys xm_460 = true := by decide +kernel
theorem fb_740_28 : bsJ 740 28 = ((-2147483648), 2147483647) := by decide +kernel
theorem fb_740_27 : bsJ 740 27 = ((-2147483648), 2147483647) := by decide +kernel
theorem x6_459 : f60c xTc xTys xm_459 = true := by decide +kernel
theorem rL_754_754_0_23_1_0 : frL gJ bsJ 100 ((754, 754), (0, 23), (1, 0), ((-2147483648), 2147483647)) := frL_hull (by decide) (by decide +kernel)
theorem rL_755_755_0_23_1_0 : frL gJ bsJ 100 ((755, 755), (0, 23), (1, 0), ((-2147483648), 2147483647)) := frL_hull (by decide) (by decide +kernel)
theorem x6_457 : f60c xTc xTys xm_457 = true := by decide +kernel
theorem x6_456 : f60c xTc xTys xm_456 = true := by decide +kernel
abbrev wz_e4773 : List Nat := [754, 755, 12227, 12228, 12229]
theorem x6_455 : f60c xTc xTys xm_455 = true := by decide +kernel
theorem fb_740_29 : bsJ 740 29 = ((-2147483648), 2147483647) := by decide +kernel
theorem rS_754_754_0_23_1_0 : frS gJ bsJ znJ [754] 100 ((754, 754), (0, 23), (1, 0), ((-2147483648), 2147483647)) := frS_dflt (by decide) (by decide +kernel)
theorem rS_755_755_0_23_1_0 : frS gJ bsJ znJ [755] 100 ((755, 755), (0, 23), (1, 0), ((-2147483648), 2147483647)) := frS_dflt (by decide) (by decide +kernel)
theorem x6_454 : f60c xTc xTys xm_454 = true := by decide +kernel
theorem x6_185 : f60c xTc xTys xm_185 = true := by decide +kernel
theorem x6_461 : f60c xTc xTys xm_461 = true := by decide +kernel
abbrev wz_2a2bc : List Nat := [223]
theorem rL_223_223_0_3_1_0 : frL gJ bsJ 100 ((223, 223), (0, 3), (1, 0), (0, 99)) := frL_of (by decide +kernel)
theorem rS_223_223_0_3_1_0 : frS gJ bsJ znJ [223] 100 ((223, 223), (0, 3), (1, 0), (0, 99)) := frS_of (by decide +kernel)
theorem x6_186 : f60c xTc xTys xm_186 = true := by decide +kernel
abbrev wz_0a5ca : List Nat := [20833]
theorem rL_741_741_4560_4563_1_0 : frL gJ bsJ 100 ((741, 741), (4560, 4563), (1, 0), (0, 99)) := frL_of (by decide +kernel)
theorem rS_741_741_4560_4563_1_0 : frS gJ bsJ znJ [20833] 100 ((741, 741), (4560, 4563), (1, 0), (0, 99)) := frS_of (by decide +kernel)
theorem x6_462 : f60c xTc xTys xm_462 = true := by decide +kernel
abbrev wz_e3030 : List Nat := [224]
theorem rL_225_248_0_3_1_0 : frL gJ bsJ 100 ((225, 248), (0, 3), (1, 0), ((-2147483648), 2147483647)) := frL_hull (by decide) (by decide +kernel)
theorem rS_225_248_0_3_1_0 : frS gJ bsJ znJ [224] 100 ((225, 248), (0, 3), (1, 0), ((-2147483648), 2147483647)) := frS_dflt (by decide) (by decide +kernel)
theorem x6_187 : f60c xTc xTys xm_187 = true := by decide +kernel
abbrev wz_ad4fa : List Nat := [20834]
theorem rL_741_741_4570_4665_4_3 : frL gJ bsJ 100 ((741, 741), (4570, 4665), (4, 3), (0, 999)) := frL_of (by decide +kernel)
theorem rS_741_741_4570_4665_4_3 : frS gJ bsJ znJ [20834] 100 ((741, 741), (4570, 4665), (4, 3), (0, 999)) := frS_of (by decide +kernel)
theorem x6_463 : f60c xTc xTys xm_463 = true := by decide +kernel
abbrev wz_61c55 : List Nat := [733, 734]
theorem x6_190 : f60c xTc xTys xm_190 = true := by decide +kernel
theorem rS_733_733_0_300_1_0 : frS gJ bsJ znJ [733] 100 ((733, 733), (0, 300), (1, 0), ((-2147483648), 2147483647)) := frS_dflt (by decide) (by decide +kernel)
theorem rS_734_734_0_300_1_0 : frS gJ bsJ znJ [734] 101 ((734, 734), (0, 300), (1, 0), ((-9223372036854775808), 9223372036854775807)) := frS_of (by decide +kernel)
theorem rL_733_733_0_300_1_0 : frL gJ bsJ 100 ((733, 733), (0, 300), (1, 0), ((-2147483648), 2147483647)) := frL_hull (by decide) (by decide +kernel)
theorem rL_734_734_0_300_1_0 : frL gJ bsJ 101 ((734, 734), (0, 300), (1, 0), ((-9223372036854775808), 9223372036854775807)) := frL_hull (by decide) (by decide +kernel)
theorem x6_189 : f60c xTc xTys xm_189 = true := by decide +kernel
theorem x6_188 : f60c xTc xTys xm_188 = true := by decide +kernel
theorem x6_467 : f60c xTc xTys xm_467 = true := by decide +kernel
theorem rL_741_741_4570_4665_1_0 : frL gJ bsJ 100 ((741, 741), (4570, 4665), (1, 0), (0, 999)) := frL_of (by decide +kernel)
theorem rL_756_756_0_7524_1_0 : frL gJ bsJ 100 ((756, 756), (0, 7524), (1, 0), (0, 1000000)) := frL_of (by decide +kernel)
section CT
variable {ρ : Nat → Int32} {base n : Nat} {F : Nat → Prop} {D : va_G} {dA : Nat → ClassId} {la : Launch}
abbrev jc_M_worst_21024_27 : Nat → fL → List fV → fH → Prop := fun m lv st I => ∃ (y1 : Int) (y2 : Int) (y3 : Int) (y4 : Int) (y5 : Int), lv = [(0, .inr (.inr (some 740))), (1, .inl y1), (2, .inl y2), (3, .inl y3), (4, .inl y4), (5, .inl y5)] ∧ st = [] ∧ (((0 ≤ y1 ∧ y1 ≤ 2147483647) ∧ (0 ≤ y2 ∧ y2 ≤ 2) ∧ ((-1) ≤ y3 ∧ y3 ≤ 19) ∧ ((-2147483648) ≤ y4 ∧ y4 ≤ 2147483647) ∧ (0 ≤ y5 ∧ y5 ≤ 20))) ∧ m = (1 + 1 * (20 - y5) : Int).toNat
set_option maxRecDepth 8000 in
theorem ct_M_worst_21024 {I : fH} {x1 : Int} {x2 : Int} (h0 : fB bsJ I) (ha1 : ((-2147483648) ≤ x1 ∧ x1 ≤ 2147483647)) (ha2 : ((-2147483648) ≤ x2 ∧ x2 ≤ 2147483647)) : fC ρ base n F xTc vwCl xTys D dA la gJ (fbz bsJ znJ (fKc []) I) xm_443 [.inr (.inr (some 740)), .inl x1, .inl x2] I (fun _ r => ∃ z, r = some (.inl z) ∧ ((-2147483648) ≤ z ∧ z ≤ 2147483647)) := by
  have hW : fzs [] (fKc []) := fKc_ok _
  refine f_meth (rb := rbJ) (J := [(27, jc_M_worst_21024_27)]) 22 400 xG xin_443 x6_443 okJ (fB_self h0) ?_ ?_
  · refine List.forall_mem_cons.mpr ⟨?_, fun q h => absurd h List.not_mem_nil⟩
    · rintro m _ _ I1 hB1 ⟨y1, y2, y3, y4, y5, rfl, rfl, hb, hm⟩
      refine And.intro ⟨rfl, by decide, by decide⟩ ?_
      refine fload rL_741_741_5_5_1_0 h0 hB1 (by omega) ?_
      intro z1 lz1 uz1 qz1
      have pz1 := fld_at qz1 5 (by omega)
      refine And.intro (by omega) (And.intro ?_ ?_)
      · intro c2
        refine And.intro (by omega) (And.intro ?_ ?_)
        · intro c3
          refine And.intro (by omega) (And.intro ?_ ?_)
          · intro c4
            refine And.intro (by omega) (And.intro ?_ ?_)
            · intro c5
              refine Exists.intro xm_441 (And.intro mi_441 (And.intro ⟨rfl, rfl, rfl, rfl⟩ (And.intro rfl ?_)))
              refine fcallp hB1 (ct_M_readOf_c48db (fBz h0 hB1) (by omega) (by omega)) ?_
              rintro _ ⟨z6, rfl, hz6⟩
              refine And.intro (True.intro) ?_
              exact ⟨_, rfl, by omega⟩
            · intro c7
              refine And.intro (True.intro) ?_
              exact ⟨_, rfl, by omega⟩
          · intro c8
            refine And.intro (True.intro) ?_
            exact ⟨_, rfl, by omega⟩
        · intro c9
          refine And.intro (True.intro) ?_
          exact ⟨_, rfl, by omega⟩
      · intro c10
        refine Exists.intro xm_441 (And.intro mi_441 (And.intro ⟨rfl, rfl, rfl, rfl⟩ (And.intro rfl ?_)))
        refine fcallp hB1 (ct_M_readOf_c48db (fBz h0 hB1) (by omega) (by omega)) ?_
        rintro _ ⟨z11, rfl, hz11⟩
        refine And.intro (by omega) (And.intro ?_ ?_)
        · intro c12
          refine And.intro (by omega) (And.intro ?_ ?_)
          · intro c13
            exact fcutJ (I := I1) (j := jc_M_worst_21024_27) (lv' := [(0, .inr (.inr (some 740))), (1, .inl _), (2, .inl _), (3, .inl _), (4, .inl _), (5, .inl _)]) (And.intro rfl (And.intro rfl (And.intro rfl (And.intro rfl (And.intro rfl (And.intro rfl True.intro)))))) ⟨_, _, _, _, _, rfl, rfl, by omega, rfl⟩ (by omega)
          · intro c14
            refine Exists.intro xm_441 (And.intro mi_441 (And.intro ⟨rfl, rfl, rfl, rfl⟩ (And.intro rfl ?_)))
            refine fcallp hB1 (ct_M_readOf_c48db (fBz h0 hB1) (by omega) (by omega)) ?_
            rintro _ ⟨z15, rfl, hz15⟩
            refine And.intro (by omega) (And.intro ?_ ?_)
            · intro c16
              exact fcutJ (I := I1) (j := jc_M_worst_21024_27) (lv' := [(0, .inr (.inr (some 740))), (1, .inl _), (2, .inl _), (3, .inl _), (4, .inl _), (5, .inl _)]) (And.intro rfl (And.intro rfl (And.intro rfl (And.intro rfl (And.intro rfl (And.intro rfl True.intro)))))) ⟨_, _, _, _, _, rfl, rfl, by omega, rfl⟩ (by omega)
            · intro c17
              exact fcutJ (I := I1) (j := jc_M_worst_21024_27) (lv' := [(0, .inr (.inr (some 740))), (1, .inl _), (2, .inl _), (3, .inl _), (4, .inl _), (5, .inl _)]) (And.intro rfl (And.intro rfl (And.intro rfl (And.intro rfl (And.intro rfl (And.intro rfl True.intro)))))) ⟨_, _, _, _, _, rfl, rfl, by omega, rfl⟩ (by omega)
        · intro c18
          intro z19 hz19 bz19
          clear bz19
          exact fcutJ (I := I1) (j := jc_M_worst_21024_27) (lv' := [(0, .inr (.inr (some 740))), (1, .inl _), (2, .inl _), (3, .inl _), (4, .inl _), (5, .inl _)]) (And.intro rfl (And.intro rfl (And.intro rfl (And.intro rfl (And.intro rfl (And.intro rfl True.intro)))))) ⟨_, _, _, _, _, rfl, rfl, by omega, rfl⟩ (by omega)
  · have hB0 := fB_self (zn := znJ) (K := fKc []) h0
    refine And.intro (by omega) (And.intro ?_ ?_)
    · intro c20
      refine And.intro (True.intro) ?_
      exact ⟨_, rfl, by omega⟩
    · intro c21
      refine And.intro (by omega) ?_
      refine Exists.intro xm_238 (And.intro mi_238 (And.intro ⟨rfl, rfl, rfl, rfl⟩ (And.intro True.intro ?_)))
      refine fcallp hB0 (ct_M_isIn_27230 (fBz h0 hB0) (by omega) (by omega) (by omega)) ?_
      rintro _ ⟨z22, rfl, hz22⟩
      refine And.intro (by omega) (And.intro ?_ ?_)
      · intro c23
        exact fcutJ (I := I) (j := jc_M_worst_21024_27) (lv' := [(0, .inr (.inr (some 740))), (1, .inl _), (2, .inl _), (3, .inl _), (4, .inl _), (5, .inl _)]) (And.intro rfl (And.intro rfl (And.intro rfl (And.intro rfl (And.intro rfl (And.intro rfl True.intro)))))) ⟨_, _, _, _, _, rfl, rfl, by omega, rfl⟩ (by omega)
      · intro c24
        refine And.intro (True.intro) ?_
        exact ⟨_, rfl, by omega⟩
set_option maxRecDepth 8000 in
theorem ct_Gauges_hasPlaces_a6d6f {I : fH} {x1 : Int} {x2 : Int} {x3 : Int} (h0 : fB bsJ I) (ha1 : (0 ≤ x1 ∧ x1 ≤ 19)) (ha2 : ((-2147483648) ≤ x2 ∧ x2 ≤ 2147483647)) (ha3 : ((-2147483648) ≤ x3 ∧ x3 ≤ 2147483647)) : fC ρ base n F xTc vwCl xTys D dA la gJ (fbz bsJ znJ (fKc []) I) xm_168 [.inr (.inr (some 703)), .inl x1, .inl x2, .inl x3] I (fun _ r => ∃ z, r = some (.inl z) ∧ (((z = 1 ∧ 0 ≤ x2 ∧ x2 ≤ 30 ∧ 0 ≤ x3 ∧ x3 ≤ 30) ∨ z = 0) ∧ (z = 1 → x2 + x3 ≤ 30))) := by
  have hW : fzs [] (fKc []) := fKc_ok _
  refine f_meth (rb := rbJ) (J := []) 1 400 xG xin_168 x6_168 okJ (fB_self h0) ?_ ?_
  · exact fun q h => absurd h List.not_mem_nil
  · have hB0 := fB_self (zn := znJ) (K := fKc []) h0
    refine And.intro ⟨rfl, by decide, by decide⟩ ?_
    refine fload rL_705_705_0_19_1_0 h0 hB0 (by omega) ?_
    intro z1 lz1 uz1 qz1
    refine Exists.intro xm_13 (And.intro mi_13 (And.intro ⟨rfl, rfl, rfl, rfl⟩ (And.intro True.intro ?_)))
    refine fcallp hB0 (ct_X_within_c27b1 (fBz h0 hB0) (by omega) (by omega) (by omega)) ?_
    rintro _ ⟨z2, rfl, hz2⟩
    refine And.intro (by omega) (And.intro ?_ ?_)
    · intro c3
      refine And.intro (⟨by omega, by omega⟩) ?_
      exact ⟨_, rfl, by omega⟩
    · intro c4
      refine And.intro ⟨rfl, by decide, by decide⟩ ?_
      refine fload rL_705_705_0_19_1_0 h0 hB0 (by omega) ?_
      intro z5 lz5 uz5 qz5
      refine Exists.intro xm_13 (And.intro mi_13 (And.intro ⟨rfl, rfl, rfl, rfl⟩ (And.intro True.intro ?_)))
      refine fcallp hB0 (ct_X_within_c27b1 (fBz h0 hB0) (by omega) (by omega) (by omega)) ?_
      rintro _ ⟨z6, rfl, hz6⟩
      refine And.intro (by omega) (And.intro ?_ ?_)
      · intro c7
        refine And.intro (⟨by omega, by omega⟩) ?_
        exact ⟨_, rfl, by omega⟩
      · intro c8
        refine And.intro (⟨by omega, by omega⟩) ?_
        exact ⟨_, rfl, by omega⟩
set_option maxRecDepth 8000 in
theorem ct_Gauges_carry_d2c8d {I : fH} {x1 : Int} {x2 : Int} {x3 : Int} {x4 : Int} {x5 : Int} (h0 : fB bsJ I) (ha1 : (0 ≤ x1 ∧ x1 ≤ 19)) (ha2 : ((-2147483648) ≤ x2 ∧ x2 ≤ 2147483647)) (ha3 : (0 ≤ x3 ∧ x3 ≤ 19)) (ha4 : ((-2147483648) ≤ x4 ∧ x4 ≤ 2147483647)) (ha5 : ((-2147483648) ≤ x5 ∧ x5 ≤ 2147483647)) : fC ρ base n F xTc vwCl xTys D dA la gJ (fbz bsJ znJ (fKc wz_65950) I) xm_167 [.inr (.inr (some 703)), .inl x1, .inl x2, .inl x3, .inl x4, .inl x5] I (fun _ r => ∃ z, r = some (.inl z) ∧ ((0 ≤ z ∧ z ≤ 30) ∨ z = (-1000000013) ∨ z = (-1000000012) ∨ z = (-1000000011))) := by
  have hW : fzs wz_65950 (fKc wz_65950) := fKc_ok _
  refine f_meth (rb := rbJ) (J := []) 1 400 xG xin_167 x6_167 okJ (fB_self h0) ?_ ?_
  · exact fun q h => absurd h List.not_mem_nil
  · have hB0 := fB_self (zn := znJ) (K := fKc wz_65950) h0
    refine And.intro ⟨rfl, by decide, by decide⟩ ?_
    refine fload rL_704_704_0_19_1_0 h0 hB0 (by omega) ?_
    intro z1 lz1 uz1 qz1
    refine And.intro (by omega) (And.intro ?_ ?_)
    · intro c2
      refine And.intro (True.intro) ?_
      exact ⟨_, rfl, by omega⟩
    · intro c3
      refine And.intro ⟨rfl, by decide, by decide⟩ ?_
      refine fload rL_704_704_0_19_1_0 h0 hB0 (by omega) ?_
      intro z4 lz4 uz4 qz4
      refine And.intro (by omega) (And.intro ?_ ?_)
      · intro c5
        refine And.intro ⟨rfl, by decide, by decide⟩ ?_
        refine fload rL_704_704_0_19_1_0 h0 hB0 (by omega) ?_
        intro z6 lz6 uz6 qz6
        refine And.intro ⟨rfl, by decide, by decide⟩ ?_
        refine fload rL_704_704_0_19_1_0 h0 hB0 (by omega) ?_
        intro z7 lz7 uz7 qz7
        refine And.intro (by omega) (And.intro ?_ ?_)
        · intro c8
          refine Exists.intro xm_168 (And.intro mi_168 (And.intro ⟨rfl, rfl, rfl, rfl⟩ (And.intro rfl ?_)))
          refine fcallp hB0 (ct_Gauges_hasPlaces_a6d6f (fBz h0 hB0) (by omega) (by omega) (by omega)) ?_
          rintro _ ⟨z9, rfl, hz9⟩
          refine And.intro (by omega) (And.intro ?_ ?_)
          · intro c10
            refine And.intro (True.intro) ?_
            exact ⟨_, rfl, by omega⟩
          · intro c11
            refine Exists.intro xm_168 (And.intro mi_168 (And.intro ⟨rfl, rfl, rfl, rfl⟩ (And.intro rfl ?_)))
            refine fcallp hB0 (ct_Gauges_hasPlaces_a6d6f (fBz h0 hB0) (by omega) (by omega) (by omega)) ?_
            rintro _ ⟨z12, rfl, hz12⟩
            refine And.intro (by omega) (And.intro ?_ ?_)
            · intro c13
              refine And.intro ⟨rfl, by decide, by decide⟩ ?_
              refine And.intro ⟨rfl, by decide⟩ (And.intro (by omega) ?_)
              refine And.intro ⟨rfl, by decide, by decide⟩ ?_
              refine And.intro ⟨rfl, by decide⟩ (And.intro (by omega) ?_)
              refine And.intro (fcopyU (rgG_707_726 (by omega) (by omega)) (rgG_707_726 (by omega) (by omega)) rL_707_726_0_29_1_0 rS_707_726_0_29_1_0 (fzs_sub (by decide +kernel) hW) h0 hB0 (by omega) (by omega) (by omega) (by omega)) (And.intro rfl ?_)
              intro IhB14 ehB14 hB14
              refine And.intro (True.intro) ?_
              exact ⟨_, rfl, by omega⟩
            · intro c15
              refine And.intro (True.intro) ?_
              exact ⟨_, rfl, by omega⟩
        · intro c16
          refine And.intro (True.intro) ?_
          exact ⟨_, rfl, by omega⟩
      · intro c17
        refine And.intro (True.intro) ?_
        exact ⟨_, rfl, by omega⟩
set_option maxRecDepth 8000 in
theorem ct_X_copy_f4558 {I : fH} {x1 : Int} {x2 : Int} {x3 : Int} {x4 : Int} {x5 : Int} (h0 : fB bsJ I) (ha1 : ((-2147483648) ≤ x1 ∧ x1 ≤ 2147483647)) (ha2 : ((-2147483648) ≤ x2 ∧ x2 ≤ 2147483647)) (ha3 : ((-2147483648) ≤ x3 ∧ x3 ≤ 2147483647)) (ha4 : ((-2147483648) ≤ x4 ∧ x4 ≤ 2147483647)) (ha5 : ((-2147483648) ≤ x5 ∧ x5 ≤ 2147483647)) : fC ρ base n F xTc vwCl xTys D dA la gJ (fbz bsJ znJ (fKc wz_65950) I) xm_166 [.inr (.inr (some 0)), .inl x1, .inl x2, .inl x3, .inl x4, .inl x5] I (fun _ r => ∃ z, r = some (.inl z) ∧ ((0 ≤ z ∧ z ≤ 30) ∨ z = (-1000000013) ∨ z = (-1000000012) ∨ z = (-1000000011) ∨ z = (-1000000001))) := by
  have hW : fzs wz_65950 (fKc wz_65950) := fKc_ok _
  refine f_meth (rb := rbJ) (J := []) 1 400 xG xin_166 x6_166 okJ (fB_self h0) ?_ ?_
  · exact fun q h => absurd h List.not_mem_nil
  · have hB0 := fB_self (zn := znJ) (K := fKc wz_65950) h0
    refine And.intro ⟨rfl, by decide, by decide⟩ ?_
    refine Exists.intro xm_17 (And.intro mi_17 (And.intro ⟨rfl, rfl, rfl, rfl⟩ (And.intro rfl ?_)))
    refine fcallp hB0 (ct_City_isCell_46f02 (fBz h0 hB0) (by omega)) ?_
    rintro _ ⟨z1, rfl, hz1⟩
    refine And.intro (by omega) (And.intro ?_ ?_)
    · intro c2
      refine And.intro (True.intro) ?_
      exact ⟨_, rfl, by omega⟩
    · intro c3
      refine And.intro ⟨rfl, by decide, by decide⟩ ?_
      refine Exists.intro xm_17 (And.intro mi_17 (And.intro ⟨rfl, rfl, rfl, rfl⟩ (And.intro rfl ?_)))
      refine fcallp hB0 (ct_City_isCell_46f02 (fBz h0 hB0) (by omega)) ?_
      rintro _ ⟨z4, rfl, hz4⟩
      refine And.intro (by omega) (And.intro ?_ ?_)
      · intro c5
        refine And.intro (True.intro) ?_
        exact ⟨_, rfl, by omega⟩
      · intro c6
        refine And.intro ⟨rfl, by decide, by decide⟩ ?_
        refine Exists.intro xm_167 (And.intro mi_167 (And.intro ⟨rfl, rfl, rfl, rfl⟩ (And.intro rfl ?_)))
        refine fcall _ h0 (fzs_sub (by decide +kernel) hW) hB0 (ct_Gauges_carry_d2c8d (fBz h0 hB0) (by omega) (by omega) (by omega) (by omega) (by omega)) ?_
        rintro IhB8 _ hB8 fhB8 ⟨z7, rfl, hz7⟩
        refine And.intro (True.intro) ?_
        exact ⟨_, rfl, by omega⟩
abbrev jc_M_copy_adc00_16 : Nat → fL → List fV → fH → Prop := fun m lv st I => lv = [] ∧ st = [] ∧ (True) ∧ m = (1 : Int).toNat
abbrev jc_M_copy_adc00_37 : Nat → fL → List fV → fH → Prop := fun m lv st I => lv = [] ∧ st = [] ∧ (True) ∧ m = (2 : Int).toNat
abbrev jc_M_copy_adc00_108 : Nat → fL → List fV → fH → Prop := fun m lv st I => lv = [] ∧ st = [] ∧ (True) ∧ m = (3 : Int).toNat
abbrev jc_M_copy_adc00_115 : Nat → fL → List fV → fH → Prop := fun m lv st I => ∃ (y1 : Int) (y2 : Int) (y3 : Int) (y4 : Int) (y5 : Int) (y6 : Int), lv = [(0, .inr (.inr (some 740))), (1, .inl y1), (2, .inl y2), (3, .inl y3), (4, .inl y4), (5, .inl y5), (6, .inl y6)] ∧ st = [] ∧ (((0 ≤ y1 ∧ y1 ≤ 19) ∧ (0 ≤ y2 ∧ y2 ≤ 30) ∧ (0 ≤ y3 ∧ y3 ≤ 19) ∧ (0 ≤ y4 ∧ y4 ≤ 30) ∧ (0 ≤ y5 ∧ y5 ≤ 30) ∧ (0 ≤ y6 ∧ y6 ≤ 30) ∧ (y4 + y5 ≤ 30) ∧ (y2 + y5 ≤ 30))) ∧ m = (35 + 1 * (30 - y6) : Int).toNat
abbrev jc_M_copy_adc00_152 : Nat → fL → List fV → fH → Prop := fun m lv st I => ∃ (y3 : Int) (y4 : Int) (y5 : Int) (y6 : Int), lv = [(0, .inr (.inr (some 740))), (3, .inl y3), (4, .inl y4), (5, .inl y5), (6, .inl y6)] ∧ st = [] ∧ (((0 ≤ y3 ∧ y3 ≤ 19) ∧ (0 ≤ y4 ∧ y4 ≤ 30) ∧ (0 ≤ y5 ∧ y5 ≤ 30) ∧ (0 ≤ y6 ∧ y6 ≤ 30) ∧ (y4 + y5 ≤ 30))) ∧ m = (4 + 1 * (30 - y6) : Int).toNat
set_option maxRecDepth 8000 in
theorem ct_M_copy_adc00 {I : fH} {x1 : Int} {x2 : Int} {x3 : Int} {x4 : Int} {x5 : Int} (h0 : fB bsJ I) (ha1 : ((-2147483648) ≤ x1 ∧ x1 ≤ 2147483647)) (ha2 : ((-2147483648) ≤ x2 ∧ x2 ≤ 2147483647)) (ha3 : ((-2147483648) ≤ x3 ∧ x3 ≤ 2147483647)) (ha4 : ((-2147483648) ≤ x4 ∧ x4 ≤ 2147483647)) (ha5 : ((-2147483648) ≤ x5 ∧ x5 ≤ 2147483647)) : fC ρ base n F xTc vwCl xTys D dA la gJ (fbz bsJ znJ (fKc wz_25294) I) xm_444 [.inr (.inr (some 740)), .inl x1, .inl x2, .inl x3, .inl x4, .inl x5] I (fun _ r => ∃ z, r = some (.inl z) ∧ ((0 ≤ z ∧ z ≤ 30) ∨ z = (-1000000013) ∨ z = (-1000000012) ∨ z = (-1000000011) ∨ z = (-1000000001))) := by
  have hW : fzs wz_25294 (fKc wz_25294) := fKc_ok _
  refine f_meth (rb := rbJ) (J := [(16, jc_M_copy_adc00_16), (37, jc_M_copy_adc00_37), (108, jc_M_copy_adc00_108), (115, jc_M_copy_adc00_115), (152, jc_M_copy_adc00_152)]) 66 400 xG xin_444 x6_444 okJ (fB_self h0) ?_ ?_
  · refine List.forall_mem_cons.mpr ⟨?_, List.forall_mem_cons.mpr ⟨?_, List.forall_mem_cons.mpr ⟨?_, List.forall_mem_cons.mpr ⟨?_, List.forall_mem_cons.mpr ⟨?_, fun q h => absurd h List.not_mem_nil⟩⟩⟩⟩⟩
    · rintro m _ _ I1 hB1 ⟨rfl, rfl, hb, hm⟩
      refine And.intro (True.intro) ?_
      exact ⟨_, rfl, by omega⟩
    · rintro m _ _ I1 hB1 ⟨rfl, rfl, hb, hm⟩
      refine And.intro (True.intro) ?_
      exact ⟨_, rfl, by omega⟩
    · rintro m _ _ I1 hB1 ⟨rfl, rfl, hb, hm⟩
      refine And.intro (True.intro) ?_
      exact ⟨_, rfl, by omega⟩
    · rintro m _ _ I1 hB1 ⟨y1, y2, y3, y4, y5, y6, rfl, rfl, hb, hm⟩
      refine And.intro (by omega) (And.intro ?_ ?_)
      · intro c1
        exact fcutJ (I := I1) (j := jc_M_copy_adc00_152) (lv' := [(0, .inr (.inr (some 740))), (3, .inl _), (4, .inl _), (5, .inl _), (6, .inl _)]) (And.intro rfl (And.intro rfl (And.intro rfl (And.intro rfl (And.intro rfl True.intro))))) ⟨_, _, _, _, rfl, rfl, by omega, rfl⟩ (by omega)
      · intro c2
        refine And.intro ⟨rfl, by decide, by decide⟩ ?_
        refine And.intro ⟨rfl, by decide, by decide⟩ ?_
        intro z3 hz3 ez3 bz3
        clear ez3
        have bz3 := bz3 (by omega)
        intro z4 hz4 ez4 bz4
        clear ez4
        have bz4 := bz4 (by omega)
        refine fload rL_746_746_0_599_1_0 h0 hB1 (by omega) ?_
        intro z5 lz5 uz5 qz5
        refine fstore rS_753_753_0_29_1_0 (fzs_sub (by decide +kernel) hW) (by omega) (by omega) ?_
        intro IhB6 ehB6 hB6
        have t7 := fup_self ehB6
        exact fcutJ (I := IhB6) (j := jc_M_copy_adc00_115) (lv' := [(0, .inr (.inr (some 740))), (1, .inl _), (2, .inl _), (3, .inl _), (4, .inl _), (5, .inl _), (6, .inl _)]) (And.intro rfl (And.intro rfl (And.intro rfl (And.intro rfl (And.intro rfl (And.intro rfl (And.intro rfl True.intro))))))) ⟨_, _, _, _, _, _, rfl, rfl, by omega, rfl⟩ (by omega)
    · rintro m _ _ I1 hB1 ⟨y3, y4, y5, y6, rfl, rfl, hb, hm⟩
      refine And.intro (by omega) (And.intro ?_ ?_)
      · intro c8
        refine And.intro (True.intro) ?_
        exact ⟨_, rfl, by omega⟩
      · intro c9
        refine And.intro ⟨rfl, by decide, by decide⟩ ?_
        intro z10 hz10 ez10 bz10
        clear ez10
        have bz10 := bz10 (by omega)
        intro z11 hz11 ez11 bz11
        clear ez11
        have bz11 := bz11 (by omega)
        refine And.intro ⟨rfl, by decide, by decide⟩ ?_
        refine fload rL_753_753_0_29_1_0 h0 hB1 (by omega) ?_
        intro z12 lz12 uz12 qz12
        refine fstore rS_746_746_0_599_1_0 (fzs_sub (by decide +kernel) hW) (by omega) (by omega) ?_
        intro IhB13 ehB13 hB13
        have t14 := fup_self ehB13
        exact fcutJ (I := IhB13) (j := jc_M_copy_adc00_152) (lv' := [(0, .inr (.inr (some 740))), (3, .inl _), (4, .inl _), (5, .inl _), (6, .inl _)]) (And.intro rfl (And.intro rfl (And.intro rfl (And.intro rfl (And.intro rfl True.intro))))) ⟨_, _, _, _, rfl, rfl, by omega, rfl⟩ (by omega)
  · have hB0 := fB_self (zn := znJ) (K := fKc wz_25294) h0
    refine Exists.intro xm_241 (And.intro mi_241 (And.intro ⟨rfl, rfl, rfl, rfl⟩ (And.intro rfl ?_)))
    refine fcallp hB0 (ct_M_isCell_45859 (fBz h0 hB0) (by omega)) ?_
    rintro _ ⟨z15, rfl, hz15⟩
    refine And.intro (by omega) (And.intro ?_ ?_)
    · intro c16
      exact fcutJ (I := I) (j := jc_M_copy_adc00_16) (lv' := []) (True.intro) ⟨rfl, rfl, True.intro, rfl⟩ (by omega)
    · intro c17
      refine Exists.intro xm_241 (And.intro mi_241 (And.intro ⟨rfl, rfl, rfl, rfl⟩ (And.intro rfl ?_)))
      refine fcallp hB0 (ct_M_isCell_45859 (fBz h0 hB0) (by omega)) ?_
      rintro _ ⟨z18, rfl, hz18⟩
      refine And.intro (by omega) (And.intro ?_ ?_)
      · intro c19
        refine And.intro ⟨rfl, by decide, by decide⟩ ?_
        refine fload rL_744_744_0_19_1_0 h0 hB0 (by omega) ?_
        intro z20 lz20 uz20 qz20
        refine And.intro (by omega) (And.intro ?_ ?_)
        · intro c21
          exact fcutJ (I := I) (j := jc_M_copy_adc00_37) (lv' := []) (True.intro) ⟨rfl, rfl, True.intro, rfl⟩ (by omega)
        · intro c22
          refine And.intro ⟨rfl, by decide, by decide⟩ ?_
          refine fload rL_744_744_0_19_1_0 h0 hB0 (by omega) ?_
          intro z23 lz23 uz23 qz23
          refine And.intro (by omega) (And.intro ?_ ?_)
          · intro c24
            refine And.intro ⟨rfl, by decide, by decide⟩ ?_
            refine fload rL_744_744_0_19_1_0 h0 hB0 (by omega) ?_
            intro z25 lz25 uz25 qz25
            refine And.intro ⟨rfl, by decide, by decide⟩ ?_
            refine fload rL_744_744_0_19_1_0 h0 hB0 (by omega) ?_
            intro z26 lz26 uz26 qz26
            refine And.intro (by omega) (And.intro ?_ ?_)
            · intro c27
              refine And.intro (by omega) (And.intro ?_ ?_)
              · intro c28
                exact fcutJ (I := I) (j := jc_M_copy_adc00_108) (lv' := []) (True.intro) ⟨rfl, rfl, True.intro, rfl⟩ (by omega)
              · intro c29
                refine And.intro (by omega) (And.intro ?_ ?_)
                · intro c30
                  exact fcutJ (I := I) (j := jc_M_copy_adc00_108) (lv' := []) (True.intro) ⟨rfl, rfl, True.intro, rfl⟩ (by omega)
                · intro c31
                  refine And.intro (by omega) (And.intro ?_ ?_)
                  · intro c32
                    exact fcutJ (I := I) (j := jc_M_copy_adc00_108) (lv' := []) (True.intro) ⟨rfl, rfl, True.intro, rfl⟩ (by omega)
                  · intro c33
                    refine And.intro (by omega) ?_
                    refine And.intro (by omega) ?_
                    refine And.intro ⟨rfl, by decide, by decide⟩ ?_
                    refine fload rL_745_745_0_19_1_0 h0 hB0 (by omega) ?_
                    intro z34 lz34 uz34 qz34
                    refine And.intro (by omega) ?_
                    refine And.intro (And.intro (by omega) (by omega)) ?_
                    intro z35 hz35
                    refine And.intro (by omega) (And.intro ?_ ?_)
                    · intro c36
                      exact fcutJ (I := I) (j := jc_M_copy_adc00_108) (lv' := []) (True.intro) ⟨rfl, rfl, True.intro, rfl⟩ (by omega)
                    · intro c37
                      refine And.intro (by omega) ?_
                      refine And.intro (by omega) ?_
                      refine And.intro ⟨rfl, by decide, by decide⟩ ?_
                      refine fload rL_745_745_0_19_1_0 h0 hB0 (by omega) ?_
                      intro z38 lz38 uz38 qz38
                      refine And.intro (by omega) ?_
                      refine And.intro (And.intro (by omega) (by omega)) ?_
                      intro z39 hz39
                      refine And.intro (by omega) (And.intro ?_ ?_)
                      · intro c40
                        exact fcutJ (I := I) (j := jc_M_copy_adc00_115) (lv' := [(0, .inr (.inr (some 740))), (1, .inl _), (2, .inl _), (3, .inl _), (4, .inl _), (5, .inl _), (6, .inl _)]) (And.intro rfl (And.intro rfl (And.intro rfl (And.intro rfl (And.intro rfl (And.intro rfl (And.intro rfl True.intro))))))) ⟨_, _, _, _, _, _, rfl, rfl, by omega, rfl⟩ (by omega)
                      · intro c41
                        exact fcutJ (I := I) (j := jc_M_copy_adc00_108) (lv' := []) (True.intro) ⟨rfl, rfl, True.intro, rfl⟩ (by omega)
            · intro c42
              refine And.intro (True.intro) ?_
              exact ⟨_, rfl, by omega⟩
          · intro c43
            exact fcutJ (I := I) (j := jc_M_copy_adc00_37) (lv' := []) (True.intro) ⟨rfl, rfl, True.intro, rfl⟩ (by omega)
      · intro c44
        exact fcutJ (I := I) (j := jc_M_copy_adc00_16) (lv' := []) (True.intro) ⟨rfl, rfl, True.intro, rfl⟩ (by omega)
set_option maxRecDepth 8000 in
theorem ct_X_swap_20081 {I : fH} {x0 : Nat} {x1 : Int} {x2 : Int} (h0 : fB bsJ I) (ha0 : (213 ≤ x0 ∧ x0 ≤ 220)) (ha1 : (0 ≤ x1 ∧ x1 ≤ 11)) (ha2 : (0 ≤ x2 ∧ x2 ≤ 3)) : fC ρ base n F xTc vwCl xTys D dA la gJ (fbz bsJ znJ (fKc wz_9f933) I) xm_18 [.inr (.inr (some x0)), .inl x1, .inl x2] I (fun _ r => ∃ z, r = some (.inl z) ∧ ((-2147483648) ≤ z ∧ z ≤ 2147483647)) := by
  have hW : fzs wz_9f933 (fKc wz_9f933) := fKc_ok _
  refine f_meth (rb := rbJ) (J := []) 1 400 xG xin_18 x6_18 okJ (fB_self h0) ?_ ?_
  · exact fun q h => absurd h List.not_mem_nil
  · have hB0 := fB_self (zn := znJ) (K := fKc wz_9f933) h0
    refine fload rL_213_220_0_11_1_0 h0 hB0 (by omega) ?_
    intro z1 lz1 uz1 qz1
    refine fstore rS_213_220_0_11_1_0 (fzs_sub (by decide +kernel) hW) (by omega) (by omega) ?_
    intro IhB2 ehB2 hB2
    have t3 := fup_self ehB2
    refine And.intro (True.intro) ?_
    exact ⟨_, rfl, by omega⟩
set_option maxRecDepth 8000 in
theorem ct_X_shows_90a17 {I : fH} {x1 : Int} {x2 : Int} {x3 : Int} (h0 : fB bsJ I) (ha1 : ((-2147483648) ≤ x1 ∧ x1 ≤ 2147483647)) (ha2 : ((-2147483648) ≤ x2 ∧ x2 ≤ 2147483647)) (ha3 : ((-2147483648) ≤ x3 ∧ x3 ≤ 2147483647)) : fC ρ base n F xTc vwCl xTys D dA la gJ (fbz bsJ znJ (fKc wz_9f933) I) xm_169 [.inr (.inr (some 0)), .inl x1, .inl x2, .inl x3] I (fun _ r => ∃ z, r = some (.inl z) ∧ ((-2147483648) ≤ z ∧ z ≤ 2147483647)) := by
  have hW : fzs wz_9f933 (fKc wz_9f933) := fKc_ok _
  refine f_meth (rb := rbJ) (J := []) 1 400 xG xin_169 x6_169 okJ (fB_self h0) ?_ ?_
  · exact fun q h => absurd h List.not_mem_nil
  · have hB0 := fB_self (zn := znJ) (K := fKc wz_9f933) h0
    refine Exists.intro xm_13 (And.intro mi_13 (And.intro ⟨rfl, rfl, rfl, rfl⟩ (And.intro True.intro ?_)))
    refine fcallp hB0 (ct_X_within_c27b1 (fBz h0 hB0) (by omega) (by omega) (by omega)) ?_
    rintro _ ⟨z1, rfl, hz1⟩
    refine And.intro (by omega) (And.intro ?_ ?_)
    · intro c2
      refine And.intro (True.intro) ?_
      exact ⟨_, rfl, by omega⟩
    · intro c3
      refine Exists.intro xm_13 (And.intro mi_13 (And.intro ⟨rfl, rfl, rfl, rfl⟩ (And.intro True.intro ?_)))
      refine fcallp hB0 (ct_X_within_c27b1 (fBz h0 hB0) (by omega) (by omega) (by omega)) ?_
      rintro _ ⟨z4, rfl, hz4⟩
      refine And.intro (by omega) (And.intro ?_ ?_)
      · intro c5
        refine And.intro (True.intro) ?_
        exact ⟨_, rfl, by omega⟩
      · intro c6
        refine Exists.intro xm_13 (And.intro mi_13 (And.intro ⟨rfl, rfl, rfl, rfl⟩ (And.intro True.intro ?_)))
        refine fcallp hB0 (ct_X_within_c27b1 (fBz h0 hB0) (by omega) (by omega) (by omega)) ?_
        rintro _ ⟨z7, rfl, hz7⟩
        refine And.intro (by omega) (And.intro ?_ ?_)
        · intro c8
          refine And.intro ⟨rfl, by decide, by decide⟩ ?_
          refine And.intro ⟨rfl, by decide, by decide⟩ ?_
          refine And.intro ⟨rfl, by decide⟩ (And.intro (by omega) ?_)
          refine Exists.intro xm_18 (And.intro mi_18 (And.intro ⟨rfl, rfl, rfl, rfl⟩ (And.intro True.intro ?_)))
          refine fcall _ h0 (fzs_sub (by decide +kernel) hW) hB0 (ct_X_swap_20081 (fBz h0 hB0) (by omega) (by omega) (by omega)) ?_
          rintro IhB10 _ hB10 fhB10 ⟨z9, rfl, hz9⟩
          refine And.intro (True.intro) ?_
          exact ⟨_, rfl, by omega⟩
        · intro c11
          refine And.intro (True.intro) ?_
          exact ⟨_, rfl, by omega⟩
set_option maxRecDepth 8000 in
theorem ct_M_isTest_9b7ec {I : fH} {x0 : Int} (h0 : fB bsJ I) (ha0 : ((-2147483648) ≤ x0 ∧ x0 ≤ 2147483647)) : fC ρ base n F xTc vwCl xTys D dA la gJ (fbz bsJ znJ (fKc []) I) xm_446 [.inl x0] I (fun _ r => ∃ z, r = some (.inl z) ∧ ((z = 1 ∧ 0 ≤ x0 ∧ x0 ≤ 7) ∨ z = 0)) := by
  have hW : fzs [] (fKc []) := fKc_ok _
  refine f_meth (rb := rbJ) (J := []) 1 400 xG xin_446 x6_446 okJ (fB_self h0) ?_ ?_
  · exact fun q h => absurd h List.not_mem_nil
  · have hB0 := fB_self (zn := znJ) (K := fKc []) h0
    refine And.intro (by omega) ?_
    refine Exists.intro xm_238 (And.intro mi_238 (And.intro ⟨rfl, rfl, rfl, rfl⟩ (And.intro True.intro ?_)))
    refine fcallp hB0 (ct_M_isIn_27230 (fBz h0 hB0) (by omega) (by omega) (by omega)) ?_
    rintro _ ⟨z1, rfl, hz1⟩
    refine And.intro (⟨by omega, by omega⟩) ?_
    exact ⟨_, rfl, by omega⟩
set_option maxRecDepth 8000 in
theorem ct_M_isFault_f748c {I : fH} {x0 : Int} (h0 : fB bsJ I) (ha0 : ((-2147483648) ≤ x0 ∧ x0 ≤ 2147483647)) : fC ρ base n F xTc vwCl xTys D dA la gJ (fbz bsJ znJ (fKc []) I) xm_447 [.inl x0] I (fun _ r => ∃ z, r = some (.inl z) ∧ ((z = 1 ∧ 0 ≤ x0 ∧ x0 ≤ 11) ∨ z = 0)) := by
  have hW : fzs [] (fKc []) := fKc_ok _
  refine f_meth (rb := rbJ) (J := []) 1 400 xG xin_447 x6_447 okJ (fB_self h0) ?_ ?_
  · exact fun q h => absurd h List.not_mem_nil
  · have hB0 := fB_self (zn := znJ) (K := fKc []) h0
    refine And.intro (by omega) ?_
    refine Exists.intro xm_238 (And.intro mi_238 (And.intro ⟨rfl, rfl, rfl, rfl⟩ (And.intro True.intro ?_)))
    refine fcallp hB0 (ct_M_isIn_27230 (fBz h0 hB0) (by omega) (by omega) (by omega)) ?_
    rintro _ ⟨z1, rfl, hz1⟩
    refine And.intro (⟨by omega, by omega⟩) ?_
    exact ⟨_, rfl, by omega⟩
set_option maxRecDepth 8000 in
theorem ct_M_put_27229 {I : fH} {x1 : Int} {x2 : Int} (h0 : fB bsJ I) (ha1 : ((4400 ≤ x1 ∧ x1 ≤ 4495) ∧ (x1 - 4400) % 12 ≤ 11)) (ha2 : (0 ≤ x2 ∧ x2 ≤ 3)) : fC ρ base n F xTc vwCl xTys D dA la gJ (fbz bsJ znJ (fKc wz_663b8) I) xm_242 [.inr (.inr (some 740)), .inl x1, .inl x2] I (fun _ r => ∃ z, r = some (.inl z) ∧ ((-2147483648) ≤ z ∧ z ≤ 2147483647)) := by
  have hW : fzs wz_663b8 (fKc wz_663b8) := fKc_ok _
  refine f_meth (rb := rbJ) (J := []) 1 400 xG xin_242 x6_242 okJ (fB_self h0) ?_ ?_
  · exact fun q h => absurd h List.not_mem_nil
  · have hB0 := fB_self (zn := znJ) (K := fKc wz_663b8) h0
    refine And.intro ⟨rfl, by decide, by decide⟩ ?_
    refine fload rL_741_741_4400_4495_12_11 h0 hB0 (by omega) ?_
    intro z1 lz1 uz1 qz1
    refine And.intro ⟨rfl, by decide, by decide⟩ ?_
    refine fstore rS_741_741_4400_4495_12_11 (fzs_sub (by decide +kernel) hW) (by omega) (by omega) ?_
    intro IhB2 ehB2 hB2
    have t3 := fup_self ehB2
    refine And.intro (True.intro) ?_
    exact ⟨_, rfl, by omega⟩
set_option maxRecDepth 8000 in
theorem ct_M_shows_19c07 {I : fH} {x1 : Int} {x2 : Int} {x3 : Int} (h0 : fB bsJ I) (ha1 : ((-2147483648) ≤ x1 ∧ x1 ≤ 2147483647)) (ha2 : ((-2147483648) ≤ x2 ∧ x2 ≤ 2147483647)) (ha3 : ((-2147483648) ≤ x3 ∧ x3 ≤ 2147483647)) : fC ρ base n F xTc vwCl xTys D dA la gJ (fbz bsJ znJ (fKc wz_663b8) I) xm_445 [.inr (.inr (some 740)), .inl x1, .inl x2, .inl x3] I (fun _ r => ∃ z, r = some (.inl z) ∧ ((-2147483648) ≤ z ∧ z ≤ 2147483647)) := by
  have hW : fzs wz_663b8 (fKc wz_663b8) := fKc_ok _
  refine f_meth (rb := rbJ) (J := []) 1 400 xG xin_445 x6_445 okJ (fB_self h0) ?_ ?_
  · exact fun q h => absurd h List.not_mem_nil
  · have hB0 := fB_self (zn := znJ) (K := fKc wz_663b8) h0
    refine Exists.intro xm_446 (And.intro mi_446 (And.intro ⟨rfl, rfl, rfl, rfl⟩ (And.intro True.intro ?_)))
    refine fcallp hB0 (ct_M_isTest_9b7ec (fBz h0 hB0) (by omega)) ?_
    rintro _ ⟨z1, rfl, hz1⟩
    refine And.intro (by omega) (And.intro ?_ ?_)
    · intro c2
      refine And.intro (True.intro) ?_
      exact ⟨_, rfl, by omega⟩
    · intro c3
      refine Exists.intro xm_447 (And.intro mi_447 (And.intro ⟨rfl, rfl, rfl, rfl⟩ (And.intro True.intro ?_)))
      refine fcallp hB0 (ct_M_isFault_f748c (fBz h0 hB0) (by omega)) ?_
      rintro _ ⟨z4, rfl, hz4⟩
      refine And.intro (by omega) (And.intro ?_ ?_)
      · intro c5
        refine And.intro (True.intro) ?_
        exact ⟨_, rfl, by omega⟩
      · intro c6
        refine And.intro (by omega) ?_
        refine Exists.intro xm_238 (And.intro mi_238 (And.intro ⟨rfl, rfl, rfl, rfl⟩ (And.intro True.intro ?_)))
        refine fcallp hB0 (ct_M_isIn_27230 (fBz h0 hB0) (by omega) (by omega) (by omega)) ?_
        rintro _ ⟨z7, rfl, hz7⟩
        refine And.intro (by omega) (And.intro ?_ ?_)
        · intro c8
          refine And.intro (True.intro) ?_
          exact ⟨_, rfl, by omega⟩
        · intro c9
          refine Exists.intro xm_242 (And.intro mi_242 (And.intro ⟨rfl, rfl, rfl, rfl⟩ (And.intro rfl ?_)))
          refine fcall _ h0 (fzs_sub (by decide +kernel) hW) hB0 (ct_M_put_27229 (fBz h0 hB0) (by omega) (by omega)) ?_
          rintro IhB11 _ hB11 fhB11 ⟨z10, rfl, hz10⟩
          refine And.intro (True.intro) ?_
          exact ⟨_, rfl, by omega⟩
abbrev jc_Desk_agrees_6299a_2 : Nat → fL → List fV → fH → Prop := fun m lv st I => ∃ (y1 : Int) (y2 : Int), lv = [(0, .inr (.inr (some 211))), (1, .inl y1), (2, .inl y2)] ∧ st = [] ∧ (((0 ≤ y1 ∧ y1 ≤ 11) ∧ (0 ≤ y2 ∧ y2 ≤ 8))) ∧ m = (1 + 1 * (8 - y2) : Int).toNat
set_option maxRecDepth 8000 in
theorem ct_Desk_agrees_6299a {I : fH} {x1 : Int} (h0 : fB bsJ I) (ha1 : (0 ≤ x1 ∧ x1 ≤ 11)) : fC ρ base n F xTc vwCl xTys D dA la gJ (fbz bsJ znJ (fKc []) I) xm_172 [.inr (.inr (some 211)), .inl x1] I (fun _ r => ∃ z, r = some (.inl z) ∧ (0 ≤ z ∧ z ≤ 1)) := by
  have hW : fzs [] (fKc []) := fKc_ok _
  refine f_meth (rb := rbJ) (J := [(2, jc_Desk_agrees_6299a_2)]) 10 400 xG xin_172 x6_172 okJ (fB_self h0) ?_ ?_
  · refine List.forall_mem_cons.mpr ⟨?_, fun q h => absurd h List.not_mem_nil⟩
    · rintro m _ _ I1 hB1 ⟨y1, y2, rfl, rfl, hb, hm⟩
      refine And.intro (by omega) (And.intro ?_ ?_)
      · intro c1
        refine And.intro (⟨by omega, by omega⟩) ?_
        exact ⟨_, rfl, by omega⟩
      · intro c2
        refine And.intro ⟨rfl, by decide, by decide⟩ ?_
        refine fload rL_221_221_0_7_1_0 h0 hB1 (by omega) ?_
        intro z3 lz3 uz3 qz3
        refine And.intro (by omega) (And.intro ?_ ?_)
        · intro c4
          exact fcutJ (I := I1) (j := jc_Desk_agrees_6299a_2) (lv' := [(0, .inr (.inr (some 211))), (1, .inl _), (2, .inl _)]) (And.intro rfl (And.intro rfl (And.intro rfl True.intro))) ⟨_, _, rfl, rfl, by omega, rfl⟩ (by omega)
        · intro c5
          refine And.intro ⟨rfl, by decide, by decide⟩ ?_
          refine fload rL_221_221_0_7_1_0 h0 hB1 (by omega) ?_
          intro z6 lz6 uz6 qz6
          refine And.intro ⟨rfl, by decide, by decide⟩ ?_
          refine And.intro ⟨rfl, by decide⟩ (And.intro (by omega) ?_)
          refine fload rL_213_220_0_11_1_0 h0 hB1 (by omega) ?_
          intro z7 lz7 uz7 qz7
          refine And.intro (by omega) (And.intro ?_ ?_)
          · intro c8
            exact fcutJ (I := I1) (j := jc_Desk_agrees_6299a_2) (lv' := [(0, .inr (.inr (some 211))), (1, .inl _), (2, .inl _)]) (And.intro rfl (And.intro rfl (And.intro rfl True.intro))) ⟨_, _, rfl, rfl, by omega, rfl⟩ (by omega)
          · intro c9
            refine And.intro (⟨by omega, by omega⟩) ?_
            exact ⟨_, rfl, by omega⟩
  · have hB0 := fB_self (zn := znJ) (K := fKc []) h0
    exact fcutJ (I := I) (j := jc_Desk_agrees_6299a_2) (lv' := [(0, .inr (.inr (some 211))), (1, .inl _), (2, .inl _)]) (And.intro rfl (And.intro rfl (And.intro rfl True.intro))) ⟨_, _, rfl, rfl, by omega, rfl⟩ (by omega)
abbrev jc_Desk_leftFaults_e8455_4 : Nat → fL → List fV → fH → Prop := fun m lv st I => ∃ (y1 : Int) (y2 : Int), lv = [(0, .inr (.inr (some 211))), (1, .inl y1), (2, .inl y2)] ∧ st = [] ∧ ((((-2147483648) ≤ y1 ∧ y1 ≤ 2147483647) ∧ (0 ≤ y2 ∧ y2 ≤ 12))) ∧ m = (1 + 1 * (12 - y2) : Int).toNat
set_option maxRecDepth 8000 in
theorem ct_Desk_leftFaults_e8455 {I : fH}  (h0 : fB bsJ I)  : fC ρ base n F xTc vwCl xTys D dA la gJ (fbz bsJ znJ (fKc []) I) xm_171 [.inr (.inr (some 211))] I (fun _ r => ∃ z, r = some (.inl z) ∧ ((-2147483648) ≤ z ∧ z ≤ 2147483647)) := by
  have hW : fzs [] (fKc []) := fKc_ok _
  refine f_meth (rb := rbJ) (J := [(4, jc_Desk_leftFaults_e8455_4)]) 14 400 xG xin_171 x6_171 okJ (fB_self h0) ?_ ?_
  · refine List.forall_mem_cons.mpr ⟨?_, fun q h => absurd h List.not_mem_nil⟩
    · rintro m _ _ I1 hB1 ⟨y1, y2, rfl, rfl, hb, hm⟩
      refine And.intro (by omega) (And.intro ?_ ?_)
      · intro c1
        refine And.intro (True.intro) ?_
        exact ⟨_, rfl, by omega⟩
      · intro c2
        refine Exists.intro xm_172 (And.intro mi_172 (And.intro ⟨rfl, rfl, rfl, rfl⟩ (And.intro rfl ?_)))
        refine fcallp hB1 (ct_Desk_agrees_6299a (fBz h0 hB1) (by omega)) ?_
        rintro _ ⟨z3, rfl, hz3⟩
        refine And.intro (by omega) (And.intro ?_ ?_)
        · intro c4
          exact fcutJ (I := I1) (j := jc_Desk_leftFaults_e8455_4) (lv' := [(0, .inr (.inr (some 211))), (1, .inl _), (2, .inl _)]) (And.intro rfl (And.intro rfl (And.intro rfl True.intro))) ⟨_, _, rfl, rfl, by omega, rfl⟩ (by omega)
        · intro c5
          intro z6 hz6 ez6
          intro z7 hz7 ez7
          exact fcutJ (I := I1) (j := jc_Desk_leftFaults_e8455_4) (lv' := [(0, .inr (.inr (some 211))), (1, .inl _), (2, .inl _)]) (And.intro rfl (And.intro rfl (And.intro rfl True.intro))) ⟨_, _, rfl, rfl, by omega, rfl⟩ (by omega)
  · have hB0 := fB_self (zn := znJ) (K := fKc []) h0
    exact fcutJ (I := I) (j := jc_Desk_leftFaults_e8455_4) (lv' := [(0, .inr (.inr (some 211))), (1, .inl _), (2, .inl _)]) (And.intro rfl (And.intro rfl (And.intro rfl True.intro))) ⟨_, _, rfl, rfl, by omega, rfl⟩ (by omega)
set_option maxRecDepth 8000 in
theorem ct_Integer_bitCount_ccf26 {I : fH} {x0 : Int} (h0 : fB bsJ I) (ha0 : ((-2147483648) ≤ x0 ∧ x0 ≤ 2147483647)) : fC ρ base n F xTc vwCl xTys D dA la gJ (fbz bsJ znJ (fKc []) I) xm_499 [.inl x0] I (fun _ r => ∃ z, r = some (.inl z) ∧ (0 ≤ z ∧ z ≤ 63)) := by
  have hW : fzs [] (fKc []) := fKc_ok _
  refine f_meth (rb := rbJ) (J := []) 1 400 xG xin_499 x6_499 okJ (fB_self h0) ?_ ?_
  · exact fun q h => absurd h List.not_mem_nil
  · have hB0 := fB_self (zn := znJ) (K := fKc []) h0
    intro z1 hz1 ez1
    intro z2 hz2 ez2 bz2
    clear ez2
    have bz2 := bz2 (by omega)
    intro z3 hz3 ez3 bz3
    clear ez3
    clear bz3
    intro z4 hz4 ez4 bz4
    clear ez4
    have bz4 := bz4 (by omega)
    intro z5 hz5 ez5
    intro z6 hz6 ez6 bz6
    clear ez6
    have bz6 := bz6 (by omega)
    intro z7 hz7 ez7
    intro z8 hz8 ez8 bz8
    clear ez8
    clear bz8
    intro z9 hz9 ez9 bz9
    clear ez9
    have bz9 := bz9 (by omega)
    intro z10 hz10 ez10
    intro z11 hz11 ez11 bz11
    clear ez11
    clear bz11
    intro z12 hz12 ez12
    intro z13 hz13 ez13 bz13
    clear ez13
    clear bz13
    intro z14 hz14 ez14 bz14
    clear ez14
    have bz14 := bz14 (by omega)
    refine And.intro (True.intro) ?_
    exact ⟨_, rfl, by omega⟩
set_option maxRecDepth 8000 in
theorem ct_X_tested_c945d {I : fH} {x1 : Int} {x2 : Int} (h0 : fB bsJ I) (ha1 : ((-2147483648) ≤ x1 ∧ x1 ≤ 2147483647)) (ha2 : ((-2147483648) ≤ x2 ∧ x2 ≤ 2147483647)) : fC ρ base n F xTc vwCl xTys D dA la gJ (fbz bsJ znJ (fKc wz_ae6a8) I) xm_170 [.inr (.inr (some 0)), .inl x1, .inl x2] I (fun _ r => ∃ z, r = some (.inl z) ∧ ((0 ≤ z ∧ z ≤ 89) ∨ z = (-1000000001))) := by
  have hW : fzs wz_ae6a8 (fKc wz_ae6a8) := fKc_ok _
  refine f_meth (rb := rbJ) (J := []) 1 400 xG xin_170 x6_170 okJ (fB_self h0) ?_ ?_
  · exact fun q h => absurd h List.not_mem_nil
  · have hB0 := fB_self (zn := znJ) (K := fKc wz_ae6a8) h0
    refine Exists.intro xm_13 (And.intro mi_13 (And.intro ⟨rfl, rfl, rfl, rfl⟩ (And.intro True.intro ?_)))
    refine fcallp hB0 (ct_X_within_c27b1 (fBz h0 hB0) (by omega) (by omega) (by omega)) ?_
    rintro _ ⟨z1, rfl, hz1⟩
    refine And.intro (by omega) (And.intro ?_ ?_)
    · intro c2
      refine And.intro (True.intro) ?_
      exact ⟨_, rfl, by omega⟩
    · intro c3
      refine Exists.intro xm_13 (And.intro mi_13 (And.intro ⟨rfl, rfl, rfl, rfl⟩ (And.intro True.intro ?_)))
      refine fcallp hB0 (ct_X_within_c27b1 (fBz h0 hB0) (by omega) (by omega) (by omega)) ?_
      rintro _ ⟨z4, rfl, hz4⟩
      refine And.intro (by omega) (And.intro ?_ ?_)
      · intro c5
        refine And.intro ⟨rfl, by decide, by decide⟩ ?_
        refine And.intro ⟨rfl, by decide, by decide⟩ ?_
        refine fstore rS_221_221_0_7_1_0 (fzs_sub (by decide +kernel) hW) (by omega) (by omega) ?_
        intro IhB6 ehB6 hB6
        have t7 := fup_self ehB6
        refine And.intro ⟨rfl, by decide, by decide⟩ ?_
        refine Exists.intro xm_171 (And.intro mi_171 (And.intro ⟨rfl, rfl, rfl, rfl⟩ (And.intro rfl ?_)))
        refine fcallp hB6 (ct_Desk_leftFaults_e8455 (fBz h0 hB6)) ?_
        rintro _ ⟨z8, rfl, hz8⟩
        refine Exists.intro xm_499 (And.intro mi_499 (And.intro ⟨rfl, rfl, rfl, rfl⟩ (And.intro True.intro ?_)))
        refine fcallp hB6 (ct_Integer_bitCount_ccf26 (fBz h0 hB6) (by omega)) ?_
        rintro _ ⟨z9, rfl, hz9⟩
        refine And.intro (True.intro) ?_
        exact ⟨_, rfl, by omega⟩
      · intro c10
        refine And.intro (True.intro) ?_
        exact ⟨_, rfl, by omega⟩
abbrev jc_M_ones_0fd6a_4 : Nat → fL → List fV → fH → Prop := fun m lv st I => ∃ (y0 : Int) (y1 : Int) (y2 : Int), lv = [(0, .inl y0), (1, .inl y1), (2, .inl y2)] ∧ st = [] ∧ ((((-2147483648) ≤ y0 ∧ y0 ≤ 2147483647) ∧ ((-2147483648) ≤ y1 ∧ y1 ≤ 2147483647) ∧ (0 ≤ y2 ∧ y2 ≤ 12))) ∧ m = (1 + 1 * (12 - y2) : Int).toNat
set_option maxRecDepth 8000 in
theorem ct_M_ones_0fd6a {I : fH} {x0 : Int} (h0 : fB bsJ I) (ha0 : ((-2147483648) ≤ x0 ∧ x0 ≤ 2147483647)) : fC ρ base n F xTc vwCl xTys D dA la gJ (fbz bsJ znJ (fKc []) I) xm_450 [.inl x0] I (fun _ r => ∃ z, r = some (.inl z) ∧ ((-2147483648) ≤ z ∧ z ≤ 2147483647)) := by
  have hW : fzs [] (fKc []) := fKc_ok _
  refine f_meth (rb := rbJ) (J := [(4, jc_M_ones_0fd6a_4)]) 14 400 xG xin_450 x6_450 okJ (fB_self h0) ?_ ?_
  · refine List.forall_mem_cons.mpr ⟨?_, fun q h => absurd h List.not_mem_nil⟩
    · rintro m _ _ I1 hB1 ⟨y0, y1, y2, rfl, rfl, hb, hm⟩
      refine And.intro (by omega) (And.intro ?_ ?_)
      · intro c1
        refine And.intro (True.intro) ?_
        exact ⟨_, rfl, by omega⟩
      · intro c2
        intro z3 hz3 ez3
        intro z4 hz4 ez4 bz4
        clear ez4
        have bz4 := bz4 (by omega)
        intro z5 hz5 ez5 bz5
        clear ez5
        clear bz5
        exact fcutJ (I := I1) (j := jc_M_ones_0fd6a_4) (lv' := [(0, .inl _), (1, .inl _), (2, .inl _)]) (And.intro rfl (And.intro rfl (And.intro rfl True.intro))) ⟨_, _, _, rfl, rfl, by omega, rfl⟩ (by omega)
  · have hB0 := fB_self (zn := znJ) (K := fKc []) h0
    exact fcutJ (I := I) (j := jc_M_ones_0fd6a_4) (lv' := [(0, .inl _), (1, .inl _), (2, .inl _)]) (And.intro rfl (And.intro rfl (And.intro rfl True.intro))) ⟨_, _, _, rfl, rfl, by omega, rfl⟩ (by omega)
abbrev jc_M_left_2e19e_4 : Nat → fL → List fV → fH → Prop := fun m lv st I => ∃ (y1 : Int) (y2 : Int), lv = [(0, .inr (.inr (some 740))), (1, .inl y1), (2, .inl y2)] ∧ st = [] ∧ ((((-2147483648) ≤ y1 ∧ y1 ≤ 2147483647) ∧ (0 ≤ y2 ∧ y2 ≤ 12))) ∧ m = (10 + 10 * (12 - y2) : Int).toNat
abbrev jc_M_left_2e19e_15 : Nat → fL → List fV → fH → Prop := fun m lv st I => ∃ (y1 : Int) (y2 : Int) (y3 : Int) (y4 : Int), lv = [(0, .inr (.inr (some 740))), (1, .inl y1), (2, .inl y2), (3, .inl y3), (4, .inl y4)] ∧ st = [] ∧ ((((-2147483648) ≤ y1 ∧ y1 ≤ 2147483647) ∧ (0 ≤ y2 ∧ y2 ≤ 11) ∧ (0 ≤ y3 ∧ y3 ≤ 1) ∧ (0 ≤ y4 ∧ y4 ≤ 8))) ∧ m = (1 + 10 * (12 - y2) + 1 * (8 - y4) : Int).toNat
set_option maxRecDepth 8000 in
theorem ct_M_left_2e19e {I : fH}  (h0 : fB bsJ I)  : fC ρ base n F xTc vwCl xTys D dA la gJ (fbz bsJ znJ (fKc []) I) xm_449 [.inr (.inr (some 740))] I (fun _ r => ∃ z, r = some (.inl z) ∧ ((-2147483648) ≤ z ∧ z ≤ 2147483647)) := by
  have hW : fzs [] (fKc []) := fKc_ok _
  refine f_meth (rb := rbJ) (J := [(4, jc_M_left_2e19e_4), (15, jc_M_left_2e19e_15)]) 131 400 xG xin_449 x6_449 okJ (fB_self h0) ?_ ?_
  · refine List.forall_mem_cons.mpr ⟨?_, List.forall_mem_cons.mpr ⟨?_, fun q h => absurd h List.not_mem_nil⟩⟩
    · rintro m _ _ I1 hB1 ⟨y1, y2, rfl, rfl, hb, hm⟩
      refine And.intro (by omega) (And.intro ?_ ?_)
      · intro c1
        refine And.intro (True.intro) ?_
        exact ⟨_, rfl, by omega⟩
      · intro c2
        exact fcutJ (I := I1) (j := jc_M_left_2e19e_15) (lv' := [(0, .inr (.inr (some 740))), (1, .inl _), (2, .inl _), (3, .inl _), (4, .inl _)]) (And.intro rfl (And.intro rfl (And.intro rfl (And.intro rfl (And.intro rfl True.intro))))) ⟨_, _, _, _, rfl, rfl, by omega, rfl⟩ (by omega)
    · rintro m _ _ I1 hB1 ⟨y1, y2, y3, y4, rfl, rfl, hb, hm⟩
      refine And.intro (by omega) (And.intro ?_ ?_)
      · intro c3
        refine And.intro (by omega) (And.intro ?_ ?_)
        · intro c4
          intro z5 hz5 ez5
          exact fcutJ (I := I1) (j := jc_M_left_2e19e_4) (lv' := [(0, .inr (.inr (some 740))), (1, .inl _), (2, .inl _)]) (And.intro rfl (And.intro rfl (And.intro rfl True.intro))) ⟨_, _, rfl, rfl, by omega, rfl⟩ (by omega)
        · intro c6
          intro z7 hz7 ez7
          intro z8 hz8 ez8
          exact fcutJ (I := I1) (j := jc_M_left_2e19e_4) (lv' := [(0, .inr (.inr (some 740))), (1, .inl _), (2, .inl _)]) (And.intro rfl (And.intro rfl (And.intro rfl True.intro))) ⟨_, _, rfl, rfl, by omega, rfl⟩ (by omega)
      · intro c9
        refine And.intro (by omega) (And.intro ?_ ?_)
        · intro c10
          exact fcutJ (I := I1) (j := jc_M_left_2e19e_15) (lv' := [(0, .inr (.inr (some 740))), (1, .inl _), (2, .inl _), (3, .inl _), (4, .inl _)]) (And.intro rfl (And.intro rfl (And.intro rfl (And.intro rfl (And.intro rfl True.intro))))) ⟨_, _, _, _, rfl, rfl, by omega, rfl⟩ (by omega)
        · intro c11
          refine And.intro ⟨rfl, by decide, by decide⟩ ?_
          refine fload rL_741_741_4500_4507_1_0 h0 hB1 (by omega) ?_
          intro z12 lz12 uz12 qz12
          refine And.intro (by omega) (And.intro ?_ ?_)
          · intro c13
            exact fcutJ (I := I1) (j := jc_M_left_2e19e_15) (lv' := [(0, .inr (.inr (some 740))), (1, .inl _), (2, .inl _), (3, .inl _), (4, .inl _)]) (And.intro rfl (And.intro rfl (And.intro rfl (And.intro rfl (And.intro rfl True.intro))))) ⟨_, _, _, _, rfl, rfl, by omega, rfl⟩ (by omega)
          · intro c14
            refine And.intro ⟨rfl, by decide, by decide⟩ ?_
            refine fload rL_741_741_4400_4495_12_11 h0 hB1 (by omega) ?_
            intro z15 lz15 uz15 qz15
            refine And.intro ⟨rfl, by decide, by decide⟩ ?_
            refine fload rL_741_741_4500_4507_1_0 h0 hB1 (by omega) ?_
            intro z16 lz16 uz16 qz16
            refine And.intro (by omega) (And.intro ?_ ?_)
            · intro c17
              exact fcutJ (I := I1) (j := jc_M_left_2e19e_15) (lv' := [(0, .inr (.inr (some 740))), (1, .inl _), (2, .inl _), (3, .inl _), (4, .inl _)]) (And.intro rfl (And.intro rfl (And.intro rfl (And.intro rfl (And.intro rfl True.intro))))) ⟨_, _, _, _, rfl, rfl, by omega, rfl⟩ (by omega)
            · intro c18
              exact fcutJ (I := I1) (j := jc_M_left_2e19e_15) (lv' := [(0, .inr (.inr (some 740))), (1, .inl _), (2, .inl _), (3, .inl _), (4, .inl _)]) (And.intro rfl (And.intro rfl (And.intro rfl (And.intro rfl (And.intro rfl True.intro))))) ⟨_, _, _, _, rfl, rfl, by omega, rfl⟩ (by omega)
  · have hB0 := fB_self (zn := znJ) (K := fKc []) h0
    exact fcutJ (I := I) (j := jc_M_left_2e19e_4) (lv' := [(0, .inr (.inr (some 740))), (1, .inl _), (2, .inl _)]) (And.intro rfl (And.intro rfl (And.intro rfl True.intro))) ⟨_, _, rfl, rfl, by omega, rfl⟩ (by omega)
set_option maxRecDepth 8000 in
theorem ct_M_tested_bcdc3 {I : fH} {x1 : Int} {x2 : Int} (h0 : fB bsJ I) (ha1 : ((-2147483648) ≤ x1 ∧ x1 ≤ 2147483647)) (ha2 : ((-2147483648) ≤ x2 ∧ x2 ≤ 2147483647)) : fC ρ base n F xTc vwCl xTys D dA la gJ (fbz bsJ znJ (fKc wz_1ea73) I) xm_448 [.inr (.inr (some 740)), .inl x1, .inl x2] I (fun _ r => ∃ z, r = some (.inl z) ∧ ((-2147483648) ≤ z ∧ z ≤ 2147483647)) := by
  have hW : fzs wz_1ea73 (fKc wz_1ea73) := fKc_ok _
  refine f_meth (rb := rbJ) (J := []) 1 400 xG xin_448 x6_448 okJ (fB_self h0) ?_ ?_
  · exact fun q h => absurd h List.not_mem_nil
  · have hB0 := fB_self (zn := znJ) (K := fKc wz_1ea73) h0
    refine Exists.intro xm_446 (And.intro mi_446 (And.intro ⟨rfl, rfl, rfl, rfl⟩ (And.intro True.intro ?_)))
    refine fcallp hB0 (ct_M_isTest_9b7ec (fBz h0 hB0) (by omega)) ?_
    rintro _ ⟨z1, rfl, hz1⟩
    refine And.intro (by omega) (And.intro ?_ ?_)
    · intro c2
      refine And.intro (True.intro) ?_
      exact ⟨_, rfl, by omega⟩
    · intro c3
      refine And.intro (by omega) ?_
      refine Exists.intro xm_238 (And.intro mi_238 (And.intro ⟨rfl, rfl, rfl, rfl⟩ (And.intro True.intro ?_)))
      refine fcallp hB0 (ct_M_isIn_27230 (fBz h0 hB0) (by omega) (by omega) (by omega)) ?_
      rintro _ ⟨z4, rfl, hz4⟩
      refine And.intro (by omega) (And.intro ?_ ?_)
      · intro c5
        refine And.intro ⟨rfl, by decide, by decide⟩ ?_
        refine fstore rS_741_741_4500_4507_1_0 (fzs_sub (by decide +kernel) hW) (by omega) (by omega) ?_
        intro IhB6 ehB6 hB6
        have t7 := fup_self ehB6
        refine Exists.intro xm_449 (And.intro mi_449 (And.intro ⟨rfl, rfl, rfl, rfl⟩ (And.intro rfl ?_)))
        refine fcallp hB6 (ct_M_left_2e19e (fBz h0 hB6)) ?_
        rintro _ ⟨z8, rfl, hz8⟩
        refine Exists.intro xm_450 (And.intro mi_450 (And.intro ⟨rfl, rfl, rfl, rfl⟩ (And.intro True.intro ?_)))
        refine fcallp hB6 (ct_M_ones_0fd6a (fBz h0 hB6) (by omega)) ?_
        rintro _ ⟨z9, rfl, hz9⟩
        refine And.intro (True.intro) ?_
        exact ⟨_, rfl, by omega⟩
      · intro c10
        refine And.intro (True.intro) ?_
        exact ⟨_, rfl, by omega⟩
abbrev jc_Desk_mostAlike_488ee_5 : Nat → fL → List fV → fH → Prop := fun m lv st I => ∃ (y1 : Int) (y2 : Int) (y3 : Int) (y4 : Int), lv = [(0, .inr (.inr (some 211))), (1, .inl y1), (2, .inl y2), (3, .inl y3), (4, .inl y4)] ∧ st = [] ∧ (((0 ≤ y1 ∧ y1 ≤ 7) ∧ ((-2147483648) ≤ y2 ∧ y2 ≤ 2147483647) ∧ (0 ≤ y3 ∧ y3 ≤ 2147483647) ∧ (0 ≤ y4 ∧ y4 ≤ 4))) ∧ m = (14 + 14 * (4 - y4) : Int).toNat
abbrev jc_Desk_mostAlike_488ee_17 : Nat → fL → List fV → fH → Prop := fun m lv st I => ∃ (y1 : Int) (y2 : Int) (y3 : Int) (y4 : Int) (y5 : Int) (y6 : Int), lv = [(0, .inr (.inr (some 211))), (1, .inl y1), (2, .inl y2), (3, .inl y3), (4, .inl y4), (5, .inl y5), (6, .inl y6)] ∧ st = [] ∧ (((0 ≤ y1 ∧ y1 ≤ 7) ∧ ((-2147483648) ≤ y2 ∧ y2 ≤ 2147483647) ∧ (0 ≤ y3 ∧ y3 ≤ 2147483647) ∧ (0 ≤ y4 ∧ y4 ≤ 3) ∧ ((-2147483648) ≤ y5 ∧ y5 ≤ 2147483647) ∧ (0 ≤ y6 ∧ y6 ≤ 12))) ∧ m = (1 + 14 * (4 - y4) + 1 * (12 - y6) : Int).toNat
set_option maxRecDepth 8000 in
theorem ct_Desk_mostAlike_488ee {I : fH} {x1 : Int} {x2 : Int} (h0 : fB bsJ I) (ha1 : (0 ≤ x1 ∧ x1 ≤ 7)) (ha2 : ((-2147483648) ≤ x2 ∧ x2 ≤ 2147483647)) : fC ρ base n F xTc vwCl xTys D dA la gJ (fbz bsJ znJ (fKc []) I) xm_175 [.inr (.inr (some 211)), .inl x1, .inl x2] I (fun _ r => ∃ z, r = some (.inl z) ∧ (0 ≤ z ∧ z ≤ 2147483647)) := by
  have hW : fzs [] (fKc []) := fKc_ok _
  refine f_meth (rb := rbJ) (J := [(5, jc_Desk_mostAlike_488ee_5), (17, jc_Desk_mostAlike_488ee_17)]) 71 400 xG xin_175 x6_175 okJ (fB_self h0) ?_ ?_
  · refine List.forall_mem_cons.mpr ⟨?_, List.forall_mem_cons.mpr ⟨?_, fun q h => absurd h List.not_mem_nil⟩⟩
    · rintro m _ _ I1 hB1 ⟨y1, y2, y3, y4, rfl, rfl, hb, hm⟩
      refine And.intro (by omega) (And.intro ?_ ?_)
      · intro c1
        refine And.intro (True.intro) ?_
        exact ⟨_, rfl, by omega⟩
      · intro c2
        exact fcutJ (I := I1) (j := jc_Desk_mostAlike_488ee_17) (lv' := [(0, .inr (.inr (some 211))), (1, .inl _), (2, .inl _), (3, .inl _), (4, .inl _), (5, .inl _), (6, .inl _)]) (And.intro rfl (And.intro rfl (And.intro rfl (And.intro rfl (And.intro rfl (And.intro rfl (And.intro rfl True.intro))))))) ⟨_, _, _, _, _, _, rfl, rfl, by omega, rfl⟩ (by omega)
    · rintro m _ _ I1 hB1 ⟨y1, y2, y3, y4, y5, y6, rfl, rfl, hb, hm⟩
      refine And.intro (by omega) (And.intro ?_ ?_)
      · intro c3
        refine And.intro (And.intro (by omega) (And.intro (by omega) rfl)) ?_
        intro z4 hz4
        exact fcutJ (I := I1) (j := jc_Desk_mostAlike_488ee_5) (lv' := [(0, .inr (.inr (some 211))), (1, .inl _), (2, .inl _), (3, .inl _), (4, .inl _)]) (And.intro rfl (And.intro rfl (And.intro rfl (And.intro rfl (And.intro rfl True.intro))))) ⟨_, _, _, _, rfl, rfl, by omega, rfl⟩ (by omega)
      · intro c5
        intro z6 hz6 ez6
        intro z7 hz7 ez7 bz7
        clear ez7
        have bz7 := bz7 (by omega)
        refine And.intro (by omega) (And.intro ?_ ?_)
        · intro c8
          exact fcutJ (I := I1) (j := jc_Desk_mostAlike_488ee_17) (lv' := [(0, .inr (.inr (some 211))), (1, .inl _), (2, .inl _), (3, .inl _), (4, .inl _), (5, .inl _), (6, .inl _)]) (And.intro rfl (And.intro rfl (And.intro rfl (And.intro rfl (And.intro rfl (And.intro rfl (And.intro rfl True.intro))))))) ⟨_, _, _, _, _, _, rfl, rfl, by omega, rfl⟩ (by omega)
        · intro c9
          refine And.intro ⟨rfl, by decide, by decide⟩ ?_
          refine And.intro ⟨rfl, by decide⟩ (And.intro (by omega) ?_)
          refine fload rL_213_220_0_11_1_0 h0 hB1 (by omega) ?_
          intro z10 lz10 uz10 qz10
          refine And.intro (by omega) (And.intro ?_ ?_)
          · intro c11
            exact fcutJ (I := I1) (j := jc_Desk_mostAlike_488ee_17) (lv' := [(0, .inr (.inr (some 211))), (1, .inl _), (2, .inl _), (3, .inl _), (4, .inl _), (5, .inl _), (6, .inl _)]) (And.intro rfl (And.intro rfl (And.intro rfl (And.intro rfl (And.intro rfl (And.intro rfl (And.intro rfl True.intro))))))) ⟨_, _, _, _, _, _, rfl, rfl, by omega, rfl⟩ (by omega)
          · intro c12
            intro z13 hz13 bz13
            clear bz13
            exact fcutJ (I := I1) (j := jc_Desk_mostAlike_488ee_17) (lv' := [(0, .inr (.inr (some 211))), (1, .inl _), (2, .inl _), (3, .inl _), (4, .inl _), (5, .inl _), (6, .inl _)]) (And.intro rfl (And.intro rfl (And.intro rfl (And.intro rfl (And.intro rfl (And.intro rfl (And.intro rfl True.intro))))))) ⟨_, _, _, _, _, _, rfl, rfl, by omega, rfl⟩ (by omega)
  · have hB0 := fB_self (zn := znJ) (K := fKc []) h0
    exact fcutJ (I := I) (j := jc_Desk_mostAlike_488ee_5) (lv' := [(0, .inr (.inr (some 211))), (1, .inl _), (2, .inl _), (3, .inl _), (4, .inl _)]) (And.intro rfl (And.intro rfl (And.intro rfl (And.intro rfl (And.intro rfl True.intro))))) ⟨_, _, _, _, rfl, rfl, by omega, rfl⟩ (by omega)
abbrev jc_Desk_nextTest_2c9a4_16 : Nat → fL → List fV → fH → Prop := fun m lv st I => ∃ (y1 : Int) (y2 : Int) (y3 : Int) (y4 : Int), lv = [(0, .inr (.inr (some 211))), (1, .inl y1), (2, .inl y2), (3, .inl y3), (4, .inl y4)] ∧ st = [] ∧ ((((-2147483648) ≤ y1 ∧ y1 ≤ 2147483647) ∧ ((0 ≤ y2 ∧ y2 ≤ 7) ∨ y2 = (-1000000005)) ∧ (0 ≤ y3 ∧ y3 ≤ 63) ∧ (0 ≤ y4 ∧ y4 ≤ 8))) ∧ m = (1 + 1 * (8 - y4) : Int).toNat
set_option maxRecDepth 8000 in
theorem ct_Desk_nextTest_2c9a4 {I : fH}  (h0 : fB bsJ I)  : fC ρ base n F xTc vwCl xTys D dA la gJ (fbz bsJ znJ (fKc []) I) xm_174 [.inr (.inr (some 211))] I (fun _ r => ∃ z, r = some (.inl z) ∧ ((0 ≤ z ∧ z ≤ 7) ∨ z = (-1000000005))) := by
  have hW : fzs [] (fKc []) := fKc_ok _
  refine f_meth (rb := rbJ) (J := [(16, jc_Desk_nextTest_2c9a4_16)]) 10 400 xG xin_174 x6_174 okJ (fB_self h0) ?_ ?_
  · refine List.forall_mem_cons.mpr ⟨?_, fun q h => absurd h List.not_mem_nil⟩
    · rintro m _ _ I1 hB1 ⟨y1, y2, y3, y4, rfl, rfl, hb, hm⟩
      refine And.intro (by omega) (And.intro ?_ ?_)
      · intro c1
        refine And.intro (True.intro) ?_
        exact ⟨_, rfl, by omega⟩
      · intro c2
        refine And.intro ⟨rfl, by decide, by decide⟩ ?_
        refine fload rL_221_221_0_7_1_0 h0 hB1 (by omega) ?_
        intro z3 lz3 uz3 qz3
        refine And.intro (by omega) (And.intro ?_ ?_)
        · intro c4
          refine And.intro (by omega) (And.intro ?_ ?_)
          · intro c5
            exact fcutJ (I := I1) (j := jc_Desk_nextTest_2c9a4_16) (lv' := [(0, .inr (.inr (some 211))), (1, .inl _), (2, .inl _), (3, .inl _), (4, .inl _)]) (And.intro rfl (And.intro rfl (And.intro rfl (And.intro rfl (And.intro rfl True.intro))))) ⟨_, _, _, _, rfl, rfl, by omega, rfl⟩ (by omega)
          · intro c6
            exact fcutJ (I := I1) (j := jc_Desk_nextTest_2c9a4_16) (lv' := [(0, .inr (.inr (some 211))), (1, .inl _), (2, .inl _), (3, .inl _), (4, .inl _)]) (And.intro rfl (And.intro rfl (And.intro rfl (And.intro rfl (And.intro rfl True.intro))))) ⟨_, _, _, _, rfl, rfl, by omega, rfl⟩ (by omega)
        · intro c7
          refine Exists.intro xm_175 (And.intro mi_175 (And.intro ⟨rfl, rfl, rfl, rfl⟩ (And.intro rfl ?_)))
          refine fcallp hB1 (ct_Desk_mostAlike_488ee (fBz h0 hB1) (by omega) (by omega)) ?_
          rintro _ ⟨z8, rfl, hz8⟩
          refine And.intro (by omega) (And.intro ?_ ?_)
          · intro c9
            exact fcutJ (I := I1) (j := jc_Desk_nextTest_2c9a4_16) (lv' := [(0, .inr (.inr (some 211))), (1, .inl _), (2, .inl _), (3, .inl _), (4, .inl _)]) (And.intro rfl (And.intro rfl (And.intro rfl (And.intro rfl (And.intro rfl True.intro))))) ⟨_, _, _, _, rfl, rfl, by omega, rfl⟩ (by omega)
          · intro c10
            exact fcutJ (I := I1) (j := jc_Desk_nextTest_2c9a4_16) (lv' := [(0, .inr (.inr (some 211))), (1, .inl _), (2, .inl _), (3, .inl _), (4, .inl _)]) (And.intro rfl (And.intro rfl (And.intro rfl (And.intro rfl (And.intro rfl True.intro))))) ⟨_, _, _, _, rfl, rfl, by omega, rfl⟩ (by omega)
  · have hB0 := fB_self (zn := znJ) (K := fKc []) h0
    refine Exists.intro xm_171 (And.intro mi_171 (And.intro ⟨rfl, rfl, rfl, rfl⟩ (And.intro rfl ?_)))
    refine fcallp hB0 (ct_Desk_leftFaults_e8455 (fBz h0 hB0)) ?_
    rintro _ ⟨z11, rfl, hz11⟩
    refine Exists.intro xm_499 (And.intro mi_499 (And.intro ⟨rfl, rfl, rfl, rfl⟩ (And.intro True.intro ?_)))
    refine fcallp hB0 (ct_Integer_bitCount_ccf26 (fBz h0 hB0) (by omega)) ?_
    rintro _ ⟨z12, rfl, hz12⟩
    exact fcutJ (I := I) (j := jc_Desk_nextTest_2c9a4_16) (lv' := [(0, .inr (.inr (some 211))), (1, .inl _), (2, .inl _), (3, .inl _), (4, .inl _)]) (And.intro rfl (And.intro rfl (And.intro rfl (And.intro rfl (And.intro rfl True.intro))))) ⟨_, _, _, _, rfl, rfl, by omega, rfl⟩ (by omega)
set_option maxRecDepth 8000 in
theorem ct_X_find_eec3a {I : fH} {x1 : Int} (h0 : fB bsJ I) (ha1 : ((-2147483648) ≤ x1 ∧ x1 ≤ 2147483647)) : fC ρ base n F xTc vwCl xTys D dA la gJ (fbz bsJ znJ (fKc []) I) xm_173 [.inr (.inr (some 0)), .inl x1] I (fun _ r => ∃ z, r = some (.inl z) ∧ ((-2147483648) ≤ z ∧ z ≤ 2147483647)) := by
  have hW : fzs [] (fKc []) := fKc_ok _
  refine f_meth (rb := rbJ) (J := []) 1 400 xG xin_173 x6_173 okJ (fB_self h0) ?_ ?_
  · exact fun q h => absurd h List.not_mem_nil
  · have hB0 := fB_self (zn := znJ) (K := fKc []) h0
    refine Exists.intro xm_13 (And.intro mi_13 (And.intro ⟨rfl, rfl, rfl, rfl⟩ (And.intro True.intro ?_)))
    refine fcallp hB0 (ct_X_within_c27b1 (fBz h0 hB0) (by omega) (by omega) (by omega)) ?_
    rintro _ ⟨z1, rfl, hz1⟩
    refine And.intro (by omega) (And.intro ?_ ?_)
    · intro c2
      refine And.intro (by omega) (And.intro ?_ ?_)
      · intro c3
        refine And.intro ⟨rfl, by decide, by decide⟩ ?_
        refine Exists.intro xm_174 (And.intro mi_174 (And.intro ⟨rfl, rfl, rfl, rfl⟩ (And.intro rfl ?_)))
        refine fcallp hB0 (ct_Desk_nextTest_2c9a4 (fBz h0 hB0)) ?_
        rintro _ ⟨z4, rfl, hz4⟩
        refine And.intro (True.intro) ?_
        exact ⟨_, rfl, by omega⟩
      · intro c5
        refine And.intro ⟨rfl, by decide, by decide⟩ ?_
        refine Exists.intro xm_171 (And.intro mi_171 (And.intro ⟨rfl, rfl, rfl, rfl⟩ (And.intro rfl ?_)))
        refine fcallp hB0 (ct_Desk_leftFaults_e8455 (fBz h0 hB0)) ?_
        rintro _ ⟨z6, rfl, hz6⟩
        refine And.intro (True.intro) ?_
        exact ⟨_, rfl, by omega⟩
    · intro c7
      refine And.intro (True.intro) ?_
      exact ⟨_, rfl, by omega⟩
abbrev jc_M_alike_aaf39_5 : Nat → fL → List fV → fH → Prop := fun m lv st I => ∃ (y1 : Int) (y2 : Int) (y3 : Int) (y4 : Int), lv = [(0, .inr (.inr (some 740))), (1, .inl y1), (2, .inl y2), (3, .inl y3), (4, .inl y4)] ∧ st = [] ∧ (((0 ≤ y1 ∧ y1 ≤ 7) ∧ ((-2147483648) ≤ y2 ∧ y2 ≤ 2147483647) ∧ (0 ≤ y3 ∧ y3 ≤ 2147483647) ∧ (0 ≤ y4 ∧ y4 ≤ 4))) ∧ m = (14 + 14 * (4 - y4) : Int).toNat
abbrev jc_M_alike_aaf39_17 : Nat → fL → List fV → fH → Prop := fun m lv st I => ∃ (y1 : Int) (y2 : Int) (y3 : Int) (y4 : Int) (y5 : Int) (y6 : Int), lv = [(0, .inr (.inr (some 740))), (1, .inl y1), (2, .inl y2), (3, .inl y3), (4, .inl y4), (5, .inl y5), (6, .inl y6)] ∧ st = [] ∧ (((0 ≤ y1 ∧ y1 ≤ 7) ∧ ((-2147483648) ≤ y2 ∧ y2 ≤ 2147483647) ∧ (0 ≤ y3 ∧ y3 ≤ 2147483647) ∧ (0 ≤ y4 ∧ y4 ≤ 3) ∧ ((-2147483648) ≤ y5 ∧ y5 ≤ 2147483647) ∧ (0 ≤ y6 ∧ y6 ≤ 12))) ∧ m = (1 + 14 * (4 - y4) + 1 * (12 - y6) : Int).toNat
set_option maxRecDepth 8000 in
theorem ct_M_alike_aaf39 {I : fH} {x1 : Int} {x2 : Int} (h0 : fB bsJ I) (ha1 : (0 ≤ x1 ∧ x1 ≤ 7)) (ha2 : ((-2147483648) ≤ x2 ∧ x2 ≤ 2147483647)) : fC ρ base n F xTc vwCl xTys D dA la gJ (fbz bsJ znJ (fKc []) I) xm_452 [.inr (.inr (some 740)), .inl x1, .inl x2] I (fun _ r => ∃ z, r = some (.inl z) ∧ (0 ≤ z ∧ z ≤ 2147483647)) := by
  have hW : fzs [] (fKc []) := fKc_ok _
  refine f_meth (rb := rbJ) (J := [(5, jc_M_alike_aaf39_5), (17, jc_M_alike_aaf39_17)]) 71 400 xG xin_452 x6_452 okJ (fB_self h0) ?_ ?_
  · refine List.forall_mem_cons.mpr ⟨?_, List.forall_mem_cons.mpr ⟨?_, fun q h => absurd h List.not_mem_nil⟩⟩
    · rintro m _ _ I1 hB1 ⟨y1, y2, y3, y4, rfl, rfl, hb, hm⟩
      refine And.intro (by omega) (And.intro ?_ ?_)
      · intro c1
        refine And.intro (True.intro) ?_
        exact ⟨_, rfl, by omega⟩
      · intro c2
        exact fcutJ (I := I1) (j := jc_M_alike_aaf39_17) (lv' := [(0, .inr (.inr (some 740))), (1, .inl _), (2, .inl _), (3, .inl _), (4, .inl _), (5, .inl _), (6, .inl _)]) (And.intro rfl (And.intro rfl (And.intro rfl (And.intro rfl (And.intro rfl (And.intro rfl (And.intro rfl True.intro))))))) ⟨_, _, _, _, _, _, rfl, rfl, by omega, rfl⟩ (by omega)
    · rintro m _ _ I1 hB1 ⟨y1, y2, y3, y4, y5, y6, rfl, rfl, hb, hm⟩
      refine And.intro (by omega) (And.intro ?_ ?_)
      · intro c3
        refine And.intro (by omega) (And.intro ?_ ?_)
        · intro c4
          exact fcutJ (I := I1) (j := jc_M_alike_aaf39_5) (lv' := [(0, .inr (.inr (some 740))), (1, .inl _), (2, .inl _), (3, .inl _), (4, .inl _)]) (And.intro rfl (And.intro rfl (And.intro rfl (And.intro rfl (And.intro rfl True.intro))))) ⟨_, _, _, _, rfl, rfl, by omega, rfl⟩ (by omega)
        · intro c5
          exact fcutJ (I := I1) (j := jc_M_alike_aaf39_5) (lv' := [(0, .inr (.inr (some 740))), (1, .inl _), (2, .inl _), (3, .inl _), (4, .inl _)]) (And.intro rfl (And.intro rfl (And.intro rfl (And.intro rfl (And.intro rfl True.intro))))) ⟨_, _, _, _, rfl, rfl, by omega, rfl⟩ (by omega)
      · intro c6
        intro z7 hz7 ez7
        intro z8 hz8 ez8 bz8
        clear ez8
        have bz8 := bz8 (by omega)
        refine And.intro (by omega) (And.intro ?_ ?_)
        · intro c9
          intro z10 hz10 ez10 bz10
          clear ez10
          clear bz10
          exact fcutJ (I := I1) (j := jc_M_alike_aaf39_17) (lv' := [(0, .inr (.inr (some 740))), (1, .inl _), (2, .inl _), (3, .inl _), (4, .inl _), (5, .inl _), (6, .inl _)]) (And.intro rfl (And.intro rfl (And.intro rfl (And.intro rfl (And.intro rfl (And.intro rfl (And.intro rfl True.intro))))))) ⟨_, _, _, _, _, _, rfl, rfl, by omega, rfl⟩ (by omega)
        · intro c11
          refine And.intro ⟨rfl, by decide, by decide⟩ ?_
          refine fload rL_741_741_4400_4495_12_11 h0 hB1 (by omega) ?_
          intro z12 lz12 uz12 qz12
          refine And.intro (by omega) (And.intro ?_ ?_)
          · intro c13
            intro z14 hz14 ez14 bz14
            clear ez14
            clear bz14
            exact fcutJ (I := I1) (j := jc_M_alike_aaf39_17) (lv' := [(0, .inr (.inr (some 740))), (1, .inl _), (2, .inl _), (3, .inl _), (4, .inl _), (5, .inl _), (6, .inl _)]) (And.intro rfl (And.intro rfl (And.intro rfl (And.intro rfl (And.intro rfl (And.intro rfl (And.intro rfl True.intro))))))) ⟨_, _, _, _, _, _, rfl, rfl, by omega, rfl⟩ (by omega)
          · intro c15
            intro z16 hz16 ez16 bz16
            clear ez16
            clear bz16
            exact fcutJ (I := I1) (j := jc_M_alike_aaf39_17) (lv' := [(0, .inr (.inr (some 740))), (1, .inl _), (2, .inl _), (3, .inl _), (4, .inl _), (5, .inl _), (6, .inl _)]) (And.intro rfl (And.intro rfl (And.intro rfl (And.intro rfl (And.intro rfl (And.intro rfl (And.intro rfl True.intro))))))) ⟨_, _, _, _, _, _, rfl, rfl, by omega, rfl⟩ (by omega)
  · have hB0 := fB_self (zn := znJ) (K := fKc []) h0
    exact fcutJ (I := I) (j := jc_M_alike_aaf39_5) (lv' := [(0, .inr (.inr (some 740))), (1, .inl _), (2, .inl _), (3, .inl _), (4, .inl _)]) (And.intro rfl (And.intro rfl (And.intro rfl (And.intro rfl (And.intro rfl True.intro))))) ⟨_, _, _, _, rfl, rfl, by omega, rfl⟩ (by omega)
abbrev jc_M_find_48382_36 : Nat → fL → List fV → fH → Prop := fun m lv st I => ∃ (y2 : Int) (y3 : Int) (y4 : Int) (y5 : Int), lv = [(0, .inr (.inr (some 740))), (2, .inl y2), (3, .inl y3), (4, .inl y4), (5, .inl y5)] ∧ st = [] ∧ ((((-2147483648) ≤ y2 ∧ y2 ≤ 2147483647) ∧ ((0 ≤ y3 ∧ y3 ≤ 7) ∨ y3 = (-1000000005)) ∧ ((-2147483648) ≤ y4 ∧ y4 ≤ 2147483647) ∧ (0 ≤ y5 ∧ y5 ≤ 8))) ∧ m = (1 + 1 * (8 - y5) : Int).toNat
set_option maxRecDepth 8000 in
theorem ct_M_find_48382 {I : fH} {x1 : Int} (h0 : fB bsJ I) (ha1 : ((-2147483648) ≤ x1 ∧ x1 ≤ 2147483647)) : fC ρ base n F xTc vwCl xTys D dA la gJ (fbz bsJ znJ (fKc []) I) xm_451 [.inr (.inr (some 740)), .inl x1] I (fun _ r => ∃ z, r = some (.inl z) ∧ ((-2147483648) ≤ z ∧ z ≤ 2147483647)) := by
  have hW : fzs [] (fKc []) := fKc_ok _
  refine f_meth (rb := rbJ) (J := [(36, jc_M_find_48382_36)]) 10 400 xG xin_451 x6_451 okJ (fB_self h0) ?_ ?_
  · refine List.forall_mem_cons.mpr ⟨?_, fun q h => absurd h List.not_mem_nil⟩
    · rintro m _ _ I1 hB1 ⟨y2, y3, y4, y5, rfl, rfl, hb, hm⟩
      refine And.intro (by omega) (And.intro ?_ ?_)
      · intro c1
        refine And.intro (True.intro) ?_
        exact ⟨_, rfl, by omega⟩
      · intro c2
        refine And.intro ⟨rfl, by decide, by decide⟩ ?_
        refine fload rL_741_741_4500_4507_1_0 h0 hB1 (by omega) ?_
        intro z3 lz3 uz3 qz3
        refine And.intro (by omega) (And.intro ?_ ?_)
        · intro c4
          exact fcutJ (I := I1) (j := jc_M_find_48382_36) (lv' := [(0, .inr (.inr (some 740))), (2, .inl _), (3, .inl _), (4, .inl _), (5, .inl _)]) (And.intro rfl (And.intro rfl (And.intro rfl (And.intro rfl (And.intro rfl True.intro))))) ⟨_, _, _, _, rfl, rfl, by omega, rfl⟩ (by omega)
        · intro c5
          refine Exists.intro xm_452 (And.intro mi_452 (And.intro ⟨rfl, rfl, rfl, rfl⟩ (And.intro rfl ?_)))
          refine fcallp hB1 (ct_M_alike_aaf39 (fBz h0 hB1) (by omega) (by omega)) ?_
          rintro _ ⟨z6, rfl, hz6⟩
          refine And.intro (by omega) (And.intro ?_ ?_)
          · intro c7
            exact fcutJ (I := I1) (j := jc_M_find_48382_36) (lv' := [(0, .inr (.inr (some 740))), (2, .inl _), (3, .inl _), (4, .inl _), (5, .inl _)]) (And.intro rfl (And.intro rfl (And.intro rfl (And.intro rfl (And.intro rfl True.intro))))) ⟨_, _, _, _, rfl, rfl, by omega, rfl⟩ (by omega)
          · intro c8
            refine Exists.intro xm_452 (And.intro mi_452 (And.intro ⟨rfl, rfl, rfl, rfl⟩ (And.intro rfl ?_)))
            refine fcallp hB1 (ct_M_alike_aaf39 (fBz h0 hB1) (by omega) (by omega)) ?_
            rintro _ ⟨z9, rfl, hz9⟩
            exact fcutJ (I := I1) (j := jc_M_find_48382_36) (lv' := [(0, .inr (.inr (some 740))), (2, .inl _), (3, .inl _), (4, .inl _), (5, .inl _)]) (And.intro rfl (And.intro rfl (And.intro rfl (And.intro rfl (And.intro rfl True.intro))))) ⟨_, _, _, _, rfl, rfl, by omega, rfl⟩ (by omega)
  · have hB0 := fB_self (zn := znJ) (K := fKc []) h0
    refine And.intro (by omega) ?_
    refine Exists.intro xm_238 (And.intro mi_238 (And.intro ⟨rfl, rfl, rfl, rfl⟩ (And.intro True.intro ?_)))
    refine fcallp hB0 (ct_M_isIn_27230 (fBz h0 hB0) (by omega) (by omega) (by omega)) ?_
    rintro _ ⟨z10, rfl, hz10⟩
    refine And.intro (by omega) (And.intro ?_ ?_)
    · intro c11
      refine Exists.intro xm_449 (And.intro mi_449 (And.intro ⟨rfl, rfl, rfl, rfl⟩ (And.intro rfl ?_)))
      refine fcallp hB0 (ct_M_left_2e19e (fBz h0 hB0)) ?_
      rintro _ ⟨z12, rfl, hz12⟩
      refine And.intro (by omega) (And.intro ?_ ?_)
      · intro c13
        refine Exists.intro xm_450 (And.intro mi_450 (And.intro ⟨rfl, rfl, rfl, rfl⟩ (And.intro True.intro ?_)))
        refine fcallp hB0 (ct_M_ones_0fd6a (fBz h0 hB0) (by omega)) ?_
        rintro _ ⟨z14, rfl, hz14⟩
        exact fcutJ (I := I) (j := jc_M_find_48382_36) (lv' := [(0, .inr (.inr (some 740))), (2, .inl _), (3, .inl _), (4, .inl _), (5, .inl _)]) (And.intro rfl (And.intro rfl (And.intro rfl (And.intro rfl (And.intro rfl True.intro))))) ⟨_, _, _, _, rfl, rfl, by omega, rfl⟩ (by omega)
      · intro c15
        refine And.intro (True.intro) ?_
        exact ⟨_, rfl, by omega⟩
    · intro c16
      refine And.intro (True.intro) ?_
      exact ⟨_, rfl, by omega⟩
set_option maxRecDepth 8000 in
theorem ct_X_swap_821b4 {I : fH} {x1 : Int} {x2 : Int} (h0 : fB bsJ I) (ha1 : (0 ≤ x1 ∧ x1 ≤ 47)) (ha2 : (0 ≤ x2 ∧ x2 ≤ 999)) : fC ρ base n F xTc vwCl xTys D dA la gJ (fbz bsJ znJ (fKc wz_0e223) I) xm_18 [.inr (.inr (some 222)), .inl x1, .inl x2] I (fun _ r => ∃ z, r = some (.inl z) ∧ ((-2147483648) ≤ z ∧ z ≤ 2147483647)) := by
  have hW : fzs wz_0e223 (fKc wz_0e223) := fKc_ok _
  refine f_meth (rb := rbJ) (J := []) 1 400 xG xin_18 x6_18 okJ (fB_self h0) ?_ ?_
  · exact fun q h => absurd h List.not_mem_nil
  · have hB0 := fB_self (zn := znJ) (K := fKc wz_0e223) h0
    refine fload rL_222_222_0_47_1_0 h0 hB0 (by omega) ?_
    intro z1 lz1 uz1 qz1
    refine fstore rS_222_222_0_47_1_0 (fzs_sub (by decide +kernel) hW) (by omega) (by omega) ?_
    intro IhB2 ehB2 hB2
    have t3 := fup_self ehB2
    refine And.intro (True.intro) ?_
    exact ⟨_, rfl, by omega⟩
set_option maxRecDepth 8000 in
theorem ct_X_weather_d5811 {I : fH} {x1 : Int} {x2 : Int} (h0 : fB bsJ I) (ha1 : ((-2147483648) ≤ x1 ∧ x1 ≤ 2147483647)) (ha2 : ((-2147483648) ≤ x2 ∧ x2 ≤ 2147483647)) : fC ρ base n F xTc vwCl xTys D dA la gJ (fbz bsJ znJ (fKc wz_0e223) I) xm_176 [.inr (.inr (some 0)), .inl x1, .inl x2] I (fun _ r => ∃ z, r = some (.inl z) ∧ ((-2147483648) ≤ z ∧ z ≤ 2147483647)) := by
  have hW : fzs wz_0e223 (fKc wz_0e223) := fKc_ok _
  refine f_meth (rb := rbJ) (J := []) 1 400 xG xin_176 x6_176 okJ (fB_self h0) ?_ ?_
  · exact fun q h => absurd h List.not_mem_nil
  · have hB0 := fB_self (zn := znJ) (K := fKc wz_0e223) h0
    refine Exists.intro xm_13 (And.intro mi_13 (And.intro ⟨rfl, rfl, rfl, rfl⟩ (And.intro True.intro ?_)))
    refine fcallp hB0 (ct_X_within_c27b1 (fBz h0 hB0) (by omega) (by omega) (by omega)) ?_
    rintro _ ⟨z1, rfl, hz1⟩
    refine And.intro (by omega) (And.intro ?_ ?_)
    · intro c2
      refine And.intro (True.intro) ?_
      exact ⟨_, rfl, by omega⟩
    · intro c3
      refine Exists.intro xm_13 (And.intro mi_13 (And.intro ⟨rfl, rfl, rfl, rfl⟩ (And.intro True.intro ?_)))
      refine fcallp hB0 (ct_X_within_c27b1 (fBz h0 hB0) (by omega) (by omega) (by omega)) ?_
      rintro _ ⟨z4, rfl, hz4⟩
      refine And.intro (by omega) (And.intro ?_ ?_)
      · intro c5
        refine And.intro (True.intro) ?_
        exact ⟨_, rfl, by omega⟩
      · intro c6
        refine And.intro ⟨rfl, by decide, by decide⟩ ?_
        refine And.intro ⟨rfl, by decide, by decide⟩ ?_
        refine Exists.intro xm_18 (And.intro mi_18 (And.intro ⟨rfl, rfl, rfl, rfl⟩ (And.intro True.intro ?_)))
        refine fcall _ h0 (fzs_sub (by decide +kernel) hW) hB0 (ct_X_swap_821b4 (fBz h0 hB0) (by omega) (by omega)) ?_
        rintro IhB8 _ hB8 fhB8 ⟨z7, rfl, hz7⟩
        refine And.intro (True.intro) ?_
        exact ⟨_, rfl, by omega⟩
set_option maxRecDepth 8000 in
theorem ct_M_put_6db37 {I : fH} {x1 : Int} {x2 : Int} (h0 : fB bsJ I) (ha1 : (4510 ≤ x1 ∧ x1 ≤ 4557)) (ha2 : (0 ≤ x2 ∧ x2 ≤ 999)) : fC ρ base n F xTc vwCl xTys D dA la gJ (fbz bsJ znJ (fKc wz_c7e2d) I) xm_242 [.inr (.inr (some 740)), .inl x1, .inl x2] I (fun _ r => ∃ z, r = some (.inl z) ∧ ((-2147483648) ≤ z ∧ z ≤ 2147483647)) := by
  have hW : fzs wz_c7e2d (fKc wz_c7e2d) := fKc_ok _
  refine f_meth (rb := rbJ) (J := []) 1 400 xG xin_242 x6_242 okJ (fB_self h0) ?_ ?_
  · exact fun q h => absurd h List.not_mem_nil
  · have hB0 := fB_self (zn := znJ) (K := fKc wz_c7e2d) h0
    refine And.intro ⟨rfl, by decide, by decide⟩ ?_
    refine fload rL_741_741_4510_4557_1_0 h0 hB0 (by omega) ?_
    intro z1 lz1 uz1 qz1
    refine And.intro ⟨rfl, by decide, by decide⟩ ?_
    refine fstore rS_741_741_4510_4557_1_0 (fzs_sub (by decide +kernel) hW) (by omega) (by omega) ?_
    intro IhB2 ehB2 hB2
    have t3 := fup_self ehB2
    refine And.intro (True.intro) ?_
    exact ⟨_, rfl, by omega⟩
set_option maxRecDepth 8000 in
theorem ct_M_weather_26102 {I : fH} {x1 : Int} {x2 : Int} (h0 : fB bsJ I) (ha1 : ((-2147483648) ≤ x1 ∧ x1 ≤ 2147483647)) (ha2 : ((-2147483648) ≤ x2 ∧ x2 ≤ 2147483647)) : fC ρ base n F xTc vwCl xTys D dA la gJ (fbz bsJ znJ (fKc wz_c7e2d) I) xm_453 [.inr (.inr (some 740)), .inl x1, .inl x2] I (fun _ r => ∃ z, r = some (.inl z) ∧ ((-2147483648) ≤ z ∧ z ≤ 2147483647)) := by
  have hW : fzs wz_c7e2d (fKc wz_c7e2d) := fKc_ok _
  refine f_meth (rb := rbJ) (J := []) 1 400 xG xin_453 x6_453 okJ (fB_self h0) ?_ ?_
  · exact fun q h => absurd h List.not_mem_nil
  · have hB0 := fB_self (zn := znJ) (K := fKc wz_c7e2d) h0
    refine And.intro (by omega) ?_
    refine Exists.intro xm_238 (And.intro mi_238 (And.intro ⟨rfl, rfl, rfl, rfl⟩ (And.intro True.intro ?_)))
    refine fcallp hB0 (ct_M_isIn_27230 (fBz h0 hB0) (by omega) (by omega) (by omega)) ?_
    rintro _ ⟨z1, rfl, hz1⟩
    refine And.intro (by omega) (And.intro ?_ ?_)
    · intro c2
      refine And.intro (True.intro) ?_
      exact ⟨_, rfl, by omega⟩
    · intro c3
      refine And.intro (by omega) ?_
      refine Exists.intro xm_238 (And.intro mi_238 (And.intro ⟨rfl, rfl, rfl, rfl⟩ (And.intro True.intro ?_)))
      refine fcallp hB0 (ct_M_isIn_27230 (fBz h0 hB0) (by omega) (by omega) (by omega)) ?_
      rintro _ ⟨z4, rfl, hz4⟩
      refine And.intro (by omega) (And.intro ?_ ?_)
      · intro c5
        refine And.intro (True.intro) ?_
        exact ⟨_, rfl, by omega⟩
      · intro c6
        refine Exists.intro xm_242 (And.intro mi_242 (And.intro ⟨rfl, rfl, rfl, rfl⟩ (And.intro rfl ?_)))
        refine fcall _ h0 (fzs_sub (by decide +kernel) hW) hB0 (ct_M_put_6db37 (fBz h0 hB0) (by omega) (by omega)) ?_
        rintro IhB8 _ hB8 fhB8 ⟨z7, rfl, hz7⟩
        refine And.intro (True.intro) ?_
        exact ⟨_, rfl, by omega⟩
abbrev jc_Rounds_fallOf_9b67d_2 : Nat → fL → List fV → fH → Prop := fun m lv st I => ∃ (y1 : Int) (y2 : Int) (y3 : Int), lv = [(0, .inr (.inr (some 727))), (1, .inl y1), (2, .inl y2), (3, .inl y3)] ∧ st = [] ∧ (((0 ≤ y1 ∧ y1 ≤ 23) ∧ (0 ≤ y2 ∧ y2 ≤ 47) ∧ (0 ≤ y3 ∧ y3 ≤ 48))) ∧ m = (1 + 1 * (48 - y3) : Int).toNat
set_option maxRecDepth 8000 in
theorem ct_Rounds_fallOf_9b67d {I : fH} {x1 : Int} {x2 : Int} (h0 : fB bsJ I) (ha1 : (0 ≤ x1 ∧ x1 ≤ 23)) (ha2 : (0 ≤ x2 ∧ x2 ≤ 47)) : fC ρ base n F xTc vwCl xTys D dA la gJ (fbz bsJ znJ (fKc []) I) xm_182 [.inr (.inr (some 727)), .inl x1, .inl x2] I (fun _ r => ∃ z, r = some (.inl z) ∧ (0 ≤ z ∧ z ≤ 48)) := by
  have hW : fzs [] (fKc []) := fKc_ok _
  refine f_meth (rb := rbJ) (J := [(2, jc_Rounds_fallOf_9b67d_2)]) 50 400 xG xin_182 x6_182 okJ (fB_self h0) ?_ ?_
  · refine List.forall_mem_cons.mpr ⟨?_, fun q h => absurd h List.not_mem_nil⟩
    · rintro m _ _ I1 hB1 ⟨y1, y2, y3, rfl, rfl, hb, hm⟩
      refine And.intro ⟨rfl, by decide, by decide⟩ (fgetf fb_727_6 h0 hB1 ?_)
      intro z1 lz1 uz1 qz1
      refine And.intro (by omega) (And.intro ?_ ?_)
      · intro c2
        refine And.intro (True.intro) ?_
        exact ⟨_, rfl, by omega⟩
      · intro c3
        refine And.intro ⟨rfl, by decide, by decide⟩ ?_
        refine fload rL_728_728_0_23_1_0 h0 hB1 (by omega) ?_
        intro z4 lz4 uz4 qz4
        refine And.intro ⟨rfl, by decide, by decide⟩ ?_
        refine fload rL_729_729_0_23_1_0 h0 hB1 (by omega) ?_
        intro z5 lz5 uz5 qz5
        refine And.intro ⟨rfl, by decide, by decide⟩ ?_
        refine fload rL_731_731_0_48_1_0 h0 hB1 (by omega) ?_
        intro z6 lz6 uz6 qz6
        intro z7 hz7 ez7 bz7
        clear ez7
        clear bz7
        refine And.intro ⟨rfl, by decide, by decide⟩ ?_
        refine fload rL_731_731_0_48_1_0 h0 hB1 (by omega) ?_
        intro z8 lz8 uz8 qz8
        intro z9 hz9 ez9 bz9
        clear ez9
        clear bz9
        refine And.intro (And.intro (by omega) (And.intro (by omega) (And.intro (by omega) rfl))) ?_
        intro z10 hz10 ez10 dz10
        intro z11 hz11 ez11 bz11
        clear ez11
        clear bz11
        refine And.intro ⟨rfl, by decide, by decide⟩ (fgetf fb_727_7 h0 hB1 ?_)
        intro z12 lz12 uz12 qz12
        refine And.intro (by omega) (And.intro ?_ ?_)
        · intro c13
          refine And.intro (True.intro) ?_
          exact ⟨_, rfl, by omega⟩
        · intro c14
          exact fcutJ (I := I1) (j := jc_Rounds_fallOf_9b67d_2) (lv' := [(0, .inr (.inr (some 727))), (1, .inl _), (2, .inl _), (3, .inl _)]) (And.intro rfl (And.intro rfl (And.intro rfl (And.intro rfl True.intro)))) ⟨_, _, _, rfl, rfl, by omega, rfl⟩ (by omega)
  · have hB0 := fB_self (zn := znJ) (K := fKc []) h0
    exact fcutJ (I := I) (j := jc_Rounds_fallOf_9b67d_2) (lv' := [(0, .inr (.inr (some 727))), (1, .inl _), (2, .inl _), (3, .inl _)]) (And.intro rfl (And.intro rfl (And.intro rfl (And.intro rfl True.intro)))) ⟨_, _, _, rfl, rfl, by omega, rfl⟩ (by omega)
abbrev jc_Rounds_foretellAll_4ce3f_2 : Nat → fL → List fV → fH → Prop := fun m lv st I => ∃ (y2 : Int) (y3 : Int), lv = [(0, .inr (.inr (some 727))), (1, .inr (.inr (some 163))), (2, .inl y2), (3, .inl y3)] ∧ st = [] ∧ (((0 ≤ y2 ∧ y2 ≤ 47) ∧ (0 ≤ y3 ∧ y3 ≤ 24))) ∧ m = (1 + 1 * (24 - y3) : Int).toNat
set_option maxRecDepth 8000 in
theorem ct_Rounds_foretellAll_4ce3f {I : fH} {x2 : Int} (h0 : fB bsJ I) (ha2 : (0 ≤ x2 ∧ x2 ≤ 47)) : fC ρ base n F xTc vwCl xTys D dA la gJ (fbz bsJ znJ (fKc wz_01654) I) xm_181 [.inr (.inr (some 727)), .inr (.inr (some 163)), .inl x2] I (fun _ r => r = none) := by
  have hW : fzs wz_01654 (fKc wz_01654) := fKc_ok _
  refine f_meth (rb := rbJ) (J := [(2, jc_Rounds_foretellAll_4ce3f_2)]) 26 400 xG xin_181 x6_181 okJ (fB_self h0) ?_ ?_
  · refine List.forall_mem_cons.mpr ⟨?_, fun q h => absurd h List.not_mem_nil⟩
    · rintro m _ _ I1 hB1 ⟨y2, y3, rfl, rfl, hb, hm⟩
      refine And.intro ⟨rfl, by decide, by decide⟩ (fgetf fb_163_13 h0 hB1 ?_)
      intro z1 lz1 uz1 qz1
      refine And.intro (by omega) (And.intro ?_ ?_)
      · intro c2
        exact rfl
      · intro c3
        refine And.intro ⟨rfl, by decide, by decide⟩ ?_
        refine Exists.intro xm_64 (And.intro mi_64 (And.intro ⟨rfl, rfl, rfl, rfl⟩ (And.intro rfl ?_)))
        refine fcallp hB1 (ct_Works_isSkin_801f8 (fBz h0 hB1) (by omega)) ?_
        rintro _ ⟨z4, rfl, hz4⟩
        refine And.intro (by omega) (And.intro ?_ ?_)
        · intro c5
          refine And.intro ⟨rfl, by decide, by decide⟩ (fgetf fb_727_6 h0 hB1 ?_)
          intro z6 lz6 uz6 qz6
          refine fstore rS_730_730_0_23_1_0 (fzs_sub (by decide +kernel) hW) (by omega) (by omega) ?_
          intro IhB7 ehB7 hB7
          have t8 := fup_self ehB7
          have t9 : IhB7 163 13 = I1 163 13 := (congrFun (congrFun ehB7 163) 13).trans (fup_ne (by omega))
          exact fcutJ (I := IhB7) (j := jc_Rounds_foretellAll_4ce3f_2) (lv' := [(0, .inr (.inr (some 727))), (1, .inr (.inr (some 163))), (2, .inl _), (3, .inl _)]) (And.intro rfl (And.intro rfl (And.intro rfl (And.intro rfl True.intro)))) ⟨_, _, rfl, rfl, by omega, rfl⟩ (by omega)
        · intro c10
          refine Exists.intro xm_182 (And.intro mi_182 (And.intro ⟨rfl, rfl, rfl, rfl⟩ (And.intro rfl ?_)))
          refine fcallp hB1 (ct_Rounds_fallOf_9b67d (fBz h0 hB1) (by omega) (by omega)) ?_
          rintro _ ⟨z11, rfl, hz11⟩
          refine fstore rS_730_730_0_23_1_0 (fzs_sub (by decide +kernel) hW) (by omega) (by omega) ?_
          intro IhB12 ehB12 hB12
          have t13 := fup_self ehB12
          have t14 : IhB12 163 13 = I1 163 13 := (congrFun (congrFun ehB12 163) 13).trans (fup_ne (by omega))
          exact fcutJ (I := IhB12) (j := jc_Rounds_foretellAll_4ce3f_2) (lv' := [(0, .inr (.inr (some 727))), (1, .inr (.inr (some 163))), (2, .inl _), (3, .inl _)]) (And.intro rfl (And.intro rfl (And.intro rfl (And.intro rfl True.intro)))) ⟨_, _, rfl, rfl, by omega, rfl⟩ (by omega)
  · have hB0 := fB_self (zn := znJ) (K := fKc wz_01654) h0
    exact fcutJ (I := I) (j := jc_Rounds_foretellAll_4ce3f_2) (lv' := [(0, .inr (.inr (some 727))), (1, .inr (.inr (some 163))), (2, .inl _), (3, .inl _)]) (And.intro rfl (And.intro rfl (And.intro rfl (And.intro rfl True.intro)))) ⟨_, _, rfl, rfl, by omega, rfl⟩ (by omega)
abbrev jc_Rounds_sewNext_d8bbe_11 : Nat → fL → List fV → fH → Prop := fun m lv st I => ∃ (y2 : Int) (y3 : Int) (y4 : Int) (y5 : Int), lv = [(0, .inr (.inr (some 727))), (1, .inr (.inr (some 163))), (2, .inl y2), (3, .inl y3), (4, .inl y4), (5, .inl y5)] ∧ st = [] ∧ (((0 ≤ y2 ∧ y2 ≤ 47) ∧ ((-1) ≤ y3 ∧ y3 ≤ 23) ∧ ((-2147483648) ≤ y4 ∧ y4 ≤ 2147483647) ∧ (0 ≤ y5 ∧ y5 ≤ 24))) ∧ m = (1 + 1 * (24 - y5) : Int).toNat
set_option maxRecDepth 8000 in
theorem ct_Rounds_sewNext_d8bbe {I : fH} {x2 : Int} (h0 : fB bsJ I) (ha2 : (0 ≤ x2 ∧ x2 ≤ 47)) : fC ρ base n F xTc vwCl xTys D dA la gJ (fbz bsJ znJ (fKc wz_f185d) I) xm_183 [.inr (.inr (some 727)), .inr (.inr (some 163)), .inl x2] I (fun _ r => ∃ z, r = some (.inl z) ∧ ((-1) ≤ z ∧ z ≤ 23)) := by
  have hW : fzs wz_f185d (fKc wz_f185d) := fKc_ok _
  refine f_meth (rb := rbJ) (J := [(11, jc_Rounds_sewNext_d8bbe_11)]) 26 400 xG xin_183 x6_183 okJ (fB_self h0) ?_ ?_
  · refine List.forall_mem_cons.mpr ⟨?_, fun q h => absurd h List.not_mem_nil⟩
    · rintro m _ _ I1 hB1 ⟨y2, y3, y4, y5, rfl, rfl, hb, hm⟩
      refine And.intro ⟨rfl, by decide, by decide⟩ (fgetf fb_163_13 h0 hB1 ?_)
      intro z1 lz1 uz1 qz1
      refine And.intro (by omega) (And.intro ?_ ?_)
      · intro c2
        refine And.intro (by omega) (And.intro ?_ ?_)
        · intro c3
          refine And.intro (True.intro) ?_
          exact ⟨_, rfl, by omega⟩
        · intro c4
          refine And.intro ⟨rfl, by decide, by decide⟩ ?_
          refine fload rL_728_728_0_23_1_0 h0 hB1 (by omega) ?_
          intro z5 lz5 uz5 qz5
          intro z6 hz6 ez6 bz6
          clear ez6
          clear bz6
          refine fstore rS_728_728_0_23_1_0 (fzs_sub (by decide +kernel) hW) (by omega) (by omega) ?_
          intro IhB7 ehB7 hB7
          have t8 := fup_self ehB7
          have t9 : IhB7 163 13 = I1 163 13 := (congrFun (congrFun ehB7 163) 13).trans (fup_ne (by omega))
          refine And.intro ⟨rfl, by decide, by decide⟩ ?_
          refine Exists.intro xm_182 (And.intro mi_182 (And.intro ⟨rfl, rfl, rfl, rfl⟩ (And.intro rfl ?_)))
          refine fcallp hB7 (ct_Rounds_fallOf_9b67d (fBz h0 hB7) (by omega) (by omega)) ?_
          rintro _ ⟨z10, rfl, hz10⟩
          refine fstore rS_730_730_0_23_1_0 (fzs_sub (by decide +kernel) hW) (by omega) (by omega) ?_
          intro IhB11 ehB11 hB11
          have t12 := fup_self ehB11
          have t13 : IhB11 163 13 = IhB7 163 13 := (congrFun (congrFun ehB11 163) 13).trans (fup_ne (by omega))
          refine And.intro (True.intro) ?_
          exact ⟨_, rfl, by omega⟩
      · intro c14
        refine And.intro ⟨rfl, by decide, by decide⟩ ?_
        refine fload rL_730_730_0_23_1_0 h0 hB1 (by omega) ?_
        intro z15 lz15 uz15 qz15
        refine And.intro (by omega) (And.intro ?_ ?_)
        · intro c16
          exact fcutJ (I := I1) (j := jc_Rounds_sewNext_d8bbe_11) (lv' := [(0, .inr (.inr (some 727))), (1, .inr (.inr (some 163))), (2, .inl _), (3, .inl _), (4, .inl _), (5, .inl _)]) (And.intro rfl (And.intro rfl (And.intro rfl (And.intro rfl (And.intro rfl (And.intro rfl True.intro)))))) ⟨_, _, _, _, rfl, rfl, by omega, rfl⟩ (by omega)
        · intro c17
          refine And.intro ⟨rfl, by decide, by decide⟩ ?_
          refine fload rL_728_728_0_23_1_0 h0 hB1 (by omega) ?_
          intro z18 lz18 uz18 qz18
          refine And.intro (by omega) (And.intro ?_ ?_)
          · intro c19
            exact fcutJ (I := I1) (j := jc_Rounds_sewNext_d8bbe_11) (lv' := [(0, .inr (.inr (some 727))), (1, .inr (.inr (some 163))), (2, .inl _), (3, .inl _), (4, .inl _), (5, .inl _)]) (And.intro rfl (And.intro rfl (And.intro rfl (And.intro rfl (And.intro rfl (And.intro rfl True.intro)))))) ⟨_, _, _, _, rfl, rfl, by omega, rfl⟩ (by omega)
          · intro c20
            refine And.intro ⟨rfl, by decide, by decide⟩ ?_
            refine fload rL_730_730_0_23_1_0 h0 hB1 (by omega) ?_
            intro z21 lz21 uz21 qz21
            exact fcutJ (I := I1) (j := jc_Rounds_sewNext_d8bbe_11) (lv' := [(0, .inr (.inr (some 727))), (1, .inr (.inr (some 163))), (2, .inl _), (3, .inl _), (4, .inl _), (5, .inl _)]) (And.intro rfl (And.intro rfl (And.intro rfl (And.intro rfl (And.intro rfl (And.intro rfl True.intro)))))) ⟨_, _, _, _, rfl, rfl, by omega, rfl⟩ (by omega)
  · have hB0 := fB_self (zn := znJ) (K := fKc wz_f185d) h0
    refine And.intro ⟨rfl, by decide, by decide⟩ (fgetf fb_727_6 h0 hB0 ?_)
    intro z22 lz22 uz22 qz22
    exact fcutJ (I := I) (j := jc_Rounds_sewNext_d8bbe_11) (lv' := [(0, .inr (.inr (some 727))), (1, .inr (.inr (some 163))), (2, .inl _), (3, .inl _), (4, .inl _), (5, .inl _)]) (And.intro rfl (And.intro rfl (And.intro rfl (And.intro rfl (And.intro rfl (And.intro rfl True.intro)))))) ⟨_, _, _, _, rfl, rfl, by omega, rfl⟩ (by omega)
abbrev jc_Rounds_wearAll_7293e_2 : Nat → fL → List fV → fH → Prop := fun m lv st I => ∃ (y2 : Int) (y3 : Int), lv = [(0, .inr (.inr (some 727))), (1, .inr (.inr (some 163))), (2, .inl y2), (3, .inl y3)] ∧ st = [] ∧ (((0 ≤ y2 ∧ y2 ≤ 47) ∧ (0 ≤ y3 ∧ y3 ≤ 24))) ∧ m = (1 + 1 * (24 - y3) : Int).toNat
set_option maxRecDepth 8000 in
theorem ct_Rounds_wearAll_7293e {I : fH} {x2 : Int} (h0 : fB bsJ I) (ha2 : (0 ≤ x2 ∧ x2 ≤ 47)) : fC ρ base n F xTc vwCl xTys D dA la gJ (fbz bsJ znJ (fKc wz_2d739) I) xm_184 [.inr (.inr (some 727)), .inr (.inr (some 163)), .inl x2] I (fun _ r => r = none) := by
  have hW : fzs wz_2d739 (fKc wz_2d739) := fKc_ok _
  refine f_meth (rb := rbJ) (J := [(2, jc_Rounds_wearAll_7293e_2)]) 26 400 xG xin_184 x6_184 okJ (fB_self h0) ?_ ?_
  · refine List.forall_mem_cons.mpr ⟨?_, fun q h => absurd h List.not_mem_nil⟩
    · rintro m _ _ I1 hB1 ⟨y2, y3, rfl, rfl, hb, hm⟩
      refine And.intro ⟨rfl, by decide, by decide⟩ (fgetf fb_163_13 h0 hB1 ?_)
      intro z1 lz1 uz1 qz1
      refine And.intro (by omega) (And.intro ?_ ?_)
      · intro c2
        exact rfl
      · intro c3
        refine Exists.intro xm_64 (And.intro mi_64 (And.intro ⟨rfl, rfl, rfl, rfl⟩ (And.intro rfl ?_)))
        refine fcallp hB1 (ct_Works_isSkin_801f8 (fBz h0 hB1) (by omega)) ?_
        rintro _ ⟨z4, rfl, hz4⟩
        refine And.intro (by omega) (And.intro ?_ ?_)
        · intro c5
          exact fcutJ (I := I1) (j := jc_Rounds_wearAll_7293e_2) (lv' := [(0, .inr (.inr (some 727))), (1, .inr (.inr (some 163))), (2, .inl _), (3, .inl _)]) (And.intro rfl (And.intro rfl (And.intro rfl (And.intro rfl True.intro)))) ⟨_, _, rfl, rfl, by omega, rfl⟩ (by omega)
        · intro c6
          refine And.intro ⟨rfl, by decide, by decide⟩ ?_
          refine fload rL_729_729_0_23_1_0 h0 hB1 (by omega) ?_
          intro z7 lz7 uz7 qz7
          refine And.intro ⟨rfl, by decide, by decide⟩ ?_
          refine fload rL_731_731_0_48_1_0 h0 hB1 (by omega) ?_
          intro z8 lz8 uz8 qz8
          intro z9 hz9 ez9 bz9
          clear ez9
          clear bz9
          refine And.intro ⟨rfl, by decide, by decide⟩ ?_
          refine fload rL_731_731_0_48_1_0 h0 hB1 (by omega) ?_
          intro z10 lz10 uz10 qz10
          intro z11 hz11 ez11 bz11
          clear ez11
          clear bz11
          refine And.intro ⟨rfl, by decide, by decide⟩ ?_
          refine fload rL_728_728_0_23_1_0 h0 hB1 (by omega) ?_
          intro z12 lz12 uz12 qz12
          refine And.intro (And.intro (by omega) (And.intro (by omega) (And.intro (by omega) rfl))) ?_
          intro z13 hz13 ez13 dz13
          intro z14 hz14 ez14 bz14
          clear ez14
          clear bz14
          refine fstore rS_728_728_0_23_1_0 (fzs_sub (by decide +kernel) hW) (by omega) (by omega) ?_
          intro IhB15 ehB15 hB15
          have t16 := fup_self ehB15
          have t17 : IhB15 163 13 = I1 163 13 := (congrFun (congrFun ehB15 163) 13).trans (fup_ne (by omega))
          refine And.intro ⟨rfl, by decide, by decide⟩ ?_
          refine And.intro (And.intro (by omega) (And.intro (by omega) (And.intro (by omega) rfl))) ?_
          intro z18 hz18 ez18 dz18
          refine fstore rS_729_729_0_23_1_0 (fzs_sub (by decide +kernel) hW) (by omega) (by omega) ?_
          intro IhB19 ehB19 hB19
          have t20 := fup_self ehB19
          have t21 : IhB19 163 13 = IhB15 163 13 := (congrFun (congrFun ehB19 163) 13).trans (fup_ne (by omega))
          refine And.intro ⟨rfl, by decide, by decide⟩ ?_
          refine fload rL_728_728_0_23_1_0 h0 hB19 (by omega) ?_
          intro z22 lz22 uz22 qz22
          refine And.intro ⟨rfl, by decide, by decide⟩ (fgetf fb_727_7 h0 hB19 ?_)
          intro z23 lz23 uz23 qz23
          refine And.intro (by omega) (And.intro ?_ ?_)
          · intro c24
            exact fcutJ (I := IhB19) (j := jc_Rounds_wearAll_7293e_2) (lv' := [(0, .inr (.inr (some 727))), (1, .inr (.inr (some 163))), (2, .inl _), (3, .inl _)]) (And.intro rfl (And.intro rfl (And.intro rfl (And.intro rfl True.intro)))) ⟨_, _, rfl, rfl, by omega, rfl⟩ (by omega)
          · intro c25
            refine And.intro ⟨rfl, by decide, by decide⟩ (fgetf fb_727_0 h0 hB19 ?_)
            intro z26 lz26 uz26 qz26
            refine And.intro (by omega) (And.intro ?_ ?_)
            · intro c27
              exact fcutJ (I := IhB19) (j := jc_Rounds_wearAll_7293e_2) (lv' := [(0, .inr (.inr (some 727))), (1, .inr (.inr (some 163))), (2, .inl _), (3, .inl _)]) (And.intro rfl (And.intro rfl (And.intro rfl (And.intro rfl True.intro)))) ⟨_, _, rfl, rfl, by omega, rfl⟩ (by omega)
            · intro c28
              refine And.intro ⟨rfl, by decide, by decide⟩ (And.intro rfl (And.intro (Or.inl rfl) (fputf fb_727_0 (by decide +kernel) hW (by omega) ?_)))
              intro IhB29 ehB29 hB29
              have t30 : IhB29 163 13 = IhB19 163 13 := (congrFun (congrFun ehB29 163) 13).trans (fup_ne (by omega))
              exact fcutJ (I := IhB29) (j := jc_Rounds_wearAll_7293e_2) (lv' := [(0, .inr (.inr (some 727))), (1, .inr (.inr (some 163))), (2, .inl _), (3, .inl _)]) (And.intro rfl (And.intro rfl (And.intro rfl (And.intro rfl True.intro)))) ⟨_, _, rfl, rfl, by omega, rfl⟩ (by omega)
  · have hB0 := fB_self (zn := znJ) (K := fKc wz_2d739) h0
    exact fcutJ (I := I) (j := jc_Rounds_wearAll_7293e_2) (lv' := [(0, .inr (.inr (some 727))), (1, .inr (.inr (some 163))), (2, .inl _), (3, .inl _)]) (And.intro rfl (And.intro rfl (And.intro rfl (And.intro rfl True.intro)))) ⟨_, _, rfl, rfl, by omega, rfl⟩ (by omega)
abbrev jc_People_ableFitters_3cb68_4 : Nat → fL → List fV → fH → Prop := fun m lv st I => ∃ (y1 : Int) (y2 : Int), lv = [(0, .inr (.inr (some 177))), (1, .inl y1), (2, .inl y2)] ∧ st = [] ∧ ((((-2147483648) ≤ y1 ∧ y1 ≤ 2147483647) ∧ (0 ≤ y2 ∧ y2 ≤ 24))) ∧ m = (1 + 1 * (24 - y2) : Int).toNat
set_option maxRecDepth 8000 in
theorem ct_People_ableFitters_3cb68 {I : fH}  (h0 : fB bsJ I)  : fC ρ base n F xTc vwCl xTys D dA la gJ (fbz bsJ znJ (fKc []) I) xm_180 [.inr (.inr (some 177))] I (fun _ r => ∃ z, r = some (.inl z) ∧ ((-2147483648) ≤ z ∧ z ≤ 2147483647)) := by
  have hW : fzs [] (fKc []) := fKc_ok _
  refine f_meth (rb := rbJ) (J := [(4, jc_People_ableFitters_3cb68_4)]) 26 400 xG xin_180 x6_180 okJ (fB_self h0) ?_ ?_
  · refine List.forall_mem_cons.mpr ⟨?_, fun q h => absurd h List.not_mem_nil⟩
    · rintro m _ _ I1 hB1 ⟨y1, y2, rfl, rfl, hb, hm⟩
      refine And.intro ⟨rfl, by decide, by decide⟩ (fgetf fb_177_4 h0 hB1 ?_)
      intro z1 lz1 uz1 qz1
      refine And.intro (by omega) (And.intro ?_ ?_)
      · intro c2
        refine And.intro (True.intro) ?_
        exact ⟨_, rfl, by omega⟩
      · intro c3
        refine And.intro ⟨rfl, by decide, by decide⟩ ?_
        refine fload rL_179_179_0_23_1_0 h0 hB1 (by omega) ?_
        intro z4 lz4 uz4 qz4
        refine And.intro (by omega) (And.intro ?_ ?_)
        · intro c5
          exact fcutJ (I := I1) (j := jc_People_ableFitters_3cb68_4) (lv' := [(0, .inr (.inr (some 177))), (1, .inl _), (2, .inl _)]) (And.intro rfl (And.intro rfl (And.intro rfl True.intro))) ⟨_, _, rfl, rfl, by omega, rfl⟩ (by omega)
        · intro c6
          refine And.intro ⟨rfl, by decide, by decide⟩ ?_
          refine fload rL_181_181_0_23_1_0 h0 hB1 (by omega) ?_
          intro z7 lz7 uz7 qz7
          refine And.intro (by omega) (And.intro ?_ ?_)
          · intro c8
            exact fcutJ (I := I1) (j := jc_People_ableFitters_3cb68_4) (lv' := [(0, .inr (.inr (some 177))), (1, .inl _), (2, .inl _)]) (And.intro rfl (And.intro rfl (And.intro rfl True.intro))) ⟨_, _, rfl, rfl, by omega, rfl⟩ (by omega)
          · intro c9
            intro z10 hz10 bz10
            clear bz10
            exact fcutJ (I := I1) (j := jc_People_ableFitters_3cb68_4) (lv' := [(0, .inr (.inr (some 177))), (1, .inl _), (2, .inl _)]) (And.intro rfl (And.intro rfl (And.intro rfl True.intro))) ⟨_, _, rfl, rfl, by omega, rfl⟩ (by omega)
  · have hB0 := fB_self (zn := znJ) (K := fKc []) h0
    exact fcutJ (I := I) (j := jc_People_ableFitters_3cb68_4) (lv' := [(0, .inr (.inr (some 177))), (1, .inl _), (2, .inl _)]) (And.intro rfl (And.intro rfl (And.intro rfl True.intro))) ⟨_, _, rfl, rfl, by omega, rfl⟩ (by omega)
abbrev jc_Rounds_begin_a2ae2_30 : Nat → fL → List fV → fH → Prop := fun m lv st I => ∃ (y3 : Int), lv = [(0, .inr (.inr (some 727))), (2, .inr (.inr (some 211))), (3, .inl y3)] ∧ st = [] ∧ (((0 ≤ y3 ∧ y3 ≤ 48))) ∧ m = (1 + 1 * (48 - y3) : Int).toNat
set_option maxRecDepth 8000 in
theorem ct_Rounds_begin_a2ae2 {I : fH}  (h0 : fB bsJ I)  : fC ρ base n F xTc vwCl xTys D dA la gJ (fbz bsJ znJ (fKc wz_06305) I) xm_179 [.inr (.inr (some 727)), .inr (.inr (some 1)), .inr (.inr (some 211))] I (fun _ r => r = none) := by
  have hW : fzs wz_06305 (fKc wz_06305) := fKc_ok _
  refine f_meth (rb := rbJ) (J := [(30, jc_Rounds_begin_a2ae2_30)]) 50 400 xG xin_179 x6_179 okJ (fB_self h0) ?_ ?_
  · refine List.forall_mem_cons.mpr ⟨?_, fun q h => absurd h List.not_mem_nil⟩
    · rintro m _ _ I1 hB1 ⟨y3, rfl, rfl, hb, hm⟩
      refine And.intro ⟨rfl, by decide, by decide⟩ (fgetf fb_727_6 h0 hB1 ?_)
      intro z1 lz1 uz1 qz1
      refine And.intro (by omega) (And.intro ?_ ?_)
      · intro c2
        exact rfl
      · intro c3
        refine And.intro ⟨rfl, by decide, by decide⟩ ?_
        refine And.intro ⟨rfl, by decide, by decide⟩ ?_
        refine fload rL_731_731_0_48_1_0 h0 hB1 (by omega) ?_
        intro z4 lz4 uz4 qz4
        refine And.intro ⟨rfl, by decide, by decide⟩ ?_
        refine fload rL_222_222_0_47_1_0 h0 hB1 (by omega) ?_
        intro z5 lz5 uz5 qz5
        intro z6 hz6 ez6 bz6
        clear ez6
        clear bz6
        refine And.intro (And.intro (by omega) (And.intro (by omega) (And.intro (by omega) rfl))) ?_
        intro z7 hz7 ez7 dz7
        intro z8 hz8 ez8 bz8
        clear ez8
        clear bz8
        refine fstore rS_731_731_0_48_1_0 (fzs_sub (by decide +kernel) hW) (by omega) (by omega) ?_
        intro IhB9 ehB9 hB9
        have t10 := fup_self ehB9
        have t11 : IhB9 727 6 = I1 727 6 := (congrFun (congrFun ehB9 727) 6).trans (fup_ne (by omega))
        exact fcutJ (I := IhB9) (j := jc_Rounds_begin_a2ae2_30) (lv' := [(0, .inr (.inr (some 727))), (2, .inr (.inr (some 211))), (3, .inl _)]) (And.intro rfl (And.intro rfl (And.intro rfl True.intro))) ⟨_, rfl, rfl, by omega, rfl⟩ (by omega)
  · have hB0 := fB_self (zn := znJ) (K := fKc wz_06305) h0
    refine And.intro ⟨rfl, by decide, by decide⟩ ?_
    refine And.intro ⟨rfl, by decide, by decide⟩ ?_
    refine And.intro ⟨rfl, by decide, by decide⟩ ?_
    refine Exists.intro xm_75 (And.intro mi_75 (And.intro ⟨rfl, rfl, rfl, rfl⟩ (And.intro True.intro ?_)))
    refine fcall _ h0 (fzs_sub (by decide +kernel) hW) hB0 (ct_copyRow (W := [728]) (len := 24) (fBz h0 hB0) (frC_of (by decide +kernel))) ?_
    rintro IhB12 _ hB12 fhB12 ⟨rfl, ehB12⟩
    refine And.intro ⟨rfl, by decide, by decide⟩ ?_
    refine And.intro ⟨rfl, by decide, by decide⟩ ?_
    refine And.intro ⟨rfl, by decide, by decide⟩ ?_
    refine Exists.intro xm_75 (And.intro mi_75 (And.intro ⟨rfl, rfl, rfl, rfl⟩ (And.intro True.intro ?_)))
    refine fcall _ h0 (fzs_sub (by decide +kernel) hW) hB12 (ct_copyRow (W := [729]) (len := 24) (fBz h0 hB12) (frC_of (by decide +kernel))) ?_
    rintro IhB13 _ hB13 fhB13 ⟨rfl, ehB13⟩
    exact fcutJ (I := IhB13) (j := jc_Rounds_begin_a2ae2_30) (lv' := [(0, .inr (.inr (some 727))), (2, .inr (.inr (some 211))), (3, .inl _)]) (And.intro rfl (And.intro rfl (And.intro rfl True.intro))) ⟨_, rfl, rfl, by omega, rfl⟩ (by omega)
abbrev jc_Rounds_goRound_589d9_40 : Nat → fL → List fV → fH → Prop := fun m lv st I => ∃ (y3 : Int) (y5 : Int) (y6 : Int) (y7 : Int) (y8 : Int), lv = [(0, .inr (.inr (some 727))), (1, .inr (.inr (some 1))), (3, .inl y3), (5, .inl y5), (6, .inl y6), (7, .inl y7), (8, .inl y8)] ∧ st = [] ∧ (((1 ≤ y3 ∧ y3 ≤ 48) ∧ ((0 ≤ y5 ∧ y5 ≤ 23) ∨ y5 = (-1000000005)) ∧ ((0 ≤ y6 ∧ y6 ≤ 47) ∨ y6 = (-1000000005)) ∧ ((-2147483648) ≤ y7 ∧ y7 ≤ 2147483647) ∧ (0 ≤ y8 ∧ y8 ≤ 48) ∧ (1 ≤ I 727 6 ∧ I 727 6 ≤ 48) ∧ (0 ≤ I 727 7 ∧ I 727 7 ≤ 9))) ∧ m = (2147483649 + 2147483649 * (48 - y8) : Int).toNat
abbrev jc_Rounds_goRound_589d9_59 : Nat → fL → List fV → fH → Prop := fun m lv st I => ∃ (y3 : Int) (y5 : Int) (y6 : Int) (y7 : Int) (y8 : Int) (y9 : Int), lv = [(0, .inr (.inr (some 727))), (1, .inr (.inr (some 1))), (3, .inl y3), (5, .inl y5), (6, .inl y6), (7, .inl y7), (8, .inl y8), (9, .inl y9)] ∧ st = [] ∧ (((1 ≤ y3 ∧ y3 ≤ 48) ∧ ((0 ≤ y5 ∧ y5 ≤ 23) ∨ y5 = (-1000000005)) ∧ ((0 ≤ y6 ∧ y6 ≤ 47) ∨ y6 = (-1000000005)) ∧ ((-2147483648) ≤ y7 ∧ y7 ≤ 2147483647) ∧ (0 ≤ y8 ∧ y8 ≤ 47) ∧ (0 ≤ y9 ∧ y9 ≤ 2147483647) ∧ (1 ≤ I 727 6 ∧ I 727 6 ≤ 48) ∧ (0 ≤ I 727 7 ∧ I 727 7 ≤ 9))) ∧ m = (1 + 2147483649 * (48 - y8) + 1 * (2147483647 - y9) : Int).toNat
set_option maxRecDepth 8000 in
theorem ct_Rounds_goRound_589d9 {I : fH} {x3 : Int} {x4 : Int} {x5 : Int} {x6 : Int} (h0 : fB bsJ I) (ha3 : (1 ≤ x3 ∧ x3 ≤ 48)) (ha4 : (0 ≤ x4 ∧ x4 ≤ 9)) (ha5 : ((0 ≤ x5 ∧ x5 ≤ 23) ∨ x5 = (-1000000005))) (ha6 : ((0 ≤ x6 ∧ x6 ≤ 47) ∨ x6 = (-1000000005))) : fC ρ base n F xTc vwCl xTys D dA la gJ (fbz bsJ znJ (fKc wz_81562) I) xm_178 [.inr (.inr (some 727)), .inr (.inr (some 1)), .inr (.inr (some 211)), .inl x3, .inl x4, .inl x5, .inl x6] I (fun _ r => r = none) := by
  have hW : fzs wz_81562 (fKc wz_81562) := fKc_ok _
  refine f_meth (rb := rbJ) (J := [(40, jc_Rounds_goRound_589d9_40), (59, jc_Rounds_goRound_589d9_59)]) 105226698802 400 xG xin_178 x6_178 okJ (fB_self h0) ?_ ?_
  · refine List.forall_mem_cons.mpr ⟨?_, List.forall_mem_cons.mpr ⟨?_, fun q h => absurd h List.not_mem_nil⟩⟩
    · rintro m _ _ I1 hB1 ⟨y3, y5, y6, y7, y8, rfl, rfl, hb, hm⟩
      refine And.intro (by omega) (And.intro ?_ ?_)
      · intro c1
        exact rfl
      · intro c2
        refine And.intro ⟨rfl, by decide, by decide⟩ ?_
        refine Exists.intro xm_181 (And.intro mi_181 (And.intro ⟨rfl, rfl, rfl, rfl⟩ (And.intro rfl ?_)))
        refine fcall _ h0 (fzs_sub (by decide +kernel) hW) hB1 (ct_Rounds_foretellAll_4ce3f (fBz h0 hB1) (by omega)) ?_
        rintro IhB4 _ hB4 fhB4 rfl
        have t5 := fhB4 727 6 (by decide +kernel)
        have t6 := fhB4 727 7 (by decide +kernel)
        exact fcutJ (I := IhB4) (j := jc_Rounds_goRound_589d9_59) (lv' := [(0, .inr (.inr (some 727))), (1, .inr (.inr (some 1))), (3, .inl _), (5, .inl _), (6, .inl _), (7, .inl _), (8, .inl _), (9, .inl _)]) (And.intro rfl (And.intro rfl (And.intro rfl (And.intro rfl (And.intro rfl (And.intro rfl (And.intro rfl (And.intro rfl True.intro)))))))) ⟨_, _, _, _, _, _, rfl, rfl, by omega, rfl⟩ (by omega)
    · rintro m _ _ I1 hB1 ⟨y3, y5, y6, y7, y8, y9, rfl, rfl, hb, hm⟩
      refine And.intro (by omega) (And.intro ?_ ?_)
      · intro c7
        refine And.intro ⟨rfl, by decide, by decide⟩ ?_
        refine Exists.intro xm_184 (And.intro mi_184 (And.intro ⟨rfl, rfl, rfl, rfl⟩ (And.intro rfl ?_)))
        refine fcall _ h0 (fzs_sub (by decide +kernel) hW) hB1 (ct_Rounds_wearAll_7293e (fBz h0 hB1) (by omega)) ?_
        rintro IhB9 _ hB9 fhB9 rfl
        have t10 := fhB9 727 6 (by decide +kernel)
        have t11 := fhB9 727 7 (by decide +kernel)
        exact fcutJ (I := IhB9) (j := jc_Rounds_goRound_589d9_40) (lv' := [(0, .inr (.inr (some 727))), (1, .inr (.inr (some 1))), (3, .inl _), (5, .inl _), (6, .inl _), (7, .inl _), (8, .inl _)]) (And.intro rfl (And.intro rfl (And.intro rfl (And.intro rfl (And.intro rfl (And.intro rfl (And.intro rfl True.intro))))))) ⟨_, _, _, _, _, rfl, rfl, by omega, rfl⟩ (by omega)
      · intro c12
        refine And.intro ⟨rfl, by decide, by decide⟩ ?_
        refine Exists.intro xm_183 (And.intro mi_183 (And.intro ⟨rfl, rfl, rfl, rfl⟩ (And.intro rfl ?_)))
        refine fcall _ h0 (fzs_sub (by decide +kernel) hW) hB1 (ct_Rounds_sewNext_d8bbe (fBz h0 hB1) (by omega)) ?_
        rintro IhB14 _ hB14 fhB14 ⟨z13, rfl, hz13⟩
        have t15 := fhB14 727 6 (by decide +kernel)
        have t16 := fhB14 727 7 (by decide +kernel)
        refine And.intro (by omega) (And.intro ?_ ?_)
        · intro c17
          exact fcutJ (I := IhB14) (j := jc_Rounds_goRound_589d9_59) (lv' := [(0, .inr (.inr (some 727))), (1, .inr (.inr (some 1))), (3, .inl _), (5, .inl _), (6, .inl _), (7, .inl _), (8, .inl _), (9, .inl _)]) (And.intro rfl (And.intro rfl (And.intro rfl (And.intro rfl (And.intro rfl (And.intro rfl (And.intro rfl (And.intro rfl True.intro)))))))) ⟨_, _, _, _, _, _, rfl, rfl, by omega, rfl⟩ (by omega)
        · intro c18
          refine And.intro (by omega) (And.intro ?_ ?_)
          · intro c19
            exact fcutJ (I := IhB14) (j := jc_Rounds_goRound_589d9_59) (lv' := [(0, .inr (.inr (some 727))), (1, .inr (.inr (some 1))), (3, .inl _), (5, .inl _), (6, .inl _), (7, .inl _), (8, .inl _), (9, .inl _)]) (And.intro rfl (And.intro rfl (And.intro rfl (And.intro rfl (And.intro rfl (And.intro rfl (And.intro rfl (And.intro rfl True.intro)))))))) ⟨_, _, _, _, _, _, rfl, rfl, by omega, rfl⟩ (by omega)
          · intro c20
            refine And.intro ⟨rfl, by decide, by decide⟩ (fgetf fb_727_1 h0 hB14 ?_)
            intro z21 lz21 uz21 qz21
            intro z22 hz22 ez22 bz22
            clear ez22
            clear bz22
            refine And.intro ⟨rfl, by decide, by decide⟩ (And.intro rfl (And.intro (Or.inl rfl) (fputf fb_727_1 (by decide +kernel) hW (by omega) ?_)))
            intro IhB23 ehB23 hB23
            have t24 : IhB23 727 6 = IhB14 727 6 := (congrFun (congrFun ehB23 727) 6).trans (fup_ne (by omega))
            have t25 : IhB23 727 7 = IhB14 727 7 := (congrFun (congrFun ehB23 727) 7).trans (fup_ne (by omega))
            exact fcutJ (I := IhB23) (j := jc_Rounds_goRound_589d9_59) (lv' := [(0, .inr (.inr (some 727))), (1, .inr (.inr (some 1))), (3, .inl _), (5, .inl _), (6, .inl _), (7, .inl _), (8, .inl _), (9, .inl _)]) (And.intro rfl (And.intro rfl (And.intro rfl (And.intro rfl (And.intro rfl (And.intro rfl (And.intro rfl (And.intro rfl True.intro)))))))) ⟨_, _, _, _, _, _, rfl, rfl, by omega, rfl⟩ (by omega)
  · have hB0 := fB_self (zn := znJ) (K := fKc wz_81562) h0
    refine And.intro ⟨rfl, by decide, by decide⟩ (And.intro rfl (And.intro (Or.inl rfl) (fputf fb_727_6 (by decide +kernel) hW (by omega) ?_)))
    intro IhB26 ehB26 hB26
    have t27 := fup_at ehB26 6 (by omega)
    refine And.intro ⟨rfl, by decide, by decide⟩ (And.intro rfl (And.intro (Or.inl rfl) (fputf fb_727_7 (by decide +kernel) hW (by omega) ?_)))
    intro IhB28 ehB28 hB28
    have t29 : IhB28 727 6 = IhB26 727 6 := (congrFun (congrFun ehB28 727) 6).trans (fup_ne (by omega))
    have t30 := fup_at ehB28 7 (by omega)
    refine And.intro ⟨rfl, by decide, by decide⟩ (And.intro rfl (And.intro (Or.inl rfl) (fputf fb_727_0 (by decide +kernel) hW (by omega) ?_)))
    intro IhB31 ehB31 hB31
    have t32 := fup_at ehB31 0 (by omega)
    have t33 : IhB31 727 6 = IhB28 727 6 := (congrFun (congrFun ehB31 727) 6).trans (fup_ne (by omega))
    have t34 : IhB31 727 7 = IhB28 727 7 := (congrFun (congrFun ehB31 727) 7).trans (fup_ne (by omega))
    refine And.intro ⟨rfl, by decide, by decide⟩ (And.intro rfl (And.intro (Or.inl rfl) (fputf fb_727_1 (by decide +kernel) hW (by omega) ?_)))
    intro IhB35 ehB35 hB35
    have t36 : IhB35 727 0 = IhB31 727 0 := (congrFun (congrFun ehB35 727) 0).trans (fup_ne (by omega))
    have t37 := fup_at ehB35 1 (by omega)
    have t38 : IhB35 727 6 = IhB31 727 6 := (congrFun (congrFun ehB35 727) 6).trans (fup_ne (by omega))
    have t39 : IhB35 727 7 = IhB31 727 7 := (congrFun (congrFun ehB35 727) 7).trans (fup_ne (by omega))
    refine Exists.intro xm_179 (And.intro mi_179 (And.intro ⟨rfl, rfl, rfl, rfl⟩ (And.intro rfl ?_)))
    refine fcall _ h0 (fzs_sub (by decide +kernel) hW) hB35 (ct_Rounds_begin_a2ae2 (fBz h0 hB35)) ?_
    rintro IhB41 _ hB41 fhB41 rfl
    have t42 := fhB41 727 0 (by decide +kernel)
    have t43 := fhB41 727 1 (by decide +kernel)
    have t44 := fhB41 727 6 (by decide +kernel)
    have t45 := fhB41 727 7 (by decide +kernel)
    refine And.intro ⟨rfl, by decide, by decide⟩ ?_
    refine Exists.intro xm_180 (And.intro mi_180 (And.intro ⟨rfl, rfl, rfl, rfl⟩ (And.intro rfl ?_)))
    refine fcallp hB41 (ct_People_ableFitters_3cb68 (fBz h0 hB41)) ?_
    rintro _ ⟨z46, rfl, hz46⟩
    exact fcutJ (I := IhB41) (j := jc_Rounds_goRound_589d9_40) (lv' := [(0, .inr (.inr (some 727))), (1, .inr (.inr (some 1))), (3, .inl _), (5, .inl _), (6, .inl _), (7, .inl _), (8, .inl _)]) (And.intro rfl (And.intro rfl (And.intro rfl (And.intro rfl (And.intro rfl (And.intro rfl (And.intro rfl True.intro))))))) ⟨_, _, _, _, _, rfl, rfl, by omega, rfl⟩ (by omega)
set_option maxRecDepth 8000 in
theorem ct_X_lack_88d12 {I : fH} {x1 : Int} {x2 : Int} (h0 : fB bsJ I) (ha1 : ((-2147483648) ≤ x1 ∧ x1 ≤ 2147483647)) (ha2 : ((-2147483648) ≤ x2 ∧ x2 ≤ 2147483647)) : fC ρ base n F xTc vwCl xTys D dA la gJ (fbz bsJ znJ (fKc wz_81562) I) xm_177 [.inr (.inr (some 0)), .inl x1, .inl x2] I (fun _ r => ∃ z, r = some (.inl z) ∧ ((-2147483648) ≤ z ∧ z ≤ 2147483647)) := by
  have hW : fzs wz_81562 (fKc wz_81562) := fKc_ok _
  refine f_meth (rb := rbJ) (J := []) 1 400 xG xin_177 x6_177 okJ (fB_self h0) ?_ ?_
  · exact fun q h => absurd h List.not_mem_nil
  · have hB0 := fB_self (zn := znJ) (K := fKc wz_81562) h0
    refine Exists.intro xm_13 (And.intro mi_13 (And.intro ⟨rfl, rfl, rfl, rfl⟩ (And.intro True.intro ?_)))
    refine fcallp hB0 (ct_X_within_c27b1 (fBz h0 hB0) (by omega) (by omega) (by omega)) ?_
    rintro _ ⟨z1, rfl, hz1⟩
    refine And.intro (by omega) (And.intro ?_ ?_)
    · intro c2
      refine And.intro (True.intro) ?_
      exact ⟨_, rfl, by omega⟩
    · intro c3
      refine Exists.intro xm_13 (And.intro mi_13 (And.intro ⟨rfl, rfl, rfl, rfl⟩ (And.intro True.intro ?_)))
      refine fcallp hB0 (ct_X_within_c27b1 (fBz h0 hB0) (by omega) (by omega) (by omega)) ?_
      rintro _ ⟨z4, rfl, hz4⟩
      refine And.intro (by omega) (And.intro ?_ ?_)
      · intro c5
        refine And.intro ⟨rfl, by decide, by decide⟩ ?_
        refine And.intro ⟨rfl, by decide, by decide⟩ ?_
        refine And.intro ⟨rfl, by decide, by decide⟩ ?_
        refine Exists.intro xm_178 (And.intro mi_178 (And.intro ⟨rfl, rfl, rfl, rfl⟩ (And.intro rfl ?_)))
        refine fcall _ h0 (fzs_sub (by decide +kernel) hW) hB0 (ct_Rounds_goRound_589d9 (fBz h0 hB0) (by omega) (by omega) (by omega) (by omega)) ?_
        rintro IhB7 _ hB7 fhB7 rfl
        refine And.intro ⟨rfl, by decide, by decide⟩ ?_
        refine And.intro ⟨rfl, by decide, by decide⟩ (fgetf fb_727_0 h0 hB7 ?_)
        intro z8 lz8 uz8 qz8
        refine And.intro (True.intro) ?_
        exact ⟨_, rfl, by omega⟩
      · intro c9
        refine And.intro (True.intro) ?_
        exact ⟨_, rfl, by omega⟩
set_option maxRecDepth 8000 in
theorem ct_M_isSkin_da592 {I : fH} {x1 : Int} (h0 : fB bsJ I) (ha1 : (0 ≤ x1 ∧ x1 ≤ 23)) : fC ρ base n F xTc vwCl xTys D dA la gJ (fbz bsJ znJ (fKc []) I) xm_458 [.inr (.inr (some 740)), .inl x1] I (fun _ r => ∃ z, r = some (.inl z) ∧ (0 ≤ z ∧ z ≤ 1)) := by
  have hW : fzs [] (fKc []) := fKc_ok _
  refine f_meth (rb := rbJ) (J := []) 1 400 xG xin_458 x6_458 okJ (fB_self h0) ?_ ?_
  · exact fun q h => absurd h List.not_mem_nil
  · have hB0 := fB_self (zn := znJ) (K := fKc []) h0
    refine Exists.intro xm_267 (And.intro mi_267 (And.intro ⟨rfl, rfl, rfl, rfl⟩ (And.intro rfl ?_)))
    refine fcallp hB0 (ct_M_kindOf_31275 (fBz h0 hB0) (by omega)) ?_
    rintro _ ⟨z1, rfl, hz1⟩
    refine And.intro (by omega) (And.intro ?_ ?_)
    · intro c2
      refine And.intro (⟨by omega, by omega⟩) ?_
      exact ⟨_, rfl, by omega⟩
    · intro c3
      refine Exists.intro xm_245 (And.intro mi_245 (And.intro ⟨rfl, rfl, rfl, rfl⟩ (And.intro rfl ?_)))
      refine fcallp hB0 (ct_M_isGone_0de37 (fBz h0 hB0) (by omega)) ?_
      rintro _ ⟨z4, rfl, hz4⟩
      refine And.intro (by omega) (And.intro ?_ ?_)
      · intro c5
        refine And.intro (⟨by omega, by omega⟩) ?_
        exact ⟨_, rfl, by omega⟩
      · intro c6
        refine And.intro (⟨by omega, by omega⟩) ?_
        exact ⟨_, rfl, by omega⟩
abbrev jc_M_weathers_325ea_25 : Nat → fL → List fV → fH → Prop := fun m lv st I => lv = [(0, .inr (.inr (some 740)))] ∧ st = [] ∧ (True) ∧ m = (1 + 1 * I 740 28 : Int).toNat
set_option maxRecDepth 8000 in
theorem ct_M_weathers_325ea {I : fH} {x1 : Int} (h0 : fB bsJ I) (ha1 : (0 ≤ x1 ∧ x1 ≤ 47)) : fC ρ base n F xTc vwCl xTys D dA la gJ (fbz bsJ znJ (fKc wz_69d61) I) xm_460 [.inr (.inr (some 740)), .inl x1] I (fun _ r => r = none) := by
  have hW : fzs wz_69d61 (fKc wz_69d61) := fKc_ok _
  refine f_meth (rb := rbJ) (J := [(25, jc_M_weathers_325ea_25)]) 2147483650 400 xG xin_460 x6_460 okJ (fB_self h0) ?_ ?_
  · refine List.forall_mem_cons.mpr ⟨?_, fun q h => absurd h List.not_mem_nil⟩
    · rintro m _ _ I1 hB1 ⟨rfl, rfl, hb, hm⟩
      refine And.intro ⟨rfl, by decide, by decide⟩ (fgetf fb_740_28 h0 hB1 ?_)
      intro z1 lz1 uz1 qz1
      refine And.intro (by omega) (And.intro ?_ ?_)
      · intro c2
        exact rfl
      · intro c3
        refine And.intro ⟨rfl, by decide, by decide⟩ (fgetf fb_740_28 h0 hB1 ?_)
        intro z4 lz4 uz4 qz4
        refine And.intro ⟨rfl, by decide, by decide⟩ (And.intro rfl (And.intro (Or.inl rfl) (fputf fb_740_28 (by decide +kernel) hW (by omega) ?_)))
        intro IhB5 ehB5 hB5
        have t6 := fup_at ehB5 28 (by omega)
        refine And.intro ⟨rfl, by decide, by decide⟩ (fgetf fb_740_27 h0 hB5 ?_)
        intro z7 lz7 uz7 qz7
        intro z8 hz8 ez8 bz8
        clear ez8
        try replace bz8 := bz8 (by omega)
        refine And.intro ⟨rfl, by decide, by decide⟩ (And.intro rfl (And.intro (Or.inl rfl) (fputf fb_740_27 (by decide +kernel) hW (by omega) ?_)))
        intro IhB9 ehB9 hB9
        have t10 := fup_at ehB9 27 (by omega)
        have t11 : IhB9 740 28 = IhB5 740 28 := (congrFun (congrFun ehB9 740) 28).trans (fup_ne (by omega))
        exact fcutJ (I := IhB9) (j := jc_M_weathers_325ea_25) (lv' := [(0, .inr (.inr (some 740)))]) (And.intro rfl True.intro) ⟨rfl, rfl, True.intro, rfl⟩ (by omega)
  · have hB0 := fB_self (zn := znJ) (K := fKc wz_69d61) h0
    refine And.intro ⟨rfl, by decide, by decide⟩ (fgetf fb_740_28 h0 hB0 ?_)
    intro z12 lz12 uz12 qz12
    refine And.intro ⟨rfl, by decide, by decide⟩ ?_
    refine fload rL_741_741_4510_4557_1_0 h0 hB0 (by omega) ?_
    intro z13 lz13 uz13 qz13
    intro z14 hz14 ez14 bz14
    clear ez14
    try replace bz14 := bz14 (by omega)
    refine And.intro (And.intro (by omega) (And.intro (by omega) (And.intro (by omega) rfl))) ?_
    intro z15 hz15 ez15 dz15
    intro z16 hz16 ez16 bz16
    clear ez16
    try replace bz16 := bz16 (by omega)
    refine And.intro ⟨rfl, by decide, by decide⟩ (And.intro rfl (And.intro (Or.inl rfl) (fputf fb_740_28 (by decide +kernel) hW (by omega) ?_)))
    intro IhB17 ehB17 hB17
    have t18 := fup_at ehB17 28 (by omega)
    exact fcutJ (I := IhB17) (j := jc_M_weathers_325ea_25) (lv' := [(0, .inr (.inr (some 740)))]) (And.intro rfl True.intro) ⟨rfl, rfl, True.intro, rfl⟩ (by omega)
abbrev jc_M_fallsIn_0827b_23 : Nat → fL → List fV → fH → Prop := fun m lv st I => ∃ (y3 : Int) (y4 : Int) (y5 : Int), lv = [(0, .inr (.inr (some 740))), (3, .inl y3), (4, .inl y4), (5, .inl y5)] ∧ st = [] ∧ (((1 ≤ y3 ∧ y3 ≤ 48) ∧ (0 ≤ y4 ∧ y4 ≤ 9) ∧ (0 ≤ y5 ∧ y5 ≤ 48))) ∧ m = (1 + 1 * (48 - y5) : Int).toNat
set_option maxRecDepth 8000 in
theorem ct_M_fallsIn_0827b {I : fH} {x1 : Int} {x2 : Int} {x3 : Int} {x4 : Int} (h0 : fB bsJ I) (ha1 : (0 ≤ x1 ∧ x1 ≤ 23)) (ha2 : (0 ≤ x2 ∧ x2 ≤ 47)) (ha3 : (1 ≤ x3 ∧ x3 ≤ 48)) (ha4 : (0 ≤ x4 ∧ x4 ≤ 9)) : fC ρ base n F xTc vwCl xTys D dA la gJ (fbz bsJ znJ (fKc wz_69d61) I) xm_459 [.inr (.inr (some 740)), .inl x1, .inl x2, .inl x3, .inl x4] I (fun _ r => ∃ z, r = some (.inl z) ∧ (0 ≤ z ∧ z ≤ 48)) := by
  have hW : fzs wz_69d61 (fKc wz_69d61) := fKc_ok _
  refine f_meth (rb := rbJ) (J := [(23, jc_M_fallsIn_0827b_23)]) 50 400 xG xin_459 x6_459 okJ (fB_self h0) ?_ ?_
  · refine List.forall_mem_cons.mpr ⟨?_, fun q h => absurd h List.not_mem_nil⟩
    · rintro m _ _ I1 hB1 ⟨y3, y4, y5, rfl, rfl, hb, hm⟩
      refine And.intro (by omega) (And.intro ?_ ?_)
      · intro c1
        refine And.intro (True.intro) ?_
        exact ⟨_, rfl, by omega⟩
      · intro c2
        refine Exists.intro xm_460 (And.intro mi_460 (And.intro ⟨rfl, rfl, rfl, rfl⟩ (And.intro rfl ?_)))
        refine fcall _ h0 (fzs_sub (by decide +kernel) hW) hB1 (ct_M_weathers_325ea (fBz h0 hB1) (by omega)) ?_
        rintro IhB4 _ hB4 fhB4 rfl
        refine And.intro ⟨rfl, by decide, by decide⟩ (fgetf fb_740_27 h0 hB4 ?_)
        intro z5 lz5 uz5 qz5
        refine And.intro (by omega) (And.intro ?_ ?_)
        · intro c6
          exact fcutJ (I := IhB4) (j := jc_M_fallsIn_0827b_23) (lv' := [(0, .inr (.inr (some 740))), (3, .inl _), (4, .inl _), (5, .inl _)]) (And.intro rfl (And.intro rfl (And.intro rfl (And.intro rfl True.intro)))) ⟨_, _, _, rfl, rfl, by omega, rfl⟩ (by omega)
        · intro c7
          refine And.intro (True.intro) ?_
          exact ⟨_, rfl, by omega⟩
  · have hB0 := fB_self (zn := znJ) (K := fKc wz_69d61) h0
    refine And.intro ⟨rfl, by decide, by decide⟩ ?_
    refine fload rL_754_754_0_23_1_0 h0 hB0 (by omega) ?_
    intro z8 lz8 uz8 qz8
    refine And.intro ⟨rfl, by decide, by decide⟩ (And.intro rfl (And.intro (Or.inl rfl) (fputf fb_740_27 (by decide +kernel) hW (by omega) ?_)))
    intro IhB9 ehB9 hB9
    have t10 := fup_at ehB9 27 (by omega)
    refine And.intro ⟨rfl, by decide, by decide⟩ ?_
    refine fload rL_755_755_0_23_1_0 h0 hB9 (by omega) ?_
    intro z11 lz11 uz11 qz11
    refine And.intro ⟨rfl, by decide, by decide⟩ (And.intro rfl (And.intro (Or.inl rfl) (fputf fb_740_28 (by decide +kernel) hW (by omega) ?_)))
    intro IhB12 ehB12 hB12
    have t13 : IhB12 740 27 = IhB9 740 27 := (congrFun (congrFun ehB12 740) 27).trans (fup_ne (by omega))
    have t14 := fup_at ehB12 28 (by omega)
    exact fcutJ (I := IhB12) (j := jc_M_fallsIn_0827b_23) (lv' := [(0, .inr (.inr (some 740))), (3, .inl _), (4, .inl _), (5, .inl _)]) (And.intro rfl (And.intro rfl (And.intro rfl (And.intro rfl True.intro)))) ⟨_, _, _, rfl, rfl, by omega, rfl⟩ (by omega)
abbrev jc_M_nextSkin_f6b67_9 : Nat → fL → List fV → fH → Prop := fun m lv st I => ∃ (y1 : Int) (y2 : Int) (y3 : Int) (y4 : Int) (y5 : Int) (y6 : Int), lv = [(0, .inr (.inr (some 740))), (1, .inl y1), (2, .inl y2), (3, .inl y3), (4, .inl y4), (5, .inl y5), (6, .inl y6)] ∧ st = [] ∧ (((0 ≤ y1 ∧ y1 ≤ 47) ∧ (1 ≤ y2 ∧ y2 ≤ 48) ∧ (0 ≤ y3 ∧ y3 ≤ 9) ∧ ((-1) ≤ y4 ∧ y4 ≤ 23) ∧ (0 ≤ y5 ∧ y5 ≤ 48) ∧ (0 ≤ y6 ∧ y6 ≤ 24))) ∧ m = (2 + 2 * (24 - y6) : Int).toNat
abbrev jc_M_nextSkin_f6b67_54 : Nat → fL → List fV → fH → Prop := fun m lv st I => ∃ (y1 : Int) (y2 : Int) (y3 : Int) (y4 : Int) (y5 : Int) (y6 : Int), lv = [(0, .inr (.inr (some 740))), (1, .inl y1), (2, .inl y2), (3, .inl y3), (4, .inl y4), (5, .inl y5), (6, .inl y6)] ∧ st = [] ∧ (((0 ≤ y1 ∧ y1 ≤ 47) ∧ (1 ≤ y2 ∧ y2 ≤ 48) ∧ (0 ≤ y3 ∧ y3 ≤ 9) ∧ ((-1) ≤ y4 ∧ y4 ≤ 23) ∧ (0 ≤ y5 ∧ y5 ≤ 48) ∧ (0 ≤ y6 ∧ y6 ≤ 23) ∧ (1 ≤ I 741 7 ∧ I 741 7 ≤ 24))) ∧ m = (1 + 2 * (24 - y6) : Int).toNat
set_option maxRecDepth 8000 in
theorem ct_M_nextSkin_f6b67 {I : fH} {x1 : Int} {x2 : Int} {x3 : Int} (h0 : fB bsJ I) (ha1 : (0 ≤ x1 ∧ x1 ≤ 47)) (ha2 : (1 ≤ x2 ∧ x2 ≤ 48)) (ha3 : (0 ≤ x3 ∧ x3 ≤ 9)) : fC ρ base n F xTc vwCl xTys D dA la gJ (fbz bsJ znJ (fKc wz_69d61) I) xm_457 [.inr (.inr (some 740)), .inl x1, .inl x2, .inl x3] I (fun _ r => ∃ z, r = some (.inl z) ∧ ((-1) ≤ z ∧ z ≤ 23)) := by
  have hW : fzs wz_69d61 (fKc wz_69d61) := fKc_ok _
  refine f_meth (rb := rbJ) (J := [(9, jc_M_nextSkin_f6b67_9), (54, jc_M_nextSkin_f6b67_54)]) 51 400 xG xin_457 x6_457 okJ (fB_self h0) ?_ ?_
  · refine List.forall_mem_cons.mpr ⟨?_, List.forall_mem_cons.mpr ⟨?_, fun q h => absurd h List.not_mem_nil⟩⟩
    · rintro m _ _ I1 hB1 ⟨y1, y2, y3, y4, y5, y6, rfl, rfl, hb, hm⟩
      refine And.intro ⟨rfl, by decide, by decide⟩ ?_
      refine fload rL_741_741_7_7_1_0 h0 hB1 (by omega) ?_
      intro z1 lz1 uz1 qz1
      have pz1 := fld_at qz1 7 (by omega)
      refine And.intro (by omega) (And.intro ?_ ?_)
      · intro c2
        refine And.intro (True.intro) ?_
        exact ⟨_, rfl, by omega⟩
      · intro c3
        refine Exists.intro xm_458 (And.intro mi_458 (And.intro ⟨rfl, rfl, rfl, rfl⟩ (And.intro rfl ?_)))
        refine fcallp hB1 (ct_M_isSkin_da592 (fBz h0 hB1) (by omega)) ?_
        rintro _ ⟨z4, rfl, hz4⟩
        refine And.intro (by omega) (And.intro ?_ ?_)
        · intro c5
          exact fcutJ (I := I1) (j := jc_M_nextSkin_f6b67_54) (lv' := [(0, .inr (.inr (some 740))), (1, .inl _), (2, .inl _), (3, .inl _), (4, .inl _), (5, .inl _), (6, .inl _)]) (And.intro rfl (And.intro rfl (And.intro rfl (And.intro rfl (And.intro rfl (And.intro rfl (And.intro rfl True.intro))))))) ⟨_, _, _, _, _, _, rfl, rfl, by omega, rfl⟩ (by omega)
        · intro c6
          refine And.intro ⟨rfl, by decide, by decide⟩ ?_
          refine fload rL_754_754_0_23_1_0 h0 hB1 (by omega) ?_
          intro z7 lz7 uz7 qz7
          refine And.intro (by omega) (And.intro ?_ ?_)
          · intro c8
            exact fcutJ (I := I1) (j := jc_M_nextSkin_f6b67_54) (lv' := [(0, .inr (.inr (some 740))), (1, .inl _), (2, .inl _), (3, .inl _), (4, .inl _), (5, .inl _), (6, .inl _)]) (And.intro rfl (And.intro rfl (And.intro rfl (And.intro rfl (And.intro rfl (And.intro rfl (And.intro rfl True.intro))))))) ⟨_, _, _, _, _, _, rfl, rfl, by omega, rfl⟩ (by omega)
          · intro c9
            refine Exists.intro xm_459 (And.intro mi_459 (And.intro ⟨rfl, rfl, rfl, rfl⟩ (And.intro rfl ?_)))
            refine fcall _ h0 (fzs_sub (by decide +kernel) hW) hB1 (ct_M_fallsIn_0827b (fBz h0 hB1) (by omega) (by omega) (by omega) (by omega)) ?_
            rintro IhB11 _ hB11 fhB11 ⟨z10, rfl, hz10⟩
            have t12 := fhB11 741 7 (by decide +kernel)
            refine And.intro (by omega) (And.intro ?_ ?_)
            · intro c13
              refine And.intro (by omega) (And.intro ?_ ?_)
              · intro c14
                exact fcutJ (I := IhB11) (j := jc_M_nextSkin_f6b67_9) (lv' := [(0, .inr (.inr (some 740))), (1, .inl _), (2, .inl _), (3, .inl _), (4, .inl _), (5, .inl _), (6, .inl _)]) (And.intro rfl (And.intro rfl (And.intro rfl (And.intro rfl (And.intro rfl (And.intro rfl (And.intro rfl True.intro))))))) ⟨_, _, _, _, _, _, rfl, rfl, by omega, rfl⟩ (by omega)
              · intro c15
                exact fcutJ (I := IhB11) (j := jc_M_nextSkin_f6b67_9) (lv' := [(0, .inr (.inr (some 740))), (1, .inl _), (2, .inl _), (3, .inl _), (4, .inl _), (5, .inl _), (6, .inl _)]) (And.intro rfl (And.intro rfl (And.intro rfl (And.intro rfl (And.intro rfl (And.intro rfl (And.intro rfl True.intro))))))) ⟨_, _, _, _, _, _, rfl, rfl, by omega, rfl⟩ (by omega)
            · intro c16
              refine And.intro (by omega) (And.intro ?_ ?_)
              · intro c17
                exact fcutJ (I := IhB11) (j := jc_M_nextSkin_f6b67_9) (lv' := [(0, .inr (.inr (some 740))), (1, .inl _), (2, .inl _), (3, .inl _), (4, .inl _), (5, .inl _), (6, .inl _)]) (And.intro rfl (And.intro rfl (And.intro rfl (And.intro rfl (And.intro rfl (And.intro rfl (And.intro rfl True.intro))))))) ⟨_, _, _, _, _, _, rfl, rfl, by omega, rfl⟩ (by omega)
              · intro c18
                exact fcutJ (I := IhB11) (j := jc_M_nextSkin_f6b67_9) (lv' := [(0, .inr (.inr (some 740))), (1, .inl _), (2, .inl _), (3, .inl _), (4, .inl _), (5, .inl _), (6, .inl _)]) (And.intro rfl (And.intro rfl (And.intro rfl (And.intro rfl (And.intro rfl (And.intro rfl (And.intro rfl True.intro))))))) ⟨_, _, _, _, _, _, rfl, rfl, by omega, rfl⟩ (by omega)
    · rintro m _ _ I1 hB1 ⟨y1, y2, y3, y4, y5, y6, rfl, rfl, hb, hm⟩
      refine And.intro (by omega) (And.intro ?_ ?_)
      · intro c19
        refine And.intro (by omega) (And.intro ?_ ?_)
        · intro c20
          exact fcutJ (I := I1) (j := jc_M_nextSkin_f6b67_9) (lv' := [(0, .inr (.inr (some 740))), (1, .inl _), (2, .inl _), (3, .inl _), (4, .inl _), (5, .inl _), (6, .inl _)]) (And.intro rfl (And.intro rfl (And.intro rfl (And.intro rfl (And.intro rfl (And.intro rfl (And.intro rfl True.intro))))))) ⟨_, _, _, _, _, _, rfl, rfl, by omega, rfl⟩ (by omega)
        · intro c21
          exact fcutJ (I := I1) (j := jc_M_nextSkin_f6b67_9) (lv' := [(0, .inr (.inr (some 740))), (1, .inl _), (2, .inl _), (3, .inl _), (4, .inl _), (5, .inl _), (6, .inl _)]) (And.intro rfl (And.intro rfl (And.intro rfl (And.intro rfl (And.intro rfl (And.intro rfl (And.intro rfl True.intro))))))) ⟨_, _, _, _, _, _, rfl, rfl, by omega, rfl⟩ (by omega)
      · intro c22
        refine And.intro (by omega) (And.intro ?_ ?_)
        · intro c23
          exact fcutJ (I := I1) (j := jc_M_nextSkin_f6b67_9) (lv' := [(0, .inr (.inr (some 740))), (1, .inl _), (2, .inl _), (3, .inl _), (4, .inl _), (5, .inl _), (6, .inl _)]) (And.intro rfl (And.intro rfl (And.intro rfl (And.intro rfl (And.intro rfl (And.intro rfl (And.intro rfl True.intro))))))) ⟨_, _, _, _, _, _, rfl, rfl, by omega, rfl⟩ (by omega)
        · intro c24
          exact fcutJ (I := I1) (j := jc_M_nextSkin_f6b67_9) (lv' := [(0, .inr (.inr (some 740))), (1, .inl _), (2, .inl _), (3, .inl _), (4, .inl _), (5, .inl _), (6, .inl _)]) (And.intro rfl (And.intro rfl (And.intro rfl (And.intro rfl (And.intro rfl (And.intro rfl (And.intro rfl True.intro))))))) ⟨_, _, _, _, _, _, rfl, rfl, by omega, rfl⟩ (by omega)
  · have hB0 := fB_self (zn := znJ) (K := fKc wz_69d61) h0
    exact fcutJ (I := I) (j := jc_M_nextSkin_f6b67_9) (lv' := [(0, .inr (.inr (some 740))), (1, .inl _), (2, .inl _), (3, .inl _), (4, .inl _), (5, .inl _), (6, .inl _)]) (And.intro rfl (And.intro rfl (And.intro rfl (And.intro rfl (And.intro rfl (And.intro rfl (And.intro rfl True.intro))))))) ⟨_, _, _, _, _, _, rfl, rfl, by omega, rfl⟩ (by omega)
abbrev jc_M_fitters_2c584_4 : Nat → fL → List fV → fH → Prop := fun m lv st I => ∃ (y1 : Int) (y2 : Int), lv = [(0, .inr (.inr (some 740))), (1, .inl y1), (2, .inl y2)] ∧ st = [] ∧ ((((-2147483648) ≤ y1 ∧ y1 ≤ 2147483647) ∧ (0 ≤ y2 ∧ y2 ≤ 24))) ∧ m = (1 + 1 * (24 - y2) : Int).toNat
set_option maxRecDepth 8000 in
theorem ct_M_fitters_2c584 {I : fH}  (h0 : fB bsJ I)  : fC ρ base n F xTc vwCl xTys D dA la gJ (fbz bsJ znJ (fKc []) I) xm_456 [.inr (.inr (some 740))] I (fun _ r => ∃ z, r = some (.inl z) ∧ ((-2147483648) ≤ z ∧ z ≤ 2147483647)) := by
  have hW : fzs [] (fKc []) := fKc_ok _
  refine f_meth (rb := rbJ) (J := [(4, jc_M_fitters_2c584_4)]) 26 400 xG xin_456 x6_456 okJ (fB_self h0) ?_ ?_
  · refine List.forall_mem_cons.mpr ⟨?_, fun q h => absurd h List.not_mem_nil⟩
    · rintro m _ _ I1 hB1 ⟨y1, y2, rfl, rfl, hb, hm⟩
      refine And.intro ⟨rfl, by decide, by decide⟩ ?_
      refine fload rL_741_741_8_8_1_0 h0 hB1 (by omega) ?_
      intro z1 lz1 uz1 qz1
      have pz1 := fld_at qz1 8 (by omega)
      refine And.intro (by omega) (And.intro ?_ ?_)
      · intro c2
        refine And.intro (True.intro) ?_
        exact ⟨_, rfl, by omega⟩
      · intro c3
        refine And.intro ⟨rfl, by decide, by decide⟩ ?_
        refine Exists.intro xm_247 (And.intro mi_247 (And.intro ⟨rfl, rfl, rfl, rfl⟩ (And.intro rfl ?_)))
        refine fcallp hB1 (ct_M_personAt_9b331 (fBz h0 hB1) (by omega)) ?_
        rintro _ ⟨_, rfl, rfl⟩
        refine fload rL_741_741_871_1009_6_0 h0 hB1 (by omega) ?_
        intro z5 lz5 uz5 qz5
        refine And.intro (by omega) (And.intro ?_ ?_)
        · intro c6
          intro z7 hz7 ez7 bz7
          clear ez7
          clear bz7
          exact fcutJ (I := I1) (j := jc_M_fitters_2c584_4) (lv' := [(0, .inr (.inr (some 740))), (1, .inl _), (2, .inl _)]) (And.intro rfl (And.intro rfl (And.intro rfl True.intro))) ⟨_, _, rfl, rfl, by omega, rfl⟩ (by omega)
        · intro c8
          refine And.intro ⟨rfl, by decide, by decide⟩ ?_
          refine Exists.intro xm_247 (And.intro mi_247 (And.intro ⟨rfl, rfl, rfl, rfl⟩ (And.intro rfl ?_)))
          refine fcallp hB1 (ct_M_personAt_9b331 (fBz h0 hB1) (by omega)) ?_
          rintro _ ⟨_, rfl, rfl⟩
          refine fload rL_741_741_873_1011_6_0 h0 hB1 (by omega) ?_
          intro z10 lz10 uz10 qz10
          refine And.intro (by omega) (And.intro ?_ ?_)
          · intro c11
            intro z12 hz12 ez12 bz12
            clear ez12
            clear bz12
            exact fcutJ (I := I1) (j := jc_M_fitters_2c584_4) (lv' := [(0, .inr (.inr (some 740))), (1, .inl _), (2, .inl _)]) (And.intro rfl (And.intro rfl (And.intro rfl True.intro))) ⟨_, _, rfl, rfl, by omega, rfl⟩ (by omega)
          · intro c13
            intro z14 hz14 ez14 bz14
            clear ez14
            clear bz14
            exact fcutJ (I := I1) (j := jc_M_fitters_2c584_4) (lv' := [(0, .inr (.inr (some 740))), (1, .inl _), (2, .inl _)]) (And.intro rfl (And.intro rfl (And.intro rfl True.intro))) ⟨_, _, rfl, rfl, by omega, rfl⟩ (by omega)
  · have hB0 := fB_self (zn := znJ) (K := fKc []) h0
    exact fcutJ (I := I) (j := jc_M_fitters_2c584_4) (lv' := [(0, .inr (.inr (some 740))), (1, .inl _), (2, .inl _)]) (And.intro rfl (And.intro rfl (And.intro rfl True.intro))) ⟨_, _, rfl, rfl, by omega, rfl⟩ (by omega)
abbrev jc_M_rounds_3e399_3 : Nat → fL → List fV → fH → Prop := fun m lv st I => ∃ (y1 : Int) (y2 : Int) (y3 : Int) (y4 : Int) (y5 : Int), lv = [(0, .inr (.inr (some 740))), (1, .inl y1), (2, .inl y2), (3, .inl y3), (4, .inl y4), (5, .inl y5)] ∧ st = [] ∧ (((1 ≤ y1 ∧ y1 ≤ 48) ∧ (0 ≤ y2 ∧ y2 ≤ 9) ∧ ((-1) ≤ y3 ∧ y3 ≤ 23) ∧ (0 ≤ y4 ∧ y4 ≤ 47) ∧ (0 ≤ y5 ∧ y5 ≤ 24))) ∧ m = (210453398779 + 1 * (24 - y5) : Int).toNat
abbrev jc_M_rounds_3e399_73 : Nat → fL → List fV → fH → Prop := fun m lv st I => ∃ (y1 : Int) (y2 : Int) (y3 : Int) (y4 : Int) (y5 : Int) (y6 : Int), lv = [(0, .inr (.inr (some 740))), (1, .inl y1), (2, .inl y2), (3, .inl y3), (4, .inl y4), (5, .inl y5), (6, .inl y6)] ∧ st = [] ∧ (((1 ≤ y1 ∧ y1 ≤ 48) ∧ (0 ≤ y2 ∧ y2 ≤ 9) ∧ ((-1) ≤ y3 ∧ y3 ≤ 23) ∧ (0 ≤ y4 ∧ y4 ≤ 47) ∧ ((-1) ≤ y5 ∧ y5 ≤ 47) ∧ (0 ≤ y6 ∧ y6 ≤ 48))) ∧ m = (4294967322 + 4294967322 * (48 - y6) : Int).toNat
abbrev jc_M_rounds_3e399_85 : Nat → fL → List fV → fH → Prop := fun m lv st I => ∃ (y1 : Int) (y2 : Int) (y3 : Int) (y4 : Int) (y5 : Int) (y6 : Int) (y7 : Int), lv = [(0, .inr (.inr (some 740))), (1, .inl y1), (2, .inl y2), (3, .inl y3), (4, .inl y4), (5, .inl y5), (6, .inl y6), (7, .inl y7)] ∧ st = [] ∧ (((1 ≤ y1 ∧ y1 ≤ 48) ∧ (0 ≤ y2 ∧ y2 ≤ 9) ∧ ((-1) ≤ y3 ∧ y3 ≤ 23) ∧ (0 ≤ y4 ∧ y4 ≤ 47) ∧ ((-1) ≤ y5 ∧ y5 ≤ 47) ∧ (0 ≤ y6 ∧ y6 ≤ 47) ∧ ((-2147483648) ≤ y7 ∧ y7 ≤ 2147483647))) ∧ m = (26 + 4294967322 * (48 - y6) + 1 * (y7 - (-2147483648)) : Int).toNat
abbrev jc_M_rounds_3e399_152 : Nat → fL → List fV → fH → Prop := fun m lv st I => ∃ (y1 : Int) (y2 : Int) (y3 : Int) (y4 : Int) (y5 : Int) (y6 : Int) (y7 : Int), lv = [(0, .inr (.inr (some 740))), (1, .inl y1), (2, .inl y2), (3, .inl y3), (4, .inl y4), (5, .inl y5), (6, .inl y6), (7, .inl y7)] ∧ st = [] ∧ (((1 ≤ y1 ∧ y1 ≤ 48) ∧ (0 ≤ y2 ∧ y2 ≤ 9) ∧ ((-1) ≤ y3 ∧ y3 ≤ 23) ∧ (0 ≤ y4 ∧ y4 ≤ 47) ∧ ((-1) ≤ y5 ∧ y5 ≤ 47) ∧ (0 ≤ y6 ∧ y6 ≤ 47) ∧ (0 ≤ y7 ∧ y7 ≤ 24))) ∧ m = (1 + 4294967322 * (48 - y6) + 1 * (24 - y7) : Int).toNat
set_option maxRecDepth 8000 in
theorem ct_M_rounds_3e399 {I : fH} {x1 : Int} {x2 : Int} {x3 : Int} {x4 : Int} (h0 : fB bsJ I) (ha1 : (1 ≤ x1 ∧ x1 ≤ 48)) (ha2 : (0 ≤ x2 ∧ x2 ≤ 9)) (ha3 : ((-1) ≤ x3 ∧ x3 ≤ 23)) (ha4 : (0 ≤ x4 ∧ x4 ≤ 47)) : fC ρ base n F xTc vwCl xTys D dA la gJ (fbz bsJ znJ (fKc wz_e4773) I) xm_455 [.inr (.inr (some 740)), .inl x1, .inl x2, .inl x3, .inl x4] I (fun _ r => ∃ z, r = some (.inl z) ∧ ((-1) ≤ z ∧ z ≤ 47)) := by
  have hW : fzs wz_e4773 (fKc wz_e4773) := fKc_ok _
  refine f_meth (rb := rbJ) (J := [(3, jc_M_rounds_3e399_3), (73, jc_M_rounds_3e399_73), (85, jc_M_rounds_3e399_85), (152, jc_M_rounds_3e399_152)]) 210453398804 400 xG xin_455 x6_455 okJ (fB_self h0) ?_ ?_
  · refine List.forall_mem_cons.mpr ⟨?_, List.forall_mem_cons.mpr ⟨?_, List.forall_mem_cons.mpr ⟨?_, List.forall_mem_cons.mpr ⟨?_, fun q h => absurd h List.not_mem_nil⟩⟩⟩⟩
    · rintro m _ _ I1 hB1 ⟨y1, y2, y3, y4, y5, rfl, rfl, hb, hm⟩
      refine And.intro ⟨rfl, by decide, by decide⟩ ?_
      refine fload rL_741_741_7_7_1_0 h0 hB1 (by omega) ?_
      intro z1 lz1 uz1 qz1
      have pz1 := fld_at qz1 7 (by omega)
      refine And.intro (by omega) (And.intro ?_ ?_)
      · intro c2
        refine And.intro ⟨rfl, by decide, by decide⟩ (And.intro rfl (And.intro (Or.inl rfl) (fputf fb_740_29 (by decide +kernel) hW (by omega) ?_)))
        intro IhB3 ehB3 hB3
        have t4 := fup_at ehB3 29 (by omega)
        have t5 : IhB3 741 7 = I1 741 7 := (congrFun (congrFun ehB3 741) 7).trans (fup_ne (by omega))
        exact fcutJ (I := IhB3) (j := jc_M_rounds_3e399_73) (lv' := [(0, .inr (.inr (some 740))), (1, .inl _), (2, .inl _), (3, .inl _), (4, .inl _), (5, .inl _), (6, .inl _)]) (And.intro rfl (And.intro rfl (And.intro rfl (And.intro rfl (And.intro rfl (And.intro rfl (And.intro rfl True.intro))))))) ⟨_, _, _, _, _, _, rfl, rfl, by omega, rfl⟩ (by omega)
      · intro c6
        refine And.intro ⟨rfl, by decide, by decide⟩ ?_
        refine And.intro ⟨rfl, by decide, by decide⟩ ?_
        refine Exists.intro xm_244 (And.intro mi_244 (And.intro ⟨rfl, rfl, rfl, rfl⟩ (And.intro rfl ?_)))
        refine fcallp hB1 (ct_M_workAt_83d38 (fBz h0 hB1) (by omega)) ?_
        rintro _ ⟨_, rfl, rfl⟩
        refine fload rL_741_741_535_857_14_0 h0 hB1 (by omega) ?_
        intro z8 lz8 uz8 qz8
        refine fstore rS_754_754_0_23_1_0 (fzs_sub (by decide +kernel) hW) (by omega) (by omega) ?_
        intro IhB9 ehB9 hB9
        have t10 := fup_self ehB9
        have t11 : IhB9 741 7 = I1 741 7 := (congrFun (congrFun ehB9 741) 7).trans (fup_ne (by omega))
        refine And.intro ⟨rfl, by decide, by decide⟩ ?_
        refine And.intro ⟨rfl, by decide, by decide⟩ ?_
        refine Exists.intro xm_244 (And.intro mi_244 (And.intro ⟨rfl, rfl, rfl, rfl⟩ (And.intro rfl ?_)))
        refine fcallp hB9 (ct_M_workAt_83d38 (fBz h0 hB9) (by omega)) ?_
        rintro _ ⟨_, rfl, rfl⟩
        refine fload rL_741_741_537_859_14_0 h0 hB9 (by omega) ?_
        intro z13 lz13 uz13 qz13
        refine fstore rS_755_755_0_23_1_0 (fzs_sub (by decide +kernel) hW) (by omega) (by omega) ?_
        intro IhB14 ehB14 hB14
        have t15 := fup_self ehB14
        have t16 : IhB14 741 7 = IhB9 741 7 := (congrFun (congrFun ehB14 741) 7).trans (fup_ne (by omega))
        exact fcutJ (I := IhB14) (j := jc_M_rounds_3e399_3) (lv' := [(0, .inr (.inr (some 740))), (1, .inl _), (2, .inl _), (3, .inl _), (4, .inl _), (5, .inl _)]) (And.intro rfl (And.intro rfl (And.intro rfl (And.intro rfl (And.intro rfl (And.intro rfl True.intro)))))) ⟨_, _, _, _, _, rfl, rfl, by omega, rfl⟩ (by omega)
    · rintro m _ _ I1 hB1 ⟨y1, y2, y3, y4, y5, y6, rfl, rfl, hb, hm⟩
      refine And.intro (by omega) (And.intro ?_ ?_)
      · intro c17
        refine And.intro (True.intro) ?_
        exact ⟨_, rfl, by omega⟩
      · intro c18
        refine Exists.intro xm_456 (And.intro mi_456 (And.intro ⟨rfl, rfl, rfl, rfl⟩ (And.intro rfl ?_)))
        refine fcallp hB1 (ct_M_fitters_2c584 (fBz h0 hB1)) ?_
        rintro _ ⟨z19, rfl, hz19⟩
        exact fcutJ (I := I1) (j := jc_M_rounds_3e399_85) (lv' := [(0, .inr (.inr (some 740))), (1, .inl _), (2, .inl _), (3, .inl _), (4, .inl _), (5, .inl _), (6, .inl _), (7, .inl _)]) (And.intro rfl (And.intro rfl (And.intro rfl (And.intro rfl (And.intro rfl (And.intro rfl (And.intro rfl (And.intro rfl True.intro)))))))) ⟨_, _, _, _, _, _, _, rfl, rfl, by omega, rfl⟩ (by omega)
    · rintro m _ _ I1 hB1 ⟨y1, y2, y3, y4, y5, y6, y7, rfl, rfl, hb, hm⟩
      refine And.intro (by omega) (And.intro ?_ ?_)
      · intro c20
        exact fcutJ (I := I1) (j := jc_M_rounds_3e399_152) (lv' := [(0, .inr (.inr (some 740))), (1, .inl _), (2, .inl _), (3, .inl _), (4, .inl _), (5, .inl _), (6, .inl _), (7, .inl _)]) (And.intro rfl (And.intro rfl (And.intro rfl (And.intro rfl (And.intro rfl (And.intro rfl (And.intro rfl (And.intro rfl True.intro)))))))) ⟨_, _, _, _, _, _, _, rfl, rfl, by omega, rfl⟩ (by omega)
      · intro c21
        refine Exists.intro xm_457 (And.intro mi_457 (And.intro ⟨rfl, rfl, rfl, rfl⟩ (And.intro rfl ?_)))
        refine fcall _ h0 (fzs_sub (by decide +kernel) hW) hB1 (ct_M_nextSkin_f6b67 (fBz h0 hB1) (by omega) (by omega) (by omega)) ?_
        rintro IhB23 _ hB23 fhB23 ⟨z22, rfl, hz22⟩
        refine And.intro (by omega) (And.intro ?_ ?_)
        · intro c24
          exact fcutJ (I := IhB23) (j := jc_M_rounds_3e399_85) (lv' := [(0, .inr (.inr (some 740))), (1, .inl _), (2, .inl _), (3, .inl _), (4, .inl _), (5, .inl _), (6, .inl _), (7, .inl _)]) (And.intro rfl (And.intro rfl (And.intro rfl (And.intro rfl (And.intro rfl (And.intro rfl (And.intro rfl (And.intro rfl True.intro)))))))) ⟨_, _, _, _, _, _, _, rfl, rfl, by omega, rfl⟩ (by omega)
        · intro c25
          refine And.intro ⟨rfl, by decide, by decide⟩ ?_
          refine fload rL_754_754_0_23_1_0 h0 hB23 (by omega) ?_
          intro z26 lz26 uz26 qz26
          intro z27 hz27 ez27 bz27
          clear ez27
          clear bz27
          refine fstore rS_754_754_0_23_1_0 (fzs_sub (by decide +kernel) hW) (by omega) (by omega) ?_
          intro IhB28 ehB28 hB28
          have t29 := fup_self ehB28
          refine And.intro ⟨rfl, by decide, by decide⟩ (fgetf fb_740_29 h0 hB28 ?_)
          intro z30 lz30 uz30 qz30
          refine And.intro (by omega) (And.intro ?_ ?_)
          · intro c31
            intro z32 hz32 ez32 bz32
            clear ez32
            clear bz32
            refine And.intro ⟨rfl, by decide, by decide⟩ (And.intro rfl (And.intro (Or.inl rfl) (fputf fb_740_29 (by decide +kernel) hW (by omega) ?_)))
            intro IhB33 ehB33 hB33
            exact fcutJ (I := IhB33) (j := jc_M_rounds_3e399_85) (lv' := [(0, .inr (.inr (some 740))), (1, .inl _), (2, .inl _), (3, .inl _), (4, .inl _), (5, .inl _), (6, .inl _), (7, .inl _)]) (And.intro rfl (And.intro rfl (And.intro rfl (And.intro rfl (And.intro rfl (And.intro rfl (And.intro rfl (And.intro rfl True.intro)))))))) ⟨_, _, _, _, _, _, _, rfl, rfl, by omega, rfl⟩ (by omega)
          · intro c34
            refine And.intro (by omega) (And.intro ?_ ?_)
            · intro c35
              intro z36 hz36 ez36 bz36
              clear ez36
              clear bz36
              refine And.intro ⟨rfl, by decide, by decide⟩ (And.intro rfl (And.intro (Or.inl rfl) (fputf fb_740_29 (by decide +kernel) hW (by omega) ?_)))
              intro IhB37 ehB37 hB37
              exact fcutJ (I := IhB37) (j := jc_M_rounds_3e399_85) (lv' := [(0, .inr (.inr (some 740))), (1, .inl _), (2, .inl _), (3, .inl _), (4, .inl _), (5, .inl _), (6, .inl _), (7, .inl _)]) (And.intro rfl (And.intro rfl (And.intro rfl (And.intro rfl (And.intro rfl (And.intro rfl (And.intro rfl (And.intro rfl True.intro)))))))) ⟨_, _, _, _, _, _, _, rfl, rfl, by omega, rfl⟩ (by omega)
            · intro c38
              intro z39 hz39 ez39 bz39
              clear ez39
              clear bz39
              refine And.intro ⟨rfl, by decide, by decide⟩ (And.intro rfl (And.intro (Or.inl rfl) (fputf fb_740_29 (by decide +kernel) hW (by omega) ?_)))
              intro IhB40 ehB40 hB40
              exact fcutJ (I := IhB40) (j := jc_M_rounds_3e399_85) (lv' := [(0, .inr (.inr (some 740))), (1, .inl _), (2, .inl _), (3, .inl _), (4, .inl _), (5, .inl _), (6, .inl _), (7, .inl _)]) (And.intro rfl (And.intro rfl (And.intro rfl (And.intro rfl (And.intro rfl (And.intro rfl (And.intro rfl (And.intro rfl True.intro)))))))) ⟨_, _, _, _, _, _, _, rfl, rfl, by omega, rfl⟩ (by omega)
    · rintro m _ _ I1 hB1 ⟨y1, y2, y3, y4, y5, y6, y7, rfl, rfl, hb, hm⟩
      refine And.intro ⟨rfl, by decide, by decide⟩ ?_
      refine fload rL_741_741_7_7_1_0 h0 hB1 (by omega) ?_
      intro z41 lz41 uz41 qz41
      have pz41 := fld_at qz41 7 (by omega)
      refine And.intro (by omega) (And.intro ?_ ?_)
      · intro c42
        exact fcutJ (I := I1) (j := jc_M_rounds_3e399_73) (lv' := [(0, .inr (.inr (some 740))), (1, .inl _), (2, .inl _), (3, .inl _), (4, .inl _), (5, .inl _), (6, .inl _)]) (And.intro rfl (And.intro rfl (And.intro rfl (And.intro rfl (And.intro rfl (And.intro rfl (And.intro rfl True.intro))))))) ⟨_, _, _, _, _, _, rfl, rfl, by omega, rfl⟩ (by omega)
      · intro c43
        refine Exists.intro xm_458 (And.intro mi_458 (And.intro ⟨rfl, rfl, rfl, rfl⟩ (And.intro rfl ?_)))
        refine fcallp hB1 (ct_M_isSkin_da592 (fBz h0 hB1) (by omega)) ?_
        rintro _ ⟨z44, rfl, hz44⟩
        refine And.intro (by omega) (And.intro ?_ ?_)
        · intro c45
          exact fcutJ (I := I1) (j := jc_M_rounds_3e399_152) (lv' := [(0, .inr (.inr (some 740))), (1, .inl _), (2, .inl _), (3, .inl _), (4, .inl _), (5, .inl _), (6, .inl _), (7, .inl _)]) (And.intro rfl (And.intro rfl (And.intro rfl (And.intro rfl (And.intro rfl (And.intro rfl (And.intro rfl (And.intro rfl True.intro)))))))) ⟨_, _, _, _, _, _, _, rfl, rfl, by omega, rfl⟩ (by omega)
        · intro c46
          refine And.intro ⟨rfl, by decide, by decide⟩ ?_
          refine fload rL_754_754_0_23_1_0 h0 hB1 (by omega) ?_
          intro z47 lz47 uz47 qz47
          refine And.intro ⟨rfl, by decide, by decide⟩ (And.intro rfl (And.intro (Or.inl rfl) (fputf fb_740_27 (by decide +kernel) hW (by omega) ?_)))
          intro IhB48 ehB48 hB48
          have t49 := fup_at ehB48 27 (by omega)
          have t50 : IhB48 741 7 = I1 741 7 := (congrFun (congrFun ehB48 741) 7).trans (fup_ne (by omega))
          refine And.intro ⟨rfl, by decide, by decide⟩ ?_
          refine fload rL_755_755_0_23_1_0 h0 hB48 (by omega) ?_
          intro z51 lz51 uz51 qz51
          refine And.intro ⟨rfl, by decide, by decide⟩ (And.intro rfl (And.intro (Or.inl rfl) (fputf fb_740_28 (by decide +kernel) hW (by omega) ?_)))
          intro IhB52 ehB52 hB52
          have t53 : IhB52 740 27 = IhB48 740 27 := (congrFun (congrFun ehB52 740) 27).trans (fup_ne (by omega))
          have t54 := fup_at ehB52 28 (by omega)
          have t55 : IhB52 741 7 = IhB48 741 7 := (congrFun (congrFun ehB52 741) 7).trans (fup_ne (by omega))
          refine Exists.intro xm_460 (And.intro mi_460 (And.intro ⟨rfl, rfl, rfl, rfl⟩ (And.intro rfl ?_)))
          refine fcall _ h0 (fzs_sub (by decide +kernel) hW) hB52 (ct_M_weathers_325ea (fBz h0 hB52) (by omega)) ?_
          rintro IhB57 _ hB57 fhB57 rfl
          have t58 := fhB57 741 7 (by decide +kernel)
          refine And.intro ⟨rfl, by decide, by decide⟩ ?_
          refine And.intro ⟨rfl, by decide, by decide⟩ (fgetf fb_740_27 h0 hB57 ?_)
          intro z59 lz59 uz59 qz59
          refine fstore rS_754_754_0_23_1_0 (fzs_sub (by decide +kernel) hW) (by omega) (by omega) ?_
          intro IhB60 ehB60 hB60
          have t61 := fup_self ehB60
          have t62 : IhB60 740 27 = IhB57 740 27 := (congrFun (congrFun ehB60 740) 27).trans (fup_ne (by omega))
          have t63 : IhB60 741 7 = IhB57 741 7 := (congrFun (congrFun ehB60 741) 7).trans (fup_ne (by omega))
          refine And.intro ⟨rfl, by decide, by decide⟩ ?_
          refine And.intro ⟨rfl, by decide, by decide⟩ (fgetf fb_740_28 h0 hB60 ?_)
          intro z64 lz64 uz64 qz64
          refine fstore rS_755_755_0_23_1_0 (fzs_sub (by decide +kernel) hW) (by omega) (by omega) ?_
          intro IhB65 ehB65 hB65
          have t66 := fup_self ehB65
          have t67 : IhB65 740 27 = IhB60 740 27 := (congrFun (congrFun ehB65 740) 27).trans (fup_ne (by omega))
          have t68 : IhB65 740 28 = IhB60 740 28 := (congrFun (congrFun ehB65 740) 28).trans (fup_ne (by omega))
          have t69 : IhB65 741 7 = IhB60 741 7 := (congrFun (congrFun ehB65 741) 7).trans (fup_ne (by omega))
          refine And.intro (by omega) (And.intro ?_ ?_)
          · intro c70
            exact fcutJ (I := IhB65) (j := jc_M_rounds_3e399_152) (lv' := [(0, .inr (.inr (some 740))), (1, .inl _), (2, .inl _), (3, .inl _), (4, .inl _), (5, .inl _), (6, .inl _), (7, .inl _)]) (And.intro rfl (And.intro rfl (And.intro rfl (And.intro rfl (And.intro rfl (And.intro rfl (And.intro rfl (And.intro rfl True.intro)))))))) ⟨_, _, _, _, _, _, _, rfl, rfl, by omega, rfl⟩ (by omega)
          · intro c71
            refine And.intro ⟨rfl, by decide, by decide⟩ ?_
            refine fload rL_754_754_0_23_1_0 h0 hB65 (by omega) ?_
            intro z72 lz72 uz72 qz72
            refine And.intro (by omega) (And.intro ?_ ?_)
            · intro c73
              exact fcutJ (I := IhB65) (j := jc_M_rounds_3e399_152) (lv' := [(0, .inr (.inr (some 740))), (1, .inl _), (2, .inl _), (3, .inl _), (4, .inl _), (5, .inl _), (6, .inl _), (7, .inl _)]) (And.intro rfl (And.intro rfl (And.intro rfl (And.intro rfl (And.intro rfl (And.intro rfl (And.intro rfl (And.intro rfl True.intro)))))))) ⟨_, _, _, _, _, _, _, rfl, rfl, by omega, rfl⟩ (by omega)
            · intro c74
              exact fcutJ (I := IhB65) (j := jc_M_rounds_3e399_152) (lv' := [(0, .inr (.inr (some 740))), (1, .inl _), (2, .inl _), (3, .inl _), (4, .inl _), (5, .inl _), (6, .inl _), (7, .inl _)]) (And.intro rfl (And.intro rfl (And.intro rfl (And.intro rfl (And.intro rfl (And.intro rfl (And.intro rfl (And.intro rfl True.intro)))))))) ⟨_, _, _, _, _, _, _, rfl, rfl, by omega, rfl⟩ (by omega)
  · have hB0 := fB_self (zn := znJ) (K := fKc wz_e4773) h0
    exact fcutJ (I := I) (j := jc_M_rounds_3e399_3) (lv' := [(0, .inr (.inr (some 740))), (1, .inl _), (2, .inl _), (3, .inl _), (4, .inl _), (5, .inl _)]) (And.intro rfl (And.intro rfl (And.intro rfl (And.intro rfl (And.intro rfl (And.intro rfl True.intro)))))) ⟨_, _, _, _, _, rfl, rfl, by omega, rfl⟩ (by omega)
set_option maxRecDepth 8000 in
theorem ct_M_lack_9f82b {I : fH} {x1 : Int} {x2 : Int} (h0 : fB bsJ I) (ha1 : ((-2147483648) ≤ x1 ∧ x1 ≤ 2147483647)) (ha2 : ((-2147483648) ≤ x2 ∧ x2 ≤ 2147483647)) : fC ρ base n F xTc vwCl xTys D dA la gJ (fbz bsJ znJ (fKc wz_e4773) I) xm_454 [.inr (.inr (some 740)), .inl x1, .inl x2] I (fun _ r => ∃ z, r = some (.inl z) ∧ ((0 ≤ z ∧ z ≤ 2147483647) ∨ z = (-1000000005) ∨ z = (-1000000001))) := by
  have hW : fzs wz_e4773 (fKc wz_e4773) := fKc_ok _
  refine f_meth (rb := rbJ) (J := []) 1 400 xG xin_454 x6_454 okJ (fB_self h0) ?_ ?_
  · exact fun q h => absurd h List.not_mem_nil
  · have hB0 := fB_self (zn := znJ) (K := fKc wz_e4773) h0
    refine And.intro (by omega) ?_
    refine Exists.intro xm_238 (And.intro mi_238 (And.intro ⟨rfl, rfl, rfl, rfl⟩ (And.intro True.intro ?_)))
    refine fcallp hB0 (ct_M_isIn_27230 (fBz h0 hB0) (by omega) (by omega) (by omega)) ?_
    rintro _ ⟨z1, rfl, hz1⟩
    refine And.intro (by omega) (And.intro ?_ ?_)
    · intro c2
      refine And.intro (True.intro) ?_
      exact ⟨_, rfl, by omega⟩
    · intro c3
      refine And.intro (by omega) ?_
      refine Exists.intro xm_238 (And.intro mi_238 (And.intro ⟨rfl, rfl, rfl, rfl⟩ (And.intro True.intro ?_)))
      refine fcallp hB0 (ct_M_isIn_27230 (fBz h0 hB0) (by omega) (by omega) (by omega)) ?_
      rintro _ ⟨z4, rfl, hz4⟩
      refine And.intro (by omega) (And.intro ?_ ?_)
      · intro c5
        refine And.intro (True.intro) ?_
        exact ⟨_, rfl, by omega⟩
      · intro c6
        refine Exists.intro xm_455 (And.intro mi_455 (And.intro ⟨rfl, rfl, rfl, rfl⟩ (And.intro rfl ?_)))
        refine fcall _ h0 (fzs_sub (by decide +kernel) hW) hB0 (ct_M_rounds_3e399 (fBz h0 hB0) (by omega) (by omega) (by omega) (by omega)) ?_
        rintro IhB8 _ hB8 fhB8 ⟨z7, rfl, hz7⟩
        refine Exists.intro xm_269 (And.intro mi_269 (And.intro ⟨rfl, rfl, rfl, rfl⟩ (And.intro True.intro ?_)))
        refine fcallp hB8 (ct_M_orNone_a2a87 (fBz h0 hB8) (by omega)) ?_
        rintro _ ⟨z9, rfl, hz9⟩
        refine And.intro (True.intro) ?_
        exact ⟨_, rfl, by omega⟩
set_option maxRecDepth 8000 in
theorem ct_X_sewn_05190 {I : fH} {x1 : Int} {x2 : Int} {x3 : Int} {x4 : Int} (h0 : fB bsJ I) (ha1 : ((-2147483648) ≤ x1 ∧ x1 ≤ 2147483647)) (ha2 : ((-2147483648) ≤ x2 ∧ x2 ≤ 2147483647)) (ha3 : ((-2147483648) ≤ x3 ∧ x3 ≤ 2147483647)) (ha4 : ((-2147483648) ≤ x4 ∧ x4 ≤ 2147483647)) : fC ρ base n F xTc vwCl xTys D dA la gJ (fbz bsJ znJ (fKc wz_81562) I) xm_185 [.inr (.inr (some 0)), .inl x1, .inl x2, .inl x3, .inl x4] I (fun _ r => ∃ z, r = some (.inl z) ∧ ((-2147483648) ≤ z ∧ z ≤ 2147483647)) := by
  have hW : fzs wz_81562 (fKc wz_81562) := fKc_ok _
  refine f_meth (rb := rbJ) (J := []) 1 400 xG xin_185 x6_185 okJ (fB_self h0) ?_ ?_
  · exact fun q h => absurd h List.not_mem_nil
  · have hB0 := fB_self (zn := znJ) (K := fKc wz_81562) h0
    refine Exists.intro xm_13 (And.intro mi_13 (And.intro ⟨rfl, rfl, rfl, rfl⟩ (And.intro True.intro ?_)))
    refine fcallp hB0 (ct_X_within_c27b1 (fBz h0 hB0) (by omega) (by omega) (by omega)) ?_
    rintro _ ⟨z1, rfl, hz1⟩
    refine And.intro (by omega) (And.intro ?_ ?_)
    · intro c2
      refine And.intro (True.intro) ?_
      exact ⟨_, rfl, by omega⟩
    · intro c3
      refine Exists.intro xm_13 (And.intro mi_13 (And.intro ⟨rfl, rfl, rfl, rfl⟩ (And.intro True.intro ?_)))
      refine fcallp hB0 (ct_X_within_c27b1 (fBz h0 hB0) (by omega) (by omega) (by omega)) ?_
      rintro _ ⟨z4, rfl, hz4⟩
      refine And.intro (by omega) (And.intro ?_ ?_)
      · intro c5
        refine And.intro (True.intro) ?_
        exact ⟨_, rfl, by omega⟩
      · intro c6
        refine And.intro ⟨rfl, by decide, by decide⟩ ?_
        refine Exists.intro xm_45 (And.intro mi_45 (And.intro ⟨rfl, rfl, rfl, rfl⟩ (And.intro rfl ?_)))
        refine fcallp hB0 (ct_City_isWork_11526 (fBz h0 hB0) (by omega)) ?_
        rintro _ ⟨z7, rfl, hz7⟩
        refine And.intro (by omega) (And.intro ?_ ?_)
        · intro c8
          refine And.intro (True.intro) ?_
          exact ⟨_, rfl, by omega⟩
        · intro c9
          refine Exists.intro xm_13 (And.intro mi_13 (And.intro ⟨rfl, rfl, rfl, rfl⟩ (And.intro True.intro ?_)))
          refine fcallp hB0 (ct_X_within_c27b1 (fBz h0 hB0) (by omega) (by omega) (by omega)) ?_
          rintro _ ⟨z10, rfl, hz10⟩
          refine And.intro (by omega) (And.intro ?_ ?_)
          · intro c11
            refine And.intro ⟨rfl, by decide, by decide⟩ ?_
            refine And.intro ⟨rfl, by decide, by decide⟩ ?_
            refine And.intro ⟨rfl, by decide, by decide⟩ ?_
            refine Exists.intro xm_178 (And.intro mi_178 (And.intro ⟨rfl, rfl, rfl, rfl⟩ (And.intro rfl ?_)))
            refine fcall _ h0 (fzs_sub (by decide +kernel) hW) hB0 (ct_Rounds_goRound_589d9 (fBz h0 hB0) (by omega) (by omega) (by omega) (by omega)) ?_
            rintro IhB13 _ hB13 fhB13 rfl
            refine And.intro ⟨rfl, by decide, by decide⟩ ?_
            refine And.intro ⟨rfl, by decide, by decide⟩ (fgetf fb_727_1 h0 hB13 ?_)
            intro z14 lz14 uz14 qz14
            refine And.intro (True.intro) ?_
            exact ⟨_, rfl, by omega⟩
          · intro c15
            refine And.intro (True.intro) ?_
            exact ⟨_, rfl, by omega⟩
set_option maxRecDepth 8000 in
theorem ct_M_sewn_6ebad {I : fH} {x1 : Int} {x2 : Int} {x3 : Int} {x4 : Int} (h0 : fB bsJ I) (ha1 : ((-2147483648) ≤ x1 ∧ x1 ≤ 2147483647)) (ha2 : ((-2147483648) ≤ x2 ∧ x2 ≤ 2147483647)) (ha3 : ((-2147483648) ≤ x3 ∧ x3 ≤ 2147483647)) (ha4 : ((-2147483648) ≤ x4 ∧ x4 ≤ 2147483647)) : fC ρ base n F xTc vwCl xTys D dA la gJ (fbz bsJ znJ (fKc wz_e4773) I) xm_461 [.inr (.inr (some 740)), .inl x1, .inl x2, .inl x3, .inl x4] I (fun _ r => ∃ z, r = some (.inl z) ∧ ((-2147483648) ≤ z ∧ z ≤ 2147483647)) := by
  have hW : fzs wz_e4773 (fKc wz_e4773) := fKc_ok _
  refine f_meth (rb := rbJ) (J := []) 1 400 xG xin_461 x6_461 okJ (fB_self h0) ?_ ?_
  · exact fun q h => absurd h List.not_mem_nil
  · have hB0 := fB_self (zn := znJ) (K := fKc wz_e4773) h0
    refine And.intro (by omega) ?_
    refine Exists.intro xm_238 (And.intro mi_238 (And.intro ⟨rfl, rfl, rfl, rfl⟩ (And.intro True.intro ?_)))
    refine fcallp hB0 (ct_M_isIn_27230 (fBz h0 hB0) (by omega) (by omega) (by omega)) ?_
    rintro _ ⟨z1, rfl, hz1⟩
    refine And.intro (by omega) (And.intro ?_ ?_)
    · intro c2
      refine And.intro (True.intro) ?_
      exact ⟨_, rfl, by omega⟩
    · intro c3
      refine And.intro (by omega) ?_
      refine Exists.intro xm_238 (And.intro mi_238 (And.intro ⟨rfl, rfl, rfl, rfl⟩ (And.intro True.intro ?_)))
      refine fcallp hB0 (ct_M_isIn_27230 (fBz h0 hB0) (by omega) (by omega) (by omega)) ?_
      rintro _ ⟨z4, rfl, hz4⟩
      refine And.intro (by omega) (And.intro ?_ ?_)
      · intro c5
        refine And.intro (True.intro) ?_
        exact ⟨_, rfl, by omega⟩
      · intro c6
        refine Exists.intro xm_266 (And.intro mi_266 (And.intro ⟨rfl, rfl, rfl, rfl⟩ (And.intro rfl ?_)))
        refine fcallp hB0 (ct_M_isWork_a0fef (fBz h0 hB0) (by omega)) ?_
        rintro _ ⟨z7, rfl, hz7⟩
        refine And.intro (by omega) (And.intro ?_ ?_)
        · intro c8
          refine And.intro (True.intro) ?_
          exact ⟨_, rfl, by omega⟩
        · intro c9
          refine And.intro (by omega) ?_
          refine And.intro (by omega) ?_
          refine Exists.intro xm_238 (And.intro mi_238 (And.intro ⟨rfl, rfl, rfl, rfl⟩ (And.intro True.intro ?_)))
          refine fcallp hB0 (ct_M_isIn_27230 (fBz h0 hB0) (by omega) (by omega) (by omega)) ?_
          rintro _ ⟨z10, rfl, hz10⟩
          refine And.intro (by omega) (And.intro ?_ ?_)
          · intro c11
            refine Exists.intro xm_455 (And.intro mi_455 (And.intro ⟨rfl, rfl, rfl, rfl⟩ (And.intro rfl ?_)))
            refine fcall _ h0 (fzs_sub (by decide +kernel) hW) hB0 (ct_M_rounds_3e399 (fBz h0 hB0) (by omega) (by omega) (by omega) (by omega)) ?_
            rintro IhB13 _ hB13 fhB13 ⟨z12, rfl, hz12⟩
            refine And.intro ⟨rfl, by decide, by decide⟩ (fgetf fb_740_29 h0 hB13 ?_)
            intro z14 lz14 uz14 qz14
            refine And.intro (True.intro) ?_
            exact ⟨_, rfl, by omega⟩
          · intro c15
            refine And.intro (True.intro) ?_
            exact ⟨_, rfl, by omega⟩
set_option maxRecDepth 8000 in
theorem ct_X_swap_dabbb {I : fH} {x1 : Int} {x2 : Int} (h0 : fB bsJ I) (ha1 : (0 ≤ x1 ∧ x1 ≤ 3)) (ha2 : (0 ≤ x2 ∧ x2 ≤ 99)) : fC ρ base n F xTc vwCl xTys D dA la gJ (fbz bsJ znJ (fKc wz_2a2bc) I) xm_18 [.inr (.inr (some 223)), .inl x1, .inl x2] I (fun _ r => ∃ z, r = some (.inl z) ∧ (0 ≤ z ∧ z ≤ 99)) := by
  have hW : fzs wz_2a2bc (fKc wz_2a2bc) := fKc_ok _
  refine f_meth (rb := rbJ) (J := []) 1 400 xG xin_18 x6_18 okJ (fB_self h0) ?_ ?_
  · exact fun q h => absurd h List.not_mem_nil
  · have hB0 := fB_self (zn := znJ) (K := fKc wz_2a2bc) h0
    refine fload rL_223_223_0_3_1_0 h0 hB0 (by omega) ?_
    intro z1 lz1 uz1 qz1
    refine fstore rS_223_223_0_3_1_0 (fzs_sub (by decide +kernel) hW) (by omega) (by omega) ?_
    intro IhB2 ehB2 hB2
    have t3 := fup_self ehB2
    refine And.intro (True.intro) ?_
    exact ⟨_, rfl, by omega⟩
set_option maxRecDepth 8000 in
theorem ct_X_takes_78459 {I : fH} {x1 : Int} {x2 : Int} (h0 : fB bsJ I) (ha1 : ((-2147483648) ≤ x1 ∧ x1 ≤ 2147483647)) (ha2 : ((-2147483648) ≤ x2 ∧ x2 ≤ 2147483647)) : fC ρ base n F xTc vwCl xTys D dA la gJ (fbz bsJ znJ (fKc wz_2a2bc) I) xm_186 [.inr (.inr (some 0)), .inl x1, .inl x2] I (fun _ r => ∃ z, r = some (.inl z) ∧ ((0 ≤ z ∧ z ≤ 99) ∨ z = (-1000000001))) := by
  have hW : fzs wz_2a2bc (fKc wz_2a2bc) := fKc_ok _
  refine f_meth (rb := rbJ) (J := []) 1 400 xG xin_186 x6_186 okJ (fB_self h0) ?_ ?_
  · exact fun q h => absurd h List.not_mem_nil
  · have hB0 := fB_self (zn := znJ) (K := fKc wz_2a2bc) h0
    refine Exists.intro xm_13 (And.intro mi_13 (And.intro ⟨rfl, rfl, rfl, rfl⟩ (And.intro True.intro ?_)))
    refine fcallp hB0 (ct_X_within_c27b1 (fBz h0 hB0) (by omega) (by omega) (by omega)) ?_
    rintro _ ⟨z1, rfl, hz1⟩
    refine And.intro (by omega) (And.intro ?_ ?_)
    · intro c2
      refine And.intro (True.intro) ?_
      exact ⟨_, rfl, by omega⟩
    · intro c3
      refine Exists.intro xm_13 (And.intro mi_13 (And.intro ⟨rfl, rfl, rfl, rfl⟩ (And.intro True.intro ?_)))
      refine fcallp hB0 (ct_X_within_c27b1 (fBz h0 hB0) (by omega) (by omega) (by omega)) ?_
      rintro _ ⟨z4, rfl, hz4⟩
      refine And.intro (by omega) (And.intro ?_ ?_)
      · intro c5
        refine And.intro (True.intro) ?_
        exact ⟨_, rfl, by omega⟩
      · intro c6
        refine And.intro ⟨rfl, by decide, by decide⟩ ?_
        refine And.intro ⟨rfl, by decide, by decide⟩ ?_
        refine Exists.intro xm_18 (And.intro mi_18 (And.intro ⟨rfl, rfl, rfl, rfl⟩ (And.intro True.intro ?_)))
        refine fcall _ h0 (fzs_sub (by decide +kernel) hW) hB0 (ct_X_swap_dabbb (fBz h0 hB0) (by omega) (by omega)) ?_
        rintro IhB8 _ hB8 fhB8 ⟨z7, rfl, hz7⟩
        refine And.intro (True.intro) ?_
        exact ⟨_, rfl, by omega⟩
set_option maxRecDepth 8000 in
theorem ct_M_put_e8087 {I : fH} {x1 : Int} {x2 : Int} (h0 : fB bsJ I) (ha1 : (4560 ≤ x1 ∧ x1 ≤ 4563)) (ha2 : (0 ≤ x2 ∧ x2 ≤ 99)) : fC ρ base n F xTc vwCl xTys D dA la gJ (fbz bsJ znJ (fKc wz_0a5ca) I) xm_242 [.inr (.inr (some 740)), .inl x1, .inl x2] I (fun _ r => ∃ z, r = some (.inl z) ∧ (0 ≤ z ∧ z ≤ 99)) := by
  have hW : fzs wz_0a5ca (fKc wz_0a5ca) := fKc_ok _
  refine f_meth (rb := rbJ) (J := []) 1 400 xG xin_242 x6_242 okJ (fB_self h0) ?_ ?_
  · exact fun q h => absurd h List.not_mem_nil
  · have hB0 := fB_self (zn := znJ) (K := fKc wz_0a5ca) h0
    refine And.intro ⟨rfl, by decide, by decide⟩ ?_
    refine fload rL_741_741_4560_4563_1_0 h0 hB0 (by omega) ?_
    intro z1 lz1 uz1 qz1
    refine And.intro ⟨rfl, by decide, by decide⟩ ?_
    refine fstore rS_741_741_4560_4563_1_0 (fzs_sub (by decide +kernel) hW) (by omega) (by omega) ?_
    intro IhB2 ehB2 hB2
    have t3 := fup_self ehB2
    refine And.intro (True.intro) ?_
    exact ⟨_, rfl, by omega⟩
set_option maxRecDepth 8000 in
theorem ct_M_takes_3be66 {I : fH} {x1 : Int} {x2 : Int} (h0 : fB bsJ I) (ha1 : ((-2147483648) ≤ x1 ∧ x1 ≤ 2147483647)) (ha2 : ((-2147483648) ≤ x2 ∧ x2 ≤ 2147483647)) : fC ρ base n F xTc vwCl xTys D dA la gJ (fbz bsJ znJ (fKc wz_0a5ca) I) xm_462 [.inr (.inr (some 740)), .inl x1, .inl x2] I (fun _ r => ∃ z, r = some (.inl z) ∧ ((0 ≤ z ∧ z ≤ 99) ∨ z = (-1000000001))) := by
  have hW : fzs wz_0a5ca (fKc wz_0a5ca) := fKc_ok _
  refine f_meth (rb := rbJ) (J := []) 1 400 xG xin_462 x6_462 okJ (fB_self h0) ?_ ?_
  · exact fun q h => absurd h List.not_mem_nil
  · have hB0 := fB_self (zn := znJ) (K := fKc wz_0a5ca) h0
    refine And.intro (by omega) ?_
    refine Exists.intro xm_238 (And.intro mi_238 (And.intro ⟨rfl, rfl, rfl, rfl⟩ (And.intro True.intro ?_)))
    refine fcallp hB0 (ct_M_isIn_27230 (fBz h0 hB0) (by omega) (by omega) (by omega)) ?_
    rintro _ ⟨z1, rfl, hz1⟩
    refine And.intro (by omega) (And.intro ?_ ?_)
    · intro c2
      refine And.intro (True.intro) ?_
      exact ⟨_, rfl, by omega⟩
    · intro c3
      refine And.intro (by omega) ?_
      refine Exists.intro xm_238 (And.intro mi_238 (And.intro ⟨rfl, rfl, rfl, rfl⟩ (And.intro True.intro ?_)))
      refine fcallp hB0 (ct_M_isIn_27230 (fBz h0 hB0) (by omega) (by omega) (by omega)) ?_
      rintro _ ⟨z4, rfl, hz4⟩
      refine And.intro (by omega) (And.intro ?_ ?_)
      · intro c5
        refine And.intro (True.intro) ?_
        exact ⟨_, rfl, by omega⟩
      · intro c6
        refine Exists.intro xm_242 (And.intro mi_242 (And.intro ⟨rfl, rfl, rfl, rfl⟩ (And.intro rfl ?_)))
        refine fcall _ h0 (fzs_sub (by decide +kernel) hW) hB0 (ct_M_put_e8087 (fBz h0 hB0) (by omega) (by omega)) ?_
        rintro IhB8 _ hB8 fhB8 ⟨z7, rfl, hz7⟩
        refine And.intro (True.intro) ?_
        exact ⟨_, rfl, by omega⟩
set_option maxRecDepth 8000 in
theorem ct_X_swap_baf7c {I : fH} {x0 : Nat} {x1 : Int} {x2 : Int} (h0 : fB bsJ I) (ha0 : (225 ≤ x0 ∧ x0 ≤ 248)) (ha1 : (0 ≤ x1 ∧ x1 ≤ 3)) (ha2 : (0 ≤ x2 ∧ x2 ≤ 999)) : fC ρ base n F xTc vwCl xTys D dA la gJ (fbz bsJ znJ (fKc wz_e3030) I) xm_18 [.inr (.inr (some x0)), .inl x1, .inl x2] I (fun _ r => ∃ z, r = some (.inl z) ∧ ((-2147483648) ≤ z ∧ z ≤ 2147483647)) := by
  have hW : fzs wz_e3030 (fKc wz_e3030) := fKc_ok _
  refine f_meth (rb := rbJ) (J := []) 1 400 xG xin_18 x6_18 okJ (fB_self h0) ?_ ?_
  · exact fun q h => absurd h List.not_mem_nil
  · have hB0 := fB_self (zn := znJ) (K := fKc wz_e3030) h0
    refine fload rL_225_248_0_3_1_0 h0 hB0 (by omega) ?_
    intro z1 lz1 uz1 qz1
    refine fstore rS_225_248_0_3_1_0 (fzs_sub (by decide +kernel) hW) (by omega) (by omega) ?_
    intro IhB2 ehB2 hB2
    have t3 := fup_self ehB2
    refine And.intro (True.intro) ?_
    exact ⟨_, rfl, by omega⟩
set_option maxRecDepth 8000 in
theorem ct_X_harm_aee5c {I : fH} {x1 : Int} {x2 : Int} {x3 : Int} (h0 : fB bsJ I) (ha1 : ((-2147483648) ≤ x1 ∧ x1 ≤ 2147483647)) (ha2 : ((-2147483648) ≤ x2 ∧ x2 ≤ 2147483647)) (ha3 : ((-2147483648) ≤ x3 ∧ x3 ≤ 2147483647)) : fC ρ base n F xTc vwCl xTys D dA la gJ (fbz bsJ znJ (fKc wz_e3030) I) xm_187 [.inr (.inr (some 0)), .inl x1, .inl x2, .inl x3] I (fun _ r => ∃ z, r = some (.inl z) ∧ ((-2147483648) ≤ z ∧ z ≤ 2147483647)) := by
  have hW : fzs wz_e3030 (fKc wz_e3030) := fKc_ok _
  refine f_meth (rb := rbJ) (J := []) 1 400 xG xin_187 x6_187 okJ (fB_self h0) ?_ ?_
  · exact fun q h => absurd h List.not_mem_nil
  · have hB0 := fB_self (zn := znJ) (K := fKc wz_e3030) h0
    refine Exists.intro xm_13 (And.intro mi_13 (And.intro ⟨rfl, rfl, rfl, rfl⟩ (And.intro True.intro ?_)))
    refine fcallp hB0 (ct_X_within_c27b1 (fBz h0 hB0) (by omega) (by omega) (by omega)) ?_
    rintro _ ⟨z1, rfl, hz1⟩
    refine And.intro (by omega) (And.intro ?_ ?_)
    · intro c2
      refine And.intro (True.intro) ?_
      exact ⟨_, rfl, by omega⟩
    · intro c3
      refine Exists.intro xm_13 (And.intro mi_13 (And.intro ⟨rfl, rfl, rfl, rfl⟩ (And.intro True.intro ?_)))
      refine fcallp hB0 (ct_X_within_c27b1 (fBz h0 hB0) (by omega) (by omega) (by omega)) ?_
      rintro _ ⟨z4, rfl, hz4⟩
      refine And.intro (by omega) (And.intro ?_ ?_)
      · intro c5
        refine And.intro (True.intro) ?_
        exact ⟨_, rfl, by omega⟩
      · intro c6
        refine Exists.intro xm_13 (And.intro mi_13 (And.intro ⟨rfl, rfl, rfl, rfl⟩ (And.intro True.intro ?_)))
        refine fcallp hB0 (ct_X_within_c27b1 (fBz h0 hB0) (by omega) (by omega) (by omega)) ?_
        rintro _ ⟨z7, rfl, hz7⟩
        refine And.intro (by omega) (And.intro ?_ ?_)
        · intro c8
          refine And.intro ⟨rfl, by decide, by decide⟩ ?_
          refine And.intro ⟨rfl, by decide, by decide⟩ ?_
          refine And.intro ⟨rfl, by decide⟩ (And.intro (by omega) ?_)
          refine Exists.intro xm_18 (And.intro mi_18 (And.intro ⟨rfl, rfl, rfl, rfl⟩ (And.intro True.intro ?_)))
          refine fcall _ h0 (fzs_sub (by decide +kernel) hW) hB0 (ct_X_swap_baf7c (fBz h0 hB0) (by omega) (by omega) (by omega)) ?_
          rintro IhB10 _ hB10 fhB10 ⟨z9, rfl, hz9⟩
          refine And.intro (True.intro) ?_
          exact ⟨_, rfl, by omega⟩
        · intro c11
          refine And.intro (True.intro) ?_
          exact ⟨_, rfl, by omega⟩
set_option maxRecDepth 8000 in
theorem ct_M_put_68ae5 {I : fH} {x1 : Int} {x2 : Int} (h0 : fB bsJ I) (ha1 : ((4570 ≤ x1 ∧ x1 ≤ 4665) ∧ (x1 - 4570) % 4 ≤ 3)) (ha2 : (0 ≤ x2 ∧ x2 ≤ 999)) : fC ρ base n F xTc vwCl xTys D dA la gJ (fbz bsJ znJ (fKc wz_ad4fa) I) xm_242 [.inr (.inr (some 740)), .inl x1, .inl x2] I (fun _ r => ∃ z, r = some (.inl z) ∧ (0 ≤ z ∧ z ≤ 999)) := by
  have hW : fzs wz_ad4fa (fKc wz_ad4fa) := fKc_ok _
  refine f_meth (rb := rbJ) (J := []) 1 400 xG xin_242 x6_242 okJ (fB_self h0) ?_ ?_
  · exact fun q h => absurd h List.not_mem_nil
  · have hB0 := fB_self (zn := znJ) (K := fKc wz_ad4fa) h0
    refine And.intro ⟨rfl, by decide, by decide⟩ ?_
    refine fload rL_741_741_4570_4665_4_3 h0 hB0 (by omega) ?_
    intro z1 lz1 uz1 qz1
    refine And.intro ⟨rfl, by decide, by decide⟩ ?_
    refine fstore rS_741_741_4570_4665_4_3 (fzs_sub (by decide +kernel) hW) (by omega) (by omega) ?_
    intro IhB2 ehB2 hB2
    have t3 := fup_self ehB2
    refine And.intro (True.intro) ?_
    exact ⟨_, rfl, by omega⟩
set_option maxRecDepth 8000 in
theorem ct_M_harm_249d0 {I : fH} {x1 : Int} {x2 : Int} {x3 : Int} (h0 : fB bsJ I) (ha1 : ((-2147483648) ≤ x1 ∧ x1 ≤ 2147483647)) (ha2 : ((-2147483648) ≤ x2 ∧ x2 ≤ 2147483647)) (ha3 : ((-2147483648) ≤ x3 ∧ x3 ≤ 2147483647)) : fC ρ base n F xTc vwCl xTys D dA la gJ (fbz bsJ znJ (fKc wz_ad4fa) I) xm_463 [.inr (.inr (some 740)), .inl x1, .inl x2, .inl x3] I (fun _ r => ∃ z, r = some (.inl z) ∧ ((0 ≤ z ∧ z ≤ 999) ∨ z = (-1000000001))) := by
  have hW : fzs wz_ad4fa (fKc wz_ad4fa) := fKc_ok _
  refine f_meth (rb := rbJ) (J := []) 1 400 xG xin_463 x6_463 okJ (fB_self h0) ?_ ?_
  · exact fun q h => absurd h List.not_mem_nil
  · have hB0 := fB_self (zn := znJ) (K := fKc wz_ad4fa) h0
    refine And.intro (by omega) ?_
    refine Exists.intro xm_238 (And.intro mi_238 (And.intro ⟨rfl, rfl, rfl, rfl⟩ (And.intro True.intro ?_)))
    refine fcallp hB0 (ct_M_isIn_27230 (fBz h0 hB0) (by omega) (by omega) (by omega)) ?_
    rintro _ ⟨z1, rfl, hz1⟩
    refine And.intro (by omega) (And.intro ?_ ?_)
    · intro c2
      refine And.intro (True.intro) ?_
      exact ⟨_, rfl, by omega⟩
    · intro c3
      refine And.intro (by omega) ?_
      refine Exists.intro xm_238 (And.intro mi_238 (And.intro ⟨rfl, rfl, rfl, rfl⟩ (And.intro True.intro ?_)))
      refine fcallp hB0 (ct_M_isIn_27230 (fBz h0 hB0) (by omega) (by omega) (by omega)) ?_
      rintro _ ⟨z4, rfl, hz4⟩
      refine And.intro (by omega) (And.intro ?_ ?_)
      · intro c5
        refine And.intro (True.intro) ?_
        exact ⟨_, rfl, by omega⟩
      · intro c6
        refine And.intro (by omega) ?_
        refine Exists.intro xm_238 (And.intro mi_238 (And.intro ⟨rfl, rfl, rfl, rfl⟩ (And.intro True.intro ?_)))
        refine fcallp hB0 (ct_M_isIn_27230 (fBz h0 hB0) (by omega) (by omega) (by omega)) ?_
        rintro _ ⟨z7, rfl, hz7⟩
        refine And.intro (by omega) (And.intro ?_ ?_)
        · intro c8
          refine And.intro (True.intro) ?_
          exact ⟨_, rfl, by omega⟩
        · intro c9
          refine Exists.intro xm_242 (And.intro mi_242 (And.intro ⟨rfl, rfl, rfl, rfl⟩ (And.intro rfl ?_)))
          refine fcall _ h0 (fzs_sub (by decide +kernel) hW) hB0 (ct_M_put_68ae5 (fBz h0 hB0) (by omega) (by omega)) ?_
          rintro IhB11 _ hB11 fhB11 ⟨z10, rfl, hz10⟩
          refine And.intro (True.intro) ?_
          exact ⟨_, rfl, by omega⟩
abbrev jc_Dark_choose_7e957_10 : Nat → fL → List fV → fH → Prop := fun m lv st I => ∃ (y2 : Int) (y3 : Int) (y4 : Int) (y5 : Int) (y7 : Int), lv = [(0, .inr (.inr (some 732))), (1, .inr (.inr (some 211))), (2, .inl y2), (3, .inl y3), (4, .inl y4), (5, .inr (.inl y5)), (7, .inl y7)] ∧ st = [] ∧ (((0 ≤ y2 ∧ y2 ≤ 23) ∧ (0 ≤ y3 ∧ y3 ≤ 300) ∧ ((-2147483648) ≤ y4 ∧ y4 ≤ 2147483647) ∧ ((-9223372036854775808) ≤ y5 ∧ y5 ≤ 9223372036854775807) ∧ (0 ≤ y7 ∧ y7 ≤ 4))) ∧ m = (1 + 1 * (4 - y7) : Int).toNat
set_option maxRecDepth 8000 in
theorem ct_Dark_choose_7e957 {I : fH} {x2 : Int} {x3 : Int} (h0 : fB bsJ I) (ha2 : (0 ≤ x2 ∧ x2 ≤ 23)) (ha3 : (0 ≤ x3 ∧ x3 ≤ 300)) : fC ρ base n F xTc vwCl xTys D dA la gJ (fbz bsJ znJ (fKc wz_61c55) I) xm_190 [.inr (.inr (some 732)), .inr (.inr (some 211)), .inl x2, .inl x3] I (fun _ r => r = none) := by
  have hW : fzs wz_61c55 (fKc wz_61c55) := fKc_ok _
  refine f_meth (rb := rbJ) (J := [(10, jc_Dark_choose_7e957_10)]) 6 400 xG xin_190 x6_190 okJ (fB_self h0) ?_ ?_
  · refine List.forall_mem_cons.mpr ⟨?_, fun q h => absurd h List.not_mem_nil⟩
    · rintro m _ _ I1 hB1 ⟨y2, y3, y4, y5, y7, rfl, rfl, hb, hm⟩
      refine And.intro (by omega) (And.intro ?_ ?_)
      · intro c1
        refine And.intro ⟨rfl, by decide, by decide⟩ ?_
        refine fstore rS_733_733_0_300_1_0 (fzs_sub (by decide +kernel) hW) (by omega) (by omega) ?_
        intro IhB2 ehB2 hB2
        have t3 := fup_self ehB2
        refine And.intro ⟨rfl, by decide, by decide⟩ ?_
        refine fstore rS_734_734_0_300_1_0 (fzs_sub (by decide +kernel) hW) (by omega) (by omega) ?_
        intro IhB4 ehB4 hB4
        have t5 := fup_self ehB4
        exact rfl
      · intro c6
        refine And.intro ⟨rfl, by decide, by decide⟩ ?_
        refine fload rL_223_223_0_3_1_0 h0 hB1 (by omega) ?_
        intro z7 lz7 uz7 qz7
        refine And.intro (by omega) (And.intro ?_ ?_)
        · intro c8
          exact fcutJ (I := I1) (j := jc_Dark_choose_7e957_10) (lv' := [(0, .inr (.inr (some 732))), (1, .inr (.inr (some 211))), (2, .inl _), (3, .inl _), (4, .inl _), (5, .inr (.inl _)), (7, .inl _)]) (And.intro rfl (And.intro rfl (And.intro rfl (And.intro rfl (And.intro rfl (And.intro rfl (And.intro rfl True.intro))))))) ⟨_, _, _, _, _, rfl, rfl, by omega, rfl⟩ (by omega)
        · intro c9
          refine And.intro ⟨rfl, by decide, by decide⟩ ?_
          refine fload rL_733_733_0_300_1_0 h0 hB1 (by omega) ?_
          intro z10 lz10 uz10 qz10
          refine And.intro (by omega) (And.intro ?_ ?_)
          · intro c11
            exact fcutJ (I := I1) (j := jc_Dark_choose_7e957_10) (lv' := [(0, .inr (.inr (some 732))), (1, .inr (.inr (some 211))), (2, .inl _), (3, .inl _), (4, .inl _), (5, .inr (.inl _)), (7, .inl _)]) (And.intro rfl (And.intro rfl (And.intro rfl (And.intro rfl (And.intro rfl (And.intro rfl (And.intro rfl True.intro))))))) ⟨_, _, _, _, _, rfl, rfl, by omega, rfl⟩ (by omega)
          · intro c12
            refine And.intro ⟨rfl, by decide, by decide⟩ ?_
            refine fload rL_733_733_0_300_1_0 h0 hB1 (by omega) ?_
            intro z13 lz13 uz13 qz13
            refine And.intro ⟨rfl, by decide, by decide⟩ ?_
            refine And.intro ⟨rfl, by decide⟩ (And.intro (by omega) ?_)
            refine fload rL_225_248_0_3_1_0 h0 hB1 (by omega) ?_
            intro z14 lz14 uz14 qz14
            intro z15 hz15 ez15 bz15
            clear ez15
            clear bz15
            refine And.intro (by omega) (And.intro ?_ ?_)
            · intro c16
              refine And.intro ⟨rfl, by decide, by decide⟩ ?_
              refine fload rL_734_734_0_300_1_0 h0 hB1 (by omega) ?_
              intro z17 lz17 uz17 qz17
              intro z18 hz18 ez18
              refine And.intro (by omega) ?_
              intro z19 hz19 ez19
              exact fcutJ (I := I1) (j := jc_Dark_choose_7e957_10) (lv' := [(0, .inr (.inr (some 732))), (1, .inr (.inr (some 211))), (2, .inl _), (3, .inl _), (4, .inl _), (5, .inr (.inl _)), (7, .inl _)]) (And.intro rfl (And.intro rfl (And.intro rfl (And.intro rfl (And.intro rfl (And.intro rfl (And.intro rfl True.intro))))))) ⟨_, _, _, _, _, rfl, rfl, by omega, rfl⟩ (by omega)
            · intro c20
              refine And.intro (by omega) (And.intro ?_ ?_)
              · intro c21
                exact fcutJ (I := I1) (j := jc_Dark_choose_7e957_10) (lv' := [(0, .inr (.inr (some 732))), (1, .inr (.inr (some 211))), (2, .inl _), (3, .inl _), (4, .inl _), (5, .inr (.inl _)), (7, .inl _)]) (And.intro rfl (And.intro rfl (And.intro rfl (And.intro rfl (And.intro rfl (And.intro rfl (And.intro rfl True.intro))))))) ⟨_, _, _, _, _, rfl, rfl, by omega, rfl⟩ (by omega)
              · intro c22
                refine And.intro ⟨rfl, by decide, by decide⟩ ?_
                refine fload rL_734_734_0_300_1_0 h0 hB1 (by omega) ?_
                intro z23 lz23 uz23 qz23
                intro z24 hz24 ez24
                refine And.intro (by omega) ?_
                intro z25 hz25 ez25
                exact fcutJ (I := I1) (j := jc_Dark_choose_7e957_10) (lv' := [(0, .inr (.inr (some 732))), (1, .inr (.inr (some 211))), (2, .inl _), (3, .inl _), (4, .inl _), (5, .inr (.inl _)), (7, .inl _)]) (And.intro rfl (And.intro rfl (And.intro rfl (And.intro rfl (And.intro rfl (And.intro rfl (And.intro rfl True.intro))))))) ⟨_, _, _, _, _, rfl, rfl, by omega, rfl⟩ (by omega)
  · have hB0 := fB_self (zn := znJ) (K := fKc wz_61c55) h0
    exact fcutJ (I := I) (j := jc_Dark_choose_7e957_10) (lv' := [(0, .inr (.inr (some 732))), (1, .inr (.inr (some 211))), (2, .inl _), (3, .inl _), (4, .inl _), (5, .inr (.inl _)), (7, .inl _)]) (And.intro rfl (And.intro rfl (And.intro rfl (And.intro rfl (And.intro rfl (And.intro rfl (And.intro rfl True.intro))))))) ⟨_, _, _, _, _, rfl, rfl, by omega, rfl⟩ (by omega)
abbrev jc_Dark_leastHarm_e9db9_3 : Nat → fL → List fV → fH → Prop := fun m lv st I => ∃ (y2 : Int) (y3 : Int) (y4 : Int), lv = [(0, .inr (.inr (some 732))), (1, .inr (.inr (some 211))), (2, .inl y2), (3, .inl y3), (4, .inl y4)] ∧ st = [] ∧ (((1 ≤ y2 ∧ y2 ≤ 24) ∧ (0 ≤ y3 ∧ y3 ≤ 300) ∧ (0 ≤ y4 ∧ y4 ≤ 301))) ∧ m = (7576 + 1 * (301 - y4) : Int).toNat
abbrev jc_Dark_leastHarm_e9db9_36 : Nat → fL → List fV → fH → Prop := fun m lv st I => ∃ (y3 : Int) (y4 : Int), lv = [(0, .inr (.inr (some 732))), (1, .inr (.inr (some 211))), (3, .inl y3), (4, .inl y4)] ∧ st = [] ∧ (((0 ≤ y3 ∧ y3 ≤ 300) ∧ ((-1) ≤ y4 ∧ y4 ≤ 23))) ∧ m = (303 + 303 * (y4 - (-1)) : Int).toNat
abbrev jc_Dark_leastHarm_e9db9_44 : Nat → fL → List fV → fH → Prop := fun m lv st I => ∃ (y3 : Int) (y4 : Int) (y5 : Int), lv = [(0, .inr (.inr (some 732))), (1, .inr (.inr (some 211))), (3, .inl y3), (4, .inl y4), (5, .inl y5)] ∧ st = [] ∧ (((0 ≤ y3 ∧ y3 ≤ 300) ∧ (0 ≤ y4 ∧ y4 ≤ 23) ∧ ((-1) ≤ y5 ∧ y5 ≤ 300))) ∧ m = (1 + 303 * (y4 - (-1)) + 1 * (y5 - (-1)) : Int).toNat
set_option maxRecDepth 8000 in
theorem ct_Dark_leastHarm_e9db9 {I : fH} {x2 : Int} {x3 : Int} (h0 : fB bsJ I) (ha2 : (1 ≤ x2 ∧ x2 ≤ 24)) (ha3 : (0 ≤ x3 ∧ x3 ≤ 300)) : fC ρ base n F xTc vwCl xTys D dA la gJ (fbz bsJ znJ (fKc wz_61c55) I) xm_189 [.inr (.inr (some 732)), .inr (.inr (some 211)), .inl x2, .inl x3] I (fun _ r => ∃ z, r = some (.inl z) ∧ ((-2147483648) ≤ z ∧ z ≤ 2147483647)) := by
  have hW : fzs wz_61c55 (fKc wz_61c55) := fKc_ok _
  refine f_meth (rb := rbJ) (J := [(3, jc_Dark_leastHarm_e9db9_3), (36, jc_Dark_leastHarm_e9db9_36), (44, jc_Dark_leastHarm_e9db9_44)]) 7878 400 xG xin_189 x6_189 okJ (fB_self h0) ?_ ?_
  · refine List.forall_mem_cons.mpr ⟨?_, List.forall_mem_cons.mpr ⟨?_, List.forall_mem_cons.mpr ⟨?_, fun q h => absurd h List.not_mem_nil⟩⟩⟩
    · rintro m _ _ I1 hB1 ⟨y2, y3, y4, rfl, rfl, hb, hm⟩
      refine And.intro (by omega) (And.intro ?_ ?_)
      · intro c1
        exact fcutJ (I := I1) (j := jc_Dark_leastHarm_e9db9_36) (lv' := [(0, .inr (.inr (some 732))), (1, .inr (.inr (some 211))), (3, .inl _), (4, .inl _)]) (And.intro rfl (And.intro rfl (And.intro rfl (And.intro rfl True.intro)))) ⟨_, _, rfl, rfl, by omega, rfl⟩ (by omega)
      · intro c2
        refine And.intro ⟨rfl, by decide, by decide⟩ ?_
        refine fstore rS_733_733_0_300_1_0 (fzs_sub (by decide +kernel) hW) (by omega) (by omega) ?_
        intro IhB3 ehB3 hB3
        have t4 := fup_self ehB3
        refine And.intro ⟨rfl, by decide, by decide⟩ ?_
        refine fstore rS_734_734_0_300_1_0 (fzs_sub (by decide +kernel) hW) (by omega) (by omega) ?_
        intro IhB5 ehB5 hB5
        have t6 := fup_self ehB5
        exact fcutJ (I := IhB5) (j := jc_Dark_leastHarm_e9db9_3) (lv' := [(0, .inr (.inr (some 732))), (1, .inr (.inr (some 211))), (2, .inl _), (3, .inl _), (4, .inl _)]) (And.intro rfl (And.intro rfl (And.intro rfl (And.intro rfl (And.intro rfl True.intro))))) ⟨_, _, _, rfl, rfl, by omega, rfl⟩ (by omega)
    · rintro m _ _ I1 hB1 ⟨y3, y4, rfl, rfl, hb, hm⟩
      refine And.intro (by omega) (And.intro ?_ ?_)
      · intro c7
        refine And.intro ⟨rfl, by decide, by decide⟩ ?_
        refine fload rL_733_733_0_300_1_0 h0 hB1 (by omega) ?_
        intro z8 lz8 uz8 qz8
        refine And.intro (True.intro) ?_
        exact ⟨_, rfl, by omega⟩
      · intro c9
        exact fcutJ (I := I1) (j := jc_Dark_leastHarm_e9db9_44) (lv' := [(0, .inr (.inr (some 732))), (1, .inr (.inr (some 211))), (3, .inl _), (4, .inl _), (5, .inl _)]) (And.intro rfl (And.intro rfl (And.intro rfl (And.intro rfl (And.intro rfl True.intro))))) ⟨_, _, _, rfl, rfl, by omega, rfl⟩ (by omega)
    · rintro m _ _ I1 hB1 ⟨y3, y4, y5, rfl, rfl, hb, hm⟩
      refine And.intro (by omega) (And.intro ?_ ?_)
      · intro c10
        exact fcutJ (I := I1) (j := jc_Dark_leastHarm_e9db9_36) (lv' := [(0, .inr (.inr (some 732))), (1, .inr (.inr (some 211))), (3, .inl _), (4, .inl _)]) (And.intro rfl (And.intro rfl (And.intro rfl (And.intro rfl True.intro)))) ⟨_, _, rfl, rfl, by omega, rfl⟩ (by omega)
      · intro c11
        refine Exists.intro xm_190 (And.intro mi_190 (And.intro ⟨rfl, rfl, rfl, rfl⟩ (And.intro rfl ?_)))
        refine fcall _ h0 (fzs_sub (by decide +kernel) hW) hB1 (ct_Dark_choose_7e957 (fBz h0 hB1) (by omega) (by omega)) ?_
        rintro IhB13 _ hB13 fhB13 rfl
        exact fcutJ (I := IhB13) (j := jc_Dark_leastHarm_e9db9_44) (lv' := [(0, .inr (.inr (some 732))), (1, .inr (.inr (some 211))), (3, .inl _), (4, .inl _), (5, .inl _)]) (And.intro rfl (And.intro rfl (And.intro rfl (And.intro rfl (And.intro rfl True.intro))))) ⟨_, _, _, rfl, rfl, by omega, rfl⟩ (by omega)
  · have hB0 := fB_self (zn := znJ) (K := fKc wz_61c55) h0
    exact fcutJ (I := I) (j := jc_Dark_leastHarm_e9db9_3) (lv' := [(0, .inr (.inr (some 732))), (1, .inr (.inr (some 211))), (2, .inl _), (3, .inl _), (4, .inl _)]) (And.intro rfl (And.intro rfl (And.intro rfl (And.intro rfl (And.intro rfl True.intro))))) ⟨_, _, _, rfl, rfl, by omega, rfl⟩ (by omega)
set_option maxRecDepth 8000 in
theorem ct_X_dark_f8010 {I : fH} {x1 : Int} {x2 : Int} (h0 : fB bsJ I) (ha1 : ((-2147483648) ≤ x1 ∧ x1 ≤ 2147483647)) (ha2 : ((-2147483648) ≤ x2 ∧ x2 ≤ 2147483647)) : fC ρ base n F xTc vwCl xTys D dA la gJ (fbz bsJ znJ (fKc wz_61c55) I) xm_188 [.inr (.inr (some 0)), .inl x1, .inl x2] I (fun _ r => ∃ z, r = some (.inl z) ∧ ((-2147483648) ≤ z ∧ z ≤ 2147483647)) := by
  have hW : fzs wz_61c55 (fKc wz_61c55) := fKc_ok _
  refine f_meth (rb := rbJ) (J := []) 1 400 xG xin_188 x6_188 okJ (fB_self h0) ?_ ?_
  · exact fun q h => absurd h List.not_mem_nil
  · have hB0 := fB_self (zn := znJ) (K := fKc wz_61c55) h0
    refine Exists.intro xm_13 (And.intro mi_13 (And.intro ⟨rfl, rfl, rfl, rfl⟩ (And.intro True.intro ?_)))
    refine fcallp hB0 (ct_X_within_c27b1 (fBz h0 hB0) (by omega) (by omega) (by omega)) ?_
    rintro _ ⟨z1, rfl, hz1⟩
    refine And.intro (by omega) (And.intro ?_ ?_)
    · intro c2
      refine And.intro (True.intro) ?_
      exact ⟨_, rfl, by omega⟩
    · intro c3
      refine Exists.intro xm_13 (And.intro mi_13 (And.intro ⟨rfl, rfl, rfl, rfl⟩ (And.intro True.intro ?_)))
      refine fcallp hB0 (ct_X_within_c27b1 (fBz h0 hB0) (by omega) (by omega) (by omega)) ?_
      rintro _ ⟨z4, rfl, hz4⟩
      refine And.intro (by omega) (And.intro ?_ ?_)
      · intro c5
        refine And.intro ⟨rfl, by decide, by decide⟩ ?_
        refine And.intro ⟨rfl, by decide, by decide⟩ ?_
        refine Exists.intro xm_189 (And.intro mi_189 (And.intro ⟨rfl, rfl, rfl, rfl⟩ (And.intro rfl ?_)))
        refine fcall _ h0 (fzs_sub (by decide +kernel) hW) hB0 (ct_Dark_leastHarm_e9db9 (fBz h0 hB0) (by omega) (by omega)) ?_
        rintro IhB7 _ hB7 fhB7 ⟨z6, rfl, hz6⟩
        refine And.intro (True.intro) ?_
        exact ⟨_, rfl, by omega⟩
      · intro c8
        refine And.intro (True.intro) ?_
        exact ⟨_, rfl, by omega⟩
set_option maxRecDepth 8000 in
theorem ct_M_harmBy_4eb55 {I : fH} {x1 : Int} {x2 : Int} {x3 : Int} (h0 : fB bsJ I) (ha1 : (0 ≤ x1 ∧ x1 ≤ 23)) (ha2 : (0 ≤ x2 ∧ x2 ≤ 300)) (ha3 : (0 ≤ x3 ∧ x3 ≤ 3)) : fC ρ base n F xTc vwCl xTys D dA la gJ (fbz bsJ znJ (fKc []) I) xm_467 [.inr (.inr (some 740)), .inl x1, .inl x2, .inl x3] I (fun _ r => ∃ z, r = some (.inl z) ∧ (((-2147483648) ≤ z ∧ z ≤ 2147483647) ∧ (0 ≤ z ∧ z ≤ 1000000)) ∧ (z = hbv I x1 x2 x3)) := by
  have hW : fzs [] (fKc []) := fKc_ok _
  refine f_meth (rb := rbJ) (J := []) 1 400 xG xin_467 x6_467 okJ (fB_self h0) ?_ ?_
  · exact fun q h => absurd h List.not_mem_nil
  · have hB0 := fB_self (zn := znJ) (K := fKc []) h0
    refine And.intro ⟨rfl, by decide, by decide⟩ ?_
    intro z1 hz1 ez1 bz1
    clear ez1
    have bz1 := bz1 (by omega)
    refine fload rL_741_741_4560_4563_1_0 h0 hB0 (by omega) ?_
    intro z2 lz2 uz2 qz2
    have w10 := fld_at qz2 (4560 + x3).toNat (by omega)
    intro z3 hz3 ez3 bz3
    clear ez3
    have bz3 := bz3 (by omega)
    refine And.intro (by omega) (And.intro ?_ ?_)
    · intro c4
      refine And.intro ⟨rfl, by decide, by decide⟩ ?_
      intro z5 hz5 ez5 bz5
      clear ez5
      have bz5 := bz5 (by omega)
      refine fload rL_741_741_4570_4665_1_0 h0 hB0 (by omega) ?_
      intro z6 lz6 uz6 qz6
      have w41 := fld_at qz6 (4570 + 4 * x1 + x3).toNat (by omega)
      refine And.intro ⟨rfl, by decide, by decide⟩ ?_
      intro z7 hz7 ez7 bz7
      clear ez7
      have bz7 := bz7 (by omega)
      refine fload rL_756_756_0_7524_1_0 h0 hB0 (by omega) ?_
      intro z8 lz8 uz8 qz8
      have w56 := fld_at qz8 (301 * (x1 + 1) + (x2 - I 741 (4560 + x3).toNat)).toNat (by omega)
      intro z9 hz9 ez9 bz9
      clear ez9
      have bz9 := bz9 (by omega)
      refine Exists.intro xm_291 (And.intro mi_291 (And.intro ⟨rfl, rfl, rfl, rfl⟩ (And.intro True.intro ?_)))
      refine fcallp hB0 (ct_M_least_31c1d (fBz h0 hB0) (by omega) (by omega)) ?_
      rintro _ ⟨z10, rfl, hz10⟩
      refine And.intro (True.intro) ?_
      exact ⟨_, rfl, by omega, (by unfold hbv; split <;> first | omega | (split <;> omega))⟩
    · intro c11
      refine And.intro (True.intro) ?_
      exact ⟨_, rfl, by omega, (by unfold hbv; split <;> first | omega | (split <;> omega))⟩
end CT

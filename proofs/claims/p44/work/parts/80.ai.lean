set_option linter.all false
/-! contracts (written by gen95.py) -/
abbrev wz_fdfa3 : List Nat := [748, 749, 751, 752, 20108, 20306, 20308]
theorem x6_436 : f60c xTc xTys xm_436 = true := by decide +kernel
theorem x6_155 : f60c xTc xTys xm_155 = true := by decide +kernel
theorem x6_437 : f60c xTc xTys xm_437 = true := by decide +kernel
abbrev wz_65950 : List Nat := [706]
theorem rS_707_726_0_29_1_0 : frS gJ bsJ znJ [706] 100 ((707, 726), (0, 29), (1, 0), ((-2147483648), 2147483647)) := frS_dflt (by decide) (by decide +kernel)
theorem rgG_707_726 {o : Nat} (h1 : 707 ≤ o) (h2 : o ≤ 726) : gJ.1 o = some (100, 30) ∧ ∀ j, j < 30 → gJ.2 o j = none := frG_of (a0 := 707) (a1 := 726) (by decide +kernel) h1 h2
abbrev wz_12c7f : List Nat := [704, 705, 706]
theorem x6_157 : f60c xTc xTys xm_157 = true := by decide +kernel
theorem x6_156 : f60c xTc xTys xm_156 = true := by decide +kernel
abbrev wz_c0410 : List Nat := [744, 745, 746]
theorem x6_438 : f60c xTc xTys xm_438 = true := by decide +kernel
theorem rL_745_745_0_19_1_0 : frL gJ bsJ 100 ((745, 745), (0, 19), (1, 0), (0, 30)) := frL_of (by decide +kernel)
theorem rS_746_746_0_599_1_0 : frS gJ bsJ znJ [746] 100 ((746, 746), (0, 599), (1, 0), ((-2147483648), 2147483647)) := frS_dflt (by decide) (by decide +kernel)
theorem rS_744_744_0_19_1_0 : frS gJ bsJ znJ [744] 100 ((744, 744), (0, 19), (1, 0), ((-2147483648), 2147483647)) := frS_dflt (by decide) (by decide +kernel)
theorem rS_745_745_0_19_1_0 : frS gJ bsJ znJ [745] 100 ((745, 745), (0, 19), (1, 0), (0, 30)) := frS_of (by decide +kernel)
theorem x6_160 : f60c xTc xTys xm_160 = true := by decide +kernel
theorem rL_705_705_0_19_1_0 : frL gJ bsJ 100 ((705, 705), (0, 19), (1, 0), (0, 30)) := frL_of (by decide +kernel)
theorem x6_159 : f60c xTc xTys xm_159 = true := by decide +kernel
theorem rL_704_704_0_19_1_0 : frL gJ bsJ 100 ((704, 704), (0, 19), (1, 0), ((-2147483648), 2147483647)) := frL_hull (by decide) (by decide +kernel)
theorem x6_158 : f60c xTc xTys xm_158 = true := by decide +kernel
abbrev wz_efa23 : List Nat := [746]
theorem x6_439 : f60c xTc xTys xm_439 = true := by decide +kernel
theorem rL_744_744_0_19_1_0 : frL gJ bsJ 100 ((744, 744), (0, 19), (1, 0), ((-2147483648), 2147483647)) := frL_hull (by decide) (by decide +kernel)
theorem x6_163 : f60c xTc xTys xm_163 = true := by decide +kernel
theorem rL_707_726_0_29_1_0 : frL gJ bsJ 100 ((707, 726), (0, 29), (1, 0), ((-2147483648), 2147483647)) := frL_hull (by decide) (by decide +kernel)
theorem x6_162 : f60c xTc xTys xm_162 = true := by decide +kernel
theorem x6_161 : f60c xTc xTys xm_161 = true := by decide +kernel
theorem x6_442 : f60c xTc xTys xm_442 = true := by decide +kernel
theorem rL_746_746_0_599_1_0 : frL gJ bsJ 100 ((746, 746), (0, 599), (1, 0), ((-2147483648), 2147483647)) := frL_hull (by decide) (by decide +kernel)
theorem x6_441 : f60c xTc xTys xm_441 = true := by decide +kernel
theorem x6_440 : f60c xTc xTys xm_440 = true := by decide +kernel
theorem x6_165 : f60c xTc xTys xm_165 = true := by decide +kernel
theorem x6_164 : f60c xTc xTys xm_164 = true := by decide +kernel
theorem x6_443 : f60c xTc xTys xm_443 = true := by decide +kernel
theorem x6_168 : f60c xTc xTys xm_168 = true := by decide +kernel
theorem x6_167 : f60c xTc xTys xm_167 = true := by decide +kernel
theorem x6_166 : f60c xTc xTys xm_166 = true := by decide +kernel
abbrev wz_25294 : List Nat := [746, 753]
theorem x6_444 : f60c xTc xTys xm_444 = true := by decide +kernel
theorem rS_753_753_0_29_1_0 : frS gJ bsJ znJ [753] 100 ((753, 753), (0, 29), (1, 0), ((-2147483648), 2147483647)) := frS_dflt (by decide) (by decide +kernel)
theorem rL_753_753_0_29_1_0 : frL gJ bsJ 100 ((753, 753), (0, 29), (1, 0), ((-2147483648), 2147483647)) := frL_hull (by decide) (by decide +kernel)
abbrev wz_9f933 : List Nat := [212]
theorem rL_213_220_0_11_1_0 : frL gJ bsJ 100 ((213, 220), (0, 11), (1, 0), (0, 3)) := frL_of (by decide +kernel)
theorem rS_213_220_0_11_1_0 : frS gJ bsJ znJ [212] 100 ((213, 220), (0, 11), (1, 0), (0, 3)) := frS_of (by decide +kernel)
theorem x6_169 : f60c xTc xTys xm_169 = true := by decide +kernel
theorem x6_446 : f60c xTc xTys xm_446 = true := by decide +kernel
theorem x6_447 : f60c xTc xTys xm_447 = true := by decide +kernel
abbrev wz_663b8 : List Nat := [20830]
theorem rL_741_741_4400_4495_12_11 : frL gJ bsJ 100 ((741, 741), (4400, 4495), (12, 11), (0, 3)) := frL_of (by decide +kernel)
theorem rS_741_741_4400_4495_12_11 : frS gJ bsJ znJ [20830] 100 ((741, 741), (4400, 4495), (12, 11), (0, 3)) := frS_of (by decide +kernel)
theorem x6_445 : f60c xTc xTys xm_445 = true := by decide +kernel
theorem x6_172 : f60c xTc xTys xm_172 = true := by decide +kernel
theorem rL_221_221_0_7_1_0 : frL gJ bsJ 100 ((221, 221), (0, 7), (1, 0), ((-1), 3)) := frL_of (by decide +kernel)
theorem x6_171 : f60c xTc xTys xm_171 = true := by decide +kernel
theorem x6_499 : f60c xTc xTys xm_499 = true := by decide +kernel
abbrev wz_ae6a8 : List Nat := [221]
theorem x6_170 : f60c xTc xTys xm_170 = true := by decide +kernel
theorem rS_221_221_0_7_1_0 : frS gJ bsJ znJ [221] 100 ((221, 221), (0, 7), (1, 0), ((-1), 3)) := frS_of (by decide +kernel)
theorem x6_450 : f60c xTc xTys xm_450 = true := by decide +kernel
theorem x6_449 : f60c xTc xTys xm_449 = true := by decide +kernel
theorem rL_741_741_4500_4507_1_0 : frL gJ bsJ 100 ((741, 741), (4500, 4507), (1, 0), ((-1), 3)) := frL_of (by decide +kernel)
abbrev wz_1ea73 : List Nat := [20831]
theorem x6_448 : f60c xTc xTys xm_448 = true := by decide +kernel
theorem rS_741_741_4500_4507_1_0 : frS gJ bsJ znJ [20831] 100 ((741, 741), (4500, 4507), (1, 0), ((-1), 3)) := frS_of (by decide +kernel)
theorem x6_175 : f60c xTc xTys xm_175 = true := by decide +kernel
theorem x6_174 : f60c xTc xTys xm_174 = true := by decide +kernel
theorem x6_173 : f60c xTc xTys xm_173 = true := by decide +kernel
theorem x6_452 : f60c xTc xTys xm_452 = true := by decide +kernel
theorem x6_451 : f60c xTc xTys xm_451 = true := by decide +kernel
abbrev wz_0e223 : List Nat := [222]
theorem rL_222_222_0_47_1_0 : frL gJ bsJ 100 ((222, 222), (0, 47), (1, 0), (0, 999)) := frL_of (by decide +kernel)
theorem rS_222_222_0_47_1_0 : frS gJ bsJ znJ [222] 100 ((222, 222), (0, 47), (1, 0), (0, 999)) := frS_of (by decide +kernel)
theorem x6_176 : f60c xTc xTys xm_176 = true := by decide +kernel
abbrev wz_c7e2d : List Nat := [20832]
theorem rL_741_741_4510_4557_1_0 : frL gJ bsJ 100 ((741, 741), (4510, 4557), (1, 0), (0, 999)) := frL_of (by decide +kernel)
theorem rS_741_741_4510_4557_1_0 : frS gJ bsJ znJ [20832] 100 ((741, 741), (4510, 4557), (1, 0), (0, 999)) := frS_of (by decide +kernel)
theorem x6_453 : f60c xTc xTys xm_453 = true := by decide +kernel
theorem x6_182 : f60c xTc xTys xm_182 = true := by decide +kernel
theorem fb_727_6 : bsJ 727 6 = (0, 48) := by decide +kernel
theorem rL_728_728_0_23_1_0 : frL gJ bsJ 100 ((728, 728), (0, 23), (1, 0), ((-2147483648), 2147483647)) := frL_hull (by decide) (by decide +kernel)
theorem rL_729_729_0_23_1_0 : frL gJ bsJ 100 ((729, 729), (0, 23), (1, 0), ((-2147483648), 2147483647)) := frL_hull (by decide) (by decide +kernel)
theorem rL_731_731_0_48_1_0 : frL gJ bsJ 100 ((731, 731), (0, 48), (1, 0), ((-2147483648), 2147483647)) := frL_hull (by decide) (by decide +kernel)
theorem fb_727_7 : bsJ 727 7 = ((-2147483648), 2147483647) := by decide +kernel
abbrev wz_01654 : List Nat := [730]
theorem x6_181 : f60c xTc xTys xm_181 = true := by decide +kernel
theorem rS_730_730_0_23_1_0 : frS gJ bsJ znJ [730] 100 ((730, 730), (0, 23), (1, 0), ((-2147483648), 2147483647)) := frS_dflt (by decide) (by decide +kernel)
abbrev wz_f185d : List Nat := [728, 730]
theorem x6_183 : f60c xTc xTys xm_183 = true := by decide +kernel
theorem rS_728_728_0_23_1_0 : frS gJ bsJ znJ [728] 100 ((728, 728), (0, 23), (1, 0), ((-2147483648), 2147483647)) := frS_dflt (by decide) (by decide +kernel)
theorem rL_730_730_0_23_1_0 : frL gJ bsJ 100 ((730, 730), (0, 23), (1, 0), ((-2147483648), 2147483647)) := frL_hull (by decide) (by decide +kernel)
abbrev wz_2d739 : List Nat := [728, 729, 11900]
theorem x6_184 : f60c xTc xTys xm_184 = true := by decide +kernel
theorem rS_729_729_0_23_1_0 : frS gJ bsJ znJ [729] 100 ((729, 729), (0, 23), (1, 0), ((-2147483648), 2147483647)) := frS_dflt (by decide) (by decide +kernel)
theorem fb_727_0 : bsJ 727 0 = ((-2147483648), 2147483647) := by decide +kernel
theorem x6_180 : f60c xTc xTys xm_180 = true := by decide +kernel
abbrev wz_06305 : List Nat := [728, 729, 731]
theorem x6_179 : f60c xTc xTys xm_179 = true := by decide +kernel
theorem rS_731_731_0_48_1_0 : frS gJ bsJ znJ [731] 100 ((731, 731), (0, 48), (1, 0), ((-2147483648), 2147483647)) := frS_dflt (by decide) (by decide +kernel)
section CT
variable {ρ : Nat → Int32} {base n : Nat} {F : Nat → Prop} {D : va_G} {dA : Nat → ClassId} {la : Launch}
set_option maxRecDepth 8000 in
theorem ct_M_shed_c99a1 {I : fH}  (h0 : fB bsJ I) (hp0 : sI I 741) : fC ρ base n F xTc vwCl xTys D dA la gJ (fbz bsJ znJ (fKc wz_fdfa3) I) xm_436 [.inr (.inr (some 740))] I (fun _ r => ∃ z, r = some (.inl z) ∧ ((0 ≤ z ∧ z ≤ 23) ∨ z = (-1000000002))) := by
  have hW : fzs wz_fdfa3 (fKc wz_fdfa3) := fKc_ok _
  refine f_meth (rb := rbJ) (J := []) 1 400 xG xin_436 x6_436 okJ (fB_self h0) ?_ ?_
  · exact fun q h => absurd h List.not_mem_nil
  · have hB0 := fB_self (zn := znJ) (K := fKc wz_fdfa3) h0
    refine Exists.intro xm_434 (And.intro mi_434 (And.intro ⟨rfl, rfl, rfl, rfl⟩ (And.intro rfl ?_)))
    refine fcall _ h0 (fzs_sub (by decide +kernel) hW) hB0 (ct_M_findShed_fb485 (fBz h0 hB0) (sI_keep hp0 h0 hB0 (by decide +kernel))) ?_
    rintro IhB2 _ hB2 fhB2 ⟨z1, rfl, hz1⟩
    refine And.intro (by first | exact fi_ hz1.1 hz1.2 rfl | omega) (And.intro ?_ ?_)
    · intro c3
      refine And.intro ⟨rfl, by decide, by decide⟩ ?_
      refine fload1 rL_751_751_0_23_1_0 h0 hB2 ⟨by decide, by decide⟩ (by first | exact ⟨by decide, by decide⟩ | omega) ?_
      intro z4 lz4 uz4 qz4
      have pz4 := fld_at qz4 0 (by omega)
      refine Exists.intro xm_244 (And.intro mi_244 (And.intro ⟨rfl, rfl, rfl, rfl⟩ (And.intro rfl ?_)))
      refine fcallp hB2 (ct_M_workAt_83d38 (fBz h0 hB2) (by first | exact ⟨lz4, uz4⟩ | omega)) ?_
      rintro _ ⟨_, rfl, rfl⟩
      refine And.intro ⟨rfl, by decide, by decide⟩ ?_
      refine fstore rS_741_741_538_860_14_0 (fzs_sub (by decide +kernel) hW) (by omega) (by first | exact ⟨by decide, by decide⟩ | omega) ?_
      intro IhB6 ehB6 hB6
      have t7 := fup_self ehB6
      have t8 : IhB6 751 0 = IhB2 751 0 := (congrFun (congrFun ehB6 751) 0).trans (fup_ne (by first | exact Or.inl (by decide) | omega))
      refine And.intro ⟨rfl, by decide, by decide⟩ ?_
      refine fload rL_741_741_530_852_14_0 h0 hB6 (by omega) ?_
      intro z9 lz9 uz9 qz9
      refine And.intro (And.intro (by first | exact fi_ lz9 uz9 rfl | omega) (by first | exact ⟨by decide, by decide⟩ | omega)) (And.intro ?_ ?_)
      · intro c10
        refine And.intro (True.intro) ?_
        exact ⟨_, rfl, by omega⟩
      · intro c11
        refine And.intro ⟨rfl, by decide, by decide⟩ ?_
        refine And.intro ⟨rfl, by decide, by decide⟩ ?_
        refine fload rL_741_741_531_853_14_0 h0 hB6 (by omega) ?_
        intro z12 lz12 uz12 qz12
        refine Exists.intro xm_239 (And.intro mi_239 (And.intro ⟨rfl, rfl, rfl, rfl⟩ (And.intro rfl ?_)))
        refine fcallp hB6 (ct_M_cellAt_c15f4 (fBz h0 hB6) (by first | exact ⟨lz12, uz12⟩ | omega)) ?_
        rintro _ ⟨_, rfl, rfl⟩
        refine fload rL_741_741_38_418_20_0 h0 hB6 (by omega) ?_
        intro z14 lz14 uz14 qz14
        refine And.intro ⟨rfl, by decide, by decide⟩ ?_
        refine fload rL_741_741_536_858_14_0 h0 hB6 (by omega) ?_
        intro z15 lz15 uz15 qz15
        intro z16 hz16 ez16 bz16
        clear ez16
        try replace bz16 := bz16 (by omega)
        refine fstore rS_741_741_38_418_20_0 (fzs_sub (by decide +kernel) hW) (by omega) (by omega) ?_
        intro IhB17 ehB17 hB17
        have t18 := fup_self ehB17
        have t19 : IhB17 751 0 = IhB6 751 0 := (congrFun (congrFun ehB17 751) 0).trans (fup_ne (by first | exact Or.inl (by decide) | omega))
        refine And.intro ⟨rfl, by decide, by decide⟩ ?_
        refine fstore rS_741_741_536_858_14_0 (fzs_sub (by decide +kernel) hW) (by omega) (by first | exact ⟨by decide, by decide⟩ | omega) ?_
        intro IhB20 ehB20 hB20
        have t21 := fup_self ehB20
        have t22 : IhB20 751 0 = IhB17 751 0 := (congrFun (congrFun ehB20 751) 0).trans (fup_ne (by first | exact Or.inl (by decide) | omega))
        refine And.intro (True.intro) ?_
        exact ⟨_, rfl, by omega⟩
    · intro c23
      refine And.intro (True.intro) ?_
      exact ⟨_, rfl, by omega⟩
abbrev jc_X_enough_1540b_29 : Nat → fL → List fV → fH → Prop := fun m lv st I => ∃ (y1 : Int) (y2 : Int) (y3 : Int), lv = [(0, .inr (.inr (some 0))), (1, .inl y1), (2, .inl y2), (3, .inl y3)] ∧ st = [] ∧ ((((-2147483648) ≤ y1 ∧ y1 ≤ 2147483647) ∧ ((-2147483648) ≤ y2 ∧ y2 ≤ 2147483647) ∧ (0 ≤ y3 ∧ y3 ≤ 25))) ∧ m = (1 + 1 * (25 - y3) : Int).toNat
set_option maxRecDepth 8000 in
theorem ct_X_enough_1540b {I : fH}  (h0 : fB bsJ I)  : fC ρ base n F xTc vwCl xTys D dA la gJ (fbz bsJ znJ (fKc wz_b4fc8) I) xm_155 [.inr (.inr (some 0))] I (fun _ r => ∃ z, r = some (.inl z) ∧ ((0 ≤ z ∧ z ≤ 24) ∨ z = (-1000000002))) := by
  have hW : fzs wz_b4fc8 (fKc wz_b4fc8) := fKc_ok _
  refine f_meth (rb := rbJ) (J := [(29, jc_X_enough_1540b_29)]) 27 400 xG xin_155 x6_155 okJ (fB_self h0) ?_ ?_
  · refine List.forall_mem_cons.mpr ⟨?_, fun q h => absurd h List.not_mem_nil⟩
    · rintro m _ _ I1 hB1 ⟨y1, y2, y3, rfl, rfl, hb, hm⟩
      refine And.intro (And.intro (by first | exact fi_ hb.2.2.1 hb.2.2.2 rfl | omega) (by first | exact ⟨by decide, by decide⟩ | omega)) (And.intro ?_ ?_)
      · intro c1
        refine And.intro (True.intro) ?_
        exact ⟨_, rfl, by omega⟩
      · intro c2
        refine And.intro (And.intro (by first | exact fi_ hb.1.1 hb.1.2 rfl | omega) (by first | exact fi_ hb.2.1.1 hb.2.1.2 rfl | omega)) (And.intro ?_ ?_)
        · intro c3
          refine And.intro ⟨rfl, by decide, by decide⟩ ?_
          refine And.intro ⟨rfl, by decide, by decide⟩ ?_
          refine Exists.intro xm_152 (And.intro mi_152 (And.intro ⟨rfl, rfl, rfl, rfl⟩ (And.intro rfl ?_)))
          refine fcall _ h0 (fzs_sub (by decide +kernel) hW) hB1 (ct_Charter_nextShed_baa16 (fBz h0 hB1)) ?_
          rintro IhB5 _ hB5 fhB5 ⟨z4, rfl, hz4⟩
          refine And.intro (by omega) (And.intro ?_ ?_)
          · intro c6
            refine And.intro ⟨rfl, by decide, by decide⟩ ?_
            refine Exists.intro xm_63 (And.intro mi_63 (And.intro ⟨rfl, rfl, rfl, rfl⟩ (And.intro rfl ?_)))
            refine fcallp hB5 (ct_City_liftOf_26d0e (fBz h0 hB5) (by omega)) ?_
            rintro _ ⟨z7, rfl, hz7⟩
            intro z8 hz8 ez8 bz8
            clear ez8
            clear bz8
            refine And.intro ⟨rfl, by decide, by decide⟩ ?_
            refine And.intro ⟨rfl, by decide, by decide⟩ ?_
            refine Exists.intro xm_68 (And.intro mi_68 (And.intro ⟨rfl, rfl, rfl, rfl⟩ (And.intro rfl ?_)))
            refine fcallp hB5 (ct_Works_weightOf_e689a (fBz h0 hB5) (by omega)) ?_
            rintro _ ⟨z9, rfl, hz9⟩
            intro z10 hz10 ez10 bz10
            clear ez10
            clear bz10
            exact fcutJ (I := IhB5) (j := jc_X_enough_1540b_29) (lv' := [(0, .inr (.inr (some 0))), (1, .inl _), (2, .inl _), (3, .inl _)]) (And.intro rfl (And.intro rfl (And.intro rfl (And.intro rfl True.intro)))) ⟨_, _, _, rfl, rfl, by omega, rfl⟩ (by omega)
          · intro c11
            refine And.intro (True.intro) ?_
            exact ⟨_, rfl, by omega⟩
        · intro c12
          refine And.intro (True.intro) ?_
          exact ⟨_, rfl, by omega⟩
  · have hB0 := fB_self (zn := znJ) (K := fKc wz_b4fc8) h0
    refine And.intro ⟨rfl, by decide, by decide⟩ ?_
    refine And.intro ⟨rfl, by decide, by decide⟩ ?_
    refine Exists.intro xm_149 (And.intro mi_149 (And.intro ⟨rfl, rfl, rfl, rfl⟩ (And.intro rfl ?_)))
    refine fcall _ h0 (fzs_sub (by decide +kernel) hW) hB0 (ct_Charter_rankSheds_09e4d (fBz h0 hB0)) ?_
    rintro IhB14 _ hB14 fhB14 rfl
    refine And.intro ⟨rfl, by decide, by decide⟩ ?_
    refine Exists.intro xm_62 (And.intro mi_62 (And.intro ⟨rfl, rfl, rfl, rfl⟩ (And.intro rfl ?_)))
    refine fcallp hB14 (ct_City_lift_641ac (fBz h0 hB14)) ?_
    rintro _ ⟨z15, rfl, hz15⟩
    refine And.intro ⟨rfl, by decide, by decide⟩ ?_
    refine Exists.intro xm_65 (And.intro mi_65 (And.intro ⟨rfl, rfl, rfl, rfl⟩ (And.intro rfl ?_)))
    refine fcallp hB14 (ct_City_weight_75fdd (fBz h0 hB14)) ?_
    rintro _ ⟨z16, rfl, hz16⟩
    exact fcutJ (I := IhB14) (j := jc_X_enough_1540b_29) (lv' := [(0, .inr (.inr (some 0))), (1, .inl _), (2, .inl _), (3, .inl _)]) (And.intro rfl (And.intro rfl (And.intro rfl (And.intro rfl True.intro)))) ⟨_, _, _, rfl, rfl, by omega, rfl⟩ (by omega)
abbrev jc_M_enough_96175_18 : Nat → fL → List fV → fH → Prop := fun m lv st I => ∃ (y1 : Int) (y2 : Int) (y4 : Int), lv = [(0, .inr (.inr (some 740))), (1, .inl y1), (2, .inr (.inl y2)), (4, .inl y4)] ∧ st = [] ∧ (((0 ≤ y1 ∧ y1 ≤ 24) ∧ ((-9223372036854775808) ≤ y2 ∧ y2 ≤ 9223372036854775807) ∧ (0 ≤ y4 ∧ y4 ≤ 24))) ∧ m = (1 + 1 * (24 - y4) : Int).toNat
set_option maxRecDepth 8000 in
theorem ct_M_enough_96175 {I : fH}  (h0 : fB bsJ I) (hp0 : sI I 741) : fC ρ base n F xTc vwCl xTys D dA la gJ (fbz bsJ znJ (fKc wz_c83f0) I) xm_437 [.inr (.inr (some 740))] I (fun _ r => ∃ z, r = some (.inl z) ∧ ((0 ≤ z ∧ z ≤ 24) ∨ z = (-1000000002))) := by
  have hW : fzs wz_c83f0 (fKc wz_c83f0) := fKc_ok _
  refine f_meth (rb := rbJ) (J := [(18, jc_M_enough_96175_18)]) 26 400 xG xin_437 x6_437 okJ (fB_self h0) ?_ ?_
  · refine List.forall_mem_cons.mpr ⟨?_, fun q h => absurd h List.not_mem_nil⟩
    · rintro m _ _ I1 hB1 ⟨y1, y2, y4, rfl, rfl, hb, hm⟩
      refine And.intro (And.intro (by first | exact fi_ hb.2.2.1 hb.2.2.2 rfl | omega) (by first | exact fi_ hb.1.1 hb.1.2 rfl | omega)) (And.intro ?_ ?_)
      · intro c1
        refine And.intro (And.intro (by first | exact fl_ hb.2.1.1 hb.2.1.2 rfl | omega) (by first | exact ⟨by decide, by decide⟩ | omega)) ?_
        intro z2 hz2
        refine And.intro (by omega) (And.intro ?_ ?_)
        · intro c3
          refine And.intro (True.intro) ?_
          exact ⟨_, rfl, by omega⟩
        · intro c4
          refine And.intro (True.intro) ?_
          exact ⟨_, rfl, by omega⟩
      · intro c5
        refine And.intro (And.intro (by first | exact fl_ hb.2.1.1 hb.2.1.2 rfl | omega) (by first | exact ⟨by decide, by decide⟩ | omega)) ?_
        intro z6 hz6
        refine And.intro (by omega) (And.intro ?_ ?_)
        · intro c7
          refine And.intro (And.intro (by first | exact fl_ hb.2.1.1 hb.2.1.2 rfl | omega) (by first | exact ⟨by decide, by decide⟩ | omega)) ?_
          intro z8 hz8
          refine And.intro (by omega) (And.intro ?_ ?_)
          · intro c9
            refine And.intro (True.intro) ?_
            exact ⟨_, rfl, by omega⟩
          · intro c10
            refine And.intro (True.intro) ?_
            exact ⟨_, rfl, by omega⟩
        · intro c11
          refine And.intro ⟨rfl, by decide, by decide⟩ ?_
          refine fload1 rL_751_751_0_23_1_0 h0 hB1 ⟨by decide, by decide⟩ (by first | exact ⟨hb.2.2.1, Int.le_trans (Int.le_sub_one_of_lt (Int.lt_of_lt_of_le c5 hb.1.2)) (by decide)⟩ | omega) ?_
          intro z12 lz12 uz12 qz12
          refine Exists.intro xm_244 (And.intro mi_244 (And.intro ⟨rfl, rfl, rfl, rfl⟩ (And.intro rfl ?_)))
          refine fcallp hB1 (ct_M_workAt_83d38 (fBz h0 hB1) (by first | exact ⟨lz12, uz12⟩ | omega)) ?_
          rintro _ ⟨_, rfl, rfl⟩
          refine And.intro ⟨rfl, by decide, by decide⟩ ?_
          refine fload rL_741_741_539_861_14_0 h0 hB1 (by omega) ?_
          intro z14 lz14 uz14 qz14
          refine And.intro (by first | exact fi_ lz14 uz14 rfl | omega) (And.intro ?_ ?_)
          · intro c15
            intro z16 hz16 ez16 bz16
            refine And.intro ⟨rfl, by decide, by decide⟩ ?_
            refine fload rL_741_741_530_852_14_0 h0 hB1 (by omega) ?_
            intro z17 lz17 uz17 qz17
            refine And.intro (And.intro (by first | exact fi_ lz17 uz17 rfl | omega) (by first | exact ⟨by decide, by decide⟩ | omega)) (And.intro ?_ ?_)
            · intro c18
              intro z19 hz19 ez19 bz19
              exact fcutJ (I := I1) (j := jc_M_enough_96175_18) (lv' := [(0, .inr (.inr (some 740))), (1, .inl _), (2, .inr (.inl _)), (4, .inl _)]) (And.intro rfl (And.intro rfl (And.intro rfl (And.intro rfl True.intro)))) ⟨_, _, _, rfl, rfl, by omega, rfl⟩ (by omega)
            · intro c20
              refine And.intro ⟨rfl, by decide, by decide⟩ ?_
              refine fload rL_741_741_536_858_14_0 h0 hB1 (by omega) ?_
              intro z21 lz21 uz21 qz21
              refine And.intro (by first | exact fi_ lz21 uz21 rfl | omega) ?_
              refine Exists.intro xm_281 (And.intro mi_281 (And.intro ⟨rfl, rfl, rfl, rfl⟩ (And.intro rfl ?_)))
              refine fcallp hB1 (ct_M_table_49021 (fBz h0 hB1) (by omega)) ?_
              rintro _ ⟨z22, rfl, hz22⟩
              refine And.intro (by first | exact fi_ hz22.1 hz22.2 rfl | omega) ?_
              intro z23 hz23 ez23 bz23
              refine And.intro (And.intro (by omega) (by omega)) ?_
              intro z24 hz24 ez24
              intro z25 hz25 ez25 bz25
              exact fcutJ (I := I1) (j := jc_M_enough_96175_18) (lv' := [(0, .inr (.inr (some 740))), (1, .inl _), (2, .inr (.inl _)), (4, .inl _)]) (And.intro rfl (And.intro rfl (And.intro rfl (And.intro rfl True.intro)))) ⟨_, _, _, rfl, rfl, by omega, rfl⟩ (by omega)
          · intro c26
            refine And.intro ⟨rfl, by decide, by decide⟩ ?_
            refine fload rL_741_741_532_854_14_0 h0 hB1 (by omega) ?_
            intro z27 lz27 uz27 qz27
            refine And.intro (by first | exact fi_ lz27 uz27 rfl | omega) ?_
            intro z28 hz28 ez28 bz28
            refine And.intro ⟨rfl, by decide, by decide⟩ ?_
            refine fload rL_741_741_530_852_14_0 h0 hB1 (by omega) ?_
            intro z29 lz29 uz29 qz29
            refine And.intro (And.intro (by first | exact fi_ lz29 uz29 rfl | omega) (by first | exact ⟨by decide, by decide⟩ | omega)) (And.intro ?_ ?_)
            · intro c30
              intro z31 hz31 ez31 bz31
              exact fcutJ (I := I1) (j := jc_M_enough_96175_18) (lv' := [(0, .inr (.inr (some 740))), (1, .inl _), (2, .inr (.inl _)), (4, .inl _)]) (And.intro rfl (And.intro rfl (And.intro rfl (And.intro rfl True.intro)))) ⟨_, _, _, rfl, rfl, by omega, rfl⟩ (by omega)
            · intro c32
              refine And.intro ⟨rfl, by decide, by decide⟩ ?_
              refine fload rL_741_741_536_858_14_0 h0 hB1 (by omega) ?_
              intro z33 lz33 uz33 qz33
              refine And.intro (by first | exact fi_ lz33 uz33 rfl | omega) ?_
              refine Exists.intro xm_281 (And.intro mi_281 (And.intro ⟨rfl, rfl, rfl, rfl⟩ (And.intro rfl ?_)))
              refine fcallp hB1 (ct_M_table_49021 (fBz h0 hB1) (by omega)) ?_
              rintro _ ⟨z34, rfl, hz34⟩
              refine And.intro (by first | exact fi_ hz34.1 hz34.2 rfl | omega) ?_
              intro z35 hz35 ez35 bz35
              refine And.intro (And.intro (by omega) (by omega)) ?_
              intro z36 hz36 ez36
              intro z37 hz37 ez37 bz37
              exact fcutJ (I := I1) (j := jc_M_enough_96175_18) (lv' := [(0, .inr (.inr (some 740))), (1, .inl _), (2, .inr (.inl _)), (4, .inl _)]) (And.intro rfl (And.intro rfl (And.intro rfl (And.intro rfl True.intro)))) ⟨_, _, _, rfl, rfl, by omega, rfl⟩ (by omega)
  · have hB0 := fB_self (zn := znJ) (K := fKc wz_c83f0) h0
    refine Exists.intro xm_434 (And.intro mi_434 (And.intro ⟨rfl, rfl, rfl, rfl⟩ (And.intro rfl ?_)))
    refine fcall _ h0 (fzs_sub (by decide +kernel) hW) hB0 (ct_M_findShed_fb485 (fBz h0 hB0) (sI_keep hp0 h0 hB0 (by decide +kernel))) ?_
    rintro IhB39 _ hB39 fhB39 ⟨z38, rfl, hz38⟩
    refine Exists.intro xm_282 (And.intro mi_282 (And.intro ⟨rfl, rfl, rfl, rfl⟩ (And.intro rfl ?_)))
    refine fcallp hB39 (ct_M_weight_47499 (fBz h0 hB39)) ?_
    rintro _ ⟨z40, rfl, hz40⟩
    refine Exists.intro xm_280 (And.intro mi_280 (And.intro ⟨rfl, rfl, rfl, rfl⟩ (And.intro rfl ?_)))
    refine fcallp hB39 (ct_M_lift_1d7b0 (fBz h0 hB39)) ?_
    rintro _ ⟨z41, rfl, hz41⟩
    intro z42 hz42 ez42 bz42
    exact fcutJ (I := IhB39) (j := jc_M_enough_96175_18) (lv' := [(0, .inr (.inr (some 740))), (1, .inl _), (2, .inr (.inl _)), (4, .inl _)]) (And.intro rfl (And.intro rfl (And.intro rfl (And.intro rfl True.intro)))) ⟨_, _, _, rfl, rfl, by omega, rfl⟩ (by omega)
abbrev jc_Arrays_fill_8f13d_5 : Nat → fL → List fV → fH → Prop := fun m lv st I => ∃ (y0 : Nat) (y1 : Int) (y2 : Int) (y3 : Int), lv = [(0, .inr (.inr (some y0))), (1, .inl y1), (2, .inl y2), (3, .inl y3)] ∧ st = [] ∧ (((707 ≤ y0 ∧ y0 ≤ 726) ∧ (0 ≤ y1 ∧ y1 ≤ 0) ∧ (0 ≤ y2 ∧ y2 ≤ 30) ∧ (30 ≤ y3 ∧ y3 ≤ 30))) ∧ m = (1 + 1 * (30 - y2) : Int).toNat
set_option maxRecDepth 8000 in
theorem ct_Arrays_fill_8f13d {I : fH} {x0 : Nat} {x1 : Int} (h0 : fB bsJ I) (ha0 : (707 ≤ x0 ∧ x0 ≤ 726)) (ha1 : (0 ≤ x1 ∧ x1 ≤ 0)) : fC ρ base n F xTc vwCl xTys D dA la gJ (fbz bsJ znJ (fKc wz_65950) I) xm_498 [.inr (.inr (some x0)), .inl x1] I (fun _ r => r = none) := by
  have hW : fzs wz_65950 (fKc wz_65950) := fKc_ok _
  refine f_meth (rb := rbJ) (J := [(5, jc_Arrays_fill_8f13d_5)]) 32 400 xG xin_498 x6_498 okJ (fB_self h0) ?_ ?_
  · refine List.forall_mem_cons.mpr ⟨?_, fun q h => absurd h List.not_mem_nil⟩
    · rintro m _ _ I1 hB1 ⟨y0, y1, y2, y3, rfl, rfl, hb, hm⟩
      refine And.intro (And.intro (by first | exact fi_ hb.2.2.1.1 hb.2.2.1.2 rfl | omega) (by first | exact fi_ hb.2.2.2.1 hb.2.2.2.2 rfl | omega)) (And.intro ?_ ?_)
      · intro c1
        exact rfl
      · intro c2
        refine fstore rS_707_726_0_29_1_0 (fzs_sub (by decide +kernel) hW) (by omega) (by first | exact ⟨Int.le_trans (by decide) hb.2.1.1, Int.le_trans hb.2.1.2 (by decide)⟩ | omega) ?_
        intro IhB3 ehB3 hB3
        have t4 := fup_self ehB3
        exact fcutJ (I := IhB3) (j := jc_Arrays_fill_8f13d_5) (lv' := [(0, .inr (.inr (some _))), (1, .inl _), (2, .inl _), (3, .inl _)]) (And.intro rfl (And.intro rfl (And.intro rfl (And.intro rfl True.intro)))) ⟨_, _, _, _, rfl, rfl, by omega, rfl⟩ (by omega)
  · have hB0 := fB_self (zn := znJ) (K := fKc wz_65950) h0
    refine Exists.intro 100 (Exists.intro 30 (And.intro (rgG_707_726 (by omega) (by omega)).1 (And.intro ⟨by decide, by decide, by decide⟩ ?_)))
    exact fcutJ (I := I) (j := jc_Arrays_fill_8f13d_5) (lv' := [(0, .inr (.inr (some _))), (1, .inl _), (2, .inl _), (3, .inl _)]) (And.intro rfl (And.intro rfl (And.intro rfl (And.intro rfl True.intro)))) ⟨_, _, _, _, rfl, rfl, by omega, rfl⟩ (by omega)
set_option maxRecDepth 8000 in
theorem ct_Gauges_begin_09be5 {I : fH} {x1 : Int} {x2 : Int} {x3 : Int} (h0 : fB bsJ I) (ha1 : (0 ≤ x1 ∧ x1 ≤ 19)) (ha2 : (0 ≤ x2 ∧ x2 ≤ 1)) (ha3 : (0 ≤ x3 ∧ x3 ≤ 30)) : fC ρ base n F xTc vwCl xTys D dA la gJ (fbz bsJ znJ (fKc wz_12c7f) I) xm_157 [.inr (.inr (some 703)), .inl x1, .inl x2, .inl x3] I (fun _ r => ∃ z, r = some (.inl z) ∧ ((0 ≤ z ∧ z ≤ 30) ∧ (z = x3))) := by
  have hW : fzs wz_12c7f (fKc wz_12c7f) := fKc_ok _
  refine f_meth (rb := rbJ) (J := []) 1 400 xG xin_157 x6_157 okJ (fB_self h0) ?_ ?_
  · exact fun q h => absurd h List.not_mem_nil
  · have hB0 := fB_self (zn := znJ) (K := fKc wz_12c7f) h0
    refine And.intro ⟨rfl, by decide, by decide⟩ ?_
    refine fstore1 rS_704_704_0_19_1_0 (fzs_sub (by decide +kernel) hW) ⟨by decide, by decide⟩ (by first | exact ⟨ha1.1, ha1.2⟩ | omega) (by first | exact ⟨Int.le_trans (by decide) ha2.1, Int.le_trans ha2.2 (by decide)⟩ | omega) ?_
    intro IhB1 ehB1 hB1
    have t2 := fup_self ehB1
    refine And.intro ⟨rfl, by decide, by decide⟩ ?_
    refine fstore1 rS_705_705_0_19_1_0 (fzs_sub (by decide +kernel) hW) ⟨by decide, by decide⟩ (by first | exact ⟨ha1.1, ha1.2⟩ | omega) (by first | exact ⟨ha3.1, ha3.2⟩ | omega) ?_
    intro IhB3 ehB3 hB3
    have t4 := fup_self ehB3
    refine And.intro ⟨rfl, by decide, by decide⟩ ?_
    refine And.intro ⟨rfl, by decide⟩ (And.intro (by first | exact ⟨ha1.1, Int.lt_of_le_of_lt ha1.2 (by decide)⟩ | omega) ?_)
    refine Exists.intro xm_498 (And.intro mi_498 (And.intro ⟨rfl, rfl, rfl, rfl⟩ (And.intro True.intro ?_)))
    refine fcall _ h0 (fzs_sub (by decide +kernel) hW) hB3 (ct_Arrays_fill_8f13d (fBz h0 hB3) (by omega) (by first | exact ⟨by decide, by decide⟩ | omega)) ?_
    rintro IhB6 _ hB6 fhB6 rfl
    refine And.intro (True.intro) ?_
    exact ⟨_, rfl, by omega⟩
set_option maxRecDepth 8000 in
theorem ct_X_gauge_a2643 {I : fH} {x1 : Int} {x2 : Int} {x3 : Int} (h0 : fB bsJ I) (ha1 : ((-2147483648) ≤ x1 ∧ x1 ≤ 2147483647)) (ha2 : ((-2147483648) ≤ x2 ∧ x2 ≤ 2147483647)) (ha3 : ((-2147483648) ≤ x3 ∧ x3 ≤ 2147483647)) : fC ρ base n F xTc vwCl xTys D dA la gJ (fbz bsJ znJ (fKc wz_12c7f) I) xm_156 [.inr (.inr (some 0)), .inl x1, .inl x2, .inl x3] I (fun _ r => ∃ z, r = some (.inl z) ∧ ((0 ≤ z ∧ z ≤ 30) ∨ z = (-1000000014) ∨ z = (-1000000001)) ∧ (z = gzF (I 2 5) x1 x2 x3)) := by
  have hW : fzs wz_12c7f (fKc wz_12c7f) := fKc_ok _
  refine f_meth (rb := rbJ) (J := []) 1 400 xG xin_156 x6_156 okJ (fB_self h0) ?_ ?_
  · exact fun q h => absurd h List.not_mem_nil
  · have hB0 := fB_self (zn := znJ) (K := fKc wz_12c7f) h0
    refine And.intro ⟨rfl, by decide, by decide⟩ ?_
    refine Exists.intro xm_17 (And.intro mi_17 (And.intro ⟨rfl, rfl, rfl, rfl⟩ (And.intro rfl ?_)))
    refine fcallp hB0 (ct_City_isCell_46f02 (fBz h0 hB0) (by first | exact ⟨ha1.1, ha1.2⟩ | omega)) ?_
    rintro _ ⟨z1, rfl, hz1⟩
    refine And.intro (by omega) (And.intro ?_ ?_)
    · intro c2
      refine And.intro (True.intro) ?_
      exact ⟨_, rfl, by omega, (by unfold gzF; (repeat' split) <;> omega)⟩
    · intro c3
      refine Exists.intro xm_13 (And.intro mi_13 (And.intro ⟨rfl, rfl, rfl, rfl⟩ (And.intro True.intro ?_)))
      refine fcallp hB0 (ct_X_within_c27b1 (fBz h0 hB0) (by first | exact ⟨ha2.1, ha2.2⟩ | omega) (by first | exact ⟨by decide, by decide⟩ | omega) (by first | exact ⟨by decide, by decide⟩ | omega)) ?_
      rintro _ ⟨z4, rfl, hz4⟩
      refine And.intro (by omega) (And.intro ?_ ?_)
      · intro c5
        refine And.intro (And.intro (by first | exact fi_ (Int.le_trans (Int.le_refl _) hz4.1) (Int.le_trans hz4.2 (Int.le_refl _)) rfl | omega) (by first | exact ⟨by decide, by decide⟩ | omega)) (And.intro ?_ ?_)
        · intro c6
          refine And.intro (And.intro (by first | exact fi_ ha3.1 ha3.2 rfl | omega) (by first | exact ⟨by decide, by decide⟩ | omega)) (And.intro ?_ ?_)
          · intro c7
            refine And.intro (by first | exact fi_ ha3.1 (Int.le_trans c7 (Int.le_refl _)) rfl | omega) (And.intro ?_ ?_)
            · intro c8
              refine And.intro ⟨rfl, by decide, by decide⟩ ?_
              refine Exists.intro xm_157 (And.intro mi_157 (And.intro ⟨rfl, rfl, rfl, rfl⟩ (And.intro rfl ?_)))
              refine fcall _ h0 (fzs_sub (by decide +kernel) hW) hB0 (ct_Gauges_begin_09be5 (fBz h0 hB0) (by omega) (by omega) (by first | exact ⟨Int.le_trans (by decide) (Int.le_trans (Int.le_refl _) c8), Int.le_trans (Int.le_trans c7 (Int.le_refl _)) (by decide)⟩ | omega)) ?_
              rintro IhB10 _ hB10 fhB10 ⟨z9, rfl, hz9⟩
              refine And.intro (True.intro) ?_
              exact ⟨_, rfl, by omega, (by unfold gzF; (repeat' split) <;> omega)⟩
            · intro c11
              refine And.intro (True.intro) ?_
              exact ⟨_, rfl, by omega, (by unfold gzF; (repeat' split) <;> omega)⟩
          · intro c12
            refine And.intro (True.intro) ?_
            exact ⟨_, rfl, by omega, (by unfold gzF; (repeat' split) <;> omega)⟩
        · intro c13
          refine And.intro ⟨rfl, by decide, by decide⟩ ?_
          refine Exists.intro xm_15 (And.intro mi_15 (And.intro ⟨rfl, rfl, rfl, rfl⟩ (And.intro rfl ?_)))
          refine fcall _ h0 (fzs_sub (by decide +kernel) hW) hB0 (ct_Gauges_forget_a5150 (fBz h0 hB0) (by omega)) ?_
          rintro IhB15 _ hB15 fhB15 rfl
          refine And.intro (True.intro) ?_
          exact ⟨_, rfl, by omega, (by unfold gzF; (repeat' split) <;> omega)⟩
      · intro c16
        refine And.intro (True.intro) ?_
        exact ⟨_, rfl, by omega, (by unfold gzF; (repeat' split) <;> omega)⟩
abbrev jc_M_gauge_31c2d_70 (x1 : Int) (x2 : Int) (x3 : Int) (I0 : fH) : Nat → fL → List fV → fH → Prop := fun m lv st I => ∃ (y1 : Int) (y4 : Int), lv = [(0, .inr (.inr (some 740))), (1, .inl y1), (4, .inl y4)] ∧ st = [] ∧ (((0 ≤ y1 ∧ y1 ≤ 19) ∧ (0 ≤ y4 ∧ y4 ≤ 30) ∧ (y1 = x1) ∧ (0 ≤ x1) ∧ (x1 < I0 741 5) ∧ ((-1) ≤ x2) ∧ (x2 ≤ 1) ∧ ((x2 < 0 ∧ I 745 x1.toNat = 0) ∨ (0 ≤ x2 ∧ 0 ≤ x3 ∧ x3 ≤ 30 ∧ I 745 x1.toNat = x3)))) ∧ m = (1 + 1 * (30 - y4) : Int).toNat
set_option maxRecDepth 8000 in
theorem ct_M_gauge_31c2d {I : fH} {x1 : Int} {x2 : Int} {x3 : Int} (h0 : fB bsJ I) (ha1 : ((-2147483648) ≤ x1 ∧ x1 ≤ 2147483647)) (ha2 : ((-2147483648) ≤ x2 ∧ x2 ≤ 2147483647)) (ha3 : ((-2147483648) ≤ x3 ∧ x3 ≤ 2147483647)) : fC ρ base n F xTc vwCl xTys D dA la gJ (fbz bsJ znJ (fKc wz_c0410) I) xm_438 [.inr (.inr (some 740)), .inl x1, .inl x2, .inl x3] I (fun _ r => ∃ z, r = some (.inl z) ∧ ((0 ≤ z ∧ z ≤ 30) ∨ z = (-1000000014) ∨ z = (-1000000001)) ∧ (z = gzF (I 741 5) x1 x2 x3)) := by
  have hW : fzs wz_c0410 (fKc wz_c0410) := fKc_ok _
  refine f_meth (rb := rbJ) (J := [(70, (jc_M_gauge_31c2d_70 x1 x2 x3 I))]) 32 400 xG xin_438 x6_438 okJ (fB_self h0) ?_ ?_
  · refine List.forall_mem_cons.mpr ⟨?_, fun q h => absurd h List.not_mem_nil⟩
    · rintro m _ _ I1 hB1 ⟨y1, y4, rfl, rfl, hb, hm⟩
      refine And.intro (And.intro (by first | exact fi_ hb.2.1.1 hb.2.1.2 rfl | omega) (by first | exact ⟨by decide, by decide⟩ | omega)) (And.intro ?_ ?_)
      · intro c1
        refine And.intro ⟨rfl, by decide, by decide⟩ ?_
        refine fload1 rL_745_745_0_19_1_0 h0 hB1 ⟨by decide, by decide⟩ (by first | exact ⟨hb.1.1, hb.1.2⟩ | omega) ?_
        intro z2 lz2 uz2 qz2
        have w101 := fld_at qz2 x1.toNat (by omega)
        refine And.intro (True.intro) ?_
        exact ⟨_, rfl, by omega, (by unfold gzF; (repeat' split) <;> omega)⟩
      · intro c3
        refine And.intro ⟨rfl, by decide, by decide⟩ ?_
        refine fstore rS_746_746_0_599_1_0 (fzs_sub (by decide +kernel) hW) (by omega) (by first | exact ⟨by decide, by decide⟩ | omega) ?_
        intro IhB4 ehB4 hB4
        have t5 := fup_self ehB4
        have w745 := fup_other ehB4 745 x1.toNat (Or.inl (by decide))
        exact fcutJ (I := IhB4) (j := (jc_M_gauge_31c2d_70 x1 x2 x3 I)) (lv' := [(0, .inr (.inr (some 740))), (1, .inl _), (4, .inl _)]) (And.intro rfl (And.intro rfl (And.intro rfl True.intro))) ⟨_, _, rfl, rfl, by omega, rfl⟩ (by omega)
  · have hB0 := fB_self (zn := znJ) (K := fKc wz_c0410) h0
    refine Exists.intro xm_241 (And.intro mi_241 (And.intro ⟨rfl, rfl, rfl, rfl⟩ (And.intro rfl ?_)))
    refine fcallp hB0 (ct_M_isCell_45859 (fBz h0 hB0) (by first | exact ⟨ha1.1, ha1.2⟩ | omega)) ?_
    rintro _ ⟨z6, rfl, hz6⟩
    refine And.intro (by omega) (And.intro ?_ ?_)
    · intro c7
      refine And.intro (True.intro) ?_
      exact ⟨_, rfl, by omega, (by unfold gzF; (repeat' split) <;> omega)⟩
    · intro c8
      refine And.intro (by first | exact fi_ ha2.1 ha2.2 rfl | omega) ?_
      refine Exists.intro xm_238 (And.intro mi_238 (And.intro ⟨rfl, rfl, rfl, rfl⟩ (And.intro True.intro ?_)))
      refine fcallp hB0 (ct_M_isIn_27230 (fBz h0 hB0) (by first | exact ⟨ha2.1, ha2.2⟩ | omega) (by first | exact ⟨by decide, by decide⟩ | omega) (by first | exact ⟨by decide, by decide⟩ | omega)) ?_
      rintro _ ⟨z9, rfl, hz9⟩
      refine And.intro (by omega) (And.intro ?_ ?_)
      · intro c10
        refine And.intro (True.intro) ?_
        exact ⟨_, rfl, by omega, (by unfold gzF; (repeat' split) <;> omega)⟩
      · intro c11
        refine And.intro (by first | exact fi_ (Int.le_trans (Int.le_refl _) hz9.1) (Int.le_trans hz9.2 (Int.le_refl _)) rfl | omega) (And.intro ?_ ?_)
        · intro c12
          refine And.intro (by first | exact fi_ (Int.le_trans (Int.le_refl _) hz9.1) (Int.le_sub_one_of_lt (Int.lt_of_lt_of_le c12 (Int.le_refl _))) rfl | omega) (And.intro ?_ ?_)
          · intro c13
            refine And.intro ⟨rfl, by decide, by decide⟩ ?_
            refine fstore rS_744_744_0_19_1_0 (fzs_sub (by decide +kernel) hW) (by omega) (by first | exact ⟨Int.le_trans (by decide) (Int.le_trans (Int.le_refl _) hz9.1), Int.le_trans (Int.le_sub_one_of_lt (Int.lt_of_lt_of_le c12 (Int.le_refl _))) (by decide)⟩ | omega) ?_
            intro IhB14 ehB14 hB14
            have t15 := fup_self ehB14
            refine And.intro ⟨rfl, by decide, by decide⟩ ?_
            refine And.intro (by first | exact fi_ (Int.le_trans (Int.le_refl _) hz9.1) (Int.le_sub_one_of_lt (Int.lt_of_lt_of_le c12 (Int.le_refl _))) rfl | omega) (And.intro ?_ ?_)
            · intro c16
              refine fstore rS_745_745_0_19_1_0 (fzs_sub (by decide +kernel) hW) (by omega) (by omega) ?_
              intro IhB17 ehB17 hB17
              have t18 := fup_self ehB17
              exact fcutJ (I := IhB17) (j := (jc_M_gauge_31c2d_70 x1 x2 x3 I)) (lv' := [(0, .inr (.inr (some 740))), (1, .inl _), (4, .inl _)]) (And.intro rfl (And.intro rfl (And.intro rfl True.intro))) ⟨_, _, rfl, rfl, by omega, rfl⟩ (by omega)
            · intro c19
              refine fstore rS_745_745_0_19_1_0 (fzs_sub (by decide +kernel) hW) (by omega) (by first | exact ⟨by decide, by decide⟩ | omega) ?_
              intro IhB20 ehB20 hB20
              have t21 := fup_self ehB20
              exact fcutJ (I := IhB20) (j := (jc_M_gauge_31c2d_70 x1 x2 x3 I)) (lv' := [(0, .inr (.inr (some 740))), (1, .inl _), (4, .inl _)]) (And.intro rfl (And.intro rfl (And.intro rfl True.intro))) ⟨_, _, rfl, rfl, by omega, rfl⟩ (by omega)
          · intro c22
            refine And.intro (by first | exact fi_ ha3.1 ha3.2 rfl | omega) (And.intro ?_ ?_)
            · intro c23
              refine And.intro ⟨rfl, by decide, by decide⟩ ?_
              refine fstore rS_744_744_0_19_1_0 (fzs_sub (by decide +kernel) hW) (by omega) (by first | exact ⟨Int.le_trans (by decide) (Int.le_trans (Int.le_refl _) c22), Int.le_trans (Int.le_sub_one_of_lt (Int.lt_of_lt_of_le c12 (Int.le_refl _))) (by decide)⟩ | omega) ?_
              intro IhB24 ehB24 hB24
              have t25 := fup_self ehB24
              refine And.intro ⟨rfl, by decide, by decide⟩ ?_
              refine And.intro (by first | exact fi_ (Int.le_trans (Int.le_refl _) c22) (Int.le_sub_one_of_lt (Int.lt_of_lt_of_le c12 (Int.le_refl _))) rfl | omega) (And.intro ?_ ?_)
              · intro c26
                refine fstore rS_745_745_0_19_1_0 (fzs_sub (by decide +kernel) hW) (by omega) (by omega) ?_
                intro IhB27 ehB27 hB27
                have t28 := fup_self ehB27
                exact fcutJ (I := IhB27) (j := (jc_M_gauge_31c2d_70 x1 x2 x3 I)) (lv' := [(0, .inr (.inr (some 740))), (1, .inl _), (4, .inl _)]) (And.intro rfl (And.intro rfl (And.intro rfl True.intro))) ⟨_, _, rfl, rfl, by omega, rfl⟩ (by omega)
              · intro c29
                refine fstore rS_745_745_0_19_1_0 (fzs_sub (by decide +kernel) hW) (by omega) (by first | exact ⟨by decide, by decide⟩ | omega) ?_
                intro IhB30 ehB30 hB30
                have t31 := fup_self ehB30
                exact fcutJ (I := IhB30) (j := (jc_M_gauge_31c2d_70 x1 x2 x3 I)) (lv' := [(0, .inr (.inr (some 740))), (1, .inl _), (4, .inl _)]) (And.intro rfl (And.intro rfl (And.intro rfl True.intro))) ⟨_, _, rfl, rfl, by omega, rfl⟩ (by omega)
            · intro c32
              refine And.intro (True.intro) ?_
              exact ⟨_, rfl, by omega, (by unfold gzF; (repeat' split) <;> omega)⟩
        · intro c33
          refine And.intro (And.intro (by first | exact fi_ ha3.1 ha3.2 rfl | omega) (by first | exact ⟨by decide, by decide⟩ | omega)) (And.intro ?_ ?_)
          · intro c34
            refine And.intro (by first | exact fi_ (Int.le_trans (Int.le_refl _) c33) (Int.le_trans hz9.2 (Int.le_refl _)) rfl | omega) (And.intro ?_ ?_)
            · intro c35
              refine And.intro ⟨rfl, by decide, by decide⟩ ?_
              refine fstore rS_744_744_0_19_1_0 (fzs_sub (by decide +kernel) hW) (by omega) (by first | exact ⟨Int.le_trans (by decide) (Int.le_trans (Int.le_refl _) c33), Int.le_trans (Int.le_sub_one_of_lt (Int.lt_of_lt_of_le c35 (Int.le_refl _))) (by decide)⟩ | omega) ?_
              intro IhB36 ehB36 hB36
              have t37 := fup_self ehB36
              refine And.intro ⟨rfl, by decide, by decide⟩ ?_
              refine And.intro (by first | exact fi_ (Int.le_trans (Int.le_refl _) c33) (Int.le_sub_one_of_lt (Int.lt_of_lt_of_le c35 (Int.le_refl _))) rfl | omega) (And.intro ?_ ?_)
              · intro c38
                refine fstore rS_745_745_0_19_1_0 (fzs_sub (by decide +kernel) hW) (by omega) (by omega) ?_
                intro IhB39 ehB39 hB39
                have t40 := fup_self ehB39
                exact fcutJ (I := IhB39) (j := (jc_M_gauge_31c2d_70 x1 x2 x3 I)) (lv' := [(0, .inr (.inr (some 740))), (1, .inl _), (4, .inl _)]) (And.intro rfl (And.intro rfl (And.intro rfl True.intro))) ⟨_, _, rfl, rfl, by omega, rfl⟩ (by omega)
              · intro c41
                refine fstore rS_745_745_0_19_1_0 (fzs_sub (by decide +kernel) hW) (by omega) (by first | exact ⟨by decide, by decide⟩ | omega) ?_
                intro IhB42 ehB42 hB42
                have t43 := fup_self ehB42
                exact fcutJ (I := IhB42) (j := (jc_M_gauge_31c2d_70 x1 x2 x3 I)) (lv' := [(0, .inr (.inr (some 740))), (1, .inl _), (4, .inl _)]) (And.intro rfl (And.intro rfl (And.intro rfl True.intro))) ⟨_, _, rfl, rfl, by omega, rfl⟩ (by omega)
            · intro c44
              refine And.intro (by first | exact fi_ ha3.1 (Int.le_trans c34 (Int.le_refl _)) rfl | omega) (And.intro ?_ ?_)
              · intro c45
                refine And.intro ⟨rfl, by decide, by decide⟩ ?_
                refine fstore rS_744_744_0_19_1_0 (fzs_sub (by decide +kernel) hW) (by omega) (by first | exact ⟨Int.le_trans (by decide) (Int.le_trans (Int.le_refl _) c33), Int.le_trans (Int.le_trans hz9.2 (Int.le_refl _)) (by decide)⟩ | omega) ?_
                intro IhB46 ehB46 hB46
                have t47 := fup_self ehB46
                refine And.intro ⟨rfl, by decide, by decide⟩ ?_
                refine And.intro (by first | exact fi_ (Int.le_trans (Int.le_refl _) c33) (Int.le_trans hz9.2 (Int.le_refl _)) rfl | omega) (And.intro ?_ ?_)
                · intro c48
                  refine fstore rS_745_745_0_19_1_0 (fzs_sub (by decide +kernel) hW) (by omega) (by first | exact ⟨Int.le_trans (by decide) (Int.le_trans (Int.le_refl _) c45), Int.le_trans (Int.le_trans c34 (Int.le_refl _)) (by decide)⟩ | omega) ?_
                  intro IhB49 ehB49 hB49
                  have t50 := fup_self ehB49
                  exact fcutJ (I := IhB49) (j := (jc_M_gauge_31c2d_70 x1 x2 x3 I)) (lv' := [(0, .inr (.inr (some 740))), (1, .inl _), (4, .inl _)]) (And.intro rfl (And.intro rfl (And.intro rfl True.intro))) ⟨_, _, rfl, rfl, by omega, rfl⟩ (by omega)
                · intro c51
                  refine fstore rS_745_745_0_19_1_0 (fzs_sub (by decide +kernel) hW) (by omega) (by first | exact ⟨by decide, by decide⟩ | omega) ?_
                  intro IhB52 ehB52 hB52
                  have t53 := fup_self ehB52
                  exact fcutJ (I := IhB52) (j := (jc_M_gauge_31c2d_70 x1 x2 x3 I)) (lv' := [(0, .inr (.inr (some 740))), (1, .inl _), (4, .inl _)]) (And.intro rfl (And.intro rfl (And.intro rfl True.intro))) ⟨_, _, rfl, rfl, by omega, rfl⟩ (by omega)
              · intro c54
                refine And.intro (True.intro) ?_
                exact ⟨_, rfl, by omega, (by unfold gzF; (repeat' split) <;> omega)⟩
          · intro c55
            refine And.intro (True.intro) ?_
            exact ⟨_, rfl, by omega, (by unfold gzF; (repeat' split) <;> omega)⟩
set_option maxRecDepth 8000 in
theorem ct_Gauges_hasPlace_f9c97 {I : fH} {x1 : Int} {x2 : Int} (h0 : fB bsJ I) (ha1 : (0 ≤ x1 ∧ x1 ≤ 19)) (ha2 : ((-2147483648) ≤ x2 ∧ x2 ≤ 2147483647)) : fC ρ base n F xTc vwCl xTys D dA la gJ (fbz bsJ znJ (fKc []) I) xm_160 [.inr (.inr (some 703)), .inl x1, .inl x2] I (fun _ r => ∃ z, r = some (.inl z) ∧ ((z = 1 ∧ 0 ≤ x2 ∧ x2 ≤ 29) ∨ z = 0)) := by
  have hW : fzs [] (fKc []) := fKc_ok _
  refine f_meth (rb := rbJ) (J := []) 1 400 xG xin_160 x6_160 okJ (fB_self h0) ?_ ?_
  · exact fun q h => absurd h List.not_mem_nil
  · have hB0 := fB_self (zn := znJ) (K := fKc []) h0
    refine And.intro ⟨rfl, by decide, by decide⟩ ?_
    refine fload1 rL_705_705_0_19_1_0 h0 hB0 ⟨by decide, by decide⟩ (by first | exact ⟨ha1.1, ha1.2⟩ | omega) ?_
    intro z1 lz1 uz1 qz1
    refine Exists.intro xm_13 (And.intro mi_13 (And.intro ⟨rfl, rfl, rfl, rfl⟩ (And.intro True.intro ?_)))
    refine fcallp hB0 (ct_X_within_c27b1 (fBz h0 hB0) (by first | exact ⟨ha2.1, ha2.2⟩ | omega) (by first | exact ⟨by decide, by decide⟩ | omega) (by omega)) ?_
    rintro _ ⟨z2, rfl, hz2⟩
    refine And.intro (⟨by omega, by omega⟩) ?_
    exact ⟨_, rfl, by omega⟩
abbrev jc_Gauges_put_3b243_43 : Nat → fL → List fV → fH → Prop := fun m lv st I => ∃ (y1 : Int) (y2 : Int) (y3 : Int), lv = [(0, .inr (.inr (some 703))), (1, .inl y1), (2, .inl y2), (3, .inl y3)] ∧ st = [] ∧ (((0 ≤ y1 ∧ y1 ≤ 19) ∧ (0 ≤ y2 ∧ y2 ≤ 29) ∧ ((-2147483648) ≤ y3 ∧ y3 ≤ 2147483647))) ∧ m = (2 : Int).toNat
abbrev jc_Gauges_put_3b243_73 : Nat → fL → List fV → fH → Prop := fun m lv st I => ∃ (y1 : Int) (y2 : Int) (y3 : Int), lv = [(0, .inr (.inr (some 703))), (1, .inl y1), (2, .inl y2), (3, .inl y3)] ∧ st = [] ∧ (((0 ≤ y1 ∧ y1 ≤ 19) ∧ (0 ≤ y2 ∧ y2 ≤ 29) ∧ ((-2147483648) ≤ y3 ∧ y3 ≤ 2147483647))) ∧ m = (1 : Int).toNat
set_option maxRecDepth 8000 in
theorem ct_Gauges_put_3b243 {I : fH} {x1 : Int} {x2 : Int} {x3 : Int} (h0 : fB bsJ I) (ha1 : (0 ≤ x1 ∧ x1 ≤ 19)) (ha2 : ((-2147483648) ≤ x2 ∧ x2 ≤ 2147483647)) (ha3 : ((-2147483648) ≤ x3 ∧ x3 ≤ 2147483647)) : fC ρ base n F xTc vwCl xTys D dA la gJ (fbz bsJ znJ (fKc wz_65950) I) xm_159 [.inr (.inr (some 703)), .inl x1, .inl x2, .inl x3] I (fun _ r => ∃ z, r = some (.inl z) ∧ ((1 ≤ z ∧ z ≤ 1) ∨ z = (-1000000013) ∨ z = (-1000000012) ∨ z = (-1000000011) ∨ z = (-1000000001))) := by
  have hW : fzs wz_65950 (fKc wz_65950) := fKc_ok _
  refine f_meth (rb := rbJ) (J := [(43, jc_Gauges_put_3b243_43), (73, jc_Gauges_put_3b243_73)]) 3 400 xG xin_159 x6_159 okJ (fB_self h0) ?_ ?_
  · refine List.forall_mem_cons.mpr ⟨?_, List.forall_mem_cons.mpr ⟨?_, fun q h => absurd h List.not_mem_nil⟩⟩
    · rintro m _ _ I1 hB1 ⟨y1, y2, y3, rfl, rfl, hb, hm⟩
      refine And.intro ⟨rfl, by decide, by decide⟩ ?_
      refine fload1 rL_704_704_0_19_1_0 h0 hB1 ⟨by decide, by decide⟩ (by first | exact ⟨hb.1.1, hb.1.2⟩ | omega) ?_
      intro z1 lz1 uz1 qz1
      refine And.intro (And.intro (by first | exact fi_ lz1 uz1 rfl | omega) (by first | exact ⟨by decide, by decide⟩ | omega)) (And.intro ?_ ?_)
      · intro c2
        exact fcutJ (I := I1) (j := jc_Gauges_put_3b243_73) (lv' := [(0, .inr (.inr (some 703))), (1, .inl _), (2, .inl _), (3, .inl _)]) (And.intro rfl (And.intro rfl (And.intro rfl (And.intro rfl True.intro)))) ⟨_, _, _, rfl, rfl, by omega, rfl⟩ (by omega)
      · intro c3
        refine And.intro (And.intro (by first | exact fi_ hb.2.2.1 hb.2.2.2 rfl | omega) (by first | exact ⟨by decide, by decide⟩ | omega)) (And.intro ?_ ?_)
        · intro c4
          exact fcutJ (I := I1) (j := jc_Gauges_put_3b243_73) (lv' := [(0, .inr (.inr (some 703))), (1, .inl _), (2, .inl _), (3, .inl _)]) (And.intro rfl (And.intro rfl (And.intro rfl (And.intro rfl True.intro)))) ⟨_, _, _, rfl, rfl, by omega, rfl⟩ (by omega)
        · intro c5
          refine Exists.intro xm_13 (And.intro mi_13 (And.intro ⟨rfl, rfl, rfl, rfl⟩ (And.intro True.intro ?_)))
          refine fcallp hB1 (ct_X_within_c27b1 (fBz h0 hB1) (by first | exact ⟨hb.2.2.1, hb.2.2.2⟩ | omega) (by first | exact ⟨by decide, by decide⟩ | omega) (by first | exact ⟨by decide, by decide⟩ | omega)) ?_
          rintro _ ⟨z6, rfl, hz6⟩
          refine And.intro (by omega) (And.intro ?_ ?_)
          · intro c7
            exact fcutJ (I := I1) (j := jc_Gauges_put_3b243_73) (lv' := [(0, .inr (.inr (some 703))), (1, .inl _), (2, .inl _), (3, .inl _)]) (And.intro rfl (And.intro rfl (And.intro rfl (And.intro rfl True.intro)))) ⟨_, _, _, rfl, rfl, by omega, rfl⟩ (by omega)
          · intro c8
            refine And.intro (True.intro) ?_
            exact ⟨_, rfl, by omega⟩
    · rintro m _ _ I1 hB1 ⟨y1, y2, y3, rfl, rfl, hb, hm⟩
      refine And.intro ⟨rfl, by decide, by decide⟩ ?_
      refine And.intro ⟨rfl, by decide⟩ (And.intro (by first | exact ⟨hb.1.1, Int.lt_of_le_of_lt hb.1.2 (by decide)⟩ | omega) ?_)
      refine And.intro ⟨rfl, by decide, by decide⟩ ?_
      refine fload1 rL_704_704_0_19_1_0 h0 hB1 ⟨by decide, by decide⟩ (by first | exact ⟨hb.1.1, hb.1.2⟩ | omega) ?_
      intro z9 lz9 uz9 qz9
      refine And.intro (by first | exact fi_ lz9 uz9 rfl | omega) (And.intro ?_ ?_)
      · intro c10
        refine fstore rS_707_726_0_29_1_0 (fzs_sub (by decide +kernel) hW) (by omega) (by first | exact ⟨hb.2.2.1, hb.2.2.2⟩ | omega) ?_
        intro IhB11 ehB11 hB11
        have t12 := fup_self ehB11
        refine And.intro (True.intro) ?_
        exact ⟨_, rfl, by omega⟩
      · intro c13
        intro z14 hz14 ez14 bz14
        clear ez14
        clear bz14
        refine fstore rS_707_726_0_29_1_0 (fzs_sub (by decide +kernel) hW) (by omega) (by omega) ?_
        intro IhB15 ehB15 hB15
        have t16 := fup_self ehB15
        refine And.intro (True.intro) ?_
        exact ⟨_, rfl, by omega⟩
  · have hB0 := fB_self (zn := znJ) (K := fKc wz_65950) h0
    refine And.intro ⟨rfl, by decide, by decide⟩ ?_
    refine fload1 rL_704_704_0_19_1_0 h0 hB0 ⟨by decide, by decide⟩ (by first | exact ⟨ha1.1, ha1.2⟩ | omega) ?_
    intro z17 lz17 uz17 qz17
    refine And.intro (And.intro (by first | exact fi_ lz17 uz17 rfl | omega) (by first | exact ⟨by decide, by decide⟩ | omega)) (And.intro ?_ ?_)
    · intro c18
      refine Exists.intro xm_160 (And.intro mi_160 (And.intro ⟨rfl, rfl, rfl, rfl⟩ (And.intro rfl ?_)))
      refine fcallp hB0 (ct_Gauges_hasPlace_f9c97 (fBz h0 hB0) (by first | exact ⟨ha1.1, ha1.2⟩ | omega) (by first | exact ⟨ha2.1, ha2.2⟩ | omega)) ?_
      rintro _ ⟨z19, rfl, hz19⟩
      refine And.intro (by omega) (And.intro ?_ ?_)
      · intro c20
        refine And.intro ⟨rfl, by decide, by decide⟩ ?_
        refine fload1 rL_704_704_0_19_1_0 h0 hB0 ⟨by decide, by decide⟩ (by first | exact ⟨ha1.1, ha1.2⟩ | omega) ?_
        intro z21 lz21 uz21 qz21
        refine And.intro (by first | exact fi_ lz21 uz21 rfl | omega) (And.intro ?_ ?_)
        · intro c22
          exact fcutJ (I := I) (j := jc_Gauges_put_3b243_43) (lv' := [(0, .inr (.inr (some 703))), (1, .inl _), (2, .inl _), (3, .inl _)]) (And.intro rfl (And.intro rfl (And.intro rfl (And.intro rfl True.intro)))) ⟨_, _, _, rfl, rfl, by omega, rfl⟩ (by omega)
        · intro c23
          refine And.intro (And.intro (by first | exact fi_ ha3.1 ha3.2 rfl | omega) (by first | exact ⟨by decide, by decide⟩ | omega)) (And.intro ?_ ?_)
          · intro c24
            exact fcutJ (I := I) (j := jc_Gauges_put_3b243_43) (lv' := [(0, .inr (.inr (some 703))), (1, .inl _), (2, .inl _), (3, .inl _)]) (And.intro rfl (And.intro rfl (And.intro rfl (And.intro rfl True.intro)))) ⟨_, _, _, rfl, rfl, by omega, rfl⟩ (by omega)
          · intro c25
            refine And.intro (True.intro) ?_
            exact ⟨_, rfl, by omega⟩
      · intro c26
        refine And.intro (True.intro) ?_
        exact ⟨_, rfl, by omega⟩
    · intro c27
      refine And.intro (True.intro) ?_
      exact ⟨_, rfl, by omega⟩
set_option maxRecDepth 8000 in
theorem ct_X_point_52a9b {I : fH} {x1 : Int} {x2 : Int} {x3 : Int} (h0 : fB bsJ I) (ha1 : ((-2147483648) ≤ x1 ∧ x1 ≤ 2147483647)) (ha2 : ((-2147483648) ≤ x2 ∧ x2 ≤ 2147483647)) (ha3 : ((-2147483648) ≤ x3 ∧ x3 ≤ 2147483647)) : fC ρ base n F xTc vwCl xTys D dA la gJ (fbz bsJ znJ (fKc wz_65950) I) xm_158 [.inr (.inr (some 0)), .inl x1, .inl x2, .inl x3] I (fun _ r => ∃ z, r = some (.inl z) ∧ ((1 ≤ z ∧ z ≤ 1) ∨ z = (-1000000013) ∨ z = (-1000000012) ∨ z = (-1000000011) ∨ z = (-1000000001))) := by
  have hW : fzs wz_65950 (fKc wz_65950) := fKc_ok _
  refine f_meth (rb := rbJ) (J := []) 1 400 xG xin_158 x6_158 okJ (fB_self h0) ?_ ?_
  · exact fun q h => absurd h List.not_mem_nil
  · have hB0 := fB_self (zn := znJ) (K := fKc wz_65950) h0
    refine And.intro ⟨rfl, by decide, by decide⟩ ?_
    refine Exists.intro xm_17 (And.intro mi_17 (And.intro ⟨rfl, rfl, rfl, rfl⟩ (And.intro rfl ?_)))
    refine fcallp hB0 (ct_City_isCell_46f02 (fBz h0 hB0) (by first | exact ⟨ha1.1, ha1.2⟩ | omega)) ?_
    rintro _ ⟨z1, rfl, hz1⟩
    refine And.intro (by omega) (And.intro ?_ ?_)
    · intro c2
      refine And.intro (True.intro) ?_
      exact ⟨_, rfl, by omega⟩
    · intro c3
      refine And.intro ⟨rfl, by decide, by decide⟩ ?_
      refine Exists.intro xm_159 (And.intro mi_159 (And.intro ⟨rfl, rfl, rfl, rfl⟩ (And.intro rfl ?_)))
      refine fcall _ h0 (fzs_sub (by decide +kernel) hW) hB0 (ct_Gauges_put_3b243 (fBz h0 hB0) (by omega) (by first | exact ⟨ha2.1, ha2.2⟩ | omega) (by first | exact ⟨ha3.1, ha3.2⟩ | omega)) ?_
      rintro IhB5 _ hB5 fhB5 ⟨z4, rfl, hz4⟩
      refine And.intro (True.intro) ?_
      exact ⟨_, rfl, by omega⟩
abbrev jc_M_point_4c325_64 : Nat → fL → List fV → fH → Prop := fun m lv st I => ∃ (y1 : Int) (y2 : Int) (y3 : Int), lv = [(0, .inr (.inr (some 740))), (1, .inl y1), (2, .inl y2), (3, .inl y3)] ∧ st = [] ∧ (((0 ≤ y1 ∧ y1 ≤ 19) ∧ (0 ≤ y2 ∧ y2 ≤ 29) ∧ ((-2147483648) ≤ y3 ∧ y3 ≤ 2147483647))) ∧ m = (2 : Int).toNat
abbrev jc_M_point_4c325_97 : Nat → fL → List fV → fH → Prop := fun m lv st I => ∃ (y1 : Int) (y2 : Int) (y3 : Int), lv = [(0, .inr (.inr (some 740))), (1, .inl y1), (2, .inl y2), (3, .inl y3)] ∧ st = [] ∧ (((0 ≤ y1 ∧ y1 ≤ 19) ∧ (0 ≤ y2 ∧ y2 ≤ 29) ∧ ((-2147483648) ≤ y3 ∧ y3 ≤ 2147483647))) ∧ m = (1 : Int).toNat
set_option maxRecDepth 8000 in
theorem ct_M_point_4c325 {I : fH} {x1 : Int} {x2 : Int} {x3 : Int} (h0 : fB bsJ I) (ha1 : ((-2147483648) ≤ x1 ∧ x1 ≤ 2147483647)) (ha2 : ((-2147483648) ≤ x2 ∧ x2 ≤ 2147483647)) (ha3 : ((-2147483648) ≤ x3 ∧ x3 ≤ 2147483647)) : fC ρ base n F xTc vwCl xTys D dA la gJ (fbz bsJ znJ (fKc wz_efa23) I) xm_439 [.inr (.inr (some 740)), .inl x1, .inl x2, .inl x3] I (fun _ r => ∃ z, r = some (.inl z) ∧ ((1 ≤ z ∧ z ≤ 1) ∨ z = (-1000000013) ∨ z = (-1000000012) ∨ z = (-1000000011) ∨ z = (-1000000001))) := by
  have hW : fzs wz_efa23 (fKc wz_efa23) := fKc_ok _
  refine f_meth (rb := rbJ) (J := [(64, jc_M_point_4c325_64), (97, jc_M_point_4c325_97)]) 3 400 xG xin_439 x6_439 okJ (fB_self h0) ?_ ?_
  · refine List.forall_mem_cons.mpr ⟨?_, List.forall_mem_cons.mpr ⟨?_, fun q h => absurd h List.not_mem_nil⟩⟩
    · rintro m _ _ I1 hB1 ⟨y1, y2, y3, rfl, rfl, hb, hm⟩
      refine And.intro ⟨rfl, by decide, by decide⟩ ?_
      refine fload1 rL_744_744_0_19_1_0 h0 hB1 ⟨by decide, by decide⟩ (by first | exact ⟨hb.1.1, hb.1.2⟩ | omega) ?_
      intro z1 lz1 uz1 qz1
      refine And.intro (And.intro (by first | exact fi_ lz1 uz1 rfl | omega) (by first | exact ⟨by decide, by decide⟩ | omega)) (And.intro ?_ ?_)
      · intro c2
        exact fcutJ (I := I1) (j := jc_M_point_4c325_97) (lv' := [(0, .inr (.inr (some 740))), (1, .inl _), (2, .inl _), (3, .inl _)]) (And.intro rfl (And.intro rfl (And.intro rfl (And.intro rfl True.intro)))) ⟨_, _, _, rfl, rfl, by omega, rfl⟩ (by omega)
      · intro c3
        refine And.intro (And.intro (by first | exact fi_ hb.2.2.1 hb.2.2.2 rfl | omega) (by first | exact ⟨by decide, by decide⟩ | omega)) (And.intro ?_ ?_)
        · intro c4
          exact fcutJ (I := I1) (j := jc_M_point_4c325_97) (lv' := [(0, .inr (.inr (some 740))), (1, .inl _), (2, .inl _), (3, .inl _)]) (And.intro rfl (And.intro rfl (And.intro rfl (And.intro rfl True.intro)))) ⟨_, _, _, rfl, rfl, by omega, rfl⟩ (by omega)
        · intro c5
          refine And.intro (by first | exact fi_ hb.2.2.1 hb.2.2.2 rfl | omega) ?_
          refine Exists.intro xm_238 (And.intro mi_238 (And.intro ⟨rfl, rfl, rfl, rfl⟩ (And.intro True.intro ?_)))
          refine fcallp hB1 (ct_M_isIn_27230 (fBz h0 hB1) (by first | exact ⟨hb.2.2.1, hb.2.2.2⟩ | omega) (by first | exact ⟨by decide, by decide⟩ | omega) (by first | exact ⟨by decide, by decide⟩ | omega)) ?_
          rintro _ ⟨z6, rfl, hz6⟩
          refine And.intro (by omega) (And.intro ?_ ?_)
          · intro c7
            exact fcutJ (I := I1) (j := jc_M_point_4c325_97) (lv' := [(0, .inr (.inr (some 740))), (1, .inl _), (2, .inl _), (3, .inl _)]) (And.intro rfl (And.intro rfl (And.intro rfl (And.intro rfl True.intro)))) ⟨_, _, _, rfl, rfl, by omega, rfl⟩ (by omega)
          · intro c8
            refine And.intro (True.intro) ?_
            exact ⟨_, rfl, by omega⟩
    · rintro m _ _ I1 hB1 ⟨y1, y2, y3, rfl, rfl, hb, hm⟩
      refine And.intro ⟨rfl, by decide, by decide⟩ ?_
      refine And.intro ⟨rfl, by decide, by decide⟩ ?_
      refine fload1 rL_744_744_0_19_1_0 h0 hB1 ⟨by decide, by decide⟩ (by first | exact ⟨hb.1.1, hb.1.2⟩ | omega) ?_
      intro z9 lz9 uz9 qz9
      refine And.intro (by first | exact fi_ lz9 uz9 rfl | omega) (And.intro ?_ ?_)
      · intro c10
        refine fstore rS_746_746_0_599_1_0 (fzs_sub (by decide +kernel) hW) (by omega) (by first | exact ⟨hb.2.2.1, hb.2.2.2⟩ | omega) ?_
        intro IhB11 ehB11 hB11
        have t12 := fup_self ehB11
        refine And.intro (True.intro) ?_
        exact ⟨_, rfl, by omega⟩
      · intro c13
        intro z14 hz14 ez14
        intro z15 hz15 ez15
        refine fstore rS_746_746_0_599_1_0 (fzs_sub (by decide +kernel) hW) (by omega) (by omega) ?_
        intro IhB16 ehB16 hB16
        have t17 := fup_self ehB16
        refine And.intro (True.intro) ?_
        exact ⟨_, rfl, by omega⟩
  · have hB0 := fB_self (zn := znJ) (K := fKc wz_efa23) h0
    refine Exists.intro xm_241 (And.intro mi_241 (And.intro ⟨rfl, rfl, rfl, rfl⟩ (And.intro rfl ?_)))
    refine fcallp hB0 (ct_M_isCell_45859 (fBz h0 hB0) (by first | exact ⟨ha1.1, ha1.2⟩ | omega)) ?_
    rintro _ ⟨z18, rfl, hz18⟩
    refine And.intro (by omega) (And.intro ?_ ?_)
    · intro c19
      refine And.intro ⟨rfl, by decide, by decide⟩ ?_
      refine fload rL_744_744_0_19_1_0 h0 hB0 (by omega) ?_
      intro z20 lz20 uz20 qz20
      refine And.intro (by first | exact fi_ lz20 uz20 rfl | omega) (And.intro ?_ ?_)
      · intro c21
        refine And.intro (by first | exact fi_ ha2.1 ha2.2 rfl | omega) ?_
        refine And.intro ⟨rfl, by decide, by decide⟩ ?_
        refine fload rL_745_745_0_19_1_0 h0 hB0 (by omega) ?_
        intro z22 lz22 uz22 qz22
        refine And.intro (by omega) ?_
        refine Exists.intro xm_238 (And.intro mi_238 (And.intro ⟨rfl, rfl, rfl, rfl⟩ (And.intro True.intro ?_)))
        refine fcallp hB0 (ct_M_isIn_27230 (fBz h0 hB0) (by first | exact ⟨ha2.1, ha2.2⟩ | omega) (by first | exact ⟨by decide, by decide⟩ | omega) (by omega)) ?_
        rintro _ ⟨z23, rfl, hz23⟩
        refine And.intro (by omega) (And.intro ?_ ?_)
        · intro c24
          refine And.intro ⟨rfl, by decide, by decide⟩ ?_
          refine fload rL_744_744_0_19_1_0 h0 hB0 (by omega) ?_
          intro z25 lz25 uz25 qz25
          refine And.intro (by first | exact fi_ lz25 uz25 rfl | omega) (And.intro ?_ ?_)
          · intro c26
            exact fcutJ (I := I) (j := jc_M_point_4c325_64) (lv' := [(0, .inr (.inr (some 740))), (1, .inl _), (2, .inl _), (3, .inl _)]) (And.intro rfl (And.intro rfl (And.intro rfl (And.intro rfl True.intro)))) ⟨_, _, _, rfl, rfl, by omega, rfl⟩ (by omega)
          · intro c27
            refine And.intro (And.intro (by first | exact fi_ ha3.1 ha3.2 rfl | omega) (by first | exact ⟨by decide, by decide⟩ | omega)) (And.intro ?_ ?_)
            · intro c28
              exact fcutJ (I := I) (j := jc_M_point_4c325_64) (lv' := [(0, .inr (.inr (some 740))), (1, .inl _), (2, .inl _), (3, .inl _)]) (And.intro rfl (And.intro rfl (And.intro rfl (And.intro rfl True.intro)))) ⟨_, _, _, rfl, rfl, by omega, rfl⟩ (by omega)
            · intro c29
              refine And.intro (True.intro) ?_
              exact ⟨_, rfl, by omega⟩
        · intro c30
          refine And.intro (True.intro) ?_
          exact ⟨_, rfl, by omega⟩
      · intro c31
        refine And.intro (True.intro) ?_
        exact ⟨_, rfl, by omega⟩
    · intro c32
      refine And.intro (True.intro) ?_
      exact ⟨_, rfl, by omega⟩
set_option maxRecDepth 8000 in
theorem ct_Gauges_middleAt_65db5 {I : fH} {x1 : Int} {x2 : Int} (h0 : fB bsJ I) (ha1 : (0 ≤ x1 ∧ x1 ≤ 19)) (ha2 : (0 ≤ x2 ∧ x2 ≤ 29)) : fC ρ base n F xTc vwCl xTys D dA la gJ (fbz bsJ znJ (fKc []) I) xm_163 [.inr (.inr (some 703)), .inl x1, .inl x2] I (fun _ r => ∃ z, r = some (.inl z) ∧ ((-2147483648) ≤ z ∧ z ≤ 2147483647)) := by
  have hW : fzs [] (fKc []) := fKc_ok _
  refine f_meth (rb := rbJ) (J := []) 1 400 xG xin_163 x6_163 okJ (fB_self h0) ?_ ?_
  · exact fun q h => absurd h List.not_mem_nil
  · have hB0 := fB_self (zn := znJ) (K := fKc []) h0
    refine Exists.intro xm_160 (And.intro mi_160 (And.intro ⟨rfl, rfl, rfl, rfl⟩ (And.intro rfl ?_)))
    refine fcallp hB0 (ct_Gauges_hasPlace_f9c97 (fBz h0 hB0) (by first | exact ⟨ha1.1, ha1.2⟩ | omega) (by omega)) ?_
    rintro _ ⟨z1, rfl, hz1⟩
    refine And.intro (by omega) (And.intro ?_ ?_)
    · intro c2
      refine And.intro (True.intro) ?_
      exact ⟨_, rfl, (by first | exact ⟨by decide, by decide⟩ | omega)⟩
    · intro c3
      refine Exists.intro xm_160 (And.intro mi_160 (And.intro ⟨rfl, rfl, rfl, rfl⟩ (And.intro rfl ?_)))
      refine fcallp hB0 (ct_Gauges_hasPlace_f9c97 (fBz h0 hB0) (by first | exact ⟨ha1.1, ha1.2⟩ | omega) (by omega)) ?_
      rintro _ ⟨z4, rfl, hz4⟩
      refine And.intro (by omega) (And.intro ?_ ?_)
      · intro c5
        refine And.intro ⟨rfl, by decide, by decide⟩ ?_
        refine And.intro ⟨rfl, by decide⟩ (And.intro (by first | exact ⟨ha1.1, Int.lt_of_le_of_lt ha1.2 (by decide)⟩ | omega) ?_)
        refine fload rL_707_726_0_29_1_0 h0 hB0 (by omega) ?_
        intro z6 lz6 uz6 qz6
        refine And.intro ⟨rfl, by decide, by decide⟩ ?_
        refine And.intro ⟨rfl, by decide⟩ (And.intro (by first | exact ⟨ha1.1, Int.lt_of_le_of_lt ha1.2 (by decide)⟩ | omega) ?_)
        refine fload rL_707_726_0_29_1_0 h0 hB0 (by omega) ?_
        intro z7 lz7 uz7 qz7
        refine And.intro (And.intro (by first | exact fi_ lz6 uz6 rfl | omega) (by first | exact ⟨by decide, by decide⟩ | omega)) (And.intro ?_ ?_)
        · intro c8
          refine And.intro (True.intro) ?_
          exact ⟨_, rfl, (by first | exact ⟨by decide, by decide⟩ | omega)⟩
        · intro c9
          refine And.intro (And.intro (by first | exact fi_ lz7 uz7 rfl | omega) (by first | exact ⟨by decide, by decide⟩ | omega)) (And.intro ?_ ?_)
          · intro c10
            intro z11 hz11 ez11 bz11
            clear ez11
            clear bz11
            refine And.intro (And.intro (by omega) (And.intro (by first | exact ⟨by decide, by decide⟩ | omega) (And.intro (by first | exact by decide | omega) rfl))) ?_
            intro z12 hz12 ez12 dz12
            refine And.intro (True.intro) ?_
            exact ⟨_, rfl, by omega⟩
          · intro c13
            refine And.intro (True.intro) ?_
            exact ⟨_, rfl, (by first | exact ⟨by decide, by decide⟩ | omega)⟩
      · intro c14
        refine And.intro (True.intro) ?_
        exact ⟨_, rfl, (by first | exact ⟨by decide, by decide⟩ | omega)⟩
set_option maxRecDepth 8000 in
theorem ct_Gauges_numberAt_b205d {I : fH} {x1 : Int} {x2 : Int} (h0 : fB bsJ I) (ha1 : (0 ≤ x1 ∧ x1 ≤ 19)) (ha2 : ((-2147483648) ≤ x2 ∧ x2 ≤ 2147483647)) : fC ρ base n F xTc vwCl xTys D dA la gJ (fbz bsJ znJ (fKc []) I) xm_162 [.inr (.inr (some 703)), .inl x1, .inl x2] I (fun _ r => ∃ z, r = some (.inl z) ∧ ((-2147483648) ≤ z ∧ z ≤ 2147483647)) := by
  have hW : fzs [] (fKc []) := fKc_ok _
  refine f_meth (rb := rbJ) (J := []) 1 400 xG xin_162 x6_162 okJ (fB_self h0) ?_ ?_
  · exact fun q h => absurd h List.not_mem_nil
  · have hB0 := fB_self (zn := znJ) (K := fKc []) h0
    refine And.intro ⟨rfl, by decide, by decide⟩ ?_
    refine fload1 rL_704_704_0_19_1_0 h0 hB0 ⟨by decide, by decide⟩ (by first | exact ⟨ha1.1, ha1.2⟩ | omega) ?_
    intro z1 lz1 uz1 qz1
    refine And.intro (And.intro (by first | exact fi_ lz1 uz1 rfl | omega) (by first | exact ⟨by decide, by decide⟩ | omega)) (And.intro ?_ ?_)
    · intro c2
      refine Exists.intro xm_160 (And.intro mi_160 (And.intro ⟨rfl, rfl, rfl, rfl⟩ (And.intro rfl ?_)))
      refine fcallp hB0 (ct_Gauges_hasPlace_f9c97 (fBz h0 hB0) (by first | exact ⟨ha1.1, ha1.2⟩ | omega) (by first | exact ⟨ha2.1, ha2.2⟩ | omega)) ?_
      rintro _ ⟨z3, rfl, hz3⟩
      refine And.intro (by omega) (And.intro ?_ ?_)
      · intro c4
        refine And.intro ⟨rfl, by decide, by decide⟩ ?_
        refine And.intro ⟨rfl, by decide⟩ (And.intro (by first | exact ⟨ha1.1, Int.lt_of_le_of_lt ha1.2 (by decide)⟩ | omega) ?_)
        refine fload rL_707_726_0_29_1_0 h0 hB0 (by omega) ?_
        intro z5 lz5 uz5 qz5
        refine And.intro (And.intro (by first | exact fi_ lz5 uz5 rfl | omega) (by first | exact ⟨by decide, by decide⟩ | omega)) (And.intro ?_ ?_)
        · intro c6
          refine And.intro (True.intro) ?_
          exact ⟨_, rfl, (by first | exact ⟨lz5, uz5⟩ | omega)⟩
        · intro c7
          refine Exists.intro xm_163 (And.intro mi_163 (And.intro ⟨rfl, rfl, rfl, rfl⟩ (And.intro rfl ?_)))
          refine fcallp hB0 (ct_Gauges_middleAt_65db5 (fBz h0 hB0) (by first | exact ⟨ha1.1, ha1.2⟩ | omega) (by omega)) ?_
          rintro _ ⟨z8, rfl, hz8⟩
          refine And.intro (True.intro) ?_
          exact ⟨_, rfl, (by first | exact ⟨hz8.1, hz8.2⟩ | omega)⟩
      · intro c9
        refine And.intro (True.intro) ?_
        exact ⟨_, rfl, (by first | exact ⟨by decide, by decide⟩ | omega)⟩
    · intro c10
      refine And.intro (True.intro) ?_
      exact ⟨_, rfl, (by first | exact ⟨by decide, by decide⟩ | omega)⟩
set_option maxRecDepth 8000 in
theorem ct_X_read_09c2a {I : fH} {x1 : Int} {x2 : Int} (h0 : fB bsJ I) (ha1 : ((-2147483648) ≤ x1 ∧ x1 ≤ 2147483647)) (ha2 : ((-2147483648) ≤ x2 ∧ x2 ≤ 2147483647)) : fC ρ base n F xTc vwCl xTys D dA la gJ (fbz bsJ znJ (fKc []) I) xm_161 [.inr (.inr (some 0)), .inl x1, .inl x2] I (fun _ r => ∃ z, r = some (.inl z) ∧ ((-2147483648) ≤ z ∧ z ≤ 2147483647)) := by
  have hW : fzs [] (fKc []) := fKc_ok _
  refine f_meth (rb := rbJ) (J := []) 1 400 xG xin_161 x6_161 okJ (fB_self h0) ?_ ?_
  · exact fun q h => absurd h List.not_mem_nil
  · have hB0 := fB_self (zn := znJ) (K := fKc []) h0
    refine And.intro ⟨rfl, by decide, by decide⟩ ?_
    refine Exists.intro xm_17 (And.intro mi_17 (And.intro ⟨rfl, rfl, rfl, rfl⟩ (And.intro rfl ?_)))
    refine fcallp hB0 (ct_City_isCell_46f02 (fBz h0 hB0) (by first | exact ⟨ha1.1, ha1.2⟩ | omega)) ?_
    rintro _ ⟨z1, rfl, hz1⟩
    refine And.intro (by omega) (And.intro ?_ ?_)
    · intro c2
      refine And.intro (True.intro) ?_
      exact ⟨_, rfl, by omega⟩
    · intro c3
      refine And.intro ⟨rfl, by decide, by decide⟩ ?_
      refine Exists.intro xm_162 (And.intro mi_162 (And.intro ⟨rfl, rfl, rfl, rfl⟩ (And.intro rfl ?_)))
      refine fcallp hB0 (ct_Gauges_numberAt_b205d (fBz h0 hB0) (by omega) (by first | exact ⟨ha2.1, ha2.2⟩ | omega)) ?_
      rintro _ ⟨z4, rfl, hz4⟩
      refine And.intro (True.intro) ?_
      exact ⟨_, rfl, (by first | exact ⟨hz4.1, hz4.2⟩ | omega)⟩
set_option maxRecDepth 8000 in
theorem ct_M_isNumber_be74d {I : fH} {x1 : Int} {x2 : Int} (h0 : fB bsJ I) (ha1 : (0 ≤ x1 ∧ x1 ≤ 19)) (ha2 : ((-1) ≤ x2 ∧ x2 ≤ 30)) : fC ρ base n F xTc vwCl xTys D dA la gJ (fbz bsJ znJ (fKc []) I) xm_442 [.inr (.inr (some 740)), .inl x1, .inl x2] I (fun _ r => ∃ z, r = some (.inl z) ∧ ((z = 1 ∧ 0 ≤ x2 ∧ x2 ≤ 29) ∨ z = 0)) := by
  have hW : fzs [] (fKc []) := fKc_ok _
  refine f_meth (rb := rbJ) (J := []) 1 400 xG xin_442 x6_442 okJ (fB_self h0) ?_ ?_
  · exact fun q h => absurd h List.not_mem_nil
  · have hB0 := fB_self (zn := znJ) (K := fKc []) h0
    refine And.intro (by first | exact fi_ ha2.1 ha2.2 rfl | omega) ?_
    refine And.intro ⟨rfl, by decide, by decide⟩ ?_
    refine fload1 rL_745_745_0_19_1_0 h0 hB0 ⟨by decide, by decide⟩ (by first | exact ⟨ha1.1, ha1.2⟩ | omega) ?_
    intro z1 lz1 uz1 qz1
    refine And.intro (by omega) ?_
    refine Exists.intro xm_238 (And.intro mi_238 (And.intro ⟨rfl, rfl, rfl, rfl⟩ (And.intro True.intro ?_)))
    refine fcallp hB0 (ct_M_isIn_27230 (fBz h0 hB0) (by first | exact ⟨Int.le_trans (by decide) ha2.1, Int.le_trans ha2.2 (by decide)⟩ | omega) (by first | exact ⟨by decide, by decide⟩ | omega) (by omega)) ?_
    rintro _ ⟨z2, rfl, hz2⟩
    refine And.intro (by omega) (And.intro ?_ ?_)
    · intro c3
      refine And.intro (⟨by omega, by omega⟩) ?_
      exact ⟨_, rfl, by omega⟩
    · intro c4
      refine And.intro ⟨rfl, by decide, by decide⟩ ?_
      refine fload rL_746_746_0_599_1_0 h0 hB0 (by omega) ?_
      intro z5 lz5 uz5 qz5
      refine And.intro (And.intro (by first | exact fi_ lz5 uz5 rfl | omega) (by first | exact ⟨by decide, by decide⟩ | omega)) (And.intro ?_ ?_)
      · intro c6
        refine And.intro (⟨by omega, by omega⟩) ?_
        exact ⟨_, rfl, by omega⟩
      · intro c7
        refine And.intro (⟨by decide, by decide⟩) ?_
        exact ⟨_, rfl, by omega⟩
set_option maxRecDepth 8000 in
theorem ct_M_readOf_c48db {I : fH} {x1 : Int} {x2 : Int} (h0 : fB bsJ I) (ha1 : (0 ≤ x1 ∧ x1 ≤ 19)) (ha2 : ((-2147483648) ≤ x2 ∧ x2 ≤ 2147483647)) : fC ρ base n F xTc vwCl xTys D dA la gJ (fbz bsJ znJ (fKc []) I) xm_441 [.inr (.inr (some 740)), .inl x1, .inl x2] I (fun _ r => ∃ z, r = some (.inl z) ∧ ((-2147483648) ≤ z ∧ z ≤ 2147483647)) := by
  have hW : fzs [] (fKc []) := fKc_ok _
  refine f_meth (rb := rbJ) (J := []) 1 400 xG xin_441 x6_441 okJ (fB_self h0) ?_ ?_
  · exact fun q h => absurd h List.not_mem_nil
  · have hB0 := fB_self (zn := znJ) (K := fKc []) h0
    refine And.intro ⟨rfl, by decide, by decide⟩ ?_
    refine fload1 rL_744_744_0_19_1_0 h0 hB0 ⟨by decide, by decide⟩ (by first | exact ⟨ha1.1, ha1.2⟩ | omega) ?_
    intro z1 lz1 uz1 qz1
    refine And.intro (by first | exact fi_ lz1 uz1 rfl | omega) (And.intro ?_ ?_)
    · intro c2
      refine And.intro (by first | exact fi_ ha2.1 ha2.2 rfl | omega) ?_
      refine And.intro ⟨rfl, by decide, by decide⟩ ?_
      refine fload1 rL_745_745_0_19_1_0 h0 hB0 ⟨by decide, by decide⟩ (by first | exact ⟨ha1.1, ha1.2⟩ | omega) ?_
      intro z3 lz3 uz3 qz3
      refine And.intro (by omega) ?_
      refine Exists.intro xm_238 (And.intro mi_238 (And.intro ⟨rfl, rfl, rfl, rfl⟩ (And.intro True.intro ?_)))
      refine fcallp hB0 (ct_M_isIn_27230 (fBz h0 hB0) (by first | exact ⟨ha2.1, ha2.2⟩ | omega) (by first | exact ⟨by decide, by decide⟩ | omega) (by omega)) ?_
      rintro _ ⟨z4, rfl, hz4⟩
      refine And.intro (by omega) (And.intro ?_ ?_)
      · intro c5
        refine And.intro ⟨rfl, by decide, by decide⟩ ?_
        refine fload rL_746_746_0_599_1_0 h0 hB0 (by omega) ?_
        intro z6 lz6 uz6 qz6
        refine And.intro (And.intro (by first | exact fi_ lz6 uz6 rfl | omega) (by first | exact ⟨by decide, by decide⟩ | omega)) (And.intro ?_ ?_)
        · intro c7
          refine Exists.intro xm_442 (And.intro mi_442 (And.intro ⟨rfl, rfl, rfl, rfl⟩ (And.intro rfl ?_)))
          refine fcallp hB0 (ct_M_isNumber_be74d (fBz h0 hB0) (by first | exact ⟨ha1.1, ha1.2⟩ | omega) (by omega)) ?_
          rintro _ ⟨z8, rfl, hz8⟩
          refine And.intro (by omega) (And.intro ?_ ?_)
          · intro c9
            refine And.intro (True.intro) ?_
            exact ⟨_, rfl, by omega⟩
          · intro c10
            refine Exists.intro xm_442 (And.intro mi_442 (And.intro ⟨rfl, rfl, rfl, rfl⟩ (And.intro rfl ?_)))
            refine fcallp hB0 (ct_M_isNumber_be74d (fBz h0 hB0) (by first | exact ⟨ha1.1, ha1.2⟩ | omega) (by omega)) ?_
            rintro _ ⟨z11, rfl, hz11⟩
            refine And.intro (by omega) (And.intro ?_ ?_)
            · intro c12
              refine And.intro (True.intro) ?_
              exact ⟨_, rfl, by omega⟩
            · intro c13
              refine And.intro ⟨rfl, by decide, by decide⟩ ?_
              refine fload rL_746_746_0_599_1_0 h0 hB0 (by omega) ?_
              intro z14 lz14 uz14 qz14
              refine And.intro ⟨rfl, by decide, by decide⟩ ?_
              refine fload rL_746_746_0_599_1_0 h0 hB0 (by omega) ?_
              intro z15 lz15 uz15 qz15
              intro z16 hz16 ez16 bz16
              clear ez16
              clear bz16
              refine And.intro (And.intro (by omega) (And.intro (by first | exact ⟨by decide, by decide⟩ | omega) (And.intro (by first | exact by decide | omega) rfl))) ?_
              intro z17 hz17 ez17 dz17
              refine And.intro (True.intro) ?_
              exact ⟨_, rfl, by omega⟩
        · intro c18
          refine And.intro ⟨rfl, by decide, by decide⟩ ?_
          refine fload rL_746_746_0_599_1_0 h0 hB0 (by omega) ?_
          intro z19 lz19 uz19 qz19
          refine And.intro (True.intro) ?_
          exact ⟨_, rfl, (by first | exact ⟨lz19, uz19⟩ | omega)⟩
      · intro c20
        refine And.intro (True.intro) ?_
        exact ⟨_, rfl, (by first | exact ⟨by decide, by decide⟩ | omega)⟩
    · intro c21
      refine And.intro (True.intro) ?_
      exact ⟨_, rfl, (by first | exact ⟨by decide, by decide⟩ | omega)⟩
set_option maxRecDepth 8000 in
theorem ct_M_read_fd62e {I : fH} {x1 : Int} {x2 : Int} (h0 : fB bsJ I) (ha1 : ((-2147483648) ≤ x1 ∧ x1 ≤ 2147483647)) (ha2 : ((-2147483648) ≤ x2 ∧ x2 ≤ 2147483647)) : fC ρ base n F xTc vwCl xTys D dA la gJ (fbz bsJ znJ (fKc []) I) xm_440 [.inr (.inr (some 740)), .inl x1, .inl x2] I (fun _ r => ∃ z, r = some (.inl z) ∧ ((-2147483648) ≤ z ∧ z ≤ 2147483647)) := by
  have hW : fzs [] (fKc []) := fKc_ok _
  refine f_meth (rb := rbJ) (J := []) 1 400 xG xin_440 x6_440 okJ (fB_self h0) ?_ ?_
  · exact fun q h => absurd h List.not_mem_nil
  · have hB0 := fB_self (zn := znJ) (K := fKc []) h0
    refine Exists.intro xm_241 (And.intro mi_241 (And.intro ⟨rfl, rfl, rfl, rfl⟩ (And.intro rfl ?_)))
    refine fcallp hB0 (ct_M_isCell_45859 (fBz h0 hB0) (by first | exact ⟨ha1.1, ha1.2⟩ | omega)) ?_
    rintro _ ⟨z1, rfl, hz1⟩
    refine And.intro (by omega) (And.intro ?_ ?_)
    · intro c2
      refine And.intro (True.intro) ?_
      exact ⟨_, rfl, by omega⟩
    · intro c3
      refine Exists.intro xm_441 (And.intro mi_441 (And.intro ⟨rfl, rfl, rfl, rfl⟩ (And.intro rfl ?_)))
      refine fcallp hB0 (ct_M_readOf_c48db (fBz h0 hB0) (by omega) (by first | exact ⟨ha2.1, ha2.2⟩ | omega)) ?_
      rintro _ ⟨z4, rfl, hz4⟩
      refine And.intro (True.intro) ?_
      exact ⟨_, rfl, (by first | exact ⟨hz4.1, hz4.2⟩ | omega)⟩
set_option maxRecDepth 8000 in
theorem ct_Gauges_isFinding_81136 {I : fH} {x0 : Int} (h0 : fB bsJ I) (ha0 : ((-2147483648) ≤ x0 ∧ x0 ≤ 2147483647)) : fC ρ base n F xTc vwCl xTys D dA la gJ (fbz bsJ znJ (fKc []) I) xm_165 [.inl x0] I (fun _ r => ∃ z, r = some (.inl z) ∧ (0 ≤ z ∧ z ≤ 1)) := by
  have hW : fzs [] (fKc []) := fKc_ok _
  refine f_meth (rb := rbJ) (J := []) 1 400 xG xin_165 x6_165 okJ (fB_self h0) ?_ ?_
  · exact fun q h => absurd h List.not_mem_nil
  · have hB0 := fB_self (zn := znJ) (K := fKc []) h0
    refine And.intro (And.intro (by first | exact fi_ ha0.1 ha0.2 rfl | omega) (by first | exact ⟨by decide, by decide⟩ | omega)) (And.intro ?_ ?_)
    · intro c1
      refine And.intro (⟨by omega, by omega⟩) ?_
      exact ⟨_, rfl, by omega⟩
    · intro c2
      refine And.intro (⟨by decide, by decide⟩) ?_
      exact ⟨_, rfl, (by first | exact ⟨by decide, by decide⟩ | omega)⟩
abbrev jc_X_worst_10453_31 : Nat → fL → List fV → fH → Prop := fun m lv st I => ∃ (y1 : Int) (y2 : Int) (y3 : Int) (y4 : Int) (y5 : Int) (y6 : Int), lv = [(0, .inr (.inr (some 0))), (1, .inl y1), (2, .inl y2), (3, .inl y3), (4, .inl y4), (5, .inl y5), (6, .inl y6)] ∧ st = [] ∧ (((0 ≤ y1 ∧ y1 ≤ 2147483647) ∧ (0 ≤ y2 ∧ y2 ≤ 2) ∧ ((0 ≤ y3 ∧ y3 ≤ 19) ∨ y3 = (-1000000005)) ∧ ((-2147483648) ≤ y4 ∧ y4 ≤ 2147483647) ∧ ((-2147483648) ≤ y5 ∧ y5 ≤ 2147483647) ∧ (0 ≤ y6 ∧ y6 ≤ 20))) ∧ m = (1 + 1 * (20 - y6) : Int).toNat
set_option maxRecDepth 8000 in
theorem ct_X_worst_10453 {I : fH} {x1 : Int} {x2 : Int} (h0 : fB bsJ I) (ha1 : ((-2147483648) ≤ x1 ∧ x1 ≤ 2147483647)) (ha2 : ((-2147483648) ≤ x2 ∧ x2 ≤ 2147483647)) : fC ρ base n F xTc vwCl xTys D dA la gJ (fbz bsJ znJ (fKc []) I) xm_164 [.inr (.inr (some 0)), .inl x1, .inl x2] I (fun _ r => ∃ z, r = some (.inl z) ∧ ((-2147483648) ≤ z ∧ z ≤ 2147483647)) := by
  have hW : fzs [] (fKc []) := fKc_ok _
  refine f_meth (rb := rbJ) (J := [(31, jc_X_worst_10453_31)]) 22 400 xG xin_164 x6_164 okJ (fB_self h0) ?_ ?_
  · refine List.forall_mem_cons.mpr ⟨?_, fun q h => absurd h List.not_mem_nil⟩
    · rintro m _ _ I1 hB1 ⟨y1, y2, y3, y4, y5, y6, rfl, rfl, hb, hm⟩
      refine And.intro ⟨rfl, by decide, by decide⟩ ?_
      refine And.intro ⟨rfl, by decide, by decide⟩ ?_
      refine And.intro ⟨rfl, by decide, by decide⟩ (fgetf fb_2_5 h0 hB1 ?_)
      intro z1 lz1 uz1 qz1
      refine And.intro (And.intro (by first | exact fi_ hb.2.2.2.2.2.1 hb.2.2.2.2.2.2 rfl | omega) (by first | exact fi_ lz1 uz1 rfl | omega)) (And.intro ?_ ?_)
      · intro c2
        refine And.intro (by first | exact fi_ hb.2.1.1 hb.2.1.2 rfl | omega) (And.intro ?_ ?_)
        · intro c3
          refine And.intro (And.intro (by first | exact fi_ hb.2.1.1 hb.2.1.2 rfl | omega) (by first | exact ⟨by decide, by decide⟩ | omega)) (And.intro ?_ ?_)
          · intro c4
            refine And.intro (True.intro) ?_
            exact ⟨_, rfl, (by first | exact ⟨hb.2.2.2.2.1.1, hb.2.2.2.2.1.2⟩ | omega)⟩
          · intro c5
            refine And.intro (True.intro) ?_
            exact ⟨_, rfl, by omega⟩
        · intro c6
          refine And.intro (True.intro) ?_
          exact ⟨_, rfl, (by first | exact ⟨hb.2.2.2.1.1, hb.2.2.2.1.2⟩ | omega)⟩
      · intro c7
        refine And.intro ⟨rfl, by decide, by decide⟩ ?_
        refine Exists.intro xm_162 (And.intro mi_162 (And.intro ⟨rfl, rfl, rfl, rfl⟩ (And.intro rfl ?_)))
        refine fcallp hB1 (ct_Gauges_numberAt_b205d (fBz h0 hB1) (by first | exact ⟨hb.2.2.2.2.2.1, Int.le_trans (Int.le_sub_one_of_lt (Int.lt_of_lt_of_le c7 uz1)) (by decide)⟩ | omega) (by first | exact ⟨Int.le_trans (by decide) hb.1.1, hb.1.2⟩ | omega)) ?_
        rintro _ ⟨z8, rfl, hz8⟩
        refine Exists.intro xm_165 (And.intro mi_165 (And.intro ⟨rfl, rfl, rfl, rfl⟩ (And.intro True.intro ?_)))
        refine fcallp hB1 (ct_Gauges_isFinding_81136 (fBz h0 hB1) (by first | exact ⟨hz8.1, hz8.2⟩ | omega)) ?_
        rintro _ ⟨z9, rfl, hz9⟩
        refine And.intro (by omega) (And.intro ?_ ?_)
        · intro c10
          refine And.intro (by omega) (And.intro ?_ ?_)
          · intro c11
            exact fcutJ (I := I1) (j := jc_X_worst_10453_31) (lv' := [(0, .inr (.inr (some 0))), (1, .inl _), (2, .inl _), (3, .inl _), (4, .inl _), (5, .inl _), (6, .inl _)]) (And.intro rfl (And.intro rfl (And.intro rfl (And.intro rfl (And.intro rfl (And.intro rfl (And.intro rfl True.intro))))))) ⟨_, _, _, _, _, _, rfl, rfl, by omega, rfl⟩ (by omega)
          · intro c12
            refine And.intro (And.intro (by first | exact fi_ hz8.1 hz8.2 rfl | omega) (by first | exact fi_ hb.2.2.2.1.1 hb.2.2.2.1.2 rfl | omega)) (And.intro ?_ ?_)
            · intro c13
              exact fcutJ (I := I1) (j := jc_X_worst_10453_31) (lv' := [(0, .inr (.inr (some 0))), (1, .inl _), (2, .inl _), (3, .inl _), (4, .inl _), (5, .inl _), (6, .inl _)]) (And.intro rfl (And.intro rfl (And.intro rfl (And.intro rfl (And.intro rfl (And.intro rfl (And.intro rfl True.intro))))))) ⟨_, _, _, _, _, _, rfl, rfl, by omega, rfl⟩ (by omega)
            · intro c14
              exact fcutJ (I := I1) (j := jc_X_worst_10453_31) (lv' := [(0, .inr (.inr (some 0))), (1, .inl _), (2, .inl _), (3, .inl _), (4, .inl _), (5, .inl _), (6, .inl _)]) (And.intro rfl (And.intro rfl (And.intro rfl (And.intro rfl (And.intro rfl (And.intro rfl (And.intro rfl True.intro))))))) ⟨_, _, _, _, _, _, rfl, rfl, by omega, rfl⟩ (by omega)
        · intro c15
          intro z16 hz16 bz16
          clear bz16
          exact fcutJ (I := I1) (j := jc_X_worst_10453_31) (lv' := [(0, .inr (.inr (some 0))), (1, .inl _), (2, .inl _), (3, .inl _), (4, .inl _), (5, .inl _), (6, .inl _)]) (And.intro rfl (And.intro rfl (And.intro rfl (And.intro rfl (And.intro rfl (And.intro rfl (And.intro rfl True.intro))))))) ⟨_, _, _, _, _, _, rfl, rfl, by omega, rfl⟩ (by omega)
  · have hB0 := fB_self (zn := znJ) (K := fKc []) h0
    refine And.intro (by first | exact fi_ ha1.1 ha1.2 rfl | omega) (And.intro ?_ ?_)
    · intro c17
      refine And.intro (True.intro) ?_
      exact ⟨_, rfl, (by first | exact ⟨by decide, by decide⟩ | omega)⟩
    · intro c18
      refine Exists.intro xm_13 (And.intro mi_13 (And.intro ⟨rfl, rfl, rfl, rfl⟩ (And.intro True.intro ?_)))
      refine fcallp hB0 (ct_X_within_c27b1 (fBz h0 hB0) (by first | exact ⟨ha2.1, ha2.2⟩ | omega) (by first | exact ⟨by decide, by decide⟩ | omega) (by first | exact ⟨by decide, by decide⟩ | omega)) ?_
      rintro _ ⟨z19, rfl, hz19⟩
      refine And.intro (by omega) (And.intro ?_ ?_)
      · intro c20
        exact fcutJ (I := I) (j := jc_X_worst_10453_31) (lv' := [(0, .inr (.inr (some 0))), (1, .inl _), (2, .inl _), (3, .inl _), (4, .inl _), (5, .inl _), (6, .inl _)]) (And.intro rfl (And.intro rfl (And.intro rfl (And.intro rfl (And.intro rfl (And.intro rfl (And.intro rfl True.intro))))))) ⟨_, _, _, _, _, _, rfl, rfl, by omega, rfl⟩ (by omega)
      · intro c21
        refine And.intro (True.intro) ?_
        exact ⟨_, rfl, (by first | exact ⟨by decide, by decide⟩ | omega)⟩
abbrev jc_M_worst_21024_27 : Nat → fL → List fV → fH → Prop := fun m lv st I => ∃ (y1 : Int) (y2 : Int) (y3 : Int) (y4 : Int) (y5 : Int), lv = [(0, .inr (.inr (some 740))), (1, .inl y1), (2, .inl y2), (3, .inl y3), (4, .inl y4), (5, .inl y5)] ∧ st = [] ∧ (((0 ≤ y1 ∧ y1 ≤ 2147483647) ∧ (0 ≤ y2 ∧ y2 ≤ 2) ∧ ((-1) ≤ y3 ∧ y3 ≤ 19) ∧ ((-2147483648) ≤ y4 ∧ y4 ≤ 2147483647) ∧ (0 ≤ y5 ∧ y5 ≤ 20))) ∧ m = (1 + 1 * (20 - y5) : Int).toNat
set_option maxRecDepth 8000 in
theorem ct_M_worst_21024 {I : fH} {x1 : Int} {x2 : Int} (h0 : fB bsJ I) (ha1 : ((-2147483648) ≤ x1 ∧ x1 ≤ 2147483647)) (ha2 : ((-2147483648) ≤ x2 ∧ x2 ≤ 2147483647)) : fC ρ base n F xTc vwCl xTys D dA la gJ (fbz bsJ znJ (fKc []) I) xm_443 [.inr (.inr (some 740)), .inl x1, .inl x2] I (fun _ r => ∃ z, r = some (.inl z) ∧ ((-2147483648) ≤ z ∧ z ≤ 2147483647)) := by
  have hW : fzs [] (fKc []) := fKc_ok _
  refine f_meth (rb := rbJ) (J := [(27, jc_M_worst_21024_27)]) 22 400 xG xin_443 x6_443 okJ (fB_self h0) ?_ ?_
  · refine List.forall_mem_cons.mpr ⟨?_, fun q h => absurd h List.not_mem_nil⟩
    · rintro m _ _ I1 hB1 ⟨y1, y2, y3, y4, y5, rfl, rfl, hb, hm⟩
      refine And.intro ⟨rfl, by decide, by decide⟩ ?_
      refine fload1 rL_741_741_5_5_1_0 h0 hB1 ⟨by decide, by decide⟩ (by first | exact ⟨by decide, by decide⟩ | omega) ?_
      intro z1 lz1 uz1 qz1
      have pz1 := fld_at qz1 5 (by omega)
      refine And.intro (And.intro (by first | exact fi_ hb.2.2.2.2.1 hb.2.2.2.2.2 rfl | omega) (by first | exact fi_ lz1 uz1 rfl | omega)) (And.intro ?_ ?_)
      · intro c2
        refine And.intro (And.intro (by first | exact fi_ hb.2.1.1 hb.2.1.2 rfl | omega) (by first | exact ⟨by decide, by decide⟩ | omega)) (And.intro ?_ ?_)
        · intro c3
          refine And.intro (by first | exact fi_ hb.2.2.1.1 hb.2.2.1.2 rfl | omega) (And.intro ?_ ?_)
          · intro c4
            refine And.intro (And.intro (by first | exact fi_ hb.2.1.1 hb.2.1.2 rfl | omega) (by first | exact ⟨by decide, by decide⟩ | omega)) (And.intro ?_ ?_)
            · intro c5
              refine Exists.intro xm_441 (And.intro mi_441 (And.intro ⟨rfl, rfl, rfl, rfl⟩ (And.intro rfl ?_)))
              refine fcallp hB1 (ct_M_readOf_c48db (fBz h0 hB1) (by first | exact ⟨Int.le_trans (by decide) (Int.le_trans (Int.le_refl _) c4), hb.2.2.1.2⟩ | omega) (by first | exact ⟨Int.le_trans (by decide) hb.1.1, hb.1.2⟩ | omega)) ?_
              rintro _ ⟨z6, rfl, hz6⟩
              refine And.intro (True.intro) ?_
              exact ⟨_, rfl, (by first | exact ⟨hz6.1, hz6.2⟩ | omega)⟩
            · intro c7
              refine And.intro (True.intro) ?_
              exact ⟨_, rfl, (by first | exact ⟨Int.le_trans (by decide) (Int.le_trans (Int.le_refl _) c4), Int.le_trans hb.2.2.1.2 (by decide)⟩ | omega)⟩
          · intro c8
            refine And.intro (True.intro) ?_
            exact ⟨_, rfl, (by first | exact ⟨by decide, by decide⟩ | omega)⟩
        · intro c9
          refine And.intro (True.intro) ?_
          exact ⟨_, rfl, (by first | exact ⟨hb.2.2.2.1.1, hb.2.2.2.1.2⟩ | omega)⟩
      · intro c10
        refine Exists.intro xm_441 (And.intro mi_441 (And.intro ⟨rfl, rfl, rfl, rfl⟩ (And.intro rfl ?_)))
        refine fcallp hB1 (ct_M_readOf_c48db (fBz h0 hB1) (by first | exact ⟨hb.2.2.2.2.1, Int.le_trans (Int.le_sub_one_of_lt (Int.lt_of_lt_of_le c10 uz1)) (by decide)⟩ | omega) (by first | exact ⟨Int.le_trans (by decide) hb.1.1, hb.1.2⟩ | omega)) ?_
        rintro _ ⟨z11, rfl, hz11⟩
        refine And.intro (And.intro (by first | exact fi_ hz11.1 hz11.2 rfl | omega) (by first | exact ⟨by decide, by decide⟩ | omega)) (And.intro ?_ ?_)
        · intro c12
          refine And.intro (by first | exact fi_ hb.2.2.1.1 hb.2.2.1.2 rfl | omega) (And.intro ?_ ?_)
          · intro c13
            exact fcutJ (I := I1) (j := jc_M_worst_21024_27) (lv' := [(0, .inr (.inr (some 740))), (1, .inl _), (2, .inl _), (3, .inl _), (4, .inl _), (5, .inl _)]) (And.intro rfl (And.intro rfl (And.intro rfl (And.intro rfl (And.intro rfl (And.intro rfl True.intro)))))) ⟨_, _, _, _, _, rfl, rfl, by omega, rfl⟩ (by omega)
          · intro c14
            refine Exists.intro xm_441 (And.intro mi_441 (And.intro ⟨rfl, rfl, rfl, rfl⟩ (And.intro rfl ?_)))
            refine fcallp hB1 (ct_M_readOf_c48db (fBz h0 hB1) (by first | exact ⟨Int.le_trans (by decide) (Int.le_trans (Int.le_refl _) c14), hb.2.2.1.2⟩ | omega) (by first | exact ⟨Int.le_trans (by decide) hb.1.1, hb.1.2⟩ | omega)) ?_
            rintro _ ⟨z15, rfl, hz15⟩
            refine And.intro (And.intro (by first | exact fi_ (Int.le_trans (Int.le_refl _) c12) hz11.2 rfl | omega) (by first | exact fi_ hz15.1 hz15.2 rfl | omega)) (And.intro ?_ ?_)
            · intro c16
              exact fcutJ (I := I1) (j := jc_M_worst_21024_27) (lv' := [(0, .inr (.inr (some 740))), (1, .inl _), (2, .inl _), (3, .inl _), (4, .inl _), (5, .inl _)]) (And.intro rfl (And.intro rfl (And.intro rfl (And.intro rfl (And.intro rfl (And.intro rfl True.intro)))))) ⟨_, _, _, _, _, rfl, rfl, by omega, rfl⟩ (by omega)
            · intro c17
              exact fcutJ (I := I1) (j := jc_M_worst_21024_27) (lv' := [(0, .inr (.inr (some 740))), (1, .inl _), (2, .inl _), (3, .inl _), (4, .inl _), (5, .inl _)]) (And.intro rfl (And.intro rfl (And.intro rfl (And.intro rfl (And.intro rfl (And.intro rfl True.intro)))))) ⟨_, _, _, _, _, rfl, rfl, by omega, rfl⟩ (by omega)
        · intro c18
          intro z19 hz19 bz19
          clear bz19
          exact fcutJ (I := I1) (j := jc_M_worst_21024_27) (lv' := [(0, .inr (.inr (some 740))), (1, .inl _), (2, .inl _), (3, .inl _), (4, .inl _), (5, .inl _)]) (And.intro rfl (And.intro rfl (And.intro rfl (And.intro rfl (And.intro rfl (And.intro rfl True.intro)))))) ⟨_, _, _, _, _, rfl, rfl, by omega, rfl⟩ (by omega)
  · have hB0 := fB_self (zn := znJ) (K := fKc []) h0
    refine And.intro (by first | exact fi_ ha1.1 ha1.2 rfl | omega) (And.intro ?_ ?_)
    · intro c20
      refine And.intro (True.intro) ?_
      exact ⟨_, rfl, (by first | exact ⟨by decide, by decide⟩ | omega)⟩
    · intro c21
      refine And.intro (by first | exact fi_ ha2.1 ha2.2 rfl | omega) ?_
      refine Exists.intro xm_238 (And.intro mi_238 (And.intro ⟨rfl, rfl, rfl, rfl⟩ (And.intro True.intro ?_)))
      refine fcallp hB0 (ct_M_isIn_27230 (fBz h0 hB0) (by first | exact ⟨ha2.1, ha2.2⟩ | omega) (by first | exact ⟨by decide, by decide⟩ | omega) (by first | exact ⟨by decide, by decide⟩ | omega)) ?_
      rintro _ ⟨z22, rfl, hz22⟩
      refine And.intro (by omega) (And.intro ?_ ?_)
      · intro c23
        exact fcutJ (I := I) (j := jc_M_worst_21024_27) (lv' := [(0, .inr (.inr (some 740))), (1, .inl _), (2, .inl _), (3, .inl _), (4, .inl _), (5, .inl _)]) (And.intro rfl (And.intro rfl (And.intro rfl (And.intro rfl (And.intro rfl (And.intro rfl True.intro)))))) ⟨_, _, _, _, _, rfl, rfl, by omega, rfl⟩ (by omega)
      · intro c24
        refine And.intro (True.intro) ?_
        exact ⟨_, rfl, (by first | exact ⟨by decide, by decide⟩ | omega)⟩
set_option maxRecDepth 8000 in
theorem ct_Gauges_hasPlaces_a6d6f {I : fH} {x1 : Int} {x2 : Int} {x3 : Int} (h0 : fB bsJ I) (ha1 : (0 ≤ x1 ∧ x1 ≤ 19)) (ha2 : ((-2147483648) ≤ x2 ∧ x2 ≤ 2147483647)) (ha3 : ((-2147483648) ≤ x3 ∧ x3 ≤ 2147483647)) : fC ρ base n F xTc vwCl xTys D dA la gJ (fbz bsJ znJ (fKc []) I) xm_168 [.inr (.inr (some 703)), .inl x1, .inl x2, .inl x3] I (fun _ r => ∃ z, r = some (.inl z) ∧ (((z = 1 ∧ 0 ≤ x2 ∧ x2 ≤ 30 ∧ 0 ≤ x3 ∧ x3 ≤ 30) ∨ z = 0) ∧ (z = 1 → x2 + x3 ≤ 30))) := by
  have hW : fzs [] (fKc []) := fKc_ok _
  refine f_meth (rb := rbJ) (J := []) 1 400 xG xin_168 x6_168 okJ (fB_self h0) ?_ ?_
  · exact fun q h => absurd h List.not_mem_nil
  · have hB0 := fB_self (zn := znJ) (K := fKc []) h0
    refine And.intro ⟨rfl, by decide, by decide⟩ ?_
    refine fload1 rL_705_705_0_19_1_0 h0 hB0 ⟨by decide, by decide⟩ (by first | exact ⟨ha1.1, ha1.2⟩ | omega) ?_
    intro z1 lz1 uz1 qz1
    refine Exists.intro xm_13 (And.intro mi_13 (And.intro ⟨rfl, rfl, rfl, rfl⟩ (And.intro True.intro ?_)))
    refine fcallp hB0 (ct_X_within_c27b1 (fBz h0 hB0) (by first | exact ⟨ha2.1, ha2.2⟩ | omega) (by first | exact ⟨by decide, by decide⟩ | omega) (by first | exact ⟨Int.le_trans (by decide) lz1, Int.le_trans uz1 (by decide)⟩ | omega)) ?_
    rintro _ ⟨z2, rfl, hz2⟩
    refine And.intro (by omega) (And.intro ?_ ?_)
    · intro c3
      refine And.intro (⟨by omega, by omega⟩) ?_
      exact ⟨_, rfl, by omega⟩
    · intro c4
      refine And.intro ⟨rfl, by decide, by decide⟩ ?_
      refine fload1 rL_705_705_0_19_1_0 h0 hB0 ⟨by decide, by decide⟩ (by first | exact ⟨ha1.1, ha1.2⟩ | omega) ?_
      intro z5 lz5 uz5 qz5
      refine Exists.intro xm_13 (And.intro mi_13 (And.intro ⟨rfl, rfl, rfl, rfl⟩ (And.intro True.intro ?_)))
      refine fcallp hB0 (ct_X_within_c27b1 (fBz h0 hB0) (by first | exact ⟨ha3.1, ha3.2⟩ | omega) (by first | exact ⟨by decide, by decide⟩ | omega) (by omega)) ?_
      rintro _ ⟨z6, rfl, hz6⟩
      refine And.intro (by omega) (And.intro ?_ ?_)
      · intro c7
        refine And.intro (⟨by omega, by omega⟩) ?_
        exact ⟨_, rfl, by omega⟩
      · intro c8
        refine And.intro (⟨by decide, by decide⟩) ?_
        exact ⟨_, rfl, by omega⟩
set_option maxRecDepth 8000 in
theorem ct_Gauges_carry_d2c8d {I : fH} {x1 : Int} {x2 : Int} {x3 : Int} {x4 : Int} {x5 : Int} (h0 : fB bsJ I) (ha1 : (0 ≤ x1 ∧ x1 ≤ 19)) (ha2 : ((-2147483648) ≤ x2 ∧ x2 ≤ 2147483647)) (ha3 : (0 ≤ x3 ∧ x3 ≤ 19)) (ha4 : ((-2147483648) ≤ x4 ∧ x4 ≤ 2147483647)) (ha5 : ((-2147483648) ≤ x5 ∧ x5 ≤ 2147483647)) : fC ρ base n F xTc vwCl xTys D dA la gJ (fbz bsJ znJ (fKc wz_65950) I) xm_167 [.inr (.inr (some 703)), .inl x1, .inl x2, .inl x3, .inl x4, .inl x5] I (fun _ r => ∃ z, r = some (.inl z) ∧ ((0 ≤ z ∧ z ≤ 30) ∨ z = (-1000000013) ∨ z = (-1000000012) ∨ z = (-1000000011))) := by
  have hW : fzs wz_65950 (fKc wz_65950) := fKc_ok _
  refine f_meth (rb := rbJ) (J := []) 1 400 xG xin_167 x6_167 okJ (fB_self h0) ?_ ?_
  · exact fun q h => absurd h List.not_mem_nil
  · have hB0 := fB_self (zn := znJ) (K := fKc wz_65950) h0
    refine And.intro ⟨rfl, by decide, by decide⟩ ?_
    refine fload1 rL_704_704_0_19_1_0 h0 hB0 ⟨by decide, by decide⟩ (by first | exact ⟨ha1.1, ha1.2⟩ | omega) ?_
    intro z1 lz1 uz1 qz1
    refine And.intro (And.intro (by first | exact fi_ lz1 uz1 rfl | omega) (by first | exact ⟨by decide, by decide⟩ | omega)) (And.intro ?_ ?_)
    · intro c2
      refine And.intro (True.intro) ?_
      exact ⟨_, rfl, by omega⟩
    · intro c3
      refine And.intro ⟨rfl, by decide, by decide⟩ ?_
      refine fload1 rL_704_704_0_19_1_0 h0 hB0 ⟨by decide, by decide⟩ (by first | exact ⟨ha3.1, ha3.2⟩ | omega) ?_
      intro z4 lz4 uz4 qz4
      refine And.intro (And.intro (by first | exact fi_ lz4 uz4 rfl | omega) (by first | exact ⟨by decide, by decide⟩ | omega)) (And.intro ?_ ?_)
      · intro c5
        refine And.intro ⟨rfl, by decide, by decide⟩ ?_
        refine fload1 rL_704_704_0_19_1_0 h0 hB0 ⟨by decide, by decide⟩ (by first | exact ⟨ha1.1, ha1.2⟩ | omega) ?_
        intro z6 lz6 uz6 qz6
        refine And.intro ⟨rfl, by decide, by decide⟩ ?_
        refine fload1 rL_704_704_0_19_1_0 h0 hB0 ⟨by decide, by decide⟩ (by first | exact ⟨ha3.1, ha3.2⟩ | omega) ?_
        intro z7 lz7 uz7 qz7
        refine And.intro (And.intro (by first | exact fi_ lz6 uz6 rfl | omega) (by first | exact fi_ lz7 uz7 rfl | omega)) (And.intro ?_ ?_)
        · intro c8
          refine Exists.intro xm_168 (And.intro mi_168 (And.intro ⟨rfl, rfl, rfl, rfl⟩ (And.intro rfl ?_)))
          refine fcallp hB0 (ct_Gauges_hasPlaces_a6d6f (fBz h0 hB0) (by first | exact ⟨ha1.1, ha1.2⟩ | omega) (by first | exact ⟨ha2.1, ha2.2⟩ | omega) (by first | exact ⟨ha5.1, ha5.2⟩ | omega)) ?_
          rintro _ ⟨z9, rfl, hz9⟩
          refine And.intro (by omega) (And.intro ?_ ?_)
          · intro c10
            refine And.intro (True.intro) ?_
            exact ⟨_, rfl, by omega⟩
          · intro c11
            refine Exists.intro xm_168 (And.intro mi_168 (And.intro ⟨rfl, rfl, rfl, rfl⟩ (And.intro rfl ?_)))
            refine fcallp hB0 (ct_Gauges_hasPlaces_a6d6f (fBz h0 hB0) (by first | exact ⟨ha3.1, ha3.2⟩ | omega) (by first | exact ⟨ha4.1, ha4.2⟩ | omega) (by first | exact ⟨ha5.1, ha5.2⟩ | omega)) ?_
            rintro _ ⟨z12, rfl, hz12⟩
            refine And.intro (by omega) (And.intro ?_ ?_)
            · intro c13
              refine And.intro ⟨rfl, by decide, by decide⟩ ?_
              refine And.intro ⟨rfl, by decide⟩ (And.intro (by first | exact ⟨ha1.1, Int.lt_of_le_of_lt ha1.2 (by decide)⟩ | omega) ?_)
              refine And.intro ⟨rfl, by decide, by decide⟩ ?_
              refine And.intro ⟨rfl, by decide⟩ (And.intro (by first | exact ⟨ha3.1, Int.lt_of_le_of_lt ha3.2 (by decide)⟩ | omega) ?_)
              refine And.intro (fcopyU (rgG_707_726 (by omega) (by omega)) (rgG_707_726 (by omega) (by omega)) rL_707_726_0_29_1_0 rS_707_726_0_29_1_0 (fzs_sub (by decide +kernel) hW) h0 hB0 (by omega) (by omega) (by omega) (by omega)) (And.intro rfl ?_)
              intro IhB14 ehB14 hB14
              refine And.intro (True.intro) ?_
              exact ⟨_, rfl, by omega⟩
            · intro c15
              refine And.intro (True.intro) ?_
              exact ⟨_, rfl, by omega⟩
        · intro c16
          refine And.intro (True.intro) ?_
          exact ⟨_, rfl, by omega⟩
      · intro c17
        refine And.intro (True.intro) ?_
        exact ⟨_, rfl, by omega⟩
set_option maxRecDepth 8000 in
theorem ct_X_copy_f4558 {I : fH} {x1 : Int} {x2 : Int} {x3 : Int} {x4 : Int} {x5 : Int} (h0 : fB bsJ I) (ha1 : ((-2147483648) ≤ x1 ∧ x1 ≤ 2147483647)) (ha2 : ((-2147483648) ≤ x2 ∧ x2 ≤ 2147483647)) (ha3 : ((-2147483648) ≤ x3 ∧ x3 ≤ 2147483647)) (ha4 : ((-2147483648) ≤ x4 ∧ x4 ≤ 2147483647)) (ha5 : ((-2147483648) ≤ x5 ∧ x5 ≤ 2147483647)) : fC ρ base n F xTc vwCl xTys D dA la gJ (fbz bsJ znJ (fKc wz_65950) I) xm_166 [.inr (.inr (some 0)), .inl x1, .inl x2, .inl x3, .inl x4, .inl x5] I (fun _ r => ∃ z, r = some (.inl z) ∧ ((0 ≤ z ∧ z ≤ 30) ∨ z = (-1000000013) ∨ z = (-1000000012) ∨ z = (-1000000011) ∨ z = (-1000000001))) := by
  have hW : fzs wz_65950 (fKc wz_65950) := fKc_ok _
  refine f_meth (rb := rbJ) (J := []) 1 400 xG xin_166 x6_166 okJ (fB_self h0) ?_ ?_
  · exact fun q h => absurd h List.not_mem_nil
  · have hB0 := fB_self (zn := znJ) (K := fKc wz_65950) h0
    refine And.intro ⟨rfl, by decide, by decide⟩ ?_
    refine Exists.intro xm_17 (And.intro mi_17 (And.intro ⟨rfl, rfl, rfl, rfl⟩ (And.intro rfl ?_)))
    refine fcallp hB0 (ct_City_isCell_46f02 (fBz h0 hB0) (by first | exact ⟨ha1.1, ha1.2⟩ | omega)) ?_
    rintro _ ⟨z1, rfl, hz1⟩
    refine And.intro (by omega) (And.intro ?_ ?_)
    · intro c2
      refine And.intro (True.intro) ?_
      exact ⟨_, rfl, by omega⟩
    · intro c3
      refine And.intro ⟨rfl, by decide, by decide⟩ ?_
      refine Exists.intro xm_17 (And.intro mi_17 (And.intro ⟨rfl, rfl, rfl, rfl⟩ (And.intro rfl ?_)))
      refine fcallp hB0 (ct_City_isCell_46f02 (fBz h0 hB0) (by first | exact ⟨ha3.1, ha3.2⟩ | omega)) ?_
      rintro _ ⟨z4, rfl, hz4⟩
      refine And.intro (by omega) (And.intro ?_ ?_)
      · intro c5
        refine And.intro (True.intro) ?_
        exact ⟨_, rfl, by omega⟩
      · intro c6
        refine And.intro ⟨rfl, by decide, by decide⟩ ?_
        refine Exists.intro xm_167 (And.intro mi_167 (And.intro ⟨rfl, rfl, rfl, rfl⟩ (And.intro rfl ?_)))
        refine fcall _ h0 (fzs_sub (by decide +kernel) hW) hB0 (ct_Gauges_carry_d2c8d (fBz h0 hB0) (by omega) (by first | exact ⟨ha2.1, ha2.2⟩ | omega) (by omega) (by first | exact ⟨ha4.1, ha4.2⟩ | omega) (by first | exact ⟨ha5.1, ha5.2⟩ | omega)) ?_
        rintro IhB8 _ hB8 fhB8 ⟨z7, rfl, hz7⟩
        refine And.intro (True.intro) ?_
        exact ⟨_, rfl, by omega⟩
abbrev jc_M_copy_adc00_16 : Nat → fL → List fV → fH → Prop := fun m lv st I => lv = [] ∧ st = [] ∧ (True) ∧ m = (1 : Int).toNat
abbrev jc_M_copy_adc00_37 : Nat → fL → List fV → fH → Prop := fun m lv st I => lv = [] ∧ st = [] ∧ (True) ∧ m = (2 : Int).toNat
abbrev jc_M_copy_adc00_108 : Nat → fL → List fV → fH → Prop := fun m lv st I => lv = [] ∧ st = [] ∧ (True) ∧ m = (3 : Int).toNat
abbrev jc_M_copy_adc00_115 : Nat → fL → List fV → fH → Prop := fun m lv st I => ∃ (y1 : Int) (y2 : Int) (y3 : Int) (y4 : Int) (y5 : Int) (y6 : Int), lv = [(0, .inr (.inr (some 740))), (1, .inl y1), (2, .inl y2), (3, .inl y3), (4, .inl y4), (5, .inl y5), (6, .inl y6)] ∧ st = [] ∧ (((0 ≤ y1 ∧ y1 ≤ 19) ∧ (0 ≤ y2 ∧ y2 ≤ 30) ∧ (0 ≤ y3 ∧ y3 ≤ 19) ∧ (0 ≤ y4 ∧ y4 ≤ 30) ∧ (0 ≤ y5 ∧ y5 ≤ 30) ∧ (0 ≤ y6 ∧ y6 ≤ 30) ∧ (y4 + y5 ≤ 30) ∧ (y2 + y5 ≤ 30))) ∧ m = (35 + 1 * (30 - y6) : Int).toNat
abbrev jc_M_copy_adc00_152 : Nat → fL → List fV → fH → Prop := fun m lv st I => ∃ (y3 : Int) (y4 : Int) (y5 : Int) (y6 : Int), lv = [(0, .inr (.inr (some 740))), (3, .inl y3), (4, .inl y4), (5, .inl y5), (6, .inl y6)] ∧ st = [] ∧ (((0 ≤ y3 ∧ y3 ≤ 19) ∧ (0 ≤ y4 ∧ y4 ≤ 30) ∧ (0 ≤ y5 ∧ y5 ≤ 30) ∧ (0 ≤ y6 ∧ y6 ≤ 30) ∧ (y4 + y5 ≤ 30))) ∧ m = (4 + 1 * (30 - y6) : Int).toNat
set_option maxRecDepth 8000 in
theorem ct_M_copy_adc00 {I : fH} {x1 : Int} {x2 : Int} {x3 : Int} {x4 : Int} {x5 : Int} (h0 : fB bsJ I) (ha1 : ((-2147483648) ≤ x1 ∧ x1 ≤ 2147483647)) (ha2 : ((-2147483648) ≤ x2 ∧ x2 ≤ 2147483647)) (ha3 : ((-2147483648) ≤ x3 ∧ x3 ≤ 2147483647)) (ha4 : ((-2147483648) ≤ x4 ∧ x4 ≤ 2147483647)) (ha5 : ((-2147483648) ≤ x5 ∧ x5 ≤ 2147483647)) : fC ρ base n F xTc vwCl xTys D dA la gJ (fbz bsJ znJ (fKc wz_25294) I) xm_444 [.inr (.inr (some 740)), .inl x1, .inl x2, .inl x3, .inl x4, .inl x5] I (fun _ r => ∃ z, r = some (.inl z) ∧ ((0 ≤ z ∧ z ≤ 30) ∨ z = (-1000000013) ∨ z = (-1000000012) ∨ z = (-1000000011) ∨ z = (-1000000001))) := by
  have hW : fzs wz_25294 (fKc wz_25294) := fKc_ok _
  refine f_meth (rb := rbJ) (J := [(16, jc_M_copy_adc00_16), (37, jc_M_copy_adc00_37), (108, jc_M_copy_adc00_108), (115, jc_M_copy_adc00_115), (152, jc_M_copy_adc00_152)]) 66 400 xG xin_444 x6_444 okJ (fB_self h0) ?_ ?_
  · refine List.forall_mem_cons.mpr ⟨?_, List.forall_mem_cons.mpr ⟨?_, List.forall_mem_cons.mpr ⟨?_, List.forall_mem_cons.mpr ⟨?_, List.forall_mem_cons.mpr ⟨?_, fun q h => absurd h List.not_mem_nil⟩⟩⟩⟩⟩
    · rintro m _ _ I1 hB1 ⟨rfl, rfl, hb, hm⟩
      refine And.intro (True.intro) ?_
      exact ⟨_, rfl, by omega⟩
    · rintro m _ _ I1 hB1 ⟨rfl, rfl, hb, hm⟩
      refine And.intro (True.intro) ?_
      exact ⟨_, rfl, by omega⟩
    · rintro m _ _ I1 hB1 ⟨rfl, rfl, hb, hm⟩
      refine And.intro (True.intro) ?_
      exact ⟨_, rfl, by omega⟩
    · rintro m _ _ I1 hB1 ⟨y1, y2, y3, y4, y5, y6, rfl, rfl, hb, hm⟩
      refine And.intro (And.intro (by first | exact fi_ hb.2.2.2.2.2.1.1 hb.2.2.2.2.2.1.2 rfl | omega) (by first | exact fi_ hb.2.2.2.2.1.1 hb.2.2.2.2.1.2 rfl | omega)) (And.intro ?_ ?_)
      · intro c1
        exact fcutJ (I := I1) (j := jc_M_copy_adc00_152) (lv' := [(0, .inr (.inr (some 740))), (3, .inl _), (4, .inl _), (5, .inl _), (6, .inl _)]) (And.intro rfl (And.intro rfl (And.intro rfl (And.intro rfl (And.intro rfl True.intro))))) ⟨_, _, _, _, rfl, rfl, by omega, rfl⟩ (by omega)
      · intro c2
        refine And.intro ⟨rfl, by decide, by decide⟩ ?_
        refine And.intro ⟨rfl, by decide, by decide⟩ ?_
        intro z3 hz3 ez3 bz3
        clear ez3
        have bz3 := bz3 (by omega)
        intro z4 hz4 ez4 bz4
        clear ez4
        have bz4 := bz4 (by omega)
        refine fload rL_746_746_0_599_1_0 h0 hB1 (by omega) ?_
        intro z5 lz5 uz5 qz5
        refine fstore1 rS_753_753_0_29_1_0 (fzs_sub (by decide +kernel) hW) ⟨by decide, by decide⟩ (by first | exact ⟨hb.2.2.2.2.2.1.1, Int.le_trans (Int.le_sub_one_of_lt (Int.lt_of_lt_of_le c2 hb.2.2.2.2.1.2)) (by decide)⟩ | omega) (by first | exact ⟨lz5, uz5⟩ | omega) ?_
        intro IhB6 ehB6 hB6
        have t7 := fup_self ehB6
        exact fcutJ (I := IhB6) (j := jc_M_copy_adc00_115) (lv' := [(0, .inr (.inr (some 740))), (1, .inl _), (2, .inl _), (3, .inl _), (4, .inl _), (5, .inl _), (6, .inl _)]) (And.intro rfl (And.intro rfl (And.intro rfl (And.intro rfl (And.intro rfl (And.intro rfl (And.intro rfl True.intro))))))) ⟨_, _, _, _, _, _, rfl, rfl, by omega, rfl⟩ (by omega)
    · rintro m _ _ I1 hB1 ⟨y3, y4, y5, y6, rfl, rfl, hb, hm⟩
      refine And.intro (And.intro (by first | exact fi_ hb.2.2.2.1.1 hb.2.2.2.1.2 rfl | omega) (by first | exact fi_ hb.2.2.1.1 hb.2.2.1.2 rfl | omega)) (And.intro ?_ ?_)
      · intro c8
        refine And.intro (True.intro) ?_
        exact ⟨_, rfl, by omega⟩
      · intro c9
        refine And.intro ⟨rfl, by decide, by decide⟩ ?_
        intro z10 hz10 ez10 bz10
        clear ez10
        have bz10 := bz10 (by omega)
        intro z11 hz11 ez11 bz11
        clear ez11
        have bz11 := bz11 (by omega)
        refine And.intro ⟨rfl, by decide, by decide⟩ ?_
        refine fload1 rL_753_753_0_29_1_0 h0 hB1 ⟨by decide, by decide⟩ (by first | exact ⟨hb.2.2.2.1.1, Int.le_trans (Int.le_sub_one_of_lt (Int.lt_of_lt_of_le c9 hb.2.2.1.2)) (by decide)⟩ | omega) ?_
        intro z12 lz12 uz12 qz12
        refine fstore rS_746_746_0_599_1_0 (fzs_sub (by decide +kernel) hW) (by omega) (by first | exact ⟨lz12, uz12⟩ | omega) ?_
        intro IhB13 ehB13 hB13
        have t14 := fup_self ehB13
        exact fcutJ (I := IhB13) (j := jc_M_copy_adc00_152) (lv' := [(0, .inr (.inr (some 740))), (3, .inl _), (4, .inl _), (5, .inl _), (6, .inl _)]) (And.intro rfl (And.intro rfl (And.intro rfl (And.intro rfl (And.intro rfl True.intro))))) ⟨_, _, _, _, rfl, rfl, by omega, rfl⟩ (by omega)
  · have hB0 := fB_self (zn := znJ) (K := fKc wz_25294) h0
    refine Exists.intro xm_241 (And.intro mi_241 (And.intro ⟨rfl, rfl, rfl, rfl⟩ (And.intro rfl ?_)))
    refine fcallp hB0 (ct_M_isCell_45859 (fBz h0 hB0) (by first | exact ⟨ha1.1, ha1.2⟩ | omega)) ?_
    rintro _ ⟨z15, rfl, hz15⟩
    refine And.intro (by omega) (And.intro ?_ ?_)
    · intro c16
      exact fcutJ (I := I) (j := jc_M_copy_adc00_16) (lv' := []) (True.intro) ⟨rfl, rfl, True.intro, rfl⟩ (by omega)
    · intro c17
      refine Exists.intro xm_241 (And.intro mi_241 (And.intro ⟨rfl, rfl, rfl, rfl⟩ (And.intro rfl ?_)))
      refine fcallp hB0 (ct_M_isCell_45859 (fBz h0 hB0) (by first | exact ⟨ha3.1, ha3.2⟩ | omega)) ?_
      rintro _ ⟨z18, rfl, hz18⟩
      refine And.intro (by omega) (And.intro ?_ ?_)
      · intro c19
        refine And.intro ⟨rfl, by decide, by decide⟩ ?_
        refine fload rL_744_744_0_19_1_0 h0 hB0 (by omega) ?_
        intro z20 lz20 uz20 qz20
        refine And.intro (by first | exact fi_ lz20 uz20 rfl | omega) (And.intro ?_ ?_)
        · intro c21
          exact fcutJ (I := I) (j := jc_M_copy_adc00_37) (lv' := []) (True.intro) ⟨rfl, rfl, True.intro, rfl⟩ (by omega)
        · intro c22
          refine And.intro ⟨rfl, by decide, by decide⟩ ?_
          refine fload rL_744_744_0_19_1_0 h0 hB0 (by omega) ?_
          intro z23 lz23 uz23 qz23
          refine And.intro (by first | exact fi_ lz23 uz23 rfl | omega) (And.intro ?_ ?_)
          · intro c24
            refine And.intro ⟨rfl, by decide, by decide⟩ ?_
            refine fload rL_744_744_0_19_1_0 h0 hB0 (by omega) ?_
            intro z25 lz25 uz25 qz25
            refine And.intro ⟨rfl, by decide, by decide⟩ ?_
            refine fload rL_744_744_0_19_1_0 h0 hB0 (by omega) ?_
            intro z26 lz26 uz26 qz26
            refine And.intro (And.intro (by first | exact fi_ lz25 uz25 rfl | omega) (by first | exact fi_ lz26 uz26 rfl | omega)) (And.intro ?_ ?_)
            · intro c27
              refine And.intro (by first | exact fi_ ha2.1 ha2.2 rfl | omega) (And.intro ?_ ?_)
              · intro c28
                exact fcutJ (I := I) (j := jc_M_copy_adc00_108) (lv' := []) (True.intro) ⟨rfl, rfl, True.intro, rfl⟩ (by omega)
              · intro c29
                refine And.intro (by first | exact fi_ ha4.1 ha4.2 rfl | omega) (And.intro ?_ ?_)
                · intro c30
                  exact fcutJ (I := I) (j := jc_M_copy_adc00_108) (lv' := []) (True.intro) ⟨rfl, rfl, True.intro, rfl⟩ (by omega)
                · intro c31
                  refine And.intro (by first | exact fi_ ha5.1 ha5.2 rfl | omega) (And.intro ?_ ?_)
                  · intro c32
                    exact fcutJ (I := I) (j := jc_M_copy_adc00_108) (lv' := []) (True.intro) ⟨rfl, rfl, True.intro, rfl⟩ (by omega)
                  · intro c33
                    refine And.intro (by first | exact fi_ (Int.le_trans (Int.le_refl _) c29) ha2.2 rfl | omega) ?_
                    refine And.intro (by first | exact fi_ (Int.le_trans (Int.le_refl _) c33) ha5.2 rfl | omega) ?_
                    refine And.intro ⟨rfl, by decide, by decide⟩ ?_
                    refine fload rL_745_745_0_19_1_0 h0 hB0 (by omega) ?_
                    intro z34 lz34 uz34 qz34
                    refine And.intro (by first | exact fi_ lz34 uz34 rfl | omega) ?_
                    refine And.intro (And.intro (by omega) (by first | exact fl_ lz34 uz34 rfl | omega)) ?_
                    intro z35 hz35
                    refine And.intro (by omega) (And.intro ?_ ?_)
                    · intro c36
                      exact fcutJ (I := I) (j := jc_M_copy_adc00_108) (lv' := []) (True.intro) ⟨rfl, rfl, True.intro, rfl⟩ (by omega)
                    · intro c37
                      refine And.intro (by first | exact fi_ (Int.le_trans (Int.le_refl _) c31) ha4.2 rfl | omega) ?_
                      refine And.intro (by first | exact fi_ (Int.le_trans (Int.le_refl _) c33) ha5.2 rfl | omega) ?_
                      refine And.intro ⟨rfl, by decide, by decide⟩ ?_
                      refine fload rL_745_745_0_19_1_0 h0 hB0 (by omega) ?_
                      intro z38 lz38 uz38 qz38
                      refine And.intro (by first | exact fi_ lz38 uz38 rfl | omega) ?_
                      refine And.intro (And.intro (by omega) (by first | exact fl_ lz38 uz38 rfl | omega)) ?_
                      intro z39 hz39
                      refine And.intro (by omega) (And.intro ?_ ?_)
                      · intro c40
                        exact fcutJ (I := I) (j := jc_M_copy_adc00_115) (lv' := [(0, .inr (.inr (some 740))), (1, .inl _), (2, .inl _), (3, .inl _), (4, .inl _), (5, .inl _), (6, .inl _)]) (And.intro rfl (And.intro rfl (And.intro rfl (And.intro rfl (And.intro rfl (And.intro rfl (And.intro rfl True.intro))))))) ⟨_, _, _, _, _, _, rfl, rfl, by omega, rfl⟩ (by omega)
                      · intro c41
                        exact fcutJ (I := I) (j := jc_M_copy_adc00_108) (lv' := []) (True.intro) ⟨rfl, rfl, True.intro, rfl⟩ (by omega)
            · intro c42
              refine And.intro (True.intro) ?_
              exact ⟨_, rfl, by omega⟩
          · intro c43
            exact fcutJ (I := I) (j := jc_M_copy_adc00_37) (lv' := []) (True.intro) ⟨rfl, rfl, True.intro, rfl⟩ (by omega)
      · intro c44
        exact fcutJ (I := I) (j := jc_M_copy_adc00_16) (lv' := []) (True.intro) ⟨rfl, rfl, True.intro, rfl⟩ (by omega)
set_option maxRecDepth 8000 in
theorem ct_X_swap_20081 {I : fH} {x0 : Nat} {x1 : Int} {x2 : Int} (h0 : fB bsJ I) (ha0 : (213 ≤ x0 ∧ x0 ≤ 220)) (ha1 : (0 ≤ x1 ∧ x1 ≤ 11)) (ha2 : (0 ≤ x2 ∧ x2 ≤ 3)) : fC ρ base n F xTc vwCl xTys D dA la gJ (fbz bsJ znJ (fKc wz_9f933) I) xm_18 [.inr (.inr (some x0)), .inl x1, .inl x2] I (fun I' r => ∃ z, r = some (.inl z) ∧ (0 ≤ z ∧ z ≤ 3) ∧ (I' = fupd I x0 x1.toNat x2) ∧ (z = I x0 x1.toNat)) := by
  have hW : fzs wz_9f933 (fKc wz_9f933) := fKc_ok _
  refine f_meth (rb := rbJ) (J := []) 1 400 xG xin_18 x6_18 okJ (fB_self h0) ?_ ?_
  · exact fun q h => absurd h List.not_mem_nil
  · have hB0 := fB_self (zn := znJ) (K := fKc wz_9f933) h0
    refine fload rL_213_220_0_11_1_0 h0 hB0 (by omega) ?_
    intro z1 lz1 uz1 qz1
    refine fstore rS_213_220_0_11_1_0 (fzs_sub (by decide +kernel) hW) (by omega) (by first | exact ⟨ha2.1, ha2.2⟩ | omega) ?_
    intro IhB2 ehB2 hB2
    have t3 := fup_self ehB2
    refine And.intro (True.intro) ?_
    exact ⟨_, rfl, (by first | exact ⟨lz1, uz1⟩ | omega), ehB2, qz1⟩
set_option maxRecDepth 8000 in
theorem ct_X_shows_90a17 {I : fH} {x1 : Int} {x2 : Int} {x3 : Int} (h0 : fB bsJ I) (ha1 : ((-2147483648) ≤ x1 ∧ x1 ≤ 2147483647)) (ha2 : ((-2147483648) ≤ x2 ∧ x2 ≤ 2147483647)) (ha3 : ((-2147483648) ≤ x3 ∧ x3 ≤ 2147483647)) : fC ρ base n F xTc vwCl xTys D dA la gJ (fbz bsJ znJ (fKc wz_9f933) I) xm_169 [.inr (.inr (some 0)), .inl x1, .inl x2, .inl x3] I (fun I' r => ∃ z, r = some (.inl z) ∧ ((0 ≤ z ∧ z ≤ 3) ∨ z = (-1000000001)) ∧ (((0 ≤ x1 ∧ x1 ≤ 7 ∧ 0 ≤ x2 ∧ x2 ≤ 11 ∧ 0 ≤ x3 ∧ x3 ≤ 3) ∧ I' = fupd I (213 + x1.toNat) x2.toNat x3 ∧ z = I (213 + x1.toNat) x2.toNat) ∨ (¬ (0 ≤ x1 ∧ x1 ≤ 7 ∧ 0 ≤ x2 ∧ x2 ≤ 11 ∧ 0 ≤ x3 ∧ x3 ≤ 3) ∧ I' = I ∧ z = (-1000000001)))) := by
  have hW : fzs wz_9f933 (fKc wz_9f933) := fKc_ok _
  refine f_meth (rb := rbJ) (J := []) 1 400 xG xin_169 x6_169 okJ (fB_self h0) ?_ ?_
  · exact fun q h => absurd h List.not_mem_nil
  · have hB0 := fB_self (zn := znJ) (K := fKc wz_9f933) h0
    refine Exists.intro xm_13 (And.intro mi_13 (And.intro ⟨rfl, rfl, rfl, rfl⟩ (And.intro True.intro ?_)))
    refine fcallp hB0 (ct_X_within_c27b1 (fBz h0 hB0) (by first | exact ⟨ha1.1, ha1.2⟩ | omega) (by first | exact ⟨by decide, by decide⟩ | omega) (by first | exact ⟨by decide, by decide⟩ | omega)) ?_
    rintro _ ⟨z1, rfl, hz1⟩
    refine And.intro (by omega) (And.intro ?_ ?_)
    · intro c2
      refine And.intro (True.intro) ?_
      exact ⟨_, rfl, by omega, (by first | exact Or.inl ⟨by omega, g0nil0, g1nil0⟩ | exact Or.inr ⟨by omega, rfl, by omega⟩)⟩
    · intro c3
      refine Exists.intro xm_13 (And.intro mi_13 (And.intro ⟨rfl, rfl, rfl, rfl⟩ (And.intro True.intro ?_)))
      refine fcallp hB0 (ct_X_within_c27b1 (fBz h0 hB0) (by first | exact ⟨ha2.1, ha2.2⟩ | omega) (by first | exact ⟨by decide, by decide⟩ | omega) (by first | exact ⟨by decide, by decide⟩ | omega)) ?_
      rintro _ ⟨z4, rfl, hz4⟩
      refine And.intro (by omega) (And.intro ?_ ?_)
      · intro c5
        refine And.intro (True.intro) ?_
        exact ⟨_, rfl, by omega, (by first | exact Or.inl ⟨by omega, g0nil0, g1nil0⟩ | exact Or.inr ⟨by omega, rfl, by omega⟩)⟩
      · intro c6
        refine Exists.intro xm_13 (And.intro mi_13 (And.intro ⟨rfl, rfl, rfl, rfl⟩ (And.intro True.intro ?_)))
        refine fcallp hB0 (ct_X_within_c27b1 (fBz h0 hB0) (by first | exact ⟨ha3.1, ha3.2⟩ | omega) (by first | exact ⟨by decide, by decide⟩ | omega) (by first | exact ⟨by decide, by decide⟩ | omega)) ?_
        rintro _ ⟨z7, rfl, hz7⟩
        refine And.intro (by omega) (And.intro ?_ ?_)
        · intro c8
          refine And.intro ⟨rfl, by decide, by decide⟩ ?_
          refine And.intro ⟨rfl, by decide, by decide⟩ ?_
          refine And.intro ⟨rfl, by decide⟩ (And.intro (by first | exact ⟨Int.le_trans (by decide) (Int.le_trans (Int.le_refl _) hz1.1), Int.lt_of_le_of_lt (Int.le_trans hz1.2 (Int.le_refl _)) (by decide)⟩ | omega) ?_)
          refine Exists.intro xm_18 (And.intro mi_18 (And.intro ⟨rfl, rfl, rfl, rfl⟩ (And.intro True.intro ?_)))
          refine fcall _ h0 (fzs_sub (by decide +kernel) hW) hB0 (ct_X_swap_20081 (fBz h0 hB0) (by omega) (by first | exact ⟨Int.le_trans (by decide) (Int.le_trans (Int.le_refl _) hz4.1), Int.le_trans (Int.le_trans hz4.2 (Int.le_refl _)) (by decide)⟩ | omega) (by first | exact ⟨Int.le_trans (by decide) (Int.le_trans (Int.le_refl _) hz7.1), Int.le_trans (Int.le_trans hz7.2 (Int.le_refl _)) (by decide)⟩ | omega)) ?_
          rintro IhB10 _ hB10 fhB10 ⟨z9, rfl, hz9, g0z9, g1z9⟩
          refine And.intro (True.intro) ?_
          exact ⟨_, rfl, by omega, (by first | exact Or.inl ⟨by omega, g0z9, g1z9⟩ | exact Or.inr ⟨by omega, rfl, by omega⟩)⟩
        · intro c11
          refine And.intro (True.intro) ?_
          exact ⟨_, rfl, by omega, (by first | exact Or.inl ⟨by omega, g0z9, g1z9⟩ | exact Or.inr ⟨by omega, rfl, by omega⟩)⟩
set_option maxRecDepth 8000 in
theorem ct_M_isTest_9b7ec {I : fH} {x0 : Int} (h0 : fB bsJ I) (ha0 : ((-2147483648) ≤ x0 ∧ x0 ≤ 2147483647)) : fC ρ base n F xTc vwCl xTys D dA la gJ (fbz bsJ znJ (fKc []) I) xm_446 [.inl x0] I (fun _ r => ∃ z, r = some (.inl z) ∧ (((z = 1 ∧ 0 ≤ x0 ∧ x0 ≤ 7) ∨ z = 0) ∧ (z = 0 → ¬ (0 ≤ x0 ∧ x0 ≤ 7)))) := by
  have hW : fzs [] (fKc []) := fKc_ok _
  refine f_meth (rb := rbJ) (J := []) 1 400 xG xin_446 x6_446 okJ (fB_self h0) ?_ ?_
  · exact fun q h => absurd h List.not_mem_nil
  · have hB0 := fB_self (zn := znJ) (K := fKc []) h0
    refine And.intro (by first | exact fi_ ha0.1 ha0.2 rfl | omega) ?_
    refine Exists.intro xm_238 (And.intro mi_238 (And.intro ⟨rfl, rfl, rfl, rfl⟩ (And.intro True.intro ?_)))
    refine fcallp hB0 (ct_M_isIn_27230 (fBz h0 hB0) (by first | exact ⟨ha0.1, ha0.2⟩ | omega) (by first | exact ⟨by decide, by decide⟩ | omega) (by first | exact ⟨by decide, by decide⟩ | omega)) ?_
    rintro _ ⟨z1, rfl, hz1⟩
    refine And.intro (⟨by omega, by omega⟩) ?_
    exact ⟨_, rfl, by omega⟩
set_option maxRecDepth 8000 in
theorem ct_M_isFault_f748c {I : fH} {x0 : Int} (h0 : fB bsJ I) (ha0 : ((-2147483648) ≤ x0 ∧ x0 ≤ 2147483647)) : fC ρ base n F xTc vwCl xTys D dA la gJ (fbz bsJ znJ (fKc []) I) xm_447 [.inl x0] I (fun _ r => ∃ z, r = some (.inl z) ∧ (((z = 1 ∧ 0 ≤ x0 ∧ x0 ≤ 11) ∨ z = 0) ∧ (z = 0 → ¬ (0 ≤ x0 ∧ x0 ≤ 11)))) := by
  have hW : fzs [] (fKc []) := fKc_ok _
  refine f_meth (rb := rbJ) (J := []) 1 400 xG xin_447 x6_447 okJ (fB_self h0) ?_ ?_
  · exact fun q h => absurd h List.not_mem_nil
  · have hB0 := fB_self (zn := znJ) (K := fKc []) h0
    refine And.intro (by first | exact fi_ ha0.1 ha0.2 rfl | omega) ?_
    refine Exists.intro xm_238 (And.intro mi_238 (And.intro ⟨rfl, rfl, rfl, rfl⟩ (And.intro True.intro ?_)))
    refine fcallp hB0 (ct_M_isIn_27230 (fBz h0 hB0) (by first | exact ⟨ha0.1, ha0.2⟩ | omega) (by first | exact ⟨by decide, by decide⟩ | omega) (by first | exact ⟨by decide, by decide⟩ | omega)) ?_
    rintro _ ⟨z1, rfl, hz1⟩
    refine And.intro (⟨by omega, by omega⟩) ?_
    exact ⟨_, rfl, by omega⟩
set_option maxRecDepth 8000 in
theorem ct_M_put_27229 {I : fH} {x1 : Int} {x2 : Int} (h0 : fB bsJ I) (ha1 : ((4400 ≤ x1 ∧ x1 ≤ 4495) ∧ (x1 - 4400) % 12 ≤ 11)) (ha2 : (0 ≤ x2 ∧ x2 ≤ 3)) : fC ρ base n F xTc vwCl xTys D dA la gJ (fbz bsJ znJ (fKc wz_663b8) I) xm_242 [.inr (.inr (some 740)), .inl x1, .inl x2] I (fun I' r => ∃ z, r = some (.inl z) ∧ (0 ≤ z ∧ z ≤ 3) ∧ (I' = fupd I 741 x1.toNat x2) ∧ (z = I 741 x1.toNat)) := by
  have hW : fzs wz_663b8 (fKc wz_663b8) := fKc_ok _
  refine f_meth (rb := rbJ) (J := []) 1 400 xG xin_242 x6_242 okJ (fB_self h0) ?_ ?_
  · exact fun q h => absurd h List.not_mem_nil
  · have hB0 := fB_self (zn := znJ) (K := fKc wz_663b8) h0
    refine And.intro ⟨rfl, by decide, by decide⟩ ?_
    refine fload rL_741_741_4400_4495_12_11 h0 hB0 (by omega) ?_
    intro z1 lz1 uz1 qz1
    refine And.intro ⟨rfl, by decide, by decide⟩ ?_
    refine fstore rS_741_741_4400_4495_12_11 (fzs_sub (by decide +kernel) hW) (by omega) (by first | exact ⟨ha2.1, ha2.2⟩ | omega) ?_
    intro IhB2 ehB2 hB2
    have t3 := fup_self ehB2
    refine And.intro (True.intro) ?_
    exact ⟨_, rfl, (by first | exact ⟨lz1, uz1⟩ | omega), ehB2, qz1⟩
set_option maxRecDepth 8000 in
theorem ct_M_shows_19c07 {I : fH} {x1 : Int} {x2 : Int} {x3 : Int} (h0 : fB bsJ I) (ha1 : ((-2147483648) ≤ x1 ∧ x1 ≤ 2147483647)) (ha2 : ((-2147483648) ≤ x2 ∧ x2 ≤ 2147483647)) (ha3 : ((-2147483648) ≤ x3 ∧ x3 ≤ 2147483647)) : fC ρ base n F xTc vwCl xTys D dA la gJ (fbz bsJ znJ (fKc wz_663b8) I) xm_445 [.inr (.inr (some 740)), .inl x1, .inl x2, .inl x3] I (fun I' r => ∃ z, r = some (.inl z) ∧ ((0 ≤ z ∧ z ≤ 3) ∨ z = (-1000000001)) ∧ (((0 ≤ x1 ∧ x1 ≤ 7 ∧ 0 ≤ x2 ∧ x2 ≤ 11 ∧ 0 ≤ x3 ∧ x3 ≤ 3) ∧ I' = fupd I 741 (4400 + 12 * x1 + x2).toNat x3 ∧ z = I 741 (4400 + 12 * x1 + x2).toNat) ∨ (¬ (0 ≤ x1 ∧ x1 ≤ 7 ∧ 0 ≤ x2 ∧ x2 ≤ 11 ∧ 0 ≤ x3 ∧ x3 ≤ 3) ∧ I' = I ∧ z = (-1000000001)))) := by
  have hW : fzs wz_663b8 (fKc wz_663b8) := fKc_ok _
  refine f_meth (rb := rbJ) (J := []) 1 400 xG xin_445 x6_445 okJ (fB_self h0) ?_ ?_
  · exact fun q h => absurd h List.not_mem_nil
  · have hB0 := fB_self (zn := znJ) (K := fKc wz_663b8) h0
    refine Exists.intro xm_446 (And.intro mi_446 (And.intro ⟨rfl, rfl, rfl, rfl⟩ (And.intro True.intro ?_)))
    refine fcallp hB0 (ct_M_isTest_9b7ec (fBz h0 hB0) (by first | exact ⟨ha1.1, ha1.2⟩ | omega)) ?_
    rintro _ ⟨z1, rfl, hz1⟩
    refine And.intro (by omega) (And.intro ?_ ?_)
    · intro c2
      refine And.intro (True.intro) ?_
      exact ⟨_, rfl, by omega, (by first | exact Or.inl ⟨by omega, g0nil0.trans (fupd_ix (by omega)), g1nil0.trans (fld_ix (by omega))⟩ | exact Or.inr ⟨by omega, rfl, by omega⟩)⟩
    · intro c3
      refine Exists.intro xm_447 (And.intro mi_447 (And.intro ⟨rfl, rfl, rfl, rfl⟩ (And.intro True.intro ?_)))
      refine fcallp hB0 (ct_M_isFault_f748c (fBz h0 hB0) (by first | exact ⟨ha2.1, ha2.2⟩ | omega)) ?_
      rintro _ ⟨z4, rfl, hz4⟩
      refine And.intro (by omega) (And.intro ?_ ?_)
      · intro c5
        refine And.intro (True.intro) ?_
        exact ⟨_, rfl, by omega, (by first | exact Or.inl ⟨by omega, g0nil0.trans (fupd_ix (by omega)), g1nil0.trans (fld_ix (by omega))⟩ | exact Or.inr ⟨by omega, rfl, by omega⟩)⟩
      · intro c6
        refine And.intro (by first | exact fi_ ha3.1 ha3.2 rfl | omega) ?_
        refine Exists.intro xm_238 (And.intro mi_238 (And.intro ⟨rfl, rfl, rfl, rfl⟩ (And.intro True.intro ?_)))
        refine fcallp hB0 (ct_M_isIn_27230 (fBz h0 hB0) (by first | exact ⟨ha3.1, ha3.2⟩ | omega) (by first | exact ⟨by decide, by decide⟩ | omega) (by first | exact ⟨by decide, by decide⟩ | omega)) ?_
        rintro _ ⟨z7, rfl, hz7⟩
        refine And.intro (by omega) (And.intro ?_ ?_)
        · intro c8
          refine And.intro (True.intro) ?_
          exact ⟨_, rfl, by omega, (by first | exact Or.inl ⟨by omega, g0nil0.trans (fupd_ix (by omega)), g1nil0.trans (fld_ix (by omega))⟩ | exact Or.inr ⟨by omega, rfl, by omega⟩)⟩
        · intro c9
          refine Exists.intro xm_242 (And.intro mi_242 (And.intro ⟨rfl, rfl, rfl, rfl⟩ (And.intro rfl ?_)))
          refine fcall _ h0 (fzs_sub (by decide +kernel) hW) hB0 (ct_M_put_27229 (fBz h0 hB0) (by omega) (by first | exact ⟨Int.le_trans (by decide) (Int.le_trans (Int.le_refl _) hz7.1), Int.le_trans (Int.le_trans hz7.2 (Int.le_refl _)) (by decide)⟩ | omega)) ?_
          rintro IhB11 _ hB11 fhB11 ⟨z10, rfl, hz10, g0z10, g1z10⟩
          refine And.intro (True.intro) ?_
          exact ⟨_, rfl, by omega, (by first | exact Or.inl ⟨by omega, g0z10.trans (fupd_ix (by omega)), g1z10.trans (fld_ix (by omega))⟩ | exact Or.inr ⟨by omega, rfl, by omega⟩)⟩
abbrev jc_Desk_agrees_6299a_2 (x1 : Int) : Nat → fL → List fV → fH → Prop := fun m lv st I => ∃ (y1 : Int) (y2 : Int), lv = [(0, .inr (.inr (some 211))), (1, .inl y1), (2, .inl y2)] ∧ st = [] ∧ (((0 ≤ y1 ∧ y1 ≤ 11) ∧ (0 ≤ y2 ∧ y2 ≤ 8) ∧ (y1 = x1)) ∧ (agP (I 221) (fun t => I (213 + t)) y1.toNat y2.toNat)) ∧ m = (1 + 1 * (8 - y2) : Int).toNat
set_option maxRecDepth 8000 in
theorem ct_Desk_agrees_6299a {I : fH} {x1 : Int} (h0 : fB bsJ I) (ha1 : (0 ≤ x1 ∧ x1 ≤ 11)) : fC ρ base n F xTc vwCl xTys D dA la gJ (fbz bsJ znJ (fKc []) I) xm_172 [.inr (.inr (some 211)), .inl x1] I (fun _ r => ∃ z, r = some (.inl z) ∧ (0 ≤ z ∧ z ≤ 1) ∧ ((z = 1 ∧ agP (I 221) (fun t => I (213 + t)) x1.toNat 8) ∨ (z = 0 ∧ ¬ agP (I 221) (fun t => I (213 + t)) x1.toNat 8))) := by
  have hW : fzs [] (fKc []) := fKc_ok _
  refine f_meth (rb := rbJ) (J := [(2, (jc_Desk_agrees_6299a_2 x1))]) 10 400 xG xin_172 x6_172 okJ (fB_self h0) ?_ ?_
  · refine List.forall_mem_cons.mpr ⟨?_, fun q h => absurd h List.not_mem_nil⟩
    · rintro m _ _ I1 hB1 ⟨y1, y2, rfl, rfl, ⟨hb, hx0⟩, hm⟩
      have eI : I1 = I := fFr_nil (fFr_of hB1)
      refine And.intro (And.intro (by first | exact fi_ hb.2.1.1 hb.2.1.2 rfl | omega) (by first | exact ⟨by decide, by decide⟩ | omega)) (And.intro ?_ ?_)
      · intro c1
        refine And.intro (⟨by decide, by decide⟩) ?_
        exact ⟨_, rfl, (by first | exact ⟨by decide, by decide⟩ | omega), (Or.inl ⟨by omega, by have q := hx0; rw [eI, show y1 = x1 by omega, show y2.toNat = 8 by omega] at q; exact q⟩)⟩
      · intro c2
        refine And.intro ⟨rfl, by decide, by decide⟩ ?_
        refine fload1 rL_221_221_0_7_1_0 h0 hB1 ⟨by decide, by decide⟩ (by first | exact ⟨hb.2.1.1, Int.le_trans (Int.le_sub_one_of_lt (Int.lt_of_lt_of_le c2 (Int.le_refl _))) (by decide)⟩ | omega) ?_
        intro z3 lz3 uz3 qz3
        refine And.intro (And.intro (by first | exact fi_ lz3 uz3 rfl | omega) (by first | exact ⟨by decide, by decide⟩ | omega)) (And.intro ?_ ?_)
        · intro c4
          exact fcutJ (I := I1) (j := (jc_Desk_agrees_6299a_2 x1)) (lv' := [(0, .inr (.inr (some 211))), (1, .inl _), (2, .inl _)]) (And.intro rfl (And.intro rfl (And.intro rfl True.intro))) ⟨_, _, rfl, rfl, ⟨by omega, (agP_go hx0 (by omega) (by omega) (by first | exact Or.inr (qnil0.symm.trans ((by omega : nil0 = nil0).trans qnil0)) | exact Or.inl (by rw [← qz3]; omega)))⟩, rfl⟩ (by omega)
        · intro c5
          refine And.intro ⟨rfl, by decide, by decide⟩ ?_
          refine fload1 rL_221_221_0_7_1_0 h0 hB1 ⟨by decide, by decide⟩ (by first | exact ⟨hb.2.1.1, Int.le_trans (Int.le_sub_one_of_lt (Int.lt_of_lt_of_le c2 (Int.le_refl _))) (by decide)⟩ | omega) ?_
          intro z6 lz6 uz6 qz6
          refine And.intro ⟨rfl, by decide, by decide⟩ ?_
          refine And.intro ⟨rfl, by decide⟩ (And.intro (by first | exact ⟨hb.2.1.1, Int.lt_of_le_of_lt (Int.le_sub_one_of_lt (Int.lt_of_lt_of_le c2 (Int.le_refl _))) (by decide)⟩ | omega) ?_)
          refine fload rL_213_220_0_11_1_0 h0 hB1 (by omega) ?_
          intro z7 lz7 uz7 qz7
          refine And.intro (And.intro (by first | exact fi_ lz6 uz6 rfl | omega) (by first | exact fi_ lz7 uz7 rfl | omega)) (And.intro ?_ ?_)
          · intro c8
            exact fcutJ (I := I1) (j := (jc_Desk_agrees_6299a_2 x1)) (lv' := [(0, .inr (.inr (some 211))), (1, .inl _), (2, .inl _)]) (And.intro rfl (And.intro rfl (And.intro rfl True.intro))) ⟨_, _, rfl, rfl, ⟨by omega, (agP_go hx0 (by omega) (by omega) (by first | exact Or.inr (qz6.symm.trans ((by omega : z6 = z7).trans qz7)) | exact Or.inl (by rw [← qz3]; omega)))⟩, rfl⟩ (by omega)
          · intro c9
            refine And.intro (⟨by decide, by decide⟩) ?_
            exact ⟨_, rfl, (by first | exact ⟨by decide, by decide⟩ | omega), (Or.inr ⟨by omega, by rw [← eI, ← show y1 = x1 by omega]; exact agP_no (m := y2) (by omega) (by omega) (fun q => q.elim (fun q => by rw [← qz3] at q; omega) (fun q => by rw [← qz6, ← qz7] at q; omega))⟩)⟩
  · have hB0 := fB_self (zn := znJ) (K := fKc []) h0
    exact fcutJ (I := I) (j := (jc_Desk_agrees_6299a_2 x1)) (lv' := [(0, .inr (.inr (some 211))), (1, .inl _), (2, .inl _)]) (And.intro rfl (And.intro rfl (And.intro rfl True.intro))) ⟨_, _, rfl, rfl, ⟨by omega, (fun t ht => absurd ht (Nat.not_lt_zero _))⟩, rfl⟩ (by omega)
abbrev jc_Desk_leftFaults_e8455_4 : Nat → fL → List fV → fH → Prop := fun m lv st I => ∃ (y1 : Int) (y2 : Int), lv = [(0, .inr (.inr (some 211))), (1, .inl y1), (2, .inl y2)] ∧ st = [] ∧ ((((-2147483648) ≤ y1 ∧ y1 ≤ 2147483647) ∧ (0 ≤ y2 ∧ y2 ≤ 12)) ∧ (iI y1 = lfF (I 221) (fun t => I (213 + t)) y2.toNat)) ∧ m = (1 + 1 * (12 - y2) : Int).toNat
set_option maxRecDepth 8000 in
theorem ct_Desk_leftFaults_e8455 {I : fH}  (h0 : fB bsJ I)  : fC ρ base n F xTc vwCl xTys D dA la gJ (fbz bsJ znJ (fKc []) I) xm_171 [.inr (.inr (some 211))] I (fun _ r => ∃ z, r = some (.inl z) ∧ ((-2147483648) ≤ z ∧ z ≤ 2147483647) ∧ (iI z = lfF (I 221) (fun t => I (213 + t)) 12)) := by
  have hW : fzs [] (fKc []) := fKc_ok _
  refine f_meth (rb := rbJ) (J := [(4, jc_Desk_leftFaults_e8455_4)]) 14 400 xG xin_171 x6_171 okJ (fB_self h0) ?_ ?_
  · refine List.forall_mem_cons.mpr ⟨?_, fun q h => absurd h List.not_mem_nil⟩
    · rintro m _ _ I1 hB1 ⟨y1, y2, rfl, rfl, ⟨hb, hx0⟩, hm⟩
      have eI : I1 = I := fFr_nil (fFr_of hB1)
      refine And.intro (And.intro (by first | exact fi_ hb.2.1 hb.2.2 rfl | omega) (by first | exact ⟨by decide, by decide⟩ | omega)) (And.intro ?_ ?_)
      · intro c1
        refine And.intro (True.intro) ?_
        exact ⟨_, rfl, (by first | exact ⟨hb.1.1, hb.1.2⟩ | omega), (by have q := hx0; rw [eI, show y2.toNat = 12 by omega] at q; exact q)⟩
      · intro c2
        refine Exists.intro xm_172 (And.intro mi_172 (And.intro ⟨rfl, rfl, rfl, rfl⟩ (And.intro rfl ?_)))
        refine fcallp hB1 (ct_Desk_agrees_6299a (fBz h0 hB1) (by first | exact ⟨hb.2.1, Int.le_trans (Int.le_sub_one_of_lt (Int.lt_of_lt_of_le c2 (Int.le_refl _))) (by decide)⟩ | omega)) ?_
        rintro _ ⟨z3, rfl, hz3, g0z3⟩
        refine And.intro (by omega) (And.intro ?_ ?_)
        · intro c4
          exact fcutJ (I := I1) (j := jc_Desk_leftFaults_e8455_4) (lv' := [(0, .inr (.inr (some 211))), (1, .inl _), (2, .inl _)]) (And.intro rfl (And.intro rfl (And.intro rfl True.intro))) ⟨_, _, rfl, rfl, ⟨by omega, (by rcases g0z3 with ⟨ga, gb⟩ | ⟨ga, gb⟩ <;> first | exact lf_yes hx0 (by omega) (by omega) gb enil0 enil0 | exact lf_no hx0 (by omega) (by omega) gb | (exfalso; omega))⟩, rfl⟩ (by omega)
        · intro c5
          intro z6 hz6 ez6
          intro z7 hz7 ez7
          exact fcutJ (I := I1) (j := jc_Desk_leftFaults_e8455_4) (lv' := [(0, .inr (.inr (some 211))), (1, .inl _), (2, .inl _)]) (And.intro rfl (And.intro rfl (And.intro rfl True.intro))) ⟨_, _, rfl, rfl, ⟨by omega, (by rcases g0z3 with ⟨ga, gb⟩ | ⟨ga, gb⟩ <;> first | exact lf_yes hx0 (by omega) (by omega) gb ez6 ez7 | exact lf_no hx0 (by omega) (by omega) gb | (exfalso; omega))⟩, rfl⟩ (by omega)
  · have hB0 := fB_self (zn := znJ) (K := fKc []) h0
    exact fcutJ (I := I) (j := jc_Desk_leftFaults_e8455_4) (lv' := [(0, .inr (.inr (some 211))), (1, .inl _), (2, .inl _)]) (And.intro rfl (And.intro rfl (And.intro rfl True.intro))) ⟨_, _, rfl, rfl, ⟨by omega, iI_0⟩, rfl⟩ (by omega)
set_option maxRecDepth 8000 in
theorem ct_Integer_bitCount_ccf26 {I : fH} {x0 : Int} (h0 : fB bsJ I) (ha0 : ((-2147483648) ≤ x0 ∧ x0 ≤ 2147483647)) : fC ρ base n F xTc vwCl xTys D dA la gJ (fbz bsJ znJ (fKc []) I) xm_499 [.inl x0] I (fun _ r => ∃ z, r = some (.inl z) ∧ (0 ≤ z ∧ z ≤ 63) ∧ (iI z = bc32 (iI x0))) := by
  have hW : fzs [] (fKc []) := fKc_ok _
  refine f_meth (rb := rbJ) (J := []) 1 400 xG xin_499 x6_499 okJ (fB_self h0) ?_ ?_
  · exact fun q h => absurd h List.not_mem_nil
  · have hB0 := fB_self (zn := znJ) (K := fKc []) h0
    intro z1 hz1 ez1
    intro z2 hz2 ez2 bz2
    have bz2 := bz2 (by omega)
    intro z3 hz3 ez3 bz3
    clear bz3
    intro z4 hz4 ez4 bz4
    have bz4 := bz4 (by omega)
    intro z5 hz5 ez5
    intro z6 hz6 ez6 bz6
    have bz6 := bz6 (by omega)
    intro z7 hz7 ez7
    intro z8 hz8 ez8 bz8
    clear bz8
    intro z9 hz9 ez9 bz9
    have bz9 := bz9 (by omega)
    intro z10 hz10 ez10
    intro z11 hz11 ez11 bz11
    clear bz11
    intro z12 hz12 ez12
    intro z13 hz13 ez13 bz13
    clear bz13
    intro z14 hz14 ez14 bz14
    have bz14 := bz14 (by omega)
    refine And.intro (True.intro) ?_
    exact ⟨_, rfl, (by first | exact ⟨bz14.1, bz14.2⟩ | omega), (by unfold bc32; simp only []; rw [← (show iI z1 = xio 8 (iI x0) (iI 1) from ez1), ← (show iI z2 = iI z1 &&& iI 1431655765 from ez2), ← (show iI z3 = iI x0 - iI z2 from ez3), ← (show iI z5 = xio 8 (iI z3) (iI 2) from ez5), ← (show iI z4 = iI z3 &&& iI 858993459 from ez4), ← (show iI z6 = iI z5 &&& iI 858993459 from ez6)]; (first | (rw [← (show iI nil0 = iI z4 + iI z6 from enil0), ← (show iI z7 = xio 8 (iI nil0) (iI 4) from ez7), ← (show iI z8 = iI nil0 + iI z7 from ez8)]) | (rw [iI_add, ← (show iI z7 = xio 8 (iI (z4 + z6)) (iI 4) from ez7), ← (show iI z8 = iI (z4 + z6) + iI z7 from ez8)])); rw [← (show iI z9 = iI z8 &&& iI 252645135 from ez9), ← (show iI z10 = xio 8 (iI z9) (iI 8) from ez10), ← (show iI z11 = iI z9 + iI z10 from ez11), ← (show iI z12 = xio 8 (iI z11) (iI 16) from ez12), ← (show iI z13 = iI z11 + iI z12 from ez13)]; exact ez14)⟩
set_option maxRecDepth 8000 in
theorem ct_X_tested_c945d {I : fH} {x1 : Int} {x2 : Int} (h0 : fB bsJ I) (ha1 : ((-2147483648) ≤ x1 ∧ x1 ≤ 2147483647)) (ha2 : ((-2147483648) ≤ x2 ∧ x2 ≤ 2147483647)) : fC ρ base n F xTc vwCl xTys D dA la gJ (fbz bsJ znJ (fKc wz_ae6a8) I) xm_170 [.inr (.inr (some 0)), .inl x1, .inl x2] I (fun I' r => ∃ z, r = some (.inl z) ∧ ((0 ≤ z ∧ z ≤ 89) ∨ z = (-1000000001)) ∧ (((0 ≤ x1 ∧ x1 ≤ 7 ∧ (-1) ≤ x2 ∧ x2 ≤ 3) ∧ I' = fupd I 221 x1.toNat x2) ∨ (¬ (0 ≤ x1 ∧ x1 ≤ 7 ∧ (-1) ≤ x2 ∧ x2 ≤ 3) ∧ I' = I ∧ z = (-1000000001))) ∧ (0 ≤ x1 ∧ x1 ≤ 7 ∧ (-1) ≤ x2 ∧ x2 ≤ 3 → lfX (I' 221) (fun t => I' (213 + t)) z)) := by
  have hW : fzs wz_ae6a8 (fKc wz_ae6a8) := fKc_ok _
  refine f_meth (rb := rbJ) (J := []) 1 400 xG xin_170 x6_170 okJ (fB_self h0) ?_ ?_
  · exact fun q h => absurd h List.not_mem_nil
  · have hB0 := fB_self (zn := znJ) (K := fKc wz_ae6a8) h0
    refine Exists.intro xm_13 (And.intro mi_13 (And.intro ⟨rfl, rfl, rfl, rfl⟩ (And.intro True.intro ?_)))
    refine fcallp hB0 (ct_X_within_c27b1 (fBz h0 hB0) (by first | exact ⟨ha1.1, ha1.2⟩ | omega) (by first | exact ⟨by decide, by decide⟩ | omega) (by first | exact ⟨by decide, by decide⟩ | omega)) ?_
    rintro _ ⟨z1, rfl, hz1⟩
    refine And.intro (by omega) (And.intro ?_ ?_)
    · intro c2
      refine And.intro (True.intro) ?_
      exact ⟨_, rfl, by omega, (by first | exact Or.inl ⟨by omega, enil0⟩ | exact Or.inr ⟨by omega, rfl, by omega⟩), (fun q => absurd q (by omega))⟩
    · intro c3
      refine Exists.intro xm_13 (And.intro mi_13 (And.intro ⟨rfl, rfl, rfl, rfl⟩ (And.intro True.intro ?_)))
      refine fcallp hB0 (ct_X_within_c27b1 (fBz h0 hB0) (by first | exact ⟨ha2.1, ha2.2⟩ | omega) (by first | exact ⟨by decide, by decide⟩ | omega) (by first | exact ⟨by decide, by decide⟩ | omega)) ?_
      rintro _ ⟨z4, rfl, hz4⟩
      refine And.intro (by omega) (And.intro ?_ ?_)
      · intro c5
        refine And.intro ⟨rfl, by decide, by decide⟩ ?_
        refine And.intro ⟨rfl, by decide, by decide⟩ ?_
        refine fstore1 rS_221_221_0_7_1_0 (fzs_sub (by decide +kernel) hW) ⟨by decide, by decide⟩ (by first | exact ⟨Int.le_trans (by decide) (Int.le_trans (Int.le_refl _) hz1.1), Int.le_trans (Int.le_trans hz1.2 (Int.le_refl _)) (by decide)⟩ | omega) (by first | exact ⟨Int.le_trans (by decide) (Int.le_trans (Int.le_refl _) hz4.1), Int.le_trans (Int.le_trans hz4.2 (Int.le_refl _)) (by decide)⟩ | omega) ?_
        intro IhB6 ehB6 hB6
        have t7 := fup_self ehB6
        refine And.intro ⟨rfl, by decide, by decide⟩ ?_
        refine Exists.intro xm_171 (And.intro mi_171 (And.intro ⟨rfl, rfl, rfl, rfl⟩ (And.intro rfl ?_)))
        refine fcallp hB6 (ct_Desk_leftFaults_e8455 (fBz h0 hB6)) ?_
        rintro _ ⟨z8, rfl, hz8, g0z8⟩
        refine Exists.intro xm_499 (And.intro mi_499 (And.intro ⟨rfl, rfl, rfl, rfl⟩ (And.intro True.intro ?_)))
        refine fcallp hB6 (ct_Integer_bitCount_ccf26 (fBz h0 hB6) (by first | exact ⟨hz8.1, hz8.2⟩ | omega)) ?_
        rintro _ ⟨z9, rfl, hz9, g0z9⟩
        refine And.intro (True.intro) ?_
        exact ⟨_, rfl, by omega, (by first | exact Or.inl ⟨by omega, ehB6⟩ | exact Or.inr ⟨by omega, rfl, by omega⟩), (fun _ => lfX_mk (by omega) g0z8 g0z9)⟩
      · intro c10
        refine And.intro (True.intro) ?_
        exact ⟨_, rfl, by omega, (by first | exact Or.inl ⟨by omega, ehB6⟩ | exact Or.inr ⟨by omega, rfl, by omega⟩), (fun q => absurd q (by omega))⟩
abbrev jc_M_ones_0fd6a_4 (x0 : Int) : Nat → fL → List fV → fH → Prop := fun m lv st I => ∃ (y0 : Int) (y1 : Int) (y2 : Int), lv = [(0, .inl y0), (1, .inl y1), (2, .inl y2)] ∧ st = [] ∧ ((((-2147483648) ≤ y0 ∧ y0 ≤ 2147483647) ∧ (0 ≤ y1 ∧ y1 ≤ 12) ∧ (0 ≤ y2 ∧ y2 ≤ 12) ∧ (y0 = x0) ∧ (y1 ≤ y2)) ∧ (y1 = onI y0 y2.toNat)) ∧ m = (1 + 1 * (12 - y2) : Int).toNat
set_option maxRecDepth 8000 in
theorem ct_M_ones_0fd6a {I : fH} {x0 : Int} (h0 : fB bsJ I) (ha0 : ((-2147483648) ≤ x0 ∧ x0 ≤ 2147483647)) : fC ρ base n F xTc vwCl xTys D dA la gJ (fbz bsJ znJ (fKc []) I) xm_450 [.inl x0] I (fun _ r => ∃ z, r = some (.inl z) ∧ (0 ≤ z ∧ z ≤ 12) ∧ (z = onI x0 12)) := by
  have hW : fzs [] (fKc []) := fKc_ok _
  refine f_meth (rb := rbJ) (J := [(4, (jc_M_ones_0fd6a_4 x0))]) 14 400 xG xin_450 x6_450 okJ (fB_self h0) ?_ ?_
  · refine List.forall_mem_cons.mpr ⟨?_, fun q h => absurd h List.not_mem_nil⟩
    · rintro m _ _ I1 hB1 ⟨y0, y1, y2, rfl, rfl, ⟨hb, hx0⟩, hm⟩
      refine And.intro (And.intro (by first | exact fi_ hb.2.2.1.1 hb.2.2.1.2 rfl | omega) (by first | exact ⟨by decide, by decide⟩ | omega)) (And.intro ?_ ?_)
      · intro c1
        refine And.intro (True.intro) ?_
        exact ⟨_, rfl, (by first | exact ⟨hb.2.1.1, hb.2.1.2⟩ | omega), (by have q := hx0; rw [show y0 = x0 by omega, show y2.toNat = 12 by omega] at q; exact q)⟩
      · intro c2
        intro z3 hz3 ez3
        intro z4 hz4 ez4 bz4
        have bz4 := bz4 (by omega)
        have wb := bt_of hz4 ez3 ez4 (by omega)
        intro z5 hz5 ez5 bz5
        have bz5 := bz5 (by omega)
        exact fcutJ (I := I1) (j := (jc_M_ones_0fd6a_4 x0)) (lv' := [(0, .inl _), (1, .inl _), (2, .inl _)]) (And.intro rfl (And.intro rfl (And.intro rfl True.intro))) ⟨_, _, _, rfl, rfl, ⟨by omega, (by refine Eq.trans ?_ (nf_step hx0 (m' := y2 + 1) (by omega) rfl); show _ = y1 + bt y0 y2.toNat; rw [← wb]; omega)⟩, rfl⟩ (by omega)
  · have hB0 := fB_self (zn := znJ) (K := fKc []) h0
    exact fcutJ (I := I) (j := (jc_M_ones_0fd6a_4 x0)) (lv' := [(0, .inl _), (1, .inl _), (2, .inl _)]) (And.intro rfl (And.intro rfl (And.intro rfl True.intro))) ⟨_, _, _, rfl, rfl, ⟨by omega, rfl⟩, rfl⟩ (by omega)
abbrev jc_M_left_2e19e_4 : Nat → fL → List fV → fH → Prop := fun m lv st I => ∃ (y1 : Int) (y2 : Int), lv = [(0, .inr (.inr (some 740))), (1, .inl y1), (2, .inl y2)] ∧ st = [] ∧ ((((-2147483648) ≤ y1 ∧ y1 ≤ 2147483647) ∧ (0 ≤ y2 ∧ y2 ≤ 12)) ∧ (iI y1 = lfF (fun t => I 741 (4500 + t)) (fun t f => I 741 (4400 + 12 * t + f)) y2.toNat)) ∧ m = (10 + 10 * (12 - y2) : Int).toNat
abbrev jc_M_left_2e19e_15 : Nat → fL → List fV → fH → Prop := fun m lv st I => ∃ (y1 : Int) (y2 : Int) (y3 : Int) (y4 : Int), lv = [(0, .inr (.inr (some 740))), (1, .inl y1), (2, .inl y2), (3, .inl y3), (4, .inl y4)] ∧ st = [] ∧ ((((-2147483648) ≤ y1 ∧ y1 ≤ 2147483647) ∧ (0 ≤ y2 ∧ y2 ≤ 11) ∧ (0 ≤ y3 ∧ y3 ≤ 1) ∧ (0 ≤ y4 ∧ y4 ≤ 8)) ∧ (iI y1 = lfF (fun t => I 741 (4500 + t)) (fun t f => I 741 (4400 + 12 * t + f)) y2.toNat) ∧ ((y3 = 1 ∧ agP (fun t => I 741 (4500 + t)) (fun t f => I 741 (4400 + 12 * t + f)) y2.toNat y4.toNat) ∨ (y3 = 0 ∧ ¬ agP (fun t => I 741 (4500 + t)) (fun t f => I 741 (4400 + 12 * t + f)) y2.toNat y4.toNat))) ∧ m = (1 + 10 * (12 - y2) + 1 * (8 - y4) : Int).toNat
set_option maxRecDepth 8000 in
theorem ct_M_left_2e19e {I : fH}  (h0 : fB bsJ I)  : fC ρ base n F xTc vwCl xTys D dA la gJ (fbz bsJ znJ (fKc []) I) xm_449 [.inr (.inr (some 740))] I (fun _ r => ∃ z, r = some (.inl z) ∧ ((-2147483648) ≤ z ∧ z ≤ 2147483647) ∧ (iI z = lfF (fun t => I 741 (4500 + t)) (fun t f => I 741 (4400 + 12 * t + f)) 12)) := by
  have hW : fzs [] (fKc []) := fKc_ok _
  refine f_meth (rb := rbJ) (J := [(4, jc_M_left_2e19e_4), (15, jc_M_left_2e19e_15)]) 131 400 xG xin_449 x6_449 okJ (fB_self h0) ?_ ?_
  · refine List.forall_mem_cons.mpr ⟨?_, List.forall_mem_cons.mpr ⟨?_, fun q h => absurd h List.not_mem_nil⟩⟩
    · rintro m _ _ I1 hB1 ⟨y1, y2, rfl, rfl, ⟨hb, hx0⟩, hm⟩
      have eI : I1 = I := fFr_nil (fFr_of hB1)
      refine And.intro (And.intro (by first | exact fi_ hb.2.1 hb.2.2 rfl | omega) (by first | exact ⟨by decide, by decide⟩ | omega)) (And.intro ?_ ?_)
      · intro c1
        refine And.intro (True.intro) ?_
        exact ⟨_, rfl, (by first | exact ⟨hb.1.1, hb.1.2⟩ | omega), (by have q := hx0; rw [eI, show y2.toNat = 12 by omega] at q; exact q)⟩
      · intro c2
        exact fcutJ (I := I1) (j := jc_M_left_2e19e_15) (lv' := [(0, .inr (.inr (some 740))), (1, .inl _), (2, .inl _), (3, .inl _), (4, .inl _)]) (And.intro rfl (And.intro rfl (And.intro rfl (And.intro rfl (And.intro rfl True.intro))))) ⟨_, _, _, _, rfl, rfl, ⟨by omega, hx0, (Or.inl ⟨by omega, fun t ht => absurd ht (Nat.not_lt_zero _)⟩)⟩, rfl⟩ (by omega)
    · rintro m _ _ I1 hB1 ⟨y1, y2, y3, y4, rfl, rfl, ⟨hb, hx0, hx1⟩, hm⟩
      have eI : I1 = I := fFr_nil (fFr_of hB1)
      refine And.intro (And.intro (by first | exact fi_ hb.2.2.2.1 hb.2.2.2.2 rfl | omega) (by first | exact ⟨by decide, by decide⟩ | omega)) (And.intro ?_ ?_)
      · intro c3
        have w4 : y4.toNat = 8 := by omega
        rw [w4] at hx1
        refine And.intro (by first | exact fi_ hb.2.2.1.1 hb.2.2.1.2 rfl | omega) (And.intro ?_ ?_)
        · intro c4
          intro z5 hz5 ez5
          exact fcutJ (I := I1) (j := jc_M_left_2e19e_4) (lv' := [(0, .inr (.inr (some 740))), (1, .inl _), (2, .inl _)]) (And.intro rfl (And.intro rfl (And.intro rfl True.intro))) ⟨_, _, rfl, rfl, ⟨by omega, (by rcases hx1 with ⟨ga, gb⟩ | ⟨ga, gb⟩ <;> first | exact lf_yes hx0 (by omega) (by omega) gb enil0 ez5 | exact lf_no (lf_or0 hx0 ez5) (by omega) (by omega) gb | (exfalso; omega))⟩, rfl⟩ (by omega)
        · intro c6
          intro z7 hz7 ez7
          intro z8 hz8 ez8
          exact fcutJ (I := I1) (j := jc_M_left_2e19e_4) (lv' := [(0, .inr (.inr (some 740))), (1, .inl _), (2, .inl _)]) (And.intro rfl (And.intro rfl (And.intro rfl True.intro))) ⟨_, _, rfl, rfl, ⟨by omega, (by rcases hx1 with ⟨ga, gb⟩ | ⟨ga, gb⟩ <;> first | exact lf_yes hx0 (by omega) (by omega) gb ez7 ez8 | exact lf_no (lf_or0 hx0 ez8) (by omega) (by omega) gb | (exfalso; omega))⟩, rfl⟩ (by omega)
      · intro c9
        refine And.intro (by first | exact fi_ hb.2.2.1.1 hb.2.2.1.2 rfl | omega) (And.intro ?_ ?_)
        · intro c10
          exact fcutJ (I := I1) (j := jc_M_left_2e19e_15) (lv' := [(0, .inr (.inr (some 740))), (1, .inl _), (2, .inl _), (3, .inl _), (4, .inl _)]) (And.intro rfl (And.intro rfl (And.intro rfl (And.intro rfl (And.intro rfl True.intro))))) ⟨_, _, _, _, rfl, rfl, ⟨by omega, hx0, (by rcases hx1 with ⟨ga, gb⟩ | ⟨ga, gb⟩ <;> first | exact Or.inl ⟨by omega, agP_go gb (by omega) (by omega) (Or.inl (by have w := fld_at qnil0 (4500 + y4.toNat) (by omega); rw [← w]; omega))⟩ | exact Or.inl ⟨by omega, agP_go gb (by omega) (by omega) (Or.inr (by have w := fld_at qnil0 (4500 + y4.toNat) (by omega); have v := fld_at qnil0 (4400 + 12 * y4.toNat + y2.toNat) (by omega); rw [← w, ← v]; omega))⟩ | exact Or.inr ⟨by omega, agP_no (m := y4) (by omega) (by omega) (fun q => q.elim (fun q => by have w := fld_at qnil0 (4500 + y4.toNat) (by omega); rw [← w] at q; omega) (fun q => by have w := fld_at qnil0 (4500 + y4.toNat) (by omega); have v := fld_at qnil0 (4400 + 12 * y4.toNat + y2.toNat) (by omega); rw [← w, ← v] at q; omega))⟩ | exact Or.inr ⟨by omega, fun q => gb (fun t ht => q t (by omega))⟩ | (exfalso; omega))⟩, rfl⟩ (by omega)
        · intro c11
          refine And.intro ⟨rfl, by decide, by decide⟩ ?_
          refine fload rL_741_741_4500_4507_1_0 h0 hB1 (by omega) ?_
          intro z12 lz12 uz12 qz12
          refine And.intro (by first | exact fi_ lz12 uz12 rfl | omega) (And.intro ?_ ?_)
          · intro c13
            exact fcutJ (I := I1) (j := jc_M_left_2e19e_15) (lv' := [(0, .inr (.inr (some 740))), (1, .inl _), (2, .inl _), (3, .inl _), (4, .inl _)]) (And.intro rfl (And.intro rfl (And.intro rfl (And.intro rfl (And.intro rfl True.intro))))) ⟨_, _, _, _, rfl, rfl, ⟨by omega, hx0, (by rcases hx1 with ⟨ga, gb⟩ | ⟨ga, gb⟩ <;> first | exact Or.inl ⟨by omega, agP_go gb (by omega) (by omega) (Or.inl (by have w := fld_at qz12 (4500 + y4.toNat) (by omega); rw [← w]; omega))⟩ | exact Or.inl ⟨by omega, agP_go gb (by omega) (by omega) (Or.inr (by have w := fld_at qnil0 (4500 + y4.toNat) (by omega); have v := fld_at qnil0 (4400 + 12 * y4.toNat + y2.toNat) (by omega); rw [← w, ← v]; omega))⟩ | exact Or.inr ⟨by omega, agP_no (m := y4) (by omega) (by omega) (fun q => q.elim (fun q => by have w := fld_at qz12 (4500 + y4.toNat) (by omega); rw [← w] at q; omega) (fun q => by have w := fld_at qnil0 (4500 + y4.toNat) (by omega); have v := fld_at qnil0 (4400 + 12 * y4.toNat + y2.toNat) (by omega); rw [← w, ← v] at q; omega))⟩ | exact Or.inr ⟨by omega, fun q => gb (fun t ht => q t (by omega))⟩ | (exfalso; omega))⟩, rfl⟩ (by omega)
          · intro c14
            refine And.intro ⟨rfl, by decide, by decide⟩ ?_
            refine fload rL_741_741_4400_4495_12_11 h0 hB1 (by omega) ?_
            intro z15 lz15 uz15 qz15
            refine And.intro ⟨rfl, by decide, by decide⟩ ?_
            refine fload rL_741_741_4500_4507_1_0 h0 hB1 (by omega) ?_
            intro z16 lz16 uz16 qz16
            refine And.intro (And.intro (by first | exact fi_ lz15 uz15 rfl | omega) (by first | exact fi_ lz16 uz16 rfl | omega)) (And.intro ?_ ?_)
            · intro c17
              exact fcutJ (I := I1) (j := jc_M_left_2e19e_15) (lv' := [(0, .inr (.inr (some 740))), (1, .inl _), (2, .inl _), (3, .inl _), (4, .inl _)]) (And.intro rfl (And.intro rfl (And.intro rfl (And.intro rfl (And.intro rfl True.intro))))) ⟨_, _, _, _, rfl, rfl, ⟨by omega, hx0, (by rcases hx1 with ⟨ga, gb⟩ | ⟨ga, gb⟩ <;> first | exact Or.inl ⟨by omega, agP_go gb (by omega) (by omega) (Or.inl (by have w := fld_at qz12 (4500 + y4.toNat) (by omega); rw [← w]; omega))⟩ | exact Or.inl ⟨by omega, agP_go gb (by omega) (by omega) (Or.inr (by have w := fld_at qz16 (4500 + y4.toNat) (by omega); have v := fld_at qz15 (4400 + 12 * y4.toNat + y2.toNat) (by omega); rw [← w, ← v]; omega))⟩ | exact Or.inr ⟨by omega, agP_no (m := y4) (by omega) (by omega) (fun q => q.elim (fun q => by have w := fld_at qz12 (4500 + y4.toNat) (by omega); rw [← w] at q; omega) (fun q => by have w := fld_at qz16 (4500 + y4.toNat) (by omega); have v := fld_at qz15 (4400 + 12 * y4.toNat + y2.toNat) (by omega); rw [← w, ← v] at q; omega))⟩ | exact Or.inr ⟨by omega, fun q => gb (fun t ht => q t (by omega))⟩ | (exfalso; omega))⟩, rfl⟩ (by omega)
            · intro c18
              exact fcutJ (I := I1) (j := jc_M_left_2e19e_15) (lv' := [(0, .inr (.inr (some 740))), (1, .inl _), (2, .inl _), (3, .inl _), (4, .inl _)]) (And.intro rfl (And.intro rfl (And.intro rfl (And.intro rfl (And.intro rfl True.intro))))) ⟨_, _, _, _, rfl, rfl, ⟨by omega, hx0, (by rcases hx1 with ⟨ga, gb⟩ | ⟨ga, gb⟩ <;> first | exact Or.inl ⟨by omega, agP_go gb (by omega) (by omega) (Or.inl (by have w := fld_at qz12 (4500 + y4.toNat) (by omega); rw [← w]; omega))⟩ | exact Or.inl ⟨by omega, agP_go gb (by omega) (by omega) (Or.inr (by have w := fld_at qz16 (4500 + y4.toNat) (by omega); have v := fld_at qz15 (4400 + 12 * y4.toNat + y2.toNat) (by omega); rw [← w, ← v]; omega))⟩ | exact Or.inr ⟨by omega, agP_no (m := y4) (by omega) (by omega) (fun q => q.elim (fun q => by have w := fld_at qz12 (4500 + y4.toNat) (by omega); rw [← w] at q; omega) (fun q => by have w := fld_at qz16 (4500 + y4.toNat) (by omega); have v := fld_at qz15 (4400 + 12 * y4.toNat + y2.toNat) (by omega); rw [← w, ← v] at q; omega))⟩ | exact Or.inr ⟨by omega, fun q => gb (fun t ht => q t (by omega))⟩ | (exfalso; omega))⟩, rfl⟩ (by omega)
  · have hB0 := fB_self (zn := znJ) (K := fKc []) h0
    exact fcutJ (I := I) (j := jc_M_left_2e19e_4) (lv' := [(0, .inr (.inr (some 740))), (1, .inl _), (2, .inl _)]) (And.intro rfl (And.intro rfl (And.intro rfl True.intro))) ⟨_, _, rfl, rfl, ⟨by omega, iI_0⟩, rfl⟩ (by omega)
set_option maxRecDepth 8000 in
theorem ct_M_tested_bcdc3 {I : fH} {x1 : Int} {x2 : Int} (h0 : fB bsJ I) (ha1 : ((-2147483648) ≤ x1 ∧ x1 ≤ 2147483647)) (ha2 : ((-2147483648) ≤ x2 ∧ x2 ≤ 2147483647)) : fC ρ base n F xTc vwCl xTys D dA la gJ (fbz bsJ znJ (fKc wz_1ea73) I) xm_448 [.inr (.inr (some 740)), .inl x1, .inl x2] I (fun I' r => ∃ z, r = some (.inl z) ∧ ((0 ≤ z ∧ z ≤ 12) ∨ z = (-1000000001)) ∧ (((0 ≤ x1 ∧ x1 ≤ 7 ∧ (-1) ≤ x2 ∧ x2 ≤ 3) ∧ I' = fupd I 741 (4500 + x1).toNat x2) ∨ (¬ (0 ≤ x1 ∧ x1 ≤ 7 ∧ (-1) ≤ x2 ∧ x2 ≤ 3) ∧ I' = I ∧ z = (-1000000001))) ∧ (0 ≤ x1 ∧ x1 ≤ 7 ∧ (-1) ≤ x2 ∧ x2 ≤ 3 → lfM (fun t => I' 741 (4500 + t)) (fun t f => I' 741 (4400 + 12 * t + f)) z)) := by
  have hW : fzs wz_1ea73 (fKc wz_1ea73) := fKc_ok _
  refine f_meth (rb := rbJ) (J := []) 1 400 xG xin_448 x6_448 okJ (fB_self h0) ?_ ?_
  · exact fun q h => absurd h List.not_mem_nil
  · have hB0 := fB_self (zn := znJ) (K := fKc wz_1ea73) h0
    refine Exists.intro xm_446 (And.intro mi_446 (And.intro ⟨rfl, rfl, rfl, rfl⟩ (And.intro True.intro ?_)))
    refine fcallp hB0 (ct_M_isTest_9b7ec (fBz h0 hB0) (by first | exact ⟨ha1.1, ha1.2⟩ | omega)) ?_
    rintro _ ⟨z1, rfl, hz1⟩
    refine And.intro (by omega) (And.intro ?_ ?_)
    · intro c2
      refine And.intro (True.intro) ?_
      exact ⟨_, rfl, by omega, (by first | exact Or.inl ⟨by omega, enil0.trans (fupd_ix (by omega))⟩ | exact Or.inr ⟨by omega, rfl, by omega⟩), (fun q => absurd q (by omega))⟩
    · intro c3
      refine And.intro (by first | exact fi_ ha2.1 ha2.2 rfl | omega) ?_
      refine Exists.intro xm_238 (And.intro mi_238 (And.intro ⟨rfl, rfl, rfl, rfl⟩ (And.intro True.intro ?_)))
      refine fcallp hB0 (ct_M_isIn_27230 (fBz h0 hB0) (by first | exact ⟨ha2.1, ha2.2⟩ | omega) (by first | exact ⟨by decide, by decide⟩ | omega) (by first | exact ⟨by decide, by decide⟩ | omega)) ?_
      rintro _ ⟨z4, rfl, hz4⟩
      refine And.intro (by omega) (And.intro ?_ ?_)
      · intro c5
        refine And.intro ⟨rfl, by decide, by decide⟩ ?_
        refine fstore rS_741_741_4500_4507_1_0 (fzs_sub (by decide +kernel) hW) (by omega) (by first | exact ⟨Int.le_trans (by decide) (Int.le_trans (Int.le_refl _) hz4.1), Int.le_trans (Int.le_trans hz4.2 (Int.le_refl _)) (by decide)⟩ | omega) ?_
        intro IhB6 ehB6 hB6
        have t7 := fup_self ehB6
        refine Exists.intro xm_449 (And.intro mi_449 (And.intro ⟨rfl, rfl, rfl, rfl⟩ (And.intro rfl ?_)))
        refine fcallp hB6 (ct_M_left_2e19e (fBz h0 hB6)) ?_
        rintro _ ⟨z8, rfl, hz8, g0z8⟩
        refine Exists.intro xm_450 (And.intro mi_450 (And.intro ⟨rfl, rfl, rfl, rfl⟩ (And.intro True.intro ?_)))
        refine fcallp hB6 (ct_M_ones_0fd6a (fBz h0 hB6) (by first | exact ⟨hz8.1, hz8.2⟩ | omega)) ?_
        rintro _ ⟨z9, rfl, hz9, g0z9⟩
        refine And.intro (True.intro) ?_
        exact ⟨_, rfl, by omega, (by first | exact Or.inl ⟨by omega, ehB6.trans (fupd_ix (by omega))⟩ | exact Or.inr ⟨by omega, rfl, by omega⟩), (fun _ => lfM_mk (by omega) g0z8 g0z9)⟩
      · intro c10
        refine And.intro (True.intro) ?_
        exact ⟨_, rfl, by omega, (by first | exact Or.inl ⟨by omega, ehB6.trans (fupd_ix (by omega))⟩ | exact Or.inr ⟨by omega, rfl, by omega⟩), (fun q => absurd q (by omega))⟩
abbrev jc_Desk_mostAlike_488ee_5 (x1 : Int) (x2 : Int) : Nat → fL → List fV → fH → Prop := fun m lv st I => ∃ (y1 : Int) (y2 : Int) (y3 : Int) (y4 : Int), lv = [(0, .inr (.inr (some 211))), (1, .inl y1), (2, .inl y2), (3, .inl y3), (4, .inl y4)] ∧ st = [] ∧ (((0 ≤ y1 ∧ y1 ≤ 7) ∧ ((-2147483648) ≤ y2 ∧ y2 ≤ 2147483647) ∧ (0 ≤ y3 ∧ y3 ≤ 12) ∧ (0 ≤ y4 ∧ y4 ≤ 4) ∧ (y1 = x1) ∧ (y2 = x2)) ∧ (y3 = alF (I (213 + y1.toNat)) y2 y4.toNat)) ∧ m = (14 + 14 * (4 - y4) : Int).toNat
abbrev jc_Desk_mostAlike_488ee_17 (x1 : Int) (x2 : Int) : Nat → fL → List fV → fH → Prop := fun m lv st I => ∃ (y1 : Int) (y2 : Int) (y3 : Int) (y4 : Int) (y5 : Int) (y6 : Int), lv = [(0, .inr (.inr (some 211))), (1, .inl y1), (2, .inl y2), (3, .inl y3), (4, .inl y4), (5, .inl y5), (6, .inl y6)] ∧ st = [] ∧ (((0 ≤ y1 ∧ y1 ≤ 7) ∧ ((-2147483648) ≤ y2 ∧ y2 ≤ 2147483647) ∧ (0 ≤ y3 ∧ y3 ≤ 12) ∧ (0 ≤ y4 ∧ y4 ≤ 3) ∧ (0 ≤ y5 ∧ y5 ≤ 12) ∧ (0 ≤ y6 ∧ y6 ≤ 12) ∧ (y1 = x1) ∧ (y2 = x2) ∧ (y5 ≤ y6)) ∧ (y3 = alF (I (213 + y1.toNat)) y2 y4.toNat) ∧ (y5 = cnF (I (213 + y1.toNat)) y2 y4 y6.toNat)) ∧ m = (1 + 14 * (4 - y4) + 1 * (12 - y6) : Int).toNat
set_option maxRecDepth 8000 in
theorem ct_Desk_mostAlike_488ee {I : fH} {x1 : Int} {x2 : Int} (h0 : fB bsJ I) (ha1 : (0 ≤ x1 ∧ x1 ≤ 7)) (ha2 : ((-2147483648) ≤ x2 ∧ x2 ≤ 2147483647)) : fC ρ base n F xTc vwCl xTys D dA la gJ (fbz bsJ znJ (fKc []) I) xm_175 [.inr (.inr (some 211)), .inl x1, .inl x2] I (fun _ r => ∃ z, r = some (.inl z) ∧ (0 ≤ z ∧ z ≤ 12) ∧ (z = alF (I (213 + x1.toNat)) x2 4)) := by
  have hW : fzs [] (fKc []) := fKc_ok _
  refine f_meth (rb := rbJ) (J := [(5, (jc_Desk_mostAlike_488ee_5 x1 x2)), (17, (jc_Desk_mostAlike_488ee_17 x1 x2))]) 71 400 xG xin_175 x6_175 okJ (fB_self h0) ?_ ?_
  · refine List.forall_mem_cons.mpr ⟨?_, List.forall_mem_cons.mpr ⟨?_, fun q h => absurd h List.not_mem_nil⟩⟩
    · rintro m _ _ I1 hB1 ⟨y1, y2, y3, y4, rfl, rfl, ⟨hb, hx0⟩, hm⟩
      have eI : I1 = I := fFr_nil (fFr_of hB1)
      refine And.intro (And.intro (by first | exact fi_ hb.2.2.2.1.1 hb.2.2.2.1.2 rfl | omega) (by first | exact ⟨by decide, by decide⟩ | omega)) (And.intro ?_ ?_)
      · intro c1
        refine And.intro (True.intro) ?_
        exact ⟨_, rfl, (by first | exact ⟨hb.2.2.1.1, hb.2.2.1.2⟩ | omega), (by have q := hx0; rw [eI, show y1 = x1 by omega, show y2 = x2 by omega, show y4.toNat = 4 by omega] at q; exact q)⟩
      · intro c2
        exact fcutJ (I := I1) (j := (jc_Desk_mostAlike_488ee_17 x1 x2)) (lv' := [(0, .inr (.inr (some 211))), (1, .inl _), (2, .inl _), (3, .inl _), (4, .inl _), (5, .inl _), (6, .inl _)]) (And.intro rfl (And.intro rfl (And.intro rfl (And.intro rfl (And.intro rfl (And.intro rfl (And.intro rfl True.intro))))))) ⟨_, _, _, _, _, _, rfl, rfl, ⟨by omega, hx0, rfl⟩, rfl⟩ (by omega)
    · rintro m _ _ I1 hB1 ⟨y1, y2, y3, y4, y5, y6, rfl, rfl, ⟨hb, hx0, hx1⟩, hm⟩
      have eI : I1 = I := fFr_nil (fFr_of hB1)
      refine And.intro (And.intro (by first | exact fi_ hb.2.2.2.2.2.1.1 hb.2.2.2.2.2.1.2 rfl | omega) (by first | exact ⟨by decide, by decide⟩ | omega)) (And.intro ?_ ?_)
      · intro c3
        refine And.intro (And.intro (by first | exact fi_ hb.2.2.1.1 hb.2.2.1.2 rfl | omega) (And.intro (by first | exact fi_ hb.2.2.2.2.1.1 hb.2.2.2.2.1.2 rfl | omega) rfl)) ?_
        intro z4 hz4
        exact fcutJ (I := I1) (j := (jc_Desk_mostAlike_488ee_5 x1 x2)) (lv' := [(0, .inr (.inr (some 211))), (1, .inl _), (2, .inl _), (3, .inl _), (4, .inl _)]) (And.intro rfl (And.intro rfl (And.intro rfl (And.intro rfl (And.intro rfl True.intro))))) ⟨_, _, _, _, rfl, rfl, ⟨by omega, (al_go (c := y5) hx0 (by omega) (by omega) (by have q := hx1; rw [show y6.toNat = 12 by omega] at q; exact q) (by omega))⟩, rfl⟩ (by omega)
      · intro c5
        intro z6 hz6 ez6
        intro z7 hz7 ez7 bz7
        have bz7 := bz7 (by omega)
        have wb := bt_of hz7 ez6 ez7 (by omega)
        refine And.intro (And.intro (by first | exact fi_ bz7.1 bz7.2 rfl | omega) (by first | exact ⟨by decide, by decide⟩ | omega)) (And.intro ?_ ?_)
        · intro c8
          exact fcutJ (I := I1) (j := (jc_Desk_mostAlike_488ee_17 x1 x2)) (lv' := [(0, .inr (.inr (some 211))), (1, .inl _), (2, .inl _), (3, .inl _), (4, .inl _), (5, .inl _), (6, .inl _)]) (And.intro rfl (And.intro rfl (And.intro rfl (And.intro rfl (And.intro rfl (And.intro rfl (And.intro rfl True.intro))))))) ⟨_, _, _, _, _, _, rfl, rfl, ⟨by omega, hx0, (by first | exact cn_yes hx1 (by omega) (by omega) ⟨by omega, by rw [← qnil0]; omega⟩ (by omega) | exact cn_no hx1 (by omega) (by omega) (fun q => by have q1 := q.1; omega) | exact cn_no hx1 (by omega) (by omega) (fun q => by have q2 := q.2; rw [← qnil0] at q2; omega))⟩, rfl⟩ (by omega)
        · intro c9
          refine And.intro ⟨rfl, by decide, by decide⟩ ?_
          refine And.intro ⟨rfl, by decide⟩ (And.intro (by first | exact ⟨hb.1.1, Int.lt_of_le_of_lt hb.1.2 (by decide)⟩ | omega) ?_)
          refine fload rL_213_220_0_11_1_0 h0 hB1 (by omega) ?_
          intro z10 lz10 uz10 qz10
          refine And.intro (And.intro (by first | exact fi_ lz10 uz10 rfl | omega) (by first | exact fi_ hb.2.2.2.1.1 hb.2.2.2.1.2 rfl | omega)) (And.intro ?_ ?_)
          · intro c11
            exact fcutJ (I := I1) (j := (jc_Desk_mostAlike_488ee_17 x1 x2)) (lv' := [(0, .inr (.inr (some 211))), (1, .inl _), (2, .inl _), (3, .inl _), (4, .inl _), (5, .inl _), (6, .inl _)]) (And.intro rfl (And.intro rfl (And.intro rfl (And.intro rfl (And.intro rfl (And.intro rfl (And.intro rfl True.intro))))))) ⟨_, _, _, _, _, _, rfl, rfl, ⟨by omega, hx0, (by first | exact cn_yes hx1 (by omega) (by omega) ⟨by omega, by rw [← qz10]; omega⟩ (by omega) | exact cn_no hx1 (by omega) (by omega) (fun q => by have q1 := q.1; omega) | exact cn_no hx1 (by omega) (by omega) (fun q => by have q2 := q.2; rw [← qz10] at q2; omega))⟩, rfl⟩ (by omega)
          · intro c12
            intro z13 hz13 bz13
            have bz13 := bz13 (by omega)
            exact fcutJ (I := I1) (j := (jc_Desk_mostAlike_488ee_17 x1 x2)) (lv' := [(0, .inr (.inr (some 211))), (1, .inl _), (2, .inl _), (3, .inl _), (4, .inl _), (5, .inl _), (6, .inl _)]) (And.intro rfl (And.intro rfl (And.intro rfl (And.intro rfl (And.intro rfl (And.intro rfl (And.intro rfl True.intro))))))) ⟨_, _, _, _, _, _, rfl, rfl, ⟨by omega, hx0, (by first | exact cn_yes hx1 (by omega) (by omega) ⟨by omega, by rw [← qz10]; omega⟩ (by omega) | exact cn_no hx1 (by omega) (by omega) (fun q => by have q1 := q.1; omega) | exact cn_no hx1 (by omega) (by omega) (fun q => by have q2 := q.2; rw [← qz10] at q2; omega))⟩, rfl⟩ (by omega)
  · have hB0 := fB_self (zn := znJ) (K := fKc []) h0
    exact fcutJ (I := I) (j := (jc_Desk_mostAlike_488ee_5 x1 x2)) (lv' := [(0, .inr (.inr (some 211))), (1, .inl _), (2, .inl _), (3, .inl _), (4, .inl _)]) (And.intro rfl (And.intro rfl (And.intro rfl (And.intro rfl (And.intro rfl True.intro))))) ⟨_, _, _, _, rfl, rfl, ⟨by omega, rfl⟩, rfl⟩ (by omega)
abbrev jc_Desk_nextTest_2c9a4_16 : Nat → fL → List fV → fH → Prop := fun m lv st I => ∃ (y1 : Int) (y2 : Int) (y3 : Int) (y4 : Int), lv = [(0, .inr (.inr (some 211))), (1, .inl y1), (2, .inl y2), (3, .inl y3), (4, .inl y4)] ∧ st = [] ∧ ((((-2147483648) ≤ y1 ∧ y1 ≤ 2147483647) ∧ ((0 ≤ y2 ∧ y2 ≤ 7) ∨ y2 = (-1000000005)) ∧ (0 ≤ y3 ∧ y3 ≤ 63) ∧ (0 ≤ y4 ∧ y4 ≤ 8)) ∧ (iI y1 = lfF (I 221) (fun t => I (213 + t)) 12) ∧ ((y2, y3) = nf (ntF (I 221) (fun t => alF (I (213 + t)) y1 4)) (-1000000005, (bc32 (iI y1)).toInt) y4.toNat)) ∧ m = (1 + 1 * (8 - y4) : Int).toNat
set_option maxRecDepth 8000 in
theorem ct_Desk_nextTest_2c9a4 {I : fH}  (h0 : fB bsJ I)  : fC ρ base n F xTc vwCl xTys D dA la gJ (fbz bsJ znJ (fKc []) I) xm_174 [.inr (.inr (some 211))] I (fun _ r => ∃ z, r = some (.inl z) ∧ ((0 ≤ z ∧ z ≤ 7) ∨ z = (-1000000005)) ∧ (ntX (I 221) (fun t => I (213 + t)) z)) := by
  have hW : fzs [] (fKc []) := fKc_ok _
  refine f_meth (rb := rbJ) (J := [(16, jc_Desk_nextTest_2c9a4_16)]) 10 400 xG xin_174 x6_174 okJ (fB_self h0) ?_ ?_
  · refine List.forall_mem_cons.mpr ⟨?_, fun q h => absurd h List.not_mem_nil⟩
    · rintro m _ _ I1 hB1 ⟨y1, y2, y3, y4, rfl, rfl, ⟨hb, hx0, hx1⟩, hm⟩
      have eI : I1 = I := fFr_nil (fFr_of hB1)
      refine And.intro (And.intro (by first | exact fi_ hb.2.2.2.1 hb.2.2.2.2 rfl | omega) (by first | exact ⟨by decide, by decide⟩ | omega)) (And.intro ?_ ?_)
      · intro c1
        refine And.intro (True.intro) ?_
        exact ⟨_, rfl, by omega, (by have q := congrArg Prod.fst hx1; rw [eI, show y4.toNat = 8 by omega] at q; rw [eI] at hx0; exact ntX_mk (s := y1) (by omega) hx0 q)⟩
      · intro c2
        refine And.intro ⟨rfl, by decide, by decide⟩ ?_
        refine fload1 rL_221_221_0_7_1_0 h0 hB1 ⟨by decide, by decide⟩ (by first | exact ⟨hb.2.2.2.1, Int.le_trans (Int.le_sub_one_of_lt (Int.lt_of_lt_of_le c2 (Int.le_refl _))) (by decide)⟩ | omega) ?_
        intro z3 lz3 uz3 qz3
        refine And.intro (And.intro (by first | exact fi_ lz3 uz3 rfl | omega) (by first | exact ⟨by decide, by decide⟩ | omega)) (And.intro ?_ ?_)
        · intro c4
          refine And.intro (And.intro (by first | exact fi_ hb.2.2.1.1 hb.2.2.1.2 rfl | omega) (by first | exact fi_ hb.2.2.1.1 hb.2.2.1.2 rfl | omega)) (And.intro ?_ ?_)
          · intro c5
            exact fcutJ (I := I1) (j := jc_Desk_nextTest_2c9a4_16) (lv' := [(0, .inr (.inr (some 211))), (1, .inl _), (2, .inl _), (3, .inl _), (4, .inl _)]) (And.intro rfl (And.intro rfl (And.intro rfl (And.intro rfl (And.intro rfl True.intro))))) ⟨_, _, _, _, rfl, rfl, ⟨by omega, hx0, (by first | exact nt_yes hx1 (by omega) (by omega) g0nil0 ⟨by rw [← qz3]; omega, by omega⟩ | exact nt_no hx1 (by omega) (by omega) (fun q => by have q1 := q.1; rw [← qz3] at q1; omega) | exact nt_no hx1 (by omega) (by omega) (fun q => by have q2 := q.2; try simp only [] at q2; rw [← g0nil0] at q2; omega) | (exfalso; omega))⟩, rfl⟩ (by omega)
          · intro c6
            exact fcutJ (I := I1) (j := jc_Desk_nextTest_2c9a4_16) (lv' := [(0, .inr (.inr (some 211))), (1, .inl _), (2, .inl _), (3, .inl _), (4, .inl _)]) (And.intro rfl (And.intro rfl (And.intro rfl (And.intro rfl (And.intro rfl True.intro))))) ⟨_, _, _, _, rfl, rfl, ⟨by omega, hx0, (by first | exact nt_yes hx1 (by omega) (by omega) g0nil0 ⟨by rw [← qz3]; omega, by omega⟩ | exact nt_no hx1 (by omega) (by omega) (fun q => by have q1 := q.1; rw [← qz3] at q1; omega) | exact nt_no hx1 (by omega) (by omega) (fun q => by have q2 := q.2; try simp only [] at q2; rw [← g0nil0] at q2; omega) | (exfalso; omega))⟩, rfl⟩ (by omega)
        · intro c7
          refine Exists.intro xm_175 (And.intro mi_175 (And.intro ⟨rfl, rfl, rfl, rfl⟩ (And.intro rfl ?_)))
          refine fcallp hB1 (ct_Desk_mostAlike_488ee (fBz h0 hB1) (by first | exact ⟨hb.2.2.2.1, Int.le_trans (Int.le_sub_one_of_lt (Int.lt_of_lt_of_le c2 (Int.le_refl _))) (by decide)⟩ | omega) (by first | exact ⟨hb.1.1, hb.1.2⟩ | omega)) ?_
          rintro _ ⟨z8, rfl, hz8, g0z8⟩
          refine And.intro (And.intro (by first | exact fi_ hz8.1 hz8.2 rfl | omega) (by first | exact fi_ hb.2.2.1.1 hb.2.2.1.2 rfl | omega)) (And.intro ?_ ?_)
          · intro c9
            exact fcutJ (I := I1) (j := jc_Desk_nextTest_2c9a4_16) (lv' := [(0, .inr (.inr (some 211))), (1, .inl _), (2, .inl _), (3, .inl _), (4, .inl _)]) (And.intro rfl (And.intro rfl (And.intro rfl (And.intro rfl (And.intro rfl True.intro))))) ⟨_, _, _, _, rfl, rfl, ⟨by omega, hx0, (by first | exact nt_yes hx1 (by omega) (by omega) g0z8 ⟨by rw [← qz3]; omega, by omega⟩ | exact nt_no hx1 (by omega) (by omega) (fun q => by have q1 := q.1; rw [← qz3] at q1; omega) | exact nt_no hx1 (by omega) (by omega) (fun q => by have q2 := q.2; try simp only [] at q2; rw [← g0z8] at q2; omega) | (exfalso; omega))⟩, rfl⟩ (by omega)
          · intro c10
            exact fcutJ (I := I1) (j := jc_Desk_nextTest_2c9a4_16) (lv' := [(0, .inr (.inr (some 211))), (1, .inl _), (2, .inl _), (3, .inl _), (4, .inl _)]) (And.intro rfl (And.intro rfl (And.intro rfl (And.intro rfl (And.intro rfl True.intro))))) ⟨_, _, _, _, rfl, rfl, ⟨by omega, hx0, (by first | exact nt_yes hx1 (by omega) (by omega) g0z8 ⟨by rw [← qz3]; omega, by omega⟩ | exact nt_no hx1 (by omega) (by omega) (fun q => by have q1 := q.1; rw [← qz3] at q1; omega) | exact nt_no hx1 (by omega) (by omega) (fun q => by have q2 := q.2; try simp only [] at q2; rw [← g0z8] at q2; omega) | (exfalso; omega))⟩, rfl⟩ (by omega)
  · have hB0 := fB_self (zn := znJ) (K := fKc []) h0
    refine Exists.intro xm_171 (And.intro mi_171 (And.intro ⟨rfl, rfl, rfl, rfl⟩ (And.intro rfl ?_)))
    refine fcallp hB0 (ct_Desk_leftFaults_e8455 (fBz h0 hB0)) ?_
    rintro _ ⟨z11, rfl, hz11, g0z11⟩
    refine Exists.intro xm_499 (And.intro mi_499 (And.intro ⟨rfl, rfl, rfl, rfl⟩ (And.intro True.intro ?_)))
    refine fcallp hB0 (ct_Integer_bitCount_ccf26 (fBz h0 hB0) (by first | exact ⟨hz11.1, hz11.2⟩ | omega)) ?_
    rintro _ ⟨z12, rfl, hz12, g0z12⟩
    exact fcutJ (I := I) (j := jc_Desk_nextTest_2c9a4_16) (lv' := [(0, .inr (.inr (some 211))), (1, .inl _), (2, .inl _), (3, .inl _), (4, .inl _)]) (And.intro rfl (And.intro rfl (And.intro rfl (And.intro rfl (And.intro rfl True.intro))))) ⟨_, _, _, _, rfl, rfl, ⟨by omega, g0z11, (by rw [← of_iI (by omega) g0z12]; rfl)⟩, rfl⟩ (by omega)
set_option maxRecDepth 8000 in
theorem ct_X_find_eec3a {I : fH} {x1 : Int} (h0 : fB bsJ I) (ha1 : ((-2147483648) ≤ x1 ∧ x1 ≤ 2147483647)) : fC ρ base n F xTc vwCl xTys D dA la gJ (fbz bsJ znJ (fKc []) I) xm_173 [.inr (.inr (some 0)), .inl x1] I (fun _ r => ∃ z, r = some (.inl z) ∧ ((-2147483648) ≤ z ∧ z ≤ 2147483647) ∧ ((x1 = 0 ∧ iI z = lfF (I 221) (fun t => I (213 + t)) 12) ∨ (x1 = 1 ∧ ntX (I 221) (fun t => I (213 + t)) z) ∨ (¬ (0 ≤ x1 ∧ x1 ≤ 1) ∧ z = (-1000000001)))) := by
  have hW : fzs [] (fKc []) := fKc_ok _
  refine f_meth (rb := rbJ) (J := []) 1 400 xG xin_173 x6_173 okJ (fB_self h0) ?_ ?_
  · exact fun q h => absurd h List.not_mem_nil
  · have hB0 := fB_self (zn := znJ) (K := fKc []) h0
    refine Exists.intro xm_13 (And.intro mi_13 (And.intro ⟨rfl, rfl, rfl, rfl⟩ (And.intro True.intro ?_)))
    refine fcallp hB0 (ct_X_within_c27b1 (fBz h0 hB0) (by first | exact ⟨ha1.1, ha1.2⟩ | omega) (by first | exact ⟨by decide, by decide⟩ | omega) (by first | exact ⟨by decide, by decide⟩ | omega)) ?_
    rintro _ ⟨z1, rfl, hz1⟩
    refine And.intro (by omega) (And.intro ?_ ?_)
    · intro c2
      refine And.intro (by first | exact fi_ (Int.le_trans (Int.le_refl _) hz1.1) (Int.le_trans hz1.2 (Int.le_refl _)) rfl | omega) (And.intro ?_ ?_)
      · intro c3
        refine And.intro ⟨rfl, by decide, by decide⟩ ?_
        refine Exists.intro xm_174 (And.intro mi_174 (And.intro ⟨rfl, rfl, rfl, rfl⟩ (And.intro rfl ?_)))
        refine fcallp hB0 (ct_Desk_nextTest_2c9a4 (fBz h0 hB0)) ?_
        rintro _ ⟨z4, rfl, hz4, g0z4⟩
        refine And.intro (True.intro) ?_
        exact ⟨_, rfl, by omega, (by first | exact Or.inl ⟨by omega, g0nil0⟩ | exact Or.inr (Or.inl ⟨by omega, g0z4⟩) | exact Or.inr (Or.inr ⟨by omega, by omega⟩))⟩
      · intro c5
        refine And.intro ⟨rfl, by decide, by decide⟩ ?_
        refine Exists.intro xm_171 (And.intro mi_171 (And.intro ⟨rfl, rfl, rfl, rfl⟩ (And.intro rfl ?_)))
        refine fcallp hB0 (ct_Desk_leftFaults_e8455 (fBz h0 hB0)) ?_
        rintro _ ⟨z6, rfl, hz6, g0z6⟩
        refine And.intro (True.intro) ?_
        exact ⟨_, rfl, (by first | exact ⟨hz6.1, hz6.2⟩ | omega), (by first | exact Or.inl ⟨by omega, g0z6⟩ | exact Or.inr (Or.inl ⟨by omega, g0z4⟩) | exact Or.inr (Or.inr ⟨by omega, by omega⟩))⟩
    · intro c7
      refine And.intro (True.intro) ?_
      exact ⟨_, rfl, (by first | exact ⟨by decide, by decide⟩ | omega), (by first | exact Or.inl ⟨by omega, g0z6⟩ | exact Or.inr (Or.inl ⟨by omega, g0z4⟩) | exact Or.inr (Or.inr ⟨by omega, by omega⟩))⟩
abbrev jc_M_alike_aaf39_5 (x1 : Int) (x2 : Int) : Nat → fL → List fV → fH → Prop := fun m lv st I => ∃ (y1 : Int) (y2 : Int) (y3 : Int) (y4 : Int), lv = [(0, .inr (.inr (some 740))), (1, .inl y1), (2, .inl y2), (3, .inl y3), (4, .inl y4)] ∧ st = [] ∧ (((0 ≤ y1 ∧ y1 ≤ 7) ∧ ((-2147483648) ≤ y2 ∧ y2 ≤ 2147483647) ∧ (0 ≤ y3 ∧ y3 ≤ 12) ∧ (0 ≤ y4 ∧ y4 ≤ 4) ∧ (y1 = x1) ∧ (y2 = x2)) ∧ (y3 = alF (fun f => I 741 (4400 + 12 * y1.toNat + f)) y2 y4.toNat)) ∧ m = (14 + 14 * (4 - y4) : Int).toNat
abbrev jc_M_alike_aaf39_17 (x1 : Int) (x2 : Int) : Nat → fL → List fV → fH → Prop := fun m lv st I => ∃ (y1 : Int) (y2 : Int) (y3 : Int) (y4 : Int) (y5 : Int) (y6 : Int), lv = [(0, .inr (.inr (some 740))), (1, .inl y1), (2, .inl y2), (3, .inl y3), (4, .inl y4), (5, .inl y5), (6, .inl y6)] ∧ st = [] ∧ (((0 ≤ y1 ∧ y1 ≤ 7) ∧ ((-2147483648) ≤ y2 ∧ y2 ≤ 2147483647) ∧ (0 ≤ y3 ∧ y3 ≤ 12) ∧ (0 ≤ y4 ∧ y4 ≤ 3) ∧ (0 ≤ y5 ∧ y5 ≤ 12) ∧ (0 ≤ y6 ∧ y6 ≤ 12) ∧ (y1 = x1) ∧ (y2 = x2) ∧ (y5 ≤ y6)) ∧ (y3 = alF (fun f => I 741 (4400 + 12 * y1.toNat + f)) y2 y4.toNat) ∧ (y5 = cnF (fun f => I 741 (4400 + 12 * y1.toNat + f)) y2 y4 y6.toNat)) ∧ m = (1 + 14 * (4 - y4) + 1 * (12 - y6) : Int).toNat
set_option maxRecDepth 8000 in
theorem ct_M_alike_aaf39 {I : fH} {x1 : Int} {x2 : Int} (h0 : fB bsJ I) (ha1 : (0 ≤ x1 ∧ x1 ≤ 7)) (ha2 : ((-2147483648) ≤ x2 ∧ x2 ≤ 2147483647)) : fC ρ base n F xTc vwCl xTys D dA la gJ (fbz bsJ znJ (fKc []) I) xm_452 [.inr (.inr (some 740)), .inl x1, .inl x2] I (fun _ r => ∃ z, r = some (.inl z) ∧ (0 ≤ z ∧ z ≤ 12) ∧ (z = alF (fun f => I 741 (4400 + 12 * x1.toNat + f)) x2 4)) := by
  have hW : fzs [] (fKc []) := fKc_ok _
  refine f_meth (rb := rbJ) (J := [(5, (jc_M_alike_aaf39_5 x1 x2)), (17, (jc_M_alike_aaf39_17 x1 x2))]) 71 400 xG xin_452 x6_452 okJ (fB_self h0) ?_ ?_
  · refine List.forall_mem_cons.mpr ⟨?_, List.forall_mem_cons.mpr ⟨?_, fun q h => absurd h List.not_mem_nil⟩⟩
    · rintro m _ _ I1 hB1 ⟨y1, y2, y3, y4, rfl, rfl, ⟨hb, hx0⟩, hm⟩
      have eI : I1 = I := fFr_nil (fFr_of hB1)
      refine And.intro (And.intro (by first | exact fi_ hb.2.2.2.1.1 hb.2.2.2.1.2 rfl | omega) (by first | exact ⟨by decide, by decide⟩ | omega)) (And.intro ?_ ?_)
      · intro c1
        refine And.intro (True.intro) ?_
        exact ⟨_, rfl, (by first | exact ⟨hb.2.2.1.1, hb.2.2.1.2⟩ | omega), (by have q := hx0; rw [eI, show y1 = x1 by omega, show y2 = x2 by omega, show y4.toNat = 4 by omega] at q; exact q)⟩
      · intro c2
        exact fcutJ (I := I1) (j := (jc_M_alike_aaf39_17 x1 x2)) (lv' := [(0, .inr (.inr (some 740))), (1, .inl _), (2, .inl _), (3, .inl _), (4, .inl _), (5, .inl _), (6, .inl _)]) (And.intro rfl (And.intro rfl (And.intro rfl (And.intro rfl (And.intro rfl (And.intro rfl (And.intro rfl True.intro))))))) ⟨_, _, _, _, _, _, rfl, rfl, ⟨by omega, hx0, rfl⟩, rfl⟩ (by omega)
    · rintro m _ _ I1 hB1 ⟨y1, y2, y3, y4, y5, y6, rfl, rfl, ⟨hb, hx0, hx1⟩, hm⟩
      have eI : I1 = I := fFr_nil (fFr_of hB1)
      refine And.intro (And.intro (by first | exact fi_ hb.2.2.2.2.2.1.1 hb.2.2.2.2.2.1.2 rfl | omega) (by first | exact ⟨by decide, by decide⟩ | omega)) (And.intro ?_ ?_)
      · intro c3
        refine And.intro (And.intro (by first | exact fi_ hb.2.2.2.2.1.1 hb.2.2.2.2.1.2 rfl | omega) (by first | exact fi_ hb.2.2.1.1 hb.2.2.1.2 rfl | omega)) (And.intro ?_ ?_)
        · intro c4
          exact fcutJ (I := I1) (j := (jc_M_alike_aaf39_5 x1 x2)) (lv' := [(0, .inr (.inr (some 740))), (1, .inl _), (2, .inl _), (3, .inl _), (4, .inl _)]) (And.intro rfl (And.intro rfl (And.intro rfl (And.intro rfl (And.intro rfl True.intro))))) ⟨_, _, _, _, rfl, rfl, ⟨by omega, (al_go (c := y5) hx0 (by omega) (by omega) (by have q := hx1; rw [show y6.toNat = 12 by omega] at q; exact q) (by omega))⟩, rfl⟩ (by omega)
        · intro c5
          exact fcutJ (I := I1) (j := (jc_M_alike_aaf39_5 x1 x2)) (lv' := [(0, .inr (.inr (some 740))), (1, .inl _), (2, .inl _), (3, .inl _), (4, .inl _)]) (And.intro rfl (And.intro rfl (And.intro rfl (And.intro rfl (And.intro rfl True.intro))))) ⟨_, _, _, _, rfl, rfl, ⟨by omega, (al_go (c := y5) hx0 (by omega) (by omega) (by have q := hx1; rw [show y6.toNat = 12 by omega] at q; exact q) (by omega))⟩, rfl⟩ (by omega)
      · intro c6
        intro z7 hz7 ez7
        intro z8 hz8 ez8 bz8
        have bz8 := bz8 (by omega)
        have wb := bt_of hz8 ez7 ez8 (by omega)
        refine And.intro (And.intro (by first | exact fi_ bz8.1 bz8.2 rfl | omega) (by first | exact ⟨by decide, by decide⟩ | omega)) (And.intro ?_ ?_)
        · intro c9
          intro z10 hz10 ez10 bz10
          have bz10 := bz10 (by omega)
          exact fcutJ (I := I1) (j := (jc_M_alike_aaf39_17 x1 x2)) (lv' := [(0, .inr (.inr (some 740))), (1, .inl _), (2, .inl _), (3, .inl _), (4, .inl _), (5, .inl _), (6, .inl _)]) (And.intro rfl (And.intro rfl (And.intro rfl (And.intro rfl (And.intro rfl (And.intro rfl (And.intro rfl True.intro))))))) ⟨_, _, _, _, _, _, rfl, rfl, ⟨by omega, hx0, (by first | exact cn_yes hx1 (by omega) (by omega) ⟨by omega, by rw [← w51]; omega⟩ (by omega) | (rw [show z10 = y5 by omega]; exact cn_no hx1 (by omega) (by omega) (fun q => by have q1 := q.1; omega)) | (rw [show z10 = y5 by omega]; exact cn_no hx1 (by omega) (by omega) (fun q => by have q2 := q.2; rw [← w51] at q2; omega)))⟩, rfl⟩ (by omega)
        · intro c11
          refine And.intro ⟨rfl, by decide, by decide⟩ ?_
          refine fload rL_741_741_4400_4495_12_11 h0 hB1 (by omega) ?_
          intro z12 lz12 uz12 qz12
          have w51 := fld_at qz12 (4400 + 12 * y1.toNat + y6.toNat) (by omega)
          refine And.intro (And.intro (by first | exact fi_ lz12 uz12 rfl | omega) (by first | exact fi_ hb.2.2.2.1.1 hb.2.2.2.1.2 rfl | omega)) (And.intro ?_ ?_)
          · intro c13
            intro z14 hz14 ez14 bz14
            have bz14 := bz14 (by omega)
            exact fcutJ (I := I1) (j := (jc_M_alike_aaf39_17 x1 x2)) (lv' := [(0, .inr (.inr (some 740))), (1, .inl _), (2, .inl _), (3, .inl _), (4, .inl _), (5, .inl _), (6, .inl _)]) (And.intro rfl (And.intro rfl (And.intro rfl (And.intro rfl (And.intro rfl (And.intro rfl (And.intro rfl True.intro))))))) ⟨_, _, _, _, _, _, rfl, rfl, ⟨by omega, hx0, (by first | exact cn_yes hx1 (by omega) (by omega) ⟨by omega, by rw [← w51]; omega⟩ (by omega) | (rw [show z14 = y5 by omega]; exact cn_no hx1 (by omega) (by omega) (fun q => by have q1 := q.1; omega)) | (rw [show z14 = y5 by omega]; exact cn_no hx1 (by omega) (by omega) (fun q => by have q2 := q.2; rw [← w51] at q2; omega)))⟩, rfl⟩ (by omega)
          · intro c15
            intro z16 hz16 ez16 bz16
            have bz16 := bz16 (by omega)
            exact fcutJ (I := I1) (j := (jc_M_alike_aaf39_17 x1 x2)) (lv' := [(0, .inr (.inr (some 740))), (1, .inl _), (2, .inl _), (3, .inl _), (4, .inl _), (5, .inl _), (6, .inl _)]) (And.intro rfl (And.intro rfl (And.intro rfl (And.intro rfl (And.intro rfl (And.intro rfl (And.intro rfl True.intro))))))) ⟨_, _, _, _, _, _, rfl, rfl, ⟨by omega, hx0, (by first | exact cn_yes hx1 (by omega) (by omega) ⟨by omega, by rw [← w51]; omega⟩ (by omega) | (rw [show z16 = y5 by omega]; exact cn_no hx1 (by omega) (by omega) (fun q => by have q1 := q.1; omega)) | (rw [show z16 = y5 by omega]; exact cn_no hx1 (by omega) (by omega) (fun q => by have q2 := q.2; rw [← w51] at q2; omega)))⟩, rfl⟩ (by omega)
  · have hB0 := fB_self (zn := znJ) (K := fKc []) h0
    exact fcutJ (I := I) (j := (jc_M_alike_aaf39_5 x1 x2)) (lv' := [(0, .inr (.inr (some 740))), (1, .inl _), (2, .inl _), (3, .inl _), (4, .inl _)]) (And.intro rfl (And.intro rfl (And.intro rfl (And.intro rfl (And.intro rfl True.intro))))) ⟨_, _, _, _, rfl, rfl, ⟨by omega, rfl⟩, rfl⟩ (by omega)
abbrev jc_M_find_48382_36 (x1 : Int) : Nat → fL → List fV → fH → Prop := fun m lv st I => ∃ (y2 : Int) (y3 : Int) (y4 : Int) (y5 : Int), lv = [(0, .inr (.inr (some 740))), (2, .inl y2), (3, .inl y3), (4, .inl y4), (5, .inl y5)] ∧ st = [] ∧ ((((-2147483648) ≤ y2 ∧ y2 ≤ 2147483647) ∧ ((0 ≤ y3 ∧ y3 ≤ 7) ∨ y3 = (-1000000005)) ∧ (0 ≤ y4 ∧ y4 ≤ 12) ∧ (0 ≤ y5 ∧ y5 ≤ 8) ∧ (x1 = 1)) ∧ (iI y2 = lfF (fun t => I 741 (4500 + t)) (fun t f => I 741 (4400 + 12 * t + f)) 12) ∧ ((y3, y4) = nf (ntF (fun t => I 741 (4500 + t)) (fun t => alF (fun f => I 741 (4400 + 12 * t + f)) y2 4)) (-1000000005, onI y2 12) y5.toNat)) ∧ m = (1 + 1 * (8 - y5) : Int).toNat
set_option maxRecDepth 8000 in
theorem ct_M_find_48382 {I : fH} {x1 : Int} (h0 : fB bsJ I) (ha1 : ((-2147483648) ≤ x1 ∧ x1 ≤ 2147483647)) : fC ρ base n F xTc vwCl xTys D dA la gJ (fbz bsJ znJ (fKc []) I) xm_451 [.inr (.inr (some 740)), .inl x1] I (fun _ r => ∃ z, r = some (.inl z) ∧ ((-2147483648) ≤ z ∧ z ≤ 2147483647) ∧ ((x1 = 0 ∧ iI z = lfF (fun t => I 741 (4500 + t)) (fun t f => I 741 (4400 + 12 * t + f)) 12) ∨ (x1 = 1 ∧ ntM (fun t => I 741 (4500 + t)) (fun t f => I 741 (4400 + 12 * t + f)) z) ∨ (¬ (0 ≤ x1 ∧ x1 ≤ 1) ∧ z = (-1000000001)))) := by
  have hW : fzs [] (fKc []) := fKc_ok _
  refine f_meth (rb := rbJ) (J := [(36, (jc_M_find_48382_36 x1))]) 10 400 xG xin_451 x6_451 okJ (fB_self h0) ?_ ?_
  · refine List.forall_mem_cons.mpr ⟨?_, fun q h => absurd h List.not_mem_nil⟩
    · rintro m _ _ I1 hB1 ⟨y2, y3, y4, y5, rfl, rfl, ⟨hb, hx0, hx1⟩, hm⟩
      have eI : I1 = I := fFr_nil (fFr_of hB1)
      refine And.intro (And.intro (by first | exact fi_ hb.2.2.2.1.1 hb.2.2.2.1.2 rfl | omega) (by first | exact ⟨by decide, by decide⟩ | omega)) (And.intro ?_ ?_)
      · intro c1
        refine And.intro (True.intro) ?_
        exact ⟨_, rfl, by omega, (Or.inr (Or.inl ⟨by omega, by have q := congrArg Prod.fst hx1; rw [eI, show y5.toNat = 8 by omega] at q; rw [eI] at hx0; exact ntM_mk (s := y2) (by omega) hx0 q⟩))⟩
      · intro c2
        refine And.intro ⟨rfl, by decide, by decide⟩ ?_
        refine fload rL_741_741_4500_4507_1_0 h0 hB1 (by omega) ?_
        intro z3 lz3 uz3 qz3
        have w53 := fld_at qz3 (4500 + y5.toNat) (by omega)
        refine And.intro (by first | exact fi_ lz3 uz3 rfl | omega) (And.intro ?_ ?_)
        · intro c4
          exact fcutJ (I := I1) (j := (jc_M_find_48382_36 x1)) (lv' := [(0, .inr (.inr (some 740))), (2, .inl _), (3, .inl _), (4, .inl _), (5, .inl _)]) (And.intro rfl (And.intro rfl (And.intro rfl (And.intro rfl (And.intro rfl True.intro))))) ⟨_, _, _, _, rfl, rfl, ⟨by omega, hx0, (by first | exact nt_yes hx1 (by omega) (by omega) g0nil0 ⟨by rw [← w53]; omega, by rw [g0nil0, ← g0nil0]; omega⟩ | exact nt_no hx1 (by omega) (by omega) (fun q => by have q1 := q.1; rw [← w53] at q1; omega) | exact nt_no hx1 (by omega) (by omega) (fun q => by have q2 := q.2; try simp only [] at q2; rw [← g0nil0] at q2; omega) | (exfalso; omega))⟩, rfl⟩ (by omega)
        · intro c5
          refine Exists.intro xm_452 (And.intro mi_452 (And.intro ⟨rfl, rfl, rfl, rfl⟩ (And.intro rfl ?_)))
          refine fcallp hB1 (ct_M_alike_aaf39 (fBz h0 hB1) (by first | exact ⟨hb.2.2.2.1.1, Int.le_trans (Int.le_sub_one_of_lt (Int.lt_of_lt_of_le c2 (Int.le_refl _))) (by decide)⟩ | omega) (by first | exact ⟨hb.1.1, hb.1.2⟩ | omega)) ?_
          rintro _ ⟨z6, rfl, hz6, g0z6⟩
          refine And.intro (And.intro (by first | exact fi_ hz6.1 hz6.2 rfl | omega) (by first | exact fi_ hb.2.2.1.1 hb.2.2.1.2 rfl | omega)) (And.intro ?_ ?_)
          · intro c7
            exact fcutJ (I := I1) (j := (jc_M_find_48382_36 x1)) (lv' := [(0, .inr (.inr (some 740))), (2, .inl _), (3, .inl _), (4, .inl _), (5, .inl _)]) (And.intro rfl (And.intro rfl (And.intro rfl (And.intro rfl (And.intro rfl True.intro))))) ⟨_, _, _, _, rfl, rfl, ⟨by omega, hx0, (by first | exact nt_yes hx1 (by omega) (by omega) g0nil0 ⟨by rw [← w53]; omega, by rw [g0nil0, ← g0z6]; omega⟩ | exact nt_no hx1 (by omega) (by omega) (fun q => by have q1 := q.1; rw [← w53] at q1; omega) | exact nt_no hx1 (by omega) (by omega) (fun q => by have q2 := q.2; try simp only [] at q2; rw [← g0z6] at q2; omega) | (exfalso; omega))⟩, rfl⟩ (by omega)
          · intro c8
            refine Exists.intro xm_452 (And.intro mi_452 (And.intro ⟨rfl, rfl, rfl, rfl⟩ (And.intro rfl ?_)))
            refine fcallp hB1 (ct_M_alike_aaf39 (fBz h0 hB1) (by first | exact ⟨hb.2.2.2.1.1, Int.le_trans (Int.le_sub_one_of_lt (Int.lt_of_lt_of_le c2 (Int.le_refl _))) (by decide)⟩ | omega) (by first | exact ⟨hb.1.1, hb.1.2⟩ | omega)) ?_
            rintro _ ⟨z9, rfl, hz9, g0z9⟩
            exact fcutJ (I := I1) (j := (jc_M_find_48382_36 x1)) (lv' := [(0, .inr (.inr (some 740))), (2, .inl _), (3, .inl _), (4, .inl _), (5, .inl _)]) (And.intro rfl (And.intro rfl (And.intro rfl (And.intro rfl (And.intro rfl True.intro))))) ⟨_, _, _, _, rfl, rfl, ⟨by omega, hx0, (by first | exact nt_yes hx1 (by omega) (by omega) g0z9 ⟨by rw [← w53]; omega, by rw [g0z9, ← g0z6]; omega⟩ | exact nt_no hx1 (by omega) (by omega) (fun q => by have q1 := q.1; rw [← w53] at q1; omega) | exact nt_no hx1 (by omega) (by omega) (fun q => by have q2 := q.2; try simp only [] at q2; rw [← g0z6] at q2; omega) | (exfalso; omega))⟩, rfl⟩ (by omega)
  · have hB0 := fB_self (zn := znJ) (K := fKc []) h0
    refine And.intro (by first | exact fi_ ha1.1 ha1.2 rfl | omega) ?_
    refine Exists.intro xm_238 (And.intro mi_238 (And.intro ⟨rfl, rfl, rfl, rfl⟩ (And.intro True.intro ?_)))
    refine fcallp hB0 (ct_M_isIn_27230 (fBz h0 hB0) (by first | exact ⟨ha1.1, ha1.2⟩ | omega) (by first | exact ⟨by decide, by decide⟩ | omega) (by first | exact ⟨by decide, by decide⟩ | omega)) ?_
    rintro _ ⟨z10, rfl, hz10⟩
    refine And.intro (by omega) (And.intro ?_ ?_)
    · intro c11
      refine Exists.intro xm_449 (And.intro mi_449 (And.intro ⟨rfl, rfl, rfl, rfl⟩ (And.intro rfl ?_)))
      refine fcallp hB0 (ct_M_left_2e19e (fBz h0 hB0)) ?_
      rintro _ ⟨z12, rfl, hz12, g0z12⟩
      refine And.intro (by first | exact fi_ (Int.le_trans (Int.le_refl _) hz10.1) (Int.le_trans hz10.2 (Int.le_refl _)) rfl | omega) (And.intro ?_ ?_)
      · intro c13
        refine Exists.intro xm_450 (And.intro mi_450 (And.intro ⟨rfl, rfl, rfl, rfl⟩ (And.intro True.intro ?_)))
        refine fcallp hB0 (ct_M_ones_0fd6a (fBz h0 hB0) (by first | exact ⟨hz12.1, hz12.2⟩ | omega)) ?_
        rintro _ ⟨z14, rfl, hz14, g0z14⟩
        exact fcutJ (I := I) (j := (jc_M_find_48382_36 x1)) (lv' := [(0, .inr (.inr (some 740))), (2, .inl _), (3, .inl _), (4, .inl _), (5, .inl _)]) (And.intro rfl (And.intro rfl (And.intro rfl (And.intro rfl (And.intro rfl True.intro))))) ⟨_, _, _, _, rfl, rfl, ⟨by omega, g0z12, (by rw [← g0z14]; rfl)⟩, rfl⟩ (by omega)
      · intro c15
        refine And.intro (True.intro) ?_
        exact ⟨_, rfl, (by first | exact ⟨hz12.1, hz12.2⟩ | omega), (Or.inl ⟨by omega, g0z12⟩)⟩
    · intro c16
      refine And.intro (True.intro) ?_
      exact ⟨_, rfl, (by first | exact ⟨by decide, by decide⟩ | omega), (Or.inr (Or.inr ⟨by omega, by omega⟩))⟩
set_option maxRecDepth 8000 in
theorem ct_X_swap_821b4 {I : fH} {x1 : Int} {x2 : Int} (h0 : fB bsJ I) (ha1 : (0 ≤ x1 ∧ x1 ≤ 47)) (ha2 : (0 ≤ x2 ∧ x2 ≤ 999)) : fC ρ base n F xTc vwCl xTys D dA la gJ (fbz bsJ znJ (fKc wz_0e223) I) xm_18 [.inr (.inr (some 222)), .inl x1, .inl x2] I (fun I' r => ∃ z, r = some (.inl z) ∧ (0 ≤ z ∧ z ≤ 999) ∧ (I' = fupd I 222 x1.toNat x2) ∧ (z = I 222 x1.toNat)) := by
  have hW : fzs wz_0e223 (fKc wz_0e223) := fKc_ok _
  refine f_meth (rb := rbJ) (J := []) 1 400 xG xin_18 x6_18 okJ (fB_self h0) ?_ ?_
  · exact fun q h => absurd h List.not_mem_nil
  · have hB0 := fB_self (zn := znJ) (K := fKc wz_0e223) h0
    refine fload1 rL_222_222_0_47_1_0 h0 hB0 ⟨by decide, by decide⟩ (by first | exact ⟨ha1.1, ha1.2⟩ | omega) ?_
    intro z1 lz1 uz1 qz1
    refine fstore1 rS_222_222_0_47_1_0 (fzs_sub (by decide +kernel) hW) ⟨by decide, by decide⟩ (by first | exact ⟨ha1.1, ha1.2⟩ | omega) (by first | exact ⟨ha2.1, ha2.2⟩ | omega) ?_
    intro IhB2 ehB2 hB2
    have t3 := fup_self ehB2
    refine And.intro (True.intro) ?_
    exact ⟨_, rfl, (by first | exact ⟨lz1, uz1⟩ | omega), ehB2, qz1⟩
set_option maxRecDepth 8000 in
theorem ct_X_weather_d5811 {I : fH} {x1 : Int} {x2 : Int} (h0 : fB bsJ I) (ha1 : ((-2147483648) ≤ x1 ∧ x1 ≤ 2147483647)) (ha2 : ((-2147483648) ≤ x2 ∧ x2 ≤ 2147483647)) : fC ρ base n F xTc vwCl xTys D dA la gJ (fbz bsJ znJ (fKc wz_0e223) I) xm_176 [.inr (.inr (some 0)), .inl x1, .inl x2] I (fun I' r => ∃ z, r = some (.inl z) ∧ ((0 ≤ z ∧ z ≤ 999) ∨ z = (-1000000001)) ∧ (((0 ≤ x1 ∧ x1 ≤ 47 ∧ 0 ≤ x2 ∧ x2 ≤ 999) ∧ I' = fupd I 222 x1.toNat x2 ∧ z = I 222 x1.toNat) ∨ (¬ (0 ≤ x1 ∧ x1 ≤ 47 ∧ 0 ≤ x2 ∧ x2 ≤ 999) ∧ I' = I ∧ z = (-1000000001)))) := by
  have hW : fzs wz_0e223 (fKc wz_0e223) := fKc_ok _
  refine f_meth (rb := rbJ) (J := []) 1 400 xG xin_176 x6_176 okJ (fB_self h0) ?_ ?_
  · exact fun q h => absurd h List.not_mem_nil
  · have hB0 := fB_self (zn := znJ) (K := fKc wz_0e223) h0
    refine Exists.intro xm_13 (And.intro mi_13 (And.intro ⟨rfl, rfl, rfl, rfl⟩ (And.intro True.intro ?_)))
    refine fcallp hB0 (ct_X_within_c27b1 (fBz h0 hB0) (by first | exact ⟨ha1.1, ha1.2⟩ | omega) (by first | exact ⟨by decide, by decide⟩ | omega) (by first | exact ⟨by decide, by decide⟩ | omega)) ?_
    rintro _ ⟨z1, rfl, hz1⟩
    refine And.intro (by omega) (And.intro ?_ ?_)
    · intro c2
      refine And.intro (True.intro) ?_
      exact ⟨_, rfl, by omega, (by first | exact Or.inl ⟨by omega, g0nil0, g1nil0⟩ | exact Or.inr ⟨by omega, rfl, by omega⟩)⟩
    · intro c3
      refine Exists.intro xm_13 (And.intro mi_13 (And.intro ⟨rfl, rfl, rfl, rfl⟩ (And.intro True.intro ?_)))
      refine fcallp hB0 (ct_X_within_c27b1 (fBz h0 hB0) (by first | exact ⟨ha2.1, ha2.2⟩ | omega) (by first | exact ⟨by decide, by decide⟩ | omega) (by first | exact ⟨by decide, by decide⟩ | omega)) ?_
      rintro _ ⟨z4, rfl, hz4⟩
      refine And.intro (by omega) (And.intro ?_ ?_)
      · intro c5
        refine And.intro (True.intro) ?_
        exact ⟨_, rfl, by omega, (by first | exact Or.inl ⟨by omega, g0nil0, g1nil0⟩ | exact Or.inr ⟨by omega, rfl, by omega⟩)⟩
      · intro c6
        refine And.intro ⟨rfl, by decide, by decide⟩ ?_
        refine And.intro ⟨rfl, by decide, by decide⟩ ?_
        refine Exists.intro xm_18 (And.intro mi_18 (And.intro ⟨rfl, rfl, rfl, rfl⟩ (And.intro True.intro ?_)))
        refine fcall _ h0 (fzs_sub (by decide +kernel) hW) hB0 (ct_X_swap_821b4 (fBz h0 hB0) (by first | exact ⟨Int.le_trans (by decide) (Int.le_trans (Int.le_refl _) hz1.1), Int.le_trans (Int.le_trans hz1.2 (Int.le_refl _)) (by decide)⟩ | omega) (by first | exact ⟨Int.le_trans (by decide) (Int.le_trans (Int.le_refl _) hz4.1), Int.le_trans (Int.le_trans hz4.2 (Int.le_refl _)) (by decide)⟩ | omega)) ?_
        rintro IhB8 _ hB8 fhB8 ⟨z7, rfl, hz7, g0z7, g1z7⟩
        refine And.intro (True.intro) ?_
        exact ⟨_, rfl, by omega, (by first | exact Or.inl ⟨by omega, g0z7, g1z7⟩ | exact Or.inr ⟨by omega, rfl, by omega⟩)⟩
set_option maxRecDepth 8000 in
theorem ct_M_put_6db37 {I : fH} {x1 : Int} {x2 : Int} (h0 : fB bsJ I) (ha1 : (4510 ≤ x1 ∧ x1 ≤ 4557)) (ha2 : (0 ≤ x2 ∧ x2 ≤ 999)) : fC ρ base n F xTc vwCl xTys D dA la gJ (fbz bsJ znJ (fKc wz_c7e2d) I) xm_242 [.inr (.inr (some 740)), .inl x1, .inl x2] I (fun I' r => ∃ z, r = some (.inl z) ∧ (0 ≤ z ∧ z ≤ 999) ∧ (I' = fupd I 741 x1.toNat x2) ∧ (z = I 741 x1.toNat)) := by
  have hW : fzs wz_c7e2d (fKc wz_c7e2d) := fKc_ok _
  refine f_meth (rb := rbJ) (J := []) 1 400 xG xin_242 x6_242 okJ (fB_self h0) ?_ ?_
  · exact fun q h => absurd h List.not_mem_nil
  · have hB0 := fB_self (zn := znJ) (K := fKc wz_c7e2d) h0
    refine And.intro ⟨rfl, by decide, by decide⟩ ?_
    refine fload1 rL_741_741_4510_4557_1_0 h0 hB0 ⟨by decide, by decide⟩ (by first | exact ⟨ha1.1, ha1.2⟩ | omega) ?_
    intro z1 lz1 uz1 qz1
    refine And.intro ⟨rfl, by decide, by decide⟩ ?_
    refine fstore1 rS_741_741_4510_4557_1_0 (fzs_sub (by decide +kernel) hW) ⟨by decide, by decide⟩ (by first | exact ⟨ha1.1, ha1.2⟩ | omega) (by first | exact ⟨ha2.1, ha2.2⟩ | omega) ?_
    intro IhB2 ehB2 hB2
    have t3 := fup_self ehB2
    refine And.intro (True.intro) ?_
    exact ⟨_, rfl, (by first | exact ⟨lz1, uz1⟩ | omega), ehB2, qz1⟩
set_option maxRecDepth 8000 in
theorem ct_M_weather_26102 {I : fH} {x1 : Int} {x2 : Int} (h0 : fB bsJ I) (ha1 : ((-2147483648) ≤ x1 ∧ x1 ≤ 2147483647)) (ha2 : ((-2147483648) ≤ x2 ∧ x2 ≤ 2147483647)) : fC ρ base n F xTc vwCl xTys D dA la gJ (fbz bsJ znJ (fKc wz_c7e2d) I) xm_453 [.inr (.inr (some 740)), .inl x1, .inl x2] I (fun I' r => ∃ z, r = some (.inl z) ∧ ((0 ≤ z ∧ z ≤ 999) ∨ z = (-1000000001)) ∧ (((0 ≤ x1 ∧ x1 ≤ 47 ∧ 0 ≤ x2 ∧ x2 ≤ 999) ∧ I' = fupd I 741 (4510 + x1).toNat x2 ∧ z = I 741 (4510 + x1).toNat) ∨ (¬ (0 ≤ x1 ∧ x1 ≤ 47 ∧ 0 ≤ x2 ∧ x2 ≤ 999) ∧ I' = I ∧ z = (-1000000001)))) := by
  have hW : fzs wz_c7e2d (fKc wz_c7e2d) := fKc_ok _
  refine f_meth (rb := rbJ) (J := []) 1 400 xG xin_453 x6_453 okJ (fB_self h0) ?_ ?_
  · exact fun q h => absurd h List.not_mem_nil
  · have hB0 := fB_self (zn := znJ) (K := fKc wz_c7e2d) h0
    refine And.intro (by first | exact fi_ ha1.1 ha1.2 rfl | omega) ?_
    refine Exists.intro xm_238 (And.intro mi_238 (And.intro ⟨rfl, rfl, rfl, rfl⟩ (And.intro True.intro ?_)))
    refine fcallp hB0 (ct_M_isIn_27230 (fBz h0 hB0) (by first | exact ⟨ha1.1, ha1.2⟩ | omega) (by first | exact ⟨by decide, by decide⟩ | omega) (by first | exact ⟨by decide, by decide⟩ | omega)) ?_
    rintro _ ⟨z1, rfl, hz1⟩
    refine And.intro (by omega) (And.intro ?_ ?_)
    · intro c2
      refine And.intro (True.intro) ?_
      exact ⟨_, rfl, by omega, (by first | exact Or.inl ⟨by omega, g0nil0.trans (fupd_ix (by omega)), g1nil0.trans (fld_ix (by omega))⟩ | exact Or.inr ⟨by omega, rfl, by omega⟩)⟩
    · intro c3
      refine And.intro (by first | exact fi_ ha2.1 ha2.2 rfl | omega) ?_
      refine Exists.intro xm_238 (And.intro mi_238 (And.intro ⟨rfl, rfl, rfl, rfl⟩ (And.intro True.intro ?_)))
      refine fcallp hB0 (ct_M_isIn_27230 (fBz h0 hB0) (by first | exact ⟨ha2.1, ha2.2⟩ | omega) (by first | exact ⟨by decide, by decide⟩ | omega) (by first | exact ⟨by decide, by decide⟩ | omega)) ?_
      rintro _ ⟨z4, rfl, hz4⟩
      refine And.intro (by omega) (And.intro ?_ ?_)
      · intro c5
        refine And.intro (True.intro) ?_
        exact ⟨_, rfl, by omega, (by first | exact Or.inl ⟨by omega, g0nil0.trans (fupd_ix (by omega)), g1nil0.trans (fld_ix (by omega))⟩ | exact Or.inr ⟨by omega, rfl, by omega⟩)⟩
      · intro c6
        refine Exists.intro xm_242 (And.intro mi_242 (And.intro ⟨rfl, rfl, rfl, rfl⟩ (And.intro rfl ?_)))
        refine fcall _ h0 (fzs_sub (by decide +kernel) hW) hB0 (ct_M_put_6db37 (fBz h0 hB0) (by omega) (by first | exact ⟨Int.le_trans (by decide) (Int.le_trans (Int.le_refl _) hz4.1), Int.le_trans (Int.le_trans hz4.2 (Int.le_refl _)) (by decide)⟩ | omega)) ?_
        rintro IhB8 _ hB8 fhB8 ⟨z7, rfl, hz7, g0z7, g1z7⟩
        refine And.intro (True.intro) ?_
        exact ⟨_, rfl, by omega, (by first | exact Or.inl ⟨by omega, g0z7.trans (fupd_ix (by omega)), g1z7.trans (fld_ix (by omega))⟩ | exact Or.inr ⟨by omega, rfl, by omega⟩)⟩
abbrev jc_Rounds_fallOf_9b67d_2 : Nat → fL → List fV → fH → Prop := fun m lv st I => ∃ (y1 : Int) (y2 : Int) (y3 : Int), lv = [(0, .inr (.inr (some 727))), (1, .inl y1), (2, .inl y2), (3, .inl y3)] ∧ st = [] ∧ (((0 ≤ y1 ∧ y1 ≤ 23) ∧ (0 ≤ y2 ∧ y2 ≤ 47) ∧ (0 ≤ y3 ∧ y3 ≤ 48))) ∧ m = (1 + 1 * (48 - y3) : Int).toNat
set_option maxRecDepth 8000 in
theorem ct_Rounds_fallOf_9b67d {I : fH} {x1 : Int} {x2 : Int} (h0 : fB bsJ I) (ha1 : (0 ≤ x1 ∧ x1 ≤ 23)) (ha2 : (0 ≤ x2 ∧ x2 ≤ 47)) : fC ρ base n F xTc vwCl xTys D dA la gJ (fbz bsJ znJ (fKc []) I) xm_182 [.inr (.inr (some 727)), .inl x1, .inl x2] I (fun _ r => ∃ z, r = some (.inl z) ∧ (0 ≤ z ∧ z ≤ 48)) := by
  have hW : fzs [] (fKc []) := fKc_ok _
  refine f_meth (rb := rbJ) (J := [(2, jc_Rounds_fallOf_9b67d_2)]) 50 400 xG xin_182 x6_182 okJ (fB_self h0) ?_ ?_
  · refine List.forall_mem_cons.mpr ⟨?_, fun q h => absurd h List.not_mem_nil⟩
    · rintro m _ _ I1 hB1 ⟨y1, y2, y3, rfl, rfl, hb, hm⟩
      refine And.intro ⟨rfl, by decide, by decide⟩ (fgetf fb_727_6 h0 hB1 ?_)
      intro z1 lz1 uz1 qz1
      refine And.intro (And.intro (by first | exact fi_ hb.2.2.1 hb.2.2.2 rfl | omega) (by first | exact fi_ lz1 uz1 rfl | omega)) (And.intro ?_ ?_)
      · intro c2
        refine And.intro (True.intro) ?_
        exact ⟨_, rfl, (by first | exact ⟨hb.2.2.1, hb.2.2.2⟩ | omega)⟩
      · intro c3
        refine And.intro ⟨rfl, by decide, by decide⟩ ?_
        refine fload1 rL_728_728_0_23_1_0 h0 hB1 ⟨by decide, by decide⟩ (by first | exact ⟨hb.1.1, hb.1.2⟩ | omega) ?_
        intro z4 lz4 uz4 qz4
        refine And.intro ⟨rfl, by decide, by decide⟩ ?_
        refine fload1 rL_729_729_0_23_1_0 h0 hB1 ⟨by decide, by decide⟩ (by first | exact ⟨hb.1.1, hb.1.2⟩ | omega) ?_
        intro z5 lz5 uz5 qz5
        refine And.intro ⟨rfl, by decide, by decide⟩ ?_
        refine fload rL_731_731_0_48_1_0 h0 hB1 (by omega) ?_
        intro z6 lz6 uz6 qz6
        intro z7 hz7 ez7 bz7
        clear ez7
        clear bz7
        refine And.intro ⟨rfl, by decide, by decide⟩ ?_
        refine fload1 rL_731_731_0_48_1_0 h0 hB1 ⟨by decide, by decide⟩ (by first | exact ⟨hb.2.1.1, Int.le_trans hb.2.1.2 (by decide)⟩ | omega) ?_
        intro z8 lz8 uz8 qz8
        intro z9 hz9 ez9 bz9
        clear ez9
        clear bz9
        refine And.intro (And.intro (by omega) (And.intro (by first | exact ⟨by decide, by decide⟩ | omega) (And.intro (by first | exact by decide | omega) rfl))) ?_
        intro z10 hz10 ez10 dz10
        intro z11 hz11 ez11 bz11
        clear ez11
        clear bz11
        refine And.intro ⟨rfl, by decide, by decide⟩ (fgetf fb_727_7 h0 hB1 ?_)
        intro z12 lz12 uz12 qz12
        refine And.intro (by omega) (And.intro ?_ ?_)
        · intro c13
          refine And.intro (True.intro) ?_
          exact ⟨_, rfl, (by first | exact ⟨hb.2.2.1, Int.le_trans (Int.le_sub_one_of_lt (Int.lt_of_lt_of_le c3 uz1)) (by decide)⟩ | omega)⟩
        · intro c14
          exact fcutJ (I := I1) (j := jc_Rounds_fallOf_9b67d_2) (lv' := [(0, .inr (.inr (some 727))), (1, .inl _), (2, .inl _), (3, .inl _)]) (And.intro rfl (And.intro rfl (And.intro rfl (And.intro rfl True.intro)))) ⟨_, _, _, rfl, rfl, by omega, rfl⟩ (by omega)
  · have hB0 := fB_self (zn := znJ) (K := fKc []) h0
    exact fcutJ (I := I) (j := jc_Rounds_fallOf_9b67d_2) (lv' := [(0, .inr (.inr (some 727))), (1, .inl _), (2, .inl _), (3, .inl _)]) (And.intro rfl (And.intro rfl (And.intro rfl (And.intro rfl True.intro)))) ⟨_, _, _, rfl, rfl, by omega, rfl⟩ (by omega)
abbrev jc_Rounds_foretellAll_4ce3f_2 : Nat → fL → List fV → fH → Prop := fun m lv st I => ∃ (y2 : Int) (y3 : Int), lv = [(0, .inr (.inr (some 727))), (1, .inr (.inr (some 163))), (2, .inl y2), (3, .inl y3)] ∧ st = [] ∧ (((0 ≤ y2 ∧ y2 ≤ 47) ∧ (0 ≤ y3 ∧ y3 ≤ 24))) ∧ m = (1 + 1 * (24 - y3) : Int).toNat
set_option maxRecDepth 8000 in
theorem ct_Rounds_foretellAll_4ce3f {I : fH} {x2 : Int} (h0 : fB bsJ I) (ha2 : (0 ≤ x2 ∧ x2 ≤ 47)) : fC ρ base n F xTc vwCl xTys D dA la gJ (fbz bsJ znJ (fKc wz_01654) I) xm_181 [.inr (.inr (some 727)), .inr (.inr (some 163)), .inl x2] I (fun _ r => r = none) := by
  have hW : fzs wz_01654 (fKc wz_01654) := fKc_ok _
  refine f_meth (rb := rbJ) (J := [(2, jc_Rounds_foretellAll_4ce3f_2)]) 26 400 xG xin_181 x6_181 okJ (fB_self h0) ?_ ?_
  · refine List.forall_mem_cons.mpr ⟨?_, fun q h => absurd h List.not_mem_nil⟩
    · rintro m _ _ I1 hB1 ⟨y2, y3, rfl, rfl, hb, hm⟩
      refine And.intro ⟨rfl, by decide, by decide⟩ (fgetf fb_163_13 h0 hB1 ?_)
      intro z1 lz1 uz1 qz1
      refine And.intro (And.intro (by first | exact fi_ hb.2.1 hb.2.2 rfl | omega) (by first | exact fi_ lz1 uz1 rfl | omega)) (And.intro ?_ ?_)
      · intro c2
        exact rfl
      · intro c3
        refine And.intro ⟨rfl, by decide, by decide⟩ ?_
        refine Exists.intro xm_64 (And.intro mi_64 (And.intro ⟨rfl, rfl, rfl, rfl⟩ (And.intro rfl ?_)))
        refine fcallp hB1 (ct_Works_isSkin_801f8 (fBz h0 hB1) (by first | exact ⟨hb.2.1, Int.le_trans (Int.le_sub_one_of_lt (Int.lt_of_lt_of_le c3 uz1)) (by decide)⟩ | omega)) ?_
        rintro _ ⟨z4, rfl, hz4⟩
        refine And.intro (by omega) (And.intro ?_ ?_)
        · intro c5
          refine And.intro ⟨rfl, by decide, by decide⟩ (fgetf fb_727_6 h0 hB1 ?_)
          intro z6 lz6 uz6 qz6
          refine fstore1 rS_730_730_0_23_1_0 (fzs_sub (by decide +kernel) hW) ⟨by decide, by decide⟩ (by first | exact ⟨hb.2.1, Int.le_trans (Int.le_sub_one_of_lt (Int.lt_of_lt_of_le c3 uz1)) (by decide)⟩ | omega) (by first | exact ⟨Int.le_trans (by decide) lz6, Int.le_trans uz6 (by decide)⟩ | omega) ?_
          intro IhB7 ehB7 hB7
          have t8 := fup_self ehB7
          have t9 : IhB7 163 13 = I1 163 13 := (congrFun (congrFun ehB7 163) 13).trans (fup_ne (by first | exact Or.inl (by decide) | omega))
          exact fcutJ (I := IhB7) (j := jc_Rounds_foretellAll_4ce3f_2) (lv' := [(0, .inr (.inr (some 727))), (1, .inr (.inr (some 163))), (2, .inl _), (3, .inl _)]) (And.intro rfl (And.intro rfl (And.intro rfl (And.intro rfl True.intro)))) ⟨_, _, rfl, rfl, by omega, rfl⟩ (by omega)
        · intro c10
          refine Exists.intro xm_182 (And.intro mi_182 (And.intro ⟨rfl, rfl, rfl, rfl⟩ (And.intro rfl ?_)))
          refine fcallp hB1 (ct_Rounds_fallOf_9b67d (fBz h0 hB1) (by first | exact ⟨hb.2.1, Int.le_trans (Int.le_sub_one_of_lt (Int.lt_of_lt_of_le c3 uz1)) (by decide)⟩ | omega) (by first | exact ⟨hb.1.1, hb.1.2⟩ | omega)) ?_
          rintro _ ⟨z11, rfl, hz11⟩
          refine fstore1 rS_730_730_0_23_1_0 (fzs_sub (by decide +kernel) hW) ⟨by decide, by decide⟩ (by first | exact ⟨hb.2.1, Int.le_trans (Int.le_sub_one_of_lt (Int.lt_of_lt_of_le c3 uz1)) (by decide)⟩ | omega) (by first | exact ⟨Int.le_trans (by decide) hz11.1, Int.le_trans hz11.2 (by decide)⟩ | omega) ?_
          intro IhB12 ehB12 hB12
          have t13 := fup_self ehB12
          have t14 : IhB12 163 13 = I1 163 13 := (congrFun (congrFun ehB12 163) 13).trans (fup_ne (by first | exact Or.inl (by decide) | omega))
          exact fcutJ (I := IhB12) (j := jc_Rounds_foretellAll_4ce3f_2) (lv' := [(0, .inr (.inr (some 727))), (1, .inr (.inr (some 163))), (2, .inl _), (3, .inl _)]) (And.intro rfl (And.intro rfl (And.intro rfl (And.intro rfl True.intro)))) ⟨_, _, rfl, rfl, by omega, rfl⟩ (by omega)
  · have hB0 := fB_self (zn := znJ) (K := fKc wz_01654) h0
    exact fcutJ (I := I) (j := jc_Rounds_foretellAll_4ce3f_2) (lv' := [(0, .inr (.inr (some 727))), (1, .inr (.inr (some 163))), (2, .inl _), (3, .inl _)]) (And.intro rfl (And.intro rfl (And.intro rfl (And.intro rfl True.intro)))) ⟨_, _, rfl, rfl, by omega, rfl⟩ (by omega)
abbrev jc_Rounds_sewNext_d8bbe_11 : Nat → fL → List fV → fH → Prop := fun m lv st I => ∃ (y2 : Int) (y3 : Int) (y4 : Int) (y5 : Int), lv = [(0, .inr (.inr (some 727))), (1, .inr (.inr (some 163))), (2, .inl y2), (3, .inl y3), (4, .inl y4), (5, .inl y5)] ∧ st = [] ∧ (((0 ≤ y2 ∧ y2 ≤ 47) ∧ ((-1) ≤ y3 ∧ y3 ≤ 23) ∧ ((-2147483648) ≤ y4 ∧ y4 ≤ 2147483647) ∧ (0 ≤ y5 ∧ y5 ≤ 24))) ∧ m = (1 + 1 * (24 - y5) : Int).toNat
set_option maxRecDepth 8000 in
theorem ct_Rounds_sewNext_d8bbe {I : fH} {x2 : Int} (h0 : fB bsJ I) (ha2 : (0 ≤ x2 ∧ x2 ≤ 47)) : fC ρ base n F xTc vwCl xTys D dA la gJ (fbz bsJ znJ (fKc wz_f185d) I) xm_183 [.inr (.inr (some 727)), .inr (.inr (some 163)), .inl x2] I (fun _ r => ∃ z, r = some (.inl z) ∧ ((-1) ≤ z ∧ z ≤ 23)) := by
  have hW : fzs wz_f185d (fKc wz_f185d) := fKc_ok _
  refine f_meth (rb := rbJ) (J := [(11, jc_Rounds_sewNext_d8bbe_11)]) 26 400 xG xin_183 x6_183 okJ (fB_self h0) ?_ ?_
  · refine List.forall_mem_cons.mpr ⟨?_, fun q h => absurd h List.not_mem_nil⟩
    · rintro m _ _ I1 hB1 ⟨y2, y3, y4, y5, rfl, rfl, hb, hm⟩
      refine And.intro ⟨rfl, by decide, by decide⟩ (fgetf fb_163_13 h0 hB1 ?_)
      intro z1 lz1 uz1 qz1
      refine And.intro (And.intro (by first | exact fi_ hb.2.2.2.1 hb.2.2.2.2 rfl | omega) (by first | exact fi_ lz1 uz1 rfl | omega)) (And.intro ?_ ?_)
      · intro c2
        refine And.intro (by first | exact fi_ hb.2.1.1 hb.2.1.2 rfl | omega) (And.intro ?_ ?_)
        · intro c3
          refine And.intro (True.intro) ?_
          exact ⟨_, rfl, (by first | exact ⟨hb.2.1.1, Int.le_trans (Int.le_sub_one_of_lt (Int.lt_of_lt_of_le c3 (Int.le_refl _))) (by decide)⟩ | omega)⟩
        · intro c4
          refine And.intro ⟨rfl, by decide, by decide⟩ ?_
          refine fload1 rL_728_728_0_23_1_0 h0 hB1 ⟨by decide, by decide⟩ (by first | exact ⟨Int.le_trans (by decide) (Int.le_trans (Int.le_refl _) c4), hb.2.1.2⟩ | omega) ?_
          intro z5 lz5 uz5 qz5
          intro z6 hz6 ez6 bz6
          clear ez6
          clear bz6
          refine fstore1 rS_728_728_0_23_1_0 (fzs_sub (by decide +kernel) hW) ⟨by decide, by decide⟩ (by first | exact ⟨Int.le_trans (by decide) (Int.le_trans (Int.le_refl _) c4), hb.2.1.2⟩ | omega) (by omega) ?_
          intro IhB7 ehB7 hB7
          have t8 := fup_self ehB7
          have t9 : IhB7 163 13 = I1 163 13 := (congrFun (congrFun ehB7 163) 13).trans (fup_ne (by first | exact Or.inl (by decide) | omega))
          refine And.intro ⟨rfl, by decide, by decide⟩ ?_
          refine Exists.intro xm_182 (And.intro mi_182 (And.intro ⟨rfl, rfl, rfl, rfl⟩ (And.intro rfl ?_)))
          refine fcallp hB7 (ct_Rounds_fallOf_9b67d (fBz h0 hB7) (by first | exact ⟨Int.le_trans (by decide) (Int.le_trans (Int.le_refl _) c4), hb.2.1.2⟩ | omega) (by first | exact ⟨hb.1.1, hb.1.2⟩ | omega)) ?_
          rintro _ ⟨z10, rfl, hz10⟩
          refine fstore1 rS_730_730_0_23_1_0 (fzs_sub (by decide +kernel) hW) ⟨by decide, by decide⟩ (by first | exact ⟨Int.le_trans (by decide) (Int.le_trans (Int.le_refl _) c4), hb.2.1.2⟩ | omega) (by first | exact ⟨Int.le_trans (by decide) hz10.1, Int.le_trans hz10.2 (by decide)⟩ | omega) ?_
          intro IhB11 ehB11 hB11
          have t12 := fup_self ehB11
          have t13 : IhB11 163 13 = IhB7 163 13 := (congrFun (congrFun ehB11 163) 13).trans (fup_ne (by first | exact Or.inl (by decide) | omega))
          refine And.intro (True.intro) ?_
          exact ⟨_, rfl, (by first | exact ⟨Int.le_trans (by decide) (Int.le_trans (Int.le_refl _) c4), hb.2.1.2⟩ | omega)⟩
      · intro c14
        refine And.intro ⟨rfl, by decide, by decide⟩ ?_
        refine fload1 rL_730_730_0_23_1_0 h0 hB1 ⟨by decide, by decide⟩ (by first | exact ⟨hb.2.2.2.1, Int.le_trans (Int.le_sub_one_of_lt (Int.lt_of_lt_of_le c14 uz1)) (by decide)⟩ | omega) ?_
        intro z15 lz15 uz15 qz15
        refine And.intro (And.intro (by first | exact fi_ lz15 uz15 rfl | omega) (by first | exact fi_ hb.2.2.1.1 hb.2.2.1.2 rfl | omega)) (And.intro ?_ ?_)
        · intro c16
          exact fcutJ (I := I1) (j := jc_Rounds_sewNext_d8bbe_11) (lv' := [(0, .inr (.inr (some 727))), (1, .inr (.inr (some 163))), (2, .inl _), (3, .inl _), (4, .inl _), (5, .inl _)]) (And.intro rfl (And.intro rfl (And.intro rfl (And.intro rfl (And.intro rfl (And.intro rfl True.intro)))))) ⟨_, _, _, _, rfl, rfl, by omega, rfl⟩ (by omega)
        · intro c17
          refine And.intro ⟨rfl, by decide, by decide⟩ ?_
          refine fload1 rL_728_728_0_23_1_0 h0 hB1 ⟨by decide, by decide⟩ (by first | exact ⟨hb.2.2.2.1, Int.le_trans (Int.le_sub_one_of_lt (Int.lt_of_lt_of_le c14 uz1)) (by decide)⟩ | omega) ?_
          intro z18 lz18 uz18 qz18
          refine And.intro (And.intro (by first | exact fi_ lz18 uz18 rfl | omega) (by first | exact ⟨by decide, by decide⟩ | omega)) (And.intro ?_ ?_)
          · intro c19
            exact fcutJ (I := I1) (j := jc_Rounds_sewNext_d8bbe_11) (lv' := [(0, .inr (.inr (some 727))), (1, .inr (.inr (some 163))), (2, .inl _), (3, .inl _), (4, .inl _), (5, .inl _)]) (And.intro rfl (And.intro rfl (And.intro rfl (And.intro rfl (And.intro rfl (And.intro rfl True.intro)))))) ⟨_, _, _, _, rfl, rfl, by omega, rfl⟩ (by omega)
          · intro c20
            refine And.intro ⟨rfl, by decide, by decide⟩ ?_
            refine fload1 rL_730_730_0_23_1_0 h0 hB1 ⟨by decide, by decide⟩ (by first | exact ⟨hb.2.2.2.1, Int.le_trans (Int.le_sub_one_of_lt (Int.lt_of_lt_of_le c14 uz1)) (by decide)⟩ | omega) ?_
            intro z21 lz21 uz21 qz21
            exact fcutJ (I := I1) (j := jc_Rounds_sewNext_d8bbe_11) (lv' := [(0, .inr (.inr (some 727))), (1, .inr (.inr (some 163))), (2, .inl _), (3, .inl _), (4, .inl _), (5, .inl _)]) (And.intro rfl (And.intro rfl (And.intro rfl (And.intro rfl (And.intro rfl (And.intro rfl True.intro)))))) ⟨_, _, _, _, rfl, rfl, by omega, rfl⟩ (by omega)
  · have hB0 := fB_self (zn := znJ) (K := fKc wz_f185d) h0
    refine And.intro ⟨rfl, by decide, by decide⟩ (fgetf fb_727_6 h0 hB0 ?_)
    intro z22 lz22 uz22 qz22
    exact fcutJ (I := I) (j := jc_Rounds_sewNext_d8bbe_11) (lv' := [(0, .inr (.inr (some 727))), (1, .inr (.inr (some 163))), (2, .inl _), (3, .inl _), (4, .inl _), (5, .inl _)]) (And.intro rfl (And.intro rfl (And.intro rfl (And.intro rfl (And.intro rfl (And.intro rfl True.intro)))))) ⟨_, _, _, _, rfl, rfl, by omega, rfl⟩ (by omega)
abbrev jc_Rounds_wearAll_7293e_2 : Nat → fL → List fV → fH → Prop := fun m lv st I => ∃ (y2 : Int) (y3 : Int), lv = [(0, .inr (.inr (some 727))), (1, .inr (.inr (some 163))), (2, .inl y2), (3, .inl y3)] ∧ st = [] ∧ (((0 ≤ y2 ∧ y2 ≤ 47) ∧ (0 ≤ y3 ∧ y3 ≤ 24))) ∧ m = (1 + 1 * (24 - y3) : Int).toNat
set_option maxRecDepth 8000 in
theorem ct_Rounds_wearAll_7293e {I : fH} {x2 : Int} (h0 : fB bsJ I) (ha2 : (0 ≤ x2 ∧ x2 ≤ 47)) : fC ρ base n F xTc vwCl xTys D dA la gJ (fbz bsJ znJ (fKc wz_2d739) I) xm_184 [.inr (.inr (some 727)), .inr (.inr (some 163)), .inl x2] I (fun _ r => r = none) := by
  have hW : fzs wz_2d739 (fKc wz_2d739) := fKc_ok _
  refine f_meth (rb := rbJ) (J := [(2, jc_Rounds_wearAll_7293e_2)]) 26 400 xG xin_184 x6_184 okJ (fB_self h0) ?_ ?_
  · refine List.forall_mem_cons.mpr ⟨?_, fun q h => absurd h List.not_mem_nil⟩
    · rintro m _ _ I1 hB1 ⟨y2, y3, rfl, rfl, hb, hm⟩
      refine And.intro ⟨rfl, by decide, by decide⟩ (fgetf fb_163_13 h0 hB1 ?_)
      intro z1 lz1 uz1 qz1
      refine And.intro (And.intro (by first | exact fi_ hb.2.1 hb.2.2 rfl | omega) (by first | exact fi_ lz1 uz1 rfl | omega)) (And.intro ?_ ?_)
      · intro c2
        exact rfl
      · intro c3
        refine Exists.intro xm_64 (And.intro mi_64 (And.intro ⟨rfl, rfl, rfl, rfl⟩ (And.intro rfl ?_)))
        refine fcallp hB1 (ct_Works_isSkin_801f8 (fBz h0 hB1) (by first | exact ⟨hb.2.1, Int.le_trans (Int.le_sub_one_of_lt (Int.lt_of_lt_of_le c3 uz1)) (by decide)⟩ | omega)) ?_
        rintro _ ⟨z4, rfl, hz4⟩
        refine And.intro (by omega) (And.intro ?_ ?_)
        · intro c5
          exact fcutJ (I := I1) (j := jc_Rounds_wearAll_7293e_2) (lv' := [(0, .inr (.inr (some 727))), (1, .inr (.inr (some 163))), (2, .inl _), (3, .inl _)]) (And.intro rfl (And.intro rfl (And.intro rfl (And.intro rfl True.intro)))) ⟨_, _, rfl, rfl, by omega, rfl⟩ (by omega)
        · intro c6
          refine And.intro ⟨rfl, by decide, by decide⟩ ?_
          refine fload1 rL_729_729_0_23_1_0 h0 hB1 ⟨by decide, by decide⟩ (by first | exact ⟨hb.2.1, Int.le_trans (Int.le_sub_one_of_lt (Int.lt_of_lt_of_le c3 uz1)) (by decide)⟩ | omega) ?_
          intro z7 lz7 uz7 qz7
          refine And.intro ⟨rfl, by decide, by decide⟩ ?_
          refine fload rL_731_731_0_48_1_0 h0 hB1 (by omega) ?_
          intro z8 lz8 uz8 qz8
          intro z9 hz9 ez9 bz9
          clear ez9
          clear bz9
          refine And.intro ⟨rfl, by decide, by decide⟩ ?_
          refine fload1 rL_731_731_0_48_1_0 h0 hB1 ⟨by decide, by decide⟩ (by first | exact ⟨hb.1.1, Int.le_trans hb.1.2 (by decide)⟩ | omega) ?_
          intro z10 lz10 uz10 qz10
          intro z11 hz11 ez11 bz11
          clear ez11
          clear bz11
          refine And.intro ⟨rfl, by decide, by decide⟩ ?_
          refine fload1 rL_728_728_0_23_1_0 h0 hB1 ⟨by decide, by decide⟩ (by first | exact ⟨hb.2.1, Int.le_trans (Int.le_sub_one_of_lt (Int.lt_of_lt_of_le c3 uz1)) (by decide)⟩ | omega) ?_
          intro z12 lz12 uz12 qz12
          refine And.intro (And.intro (by omega) (And.intro (by first | exact ⟨by decide, by decide⟩ | omega) (And.intro (by first | exact by decide | omega) rfl))) ?_
          intro z13 hz13 ez13 dz13
          intro z14 hz14 ez14 bz14
          clear ez14
          clear bz14
          refine fstore1 rS_728_728_0_23_1_0 (fzs_sub (by decide +kernel) hW) ⟨by decide, by decide⟩ (by first | exact ⟨hb.2.1, Int.le_trans (Int.le_sub_one_of_lt (Int.lt_of_lt_of_le c3 uz1)) (by decide)⟩ | omega) (by omega) ?_
          intro IhB15 ehB15 hB15
          have t16 := fup_self ehB15
          have t17 : IhB15 163 13 = I1 163 13 := (congrFun (congrFun ehB15 163) 13).trans (fup_ne (by first | exact Or.inl (by decide) | omega))
          refine And.intro ⟨rfl, by decide, by decide⟩ ?_
          refine And.intro (And.intro (by omega) (And.intro (by first | exact ⟨by decide, by decide⟩ | omega) (And.intro (by first | exact by decide | omega) rfl))) ?_
          intro z18 hz18 ez18 dz18
          refine fstore1 rS_729_729_0_23_1_0 (fzs_sub (by decide +kernel) hW) ⟨by decide, by decide⟩ (by first | exact ⟨hb.2.1, Int.le_trans (Int.le_sub_one_of_lt (Int.lt_of_lt_of_le c3 uz1)) (by decide)⟩ | omega) (by omega) ?_
          intro IhB19 ehB19 hB19
          have t20 := fup_self ehB19
          have t21 : IhB19 163 13 = IhB15 163 13 := (congrFun (congrFun ehB19 163) 13).trans (fup_ne (by first | exact Or.inl (by decide) | omega))
          refine And.intro ⟨rfl, by decide, by decide⟩ ?_
          refine fload1 rL_728_728_0_23_1_0 h0 hB19 ⟨by decide, by decide⟩ (by first | exact ⟨hb.2.1, Int.le_trans (Int.le_sub_one_of_lt (Int.lt_of_lt_of_le c3 uz1)) (by decide)⟩ | omega) ?_
          intro z22 lz22 uz22 qz22
          refine And.intro ⟨rfl, by decide, by decide⟩ (fgetf fb_727_7 h0 hB19 ?_)
          intro z23 lz23 uz23 qz23
          refine And.intro (And.intro (by first | exact fi_ lz22 uz22 rfl | omega) (by first | exact fi_ lz23 uz23 rfl | omega)) (And.intro ?_ ?_)
          · intro c24
            exact fcutJ (I := IhB19) (j := jc_Rounds_wearAll_7293e_2) (lv' := [(0, .inr (.inr (some 727))), (1, .inr (.inr (some 163))), (2, .inl _), (3, .inl _)]) (And.intro rfl (And.intro rfl (And.intro rfl (And.intro rfl True.intro)))) ⟨_, _, rfl, rfl, by omega, rfl⟩ (by omega)
          · intro c25
            refine And.intro ⟨rfl, by decide, by decide⟩ (fgetf fb_727_0 h0 hB19 ?_)
            intro z26 lz26 uz26 qz26
            refine And.intro (And.intro (by first | exact fi_ lz26 uz26 rfl | omega) (by first | exact ⟨by decide, by decide⟩ | omega)) (And.intro ?_ ?_)
            · intro c27
              exact fcutJ (I := IhB19) (j := jc_Rounds_wearAll_7293e_2) (lv' := [(0, .inr (.inr (some 727))), (1, .inr (.inr (some 163))), (2, .inl _), (3, .inl _)]) (And.intro rfl (And.intro rfl (And.intro rfl (And.intro rfl True.intro)))) ⟨_, _, rfl, rfl, by omega, rfl⟩ (by omega)
            · intro c28
              refine And.intro ⟨rfl, by decide, by decide⟩ (And.intro rfl (And.intro (Or.inl rfl) (fputf fb_727_0 (by decide +kernel) hW (by first | exact ⟨Int.le_trans (by decide) hb.1.1, Int.le_trans hb.1.2 (by decide)⟩ | omega) ?_)))
              intro IhB29 ehB29 hB29
              have t30 : IhB29 163 13 = IhB19 163 13 := (congrFun (congrFun ehB29 163) 13).trans (fup_ne (by first | decide | omega))
              exact fcutJ (I := IhB29) (j := jc_Rounds_wearAll_7293e_2) (lv' := [(0, .inr (.inr (some 727))), (1, .inr (.inr (some 163))), (2, .inl _), (3, .inl _)]) (And.intro rfl (And.intro rfl (And.intro rfl (And.intro rfl True.intro)))) ⟨_, _, rfl, rfl, by omega, rfl⟩ (by omega)
  · have hB0 := fB_self (zn := znJ) (K := fKc wz_2d739) h0
    exact fcutJ (I := I) (j := jc_Rounds_wearAll_7293e_2) (lv' := [(0, .inr (.inr (some 727))), (1, .inr (.inr (some 163))), (2, .inl _), (3, .inl _)]) (And.intro rfl (And.intro rfl (And.intro rfl (And.intro rfl True.intro)))) ⟨_, _, rfl, rfl, by omega, rfl⟩ (by omega)
abbrev jc_People_ableFitters_3cb68_4 : Nat → fL → List fV → fH → Prop := fun m lv st I => ∃ (y1 : Int) (y2 : Int), lv = [(0, .inr (.inr (some 177))), (1, .inl y1), (2, .inl y2)] ∧ st = [] ∧ ((((-2147483648) ≤ y1 ∧ y1 ≤ 2147483647) ∧ (0 ≤ y2 ∧ y2 ≤ 24))) ∧ m = (1 + 1 * (24 - y2) : Int).toNat
set_option maxRecDepth 8000 in
theorem ct_People_ableFitters_3cb68 {I : fH}  (h0 : fB bsJ I)  : fC ρ base n F xTc vwCl xTys D dA la gJ (fbz bsJ znJ (fKc []) I) xm_180 [.inr (.inr (some 177))] I (fun _ r => ∃ z, r = some (.inl z) ∧ ((-2147483648) ≤ z ∧ z ≤ 2147483647)) := by
  have hW : fzs [] (fKc []) := fKc_ok _
  refine f_meth (rb := rbJ) (J := [(4, jc_People_ableFitters_3cb68_4)]) 26 400 xG xin_180 x6_180 okJ (fB_self h0) ?_ ?_
  · refine List.forall_mem_cons.mpr ⟨?_, fun q h => absurd h List.not_mem_nil⟩
    · rintro m _ _ I1 hB1 ⟨y1, y2, rfl, rfl, hb, hm⟩
      refine And.intro ⟨rfl, by decide, by decide⟩ (fgetf fb_177_4 h0 hB1 ?_)
      intro z1 lz1 uz1 qz1
      refine And.intro (And.intro (by first | exact fi_ hb.2.1 hb.2.2 rfl | omega) (by first | exact fi_ lz1 uz1 rfl | omega)) (And.intro ?_ ?_)
      · intro c2
        refine And.intro (True.intro) ?_
        exact ⟨_, rfl, (by first | exact ⟨hb.1.1, hb.1.2⟩ | omega)⟩
      · intro c3
        refine And.intro ⟨rfl, by decide, by decide⟩ ?_
        refine fload1 rL_179_179_0_23_1_0 h0 hB1 ⟨by decide, by decide⟩ (by first | exact ⟨hb.2.1, Int.le_trans (Int.le_sub_one_of_lt (Int.lt_of_lt_of_le c3 uz1)) (by decide)⟩ | omega) ?_
        intro z4 lz4 uz4 qz4
        refine And.intro (And.intro (by first | exact fi_ lz4 uz4 rfl | omega) (by first | exact ⟨by decide, by decide⟩ | omega)) (And.intro ?_ ?_)
        · intro c5
          exact fcutJ (I := I1) (j := jc_People_ableFitters_3cb68_4) (lv' := [(0, .inr (.inr (some 177))), (1, .inl _), (2, .inl _)]) (And.intro rfl (And.intro rfl (And.intro rfl True.intro))) ⟨_, _, rfl, rfl, by omega, rfl⟩ (by omega)
        · intro c6
          refine And.intro ⟨rfl, by decide, by decide⟩ ?_
          refine fload1 rL_181_181_0_23_1_0 h0 hB1 ⟨by decide, by decide⟩ (by first | exact ⟨hb.2.1, Int.le_trans (Int.le_sub_one_of_lt (Int.lt_of_lt_of_le c3 uz1)) (by decide)⟩ | omega) ?_
          intro z7 lz7 uz7 qz7
          refine And.intro (And.intro (by first | exact fi_ lz7 uz7 rfl | omega) (by first | exact ⟨by decide, by decide⟩ | omega)) (And.intro ?_ ?_)
          · intro c8
            exact fcutJ (I := I1) (j := jc_People_ableFitters_3cb68_4) (lv' := [(0, .inr (.inr (some 177))), (1, .inl _), (2, .inl _)]) (And.intro rfl (And.intro rfl (And.intro rfl True.intro))) ⟨_, _, rfl, rfl, by omega, rfl⟩ (by omega)
          · intro c9
            intro z10 hz10 bz10
            clear bz10
            exact fcutJ (I := I1) (j := jc_People_ableFitters_3cb68_4) (lv' := [(0, .inr (.inr (some 177))), (1, .inl _), (2, .inl _)]) (And.intro rfl (And.intro rfl (And.intro rfl True.intro))) ⟨_, _, rfl, rfl, by omega, rfl⟩ (by omega)
  · have hB0 := fB_self (zn := znJ) (K := fKc []) h0
    exact fcutJ (I := I) (j := jc_People_ableFitters_3cb68_4) (lv' := [(0, .inr (.inr (some 177))), (1, .inl _), (2, .inl _)]) (And.intro rfl (And.intro rfl (And.intro rfl True.intro))) ⟨_, _, rfl, rfl, by omega, rfl⟩ (by omega)
abbrev jc_Rounds_begin_a2ae2_30 : Nat → fL → List fV → fH → Prop := fun m lv st I => ∃ (y3 : Int), lv = [(0, .inr (.inr (some 727))), (2, .inr (.inr (some 211))), (3, .inl y3)] ∧ st = [] ∧ (((0 ≤ y3 ∧ y3 ≤ 48))) ∧ m = (1 + 1 * (48 - y3) : Int).toNat
set_option maxRecDepth 8000 in
theorem ct_Rounds_begin_a2ae2 {I : fH}  (h0 : fB bsJ I)  : fC ρ base n F xTc vwCl xTys D dA la gJ (fbz bsJ znJ (fKc wz_06305) I) xm_179 [.inr (.inr (some 727)), .inr (.inr (some 1)), .inr (.inr (some 211))] I (fun _ r => r = none) := by
  have hW : fzs wz_06305 (fKc wz_06305) := fKc_ok _
  refine f_meth (rb := rbJ) (J := [(30, jc_Rounds_begin_a2ae2_30)]) 50 400 xG xin_179 x6_179 okJ (fB_self h0) ?_ ?_
  · refine List.forall_mem_cons.mpr ⟨?_, fun q h => absurd h List.not_mem_nil⟩
    · rintro m _ _ I1 hB1 ⟨y3, rfl, rfl, hb, hm⟩
      refine And.intro ⟨rfl, by decide, by decide⟩ (fgetf fb_727_6 h0 hB1 ?_)
      intro z1 lz1 uz1 qz1
      refine And.intro (And.intro (by first | exact fi_ hb.1 hb.2 rfl | omega) (by first | exact fi_ lz1 uz1 rfl | omega)) (And.intro ?_ ?_)
      · intro c2
        exact rfl
      · intro c3
        refine And.intro ⟨rfl, by decide, by decide⟩ ?_
        refine And.intro ⟨rfl, by decide, by decide⟩ ?_
        refine fload1 rL_731_731_0_48_1_0 h0 hB1 ⟨by decide, by decide⟩ (by first | exact ⟨hb.1, Int.le_trans (Int.le_sub_one_of_lt (Int.lt_of_lt_of_le c3 uz1)) (by decide)⟩ | omega) ?_
        intro z4 lz4 uz4 qz4
        refine And.intro ⟨rfl, by decide, by decide⟩ ?_
        refine fload1 rL_222_222_0_47_1_0 h0 hB1 ⟨by decide, by decide⟩ (by first | exact ⟨hb.1, Int.le_trans (Int.le_sub_one_of_lt (Int.lt_of_lt_of_le c3 uz1)) (by decide)⟩ | omega) ?_
        intro z5 lz5 uz5 qz5
        intro z6 hz6 ez6 bz6
        clear ez6
        have bz6 := bz6 (by omega)
        refine And.intro (And.intro (by omega) (And.intro (by first | exact ⟨by decide, by decide⟩ | omega) (And.intro (by first | exact by decide | omega) rfl))) ?_
        intro z7 hz7 ez7 dz7
        have dz7 := dz7 (by omega) (by omega)
        change _ = _ / _ at dz7
        intro z8 hz8 ez8 bz8
        clear ez8
        clear bz8
        refine fstore rS_731_731_0_48_1_0 (fzs_sub (by decide +kernel) hW) (by omega) (by omega) ?_
        intro IhB9 ehB9 hB9
        have t10 := fup_self ehB9
        have t11 : IhB9 727 6 = I1 727 6 := (congrFun (congrFun ehB9 727) 6).trans (fup_ne (by first | exact Or.inl (by decide) | omega))
        exact fcutJ (I := IhB9) (j := jc_Rounds_begin_a2ae2_30) (lv' := [(0, .inr (.inr (some 727))), (2, .inr (.inr (some 211))), (3, .inl _)]) (And.intro rfl (And.intro rfl (And.intro rfl True.intro))) ⟨_, rfl, rfl, by omega, rfl⟩ (by omega)
  · have hB0 := fB_self (zn := znJ) (K := fKc wz_06305) h0
    refine And.intro ⟨rfl, by decide, by decide⟩ ?_
    refine And.intro ⟨rfl, by decide, by decide⟩ ?_
    refine And.intro ⟨rfl, by decide, by decide⟩ ?_
    refine Exists.intro xm_75 (And.intro mi_75 (And.intro ⟨rfl, rfl, rfl, rfl⟩ (And.intro True.intro ?_)))
    refine fcall _ h0 (fzs_sub (by decide +kernel) hW) hB0 (ct_copyRow (W := [728]) (len := 24) (fBz h0 hB0) (frC_of (by decide +kernel))) ?_
    rintro IhB12 _ hB12 fhB12 ⟨rfl, ehB12⟩
    refine And.intro ⟨rfl, by decide, by decide⟩ ?_
    refine And.intro ⟨rfl, by decide, by decide⟩ ?_
    refine And.intro ⟨rfl, by decide, by decide⟩ ?_
    refine Exists.intro xm_75 (And.intro mi_75 (And.intro ⟨rfl, rfl, rfl, rfl⟩ (And.intro True.intro ?_)))
    refine fcall _ h0 (fzs_sub (by decide +kernel) hW) hB12 (ct_copyRow (W := [729]) (len := 24) (fBz h0 hB12) (frC_of (by decide +kernel))) ?_
    rintro IhB13 _ hB13 fhB13 ⟨rfl, ehB13⟩
    exact fcutJ (I := IhB13) (j := jc_Rounds_begin_a2ae2_30) (lv' := [(0, .inr (.inr (some 727))), (2, .inr (.inr (some 211))), (3, .inl _)]) (And.intro rfl (And.intro rfl (And.intro rfl True.intro))) ⟨_, rfl, rfl, by omega, rfl⟩ (by omega)
end CT

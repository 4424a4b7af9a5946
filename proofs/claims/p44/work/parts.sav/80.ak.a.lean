set_option linter.all false
/-! contracts (written by gen95.py) -/
abbrev wz_fdfa3 : List Nat := [748, 749, 751, 752, 20108, 20306, 20308]
theorem x6_436 : f60c xTc xTys xm_436 = true := by decide +kernel
theorem x6_155 : f60c xTc xTys xm_155 = true := by decide +kernel
theorem x6_437 : f60c xTc xTys xm_437 = true := by decide +kernel
abbrev wz_65950 : List Nat := [706]
theorem rS_707_726_0_29_1_0 : frS gJ bsJ znJ [706] 100 ((707, 726), (0, 29), (1, 0), ((-2147483648), 2147483647)) := frS_dflt (by decide) (by decide +kernel)
theorem rgG_707_726 {o : Nat} (h1 : 707 ≤ o) (h2 : o ≤ 726) : gJ.1 o = some (100, 30) ∧ ∀ j, j < 30 → gJ.2 o j = none := frG_of (a0 := 707) (a1 := 726) (by decide +kernel) h1 h2
abbrev wz_12c7f : List Nat := [704, 705, 706]
theorem x6_157 : f60c xTc xTys xm_157 = true := by decide +kernel
theorem x6_156 : f60c xTc xTys xm_156 = true := by decide +kernel
abbrev wz_c0410 : List Nat := [744, 745, 746]
theorem x6_438 : f60c xTc xTys xm_438 = true := by decide +kernel
theorem rL_745_745_0_19_1_0 : frL gJ bsJ 100 ((745, 745), (0, 19), (1, 0), (0, 30)) := frL_of (by decide +kernel)
theorem rS_746_746_0_599_1_0 : frS gJ bsJ znJ [746] 100 ((746, 746), (0, 599), (1, 0), ((-2147483648), 2147483647)) := frS_dflt (by decide) (by decide +kernel)
theorem rS_744_744_0_19_1_0 : frS gJ bsJ znJ [744] 100 ((744, 744), (0, 19), (1, 0), ((-2147483648), 2147483647)) := frS_dflt (by decide) (by decide +kernel)
theorem rS_745_745_0_19_1_0 : frS gJ bsJ znJ [745] 100 ((745, 745), (0, 19), (1, 0), (0, 30)) := frS_of (by decide +kernel)
theorem x6_160 : f60c xTc xTys xm_160 = true := by decide +kernel
theorem rL_705_705_0_19_1_0 : frL gJ bsJ 100 ((705, 705), (0, 19), (1, 0), (0, 30)) := frL_of (by decide +kernel)
theorem x6_159 : f60c xTc xTys xm_159 = true := by decide +kernel
theorem rL_704_704_0_19_1_0 : frL gJ bsJ 100 ((704, 704), (0, 19), (1, 0), ((-2147483648), 2147483647)) := frL_hull (by decide) (by decide +kernel)
theorem x6_158 : f60c xTc xTys xm_158 = true := by decide +kernel
abbrev wz_efa23 : List Nat := [746]
theorem x6_439 : f60c xTc xTys xm_439 = true := by decide +kernel
theorem rL_744_744_0_19_1_0 : frL gJ bsJ 100 ((744, 744), (0, 19), (1, 0), ((-2147483648), 2147483647)) := frL_hull (by decide) (by decide +kernel)
theorem x6_163 : f60c xTc xTys xm_163 = true := by decide +kernel
theorem rL_707_726_0_29_1_0 : frL gJ bsJ 100 ((707, 726), (0, 29), (1, 0), ((-2147483648), 2147483647)) := frL_hull (by decide) (by decide +kernel)
theorem x6_162 : f60c xTc xTys xm_162 = true := by decide +kernel
theorem x6_161 : f60c xTc xTys xm_161 = true := by decide +kernel
theorem x6_442 : f60c xTc xTys xm_442 = true := by decide +kernel
theorem rL_746_746_0_599_1_0 : frL gJ bsJ 100 ((746, 746), (0, 599), (1, 0), ((-2147483648), 2147483647)) := frL_hull (by decide) (by decide +kernel)
theorem x6_441 : f60c xTc xTys xm_441 = true := by decide +kernel
theorem x6_440 : f60c xTc xTys xm_440 = true := by decide +kernel
theorem x6_165 : f60c xTc xTys xm_165 = true := by decide +kernel
theorem x6_164 : f60c xTc xTys xm_164 = true := by decide +kernel
theorem x6_443 : f60c xTc xTys xm_443 = true := by decide +kernel
theorem x6_168 : f60c xTc xTys xm_168 = true := by decide +kernel
theorem x6_167 : f60c xTc xTys xm_167 = true := by decide +kernel
theorem x6_166 : f60c xTc xTys xm_166 = true := by decide +kernel
abbrev wz_25294 : List Nat := [746, 753]
theorem x6_444 : f60c xTc xTys xm_444 = true := by decide +kernel
theorem rS_753_753_0_29_1_0 : frS gJ bsJ znJ [753] 100 ((753, 753), (0, 29), (1, 0), ((-2147483648), 2147483647)) := frS_dflt (by decide) (by decide +kernel)
theorem rL_753_753_0_29_1_0 : frL gJ bsJ 100 ((753, 753), (0, 29), (1, 0), ((-2147483648), 2147483647)) := frL_hull (by decide) (by decide +kernel)
abbrev wz_9f933 : List Nat := [212]
theorem rL_213_220_0_11_1_0 : frL gJ bsJ 100 ((213, 220), (0, 11), (1, 0), (0, 3)) := frL_of (by decide +kernel)
theorem rS_213_220_0_11_1_0 : frS gJ bsJ znJ [212] 100 ((213, 220), (0, 11), (1, 0), (0, 3)) := frS_of (by decide +kernel)
theorem x6_169 : f60c xTc xTys xm_169 = true := by decide +kernel
theorem x6_446 : f60c xTc xTys xm_446 = true := by decide +kernel
theorem x6_447 : f60c xTc xTys xm_447 = true := by decide +kernel
abbrev wz_663b8 : List Nat := [20830]
theorem rL_741_741_4400_4495_12_11 : frL gJ bsJ 100 ((741, 741), (4400, 4495), (12, 11), (0, 3)) := frL_of (by decide +kernel)
theorem rS_741_741_4400_4495_12_11 : frS gJ bsJ znJ [20830] 100 ((741, 741), (4400, 4495), (12, 11), (0, 3)) := frS_of (by decide +kernel)
theorem x6_445 : f60c xTc xTys xm_445 = true := by decide +kernel
theorem x6_172 : f60c xTc xTys xm_172 = true := by decide +kernel
theorem rL_221_221_0_7_1_0 : frL gJ bsJ 100 ((221, 221), (0, 7), (1, 0), ((-1), 3)) := frL_of (by decide +kernel)
theorem x6_171 : f60c xTc xTys xm_171 = true := by decide +kernel
theorem x6_499 : f60c xTc xTys xm_499 = true := by decide +kernel
abbrev wz_ae6a8 : List Nat := [221]
theorem x6_170 : f60c xTc xTys xm_170 = true := by decide +kernel
theorem rS_221_221_0_7_1_0 : frS gJ bsJ znJ [221] 100 ((221, 221), (0, 7), (1, 0), ((-1), 3)) := frS_of (by decide +kernel)
theorem x6_450 : f60c xTc xTys xm_450 = true := by decide +kernel
theorem x6_449 : f60c xTc xTys xm_449 = true := by decide +kernel
theorem rL_741_741_4500_4507_1_0 : frL gJ bsJ 100 ((741, 741), (4500, 4507), (1, 0), ((-1), 3)) := frL_of (by decide +kernel)
abbrev wz_1ea73 : List Nat := [20831]
theorem x6_448 : f60c xTc xTys xm_448 = true := by decide +kernel
theorem rS_741_741_4500_4507_1_0 : frS gJ bsJ znJ [20831] 100 ((741, 741), (4500, 4507), (1, 0), ((-1), 3)) := frS_of (by decide +kernel)
theorem x6_175 : f60c xTc xTys xm_175 = true := by decide +kernel
theorem x6_174 : f60c xTc xTys xm_174 = true := by decide +kernel
theorem x6_173 : f60c xTc xTys xm_173 = true := by decide +kernel
theorem x6_452 : f60c xTc xTys xm_452 = true := by decide +kernel
theorem x6_451 : f60c xTc xTys xm_451 = true := by decide +kernel
abbrev wz_0e223 : List Nat := [222]
theorem rL_222_222_0_47_1_0 : frL gJ bsJ 100 ((222, 222), (0, 47), (1, 0), (0, 999)) := frL_of (by decide +kernel)
theorem rS_222_222_0_47_1_0 : frS gJ bsJ znJ [222] 100 ((222, 222), (0, 47), (1, 0), (0, 999)) := frS_of (by decide +kernel)
theorem x6_176 : f60c xTc xTys xm_176 = true := by decide +kernel
abbrev wz_c7e2d : List Nat := [20832]
theorem rL_741_741_4510_4557_1_0 : frL gJ bsJ 100 ((741, 741), (4510, 4557), (1, 0), (0, 999)) := frL_of (by decide +kernel)
theorem rS_741_741_4510_4557_1_0 : frS gJ bsJ znJ [20832] 100 ((741, 741), (4510, 4557), (1, 0), (0, 999)) := frS_of (by decide +kernel)
theorem x6_453 : f60c xTc xTys xm_453 = true := by decide +kernel
theorem x6_182 : f60c xTc xTys xm_182 = true := by decide +kernel
theorem fb_727_6 : bsJ 727 6 = (0, 48) := by decide +kernel
theorem rL_728_728_0_23_1_0 : frL gJ bsJ 100 ((728, 728), (0, 23), (1, 0), ((-2147483648), 2147483647)) := frL_hull (by decide) (by decide +kernel)
theorem rL_729_729_0_23_1_0 : frL gJ bsJ 100 ((729, 729), (0, 23), (1, 0), ((-2147483648), 2147483647)) := frL_hull (by decide) (by decide +kernel)
theorem rL_731_731_1_48_1_0 : frL gJ bsJ 100 ((731, 731), (1, 48), (1, 0), ((-2147483648), 2147483647)) := frL_hull (by decide) (by decide +kernel)
theorem rL_731_731_0_47_1_0 : frL gJ bsJ 100 ((731, 731), (0, 47), (1, 0), ((-2147483648), 2147483647)) := frL_hull (by decide) (by decide +kernel)
theorem fb_727_7 : bsJ 727 7 = ((-2147483648), 2147483647) := by decide +kernel
abbrev wz_01654 : List Nat := [730]
theorem x6_181 : f60c xTc xTys xm_181 = true := by decide +kernel
theorem rS_730_730_0_23_1_0 : frS gJ bsJ znJ [730] 100 ((730, 730), (0, 23), (1, 0), ((-2147483648), 2147483647)) := frS_dflt (by decide) (by decide +kernel)
abbrev wz_f185d : List Nat := [728, 730]
theorem x6_183 : f60c xTc xTys xm_183 = true := by decide +kernel
theorem rS_728_728_0_23_1_0 : frS gJ bsJ znJ [728] 100 ((728, 728), (0, 23), (1, 0), ((-2147483648), 2147483647)) := frS_dflt (by decide) (by decide +kernel)
theorem rL_730_730_0_23_1_0 : frL gJ bsJ 100 ((730, 730), (0, 23), (1, 0), ((-2147483648), 2147483647)) := frL_hull (by decide) (by decide +kernel)
section CT
variable {ρ : Nat → Int32} {base n : Nat} {F : Nat → Prop} {D : va_G} {dA : Nat → ClassId} {la : Launch}
set_option maxRecDepth 8000 in
theorem ct_M_shed_c99a1 {I : fH}  (h0 : fB bsJ I) (hp0 : sI I 741) (hp1 : okL (mLw 741 I)) (hp2 : okE 741 I) : fC ρ base n F xTc vwCl xTys D dA la gJ (fbz bsJ znJ (fKc wz_fdfa3) I) xm_436 [.inr (.inr (some 740))] I (fun I' r => ∃ z, r = some (.inl z) ∧ ((0 ≤ z ∧ z ≤ 23) ∨ z = (-1000000002)) ∧ ((mR I', z) = oShed (mR I) (mLw 741 I))) := by
  have hW : fzs wz_fdfa3 (fKc wz_fdfa3) := fKc_ok _
  refine f_meth (rb := rbJ) (J := []) 1 400 xG xin_436 x6_436 okJ (fB_self h0) ?_ ?_
  · exact fun q h => absurd h List.not_mem_nil
  · have hB0 := fB_self (zn := znJ) (K := fKc wz_fdfa3) h0
    refine Exists.intro xm_434 (And.intro mi_434 (And.intro ⟨rfl, rfl, rfl, rfl⟩ (And.intro rfl ?_)))
    refine fcall _ h0 (fzs_sub (by decide +kernel) hW) hB0 (ct_M_findShed_fb485 (fBz h0 hB0) (sI_keep hp0 h0 hB0 (by decide +kernel)) hp1 hp2) ?_
    rintro IhB2 _ hB2 fhB2 ⟨z1, rfl, hz1, g0z1, g1z1, g2z1⟩
    refine And.intro (by first | exact fi_ hz1.1 hz1.2 rfl | omega) (And.intro ?_ ?_)
    · intro c3
      refine And.intro ⟨rfl, by decide, by decide⟩ ?_
      refine fload1 rL_751_751_0_23_1_0 h0 hB2 ⟨by decide, by decide⟩ (by first | exact ⟨by decide, by decide⟩ | omega) ?_
      intro z4 lz4 uz4 qz4
      have pz4 := fld_at qz4 0 (by omega)
      have P0 := od_e (k := 0) g1z1 (by omega) (by omega) qz4
      refine Exists.intro xm_244 (And.intro mi_244 (And.intro ⟨rfl, rfl, rfl, rfl⟩ (And.intro rfl ?_)))
      refine fcallp hB2 (ct_M_workAt_83d38 (fBz h0 hB2) (by first | exact ⟨lz4, uz4⟩ | omega)) ?_
      rintro _ ⟨_, rfl, rfl⟩
      refine And.intro ⟨rfl, by decide, by decide⟩ ?_
      refine fstore rS_741_741_538_860_14_0 (fzs_sub (by decide +kernel) hW) (by omega) (by first | exact ⟨by decide, by decide⟩ | omega) ?_
      intro IhB6 ehB6 hB6
      have t7 := fup_self ehB6
      have t8 : IhB6 751 0 = IhB2 751 0 := (congrFun (congrFun ehB6 751) 0).trans (fup_ne (by first | exact Or.inl (by decide) | omega))
      have r32 := mS_r (i0 := 538) (i1 := 860) (m := 14) (q := 0) (by decide +kernel) ehB6 (by omega) rfl
      refine And.intro ⟨rfl, by decide, by decide⟩ ?_
      refine fload rL_741_741_530_852_14_0 h0 hB6 (by omega) ?_
      intro z9 lz9 uz9 qz9
      have v40 := mL_r (i0 := 530) (i1 := 852) (m := 14) (q := 0) (by decide +kernel) qz9 (by omega) rfl
      rw [r32, g2z1] at v40
      refine And.intro (And.intro (by first | exact fi_ lz9 uz9 rfl | omega) (by first | exact ⟨by decide, by decide⟩ | omega)) (And.intro ?_ ?_)
      · intro c10
        refine And.intro (True.intro) ?_
        exact ⟨_, rfl, by omega, (shd_y P0 (by omega) (by rw [r32, g2z1]; exact shd_0 (k := z9) (gt_n (by omega) (by omega) (gt_at v40 (show _ = 530 + 14 * z4 by omega))) (by omega) (by omega) (by omega)) rfl)⟩
      · intro c11
        refine And.intro ⟨rfl, by decide, by decide⟩ ?_
        refine And.intro ⟨rfl, by decide, by decide⟩ ?_
        refine fload rL_741_741_531_853_14_0 h0 hB6 (by omega) ?_
        intro z12 lz12 uz12 qz12
        have v57 := mL_r (i0 := 531) (i1 := 853) (m := 14) (q := 0) (by decide +kernel) qz12 (by omega) rfl
        rw [r32, g2z1] at v57
        refine Exists.intro xm_239 (And.intro mi_239 (And.intro ⟨rfl, rfl, rfl, rfl⟩ (And.intro rfl ?_)))
        refine fcallp hB6 (ct_M_cellAt_c15f4 (fBz h0 hB6) (by first | exact ⟨lz12, uz12⟩ | omega)) ?_
        rintro _ ⟨_, rfl, rfl⟩
        refine fload rL_741_741_38_418_20_0 h0 hB6 (by omega) ?_
        intro z14 lz14 uz14 qz14
        have v67 := mL_r (i0 := 38) (i1 := 418) (m := 20) (q := 0) (by decide +kernel) qz14 (by omega) rfl
        rw [r32, g2z1] at v67
        refine And.intro ⟨rfl, by decide, by decide⟩ ?_
        refine fload rL_741_741_536_858_14_0 h0 hB6 (by omega) ?_
        intro z15 lz15 uz15 qz15
        have v76 := mL_r (i0 := 536) (i1 := 858) (m := 14) (q := 0) (by decide +kernel) qz15 (by omega) rfl
        rw [r32, g2z1] at v76
        intro z16 hz16 ez16 bz16
        try replace bz16 := bz16 (by omega)
        refine fstore rS_741_741_38_418_20_0 (fzs_sub (by decide +kernel) hW) (by omega) (by omega) ?_
        intro IhB17 ehB17 hB17
        have t18 := fup_self ehB17
        have t19 : IhB17 751 0 = IhB6 751 0 := (congrFun (congrFun ehB17 751) 0).trans (fup_ne (by first | exact Or.inl (by decide) | omega))
        have r78 := mS_r (i0 := 38) (i1 := 418) (m := 20) (q := 0) (by decide +kernel) ehB17 (by omega) rfl
        refine And.intro ⟨rfl, by decide, by decide⟩ ?_
        refine fstore rS_741_741_536_858_14_0 (fzs_sub (by decide +kernel) hW) (by omega) (by first | exact ⟨by decide, by decide⟩ | omega) ?_
        intro IhB20 ehB20 hB20
        have t21 := fup_self ehB20
        have t22 : IhB20 751 0 = IhB17 751 0 := (congrFun (congrFun ehB20 751) 0).trans (fup_ne (by first | exact Or.inl (by decide) | omega))
        have r88 := mS_r (i0 := 536) (i1 := 858) (m := 14) (q := 0) (by decide +kernel) ehB20 (by omega) rfl
        refine And.intro (True.intro) ?_
        exact ⟨_, rfl, by omega, (shd_y P0 (by omega) (by rw [r88, r78, r32, g2z1]; exact shd_m (k := z9) (by omega) (by omega) (gt_n (by omega) (by omega) (gt_at v40 (show _ = 530 + 14 * z4 by omega))) (by omega) v57 (by omega) (by omega) (by omega) v67 (by omega) v76 (by omega) (wr_add hz16 ez16) (by omega)) rfl)⟩
    · intro c23
      refine And.intro (True.intro) ?_
      exact ⟨_, rfl, by omega, (shd_n (od_n (by omega) rfl) (by omega) (by rw [g2z1]) rfl)⟩
abbrev jc_X_enough_1540b_29 (I0 : fH) : Nat → fL → List fV → fH → Prop := fun m lv st I => ∃ (y1 : Int) (y2 : Int) (y3 : Int), lv = [(0, .inr (.inr (some 0))), (1, .inl y1), (2, .inl y2), (3, .inl y3)] ∧ st = [] ∧ ((((-249972500) ≤ y1 ∧ y1 ≤ 239973600) ∧ ((-2499975) ≤ y2 ∧ y2 ≤ 1091415) ∧ (0 ≤ y3 ∧ y3 ≤ 25) ∧ (y1 ≤ 239973600) ∧ (-9998900 * y3 ≤ y1) ∧ (y2 ≤ 1091415) ∧ (-99999 * y3 ≤ y2)) ∧ (srI (sRk (cR 0 I0) (cLw 0 I0)) (gt (cR 0 I0) 7).toNat (I 210) y3) ∧ (enF (sWg (cR 0 I0)) (sLi (cR 0 I0)) (od (sRk (cR 0 I0) (cLw 0 I0)) (gt (cR 0 I0) 7).toNat) 25 0 (sWeight (cR 0 I0) - sLift (cR 0 I0)) = enF (sWg (cR 0 I0)) (sLi (cR 0 I0)) (od (sRk (cR 0 I0) (cLw 0 I0)) (gt (cR 0 I0) 7).toNat) (25 - y3).toNat y3 (y2 - y1))) ∧ m = (1 + 1 * (25 - y3) : Int).toNat
set_option maxRecDepth 8000 in
theorem ct_X_enough_1540b {I : fH}  (h0 : fB bsJ I) (hp0 : okL (cLw 0 I)) (hp1 : okA (cR 0 I)) : fC ρ base n F xTc vwCl xTys D dA la gJ (fbz bsJ znJ (fKc wz_b4fc8) I) xm_155 [.inr (.inr (some 0))] I (fun I' r => ∃ z, r = some (.inl z) ∧ ((0 ≤ z ∧ z ≤ 24) ∨ z = (-1000000002)) ∧ (z = oEnough (cR 0 I) (cLw 0 I)) ∧ (cR 0 I' = cR 0 I)) := by
  have hW : fzs wz_b4fc8 (fKc wz_b4fc8) := fKc_ok _
  refine f_meth (rb := rbJ) (J := [(29, (jc_X_enough_1540b_29 I))]) 27 400 xG xin_155 x6_155 okJ (fB_self h0) ?_ ?_
  · refine List.forall_mem_cons.mpr ⟨?_, fun q h => absurd h List.not_mem_nil⟩
    · rintro m _ _ I1 hB1 ⟨y1, y2, y3, rfl, rfl, ⟨hb, hx0, hx1⟩, hm⟩
      have b1 := fBd fb_163_13 (fBz h0 hB1)
      have eR : cR 0 I1 = cR 0 I := cR_fr (d := 0) cZ0_ok (fFr_of hB1) (by decide +kernel)
      skip
      have w907 : I 163 13 = gt (cR 0 I) 7 := (cL_f (d := 0) (a := 163) (j := 13) (r := 7) (p := 7) (I := I) (z := I 163 13) (by decide +kernel) (by decide) rfl rfl)
      have b907 := fBd fb_163_13 h0
      refine And.intro (And.intro (by first | exact fi_ hb.2.2.1.1 hb.2.2.1.2 rfl | omega) (by first | exact ⟨by decide, by decide⟩ | omega)) (And.intro ?_ ?_)
      · intro c2
        refine And.intro (True.intro) ?_
        exact ⟨_, rfl, by omega, ((enF_0 (by omega) (by omega)).trans hx1.symm), (cR_fr (d := 0) cZ0_ok (fFr_of hB1) (by decide +kernel))⟩
      · intro c3
        refine And.intro (And.intro (by first | exact fi_ hb.1.1 hb.1.2 rfl | omega) (by first | exact fi_ hb.2.1.1 hb.2.1.2 rfl | omega)) (And.intro ?_ ?_)
        · intro c4
          refine And.intro ⟨rfl, by decide, by decide⟩ ?_
          refine And.intro ⟨rfl, by decide, by decide⟩ ?_
          refine Exists.intro xm_152 (And.intro mi_152 (And.intro ⟨rfl, rfl, rfl, rfl⟩ (And.intro rfl ?_)))
          refine fcall _ h0 (fzs_sub (by decide +kernel) hW) hB1 (ct_Charter_nextShed_baa16 (fBz h0 hB1)) ?_
          rintro IhB6 _ hB6 fhB6 ⟨z5, rfl, hz5, g0z5, g1z5⟩
          rw [eR] at g0z5
          have P1 := pk_od (j := y3) (j' := y3 + 1) hx0 g0z5 (by omega) rfl
          refine And.intro (by omega) (And.intro ?_ ?_)
          · intro c7
            refine And.intro ⟨rfl, by decide, by decide⟩ ?_
            refine Exists.intro xm_63 (And.intro mi_63 (And.intro ⟨rfl, rfl, rfl, rfl⟩ (And.intro rfl ?_)))
            refine fcallp hB6 (ct_City_liftOf_26d0e (fBz h0 hB6) (by omega)) ?_
            rintro _ ⟨z8, rfl, hz8, g0z8⟩
            try rw [g1z5, eR] at g0z8
            intro z9 hz9 ez9 bz9
            clear ez9
            have bz9 := bz9 (by omega)
            refine And.intro ⟨rfl, by decide, by decide⟩ ?_
            refine And.intro ⟨rfl, by decide, by decide⟩ ?_
            refine Exists.intro xm_68 (And.intro mi_68 (And.intro ⟨rfl, rfl, rfl, rfl⟩ (And.intro rfl ?_)))
            refine fcallp hB6 (ct_Works_weightOf_e689a (fBz h0 hB6) (by omega) (by rw [g1z5, eR]; exact hp1)) ?_
            rintro _ ⟨z10, rfl, hz10, g0z10⟩
            try rw [g1z5, eR] at g0z10
            intro z11 hz11 ez11 bz11
            clear ez11
            have bz11 := bz11 (by omega)
            exact fcutJ (I := IhB6) (j := (jc_X_enough_1540b_29 I)) (lv' := [(0, .inr (.inr (some 0))), (1, .inl _), (2, .inl _), (3, .inl _)]) (And.intro rfl (And.intro rfl (And.intro rfl (And.intro rfl True.intro)))) ⟨_, _, _, rfl, rfl, ⟨by omega, (P1.2.elim (fun q => absurd q.1 (by omega)) (fun q => q.2.2)), (enF_S hx1 (by omega) (by omega) P1.1 (by omega) g0z10 g0z8 (by omega) (by omega) (by omega))⟩, rfl⟩ (by omega)
          · intro c12
            refine And.intro (True.intro) ?_
            exact ⟨_, rfl, by omega, ((enF_n (by omega) P1.1 (by omega) (by omega)).trans hx1.symm), (cR_fr (d := 0) cZ0_ok (fFr_of hB6) (by decide +kernel))⟩
        · intro c13
          refine And.intro (True.intro) ?_
          exact ⟨_, rfl, by omega, ((enF_y (by omega) (by omega) (by omega)).trans hx1.symm), (cR_fr (d := 0) cZ0_ok (fFr_of hB1) (by decide +kernel))⟩
  · have hB0 := fB_self (zn := znJ) (K := fKc wz_b4fc8) h0
    have b14 := fBd fb_163_13 (fBz h0 hB0)
    have w907 : I 163 13 = gt (cR 0 I) 7 := (cL_f (d := 0) (a := 163) (j := 13) (r := 7) (p := 7) (I := I) (z := I 163 13) (by decide +kernel) (by decide) rfl rfl)
    refine And.intro ⟨rfl, by decide, by decide⟩ ?_
    refine And.intro ⟨rfl, by decide, by decide⟩ ?_
    refine Exists.intro xm_149 (And.intro mi_149 (And.intro ⟨rfl, rfl, rfl, rfl⟩ (And.intro rfl ?_)))
    refine fcall _ h0 (fzs_sub (by decide +kernel) hW) hB0 (ct_Charter_rankSheds_09e4d (fBz h0 hB0) hp0) ?_
    rintro IhB16 _ hB16 fhB16 ⟨rfl, hz15, g0z15, g1z15⟩
    have s0 : srI (sRk (cR 0 I) (cLw 0 I)) (gt (cR 0 I) 7).toNat (IhB16 210) 0 := sr_0 (fun i l => g0z15 i (by omega)) rfl
    refine And.intro ⟨rfl, by decide, by decide⟩ ?_
    refine Exists.intro xm_62 (And.intro mi_62 (And.intro ⟨rfl, rfl, rfl, rfl⟩ (And.intro rfl ?_)))
    refine fcallp hB16 (ct_City_lift_641ac (fBz h0 hB16)) ?_
    rintro _ ⟨z17, rfl, hz17, g0z17⟩
    try rw [g1z15] at g0z17
    refine And.intro ⟨rfl, by decide, by decide⟩ ?_
    refine Exists.intro xm_65 (And.intro mi_65 (And.intro ⟨rfl, rfl, rfl, rfl⟩ (And.intro rfl ?_)))
    refine fcallp hB16 (ct_City_weight_75fdd (fBz h0 hB16) (by rw [g1z15]; exact hp1)) ?_
    rintro _ ⟨z18, rfl, hz18, g0z18⟩
    try rw [g1z15] at g0z18
    exact fcutJ (I := IhB16) (j := (jc_X_enough_1540b_29 I)) (lv' := [(0, .inr (.inr (some 0))), (1, .inl _), (2, .inl _), (3, .inl _)]) (And.intro rfl (And.intro rfl (And.intro rfl (And.intro rfl True.intro)))) ⟨_, _, _, rfl, rfl, ⟨by omega, s0, (by rw [g0z18, g0z17]; rfl)⟩, rfl⟩ (by omega)
abbrev jc_M_enough_96175_18 (I0 : fH) : Nat → fL → List fV → fH → Prop := fun m lv st I => ∃ (y1 : Int) (y2 : Int) (y4 : Int), lv = [(0, .inr (.inr (some 740))), (1, .inl y1), (2, .inr (.inl y2)), (4, .inl y4)] ∧ st = [] ∧ (((0 ≤ y1 ∧ y1 ≤ 24) ∧ ((-242373576) ≤ y2 ∧ y2 ≤ 241065015) ∧ (0 ≤ y4 ∧ y4 ≤ 24) ∧ (y2 ≤ 1091415 + 9998900 * y4) ∧ (-239973600 - 99999 * y4 ≤ y2)) ∧ (y1 = cp (sRk (mR I0) (mLw 741 I0)) (gt (mR I0) 7).toNat) ∧ (enI (sRk (mR I0) (mLw 741 I0)) (gt (mR I0) 7).toNat y1.toNat (I 751) (I 752)) ∧ (enF (sWg (mR I0)) (sLi (mR I0)) (od (sRk (mR I0) (mLw 741 I0)) (gt (mR I0) 7).toNat) 25 0 (sWeight (mR I0) - sLift (mR I0)) = enF (sWg (mR I0)) (sLi (mR I0)) (od (sRk (mR I0) (mLw 741 I0)) (gt (mR I0) 7).toNat) (25 - y4).toNat y4 y2)) ∧ m = (1 + 1 * (24 - y4) : Int).toNat
set_option maxRecDepth 8000 in
theorem ct_M_enough_96175 {I : fH}  (h0 : fB bsJ I) (hp0 : sI I 741) (hp1 : okL (mLw 741 I)) (hp2 : okE 741 I) : fC ρ base n F xTc vwCl xTys D dA la gJ (fbz bsJ znJ (fKc wz_c83f0) I) xm_437 [.inr (.inr (some 740))] I (fun I' r => ∃ z, r = some (.inl z) ∧ ((0 ≤ z ∧ z ≤ 24) ∨ z = (-1000000002)) ∧ (z = oEnough (mR I) (mLw 741 I)) ∧ (mR I' = mR I)) := by
  have hW : fzs wz_c83f0 (fKc wz_c83f0) := fKc_ok _
  refine f_meth (rb := rbJ) (J := [(18, (jc_M_enough_96175_18 I))]) 26 400 xG xin_437 x6_437 okJ (fB_self h0) ?_ ?_
  · refine List.forall_mem_cons.mpr ⟨?_, fun q h => absurd h List.not_mem_nil⟩
    · rintro m _ _ I1 hB1 ⟨y1, y2, y4, rfl, rfl, ⟨hb, hx0, hx1, hx2⟩, hm⟩
      have eR : mR I1 = mR I := mR_fr (fFr_of hB1) (by decide +kernel)
      skip
      have w907 : I 741 7 = gt (mR I) 7 := (show I 741 7 = gt (mR I) 7 from (mR_ld (I := I) (k := 7) (by decide +kernel)).symm)
      have b907 := fBd fb_741_7 h0
      refine And.intro (And.intro (by first | exact fi_ hb.2.2.1.1 hb.2.2.1.2 rfl | omega) (by first | exact fi_ hb.1.1 hb.1.2 rfl | omega)) (And.intro ?_ ?_)
      · intro c1
        refine And.intro (And.intro (by first | exact fl_ hb.2.1.1 hb.2.1.2 rfl | omega) (by first | exact ⟨by decide, by decide⟩ | omega)) ?_
        intro z2 hz2
        refine And.intro (by omega) (And.intro ?_ ?_)
        · intro c3
          refine And.intro (True.intro) ?_
          exact ⟨_, rfl, by omega, ((enF_y (by omega) (by omega) (by omega)).trans hx2.symm), (mR_fr (fFr_of hB1) (by decide +kernel))⟩
        · intro c4
          refine And.intro (True.intro) ?_
          exact ⟨_, rfl, by omega, ((enF_n (w := -1000000005) (by omega) (od_n (by omega) rfl) (by omega) (by omega)).trans hx2.symm), (mR_fr (fFr_of hB1) (by decide +kernel))⟩
      · intro c5
        refine And.intro (And.intro (by first | exact fl_ hb.2.1.1 hb.2.1.2 rfl | omega) (by first | exact ⟨by decide, by decide⟩ | omega)) ?_
        intro z6 hz6
        refine And.intro (by omega) (And.intro ?_ ?_)
        · intro c7
          refine And.intro (And.intro (by first | exact fl_ hb.2.1.1 hb.2.1.2 rfl | omega) (by first | exact ⟨by decide, by decide⟩ | omega)) ?_
          intro z8 hz8
          refine And.intro (by omega) (And.intro ?_ ?_)
          · intro c9
            refine And.intro (True.intro) ?_
            exact ⟨_, rfl, by omega, ((enF_y (by omega) (by omega) (by omega)).trans hx2.symm), (mR_fr (fFr_of hB1) (by decide +kernel))⟩
          · intro c10
            refine And.intro (True.intro) ?_
            exact ⟨_, rfl, by omega, ((enF_n (w := -1000000005) (by omega) (od_n (by omega) rfl) (by omega) (by omega)).trans hx2.symm), (mR_fr (fFr_of hB1) (by decide +kernel))⟩
        · intro c11
          refine And.intro ⟨rfl, by decide, by decide⟩ ?_
          refine fload1 rL_751_751_0_23_1_0 h0 hB1 ⟨by decide, by decide⟩ (by first | exact ⟨hb.2.2.1.1, Int.le_trans (Int.le_sub_one_of_lt (Int.lt_of_lt_of_le c5 hb.1.2)) (by decide)⟩ | omega) ?_
          intro z12 lz12 uz12 qz12
          have P1 := od_e (k := y4) hx1 (by omega) (by omega) qz12
          have a1 := od_live P1 (by omega)
          have b1 : 0 ≤ gt (mR I) (538 + 14 * z12) ∧ gt (mR I) (538 + 14 * z12) ≤ 1 := (mR_rng (i0 := 538) (i1 := 860) (m := 14) (q := 0) (lo := 0) (hi := 1) (by decide +kernel) h0 (by omega))
          refine Exists.intro xm_244 (And.intro mi_244 (And.intro ⟨rfl, rfl, rfl, rfl⟩ (And.intro rfl ?_)))
          refine fcallp hB1 (ct_M_workAt_83d38 (fBz h0 hB1) (by first | exact ⟨lz12, uz12⟩ | omega)) ?_
          rintro _ ⟨_, rfl, rfl⟩
          refine And.intro ⟨rfl, by decide, by decide⟩ ?_
          refine fload rL_741_741_539_861_14_0 h0 hB1 (by omega) ?_
          intro z14 lz14 uz14 qz14
          have v53 := mL_r (i0 := 539) (i1 := 861) (m := 14) (q := 0) (by decide +kernel) qz14 (by omega) rfl
          rw [eR] at v53
          refine And.intro (by first | exact fi_ lz14 uz14 rfl | omega) (And.intro ?_ ?_)
          · intro c15
            intro z16 hz16 ez16 bz16
            refine And.intro ⟨rfl, by decide, by decide⟩ ?_
            refine fload rL_741_741_530_852_14_0 h0 hB1 (by omega) ?_
            intro z17 lz17 uz17 qz17
            have v82 := mL_r (i0 := 530) (i1 := 852) (m := 14) (q := 0) (by decide +kernel) qz17 (by omega) rfl
            rw [eR] at v82
            refine And.intro (And.intro (by first | exact fi_ lz17 uz17 rfl | omega) (by first | exact ⟨by decide, by decide⟩ | omega)) (And.intro ?_ ?_)
            · intro c18
              intro z19 hz19 ez19 bz19
              exact fcutJ (I := I1) (j := (jc_M_enough_96175_18 I)) (lv' := [(0, .inr (.inr (some 740))), (1, .inl _), (2, .inr (.inl _)), (4, .inl _)]) (And.intro rfl (And.intro rfl (And.intro rfl (And.intro rfl True.intro)))) ⟨_, _, _, rfl, rfl, ⟨by omega, hx0, hx1, (enF_S hx2 (by omega) (by omega) P1 (by omega) (sWg_n (w := z12) (z := 0) (by omega) (Or.inr (by have q := gt_at v53 (show _ = 539 + 14 * z12 by omega); omega)) rfl) (sLi_n (w := z12) (z := 0) (by omega) (fun q => by have q1 := q.1; have q2 := gt_at v82 (show _ = 530 + 14 * z12 by omega); omega) b1 rfl) (by omega) (by omega) (by omega))⟩, rfl⟩ (by omega)
            · intro c20
              refine And.intro ⟨rfl, by decide, by decide⟩ ?_
              refine fload rL_741_741_536_858_14_0 h0 hB1 (by omega) ?_
              intro z21 lz21 uz21 qz21
              have v96 := mL_r (i0 := 536) (i1 := 858) (m := 14) (q := 0) (by decide +kernel) qz21 (by omega) rfl
              rw [eR] at v96
              refine And.intro (by first | exact fi_ lz21 uz21 rfl | omega) ?_
              refine Exists.intro xm_281 (And.intro mi_281 (And.intro ⟨rfl, rfl, rfl, rfl⟩ (And.intro rfl ?_)))
              refine fcallp hB1 (ct_M_table_49021 (fBz h0 hB1) (by omega)) ?_
              rintro _ ⟨z22, rfl, hz22, g0z22⟩
              try rw [eR] at g0z22
              refine And.intro (by first | exact fi_ hz22.1 hz22.2 rfl | omega) ?_
              intro z23 hz23 ez23 bz23
              have m104 := mul_rng lz21 uz21 (y := z22) (B := 9999) (by omega) (by omega)
              have k104 := bz23 ⟨by omega, by omega⟩
              refine And.intro (And.intro (by omega) (by omega)) ?_
              intro z24 hz24 ez24
              have d108 := xldv_t (by omega) (by omega) (by decide) hz24 ez24
              rw [Int.tdiv_eq_ediv_of_nonneg (by omega)] at d108
              intro z25 hz25 ez25 bz25
              exact fcutJ (I := I1) (j := (jc_M_enough_96175_18 I)) (lv' := [(0, .inr (.inr (some 740))), (1, .inl _), (2, .inr (.inl _)), (4, .inl _)]) (And.intro rfl (And.intro rfl (And.intro rfl (And.intro rfl True.intro)))) ⟨_, _, _, rfl, rfl, ⟨by omega, hx0, hx1, (enF_S hx2 (by omega) (by omega) P1 (by omega) (sWg_n (w := z12) (z := 0) (by omega) (Or.inr (by have q := gt_at v53 (show _ = 539 + 14 * z12 by omega); omega)) rfl) (sLi_y (w := z12) (by omega) (by have q := gt_at v82 (show _ = 530 + 14 * z12 by omega); omega) (by omega) v96 (by omega) g0z22 k104 d108) (by omega) (by omega) (by omega))⟩, rfl⟩ (by omega)
          · intro c26
            refine And.intro ⟨rfl, by decide, by decide⟩ ?_
            refine fload rL_741_741_532_854_14_0 h0 hB1 (by omega) ?_
            intro z27 lz27 uz27 qz27
            have v65 := mL_r (i0 := 532) (i1 := 854) (m := 14) (q := 0) (by decide +kernel) qz27 (by omega) rfl
            rw [eR] at v65
            refine And.intro (by first | exact fi_ lz27 uz27 rfl | omega) ?_
            intro z28 hz28 ez28 bz28
            refine And.intro ⟨rfl, by decide, by decide⟩ ?_
            refine fload rL_741_741_530_852_14_0 h0 hB1 (by omega) ?_
            intro z29 lz29 uz29 qz29
            have v82 := mL_r (i0 := 530) (i1 := 852) (m := 14) (q := 0) (by decide +kernel) qz29 (by omega) rfl
            rw [eR] at v82
            refine And.intro (And.intro (by first | exact fi_ lz29 uz29 rfl | omega) (by first | exact ⟨by decide, by decide⟩ | omega)) (And.intro ?_ ?_)
            · intro c30
              intro z31 hz31 ez31 bz31
              exact fcutJ (I := I1) (j := (jc_M_enough_96175_18 I)) (lv' := [(0, .inr (.inr (some 740))), (1, .inl _), (2, .inr (.inl _)), (4, .inl _)]) (And.intro rfl (And.intro rfl (And.intro rfl (And.intro rfl True.intro)))) ⟨_, _, _, rfl, rfl, ⟨by omega, hx0, hx1, (enF_S hx2 (by omega) (by omega) P1 (by omega) (sWg_y (w := z12) (by omega) (by omega) (by have q := gt_at v53 (show _ = 539 + 14 * z12 by omega); omega) v65 (by omega)) (sLi_n (w := z12) (z := 0) (by omega) (fun q => by have q1 := q.1; have q2 := gt_at v82 (show _ = 530 + 14 * z12 by omega); omega) b1 rfl) (by omega) (by omega) (by omega))⟩, rfl⟩ (by omega)
            · intro c32
              refine And.intro ⟨rfl, by decide, by decide⟩ ?_
              refine fload rL_741_741_536_858_14_0 h0 hB1 (by omega) ?_
              intro z33 lz33 uz33 qz33
              have v96 := mL_r (i0 := 536) (i1 := 858) (m := 14) (q := 0) (by decide +kernel) qz33 (by omega) rfl
              rw [eR] at v96
              refine And.intro (by first | exact fi_ lz33 uz33 rfl | omega) ?_
              refine Exists.intro xm_281 (And.intro mi_281 (And.intro ⟨rfl, rfl, rfl, rfl⟩ (And.intro rfl ?_)))
              refine fcallp hB1 (ct_M_table_49021 (fBz h0 hB1) (by omega)) ?_
              rintro _ ⟨z34, rfl, hz34, g0z34⟩
              try rw [eR] at g0z34
              refine And.intro (by first | exact fi_ hz34.1 hz34.2 rfl | omega) ?_
              intro z35 hz35 ez35 bz35
              have m104 := mul_rng lz33 uz33 (y := z34) (B := 9999) (by omega) (by omega)
              have k104 := bz35 ⟨by omega, by omega⟩
              refine And.intro (And.intro (by omega) (by omega)) ?_
              intro z36 hz36 ez36
              have d108 := xldv_t (by omega) (by omega) (by decide) hz36 ez36
              rw [Int.tdiv_eq_ediv_of_nonneg (by omega)] at d108
              intro z37 hz37 ez37 bz37
              exact fcutJ (I := I1) (j := (jc_M_enough_96175_18 I)) (lv' := [(0, .inr (.inr (some 740))), (1, .inl _), (2, .inr (.inl _)), (4, .inl _)]) (And.intro rfl (And.intro rfl (And.intro rfl (And.intro rfl True.intro)))) ⟨_, _, _, rfl, rfl, ⟨by omega, hx0, hx1, (enF_S hx2 (by omega) (by omega) P1 (by omega) (sWg_y (w := z12) (by omega) (by omega) (by have q := gt_at v53 (show _ = 539 + 14 * z12 by omega); omega) v65 (by omega)) (sLi_y (w := z12) (by omega) (by have q := gt_at v82 (show _ = 530 + 14 * z12 by omega); omega) (by omega) v96 (by omega) g0z34 k104 d108) (by omega) (by omega) (by omega))⟩, rfl⟩ (by omega)
  · have hB0 := fB_self (zn := znJ) (K := fKc wz_c83f0) h0
    have w907 : I 741 7 = gt (mR I) 7 := (show I 741 7 = gt (mR I) 7 from (mR_ld (I := I) (k := 7) (by decide +kernel)).symm)
    refine Exists.intro xm_434 (And.intro mi_434 (And.intro ⟨rfl, rfl, rfl, rfl⟩ (And.intro rfl ?_)))
    refine fcall _ h0 (fzs_sub (by decide +kernel) hW) hB0 (ct_M_findShed_fb485 (fBz h0 hB0) (sI_keep hp0 h0 hB0 (by decide +kernel)) hp1 hp2) ?_
    rintro IhB39 _ hB39 fhB39 ⟨z38, rfl, hz38, g0z38, g1z38, g2z38⟩
    refine Exists.intro xm_282 (And.intro mi_282 (And.intro ⟨rfl, rfl, rfl, rfl⟩ (And.intro rfl ?_)))
    refine fcallp hB39 (ct_M_weight_47499 (fBz h0 hB39)) ?_
    rintro _ ⟨z40, rfl, hz40, g0z40⟩
    try rw [g2z38] at g0z40
    refine Exists.intro xm_280 (And.intro mi_280 (And.intro ⟨rfl, rfl, rfl, rfl⟩ (And.intro rfl ?_)))
    refine fcallp hB39 (ct_M_lift_1d7b0 (fBz h0 hB39)) ?_
    rintro _ ⟨z41, rfl, hz41, g0z41⟩
    try rw [g2z38] at g0z41
    intro z42 hz42 ez42 bz42
    exact fcutJ (I := IhB39) (j := (jc_M_enough_96175_18 I)) (lv' := [(0, .inr (.inr (some 740))), (1, .inl _), (2, .inr (.inl _)), (4, .inl _)]) (And.intro rfl (And.intro rfl (And.intro rfl (And.intro rfl True.intro)))) ⟨_, _, _, rfl, rfl, ⟨by omega, g0z38, g1z38, (by rw [← g0z40, ← g0z41]; first | rfl | exact congrArg (enF _ _ _ 25 0) (by omega))⟩, rfl⟩ (by omega)
abbrev jc_Arrays_fill_8f13d_5 (x0 : Nat) (x1 : Int) (I0 : fH) : Nat → fL → List fV → fH → Prop := fun m lv st I => ∃ (y0 : Nat) (y1 : Int) (y2 : Int) (y3 : Int), lv = [(0, .inr (.inr (some y0))), (1, .inl y1), (2, .inl y2), (3, .inl y3)] ∧ st = [] ∧ (((707 ≤ y0 ∧ y0 ≤ 726) ∧ (0 ≤ y1 ∧ y1 ≤ 0) ∧ (0 ≤ y2 ∧ y2 ≤ 30) ∧ (30 ≤ y3 ∧ y3 ≤ 30) ∧ (y1 = x1) ∧ (y0 = x0)) ∧ (∀ a j, I a j = if a = y0 ∧ j < y2.toNat then y1 else I0 a j)) ∧ m = (1 + 1 * (30 - y2) : Int).toNat
set_option maxRecDepth 8000 in
theorem ct_Arrays_fill_8f13d {I : fH} {x0 : Nat} {x1 : Int} (h0 : fB bsJ I) (ha0 : (707 ≤ x0 ∧ x0 ≤ 726)) (ha1 : (0 ≤ x1 ∧ x1 ≤ 0)) : fC ρ base n F xTc vwCl xTys D dA la gJ (fbz bsJ znJ (fKc wz_65950) I) xm_498 [.inr (.inr (some x0)), .inl x1] I (fun I' r => r = none ∧ True ∧ (∀ a j, I' a j = if a = x0 ∧ j < 30 then x1 else I a j)) := by
  have hW : fzs wz_65950 (fKc wz_65950) := fKc_ok _
  refine f_meth (rb := rbJ) (J := [(5, (jc_Arrays_fill_8f13d_5 x0 x1 I))]) 32 400 xG xin_498 x6_498 okJ (fB_self h0) ?_ ?_
  · refine List.forall_mem_cons.mpr ⟨?_, fun q h => absurd h List.not_mem_nil⟩
    · rintro m _ _ I1 hB1 ⟨y0, y1, y2, y3, rfl, rfl, ⟨hb, hx0⟩, hm⟩
      refine And.intro (And.intro (by first | exact fi_ hb.2.2.1.1 hb.2.2.1.2 rfl | omega) (by first | exact fi_ hb.2.2.2.1.1 hb.2.2.2.1.2 rfl | omega)) (And.intro ?_ ?_)
      · intro c1
        exact ⟨rfl, True.intro, (fl_E hx0 (by omega) (by omega) (by omega))⟩
      · intro c2
        refine fstore rS_707_726_0_29_1_0 (fzs_sub (by decide +kernel) hW) (by omega) (by first | exact ⟨Int.le_trans (by decide) hb.2.1.1, Int.le_trans hb.2.1.2 (by decide)⟩ | omega) ?_
        intro IhB3 ehB3 hB3
        have t4 := fup_self ehB3
        exact fcutJ (I := IhB3) (j := (jc_Arrays_fill_8f13d_5 x0 x1 I)) (lv' := [(0, .inr (.inr (some _))), (1, .inl _), (2, .inl _), (3, .inl _)]) (And.intro rfl (And.intro rfl (And.intro rfl (And.intro rfl True.intro)))) ⟨_, _, _, _, rfl, rfl, ⟨by omega, (fl_S hx0 ehB3 (by omega) (by omega) (by omega))⟩, rfl⟩ (by omega)
  · have hB0 := fB_self (zn := znJ) (K := fKc wz_65950) h0
    refine Exists.intro 100 (Exists.intro 30 (And.intro (rgG_707_726 (by omega) (by omega)).1 (And.intro ⟨by decide, by decide, by decide⟩ ?_)))
    exact fcutJ (I := I) (j := (jc_Arrays_fill_8f13d_5 x0 x1 I)) (lv' := [(0, .inr (.inr (some _))), (1, .inl _), (2, .inl _), (3, .inl _)]) (And.intro rfl (And.intro rfl (And.intro rfl (And.intro rfl True.intro)))) ⟨_, _, _, _, rfl, rfl, ⟨by omega, (fl_0 (by omega))⟩, rfl⟩ (by omega)
set_option maxRecDepth 8000 in
theorem ct_Gauges_begin_09be5 {I : fH} {x1 : Int} {x2 : Int} {x3 : Int} (h0 : fB bsJ I) (ha1 : (0 ≤ x1 ∧ x1 ≤ 19)) (ha2 : (0 ≤ x2 ∧ x2 ≤ 1)) (ha3 : (0 ≤ x3 ∧ x3 ≤ 30)) : fC ρ base n F xTc vwCl xTys D dA la gJ (fbz bsJ znJ (fKc wz_12c7f) I) xm_157 [.inr (.inr (some 703)), .inl x1, .inl x2, .inl x3] I (fun _ r => ∃ z, r = some (.inl z) ∧ ((0 ≤ z ∧ z ≤ 30) ∧ (z = x3))) := by
  have hW : fzs wz_12c7f (fKc wz_12c7f) := fKc_ok _
  refine f_meth (rb := rbJ) (J := []) 1 400 xG xin_157 x6_157 okJ (fB_self h0) ?_ ?_
  · exact fun q h => absurd h List.not_mem_nil
  · have hB0 := fB_self (zn := znJ) (K := fKc wz_12c7f) h0
    refine And.intro ⟨rfl, by decide, by decide⟩ ?_
    refine fstore1 rS_704_704_0_19_1_0 (fzs_sub (by decide +kernel) hW) ⟨by decide, by decide⟩ (by first | exact ⟨ha1.1, ha1.2⟩ | omega) (by first | exact ⟨Int.le_trans (by decide) ha2.1, Int.le_trans ha2.2 (by decide)⟩ | omega) ?_
    intro IhB1 ehB1 hB1
    have t2 := fup_self ehB1
    refine And.intro ⟨rfl, by decide, by decide⟩ ?_
    refine fstore1 rS_705_705_0_19_1_0 (fzs_sub (by decide +kernel) hW) ⟨by decide, by decide⟩ (by first | exact ⟨ha1.1, ha1.2⟩ | omega) (by first | exact ⟨ha3.1, ha3.2⟩ | omega) ?_
    intro IhB3 ehB3 hB3
    have t4 := fup_self ehB3
    refine And.intro ⟨rfl, by decide, by decide⟩ ?_
    refine And.intro ⟨rfl, by decide⟩ (And.intro (by first | exact ⟨ha1.1, Int.lt_of_le_of_lt ha1.2 (by decide)⟩ | omega) ?_)
    refine Exists.intro xm_498 (And.intro mi_498 (And.intro ⟨rfl, rfl, rfl, rfl⟩ (And.intro True.intro ?_)))
    refine fcall _ h0 (fzs_sub (by decide +kernel) hW) hB3 (ct_Arrays_fill_8f13d (fBz h0 hB3) (by omega) (by first | exact ⟨by decide, by decide⟩ | omega)) ?_
    rintro IhB6 _ hB6 fhB6 ⟨rfl, hz5, g0z5⟩
    refine And.intro (True.intro) ?_
    exact ⟨_, rfl, by omega⟩
set_option maxRecDepth 8000 in
theorem ct_X_gauge_a2643 {I : fH} {x1 : Int} {x2 : Int} {x3 : Int} (h0 : fB bsJ I) (ha1 : ((-2147483648) ≤ x1 ∧ x1 ≤ 2147483647)) (ha2 : ((-2147483648) ≤ x2 ∧ x2 ≤ 2147483647)) (ha3 : ((-2147483648) ≤ x3 ∧ x3 ≤ 2147483647)) : fC ρ base n F xTc vwCl xTys D dA la gJ (fbz bsJ znJ (fKc wz_12c7f) I) xm_156 [.inr (.inr (some 0)), .inl x1, .inl x2, .inl x3] I (fun _ r => ∃ z, r = some (.inl z) ∧ ((0 ≤ z ∧ z ≤ 30) ∨ z = (-1000000014) ∨ z = (-1000000001)) ∧ (z = gzF (I 2 5) x1 x2 x3)) := by
  have hW : fzs wz_12c7f (fKc wz_12c7f) := fKc_ok _
  refine f_meth (rb := rbJ) (J := []) 1 400 xG xin_156 x6_156 okJ (fB_self h0) ?_ ?_
  · exact fun q h => absurd h List.not_mem_nil
  · have hB0 := fB_self (zn := znJ) (K := fKc wz_12c7f) h0
    refine And.intro ⟨rfl, by decide, by decide⟩ ?_
    refine Exists.intro xm_17 (And.intro mi_17 (And.intro ⟨rfl, rfl, rfl, rfl⟩ (And.intro rfl ?_)))
    refine fcallp hB0 (ct_City_isCell_46f02 (fBz h0 hB0) (by first | exact ⟨ha1.1, ha1.2⟩ | omega)) ?_
    rintro _ ⟨z1, rfl, hz1⟩
    refine And.intro (by omega) (And.intro ?_ ?_)
    · intro c2
      refine And.intro (True.intro) ?_
      exact ⟨_, rfl, by omega, (by unfold gzF; (repeat' split) <;> omega)⟩
    · intro c3
      refine Exists.intro xm_13 (And.intro mi_13 (And.intro ⟨rfl, rfl, rfl, rfl⟩ (And.intro True.intro ?_)))
      refine fcallp hB0 (ct_X_within_c27b1 (fBz h0 hB0) (by first | exact ⟨ha2.1, ha2.2⟩ | omega) (by first | exact ⟨by decide, by decide⟩ | omega) (by first | exact ⟨by decide, by decide⟩ | omega)) ?_
      rintro _ ⟨z4, rfl, hz4⟩
      refine And.intro (by omega) (And.intro ?_ ?_)
      · intro c5
        refine And.intro (And.intro (by first | exact fi_ (Int.le_trans (Int.le_refl _) hz4.1) (Int.le_trans hz4.2 (Int.le_refl _)) rfl | omega) (by first | exact ⟨by decide, by decide⟩ | omega)) (And.intro ?_ ?_)
        · intro c6
          refine And.intro (And.intro (by first | exact fi_ ha3.1 ha3.2 rfl | omega) (by first | exact ⟨by decide, by decide⟩ | omega)) (And.intro ?_ ?_)
          · intro c7
            refine And.intro (by first | exact fi_ ha3.1 (Int.le_trans c7 (Int.le_refl _)) rfl | omega) (And.intro ?_ ?_)
            · intro c8
              refine And.intro ⟨rfl, by decide, by decide⟩ ?_
              refine Exists.intro xm_157 (And.intro mi_157 (And.intro ⟨rfl, rfl, rfl, rfl⟩ (And.intro rfl ?_)))
              refine fcall _ h0 (fzs_sub (by decide +kernel) hW) hB0 (ct_Gauges_begin_09be5 (fBz h0 hB0) (by omega) (by omega) (by first | exact ⟨Int.le_trans (by decide) (Int.le_trans (Int.le_refl _) c8), Int.le_trans (Int.le_trans c7 (Int.le_refl _)) (by decide)⟩ | omega)) ?_
              rintro IhB10 _ hB10 fhB10 ⟨z9, rfl, hz9⟩
              refine And.intro (True.intro) ?_
              exact ⟨_, rfl, by omega, (by unfold gzF; (repeat' split) <;> omega)⟩
            · intro c11
              refine And.intro (True.intro) ?_
              exact ⟨_, rfl, by omega, (by unfold gzF; (repeat' split) <;> omega)⟩
          · intro c12
            refine And.intro (True.intro) ?_
            exact ⟨_, rfl, by omega, (by unfold gzF; (repeat' split) <;> omega)⟩
        · intro c13
          refine And.intro ⟨rfl, by decide, by decide⟩ ?_
          refine Exists.intro xm_15 (And.intro mi_15 (And.intro ⟨rfl, rfl, rfl, rfl⟩ (And.intro rfl ?_)))
          refine fcall _ h0 (fzs_sub (by decide +kernel) hW) hB0 (ct_Gauges_forget_a5150 (fBz h0 hB0) (by omega)) ?_
          rintro IhB15 _ hB15 fhB15 rfl
          refine And.intro (True.intro) ?_
          exact ⟨_, rfl, by omega, (by unfold gzF; (repeat' split) <;> omega)⟩
      · intro c16
        refine And.intro (True.intro) ?_
        exact ⟨_, rfl, by omega, (by unfold gzF; (repeat' split) <;> omega)⟩
abbrev jc_M_gauge_31c2d_70 (x1 : Int) (x2 : Int) (x3 : Int) (I0 : fH) : Nat → fL → List fV → fH → Prop := fun m lv st I => ∃ (y1 : Int) (y4 : Int), lv = [(0, .inr (.inr (some 740))), (1, .inl y1), (4, .inl y4)] ∧ st = [] ∧ (((0 ≤ y1 ∧ y1 ≤ 19) ∧ (0 ≤ y4 ∧ y4 ≤ 30) ∧ (y1 = x1) ∧ (0 ≤ x1) ∧ (x1 < I0 741 5) ∧ ((-1) ≤ x2) ∧ (x2 ≤ 1) ∧ ((x2 < 0 ∧ I 745 x1.toNat = 0) ∨ (0 ≤ x2 ∧ 0 ≤ x3 ∧ x3 ≤ 30 ∧ I 745 x1.toNat = x3)))) ∧ m = (1 + 1 * (30 - y4) : Int).toNat
set_option maxRecDepth 8000 in
theorem ct_M_gauge_31c2d {I : fH} {x1 : Int} {x2 : Int} {x3 : Int} (h0 : fB bsJ I) (ha1 : ((-2147483648) ≤ x1 ∧ x1 ≤ 2147483647)) (ha2 : ((-2147483648) ≤ x2 ∧ x2 ≤ 2147483647)) (ha3 : ((-2147483648) ≤ x3 ∧ x3 ≤ 2147483647)) : fC ρ base n F xTc vwCl xTys D dA la gJ (fbz bsJ znJ (fKc wz_c0410) I) xm_438 [.inr (.inr (some 740)), .inl x1, .inl x2, .inl x3] I (fun _ r => ∃ z, r = some (.inl z) ∧ ((0 ≤ z ∧ z ≤ 30) ∨ z = (-1000000014) ∨ z = (-1000000001)) ∧ (z = gzF (I 741 5) x1 x2 x3)) := by
  have hW : fzs wz_c0410 (fKc wz_c0410) := fKc_ok _
  refine f_meth (rb := rbJ) (J := [(70, (jc_M_gauge_31c2d_70 x1 x2 x3 I))]) 32 400 xG xin_438 x6_438 okJ (fB_self h0) ?_ ?_
  · refine List.forall_mem_cons.mpr ⟨?_, fun q h => absurd h List.not_mem_nil⟩
    · rintro m _ _ I1 hB1 ⟨y1, y4, rfl, rfl, hb, hm⟩
      refine And.intro (And.intro (by first | exact fi_ hb.2.1.1 hb.2.1.2 rfl | omega) (by first | exact ⟨by decide, by decide⟩ | omega)) (And.intro ?_ ?_)
      · intro c1
        refine And.intro ⟨rfl, by decide, by decide⟩ ?_
        refine fload1 rL_745_745_0_19_1_0 h0 hB1 ⟨by decide, by decide⟩ (by first | exact ⟨hb.1.1, hb.1.2⟩ | omega) ?_
        intro z2 lz2 uz2 qz2
        have w101 := fld_at qz2 x1.toNat (by omega)
        refine And.intro (True.intro) ?_
        exact ⟨_, rfl, by omega, (by unfold gzF; (repeat' split) <;> omega)⟩
      · intro c3
        refine And.intro ⟨rfl, by decide, by decide⟩ ?_
        refine fstore rS_746_746_0_599_1_0 (fzs_sub (by decide +kernel) hW) (by omega) (by first | exact ⟨by decide, by decide⟩ | omega) ?_
        intro IhB4 ehB4 hB4
        have t5 := fup_self ehB4
        have w745 := fup_other ehB4 745 x1.toNat (Or.inl (by decide))
        exact fcutJ (I := IhB4) (j := (jc_M_gauge_31c2d_70 x1 x2 x3 I)) (lv' := [(0, .inr (.inr (some 740))), (1, .inl _), (4, .inl _)]) (And.intro rfl (And.intro rfl (And.intro rfl True.intro))) ⟨_, _, rfl, rfl, by omega, rfl⟩ (by omega)
  · have hB0 := fB_self (zn := znJ) (K := fKc wz_c0410) h0
    refine Exists.intro xm_241 (And.intro mi_241 (And.intro ⟨rfl, rfl, rfl, rfl⟩ (And.intro rfl ?_)))
    refine fcallp hB0 (ct_M_isCell_45859 (fBz h0 hB0) (by first | exact ⟨ha1.1, ha1.2⟩ | omega)) ?_
    rintro _ ⟨z6, rfl, hz6⟩
    refine And.intro (by omega) (And.intro ?_ ?_)
    · intro c7
      refine And.intro (True.intro) ?_
      exact ⟨_, rfl, by omega, (by unfold gzF; (repeat' split) <;> omega)⟩
    · intro c8
      refine And.intro (by first | exact fi_ ha2.1 ha2.2 rfl | omega) ?_
      refine Exists.intro xm_238 (And.intro mi_238 (And.intro ⟨rfl, rfl, rfl, rfl⟩ (And.intro True.intro ?_)))
      refine fcallp hB0 (ct_M_isIn_27230 (fBz h0 hB0) (by first | exact ⟨ha2.1, ha2.2⟩ | omega) (by first | exact ⟨by decide, by decide⟩ | omega) (by first | exact ⟨by decide, by decide⟩ | omega)) ?_
      rintro _ ⟨z9, rfl, hz9⟩
      refine And.intro (by omega) (And.intro ?_ ?_)
      · intro c10
        refine And.intro (True.intro) ?_
        exact ⟨_, rfl, by omega, (by unfold gzF; (repeat' split) <;> omega)⟩
      · intro c11
        refine And.intro (by first | exact fi_ (Int.le_trans (Int.le_refl _) hz9.1) (Int.le_trans hz9.2 (Int.le_refl _)) rfl | omega) (And.intro ?_ ?_)
        · intro c12
          refine And.intro (by first | exact fi_ (Int.le_trans (Int.le_refl _) hz9.1) (Int.le_sub_one_of_lt (Int.lt_of_lt_of_le c12 (Int.le_refl _))) rfl | omega) (And.intro ?_ ?_)
          · intro c13
            refine And.intro ⟨rfl, by decide, by decide⟩ ?_
            refine fstore rS_744_744_0_19_1_0 (fzs_sub (by decide +kernel) hW) (by omega) (by first | exact ⟨Int.le_trans (by decide) (Int.le_trans (Int.le_refl _) hz9.1), Int.le_trans (Int.le_sub_one_of_lt (Int.lt_of_lt_of_le c12 (Int.le_refl _))) (by decide)⟩ | omega) ?_
            intro IhB14 ehB14 hB14
            have t15 := fup_self ehB14
            refine And.intro ⟨rfl, by decide, by decide⟩ ?_
            refine And.intro (by first | exact fi_ (Int.le_trans (Int.le_refl _) hz9.1) (Int.le_sub_one_of_lt (Int.lt_of_lt_of_le c12 (Int.le_refl _))) rfl | omega) (And.intro ?_ ?_)
            · intro c16
              refine fstore rS_745_745_0_19_1_0 (fzs_sub (by decide +kernel) hW) (by omega) (by omega) ?_
              intro IhB17 ehB17 hB17
              have t18 := fup_self ehB17
              exact fcutJ (I := IhB17) (j := (jc_M_gauge_31c2d_70 x1 x2 x3 I)) (lv' := [(0, .inr (.inr (some 740))), (1, .inl _), (4, .inl _)]) (And.intro rfl (And.intro rfl (And.intro rfl True.intro))) ⟨_, _, rfl, rfl, by omega, rfl⟩ (by omega)
            · intro c19
              refine fstore rS_745_745_0_19_1_0 (fzs_sub (by decide +kernel) hW) (by omega) (by first | exact ⟨by decide, by decide⟩ | omega) ?_
              intro IhB20 ehB20 hB20
              have t21 := fup_self ehB20
              exact fcutJ (I := IhB20) (j := (jc_M_gauge_31c2d_70 x1 x2 x3 I)) (lv' := [(0, .inr (.inr (some 740))), (1, .inl _), (4, .inl _)]) (And.intro rfl (And.intro rfl (And.intro rfl True.intro))) ⟨_, _, rfl, rfl, by omega, rfl⟩ (by omega)
          · intro c22
            refine And.intro (by first | exact fi_ ha3.1 ha3.2 rfl | omega) (And.intro ?_ ?_)
            · intro c23
              refine And.intro ⟨rfl, by decide, by decide⟩ ?_
              refine fstore rS_744_744_0_19_1_0 (fzs_sub (by decide +kernel) hW) (by omega) (by first | exact ⟨Int.le_trans (by decide) (Int.le_trans (Int.le_refl _) c22), Int.le_trans (Int.le_sub_one_of_lt (Int.lt_of_lt_of_le c12 (Int.le_refl _))) (by decide)⟩ | omega) ?_
              intro IhB24 ehB24 hB24
              have t25 := fup_self ehB24
              refine And.intro ⟨rfl, by decide, by decide⟩ ?_
              refine And.intro (by first | exact fi_ (Int.le_trans (Int.le_refl _) c22) (Int.le_sub_one_of_lt (Int.lt_of_lt_of_le c12 (Int.le_refl _))) rfl | omega) (And.intro ?_ ?_)
              · intro c26
                refine fstore rS_745_745_0_19_1_0 (fzs_sub (by decide +kernel) hW) (by omega) (by omega) ?_
                intro IhB27 ehB27 hB27
                have t28 := fup_self ehB27
                exact fcutJ (I := IhB27) (j := (jc_M_gauge_31c2d_70 x1 x2 x3 I)) (lv' := [(0, .inr (.inr (some 740))), (1, .inl _), (4, .inl _)]) (And.intro rfl (And.intro rfl (And.intro rfl True.intro))) ⟨_, _, rfl, rfl, by omega, rfl⟩ (by omega)
              · intro c29
                refine fstore rS_745_745_0_19_1_0 (fzs_sub (by decide +kernel) hW) (by omega) (by first | exact ⟨by decide, by decide⟩ | omega) ?_
                intro IhB30 ehB30 hB30
                have t31 := fup_self ehB30
                exact fcutJ (I := IhB30) (j := (jc_M_gauge_31c2d_70 x1 x2 x3 I)) (lv' := [(0, .inr (.inr (some 740))), (1, .inl _), (4, .inl _)]) (And.intro rfl (And.intro rfl (And.intro rfl True.intro))) ⟨_, _, rfl, rfl, by omega, rfl⟩ (by omega)
            · intro c32
              refine And.intro (True.intro) ?_
              exact ⟨_, rfl, by omega, (by unfold gzF; (repeat' split) <;> omega)⟩
        · intro c33
          refine And.intro (And.intro (by first | exact fi_ ha3.1 ha3.2 rfl | omega) (by first | exact ⟨by decide, by decide⟩ | omega)) (And.intro ?_ ?_)
          · intro c34
            refine And.intro (by first | exact fi_ (Int.le_trans (Int.le_refl _) c33) (Int.le_trans hz9.2 (Int.le_refl _)) rfl | omega) (And.intro ?_ ?_)
            · intro c35
              refine And.intro ⟨rfl, by decide, by decide⟩ ?_
              refine fstore rS_744_744_0_19_1_0 (fzs_sub (by decide +kernel) hW) (by omega) (by first | exact ⟨Int.le_trans (by decide) (Int.le_trans (Int.le_refl _) c33), Int.le_trans (Int.le_sub_one_of_lt (Int.lt_of_lt_of_le c35 (Int.le_refl _))) (by decide)⟩ | omega) ?_
              intro IhB36 ehB36 hB36
              have t37 := fup_self ehB36
              refine And.intro ⟨rfl, by decide, by decide⟩ ?_
              refine And.intro (by first | exact fi_ (Int.le_trans (Int.le_refl _) c33) (Int.le_sub_one_of_lt (Int.lt_of_lt_of_le c35 (Int.le_refl _))) rfl | omega) (And.intro ?_ ?_)
              · intro c38
                refine fstore rS_745_745_0_19_1_0 (fzs_sub (by decide +kernel) hW) (by omega) (by omega) ?_
                intro IhB39 ehB39 hB39
                have t40 := fup_self ehB39
                exact fcutJ (I := IhB39) (j := (jc_M_gauge_31c2d_70 x1 x2 x3 I)) (lv' := [(0, .inr (.inr (some 740))), (1, .inl _), (4, .inl _)]) (And.intro rfl (And.intro rfl (And.intro rfl True.intro))) ⟨_, _, rfl, rfl, by omega, rfl⟩ (by omega)
              · intro c41
                refine fstore rS_745_745_0_19_1_0 (fzs_sub (by decide +kernel) hW) (by omega) (by first | exact ⟨by decide, by decide⟩ | omega) ?_
                intro IhB42 ehB42 hB42
                have t43 := fup_self ehB42
                exact fcutJ (I := IhB42) (j := (jc_M_gauge_31c2d_70 x1 x2 x3 I)) (lv' := [(0, .inr (.inr (some 740))), (1, .inl _), (4, .inl _)]) (And.intro rfl (And.intro rfl (And.intro rfl True.intro))) ⟨_, _, rfl, rfl, by omega, rfl⟩ (by omega)
            · intro c44
              refine And.intro (by first | exact fi_ ha3.1 (Int.le_trans c34 (Int.le_refl _)) rfl | omega) (And.intro ?_ ?_)
              · intro c45
                refine And.intro ⟨rfl, by decide, by decide⟩ ?_
                refine fstore rS_744_744_0_19_1_0 (fzs_sub (by decide +kernel) hW) (by omega) (by first | exact ⟨Int.le_trans (by decide) (Int.le_trans (Int.le_refl _) c33), Int.le_trans (Int.le_trans hz9.2 (Int.le_refl _)) (by decide)⟩ | omega) ?_
                intro IhB46 ehB46 hB46
                have t47 := fup_self ehB46
                refine And.intro ⟨rfl, by decide, by decide⟩ ?_
                refine And.intro (by first | exact fi_ (Int.le_trans (Int.le_refl _) c33) (Int.le_trans hz9.2 (Int.le_refl _)) rfl | omega) (And.intro ?_ ?_)
                · intro c48
                  refine fstore rS_745_745_0_19_1_0 (fzs_sub (by decide +kernel) hW) (by omega) (by first | exact ⟨Int.le_trans (by decide) (Int.le_trans (Int.le_refl _) c45), Int.le_trans (Int.le_trans c34 (Int.le_refl _)) (by decide)⟩ | omega) ?_
                  intro IhB49 ehB49 hB49
                  have t50 := fup_self ehB49
                  exact fcutJ (I := IhB49) (j := (jc_M_gauge_31c2d_70 x1 x2 x3 I)) (lv' := [(0, .inr (.inr (some 740))), (1, .inl _), (4, .inl _)]) (And.intro rfl (And.intro rfl (And.intro rfl True.intro))) ⟨_, _, rfl, rfl, by omega, rfl⟩ (by omega)
                · intro c51
                  refine fstore rS_745_745_0_19_1_0 (fzs_sub (by decide +kernel) hW) (by omega) (by first | exact ⟨by decide, by decide⟩ | omega) ?_
                  intro IhB52 ehB52 hB52
                  have t53 := fup_self ehB52
                  exact fcutJ (I := IhB52) (j := (jc_M_gauge_31c2d_70 x1 x2 x3 I)) (lv' := [(0, .inr (.inr (some 740))), (1, .inl _), (4, .inl _)]) (And.intro rfl (And.intro rfl (And.intro rfl True.intro))) ⟨_, _, rfl, rfl, by omega, rfl⟩ (by omega)
              · intro c54
                refine And.intro (True.intro) ?_
                exact ⟨_, rfl, by omega, (by unfold gzF; (repeat' split) <;> omega)⟩
          · intro c55
            refine And.intro (True.intro) ?_
            exact ⟨_, rfl, by omega, (by unfold gzF; (repeat' split) <;> omega)⟩
set_option maxRecDepth 8000 in
theorem ct_Gauges_hasPlace_f9c97 {I : fH} {x1 : Int} {x2 : Int} (h0 : fB bsJ I) (ha1 : (0 ≤ x1 ∧ x1 ≤ 19)) (ha2 : ((-2147483648) ≤ x2 ∧ x2 ≤ 2147483647)) : fC ρ base n F xTc vwCl xTys D dA la gJ (fbz bsJ znJ (fKc []) I) xm_160 [.inr (.inr (some 703)), .inl x1, .inl x2] I (fun _ r => ∃ z, r = some (.inl z) ∧ ((z = 1 ∧ 0 ≤ x2 ∧ x2 ≤ 29) ∨ z = 0)) := by
  have hW : fzs [] (fKc []) := fKc_ok _
  refine f_meth (rb := rbJ) (J := []) 1 400 xG xin_160 x6_160 okJ (fB_self h0) ?_ ?_
  · exact fun q h => absurd h List.not_mem_nil
  · have hB0 := fB_self (zn := znJ) (K := fKc []) h0
    refine And.intro ⟨rfl, by decide, by decide⟩ ?_
    refine fload1 rL_705_705_0_19_1_0 h0 hB0 ⟨by decide, by decide⟩ (by first | exact ⟨ha1.1, ha1.2⟩ | omega) ?_
    intro z1 lz1 uz1 qz1
    refine Exists.intro xm_13 (And.intro mi_13 (And.intro ⟨rfl, rfl, rfl, rfl⟩ (And.intro True.intro ?_)))
    refine fcallp hB0 (ct_X_within_c27b1 (fBz h0 hB0) (by first | exact ⟨ha2.1, ha2.2⟩ | omega) (by first | exact ⟨by decide, by decide⟩ | omega) (by omega)) ?_
    rintro _ ⟨z2, rfl, hz2⟩
    refine And.intro (⟨by omega, by omega⟩) ?_
    exact ⟨_, rfl, by omega⟩
end CT

set_option linter.all false
/-! contracts (written by gen95.py) -/
abbrev wz_2acdb : List Nat := [20021, 20305]
theorem x6_273 : f60c xTc xTys xm_273 = true := by decide +kernel
theorem rL_741_741_21_21_1_0 : frL gJ bsJ 100 ((741, 741), (21, 21), (1, 0), (0, 999999)) := frL_of (by decide +kernel)
theorem rS_741_741_21_21_1_0 : frS gJ bsJ znJ [20021] 100 ((741, 741), (21, 21), (1, 0), (0, 999999)) := frS_of (by decide +kernel)
theorem x6_55 : f60c xTc xTys xm_55 = true := by decide +kernel
theorem x6_54 : f60c xTc xTys xm_54 = true := by decide +kernel
abbrev wz_0ffea : List Nat := [175]
theorem x6_53 : f60c xTc xTys xm_53 = true := by decide +kernel
theorem x6_275 : f60c xTc xTys xm_275 = true := by decide +kernel
theorem rL_741_741_539_861_14_0 : frL gJ bsJ 100 ((741, 741), (539, 861), (14, 0), ((-1), 60)) := frL_of (by decide +kernel)
abbrev wz_7172e : List Nat := [20309]
theorem x6_274 : f60c xTc xTys xm_274 = true := by decide +kernel
theorem x6_57 : f60c xTc xTys xm_57 = true := by decide +kernel
theorem rL_185_185_0_60_1_0 : frL gJ bsJ 100 ((185, 185), (0, 60), (1, 0), (0, 9999)) := frL_of (by decide +kernel)
theorem x6_56 : f60c xTc xTys xm_56 = true := by decide +kernel
theorem x6_276 : f60c xTc xTys xm_276 = true := by decide +kernel
theorem rL_741_741_1081_1141_1_0 : frL gJ bsJ 100 ((741, 741), (1081, 1141), (1, 0), (0, 9999)) := frL_of (by decide +kernel)
abbrev wz_2d238 : List Nat := [183]
theorem rL_184_186_0_60_1_0 : frL gJ bsJ 100 ((184, 186), (0, 60), (1, 0), (0, 9999)) := frL_of (by decide +kernel)
theorem rS_184_186_0_60_1_0 : frS gJ bsJ znJ [183] 100 ((184, 186), (0, 60), (1, 0), (0, 9999)) := frS_of (by decide +kernel)
theorem x6_58 : f60c xTc xTys xm_58 = true := by decide +kernel
abbrev wz_bcfb8 : List Nat := [20500]
theorem rL_741_741_1020_1202_61_60 : frL gJ bsJ 100 ((741, 741), (1020, 1202), (61, 60), (0, 9999)) := frL_of (by decide +kernel)
theorem rS_741_741_1020_1202_61_60 : frS gJ bsJ znJ [20500] 100 ((741, 741), (1020, 1202), (61, 60), (0, 9999)) := frS_of (by decide +kernel)
theorem x6_277 : f60c xTc xTys xm_277 = true := by decide +kernel
abbrev wz_310ed : List Nat := [10105, 10106, 10107, 10108]
theorem x6_60 : f60c xTc xTys xm_60 = true := by decide +kernel
theorem fb_1_8 : bsJ 1 8 = (0, 99) := by decide +kernel
theorem fb_1_7 : bsJ 1 7 = (2, 9999) := by decide +kernel
theorem fb_1_6 : bsJ 1 6 = ((-2147483648), 2147483647) := by decide +kernel
theorem x6_59 : f60c xTc xTys xm_59 = true := by decide +kernel
abbrev wz_72684 : List Nat := [20001, 20002, 20003, 20004]
theorem rS_741_741_1_1_1_0 : frS gJ bsJ znJ [20001] 100 ((741, 741), (1, 1), (1, 0), (0, 600)) := frS_of (by decide +kernel)
theorem rS_741_741_2_2_1_0 : frS gJ bsJ znJ [20002] 100 ((741, 741), (2, 2), (1, 0), ((-2147483648), 2147483647)) := frS_of (by decide +kernel)
theorem rS_741_741_3_3_1_0 : frS gJ bsJ znJ [20003] 100 ((741, 741), (3, 3), (1, 0), (2, 9999)) := frS_of (by decide +kernel)
theorem rS_741_741_4_4_1_0 : frS gJ bsJ znJ [20004] 100 ((741, 741), (4, 4), (1, 0), (0, 99)) := frS_of (by decide +kernel)
theorem x6_278 : f60c xTc xTys xm_278 = true := by decide +kernel
theorem x6_64 : f60c xTc xTys xm_64 = true := by decide +kernel
theorem x6_63 : f60c xTc xTys xm_63 = true := by decide +kernel
theorem rL_184_184_0_60_1_0 : frL gJ bsJ 100 ((184, 184), (0, 60), (1, 0), (0, 9999)) := frL_of (by decide +kernel)
theorem x6_62 : f60c xTc xTys xm_62 = true := by decide +kernel
theorem x6_70 : f60c xTc xTys xm_70 = true := by decide +kernel
theorem x6_69 : f60c xTc xTys xm_69 = true := by decide +kernel
theorem x6_68 : f60c xTc xTys xm_68 = true := by decide +kernel
theorem x6_67 : f60c xTc xTys xm_67 = true := by decide +kernel
theorem x6_66 : f60c xTc xTys xm_66 = true := by decide +kernel
theorem x6_65 : f60c xTc xTys xm_65 = true := by decide +kernel
theorem x6_71 : f60c xTc xTys xm_71 = true := by decide +kernel
theorem x6_61 : f60c xTc xTys xm_61 = true := by decide +kernel
theorem x6_281 : f60c xTc xTys xm_281 = true := by decide +kernel
theorem rL_741_741_1020_1202_122_60 : frL gJ bsJ 100 ((741, 741), (1020, 1202), (122, 60), (0, 9999)) := frL_of (by decide +kernel)
theorem x6_280 : f60c xTc xTys xm_280 = true := by decide +kernel
theorem rL_741_741_536_858_14_0 : frL gJ bsJ 100 ((741, 741), (536, 858), (14, 0), (0, 99999)) := frL_of (by decide +kernel)
theorem x6_283 : f60c xTc xTys xm_283 = true := by decide +kernel
theorem rL_741_741_3_3_1_0 : frL gJ bsJ 100 ((741, 741), (3, 3), (1, 0), (2, 9999)) := frL_of (by decide +kernel)
theorem x6_282 : f60c xTc xTys xm_282 = true := by decide +kernel
theorem rL_741_741_532_854_14_0 : frL gJ bsJ 100 ((741, 741), (532, 854), (14, 0), (0, 9999)) := frL_of (by decide +kernel)
theorem rL_741_741_17_21_1_0 : frL gJ bsJ 100 ((741, 741), (17, 21), (1, 0), (0, 999999)) := frL_of (by decide +kernel)
theorem rL_741_741_31_414_20_3 : frL gJ bsJ 100 ((741, 741), (31, 414), (20, 3), (0, 999999)) := frL_of (by decide +kernel)
theorem x6_279 : f60c xTc xTys xm_279 = true := by decide +kernel
theorem rL_741_741_37_420_1_0 : frL gJ bsJ 100 ((741, 741), (37, 420), (1, 0), ((-2147483648), 2147483647)) := frL_hull (by decide) (by decide +kernel)
theorem rL_741_741_2_2_1_0 : frL gJ bsJ 100 ((741, 741), (2, 2), (1, 0), ((-2147483648), 2147483647)) := frL_hull (by decide) (by decide +kernel)
abbrev wz_1cc9b : List Nat := [182, 10106]
theorem x6_86 : f60c xTc xTys xm_86 = true := by decide +kernel
abbrev wz_4543e : List Nat := [174, 175, 176]
theorem x6_87 : f60c xTc xTys xm_87 = true := by decide +kernel
abbrev wz_ed400 : List Nat := [5, 26]
theorem x6_84 : f60c xTc xTys xm_84 = true := by decide +kernel
theorem x6_83 : f60c xTc xTys xm_83 = true := by decide +kernel
theorem x6_82 : f60c xTc xTys xm_82 = true := by decide +kernel
abbrev wz_213b7 : List Nat := [171, 173]
theorem x6_80 : f60c xTc xTys xm_80 = true := by decide +kernel
theorem x6_79 : f60c xTc xTys xm_79 = true := by decide +kernel
abbrev wz_de755 : List Nat := [26, 172]
theorem x6_81 : f60c xTc xTys xm_81 = true := by decide +kernel
abbrev wz_65a7b : List Nat := [26, 171, 172, 173]
theorem x6_78 : f60c xTc xTys xm_78 = true := by decide +kernel
theorem rL_186_186_0_60_1_0 : frL gJ bsJ 100 ((186, 186), (0, 60), (1, 0), (0, 9999)) := frL_of (by decide +kernel)
section CT
variable {ρ : Nat → Int32} {base n : Nat} {F : Nat → Prop} {D : va_G} {dA : Nat → ClassId} {la : Launch}
set_option maxRecDepth 8000 in
theorem ct_M_sew_b534e {I : fH} {x1 : Int} (h0 : fB bsJ I) (ha1 : ((-2147483648) ≤ x1 ∧ x1 ≤ 2147483647)) (hp0 : okA (mR I)) : fC ρ base n F xTc vwCl xTys D dA la gJ (fbz bsJ znJ (fKc wz_2acdb) I) xm_273 [.inr (.inr (some 740)), .inl x1] I (fun I' r => ∃ z, r = some (.inl z) ∧ ((0 ≤ z ∧ z ≤ 99999) ∨ z = (-1000000012) ∨ z = (-1000000002) ∨ z = (-1000000001)) ∧ ((mR I', z) = oSew (mR I) x1)) := by
  have hW : fzs wz_2acdb (fKc wz_2acdb) := fKc_ok _
  refine f_meth (rb := rbJ) (J := []) 1 400 xG xin_273 x6_273 okJ (fB_self h0) ?_ ?_
  · exact fun q h => absurd h List.not_mem_nil
  · have hB0 := fB_self (zn := znJ) (K := fKc wz_2acdb) h0
    have w907 : I 741 7 = gt (mR I) 7 := (show I 741 7 = gt (mR I) 7 from (mR_ld (I := I) (k := 7) (by decide +kernel)).symm)
    refine Exists.intro xm_266 (And.intro mi_266 (And.intro ⟨rfl, rfl, rfl, rfl⟩ (And.intro rfl ?_)))
    refine fcallp hB0 (ct_M_isWork_a0fef (fBz h0 hB0) (by first | exact ⟨ha1.1, ha1.2⟩ | omega)) ?_
    rintro _ ⟨z1, rfl, hz1⟩
    refine And.intro (by omega) (And.intro ?_ ?_)
    · intro c2
      refine Exists.intro xm_267 (And.intro mi_267 (And.intro ⟨rfl, rfl, rfl, rfl⟩ (And.intro rfl ?_)))
      refine fcallp hB0 (ct_M_kindOf_31275 (fBz h0 hB0) (by omega)) ?_
      rintro _ ⟨z3, rfl, hz3, g0z3, g1z3⟩
      refine And.intro (And.intro (by first | exact fi_ hz3.1 hz3.2 rfl | omega) (by first | exact ⟨by decide, by decide⟩ | omega)) (And.intro ?_ ?_)
      · intro c4
        refine Exists.intro xm_244 (And.intro mi_244 (And.intro ⟨rfl, rfl, rfl, rfl⟩ (And.intro rfl ?_)))
        refine fcallp hB0 (ct_M_workAt_83d38 (fBz h0 hB0) (by omega)) ?_
        rintro _ ⟨_, rfl, rfl⟩
        refine Exists.intro xm_245 (And.intro mi_245 (And.intro ⟨rfl, rfl, rfl, rfl⟩ (And.intro rfl ?_)))
        refine fcallp hB0 (ct_M_isGone_0de37 (fBz h0 hB0) (by omega)) ?_
        rintro _ ⟨z6, rfl, hz6, g0z6⟩
        refine And.intro (by omega) (And.intro ?_ ?_)
        · intro c7
          refine And.intro (True.intro) ?_
          exact ⟨_, rfl, by omega, (pr_i (by omega) (pr_n (fun q => q (by rw [← g1z3]; omega)) (pr_i (Or.inl (g0z6.elim (fun q => q.2) (fun q => absurd q.1 (by omega)))) rfl)))⟩
        · intro c8
          refine And.intro ⟨rfl, by decide, by decide⟩ ?_
          refine fload rL_741_741_535_857_14_0 h0 hB0 (by omega) ?_
          intro z9 lz9 uz9 qz9
          have v44 := mL_r (i0 := 535) (i1 := 857) (m := 14) (q := 0) (by decide +kernel) qz9 (by omega) rfl
          have o44 := (okA_at hp0 (w := x1) (by omega)).2.2.2.1 (by rw [← g1z3]; omega)
          have p44 := gt_at v44 (show _ = 535 + 14 * x1 by omega)
          refine And.intro (And.intro (by first | exact fi_ lz9 uz9 rfl | omega) (by first | exact ⟨by decide, by decide⟩ | omega)) (And.intro ?_ ?_)
          · intro c10
            refine And.intro (True.intro) ?_
            exact ⟨_, rfl, by omega, (pr_i (by omega) (pr_n (fun q => q (by rw [← g1z3]; omega)) (pr_i (Or.inr (Or.inl (by rw [← gt_at v44 (show _ = 535 + 14 * x1 by omega)]; omega))) rfl)))⟩
          · intro c11
            refine And.intro ⟨rfl, by decide, by decide⟩ ?_
            refine fload1 rL_741_741_21_21_1_0 h0 hB0 ⟨by decide, by decide⟩ (by first | exact ⟨by decide, by decide⟩ | omega) ?_
            intro z12 lz12 uz12 qz12
            have pz12 := fld_at qz12 21 (by omega)
            have v56 := mL_r (i0 := 21) (i1 := 21) (m := 1) (q := 0) (by decide +kernel) qz12 (by omega) rfl
            refine And.intro (by first | exact fi_ lz12 uz12 rfl | omega) (And.intro ?_ ?_)
            · intro c13
              refine And.intro ⟨rfl, by decide, by decide⟩ ?_
              refine fload1 rL_741_741_21_21_1_0 h0 hB0 ⟨by decide, by decide⟩ (by first | exact ⟨by decide, by decide⟩ | omega) ?_
              intro z14 lz14 uz14 qz14
              have pz14 := fld_at qz14 21 (by omega)
              have v70 := mL_r (i0 := 21) (i1 := 21) (m := 1) (q := 0) (by decide +kernel) qz14 (by omega) rfl
              intro z15 hz15 ez15 bz15
              clear ez15
              have bz15 := bz15 (by omega)
              refine fstore1 rS_741_741_21_21_1_0 (fzs_sub (by decide +kernel) hW) ⟨by decide, by decide⟩ (by first | exact ⟨by decide, by decide⟩ | omega) (by omega) ?_
              intro IhB16 ehB16 hB16
              have t17 := fup_self ehB16
              have t18 := fup_at ehB16 21 (by first | rfl | omega)
              have r73 := mS_r (i0 := 21) (i1 := 21) (m := 1) (q := 0) (by decide +kernel) ehB16 (by omega) rfl
              refine And.intro ⟨rfl, by decide, by decide⟩ ?_
              refine fload rL_741_741_535_857_14_0 h0 hB16 (by omega) ?_
              intro z19 lz19 uz19 qz19
              have v82 := mL_r (i0 := 535) (i1 := 857) (m := 14) (q := 0) (by decide +kernel) qz19 (by omega) rfl
              rw [r73] at v82
              have u82 := qz19.trans (fup_other ehB16 _ _ (Or.inr (by omega)))
              have p82 := gt_at (gt_n (by omega) (by omega) v82) (show _ = 535 + 14 * x1 by omega)
              intro z20 hz20 ez20 bz20
              clear ez20
              have bz20 := bz20 (by omega)
              refine fstore rS_741_741_535_857_14_0 (fzs_sub (by decide +kernel) hW) (by omega) (by omega) ?_
              intro IhB21 ehB21 hB21
              have t22 := fup_self ehB21
              have t23 : IhB21 741 21 = IhB16 741 21 := (congrFun (congrFun ehB21 741) 21).trans (fup_ne (by first | exact Or.inl (by decide) | omega))
              have r85 := mS_r (i0 := 535) (i1 := 857) (m := 14) (q := 0) (by decide +kernel) ehB21 (by omega) rfl
              refine And.intro ⟨rfl, by decide, by decide⟩ ?_
              refine fload rL_741_741_535_857_14_0 h0 hB21 (by omega) ?_
              intro z24 lz24 uz24 qz24
              have v93 := mL_r (i0 := 535) (i1 := 857) (m := 14) (q := 0) (by decide +kernel) qz24 (by omega) rfl
              rw [r85, r73] at v93
              refine And.intro (True.intro) ?_
              exact ⟨_, rfl, by omega, (pr_i (by omega) (pr_n (fun q => q (by rw [← g1z3]; omega)) (pr_n (fun q => by have q1 := (g0z6.elim (fun q => absurd q.1 (by omega)) (fun q => q.2)); have q2 := gt_at v44 (show _ = 535 + 14 * x1 by omega); have q3 := gt_at v56 (show _ = (21 : Int) by omega); have q4 := (okA_at hp0 (w := x1) (by omega)).2.2.2.1 (by rw [← g1z3]; omega); omega) (pr_e (by rw [r85, r73]; exact (se_of (by omega) v70 (by omega) (by omega) v82 (by omega) (by omega) (by omega))) (by have q1 := gt_at (gt_n (by omega) (by omega) v82) (show _ = 535 + 14 * x1 by omega); omega)))))⟩
            · intro c25
              refine And.intro (True.intro) ?_
              exact ⟨_, rfl, by omega, (pr_i (by omega) (pr_n (fun q => q (by rw [← g1z3]; omega)) (pr_i (Or.inr (Or.inr (by rw [← gt_at v56 (show _ = (21 : Int) by omega)]; omega))) rfl)))⟩
      · intro c26
        refine And.intro (True.intro) ?_
        exact ⟨_, rfl, by omega, (pr_i (by omega) (pr_i (by rw [← g1z3]; omega) rfl))⟩
    · intro c27
      refine And.intro (True.intro) ?_
      exact ⟨_, rfl, by omega, (pr_n (fun q => by omega) rfl)⟩
set_option maxRecDepth 8000 in
theorem ct_Works_isDropped_adfda {I : fH} {x1 : Int} (h0 : fB bsJ I) (ha1 : (0 ≤ x1 ∧ x1 ≤ 23)) (hp0 : okA (cR 0 I)) : fC ρ base n F xTc vwCl xTys D dA la gJ (fbz bsJ znJ (fKc []) I) xm_55 [.inr (.inr (some 163)), .inl x1] I (fun _ r => ∃ z, r = some (.inl z) ∧ (0 ≤ z ∧ z ≤ 1) ∧ ((z = 1 ∧ 0 ≤ gt (cR 0 I) (539 + 14 * x1)) ∨ (z = 0 ∧ gt (cR 0 I) (539 + 14 * x1) < 0))) := by
  have hW : fzs [] (fKc []) := fKc_ok _
  refine f_meth (rb := rbJ) (J := []) 1 400 xG xin_55 x6_55 okJ (fB_self h0) ?_ ?_
  · exact fun q h => absurd h List.not_mem_nil
  · have hB0 := fB_self (zn := znJ) (K := fKc []) h0
    refine And.intro ⟨rfl, by decide, by decide⟩ ?_
    refine fload1 rL_175_175_0_23_1_0 h0 hB0 ⟨by decide, by decide⟩ (by first | exact ⟨ha1.1, ha1.2⟩ | omega) ?_
    intro z1 lz1 uz1 qz1
    have v5 := cL_l (d := 0) qz1 (by omega) rfl
    refine And.intro (And.intro (by first | exact fi_ lz1 uz1 rfl | omega) (by first | exact ⟨by decide, by decide⟩ | omega)) (And.intro ?_ ?_)
    · intro c2
      refine And.intro (⟨by omega, by omega⟩) ?_
      exact ⟨_, rfl, by omega, (dr_of hp0 (by omega) v5 (by omega))⟩
    · intro c3
      refine And.intro (⟨by decide, by decide⟩) ?_
      exact ⟨_, rfl, (by first | exact ⟨by decide, by decide⟩ | omega), (dr_of hp0 (by omega) v5 (by omega))⟩
set_option maxRecDepth 8000 in
theorem ct_X_refusedProbe_344cc {I : fH} {x1 : Int} (h0 : fB bsJ I) (ha1 : ((-2147483648) ≤ x1 ∧ x1 ≤ 2147483647)) (hp0 : okA (cR 0 I)) : fC ρ base n F xTc vwCl xTys D dA la gJ (fbz bsJ znJ (fKc []) I) xm_54 [.inr (.inr (some 0)), .inl x1] I (fun _ r => ∃ z, r = some (.inl z) ∧ (((0 ≤ z ∧ z ≤ 0) ∨ z = (-1000000012) ∨ z = (-1000000002) ∨ z = (-1000000001)) ∧ (z = 0 → 0 ≤ x1 ∧ x1 ≤ 23)) ∧ (z = oStop (cR 0 I) x1)) := by
  have hW : fzs [] (fKc []) := fKc_ok _
  refine f_meth (rb := rbJ) (J := []) 1 400 xG xin_54 x6_54 okJ (fB_self h0) ?_ ?_
  · exact fun q h => absurd h List.not_mem_nil
  · have hB0 := fB_self (zn := znJ) (K := fKc []) h0
    have w907 : I 163 13 = gt (cR 0 I) 7 := (cL_f (d := 0) (a := 163) (j := 13) (r := 7) (p := 7) (I := I) (z := I 163 13) (by decide +kernel) (by decide) rfl rfl)
    refine And.intro ⟨rfl, by decide, by decide⟩ ?_
    refine Exists.intro xm_45 (And.intro mi_45 (And.intro ⟨rfl, rfl, rfl, rfl⟩ (And.intro rfl ?_)))
    refine fcallp hB0 (ct_City_isWork_11526 (fBz h0 hB0) (by first | exact ⟨ha1.1, ha1.2⟩ | omega)) ?_
    rintro _ ⟨z1, rfl, hz1⟩
    refine And.intro (by omega) (And.intro ?_ ?_)
    · intro c2
      refine And.intro ⟨rfl, by decide, by decide⟩ ?_
      refine And.intro ⟨rfl, by decide, by decide⟩ ?_
      refine And.intro ⟨rfl, by decide, by decide⟩ ?_
      refine fload rL_164_164_0_23_1_0 h0 hB0 (by omega) ?_
      intro z3 lz3 uz3 qz3
      have v25 := cL_a (d := 0) (a := 164) (n := 24) (b := 530) (m := 14) (by decide +kernel) (by decide) qz3 (by omega) rfl
      refine And.intro (And.intro (by first | exact fi_ lz3 uz3 rfl | omega) (by first | exact ⟨by decide, by decide⟩ | omega)) (And.intro ?_ ?_)
      · intro c4
        refine And.intro ⟨rfl, by decide, by decide⟩ ?_
        refine And.intro ⟨rfl, by decide, by decide⟩ ?_
        refine Exists.intro xm_50 (And.intro mi_50 (And.intro ⟨rfl, rfl, rfl, rfl⟩ (And.intro rfl ?_)))
        refine fcallp hB0 (ct_Works_isGone_6681e (fBz h0 hB0) (by omega)) ?_
        rintro _ ⟨z5, rfl, hz5, g0z5⟩
        refine And.intro (by omega) (And.intro ?_ ?_)
        · intro c6
          refine And.intro (True.intro) ?_
          exact ⟨_, rfl, by omega, (st_n (by omega) (by rw [← gt_at v25 (show _ = 530 + 14 * x1 by omega)]; omega) (Or.inl (g0z5.elim (fun q => q.2) (fun q => absurd q.1 (by omega)))) rfl)⟩
        · intro c7
          refine And.intro ⟨rfl, by decide, by decide⟩ ?_
          refine And.intro ⟨rfl, by decide, by decide⟩ ?_
          refine Exists.intro xm_55 (And.intro mi_55 (And.intro ⟨rfl, rfl, rfl, rfl⟩ (And.intro rfl ?_)))
          refine fcallp hB0 (ct_Works_isDropped_adfda (fBz h0 hB0) (by omega) hp0) ?_
          rintro _ ⟨z8, rfl, hz8, g0z8⟩
          refine And.intro (by omega) (And.intro ?_ ?_)
          · intro c9
            refine And.intro (True.intro) ?_
            exact ⟨_, rfl, by omega, (st_0 (by omega) (by rw [← gt_at v25 (show _ = 530 + 14 * x1 by omega)]; omega) (fun w => by have w1 := (g0z5.elim (fun q => absurd q.1 (by omega)) (fun q => q.2)); have w2 := (g0z8.elim (fun q => absurd q.1 (by omega)) (fun q => q.2)); omega) rfl)⟩
          · intro c10
            refine And.intro (True.intro) ?_
            exact ⟨_, rfl, by omega, (st_n (by omega) (by rw [← gt_at v25 (show _ = 530 + 14 * x1 by omega)]; omega) (Or.inr (g0z8.elim (fun q => q.2) (fun q => absurd q.1 (by omega)))) rfl)⟩
      · intro c11
        refine And.intro (True.intro) ?_
        exact ⟨_, rfl, by omega, (st_k (by omega) (by rw [← gt_at v25 (show _ = 530 + 14 * x1 by omega)]; omega) rfl)⟩
    · intro c12
      refine And.intro (True.intro) ?_
      exact ⟨_, rfl, by omega, (st_b (fun q => by omega) rfl)⟩
set_option maxRecDepth 8000 in
theorem ct_X_drop_cdd18 {I : fH} {x1 : Int} (h0 : fB bsJ I) (ha1 : ((-2147483648) ≤ x1 ∧ x1 ≤ 2147483647)) (hp0 : okA (cR 0 I)) : fC ρ base n F xTc vwCl xTys D dA la gJ (fbz bsJ znJ (fKc wz_0ffea) I) xm_53 [.inr (.inr (some 0)), .inl x1] I (fun I' r => ∃ z, r = some (.inl z) ∧ ((0 ≤ z ∧ z ≤ 60) ∨ z = (-1000000012) ∨ z = (-1000000002) ∨ z = (-1000000001)) ∧ ((cR 0 I', z) = oDrop (cR 0 I) x1)) := by
  have hW : fzs wz_0ffea (fKc wz_0ffea) := fKc_ok _
  refine f_meth (rb := rbJ) (J := []) 1 400 xG xin_53 x6_53 okJ (fB_self h0) ?_ ?_
  · exact fun q h => absurd h List.not_mem_nil
  · have hB0 := fB_self (zn := znJ) (K := fKc wz_0ffea) h0
    refine Exists.intro xm_54 (And.intro mi_54 (And.intro ⟨rfl, rfl, rfl, rfl⟩ (And.intro rfl ?_)))
    refine fcallp hB0 (ct_X_refusedProbe_344cc (fBz h0 hB0) (by first | exact ⟨ha1.1, ha1.2⟩ | omega) hp0) ?_
    rintro _ ⟨z1, rfl, hz1, g0z1⟩
    refine And.intro (by omega) (And.intro ?_ ?_)
    · intro c2
      refine And.intro ⟨rfl, by decide, by decide⟩ ?_
      refine And.intro ⟨rfl, by decide, by decide⟩ ?_
      refine And.intro ⟨rfl, by decide, by decide⟩ ?_
      refine And.intro ⟨rfl, by decide, by decide⟩ ?_
      refine Exists.intro xm_31 (And.intro mi_31 (And.intro ⟨rfl, rfl, rfl, rfl⟩ (And.intro rfl ?_)))
      refine fcallp hB0 (ct_City_level_61deb (fBz h0 hB0)) ?_
      rintro _ ⟨z3, rfl, hz3, g0z3⟩
      refine fstore rS_175_175_0_23_1_0 (fzs_sub (by decide +kernel) hW) (by omega) (by first | exact ⟨Int.le_trans (by decide) hz3.1, hz3.2⟩ | omega) ?_
      intro IhB4 ehB4 hB4
      have t5 := fup_self ehB4
      have r30 := cS_l (d := 0) ehB4 (by omega) rfl
      refine And.intro ⟨rfl, by decide, by decide⟩ ?_
      refine Exists.intro xm_31 (And.intro mi_31 (And.intro ⟨rfl, rfl, rfl, rfl⟩ (And.intro rfl ?_)))
      refine fcallp hB4 (ct_City_level_61deb (fBz h0 hB4)) ?_
      rintro _ ⟨z6, rfl, hz6, g0z6⟩
      try rw [r30] at g0z6
      refine And.intro (True.intro) ?_
      exact ⟨_, rfl, by omega, (dr_y g0z1 (by omega) (by rw [r30]; exact (rud_c rfl (by omega) ((nv_id (by omega)).trans g0z3))) (lv_ne g0z6 (by omega)))⟩
    · intro c7
      refine And.intro (True.intro) ?_
      exact ⟨_, rfl, by omega, (dr_n g0z1 (by omega) (by omega))⟩
set_option maxRecDepth 8000 in
theorem ct_M_stops_1e639 {I : fH} {x1 : Int} (h0 : fB bsJ I) (ha1 : ((-2147483648) ≤ x1 ∧ x1 ≤ 2147483647)) : fC ρ base n F xTc vwCl xTys D dA la gJ (fbz bsJ znJ (fKc []) I) xm_275 [.inr (.inr (some 740)), .inl x1] I (fun _ r => ∃ z, r = some (.inl z) ∧ (((0 ≤ z ∧ z ≤ 0) ∨ z = (-1000000012) ∨ z = (-1000000002) ∨ z = (-1000000001)) ∧ (z = 0 → 0 ≤ x1 ∧ x1 ≤ 23)) ∧ (z = oStop (mR I) x1)) := by
  have hW : fzs [] (fKc []) := fKc_ok _
  refine f_meth (rb := rbJ) (J := []) 1 400 xG xin_275 x6_275 okJ (fB_self h0) ?_ ?_
  · exact fun q h => absurd h List.not_mem_nil
  · have hB0 := fB_self (zn := znJ) (K := fKc []) h0
    have w907 : I 741 7 = gt (mR I) 7 := (show I 741 7 = gt (mR I) 7 from (mR_ld (I := I) (k := 7) (by decide +kernel)).symm)
    refine Exists.intro xm_266 (And.intro mi_266 (And.intro ⟨rfl, rfl, rfl, rfl⟩ (And.intro rfl ?_)))
    refine fcallp hB0 (ct_M_isWork_a0fef (fBz h0 hB0) (by first | exact ⟨ha1.1, ha1.2⟩ | omega)) ?_
    rintro _ ⟨z1, rfl, hz1⟩
    refine And.intro (by omega) (And.intro ?_ ?_)
    · intro c2
      refine Exists.intro xm_267 (And.intro mi_267 (And.intro ⟨rfl, rfl, rfl, rfl⟩ (And.intro rfl ?_)))
      refine fcallp hB0 (ct_M_kindOf_31275 (fBz h0 hB0) (by omega)) ?_
      rintro _ ⟨z3, rfl, hz3, g0z3, g1z3⟩
      refine And.intro (And.intro (by first | exact fi_ hz3.1 hz3.2 rfl | omega) (by first | exact ⟨by decide, by decide⟩ | omega)) (And.intro ?_ ?_)
      · intro c4
        refine Exists.intro xm_245 (And.intro mi_245 (And.intro ⟨rfl, rfl, rfl, rfl⟩ (And.intro rfl ?_)))
        refine fcallp hB0 (ct_M_isGone_0de37 (fBz h0 hB0) (by omega)) ?_
        rintro _ ⟨z5, rfl, hz5, g0z5⟩
        refine And.intro (by omega) (And.intro ?_ ?_)
        · intro c6
          refine And.intro (True.intro) ?_
          exact ⟨_, rfl, by omega, (st_n (by omega) (by rw [← g1z3]; omega) (Or.inl (g0z5.elim (fun q => q.2) (fun q => absurd q.1 (by omega)))) rfl)⟩
        · intro c7
          refine And.intro ⟨rfl, by decide, by decide⟩ ?_
          refine Exists.intro xm_244 (And.intro mi_244 (And.intro ⟨rfl, rfl, rfl, rfl⟩ (And.intro rfl ?_)))
          refine fcallp hB0 (ct_M_workAt_83d38 (fBz h0 hB0) (by omega)) ?_
          rintro _ ⟨_, rfl, rfl⟩
          refine fload rL_741_741_539_861_14_0 h0 hB0 (by omega) ?_
          intro z9 lz9 uz9 qz9
          have v48 := mL_r (i0 := 539) (i1 := 861) (m := 14) (q := 0) (by decide +kernel) qz9 (by omega) rfl
          refine And.intro (by first | exact fi_ lz9 uz9 rfl | omega) (And.intro ?_ ?_)
          · intro c10
            refine And.intro (True.intro) ?_
            exact ⟨_, rfl, by omega, (st_0 (by omega) (by rw [← g1z3]; omega) (fun w => by have w1 := (g0z5.elim (fun q => absurd q.1 (by omega)) (fun q => q.2)); have w2 := gt_at v48 (show _ = 539 + 14 * x1 by omega); omega) rfl)⟩
          · intro c11
            refine And.intro (True.intro) ?_
            exact ⟨_, rfl, by omega, (st_n (by omega) (by rw [← g1z3]; omega) (Or.inr (by rw [← gt_at v48 (show _ = 539 + 14 * x1 by omega)]; omega)) rfl)⟩
      · intro c12
        refine And.intro (True.intro) ?_
        exact ⟨_, rfl, by omega, (st_k (by omega) (by rw [← g1z3]; omega) rfl)⟩
    · intro c13
      refine And.intro (True.intro) ?_
      exact ⟨_, rfl, by omega, (st_b (fun q => by omega) rfl)⟩
set_option maxRecDepth 8000 in
theorem ct_M_drop_6f2b6 {I : fH} {x1 : Int} (h0 : fB bsJ I) (ha1 : ((-2147483648) ≤ x1 ∧ x1 ≤ 2147483647)) : fC ρ base n F xTc vwCl xTys D dA la gJ (fbz bsJ znJ (fKc wz_7172e) I) xm_274 [.inr (.inr (some 740)), .inl x1] I (fun I' r => ∃ z, r = some (.inl z) ∧ ((0 ≤ z ∧ z ≤ 60) ∨ z = (-1000000012) ∨ z = (-1000000002) ∨ z = (-1000000001)) ∧ ((mR I', z) = oDrop (mR I) x1)) := by
  have hW : fzs wz_7172e (fKc wz_7172e) := fKc_ok _
  refine f_meth (rb := rbJ) (J := []) 1 400 xG xin_274 x6_274 okJ (fB_self h0) ?_ ?_
  · exact fun q h => absurd h List.not_mem_nil
  · have hB0 := fB_self (zn := znJ) (K := fKc wz_7172e) h0
    refine Exists.intro xm_275 (And.intro mi_275 (And.intro ⟨rfl, rfl, rfl, rfl⟩ (And.intro rfl ?_)))
    refine fcallp hB0 (ct_M_stops_1e639 (fBz h0 hB0) (by first | exact ⟨ha1.1, ha1.2⟩ | omega)) ?_
    rintro _ ⟨z1, rfl, hz1, g0z1⟩
    refine And.intro (by omega) (And.intro ?_ ?_)
    · intro c2
      refine And.intro ⟨rfl, by decide, by decide⟩ ?_
      refine Exists.intro xm_244 (And.intro mi_244 (And.intro ⟨rfl, rfl, rfl, rfl⟩ (And.intro rfl ?_)))
      refine fcallp hB0 (ct_M_workAt_83d38 (fBz h0 hB0) (by omega)) ?_
      rintro _ ⟨_, rfl, rfl⟩
      refine Exists.intro xm_260 (And.intro mi_260 (And.intro ⟨rfl, rfl, rfl, rfl⟩ (And.intro rfl ?_)))
      refine fcallp hB0 (ct_M_level_daf8a (fBz h0 hB0)) ?_
      rintro _ ⟨z4, rfl, hz4, g0z4⟩
      refine fstore rS_741_741_539_861_14_0 (fzs_sub (by decide +kernel) hW) (by omega) (by first | exact ⟨Int.le_trans (by decide) hz4.1, hz4.2⟩ | omega) ?_
      intro IhB5 ehB5 hB5
      have t6 := fup_self ehB5
      have r28 := mS_r (i0 := 539) (i1 := 861) (m := 14) (q := 0) (by decide +kernel) ehB5 (by omega) rfl
      refine Exists.intro xm_260 (And.intro mi_260 (And.intro ⟨rfl, rfl, rfl, rfl⟩ (And.intro rfl ?_)))
      refine fcallp hB5 (ct_M_level_daf8a (fBz h0 hB5)) ?_
      rintro _ ⟨z7, rfl, hz7, g0z7⟩
      try rw [r28] at g0z7
      refine And.intro (True.intro) ?_
      exact ⟨_, rfl, by omega, (dr_y g0z1 (by omega) (by rw [r28]; exact (rud_c rfl (by omega) g0z4)) (lv_ne g0z7 (by omega)))⟩
    · intro c8
      refine And.intro (True.intro) ?_
      exact ⟨_, rfl, by omega, (dr_n g0z1 (by omega) (by omega))⟩
abbrev jc_City_minutesTillLost_961fa_10 (x1 : Int) (I0 : fH) : Nat → fL → List fV → fH → Prop := fun m lv st I => ∃ (y1 : Int) (y2 : Int) (y3 : Int) (y4 : Int), lv = [(0, .inr (.inr (some 1))), (1, .inl y1), (2, .inl y2), (3, .inl y3), (4, .inl y4)] ∧ st = [] ∧ (((0 ≤ y1 ∧ y1 ≤ 99999) ∧ (0 ≤ y2 ∧ y2 ≤ 60) ∧ (0 ≤ y3 ∧ y3 ≤ 99999) ∧ (1 ≤ y4 ∧ y4 ≤ 1001) ∧ (y3 ≤ 9999 * (y4 - 1)) ∧ (0 ≤ y3) ∧ (y1 = x1)) ∧ (nDep (cR 0 I0) x1 1000 1 (sLv (cR 0 I0)) 0 = nDep (cR 0 I0) x1 (1001 - y4).toNat y4 y2 y3)) ∧ m = (1 + 1 * (1001 - y4) : Int).toNat
set_option maxRecDepth 8000 in
theorem ct_City_minutesTillLost_961fa {I : fH} {x1 : Int} (h0 : fB bsJ I) (ha1 : (0 ≤ x1 ∧ x1 ≤ 99999)) : fC ρ base n F xTc vwCl xTys D dA la gJ (fbz bsJ znJ (fKc []) I) xm_57 [.inr (.inr (some 1)), .inl x1] I (fun _ r => ∃ z, r = some (.inl z) ∧ (1 ≤ z ∧ z ≤ 1000) ∧ (z = nDep (cR 0 I) x1 1000 1 (sLv (cR 0 I)) 0)) := by
  have hW : fzs [] (fKc []) := fKc_ok _
  refine f_meth (rb := rbJ) (J := [(10, (jc_City_minutesTillLost_961fa_10 x1 I))]) 1002 400 xG xin_57 x6_57 okJ (fB_self h0) ?_ ?_
  · refine List.forall_mem_cons.mpr ⟨?_, fun q h => absurd h List.not_mem_nil⟩
    · rintro m _ _ I1 hB1 ⟨y1, y2, y3, y4, rfl, rfl, ⟨hb, hx0⟩, hm⟩
      have eJ : I1 = I := fFr_nil (fFr_of hB1)
      refine And.intro (And.intro (by first | exact fi_ hb.2.2.2.1.1 hb.2.2.2.1.2 rfl | omega) (by first | exact ⟨by decide, by decide⟩ | omega)) (And.intro ?_ ?_)
      · intro c1
        refine And.intro (True.intro) ?_
        exact ⟨_, rfl, (by first | exact ⟨by decide, by decide⟩ | omega), (nD_z hx0 (by omega) (by omega))⟩
      · intro c2
        refine And.intro (And.intro (by first | exact ⟨by decide, by decide⟩ | omega) (And.intro (by omega) rfl)) ?_
        intro z3 hz3
        refine And.intro ⟨rfl, by decide, by decide⟩ ?_
        refine And.intro ⟨rfl, by decide⟩ (And.intro (by first | exact ⟨by decide, by decide⟩ | omega) ?_)
        refine fload rL_185_185_0_60_1_0 h0 hB1 (by omega) ?_
        intro z4 lz4 uz4 qz4
        have v34 := cL_a (d := 0) (a := 185) (n := 61) (b := 1081) (m := 1) (by decide +kernel) (by decide) qz4 (by omega) rfl
        rw [eJ] at v34
        intro z5 hz5 ez5 bz5
        clear ez5
        have bz5 := bz5 (by omega)
        refine And.intro (by omega) (And.intro ?_ ?_)
        · intro c6
          exact fcutJ (I := I1) (j := (jc_City_minutesTillLost_961fa_10 x1 I)) (lv' := [(0, .inr (.inr (some 1))), (1, .inl _), (2, .inl _), (3, .inl _), (4, .inl _)]) (And.intro rfl (And.intro rfl (And.intro rfl (And.intro rfl (And.intro rfl True.intro))))) ⟨_, _, _, _, rfl, rfl, ⟨by omega, (nD_S hx0 (by omega) (by unfold nl; split <;> omega) v34 (by omega) (by omega) (by omega) (by omega))⟩, rfl⟩ (by omega)
        · intro c7
          refine And.intro (True.intro) ?_
          exact ⟨_, rfl, (by first | exact ⟨hb.2.2.2.1.1, Int.le_trans (Int.le_trans c2 (Int.le_refl _)) (by decide)⟩ | omega), (nD_T (l' := z3) (f' := y3 + z4) hx0 (by omega) (by unfold nl; split <;> omega) v34 (by omega) rfl (by omega) (by omega))⟩
  · have hB0 := fB_self (zn := znJ) (K := fKc []) h0
    refine Exists.intro xm_31 (And.intro mi_31 (And.intro ⟨rfl, rfl, rfl, rfl⟩ (And.intro rfl ?_)))
    refine fcallp hB0 (ct_City_level_61deb (fBz h0 hB0)) ?_
    rintro _ ⟨z8, rfl, hz8, g0z8⟩
    exact fcutJ (I := I) (j := (jc_City_minutesTillLost_961fa_10 x1 I)) (lv' := [(0, .inr (.inr (some 1))), (1, .inl _), (2, .inl _), (3, .inl _), (4, .inl _)]) (And.intro rfl (And.intro rfl (And.intro rfl (And.intro rfl (And.intro rfl True.intro))))) ⟨_, _, _, _, rfl, rfl, ⟨by omega, (nD_0 g0z8 (by omega) (by omega))⟩, rfl⟩ (by omega)
set_option maxRecDepth 8000 in
theorem ct_X_depth_b4eb4 {I : fH} {x1 : Int} (h0 : fB bsJ I) (ha1 : ((-2147483648) ≤ x1 ∧ x1 ≤ 2147483647)) (hp0 : okA (cR 0 I)) : fC ρ base n F xTc vwCl xTys D dA la gJ (fbz bsJ znJ (fKc []) I) xm_56 [.inr (.inr (some 0)), .inl x1] I (fun _ r => ∃ z, r = some (.inl z) ∧ ((0 ≤ z ∧ z ≤ 1000) ∨ z = (-1000000012) ∨ z = (-1000000002) ∨ z = (-1000000001)) ∧ (z = oDepth (cR 0 I) x1)) := by
  have hW : fzs [] (fKc []) := fKc_ok _
  refine f_meth (rb := rbJ) (J := []) 1 400 xG xin_56 x6_56 okJ (fB_self h0) ?_ ?_
  · exact fun q h => absurd h List.not_mem_nil
  · have hB0 := fB_self (zn := znJ) (K := fKc []) h0
    refine Exists.intro xm_54 (And.intro mi_54 (And.intro ⟨rfl, rfl, rfl, rfl⟩ (And.intro rfl ?_)))
    refine fcallp hB0 (ct_X_refusedProbe_344cc (fBz h0 hB0) (by first | exact ⟨ha1.1, ha1.2⟩ | omega) hp0) ?_
    rintro _ ⟨z1, rfl, hz1, g0z1⟩
    refine And.intro (by omega) (And.intro ?_ ?_)
    · intro c2
      refine And.intro ⟨rfl, by decide, by decide⟩ ?_
      refine And.intro ⟨rfl, by decide, by decide⟩ ?_
      refine And.intro ⟨rfl, by decide, by decide⟩ ?_
      refine And.intro ⟨rfl, by decide, by decide⟩ ?_
      refine fload rL_171_171_0_23_1_0 h0 hB0 (by omega) ?_
      intro z3 lz3 uz3 qz3
      have v29 := cL_a (d := 0) (a := 171) (n := 24) (b := 535) (m := 14) (by decide +kernel) (by decide) qz3 (by omega) rfl
      refine Exists.intro xm_57 (And.intro mi_57 (And.intro ⟨rfl, rfl, rfl, rfl⟩ (And.intro rfl ?_)))
      refine fcallp hB0 (ct_City_minutesTillLost_961fa (fBz h0 hB0) (by first | exact ⟨lz3, uz3⟩ | omega)) ?_
      rintro _ ⟨z4, rfl, hz4, g0z4⟩
      refine And.intro (True.intro) ?_
      exact ⟨_, rfl, by omega, (dp_y g0z1 (by omega) g0z4 v29 (by omega))⟩
    · intro c5
      refine And.intro (True.intro) ?_
      exact ⟨_, rfl, by omega, (dp_n g0z1 (by omega) (by omega))⟩
abbrev jc_M_depth_0e6f9_23 (x1 : Int) (I0 : fH) : Nat → fL → List fV → fH → Prop := fun m lv st I => ∃ (y1 : Int) (y3 : Int) (y4 : Int) (y5 : Int), lv = [(0, .inr (.inr (some 740))), (1, .inl y1), (3, .inl y3), (4, .inl y4), (5, .inl y5)] ∧ st = [] ∧ (((0 ≤ y1 ∧ y1 ≤ 23) ∧ (0 ≤ y3 ∧ y3 ≤ 60) ∧ (0 ≤ y4 ∧ y4 ≤ 99999) ∧ (1 ≤ y5 ∧ y5 ≤ 1001) ∧ (y4 ≤ 9999 * (y5 - 1)) ∧ (0 ≤ y4) ∧ (y1 = x1)) ∧ (nDep (mR I0) (gt (mR I0) (535 + 14 * x1)) 1000 1 (sLv (mR I0)) 0 = nDep (mR I0) (gt (mR I0) (535 + 14 * x1)) (1001 - y5).toNat y5 y3 y4) ∧ (0 = oStop (mR I0) x1)) ∧ m = (1 + 1 * (1001 - y5) : Int).toNat
set_option maxRecDepth 8000 in
theorem ct_M_depth_0e6f9 {I : fH} {x1 : Int} (h0 : fB bsJ I) (ha1 : ((-2147483648) ≤ x1 ∧ x1 ≤ 2147483647)) : fC ρ base n F xTc vwCl xTys D dA la gJ (fbz bsJ znJ (fKc []) I) xm_276 [.inr (.inr (some 740)), .inl x1] I (fun _ r => ∃ z, r = some (.inl z) ∧ ((0 ≤ z ∧ z ≤ 1000) ∨ z = (-1000000012) ∨ z = (-1000000002) ∨ z = (-1000000001)) ∧ (z = oDepth (mR I) x1)) := by
  have hW : fzs [] (fKc []) := fKc_ok _
  refine f_meth (rb := rbJ) (J := [(23, (jc_M_depth_0e6f9_23 x1 I))]) 1002 400 xG xin_276 x6_276 okJ (fB_self h0) ?_ ?_
  · refine List.forall_mem_cons.mpr ⟨?_, fun q h => absurd h List.not_mem_nil⟩
    · rintro m _ _ I1 hB1 ⟨y1, y3, y4, y5, rfl, rfl, ⟨hb, hx0, hx1⟩, hm⟩
      have eJ : I1 = I := fFr_nil (fFr_of hB1)
      refine And.intro (And.intro (by first | exact fi_ hb.2.2.2.1.1 hb.2.2.2.1.2 rfl | omega) (by first | exact ⟨by decide, by decide⟩ | omega)) (And.intro ?_ ?_)
      · intro c1
        refine And.intro (True.intro) ?_
        exact ⟨_, rfl, by omega, (dp_y hx1 rfl (nD_z hx0 (by omega) (by omega)) rfl (by omega))⟩
      · intro c2
        refine And.intro (by first | exact fi_ hb.2.1.1 hb.2.1.2 rfl | omega) (And.intro ?_ ?_)
        · intro c3
          intro z4 hz4 ez4 bz4
          clear ez4
          have bz4 := bz4 (by omega)
          refine And.intro ⟨rfl, by decide, by decide⟩ ?_
          intro z5 hz5 ez5 bz5
          clear ez5
          have bz5 := bz5 (by omega)
          refine fload rL_741_741_1081_1141_1_0 h0 hB1 (by omega) ?_
          intro z6 lz6 uz6 qz6
          have v54 := mL_r (i0 := 1081) (i1 := 1141) (m := 1) (q := 0) (by decide +kernel) qz6 (by omega) rfl
          rw [eJ] at v54
          intro z7 hz7 ez7 bz7
          clear ez7
          have bz7 := bz7 (by omega)
          refine And.intro ⟨rfl, by decide, by decide⟩ ?_
          refine Exists.intro xm_244 (And.intro mi_244 (And.intro ⟨rfl, rfl, rfl, rfl⟩ (And.intro rfl ?_)))
          refine fcallp hB1 (ct_M_workAt_83d38 (fBz h0 hB1) (by first | exact ⟨hb.1.1, hb.1.2⟩ | omega)) ?_
          rintro _ ⟨_, rfl, rfl⟩
          refine fload rL_741_741_535_857_14_0 h0 hB1 (by omega) ?_
          intro z9 lz9 uz9 qz9
          have v71 := mL_r (i0 := 535) (i1 := 857) (m := 14) (q := 0) (by decide +kernel) qz9 (by omega) rfl
          rw [eJ] at v71
          refine And.intro (by omega) (And.intro ?_ ?_)
          · intro c10
            exact fcutJ (I := I1) (j := (jc_M_depth_0e6f9_23 x1 I)) (lv' := [(0, .inr (.inr (some 740))), (1, .inl _), (3, .inl _), (4, .inl _), (5, .inl _)]) (And.intro rfl (And.intro rfl (And.intro rfl (And.intro rfl (And.intro rfl True.intro))))) ⟨_, _, _, _, rfl, rfl, ⟨by omega, (nD_S hx0 (by omega) (by unfold nl; split <;> omega) v54 (by omega) (by omega) (by rw [← gt_at v71 (show _ = 535 + 14 * x1 by omega)]; omega) (by omega)), hx1⟩, rfl⟩ (by omega)
          · intro c11
            refine And.intro (True.intro) ?_
            exact ⟨_, rfl, by omega, (dp_y hx1 rfl (nD_T (l' := y3 - 0) (f' := y4 + z6) hx0 (by omega) (by unfold nl; split <;> omega) v54 (by omega) rfl (by rw [← gt_at v71 (show _ = 535 + 14 * x1 by omega)]; omega) (by omega)) rfl (by omega))⟩
        · intro c12
          intro z13 hz13 ez13 bz13
          clear ez13
          have bz13 := bz13 (by omega)
          refine And.intro ⟨rfl, by decide, by decide⟩ ?_
          intro z14 hz14 ez14 bz14
          clear ez14
          have bz14 := bz14 (by omega)
          refine fload rL_741_741_1081_1141_1_0 h0 hB1 (by omega) ?_
          intro z15 lz15 uz15 qz15
          have v54 := mL_r (i0 := 1081) (i1 := 1141) (m := 1) (q := 0) (by decide +kernel) qz15 (by omega) rfl
          rw [eJ] at v54
          intro z16 hz16 ez16 bz16
          clear ez16
          have bz16 := bz16 (by omega)
          refine And.intro ⟨rfl, by decide, by decide⟩ ?_
          refine Exists.intro xm_244 (And.intro mi_244 (And.intro ⟨rfl, rfl, rfl, rfl⟩ (And.intro rfl ?_)))
          refine fcallp hB1 (ct_M_workAt_83d38 (fBz h0 hB1) (by first | exact ⟨hb.1.1, hb.1.2⟩ | omega)) ?_
          rintro _ ⟨_, rfl, rfl⟩
          refine fload rL_741_741_535_857_14_0 h0 hB1 (by omega) ?_
          intro z18 lz18 uz18 qz18
          have v71 := mL_r (i0 := 535) (i1 := 857) (m := 14) (q := 0) (by decide +kernel) qz18 (by omega) rfl
          rw [eJ] at v71
          refine And.intro (by omega) (And.intro ?_ ?_)
          · intro c19
            exact fcutJ (I := I1) (j := (jc_M_depth_0e6f9_23 x1 I)) (lv' := [(0, .inr (.inr (some 740))), (1, .inl _), (3, .inl _), (4, .inl _), (5, .inl _)]) (And.intro rfl (And.intro rfl (And.intro rfl (And.intro rfl (And.intro rfl True.intro))))) ⟨_, _, _, _, rfl, rfl, ⟨by omega, (nD_S hx0 (by omega) (by unfold nl; split <;> omega) v54 (by omega) (by omega) (by rw [← gt_at v71 (show _ = 535 + 14 * x1 by omega)]; omega) (by omega)), hx1⟩, rfl⟩ (by omega)
          · intro c20
            refine And.intro (True.intro) ?_
            exact ⟨_, rfl, by omega, (dp_y hx1 rfl (nD_T (l' := y3 - 1) (f' := y4 + z15) hx0 (by omega) (by unfold nl; split <;> omega) v54 (by omega) rfl (by rw [← gt_at v71 (show _ = 535 + 14 * x1 by omega)]; omega) (by omega)) rfl (by omega))⟩
  · have hB0 := fB_self (zn := znJ) (K := fKc []) h0
    refine Exists.intro xm_275 (And.intro mi_275 (And.intro ⟨rfl, rfl, rfl, rfl⟩ (And.intro rfl ?_)))
    refine fcallp hB0 (ct_M_stops_1e639 (fBz h0 hB0) (by first | exact ⟨ha1.1, ha1.2⟩ | omega)) ?_
    rintro _ ⟨z21, rfl, hz21, g0z21⟩
    refine And.intro (by omega) (And.intro ?_ ?_)
    · intro c22
      refine Exists.intro xm_260 (And.intro mi_260 (And.intro ⟨rfl, rfl, rfl, rfl⟩ (And.intro rfl ?_)))
      refine fcallp hB0 (ct_M_level_daf8a (fBz h0 hB0)) ?_
      rintro _ ⟨z23, rfl, hz23, g0z23⟩
      exact fcutJ (I := I) (j := (jc_M_depth_0e6f9_23 x1 I)) (lv' := [(0, .inr (.inr (some 740))), (1, .inl _), (3, .inl _), (4, .inl _), (5, .inl _)]) (And.intro rfl (And.intro rfl (And.intro rfl (And.intro rfl (And.intro rfl True.intro))))) ⟨_, _, _, _, rfl, rfl, ⟨by omega, (nD_0 g0z23 (by omega) (by omega)), ((show (0 : Int) = z21 by omega).trans g0z21)⟩, rfl⟩ (by omega)
    · intro c24
      refine And.intro (True.intro) ?_
      exact ⟨_, rfl, by omega, (dp_n g0z21 (by omega) (by omega))⟩
set_option maxRecDepth 8000 in
theorem ct_X_swap_2eeae {I : fH} {x0 : Nat} {x1 : Int} {x2 : Int} (h0 : fB bsJ I) (ha0 : (184 ≤ x0 ∧ x0 ≤ 186)) (ha1 : (0 ≤ x1 ∧ x1 ≤ 60)) (ha2 : (0 ≤ x2 ∧ x2 ≤ 9999)) : fC ρ base n F xTc vwCl xTys D dA la gJ (fbz bsJ znJ (fKc wz_2d238) I) xm_18 [.inr (.inr (some x0)), .inl x1, .inl x2] I (fun I' r => ∃ z, r = some (.inl z) ∧ (0 ≤ z ∧ z ≤ 9999) ∧ (I' = fupd I x0 x1.toNat x2) ∧ (z = I x0 x1.toNat)) := by
  have hW : fzs wz_2d238 (fKc wz_2d238) := fKc_ok _
  refine f_meth (rb := rbJ) (J := []) 1 400 xG xin_18 x6_18 okJ (fB_self h0) ?_ ?_
  · exact fun q h => absurd h List.not_mem_nil
  · have hB0 := fB_self (zn := znJ) (K := fKc wz_2d238) h0
    refine fload rL_184_186_0_60_1_0 h0 hB0 (by omega) ?_
    intro z1 lz1 uz1 qz1
    refine fstore rS_184_186_0_60_1_0 (fzs_sub (by decide +kernel) hW) (by omega) (by first | exact ⟨ha2.1, ha2.2⟩ | omega) ?_
    intro IhB2 ehB2 hB2
    have t3 := fup_self ehB2
    refine And.intro (True.intro) ?_
    exact ⟨_, rfl, (by first | exact ⟨lz1, uz1⟩ | omega), ehB2, qz1⟩
set_option maxRecDepth 8000 in
theorem ct_X_table_655e5 {I : fH} {x1 : Int} {x2 : Int} {x3 : Int} (h0 : fB bsJ I) (ha1 : ((-2147483648) ≤ x1 ∧ x1 ≤ 2147483647)) (ha2 : ((-2147483648) ≤ x2 ∧ x2 ≤ 2147483647)) (ha3 : ((-2147483648) ≤ x3 ∧ x3 ≤ 2147483647)) : fC ρ base n F xTc vwCl xTys D dA la gJ (fbz bsJ znJ (fKc wz_2d238) I) xm_58 [.inr (.inr (some 0)), .inl x1, .inl x2, .inl x3] I (fun I' r => ∃ z, r = some (.inl z) ∧ ((0 ≤ z ∧ z ≤ 9999) ∨ z = (-1000000001)) ∧ (((0 ≤ x1 ∧ x1 ≤ 2 ∧ 0 ≤ x2 ∧ x2 ≤ 60 ∧ 0 ≤ x3 ∧ x3 ≤ 9999) ∧ I' = fupd I (184 + x1.toNat) x2.toNat x3 ∧ z = I (184 + x1.toNat) x2.toNat) ∨ (¬ (0 ≤ x1 ∧ x1 ≤ 2 ∧ 0 ≤ x2 ∧ x2 ≤ 60 ∧ 0 ≤ x3 ∧ x3 ≤ 9999) ∧ I' = I ∧ z = (-1000000001))) ∧ ((cR 0 I', z) = oTable (cR 0 I) x1 x2 x3)) := by
  have hW : fzs wz_2d238 (fKc wz_2d238) := fKc_ok _
  refine f_meth (rb := rbJ) (J := []) 1 400 xG xin_58 x6_58 okJ (fB_self h0) ?_ ?_
  · exact fun q h => absurd h List.not_mem_nil
  · have hB0 := fB_self (zn := znJ) (K := fKc wz_2d238) h0
    refine Exists.intro xm_13 (And.intro mi_13 (And.intro ⟨rfl, rfl, rfl, rfl⟩ (And.intro True.intro ?_)))
    refine fcallp hB0 (ct_X_within_c27b1 (fBz h0 hB0) (by first | exact ⟨ha1.1, ha1.2⟩ | omega) (by first | exact ⟨by decide, by decide⟩ | omega) (by first | exact ⟨by decide, by decide⟩ | omega)) ?_
    rintro _ ⟨z1, rfl, hz1⟩
    refine And.intro (by omega) (And.intro ?_ ?_)
    · intro c2
      refine And.intro (True.intro) ?_
      exact ⟨_, rfl, by omega, (by first | exact Or.inl ⟨by omega, g0nil0, g1nil0⟩ | exact Or.inr ⟨by omega, rfl, by omega⟩), (pr_n (fun q => by omega) rfl)⟩
    · intro c3
      refine Exists.intro xm_13 (And.intro mi_13 (And.intro ⟨rfl, rfl, rfl, rfl⟩ (And.intro True.intro ?_)))
      refine fcallp hB0 (ct_X_within_c27b1 (fBz h0 hB0) (by first | exact ⟨ha2.1, ha2.2⟩ | omega) (by first | exact ⟨by decide, by decide⟩ | omega) (by first | exact ⟨by decide, by decide⟩ | omega)) ?_
      rintro _ ⟨z4, rfl, hz4⟩
      refine And.intro (by omega) (And.intro ?_ ?_)
      · intro c5
        refine And.intro (True.intro) ?_
        exact ⟨_, rfl, by omega, (by first | exact Or.inl ⟨by omega, g0nil0, g1nil0⟩ | exact Or.inr ⟨by omega, rfl, by omega⟩), (pr_n (fun q => by omega) rfl)⟩
      · intro c6
        refine Exists.intro xm_13 (And.intro mi_13 (And.intro ⟨rfl, rfl, rfl, rfl⟩ (And.intro True.intro ?_)))
        refine fcallp hB0 (ct_X_within_c27b1 (fBz h0 hB0) (by first | exact ⟨ha3.1, ha3.2⟩ | omega) (by first | exact ⟨by decide, by decide⟩ | omega) (by first | exact ⟨by decide, by decide⟩ | omega)) ?_
        rintro _ ⟨z7, rfl, hz7⟩
        refine And.intro (by omega) (And.intro ?_ ?_)
        · intro c8
          refine And.intro ⟨rfl, by decide, by decide⟩ ?_
          refine And.intro ⟨rfl, by decide, by decide⟩ ?_
          refine And.intro ⟨rfl, by decide⟩ (And.intro (by first | exact ⟨Int.le_trans (by decide) (Int.le_trans (Int.le_refl _) hz1.1), Int.lt_of_le_of_lt (Int.le_trans hz1.2 (Int.le_refl _)) (by decide)⟩ | omega) ?_)
          refine Exists.intro xm_18 (And.intro mi_18 (And.intro ⟨rfl, rfl, rfl, rfl⟩ (And.intro True.intro ?_)))
          refine fcall _ h0 (fzs_sub (by decide +kernel) hW) hB0 (ct_X_swap_2eeae (fBz h0 hB0) (by omega) (by first | exact ⟨Int.le_trans (by decide) (Int.le_trans (Int.le_refl _) hz4.1), Int.le_trans (Int.le_trans hz4.2 (Int.le_refl _)) (by decide)⟩ | omega) (by first | exact ⟨Int.le_trans (by decide) (Int.le_trans (Int.le_refl _) hz7.1), Int.le_trans (Int.le_trans hz7.2 (Int.le_refl _)) (by decide)⟩ | omega)) ?_
          rintro IhB10 _ hB10 fhB10 ⟨z9, rfl, hz9, g0z9, g1z9⟩
          have v44 := cL_r (d := 0) (a := 184) (nr := 3) (n := 61) (b := 1020) (mr := 61) (m := 1) (by decide +kernel) (by decide) g1z9 (by omega) (by omega) rfl
          have r44 := cS_r (d := 0) (a := 184) (nr := 3) (n := 61) (b := 1020) (mr := 61) (m := 1) (by decide +kernel) (by decide) g0z9 (by omega) (by omega) rfl
          refine And.intro (True.intro) ?_
          exact ⟨_, rfl, by omega, (by first | exact Or.inl ⟨by omega, g0z9, g1z9⟩ | exact Or.inr ⟨by omega, rfl, by omega⟩), (pr_y (by omega) (by rw [r44]; exact (rud_cg (by omega) rfl)) (gt_at v44 (by omega)))⟩
        · intro c11
          refine And.intro (True.intro) ?_
          exact ⟨_, rfl, by omega, (by first | exact Or.inl ⟨by omega, g0z9, g1z9⟩ | exact Or.inr ⟨by omega, rfl, by omega⟩), (pr_n (fun q => by omega) rfl)⟩
set_option maxRecDepth 8000 in
theorem ct_M_put_b8f03 {I : fH} {x1 : Int} {x2 : Int} (h0 : fB bsJ I) (ha1 : ((1020 ≤ x1 ∧ x1 ≤ 1202) ∧ (x1 - 1020) % 61 ≤ 60)) (ha2 : (0 ≤ x2 ∧ x2 ≤ 9999)) : fC ρ base n F xTc vwCl xTys D dA la gJ (fbz bsJ znJ (fKc wz_bcfb8) I) xm_242 [.inr (.inr (some 740)), .inl x1, .inl x2] I (fun I' r => ∃ z, r = some (.inl z) ∧ (0 ≤ z ∧ z ≤ 9999) ∧ (I' = fupd I 741 x1.toNat x2) ∧ (z = I 741 x1.toNat)) := by
  have hW : fzs wz_bcfb8 (fKc wz_bcfb8) := fKc_ok _
  refine f_meth (rb := rbJ) (J := []) 1 400 xG xin_242 x6_242 okJ (fB_self h0) ?_ ?_
  · exact fun q h => absurd h List.not_mem_nil
  · have hB0 := fB_self (zn := znJ) (K := fKc wz_bcfb8) h0
    refine And.intro ⟨rfl, by decide, by decide⟩ ?_
    refine fload rL_741_741_1020_1202_61_60 h0 hB0 (by omega) ?_
    intro z1 lz1 uz1 qz1
    refine And.intro ⟨rfl, by decide, by decide⟩ ?_
    refine fstore rS_741_741_1020_1202_61_60 (fzs_sub (by decide +kernel) hW) (by omega) (by first | exact ⟨ha2.1, ha2.2⟩ | omega) ?_
    intro IhB2 ehB2 hB2
    have t3 := fup_self ehB2
    refine And.intro (True.intro) ?_
    exact ⟨_, rfl, (by first | exact ⟨lz1, uz1⟩ | omega), ehB2, qz1⟩
set_option maxRecDepth 8000 in
theorem ct_M_table_57a0f {I : fH} {x1 : Int} {x2 : Int} {x3 : Int} (h0 : fB bsJ I) (ha1 : ((-2147483648) ≤ x1 ∧ x1 ≤ 2147483647)) (ha2 : ((-2147483648) ≤ x2 ∧ x2 ≤ 2147483647)) (ha3 : ((-2147483648) ≤ x3 ∧ x3 ≤ 2147483647)) : fC ρ base n F xTc vwCl xTys D dA la gJ (fbz bsJ znJ (fKc wz_bcfb8) I) xm_277 [.inr (.inr (some 740)), .inl x1, .inl x2, .inl x3] I (fun I' r => ∃ z, r = some (.inl z) ∧ ((0 ≤ z ∧ z ≤ 9999) ∨ z = (-1000000001)) ∧ (((0 ≤ x1 ∧ x1 ≤ 2 ∧ 0 ≤ x2 ∧ x2 ≤ 60 ∧ 0 ≤ x3 ∧ x3 ≤ 9999) ∧ I' = fupd I 741 (1020 + 61 * x1 + x2).toNat x3 ∧ z = I 741 (1020 + 61 * x1 + x2).toNat) ∨ (¬ (0 ≤ x1 ∧ x1 ≤ 2 ∧ 0 ≤ x2 ∧ x2 ≤ 60 ∧ 0 ≤ x3 ∧ x3 ≤ 9999) ∧ I' = I ∧ z = (-1000000001))) ∧ ((mR I', z) = oTable (mR I) x1 x2 x3)) := by
  have hW : fzs wz_bcfb8 (fKc wz_bcfb8) := fKc_ok _
  refine f_meth (rb := rbJ) (J := []) 1 400 xG xin_277 x6_277 okJ (fB_self h0) ?_ ?_
  · exact fun q h => absurd h List.not_mem_nil
  · have hB0 := fB_self (zn := znJ) (K := fKc wz_bcfb8) h0
    refine And.intro (by first | exact fi_ ha1.1 ha1.2 rfl | omega) ?_
    refine Exists.intro xm_238 (And.intro mi_238 (And.intro ⟨rfl, rfl, rfl, rfl⟩ (And.intro True.intro ?_)))
    refine fcallp hB0 (ct_M_isIn_27230 (fBz h0 hB0) (by first | exact ⟨ha1.1, ha1.2⟩ | omega) (by first | exact ⟨by decide, by decide⟩ | omega) (by first | exact ⟨by decide, by decide⟩ | omega)) ?_
    rintro _ ⟨z1, rfl, hz1⟩
    refine And.intro (by omega) (And.intro ?_ ?_)
    · intro c2
      refine And.intro (True.intro) ?_
      exact ⟨_, rfl, by omega, (by first | exact Or.inl ⟨by omega, g0nil0.trans (fupd_ix (by omega)), g1nil0.trans (fld_ix (by omega))⟩ | exact Or.inr ⟨by omega, rfl, by omega⟩), (pr_n (fun q => by omega) rfl)⟩
    · intro c3
      refine And.intro (by first | exact fi_ ha2.1 ha2.2 rfl | omega) ?_
      refine Exists.intro xm_238 (And.intro mi_238 (And.intro ⟨rfl, rfl, rfl, rfl⟩ (And.intro True.intro ?_)))
      refine fcallp hB0 (ct_M_isIn_27230 (fBz h0 hB0) (by first | exact ⟨ha2.1, ha2.2⟩ | omega) (by first | exact ⟨by decide, by decide⟩ | omega) (by first | exact ⟨by decide, by decide⟩ | omega)) ?_
      rintro _ ⟨z4, rfl, hz4⟩
      refine And.intro (by omega) (And.intro ?_ ?_)
      · intro c5
        refine And.intro (True.intro) ?_
        exact ⟨_, rfl, by omega, (by first | exact Or.inl ⟨by omega, g0nil0.trans (fupd_ix (by omega)), g1nil0.trans (fld_ix (by omega))⟩ | exact Or.inr ⟨by omega, rfl, by omega⟩), (pr_n (fun q => by omega) rfl)⟩
      · intro c6
        refine And.intro (by first | exact fi_ ha3.1 ha3.2 rfl | omega) ?_
        refine Exists.intro xm_238 (And.intro mi_238 (And.intro ⟨rfl, rfl, rfl, rfl⟩ (And.intro True.intro ?_)))
        refine fcallp hB0 (ct_M_isIn_27230 (fBz h0 hB0) (by first | exact ⟨ha3.1, ha3.2⟩ | omega) (by first | exact ⟨by decide, by decide⟩ | omega) (by first | exact ⟨by decide, by decide⟩ | omega)) ?_
        rintro _ ⟨z7, rfl, hz7⟩
        refine And.intro (by omega) (And.intro ?_ ?_)
        · intro c8
          refine And.intro (True.intro) ?_
          exact ⟨_, rfl, by omega, (by first | exact Or.inl ⟨by omega, g0nil0.trans (fupd_ix (by omega)), g1nil0.trans (fld_ix (by omega))⟩ | exact Or.inr ⟨by omega, rfl, by omega⟩), (pr_n (fun q => by omega) rfl)⟩
        · intro c9
          refine Exists.intro xm_242 (And.intro mi_242 (And.intro ⟨rfl, rfl, rfl, rfl⟩ (And.intro rfl ?_)))
          refine fcall _ h0 (fzs_sub (by decide +kernel) hW) hB0 (ct_M_put_b8f03 (fBz h0 hB0) (by omega) (by first | exact ⟨Int.le_trans (by decide) (Int.le_trans (Int.le_refl _) hz7.1), Int.le_trans (Int.le_trans hz7.2 (Int.le_refl _)) (by decide)⟩ | omega)) ?_
          rintro IhB11 _ hB11 fhB11 ⟨z10, rfl, hz10, g0z10, g1z10⟩
          have v48 := mL_r (i0 := 1020) (i1 := 1202) (m := 61) (q := 60) (by decide +kernel) g1z10 (by omega) rfl
          have r48 := mS_r (i0 := 1020) (i1 := 1202) (m := 61) (q := 60) (by decide +kernel) g0z10 (by omega) rfl
          refine And.intro (True.intro) ?_
          exact ⟨_, rfl, by omega, (by first | exact Or.inl ⟨by omega, g0z10.trans (fupd_ix (by omega)), g1z10.trans (fld_ix (by omega))⟩ | exact Or.inr ⟨by omega, rfl, by omega⟩), (pr_y (by omega) (by rw [r48]; exact (rud_cg (by omega) rfl)) (gt_at v48 (by omega)))⟩
set_option maxRecDepth 8000 in
theorem ct_City_setTo_b8c84 {I : fH} {x1 : Int} {x2 : Int} (h0 : fB bsJ I) (ha1 : ((-2147483648) ≤ x1 ∧ x1 ≤ 2147483647)) (ha2 : ((-2147483648) ≤ x2 ∧ x2 ≤ 2147483647)) : fC ρ base n F xTc vwCl xTys D dA la gJ (fbz bsJ znJ (fKc wz_310ed) I) xm_60 [.inr (.inr (some 1)), .inl x1, .inl x2] I (fun I' r => ∃ z, r = some (.inl z) ∧ ((-2147483648) ≤ z ∧ z ≤ 2147483647) ∧ ((cR 0 I', z) = oSet (cR 0 I) x1 x2)) := by
  have hW : fzs wz_310ed (fKc wz_310ed) := fKc_ok _
  refine f_meth (rb := rbJ) (J := []) 1 400 xG xin_60 x6_60 okJ (fB_self h0) ?_ ?_
  · exact fun q h => absurd h List.not_mem_nil
  · have hB0 := fB_self (zn := znJ) (K := fKc wz_310ed) h0
    refine And.intro (by first | exact fi_ ha1.1 ha1.2 rfl | omega) (And.intro ?_ ?_)
    · intro c1
      refine And.intro (And.intro (by first | exact fi_ ha1.1 ha1.2 rfl | omega) (by first | exact ⟨by decide, by decide⟩ | omega)) (And.intro ?_ ?_)
      · intro c2
        refine And.intro (And.intro (by first | exact fi_ ha1.1 ha1.2 rfl | omega) (by first | exact ⟨by decide, by decide⟩ | omega)) (And.intro ?_ ?_)
        · intro c3
          refine And.intro (And.intro (by first | exact fi_ ha1.1 ha1.2 rfl | omega) (by first | exact ⟨by decide, by decide⟩ | omega)) (And.intro ?_ ?_)
          · intro c4
            refine And.intro (True.intro) ?_
            exact ⟨_, rfl, (by first | exact ⟨by decide, by decide⟩ | omega), (pr_n (fun q => by omega) rfl)⟩
          · intro c5
            refine Exists.intro xm_13 (And.intro mi_13 (And.intro ⟨rfl, rfl, rfl, rfl⟩ (And.intro True.intro ?_)))
            refine fcallp hB0 (ct_X_within_c27b1 (fBz h0 hB0) (by first | exact ⟨ha2.1, ha2.2⟩ | omega) (by first | exact ⟨by decide, by decide⟩ | omega) (by first | exact ⟨by decide, by decide⟩ | omega)) ?_
            rintro _ ⟨z6, rfl, hz6⟩
            refine And.intro (by omega) (And.intro ?_ ?_)
            · intro c7
              refine And.intro (True.intro) ?_
              exact ⟨_, rfl, (by first | exact ⟨by decide, by decide⟩ | omega), (pr_n (fun q => by omega) rfl)⟩
            · intro c8
              refine And.intro ⟨rfl, by decide, by decide⟩ (fgetf fb_1_8 h0 hB0 ?_)
              intro z9 lz9 uz9 qz9
              have v101 := cL_f (d := 0) (a := 1) (j := 8) (r := 4) (p := 4) (by decide +kernel) (by decide) qz9 rfl
              refine And.intro ⟨rfl, by decide, by decide⟩ (And.intro rfl (And.intro (Or.inl rfl) (fputf fb_1_8 (by decide +kernel) hW (by first | exact ⟨Int.le_trans (by decide) (Int.le_trans (Int.le_refl _) hz6.1), Int.le_trans (Int.le_trans hz6.2 (Int.le_refl _)) (by decide)⟩ | omega) ?_)))
              intro IhB10 ehB10 hB10
              have t11 := fup_at ehB10 8 (by first | rfl | omega)
              have r107 := cS_f (d := 0) (a := 1) (j := 8) (r := 4) (p := 4) (by decide +kernel) (by decide) ehB10 rfl
              refine And.intro (True.intro) ?_
              exact ⟨_, rfl, (by first | exact ⟨Int.le_trans (by decide) lz9, Int.le_trans uz9 (by decide)⟩ | omega), (pr_y (by omega) (by rw [r107]; exact (rud_cg (by omega) rfl)) (gt_at v101 (by omega)))⟩
        · intro c12
          refine Exists.intro xm_13 (And.intro mi_13 (And.intro ⟨rfl, rfl, rfl, rfl⟩ (And.intro True.intro ?_)))
          refine fcallp hB0 (ct_X_within_c27b1 (fBz h0 hB0) (by first | exact ⟨ha2.1, ha2.2⟩ | omega) (by first | exact ⟨by decide, by decide⟩ | omega) (by first | exact ⟨by decide, by decide⟩ | omega)) ?_
          rintro _ ⟨z13, rfl, hz13⟩
          refine And.intro (by omega) (And.intro ?_ ?_)
          · intro c14
            refine And.intro (And.intro (by first | exact fi_ (Int.le_trans (Int.le_refl _) (Int.le_of_eq c12.symm)) (Int.le_trans (Int.le_of_eq c12) (Int.le_refl _)) rfl | omega) (by first | exact ⟨by decide, by decide⟩ | omega)) (And.intro ?_ ?_)
            · intro c15
              refine And.intro (True.intro) ?_
              exact ⟨_, rfl, (by first | exact ⟨by decide, by decide⟩ | omega), (pr_n (fun q => by omega) rfl)⟩
            · intro c16
              refine Exists.intro xm_13 (And.intro mi_13 (And.intro ⟨rfl, rfl, rfl, rfl⟩ (And.intro True.intro ?_)))
              refine fcallp hB0 (ct_X_within_c27b1 (fBz h0 hB0) (by first | exact ⟨ha2.1, ha2.2⟩ | omega) (by first | exact ⟨by decide, by decide⟩ | omega) (by first | exact ⟨by decide, by decide⟩ | omega)) ?_
              rintro _ ⟨z17, rfl, hz17⟩
              refine And.intro (by omega) (And.intro ?_ ?_)
              · intro c18
                refine And.intro (True.intro) ?_
                exact ⟨_, rfl, (by first | exact ⟨by decide, by decide⟩ | omega), (pr_n (fun q => by omega) rfl)⟩
              · intro c19
                refine And.intro ⟨rfl, by decide, by decide⟩ (fgetf fb_1_8 h0 hB0 ?_)
                intro z20 lz20 uz20 qz20
                have v101 := cL_f (d := 0) (a := 1) (j := 8) (r := 4) (p := 4) (by decide +kernel) (by decide) qz20 rfl
                refine And.intro ⟨rfl, by decide, by decide⟩ (And.intro rfl (And.intro (Or.inl rfl) (fputf fb_1_8 (by decide +kernel) hW (by first | exact ⟨Int.le_trans (by decide) (Int.le_trans (Int.le_refl _) hz17.1), Int.le_trans (Int.le_trans hz17.2 (Int.le_refl _)) (by decide)⟩ | omega) ?_)))
                intro IhB21 ehB21 hB21
                have t22 := fup_at ehB21 8 (by first | rfl | omega)
                have r107 := cS_f (d := 0) (a := 1) (j := 8) (r := 4) (p := 4) (by decide +kernel) (by decide) ehB21 rfl
                refine And.intro (True.intro) ?_
                exact ⟨_, rfl, (by first | exact ⟨Int.le_trans (by decide) lz20, Int.le_trans uz20 (by decide)⟩ | omega), (pr_y (by omega) (by rw [r107]; exact (rud_cg (by omega) rfl)) (gt_at v101 (by omega)))⟩
          · intro c23
            refine And.intro ⟨rfl, by decide, by decide⟩ (fgetf fb_1_7 h0 hB0 ?_)
            intro z24 lz24 uz24 qz24
            have v73 := cL_f (d := 0) (a := 1) (j := 7) (r := 3) (p := 3) (by decide +kernel) (by decide) qz24 rfl
            refine And.intro ⟨rfl, by decide, by decide⟩ (And.intro rfl (And.intro (Or.inl rfl) (fputf fb_1_7 (by decide +kernel) hW (by first | exact ⟨Int.le_trans (by decide) (Int.le_trans (Int.le_refl _) hz13.1), Int.le_trans (Int.le_trans hz13.2 (Int.le_refl _)) (by decide)⟩ | omega) ?_)))
            intro IhB25 ehB25 hB25
            have t26 := fup_at ehB25 7 (by first | rfl | omega)
            have r79 := cS_f (d := 0) (a := 1) (j := 7) (r := 3) (p := 3) (by decide +kernel) (by decide) ehB25 rfl
            refine And.intro (True.intro) ?_
            exact ⟨_, rfl, (by first | exact ⟨Int.le_trans (by decide) lz24, Int.le_trans uz24 (by decide)⟩ | omega), (pr_y (by omega) (by rw [r79]; exact (rud_cg (by omega) rfl)) (gt_at v73 (by omega)))⟩
      · intro c27
        refine Exists.intro xm_13 (And.intro mi_13 (And.intro ⟨rfl, rfl, rfl, rfl⟩ (And.intro True.intro ?_)))
        refine fcallp hB0 (ct_X_within_c27b1 (fBz h0 hB0) (by first | exact ⟨ha2.1, ha2.2⟩ | omega) (by first | exact ⟨by decide, by decide⟩ | omega) (by first | exact ⟨by decide, by decide⟩ | omega)) ?_
        rintro _ ⟨z28, rfl, hz28⟩
        refine And.intro (by omega) (And.intro ?_ ?_)
        · intro c29
          refine And.intro (And.intro (by first | exact fi_ (Int.le_trans (Int.le_refl _) (Int.le_of_eq c27.symm)) (Int.le_trans (Int.le_of_eq c27) (Int.le_refl _)) rfl | omega) (by first | exact ⟨by decide, by decide⟩ | omega)) (And.intro ?_ ?_)
          · intro c30
            refine And.intro (And.intro (by first | exact fi_ (Int.le_trans (Int.le_refl _) (Int.le_of_eq c27.symm)) (Int.le_trans (Int.le_of_eq c27) (Int.le_refl _)) rfl | omega) (by first | exact ⟨by decide, by decide⟩ | omega)) (And.intro ?_ ?_)
            · intro c31
              refine And.intro (True.intro) ?_
              exact ⟨_, rfl, (by first | exact ⟨by decide, by decide⟩ | omega), (pr_n (fun q => by omega) rfl)⟩
            · intro c32
              refine Exists.intro xm_13 (And.intro mi_13 (And.intro ⟨rfl, rfl, rfl, rfl⟩ (And.intro True.intro ?_)))
              refine fcallp hB0 (ct_X_within_c27b1 (fBz h0 hB0) (by first | exact ⟨ha2.1, ha2.2⟩ | omega) (by first | exact ⟨by decide, by decide⟩ | omega) (by first | exact ⟨by decide, by decide⟩ | omega)) ?_
              rintro _ ⟨z33, rfl, hz33⟩
              refine And.intro (by omega) (And.intro ?_ ?_)
              · intro c34
                refine And.intro (True.intro) ?_
                exact ⟨_, rfl, (by first | exact ⟨by decide, by decide⟩ | omega), (pr_n (fun q => by omega) rfl)⟩
              · intro c35
                refine And.intro ⟨rfl, by decide, by decide⟩ (fgetf fb_1_8 h0 hB0 ?_)
                intro z36 lz36 uz36 qz36
                have v101 := cL_f (d := 0) (a := 1) (j := 8) (r := 4) (p := 4) (by decide +kernel) (by decide) qz36 rfl
                refine And.intro ⟨rfl, by decide, by decide⟩ (And.intro rfl (And.intro (Or.inl rfl) (fputf fb_1_8 (by decide +kernel) hW (by first | exact ⟨Int.le_trans (by decide) (Int.le_trans (Int.le_refl _) hz33.1), Int.le_trans (Int.le_trans hz33.2 (Int.le_refl _)) (by decide)⟩ | omega) ?_)))
                intro IhB37 ehB37 hB37
                have t38 := fup_at ehB37 8 (by first | rfl | omega)
                have r107 := cS_f (d := 0) (a := 1) (j := 8) (r := 4) (p := 4) (by decide +kernel) (by decide) ehB37 rfl
                refine And.intro (True.intro) ?_
                exact ⟨_, rfl, (by first | exact ⟨Int.le_trans (by decide) lz36, Int.le_trans uz36 (by decide)⟩ | omega), (pr_y (by omega) (by rw [r107]; exact (rud_cg (by omega) rfl)) (gt_at v101 (by omega)))⟩
          · intro c39
            refine Exists.intro xm_13 (And.intro mi_13 (And.intro ⟨rfl, rfl, rfl, rfl⟩ (And.intro True.intro ?_)))
            refine fcallp hB0 (ct_X_within_c27b1 (fBz h0 hB0) (by first | exact ⟨ha2.1, ha2.2⟩ | omega) (by first | exact ⟨by decide, by decide⟩ | omega) (by first | exact ⟨by decide, by decide⟩ | omega)) ?_
            rintro _ ⟨z40, rfl, hz40⟩
            refine And.intro (by omega) (And.intro ?_ ?_)
            · intro c41
              refine And.intro (And.intro (by first | exact fi_ (Int.le_trans (Int.le_refl _) (Int.le_of_eq c39.symm)) (Int.le_trans (Int.le_of_eq c27) (Int.le_refl _)) rfl | omega) (by first | exact ⟨by decide, by decide⟩ | omega)) (And.intro ?_ ?_)
              · intro c42
                refine And.intro (True.intro) ?_
                exact ⟨_, rfl, (by first | exact ⟨by decide, by decide⟩ | omega), (pr_n (fun q => by omega) rfl)⟩
              · intro c43
                refine Exists.intro xm_13 (And.intro mi_13 (And.intro ⟨rfl, rfl, rfl, rfl⟩ (And.intro True.intro ?_)))
                refine fcallp hB0 (ct_X_within_c27b1 (fBz h0 hB0) (by first | exact ⟨ha2.1, ha2.2⟩ | omega) (by first | exact ⟨by decide, by decide⟩ | omega) (by first | exact ⟨by decide, by decide⟩ | omega)) ?_
                rintro _ ⟨z44, rfl, hz44⟩
                refine And.intro (by omega) (And.intro ?_ ?_)
                · intro c45
                  refine And.intro (True.intro) ?_
                  exact ⟨_, rfl, (by first | exact ⟨by decide, by decide⟩ | omega), (pr_n (fun q => by omega) rfl)⟩
                · intro c46
                  refine And.intro ⟨rfl, by decide, by decide⟩ (fgetf fb_1_8 h0 hB0 ?_)
                  intro z47 lz47 uz47 qz47
                  have v101 := cL_f (d := 0) (a := 1) (j := 8) (r := 4) (p := 4) (by decide +kernel) (by decide) qz47 rfl
                  refine And.intro ⟨rfl, by decide, by decide⟩ (And.intro rfl (And.intro (Or.inl rfl) (fputf fb_1_8 (by decide +kernel) hW (by first | exact ⟨Int.le_trans (by decide) (Int.le_trans (Int.le_refl _) hz44.1), Int.le_trans (Int.le_trans hz44.2 (Int.le_refl _)) (by decide)⟩ | omega) ?_)))
                  intro IhB48 ehB48 hB48
                  have t49 := fup_at ehB48 8 (by first | rfl | omega)
                  have r107 := cS_f (d := 0) (a := 1) (j := 8) (r := 4) (p := 4) (by decide +kernel) (by decide) ehB48 rfl
                  refine And.intro (True.intro) ?_
                  exact ⟨_, rfl, (by first | exact ⟨Int.le_trans (by decide) lz47, Int.le_trans uz47 (by decide)⟩ | omega), (pr_y (by omega) (by rw [r107]; exact (rud_cg (by omega) rfl)) (gt_at v101 (by omega)))⟩
            · intro c50
              refine And.intro ⟨rfl, by decide, by decide⟩ (fgetf fb_1_7 h0 hB0 ?_)
              intro z51 lz51 uz51 qz51
              have v73 := cL_f (d := 0) (a := 1) (j := 7) (r := 3) (p := 3) (by decide +kernel) (by decide) qz51 rfl
              refine And.intro ⟨rfl, by decide, by decide⟩ (And.intro rfl (And.intro (Or.inl rfl) (fputf fb_1_7 (by decide +kernel) hW (by first | exact ⟨Int.le_trans (by decide) (Int.le_trans (Int.le_refl _) hz40.1), Int.le_trans (Int.le_trans hz40.2 (Int.le_refl _)) (by decide)⟩ | omega) ?_)))
              intro IhB52 ehB52 hB52
              have t53 := fup_at ehB52 7 (by first | rfl | omega)
              have r79 := cS_f (d := 0) (a := 1) (j := 7) (r := 3) (p := 3) (by decide +kernel) (by decide) ehB52 rfl
              refine And.intro (True.intro) ?_
              exact ⟨_, rfl, (by first | exact ⟨Int.le_trans (by decide) lz51, Int.le_trans uz51 (by decide)⟩ | omega), (pr_y (by omega) (by rw [r79]; exact (rud_cg (by omega) rfl)) (gt_at v73 (by omega)))⟩
        · intro c54
          refine And.intro ⟨rfl, by decide, by decide⟩ (fgetf fb_1_6 h0 hB0 ?_)
          intro z55 lz55 uz55 qz55
          have v44 := cL_f (d := 0) (a := 1) (j := 6) (r := 2) (p := 2) (by decide +kernel) (by decide) qz55 rfl
          refine And.intro ⟨rfl, by decide, by decide⟩ (And.intro rfl (And.intro (Or.inl rfl) (fputf fb_1_6 (by decide +kernel) hW (by first | exact ⟨Int.le_trans (by decide) (Int.le_trans (Int.le_refl _) hz28.1), Int.le_trans (Int.le_trans hz28.2 (Int.le_refl _)) (by decide)⟩ | omega) ?_)))
          intro IhB56 ehB56 hB56
          have t57 := fup_at ehB56 6 (by first | rfl | omega)
          have r50 := cS_f (d := 0) (a := 1) (j := 6) (r := 2) (p := 2) (by decide +kernel) (by decide) ehB56 rfl
          refine And.intro (True.intro) ?_
          exact ⟨_, rfl, (by first | exact ⟨lz55, uz55⟩ | omega), (pr_y (by omega) (by rw [r50]; exact (rud_cg (by omega) rfl)) (gt_at v44 (by omega)))⟩
    · intro c58
      refine Exists.intro xm_13 (And.intro mi_13 (And.intro ⟨rfl, rfl, rfl, rfl⟩ (And.intro True.intro ?_)))
      refine fcallp hB0 (ct_X_within_c27b1 (fBz h0 hB0) (by first | exact ⟨ha2.1, ha2.2⟩ | omega) (by first | exact ⟨by decide, by decide⟩ | omega) (by first | exact ⟨by decide, by decide⟩ | omega)) ?_
      rintro _ ⟨z59, rfl, hz59⟩
      refine And.intro (by omega) (And.intro ?_ ?_)
      · intro c60
        refine And.intro (And.intro (by first | exact fi_ (Int.le_trans (Int.le_refl _) (Int.le_of_eq c58.symm)) (Int.le_trans (Int.le_of_eq c58) (Int.le_refl _)) rfl | omega) (by first | exact ⟨by decide, by decide⟩ | omega)) (And.intro ?_ ?_)
        · intro c61
          refine And.intro (And.intro (by first | exact fi_ (Int.le_trans (Int.le_refl _) (Int.le_of_eq c58.symm)) (Int.le_trans (Int.le_of_eq c58) (Int.le_refl _)) rfl | omega) (by first | exact ⟨by decide, by decide⟩ | omega)) (And.intro ?_ ?_)
          · intro c62
            refine And.intro (And.intro (by first | exact fi_ (Int.le_trans (Int.le_refl _) (Int.le_of_eq c58.symm)) (Int.le_trans (Int.le_of_eq c58) (Int.le_refl _)) rfl | omega) (by first | exact ⟨by decide, by decide⟩ | omega)) (And.intro ?_ ?_)
            · intro c63
              refine And.intro (True.intro) ?_
              exact ⟨_, rfl, (by first | exact ⟨by decide, by decide⟩ | omega), (pr_n (fun q => by omega) rfl)⟩
            · intro c64
              refine Exists.intro xm_13 (And.intro mi_13 (And.intro ⟨rfl, rfl, rfl, rfl⟩ (And.intro True.intro ?_)))
              refine fcallp hB0 (ct_X_within_c27b1 (fBz h0 hB0) (by first | exact ⟨ha2.1, ha2.2⟩ | omega) (by first | exact ⟨by decide, by decide⟩ | omega) (by first | exact ⟨by decide, by decide⟩ | omega)) ?_
              rintro _ ⟨z65, rfl, hz65⟩
              refine And.intro (by omega) (And.intro ?_ ?_)
              · intro c66
                refine And.intro (True.intro) ?_
                exact ⟨_, rfl, (by first | exact ⟨by decide, by decide⟩ | omega), (pr_n (fun q => by omega) rfl)⟩
              · intro c67
                refine And.intro ⟨rfl, by decide, by decide⟩ (fgetf fb_1_8 h0 hB0 ?_)
                intro z68 lz68 uz68 qz68
                have v101 := cL_f (d := 0) (a := 1) (j := 8) (r := 4) (p := 4) (by decide +kernel) (by decide) qz68 rfl
                refine And.intro ⟨rfl, by decide, by decide⟩ (And.intro rfl (And.intro (Or.inl rfl) (fputf fb_1_8 (by decide +kernel) hW (by first | exact ⟨Int.le_trans (by decide) (Int.le_trans (Int.le_refl _) hz65.1), Int.le_trans (Int.le_trans hz65.2 (Int.le_refl _)) (by decide)⟩ | omega) ?_)))
                intro IhB69 ehB69 hB69
                have t70 := fup_at ehB69 8 (by first | rfl | omega)
                have r107 := cS_f (d := 0) (a := 1) (j := 8) (r := 4) (p := 4) (by decide +kernel) (by decide) ehB69 rfl
                refine And.intro (True.intro) ?_
                exact ⟨_, rfl, (by first | exact ⟨Int.le_trans (by decide) lz68, Int.le_trans uz68 (by decide)⟩ | omega), (pr_y (by omega) (by rw [r107]; exact (rud_cg (by omega) rfl)) (gt_at v101 (by omega)))⟩
          · intro c71
            refine Exists.intro xm_13 (And.intro mi_13 (And.intro ⟨rfl, rfl, rfl, rfl⟩ (And.intro True.intro ?_)))
            refine fcallp hB0 (ct_X_within_c27b1 (fBz h0 hB0) (by first | exact ⟨ha2.1, ha2.2⟩ | omega) (by first | exact ⟨by decide, by decide⟩ | omega) (by first | exact ⟨by decide, by decide⟩ | omega)) ?_
            rintro _ ⟨z72, rfl, hz72⟩
            refine And.intro (by omega) (And.intro ?_ ?_)
            · intro c73
              refine And.intro (And.intro (by first | exact fi_ (Int.le_trans (Int.le_refl _) (Int.le_of_eq c71.symm)) (Int.le_trans (Int.le_of_eq c58) (Int.le_refl _)) rfl | omega) (by first | exact ⟨by decide, by decide⟩ | omega)) (And.intro ?_ ?_)
              · intro c74
                refine And.intro (True.intro) ?_
                exact ⟨_, rfl, (by first | exact ⟨by decide, by decide⟩ | omega), (pr_n (fun q => by omega) rfl)⟩
              · intro c75
                refine Exists.intro xm_13 (And.intro mi_13 (And.intro ⟨rfl, rfl, rfl, rfl⟩ (And.intro True.intro ?_)))
                refine fcallp hB0 (ct_X_within_c27b1 (fBz h0 hB0) (by first | exact ⟨ha2.1, ha2.2⟩ | omega) (by first | exact ⟨by decide, by decide⟩ | omega) (by first | exact ⟨by decide, by decide⟩ | omega)) ?_
                rintro _ ⟨z76, rfl, hz76⟩
                refine And.intro (by omega) (And.intro ?_ ?_)
                · intro c77
                  refine And.intro (True.intro) ?_
                  exact ⟨_, rfl, (by first | exact ⟨by decide, by decide⟩ | omega), (pr_n (fun q => by omega) rfl)⟩
                · intro c78
                  refine And.intro ⟨rfl, by decide, by decide⟩ (fgetf fb_1_8 h0 hB0 ?_)
                  intro z79 lz79 uz79 qz79
                  have v101 := cL_f (d := 0) (a := 1) (j := 8) (r := 4) (p := 4) (by decide +kernel) (by decide) qz79 rfl
                  refine And.intro ⟨rfl, by decide, by decide⟩ (And.intro rfl (And.intro (Or.inl rfl) (fputf fb_1_8 (by decide +kernel) hW (by first | exact ⟨Int.le_trans (by decide) (Int.le_trans (Int.le_refl _) hz76.1), Int.le_trans (Int.le_trans hz76.2 (Int.le_refl _)) (by decide)⟩ | omega) ?_)))
                  intro IhB80 ehB80 hB80
                  have t81 := fup_at ehB80 8 (by first | rfl | omega)
                  have r107 := cS_f (d := 0) (a := 1) (j := 8) (r := 4) (p := 4) (by decide +kernel) (by decide) ehB80 rfl
                  refine And.intro (True.intro) ?_
                  exact ⟨_, rfl, (by first | exact ⟨Int.le_trans (by decide) lz79, Int.le_trans uz79 (by decide)⟩ | omega), (pr_y (by omega) (by rw [r107]; exact (rud_cg (by omega) rfl)) (gt_at v101 (by omega)))⟩
            · intro c82
              refine And.intro ⟨rfl, by decide, by decide⟩ (fgetf fb_1_7 h0 hB0 ?_)
              intro z83 lz83 uz83 qz83
              have v73 := cL_f (d := 0) (a := 1) (j := 7) (r := 3) (p := 3) (by decide +kernel) (by decide) qz83 rfl
              refine And.intro ⟨rfl, by decide, by decide⟩ (And.intro rfl (And.intro (Or.inl rfl) (fputf fb_1_7 (by decide +kernel) hW (by first | exact ⟨Int.le_trans (by decide) (Int.le_trans (Int.le_refl _) hz72.1), Int.le_trans (Int.le_trans hz72.2 (Int.le_refl _)) (by decide)⟩ | omega) ?_)))
              intro IhB84 ehB84 hB84
              have t85 := fup_at ehB84 7 (by first | rfl | omega)
              have r79 := cS_f (d := 0) (a := 1) (j := 7) (r := 3) (p := 3) (by decide +kernel) (by decide) ehB84 rfl
              refine And.intro (True.intro) ?_
              exact ⟨_, rfl, (by first | exact ⟨Int.le_trans (by decide) lz83, Int.le_trans uz83 (by decide)⟩ | omega), (pr_y (by omega) (by rw [r79]; exact (rud_cg (by omega) rfl)) (gt_at v73 (by omega)))⟩
        · intro c86
          refine Exists.intro xm_13 (And.intro mi_13 (And.intro ⟨rfl, rfl, rfl, rfl⟩ (And.intro True.intro ?_)))
          refine fcallp hB0 (ct_X_within_c27b1 (fBz h0 hB0) (by first | exact ⟨ha2.1, ha2.2⟩ | omega) (by first | exact ⟨by decide, by decide⟩ | omega) (by first | exact ⟨by decide, by decide⟩ | omega)) ?_
          rintro _ ⟨z87, rfl, hz87⟩
          refine And.intro (by omega) (And.intro ?_ ?_)
          · intro c88
            refine And.intro (And.intro (by first | exact fi_ (Int.le_trans (Int.le_refl _) (Int.le_of_eq c86.symm)) (Int.le_trans (Int.le_of_eq c58) (Int.le_refl _)) rfl | omega) (by first | exact ⟨by decide, by decide⟩ | omega)) (And.intro ?_ ?_)
            · intro c89
              refine And.intro (And.intro (by first | exact fi_ (Int.le_trans (Int.le_refl _) (Int.le_of_eq c86.symm)) (Int.le_trans (Int.le_of_eq c58) (Int.le_refl _)) rfl | omega) (by first | exact ⟨by decide, by decide⟩ | omega)) (And.intro ?_ ?_)
              · intro c90
                refine And.intro (True.intro) ?_
                exact ⟨_, rfl, (by first | exact ⟨by decide, by decide⟩ | omega), (pr_n (fun q => by omega) rfl)⟩
              · intro c91
                refine Exists.intro xm_13 (And.intro mi_13 (And.intro ⟨rfl, rfl, rfl, rfl⟩ (And.intro True.intro ?_)))
                refine fcallp hB0 (ct_X_within_c27b1 (fBz h0 hB0) (by first | exact ⟨ha2.1, ha2.2⟩ | omega) (by first | exact ⟨by decide, by decide⟩ | omega) (by first | exact ⟨by decide, by decide⟩ | omega)) ?_
                rintro _ ⟨z92, rfl, hz92⟩
                refine And.intro (by omega) (And.intro ?_ ?_)
                · intro c93
                  refine And.intro (True.intro) ?_
                  exact ⟨_, rfl, (by first | exact ⟨by decide, by decide⟩ | omega), (pr_n (fun q => by omega) rfl)⟩
                · intro c94
                  refine And.intro ⟨rfl, by decide, by decide⟩ (fgetf fb_1_8 h0 hB0 ?_)
                  intro z95 lz95 uz95 qz95
                  have v101 := cL_f (d := 0) (a := 1) (j := 8) (r := 4) (p := 4) (by decide +kernel) (by decide) qz95 rfl
                  refine And.intro ⟨rfl, by decide, by decide⟩ (And.intro rfl (And.intro (Or.inl rfl) (fputf fb_1_8 (by decide +kernel) hW (by first | exact ⟨Int.le_trans (by decide) (Int.le_trans (Int.le_refl _) hz92.1), Int.le_trans (Int.le_trans hz92.2 (Int.le_refl _)) (by decide)⟩ | omega) ?_)))
                  intro IhB96 ehB96 hB96
                  have t97 := fup_at ehB96 8 (by first | rfl | omega)
                  have r107 := cS_f (d := 0) (a := 1) (j := 8) (r := 4) (p := 4) (by decide +kernel) (by decide) ehB96 rfl
                  refine And.intro (True.intro) ?_
                  exact ⟨_, rfl, (by first | exact ⟨Int.le_trans (by decide) lz95, Int.le_trans uz95 (by decide)⟩ | omega), (pr_y (by omega) (by rw [r107]; exact (rud_cg (by omega) rfl)) (gt_at v101 (by omega)))⟩
            · intro c98
              refine Exists.intro xm_13 (And.intro mi_13 (And.intro ⟨rfl, rfl, rfl, rfl⟩ (And.intro True.intro ?_)))
              refine fcallp hB0 (ct_X_within_c27b1 (fBz h0 hB0) (by first | exact ⟨ha2.1, ha2.2⟩ | omega) (by first | exact ⟨by decide, by decide⟩ | omega) (by first | exact ⟨by decide, by decide⟩ | omega)) ?_
              rintro _ ⟨z99, rfl, hz99⟩
              refine And.intro (by omega) (And.intro ?_ ?_)
              · intro c100
                refine And.intro (And.intro (by first | exact fi_ (Int.le_trans (Int.le_refl _) (Int.le_of_eq c98.symm)) (Int.le_trans (Int.le_of_eq c58) (Int.le_refl _)) rfl | omega) (by first | exact ⟨by decide, by decide⟩ | omega)) (And.intro ?_ ?_)
                · intro c101
                  refine And.intro (True.intro) ?_
                  exact ⟨_, rfl, (by first | exact ⟨by decide, by decide⟩ | omega), (pr_n (fun q => by omega) rfl)⟩
                · intro c102
                  refine Exists.intro xm_13 (And.intro mi_13 (And.intro ⟨rfl, rfl, rfl, rfl⟩ (And.intro True.intro ?_)))
                  refine fcallp hB0 (ct_X_within_c27b1 (fBz h0 hB0) (by first | exact ⟨ha2.1, ha2.2⟩ | omega) (by first | exact ⟨by decide, by decide⟩ | omega) (by first | exact ⟨by decide, by decide⟩ | omega)) ?_
                  rintro _ ⟨z103, rfl, hz103⟩
                  refine And.intro (by omega) (And.intro ?_ ?_)
                  · intro c104
                    refine And.intro (True.intro) ?_
                    exact ⟨_, rfl, (by first | exact ⟨by decide, by decide⟩ | omega), (pr_n (fun q => by omega) rfl)⟩
                  · intro c105
                    refine And.intro ⟨rfl, by decide, by decide⟩ (fgetf fb_1_8 h0 hB0 ?_)
                    intro z106 lz106 uz106 qz106
                    have v101 := cL_f (d := 0) (a := 1) (j := 8) (r := 4) (p := 4) (by decide +kernel) (by decide) qz106 rfl
                    refine And.intro ⟨rfl, by decide, by decide⟩ (And.intro rfl (And.intro (Or.inl rfl) (fputf fb_1_8 (by decide +kernel) hW (by first | exact ⟨Int.le_trans (by decide) (Int.le_trans (Int.le_refl _) hz103.1), Int.le_trans (Int.le_trans hz103.2 (Int.le_refl _)) (by decide)⟩ | omega) ?_)))
                    intro IhB107 ehB107 hB107
                    have t108 := fup_at ehB107 8 (by first | rfl | omega)
                    have r107 := cS_f (d := 0) (a := 1) (j := 8) (r := 4) (p := 4) (by decide +kernel) (by decide) ehB107 rfl
                    refine And.intro (True.intro) ?_
                    exact ⟨_, rfl, (by first | exact ⟨Int.le_trans (by decide) lz106, Int.le_trans uz106 (by decide)⟩ | omega), (pr_y (by omega) (by rw [r107]; exact (rud_cg (by omega) rfl)) (gt_at v101 (by omega)))⟩
              · intro c109
                refine And.intro ⟨rfl, by decide, by decide⟩ (fgetf fb_1_7 h0 hB0 ?_)
                intro z110 lz110 uz110 qz110
                have v73 := cL_f (d := 0) (a := 1) (j := 7) (r := 3) (p := 3) (by decide +kernel) (by decide) qz110 rfl
                refine And.intro ⟨rfl, by decide, by decide⟩ (And.intro rfl (And.intro (Or.inl rfl) (fputf fb_1_7 (by decide +kernel) hW (by first | exact ⟨Int.le_trans (by decide) (Int.le_trans (Int.le_refl _) hz99.1), Int.le_trans (Int.le_trans hz99.2 (Int.le_refl _)) (by decide)⟩ | omega) ?_)))
                intro IhB111 ehB111 hB111
                have t112 := fup_at ehB111 7 (by first | rfl | omega)
                have r79 := cS_f (d := 0) (a := 1) (j := 7) (r := 3) (p := 3) (by decide +kernel) (by decide) ehB111 rfl
                refine And.intro (True.intro) ?_
                exact ⟨_, rfl, (by first | exact ⟨Int.le_trans (by decide) lz110, Int.le_trans uz110 (by decide)⟩ | omega), (pr_y (by omega) (by rw [r79]; exact (rud_cg (by omega) rfl)) (gt_at v73 (by omega)))⟩
          · intro c113
            refine And.intro ⟨rfl, by decide, by decide⟩ (fgetf fb_1_6 h0 hB0 ?_)
            intro z114 lz114 uz114 qz114
            have v44 := cL_f (d := 0) (a := 1) (j := 6) (r := 2) (p := 2) (by decide +kernel) (by decide) qz114 rfl
            refine And.intro ⟨rfl, by decide, by decide⟩ (And.intro rfl (And.intro (Or.inl rfl) (fputf fb_1_6 (by decide +kernel) hW (by first | exact ⟨Int.le_trans (by decide) (Int.le_trans (Int.le_refl _) hz87.1), Int.le_trans (Int.le_trans hz87.2 (Int.le_refl _)) (by decide)⟩ | omega) ?_)))
            intro IhB115 ehB115 hB115
            have t116 := fup_at ehB115 6 (by first | rfl | omega)
            have r50 := cS_f (d := 0) (a := 1) (j := 6) (r := 2) (p := 2) (by decide +kernel) (by decide) ehB115 rfl
            refine And.intro (True.intro) ?_
            exact ⟨_, rfl, (by first | exact ⟨lz114, uz114⟩ | omega), (pr_y (by omega) (by rw [r50]; exact (rud_cg (by omega) rfl)) (gt_at v44 (by omega)))⟩
      · intro c117
        refine And.intro ⟨rfl, by decide, by decide⟩ (fgetf fb_1_5 h0 hB0 ?_)
        intro z118 lz118 uz118 qz118
        have v16 := cL_f (d := 0) (a := 1) (j := 5) (r := 1) (p := 1) (by decide +kernel) (by decide) qz118 rfl
        refine And.intro ⟨rfl, by decide, by decide⟩ (And.intro rfl (And.intro (Or.inl rfl) (fputf fb_1_5 (by decide +kernel) hW (by first | exact ⟨Int.le_trans (by decide) (Int.le_trans (Int.le_refl _) hz59.1), Int.le_trans (Int.le_trans hz59.2 (Int.le_refl _)) (by decide)⟩ | omega) ?_)))
        intro IhB119 ehB119 hB119
        have t120 := fup_at ehB119 5 (by first | rfl | omega)
        have r22 := cS_f (d := 0) (a := 1) (j := 5) (r := 1) (p := 1) (by decide +kernel) (by decide) ehB119 rfl
        refine And.intro (True.intro) ?_
        exact ⟨_, rfl, (by first | exact ⟨Int.le_trans (by decide) lz118, Int.le_trans uz118 (by decide)⟩ | omega), (pr_y (by omega) (by rw [r22]; exact (rud_cg (by omega) rfl)) (gt_at v16 (by omega)))⟩
set_option maxRecDepth 8000 in
theorem ct_X_set_46fd7 {I : fH} {x1 : Int} {x2 : Int} (h0 : fB bsJ I) (ha1 : ((-2147483648) ≤ x1 ∧ x1 ≤ 2147483647)) (ha2 : ((-2147483648) ≤ x2 ∧ x2 ≤ 2147483647)) : fC ρ base n F xTc vwCl xTys D dA la gJ (fbz bsJ znJ (fKc wz_310ed) I) xm_59 [.inr (.inr (some 0)), .inl x1, .inl x2] I (fun I' r => ∃ z, r = some (.inl z) ∧ ((-2147483648) ≤ z ∧ z ≤ 2147483647) ∧ ((cR 0 I', z) = oSet (cR 0 I) x1 x2)) := by
  have hW : fzs wz_310ed (fKc wz_310ed) := fKc_ok _
  refine f_meth (rb := rbJ) (J := []) 1 400 xG xin_59 x6_59 okJ (fB_self h0) ?_ ?_
  · exact fun q h => absurd h List.not_mem_nil
  · have hB0 := fB_self (zn := znJ) (K := fKc wz_310ed) h0
    refine And.intro ⟨rfl, by decide, by decide⟩ ?_
    refine Exists.intro xm_60 (And.intro mi_60 (And.intro ⟨rfl, rfl, rfl, rfl⟩ (And.intro rfl ?_)))
    refine fcall _ h0 (fzs_sub (by decide +kernel) hW) hB0 (ct_City_setTo_b8c84 (fBz h0 hB0) (by first | exact ⟨ha1.1, ha1.2⟩ | omega) (by first | exact ⟨ha2.1, ha2.2⟩ | omega)) ?_
    rintro IhB2 _ hB2 fhB2 ⟨z1, rfl, hz1, g0z1⟩
    refine And.intro (True.intro) ?_
    exact ⟨_, rfl, (by first | exact ⟨hz1.1, hz1.2⟩ | omega), g0z1⟩
theorem ct_M_put_0b81c {I : fH} {x1 x2 : Int} (h0 : fB bsJ I) (ha1 : 1 ≤ x1 ∧ x1 ≤ 4) (ha2 : -2147483648 ≤ x2 ∧ x2 ≤ 2147483647) (hp0 : (x1 = 1 ∧ 0 ≤ x2 ∧ x2 ≤ 600) ∨ (x1 = 2 ∧ (-2147483648) ≤ x2 ∧ x2 ≤ 2147483647) ∨ (x1 = 3 ∧ 2 ≤ x2 ∧ x2 ≤ 9999) ∨ (x1 = 4 ∧ 0 ≤ x2 ∧ x2 ≤ 99)) : fC ρ base n F xTc vwCl xTys D dA la gJ (fbz bsJ znJ (fKc wz_72684) I) xm_242 [.inr (.inr (some 740)), .inl x1, .inl x2] I (fun I' r => ∃ z, r = some (.inl z) ∧ (-2147483648 ≤ z ∧ z ≤ 2147483647) ∧ (I' = fupd I 741 x1.toNat x2) ∧ (z = I 741 x1.toNat)) := by
  have hq : znJ 741 x1.toNat ∈ wz_72684 ∧ (bsJ 741 x1.toNat).1 ≤ x2 ∧ x2 ≤ (bsJ 741 x1.toNat).2 := by
    rcases hp0 with hp0 | hp0 | hp0 | hp0
    · exact (frS_at rS_741_741_1_1_1_0 (by decide +kernel) (by omega) (by omega)).2
    · exact (frS_at rS_741_741_2_2_1_0 (by decide +kernel) (by omega) (by omega)).2
    · exact (frS_at rS_741_741_3_3_1_0 (by decide +kernel) (by omega) (by omega)).2
    · exact (frS_at rS_741_741_4_4_1_0 (by decide +kernel) (by omega) (by omega)).2
  refine fC_mono (ct_put h0 (by omega) hq.1 hq.2) (fun I' r _ q => ?_)
  obtain ⟨z, e, e2, e3⟩ := q
  have h3 := (frL_at rL_741_741_0_4899_1_0 h0 (a := 741) (i := x1) (by omega)).2
  exact ⟨z, e, by omega, e3, e2⟩
set_option maxRecDepth 8000 in
theorem ct_M_set_d6f28 {I : fH} {x1 : Int} {x2 : Int} (h0 : fB bsJ I) (ha1 : ((-2147483648) ≤ x1 ∧ x1 ≤ 2147483647)) (ha2 : ((-2147483648) ≤ x2 ∧ x2 ≤ 2147483647)) : fC ρ base n F xTc vwCl xTys D dA la gJ (fbz bsJ znJ (fKc wz_72684) I) xm_278 [.inr (.inr (some 740)), .inl x1, .inl x2] I (fun I' r => ∃ z, r = some (.inl z) ∧ ((-2147483648) ≤ z ∧ z ≤ 2147483647) ∧ ((mR I', z) = oSet (mR I) x1 x2)) := by
  have hW : fzs wz_72684 (fKc wz_72684) := fKc_ok _
  refine f_meth (rb := rbJ) (J := []) 1 400 xG xin_278 x6_278 okJ (fB_self h0) ?_ ?_
  · exact fun q h => absurd h List.not_mem_nil
  · have hB0 := fB_self (zn := znJ) (K := fKc wz_72684) h0
    refine And.intro (by first | exact fi_ ha1.1 ha1.2 rfl | omega) (And.intro ?_ ?_)
    · intro c1
      refine And.intro (And.intro (by first | exact fi_ ha1.1 ha1.2 rfl | omega) (by first | exact ⟨by decide, by decide⟩ | omega)) (And.intro ?_ ?_)
      · intro c2
        refine And.intro (And.intro (by first | exact fi_ ha1.1 ha1.2 rfl | omega) (by first | exact ⟨by decide, by decide⟩ | omega)) (And.intro ?_ ?_)
        · intro c3
          refine And.intro (And.intro (by first | exact fi_ ha1.1 ha1.2 rfl | omega) (by first | exact ⟨by decide, by decide⟩ | omega)) (And.intro ?_ ?_)
          · intro c4
            refine And.intro (by omega) (And.intro ?_ ?_)
            · intro c5
              refine And.intro (True.intro) ?_
              exact ⟨_, rfl, by omega, (pr_n (fun q => by omega) rfl)⟩
            · intro c6
              intro z7 hz7 ez7 bz7
              clear ez7
              try replace bz7 := bz7 (by omega)
              refine Exists.intro xm_242 (And.intro mi_242 (And.intro ⟨rfl, rfl, rfl, rfl⟩ (And.intro rfl ?_)))
              refine fcall _ h0 (fzs_sub (by decide +kernel) hW) hB0 (ct_M_put_0b81c (fBz h0 hB0) (by omega) (by first | exact ⟨ha2.1, ha2.2⟩ | omega) (by omega)) ?_
              rintro IhB9 _ hB9 fhB9 ⟨z8, rfl, hz8, g0z8, g1z8⟩
              have v84 := mL_r (i0 := 1) (i1 := 4) (m := 1) (q := 0) (by decide +kernel) g1z8 (by omega) rfl
              have r84 := mS_r (i0 := 1) (i1 := 4) (m := 1) (q := 0) (by decide +kernel) g0z8 (by omega) rfl
              refine And.intro (True.intro) ?_
              exact ⟨_, rfl, (by first | exact ⟨hz8.1, hz8.2⟩ | omega), (pr_y (by omega) (by rw [r84]; exact (rud_cg (by omega) rfl)) (gt_at v84 (by omega)))⟩
          · intro c10
            refine And.intro (by first | exact fi_ ha2.1 ha2.2 rfl | omega) ?_
            refine Exists.intro xm_238 (And.intro mi_238 (And.intro ⟨rfl, rfl, rfl, rfl⟩ (And.intro True.intro ?_)))
            refine fcallp hB0 (ct_M_isIn_27230 (fBz h0 hB0) (by first | exact ⟨ha2.1, ha2.2⟩ | omega) (by first | exact ⟨by decide, by decide⟩ | omega) (by first | exact ⟨by decide, by decide⟩ | omega)) ?_
            rintro _ ⟨z11, rfl, hz11⟩
            refine And.intro (by omega) (And.intro ?_ ?_)
            · intro c12
              refine And.intro (by omega) (And.intro ?_ ?_)
              · intro c13
                refine And.intro (True.intro) ?_
                exact ⟨_, rfl, by omega, (pr_n (fun q => by omega) rfl)⟩
              · intro c14
                intro z15 hz15 ez15 bz15
                clear ez15
                try replace bz15 := bz15 (by omega)
                refine Exists.intro xm_242 (And.intro mi_242 (And.intro ⟨rfl, rfl, rfl, rfl⟩ (And.intro rfl ?_)))
                refine fcall _ h0 (fzs_sub (by decide +kernel) hW) hB0 (ct_M_put_0b81c (fBz h0 hB0) (by omega) (by first | exact ⟨ha2.1, ha2.2⟩ | omega) (by omega)) ?_
                rintro IhB17 _ hB17 fhB17 ⟨z16, rfl, hz16, g0z16, g1z16⟩
                have v84 := mL_r (i0 := 1) (i1 := 4) (m := 1) (q := 0) (by decide +kernel) g1z16 (by omega) rfl
                have r84 := mS_r (i0 := 1) (i1 := 4) (m := 1) (q := 0) (by decide +kernel) g0z16 (by omega) rfl
                refine And.intro (True.intro) ?_
                exact ⟨_, rfl, (by first | exact ⟨hz16.1, hz16.2⟩ | omega), (pr_y (by omega) (by rw [r84]; exact (rud_cg (by omega) rfl)) (gt_at v84 (by omega)))⟩
            · intro c18
              refine And.intro (by first | exact ⟨by decide, by decide⟩ | omega) (And.intro ?_ ?_)
              · intro c19
                refine And.intro (True.intro) ?_
                exact ⟨_, rfl, by omega, (pr_n (fun q => by omega) rfl)⟩
              · intro c20
                intro z21 hz21 ez21 bz21
                clear ez21
                try replace bz21 := bz21 (by omega)
                refine Exists.intro xm_242 (And.intro mi_242 (And.intro ⟨rfl, rfl, rfl, rfl⟩ (And.intro rfl ?_)))
                refine fcall _ h0 (fzs_sub (by decide +kernel) hW) hB0 (ct_M_put_0b81c (fBz h0 hB0) (by omega) (by first | exact ⟨Int.le_trans (by decide) (Int.le_trans (Int.le_refl _) hz11.1), Int.le_trans (Int.le_trans hz11.2 (Int.le_refl _)) (by decide)⟩ | omega) (by omega)) ?_
                rintro IhB23 _ hB23 fhB23 ⟨z22, rfl, hz22, g0z22, g1z22⟩
                have v84 := mL_r (i0 := 1) (i1 := 4) (m := 1) (q := 0) (by decide +kernel) g1z22 (by omega) rfl
                have r84 := mS_r (i0 := 1) (i1 := 4) (m := 1) (q := 0) (by decide +kernel) g0z22 (by omega) rfl
                refine And.intro (True.intro) ?_
                exact ⟨_, rfl, (by first | exact ⟨hz22.1, hz22.2⟩ | omega), (pr_y (by omega) (by rw [r84]; exact (rud_cg (by omega) rfl)) (gt_at v84 (by omega)))⟩
        · intro c24
          refine And.intro (by first | exact fi_ ha2.1 ha2.2 rfl | omega) ?_
          refine Exists.intro xm_238 (And.intro mi_238 (And.intro ⟨rfl, rfl, rfl, rfl⟩ (And.intro True.intro ?_)))
          refine fcallp hB0 (ct_M_isIn_27230 (fBz h0 hB0) (by first | exact ⟨ha2.1, ha2.2⟩ | omega) (by first | exact ⟨by decide, by decide⟩ | omega) (by first | exact ⟨by decide, by decide⟩ | omega)) ?_
          rintro _ ⟨z25, rfl, hz25⟩
          refine And.intro (by omega) (And.intro ?_ ?_)
          · intro c26
            refine And.intro (True.intro) ?_
            exact ⟨_, rfl, by omega, (pr_n (fun q => by omega) rfl)⟩
          · intro c27
            intro z28 hz28 ez28 bz28
            clear ez28
            try replace bz28 := bz28 (by omega)
            refine Exists.intro xm_242 (And.intro mi_242 (And.intro ⟨rfl, rfl, rfl, rfl⟩ (And.intro rfl ?_)))
            refine fcall _ h0 (fzs_sub (by decide +kernel) hW) hB0 (ct_M_put_0b81c (fBz h0 hB0) (by omega) (by first | exact ⟨Int.le_trans (by decide) (Int.le_trans (Int.le_refl _) hz25.1), Int.le_trans (Int.le_trans hz25.2 (Int.le_refl _)) (by decide)⟩ | omega) (by omega)) ?_
            rintro IhB30 _ hB30 fhB30 ⟨z29, rfl, hz29, g0z29, g1z29⟩
            have v84 := mL_r (i0 := 1) (i1 := 4) (m := 1) (q := 0) (by decide +kernel) g1z29 (by omega) rfl
            have r84 := mS_r (i0 := 1) (i1 := 4) (m := 1) (q := 0) (by decide +kernel) g0z29 (by omega) rfl
            refine And.intro (True.intro) ?_
            exact ⟨_, rfl, (by first | exact ⟨hz29.1, hz29.2⟩ | omega), (pr_y (by omega) (by rw [r84]; exact (rud_cg (by omega) rfl)) (gt_at v84 (by omega)))⟩
      · intro c31
        refine And.intro (by first | exact fi_ ha2.1 ha2.2 rfl | omega) ?_
        refine Exists.intro xm_238 (And.intro mi_238 (And.intro ⟨rfl, rfl, rfl, rfl⟩ (And.intro True.intro ?_)))
        refine fcallp hB0 (ct_M_isIn_27230 (fBz h0 hB0) (by first | exact ⟨ha2.1, ha2.2⟩ | omega) (by first | exact ⟨by decide, by decide⟩ | omega) (by first | exact ⟨by decide, by decide⟩ | omega)) ?_
        rintro _ ⟨z32, rfl, hz32⟩
        refine And.intro (by omega) (And.intro ?_ ?_)
        · intro c33
          refine And.intro (True.intro) ?_
          exact ⟨_, rfl, by omega, (pr_n (fun q => by omega) rfl)⟩
        · intro c34
          intro z35 hz35 ez35 bz35
          clear ez35
          try replace bz35 := bz35 (by omega)
          refine Exists.intro xm_242 (And.intro mi_242 (And.intro ⟨rfl, rfl, rfl, rfl⟩ (And.intro rfl ?_)))
          refine fcall _ h0 (fzs_sub (by decide +kernel) hW) hB0 (ct_M_put_0b81c (fBz h0 hB0) (by omega) (by first | exact ⟨Int.le_trans (by decide) (Int.le_trans (Int.le_refl _) hz32.1), Int.le_trans (Int.le_trans hz32.2 (Int.le_refl _)) (by decide)⟩ | omega) (by omega)) ?_
          rintro IhB37 _ hB37 fhB37 ⟨z36, rfl, hz36, g0z36, g1z36⟩
          have v84 := mL_r (i0 := 1) (i1 := 4) (m := 1) (q := 0) (by decide +kernel) g1z36 (by omega) rfl
          have r84 := mS_r (i0 := 1) (i1 := 4) (m := 1) (q := 0) (by decide +kernel) g0z36 (by omega) rfl
          refine And.intro (True.intro) ?_
          exact ⟨_, rfl, (by first | exact ⟨hz36.1, hz36.2⟩ | omega), (pr_y (by omega) (by rw [r84]; exact (rud_cg (by omega) rfl)) (gt_at v84 (by omega)))⟩
    · intro c38
      refine And.intro (by first | exact fi_ ha2.1 ha2.2 rfl | omega) ?_
      refine Exists.intro xm_238 (And.intro mi_238 (And.intro ⟨rfl, rfl, rfl, rfl⟩ (And.intro True.intro ?_)))
      refine fcallp hB0 (ct_M_isIn_27230 (fBz h0 hB0) (by first | exact ⟨ha2.1, ha2.2⟩ | omega) (by first | exact ⟨by decide, by decide⟩ | omega) (by first | exact ⟨by decide, by decide⟩ | omega)) ?_
      rintro _ ⟨z39, rfl, hz39⟩
      refine And.intro (by omega) (And.intro ?_ ?_)
      · intro c40
        refine And.intro (True.intro) ?_
        exact ⟨_, rfl, by omega, (pr_n (fun q => by omega) rfl)⟩
      · intro c41
        intro z42 hz42 ez42 bz42
        clear ez42
        try replace bz42 := bz42 (by omega)
        refine Exists.intro xm_242 (And.intro mi_242 (And.intro ⟨rfl, rfl, rfl, rfl⟩ (And.intro rfl ?_)))
        refine fcall _ h0 (fzs_sub (by decide +kernel) hW) hB0 (ct_M_put_0b81c (fBz h0 hB0) (by omega) (by first | exact ⟨Int.le_trans (by decide) (Int.le_trans (Int.le_refl _) hz39.1), Int.le_trans (Int.le_trans hz39.2 (Int.le_refl _)) (by decide)⟩ | omega) (by omega)) ?_
        rintro IhB44 _ hB44 fhB44 ⟨z43, rfl, hz43, g0z43, g1z43⟩
        have v84 := mL_r (i0 := 1) (i1 := 4) (m := 1) (q := 0) (by decide +kernel) g1z43 (by omega) rfl
        have r84 := mS_r (i0 := 1) (i1 := 4) (m := 1) (q := 0) (by decide +kernel) g0z43 (by omega) rfl
        refine And.intro (True.intro) ?_
        exact ⟨_, rfl, (by first | exact ⟨hz43.1, hz43.2⟩ | omega), (pr_y (by omega) (by rw [r84]; exact (rud_cg (by omega) rfl)) (gt_at v84 (by omega)))⟩
set_option maxRecDepth 8000 in
theorem ct_Works_isSkin_801f8 {I : fH} {x1 : Int} (h0 : fB bsJ I) (ha1 : (0 ≤ x1 ∧ x1 ≤ 23)) : fC ρ base n F xTc vwCl xTys D dA la gJ (fbz bsJ znJ (fKc []) I) xm_64 [.inr (.inr (some 163)), .inl x1] I (fun _ r => ∃ z, r = some (.inl z) ∧ (0 ≤ z ∧ z ≤ 1) ∧ ((z = 1 ∧ gt (cR 0 I) (530 + 14 * x1) = 1 ∧ gt (cR 0 I) (538 + 14 * x1) = 0) ∨ (z = 0 ∧ ¬ (gt (cR 0 I) (530 + 14 * x1) = 1 ∧ gt (cR 0 I) (538 + 14 * x1) = 0)))) := by
  have hW : fzs [] (fKc []) := fKc_ok _
  refine f_meth (rb := rbJ) (J := []) 1 400 xG xin_64 x6_64 okJ (fB_self h0) ?_ ?_
  · exact fun q h => absurd h List.not_mem_nil
  · have hB0 := fB_self (zn := znJ) (K := fKc []) h0
    refine And.intro ⟨rfl, by decide, by decide⟩ ?_
    refine fload1 rL_164_164_0_23_1_0 h0 hB0 ⟨by decide, by decide⟩ (by first | exact ⟨ha1.1, ha1.2⟩ | omega) ?_
    intro z1 lz1 uz1 qz1
    have v5 := cL_a (d := 0) (a := 164) (n := 24) (b := 530) (m := 14) (by decide +kernel) (by decide) qz1 (by omega) rfl
    refine And.intro (And.intro (by first | exact fi_ lz1 uz1 rfl | omega) (by first | exact ⟨by decide, by decide⟩ | omega)) (And.intro ?_ ?_)
    · intro c2
      refine And.intro (⟨by omega, by omega⟩) ?_
      exact ⟨_, rfl, by omega, (sk_of v5 (by omega) (Or.inr ⟨by omega, Or.inl (by omega)⟩))⟩
    · intro c3
      refine And.intro ⟨rfl, by decide, by decide⟩ ?_
      refine fload1 rL_174_174_0_23_1_0 h0 hB0 ⟨by decide, by decide⟩ (by first | exact ⟨ha1.1, ha1.2⟩ | omega) ?_
      intro z4 lz4 uz4 qz4
      have v15 := cL_a (d := 0) (a := 174) (n := 24) (b := 538) (m := 14) (by decide +kernel) (by decide) qz4 (by omega) rfl
      refine And.intro (by first | exact fi_ lz4 uz4 rfl | omega) (And.intro ?_ ?_)
      · intro c5
        refine And.intro (⟨by omega, by omega⟩) ?_
        exact ⟨_, rfl, by omega, (sk_of v5 (by omega) (Or.inr ⟨by omega, Or.inr ⟨_, _, v15, by omega, by omega⟩⟩))⟩
      · intro c6
        refine And.intro (⟨by decide, by decide⟩) ?_
        exact ⟨_, rfl, (by first | exact ⟨by decide, by decide⟩ | omega), (sk_of v5 (by omega) (Or.inl ⟨by omega, by omega, _, _, v15, by omega, by omega⟩))⟩
set_option maxRecDepth 8000 in
theorem ct_City_liftOf_26d0e {I : fH} {x1 : Int} (h0 : fB bsJ I) (ha1 : (0 ≤ x1 ∧ x1 ≤ 23)) : fC ρ base n F xTc vwCl xTys D dA la gJ (fbz bsJ znJ (fKc []) I) xm_63 [.inr (.inr (some 1)), .inl x1] I (fun _ r => ∃ z, r = some (.inl z) ∧ (0 ≤ z ∧ z ≤ 9998900) ∧ (z = sLi (cR 0 I) x1.toNat)) := by
  have hW : fzs [] (fKc []) := fKc_ok _
  refine f_meth (rb := rbJ) (J := []) 1 400 xG xin_63 x6_63 okJ (fB_self h0) ?_ ?_
  · exact fun q h => absurd h List.not_mem_nil
  · have hB0 := fB_self (zn := znJ) (K := fKc []) h0
    refine And.intro ⟨rfl, by decide, by decide⟩ ?_
    refine Exists.intro xm_64 (And.intro mi_64 (And.intro ⟨rfl, rfl, rfl, rfl⟩ (And.intro rfl ?_)))
    refine fcallp hB0 (ct_Works_isSkin_801f8 (fBz h0 hB0) (by first | exact ⟨ha1.1, ha1.2⟩ | omega)) ?_
    rintro _ ⟨z1, rfl, hz1, g0z1⟩
    refine And.intro (by omega) (And.intro ?_ ?_)
    · intro c2
      refine And.intro (True.intro) ?_
      exact ⟨_, rfl, by omega, (by first | exact sLi_n (w := x1) (by omega) (g0z1.elim (fun q => absurd q.1 (by omega)) (fun q => q.2)) (cR_rng (d := 0) (i0 := 538) (i1 := 860) (m := 14) (q := 0) (lo := 0) (hi := 1) (by decide +kernel) h0 (by omega)) (by omega) | exact sLi_y (w := x1) (by omega) ((g0z1.elim (fun q => q.2) (fun q => absurd q.1 (by omega))).1) ((g0z1.elim (fun q => q.2) (fun q => absurd q.1 (by omega))).2) v19 (by omega) (sTb_of v30 g0nil0 (by omega)) k31 (by omega))⟩
    · intro c3
      refine And.intro ⟨rfl, by decide, by decide⟩ ?_
      refine And.intro ⟨rfl, by decide, by decide⟩ ?_
      refine fload1 rL_172_172_0_23_1_0 h0 hB0 ⟨by decide, by decide⟩ (by first | exact ⟨ha1.1, ha1.2⟩ | omega) ?_
      intro z4 lz4 uz4 qz4
      have v19 := cL_a (d := 0) (a := 172) (n := 24) (b := 536) (m := 14) (by decide +kernel) (by decide) qz4 (by omega) rfl
      refine And.intro ⟨rfl, by decide, by decide⟩ ?_
      refine And.intro ⟨rfl, by decide⟩ (And.intro (by first | exact ⟨by decide, by decide⟩ | omega) ?_)
      refine Exists.intro xm_31 (And.intro mi_31 (And.intro ⟨rfl, rfl, rfl, rfl⟩ (And.intro rfl ?_)))
      refine fcallp hB0 (ct_City_level_61deb (fBz h0 hB0)) ?_
      rintro _ ⟨z5, rfl, hz5, g0z5⟩
      refine fload1 rL_184_184_0_60_1_0 h0 hB0 ⟨by decide, by decide⟩ (by first | exact ⟨hz5.1, hz5.2⟩ | omega) ?_
      intro z6 lz6 uz6 qz6
      have v30 := cL_a (d := 0) (a := 184) (n := 61) (b := 1020) (m := 1) (by decide +kernel) (by decide) qz6 (by omega) rfl
      intro z7 hz7 ez7 bz7
      clear ez7
      try replace bz7 := bz7 (by omega)
      have m31 := mul_rng lz4 uz4 lz6 uz6
      have k31 := bz7 ⟨by omega, by omega⟩
      refine And.intro (And.intro (by omega) (And.intro (by first | exact ⟨by decide, by decide⟩ | omega) (And.intro (by first | exact by decide | omega) rfl))) ?_
      intro z8 hz8 ez8 dz8
      have dz8 := dz8 (by omega) (by omega)
      change _ = _ / _ at dz8
      refine And.intro (True.intro) ?_
      exact ⟨_, rfl, by omega, (by first | exact sLi_n (w := x1) (by omega) (g0z1.elim (fun q => absurd q.1 (by omega)) (fun q => q.2)) (cR_rng (d := 0) (i0 := 538) (i1 := 860) (m := 14) (q := 0) (lo := 0) (hi := 1) (by decide +kernel) h0 (by omega)) (by omega) | exact sLi_y (w := x1) (by omega) ((g0z1.elim (fun q => q.2) (fun q => absurd q.1 (by omega))).1) ((g0z1.elim (fun q => q.2) (fun q => absurd q.1 (by omega))).2) v19 (by omega) (sTb_of v30 g0z5 (by omega)) k31 (by omega))⟩
abbrev jc_City_lift_641ac_4 (I0 : fH) : Nat → fL → List fV → fH → Prop := fun m lv st I => ∃ (y1 : Int) (y2 : Int), lv = [(0, .inr (.inr (some 1))), (1, .inl y1), (2, .inl y2)] ∧ st = [] ∧ (((0 ≤ y1 ∧ y1 ≤ 239973600) ∧ (0 ≤ y2 ∧ y2 ≤ 24) ∧ (y2 ≤ I0 163 13) ∧ (y1 ≤ 9998900 * y2)) ∧ (y1 = sm (sLi (cR 0 I0)) y2.toNat)) ∧ m = (1 + 1 * (24 - y2) : Int).toNat
set_option maxRecDepth 8000 in
theorem ct_City_lift_641ac {I : fH}  (h0 : fB bsJ I)  : fC ρ base n F xTc vwCl xTys D dA la gJ (fbz bsJ znJ (fKc []) I) xm_62 [.inr (.inr (some 1))] I (fun _ r => ∃ z, r = some (.inl z) ∧ (0 ≤ z ∧ z ≤ 239973600) ∧ (z = sLift (cR 0 I))) := by
  have hW : fzs [] (fKc []) := fKc_ok _
  refine f_meth (rb := rbJ) (J := [(4, (jc_City_lift_641ac_4 I))]) 26 400 xG xin_62 x6_62 okJ (fB_self h0) ?_ ?_
  · refine List.forall_mem_cons.mpr ⟨?_, fun q h => absurd h List.not_mem_nil⟩
    · rintro m _ _ I1 hB1 ⟨y1, y2, rfl, rfl, ⟨hb, hx0⟩, hm⟩
      have eJ : I1 = I := fFr_nil (fFr_of hB1)
      have k1 := fBz_eq hB1 (a := 163) (j := 13) (by decide +kernel)
      have b2 := fBd fb_163_13 (fBz h0 hB1)
      refine And.intro ⟨rfl, by decide, by decide⟩ ?_
      refine And.intro ⟨rfl, by decide, by decide⟩ (fgetf fb_163_13 h0 hB1 ?_)
      intro z3 lz3 uz3 qz3
      have v9 := cL_f (d := 0) (a := 163) (j := 13) (r := 7) (p := 7) (by decide +kernel) (by decide) qz3 rfl
      rw [eJ] at v9
      refine And.intro (And.intro (by first | exact fi_ hb.2.1.1 hb.2.1.2 rfl | omega) (by first | exact fi_ lz3 uz3 rfl | omega)) (And.intro ?_ ?_)
      · intro c4
        refine And.intro (True.intro) ?_
        have w7 := (cL_f (d := 0) (a := 163) (j := 13) (r := 7) (p := 7) (I := I) (z := I 163 13) (by decide +kernel) (by decide) rfl rfl)
        exact ⟨_, rfl, (by first | exact ⟨hb.1.1, hb.1.2⟩ | omega), (sm_fin hx0 (by omega))⟩
      · intro c5
        refine Exists.intro xm_63 (And.intro mi_63 (And.intro ⟨rfl, rfl, rfl, rfl⟩ (And.intro rfl ?_)))
        refine fcallp hB1 (ct_City_liftOf_26d0e (fBz h0 hB1) (by first | exact ⟨hb.2.1.1, Int.le_trans (Int.le_sub_one_of_lt (Int.lt_of_lt_of_le c5 uz3)) (by decide)⟩ | omega)) ?_
        rintro _ ⟨z6, rfl, hz6, g0z6⟩
        try rw [eJ] at g0z6
        intro z7 hz7 ez7 bz7
        clear ez7
        have bz7 := bz7 (by omega)
        exact fcutJ (I := I1) (j := (jc_City_lift_641ac_4 I)) (lv' := [(0, .inr (.inr (some 1))), (1, .inl _), (2, .inl _)]) (And.intro rfl (And.intro rfl (And.intro rfl True.intro))) ⟨_, _, rfl, rfl, ⟨by omega, (sm_at hx0 (by omega) (by omega) g0z6 (by omega))⟩, rfl⟩ (by omega)
  · have hB0 := fB_self (zn := znJ) (K := fKc []) h0
    have b8 := fBd fb_163_13 (fBz h0 hB0)
    exact fcutJ (I := I) (j := (jc_City_lift_641ac_4 I)) (lv' := [(0, .inr (.inr (some 1))), (1, .inl _), (2, .inl _)]) (And.intro rfl (And.intro rfl (And.intro rfl True.intro))) ⟨_, _, rfl, rfl, ⟨by omega, rfl⟩, rfl⟩ (by omega)
set_option maxRecDepth 8000 in
theorem ct_City_isDayAt_bb9dd {I : fH} {x1 : Int} (h0 : fB bsJ I) (ha1 : ((-2147483648) ≤ x1 ∧ x1 ≤ 2147483647)) : fC ρ base n F xTc vwCl xTys D dA la gJ (fbz bsJ znJ (fKc []) I) xm_70 [.inr (.inr (some 1)), .inl x1] I (fun _ r => ∃ z, r = some (.inl z) ∧ (0 ≤ z ∧ z ≤ 1) ∧ ((z = 1 ∧ dyP x1 (gt (cR 0 I) 3)) ∨ (z = 0 ∧ ¬ dyP x1 (gt (cR 0 I) 3)))) := by
  have hW : fzs [] (fKc []) := fKc_ok _
  refine f_meth (rb := rbJ) (J := []) 1 400 xG xin_70 x6_70 okJ (fB_self h0) ?_ ?_
  · exact fun q h => absurd h List.not_mem_nil
  · have hB0 := fB_self (zn := znJ) (K := fKc []) h0
    refine And.intro ⟨rfl, by decide, by decide⟩ (fgetf fb_1_7 h0 hB0 ?_)
    intro z1 lz1 uz1 qz1
    have v1 := cL_f (d := 0) (a := 1) (j := 7) (r := 3) (p := 3) (by decide +kernel) (by decide) qz1 rfl
    refine And.intro (by first | exact fi_ lz1 uz1 rfl | omega) (And.intro ?_ ?_)
    · intro c2
      refine And.intro (⟨by omega, by omega⟩) ?_
      exact ⟨_, rfl, by omega, (by first | (exfalso; omega) | exact dy_of hnil0 enil0 v9 rfl (by omega))⟩
    · intro c3
      refine And.intro ⟨rfl, by decide, by decide⟩ (fgetf fb_1_7 h0 hB0 ?_)
      intro z4 lz4 uz4 qz4
      have v9 := cL_f (d := 0) (a := 1) (j := 7) (r := 3) (p := 3) (by decide +kernel) (by decide) qz4 rfl
      refine And.intro (And.intro (by first | exact fi_ ha1.1 ha1.2 rfl | omega) (And.intro (by first | exact fi_ lz4 uz4 rfl | omega) (And.intro (by omega) rfl))) ?_
      intro z5 hz5 ez5 dz5
      refine And.intro ⟨rfl, by decide, by decide⟩ (fgetf fb_1_7 h0 hB0 ?_)
      intro z6 lz6 uz6 qz6
      have v14 := cL_f (d := 0) (a := 1) (j := 7) (r := 3) (p := 3) (by decide +kernel) (by decide) qz6 rfl
      refine And.intro (And.intro (by first | exact fi_ lz6 uz6 rfl | omega) (And.intro (by first | exact ⟨by decide, by decide⟩ | omega) (And.intro (by first | exact by decide | omega) rfl))) ?_
      intro z7 hz7 ez7 dz7
      have dz7 := dz7 (by omega) (by omega)
      change _ = _ / _ at dz7
      refine And.intro (by omega) (And.intro ?_ ?_)
      · intro c8
        refine And.intro (⟨by omega, by omega⟩) ?_
        exact ⟨_, rfl, by omega, (by first | (exfalso; omega) | exact dy_of hz5 ez5 v9 rfl (by omega))⟩
      · intro c9
        refine And.intro (⟨by decide, by decide⟩) ?_
        exact ⟨_, rfl, (by first | exact ⟨by decide, by decide⟩ | omega), (by first | (exfalso; omega) | exact dy_of hz5 ez5 v9 rfl (by omega))⟩
set_option maxRecDepth 8000 in
theorem ct_City_isDay_fb0d1 {I : fH}  (h0 : fB bsJ I)  : fC ρ base n F xTc vwCl xTys D dA la gJ (fbz bsJ znJ (fKc []) I) xm_69 [.inr (.inr (some 1))] I (fun _ r => ∃ z, r = some (.inl z) ∧ (0 ≤ z ∧ z ≤ 1) ∧ ((z = 1 ∧ dyP (gt (cR 0 I) 2) (gt (cR 0 I) 3)) ∨ (z = 0 ∧ ¬ dyP (gt (cR 0 I) 2) (gt (cR 0 I) 3)))) := by
  have hW : fzs [] (fKc []) := fKc_ok _
  refine f_meth (rb := rbJ) (J := []) 1 400 xG xin_69 x6_69 okJ (fB_self h0) ?_ ?_
  · exact fun q h => absurd h List.not_mem_nil
  · have hB0 := fB_self (zn := znJ) (K := fKc []) h0
    refine And.intro ⟨rfl, by decide, by decide⟩ (fgetf fb_1_6 h0 hB0 ?_)
    intro z1 lz1 uz1 qz1
    have v2 := cL_f (d := 0) (a := 1) (j := 6) (r := 2) (p := 2) (by decide +kernel) (by decide) qz1 rfl
    refine Exists.intro xm_70 (And.intro mi_70 (And.intro ⟨rfl, rfl, rfl, rfl⟩ (And.intro rfl ?_)))
    refine fcallp hB0 (ct_City_isDayAt_bb9dd (fBz h0 hB0) (by first | exact ⟨lz1, uz1⟩ | omega)) ?_
    rintro _ ⟨z2, rfl, hz2, g0z2⟩
    refine And.intro (⟨by omega, by omega⟩) ?_
    exact ⟨_, rfl, by omega, (dy_ph g0z2 v2 rfl)⟩
set_option maxRecDepth 8000 in
theorem ct_Works_weightOf_e689a {I : fH} {x1 : Int} (h0 : fB bsJ I) (ha1 : (0 ≤ x1 ∧ x1 ≤ 23)) (hp0 : okA (cR 0 I)) : fC ρ base n F xTc vwCl xTys D dA la gJ (fbz bsJ znJ (fKc []) I) xm_68 [.inr (.inr (some 163)), .inl x1] I (fun _ r => ∃ z, r = some (.inl z) ∧ (0 ≤ z ∧ z ≤ 9999) ∧ (z = sWg (cR 0 I) x1.toNat)) := by
  have hW : fzs [] (fKc []) := fKc_ok _
  refine f_meth (rb := rbJ) (J := []) 1 400 xG xin_68 x6_68 okJ (fB_self h0) ?_ ?_
  · exact fun q h => absurd h List.not_mem_nil
  · have hB0 := fB_self (zn := znJ) (K := fKc []) h0
    refine Exists.intro xm_50 (And.intro mi_50 (And.intro ⟨rfl, rfl, rfl, rfl⟩ (And.intro rfl ?_)))
    refine fcallp hB0 (ct_Works_isGone_6681e (fBz h0 hB0) (by first | exact ⟨ha1.1, ha1.2⟩ | omega)) ?_
    rintro _ ⟨z1, rfl, hz1, g0z1⟩
    refine And.intro (by omega) (And.intro ?_ ?_)
    · intro c2
      refine And.intro (True.intro) ?_
      exact ⟨_, rfl, (by first | exact ⟨by decide, by decide⟩ | omega), (by first | exact sWg_y (w := x1) (by omega) (g0z1.elim (fun q => absurd q.1 (by omega)) (fun q => q.2)) (g0nil0.elim (fun q => absurd q.1 (by omega)) (fun q => q.2)) v25 (by omega) | exact sWg_n (w := x1) (by omega) (Or.inr (g0nil0.elim (fun q => q.2) (fun q => absurd q.1 (by omega)))) (by omega) | exact sWg_n (w := x1) (by omega) (Or.inl (g0z1.elim (fun q => q.2) (fun q => absurd q.1 (by omega)))) (by omega))⟩
    · intro c3
      refine Exists.intro xm_55 (And.intro mi_55 (And.intro ⟨rfl, rfl, rfl, rfl⟩ (And.intro rfl ?_)))
      refine fcallp hB0 (ct_Works_isDropped_adfda (fBz h0 hB0) (by first | exact ⟨ha1.1, ha1.2⟩ | omega) hp0) ?_
      rintro _ ⟨z4, rfl, hz4, g0z4⟩
      refine And.intro (by omega) (And.intro ?_ ?_)
      · intro c5
        refine And.intro ⟨rfl, by decide, by decide⟩ ?_
        refine fload1 rL_166_166_0_23_1_0 h0 hB0 ⟨by decide, by decide⟩ (by first | exact ⟨ha1.1, ha1.2⟩ | omega) ?_
        intro z6 lz6 uz6 qz6
        have v25 := cL_a (d := 0) (a := 166) (n := 24) (b := 532) (m := 14) (by decide +kernel) (by decide) qz6 (by omega) rfl
        refine And.intro (True.intro) ?_
        exact ⟨_, rfl, (by first | exact ⟨lz6, uz6⟩ | omega), (by first | exact sWg_y (w := x1) (by omega) (g0z1.elim (fun q => absurd q.1 (by omega)) (fun q => q.2)) (g0z4.elim (fun q => absurd q.1 (by omega)) (fun q => q.2)) v25 (by omega) | exact sWg_n (w := x1) (by omega) (Or.inr (g0z4.elim (fun q => q.2) (fun q => absurd q.1 (by omega)))) (by omega) | exact sWg_n (w := x1) (by omega) (Or.inl (g0z1.elim (fun q => q.2) (fun q => absurd q.1 (by omega)))) (by omega))⟩
      · intro c7
        refine And.intro (True.intro) ?_
        exact ⟨_, rfl, (by first | exact ⟨by decide, by decide⟩ | omega), (by first | exact sWg_y (w := x1) (by omega) (g0z1.elim (fun q => absurd q.1 (by omega)) (fun q => q.2)) (g0z4.elim (fun q => absurd q.1 (by omega)) (fun q => q.2)) v25 (by omega) | exact sWg_n (w := x1) (by omega) (Or.inr (g0z4.elim (fun q => q.2) (fun q => absurd q.1 (by omega)))) (by omega) | exact sWg_n (w := x1) (by omega) (Or.inl (g0z1.elim (fun q => q.2) (fun q => absurd q.1 (by omega)))) (by omega))⟩
abbrev jc_People_living_beea0_4 (I0 : fH) : Nat → fL → List fV → fH → Prop := fun m lv st I => ∃ (y1 : Int) (y2 : Int), lv = [(0, .inr (.inr (some 177))), (1, .inl y1), (2, .inl y2)] ∧ st = [] ∧ (((0 ≤ y1 ∧ y1 ≤ 24) ∧ (0 ≤ y2 ∧ y2 ≤ 24) ∧ (y2 ≤ I0 177 4) ∧ (y1 ≤ y2)) ∧ (y1 = sm (sLiv (cR 0 I0)) y2.toNat)) ∧ m = (1 + 1 * (24 - y2) : Int).toNat
set_option maxRecDepth 8000 in
theorem ct_People_living_beea0 {I : fH}  (h0 : fB bsJ I)  : fC ρ base n F xTc vwCl xTys D dA la gJ (fbz bsJ znJ (fKc []) I) xm_67 [.inr (.inr (some 177))] I (fun _ r => ∃ z, r = some (.inl z) ∧ (0 ≤ z ∧ z ≤ 24) ∧ (z = sm (sLiv (cR 0 I)) (gt (cR 0 I) 8).toNat)) := by
  have hW : fzs [] (fKc []) := fKc_ok _
  refine f_meth (rb := rbJ) (J := [(4, (jc_People_living_beea0_4 I))]) 26 400 xG xin_67 x6_67 okJ (fB_self h0) ?_ ?_
  · refine List.forall_mem_cons.mpr ⟨?_, fun q h => absurd h List.not_mem_nil⟩
    · rintro m _ _ I1 hB1 ⟨y1, y2, rfl, rfl, ⟨hb, hx0⟩, hm⟩
      have eJ : I1 = I := fFr_nil (fFr_of hB1)
      have k1 := fBz_eq hB1 (a := 177) (j := 4) (by decide +kernel)
      have b2 := fBd fb_177_4 (fBz h0 hB1)
      refine And.intro ⟨rfl, by decide, by decide⟩ (fgetf fb_177_4 h0 hB1 ?_)
      intro z3 lz3 uz3 qz3
      have v6 := cL_f (d := 0) (a := 177) (j := 4) (r := 8) (p := 8) (by decide +kernel) (by decide) qz3 rfl
      rw [eJ] at v6
      refine And.intro (And.intro (by first | exact fi_ hb.2.1.1 hb.2.1.2 rfl | omega) (by first | exact fi_ lz3 uz3 rfl | omega)) (And.intro ?_ ?_)
      · intro c4
        refine And.intro (True.intro) ?_
        have w8 := (cL_f (d := 0) (a := 177) (j := 4) (r := 8) (p := 8) (I := I) (z := I 177 4) (by decide +kernel) (by decide) rfl rfl)
        exact ⟨_, rfl, (by first | exact ⟨hb.1.1, hb.1.2⟩ | omega), (sm_fin hx0 (by omega))⟩
      · intro c5
        refine Exists.intro xm_21 (And.intro mi_21 (And.intro ⟨rfl, rfl, rfl, rfl⟩ (And.intro rfl ?_)))
        refine fcallp hB1 (ct_People_isDead_edb17 (fBz h0 hB1) (by first | exact ⟨hb.2.1.1, Int.le_trans (Int.le_sub_one_of_lt (Int.lt_of_lt_of_le c5 uz3)) (by decide)⟩ | omega)) ?_
        rintro _ ⟨z6, rfl, hz6, g0z6⟩
        try rw [eJ] at g0z6
        refine And.intro (by omega) (And.intro ?_ ?_)
        · intro c7
          exact fcutJ (I := I1) (j := (jc_People_living_beea0_4 I)) (lv' := [(0, .inr (.inr (some 177))), (1, .inl _), (2, .inl _)]) (And.intro rfl (And.intro rfl (And.intro rfl True.intro))) ⟨_, _, rfl, rfl, ⟨by omega, (by first | exact sm_at (v := 1) hx0 (by omega) (by omega) (sLiv_l (w := y2) (by omega) (g0z6.elim (fun q => absurd q.1 (by omega)) (fun q => q.2)) rfl) (by omega) | exact sm_at (v := 0) hx0 (by omega) (by omega) (sLiv_d (w := y2) (by omega) (g0z6.elim (fun q => q.2) (fun q => absurd q.1 (by omega))) rfl) (by omega))⟩, rfl⟩ (by omega)
        · intro c8
          intro z9 hz9 bz9
          have bz9 := bz9 (by omega)
          exact fcutJ (I := I1) (j := (jc_People_living_beea0_4 I)) (lv' := [(0, .inr (.inr (some 177))), (1, .inl _), (2, .inl _)]) (And.intro rfl (And.intro rfl (And.intro rfl True.intro))) ⟨_, _, rfl, rfl, ⟨by omega, (by first | exact sm_at (v := 1) hx0 (by omega) (by omega) (sLiv_l (w := y2) (by omega) (g0z6.elim (fun q => absurd q.1 (by omega)) (fun q => q.2)) rfl) (by omega) | exact sm_at (v := 0) hx0 (by omega) (by omega) (sLiv_d (w := y2) (by omega) (g0z6.elim (fun q => q.2) (fun q => absurd q.1 (by omega))) rfl) (by omega))⟩, rfl⟩ (by omega)
  · have hB0 := fB_self (zn := znJ) (K := fKc []) h0
    have b10 := fBd fb_177_4 (fBz h0 hB0)
    exact fcutJ (I := I) (j := (jc_People_living_beea0_4 I)) (lv' := [(0, .inr (.inr (some 177))), (1, .inl _), (2, .inl _)]) (And.intro rfl (And.intro rfl (And.intro rfl True.intro))) ⟨_, _, rfl, rfl, ⟨by omega, rfl⟩, rfl⟩ (by omega)
abbrev jc_Cells_gases_5c65b_4 (I0 : fH) : Nat → fL → List fV → fH → Prop := fun m lv st I => ∃ (y1 : Int) (y2 : Int), lv = [(0, .inr (.inr (some 2))), (1, .inl y1), (2, .inl y2)] ∧ st = [] ∧ (((0 ≤ y1 ∧ y1 ≤ 79999920) ∧ (0 ≤ y2 ∧ y2 ≤ 20) ∧ (y2 ≤ I0 2 5) ∧ (y1 ≤ 3999996 * y2)) ∧ (y1 = sm (sGs (cR 0 I0)) y2.toNat)) ∧ m = (6 + 6 * (20 - y2) : Int).toNat
abbrev jc_Cells_gases_5c65b_14 (I0 : fH) : Nat → fL → List fV → fH → Prop := fun m lv st I => ∃ (y1 : Int) (y2 : Int) (y3 : Int), lv = [(0, .inr (.inr (some 2))), (1, .inl y1), (2, .inl y2), (3, .inl y3)] ∧ st = [] ∧ (((0 ≤ y1 ∧ y1 ≤ 83999916) ∧ (0 ≤ y2 ∧ y2 ≤ 19) ∧ (0 ≤ y3 ∧ y3 ≤ 4) ∧ (1 ≤ I 2 5 ∧ I 2 5 ≤ 20) ∧ (y2 + 1 ≤ I0 2 5) ∧ (y1 ≤ 3999996 * y2 + 999999 * y3)) ∧ (y1 = sm (sGs (cR 0 I0)) y2.toNat + sm (fun g => gt (cR 0 I0) (31 + 20 * y2 + (g : Int))) y3.toNat)) ∧ m = (1 + 6 * (20 - y2) + 1 * (4 - y3) : Int).toNat
set_option maxRecDepth 8000 in
theorem ct_Cells_gases_5c65b {I : fH}  (h0 : fB bsJ I)  : fC ρ base n F xTc vwCl xTys D dA la gJ (fbz bsJ znJ (fKc []) I) xm_66 [.inr (.inr (some 2))] I (fun _ r => ∃ z, r = some (.inl z) ∧ (0 ≤ z ∧ z ≤ 79999920) ∧ (z = sm (sGs (cR 0 I)) (gt (cR 0 I) 5).toNat)) := by
  have hW : fzs [] (fKc []) := fKc_ok _
  refine f_meth (rb := rbJ) (J := [(4, (jc_Cells_gases_5c65b_4 I)), (14, (jc_Cells_gases_5c65b_14 I))]) 127 400 xG xin_66 x6_66 okJ (fB_self h0) ?_ ?_
  · refine List.forall_mem_cons.mpr ⟨?_, List.forall_mem_cons.mpr ⟨?_, fun q h => absurd h List.not_mem_nil⟩⟩
    · rintro m _ _ I1 hB1 ⟨y1, y2, rfl, rfl, ⟨hb, hx0⟩, hm⟩
      have eJ : I1 = I := fFr_nil (fFr_of hB1)
      have k1 := fBz_eq hB1 (a := 2) (j := 5) (by decide +kernel)
      have b2 := fBd fb_2_5 (fBz h0 hB1)
      refine And.intro ⟨rfl, by decide, by decide⟩ (fgetf fb_2_5 h0 hB1 ?_)
      intro z3 lz3 uz3 qz3
      have v6 := cL_f (d := 0) (a := 2) (j := 5) (r := 5) (p := 5) (by decide +kernel) (by decide) qz3 rfl
      rw [eJ] at v6
      refine And.intro (And.intro (by first | exact fi_ hb.2.1.1 hb.2.1.2 rfl | omega) (by first | exact fi_ lz3 uz3 rfl | omega)) (And.intro ?_ ?_)
      · intro c4
        refine And.intro (True.intro) ?_
        have w5 := (cL_f (d := 0) (a := 2) (j := 5) (r := 5) (p := 5) (I := I) (z := I 2 5) (by decide +kernel) (by decide) rfl rfl)
        exact ⟨_, rfl, (by first | exact ⟨hb.1.1, hb.1.2⟩ | omega), (sm_fin hx0 (by omega))⟩
      · intro c5
        exact fcutJ (I := I1) (j := (jc_Cells_gases_5c65b_14 I)) (lv' := [(0, .inr (.inr (some 2))), (1, .inl _), (2, .inl _), (3, .inl _)]) (And.intro rfl (And.intro rfl (And.intro rfl (And.intro rfl True.intro)))) ⟨_, _, _, rfl, rfl, ⟨by omega, (hx0.trans (Int.add_zero _).symm)⟩, rfl⟩ (by omega)
    · rintro m _ _ I1 hB1 ⟨y1, y2, y3, rfl, rfl, ⟨hb, hx0⟩, hm⟩
      have eJ : I1 = I := fFr_nil (fFr_of hB1)
      have k6 := fBz_eq hB1 (a := 2) (j := 5) (by decide +kernel)
      have b7 := fBd fb_2_5 (fBz h0 hB1)
      refine And.intro (And.intro (by first | exact fi_ hb.2.2.1.1 hb.2.2.1.2 rfl | omega) (by first | exact ⟨by decide, by decide⟩ | omega)) (And.intro ?_ ?_)
      · intro c8
        exact fcutJ (I := I1) (j := (jc_Cells_gases_5c65b_4 I)) (lv' := [(0, .inr (.inr (some 2))), (1, .inl _), (2, .inl _)]) (And.intro rfl (And.intro rfl (And.intro rfl True.intro))) ⟨_, _, rfl, rfl, ⟨by omega, (sm_at rfl (by omega) (by omega) rfl (sGs_of hx0 (by omega) (by omega)))⟩, rfl⟩ (by omega)
      · intro c9
        refine And.intro ⟨rfl, by decide, by decide⟩ ?_
        refine And.intro ⟨rfl, by decide⟩ (And.intro (by first | exact ⟨hb.2.1.1, Int.lt_of_le_of_lt hb.2.1.2 (by decide)⟩ | omega) ?_)
        refine fload rL_6_25_0_4_1_0 h0 hB1 (by omega) ?_
        intro z10 lz10 uz10 qz10
        have v27 := cL_r (d := 0) (a := 6) (nr := 20) (n := 5) (b := 31) (mr := 20) (m := 1) (by decide +kernel) (by decide) qz10 (by omega) (by omega) rfl
        rw [eJ] at v27
        intro z11 hz11 ez11 bz11
        clear ez11
        have bz11 := bz11 (by omega)
        exact fcutJ (I := I1) (j := (jc_Cells_gases_5c65b_14 I)) (lv' := [(0, .inr (.inr (some 2))), (1, .inl _), (2, .inl _), (3, .inl _)]) (And.intro rfl (And.intro rfl (And.intro rfl (And.intro rfl True.intro)))) ⟨_, _, _, rfl, rfl, ⟨by omega, (sm_atp hx0 (by omega) (by omega) (gt_at v27 (by omega)) (by omega))⟩, rfl⟩ (by omega)
  · have hB0 := fB_self (zn := znJ) (K := fKc []) h0
    have b12 := fBd fb_2_5 (fBz h0 hB0)
    exact fcutJ (I := I) (j := (jc_Cells_gases_5c65b_4 I)) (lv' := [(0, .inr (.inr (some 2))), (1, .inl _), (2, .inl _)]) (And.intro rfl (And.intro rfl (And.intro rfl True.intro))) ⟨_, _, rfl, rfl, ⟨by omega, rfl⟩, rfl⟩ (by omega)
abbrev jc_City_weight_75fdd_10 (I0 : fH) : Nat → fL → List fV → fH → Prop := fun m lv st I => ∃ (y1 : Int) (y2 : Int), lv = [(0, .inr (.inr (some 1))), (1, .inl y1), (2, .inl y2)] ∧ st = [] ∧ (((0 ≤ y1 ∧ y1 ≤ 84999915) ∧ (0 ≤ y2 ∧ y2 ≤ 5) ∧ (y1 ≤ 79999920 + 999999 * y2)) ∧ (y1 = sm (sGs (cR 0 I0)) (gt (cR 0 I0) 5).toNat + sm (fun k => gt (cR 0 I0) (17 + (k : Int))) y2.toNat)) ∧ m = (26 + 1 * (5 - y2) : Int).toNat
abbrev jc_City_weight_75fdd_48 (I0 : fH) : Nat → fL → List fV → fH → Prop := fun m lv st I => ∃ (y2 : Int) (y3 : Int), lv = [(0, .inr (.inr (some 1))), (2, .inl y2), (3, .inl y3)] ∧ st = [] ∧ (((0 ≤ y2 ∧ y2 ≤ 1091415) ∧ (0 ≤ y3 ∧ y3 ≤ 24) ∧ (y3 ≤ I0 163 13) ∧ (y2 ≤ 851439 + 9999 * y3)) ∧ (y2 = (60 * sm (sLiv (cR 0 I0)) (gt (cR 0 I0) 8).toNat + (sm (sGs (cR 0 I0)) (gt (cR 0 I0) 5).toNat + sm (fun k => gt (cR 0 I0) (17 + (k : Int))) 5) / 100) + sm (sWg (cR 0 I0)) y3.toNat)) ∧ m = (1 + 1 * (24 - y3) : Int).toNat
set_option maxRecDepth 8000 in
theorem ct_City_weight_75fdd {I : fH}  (h0 : fB bsJ I) (hp0 : okA (cR 0 I)) : fC ρ base n F xTc vwCl xTys D dA la gJ (fbz bsJ znJ (fKc []) I) xm_65 [.inr (.inr (some 1))] I (fun _ r => ∃ z, r = some (.inl z) ∧ (0 ≤ z ∧ z ≤ 1091415) ∧ (z = sWeight (cR 0 I))) := by
  have hW : fzs [] (fKc []) := fKc_ok _
  refine f_meth (rb := rbJ) (J := [(10, (jc_City_weight_75fdd_10 I)), (48, (jc_City_weight_75fdd_48 I))]) 32 400 xG xin_65 x6_65 okJ (fB_self h0) ?_ ?_
  · refine List.forall_mem_cons.mpr ⟨?_, List.forall_mem_cons.mpr ⟨?_, fun q h => absurd h List.not_mem_nil⟩⟩
    · rintro m _ _ I1 hB1 ⟨y1, y2, rfl, rfl, ⟨hb, hx0⟩, hm⟩
      have eJ : I1 = I := fFr_nil (fFr_of hB1)
      have k1 := fBz_eq hB1 (a := 163) (j := 13) (by decide +kernel)
      have b2 := fBd fb_163_13 (fBz h0 hB1)
      refine And.intro (And.intro (by first | exact fi_ hb.2.1.1 hb.2.1.2 rfl | omega) (by first | exact ⟨by decide, by decide⟩ | omega)) (And.intro ?_ ?_)
      · intro c3
        refine And.intro ⟨rfl, by decide, by decide⟩ ?_
        refine Exists.intro xm_67 (And.intro mi_67 (And.intro ⟨rfl, rfl, rfl, rfl⟩ (And.intro rfl ?_)))
        refine fcallp hB1 (ct_People_living_beea0 (fBz h0 hB1)) ?_
        rintro _ ⟨z4, rfl, hz4, g0z4⟩
        try rw [eJ] at g0z4
        intro z5 hz5 ez5 bz5
        clear ez5
        have bz5 := bz5 (by omega)
        refine And.intro (And.intro (by first | exact fi_ hb.1.1 hb.1.2 rfl | omega) (And.intro (by first | exact ⟨by decide, by decide⟩ | omega) (And.intro (by first | exact by decide | omega) rfl))) ?_
        intro z6 hz6 ez6 dz6
        have dz6 := dz6 (by omega) (by omega)
        change _ = _ / _ at dz6
        intro z7 hz7 ez7 bz7
        clear ez7
        have bz7 := bz7 (by omega)
        exact fcutJ (I := I1) (j := (jc_City_weight_75fdd_48 I)) (lv' := [(0, .inr (.inr (some 1))), (2, .inl _), (3, .inl _)]) (And.intro rfl (And.intro rfl (And.intro rfl True.intro))) ⟨_, _, rfl, rfl, ⟨by omega, (by have e5 : y2 = 5 := (by omega); have q := hx0; rw [e5] at q; exact sW_0 g0z4 q (by omega) (by omega))⟩, rfl⟩ (by omega)
      · intro c8
        refine And.intro ⟨rfl, by decide, by decide⟩ ?_
        refine fload1 rL_182_182_0_5_1_0 h0 hB1 ⟨by decide, by decide⟩ (by first | exact ⟨hb.2.1.1, Int.le_trans (Int.le_trans c8 (Int.le_refl _)) (by decide)⟩ | omega) ?_
        intro z9 lz9 uz9 qz9
        have v21 := cL_a (d := 0) (a := 182) (n := 6) (b := 17) (m := 1) (by decide +kernel) (by decide) qz9 (by omega) rfl
        rw [eJ] at v21
        intro z10 hz10 ez10 bz10
        clear ez10
        have bz10 := bz10 (by omega)
        exact fcutJ (I := I1) (j := (jc_City_weight_75fdd_10 I)) (lv' := [(0, .inr (.inr (some 1))), (1, .inl _), (2, .inl _)]) (And.intro rfl (And.intro rfl (And.intro rfl True.intro))) ⟨_, _, rfl, rfl, ⟨by omega, (sm_atp hx0 (by omega) (by omega) (gt_at v21 (by omega)) (by omega))⟩, rfl⟩ (by omega)
    · rintro m _ _ I1 hB1 ⟨y2, y3, rfl, rfl, ⟨hb, hx0⟩, hm⟩
      have eJ : I1 = I := fFr_nil (fFr_of hB1)
      have k11 := fBz_eq hB1 (a := 163) (j := 13) (by decide +kernel)
      have b12 := fBd fb_163_13 (fBz h0 hB1)
      have hpJ : okA (cR 0 I1) := (by rw [eJ]; exact hp0)
      refine And.intro ⟨rfl, by decide, by decide⟩ ?_
      refine And.intro ⟨rfl, by decide, by decide⟩ (fgetf fb_163_13 h0 hB1 ?_)
      intro z13 lz13 uz13 qz13
      have v53 := cL_f (d := 0) (a := 163) (j := 13) (r := 7) (p := 7) (by decide +kernel) (by decide) qz13 rfl
      rw [eJ] at v53
      refine And.intro (And.intro (by first | exact fi_ hb.2.1.1 hb.2.1.2 rfl | omega) (by first | exact fi_ lz13 uz13 rfl | omega)) (And.intro ?_ ?_)
      · intro c14
        refine And.intro (True.intro) ?_
        have w7 := (cL_f (d := 0) (a := 163) (j := 13) (r := 7) (p := 7) (I := I) (z := I 163 13) (by decide +kernel) (by decide) rfl rfl)
        exact ⟨_, rfl, (by first | exact ⟨hb.1.1, hb.1.2⟩ | omega), (sW_of hx0 (by omega))⟩
      · intro c15
        refine And.intro ⟨rfl, by decide, by decide⟩ ?_
        refine Exists.intro xm_68 (And.intro mi_68 (And.intro ⟨rfl, rfl, rfl, rfl⟩ (And.intro rfl ?_)))
        refine fcallp hB1 (ct_Works_weightOf_e689a (fBz h0 hB1) (by first | exact ⟨hb.2.1.1, Int.le_trans (Int.le_sub_one_of_lt (Int.lt_of_lt_of_le c15 uz13)) (by decide)⟩ | omega) hpJ) ?_
        rintro _ ⟨z16, rfl, hz16, g0z16⟩
        try rw [eJ] at g0z16
        intro z17 hz17 ez17 bz17
        clear ez17
        have bz17 := bz17 (by omega)
        exact fcutJ (I := I1) (j := (jc_City_weight_75fdd_48 I)) (lv' := [(0, .inr (.inr (some 1))), (2, .inl _), (3, .inl _)]) (And.intro rfl (And.intro rfl (And.intro rfl True.intro))) ⟨_, _, rfl, rfl, ⟨by omega, (sm_atp hx0 (by omega) (by omega) g0z16 (by omega))⟩, rfl⟩ (by omega)
  · have hB0 := fB_self (zn := znJ) (K := fKc []) h0
    have b18 := fBd fb_163_13 (fBz h0 hB0)
    refine And.intro ⟨rfl, by decide, by decide⟩ ?_
    refine Exists.intro xm_66 (And.intro mi_66 (And.intro ⟨rfl, rfl, rfl, rfl⟩ (And.intro rfl ?_)))
    refine fcallp hB0 (ct_Cells_gases_5c65b (fBz h0 hB0)) ?_
    rintro _ ⟨z19, rfl, hz19, g0z19⟩
    exact fcutJ (I := I) (j := (jc_City_weight_75fdd_10 I)) (lv' := [(0, .inr (.inr (some 1))), (1, .inl _), (2, .inl _)]) (And.intro rfl (And.intro rfl (And.intro rfl True.intro))) ⟨_, _, rfl, rfl, ⟨by omega, (g0z19.trans (Int.add_zero _).symm)⟩, rfl⟩ (by omega)
abbrev jc_Cells_gasesOut_23490_4 (I0 : fH) : Nat → fL → List fV → fH → Prop := fun m lv st I => ∃ (y1 : Int) (y2 : Int), lv = [(0, .inr (.inr (some 2))), (1, .inl y1), (2, .inl y2)] ∧ st = [] ∧ ((((-2147483648) ≤ y1 ∧ y1 ≤ 2147483647) ∧ (0 ≤ y2 ∧ y2 ≤ 20) ∧ (y2 ≤ I0 2 5)) ∧ (y1 = nf (sOu (cR 0 I0)) 0 y2.toNat)) ∧ m = (6 + 6 * (20 - y2) : Int).toNat
abbrev jc_Cells_gasesOut_23490_14 (I0 : fH) : Nat → fL → List fV → fH → Prop := fun m lv st I => ∃ (y1 : Int) (y2 : Int) (y3 : Int), lv = [(0, .inr (.inr (some 2))), (1, .inl y1), (2, .inl y2), (3, .inl y3)] ∧ st = [] ∧ ((((-2147483648) ≤ y1 ∧ y1 ≤ 2147483647) ∧ (0 ≤ y2 ∧ y2 ≤ 19) ∧ (0 ≤ y3 ∧ y3 ≤ 4) ∧ (1 ≤ I 2 5 ∧ I 2 5 ≤ 20) ∧ (y2 + 1 ≤ I0 2 5)) ∧ (y1 = nf (sOv (cR 0 I0) y2.toNat) (nf (sOu (cR 0 I0)) 0 y2.toNat) y3.toNat)) ∧ m = (1 + 6 * (20 - y2) + 1 * (4 - y3) : Int).toNat
set_option maxRecDepth 8000 in
theorem ct_Cells_gasesOut_23490 {I : fH}  (h0 : fB bsJ I)  : fC ρ base n F xTc vwCl xTys D dA la gJ (fbz bsJ znJ (fKc []) I) xm_71 [.inr (.inr (some 2))] I (fun _ r => ∃ z, r = some (.inl z) ∧ ((-2147483648) ≤ z ∧ z ≤ 2147483647) ∧ (z = nf (sOu (cR 0 I)) 0 (gt (cR 0 I) 5).toNat)) := by
  have hW : fzs [] (fKc []) := fKc_ok _
  refine f_meth (rb := rbJ) (J := [(4, (jc_Cells_gasesOut_23490_4 I)), (14, (jc_Cells_gasesOut_23490_14 I))]) 127 400 xG xin_71 x6_71 okJ (fB_self h0) ?_ ?_
  · refine List.forall_mem_cons.mpr ⟨?_, List.forall_mem_cons.mpr ⟨?_, fun q h => absurd h List.not_mem_nil⟩⟩
    · rintro m _ _ I1 hB1 ⟨y1, y2, rfl, rfl, ⟨hb, hx0⟩, hm⟩
      have eJ : I1 = I := fFr_nil (fFr_of hB1)
      have k1 := fBz_eq hB1 (a := 2) (j := 5) (by decide +kernel)
      have b2 := fBd fb_2_5 (fBz h0 hB1)
      refine And.intro ⟨rfl, by decide, by decide⟩ (fgetf fb_2_5 h0 hB1 ?_)
      intro z3 lz3 uz3 qz3
      have v6 := cL_f (d := 0) (a := 2) (j := 5) (r := 5) (p := 5) (by decide +kernel) (by decide) qz3 rfl
      rw [eJ] at v6
      refine And.intro (And.intro (by first | exact fi_ hb.2.1.1 hb.2.1.2 rfl | omega) (by first | exact fi_ lz3 uz3 rfl | omega)) (And.intro ?_ ?_)
      · intro c4
        refine And.intro (True.intro) ?_
        have w5 := (cL_f (d := 0) (a := 2) (j := 5) (r := 5) (p := 5) (I := I) (z := I 2 5) (by decide +kernel) (by decide) rfl rfl)
        exact ⟨_, rfl, (by first | exact ⟨hb.1.1, hb.1.2⟩ | omega), (nf_z hx0 (by omega))⟩
      · intro c5
        exact fcutJ (I := I1) (j := (jc_Cells_gasesOut_23490_14 I)) (lv' := [(0, .inr (.inr (some 2))), (1, .inl _), (2, .inl _), (3, .inl _)]) (And.intro rfl (And.intro rfl (And.intro rfl (And.intro rfl True.intro)))) ⟨_, _, _, rfl, rfl, ⟨by omega, hx0⟩, rfl⟩ (by omega)
    · rintro m _ _ I1 hB1 ⟨y1, y2, y3, rfl, rfl, ⟨hb, hx0⟩, hm⟩
      have eJ : I1 = I := fFr_nil (fFr_of hB1)
      have k6 := fBz_eq hB1 (a := 2) (j := 5) (by decide +kernel)
      have b7 := fBd fb_2_5 (fBz h0 hB1)
      refine And.intro (And.intro (by first | exact fi_ hb.2.2.1.1 hb.2.2.1.2 rfl | omega) (by first | exact ⟨by decide, by decide⟩ | omega)) (And.intro ?_ ?_)
      · intro c8
        exact fcutJ (I := I1) (j := (jc_Cells_gasesOut_23490_4 I)) (lv' := [(0, .inr (.inr (some 2))), (1, .inl _), (2, .inl _)]) (And.intro rfl (And.intro rfl (And.intro rfl True.intro))) ⟨_, _, rfl, rfl, ⟨by omega, (ou_c hx0 (by omega) (by omega) (by omega))⟩, rfl⟩ (by omega)
      · intro c9
        refine And.intro ⟨rfl, by decide, by decide⟩ ?_
        refine And.intro ⟨rfl, by decide⟩ (And.intro (by first | exact ⟨hb.2.1.1, Int.lt_of_le_of_lt hb.2.1.2 (by decide)⟩ | omega) ?_)
        refine fload rL_27_46_0_4_1_0 h0 hB1 (by omega) ?_
        intro z10 lz10 uz10 qz10
        have v27 := cL_r (d := 0) (a := 27) (nr := 20) (n := 5) (b := 37) (mr := 20) (m := 1) (by decide +kernel) (by decide) qz10 (by omega) (by omega) rfl
        rw [eJ] at v27
        intro z11 hz11 ez11 bz11
        clear bz11
        exact fcutJ (I := I1) (j := (jc_Cells_gasesOut_23490_14 I)) (lv' := [(0, .inr (.inr (some 2))), (1, .inl _), (2, .inl _), (3, .inl _)]) (And.intro rfl (And.intro rfl (And.intro rfl (And.intro rfl True.intro)))) ⟨_, _, _, rfl, rfl, ⟨by omega, (ou_g hx0 (by omega) (by omega) (by omega) hz11 ez11 v27 (by omega))⟩, rfl⟩ (by omega)
  · have hB0 := fB_self (zn := znJ) (K := fKc []) h0
    have b12 := fBd fb_2_5 (fBz h0 hB0)
    exact fcutJ (I := I) (j := (jc_Cells_gasesOut_23490_4 I)) (lv' := [(0, .inr (.inr (some 2))), (1, .inl _), (2, .inl _)]) (And.intro rfl (And.intro rfl (And.intro rfl True.intro))) ⟨_, _, rfl, rfl, ⟨by omega, rfl⟩, rfl⟩ (by omega)
set_option maxRecDepth 8000 in
theorem ct_X_city_22325 {I : fH} {x1 : Int} (h0 : fB bsJ I) (ha1 : ((-2147483648) ≤ x1 ∧ x1 ≤ 2147483647)) (hp0 : okA (cR 0 I)) : fC ρ base n F xTc vwCl xTys D dA la gJ (fbz bsJ znJ (fKc []) I) xm_61 [.inr (.inr (some 0)), .inl x1] I (fun _ r => ∃ z, r = some (.inl z) ∧ ((-2147483648) ≤ z ∧ z ≤ 2147483647) ∧ (z = oCity (cR 0 I) x1)) := by
  have hW : fzs [] (fKc []) := fKc_ok _
  refine f_meth (rb := rbJ) (J := []) 1 400 xG xin_61 x6_61 okJ (fB_self h0) ?_ ?_
  · exact fun q h => absurd h List.not_mem_nil
  · have hB0 := fB_self (zn := znJ) (K := fKc []) h0
    refine Exists.intro xm_13 (And.intro mi_13 (And.intro ⟨rfl, rfl, rfl, rfl⟩ (And.intro True.intro ?_)))
    refine fcallp hB0 (ct_X_within_c27b1 (fBz h0 hB0) (by first | exact ⟨ha1.1, ha1.2⟩ | omega) (by first | exact ⟨by decide, by decide⟩ | omega) (by first | exact ⟨by decide, by decide⟩ | omega)) ?_
    rintro _ ⟨z1, rfl, hz1⟩
    refine And.intro (by omega) (And.intro ?_ ?_)
    · intro c2
      refine And.intro (by first | exact fi_ ha1.1 ha1.2 rfl | omega) (And.intro ?_ ?_)
      · refine And.intro (fun ex => ?_) (And.intro (fun ex => ?_) (And.intro (fun ex => ?_) (And.intro (fun ex => ?_) (And.intro (fun ex => ?_) (And.intro (fun ex => ?_) (And.intro (fun ex => ?_) (And.intro (fun ex => ?_) (True.intro))))))))
        · skip
          refine And.intro ⟨rfl, by decide, by decide⟩ ?_
          refine And.intro ⟨rfl, by decide, by decide⟩ (fgetf fb_1_5 h0 hB0 ?_)
          intro z3 lz3 uz3 qz3
          have v76 := cL_f (d := 0) (a := 1) (j := 5) (r := 1) (p := 1) (by decide +kernel) (by decide) qz3 rfl
          refine And.intro (True.intro) ?_
          exact ⟨_, rfl, (by first | exact ⟨Int.le_trans (by decide) lz3, Int.le_trans uz3 (by decide)⟩ | omega), (if_y (by omega) (gt_to v76 (by omega)))⟩
        · skip
          refine And.intro ⟨rfl, by decide, by decide⟩ ?_
          refine Exists.intro xm_31 (And.intro mi_31 (And.intro ⟨rfl, rfl, rfl, rfl⟩ (And.intro rfl ?_)))
          refine fcallp hB0 (ct_City_level_61deb (fBz h0 hB0)) ?_
          rintro _ ⟨z4, rfl, hz4, g0z4⟩
          refine And.intro (True.intro) ?_
          exact ⟨_, rfl, (by first | exact ⟨Int.le_trans (by decide) hz4.1, Int.le_trans hz4.2 (by decide)⟩ | omega), (if_n (by omega) (if_y (by omega) g0z4))⟩
        · skip
          refine And.intro ⟨rfl, by decide, by decide⟩ ?_
          refine Exists.intro xm_62 (And.intro mi_62 (And.intro ⟨rfl, rfl, rfl, rfl⟩ (And.intro rfl ?_)))
          refine fcallp hB0 (ct_City_lift_641ac (fBz h0 hB0)) ?_
          rintro _ ⟨z5, rfl, hz5, g0z5⟩
          refine And.intro (True.intro) ?_
          exact ⟨_, rfl, (by first | exact ⟨Int.le_trans (by decide) hz5.1, Int.le_trans hz5.2 (by decide)⟩ | omega), (if_n (by omega) (if_n (by omega) (if_y (by omega) g0z5)))⟩
        · skip
          refine And.intro ⟨rfl, by decide, by decide⟩ ?_
          refine Exists.intro xm_65 (And.intro mi_65 (And.intro ⟨rfl, rfl, rfl, rfl⟩ (And.intro rfl ?_)))
          refine fcallp hB0 (ct_City_weight_75fdd (fBz h0 hB0) hp0) ?_
          rintro _ ⟨z6, rfl, hz6, g0z6⟩
          refine And.intro (True.intro) ?_
          exact ⟨_, rfl, (by first | exact ⟨Int.le_trans (by decide) hz6.1, Int.le_trans hz6.2 (by decide)⟩ | omega), (if_n (by omega) (if_n (by omega) (if_n (by omega) (if_y (by omega) g0z6))))⟩
        · skip
          refine And.intro ⟨rfl, by decide, by decide⟩ ?_
          refine Exists.intro xm_69 (And.intro mi_69 (And.intro ⟨rfl, rfl, rfl, rfl⟩ (And.intro rfl ?_)))
          refine fcallp hB0 (ct_City_isDay_fb0d1 (fBz h0 hB0)) ?_
          rintro _ ⟨z7, rfl, hz7, g0z7⟩
          refine And.intro (by omega) (And.intro ?_ ?_)
          · intro c8
            refine And.intro (True.intro) ?_
            exact ⟨_, rfl, by omega, (if_n (by omega) (if_n (by omega) (if_n (by omega) (if_n (by omega) (if_y (by omega) (cI_neg (g0z7.elim (fun q => absurd q.1 (by omega)) (fun q => q.2))).symm)))))⟩
          · intro c9
            refine And.intro (True.intro) ?_
            exact ⟨_, rfl, (by first | exact ⟨by decide, by decide⟩ | omega), (if_n (by omega) (if_n (by omega) (if_n (by omega) (if_n (by omega) (if_y (by omega) (cI_pos (g0z7.elim (fun q => q.2) (fun q => absurd q.1 (by omega)))).symm)))))⟩
        · skip
          refine And.intro ⟨rfl, by decide, by decide⟩ ?_
          refine And.intro ⟨rfl, by decide, by decide⟩ (fgetf fb_1_6 h0 hB0 ?_)
          intro z10 lz10 uz10 qz10
          have v124 := cL_f (d := 0) (a := 1) (j := 6) (r := 2) (p := 2) (by decide +kernel) (by decide) qz10 rfl
          refine And.intro (True.intro) ?_
          exact ⟨_, rfl, (by first | exact ⟨lz10, uz10⟩ | omega), (if_n (by omega) (if_n (by omega) (if_n (by omega) (if_n (by omega) (if_n (by omega) (if_y (by omega) (gt_to v124 (by omega))))))))⟩
        · skip
          refine And.intro ⟨rfl, by decide, by decide⟩ ?_
          refine And.intro ⟨rfl, by decide, by decide⟩ (fgetf fb_1_9 h0 hB0 ?_)
          intro z11 lz11 uz11 qz11
          have v132 := cL_f (d := 0) (a := 1) (j := 9) (r := 0) (p := 0) (by decide +kernel) (by decide) qz11 rfl
          refine And.intro (True.intro) ?_
          exact ⟨_, rfl, (by first | exact ⟨lz11, uz11⟩ | omega), (if_n (by omega) (if_n (by omega) (if_n (by omega) (if_n (by omega) (if_n (by omega) (if_n (by omega) (if_y (by omega) (gt_to v132 (by omega)))))))))⟩
        · skip
          refine And.intro ⟨rfl, by decide, by decide⟩ ?_
          refine And.intro ⟨rfl, by decide, by decide⟩ ?_
          refine Exists.intro xm_71 (And.intro mi_71 (And.intro ⟨rfl, rfl, rfl, rfl⟩ (And.intro rfl ?_)))
          refine fcallp hB0 (ct_Cells_gasesOut_23490 (fBz h0 hB0)) ?_
          rintro _ ⟨z12, rfl, hz12, g0z12⟩
          refine And.intro (True.intro) ?_
          exact ⟨_, rfl, (by first | exact ⟨hz12.1, hz12.2⟩ | omega), (if_n (by omega) (if_n (by omega) (if_n (by omega) (if_n (by omega) (if_n (by omega) (if_n (by omega) (if_n (by omega) (if_y (by omega) g0z12))))))))⟩
      · intro c13
        simp only [List.length_cons, List.length_nil] at c13
        refine And.intro (True.intro) ?_
        exact ⟨_, rfl, (by first | exact ⟨by decide, by decide⟩ | omega), (if_n (by omega) (if_n (by omega) (if_n (by omega) (if_n (by omega) (if_n (by omega) (if_n (by omega) (if_n (by omega) (if_n (by omega) (if_n (fun q => by omega) rfl)))))))))⟩
    · intro c14
      refine And.intro ⟨rfl, by decide, by decide⟩ ?_
      refine And.intro ⟨rfl, by decide, by decide⟩ ?_
      refine fload rL_182_182_0_5_1_0 h0 hB0 (by omega) ?_
      intro z15 lz15 uz15 qz15
      have v22 := cL_a (d := 0) (a := 182) (n := 6) (b := 17) (m := 1) (by decide +kernel) (by decide) qz15 (by omega) rfl
      refine And.intro (True.intro) ?_
      exact ⟨_, rfl, (by first | exact ⟨Int.le_trans (by decide) lz15, Int.le_trans uz15 (by decide)⟩ | omega), (if_n (by omega) (if_n (by omega) (if_n (by omega) (if_n (by omega) (if_n (by omega) (if_n (by omega) (if_n (by omega) (if_n (by omega) (if_y (by omega) (gt_to v22 (by omega)))))))))))⟩
set_option maxRecDepth 8000 in
theorem ct_M_table_49021 {I : fH} {x1 : Int} (h0 : fB bsJ I) (ha1 : ((0 ≤ x1 ∧ x1 ≤ 2) ∧ (x1 - 0) % 2 ≤ 0)) : fC ρ base n F xTc vwCl xTys D dA la gJ (fbz bsJ znJ (fKc []) I) xm_281 [.inr (.inr (some 740)), .inl x1] I (fun _ r => ∃ z, r = some (.inl z) ∧ (0 ≤ z ∧ z ≤ 9999) ∧ (z = sTb (mR I) x1 (sLv (mR I)))) := by
  have hW : fzs [] (fKc []) := fKc_ok _
  refine f_meth (rb := rbJ) (J := []) 1 400 xG xin_281 x6_281 okJ (fB_self h0) ?_ ?_
  · exact fun q h => absurd h List.not_mem_nil
  · have hB0 := fB_self (zn := znJ) (K := fKc []) h0
    refine And.intro ⟨rfl, by decide, by decide⟩ ?_
    refine Exists.intro xm_260 (And.intro mi_260 (And.intro ⟨rfl, rfl, rfl, rfl⟩ (And.intro rfl ?_)))
    refine fcallp hB0 (ct_M_level_daf8a (fBz h0 hB0)) ?_
    rintro _ ⟨z1, rfl, hz1, g0z1⟩
    refine fload rL_741_741_1020_1202_122_60 h0 hB0 (by omega) ?_
    intro z2 lz2 uz2 qz2
    have v17 := mL_r (i0 := 1020) (i1 := 1202) (m := 122) (q := 60) (by decide +kernel) qz2 (by omega) rfl
    refine And.intro (True.intro) ?_
    exact ⟨_, rfl, (by first | exact ⟨lz2, uz2⟩ | omega), (sTb_of v17 g0z1 (by omega))⟩
abbrev jc_M_lift_1d7b0_4 (I0 : fH) : Nat → fL → List fV → fH → Prop := fun m lv st I => ∃ (y1 : Int) (y3 : Int), lv = [(0, .inr (.inr (some 740))), (1, .inr (.inl y1)), (3, .inl y3)] ∧ st = [] ∧ (((0 ≤ y1 ∧ y1 ≤ 239973600) ∧ (0 ≤ y3 ∧ y3 ≤ 24) ∧ (y3 ≤ I0 741 7) ∧ (y1 ≤ 9998900 * y3)) ∧ (y1 = sm (sLi (mR I0)) y3.toNat)) ∧ m = (1 + 1 * (24 - y3) : Int).toNat
set_option maxRecDepth 8000 in
theorem ct_M_lift_1d7b0 {I : fH}  (h0 : fB bsJ I)  : fC ρ base n F xTc vwCl xTys D dA la gJ (fbz bsJ znJ (fKc []) I) xm_280 [.inr (.inr (some 740))] I (fun _ r => ∃ z, r = some (.inr (.inl z)) ∧ (0 ≤ z ∧ z ≤ 239973600) ∧ (z = sLift (mR I))) := by
  have hW : fzs [] (fKc []) := fKc_ok _
  refine f_meth (rb := rbJ) (J := [(4, (jc_M_lift_1d7b0_4 I))]) 26 400 xG xin_280 x6_280 okJ (fB_self h0) ?_ ?_
  · refine List.forall_mem_cons.mpr ⟨?_, fun q h => absurd h List.not_mem_nil⟩
    · rintro m _ _ I1 hB1 ⟨y1, y3, rfl, rfl, ⟨hb, hx0⟩, hm⟩
      have eJ : I1 = I := fFr_nil (fFr_of hB1)
      have k1 := fBz_eq hB1 (a := 741) (j := 7) (by decide +kernel)
      have b2 := fBd fb_741_7 (fBz h0 hB1)
      refine And.intro ⟨rfl, by decide, by decide⟩ ?_
      refine fload1 rL_741_741_7_7_1_0 h0 hB1 ⟨by decide, by decide⟩ (by first | exact ⟨by decide, by decide⟩ | omega) ?_
      intro z3 lz3 uz3 qz3
      have pz3 := fld_at qz3 7 (by omega)
      have v11 := mL_r (i0 := 7) (i1 := 7) (m := 1) (q := 0) (by decide +kernel) qz3 (by omega) rfl
      rw [eJ] at v11
      have w11 : z3 = gt (mR I) 7 := gt_at v11 (by omega)
      refine And.intro (And.intro (by first | exact fi_ hb.2.1.1 hb.2.1.2 rfl | omega) (by first | exact fi_ lz3 uz3 rfl | omega)) (And.intro ?_ ?_)
      · intro c4
        refine And.intro (True.intro) ?_
        exact ⟨_, rfl, (by first | exact ⟨hb.1.1, hb.1.2⟩ | omega), (sm_fin hx0 (by omega))⟩
      · intro c5
        refine Exists.intro xm_267 (And.intro mi_267 (And.intro ⟨rfl, rfl, rfl, rfl⟩ (And.intro rfl ?_)))
        refine fcallp hB1 (ct_M_kindOf_31275 (fBz h0 hB1) (by first | exact ⟨hb.2.1.1, Int.le_trans (Int.le_sub_one_of_lt (Int.lt_of_lt_of_le c5 uz3)) (by decide)⟩ | omega)) ?_
        rintro _ ⟨z6, rfl, hz6, g0z6, g1z6⟩
        try rw [eJ] at g0z6
        try rw [eJ] at g1z6
        refine And.intro (And.intro (by first | exact fi_ hz6.1 hz6.2 rfl | omega) (by first | exact ⟨by decide, by decide⟩ | omega)) (And.intro ?_ ?_)
        · intro c7
          intro z8 hz8 ez8 bz8
          exact fcutJ (I := I1) (j := (jc_M_lift_1d7b0_4 I)) (lv' := [(0, .inr (.inr (some 740))), (1, .inr (.inl _)), (3, .inl _)]) (And.intro rfl (And.intro rfl (And.intro rfl True.intro))) ⟨_, _, rfl, rfl, ⟨by omega, (by first | exact sm_at (v := nil0) hx0 (by omega) (by omega) (sLi_y (w := y3) (by omega) (g1z6.symm.trans (by omega)) (g0nil0.elim (fun q => absurd q.1 (by omega)) (fun q => q.2)) v45 (by omega) g0nil0 k53 (by omega)) (by omega) | exact sm_at (v := 0) hx0 (by omega) (by omega) (sLi_n (w := y3) (by omega) (fun q => by have q2 := g1z6.trans q.1; omega) (mR_rng (i0 := 538) (i1 := 860) (m := 14) (q := 0) (lo := 0) (hi := 1) (by decide +kernel) h0 (by omega)) rfl) (by omega) | exact sm_at (v := 0) hx0 (by omega) (by omega) (sLi_n (w := y3) (by omega) (fun q => by have q2 := (g0nil0.elim (fun q => q.2) (fun q => absurd q.1 (by omega))).symm.trans q.2; omega) (mR_rng (i0 := 538) (i1 := 860) (m := 14) (q := 0) (lo := 0) (hi := 1) (by decide +kernel) h0 (by omega)) rfl) (by omega))⟩, rfl⟩ (by omega)
        · intro c9
          refine Exists.intro xm_245 (And.intro mi_245 (And.intro ⟨rfl, rfl, rfl, rfl⟩ (And.intro rfl ?_)))
          refine fcallp hB1 (ct_M_isGone_0de37 (fBz h0 hB1) (by first | exact ⟨hb.2.1.1, Int.le_trans (Int.le_sub_one_of_lt (Int.lt_of_lt_of_le c5 uz3)) (by decide)⟩ | omega)) ?_
          rintro _ ⟨z10, rfl, hz10, g0z10⟩
          try rw [eJ] at g0z10
          refine And.intro (by omega) (And.intro ?_ ?_)
          · intro c11
            intro z12 hz12 ez12 bz12
            exact fcutJ (I := I1) (j := (jc_M_lift_1d7b0_4 I)) (lv' := [(0, .inr (.inr (some 740))), (1, .inr (.inl _)), (3, .inl _)]) (And.intro rfl (And.intro rfl (And.intro rfl True.intro))) ⟨_, _, rfl, rfl, ⟨by omega, (by first | exact sm_at (v := nil0) hx0 (by omega) (by omega) (sLi_y (w := y3) (by omega) (g1z6.symm.trans (by omega)) (g0z10.elim (fun q => absurd q.1 (by omega)) (fun q => q.2)) v45 (by omega) g0nil0 k53 (by omega)) (by omega) | exact sm_at (v := 0) hx0 (by omega) (by omega) (sLi_n (w := y3) (by omega) (fun q => by have q2 := g1z6.trans q.1; omega) (mR_rng (i0 := 538) (i1 := 860) (m := 14) (q := 0) (lo := 0) (hi := 1) (by decide +kernel) h0 (by omega)) rfl) (by omega) | exact sm_at (v := 0) hx0 (by omega) (by omega) (sLi_n (w := y3) (by omega) (fun q => by have q2 := (g0z10.elim (fun q => q.2) (fun q => absurd q.1 (by omega))).symm.trans q.2; omega) (mR_rng (i0 := 538) (i1 := 860) (m := 14) (q := 0) (lo := 0) (hi := 1) (by decide +kernel) h0 (by omega)) rfl) (by omega))⟩, rfl⟩ (by omega)
          · intro c13
            refine And.intro ⟨rfl, by decide, by decide⟩ ?_
            refine Exists.intro xm_244 (And.intro mi_244 (And.intro ⟨rfl, rfl, rfl, rfl⟩ (And.intro rfl ?_)))
            refine fcallp hB1 (ct_M_workAt_83d38 (fBz h0 hB1) (by first | exact ⟨hb.2.1.1, Int.le_trans (Int.le_sub_one_of_lt (Int.lt_of_lt_of_le c5 uz3)) (by decide)⟩ | omega)) ?_
            rintro _ ⟨_, rfl, rfl⟩
            refine fload rL_741_741_536_858_14_0 h0 hB1 (by omega) ?_
            intro z15 lz15 uz15 qz15
            have v45 := mL_r (i0 := 536) (i1 := 858) (m := 14) (q := 0) (by decide +kernel) qz15 (by omega) rfl
            rw [eJ] at v45
            refine And.intro (by first | exact fi_ lz15 uz15 rfl | omega) ?_
            refine Exists.intro xm_281 (And.intro mi_281 (And.intro ⟨rfl, rfl, rfl, rfl⟩ (And.intro rfl ?_)))
            refine fcallp hB1 (ct_M_table_49021 (fBz h0 hB1) (by omega)) ?_
            rintro _ ⟨z16, rfl, hz16, g0z16⟩
            try rw [eJ] at g0z16
            have t49 := hz16
            refine And.intro (by first | exact fi_ hz16.1 hz16.2 rfl | omega) ?_
            intro z17 hz17 ez17 bz17
            have m53 := mul_rng lz15 uz15 (y := z16) (B := 9999) (by omega) (by omega)
            have k53 := bz17 ⟨by omega, by omega⟩
            refine And.intro (And.intro (by omega) (by omega)) ?_
            intro z18 hz18 ez18
            have d57 := xldv_t (by omega) (by omega) (by decide) hz18 ez18
            rw [Int.tdiv_eq_ediv_of_nonneg (by omega)] at d57
            intro z19 hz19 ez19 bz19
            exact fcutJ (I := I1) (j := (jc_M_lift_1d7b0_4 I)) (lv' := [(0, .inr (.inr (some 740))), (1, .inr (.inl _)), (3, .inl _)]) (And.intro rfl (And.intro rfl (And.intro rfl True.intro))) ⟨_, _, rfl, rfl, ⟨by omega, (by first | exact sm_at (v := z18) hx0 (by omega) (by omega) (sLi_y (w := y3) (by omega) (g1z6.symm.trans (by omega)) (g0z10.elim (fun q => absurd q.1 (by omega)) (fun q => q.2)) v45 (by omega) g0z16 k53 (by omega)) (by omega) | exact sm_at (v := 0) hx0 (by omega) (by omega) (sLi_n (w := y3) (by omega) (fun q => by have q2 := g1z6.trans q.1; omega) (mR_rng (i0 := 538) (i1 := 860) (m := 14) (q := 0) (lo := 0) (hi := 1) (by decide +kernel) h0 (by omega)) rfl) (by omega) | exact sm_at (v := 0) hx0 (by omega) (by omega) (sLi_n (w := y3) (by omega) (fun q => by have q2 := (g0z10.elim (fun q => q.2) (fun q => absurd q.1 (by omega))).symm.trans q.2; omega) (mR_rng (i0 := 538) (i1 := 860) (m := 14) (q := 0) (lo := 0) (hi := 1) (by decide +kernel) h0 (by omega)) rfl) (by omega))⟩, rfl⟩ (by omega)
  · have hB0 := fB_self (zn := znJ) (K := fKc []) h0
    have b20 := fBd fb_741_7 (fBz h0 hB0)
    exact fcutJ (I := I) (j := (jc_M_lift_1d7b0_4 I)) (lv' := [(0, .inr (.inr (some 740))), (1, .inr (.inl _)), (3, .inl _)]) (And.intro rfl (And.intro rfl (And.intro rfl True.intro))) ⟨_, _, rfl, rfl, ⟨by omega, rfl⟩, rfl⟩ (by omega)
set_option maxRecDepth 8000 in
theorem ct_M_isDay_57f71 {I : fH} {x1 : Int} (h0 : fB bsJ I) (ha1 : ((-2147483648) ≤ x1 ∧ x1 ≤ 2147483647)) : fC ρ base n F xTc vwCl xTys D dA la gJ (fbz bsJ znJ (fKc []) I) xm_283 [.inr (.inr (some 740)), .inl x1] I (fun _ r => ∃ z, r = some (.inl z) ∧ (0 ≤ z ∧ z ≤ 1) ∧ ((z = 1 ∧ dyP x1 (gt (mR I) 3)) ∨ (z = 0 ∧ ¬ dyP x1 (gt (mR I) 3)))) := by
  have hW : fzs [] (fKc []) := fKc_ok _
  refine f_meth (rb := rbJ) (J := []) 1 400 xG xin_283 x6_283 okJ (fB_self h0) ?_ ?_
  · exact fun q h => absurd h List.not_mem_nil
  · have hB0 := fB_self (zn := znJ) (K := fKc []) h0
    refine And.intro ⟨rfl, by decide, by decide⟩ ?_
    refine fload1 rL_741_741_3_3_1_0 h0 hB0 ⟨by decide, by decide⟩ (by first | exact ⟨by decide, by decide⟩ | omega) ?_
    intro z1 lz1 uz1 qz1
    have pz1 := fld_at qz1 3 (by omega)
    have v6 := mL_r (i0 := 3) (i1 := 3) (m := 1) (q := 0) (by decide +kernel) qz1 (by omega) rfl
    refine And.intro (And.intro (by first | exact fi_ ha1.1 ha1.2 rfl | omega) (And.intro (by first | exact fi_ lz1 uz1 rfl | omega) (And.intro (by omega) rfl))) ?_
    intro z2 hz2 ez2 dz2
    refine And.intro ⟨rfl, by decide, by decide⟩ ?_
    refine fload1 rL_741_741_3_3_1_0 h0 hB0 ⟨by decide, by decide⟩ (by first | exact ⟨by decide, by decide⟩ | omega) ?_
    intro z3 lz3 uz3 qz3
    have pz3 := fld_at qz3 3 (by omega)
    have v13 := mL_r (i0 := 3) (i1 := 3) (m := 1) (q := 0) (by decide +kernel) qz3 (by omega) rfl
    refine And.intro (And.intro (by first | exact fi_ lz3 uz3 rfl | omega) (And.intro (by first | exact ⟨by decide, by decide⟩ | omega) (And.intro (by first | exact by decide | omega) rfl))) ?_
    intro z4 hz4 ez4 dz4
    have dz4 := dz4 (by omega) (by omega)
    change _ = _ / _ at dz4
    refine And.intro (by omega) (And.intro ?_ ?_)
    · intro c5
      refine And.intro (⟨by omega, by omega⟩) ?_
      exact ⟨_, rfl, by omega, (dy_of hz2 ez2 v6 (by omega) (by omega))⟩
    · intro c6
      refine And.intro (⟨by decide, by decide⟩) ?_
      exact ⟨_, rfl, (by first | exact ⟨by decide, by decide⟩ | omega), (dy_of hz2 ez2 v6 (by omega) (by omega))⟩
abbrev jc_M_weight_47499_4 (I0 : fH) : Nat → fL → List fV → fH → Prop := fun m lv st I => ∃ (y1 : Int) (y3 : Int), lv = [(0, .inr (.inr (some 740))), (1, .inr (.inl y1)), (3, .inl y3)] ∧ st = [] ∧ (((0 ≤ y1 ∧ y1 ≤ 239976) ∧ (0 ≤ y3 ∧ y3 ≤ 24) ∧ (y3 ≤ I0 741 7) ∧ (y1 ≤ 9999 * y3)) ∧ (y1 = sm (sWg (mR I0)) y3.toNat)) ∧ m = (158 + 1 * (24 - y3) : Int).toNat
abbrev jc_M_weight_47499_67 (I0 : fH) : Nat → fL → List fV → fH → Prop := fun m lv st I => ∃ (y1 : Int) (y3 : Int), lv = [(0, .inr (.inr (some 740))), (1, .inr (.inl y1)), (3, .inl y3)] ∧ st = [] ∧ (((0 ≤ y1 ∧ y1 ≤ 241416) ∧ (0 ≤ y3 ∧ y3 ≤ 24) ∧ (y3 ≤ I0 741 8) ∧ (y1 ≤ 239976 + 60 * y3)) ∧ (y1 = sm (sWg (mR I0)) (gt (mR I0) 7).toNat + 60 * sm (sLiv (mR I0)) y3.toNat)) ∧ m = (133 + 1 * (24 - y3) : Int).toNat
abbrev jc_M_weight_47499_107 (I0 : fH) : Nat → fL → List fV → fH → Prop := fun m lv st I => ∃ (y1 : Int) (y3 : Int) (y5 : Int), lv = [(0, .inr (.inr (some 740))), (1, .inr (.inl y1)), (3, .inr (.inl y3)), (5, .inl y5)] ∧ st = [] ∧ (((0 ≤ y1 ∧ y1 ≤ 241416) ∧ (0 ≤ y3 ∧ y3 ≤ 4999995) ∧ (0 ≤ y5 ∧ y5 ≤ 5) ∧ (y3 ≤ 999999 * y5)) ∧ (y1 = sm (sWg (mR I0)) (gt (mR I0) 7).toNat + 60 * sm (sLiv (mR I0)) (gt (mR I0) 8).toNat) ∧ (y3 = sm (fun k => gt (mR I0) (17 + (k : Int))) y5.toNat)) ∧ m = (127 + 1 * (5 - y5) : Int).toNat
abbrev jc_M_weight_47499_136 (I0 : fH) : Nat → fL → List fV → fH → Prop := fun m lv st I => ∃ (y1 : Int) (y3 : Int) (y5 : Int), lv = [(0, .inr (.inr (some 740))), (1, .inr (.inl y1)), (3, .inr (.inl y3)), (5, .inl y5)] ∧ st = [] ∧ (((0 ≤ y1 ∧ y1 ≤ 241416) ∧ (0 ≤ y3 ∧ y3 ≤ 84999915) ∧ (0 ≤ y5 ∧ y5 ≤ 20) ∧ (y5 ≤ I0 741 5) ∧ (y3 ≤ 4999995 + 3999996 * y5)) ∧ (y1 = sm (sWg (mR I0)) (gt (mR I0) 7).toNat + 60 * sm (sLiv (mR I0)) (gt (mR I0) 8).toNat) ∧ (y3 = sm (fun k => gt (mR I0) (17 + (k : Int))) 5 + sm (sGs (mR I0)) y5.toNat)) ∧ m = (6 + 6 * (20 - y5) : Int).toNat
abbrev jc_M_weight_47499_150 (I0 : fH) : Nat → fL → List fV → fH → Prop := fun m lv st I => ∃ (y1 : Int) (y3 : Int) (y5 : Int) (y6 : Int), lv = [(0, .inr (.inr (some 740))), (1, .inr (.inl y1)), (3, .inr (.inl y3)), (5, .inl y5), (6, .inl y6)] ∧ st = [] ∧ (((0 ≤ y1 ∧ y1 ≤ 241416) ∧ (0 ≤ y3 ∧ y3 ≤ 88999911) ∧ (0 ≤ y5 ∧ y5 ≤ 19) ∧ (0 ≤ y6 ∧ y6 ≤ 4) ∧ (1 ≤ I 741 5 ∧ I 741 5 ≤ 20) ∧ (y5 + 1 ≤ I0 741 5) ∧ (y3 ≤ 4999995 + 3999996 * y5 + 999999 * y6)) ∧ (y1 = sm (sWg (mR I0)) (gt (mR I0) 7).toNat + 60 * sm (sLiv (mR I0)) (gt (mR I0) 8).toNat) ∧ (y3 = (sm (fun k => gt (mR I0) (17 + (k : Int))) 5 + sm (sGs (mR I0)) y5.toNat) + sm (fun g => gt (mR I0) (31 + 20 * y5 + (g : Int))) y6.toNat)) ∧ m = (1 + 6 * (20 - y5) + 1 * (4 - y6) : Int).toNat
set_option maxRecDepth 8000 in
theorem ct_M_weight_47499 {I : fH}  (h0 : fB bsJ I)  : fC ρ base n F xTc vwCl xTys D dA la gJ (fbz bsJ znJ (fKc []) I) xm_282 [.inr (.inr (some 740))] I (fun _ r => ∃ z, r = some (.inr (.inl z)) ∧ (0 ≤ z ∧ z ≤ 1091415) ∧ (z = sWeight (mR I))) := by
  have hW : fzs [] (fKc []) := fKc_ok _
  refine f_meth (rb := rbJ) (J := [(4, (jc_M_weight_47499_4 I)), (67, (jc_M_weight_47499_67 I)), (107, (jc_M_weight_47499_107 I)), (136, (jc_M_weight_47499_136 I)), (150, (jc_M_weight_47499_150 I))]) 183 400 xG xin_282 x6_282 okJ (fB_self h0) ?_ ?_
  · refine List.forall_mem_cons.mpr ⟨?_, List.forall_mem_cons.mpr ⟨?_, List.forall_mem_cons.mpr ⟨?_, List.forall_mem_cons.mpr ⟨?_, List.forall_mem_cons.mpr ⟨?_, fun q h => absurd h List.not_mem_nil⟩⟩⟩⟩⟩
    · rintro m _ _ I1 hB1 ⟨y1, y3, rfl, rfl, ⟨hb, hx0⟩, hm⟩
      have eJ : I1 = I := fFr_nil (fFr_of hB1)
      have k1 := fBz_eq hB1 (a := 741) (j := 7) (by decide +kernel)
      have k2 := fBz_eq hB1 (a := 741) (j := 8) (by decide +kernel)
      have k3 := fBz_eq hB1 (a := 741) (j := 5) (by decide +kernel)
      have b4 := fBd fb_741_7 (fBz h0 hB1)
      have b5 := fBd fb_741_8 (fBz h0 hB1)
      have b6 := fBd fb_741_5 (fBz h0 hB1)
      refine And.intro ⟨rfl, by decide, by decide⟩ ?_
      refine fload1 rL_741_741_7_7_1_0 h0 hB1 ⟨by decide, by decide⟩ (by first | exact ⟨by decide, by decide⟩ | omega) ?_
      intro z7 lz7 uz7 qz7
      have pz7 := fld_at qz7 7 (by omega)
      have v11 := mL_r (i0 := 7) (i1 := 7) (m := 1) (q := 0) (by decide +kernel) qz7 (by omega) rfl
      rw [eJ] at v11
      have w11 : z7 = gt (mR I) 7 := gt_at v11 (by omega)
      refine And.intro (And.intro (by first | exact fi_ hb.2.1.1 hb.2.1.2 rfl | omega) (by first | exact fi_ lz7 uz7 rfl | omega)) (And.intro ?_ ?_)
      · intro c8
        exact fcutJ (I := I1) (j := (jc_M_weight_47499_67 I)) (lv' := [(0, .inr (.inr (some 740))), (1, .inr (.inl _)), (3, .inl _)]) (And.intro rfl (And.intro rfl (And.intro rfl True.intro))) ⟨_, _, rfl, rfl, ⟨by omega, ((sm_fin hx0 (by omega)).trans (Int.add_zero _).symm)⟩, rfl⟩ (by omega)
      · intro c9
        refine Exists.intro xm_245 (And.intro mi_245 (And.intro ⟨rfl, rfl, rfl, rfl⟩ (And.intro rfl ?_)))
        refine fcallp hB1 (ct_M_isGone_0de37 (fBz h0 hB1) (by first | exact ⟨hb.2.1.1, Int.le_trans (Int.le_sub_one_of_lt (Int.lt_of_lt_of_le c9 uz7)) (by decide)⟩ | omega)) ?_
        rintro _ ⟨z10, rfl, hz10, g0z10⟩
        try rw [eJ] at g0z10
        refine And.intro (by omega) (And.intro ?_ ?_)
        · intro c11
          intro z12 hz12 ez12 bz12
          exact fcutJ (I := I1) (j := (jc_M_weight_47499_4 I)) (lv' := [(0, .inr (.inr (some 740))), (1, .inr (.inl _)), (3, .inl _)]) (And.intro rfl (And.intro rfl (And.intro rfl True.intro))) ⟨_, _, rfl, rfl, ⟨by omega, (by first | exact sm_at (v := nil0) hx0 (by omega) (by omega) (sWg_y (w := y3) (by omega) (g0z10.elim (fun q => absurd q.1 (by omega)) (fun q => q.2)) (by have q := gt_at v36 (show _ = 539 + 14 * y3 by omega); omega) v51 (by omega)) (by omega) | exact sm_at (v := 0) hx0 (by omega) (by omega) (sWg_n (w := y3) (by omega) (Or.inl (g0z10.elim (fun q => q.2) (fun q => absurd q.1 (by omega)))) rfl) (by omega) | exact sm_at (v := 0) hx0 (by omega) (by omega) (sWg_n (w := y3) (by omega) (Or.inr (by have q := gt_at v36 (show _ = 539 + 14 * y3 by omega); omega)) rfl) (by omega))⟩, rfl⟩ (by omega)
        · intro c13
          refine And.intro ⟨rfl, by decide, by decide⟩ ?_
          refine Exists.intro xm_244 (And.intro mi_244 (And.intro ⟨rfl, rfl, rfl, rfl⟩ (And.intro rfl ?_)))
          refine fcallp hB1 (ct_M_workAt_83d38 (fBz h0 hB1) (by first | exact ⟨hb.2.1.1, Int.le_trans (Int.le_sub_one_of_lt (Int.lt_of_lt_of_le c9 uz7)) (by decide)⟩ | omega)) ?_
          rintro _ ⟨_, rfl, rfl⟩
          refine fload rL_741_741_539_861_14_0 h0 hB1 (by omega) ?_
          intro z15 lz15 uz15 qz15
          have v36 := mL_r (i0 := 539) (i1 := 861) (m := 14) (q := 0) (by decide +kernel) qz15 (by omega) rfl
          rw [eJ] at v36
          refine And.intro (by first | exact fi_ lz15 uz15 rfl | omega) (And.intro ?_ ?_)
          · intro c16
            intro z17 hz17 ez17 bz17
            exact fcutJ (I := I1) (j := (jc_M_weight_47499_4 I)) (lv' := [(0, .inr (.inr (some 740))), (1, .inr (.inl _)), (3, .inl _)]) (And.intro rfl (And.intro rfl (And.intro rfl True.intro))) ⟨_, _, rfl, rfl, ⟨by omega, (by first | exact sm_at (v := nil0) hx0 (by omega) (by omega) (sWg_y (w := y3) (by omega) (g0z10.elim (fun q => absurd q.1 (by omega)) (fun q => q.2)) (by have q := gt_at v36 (show _ = 539 + 14 * y3 by omega); omega) v51 (by omega)) (by omega) | exact sm_at (v := 0) hx0 (by omega) (by omega) (sWg_n (w := y3) (by omega) (Or.inl (g0z10.elim (fun q => q.2) (fun q => absurd q.1 (by omega)))) rfl) (by omega) | exact sm_at (v := 0) hx0 (by omega) (by omega) (sWg_n (w := y3) (by omega) (Or.inr (by have q := gt_at v36 (show _ = 539 + 14 * y3 by omega); omega)) rfl) (by omega))⟩, rfl⟩ (by omega)
          · intro c18
            refine And.intro ⟨rfl, by decide, by decide⟩ ?_
            refine Exists.intro xm_244 (And.intro mi_244 (And.intro ⟨rfl, rfl, rfl, rfl⟩ (And.intro rfl ?_)))
            refine fcallp hB1 (ct_M_workAt_83d38 (fBz h0 hB1) (by first | exact ⟨hb.2.1.1, Int.le_trans (Int.le_sub_one_of_lt (Int.lt_of_lt_of_le c9 uz7)) (by decide)⟩ | omega)) ?_
            rintro _ ⟨_, rfl, rfl⟩
            refine fload rL_741_741_532_854_14_0 h0 hB1 (by omega) ?_
            intro z20 lz20 uz20 qz20
            have v51 := mL_r (i0 := 532) (i1 := 854) (m := 14) (q := 0) (by decide +kernel) qz20 (by omega) rfl
            rw [eJ] at v51
            refine And.intro (by first | exact fi_ lz20 uz20 rfl | omega) ?_
            intro z21 hz21 ez21 bz21
            exact fcutJ (I := I1) (j := (jc_M_weight_47499_4 I)) (lv' := [(0, .inr (.inr (some 740))), (1, .inr (.inl _)), (3, .inl _)]) (And.intro rfl (And.intro rfl (And.intro rfl True.intro))) ⟨_, _, rfl, rfl, ⟨by omega, (by first | exact sm_at (v := z20) hx0 (by omega) (by omega) (sWg_y (w := y3) (by omega) (g0z10.elim (fun q => absurd q.1 (by omega)) (fun q => q.2)) (by have q := gt_at v36 (show _ = 539 + 14 * y3 by omega); omega) v51 (by omega)) (by omega) | exact sm_at (v := 0) hx0 (by omega) (by omega) (sWg_n (w := y3) (by omega) (Or.inl (g0z10.elim (fun q => q.2) (fun q => absurd q.1 (by omega)))) rfl) (by omega) | exact sm_at (v := 0) hx0 (by omega) (by omega) (sWg_n (w := y3) (by omega) (Or.inr (by have q := gt_at v36 (show _ = 539 + 14 * y3 by omega); omega)) rfl) (by omega))⟩, rfl⟩ (by omega)
    · rintro m _ _ I1 hB1 ⟨y1, y3, rfl, rfl, ⟨hb, hx0⟩, hm⟩
      have eJ : I1 = I := fFr_nil (fFr_of hB1)
      have k22 := fBz_eq hB1 (a := 741) (j := 7) (by decide +kernel)
      have k23 := fBz_eq hB1 (a := 741) (j := 8) (by decide +kernel)
      have k24 := fBz_eq hB1 (a := 741) (j := 5) (by decide +kernel)
      have b25 := fBd fb_741_7 (fBz h0 hB1)
      have b26 := fBd fb_741_8 (fBz h0 hB1)
      have b27 := fBd fb_741_5 (fBz h0 hB1)
      refine And.intro ⟨rfl, by decide, by decide⟩ ?_
      refine fload1 rL_741_741_8_8_1_0 h0 hB1 ⟨by decide, by decide⟩ (by first | exact ⟨by decide, by decide⟩ | omega) ?_
      intro z28 lz28 uz28 qz28
      have pz28 := fld_at qz28 8 (by omega)
      have v74 := mL_r (i0 := 8) (i1 := 8) (m := 1) (q := 0) (by decide +kernel) qz28 (by omega) rfl
      rw [eJ] at v74
      have w74 : z28 = gt (mR I) 8 := gt_at v74 (by omega)
      refine And.intro (And.intro (by first | exact fi_ hb.2.1.1 hb.2.1.2 rfl | omega) (by first | exact fi_ lz28 uz28 rfl | omega)) (And.intro ?_ ?_)
      · intro c29
        exact fcutJ (I := I1) (j := (jc_M_weight_47499_107 I)) (lv' := [(0, .inr (.inr (some 740))), (1, .inr (.inl _)), (3, .inr (.inl _)), (5, .inl _)]) (And.intro rfl (And.intro rfl (And.intro rfl (And.intro rfl True.intro)))) ⟨_, _, _, rfl, rfl, ⟨by omega, (by have e : y3 = gt (mR I) 8 := (by omega); have q := hx0; rw [e] at q; exact q), rfl⟩, rfl⟩ (by omega)
      · intro c30
        refine Exists.intro xm_248 (And.intro mi_248 (And.intro ⟨rfl, rfl, rfl, rfl⟩ (And.intro rfl ?_)))
        refine fcallp hB1 (ct_M_isDead_21e1a (fBz h0 hB1) (by first | exact ⟨hb.2.1.1, Int.le_trans (Int.le_sub_one_of_lt (Int.lt_of_lt_of_le c30 uz28)) (by decide)⟩ | omega)) ?_
        rintro _ ⟨z31, rfl, hz31, g0z31⟩
        try rw [eJ] at g0z31
        refine And.intro (by omega) (And.intro ?_ ?_)
        · intro c32
          intro z33 hz33 ez33 bz33
          exact fcutJ (I := I1) (j := (jc_M_weight_47499_67 I)) (lv' := [(0, .inr (.inr (some 740))), (1, .inr (.inl _)), (3, .inl _)]) (And.intro rfl (And.intro rfl (And.intro rfl True.intro))) ⟨_, _, rfl, rfl, ⟨by omega, (by first | exact sm_60 (v := 1) hx0 (by omega) (by omega) (sLiv_l (w := y3) (by omega) (g0z31.elim (fun q => absurd q.1 (by omega)) (fun q => q.2)) rfl) (by omega) | exact sm_60 (v := 0) hx0 (by omega) (by omega) (sLiv_d (w := y3) (by omega) (g0z31.elim (fun q => q.2) (fun q => absurd q.1 (by omega))) rfl) (by omega))⟩, rfl⟩ (by omega)
        · intro c34
          intro z35 hz35 ez35 bz35
          exact fcutJ (I := I1) (j := (jc_M_weight_47499_67 I)) (lv' := [(0, .inr (.inr (some 740))), (1, .inr (.inl _)), (3, .inl _)]) (And.intro rfl (And.intro rfl (And.intro rfl True.intro))) ⟨_, _, rfl, rfl, ⟨by omega, (by first | exact sm_60 (v := 1) hx0 (by omega) (by omega) (sLiv_l (w := y3) (by omega) (g0z31.elim (fun q => absurd q.1 (by omega)) (fun q => q.2)) rfl) (by omega) | exact sm_60 (v := 0) hx0 (by omega) (by omega) (sLiv_d (w := y3) (by omega) (g0z31.elim (fun q => q.2) (fun q => absurd q.1 (by omega))) rfl) (by omega))⟩, rfl⟩ (by omega)
    · rintro m _ _ I1 hB1 ⟨y1, y3, y5, rfl, rfl, ⟨hb, hx0, hx1⟩, hm⟩
      have eJ : I1 = I := fFr_nil (fFr_of hB1)
      have k36 := fBz_eq hB1 (a := 741) (j := 7) (by decide +kernel)
      have k37 := fBz_eq hB1 (a := 741) (j := 8) (by decide +kernel)
      have k38 := fBz_eq hB1 (a := 741) (j := 5) (by decide +kernel)
      have b39 := fBd fb_741_7 (fBz h0 hB1)
      have b40 := fBd fb_741_8 (fBz h0 hB1)
      have b41 := fBd fb_741_5 (fBz h0 hB1)
      refine And.intro (And.intro (by first | exact fi_ hb.2.2.1.1 hb.2.2.1.2 rfl | omega) (by first | exact ⟨by decide, by decide⟩ | omega)) (And.intro ?_ ?_)
      · intro c42
        exact fcutJ (I := I1) (j := (jc_M_weight_47499_136 I)) (lv' := [(0, .inr (.inr (some 740))), (1, .inr (.inl _)), (3, .inr (.inl _)), (5, .inl _)]) (And.intro rfl (And.intro rfl (And.intro rfl (And.intro rfl True.intro)))) ⟨_, _, _, rfl, rfl, ⟨by omega, hx0, (by have e : y5 = 5 := (by omega); have q := hx1; rw [e] at q; exact q.trans (Int.add_zero _).symm)⟩, rfl⟩ (by omega)
      · intro c43
        refine And.intro ⟨rfl, by decide, by decide⟩ ?_
        refine fload rL_741_741_17_21_1_0 h0 hB1 (by omega) ?_
        intro z44 lz44 uz44 qz44
        have v123 := mL_r (i0 := 17) (i1 := 21) (m := 1) (q := 0) (by decide +kernel) qz44 (by omega) rfl
        rw [eJ] at v123
        refine And.intro (by first | exact fi_ lz44 uz44 rfl | omega) ?_
        intro z45 hz45 ez45 bz45
        exact fcutJ (I := I1) (j := (jc_M_weight_47499_107 I)) (lv' := [(0, .inr (.inr (some 740))), (1, .inr (.inl _)), (3, .inr (.inl _)), (5, .inl _)]) (And.intro rfl (And.intro rfl (And.intro rfl (And.intro rfl True.intro)))) ⟨_, _, _, rfl, rfl, ⟨by omega, hx0, (sm_at hx1 (by omega) (by omega) (gt_at v123 (by omega)) (by omega))⟩, rfl⟩ (by omega)
    · rintro m _ _ I1 hB1 ⟨y1, y3, y5, rfl, rfl, ⟨hb, hx0, hx1⟩, hm⟩
      have eJ : I1 = I := fFr_nil (fFr_of hB1)
      have k46 := fBz_eq hB1 (a := 741) (j := 7) (by decide +kernel)
      have k47 := fBz_eq hB1 (a := 741) (j := 8) (by decide +kernel)
      have k48 := fBz_eq hB1 (a := 741) (j := 5) (by decide +kernel)
      have b49 := fBd fb_741_7 (fBz h0 hB1)
      have b50 := fBd fb_741_8 (fBz h0 hB1)
      have b51 := fBd fb_741_5 (fBz h0 hB1)
      refine And.intro ⟨rfl, by decide, by decide⟩ ?_
      refine fload1 rL_741_741_5_5_1_0 h0 hB1 ⟨by decide, by decide⟩ (by first | exact ⟨by decide, by decide⟩ | omega) ?_
      intro z52 lz52 uz52 qz52
      have pz52 := fld_at qz52 5 (by omega)
      have v143 := mL_r (i0 := 5) (i1 := 5) (m := 1) (q := 0) (by decide +kernel) qz52 (by omega) rfl
      rw [eJ] at v143
      have w143 : z52 = gt (mR I) 5 := gt_at v143 (by omega)
      refine And.intro (And.intro (by first | exact fi_ hb.2.2.1.1 hb.2.2.1.2 rfl | omega) (by first | exact fi_ lz52 uz52 rfl | omega)) (And.intro ?_ ?_)
      · intro c53
        refine And.intro (And.intro (by omega) (by omega)) ?_
        intro z54 hz54 ez54
        have d193 := xldv_t (by omega) (by omega) (by decide) hz54 ez54
        rw [Int.tdiv_eq_ediv_of_nonneg (by omega)] at d193
        intro z55 hz55 ez55 bz55
        refine And.intro (True.intro) ?_
        exact ⟨_, rfl, by omega, (sW_ofm hx0 hx1 (m := y5) (by omega) (by omega))⟩
      · intro c56
        exact fcutJ (I := I1) (j := (jc_M_weight_47499_150 I)) (lv' := [(0, .inr (.inr (some 740))), (1, .inr (.inl _)), (3, .inr (.inl _)), (5, .inl _), (6, .inl _)]) (And.intro rfl (And.intro rfl (And.intro rfl (And.intro rfl (And.intro rfl True.intro))))) ⟨_, _, _, _, rfl, rfl, ⟨by omega, hx0, (hx1.trans (Int.add_zero _).symm)⟩, rfl⟩ (by omega)
    · rintro m _ _ I1 hB1 ⟨y1, y3, y5, y6, rfl, rfl, ⟨hb, hx0, hx1⟩, hm⟩
      have eJ : I1 = I := fFr_nil (fFr_of hB1)
      have k57 := fBz_eq hB1 (a := 741) (j := 7) (by decide +kernel)
      have k58 := fBz_eq hB1 (a := 741) (j := 8) (by decide +kernel)
      have k59 := fBz_eq hB1 (a := 741) (j := 5) (by decide +kernel)
      have b60 := fBd fb_741_7 (fBz h0 hB1)
      have b61 := fBd fb_741_8 (fBz h0 hB1)
      have b62 := fBd fb_741_5 (fBz h0 hB1)
      refine And.intro (And.intro (by first | exact fi_ hb.2.2.2.1.1 hb.2.2.2.1.2 rfl | omega) (by first | exact ⟨by decide, by decide⟩ | omega)) (And.intro ?_ ?_)
      · intro c63
        exact fcutJ (I := I1) (j := (jc_M_weight_47499_136 I)) (lv' := [(0, .inr (.inr (some 740))), (1, .inr (.inl _)), (3, .inr (.inl _)), (5, .inl _)]) (And.intro rfl (And.intro rfl (And.intro rfl (And.intro rfl True.intro)))) ⟨_, _, _, rfl, rfl, ⟨by omega, hx0, (sm_atp rfl (by omega) (by omega) rfl (sGs_of hx1 (by omega) (by omega)))⟩, rfl⟩ (by omega)
      · intro c64
        refine And.intro ⟨rfl, by decide, by decide⟩ ?_
        refine Exists.intro xm_239 (And.intro mi_239 (And.intro ⟨rfl, rfl, rfl, rfl⟩ (And.intro rfl ?_)))
        refine fcallp hB1 (ct_M_cellAt_c15f4 (fBz h0 hB1) (by first | exact ⟨hb.2.2.1.1, hb.2.2.1.2⟩ | omega)) ?_
        rintro _ ⟨_, rfl, rfl⟩
        refine fload rL_741_741_31_414_20_3 h0 hB1 (by omega) ?_
        intro z66 lz66 uz66 qz66
        have v172 := mL_r (i0 := 31) (i1 := 414) (m := 20) (q := 3) (by decide +kernel) qz66 (by omega) rfl
        rw [eJ] at v172
        refine And.intro (by first | exact fi_ lz66 uz66 rfl | omega) ?_
        intro z67 hz67 ez67 bz67
        exact fcutJ (I := I1) (j := (jc_M_weight_47499_150 I)) (lv' := [(0, .inr (.inr (some 740))), (1, .inr (.inl _)), (3, .inr (.inl _)), (5, .inl _), (6, .inl _)]) (And.intro rfl (And.intro rfl (And.intro rfl (And.intro rfl (And.intro rfl True.intro))))) ⟨_, _, _, _, rfl, rfl, ⟨by omega, hx0, (sm_atp hx1 (by omega) (by omega) (gt_at v172 (by omega)) (by omega))⟩, rfl⟩ (by omega)
  · have hB0 := fB_self (zn := znJ) (K := fKc []) h0
    have b68 := fBd fb_741_7 (fBz h0 hB0)
    have b69 := fBd fb_741_8 (fBz h0 hB0)
    have b70 := fBd fb_741_5 (fBz h0 hB0)
    exact fcutJ (I := I) (j := (jc_M_weight_47499_4 I)) (lv' := [(0, .inr (.inr (some 740))), (1, .inr (.inl _)), (3, .inl _)]) (And.intro rfl (And.intro rfl (And.intro rfl True.intro))) ⟨_, _, rfl, rfl, ⟨by omega, rfl⟩, rfl⟩ (by omega)
abbrev jc_M_city_467ce_109 (x1 : Int) (I0 : fH) : Nat → fL → List fV → fH → Prop := fun m lv st I => ∃ (y2 : Int) (y3 : Int), lv = [(0, .inr (.inr (some 740))), (2, .inl y2), (3, .inl y3)] ∧ st = [] ∧ ((((-2147483648) ≤ y2 ∧ y2 ≤ 2147483647) ∧ (0 ≤ y3 ∧ y3 ≤ 20) ∧ (y3 ≤ I0 741 5) ∧ (x1 = 7)) ∧ (y2 = nf (sOu (mR I0)) 0 y3.toNat)) ∧ m = (6 + 6 * (20 - y3) : Int).toNat
abbrev jc_M_city_467ce_122 (x1 : Int) (I0 : fH) : Nat → fL → List fV → fH → Prop := fun m lv st I => ∃ (y2 : Int) (y3 : Int) (y4 : Int), lv = [(0, .inr (.inr (some 740))), (2, .inl y2), (3, .inl y3), (4, .inl y4)] ∧ st = [] ∧ ((((-2147483648) ≤ y2 ∧ y2 ≤ 2147483647) ∧ (0 ≤ y3 ∧ y3 ≤ 19) ∧ (0 ≤ y4 ∧ y4 ≤ 4) ∧ (1 ≤ I 741 5 ∧ I 741 5 ≤ 20) ∧ (y3 + 1 ≤ I0 741 5) ∧ (x1 = 7)) ∧ (y2 = nf (sOv (mR I0) y3.toNat) (nf (sOu (mR I0)) 0 y3.toNat) y4.toNat)) ∧ m = (1 + 6 * (20 - y3) + 1 * (4 - y4) : Int).toNat
set_option maxRecDepth 8000 in
theorem ct_M_city_467ce {I : fH} {x1 : Int} (h0 : fB bsJ I) (ha1 : ((-2147483648) ≤ x1 ∧ x1 ≤ 2147483647)) : fC ρ base n F xTc vwCl xTys D dA la gJ (fbz bsJ znJ (fKc []) I) xm_279 [.inr (.inr (some 740)), .inl x1] I (fun _ r => ∃ z, r = some (.inl z) ∧ ((-2147483648) ≤ z ∧ z ≤ 2147483647) ∧ (z = oCity (mR I) x1)) := by
  have hW : fzs [] (fKc []) := fKc_ok _
  refine f_meth (rb := rbJ) (J := [(109, (jc_M_city_467ce_109 x1 I)), (122, (jc_M_city_467ce_122 x1 I))]) 127 400 xG xin_279 x6_279 okJ (fB_self h0) ?_ ?_
  · refine List.forall_mem_cons.mpr ⟨?_, List.forall_mem_cons.mpr ⟨?_, fun q h => absurd h List.not_mem_nil⟩⟩
    · rintro m _ _ I1 hB1 ⟨y2, y3, rfl, rfl, ⟨hb, hx0⟩, hm⟩
      have eJ : I1 = I := fFr_nil (fFr_of hB1)
      have k1 := fBz_eq hB1 (a := 741) (j := 5) (by decide +kernel)
      have b2 := fBd fb_741_5 (fBz h0 hB1)
      refine And.intro ⟨rfl, by decide, by decide⟩ ?_
      refine fload1 rL_741_741_5_5_1_0 h0 hB1 ⟨by decide, by decide⟩ (by first | exact ⟨by decide, by decide⟩ | omega) ?_
      intro z3 lz3 uz3 qz3
      have pz3 := fld_at qz3 5 (by omega)
      have v115 := mL_r (i0 := 5) (i1 := 5) (m := 1) (q := 0) (by decide +kernel) qz3 (by omega) rfl
      rw [eJ] at v115
      refine And.intro (And.intro (by first | exact fi_ hb.2.1.1 hb.2.1.2 rfl | omega) (by first | exact fi_ lz3 uz3 rfl | omega)) (And.intro ?_ ?_)
      · intro c4
        refine And.intro (True.intro) ?_
        have w5 := (show I 741 5 = gt (mR I) 5 from (mR_ld (I := I) (k := 5) (by decide +kernel)).symm)
        exact ⟨_, rfl, (by first | exact ⟨hb.1.1, hb.1.2⟩ | omega), (if_n (by omega) (if_n (by omega) (if_n (by omega) (if_n (by omega) (if_n (by omega) (if_n (by omega) (if_n (by omega) (if_y (by omega) (nf_z hx0 (by omega))))))))))⟩
      · intro c5
        exact fcutJ (I := I1) (j := (jc_M_city_467ce_122 x1 I)) (lv' := [(0, .inr (.inr (some 740))), (2, .inl _), (3, .inl _), (4, .inl _)]) (And.intro rfl (And.intro rfl (And.intro rfl (And.intro rfl True.intro)))) ⟨_, _, _, rfl, rfl, ⟨by omega, hx0⟩, rfl⟩ (by omega)
    · rintro m _ _ I1 hB1 ⟨y2, y3, y4, rfl, rfl, ⟨hb, hx0⟩, hm⟩
      have eJ : I1 = I := fFr_nil (fFr_of hB1)
      have k6 := fBz_eq hB1 (a := 741) (j := 5) (by decide +kernel)
      have b7 := fBd fb_741_5 (fBz h0 hB1)
      refine And.intro (And.intro (by first | exact fi_ hb.2.2.1.1 hb.2.2.1.2 rfl | omega) (by first | exact ⟨by decide, by decide⟩ | omega)) (And.intro ?_ ?_)
      · intro c8
        exact fcutJ (I := I1) (j := (jc_M_city_467ce_109 x1 I)) (lv' := [(0, .inr (.inr (some 740))), (2, .inl _), (3, .inl _)]) (And.intro rfl (And.intro rfl (And.intro rfl True.intro))) ⟨_, _, rfl, rfl, ⟨by omega, (ou_c hx0 (by omega) (by omega) (by omega))⟩, rfl⟩ (by omega)
      · intro c9
        refine And.intro ⟨rfl, by decide, by decide⟩ ?_
        refine Exists.intro xm_239 (And.intro mi_239 (And.intro ⟨rfl, rfl, rfl, rfl⟩ (And.intro rfl ?_)))
        refine fcallp hB1 (ct_M_cellAt_c15f4 (fBz h0 hB1) (by first | exact ⟨hb.2.1.1, hb.2.1.2⟩ | omega)) ?_
        rintro _ ⟨_, rfl, rfl⟩
        refine fload rL_741_741_37_420_1_0 h0 hB1 (by omega) ?_
        intro z11 lz11 uz11 qz11
        have v144 := mL_cov (cou_k (by omega)) qz11
        rw [eJ] at v144
        intro z12 hz12 ez12 bz12
        clear bz12
        exact fcutJ (I := I1) (j := (jc_M_city_467ce_122 x1 I)) (lv' := [(0, .inr (.inr (some 740))), (2, .inl _), (3, .inl _), (4, .inl _)]) (And.intro rfl (And.intro rfl (And.intro rfl (And.intro rfl True.intro)))) ⟨_, _, _, rfl, rfl, ⟨by omega, (ou_g hx0 (by omega) (by omega) (by omega) hz12 ez12 v144 (by omega))⟩, rfl⟩ (by omega)
  · have hB0 := fB_self (zn := znJ) (K := fKc []) h0
    have b13 := fBd fb_741_5 (fBz h0 hB0)
    refine And.intro (by first | exact fi_ ha1.1 ha1.2 rfl | omega) (And.intro ?_ ?_)
    · refine And.intro (fun ex => ?_) (And.intro (fun ex => ?_) (And.intro (fun ex => ?_) (And.intro (fun ex => ?_) (And.intro (fun ex => ?_) (And.intro (fun ex => ?_) (And.intro (fun ex => ?_) (And.intro (fun ex => ?_) (True.intro))))))))
      · skip
        refine And.intro ⟨rfl, by decide, by decide⟩ ?_
        refine fload1 rL_741_741_1_1_1_0 h0 hB0 ⟨by decide, by decide⟩ (by first | exact ⟨by decide, by decide⟩ | omega) ?_
        intro z14 lz14 uz14 qz14
        have pz14 := fld_at qz14 1 (by omega)
        have v53 := mL_r (i0 := 1) (i1 := 1) (m := 1) (q := 0) (by decide +kernel) qz14 (by omega) rfl
        refine And.intro (True.intro) ?_
        have w5 := (show I 741 5 = gt (mR I) 5 from (mR_ld (I := I) (k := 5) (by decide +kernel)).symm)
        exact ⟨_, rfl, (by first | exact ⟨Int.le_trans (by decide) lz14, Int.le_trans uz14 (by decide)⟩ | omega), (if_y (by omega) (gt_to v53 (by omega)))⟩
      · skip
        refine Exists.intro xm_260 (And.intro mi_260 (And.intro ⟨rfl, rfl, rfl, rfl⟩ (And.intro rfl ?_)))
        refine fcallp hB0 (ct_M_level_daf8a (fBz h0 hB0)) ?_
        rintro _ ⟨z15, rfl, hz15, g0z15⟩
        refine And.intro (True.intro) ?_
        have w5 := (show I 741 5 = gt (mR I) 5 from (mR_ld (I := I) (k := 5) (by decide +kernel)).symm)
        exact ⟨_, rfl, (by first | exact ⟨Int.le_trans (by decide) hz15.1, Int.le_trans hz15.2 (by decide)⟩ | omega), (if_n (by omega) (if_y (by omega) g0z15))⟩
      · skip
        refine Exists.intro xm_280 (And.intro mi_280 (And.intro ⟨rfl, rfl, rfl, rfl⟩ (And.intro rfl ?_)))
        refine fcallp hB0 (ct_M_lift_1d7b0 (fBz h0 hB0)) ?_
        rintro _ ⟨z16, rfl, hz16, g0z16⟩
        intro z17 hz17 ez17 bz17
        clear ez17
        have bz17 := bz17 (by omega)
        refine And.intro (True.intro) ?_
        have w5 := (show I 741 5 = gt (mR I) 5 from (mR_ld (I := I) (k := 5) (by decide +kernel)).symm)
        exact ⟨_, rfl, by omega, (if_n (by omega) (if_n (by omega) (if_y (by omega) (bz17.trans g0z16))))⟩
      · skip
        refine Exists.intro xm_282 (And.intro mi_282 (And.intro ⟨rfl, rfl, rfl, rfl⟩ (And.intro rfl ?_)))
        refine fcallp hB0 (ct_M_weight_47499 (fBz h0 hB0)) ?_
        rintro _ ⟨z18, rfl, hz18, g0z18⟩
        intro z19 hz19 ez19 bz19
        clear ez19
        have bz19 := bz19 (by omega)
        refine And.intro (True.intro) ?_
        have w5 := (show I 741 5 = gt (mR I) 5 from (mR_ld (I := I) (k := 5) (by decide +kernel)).symm)
        exact ⟨_, rfl, by omega, (if_n (by omega) (if_n (by omega) (if_n (by omega) (if_y (by omega) (bz19.trans g0z18)))))⟩
      · skip
        refine And.intro ⟨rfl, by decide, by decide⟩ ?_
        refine fload1 rL_741_741_2_2_1_0 h0 hB0 ⟨by decide, by decide⟩ (by first | exact ⟨by decide, by decide⟩ | omega) ?_
        intro z20 lz20 uz20 qz20
        have pz20 := fld_at qz20 2 (by omega)
        have v78 := mL_r (i0 := 2) (i1 := 2) (m := 1) (q := 0) (by decide +kernel) qz20 (by omega) rfl
        refine Exists.intro xm_283 (And.intro mi_283 (And.intro ⟨rfl, rfl, rfl, rfl⟩ (And.intro rfl ?_)))
        refine fcallp hB0 (ct_M_isDay_57f71 (fBz h0 hB0) (by first | exact ⟨lz20, uz20⟩ | omega)) ?_
        rintro _ ⟨z21, rfl, hz21, g0z21⟩
        refine And.intro (by omega) (And.intro ?_ ?_)
        · intro c22
          refine And.intro (True.intro) ?_
          have w5 := (show I 741 5 = gt (mR I) 5 from (mR_ld (I := I) (k := 5) (by decide +kernel)).symm)
          exact ⟨_, rfl, by omega, (if_n (by omega) (if_n (by omega) (if_n (by omega) (if_n (by omega) (if_y (by omega) (cI_neg (by rw [show gt (mR I) 2 = z20 from (gt_at v78 (show _ = (2 : Int) by omega)).symm]; exact (g0z21.elim (fun q => absurd q.1 (by omega)) (fun q => q.2)))).symm)))))⟩
        · intro c23
          refine And.intro (True.intro) ?_
          have w5 := (show I 741 5 = gt (mR I) 5 from (mR_ld (I := I) (k := 5) (by decide +kernel)).symm)
          exact ⟨_, rfl, (by first | exact ⟨by decide, by decide⟩ | omega), (if_n (by omega) (if_n (by omega) (if_n (by omega) (if_n (by omega) (if_y (by omega) (cI_pos (by rw [show gt (mR I) 2 = z20 from (gt_at v78 (show _ = (2 : Int) by omega)).symm]; exact (g0z21.elim (fun q => q.2) (fun q => absurd q.1 (by omega))))).symm)))))⟩
      · skip
        refine And.intro ⟨rfl, by decide, by decide⟩ ?_
        refine fload1 rL_741_741_2_2_1_0 h0 hB0 ⟨by decide, by decide⟩ (by first | exact ⟨by decide, by decide⟩ | omega) ?_
        intro z24 lz24 uz24 qz24
        have pz24 := fld_at qz24 2 (by omega)
        have v96 := mL_r (i0 := 2) (i1 := 2) (m := 1) (q := 0) (by decide +kernel) qz24 (by omega) rfl
        refine And.intro (True.intro) ?_
        have w5 := (show I 741 5 = gt (mR I) 5 from (mR_ld (I := I) (k := 5) (by decide +kernel)).symm)
        exact ⟨_, rfl, (by first | exact ⟨lz24, uz24⟩ | omega), (if_n (by omega) (if_n (by omega) (if_n (by omega) (if_n (by omega) (if_n (by omega) (if_y (by omega) (gt_to v96 (by omega))))))))⟩
      · skip
        refine And.intro ⟨rfl, by decide, by decide⟩ ?_
        refine fload1 rL_741_741_0_0_1_0 h0 hB0 ⟨by decide, by decide⟩ (by first | exact ⟨by decide, by decide⟩ | omega) ?_
        intro z25 lz25 uz25 qz25
        have pz25 := fld_at qz25 0 (by omega)
        have v103 := mL_r (i0 := 0) (i1 := 0) (m := 1) (q := 0) (by decide +kernel) qz25 (by omega) rfl
        refine And.intro (True.intro) ?_
        have w5 := (show I 741 5 = gt (mR I) 5 from (mR_ld (I := I) (k := 5) (by decide +kernel)).symm)
        exact ⟨_, rfl, (by first | exact ⟨Int.le_trans (by decide) lz25, Int.le_trans uz25 (by decide)⟩ | omega), (if_n (by omega) (if_n (by omega) (if_n (by omega) (if_n (by omega) (if_n (by omega) (if_n (by omega) (if_y (by omega) (gt_to v103 (by omega)))))))))⟩
      · skip
        exact fcutJ (I := I) (j := (jc_M_city_467ce_109 x1 I)) (lv' := [(0, .inr (.inr (some 740))), (2, .inl _), (3, .inl _)]) (And.intro rfl (And.intro rfl (And.intro rfl True.intro))) ⟨_, _, rfl, rfl, ⟨by omega, rfl⟩, rfl⟩ (by omega)
    · intro c26
      simp only [List.length_cons, List.length_nil] at c26
      refine And.intro (by first | exact fi_ ha1.1 ha1.2 rfl | omega) ?_
      refine Exists.intro xm_238 (And.intro mi_238 (And.intro ⟨rfl, rfl, rfl, rfl⟩ (And.intro True.intro ?_)))
      refine fcallp hB0 (ct_M_isIn_27230 (fBz h0 hB0) (by first | exact ⟨ha1.1, ha1.2⟩ | omega) (by first | exact ⟨by decide, by decide⟩ | omega) (by first | exact ⟨by decide, by decide⟩ | omega)) ?_
      rintro _ ⟨z27, rfl, hz27⟩
      refine And.intro (by omega) (And.intro ?_ ?_)
      · intro c28
        refine And.intro (True.intro) ?_
        have w5 := (show I 741 5 = gt (mR I) 5 from (mR_ld (I := I) (k := 5) (by decide +kernel)).symm)
        exact ⟨_, rfl, by omega, (if_n (by omega) (if_n (by omega) (if_n (by omega) (if_n (by omega) (if_n (by omega) (if_n (by omega) (if_n (by omega) (if_n (by omega) (if_n (fun q => by omega) rfl)))))))))⟩
      · intro c29
        refine And.intro ⟨rfl, by decide, by decide⟩ ?_
        refine fload rL_741_741_17_22_1_0 h0 hB0 (by omega) ?_
        intro z30 lz30 uz30 qz30
        have v186 := mL_r (i0 := 17) (i1 := 22) (m := 1) (q := 0) (by decide +kernel) qz30 (by omega) rfl
        refine And.intro (True.intro) ?_
        have w5 := (show I 741 5 = gt (mR I) 5 from (mR_ld (I := I) (k := 5) (by decide +kernel)).symm)
        exact ⟨_, rfl, (by first | exact ⟨Int.le_trans (by decide) lz30, Int.le_trans uz30 (by decide)⟩ | omega), (if_n (by omega) (if_n (by omega) (if_n (by omega) (if_n (by omega) (if_n (by omega) (if_n (by omega) (if_n (by omega) (if_n (by omega) (if_y (by omega) (gt_to v186 (by omega)))))))))))⟩
set_option maxRecDepth 8000 in
theorem ct_City_runRotor_c3465 {I : fH} {x1 : Int} (h0 : fB bsJ I) (ha1 : (0 ≤ x1 ∧ x1 ≤ 23)) : fC ρ base n F xTc vwCl xTys D dA la gJ (fbz bsJ znJ (fKc wz_1cc9b) I) xm_86 [.inr (.inr (some 1)), .inl x1] I (fun I' r => r = none ∧ True ∧ (cR 0 I' = sRo (cR 0 I) x1)) := by
  have hW : fzs wz_1cc9b (fKc wz_1cc9b) := fKc_ok _
  refine f_meth (rb := rbJ) (J := []) 1 400 xG xin_86 x6_86 okJ (fB_self h0) ?_ ?_
  · exact fun q h => absurd h List.not_mem_nil
  · have hB0 := fB_self (zn := znJ) (K := fKc wz_1cc9b) h0
    refine And.intro ⟨rfl, by decide, by decide⟩ ?_
    refine fload1 rL_182_182_0_5_1_0 h0 hB0 ⟨by decide, by decide⟩ (by first | exact ⟨by decide, by decide⟩ | omega) ?_
    intro z1 lz1 uz1 qz1
    have pz1 := fld_at qz1 5 (by omega)
    have v5 := cL_a (d := 0) (a := 182) (n := 6) (b := 17) (m := 1) (by decide +kernel) (by decide) qz1 (by omega) rfl
    refine And.intro ⟨rfl, by decide, by decide⟩ ?_
    refine And.intro ⟨rfl, by decide, by decide⟩ ?_
    refine fload1 rL_171_171_0_23_1_0 h0 hB0 ⟨by decide, by decide⟩ (by first | exact ⟨ha1.1, ha1.2⟩ | omega) ?_
    intro z2 lz2 uz2 qz2
    have v14 := cL_a (d := 0) (a := 171) (n := 24) (b := 535) (m := 14) (by decide +kernel) (by decide) qz2 (by omega) rfl
    refine And.intro (And.intro (by first | exact fi_ lz1 uz1 rfl | omega) (by first | exact fi_ lz2 uz2 rfl | omega)) (And.intro ?_ ?_)
    · intro c3
      exact ⟨rfl, True.intro, (sRo_n v5 (by omega) v14 (by omega) (by omega))⟩
    · intro c4
      refine And.intro ⟨rfl, by decide, by decide⟩ ?_
      refine fload1 rL_182_182_0_5_1_0 h0 hB0 ⟨by decide, by decide⟩ (by first | exact ⟨by decide, by decide⟩ | omega) ?_
      intro z5 lz5 uz5 qz5
      have pz5 := fld_at qz5 5 (by omega)
      have v24 := cL_a (d := 0) (a := 182) (n := 6) (b := 17) (m := 1) (by decide +kernel) (by decide) qz5 (by omega) rfl
      refine And.intro ⟨rfl, by decide, by decide⟩ ?_
      refine And.intro ⟨rfl, by decide, by decide⟩ ?_
      refine fload1 rL_171_171_0_23_1_0 h0 hB0 ⟨by decide, by decide⟩ (by first | exact ⟨ha1.1, ha1.2⟩ | omega) ?_
      intro z6 lz6 uz6 qz6
      have v33 := cL_a (d := 0) (a := 171) (n := 24) (b := 535) (m := 14) (by decide +kernel) (by decide) qz6 (by omega) rfl
      intro z7 hz7 ez7 bz7
      have bz7 := bz7 (by omega)
      refine fstore1 rS_182_182_0_5_1_0 (fzs_sub (by decide +kernel) hW) ⟨by decide, by decide⟩ (by first | exact ⟨by decide, by decide⟩ | omega) (by omega) ?_
      intro IhB8 ehB8 hB8
      have t9 := fup_self ehB8
      have t10 := fup_at ehB8 5 (by first | rfl | omega)
      have r35 := cS_a (d := 0) (a := 182) (n := 6) (b := 17) (m := 1) (by decide +kernel) (by decide) ehB8 (by omega) rfl
      refine And.intro ⟨rfl, by decide, by decide⟩ (fgetf fb_1_6 h0 hB8 ?_)
      intro z11 lz11 uz11 qz11
      have v38 := cL_f (d := 0) (a := 1) (j := 6) (r := 2) (p := 2) (by decide +kernel) (by decide) qz11 rfl
      rw [r35] at v38
      intro z12 hz12 ez12 bz12
      clear bz12
      refine And.intro ⟨rfl, by decide, by decide⟩ (And.intro rfl (And.intro (Or.inl rfl) (fputf fb_1_6 (by decide +kernel) hW (by omega) ?_)))
      intro IhB13 ehB13 hB13
      have t14 : IhB13 182 5 = IhB8 182 5 := (congrFun (congrFun ehB13 182) 5).trans (fup_ne (by first | decide | omega))
      have r43 := cS_f (d := 0) (a := 1) (j := 6) (r := 2) (p := 2) (by decide +kernel) (by decide) ehB13 rfl
      exact ⟨rfl, True.intro, (by rw [r43, r35]; exact (sRo_y v5 (by omega) v14 (by omega) (by omega) (by omega) (by omega) (by omega) hz12 ez12 v38))⟩
set_option maxRecDepth 8000 in
theorem ct_City_runProbe_4687a {I : fH} {x1 : Int} (h0 : fB bsJ I) (ha1 : (0 ≤ x1 ∧ x1 ≤ 23)) (hp0 : okA (cR 0 I)) : fC ρ base n F xTc vwCl xTys D dA la gJ (fbz bsJ znJ (fKc wz_4543e) I) xm_87 [.inr (.inr (some 1)), .inl x1] I (fun I' r => r = none ∧ True ∧ (cR 0 I' = sPr (cR 0 I) x1)) := by
  have hW : fzs wz_4543e (fKc wz_4543e) := fKc_ok _
  refine f_meth (rb := rbJ) (J := []) 1 400 xG xin_87 x6_87 okJ (fB_self h0) ?_ ?_
  · exact fun q h => absurd h List.not_mem_nil
  · have hB0 := fB_self (zn := znJ) (K := fKc wz_4543e) h0
    refine And.intro ⟨rfl, by decide, by decide⟩ ?_
    refine Exists.intro xm_55 (And.intro mi_55 (And.intro ⟨rfl, rfl, rfl, rfl⟩ (And.intro rfl ?_)))
    refine fcallp hB0 (ct_Works_isDropped_adfda (fBz h0 hB0) (by first | exact ⟨ha1.1, ha1.2⟩ | omega) hp0) ?_
    rintro _ ⟨z1, rfl, hz1, g0z1⟩
    refine And.intro (by omega) (And.intro ?_ ?_)
    · intro c2
      exact ⟨rfl, True.intro, (g0z1.elim (fun q => absurd q.1 (by omega)) (fun q => sPr_n (x := gt (cR 0 I) (539 + 14 * x1)) rfl rfl q.2))⟩
    · intro c3
      refine And.intro ⟨rfl, by decide, by decide⟩ ?_
      refine And.intro ⟨rfl, by decide, by decide⟩ ?_
      refine And.intro ⟨rfl, by decide, by decide⟩ ?_
      refine And.intro ⟨rfl, by decide, by decide⟩ ?_
      refine fload1 rL_175_175_0_23_1_0 h0 hB0 ⟨by decide, by decide⟩ (by first | exact ⟨ha1.1, ha1.2⟩ | omega) ?_
      intro z4 lz4 uz4 qz4
      have v28 := cL_l (d := 0) qz4 (by omega) rfl
      have w28 : 0 ≤ z4 := nv_pos (by rw [← v28]; exact g0z1.elim (fun q => q.2) (fun q => absurd q.1 (by omega)))
      refine And.intro (And.intro (by first | exact ⟨by decide, by decide⟩ | omega) (And.intro (by omega) rfl)) ?_
      intro z5 hz5
      refine fstore1 rS_175_175_0_23_1_0 (fzs_sub (by decide +kernel) hW) ⟨by decide, by decide⟩ (by first | exact ⟨ha1.1, ha1.2⟩ | omega) (by omega) ?_
      intro IhB6 ehB6 hB6
      have t7 := fup_self ehB6
      have r34 := cS_l (d := 0) ehB6 (by omega) rfl
      refine And.intro ⟨rfl, by decide, by decide⟩ ?_
      refine And.intro ⟨rfl, by decide, by decide⟩ ?_
      refine fload1 rL_176_176_0_23_1_0 h0 hB6 ⟨by decide, by decide⟩ (by first | exact ⟨ha1.1, ha1.2⟩ | omega) ?_
      intro z8 lz8 uz8 qz8
      have v44 := cL_a (d := 0) (a := 176) (n := 24) (b := 540) (m := 14) (by decide +kernel) (by decide) qz8 (by omega) rfl
      rw [r34] at v44
      refine And.intro ⟨rfl, by decide, by decide⟩ ?_
      refine And.intro ⟨rfl, by decide⟩ (And.intro (by first | exact ⟨by decide, by decide⟩ | omega) ?_)
      refine And.intro ⟨rfl, by decide, by decide⟩ ?_
      refine And.intro ⟨rfl, by decide, by decide⟩ ?_
      refine fload1 rL_175_175_0_23_1_0 h0 hB6 ⟨by decide, by decide⟩ (by first | exact ⟨ha1.1, ha1.2⟩ | omega) ?_
      intro z9 lz9 uz9 qz9
      have v59 := cL_l (d := 0) qz9 (by omega) rfl
      rw [r34] at v59
      refine fload rL_185_185_0_60_1_0 h0 hB6 (by omega) ?_
      intro z10 lz10 uz10 qz10
      have v60 := cL_a (d := 0) (a := 185) (n := 61) (b := 1081) (m := 1) (by decide +kernel) (by decide) qz10 (by omega) rfl
      rw [r34] at v60
      intro z11 hz11 ez11 bz11
      try replace bz11 := bz11 (by omega)
      refine fstore1 rS_176_176_0_23_1_0 (fzs_sub (by decide +kernel) hW) ⟨by decide, by decide⟩ (by first | exact ⟨ha1.1, ha1.2⟩ | omega) (by omega) ?_
      intro IhB12 ehB12 hB12
      have t13 := fup_self ehB12
      have r62 := cS_a (d := 0) (a := 176) (n := 24) (b := 540) (m := 14) (by decide +kernel) (by decide) ehB12 (by omega) rfl
      refine And.intro ⟨rfl, by decide, by decide⟩ ?_
      refine And.intro ⟨rfl, by decide, by decide⟩ ?_
      refine And.intro ⟨rfl, by decide, by decide⟩ ?_
      refine And.intro ⟨rfl, by decide, by decide⟩ ?_
      refine fload1 rL_176_176_0_23_1_0 h0 hB12 ⟨by decide, by decide⟩ (by first | exact ⟨ha1.1, ha1.2⟩ | omega) ?_
      intro z14 lz14 uz14 qz14
      have v79 := cL_a (d := 0) (a := 176) (n := 24) (b := 540) (m := 14) (by decide +kernel) (by decide) qz14 (by omega) rfl
      rw [r62, r34] at v79
      refine And.intro ⟨rfl, by decide, by decide⟩ ?_
      refine And.intro ⟨rfl, by decide, by decide⟩ ?_
      refine fload1 rL_171_171_0_23_1_0 h0 hB12 ⟨by decide, by decide⟩ (by first | exact ⟨ha1.1, ha1.2⟩ | omega) ?_
      intro z15 lz15 uz15 qz15
      have v88 := cL_a (d := 0) (a := 171) (n := 24) (b := 535) (m := 14) (by decide +kernel) (by decide) qz15 (by omega) rfl
      rw [r62, r34] at v88
      refine And.intro (And.intro (by first | exact fi_ lz14 uz14 rfl | omega) (by first | exact fi_ lz15 uz15 rfl | omega)) (And.intro ?_ ?_)
      · intro c16
        refine fstore1 rS_174_174_0_23_1_0 (fzs_sub (by decide +kernel) hW) ⟨by decide, by decide⟩ (by first | exact ⟨ha1.1, ha1.2⟩ | omega) (by omega) ?_
        intro IhB17 ehB17 hB17
        have t18 := fup_self ehB17
        have r97 := cS_a (d := 0) (a := 174) (n := 24) (b := 538) (m := 14) (by decide +kernel) (by decide) ehB17 (by omega) rfl
        exact ⟨rfl, True.intro, (by rw [r97, r62, r34]; exact (sPr_y (x := z4) (by omega) ((nv_id w28).symm.trans v28.symm) (by omega) w28 (by omega) ((nv_id (by omega)).trans (by split <;> omega)) v44 (by omega) v60 (by rw [nv_id (by omega)]; omega) (by rw [nv_id (by omega)]; omega) (by omega) (by omega) (by omega) hz11 ez11 (gt_e (by omega) (by omega) v79) (gt_n (by omega) (by omega) (gt_n (by omega) (by omega) v88)) (by omega) (by omega) (by split <;> omega)))⟩
      · intro c19
        refine fstore1 rS_174_174_0_23_1_0 (fzs_sub (by decide +kernel) hW) ⟨by decide, by decide⟩ (by first | exact ⟨ha1.1, ha1.2⟩ | omega) (by first | exact ⟨by decide, by decide⟩ | omega) ?_
        intro IhB20 ehB20 hB20
        have t21 := fup_self ehB20
        have r97 := cS_a (d := 0) (a := 174) (n := 24) (b := 538) (m := 14) (by decide +kernel) (by decide) ehB20 (by omega) rfl
        exact ⟨rfl, True.intro, (by rw [r97, r62, r34]; exact (sPr_y (x := z4) (by omega) ((nv_id w28).symm.trans v28.symm) (by omega) w28 (by omega) ((nv_id (by omega)).trans (by split <;> omega)) v44 (by omega) v60 (by rw [nv_id (by omega)]; omega) (by rw [nv_id (by omega)]; omega) (by omega) (by omega) (by omega) hz11 ez11 (gt_e (by omega) (by omega) v79) (gt_n (by omega) (by omega) (gt_n (by omega) (by omega) v88)) (by omega) (by omega) (by split <;> omega)))⟩
set_option maxRecDepth 8000 in
theorem ct_Cells_addAir_1fa72 {I : fH} {x1 : Int} {x2 : Int} {x3 : Int} (h0 : fB bsJ I) (ha1 : (0 ≤ x1 ∧ x1 ≤ 19)) (ha2 : (0 ≤ x2 ∧ x2 ≤ 4)) (ha3 : ((-49999) ≤ x3 ∧ x3 ≤ 999999)) (hp0 : 0 ≤ x3) (hp1 : x3 ≤ 999999) : fC ρ base n F xTc vwCl xTys D dA la gJ (fbz bsJ znJ (fKc wz_ed400) I) xm_84 [.inr (.inr (some 2)), .inl x1, .inl x2, .inl x3] I (fun I' r => r = none ∧ True ∧ (cR 0 I' = sCo (cR 0 I) x1 x2 x3)) := by
  have hW : fzs wz_ed400 (fKc wz_ed400) := fKc_ok _
  refine f_meth (rb := rbJ) (J := []) 1 400 xG xin_84 x6_84 okJ (fB_self h0) ?_ ?_
  · exact fun q h => absurd h List.not_mem_nil
  · have hB0 := fB_self (zn := znJ) (K := fKc wz_ed400) h0
    refine And.intro ⟨rfl, by decide, by decide⟩ ?_
    refine And.intro ⟨rfl, by decide⟩ (And.intro (by first | exact ⟨ha1.1, Int.lt_of_le_of_lt ha1.2 (by decide)⟩ | omega) ?_)
    refine fload rL_6_25_0_4_1_0 h0 hB0 (by omega) ?_
    intro z1 lz1 uz1 qz1
    have v7 := cL_r (d := 0) (a := 6) (nr := 20) (n := 5) (b := 31) (mr := 20) (m := 1) (by decide +kernel) (by decide) qz1 (by omega) (by omega) rfl
    intro z2 hz2 ez2 bz2
    have bz2 := bz2 (by omega)
    refine And.intro ⟨rfl, by decide, by decide⟩ ?_
    refine And.intro ⟨rfl, by decide⟩ (And.intro (by first | exact ⟨ha1.1, Int.lt_of_le_of_lt ha1.2 (by decide)⟩ | omega) ?_)
    refine And.intro (And.intro (by omega) (And.intro (by first | exact ⟨by decide, by decide⟩ | omega) rfl)) ?_
    intro z3 hz3
    refine fstore rS_6_25_0_4_1_0 (fzs_sub (by decide +kernel) hW) (by omega) (by omega) ?_
    intro IhB4 ehB4 hB4
    have t5 := fup_self ehB4
    have r26 := cS_r (d := 0) (a := 6) (nr := 20) (n := 5) (b := 31) (mr := 20) (m := 1) (by decide +kernel) (by decide) ehB4 (by omega) (by omega) rfl
    refine And.intro (by omega) (And.intro ?_ ?_)
    · intro c6
      exact ⟨rfl, True.intro, (by rw [r26]; exact sCo_A (cR_fin cF0_ok h0 _) (by omega) (by omega) (by omega) (by omega) (by omega))⟩
    · intro c7
      refine And.intro ⟨rfl, by decide, by decide⟩ ?_
      refine And.intro ⟨rfl, by decide⟩ (And.intro (by first | exact ⟨ha1.1, Int.lt_of_le_of_lt ha1.2 (by decide)⟩ | omega) ?_)
      refine fload rL_27_46_0_4_1_0 h0 hB4 (by omega) ?_
      intro z8 lz8 uz8 qz8
      have v42 := cL_r (d := 0) (a := 27) (nr := 20) (n := 5) (b := 37) (mr := 20) (m := 1) (by decide +kernel) (by decide) qz8 (by omega) (by omega) rfl
      rw [r26] at v42
      intro z9 hz9 ez9 bz9
      try replace bz9 := bz9 (by omega)
      refine fstore rS_27_46_0_4_1_0 (fzs_sub (by decide +kernel) hW) (by omega) (by omega) ?_
      intro IhB10 ehB10 hB10
      have t11 := fup_self ehB10
      have r49 := cS_r (d := 0) (a := 27) (nr := 20) (n := 5) (b := 37) (mr := 20) (m := 1) (by decide +kernel) (by decide) ehB10 (by omega) (by omega) rfl
      exact ⟨rfl, True.intro, (by rw [r49, r26]; exact sCo_B (by omega) (by omega) (by omega) (by omega) (by omega) (by omega) hz9 ez9 v42 (by omega))⟩
set_option maxRecDepth 8000 in
theorem ct_Works_partForFoul_f7a9f {I : fH} {x1 : Int} (h0 : fB bsJ I) (ha1 : (0 ≤ x1 ∧ x1 ≤ 23)) : fC ρ base n F xTc vwCl xTys D dA la gJ (fbz bsJ znJ (fKc []) I) xm_83 [.inr (.inr (some 163)), .inl x1] I (fun _ r => ∃ z, r = some (.inl z) ∧ (0 ≤ z ∧ z ≤ 99999) ∧ (z = sPt (cR 0 I) x1)) := by
  have hW : fzs [] (fKc []) := fKc_ok _
  refine f_meth (rb := rbJ) (J := []) 1 400 xG xin_83 x6_83 okJ (fB_self h0) ?_ ?_
  · exact fun q h => absurd h List.not_mem_nil
  · have hB0 := fB_self (zn := znJ) (K := fKc []) h0
    refine And.intro ⟨rfl, by decide, by decide⟩ ?_
    refine fload1 rL_171_171_0_23_1_0 h0 hB0 ⟨by decide, by decide⟩ (by first | exact ⟨ha1.1, ha1.2⟩ | omega) ?_
    intro z1 lz1 uz1 qz1
    have v5 := cL_a (d := 0) (a := 171) (n := 24) (b := 535) (m := 14) (by decide +kernel) (by decide) qz1 (by omega) rfl
    refine And.intro ⟨rfl, by decide, by decide⟩ ?_
    refine fload1 rL_168_168_0_23_1_0 h0 hB0 ⟨by decide, by decide⟩ (by first | exact ⟨ha1.1, ha1.2⟩ | omega) ?_
    intro z2 lz2 uz2 qz2
    have v13 := cL_a (d := 0) (a := 168) (n := 24) (b := 534) (m := 14) (by decide +kernel) (by decide) qz2 (by omega) rfl
    intro z3 hz3 ez3 bz3
    clear ez3
    have bz3 := bz3 (by omega)
    intro z4 hz4 ez4 bz4
    clear ez4
    try replace bz4 := bz4 (by omega)
    have m15 := mul_rng lz1 uz1 (y := z3) (B := 100) (by omega) (by omega)
    have k15 := bz4 ⟨by omega, by omega⟩
    refine And.intro (And.intro (by omega) (And.intro (by first | exact ⟨by decide, by decide⟩ | omega) (And.intro (by first | exact by decide | omega) rfl))) ?_
    intro z5 hz5 ez5 dz5
    have dz5 := dz5 (by omega) (by omega)
    change _ = _ / _ at dz5
    refine And.intro (True.intro) ?_
    exact ⟨_, rfl, by omega, (sPt_of v5 (by omega) v13 (by omega) k15 (by omega) (by omega))⟩
set_option maxRecDepth 8000 in
theorem ct_City_runGarden_95dd6 {I : fH} {x1 : Int} (h0 : fB bsJ I) (ha1 : (0 ≤ x1 ∧ x1 ≤ 23)) : fC ρ base n F xTc vwCl xTys D dA la gJ (fbz bsJ znJ (fKc wz_ed400) I) xm_82 [.inr (.inr (some 1)), .inl x1] I (fun I' r => r = none ∧ True ∧ (cR 0 I' = sGa (cR 0 I) x1)) := by
  have hW : fzs wz_ed400 (fKc wz_ed400) := fKc_ok _
  refine f_meth (rb := rbJ) (J := []) 1 400 xG xin_82 x6_82 okJ (fB_self h0) ?_ ?_
  · exact fun q h => absurd h List.not_mem_nil
  · have hB0 := fB_self (zn := znJ) (K := fKc wz_ed400) h0
    refine Exists.intro xm_69 (And.intro mi_69 (And.intro ⟨rfl, rfl, rfl, rfl⟩ (And.intro rfl ?_)))
    refine fcallp hB0 (ct_City_isDay_fb0d1 (fBz h0 hB0)) ?_
    rintro _ ⟨z1, rfl, hz1, g0z1⟩
    refine And.intro (by omega) (And.intro ?_ ?_)
    · intro c2
      refine And.intro ⟨rfl, by decide, by decide⟩ ?_
      refine And.intro ⟨rfl, by decide, by decide⟩ ?_
      refine fload1 rL_165_165_0_23_1_0 h0 hB0 ⟨by decide, by decide⟩ (by first | exact ⟨ha1.1, ha1.2⟩ | omega) ?_
      intro z3 lz3 uz3 qz3
      have v16 := cL_a (d := 0) (a := 165) (n := 24) (b := 531) (m := 14) (by decide +kernel) (by decide) qz3 (by omega) rfl
      refine And.intro ⟨rfl, by decide, by decide⟩ ?_
      refine Exists.intro xm_83 (And.intro mi_83 (And.intro ⟨rfl, rfl, rfl, rfl⟩ (And.intro rfl ?_)))
      refine fcallp hB0 (ct_Works_partForFoul_f7a9f (fBz h0 hB0) (by first | exact ⟨ha1.1, ha1.2⟩ | omega)) ?_
      rintro _ ⟨z4, rfl, hz4, g0z4⟩
      refine And.intro ⟨rfl, by decide, by decide⟩ ?_
      refine And.intro ⟨rfl, by decide, by decide⟩ ?_
      refine And.intro ⟨rfl, by decide⟩ (And.intro (by first | exact ⟨lz3, Int.lt_of_le_of_lt uz3 (by decide)⟩ | omega) ?_)
      refine fload rL_6_25_0_4_1_0 h0 hB0 (by omega) ?_
      intro z5 lz5 uz5 qz5
      have v36 := cL_r (d := 0) (a := 6) (nr := 20) (n := 5) (b := 31) (mr := 20) (m := 1) (by decide +kernel) (by decide) qz5 (by omega) (by omega) rfl
      refine And.intro (And.intro (by first | exact fi_ hz4.1 hz4.2 rfl | omega) (And.intro (by first | exact fi_ lz5 uz5 rfl | omega) rfl)) ?_
      intro z6 hz6
      refine And.intro ⟨rfl, by decide, by decide⟩ ?_
      refine And.intro ⟨rfl, by decide, by decide⟩ ?_
      refine And.intro ⟨rfl, by decide⟩ (And.intro (by first | exact ⟨lz3, Int.lt_of_le_of_lt uz3 (by decide)⟩ | omega) ?_)
      refine fload rL_6_25_0_4_1_0 h0 hB0 (by omega) ?_
      intro z7 lz7 uz7 qz7
      have v52 := cL_r (d := 0) (a := 6) (nr := 20) (n := 5) (b := 31) (mr := 20) (m := 1) (by decide +kernel) (by decide) qz7 (by omega) (by omega) rfl
      intro z8 hz8 ez8 bz8
      clear ez8
      have bz8 := bz8 (by omega)
      refine fstore rS_6_25_0_4_1_0 (fzs_sub (by decide +kernel) hW) (by omega) (by omega) ?_
      intro IhB9 ehB9 hB9
      have t10 := fup_self ehB9
      have r55 := cS_r (d := 0) (a := 6) (nr := 20) (n := 5) (b := 31) (mr := 20) (m := 1) (by decide +kernel) (by decide) ehB9 (by omega) (by omega) rfl
      refine And.intro ⟨rfl, by decide, by decide⟩ ?_
      refine Exists.intro xm_84 (And.intro mi_84 (And.intro ⟨rfl, rfl, rfl, rfl⟩ (And.intro rfl ?_)))
      refine fcall _ h0 (fzs_sub (by decide +kernel) hW) hB9 (ct_Cells_addAir_1fa72 (fBz h0 hB9) (by first | exact ⟨lz3, uz3⟩ | omega) (by first | exact ⟨by decide, by decide⟩ | omega) (by omega) (by omega) (by omega)) ?_
      rintro IhB12 _ hB12 fhB12 ⟨rfl, hz11, g0z11⟩
      exact ⟨rfl, True.intro, (by rw [g0z11, r55]; exact (sGa_y (g0z1.elim (fun q => q.2) (fun q => absurd q.1 (by omega))) v16 (by omega) (by omega) (mn_of (mn_le (by omega) (by omega) (by omega)) g0z4 v36) (by omega) (by omega)))⟩
    · intro c13
      exact ⟨rfl, True.intro, (sGa_n (g0z1.elim (fun q => absurd q.1 (by omega)) (fun q => q.2)))⟩
set_option maxRecDepth 8000 in
theorem ct_Works_wear_df87e {I : fH} {x1 : Int} {x2 : Int} (h0 : fB bsJ I) (ha1 : (0 ≤ x1 ∧ x1 ≤ 23)) (ha2 : (0 ≤ x2 ∧ x2 ≤ 999)) : fC ρ base n F xTc vwCl xTys D dA la gJ (fbz bsJ znJ (fKc wz_213b7) I) xm_80 [.inr (.inr (some 163)), .inl x1, .inl x2] I (fun I' r => r = none ∧ True ∧ (cR 0 I' = sWe (cR 0 I) x1 (gt (cR 0 I) (537 + 14 * x1) + x2))) := by
  have hW : fzs wz_213b7 (fKc wz_213b7) := fKc_ok _
  refine f_meth (rb := rbJ) (J := []) 1 400 xG xin_80 x6_80 okJ (fB_self h0) ?_ ?_
  · exact fun q h => absurd h List.not_mem_nil
  · have hB0 := fB_self (zn := znJ) (K := fKc wz_213b7) h0
    refine And.intro ⟨rfl, by decide, by decide⟩ ?_
    refine fload1 rL_173_173_0_23_1_0 h0 hB0 ⟨by decide, by decide⟩ (by first | exact ⟨ha1.1, ha1.2⟩ | omega) ?_
    intro z1 lz1 uz1 qz1
    have v5 := cL_a (d := 0) (a := 173) (n := 24) (b := 537) (m := 14) (by decide +kernel) (by decide) qz1 (by omega) rfl
    intro z2 hz2 ez2 bz2
    clear ez2
    have bz2 := bz2 (by omega)
    refine And.intro (And.intro (by omega) (And.intro (by first | exact ⟨by decide, by decide⟩ | omega) (And.intro (by first | exact by decide | omega) rfl))) ?_
    intro z3 hz3 ez3 dz3
    have dz3 := dz3 (by omega) (by omega)
    change _ = _ / _ at dz3
    refine And.intro ⟨rfl, by decide, by decide⟩ ?_
    refine fload1 rL_171_171_0_23_1_0 h0 hB0 ⟨by decide, by decide⟩ (by first | exact ⟨ha1.1, ha1.2⟩ | omega) ?_
    intro z4 lz4 uz4 qz4
    have v18 := cL_a (d := 0) (a := 171) (n := 24) (b := 535) (m := 14) (by decide +kernel) (by decide) qz4 (by omega) rfl
    refine And.intro (And.intro (by omega) (And.intro (by first | exact fi_ lz4 uz4 rfl | omega) rfl)) ?_
    intro z5 hz5
    refine And.intro ⟨rfl, by decide, by decide⟩ ?_
    refine fload1 rL_171_171_0_23_1_0 h0 hB0 ⟨by decide, by decide⟩ (by first | exact ⟨ha1.1, ha1.2⟩ | omega) ?_
    intro z6 lz6 uz6 qz6
    have v30 := cL_a (d := 0) (a := 171) (n := 24) (b := 535) (m := 14) (by decide +kernel) (by decide) qz6 (by omega) rfl
    intro z7 hz7 ez7 bz7
    clear ez7
    have bz7 := bz7 (by omega)
    refine fstore1 rS_171_171_0_23_1_0 (fzs_sub (by decide +kernel) hW) ⟨by decide, by decide⟩ (by first | exact ⟨ha1.1, ha1.2⟩ | omega) (by omega) ?_
    intro IhB8 ehB8 hB8
    have t9 := fup_self ehB8
    have r34 := cS_a (d := 0) (a := 171) (n := 24) (b := 535) (m := 14) (by decide +kernel) (by decide) ehB8 (by omega) rfl
    intro z10 hz10 ez10 bz10
    clear ez10
    have bz10 := bz10 (by omega)
    intro z11 hz11 ez11 bz11
    clear ez11
    have bz11 := bz11 (by omega)
    refine And.intro ⟨rfl, by decide, by decide⟩ ?_
    refine And.intro (And.intro (by omega) (And.intro (by first | exact ⟨by decide, by decide⟩ | omega) rfl)) ?_
    intro z12 hz12
    refine fstore1 rS_173_173_0_23_1_0 (fzs_sub (by decide +kernel) hW) ⟨by decide, by decide⟩ (by first | exact ⟨ha1.1, ha1.2⟩ | omega) (by omega) ?_
    intro IhB13 ehB13 hB13
    have t14 := fup_self ehB13
    have r54 := cS_a (d := 0) (a := 173) (n := 24) (b := 537) (m := 14) (by decide +kernel) (by decide) ehB13 (by omega) rfl
    exact ⟨rfl, True.intro, (by rw [r54, r34]; exact (sWe_of (n := z5) (by omega) v5 (by omega) rfl v18 (by omega) (mn_le (by omega) (by omega) (by omega)) (by omega) (by omega) (by omega) (mn_le (by omega) (by omega) (by omega))))⟩
abbrev jc_Works_isPatched_cee43_2 (x1 : Int) (I0 : fH) : Nat → fL → List fV → fH → Prop := fun m lv st I => ∃ (y1 : Int) (y2 : Int), lv = [(0, .inr (.inr (some 163))), (1, .inl y1), (2, .inl y2)] ∧ st = [] ∧ (((0 ≤ y1 ∧ y1 ≤ 23) ∧ (0 ≤ y2 ∧ y2 ≤ 24) ∧ (y2 ≤ I0 163 13) ∧ (y1 = x1)) ∧ (cvU (cR 0 I0) x1 y2 0)) ∧ m = (1 + 1 * (24 - y2) : Int).toNat
set_option maxRecDepth 8000 in
theorem ct_Works_isPatched_cee43 {I : fH} {x1 : Int} (h0 : fB bsJ I) (ha1 : (0 ≤ x1 ∧ x1 ≤ 23)) : fC ρ base n F xTc vwCl xTys D dA la gJ (fbz bsJ znJ (fKc []) I) xm_79 [.inr (.inr (some 163)), .inl x1] I (fun _ r => ∃ z, r = some (.inl z) ∧ (0 ≤ z ∧ z ≤ 1) ∧ ((z = 1 ∧ sCv (cR 0 I) x1) ∨ (z = 0 ∧ ¬ sCv (cR 0 I) x1))) := by
  have hW : fzs [] (fKc []) := fKc_ok _
  refine f_meth (rb := rbJ) (J := [(2, (jc_Works_isPatched_cee43_2 x1 I))]) 26 400 xG xin_79 x6_79 okJ (fB_self h0) ?_ ?_
  · refine List.forall_mem_cons.mpr ⟨?_, fun q h => absurd h List.not_mem_nil⟩
    · rintro m _ _ I1 hB1 ⟨y1, y2, rfl, rfl, ⟨hb, hx0⟩, hm⟩
      have eJ : I1 = I := fFr_nil (fFr_of hB1)
      have k1 := fBz_eq hB1 (a := 163) (j := 13) (by decide +kernel)
      have b2 := fBd fb_163_13 (fBz h0 hB1)
      refine And.intro ⟨rfl, by decide, by decide⟩ (fgetf fb_163_13 h0 hB1 ?_)
      intro z3 lz3 uz3 qz3
      have v4 := cL_f (d := 0) (a := 163) (j := 13) (r := 7) (p := 7) (by decide +kernel) (by decide) qz3 rfl
      rw [eJ] at v4
      refine And.intro (And.intro (by first | exact fi_ hb.2.1.1 hb.2.1.2 rfl | omega) (by first | exact fi_ lz3 uz3 rfl | omega)) (And.intro ?_ ?_)
      · intro c4
        refine And.intro (⟨by decide, by decide⟩) ?_
        have w7 := (cL_f (d := 0) (a := 163) (j := 13) (r := 7) (p := 7) (I := I) (z := I 163 13) (by decide +kernel) (by decide) rfl rfl)
        exact ⟨_, rfl, (by first | exact ⟨by decide, by decide⟩ | omega), (Or.inr ⟨by omega, (cvU_end hx0 (by omega)).elim (fun q => absurd q.1 (by omega)) (fun q => q.2)⟩)⟩
      · intro c5
        refine And.intro ⟨rfl, by decide, by decide⟩ ?_
        refine fload1 rL_164_164_0_23_1_0 h0 hB1 ⟨by decide, by decide⟩ (by first | exact ⟨hb.2.1.1, Int.le_trans (Int.le_sub_one_of_lt (Int.lt_of_lt_of_le c5 uz3)) (by decide)⟩ | omega) ?_
        intro z6 lz6 uz6 qz6
        have v15 := cL_a (d := 0) (a := 164) (n := 24) (b := 530) (m := 14) (by decide +kernel) (by decide) qz6 (by omega) rfl
        rw [eJ] at v15
        refine And.intro (And.intro (by first | exact fi_ lz6 uz6 rfl | omega) (by first | exact ⟨by decide, by decide⟩ | omega)) (And.intro ?_ ?_)
        · intro c7
          exact fcutJ (I := I1) (j := (jc_Works_isPatched_cee43_2 x1 I)) (lv' := [(0, .inr (.inr (some 163))), (1, .inl _), (2, .inl _)]) (And.intro rfl (And.intro rfl (And.intro rfl True.intro))) ⟨_, _, rfl, rfl, ⟨by omega, (cvU_no hx0 (by omega) (by omega) rfl (cv1_a (u := y2) (by omega) v15 (by omega)))⟩, rfl⟩ (by omega)
        · intro c8
          refine And.intro ⟨rfl, by decide, by decide⟩ ?_
          refine fload1 rL_171_171_0_23_1_0 h0 hB1 ⟨by decide, by decide⟩ (by first | exact ⟨hb.2.1.1, Int.le_trans (Int.le_sub_one_of_lt (Int.lt_of_lt_of_le c5 uz3)) (by decide)⟩ | omega) ?_
          intro z9 lz9 uz9 qz9
          have v25 := cL_a (d := 0) (a := 171) (n := 24) (b := 535) (m := 14) (by decide +kernel) (by decide) qz9 (by omega) rfl
          rw [eJ] at v25
          refine And.intro (And.intro (by first | exact fi_ lz9 uz9 rfl | omega) (by first | exact fi_ hb.1.1 hb.1.2 rfl | omega)) (And.intro ?_ ?_)
          · intro c10
            exact fcutJ (I := I1) (j := (jc_Works_isPatched_cee43_2 x1 I)) (lv' := [(0, .inr (.inr (some 163))), (1, .inl _), (2, .inl _)]) (And.intro rfl (And.intro rfl (And.intro rfl True.intro))) ⟨_, _, rfl, rfl, ⟨by omega, (cvU_no hx0 (by omega) (by omega) rfl (cv1_a (u := y2) (by omega) v25 (by omega)))⟩, rfl⟩ (by omega)
          · intro c11
            refine And.intro ⟨rfl, by decide, by decide⟩ ?_
            refine fload1 rL_167_167_0_23_1_0 h0 hB1 ⟨by decide, by decide⟩ (by first | exact ⟨hb.2.1.1, Int.le_trans (Int.le_sub_one_of_lt (Int.lt_of_lt_of_le c5 uz3)) (by decide)⟩ | omega) ?_
            intro z12 lz12 uz12 qz12
            have v35 := cL_a (d := 0) (a := 167) (n := 24) (b := 533) (m := 14) (by decide +kernel) (by decide) qz12 (by omega) rfl
            rw [eJ] at v35
            refine And.intro (And.intro (by first | exact fi_ lz12 uz12 rfl | omega) (by first | exact ⟨by decide, by decide⟩ | omega)) (And.intro ?_ ?_)
            · intro c13
              exact fcutJ (I := I1) (j := (jc_Works_isPatched_cee43_2 x1 I)) (lv' := [(0, .inr (.inr (some 163))), (1, .inl _), (2, .inl _)]) (And.intro rfl (And.intro rfl (And.intro rfl True.intro))) ⟨_, _, rfl, rfl, ⟨by omega, (cvU_no hx0 (by omega) (by omega) rfl (cv1_a (u := y2) (by omega) v35 (by omega)))⟩, rfl⟩ (by omega)
            · intro c14
              refine And.intro ⟨rfl, by decide, by decide⟩ ?_
              refine fload1 rL_174_174_0_23_1_0 h0 hB1 ⟨by decide, by decide⟩ (by first | exact ⟨hb.2.1.1, Int.le_trans (Int.le_sub_one_of_lt (Int.lt_of_lt_of_le c5 uz3)) (by decide)⟩ | omega) ?_
              intro z15 lz15 uz15 qz15
              have v45 := cL_a (d := 0) (a := 174) (n := 24) (b := 538) (m := 14) (by decide +kernel) (by decide) qz15 (by omega) rfl
              rw [eJ] at v45
              refine And.intro (by first | exact fi_ lz15 uz15 rfl | omega) (And.intro ?_ ?_)
              · intro c16
                exact fcutJ (I := I1) (j := (jc_Works_isPatched_cee43_2 x1 I)) (lv' := [(0, .inr (.inr (some 163))), (1, .inl _), (2, .inl _)]) (And.intro rfl (And.intro rfl (And.intro rfl True.intro))) ⟨_, _, rfl, rfl, ⟨by omega, (cvU_no hx0 (by omega) (by omega) rfl (cv1_a (u := y2) (by omega) v45 (by omega)))⟩, rfl⟩ (by omega)
              · intro c17
                refine And.intro (⟨by decide, by decide⟩) ?_
                have w7 := (cL_f (d := 0) (a := 163) (j := 13) (r := 7) (p := 7) (I := I) (z := I 163 13) (by decide +kernel) (by decide) rfl rfl)
                exact ⟨_, rfl, (by first | exact ⟨by decide, by decide⟩ | omega), (Or.inl ⟨by omega, cv_yes (y := y2) (by omega) (by omega) (cv1_of (u := y2) (by omega) v15 (by omega) v25 (by omega) v35 (by omega) v45 (by omega) (by omega))⟩)⟩
  · have hB0 := fB_self (zn := znJ) (K := fKc []) h0
    have b18 := fBd fb_163_13 (fBz h0 hB0)
    exact fcutJ (I := I) (j := (jc_Works_isPatched_cee43_2 x1 I)) (lv' := [(0, .inr (.inr (some 163))), (1, .inl _), (2, .inl _)]) (And.intro rfl (And.intro rfl (And.intro rfl True.intro))) ⟨_, _, rfl, rfl, ⟨by omega, (cvU_0 (by omega) rfl)⟩, rfl⟩ (by omega)
set_option maxRecDepth 8000 in
theorem ct_City_loseGas_68982 {I : fH} {x1 : Int} {x2 : Int} (h0 : fB bsJ I) (ha1 : (0 ≤ x1 ∧ x1 ≤ 23)) (ha2 : (0 ≤ x2 ∧ x2 ≤ 99999)) (hp0 : 0 ≤ x2) (hp1 : x2 ≤ I 172 x1.toNat) : fC ρ base n F xTc vwCl xTys D dA la gJ (fbz bsJ znJ (fKc wz_de755) I) xm_81 [.inr (.inr (some 1)), .inl x1, .inl x2] I (fun I' r => r = none ∧ True ∧ (cR 0 I' = sLs (cR 0 I) x1 x2)) := by
  have hW : fzs wz_de755 (fKc wz_de755) := fKc_ok _
  refine f_meth (rb := rbJ) (J := []) 1 400 xG xin_81 x6_81 okJ (fB_self h0) ?_ ?_
  · exact fun q h => absurd h List.not_mem_nil
  · have hB0 := fB_self (zn := znJ) (K := fKc wz_de755) h0
    refine And.intro ⟨rfl, by decide, by decide⟩ ?_
    refine And.intro ⟨rfl, by decide, by decide⟩ ?_
    refine fload1 rL_172_172_0_23_1_0 h0 hB0 ⟨by decide, by decide⟩ (by first | exact ⟨ha1.1, ha1.2⟩ | omega) ?_
    intro z1 lz1 uz1 qz1
    have v9 := cL_a (d := 0) (a := 172) (n := 24) (b := 536) (m := 14) (by decide +kernel) (by decide) qz1 (by omega) rfl
    intro z2 hz2 ez2 bz2
    have bz2 := bz2 (by omega)
    refine fstore1 rS_172_172_0_23_1_0 (fzs_sub (by decide +kernel) hW) ⟨by decide, by decide⟩ (by first | exact ⟨ha1.1, ha1.2⟩ | omega) (by omega) ?_
    intro IhB3 ehB3 hB3
    have t4 := fup_self ehB3
    have r12 := cS_a (d := 0) (a := 172) (n := 24) (b := 536) (m := 14) (by decide +kernel) (by decide) ehB3 (by omega) rfl
    refine And.intro ⟨rfl, by decide, by decide⟩ ?_
    refine And.intro ⟨rfl, by decide, by decide⟩ ?_
    refine And.intro ⟨rfl, by decide, by decide⟩ ?_
    refine And.intro ⟨rfl, by decide, by decide⟩ ?_
    refine fload1 rL_165_165_0_23_1_0 h0 hB3 ⟨by decide, by decide⟩ (by first | exact ⟨ha1.1, ha1.2⟩ | omega) ?_
    intro z5 lz5 uz5 qz5
    have v28 := cL_a (d := 0) (a := 165) (n := 24) (b := 531) (m := 14) (by decide +kernel) (by decide) qz5 (by omega) rfl
    rw [r12] at v28
    refine And.intro ⟨rfl, by decide⟩ (And.intro (by first | exact ⟨lz5, Int.lt_of_le_of_lt uz5 (by decide)⟩ | omega) ?_)
    refine fload rL_27_46_0_4_1_0 h0 hB3 (by omega) ?_
    intro z6 lz6 uz6 qz6
    have v32 := cL_r (d := 0) (a := 27) (nr := 20) (n := 5) (b := 37) (mr := 20) (m := 1) (by decide +kernel) (by decide) qz6 (by omega) (by omega) rfl
    rw [r12] at v32
    intro z7 hz7 ez7 bz7
    try replace bz7 := bz7 (by omega)
    refine fstore rS_27_46_0_4_1_0 (fzs_sub (by decide +kernel) hW) (by omega) (by omega) ?_
    intro IhB8 ehB8 hB8
    have t9 := fup_self ehB8
    have r35 := cS_r (d := 0) (a := 27) (nr := 20) (n := 5) (b := 37) (mr := 20) (m := 1) (by decide +kernel) (by decide) ehB8 (by omega) (by omega) rfl
    exact ⟨rfl, True.intro, (by rw [r35, r12]; exact (sLs_of (by omega) (by omega) (by omega) v28 (by omega) (by omega) (by omega) hz7 ez7 v32))⟩
set_option maxRecDepth 8000 in
theorem ct_City_runSkin_7959e {I : fH} {x1 : Int} (h0 : fB bsJ I) (ha1 : (0 ≤ x1 ∧ x1 ≤ 23)) : fC ρ base n F xTc vwCl xTys D dA la gJ (fbz bsJ znJ (fKc wz_65a7b) I) xm_78 [.inr (.inr (some 1)), .inl x1] I (fun I' r => r = none ∧ True ∧ (cR 0 I' = sSki (cR 0 I) x1)) := by
  have hW : fzs wz_65a7b (fKc wz_65a7b) := fKc_ok _
  refine f_meth (rb := rbJ) (J := []) 1 400 xG xin_78 x6_78 okJ (fB_self h0) ?_ ?_
  · exact fun q h => absurd h List.not_mem_nil
  · have hB0 := fB_self (zn := znJ) (K := fKc wz_65a7b) h0
    refine And.intro ⟨rfl, by decide, by decide⟩ ?_
    refine Exists.intro xm_79 (And.intro mi_79 (And.intro ⟨rfl, rfl, rfl, rfl⟩ (And.intro rfl ?_)))
    refine fcallp hB0 (ct_Works_isPatched_cee43 (fBz h0 hB0) (by first | exact ⟨ha1.1, ha1.2⟩ | omega)) ?_
    rintro _ ⟨z1, rfl, hz1, g0z1⟩
    refine And.intro (by omega) (And.intro ?_ ?_)
    · intro c2
      refine And.intro ⟨rfl, by decide, by decide⟩ ?_
      refine And.intro ⟨rfl, by decide, by decide⟩ ?_
      refine And.intro ⟨rfl, by decide⟩ (And.intro (by first | exact ⟨by decide, by decide⟩ | omega) ?_)
      refine Exists.intro xm_31 (And.intro mi_31 (And.intro ⟨rfl, rfl, rfl, rfl⟩ (And.intro rfl ?_)))
      refine fcallp hB0 (ct_City_level_61deb (fBz h0 hB0)) ?_
      rintro _ ⟨z3, rfl, hz3, g0z3⟩
      refine fload1 rL_186_186_0_60_1_0 h0 hB0 ⟨by decide, by decide⟩ (by first | exact ⟨hz3.1, hz3.2⟩ | omega) ?_
      intro z4 lz4 uz4 qz4
      have v27 := cL_a (d := 0) (a := 186) (n := 61) (b := 1142) (m := 1) (by decide +kernel) (by decide) qz4 (by omega) rfl
      refine And.intro (And.intro (by first | exact fi_ lz4 uz4 rfl | omega) (And.intro (by first | exact ⟨by decide, by decide⟩ | omega) (And.intro (by first | exact by decide | omega) rfl))) ?_
      intro z5 hz5 ez5 dz5
      have dz5 := dz5 (by omega) (by omega)
      change _ = _ / _ at dz5
      refine Exists.intro xm_80 (And.intro mi_80 (And.intro ⟨rfl, rfl, rfl, rfl⟩ (And.intro rfl ?_)))
      refine fcall _ h0 (fzs_sub (by decide +kernel) hW) hB0 (ct_Works_wear_df87e (fBz h0 hB0) (by first | exact ⟨ha1.1, ha1.2⟩ | omega) (by omega)) ?_
      rintro IhB7 _ hB7 fhB7 ⟨rfl, hz6, g0z6⟩
      refine And.intro ⟨rfl, by decide, by decide⟩ ?_
      refine And.intro ⟨rfl, by decide, by decide⟩ ?_
      refine fload1 rL_171_171_0_23_1_0 h0 hB7 ⟨by decide, by decide⟩ (by first | exact ⟨ha1.1, ha1.2⟩ | omega) ?_
      intro z8 lz8 uz8 qz8
      have v42 := cL_a (d := 0) (a := 171) (n := 24) (b := 535) (m := 14) (by decide +kernel) (by decide) qz8 (by omega) rfl
      rw [g0z6] at v42
      refine And.intro (by first | exact fi_ lz8 uz8 rfl | omega) (And.intro ?_ ?_)
      · intro c9
        exact ⟨rfl, True.intro, (sSk_n (s := z4) (g0z1.elim (fun q => absurd q.1 (by omega)) (fun q => q.2)) (sTb_of v27 g0z3 (by omega)) (by rw [show z4 / 10 = z5 by omega]; exact (by rw [g0z6]; exact (sSk2_n v42 (by omega) (by omega)))))⟩
      · intro c10
        refine And.intro ⟨rfl, by decide, by decide⟩ ?_
        refine And.intro ⟨rfl, by decide, by decide⟩ ?_
        refine fload1 rL_172_172_0_23_1_0 h0 hB7 ⟨by decide, by decide⟩ (by first | exact ⟨ha1.1, ha1.2⟩ | omega) ?_
        intro z11 lz11 uz11 qz11
        have v54 := cL_a (d := 0) (a := 172) (n := 24) (b := 536) (m := 14) (by decide +kernel) (by decide) qz11 (by omega) rfl
        rw [g0z6] at v54
        refine And.intro (And.intro (by first | exact fi_ lz11 uz11 rfl | omega) (And.intro (by first | exact ⟨by decide, by decide⟩ | omega) (And.intro (by first | exact by decide | omega) rfl))) ?_
        intro z12 hz12 ez12 dz12
        have dz12 := dz12 (by omega) (by omega)
        change _ = _ / _ at dz12
        intro z13 hz13 ez13 bz13
        clear ez13
        have bz13 := bz13 (by omega)
        refine And.intro (And.intro (by first | exact fi_ lz11 uz11 rfl | omega) (And.intro (by omega) rfl)) ?_
        intro z14 hz14
        refine Exists.intro xm_81 (And.intro mi_81 (And.intro ⟨rfl, rfl, rfl, rfl⟩ (And.intro rfl ?_)))
        refine fcall _ h0 (fzs_sub (by decide +kernel) hW) hB7 (ct_City_loseGas_68982 (fBz h0 hB7) (by first | exact ⟨ha1.1, ha1.2⟩ | omega) (by omega) (by omega) (by omega)) ?_
        rintro IhB16 _ hB16 fhB16 ⟨rfl, hz15, g0z15⟩
        exact ⟨rfl, True.intro, (sSk_n (s := z4) (g0z1.elim (fun q => absurd q.1 (by omega)) (fun q => q.2)) (sTb_of v27 g0z3 (by omega)) (by rw [show z4 / 10 = z5 by omega]; exact (by rw [g0z15, g0z6]; exact (sSk2_y v42 (by omega) (by omega) v54 (by omega) (mn_le (by omega) (by omega) (by omega))))))⟩
    · intro c17
      exact ⟨rfl, True.intro, (sSk_y (g0z1.elim (fun q => q.2) (fun q => absurd q.1 (by omega))))⟩
end CT

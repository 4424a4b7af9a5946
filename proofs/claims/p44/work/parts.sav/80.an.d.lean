set_option linter.all false
section CT
variable {ρ : Nat → Int32} {base n : Nat} {F : Nat → Prop} {D : va_G} {dA : Nat → ClassId} {la : Launch}
set_option maxRecDepth 8000 in
theorem ct_City_isDay_d6f98 {I : fH}  (h0 : fB bsJ I)  : fC ρ base n F xTc vwCl xTys D dA la gJ (fbz bsJ znJ (fKc []) I) xm_69 [.inr (.inr (some 513))] I (fun _ r => ∃ z, r = some (.inl z) ∧ (0 ≤ z ∧ z ≤ 1) ∧ ((z = 1 ∧ dyP (gt (cR 512 I) 2) (gt (cR 512 I) 3)) ∨ (z = 0 ∧ ¬ dyP (gt (cR 512 I) 2) (gt (cR 512 I) 3)))) := by
  have hW : fzs [] (fKc []) := fKc_ok _
  refine f_meth (rb := rbJ) (J := []) 1 400 xG xin_69 x6_69 okJ (fB_self h0) ?_ ?_
  · exact fun q h => absurd h List.not_mem_nil
  · have hB0 := fB_self (zn := znJ) (K := fKc []) h0
    refine And.intro ⟨rfl, by decide, by decide⟩ (fgetf fb_513_6 h0 hB0 ?_)
    intro z1 lz1 uz1 qz1
    have v2 := cL_f (d := 512) (a := 1) (j := 6) (r := 2) (p := 2) (by decide +kernel) (by decide) qz1 rfl
    refine Exists.intro xm_70 (And.intro mi_70 (And.intro ⟨rfl, rfl, rfl, rfl⟩ (And.intro rfl ?_)))
    refine fcallp hB0 (ct_City_isDayAt_d574d (fBz h0 hB0) (by first | exact ⟨lz1, uz1⟩ | omega)) ?_
    rintro _ ⟨z2, rfl, hz2, g0z2⟩
    refine And.intro (⟨by omega, by omega⟩) ?_
    exact ⟨_, rfl, by omega, (dy_ph g0z2 v2 rfl)⟩
set_option maxRecDepth 8000 in
theorem ct_City_runGarden_2acfe {I : fH} {x1 : Int} (h0 : fB bsJ I) (ha1 : (0 ≤ x1 ∧ x1 ≤ 23)) : fC ρ base n F xTc vwCl xTys D dA la gJ (fbz bsJ znJ (fKc wz_7eac0) I) xm_82 [.inr (.inr (some 513)), .inl x1] I (fun I' r => r = none ∧ True ∧ (cR 512 I' = sGa (cR 512 I) x1)) := by
  have hW : fzs wz_7eac0 (fKc wz_7eac0) := fKc_ok _
  refine f_meth (rb := rbJ) (J := []) 1 400 xG xin_82 x6_82 okJ (fB_self h0) ?_ ?_
  · exact fun q h => absurd h List.not_mem_nil
  · have hB0 := fB_self (zn := znJ) (K := fKc wz_7eac0) h0
    refine Exists.intro xm_69 (And.intro mi_69 (And.intro ⟨rfl, rfl, rfl, rfl⟩ (And.intro rfl ?_)))
    refine fcallp hB0 (ct_City_isDay_d6f98 (fBz h0 hB0)) ?_
    rintro _ ⟨z1, rfl, hz1, g0z1⟩
    refine And.intro (by omega) (And.intro ?_ ?_)
    · intro c2
      refine And.intro ⟨rfl, by decide, by decide⟩ ?_
      refine And.intro ⟨rfl, by decide, by decide⟩ ?_
      refine fload1 rL_677_677_0_23_1_0 h0 hB0 ⟨by decide, by decide⟩ (by first | exact ⟨ha1.1, ha1.2⟩ | omega) ?_
      intro z3 lz3 uz3 qz3
      have v16 := cL_a (d := 512) (a := 165) (n := 24) (b := 531) (m := 14) (by decide +kernel) (by decide) qz3 (by omega) rfl
      refine And.intro ⟨rfl, by decide, by decide⟩ ?_
      refine Exists.intro xm_83 (And.intro mi_83 (And.intro ⟨rfl, rfl, rfl, rfl⟩ (And.intro rfl ?_)))
      refine fcallp hB0 (ct_Works_partForFoul_82e3d (fBz h0 hB0) (by first | exact ⟨ha1.1, ha1.2⟩ | omega)) ?_
      rintro _ ⟨z4, rfl, hz4, g0z4⟩
      refine And.intro ⟨rfl, by decide, by decide⟩ ?_
      refine And.intro ⟨rfl, by decide, by decide⟩ ?_
      refine And.intro ⟨rfl, by decide⟩ (And.intro (by first | exact ⟨lz3, Int.lt_of_le_of_lt uz3 (by decide)⟩ | omega) ?_)
      refine fload rL_518_537_0_4_1_0 h0 hB0 (by omega) ?_
      intro z5 lz5 uz5 qz5
      have v36 := cL_r (d := 512) (a := 6) (nr := 20) (n := 5) (b := 31) (mr := 20) (m := 1) (by decide +kernel) (by decide) qz5 (by omega) (by omega) rfl
      refine And.intro (And.intro (by first | exact fi_ hz4.1 hz4.2 rfl | omega) (And.intro (by first | exact fi_ lz5 uz5 rfl | omega) rfl)) ?_
      intro z6 hz6
      refine And.intro ⟨rfl, by decide, by decide⟩ ?_
      refine And.intro ⟨rfl, by decide, by decide⟩ ?_
      refine And.intro ⟨rfl, by decide⟩ (And.intro (by first | exact ⟨lz3, Int.lt_of_le_of_lt uz3 (by decide)⟩ | omega) ?_)
      refine fload rL_518_537_0_4_1_0 h0 hB0 (by omega) ?_
      intro z7 lz7 uz7 qz7
      have v52 := cL_r (d := 512) (a := 6) (nr := 20) (n := 5) (b := 31) (mr := 20) (m := 1) (by decide +kernel) (by decide) qz7 (by omega) (by omega) rfl
      intro z8 hz8 ez8 bz8
      clear ez8
      have bz8 := bz8 (by omega)
      refine fstore rS_518_537_0_4_1_0 (fzs_sub (by decide +kernel) hW) (by omega) (by omega) ?_
      intro IhB9 ehB9 hB9
      have t10 := fup_self ehB9
      have r55 := cS_r (d := 512) (a := 6) (nr := 20) (n := 5) (b := 31) (mr := 20) (m := 1) (by decide +kernel) (by decide) ehB9 (by omega) (by omega) rfl
      refine And.intro ⟨rfl, by decide, by decide⟩ ?_
      refine Exists.intro xm_84 (And.intro mi_84 (And.intro ⟨rfl, rfl, rfl, rfl⟩ (And.intro rfl ?_)))
      refine fcall _ h0 (fzs_sub (by decide +kernel) hW) hB9 (ct_Cells_addAir_f5ee0 (fBz h0 hB9) (by first | exact ⟨lz3, uz3⟩ | omega) (by first | exact ⟨by decide, by decide⟩ | omega) (by omega) (by omega) (by omega)) ?_
      rintro IhB12 _ hB12 fhB12 ⟨rfl, hz11, g0z11⟩
      exact ⟨rfl, True.intro, (by rw [g0z11, r55]; exact (sGa_y (g0z1.elim (fun q => q.2) (fun q => absurd q.1 (by omega))) v16 (by omega) (by omega) (mn_of (mn_le (by omega) (by omega) (by omega)) g0z4 v36) (by omega) (by omega)))⟩
    · intro c13
      exact ⟨rfl, True.intro, (sGa_n (g0z1.elim (fun q => absurd q.1 (by omega)) (fun q => q.2)))⟩
set_option maxRecDepth 8000 in
theorem ct_City_runProbe_75b59 {I : fH} {x1 : Int} (h0 : fB bsJ I) (ha1 : (0 ≤ x1 ∧ x1 ≤ 23)) (hp0 : okA (cR 512 I)) : fC ρ base n F xTc vwCl xTys D dA la gJ (fbz bsJ znJ (fKc wz_8d85d) I) xm_87 [.inr (.inr (some 513)), .inl x1] I (fun I' r => r = none ∧ True ∧ (cR 512 I' = sPr (cR 512 I) x1)) := by
  have hW : fzs wz_8d85d (fKc wz_8d85d) := fKc_ok _
  refine f_meth (rb := rbJ) (J := []) 1 400 xG xin_87 x6_87 okJ (fB_self h0) ?_ ?_
  · exact fun q h => absurd h List.not_mem_nil
  · have hB0 := fB_self (zn := znJ) (K := fKc wz_8d85d) h0
    refine And.intro ⟨rfl, by decide, by decide⟩ ?_
    refine Exists.intro xm_55 (And.intro mi_55 (And.intro ⟨rfl, rfl, rfl, rfl⟩ (And.intro rfl ?_)))
    refine fcallp hB0 (ct_Works_isDropped_e5842 (fBz h0 hB0) (by first | exact ⟨ha1.1, ha1.2⟩ | omega) hp0) ?_
    rintro _ ⟨z1, rfl, hz1, g0z1⟩
    refine And.intro (by omega) (And.intro ?_ ?_)
    · intro c2
      exact ⟨rfl, True.intro, (g0z1.elim (fun q => absurd q.1 (by omega)) (fun q => sPr_n (x := gt (cR 512 I) (539 + 14 * x1)) rfl rfl q.2))⟩
    · intro c3
      refine And.intro ⟨rfl, by decide, by decide⟩ ?_
      refine And.intro ⟨rfl, by decide, by decide⟩ ?_
      refine And.intro ⟨rfl, by decide, by decide⟩ ?_
      refine And.intro ⟨rfl, by decide, by decide⟩ ?_
      refine fload1 rL_687_687_0_23_1_0 h0 hB0 ⟨by decide, by decide⟩ (by first | exact ⟨ha1.1, ha1.2⟩ | omega) ?_
      intro z4 lz4 uz4 qz4
      have v28 := cL_l (d := 512) qz4 (by omega) rfl
      have w28 : 0 ≤ z4 := nv_pos (by rw [← v28]; exact g0z1.elim (fun q => q.2) (fun q => absurd q.1 (by omega)))
      refine And.intro (And.intro (by first | exact ⟨by decide, by decide⟩ | omega) (And.intro (by omega) rfl)) ?_
      intro z5 hz5
      refine fstore1 rS_687_687_0_23_1_0 (fzs_sub (by decide +kernel) hW) ⟨by decide, by decide⟩ (by first | exact ⟨ha1.1, ha1.2⟩ | omega) (by omega) ?_
      intro IhB6 ehB6 hB6
      have t7 := fup_self ehB6
      have r34 := cS_l (d := 512) ehB6 (by omega) rfl
      refine And.intro ⟨rfl, by decide, by decide⟩ ?_
      refine And.intro ⟨rfl, by decide, by decide⟩ ?_
      refine fload1 rL_688_688_0_23_1_0 h0 hB6 ⟨by decide, by decide⟩ (by first | exact ⟨ha1.1, ha1.2⟩ | omega) ?_
      intro z8 lz8 uz8 qz8
      have v44 := cL_a (d := 512) (a := 176) (n := 24) (b := 540) (m := 14) (by decide +kernel) (by decide) qz8 (by omega) rfl
      rw [r34] at v44
      refine And.intro ⟨rfl, by decide, by decide⟩ ?_
      refine And.intro ⟨rfl, by decide⟩ (And.intro (by first | exact ⟨by decide, by decide⟩ | omega) ?_)
      refine And.intro ⟨rfl, by decide, by decide⟩ ?_
      refine And.intro ⟨rfl, by decide, by decide⟩ ?_
      refine fload1 rL_687_687_0_23_1_0 h0 hB6 ⟨by decide, by decide⟩ (by first | exact ⟨ha1.1, ha1.2⟩ | omega) ?_
      intro z9 lz9 uz9 qz9
      have v59 := cL_l (d := 512) qz9 (by omega) rfl
      rw [r34] at v59
      refine fload rL_697_697_0_60_1_0 h0 hB6 (by omega) ?_
      intro z10 lz10 uz10 qz10
      have v60 := cL_a (d := 512) (a := 185) (n := 61) (b := 1081) (m := 1) (by decide +kernel) (by decide) qz10 (by omega) rfl
      rw [r34] at v60
      intro z11 hz11 ez11 bz11
      try replace bz11 := bz11 (by omega)
      refine fstore1 rS_688_688_0_23_1_0 (fzs_sub (by decide +kernel) hW) ⟨by decide, by decide⟩ (by first | exact ⟨ha1.1, ha1.2⟩ | omega) (by omega) ?_
      intro IhB12 ehB12 hB12
      have t13 := fup_self ehB12
      have r62 := cS_a (d := 512) (a := 176) (n := 24) (b := 540) (m := 14) (by decide +kernel) (by decide) ehB12 (by omega) rfl
      refine And.intro ⟨rfl, by decide, by decide⟩ ?_
      refine And.intro ⟨rfl, by decide, by decide⟩ ?_
      refine And.intro ⟨rfl, by decide, by decide⟩ ?_
      refine And.intro ⟨rfl, by decide, by decide⟩ ?_
      refine fload1 rL_688_688_0_23_1_0 h0 hB12 ⟨by decide, by decide⟩ (by first | exact ⟨ha1.1, ha1.2⟩ | omega) ?_
      intro z14 lz14 uz14 qz14
      have v79 := cL_a (d := 512) (a := 176) (n := 24) (b := 540) (m := 14) (by decide +kernel) (by decide) qz14 (by omega) rfl
      rw [r62, r34] at v79
      refine And.intro ⟨rfl, by decide, by decide⟩ ?_
      refine And.intro ⟨rfl, by decide, by decide⟩ ?_
      refine fload1 rL_683_683_0_23_1_0 h0 hB12 ⟨by decide, by decide⟩ (by first | exact ⟨ha1.1, ha1.2⟩ | omega) ?_
      intro z15 lz15 uz15 qz15
      have v88 := cL_a (d := 512) (a := 171) (n := 24) (b := 535) (m := 14) (by decide +kernel) (by decide) qz15 (by omega) rfl
      rw [r62, r34] at v88
      refine And.intro (And.intro (by first | exact fi_ lz14 uz14 rfl | omega) (by first | exact fi_ lz15 uz15 rfl | omega)) (And.intro ?_ ?_)
      · intro c16
        refine fstore1 rS_686_686_0_23_1_0 (fzs_sub (by decide +kernel) hW) ⟨by decide, by decide⟩ (by first | exact ⟨ha1.1, ha1.2⟩ | omega) (by omega) ?_
        intro IhB17 ehB17 hB17
        have t18 := fup_self ehB17
        have r97 := cS_a (d := 512) (a := 174) (n := 24) (b := 538) (m := 14) (by decide +kernel) (by decide) ehB17 (by omega) rfl
        exact ⟨rfl, True.intro, (by rw [r97, r62, r34]; exact (sPr_y (x := z4) (by omega) ((nv_id w28).symm.trans v28.symm) (by omega) w28 (by omega) ((nv_id (by omega)).trans (by split <;> omega)) v44 (by omega) v60 (by rw [nv_id (by omega)]; omega) (by rw [nv_id (by omega)]; omega) (by omega) (by omega) (by omega) hz11 ez11 (gt_e (by omega) (by omega) v79) (gt_n (by omega) (by omega) (gt_n (by omega) (by omega) v88)) (by omega) (by omega) (by split <;> omega)))⟩
      · intro c19
        refine fstore1 rS_686_686_0_23_1_0 (fzs_sub (by decide +kernel) hW) ⟨by decide, by decide⟩ (by first | exact ⟨ha1.1, ha1.2⟩ | omega) (by first | exact ⟨by decide, by decide⟩ | omega) ?_
        intro IhB20 ehB20 hB20
        have t21 := fup_self ehB20
        have r97 := cS_a (d := 512) (a := 174) (n := 24) (b := 538) (m := 14) (by decide +kernel) (by decide) ehB20 (by omega) rfl
        exact ⟨rfl, True.intro, (by rw [r97, r62, r34]; exact (sPr_y (x := z4) (by omega) ((nv_id w28).symm.trans v28.symm) (by omega) w28 (by omega) ((nv_id (by omega)).trans (by split <;> omega)) v44 (by omega) v60 (by rw [nv_id (by omega)]; omega) (by rw [nv_id (by omega)]; omega) (by omega) (by omega) (by omega) hz11 ez11 (gt_e (by omega) (by omega) v79) (gt_n (by omega) (by omega) (gt_n (by omega) (by omega) v88)) (by omega) (by omega) (by split <;> omega)))⟩
set_option maxRecDepth 8000 in
theorem ct_City_runRotor_872a2 {I : fH} {x1 : Int} (h0 : fB bsJ I) (ha1 : (0 ≤ x1 ∧ x1 ≤ 23)) : fC ρ base n F xTc vwCl xTys D dA la gJ (fbz bsJ znJ (fKc wz_a50d7) I) xm_86 [.inr (.inr (some 513)), .inl x1] I (fun I' r => r = none ∧ True ∧ (cR 512 I' = sRo (cR 512 I) x1)) := by
  have hW : fzs wz_a50d7 (fKc wz_a50d7) := fKc_ok _
  refine f_meth (rb := rbJ) (J := []) 1 400 xG xin_86 x6_86 okJ (fB_self h0) ?_ ?_
  · exact fun q h => absurd h List.not_mem_nil
  · have hB0 := fB_self (zn := znJ) (K := fKc wz_a50d7) h0
    refine And.intro ⟨rfl, by decide, by decide⟩ ?_
    refine fload1 rL_694_694_0_5_1_0 h0 hB0 ⟨by decide, by decide⟩ (by first | exact ⟨by decide, by decide⟩ | omega) ?_
    intro z1 lz1 uz1 qz1
    have pz1 := fld_at qz1 5 (by omega)
    have v5 := cL_a (d := 512) (a := 182) (n := 6) (b := 17) (m := 1) (by decide +kernel) (by decide) qz1 (by omega) rfl
    refine And.intro ⟨rfl, by decide, by decide⟩ ?_
    refine And.intro ⟨rfl, by decide, by decide⟩ ?_
    refine fload1 rL_683_683_0_23_1_0 h0 hB0 ⟨by decide, by decide⟩ (by first | exact ⟨ha1.1, ha1.2⟩ | omega) ?_
    intro z2 lz2 uz2 qz2
    have v14 := cL_a (d := 512) (a := 171) (n := 24) (b := 535) (m := 14) (by decide +kernel) (by decide) qz2 (by omega) rfl
    refine And.intro (And.intro (by first | exact fi_ lz1 uz1 rfl | omega) (by first | exact fi_ lz2 uz2 rfl | omega)) (And.intro ?_ ?_)
    · intro c3
      exact ⟨rfl, True.intro, (sRo_n v5 (by omega) v14 (by omega) (by omega))⟩
    · intro c4
      refine And.intro ⟨rfl, by decide, by decide⟩ ?_
      refine fload1 rL_694_694_0_5_1_0 h0 hB0 ⟨by decide, by decide⟩ (by first | exact ⟨by decide, by decide⟩ | omega) ?_
      intro z5 lz5 uz5 qz5
      have pz5 := fld_at qz5 5 (by omega)
      have v24 := cL_a (d := 512) (a := 182) (n := 6) (b := 17) (m := 1) (by decide +kernel) (by decide) qz5 (by omega) rfl
      refine And.intro ⟨rfl, by decide, by decide⟩ ?_
      refine And.intro ⟨rfl, by decide, by decide⟩ ?_
      refine fload1 rL_683_683_0_23_1_0 h0 hB0 ⟨by decide, by decide⟩ (by first | exact ⟨ha1.1, ha1.2⟩ | omega) ?_
      intro z6 lz6 uz6 qz6
      have v33 := cL_a (d := 512) (a := 171) (n := 24) (b := 535) (m := 14) (by decide +kernel) (by decide) qz6 (by omega) rfl
      intro z7 hz7 ez7 bz7
      have bz7 := bz7 (by omega)
      refine fstore1 rS_694_694_0_5_1_0 (fzs_sub (by decide +kernel) hW) ⟨by decide, by decide⟩ (by first | exact ⟨by decide, by decide⟩ | omega) (by omega) ?_
      intro IhB8 ehB8 hB8
      have t9 := fup_self ehB8
      have t10 := fup_at ehB8 5 (by first | rfl | omega)
      have r35 := cS_a (d := 512) (a := 182) (n := 6) (b := 17) (m := 1) (by decide +kernel) (by decide) ehB8 (by omega) rfl
      refine And.intro ⟨rfl, by decide, by decide⟩ (fgetf fb_513_6 h0 hB8 ?_)
      intro z11 lz11 uz11 qz11
      have v38 := cL_f (d := 512) (a := 1) (j := 6) (r := 2) (p := 2) (by decide +kernel) (by decide) qz11 rfl
      rw [r35] at v38
      intro z12 hz12 ez12 bz12
      clear bz12
      refine And.intro ⟨rfl, by decide, by decide⟩ (And.intro rfl (And.intro (Or.inl rfl) (fputf fb_513_6 (by decide +kernel) hW (by omega) ?_)))
      intro IhB13 ehB13 hB13
      have t14 : IhB13 694 5 = IhB8 694 5 := (congrFun (congrFun ehB13 694) 5).trans (fup_ne (by first | decide | omega))
      have r43 := cS_f (d := 512) (a := 1) (j := 6) (r := 2) (p := 2) (by decide +kernel) (by decide) ehB13 rfl
      exact ⟨rfl, True.intro, (by rw [r43, r35]; exact (sRo_y v5 (by omega) v14 (by omega) (by omega) (by omega) (by omega) (by omega) hz12 ez12 v38))⟩
set_option maxRecDepth 8000 in
theorem ct_City_runStill_08bd2 {I : fH} {x1 : Int} (h0 : fB bsJ I) (ha1 : (0 ≤ x1 ∧ x1 ≤ 23)) : fC ρ base n F xTc vwCl xTys D dA la gJ (fbz bsJ znJ (fKc wz_7903c) I) xm_85 [.inr (.inr (some 513)), .inl x1] I (fun I' r => r = none ∧ True ∧ (cR 512 I' = sSti (cR 512 I) x1)) := by
  have hW : fzs wz_7903c (fKc wz_7903c) := fKc_ok _
  refine f_meth (rb := rbJ) (J := []) 1 400 xG xin_85 x6_85 okJ (fB_self h0) ?_ ?_
  · exact fun q h => absurd h List.not_mem_nil
  · have hB0 := fB_self (zn := znJ) (K := fKc wz_7903c) h0
    refine And.intro ⟨rfl, by decide, by decide⟩ ?_
    refine fload1 rL_694_694_0_5_1_0 h0 hB0 ⟨by decide, by decide⟩ (by first | exact ⟨by decide, by decide⟩ | omega) ?_
    intro z1 lz1 uz1 qz1
    have pz1 := fld_at qz1 5 (by omega)
    have v5 := cL_a (d := 512) (a := 182) (n := 6) (b := 17) (m := 1) (by decide +kernel) (by decide) qz1 (by omega) rfl
    refine And.intro (And.intro (by first | exact fi_ lz1 uz1 rfl | omega) (by first | exact ⟨by decide, by decide⟩ | omega)) (And.intro ?_ ?_)
    · intro c2
      refine And.intro ⟨rfl, by decide, by decide⟩ ?_
      refine fload1 rL_694_694_0_5_1_0 h0 hB0 ⟨by decide, by decide⟩ (by first | exact ⟨by decide, by decide⟩ | omega) ?_
      intro z3 lz3 uz3 qz3
      have pz3 := fld_at qz3 5 (by omega)
      have v17 := cL_a (d := 512) (a := 182) (n := 6) (b := 17) (m := 1) (by decide +kernel) (by decide) qz3 (by omega) rfl
      refine fstore1 rS_694_694_0_5_1_0 (fzs_sub (by decide +kernel) hW) ⟨by decide, by decide⟩ (by first | exact ⟨by decide, by decide⟩ | omega) (by omega) ?_
      intro IhB4 ehB4 hB4
      have t5 := fup_self ehB4
      have t6 := fup_at ehB4 5 (by first | rfl | omega)
      have r20 := cS_a (d := 512) (a := 182) (n := 6) (b := 17) (m := 1) (by decide +kernel) (by decide) ehB4 (by omega) rfl
      refine And.intro ⟨rfl, by decide, by decide⟩ ?_
      refine And.intro ⟨rfl, by decide, by decide⟩ ?_
      refine fload1 rL_677_677_0_23_1_0 h0 hB4 ⟨by decide, by decide⟩ (by first | exact ⟨ha1.1, ha1.2⟩ | omega) ?_
      intro z7 lz7 uz7 qz7
      have v29 := cL_a (d := 512) (a := 165) (n := 24) (b := 531) (m := 14) (by decide +kernel) (by decide) qz7 (by omega) rfl
      rw [r20] at v29
      refine And.intro ⟨rfl, by decide, by decide⟩ ?_
      refine Exists.intro xm_83 (And.intro mi_83 (And.intro ⟨rfl, rfl, rfl, rfl⟩ (And.intro rfl ?_)))
      refine fcallp hB4 (ct_Works_partForFoul_82e3d (fBz h0 hB4) (by first | exact ⟨ha1.1, ha1.2⟩ | omega)) ?_
      rintro _ ⟨z8, rfl, hz8, g0z8⟩
      try rw [r20] at g0z8
      refine And.intro ⟨rfl, by decide, by decide⟩ ?_
      refine And.intro ⟨rfl, by decide, by decide⟩ ?_
      refine And.intro ⟨rfl, by decide⟩ (And.intro (by first | exact ⟨lz7, Int.lt_of_le_of_lt uz7 (by decide)⟩ | omega) ?_)
      refine fload rL_518_537_0_4_1_0 h0 hB4 (by omega) ?_
      intro z9 lz9 uz9 qz9
      have v49 := cL_r (d := 512) (a := 6) (nr := 20) (n := 5) (b := 31) (mr := 20) (m := 1) (by decide +kernel) (by decide) qz9 (by omega) (by omega) rfl
      rw [r20] at v49
      refine And.intro (And.intro (by first | exact fi_ hz8.1 hz8.2 rfl | omega) (And.intro (by first | exact fi_ lz9 uz9 rfl | omega) rfl)) ?_
      intro z10 hz10
      refine And.intro ⟨rfl, by decide, by decide⟩ ?_
      refine And.intro ⟨rfl, by decide, by decide⟩ ?_
      refine And.intro ⟨rfl, by decide⟩ (And.intro (by first | exact ⟨lz7, Int.lt_of_le_of_lt uz7 (by decide)⟩ | omega) ?_)
      refine fload rL_518_537_0_4_1_0 h0 hB4 (by omega) ?_
      intro z11 lz11 uz11 qz11
      have v65 := cL_r (d := 512) (a := 6) (nr := 20) (n := 5) (b := 31) (mr := 20) (m := 1) (by decide +kernel) (by decide) qz11 (by omega) (by omega) rfl
      rw [r20] at v65
      intro z12 hz12 ez12 bz12
      clear ez12
      have bz12 := bz12 (by omega)
      refine fstore rS_518_537_0_4_1_0 (fzs_sub (by decide +kernel) hW) (by omega) (by omega) ?_
      intro IhB13 ehB13 hB13
      have t14 := fup_self ehB13
      have t15 : IhB13 694 5 = IhB4 694 5 := (congrFun (congrFun ehB13 694) 5).trans (fup_ne (by first | exact Or.inl (by decide) | omega))
      have r68 := cS_r (d := 512) (a := 6) (nr := 20) (n := 5) (b := 31) (mr := 20) (m := 1) (by decide +kernel) (by decide) ehB13 (by omega) (by omega) rfl
      refine And.intro ⟨rfl, by decide, by decide⟩ ?_
      refine And.intro (And.intro (by omega) (And.intro (by first | exact ⟨by decide, by decide⟩ | omega) (And.intro (by first | exact by decide | omega) rfl))) ?_
      intro z16 hz16 ez16 dz16
      have dz16 := dz16 (by omega) (by omega)
      change _ = _ / _ at dz16
      refine Exists.intro xm_84 (And.intro mi_84 (And.intro ⟨rfl, rfl, rfl, rfl⟩ (And.intro rfl ?_)))
      refine fcall _ h0 (fzs_sub (by decide +kernel) hW) hB13 (ct_Cells_addAir_f5ee0 (fBz h0 hB13) (by first | exact ⟨lz7, uz7⟩ | omega) (by first | exact ⟨by decide, by decide⟩ | omega) (by omega) (by omega) (by omega)) ?_
      rintro IhB18 _ hB18 fhB18 ⟨rfl, hz17, g0z17⟩
      have t19 := fhB18 694 5 (by decide +kernel)
      refine And.intro ⟨rfl, by decide, by decide⟩ ?_
      refine And.intro (And.intro (by omega) (And.intro (by first | exact ⟨by decide, by decide⟩ | omega) (And.intro (by first | exact by decide | omega) rfl))) ?_
      intro z20 hz20 ez20 dz20
      have dz20 := dz20 (by omega) (by omega)
      change _ = _ / _ at dz20
      intro z21 hz21 ez21 bz21
      clear ez21
      have bz21 := bz21 (by omega)
      refine Exists.intro xm_84 (And.intro mi_84 (And.intro ⟨rfl, rfl, rfl, rfl⟩ (And.intro rfl ?_)))
      refine fcall _ h0 (fzs_sub (by decide +kernel) hW) hB18 (ct_Cells_addAir_f5ee0 (fBz h0 hB18) (by first | exact ⟨lz7, uz7⟩ | omega) (by first | exact ⟨by decide, by decide⟩ | omega) (by omega) (by omega) (by omega)) ?_
      rintro IhB23 _ hB23 fhB23 ⟨rfl, hz22, g0z22⟩
      have t24 := fhB23 694 5 (by decide +kernel)
      exact ⟨rfl, True.intro, (by rw [g0z22, g0z17, r68, r20]; exact (sSt_y (n := z10) (by omega) v5 (by omega) (by omega) (by omega) v29 (by omega) (by omega) (by omega) (mn_of (mn_le (by omega) (by omega) (by omega)) g0z8 v49) (by omega) (by omega) (by omega) (by omega) (by omega) rfl rfl))⟩
    · intro c25
      exact ⟨rfl, True.intro, (sSt_n v5 (by omega) (by omega))⟩
set_option maxRecDepth 8000 in
theorem ct_City_runWork_0e434 {I : fH} {x1 : Int} (h0 : fB bsJ I) (ha1 : (0 ≤ x1 ∧ x1 ≤ 23)) (hp0 : okA (cR 512 I)) (hp1 : gt (cR 512 I) (538 + 14 * x1) = 0) : fC ρ base n F xTc vwCl xTys D dA la gJ (fbz bsJ znJ (fKc wz_791b2) I) xm_77 [.inr (.inr (some 513)), .inl x1] I (fun I' r => r = none ∧ True ∧ (cR 512 I' = sWk (cR 512 I) x1)) := by
  have hW : fzs wz_791b2 (fKc wz_791b2) := fKc_ok _
  refine f_meth (rb := rbJ) (J := []) 1 400 xG xin_77 x6_77 okJ (fB_self h0) ?_ ?_
  · exact fun q h => absurd h List.not_mem_nil
  · have hB0 := fB_self (zn := znJ) (K := fKc wz_791b2) h0
    refine And.intro ⟨rfl, by decide, by decide⟩ ?_
    refine And.intro ⟨rfl, by decide, by decide⟩ ?_
    refine fload1 rL_676_676_0_23_1_0 h0 hB0 ⟨by decide, by decide⟩ (by first | exact ⟨ha1.1, ha1.2⟩ | omega) ?_
    intro z1 lz1 uz1 qz1
    have v8 := cL_a (d := 512) (a := 164) (n := 24) (b := 530) (m := 14) (by decide +kernel) (by decide) qz1 (by omega) rfl
    refine And.intro (by first | exact fi_ lz1 uz1 rfl | omega) (And.intro ?_ ?_)
    · refine And.intro (fun ex => ?_) (And.intro (fun ex => ?_) (And.intro (fun ex => ?_) (And.intro (fun ex => ?_) (And.intro (fun ex => ?_) (And.intro (fun ex => ?_) (True.intro))))))
      · skip
        refine Exists.intro xm_78 (And.intro mi_78 (And.intro ⟨rfl, rfl, rfl, rfl⟩ (And.intro rfl ?_)))
        refine fcall _ h0 (fzs_sub (by decide +kernel) hW) hB0 (ct_City_runSkin_4289c (fBz h0 hB0) (by first | exact ⟨ha1.1, ha1.2⟩ | omega)) ?_
        rintro IhB3 _ hB3 fhB3 ⟨rfl, hz2, g0z2⟩
        exact ⟨rfl, True.intro, (by rw [g0z2]; exact ((sWk_at v8 (by omega)).1 (by omega)))⟩
      · skip
        refine Exists.intro xm_82 (And.intro mi_82 (And.intro ⟨rfl, rfl, rfl, rfl⟩ (And.intro rfl ?_)))
        refine fcall _ h0 (fzs_sub (by decide +kernel) hW) hB0 (ct_City_runGarden_2acfe (fBz h0 hB0) (by first | exact ⟨ha1.1, ha1.2⟩ | omega)) ?_
        rintro IhB5 _ hB5 fhB5 ⟨rfl, hz4, g0z4⟩
        exact ⟨rfl, True.intro, (by rw [g0z4]; exact ((sWk_at v8 (by omega)).2.1 (by omega)))⟩
      · skip
        refine Exists.intro xm_85 (And.intro mi_85 (And.intro ⟨rfl, rfl, rfl, rfl⟩ (And.intro rfl ?_)))
        refine fcall _ h0 (fzs_sub (by decide +kernel) hW) hB0 (ct_City_runStill_08bd2 (fBz h0 hB0) (by first | exact ⟨ha1.1, ha1.2⟩ | omega)) ?_
        rintro IhB7 _ hB7 fhB7 ⟨rfl, hz6, g0z6⟩
        exact ⟨rfl, True.intro, (by rw [g0z6]; exact ((sWk_at v8 (by omega)).2.2.1 (by omega)))⟩
      · skip
        refine Exists.intro xm_86 (And.intro mi_86 (And.intro ⟨rfl, rfl, rfl, rfl⟩ (And.intro rfl ?_)))
        refine fcall _ h0 (fzs_sub (by decide +kernel) hW) hB0 (ct_City_runRotor_872a2 (fBz h0 hB0) (by first | exact ⟨ha1.1, ha1.2⟩ | omega)) ?_
        rintro IhB9 _ hB9 fhB9 ⟨rfl, hz8, g0z8⟩
        exact ⟨rfl, True.intro, (by rw [g0z8]; exact ((sWk_at v8 (by omega)).2.2.2.1 (by omega)))⟩
      · skip
        refine And.intro ⟨rfl, by decide, by decide⟩ ?_
        refine And.intro ⟨rfl, by decide, by decide⟩ ?_
        refine fload1 rL_684_684_0_23_1_0 h0 hB0 ⟨by decide, by decide⟩ (by first | exact ⟨ha1.1, ha1.2⟩ | omega) ?_
        intro z10 lz10 uz10 qz10
        have v89 := cL_a (d := 512) (a := 172) (n := 24) (b := 536) (m := 14) (by decide +kernel) (by decide) qz10 (by omega) rfl
        have w89 := okA_pat hp0 v8 (by omega) (by omega) hp1 v89 (by omega) (by omega)
        intro z11 hz11 ez11 bz11
        clear ez11
        have bz11 := bz11 (by omega)
        refine fstore1 rS_684_684_0_23_1_0 (fzs_sub (by decide +kernel) hW) ⟨by decide, by decide⟩ (by first | exact ⟨ha1.1, ha1.2⟩ | omega) (by omega) ?_
        intro IhB12 ehB12 hB12
        have t13 := fup_self ehB12
        have r92 := cS_a (d := 512) (a := 172) (n := 24) (b := 536) (m := 14) (by decide +kernel) (by decide) ehB12 (by omega) rfl
        refine And.intro ⟨rfl, by decide, by decide⟩ ?_
        refine And.intro ⟨rfl, by decide, by decide⟩ ?_
        refine And.intro ⟨rfl, by decide, by decide⟩ ?_
        refine And.intro ⟨rfl, by decide, by decide⟩ ?_
        refine fload1 rL_684_684_0_23_1_0 h0 hB12 ⟨by decide, by decide⟩ (by first | exact ⟨ha1.1, ha1.2⟩ | omega) ?_
        intro z14 lz14 uz14 qz14
        have v109 := cL_a (d := 512) (a := 172) (n := 24) (b := 536) (m := 14) (by decide +kernel) (by decide) qz14 (by omega) rfl
        rw [r92] at v109
        refine And.intro (by first | exact fi_ lz14 uz14 rfl | omega) (And.intro ?_ ?_)
        · intro c15
          refine fstore1 rS_686_686_0_23_1_0 (fzs_sub (by decide +kernel) hW) ⟨by decide, by decide⟩ (by first | exact ⟨ha1.1, ha1.2⟩ | omega) (by omega) ?_
          intro IhB16 ehB16 hB16
          have t17 := fup_self ehB16
          have r118 := cS_a (d := 512) (a := 174) (n := 24) (b := 538) (m := 14) (by decide +kernel) (by decide) ehB16 (by omega) rfl
          exact ⟨rfl, True.intro, (by rw [r118, r92]; exact ((sPa_of (by omega) v89 (by omega) (by omega) (by omega) v109 (by omega) (by omega) (by split <;> omega)).trans ((sWk_at v8 (by omega)).2.2.2.2.1 (by omega))))⟩
        · intro c18
          refine fstore1 rS_686_686_0_23_1_0 (fzs_sub (by decide +kernel) hW) ⟨by decide, by decide⟩ (by first | exact ⟨ha1.1, ha1.2⟩ | omega) (by first | exact ⟨by decide, by decide⟩ | omega) ?_
          intro IhB19 ehB19 hB19
          have t20 := fup_self ehB19
          have r118 := cS_a (d := 512) (a := 174) (n := 24) (b := 538) (m := 14) (by decide +kernel) (by decide) ehB19 (by omega) rfl
          exact ⟨rfl, True.intro, (by rw [r118, r92]; exact ((sPa_of (by omega) v89 (by omega) (by omega) (by omega) v109 (by omega) (by omega) (by split <;> omega)).trans ((sWk_at v8 (by omega)).2.2.2.2.1 (by omega))))⟩
      · skip
        refine Exists.intro xm_87 (And.intro mi_87 (And.intro ⟨rfl, rfl, rfl, rfl⟩ (And.intro rfl ?_)))
        refine fcall _ h0 (fzs_sub (by decide +kernel) hW) hB0 (ct_City_runProbe_75b59 (fBz h0 hB0) (by first | exact ⟨ha1.1, ha1.2⟩ | omega) hp0) ?_
        rintro IhB22 _ hB22 fhB22 ⟨rfl, hz21, g0z21⟩
        exact ⟨rfl, True.intro, (by rw [g0z21]; exact ((sWk_at v8 (by omega)).2.2.2.2.2.1 (by omega)))⟩
    · intro c23
      simp only [List.length_cons, List.length_nil] at c23
      exact ⟨rfl, True.intro, (by exact ((sWk_at v8 (by omega)).2.2.2.2.2.2 (by omega)))⟩
abbrev jc_City_passMinute_b0540_13 (I0 : fH) : Nat → fL → List fV → fH → Prop := fun m lv st I => ∃ (y1 : Int), lv = [(0, .inr (.inr (some 513))), (1, .inl y1)] ∧ st = [] ∧ (((0 ≤ y1 ∧ y1 ≤ 24) ∧ (I 513 9 = I0 513 9) ∧ (y1 ≤ I0 675 13)) ∧ ((cR 512 I) = nf sWk1 (sCome (cR 512 I0)) y1.toNat) ∧ (okA (cR 512 I)) ∧ (okB (cR 512 I)) ∧ (gt (sCome (cR 512 I0)) 7 = I0 675 13)) ∧ m = (26 + 1 * (24 - y1) : Int).toNat
abbrev jc_City_passMinute_b0540_75 (I0 : fH) : Nat → fL → List fV → fH → Prop := fun m lv st I => ∃ (y1 : Int), lv = [(0, .inr (.inr (some 513))), (1, .inl y1)] ∧ st = [] ∧ (((0 ≤ y1 ∧ y1 ≤ 24) ∧ (I 513 9 = I0 513 9) ∧ (y1 ≤ I0 689 4)) ∧ ((cR 512 I) = nf sBr0 (sMi3 (sMi2 (sMi1 (sCome (cR 512 I0))))) y1.toNat) ∧ (okA (cR 512 I)) ∧ (okB (cR 512 I)) ∧ (gt (sMi3 (sMi2 (sMi1 (sCome (cR 512 I0))))) 8 = I0 689 4)) ∧ m = (1 + 1 * (24 - y1) : Int).toNat
set_option maxRecDepth 8000 in
theorem ct_City_passMinute_b0540 {I : fH}  (h0 : fB bsJ I) (hp0 : okA (cR 512 I)) (hp1 : okB (cR 512 I)) (hp2 : 0 ≤ gt (cR 512 I) 0 ∧ gt (cR 512 I) 0 ≤ 30000) : fC ρ base n F xTc vwCl xTys D dA la gJ (fbz bsJ znJ (fKc wz_f7c52) I) xm_73 [.inr (.inr (some 513))] I (fun I' r => r = none ∧ (I 513 9 < 2147483647 → I' 513 9 = I 513 9 + 1) ∧ (okA (cR 512 I')) ∧ (okB (cR 512 I')) ∧ (cR 512 I' = sMin (cR 512 I))) := by
  have hW : fzs wz_f7c52 (fKc wz_f7c52) := fKc_ok _
  refine f_meth (rb := rbJ) (J := [(13, (jc_City_passMinute_b0540_13 I)), (75, (jc_City_passMinute_b0540_75 I))]) 51 400 xG xin_73 x6_73 okJ (fB_self h0) ?_ ?_
  · refine List.forall_mem_cons.mpr ⟨?_, List.forall_mem_cons.mpr ⟨?_, fun q h => absurd h List.not_mem_nil⟩⟩
    · rintro m _ _ I1 hB1 ⟨y1, rfl, rfl, ⟨hb, hx0, hx1, hx2, hx3⟩, hm⟩
      have k1 := fBz_eq hB1 (a := 675) (j := 13) (by decide +kernel)
      have k2 := fBz_eq hB1 (a := 689) (j := 4) (by decide +kernel)
      have k3 := fBz_eq hB1 (a := 675) (j := 13) (by decide +kernel)
      have b4 := fBd fb_675_13 (fBz h0 hB1)
      have b5 := fBd fb_689_4 (fBz h0 hB1)
      refine And.intro ⟨rfl, by decide, by decide⟩ ?_
      refine And.intro ⟨rfl, by decide, by decide⟩ (fgetf fb_675_13 h0 hB1 ?_)
      intro z6 lz6 uz6 qz6
      have v18 := cL_f (d := 512) (a := 163) (j := 13) (r := 7) (p := 7) (by decide +kernel) (by decide) qz6 rfl
      refine And.intro (And.intro (by first | exact fi_ hb.1.1 hb.1.2 rfl | omega) (by first | exact fi_ lz6 uz6 rfl | omega)) (And.intro ?_ ?_)
      · intro c7
        refine And.intro ⟨rfl, by decide, by decide⟩ ?_
        refine Exists.intro xm_88 (And.intro mi_88 (And.intro ⟨rfl, rfl, rfl, rfl⟩ (And.intro rfl ?_)))
        refine fcall _ h0 (fzs_sub (by decide +kernel) hW) hB1 (ct_Cells_flowAll_87643 (fBz h0 hB1)) ?_
        rintro IhB9 _ hB9 fhB9 ⟨rfl, hz8, g0z8⟩
        have t10 := fhB9 513 9 (by decide +kernel)
        have t11 := fhB9 675 13 (by decide +kernel)
        have k12 := fBz_eq hB9 (a := 675) (j := 13) (by decide +kernel)
        have k13 := fBz_eq hB9 (a := 689) (j := 4) (by decide +kernel)
        have k14 := fBz_eq hB9 (a := 675) (j := 13) (by decide +kernel)
        refine And.intro ⟨rfl, by decide, by decide⟩ ?_
        refine Exists.intro xm_90 (And.intro mi_90 (And.intro ⟨rfl, rfl, rfl, rfl⟩ (And.intro rfl ?_)))
        refine fcall _ h0 (fzs_sub (by decide +kernel) hW) hB9 (ct_Cells_leakAll_a583d (fBz h0 hB9)) ?_
        rintro IhB16 _ hB16 fhB16 ⟨rfl, hz15, g0z15⟩
        have t17 := fhB16 513 9 (by decide +kernel)
        have t18 := fhB16 675 13 (by decide +kernel)
        have k19 := fBz_eq hB16 (a := 675) (j := 13) (by decide +kernel)
        have k20 := fBz_eq hB16 (a := 689) (j := 4) (by decide +kernel)
        have k21 := fBz_eq hB16 (a := 675) (j := 13) (by decide +kernel)
        have m1 : cR 512 I1 = (sMi1 (sCome (cR 512 I))) := nf_end hx0 (by omega)
        have m3 : cR 512 IhB16 = (sMi3 (sMi2 (sMi1 (sCome (cR 512 I))))) := by rw [g0z15, g0z8, m1]
        exact fcutJ (I := IhB16) (j := (jc_City_passMinute_b0540_75 I)) (lv' := [(0, .inr (.inr (some 513))), (1, .inl _)]) (And.intro rfl (And.intro rfl True.intro)) ⟨_, rfl, rfl, ⟨by omega, m3, (okA_fr cA512_ok fhB16 (by decide +kernel) (okA_fr cA512_ok fhB9 (by decide +kernel) hx1)), (okB_fr cB512_ok fhB16 (by decide +kernel) ((cR_rng (d := 512) (i0 := 13) (i1 := 13) (m := 1) (q := 0) (lo := 0) (hi := 90) (by decide +kernel) (fBz h0 hB9) (by omega)).2) (okB_fr cB512_ok fhB9 (by decide +kernel) ((cR_rng (d := 512) (i0 := 13) (i1 := 13) (m := 1) (q := 0) (lo := 0) (hi := 90) (by decide +kernel) (fBz h0 hB1) (by omega)).2) hx2)), (by rw [← m3]; exact ((cL_f (d := 512) (a := 177) (j := 4) (r := 8) (p := 8) (I := IhB16) (z := IhB16 689 4) (by decide +kernel) (by decide) rfl rfl)).symm.trans (fBz_eq hB16 (a := 689) (j := 4) (by decide +kernel)))⟩, rfl⟩ (by omega)
      · intro c22
        refine And.intro ⟨rfl, by decide, by decide⟩ ?_
        refine And.intro ⟨rfl, by decide, by decide⟩ ?_
        refine fload1 rL_679_679_0_23_1_0 h0 hB1 ⟨by decide, by decide⟩ (by first | exact ⟨hb.1.1, Int.le_trans (Int.le_sub_one_of_lt (Int.lt_of_lt_of_le c22 uz6)) (by decide)⟩ | omega) ?_
        intro z23 lz23 uz23 qz23
        have v32 := cL_a (d := 512) (a := 167) (n := 24) (b := 533) (m := 14) (by decide +kernel) (by decide) qz23 (by omega) rfl
        refine And.intro (And.intro (by first | exact fi_ lz23 uz23 rfl | omega) (by first | exact ⟨by decide, by decide⟩ | omega)) (And.intro ?_ ?_)
        · intro c24
          have s13 : cR 512 I1 = sWk1 y1.toNat (cR 512 I1) := sWk1_n (u := y1) (by omega) (Or.inl ⟨_, v32, by omega, by omega⟩)
          exact fcutJ (I := I1) (j := (jc_City_passMinute_b0540_13 I)) (lv' := [(0, .inr (.inr (some 513))), (1, .inl _)]) (And.intro rfl (And.intro rfl True.intro)) ⟨_, rfl, rfl, ⟨by omega, (nf_row hx0 (by omega) (by omega) s13), hx1, hx2, hx3⟩, rfl⟩ (by omega)
        · intro c25
          refine And.intro ⟨rfl, by decide, by decide⟩ ?_
          refine Exists.intro xm_50 (And.intro mi_50 (And.intro ⟨rfl, rfl, rfl, rfl⟩ (And.intro rfl ?_)))
          refine fcallp hB1 (ct_Works_isGone_bce90 (fBz h0 hB1) (by first | exact ⟨hb.1.1, Int.le_trans (Int.le_sub_one_of_lt (Int.lt_of_lt_of_le c22 uz6)) (by decide)⟩ | omega)) ?_
          rintro _ ⟨z26, rfl, hz26, g0z26⟩
          refine And.intro (by omega) (And.intro ?_ ?_)
          · intro c27
            have s13 : cR 512 I1 = sWk1 y1.toNat (cR 512 I1) := sWk1_n (p := 0) (u := y1) (by omega) (Or.inr (g0z26.elim (fun q => q.2) (fun q => absurd q.1 (by omega))))
            exact fcutJ (I := I1) (j := (jc_City_passMinute_b0540_13 I)) (lv' := [(0, .inr (.inr (some 513))), (1, .inl _)]) (And.intro rfl (And.intro rfl True.intro)) ⟨_, rfl, rfl, ⟨by omega, (nf_row hx0 (by omega) (by omega) s13), hx1, hx2, hx3⟩, rfl⟩ (by omega)
          · intro c28
            refine Exists.intro xm_77 (And.intro mi_77 (And.intro ⟨rfl, rfl, rfl, rfl⟩ (And.intro rfl ?_)))
            refine fcall _ h0 (fzs_sub (by decide +kernel) hW) hB1 (ct_City_runWork_0e434 (fBz h0 hB1) (by first | exact ⟨hb.1.1, Int.le_trans (Int.le_sub_one_of_lt (Int.lt_of_lt_of_le c22 uz6)) (by decide)⟩ | omega) hx1 (by have q := (g0z26.elim (fun q => absurd q.1 (by omega)) (fun q => q.2)); exact q)) ?_
            rintro IhB30 _ hB30 fhB30 ⟨rfl, hz29, g0z29⟩
            have t31 := fhB30 513 9 (by decide +kernel)
            have t32 := fhB30 675 13 (by decide +kernel)
            have k33 := fBz_eq hB30 (a := 675) (j := 13) (by decide +kernel)
            have k34 := fBz_eq hB30 (a := 689) (j := 4) (by decide +kernel)
            have k35 := fBz_eq hB30 (a := 675) (j := 13) (by decide +kernel)
            have s13 : cR 512 IhB30 = sWk1 y1.toNat (cR 512 I1) := (g0z29).trans (sWk1_y (u := y1) (by omega) v32 (by omega) (by omega) (by have q := (g0z26.elim (fun q => absurd q.1 (by omega)) (fun q => q.2)); omega))
            exact fcutJ (I := IhB30) (j := (jc_City_passMinute_b0540_13 I)) (lv' := [(0, .inr (.inr (some 513))), (1, .inl _)]) (And.intro rfl (And.intro rfl True.intro)) ⟨_, rfl, rfl, ⟨by omega, (nf_row hx0 (by omega) (by omega) s13), (by rw [s13]; exact okA_wk1 hx1 (by omega) (cR_rng (d := 512) (i0 := 531) (i1 := 853) (m := 14) (q := 0) (lo := 0) (hi := 19) (by decide +kernel) (fBz h0 hB1) (by omega)) ((cR_rng (d := 512) (i0 := 535) (i1 := 857) (m := 14) (q := 0) (lo := 0) (hi := 99999) (by decide +kernel) (fBz h0 hB1) (by omega)).1) (by have q1 := (hx1 y1.toNat (by omega)).2.2.2.2; have q2 := tb_pos (r := (cR 512 I1)) (cR_rng (d := 512) (i0 := 1) (i1 := 1) (m := 1) (q := 0) (lo := 0) (hi := 600) (by decide +kernel) (fBz h0 hB1) (by omega)) (fun i h1 h2 => ((cR_rng (d := 512) (i0 := 1142) (i1 := 1202) (m := 1) (q := 0) (lo := 0) (hi := 9999) (by decide +kernel) (fBz h0 hB1) (by omega)).1)); omega)), (okB_fr cB512_ok fhB30 (by decide +kernel) ((cR_rng (d := 512) (i0 := 13) (i1 := 13) (m := 1) (q := 0) (lo := 0) (hi := 90) (by decide +kernel) (fBz h0 hB1) (by omega)).2) hx2), hx3⟩, rfl⟩ (by omega)
    · rintro m _ _ I1 hB1 ⟨y1, rfl, rfl, ⟨hb, hx0, hx1, hx2, hx3⟩, hm⟩
      have k36 := fBz_eq hB1 (a := 675) (j := 13) (by decide +kernel)
      have k37 := fBz_eq hB1 (a := 689) (j := 4) (by decide +kernel)
      have k38 := fBz_eq hB1 (a := 675) (j := 13) (by decide +kernel)
      have b39 := fBd fb_675_13 (fBz h0 hB1)
      have b40 := fBd fb_689_4 (fBz h0 hB1)
      refine And.intro ⟨rfl, by decide, by decide⟩ ?_
      refine And.intro ⟨rfl, by decide, by decide⟩ (fgetf fb_689_4 h0 hB1 ?_)
      intro z41 lz41 uz41 qz41
      have v80 := cL_f (d := 512) (a := 177) (j := 4) (r := 8) (p := 8) (by decide +kernel) (by decide) qz41 rfl
      refine And.intro (And.intro (by first | exact fi_ hb.1.1 hb.1.2 rfl | omega) (by first | exact fi_ lz41 uz41 rfl | omega)) (And.intro ?_ ?_)
      · intro c42
        have w0 : I 513 9 = gt (cR 512 I) 0 := (cL_f (d := 512) (a := 1) (j := 9) (r := 0) (p := 0) (I := I) (z := I 513 9) (by decide +kernel) (by decide) rfl rfl)
        have m4 : cR 512 I1 = (sMi4 (sMi3 (sMi2 (sMi1 (sCome (cR 512 I)))))) := nf_end hx0 (by omega)
        refine Exists.intro xm_94 (And.intro mi_94 (And.intro ⟨rfl, rfl, rfl, rfl⟩ (And.intro rfl ?_)))
        refine fcall _ h0 (fzs_sub (by decide +kernel) hW) hB1 (ct_City_rise_ae6a0 (fBz h0 hB1) hx1) ?_
        rintro IhB44 _ hB44 fhB44 ⟨rfl, hz43, g0z43⟩
        have t45 := fhB44 513 9 (by decide +kernel)
        have t46 := fhB44 689 4 (by decide +kernel)
        have k47 := fBz_eq hB44 (a := 675) (j := 13) (by decide +kernel)
        have k48 := fBz_eq hB44 (a := 689) (j := 4) (by decide +kernel)
        have k49 := fBz_eq hB44 (a := 675) (j := 13) (by decide +kernel)
        refine And.intro ⟨rfl, by decide, by decide⟩ (fgetf fb_513_6 h0 hB44 ?_)
        intro z50 lz50 uz50 qz50
        have v114 := cL_f (d := 512) (a := 1) (j := 6) (r := 2) (p := 2) (by decide +kernel) (by decide) qz50 rfl
        rw [g0z43] at v114
        intro z51 hz51 ez51 bz51
        try replace bz51 := bz51 (by omega)
        refine And.intro ⟨rfl, by decide, by decide⟩ (And.intro rfl (And.intro (Or.inl rfl) (fputf fb_513_6 (by decide +kernel) hW (by omega) ?_)))
        intro IhB52 ehB52 hB52
        have t53 := fup_at ehB52 6 (by first | rfl | omega)
        have t54 : IhB52 513 9 = IhB44 513 9 := (congrFun (congrFun ehB52 513) 9).trans (fup_ne (by first | decide | omega))
        have t55 : IhB52 689 4 = IhB44 689 4 := (congrFun (congrFun ehB52 689) 4).trans (fup_ne (by first | decide | omega))
        have k56 := fBz_eq hB52 (a := 675) (j := 13) (by decide +kernel)
        have k57 := fBz_eq hB52 (a := 689) (j := 4) (by decide +kernel)
        have k58 := fBz_eq hB52 (a := 675) (j := 13) (by decide +kernel)
        have r119 := cS_f (d := 512) (a := 1) (j := 6) (r := 2) (p := 2) (by decide +kernel) (by decide) ehB52 rfl
        have b109 : okB (cR 512 IhB44) := (okB_fr cB512_ok fhB44 (by decide +kernel) ((cR_rng (d := 512) (i0 := 13) (i1 := 13) (m := 1) (q := 0) (lo := 0) (hi := 90) (by decide +kernel) (fBz h0 hB1) (by omega)).2) hx2)
        have a119 : okA (cR 512 IhB52) := by rw [r119]; exact okA_lo (okA_fr cA512_ok fhB44 (by decide +kernel) hx1) (by omega)
        have b119 : okB (cR 512 IhB52) := by rw [r119]; exact okB_lo b109 ((cR_rng (d := 512) (i0 := 13) (i1 := 13) (m := 1) (q := 0) (lo := 0) (hi := 90) (by decide +kernel) (fBz h0 hB44) (by omega)).2) (by omega) (by omega) (by omega)
        refine And.intro ⟨rfl, by decide, by decide⟩ ?_
        refine Exists.intro xm_95 (And.intro mi_95 (And.intro ⟨rfl, rfl, rfl, rfl⟩ (And.intro rfl ?_)))
        refine fcall _ h0 (fzs_sub (by decide +kernel) hW) hB52 (ct_Works_foulAll_2e164 (fBz h0 hB52) a119) ?_
        rintro IhB60 _ hB60 fhB60 ⟨rfl, hz59, g0z59⟩
        have t61 := fhB60 513 6 (by decide +kernel)
        have t62 := fhB60 513 9 (by decide +kernel)
        have t63 := fhB60 689 4 (by decide +kernel)
        have k64 := fBz_eq hB60 (a := 675) (j := 13) (by decide +kernel)
        have k65 := fBz_eq hB60 (a := 689) (j := 4) (by decide +kernel)
        have k66 := fBz_eq hB60 (a := 675) (j := 13) (by decide +kernel)
        have a126 : okA (cR 512 IhB60) := by rw [g0z59]; exact okA_fo a119
        have b126 : okB (cR 512 IhB60) := (okB_fr cB512_ok fhB60 (by decide +kernel) ((cR_rng (d := 512) (i0 := 13) (i1 := 13) (m := 1) (q := 0) (lo := 0) (hi := 90) (by decide +kernel) (fBz h0 hB52) (by omega)).2) b119)
        refine And.intro ⟨rfl, by decide, by decide⟩ (fgetf fb_513_9 h0 hB60 ?_)
        intro z67 lz67 uz67 qz67
        have v131 := cL_f (d := 512) (a := 1) (j := 9) (r := 0) (p := 0) (by decide +kernel) (by decide) qz67 rfl
        rw [g0z59, r119, g0z43] at v131
        intro z68 hz68 ez68 bz68
        try replace bz68 := bz68 (by omega)
        refine And.intro ⟨rfl, by decide, by decide⟩ (And.intro rfl (And.intro (Or.inl rfl) (fputf fb_513_9 (by decide +kernel) hW (by omega) ?_)))
        intro IhB69 ehB69 hB69
        have t70 : IhB69 513 6 = IhB60 513 6 := (congrFun (congrFun ehB69 513) 6).trans (fup_ne (by first | decide | omega))
        have t71 := fup_at ehB69 9 (by first | rfl | omega)
        have t72 : IhB69 689 4 = IhB60 689 4 := (congrFun (congrFun ehB69 689) 4).trans (fup_ne (by first | decide | omega))
        have k73 := fBz_eq hB69 (a := 675) (j := 13) (by decide +kernel)
        have k74 := fBz_eq hB69 (a := 689) (j := 4) (by decide +kernel)
        have k75 := fBz_eq hB69 (a := 675) (j := 13) (by decide +kernel)
        have r136 := cS_f (d := 512) (a := 1) (j := 9) (r := 0) (p := 0) (by decide +kernel) (by decide) ehB69 rfl
        have n126 : IhB60 513 9 = gt (cR 512 IhB60) 0 := (cL_f (d := 512) (a := 1) (j := 9) (r := 0) (p := 0) (I := IhB60) (z := IhB60 513 9) (by decide +kernel) (by decide) rfl rfl)
        have S136 : okS (cR 512 IhB69) 0 := by rw [r136]; exact okS_up b126 ((cR_rng (d := 512) (i0 := 13) (i1 := 13) (m := 1) (q := 0) (lo := 0) (hi := 90) (by decide +kernel) (fBz h0 hB60) (by omega)).2) rfl (by omega)
        have a136 : okA (cR 512 IhB69) := by rw [r136]; exact okA_lo a126 (by omega)
        have n136 : IhB69 513 9 = gt (cR 512 IhB69) 0 := (cL_f (d := 512) (a := 1) (j := 9) (r := 0) (p := 0) (I := IhB69) (z := IhB69 513 9) (by decide +kernel) (by decide) rfl rfl)
        have e136 : cR 512 IhB69 = rud (sMi6 (sMi5 (sRi (cR 512 I1)))) 0 (gt (sMi6 (sMi5 (sRi (cR 512 I1)))) 0 + 1) := by rw [r136, g0z59, r119, g0z43]; exact mi_x rfl ((wr_add hz51 ez51).trans (by rw [v114]; rfl)) rfl (by rw [← v131]; omega)
        refine And.intro ⟨rfl, by decide, by decide⟩ (fgetf fb_513_9 h0 hB69 ?_)
        intro z76 lz76 uz76 qz76
        have v140 := cL_f (d := 512) (a := 1) (j := 9) (r := 0) (p := 0) (by decide +kernel) (by decide) qz76 rfl
        rw [r136, g0z59, r119, g0z43] at v140
        refine And.intro (And.intro (by first | exact fi_ lz76 uz76 rfl | omega) (And.intro (by first | exact ⟨by decide, by decide⟩ | omega) (And.intro (by first | exact by decide | omega) rfl))) ?_
        intro z77 hz77 ez77 dz77
        have dz77 := dz77 (by omega) (by omega)
        change _ = _ % _ at dz77
        refine And.intro (by omega) (And.intro ?_ ?_)
        · intro c78
          exact ⟨rfl, by omega, a136, S136.1, ((mi_n e136 n136.symm.symm (by omega)).trans (congrArg sMiE m4))⟩
        · intro c79
          refine Exists.intro xm_96 (And.intro mi_96 (And.intro ⟨rfl, rfl, rfl, rfl⟩ (And.intro rfl ?_)))
          refine fcall _ h0 (fzs_sub (by decide +kernel) hW) hB69 (ct_City_sendReports_305c9 (fBz h0 hB69) (by omega)) ?_
          rintro IhB81 _ hB81 fhB81 ⟨rfl, hz80, g0z80⟩
          have t82 := fhB81 513 6 (by decide +kernel)
          have t83 := fhB81 513 9 (by decide +kernel)
          have t84 := fhB81 689 4 (by decide +kernel)
          have k85 := fBz_eq hB81 (a := 675) (j := 13) (by decide +kernel)
          have k86 := fBz_eq hB81 (a := 689) (j := 4) (by decide +kernel)
          have k87 := fBz_eq hB81 (a := 675) (j := 13) (by decide +kernel)
          exact ⟨rfl, by omega, (okA_fr cA512_ok fhB81 (by decide +kernel) a136), (by rw [g0z80]; exact (okS_nf S136 (by omega) ((cR_rng (d := 512) (i0 := 13) (i1 := 13) (m := 1) (q := 0) (lo := 0) (hi := 90) (by decide +kernel) (fBz h0 hB69) (by omega)).1) _ (by have q := (cR_rng (d := 512) (i0 := 5) (i1 := 5) (m := 1) (q := 0) (lo := 0) (hi := 20) (by decide +kernel) (fBz h0 hB69) (i := 5) (by omega)); omega)).1.1), ((g0z80).trans ((mi_y e136 n136 (by omega)).trans (congrArg sMiE m4)))⟩
      · intro c88
        refine And.intro ⟨rfl, by decide, by decide⟩ ?_
        refine Exists.intro xm_21 (And.intro mi_21 (And.intro ⟨rfl, rfl, rfl, rfl⟩ (And.intro rfl ?_)))
        refine fcallp hB1 (ct_People_isDead_16e8f (fBz h0 hB1) (by first | exact ⟨hb.1.1, Int.le_trans (Int.le_sub_one_of_lt (Int.lt_of_lt_of_le c88 uz41)) (by decide)⟩ | omega)) ?_
        rintro _ ⟨z89, rfl, hz89, g0z89⟩
        refine And.intro (by omega) (And.intro ?_ ?_)
        · intro c90
          have s75 : cR 512 I1 = sBr0 y1.toNat (cR 512 I1) := sBr0_y (u := y1) (by omega) (g0z89.elim (fun q => q.2) (fun q => absurd q.1 (by omega)))
          exact fcutJ (I := I1) (j := (jc_City_passMinute_b0540_75 I)) (lv' := [(0, .inr (.inr (some 513))), (1, .inl _)]) (And.intro rfl (And.intro rfl True.intro)) ⟨_, rfl, rfl, ⟨by omega, (nf_row hx0 (by omega) (by omega) s75), hx1, hx2, hx3⟩, rfl⟩ (by omega)
        · intro c91
          refine Exists.intro xm_91 (And.intro mi_91 (And.intro ⟨rfl, rfl, rfl, rfl⟩ (And.intro rfl ?_)))
          refine fcall _ h0 (fzs_sub (by decide +kernel) hW) hB1 (ct_City_breathe_fe888 (fBz h0 hB1) (by first | exact ⟨hb.1.1, Int.le_trans (Int.le_sub_one_of_lt (Int.lt_of_lt_of_le c88 uz41)) (by decide)⟩ | omega)) ?_
          rintro IhB93 _ hB93 fhB93 ⟨rfl, hz92, g0z92⟩
          have t94 := fhB93 513 9 (by decide +kernel)
          have t95 := fhB93 689 4 (by decide +kernel)
          have k96 := fBz_eq hB93 (a := 675) (j := 13) (by decide +kernel)
          have k97 := fBz_eq hB93 (a := 689) (j := 4) (by decide +kernel)
          have k98 := fBz_eq hB93 (a := 675) (j := 13) (by decide +kernel)
          have s75 : cR 512 IhB93 = sBr0 y1.toNat (cR 512 I1) := (g0z92).trans (sBr0_n (u := y1) (by omega) (g0z89.elim (fun q => absurd q.1 (by omega)) (fun q => q.2)))
          exact fcutJ (I := IhB93) (j := (jc_City_passMinute_b0540_75 I)) (lv' := [(0, .inr (.inr (some 513))), (1, .inl _)]) (And.intro rfl (And.intro rfl True.intro)) ⟨_, rfl, rfl, ⟨by omega, (nf_row hx0 (by omega) (by omega) s75), (okA_fr cA512_ok fhB93 (by decide +kernel) hx1), (okB_fr cB512_ok fhB93 (by decide +kernel) ((cR_rng (d := 512) (i0 := 13) (i1 := 13) (m := 1) (q := 0) (lo := 0) (hi := 90) (by decide +kernel) (fBz h0 hB1) (by omega)).2) hx2), hx3⟩, rfl⟩ (by omega)
  · have hB0 := fB_self (zn := znJ) (K := fKc wz_f7c52) h0
    have b99 := fBd fb_675_13 (fBz h0 hB0)
    have b100 := fBd fb_689_4 (fBz h0 hB0)
    refine And.intro ⟨rfl, by decide, by decide⟩ ?_
    refine And.intro ⟨rfl, by decide, by decide⟩ (fgetf fb_513_9 h0 hB0 ?_)
    intro z101 lz101 uz101 qz101
    have v5 := cL_f (d := 512) (a := 1) (j := 9) (r := 0) (p := 0) (by decide +kernel) (by decide) qz101 rfl
    refine Exists.intro xm_74 (And.intro mi_74 (And.intro ⟨rfl, rfl, rfl, rfl⟩ (And.intro rfl ?_)))
    refine fcall _ h0 (fzs_sub (by decide +kernel) hW) hB0 (ct_Cells_takeReports_88f4c (fBz h0 hB0) (by first | exact ⟨lz101, uz101⟩ | omega) (gt_at v5 (by omega)) hp1) ?_
    rintro IhB103 _ hB103 fhB103 ⟨rfl, hz102, g0z102⟩
    have t104 := fhB103 513 9 (by decide +kernel)
    have k105 := fBz_eq hB103 (a := 675) (j := 13) (by decide +kernel)
    have k106 := fBz_eq hB103 (a := 689) (j := 4) (by decide +kernel)
    have k107 := fBz_eq hB103 (a := 675) (j := 13) (by decide +kernel)
    have w7 : I 675 13 = gt (cR 512 I) 7 := (cL_f (d := 512) (a := 163) (j := 13) (r := 7) (p := 7) (I := I) (z := I 675 13) (by decide +kernel) (by decide) rfl rfl)
    exact fcutJ (I := IhB103) (j := (jc_City_passMinute_b0540_13 I)) (lv' := [(0, .inr (.inr (some 513))), (1, .inl _)]) (And.intro rfl (And.intro rfl True.intro)) ⟨_, rfl, rfl, ⟨by omega, g0z102, (okA_fr cA512_ok fhB103 (by decide +kernel) hp0), (by rw [g0z102]; exact (okB_come hp1 ((cR_rng (d := 512) (i0 := 13) (i1 := 13) (m := 1) (q := 0) (lo := 0) (hi := 90) (by decide +kernel) h0 (by omega)).1)).1), (((okB_come hp1 ((cR_rng (d := 512) (i0 := 13) (i1 := 13) (m := 1) (q := 0) (lo := 0) (hi := 90) (by decide +kernel) h0 (by omega)).1)).2 7 (by omega) (by omega) (by omega)).trans w7.symm)⟩, rfl⟩ (by omega)
end CT

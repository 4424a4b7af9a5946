set_option linter.all false
/-! contracts (written by gen95.py) -/
abbrev wz_2d739 : List Nat := [728, 729, 11900]
theorem x6_184 : f60c xTc xTys xm_184 = true := by decide +kernel
theorem rS_729_729_0_23_1_0 : frS gJ bsJ znJ [729] 100 ((729, 729), (0, 23), (1, 0), ((-2147483648), 2147483647)) := frS_dflt (by decide) (by decide +kernel)
theorem fb_727_0 : bsJ 727 0 = ((-2147483648), 2147483647) := by decide +kernel
theorem x6_180 : f60c xTc xTys xm_180 = true := by decide +kernel
abbrev wz_06305 : List Nat := [728, 729, 731]
theorem x6_179 : f60c xTc xTys xm_179 = true := by decide +kernel
theorem fb_731_0 : bsJ 731 0 = (0, 0) := by decide +kernel
theorem rS_731_731_1_48_1_0 : frS gJ bsJ znJ [731] 100 ((731, 731), (1, 48), (1, 0), ((-2147483648), 2147483647)) := frS_of (by decide +kernel)
abbrev wz_81562 : List Nat := [728, 729, 730, 731, 11900, 11901, 11906, 11907]
theorem x6_178 : f60c xTc xTys xm_178 = true := by decide +kernel
theorem fb_727_1 : bsJ 727 1 = ((-2147483648), 2147483647) := by decide +kernel
theorem x6_177 : f60c xTc xTys xm_177 = true := by decide +kernel
theorem x6_458 : f60c xTc xTys xm_458 = true := by decide +kernel
abbrev wz_69d61 : List Nat := [12227, 12228]
theorem x6_460 : f60c xTc xTys xm_460 = true := by decide +kernel
theorem fb_740_28 : bsJ 740 28 = ((-2147483648), 2147483647) := by decide +kernel
theorem fb_740_27 : bsJ 740 27 = ((-2147483648), 2147483647) := by decide +kernel
theorem x6_459 : f60c xTc xTys xm_459 = true := by decide +kernel
theorem rL_754_754_0_23_1_0 : frL gJ bsJ 100 ((754, 754), (0, 23), (1, 0), ((-2147483648), 2147483647)) := frL_hull (by decide) (by decide +kernel)
theorem rL_755_755_0_23_1_0 : frL gJ bsJ 100 ((755, 755), (0, 23), (1, 0), ((-2147483648), 2147483647)) := frL_hull (by decide) (by decide +kernel)
theorem x6_457 : f60c xTc xTys xm_457 = true := by decide +kernel
theorem x6_456 : f60c xTc xTys xm_456 = true := by decide +kernel
abbrev wz_e4773 : List Nat := [754, 755, 12227, 12228, 12229]
theorem x6_455 : f60c xTc xTys xm_455 = true := by decide +kernel
theorem fb_740_29 : bsJ 740 29 = ((-2147483648), 2147483647) := by decide +kernel
theorem rS_754_754_0_23_1_0 : frS gJ bsJ znJ [754] 100 ((754, 754), (0, 23), (1, 0), ((-2147483648), 2147483647)) := frS_dflt (by decide) (by decide +kernel)
theorem rS_755_755_0_23_1_0 : frS gJ bsJ znJ [755] 100 ((755, 755), (0, 23), (1, 0), ((-2147483648), 2147483647)) := frS_dflt (by decide) (by decide +kernel)
theorem x6_454 : f60c xTc xTys xm_454 = true := by decide +kernel
theorem x6_185 : f60c xTc xTys xm_185 = true := by decide +kernel
theorem x6_461 : f60c xTc xTys xm_461 = true := by decide +kernel
abbrev wz_2a2bc : List Nat := [223]
theorem rL_223_223_0_3_1_0 : frL gJ bsJ 100 ((223, 223), (0, 3), (1, 0), (0, 99)) := frL_of (by decide +kernel)
theorem rS_223_223_0_3_1_0 : frS gJ bsJ znJ [223] 100 ((223, 223), (0, 3), (1, 0), (0, 99)) := frS_of (by decide +kernel)
theorem x6_186 : f60c xTc xTys xm_186 = true := by decide +kernel
abbrev wz_0a5ca : List Nat := [20833]
theorem rL_741_741_4560_4563_1_0 : frL gJ bsJ 100 ((741, 741), (4560, 4563), (1, 0), (0, 99)) := frL_of (by decide +kernel)
theorem rS_741_741_4560_4563_1_0 : frS gJ bsJ znJ [20833] 100 ((741, 741), (4560, 4563), (1, 0), (0, 99)) := frS_of (by decide +kernel)
theorem x6_462 : f60c xTc xTys xm_462 = true := by decide +kernel
abbrev wz_e3030 : List Nat := [224]
theorem rL_225_248_0_3_1_0 : frL gJ bsJ 100 ((225, 248), (0, 3), (1, 0), (0, 999)) := frL_of (by decide +kernel)
theorem rS_225_248_0_3_1_0 : frS gJ bsJ znJ [224] 100 ((225, 248), (0, 3), (1, 0), (0, 999)) := frS_of (by decide +kernel)
theorem x6_187 : f60c xTc xTys xm_187 = true := by decide +kernel
abbrev wz_ad4fa : List Nat := [20834]
theorem rL_741_741_4570_4665_4_3 : frL gJ bsJ 100 ((741, 741), (4570, 4665), (4, 3), (0, 999)) := frL_of (by decide +kernel)
theorem rS_741_741_4570_4665_4_3 : frS gJ bsJ znJ [20834] 100 ((741, 741), (4570, 4665), (4, 3), (0, 999)) := frS_of (by decide +kernel)
theorem x6_463 : f60c xTc xTys xm_463 = true := by decide +kernel
abbrev wz_61c55 : List Nat := [733, 734]
theorem x6_190 : f60c xTc xTys xm_190 = true := by decide +kernel
theorem rS_733_733_0_300_1_0 : frS gJ bsJ znJ [733] 100 ((733, 733), (0, 300), (1, 0), ((-2147483648), 2147483647)) := frS_dflt (by decide) (by decide +kernel)
theorem rS_734_734_0_300_1_0 : frS gJ bsJ znJ [734] 101 ((734, 734), (0, 300), (1, 0), ((-9223372036854775808), 9223372036854775807)) := frS_of (by decide +kernel)
theorem rL_733_733_0_300_1_0 : frL gJ bsJ 100 ((733, 733), (0, 300), (1, 0), ((-2147483648), 2147483647)) := frL_hull (by decide) (by decide +kernel)
theorem rL_734_734_0_300_1_0 : frL gJ bsJ 101 ((734, 734), (0, 300), (1, 0), ((-9223372036854775808), 9223372036854775807)) := frL_hull (by decide) (by decide +kernel)
theorem x6_189 : f60c xTc xTys xm_189 = true := by decide +kernel
theorem x6_188 : f60c xTc xTys xm_188 = true := by decide +kernel
theorem x6_467 : f60c xTc xTys xm_467 = true := by decide +kernel
theorem rL_741_741_4570_4665_1_0 : frL gJ bsJ 100 ((741, 741), (4570, 4665), (1, 0), (0, 999)) := frL_of (by decide +kernel)
theorem rL_756_756_0_7524_1_0 : frL gJ bsJ 100 ((756, 756), (0, 7524), (1, 0), (0, 1000000)) := frL_of (by decide +kernel)
abbrev wz_ce28c : List Nat := [756]
theorem x6_466 : f60c xTc xTys xm_466 = true := by decide +kernel
theorem rS_756_756_0_7524_1_0 : frS gJ bsJ znJ [756] 100 ((756, 756), (0, 7524), (1, 0), (0, 1000000)) := frS_of (by decide +kernel)
theorem x6_465 : f60c xTc xTys xm_465 = true := by decide +kernel
theorem x6_464 : f60c xTc xTys xm_464 = true := by decide +kernel
theorem x6_192 : f60c xTc xTys xm_192 = true := by decide +kernel
theorem x6_191 : f60c xTc xTys xm_191 = true := by decide +kernel
theorem x6_469 : f60c xTc xTys xm_469 = true := by decide +kernel
theorem x6_468 : f60c xTc xTys xm_468 = true := by decide +kernel
theorem x6_193 : f60c xTc xTys xm_193 = true := by decide +kernel
theorem x6_470 : f60c xTc xTys xm_470 = true := by decide +kernel
theorem rL_741_741_42_427_20_5 : frL gJ bsJ 100 ((741, 741), (42, 427), (20, 5), ((-2147483648), 2147483647)) := frL_hull (by decide) (by decide +kernel)
abbrev wz_f0603 : List Nat := [249, 250, 251, 10608]
theorem x6_195 : f60c xTc xTys xm_195 = true := by decide +kernel
theorem fb_211_8 : bsJ 211 8 = (0, 6) := by decide +kernel
theorem rS_249_249_0_5_1_0 : frS gJ bsJ znJ [249] 100 ((249, 249), (0, 5), (1, 0), (0, 9999)) := frS_of (by decide +kernel)
theorem rS_250_250_0_5_1_0 : frS gJ bsJ znJ [250] 100 ((250, 250), (0, 5), (1, 0), (0, 9999)) := frS_of (by decide +kernel)
theorem rS_251_251_0_5_1_0 : frS gJ bsJ znJ [251] 100 ((251, 251), (0, 5), (1, 0), (0, 999)) := frS_of (by decide +kernel)
theorem x6_194 : f60c xTc xTys xm_194 = true := by decide +kernel
abbrev wz_ac3fb : List Nat := [20010, 20800, 20801, 20802]
theorem x6_471 : f60c xTc xTys xm_471 = true := by decide +kernel
theorem fb_741_10 : bsJ 741 10 = (0, 6) := by decide +kernel
theorem rL_741_741_10_10_1_0 : frL gJ bsJ 100 ((741, 741), (10, 10), (1, 0), (0, 6)) := frL_of (by decide +kernel)
theorem rS_741_741_4330_4345_3_0 : frS gJ bsJ znJ [20800] 100 ((741, 741), (4330, 4345), (3, 0), (0, 9999)) := frS_of (by decide +kernel)
theorem rS_741_741_4331_4346_3_0 : frS gJ bsJ znJ [20801] 100 ((741, 741), (4331, 4346), (3, 0), (0, 9999)) := frS_of (by decide +kernel)
theorem rS_741_741_4332_4347_3_0 : frS gJ bsJ znJ [20802] 100 ((741, 741), (4332, 4347), (3, 0), (0, 999)) := frS_of (by decide +kernel)
theorem rS_741_741_10_10_1_0 : frS gJ bsJ znJ [20010] 100 ((741, 741), (10, 10), (1, 0), (0, 6)) := frS_of (by decide +kernel)
theorem x6_500 : f60c xTc xTys xm_500 = true := by decide +kernel
theorem x6_197 : f60c xTc xTys xm_197 = true := by decide +kernel
theorem rL_250_250_0_5_1_0 : frL gJ bsJ 100 ((250, 250), (0, 5), (1, 0), (0, 9999)) := frL_of (by decide +kernel)
theorem rL_251_251_0_5_1_0 : frL gJ bsJ 100 ((251, 251), (0, 5), (1, 0), (0, 999)) := frL_of (by decide +kernel)
theorem rL_249_249_0_5_1_0 : frL gJ bsJ 100 ((249, 249), (0, 5), (1, 0), (0, 9999)) := frL_of (by decide +kernel)
theorem x6_196 : f60c xTc xTys xm_196 = true := by decide +kernel
theorem x6_472 : f60c xTc xTys xm_472 = true := by decide +kernel
theorem rL_741_741_4331_4346_3_0 : frL gJ bsJ 100 ((741, 741), (4331, 4346), (3, 0), (0, 9999)) := frL_of (by decide +kernel)
theorem rL_741_741_4332_4347_3_0 : frL gJ bsJ 100 ((741, 741), (4332, 4347), (3, 0), (0, 999)) := frL_of (by decide +kernel)
theorem rL_741_741_4330_4345_3_0 : frL gJ bsJ 100 ((741, 741), (4330, 4345), (3, 0), (0, 9999)) := frL_of (by decide +kernel)
abbrev wz_8f79a : List Nat := [252, 253, 10611]
theorem x6_199 : f60c xTc xTys xm_199 = true := by decide +kernel
theorem fb_211_11 : bsJ 211 11 = (0, 10) := by decide +kernel
theorem rS_252_252_0_9_1_0 : frS gJ bsJ znJ [252] 100 ((252, 252), (0, 9), (1, 0), (0, 9999)) := frS_of (by decide +kernel)
theorem rS_253_253_0_9_1_0 : frS gJ bsJ znJ [253] 100 ((253, 253), (0, 9), (1, 0), (0, 999)) := frS_of (by decide +kernel)
theorem x6_198 : f60c xTc xTys xm_198 = true := by decide +kernel
section CT
variable {ρ : Nat → Int32} {base n : Nat} {F : Nat → Prop} {D : va_G} {dA : Nat → ClassId} {la : Launch}
abbrev jc_Rounds_wearAll_7293e_2 (x2 : Int) (I0 : fH) : Nat → fL → List fV → fH → Prop := fun m lv st I => ∃ (y2 : Int) (y3 : Int), lv = [(0, .inr (.inr (some 727))), (1, .inr (.inr (some 163))), (2, .inl y2), (3, .inl y3)] ∧ st = [] ∧ (((0 ≤ y2 ∧ y2 ≤ 47) ∧ (0 ≤ y3 ∧ y3 ≤ 24) ∧ (y2 = x2) ∧ (y3 ≤ I0 163 13)) ∧ (rnM 24 (skW (cR 0 I0)) (6 * rnW (I0 222) x2.toNat / 10) (I0 728) (I0 729) (I 728) (I 729) y3) ∧ (I 727 0 = cI (I0 727 0 = -1000000005 ∧ rnY (skW (cR 0 I0)) (rnL (skW (cR 0 I0)) (6 * rnW (I0 222) x2.toNat / 10) (I0 728) (I0 729)) (I0 727 7) y3.toNat) x2 (I0 727 0))) ∧ m = (1 + 1 * (24 - y3) : Int).toNat
set_option maxRecDepth 8000 in
theorem ct_Rounds_wearAll_7293e {I : fH} {x2 : Int} (h0 : fB bsJ I) (ha2 : (0 ≤ x2 ∧ x2 ≤ 47)) (hp0 : rnA (rnW (I 222)) (I 731) (I 727 6)) (hp1 : rnB 24 (I 728) (I 729) 90000 190000) (hp2 : x2 + 1 ≤ I 727 6) : fC ρ base n F xTc vwCl xTys D dA la gJ (fbz bsJ znJ (fKc wz_2d739) I) xm_184 [.inr (.inr (some 727)), .inr (.inr (some 163)), .inl x2] I (fun I' r => r = none ∧ True ∧ (rnM 24 (skW (cR 0 I)) (6 * rnW (I 222) x2.toNat / 10) (I 728) (I 729) (I' 728) (I' 729) (gt (cR 0 I) 7)) ∧ (I' 727 0 = cI (I 727 0 = -1000000005 ∧ rnY (skW (cR 0 I)) (rnL (skW (cR 0 I)) (6 * rnW (I 222) x2.toNat / 10) (I 728) (I 729)) (I 727 7) (gt (cR 0 I) 7).toNat) x2 (I 727 0))) := by
  have hW : fzs wz_2d739 (fKc wz_2d739) := fKc_ok _
  refine f_meth (rb := rbJ) (J := [(2, (jc_Rounds_wearAll_7293e_2 x2 I))]) 26 400 xG xin_184 x6_184 okJ (fB_self h0) ?_ ?_
  · refine List.forall_mem_cons.mpr ⟨?_, fun q h => absurd h List.not_mem_nil⟩
    · rintro m _ _ I1 hB1 ⟨y2, y3, rfl, rfl, ⟨hb, hx0, hx1⟩, hm⟩
      have k1 := fBz_eq hB1 (a := 163) (j := 13) (by decide +kernel)
      have k2 := fBz_eq hB1 (a := 727) (j := 6) (by decide +kernel)
      have k3 := fBz_eq hB1 (a := 727) (j := 7) (by decide +kernel)
      have b4 := fBd fb_163_13 (fBz h0 hB1)
      have b5 := fBd fb_727_6 (fBz h0 hB1)
      have e22 : I1 222 = I 222 := (funext (fFr_at (fFr_of hB1) 222 (by decide +kernel) rfl))
      have e31 : I1 731 = I 731 := (funext (fFr_at (fFr_of hB1) 731 (by decide +kernel) rfl))
      have cR1 : cR 0 I1 = cR 0 I := (cR_fr (d := 0) cZ0_ok (fFr_of hB1) (by decide +kernel))
      have s7 : I1 727 7 = I 727 7 := fBz_eq hB1 (by decide +kernel)
      have s6 : I1 727 6 = I 727 6 := fBz_eq hB1 (by decide +kernel)
      refine And.intro ⟨rfl, by decide, by decide⟩ (fgetf fb_163_13 h0 hB1 ?_)
      intro z6 lz6 uz6 qz6
      have v4 := cL_f (d := 0) (a := 163) (j := 13) (r := 7) (p := 7) (by decide +kernel) (by decide) qz6 rfl
      refine And.intro (And.intro (by first | exact fi_ hb.2.1.1 hb.2.1.2 rfl | omega) (by first | exact fi_ lz6 uz6 rfl | omega)) (And.intro ?_ ?_)
      · intro c7
        have w7 := (cL_f (d := 0) (a := 163) (j := 13) (r := 7) (p := 7) (I := I) (z := I 163 13) (by decide +kernel) (by decide) rfl rfl)
        exact ⟨rfl, True.intro, (by rw [show gt (cR 0 I) 7 = y3 by omega]; exact hx0), (by rw [show gt (cR 0 I) 7 = y3 by omega]; exact hx1)⟩
      · intro c8
        refine Exists.intro xm_64 (And.intro mi_64 (And.intro ⟨rfl, rfl, rfl, rfl⟩ (And.intro rfl ?_)))
        refine fcallp hB1 (ct_Works_isSkin_801f8 (fBz h0 hB1) (by first | exact ⟨hb.2.1.1, Int.le_trans (Int.le_sub_one_of_lt (Int.lt_of_lt_of_le c8 uz6)) (by decide)⟩ | omega)) ?_
        rintro _ ⟨z9, rfl, hz9, g0z9⟩
        rw [cR1] at g0z9
        refine And.intro (by omega) (And.intro ?_ ?_)
        · intro c10
          exact fcutJ (I := I1) (j := (jc_Rounds_wearAll_7293e_2 x2 I)) (lv' := [(0, .inr (.inr (some 727))), (1, .inr (.inr (some 163))), (2, .inl _), (3, .inl _)]) (And.intro rfl (And.intro rfl (And.intro rfl (And.intro rfl True.intro)))) ⟨_, _, rfl, rfl, ⟨by omega, (rnM_no hx0 (by omega) (show ¬ skW (cR 0 I) y3.toNat from by have q := (g0z9.elim (fun q => absurd q.1 (by omega)) (fun q => q.2)); rw [show y3 = ((y3.toNat : Nat) : Int) by omega] at q; exact q) (by omega)), (rnY_f (by omega) hx1 (Or.inl (fun q => absurd q.1 (show ¬ skW (cR 0 I) y3.toNat from by have q := (g0z9.elim (fun q => absurd q.1 (by omega)) (fun q => q.2)); rw [show y3 = ((y3.toNat : Nat) : Int) by omega] at q; exact q))) (by omega) (by omega))⟩, rfl⟩ (by omega)
        · intro c11
          have hs := (show skW (cR 0 I) y3.toNat from by have q := (g0z9.elim (fun q => q.2) (fun q => absurd q.1 (by omega))); rw [show y3 = ((y3.toNat : Nat) : Int) by omega] at q; exact q)
          have o0 := (hx0 y3.toNat (by omega)).2 (by omega)
          have b0 := hp1 y3.toNat (by omega)
          refine And.intro ⟨rfl, by decide, by decide⟩ ?_
          refine fload1 rL_729_729_0_23_1_0 h0 hB1 ⟨by decide, by decide⟩ (by first | exact ⟨hb.2.1.1, Int.le_trans (Int.le_sub_one_of_lt (Int.lt_of_lt_of_le c8 uz6)) (by decide)⟩ | omega) ?_
          intro z12 lz12 uz12 qz12
          refine And.intro ⟨rfl, by decide, by decide⟩ ?_
          refine fload rL_731_731_1_48_1_0 h0 hB1 (by omega) ?_
          intro z13 lz13 uz13 qz13
          have a1 := hp0 (x2.toNat + 1) (by omega)
          have a0 := hp0 x2.toNat (by omega)
          have ss : rnS (rnW (I 222)) (x2.toNat + 1) = rnS (rnW (I 222)) x2.toNat + 6 * rnW (I 222) x2.toNat / 10 := rfl
          have w22 : rnW (I 222) x2.toNat = I 222 x2.toNat := rnW_at (by omega)
          have ad := a1.2.2.2 x2.toNat (by omega)
          have w31 : z13 = I 731 (x2.toNat + 1) := (fld_at qz13 (x2.toNat + 1) (by omega)).trans (by rw [e31])
          have c22 : 0 ≤ I 222 x2.toNat ∧ I 222 x2.toNat ≤ 999 := (frL_at rL_222_222_0_47_1_0 h0 (a := 222) (i := x2) (by omega)).2
          intro z14 hz14 ez14 bz14
          clear ez14
          try replace bz14 := bz14 (by omega)
          refine And.intro ⟨rfl, by decide, by decide⟩ ?_
          refine fload1 rL_731_731_0_47_1_0 h0 hB1 ⟨by decide, by decide⟩ (by first | exact ⟨hb.1.1, hb.1.2⟩ | omega) ?_
          intro z15 lz15 uz15 qz15
          have w38 : z15 = I 731 x2.toNat := (fld_at qz15 x2.toNat (by omega)).trans (by rw [e31])
          intro z16 hz16 ez16 bz16
          clear ez16
          try replace bz16 := bz16 (by omega)
          refine And.intro ⟨rfl, by decide, by decide⟩ ?_
          refine fload1 rL_728_728_0_23_1_0 h0 hB1 ⟨by decide, by decide⟩ (by first | exact ⟨hb.2.1.1, Int.le_trans (Int.le_sub_one_of_lt (Int.lt_of_lt_of_le c8 uz6)) (by decide)⟩ | omega) ?_
          intro z17 lz17 uz17 qz17
          refine And.intro (And.intro (by omega) (And.intro (by first | exact ⟨by decide, by decide⟩ | omega) (And.intro (by first | exact by decide | omega) rfl))) ?_
          intro z18 hz18 ez18 dz18
          have dz18 := dz18 (by omega) (by omega)
          change _ = _ / _ at dz18
          intro z19 hz19 ez19 bz19
          clear ez19
          try replace bz19 := bz19 (by omega)
          refine fstore1 rS_728_728_0_23_1_0 (fzs_sub (by decide +kernel) hW) ⟨by decide, by decide⟩ (by first | exact ⟨hb.2.1.1, Int.le_trans (Int.le_sub_one_of_lt (Int.lt_of_lt_of_le c8 uz6)) (by decide)⟩ | omega) (by omega) ?_
          intro IhB20 ehB20 hB20
          have t21 := fup_self ehB20
          have t22 : IhB20 163 13 = I1 163 13 := (congrFun (congrFun ehB20 163) 13).trans (fup_ne (by first | exact Or.inl (by decide) | omega))
          have t23 : IhB20 727 0 = I1 727 0 := (congrFun (congrFun ehB20 727) 0).trans (fup_ne (by first | exact Or.inl (by decide) | omega))
          have k24 := fBz_eq hB20 (a := 163) (j := 13) (by decide +kernel)
          have k25 := fBz_eq hB20 (a := 727) (j := 6) (by decide +kernel)
          have k26 := fBz_eq hB20 (a := 727) (j := 7) (by decide +kernel)
          have r55 := cR_ot (d := 0) ehB20 (by decide)
          refine And.intro ⟨rfl, by decide, by decide⟩ ?_
          refine And.intro (And.intro (by omega) (And.intro (by first | exact ⟨by decide, by decide⟩ | omega) (And.intro (by first | exact by decide | omega) rfl))) ?_
          intro z27 hz27 ez27 dz27
          have dz27 := dz27 (by omega) (by omega)
          change _ = _ % _ at dz27
          refine fstore1 rS_729_729_0_23_1_0 (fzs_sub (by decide +kernel) hW) ⟨by decide, by decide⟩ (by first | exact ⟨hb.2.1.1, Int.le_trans (Int.le_sub_one_of_lt (Int.lt_of_lt_of_le c8 uz6)) (by decide)⟩ | omega) (by omega) ?_
          intro IhB28 ehB28 hB28
          have t29 := fup_self ehB28
          have t30 : IhB28 163 13 = IhB20 163 13 := (congrFun (congrFun ehB28 163) 13).trans (fup_ne (by first | exact Or.inl (by decide) | omega))
          have t31 : IhB28 727 0 = IhB20 727 0 := (congrFun (congrFun ehB28 727) 0).trans (fup_ne (by first | exact Or.inl (by decide) | omega))
          have k32 := fBz_eq hB28 (a := 163) (j := 13) (by decide +kernel)
          have k33 := fBz_eq hB28 (a := 727) (j := 6) (by decide +kernel)
          have k34 := fBz_eq hB28 (a := 727) (j := 7) (by decide +kernel)
          have r66 := cR_ot (d := 0) ehB28 (by decide)
          refine And.intro ⟨rfl, by decide, by decide⟩ ?_
          refine fload1 rL_728_728_0_23_1_0 h0 hB28 ⟨by decide, by decide⟩ (by first | exact ⟨hb.2.1.1, Int.le_trans (Int.le_sub_one_of_lt (Int.lt_of_lt_of_le c8 uz6)) (by decide)⟩ | omega) ?_
          intro z35 lz35 uz35 qz35
          refine And.intro ⟨rfl, by decide, by decide⟩ (fgetf fb_727_7 h0 hB28 ?_)
          intro z36 lz36 uz36 qz36
          refine And.intro (And.intro (by first | exact fi_ lz35 uz35 rfl | omega) (by first | exact fi_ lz36 uz36 rfl | omega)) (And.intro ?_ ?_)
          · intro c37
            exact fcutJ (I := IhB28) (j := (jc_Rounds_wearAll_7293e_2 x2 I)) (lv' := [(0, .inr (.inr (some 727))), (1, .inr (.inr (some 163))), (2, .inl _), (3, .inl _)]) (And.intro rfl (And.intro rfl (And.intro rfl (And.intro rfl True.intro)))) ⟨_, _, rfl, rfl, ⟨by omega, (rnM_y hx0 (by omega) hs (by omega) (fun j q => (fup_other ehB28 728 j (Or.inl (by decide))).trans (fup_other ehB20 728 j (Or.inr (by omega)))) (fun j q => (fup_other ehB28 729 j (Or.inr (by omega))).trans (fup_other ehB20 729 j (Or.inl (by decide)))) (((fup_other ehB28 728 _ (Or.inl (by decide))).trans (fup_at ehB20 y3.toNat (by omega))).trans (by omega)) ((fup_at ehB28 y3.toNat (by omega)).trans (by omega))), (rnY_f (by omega) ((fup_other ehB28 727 0 (Or.inl (by decide))).trans ((fup_other ehB20 727 0 (Or.inl (by decide))).trans hx1)) (Or.inl (fun q => by have q2 := q.2; rw [(rnL_at hs).1] at q2; have s71 := qz35; have f71 := (fup_other ehB28 728 y3.toNat (Or.inl (by decide))).trans (fup_at ehB20 y3.toNat (by omega)); omega)) (by omega) (by omega))⟩, rfl⟩ (by omega)
          · intro c38
            refine And.intro ⟨rfl, by decide, by decide⟩ (fgetf fb_727_0 h0 hB28 ?_)
            intro z39 lz39 uz39 qz39
            refine And.intro (And.intro (by first | exact fi_ lz39 uz39 rfl | omega) (by first | exact ⟨by decide, by decide⟩ | omega)) (And.intro ?_ ?_)
            · intro c40
              exact fcutJ (I := IhB28) (j := (jc_Rounds_wearAll_7293e_2 x2 I)) (lv' := [(0, .inr (.inr (some 727))), (1, .inr (.inr (some 163))), (2, .inl _), (3, .inl _)]) (And.intro rfl (And.intro rfl (And.intro rfl (And.intro rfl True.intro)))) ⟨_, _, rfl, rfl, ⟨by omega, (rnM_y hx0 (by omega) hs (by omega) (fun j q => (fup_other ehB28 728 j (Or.inl (by decide))).trans (fup_other ehB20 728 j (Or.inr (by omega)))) (fun j q => (fup_other ehB28 729 j (Or.inr (by omega))).trans (fup_other ehB20 729 j (Or.inl (by decide)))) (((fup_other ehB28 728 _ (Or.inl (by decide))).trans (fup_at ehB20 y3.toNat (by omega))).trans (by omega)) ((fup_at ehB28 y3.toNat (by omega)).trans (by omega))), (rnY_f (by omega) ((fup_other ehB28 727 0 (Or.inl (by decide))).trans ((fup_other ehB20 727 0 (Or.inl (by decide))).trans hx1)) (Or.inr (by omega)) (by omega) (by omega))⟩, rfl⟩ (by omega)
            · intro c41
              have hl : rnL (skW (cR 0 I)) (6 * rnW (I 222) x2.toNat / 10) (I 728) (I 729) y3.toNat < I 727 7 := by rw [(rnL_at hs).1]; have s71 := qz35; have f71 := (fup_other ehB28 728 y3.toNat (Or.inl (by decide))).trans (fup_at ehB20 y3.toNat (by omega)); omega
              refine And.intro ⟨rfl, by decide, by decide⟩ (And.intro rfl (And.intro (Or.inl rfl) (fputf fb_727_0 (by decide +kernel) hW (by first | exact ⟨Int.le_trans (by decide) hb.1.1, Int.le_trans hb.1.2 (by decide)⟩ | omega) ?_)))
              intro IhB42 ehB42 hB42
              have t43 : IhB42 163 13 = IhB28 163 13 := (congrFun (congrFun ehB42 163) 13).trans (fup_ne (by first | decide | omega))
              have t44 := fup_at ehB42 0 (by first | rfl | omega)
              have k45 := fBz_eq hB42 (a := 163) (j := 13) (by decide +kernel)
              have k46 := fBz_eq hB42 (a := 727) (j := 6) (by decide +kernel)
              have k47 := fBz_eq hB42 (a := 727) (j := 7) (by decide +kernel)
              have r91 := cR_ot (d := 0) ehB42 (by decide)
              exact fcutJ (I := IhB42) (j := (jc_Rounds_wearAll_7293e_2 x2 I)) (lv' := [(0, .inr (.inr (some 727))), (1, .inr (.inr (some 163))), (2, .inl _), (3, .inl _)]) (And.intro rfl (And.intro rfl (And.intro rfl (And.intro rfl True.intro)))) ⟨_, _, rfl, rfl, ⟨by omega, (rnM_y hx0 (by omega) hs (by omega) (fun j q => (fup_other ehB42 728 j (Or.inl (by decide))).trans ((fup_other ehB28 728 j (Or.inl (by decide))).trans (fup_other ehB20 728 j (Or.inr (by omega))))) (fun j q => (fup_other ehB42 729 j (Or.inl (by decide))).trans ((fup_other ehB28 729 j (Or.inr (by omega))).trans (fup_other ehB20 729 j (Or.inl (by decide))))) (((fup_other ehB42 728 _ (Or.inl (by decide))).trans ((fup_other ehB28 728 _ (Or.inl (by decide))).trans (fup_at ehB20 y3.toNat (by omega)))).trans (by omega)) (((fup_other ehB42 729 _ (Or.inl (by decide))).trans (fup_at ehB28 y3.toNat (by omega))).trans (by omega))), (rnY_t (by omega) ((fup_other ehB28 727 0 (Or.inl (by decide))).trans ((fup_other ehB20 727 0 (Or.inl (by decide))).trans hx1)) hs hl (by omega) (by omega) (by omega) ((fup_self ehB42).trans (by omega)))⟩, rfl⟩ (by omega)
  · have hB0 := fB_self (zn := znJ) (K := fKc wz_2d739) h0
    have b48 := fBd fb_163_13 (fBz h0 hB0)
    have b49 := fBd fb_727_6 (fBz h0 hB0)
    exact fcutJ (I := I) (j := (jc_Rounds_wearAll_7293e_2 x2 I)) (lv' := [(0, .inr (.inr (some 727))), (1, .inr (.inr (some 163))), (2, .inl _), (3, .inl _)]) (And.intro rfl (And.intro rfl (And.intro rfl (And.intro rfl True.intro)))) ⟨_, _, rfl, rfl, ⟨by omega, (rnM_0 (by omega) (fun j _ => rfl) (fun j _ => rfl)), (rnY_z (by omega) rfl)⟩, rfl⟩ (by omega)
abbrev jc_People_ableFitters_3cb68_4 (I0 : fH) : Nat → fL → List fV → fH → Prop := fun m lv st I => ∃ (y1 : Int) (y2 : Int), lv = [(0, .inr (.inr (some 177))), (1, .inl y1), (2, .inl y2)] ∧ st = [] ∧ (((0 ≤ y1 ∧ y1 ≤ 24) ∧ (0 ≤ y2 ∧ y2 ≤ 24) ∧ (y2 ≤ I0 177 4) ∧ (0 ≤ y1) ∧ (y1 ≤ y2)) ∧ (y1 = sm (sFi (cR 0 I0)) y2.toNat)) ∧ m = (1 + 1 * (24 - y2) : Int).toNat
set_option maxRecDepth 8000 in
theorem ct_People_ableFitters_3cb68 {I : fH}  (h0 : fB bsJ I)  : fC ρ base n F xTc vwCl xTys D dA la gJ (fbz bsJ znJ (fKc []) I) xm_180 [.inr (.inr (some 177))] I (fun _ r => ∃ z, r = some (.inl z) ∧ (0 ≤ z ∧ z ≤ 24) ∧ (z = sm (sFi (cR 0 I)) (gt (cR 0 I) 8).toNat)) := by
  have hW : fzs [] (fKc []) := fKc_ok _
  refine f_meth (rb := rbJ) (J := [(4, (jc_People_ableFitters_3cb68_4 I))]) 26 400 xG xin_180 x6_180 okJ (fB_self h0) ?_ ?_
  · refine List.forall_mem_cons.mpr ⟨?_, fun q h => absurd h List.not_mem_nil⟩
    · rintro m _ _ I1 hB1 ⟨y1, y2, rfl, rfl, ⟨hb, hx0⟩, hm⟩
      have eJ : I1 = I := fFr_nil (fFr_of hB1)
      have k1 := fBz_eq hB1 (a := 177) (j := 4) (by decide +kernel)
      have b2 := fBd fb_177_4 (fBz h0 hB1)
      refine And.intro ⟨rfl, by decide, by decide⟩ (fgetf fb_177_4 h0 hB1 ?_)
      intro z3 lz3 uz3 qz3
      have v6 := cL_f (d := 0) (a := 177) (j := 4) (r := 8) (p := 8) (by decide +kernel) (by decide) qz3 rfl
      rw [eJ] at v6
      refine And.intro (And.intro (by first | exact fi_ hb.2.1.1 hb.2.1.2 rfl | omega) (by first | exact fi_ lz3 uz3 rfl | omega)) (And.intro ?_ ?_)
      · intro c4
        refine And.intro (True.intro) ?_
        have w8 := (cL_f (d := 0) (a := 177) (j := 4) (r := 8) (p := 8) (I := I) (z := I 177 4) (by decide +kernel) (by decide) rfl rfl)
        exact ⟨_, rfl, (by first | exact ⟨hb.1.1, hb.1.2⟩ | omega), (sm_fin hx0 (by omega))⟩
      · intro c5
        refine And.intro ⟨rfl, by decide, by decide⟩ ?_
        refine fload1 rL_179_179_0_23_1_0 h0 hB1 ⟨by decide, by decide⟩ (by first | exact ⟨hb.2.1.1, Int.le_trans (Int.le_sub_one_of_lt (Int.lt_of_lt_of_le c5 uz3)) (by decide)⟩ | omega) ?_
        intro z6 lz6 uz6 qz6
        have v17 := cL_a (d := 0) (a := 179) (n := 24) (b := 871) (m := 6) (by decide +kernel) (by decide) qz6 (by omega) rfl
        rw [eJ] at v17
        refine And.intro (And.intro (by first | exact fi_ lz6 uz6 rfl | omega) (by first | exact ⟨by decide, by decide⟩ | omega)) (And.intro ?_ ?_)
        · intro c7
          exact fcutJ (I := I1) (j := (jc_People_ableFitters_3cb68_4 I)) (lv' := [(0, .inr (.inr (some 177))), (1, .inl _), (2, .inl _)]) (And.intro rfl (And.intro rfl (And.intro rfl True.intro))) ⟨_, _, rfl, rfl, ⟨by omega, (sm_at (v := 0) hx0 (by omega) (by omega) (sFi_n (w := y2) (by omega) v17 (by omega) (by omega) rfl) (by omega))⟩, rfl⟩ (by omega)
        · intro c8
          refine And.intro ⟨rfl, by decide, by decide⟩ ?_
          refine fload1 rL_181_181_0_23_1_0 h0 hB1 ⟨by decide, by decide⟩ (by first | exact ⟨hb.2.1.1, Int.le_trans (Int.le_sub_one_of_lt (Int.lt_of_lt_of_le c5 uz3)) (by decide)⟩ | omega) ?_
          intro z9 lz9 uz9 qz9
          have v27 := cL_a (d := 0) (a := 181) (n := 24) (b := 873) (m := 6) (by decide +kernel) (by decide) qz9 (by omega) rfl
          rw [eJ] at v27
          refine And.intro (And.intro (by first | exact fi_ lz9 uz9 rfl | omega) (by first | exact ⟨by decide, by decide⟩ | omega)) (And.intro ?_ ?_)
          · intro c10
            exact fcutJ (I := I1) (j := (jc_People_ableFitters_3cb68_4 I)) (lv' := [(0, .inr (.inr (some 177))), (1, .inl _), (2, .inl _)]) (And.intro rfl (And.intro rfl (And.intro rfl True.intro))) ⟨_, _, rfl, rfl, ⟨by omega, (sm_at (v := 0) hx0 (by omega) (by omega) (sFi_s (w := y2) (by omega) v27 (by omega) (by omega) rfl) (by omega))⟩, rfl⟩ (by omega)
          · intro c11
            intro z12 hz12 bz12
            have bz12 := bz12 (by omega)
            exact fcutJ (I := I1) (j := (jc_People_ableFitters_3cb68_4 I)) (lv' := [(0, .inr (.inr (some 177))), (1, .inl _), (2, .inl _)]) (And.intro rfl (And.intro rfl (And.intro rfl True.intro))) ⟨_, _, rfl, rfl, ⟨by omega, (sm_at (v := 1) hx0 (by omega) (by omega) (sFi_y (w := y2) (by omega) v17 (by omega) (by omega) v27 (by omega) (by omega) rfl) (by omega))⟩, rfl⟩ (by omega)
  · have hB0 := fB_self (zn := znJ) (K := fKc []) h0
    have b13 := fBd fb_177_4 (fBz h0 hB0)
    exact fcutJ (I := I) (j := (jc_People_ableFitters_3cb68_4 I)) (lv' := [(0, .inr (.inr (some 177))), (1, .inl _), (2, .inl _)]) (And.intro rfl (And.intro rfl (And.intro rfl True.intro))) ⟨_, _, rfl, rfl, ⟨by omega, rfl⟩, rfl⟩ (by omega)
abbrev jc_Rounds_begin_a2ae2_30 (I0 : fH) : Nat → fL → List fV → fH → Prop := fun m lv st I => ∃ (y3 : Int), lv = [(0, .inr (.inr (some 727))), (2, .inr (.inr (some 211))), (3, .inl y3)] ∧ st = [] ∧ (((0 ≤ y3 ∧ y3 ≤ 48) ∧ (y3 ≤ I0 727 6) ∧ (0 ≤ I0 727 6)) ∧ (∀ j : Nat, j < 24 → I 728 j = I0 171 j) ∧ (∀ j : Nat, j < 24 → I 729 j = I0 173 j) ∧ (rnA (rnW (I0 222)) (I 731) y3)) ∧ m = (1 + 1 * (48 - y3) : Int).toNat
set_option maxRecDepth 8000 in
theorem ct_Rounds_begin_a2ae2 {I : fH}  (h0 : fB bsJ I)  : fC ρ base n F xTc vwCl xTys D dA la gJ (fbz bsJ znJ (fKc wz_06305) I) xm_179 [.inr (.inr (some 727)), .inr (.inr (some 1)), .inr (.inr (some 211))] I (fun I' r => r = none ∧ True ∧ (∀ j : Nat, j < 24 → I' 728 j = I 171 j) ∧ (∀ j : Nat, j < 24 → I' 729 j = I 173 j) ∧ (rnA (rnW (I 222)) (I' 731) (I 727 6))) := by
  have hW : fzs wz_06305 (fKc wz_06305) := fKc_ok _
  refine f_meth (rb := rbJ) (J := [(30, (jc_Rounds_begin_a2ae2_30 I))]) 50 400 xG xin_179 x6_179 okJ (fB_self h0) ?_ ?_
  · refine List.forall_mem_cons.mpr ⟨?_, fun q h => absurd h List.not_mem_nil⟩
    · rintro m _ _ I1 hB1 ⟨y3, rfl, rfl, ⟨hb, hx0, hx1, hx2⟩, hm⟩
      have k1 := fBz_eq hB1 (a := 727) (j := 6) (by decide +kernel)
      have b2 := fBd fb_731_0 (fBz h0 hB1)
      have b3 := fBd fb_727_6 (fBz h0 hB1)
      have e2 : I1 222 = I 222 := funext (fFr_at (fFr_of hB1) 222 (by decide +kernel) rfl)
      refine And.intro ⟨rfl, by decide, by decide⟩ (fgetf fb_727_6 h0 hB1 ?_)
      intro z4 lz4 uz4 qz4
      refine And.intro (And.intro (by first | exact fi_ hb.1.1 hb.1.2 rfl | omega) (by first | exact fi_ lz4 uz4 rfl | omega)) (And.intro ?_ ?_)
      · intro c5
        exact ⟨rfl, True.intro, hx0, hx1, (by rw [show I 727 6 = y3 by omega]; exact hx2)⟩
      · intro c6
        refine And.intro ⟨rfl, by decide, by decide⟩ ?_
        refine And.intro ⟨rfl, by decide, by decide⟩ ?_
        refine fload1 rL_731_731_0_47_1_0 h0 hB1 ⟨by decide, by decide⟩ (by first | exact ⟨hb.1.1, Int.le_trans (Int.le_sub_one_of_lt (Int.lt_of_lt_of_le c6 uz4)) (by decide)⟩ | omega) ?_
        intro z7 lz7 uz7 qz7
        have b50 := hx2 y3.toNat (by omega)
        refine And.intro ⟨rfl, by decide, by decide⟩ ?_
        refine fload1 rL_222_222_0_47_1_0 h0 hB1 ⟨by decide, by decide⟩ (by first | exact ⟨hb.1.1, Int.le_trans (Int.le_sub_one_of_lt (Int.lt_of_lt_of_le c6 uz4)) (by decide)⟩ | omega) ?_
        intro z8 lz8 uz8 qz8
        have w58 : z8 = I 222 y3.toNat := qz8.trans (by rw [e2])
        intro z9 hz9 ez9 bz9
        clear ez9
        have bz9 := bz9 (by omega)
        refine And.intro (And.intro (by omega) (And.intro (by first | exact ⟨by decide, by decide⟩ | omega) (And.intro (by first | exact by decide | omega) rfl))) ?_
        intro z10 hz10 ez10 dz10
        have dz10 := dz10 (by omega) (by omega)
        change _ = _ / _ at dz10
        intro z11 hz11 ez11 bz11
        clear ez11
        try replace bz11 := bz11 (by omega)
        refine fstore rS_731_731_1_48_1_0 (fzs_sub (by decide +kernel) hW) (by omega) (by omega) ?_
        intro IhB12 ehB12 hB12
        have t13 := fup_self ehB12
        have t14 : IhB12 727 6 = I1 727 6 := (congrFun (congrFun ehB12 727) 6).trans (fup_ne (by first | exact Or.inl (by decide) | omega))
        have k15 := fBz_eq hB12 (a := 727) (j := 6) (by decide +kernel)
        exact fcutJ (I := IhB12) (j := (jc_Rounds_begin_a2ae2_30 I)) (lv' := [(0, .inr (.inr (some 727))), (2, .inr (.inr (some 211))), (3, .inl _)]) (And.intro rfl (And.intro rfl (And.intro rfl True.intro))) ⟨_, rfl, rfl, ⟨by omega, (fun j hj => (fup_other ehB12 728 j (Or.inl (by decide))).trans (hx0 j hj)), (fun j hj => (fup_other ehB12 729 j (Or.inl (by decide))).trans (hx1 j hj)), (rnA_s hx2 (by omega) (by rw [rnW_at (by omega)]; omega) (fun j q => fup_other ehB12 731 j (Or.inr (by omega))) (by have s := fup_at ehB12 (y3.toNat + 1) (by omega); have q50 := qz7; rw [rnW_at (by omega)]; omega) (by omega))⟩, rfl⟩ (by omega)
  · have hB0 := fB_self (zn := znJ) (K := fKc wz_06305) h0
    have b16 := fBd fb_731_0 (fBz h0 hB0)
    have b17 := fBd fb_727_6 (fBz h0 hB0)
    refine And.intro ⟨rfl, by decide, by decide⟩ ?_
    refine And.intro ⟨rfl, by decide, by decide⟩ ?_
    refine And.intro ⟨rfl, by decide, by decide⟩ ?_
    refine Exists.intro xm_75 (And.intro mi_75 (And.intro ⟨rfl, rfl, rfl, rfl⟩ (And.intro True.intro ?_)))
    refine fcall _ h0 (fzs_sub (by decide +kernel) hW) hB0 (ct_copyRow (W := [728]) (len := 24) (fBz h0 hB0) (frC_of (by decide +kernel))) ?_
    rintro IhB18 _ hB18 fhB18 ⟨rfl, ehB18⟩
    have k19 := fBz_eq hB18 (a := 727) (j := 6) (by decide +kernel)
    refine And.intro ⟨rfl, by decide, by decide⟩ ?_
    refine And.intro ⟨rfl, by decide, by decide⟩ ?_
    refine And.intro ⟨rfl, by decide, by decide⟩ ?_
    refine Exists.intro xm_75 (And.intro mi_75 (And.intro ⟨rfl, rfl, rfl, rfl⟩ (And.intro True.intro ?_)))
    refine fcall _ h0 (fzs_sub (by decide +kernel) hW) hB18 (ct_copyRow (W := [729]) (len := 24) (fBz h0 hB18) (frC_of (by decide +kernel))) ?_
    rintro IhB20 _ hB20 fhB20 ⟨rfl, ehB20⟩
    have k21 := fBz_eq hB20 (a := 727) (j := 6) (by decide +kernel)
    exact fcutJ (I := IhB20) (j := (jc_Rounds_begin_a2ae2_30 I)) (lv' := [(0, .inr (.inr (some 727))), (2, .inr (.inr (some 211))), (3, .inl _)]) (And.intro rfl (And.intro rfl (And.intro rfl True.intro))) ⟨_, rfl, rfl, ⟨by omega, (fun j hj => (congrFun (congrFun ehB20 728) j).trans ((fcpy_ne (by decide)).trans ((congrFun (congrFun ehB18 728) j).trans (fcpy_at (by omega))))), (fun j hj => (congrFun (congrFun ehB20 729) j).trans ((fcpy_at (by omega)).trans ((congrFun (congrFun ehB18 173) j).trans (fcpy_ne (by decide))))), (rnA_0 (by have b := fBd fb_731_0 (fBz h0 hB20); omega))⟩, rfl⟩ (by omega)
abbrev jc_Rounds_goRound_589d9_40 (x3 : Int) (x4 : Int) (x5 : Int) (x6 : Int) (I0 : fH) : Nat → fL → List fV → fH → Prop := fun m lv st I => ∃ (y3 : Int) (y5 : Int) (y6 : Int) (y7 : Int) (y8 : Int), lv = [(0, .inr (.inr (some 727))), (1, .inr (.inr (some 1))), (3, .inl y3), (5, .inl y5), (6, .inl y6), (7, .inl y7), (8, .inl y8)] ∧ st = [] ∧ (((1 ≤ y3 ∧ y3 ≤ 48) ∧ ((0 ≤ y5 ∧ y5 ≤ 23) ∨ y5 = (-1000000005)) ∧ ((0 ≤ y6 ∧ y6 ≤ 47) ∨ y6 = (-1000000005)) ∧ (0 ≤ y7 ∧ y7 ≤ 24) ∧ (0 ≤ y8 ∧ y8 ≤ 48) ∧ (1 ≤ I 727 6 ∧ I 727 6 ≤ 48) ∧ (0 ≤ I 727 7 ∧ I 727 7 ≤ 9) ∧ (y3 = x3) ∧ (y5 = x5) ∧ (y6 = x6) ∧ (I 727 6 = x3) ∧ (I 727 7 = x4) ∧ (0 ≤ y7) ∧ (y7 ≤ 24) ∧ (y8 ≤ x3) ∧ (0 ≤ I 727 1) ∧ (I 727 1 ≤ 24 * y8)) ∧ (y7 = (rn_f (cR 0 I0) : Int)) ∧ (rHh (cR 0 I0) (rnW (I0 222)) x4 x3.toNat y8 (I 728) (I 729)) ∧ (rnB 24 (I 728) (I 729) (7 * y8) (100000 + 24 * y8)) ∧ (rnA (rnW (I0 222)) (I 731) x3) ∧ (I 727 0 = rnV (rXc (cR 0 I0) (rnW (I0 222)) x4 x3.toNat y8.toNat)) ∧ (0 ≤ x6 → x6 < y8 → I 727 1 = rKc (cR 0 I0) (rnW (I0 222)) x4 x3.toNat x5 x6.toNat (rn_f (cR 0 I0))) ∧ (y8 ≤ x6 → I 727 1 = 0)) ∧ m = (26 + 26 * (48 - y8) : Int).toNat
abbrev jc_Rounds_goRound_589d9_59 (x3 : Int) (x4 : Int) (x5 : Int) (x6 : Int) (I0 : fH) : Nat → fL → List fV → fH → Prop := fun m lv st I => ∃ (y3 : Int) (y5 : Int) (y6 : Int) (y7 : Int) (y8 : Int) (y9 : Int), lv = [(0, .inr (.inr (some 727))), (1, .inr (.inr (some 1))), (3, .inl y3), (5, .inl y5), (6, .inl y6), (7, .inl y7), (8, .inl y8), (9, .inl y9)] ∧ st = [] ∧ (((1 ≤ y3 ∧ y3 ≤ 48) ∧ ((0 ≤ y5 ∧ y5 ≤ 23) ∨ y5 = (-1000000005)) ∧ ((0 ≤ y6 ∧ y6 ≤ 47) ∨ y6 = (-1000000005)) ∧ (0 ≤ y7 ∧ y7 ≤ 24) ∧ (0 ≤ y8 ∧ y8 ≤ 47) ∧ (0 ≤ y9 ∧ y9 ≤ 24) ∧ (1 ≤ I 727 6 ∧ I 727 6 ≤ 48) ∧ (0 ≤ I 727 7 ∧ I 727 7 ≤ 9) ∧ (y3 = x3) ∧ (y5 = x5) ∧ (y6 = x6) ∧ (I 727 6 = x3) ∧ (I 727 7 = x4) ∧ (0 ≤ y7) ∧ (y7 ≤ 24) ∧ (y8 < x3) ∧ (y9 ≤ y7) ∧ (0 ≤ I 727 1) ∧ (I 727 1 ≤ 24 * y8 + y9)) ∧ (y7 = (rn_f (cR 0 I0) : Int)) ∧ (rPh (cR 0 I0) (rnW (I0 222)) x4 x3.toNat y8 y9 (I 728) (I 729)) ∧ (rnB 24 (I 728) (I 729) (7 * y8) (100000 + 24 * y8 + y9)) ∧ (rnA (rnW (I0 222)) (I 731) x3) ∧ (I 727 0 = rnV (rXc (cR 0 I0) (rnW (I0 222)) x4 x3.toNat y8.toNat)) ∧ (0 ≤ x6 → x6 < y8 → I 727 1 = rKc (cR 0 I0) (rnW (I0 222)) x4 x3.toNat x5 x6.toNat (rn_f (cR 0 I0))) ∧ (y8 < x6 → I 727 1 = 0) ∧ (x6 = y8 → I 727 1 = rKc (cR 0 I0) (rnW (I0 222)) x4 x3.toNat x5 y8.toNat y9.toNat) ∧ (∀ w : Nat, (w : Int) < gt (cR 0 I0) 7 → I 730 w = rnw (skW (cR 0 I0)) (rnW (I0 222)) (I 728) (I 729) y8.toNat x4 x3.toNat w)) ∧ m = (1 + 26 * (48 - y8) + 1 * (24 - y9) : Int).toNat
set_option maxRecDepth 8000 in
theorem ct_Rounds_goRound_589d9 {I : fH} {x3 : Int} {x4 : Int} {x5 : Int} {x6 : Int} (h0 : fB bsJ I) (ha3 : (1 ≤ x3 ∧ x3 ≤ 48)) (ha4 : (0 ≤ x4 ∧ x4 ≤ 9)) (ha5 : ((0 ≤ x5 ∧ x5 ≤ 23) ∨ x5 = (-1000000005))) (ha6 : ((0 ≤ x6 ∧ x6 ≤ 47) ∨ x6 = (-1000000005))) : fC ρ base n F xTc vwCl xTys D dA la gJ (fbz bsJ znJ (fKc wz_81562) I) xm_178 [.inr (.inr (some 727)), .inr (.inr (some 1)), .inr (.inr (some 211)), .inl x3, .inl x4, .inl x5, .inl x6] I (fun I' r => r = none ∧ True ∧ (I' 727 0 = rnV (rXc (cR 0 I) (rnW (I 222)) x4 x3.toNat x3.toNat)) ∧ (0 ≤ x6 → x6 < x3 → I' 727 1 = rKc (cR 0 I) (rnW (I 222)) x4 x3.toNat x5 x6.toNat (rn_f (cR 0 I)))) := by
  have hW : fzs wz_81562 (fKc wz_81562) := fKc_ok _
  refine f_meth (rb := rbJ) (J := [(40, (jc_Rounds_goRound_589d9_40 x3 x4 x5 x6 I)), (59, (jc_Rounds_goRound_589d9_59 x3 x4 x5 x6 I))]) 1275 400 xG xin_178 x6_178 okJ (fB_self h0) ?_ ?_
  · refine List.forall_mem_cons.mpr ⟨?_, List.forall_mem_cons.mpr ⟨?_, fun q h => absurd h List.not_mem_nil⟩⟩
    · rintro m _ _ I1 hB1 ⟨y3, y5, y6, y7, y8, rfl, rfl, ⟨hb, hx0, hx1, hx2, hx3, hx4, hx5, hx6⟩, hm⟩
      have e22 : I1 222 = I 222 := (funext (fFr_at (fFr_of hB1) 222 (by decide +kernel) rfl))
      have cR1 : cR 0 I1 = cR 0 I := (cR_fr (d := 0) cZ0_ok (fFr_of hB1) (by decide +kernel))
      have s6 : I1 727 6 = x3 := by omega
      have s7 : I1 727 7 = x4 := by omega
      refine And.intro (And.intro (by first | exact fi_ hb.2.2.2.2.1.1 hb.2.2.2.2.1.2 rfl | omega) (by first | exact fi_ hb.1.1 hb.1.2 rfl | omega)) (And.intro ?_ ?_)
      · intro c1
        exact ⟨rfl, True.intro, (by have q := hx4; rw [show y8 = x3 by omega] at q; exact q), (fun q1 q2 => hx5 q1 (by omega))⟩
      · intro c2
        refine And.intro ⟨rfl, by decide, by decide⟩ ?_
        refine Exists.intro xm_181 (And.intro mi_181 (And.intro ⟨rfl, rfl, rfl, rfl⟩ (And.intro rfl ?_)))
        refine fcall _ h0 (fzs_sub (by decide +kernel) hW) hB1 (ct_Rounds_foretellAll_4ce3f (fBz h0 hB1) (by first | exact ⟨hb.2.2.2.2.1.1, Int.le_trans (Int.le_sub_one_of_lt (Int.lt_of_lt_of_le c2 hb.1.2)) (by decide)⟩ | omega) (by rw [e22, s6]; exact hx3) (rnB_w hx2 (by omega) (by omega)) (by omega)) ?_
        rintro IhB4 _ hB4 fhB4 ⟨rfl, hz3, g0z3⟩
        have t5 := fhB4 727 0 (by decide +kernel)
        have t6 := fhB4 727 1 (by decide +kernel)
        have t7 := fhB4 727 6 (by decide +kernel)
        have t8 := fhB4 727 7 (by decide +kernel)
        have f28 : IhB4 728 = I1 728 := (funext (fFr_at fhB4 728 (by decide +kernel) rfl))
        have f29 : IhB4 729 = I1 729 := (funext (fFr_at fhB4 729 (by decide +kernel) rfl))
        have f31 : IhB4 731 = I1 731 := (funext (fFr_at fhB4 731 (by decide +kernel) rfl))
        try rw [cR1] at g0z3
        rw [e22, s7, s6] at g0z3
        exact fcutJ (I := IhB4) (j := (jc_Rounds_goRound_589d9_59 x3 x4 x5 x6 I)) (lv' := [(0, .inr (.inr (some 727))), (1, .inr (.inr (some 1))), (3, .inl _), (5, .inl _), (6, .inl _), (7, .inl _), (8, .inl _), (9, .inl _)]) (And.intro rfl (And.intro rfl (And.intro rfl (And.intro rfl (And.intro rfl (And.intro rfl (And.intro rfl (And.intro rfl True.intro)))))))) ⟨_, _, _, _, _, _, rfl, rfl, ⟨by omega, hx0, (by rw [f28, f29]; exact rPh_0 (by omega) hx1), (by rw [f28, f29]; exact rnB_w hx2 (by omega) (by omega)), (by rw [f31]; exact hx3), ((show IhB4 727 0 = I1 727 0 from by omega).trans hx4), (fun q1 q2 => (show IhB4 727 1 = I1 727 1 from by omega).trans (hx5 q1 q2)), (fun q => (show IhB4 727 1 = I1 727 1 from by omega).trans (hx6 (by omega))), (fun q => (show IhB4 727 1 = I1 727 1 from by omega).trans (hx6 (by omega))), (fun w hw => by rw [f28, f29]; exact g0z3 w hw)⟩, rfl⟩ (by omega)
    · rintro m _ _ I1 hB1 ⟨y3, y5, y6, y7, y8, y9, rfl, rfl, ⟨hb, hx0, hx1, hx2, hx3, hx4, hx5, hx6, hx7, hx8⟩, hm⟩
      have e22 : I1 222 = I 222 := (funext (fFr_at (fFr_of hB1) 222 (by decide +kernel) rfl))
      have cR1 : cR 0 I1 = cR 0 I := (cR_fr (d := 0) cZ0_ok (fFr_of hB1) (by decide +kernel))
      have s6 : I1 727 6 = x3 := by omega
      have s7 : I1 727 7 = x4 := by omega
      refine And.intro (And.intro (by first | exact fi_ hb.2.2.2.2.2.1.1 hb.2.2.2.2.2.1.2 rfl | omega) (by first | exact fi_ hb.2.2.2.1.1 hb.2.2.2.1.2 rfl | omega)) (And.intro ?_ ?_)
      · intro c9
        refine And.intro ⟨rfl, by decide, by decide⟩ ?_
        refine Exists.intro xm_184 (And.intro mi_184 (And.intro ⟨rfl, rfl, rfl, rfl⟩ (And.intro rfl ?_)))
        refine fcall _ h0 (fzs_sub (by decide +kernel) hW) hB1 (ct_Rounds_wearAll_7293e (fBz h0 hB1) (by first | exact ⟨hb.2.2.2.2.1.1, hb.2.2.2.2.1.2⟩ | omega) (by rw [e22, s6]; exact hx3) (rnB_w hx2 (by omega) (by omega)) (by omega)) ?_
        rintro IhB11 _ hB11 fhB11 ⟨rfl, hz10, g0z10, g1z10⟩
        have t12 := fhB11 727 1 (by decide +kernel)
        have t13 := fhB11 727 6 (by decide +kernel)
        have t14 := fhB11 727 7 (by decide +kernel)
        have f31 : IhB11 731 = I1 731 := (funext (fFr_at fhB11 731 (by decide +kernel) rfl))
        try rw [cR1] at g0z10
        try rw [cR1] at g1z10
        rw [e22] at g0z10 g1z10
        rw [s7] at g1z10
        have c22 : 0 ≤ rnW (I 222) y8.toNat ∧ rnW (I 222) y8.toNat ≤ 999 := by rw [rnW_at (by omega)]; exact (frL_at rL_222_222_0_47_1_0 h0 (a := 222) (i := y8) (by omega)).2
        have yf : y9.toNat = rn_f (cR 0 I) := by omega
        have m7 : (gt (cR 0 I) 7).toNat = rn_m (cR 0 I) := rfl
        have b7 := fBd (show bsJ 163 13 = (0, 24) by decide +kernel) h0
        have w7 := (cL_f (d := 0) (a := 163) (j := 13) (r := 7) (p := 7) (I := I) (z := I 163 13) (by decide +kernel) (by decide) rfl rfl)
        have m24 : rn_m (cR 0 I) ≤ 24 := by unfold rn_m; omega
        exact fcutJ (I := IhB11) (j := (jc_Rounds_goRound_589d9_40 x3 x4 x5 x6 I)) (lv' := [(0, .inr (.inr (some 727))), (1, .inr (.inr (some 1))), (3, .inl _), (5, .inl _), (6, .inl _), (7, .inl _), (8, .inl _)]) (And.intro rfl (And.intro rfl (And.intro rfl (And.intro rfl (And.intro rfl (And.intro rfl (And.intro rfl True.intro))))))) ⟨_, _, _, _, _, rfl, rfl, ⟨by omega, hx0, (rPh_e hx1 yf (by omega) (by omega) m7 rfl m24 g0z10), (rnB_w (rnB_M hx2 (by omega) g0z10 rfl) (by omega) (by omega)), (by rw [f31]; exact hx3), (rXc_c hx1 yf m7 (by omega) (by omega) rfl hx4 g1z10), (fun q1 q2 => if r : x6 < y8 then (show IhB11 727 1 = I1 727 1 from by omega).trans (hx5 q1 r) else by rw [show x6 = y8 by omega, ← yf]; exact (show IhB11 727 1 = I1 727 1 from by omega).trans (hx7 (by omega))), (fun q => (show IhB11 727 1 = I1 727 1 from by omega).trans (hx6 (by omega)))⟩, rfl⟩ (by omega)
      · intro c15
        refine And.intro ⟨rfl, by decide, by decide⟩ ?_
        refine Exists.intro xm_183 (And.intro mi_183 (And.intro ⟨rfl, rfl, rfl, rfl⟩ (And.intro rfl ?_)))
        refine fcall _ h0 (fzs_sub (by decide +kernel) hW) hB1 (ct_Rounds_sewNext_d8bbe (fBz h0 hB1) (by first | exact ⟨hb.2.2.2.2.1.1, hb.2.2.2.2.1.2⟩ | omega) (by rw [e22, s6]; exact hx3) (rnB_w hx2 (by omega) (by omega)) (by omega) (by rw [cR1, e22, s7, s6]; exact hx8)) ?_
        rintro IhB17 _ hB17 fhB17 ⟨z16, rfl, hz16, g0z16, g1z16, g2z16⟩
        have t18 := fhB17 727 0 (by decide +kernel)
        have t19 := fhB17 727 1 (by decide +kernel)
        have t20 := fhB17 727 6 (by decide +kernel)
        have t21 := fhB17 727 7 (by decide +kernel)
        have f29 : IhB17 729 = I1 729 := (funext (fFr_at fhB17 729 (by decide +kernel) rfl))
        have f31 : IhB17 731 = I1 731 := (funext (fFr_at fhB17 731 (by decide +kernel) rfl))
        try rw [cR1] at g0z16
        try rw [cR1] at g2z16
        rw [e22, s7, s6] at g0z16
        rw [e22, s7, s6] at g2z16
        have g9 := rPh_N hx1 rfl g0z16
        refine And.intro (by omega) (And.intro ?_ ?_)
        · intro c22
          exact fcutJ (I := IhB17) (j := (jc_Rounds_goRound_589d9_59 x3 x4 x5 x6 I)) (lv' := [(0, .inr (.inr (some 727))), (1, .inr (.inr (some 1))), (3, .inl _), (5, .inl _), (6, .inl _), (7, .inl _), (8, .inl _), (9, .inl _)]) (And.intro rfl (And.intro rfl (And.intro rfl (And.intro rfl (And.intro rfl (And.intro rfl (And.intro rfl (And.intro rfl True.intro)))))))) ⟨_, _, _, _, _, _, rfl, rfl, ⟨by omega, hx0, (by exact rPh_s hx1 rfl g0z16 (by omega) (by omega) g1z16 (fun j => congrFun f29 j)), (by exact rnB_w (rnB_cg (rnB_U hx2 rfl (b := z16)) (fun j _ => g1z16 j) (fun j _ => congrFun f29 j)) (by omega) (by omega)), (by rw [f31]; exact hx3), ((show IhB17 727 0 = I1 727 0 from by omega).trans hx4), (fun q1 q2 => (show IhB17 727 1 = I1 727 1 from by omega).trans (hx5 q1 q2)), (fun q => (show IhB17 727 1 = I1 727 1 from by omega).trans (hx6 q)), (fun q => rKc_s g9 (by omega) (by omega) (hx7 q) (Or.inr ⟨by omega, by omega⟩)), (by intro w hw; rw [f29]; exact g2z16 w hw)⟩, rfl⟩ (by omega)
        · intro c23
          refine And.intro (by omega) (And.intro ?_ ?_)
          · intro c24
            exact fcutJ (I := IhB17) (j := (jc_Rounds_goRound_589d9_59 x3 x4 x5 x6 I)) (lv' := [(0, .inr (.inr (some 727))), (1, .inr (.inr (some 1))), (3, .inl _), (5, .inl _), (6, .inl _), (7, .inl _), (8, .inl _), (9, .inl _)]) (And.intro rfl (And.intro rfl (And.intro rfl (And.intro rfl (And.intro rfl (And.intro rfl (And.intro rfl (And.intro rfl True.intro)))))))) ⟨_, _, _, _, _, _, rfl, rfl, ⟨by omega, hx0, (by exact rPh_s hx1 rfl g0z16 (by omega) (by omega) g1z16 (fun j => congrFun f29 j)), (by exact rnB_w (rnB_cg (rnB_U hx2 rfl (b := z16)) (fun j _ => g1z16 j) (fun j _ => congrFun f29 j)) (by omega) (by omega)), (by rw [f31]; exact hx3), ((show IhB17 727 0 = I1 727 0 from by omega).trans hx4), (fun q1 q2 => (show IhB17 727 1 = I1 727 1 from by omega).trans (hx5 q1 q2)), (fun q => (show IhB17 727 1 = I1 727 1 from by omega).trans (hx6 q)), (fun q => absurd q (by omega)), (by intro w hw; rw [f29]; exact g2z16 w hw)⟩, rfl⟩ (by omega)
          · intro c25
            refine And.intro ⟨rfl, by decide, by decide⟩ (fgetf fb_727_1 h0 hB17 ?_)
            intro z26 lz26 uz26 qz26
            intro z27 hz27 ez27 bz27
            clear ez27
            try replace bz27 := bz27 (by omega)
            refine And.intro ⟨rfl, by decide, by decide⟩ (And.intro rfl (And.intro (Or.inl rfl) (fputf fb_727_1 (by decide +kernel) hW (by omega) ?_)))
            intro IhB28 ehB28 hB28
            have t29 : IhB28 727 0 = IhB17 727 0 := (congrFun (congrFun ehB28 727) 0).trans (fup_ne (by first | decide | omega))
            have t30 := fup_at ehB28 1 (by first | rfl | omega)
            have t31 : IhB28 727 6 = IhB17 727 6 := (congrFun (congrFun ehB28 727) 6).trans (fup_ne (by first | decide | omega))
            have t32 : IhB28 727 7 = IhB17 727 7 := (congrFun (congrFun ehB28 727) 7).trans (fup_ne (by first | decide | omega))
            have r99 := cR_ot (d := 0) ehB28 (by decide)
            exact fcutJ (I := IhB28) (j := (jc_Rounds_goRound_589d9_59 x3 x4 x5 x6 I)) (lv' := [(0, .inr (.inr (some 727))), (1, .inr (.inr (some 1))), (3, .inl _), (5, .inl _), (6, .inl _), (7, .inl _), (8, .inl _), (9, .inl _)]) (And.intro rfl (And.intro rfl (And.intro rfl (And.intro rfl (And.intro rfl (And.intro rfl (And.intro rfl (And.intro rfl True.intro)))))))) ⟨_, _, _, _, _, _, rfl, rfl, ⟨by omega, hx0, (by rw [show IhB28 728 = IhB17 728 from (funext (fun j => fup_other ehB28 728 j (Or.inl (by decide)))), show IhB28 729 = IhB17 729 from (funext (fun j => fup_other ehB28 729 j (Or.inl (by decide))))]; exact rPh_s hx1 rfl g0z16 (by omega) (by omega) g1z16 (fun j => congrFun f29 j)), (by rw [show IhB28 728 = IhB17 728 from (funext (fun j => fup_other ehB28 728 j (Or.inl (by decide)))), show IhB28 729 = IhB17 729 from (funext (fun j => fup_other ehB28 729 j (Or.inl (by decide))))]; exact rnB_w (rnB_cg (rnB_U hx2 rfl (b := z16)) (fun j _ => g1z16 j) (fun j _ => congrFun f29 j)) (by omega) (by omega)), (by rw [show IhB28 731 = IhB17 731 from (funext (fun j => fup_other ehB28 731 j (Or.inl (by decide))))]; rw [f31]; exact hx3), ((show IhB28 727 0 = I1 727 0 from by omega).trans hx4), (fun q1 q2 => absurd q2 (by omega)), (fun q => absurd q (by omega)), (fun q => rKc_s g9 (by omega) (by omega) (hx7 q) (Or.inl ⟨by omega, by omega⟩)), (by rw [show IhB28 728 = IhB17 728 from (funext (fun j => fup_other ehB28 728 j (Or.inl (by decide)))), show IhB28 729 = IhB17 729 from (funext (fun j => fup_other ehB28 729 j (Or.inl (by decide)))), show IhB28 730 = IhB17 730 from (funext (fun j => fup_other ehB28 730 j (Or.inl (by decide))))]; intro w hw; rw [f29]; exact g2z16 w hw)⟩, rfl⟩ (by omega)
  · have hB0 := fB_self (zn := znJ) (K := fKc wz_81562) h0
    refine And.intro ⟨rfl, by decide, by decide⟩ (And.intro rfl (And.intro (Or.inl rfl) (fputf fb_727_6 (by decide +kernel) hW (by first | exact ⟨Int.le_trans (by decide) ha3.1, ha3.2⟩ | omega) ?_)))
    intro IhB33 ehB33 hB33
    have t34 : IhB33 727 0 = I 727 0 := (congrFun (congrFun ehB33 727) 0).trans (fup_ne (by first | decide | omega))
    have t35 : IhB33 727 1 = I 727 1 := (congrFun (congrFun ehB33 727) 1).trans (fup_ne (by first | decide | omega))
    have t36 := fup_at ehB33 6 (by first | rfl | omega)
    have t37 : IhB33 727 7 = I 727 7 := (congrFun (congrFun ehB33 727) 7).trans (fup_ne (by first | decide | omega))
    have r2 := cR_ot (d := 0) ehB33 (by decide)
    refine And.intro ⟨rfl, by decide, by decide⟩ (And.intro rfl (And.intro (Or.inl rfl) (fputf fb_727_7 (by decide +kernel) hW (by first | exact ⟨Int.le_trans (by decide) ha4.1, Int.le_trans ha4.2 (by decide)⟩ | omega) ?_)))
    intro IhB38 ehB38 hB38
    have t39 : IhB38 727 0 = IhB33 727 0 := (congrFun (congrFun ehB38 727) 0).trans (fup_ne (by first | decide | omega))
    have t40 : IhB38 727 1 = IhB33 727 1 := (congrFun (congrFun ehB38 727) 1).trans (fup_ne (by first | decide | omega))
    have t41 : IhB38 727 6 = IhB33 727 6 := (congrFun (congrFun ehB38 727) 6).trans (fup_ne (by first | decide | omega))
    have t42 := fup_at ehB38 7 (by first | rfl | omega)
    have r8 := cR_ot (d := 0) ehB38 (by decide)
    refine And.intro ⟨rfl, by decide, by decide⟩ (And.intro rfl (And.intro (Or.inl rfl) (fputf fb_727_0 (by decide +kernel) hW (by first | exact ⟨by decide, by decide⟩ | omega) ?_)))
    intro IhB43 ehB43 hB43
    have t44 := fup_at ehB43 0 (by first | rfl | omega)
    have t45 : IhB43 727 1 = IhB38 727 1 := (congrFun (congrFun ehB43 727) 1).trans (fup_ne (by first | decide | omega))
    have t46 : IhB43 727 6 = IhB38 727 6 := (congrFun (congrFun ehB43 727) 6).trans (fup_ne (by first | decide | omega))
    have t47 : IhB43 727 7 = IhB38 727 7 := (congrFun (congrFun ehB43 727) 7).trans (fup_ne (by first | decide | omega))
    have r14 := cR_ot (d := 0) ehB43 (by decide)
    refine And.intro ⟨rfl, by decide, by decide⟩ (And.intro rfl (And.intro (Or.inl rfl) (fputf fb_727_1 (by decide +kernel) hW (by first | exact ⟨by decide, by decide⟩ | omega) ?_)))
    intro IhB48 ehB48 hB48
    have t49 : IhB48 727 0 = IhB43 727 0 := (congrFun (congrFun ehB48 727) 0).trans (fup_ne (by first | decide | omega))
    have t50 := fup_at ehB48 1 (by first | rfl | omega)
    have t51 : IhB48 727 6 = IhB43 727 6 := (congrFun (congrFun ehB48 727) 6).trans (fup_ne (by first | decide | omega))
    have t52 : IhB48 727 7 = IhB43 727 7 := (congrFun (congrFun ehB48 727) 7).trans (fup_ne (by first | decide | omega))
    have r19 := cR_ot (d := 0) ehB48 (by decide)
    refine Exists.intro xm_179 (And.intro mi_179 (And.intro ⟨rfl, rfl, rfl, rfl⟩ (And.intro rfl ?_)))
    refine fcall _ h0 (fzs_sub (by decide +kernel) hW) hB48 (ct_Rounds_begin_a2ae2 (fBz h0 hB48)) ?_
    rintro IhB54 _ hB54 fhB54 ⟨rfl, hz53, g0z53, g1z53, g2z53⟩
    have t55 := fhB54 727 0 (by decide +kernel)
    have t56 := fhB54 727 1 (by decide +kernel)
    have t57 := fhB54 727 6 (by decide +kernel)
    have t58 := fhB54 727 7 (by decide +kernel)
    have r25 := cR_fr (d := 0) cZ0_ok fhB54 (by decide +kernel)
    have n1 : ∀ j : Nat, j < 24 → IhB54 728 j = I 171 j := fun j hj => (g0z53 j hj).trans ((((fup_other ehB48 171 j (Or.inl (by decide))).trans (fup_other ehB43 171 j (Or.inl (by decide)))).trans (fup_other ehB38 171 j (Or.inl (by decide)))).trans (fup_other ehB33 171 j (Or.inl (by decide))))
    have n2 : ∀ j : Nat, j < 24 → IhB54 729 j = I 173 j := fun j hj => (g1z53 j hj).trans ((((fup_other ehB48 173 j (Or.inl (by decide))).trans (fup_other ehB43 173 j (Or.inl (by decide)))).trans (fup_other ehB38 173 j (Or.inl (by decide)))).trans (fup_other ehB33 173 j (Or.inl (by decide))))
    have n3 : rnA (rnW (I 222)) (IhB54 731) x3 := by have q := g2z53; rw [show IhB48 222 = I 222 from funext (fun j => ((((fup_other ehB48 222 j (Or.inl (by decide))).trans (fup_other ehB43 222 j (Or.inl (by decide)))).trans (fup_other ehB38 222 j (Or.inl (by decide)))).trans (fup_other ehB33 222 j (Or.inl (by decide)))))] at q; rw [show x3 = IhB48 727 6 by omega]; exact q
    refine And.intro ⟨rfl, by decide, by decide⟩ ?_
    refine Exists.intro xm_180 (And.intro mi_180 (And.intro ⟨rfl, rfl, rfl, rfl⟩ (And.intro rfl ?_)))
    refine fcallp hB54 (ct_People_ableFitters_3cb68 (fBz h0 hB54)) ?_
    rintro _ ⟨z59, rfl, hz59, g0z59⟩
    try rw [r25, r19, r14, r8, r2] at g0z59
    have cRb : cR 0 IhB54 = cR 0 I := (cR_fr (d := 0) cZ0_ok (fFr_of hB54) (by decide +kernel))
    try rw [cRb] at g0z59
    have nf7 : z59 = (rn_f (cR 0 I) : Int) := by unfold rn_f; rw [← g0z59]; omega
    have b7 := fBd (show bsJ 163 13 = (0, 24) by decide +kernel) h0
    have w7 := (cL_f (d := 0) (a := 163) (j := 13) (r := 7) (p := 7) (I := I) (z := I 163 13) (by decide +kernel) (by decide) rfl rfl)
    have m7 : rn_m (cR 0 I) ≤ 24 := by unfold rn_m; omega
    exact fcutJ (I := IhB54) (j := (jc_Rounds_goRound_589d9_40 x3 x4 x5 x6 I)) (lv' := [(0, .inr (.inr (some 727))), (1, .inr (.inr (some 1))), (3, .inl _), (5, .inl _), (6, .inl _), (7, .inl _), (8, .inl _)]) (And.intro rfl (And.intro rfl (And.intro rfl (And.intro rfl (And.intro rfl (And.intro rfl (And.intro rfl True.intro))))))) ⟨_, _, _, _, _, rfl, rfl, ⟨by omega, nf7, (rHh_0 (by omega) (fun j hj => (n1 j (by omega)).trans (cL_a171 (by omega))) (fun j hj => (n2 j (by omega)).trans (cL_a173 (by omega)))), (fun j hj => by rw [n1 j hj, n2 j hj]; have q1 := (frL_at rL_171_171_0_23_1_0 h0 (a := 171) (i := (j : Int)) (by omega)).2; have q2 := (frL_at rL_173_173_0_23_1_0 h0 (a := 173) (i := (j : Int)) (by omega)).2; rw [Int.toNat_natCast] at q1 q2; omega), n3, (by show _ = rnV (rXc _ _ _ _ 0); rw [rXc_0]; show _ = (-1000000005 : Int); omega), (fun q1 q2 => absurd q2 (by omega)), (fun _ => by omega)⟩, rfl⟩ (by omega)
set_option maxRecDepth 8000 in
theorem ct_X_lack_88d12 {I : fH} {x1 : Int} {x2 : Int} (h0 : fB bsJ I) (ha1 : ((-2147483648) ≤ x1 ∧ x1 ≤ 2147483647)) (ha2 : ((-2147483648) ≤ x2 ∧ x2 ≤ 2147483647)) : fC ρ base n F xTc vwCl xTys D dA la gJ (fbz bsJ znJ (fKc wz_81562) I) xm_177 [.inr (.inr (some 0)), .inl x1, .inl x2] I (fun _ r => ∃ z, r = some (.inl z) ∧ ((-2147483648) ≤ z ∧ z ≤ 2147483647) ∧ ((((1 ≤ x1 ∧ x1 ≤ 48) ∧ (0 ≤ x2 ∧ x2 ≤ 9)) → z = rnV (rXc (cR 0 I) (rnW (I 222)) x2 x1.toNat x1.toNat)) ∧ (¬ ((1 ≤ x1 ∧ x1 ≤ 48) ∧ (0 ≤ x2 ∧ x2 ≤ 9)) → z = (-1000000001)))) := by
  have hW : fzs wz_81562 (fKc wz_81562) := fKc_ok _
  refine f_meth (rb := rbJ) (J := []) 1 400 xG xin_177 x6_177 okJ (fB_self h0) ?_ ?_
  · exact fun q h => absurd h List.not_mem_nil
  · have hB0 := fB_self (zn := znJ) (K := fKc wz_81562) h0
    refine Exists.intro xm_13 (And.intro mi_13 (And.intro ⟨rfl, rfl, rfl, rfl⟩ (And.intro True.intro ?_)))
    refine fcallp hB0 (ct_X_within_c27b1 (fBz h0 hB0) (by first | exact ⟨ha1.1, ha1.2⟩ | omega) (by first | exact ⟨by decide, by decide⟩ | omega) (by first | exact ⟨by decide, by decide⟩ | omega)) ?_
    rintro _ ⟨z1, rfl, hz1⟩
    refine And.intro (by omega) (And.intro ?_ ?_)
    · intro c2
      refine And.intro (True.intro) ?_
      exact ⟨_, rfl, (by first | exact ⟨by decide, by decide⟩ | omega), ⟨fun q => by exfalso; omega, fun _ => by omega⟩⟩
    · intro c3
      refine Exists.intro xm_13 (And.intro mi_13 (And.intro ⟨rfl, rfl, rfl, rfl⟩ (And.intro True.intro ?_)))
      refine fcallp hB0 (ct_X_within_c27b1 (fBz h0 hB0) (by first | exact ⟨ha2.1, ha2.2⟩ | omega) (by first | exact ⟨by decide, by decide⟩ | omega) (by first | exact ⟨by decide, by decide⟩ | omega)) ?_
      rintro _ ⟨z4, rfl, hz4⟩
      refine And.intro (by omega) (And.intro ?_ ?_)
      · intro c5
        refine And.intro ⟨rfl, by decide, by decide⟩ ?_
        refine And.intro ⟨rfl, by decide, by decide⟩ ?_
        refine And.intro ⟨rfl, by decide, by decide⟩ ?_
        refine Exists.intro xm_178 (And.intro mi_178 (And.intro ⟨rfl, rfl, rfl, rfl⟩ (And.intro rfl ?_)))
        refine fcall _ h0 (fzs_sub (by decide +kernel) hW) hB0 (ct_Rounds_goRound_589d9 (fBz h0 hB0) (by first | exact ⟨Int.le_trans (by decide) (Int.le_trans (Int.le_refl _) hz1.1), Int.le_trans (Int.le_trans hz1.2 (Int.le_refl _)) (by decide)⟩ | omega) (by first | exact ⟨Int.le_trans (by decide) (Int.le_trans (Int.le_refl _) hz4.1), Int.le_trans (Int.le_trans hz4.2 (Int.le_refl _)) (by decide)⟩ | omega) (by omega) (by omega)) ?_
        rintro IhB7 _ hB7 fhB7 ⟨rfl, hz6, g0z6, g1z6⟩
        refine And.intro ⟨rfl, by decide, by decide⟩ ?_
        refine And.intro ⟨rfl, by decide, by decide⟩ (fgetf fb_727_0 h0 hB7 ?_)
        intro z8 lz8 uz8 qz8
        refine And.intro (True.intro) ?_
        exact ⟨_, rfl, (by first | exact ⟨lz8, uz8⟩ | omega), ⟨fun _ => qz8.trans g0z6, fun q => absurd ⟨⟨by omega, by omega⟩, by omega, by omega⟩ q⟩⟩
      · intro c9
        refine And.intro (True.intro) ?_
        exact ⟨_, rfl, (by first | exact ⟨by decide, by decide⟩ | omega), ⟨fun q => by exfalso; omega, fun _ => by omega⟩⟩
set_option maxRecDepth 8000 in
theorem ct_M_isSkin_da592 {I : fH} {x1 : Int} (h0 : fB bsJ I) (ha1 : (0 ≤ x1 ∧ x1 ≤ 23)) : fC ρ base n F xTc vwCl xTys D dA la gJ (fbz bsJ znJ (fKc []) I) xm_458 [.inr (.inr (some 740)), .inl x1] I (fun _ r => ∃ z, r = some (.inl z) ∧ (0 ≤ z ∧ z ≤ 1) ∧ ((z = 1 ∧ gt (mR I) (530 + 14 * x1) = 1 ∧ gt (mR I) (538 + 14 * x1) = 0) ∨ (z = 0 ∧ ¬ (gt (mR I) (530 + 14 * x1) = 1 ∧ gt (mR I) (538 + 14 * x1) = 0)))) := by
  have hW : fzs [] (fKc []) := fKc_ok _
  refine f_meth (rb := rbJ) (J := []) 1 400 xG xin_458 x6_458 okJ (fB_self h0) ?_ ?_
  · exact fun q h => absurd h List.not_mem_nil
  · have hB0 := fB_self (zn := znJ) (K := fKc []) h0
    refine Exists.intro xm_267 (And.intro mi_267 (And.intro ⟨rfl, rfl, rfl, rfl⟩ (And.intro rfl ?_)))
    refine fcallp hB0 (ct_M_kindOf_31275 (fBz h0 hB0) (by first | exact ⟨ha1.1, ha1.2⟩ | omega)) ?_
    rintro _ ⟨z1, rfl, hz1, g0z1, g1z1⟩
    refine And.intro (And.intro (by first | exact fi_ hz1.1 hz1.2 rfl | omega) (by first | exact ⟨by decide, by decide⟩ | omega)) (And.intro ?_ ?_)
    · intro c2
      refine And.intro (⟨by omega, by omega⟩) ?_
      exact ⟨_, rfl, by omega, (Or.inr ⟨by omega, fun q => by have q0 := g1z1; have q1 := q.1; omega⟩)⟩
    · intro c3
      refine Exists.intro xm_245 (And.intro mi_245 (And.intro ⟨rfl, rfl, rfl, rfl⟩ (And.intro rfl ?_)))
      refine fcallp hB0 (ct_M_isGone_0de37 (fBz h0 hB0) (by first | exact ⟨ha1.1, ha1.2⟩ | omega)) ?_
      rintro _ ⟨z4, rfl, hz4, g0z4⟩
      refine And.intro (by omega) (And.intro ?_ ?_)
      · intro c5
        refine And.intro (⟨by omega, by omega⟩) ?_
        exact ⟨_, rfl, by omega, (Or.inr ⟨by omega, fun q => by have q2 := q.2; have q3 := g0z4; omega⟩)⟩
      · intro c6
        refine And.intro (⟨by decide, by decide⟩) ?_
        exact ⟨_, rfl, (by first | exact ⟨by decide, by decide⟩ | omega), (Or.inl ⟨by omega, by have q0 := g1z1; omega, by have q3 := g0z4; omega⟩)⟩
abbrev jc_M_weathers_325ea_25 (x1 : Int) (I0 : fH) : Nat → fL → List fV → fH → Prop := fun m lv st I => lv = [(0, .inr (.inr (some 740)))] ∧ st = [] ∧ (((100 * I 740 27 - I 740 28 = 100 * I0 740 27 - (I0 740 28 + 6 * I0 741 (4510 + x1.toNat) / 10)) ∧ (0 ≤ I 740 28) ∧ (I 740 28 ≤ I0 740 28 + 6 * I0 741 (4510 + x1.toNat) / 10) ∧ (0 ≤ I0 741 (4510 + x1.toNat) ∧ I0 741 (4510 + x1.toNat) ≤ 999))) ∧ m = (1 + 1 * I 740 28 : Int).toNat
set_option maxRecDepth 8000 in
theorem ct_M_weathers_325ea {I : fH} {x1 : Int} (h0 : fB bsJ I) (ha1 : (0 ≤ x1 ∧ x1 ≤ 47)) (hp0 : -100000 ≤ I 740 27 ∧ I 740 27 ≤ 200000) (hp1 : 0 ≤ I 740 28 ∧ I 740 28 ≤ 99) : fC ρ base n F xTc vwCl xTys D dA la gJ (fbz bsJ znJ (fKc wz_69d61) I) xm_460 [.inr (.inr (some 740)), .inl x1] I (fun I' r => r = none ∧ ((0 ≤ I 741 (4510 + x1.toNat) ∧ I 741 (4510 + x1.toNat) ≤ 999) ∧ I' 740 27 = I 740 27 - (I 740 28 + 6 * I 741 (4510 + x1.toNat) / 10) / 100 ∧ I' 740 28 = (I 740 28 + 6 * I 741 (4510 + x1.toNat) / 10) % 100)) := by
  have hW : fzs wz_69d61 (fKc wz_69d61) := fKc_ok _
  refine f_meth (rb := rbJ) (J := [(25, (jc_M_weathers_325ea_25 x1 I))]) 2147483650 400 xG xin_460 x6_460 okJ (fB_self h0) ?_ ?_
  · refine List.forall_mem_cons.mpr ⟨?_, fun q h => absurd h List.not_mem_nil⟩
    · rintro m _ _ I1 hB1 ⟨rfl, rfl, hb, hm⟩
      refine And.intro ⟨rfl, by decide, by decide⟩ (fgetf fb_740_28 h0 hB1 ?_)
      intro z1 lz1 uz1 qz1
      refine And.intro (And.intro (by first | exact fi_ lz1 uz1 rfl | omega) (by first | exact ⟨by decide, by decide⟩ | omega)) (And.intro ?_ ?_)
      · intro c2
        exact ⟨rfl, by omega⟩
      · intro c3
        refine And.intro ⟨rfl, by decide, by decide⟩ (fgetf fb_740_28 h0 hB1 ?_)
        intro z4 lz4 uz4 qz4
        refine And.intro ⟨rfl, by decide, by decide⟩ (And.intro rfl (And.intro (Or.inl rfl) (fputf fb_740_28 (by decide +kernel) hW (by omega) ?_)))
        intro IhB5 ehB5 hB5
        have t6 : IhB5 740 27 = I1 740 27 := (congrFun (congrFun ehB5 740) 27).trans (fup_ne (by first | decide | omega))
        have t7 := fup_at ehB5 28 (by first | rfl | omega)
        refine And.intro ⟨rfl, by decide, by decide⟩ (fgetf fb_740_27 h0 hB5 ?_)
        intro z8 lz8 uz8 qz8
        intro z9 hz9 ez9 bz9
        clear ez9
        try replace bz9 := bz9 (by omega)
        refine And.intro ⟨rfl, by decide, by decide⟩ (And.intro rfl (And.intro (Or.inl rfl) (fputf fb_740_27 (by decide +kernel) hW (by omega) ?_)))
        intro IhB10 ehB10 hB10
        have t11 := fup_at ehB10 27 (by first | rfl | omega)
        have t12 : IhB10 740 28 = IhB5 740 28 := (congrFun (congrFun ehB10 740) 28).trans (fup_ne (by first | decide | omega))
        exact fcutJ (I := IhB10) (j := (jc_M_weathers_325ea_25 x1 I)) (lv' := [(0, .inr (.inr (some 740)))]) (And.intro rfl True.intro) ⟨rfl, rfl, by omega, rfl⟩ (by omega)
  · have hB0 := fB_self (zn := znJ) (K := fKc wz_69d61) h0
    refine And.intro ⟨rfl, by decide, by decide⟩ (fgetf fb_740_28 h0 hB0 ?_)
    intro z13 lz13 uz13 qz13
    refine And.intro ⟨rfl, by decide, by decide⟩ ?_
    refine fload rL_741_741_4510_4557_1_0 h0 hB0 (by omega) ?_
    intro z14 lz14 uz14 qz14
    have w16 := fld_at qz14 (4510 + x1.toNat) (by omega)
    intro z15 hz15 ez15 bz15
    clear ez15
    have bz15 := bz15 (by omega)
    refine And.intro (And.intro (by omega) (And.intro (by first | exact ⟨by decide, by decide⟩ | omega) (And.intro (by first | exact by decide | omega) rfl))) ?_
    intro z16 hz16 ez16 dz16
    have dz16 := dz16 (by omega) (by omega)
    change _ = _ / _ at dz16
    intro z17 hz17 ez17 bz17
    clear ez17
    try replace bz17 := bz17 (by omega)
    refine And.intro ⟨rfl, by decide, by decide⟩ (And.intro rfl (And.intro (Or.inl rfl) (fputf fb_740_28 (by decide +kernel) hW (by omega) ?_)))
    intro IhB18 ehB18 hB18
    have t19 : IhB18 740 27 = I 740 27 := (congrFun (congrFun ehB18 740) 27).trans (fup_ne (by first | decide | omega))
    have t20 := fup_at ehB18 28 (by first | rfl | omega)
    exact fcutJ (I := IhB18) (j := (jc_M_weathers_325ea_25 x1 I)) (lv' := [(0, .inr (.inr (some 740)))]) (And.intro rfl True.intro) ⟨rfl, rfl, by omega, rfl⟩ (by omega)
abbrev jc_M_fallsIn_0827b_23 (x1 : Int) (x2 : Int) (x3 : Int) (x4 : Int) (I0 : fH) : Nat → fL → List fV → fH → Prop := fun m lv st I => ∃ (y3 : Int) (y4 : Int) (y5 : Int), lv = [(0, .inr (.inr (some 740))), (3, .inl y3), (4, .inl y4), (5, .inl y5)] ∧ st = [] ∧ (((1 ≤ y3 ∧ y3 ≤ 48) ∧ (0 ≤ y4 ∧ y4 ≤ 9) ∧ (0 ≤ y5 ∧ y5 ≤ 48) ∧ (y3 = x3) ∧ (y4 = x4) ∧ (x2 ≤ y5) ∧ (y5 ≤ x3)) ∧ (rnI (rnW (fun j : Nat => I0 741 (4510 + j))) (I0 754 x1.toNat) (I0 755 x1.toNat) x2.toNat x4 y5.toNat (I 740 27) (I 740 28))) ∧ m = (1 + 1 * (48 - y5) : Int).toNat
set_option maxRecDepth 8000 in
theorem ct_M_fallsIn_0827b {I : fH} {x1 : Int} {x2 : Int} {x3 : Int} {x4 : Int} (h0 : fB bsJ I) (ha1 : (0 ≤ x1 ∧ x1 ≤ 23)) (ha2 : (0 ≤ x2 ∧ x2 ≤ 47)) (ha3 : (1 ≤ x3 ∧ x3 ≤ 48)) (ha4 : (0 ≤ x4 ∧ x4 ≤ 9)) (hp0 : 0 ≤ I 755 x1.toNat ∧ I 755 x1.toNat ≤ 99) (hp1 : -90000 ≤ I 754 x1.toNat ∧ I 754 x1.toNat ≤ 190000) (hp2 : x2 ≤ x3) : fC ρ base n F xTc vwCl xTys D dA la gJ (fbz bsJ znJ (fKc wz_69d61) I) xm_459 [.inr (.inr (some 740)), .inl x1, .inl x2, .inl x3, .inl x4] I (fun _ r => ∃ z, r = some (.inl z) ∧ (0 ≤ z ∧ z ≤ 48) ∧ (z = rnf (rnW (fun j : Nat => I 741 (4510 + j))) (I 754 x1.toNat) (I 755 x1.toNat) x2.toNat x4 x3.toNat)) := by
  have hW : fzs wz_69d61 (fKc wz_69d61) := fKc_ok _
  refine f_meth (rb := rbJ) (J := [(23, (jc_M_fallsIn_0827b_23 x1 x2 x3 x4 I))]) 50 400 xG xin_459 x6_459 okJ (fB_self h0) ?_ ?_
  · refine List.forall_mem_cons.mpr ⟨?_, fun q h => absurd h List.not_mem_nil⟩
    · rintro m _ _ I1 hB1 ⟨y3, y4, y5, rfl, rfl, ⟨hb, hx0⟩, hm⟩
      have e7 : I1 741 = I 741 := funext (fFr_S (fFr_of hB1) (by decide +kernel))
      have bd := rnI_bd hx0 hp0 (by omega)
      refine And.intro (And.intro (by first | exact fi_ hb.2.2.1.1 hb.2.2.1.2 rfl | omega) (by first | exact fi_ hb.1.1 hb.1.2 rfl | omega)) (And.intro ?_ ?_)
      · intro c1
        refine And.intro (True.intro) ?_
        exact ⟨_, rfl, (by first | exact ⟨Int.le_trans (by decide) hb.1.1, hb.1.2⟩ | omega), (rnI_end hx0 (by omega) (by omega) (by omega))⟩
      · intro c2
        refine Exists.intro xm_460 (And.intro mi_460 (And.intro ⟨rfl, rfl, rfl, rfl⟩ (And.intro rfl ?_)))
        refine fcall _ h0 (fzs_sub (by decide +kernel) hW) hB1 (ct_M_weathers_325ea (fBz h0 hB1) (by first | exact ⟨hb.2.2.1.1, Int.le_trans (Int.le_sub_one_of_lt (Int.lt_of_lt_of_le c2 hb.1.2)) (by decide)⟩ | omega) (by omega) (by omega)) ?_
        rintro IhB4 _ hB4 fhB4 ⟨rfl, hz3⟩
        rw [e7] at hz3
        refine And.intro ⟨rfl, by decide, by decide⟩ (fgetf fb_740_27 h0 hB4 ?_)
        intro z5 lz5 uz5 qz5
        refine And.intro (And.intro (by first | exact fi_ lz5 uz5 rfl | omega) (by first | exact fi_ hb.2.1.1 hb.2.1.2 rfl | omega)) (And.intro ?_ ?_)
        · intro c6
          exact fcutJ (I := IhB4) (j := (jc_M_fallsIn_0827b_23 x1 x2 x3 x4 I)) (lv' := [(0, .inr (.inr (some 740))), (3, .inl _), (4, .inl _), (5, .inl _)]) (And.intro rfl (And.intro rfl (And.intro rfl (And.intro rfl True.intro)))) ⟨_, _, _, rfl, rfl, ⟨by omega, (rnI_s hx0 hp0 (by rw [rnW_at (by omega)]; omega) (l' := IhB4 740 27) (by rw [rnW_at (by omega)]; omega) (w' := IhB4 740 28) (by rw [rnW_at (by omega)]; omega) (by omega) (by omega))⟩, rfl⟩ (by omega)
        · intro c7
          refine And.intro (True.intro) ?_
          exact ⟨_, rfl, (by first | exact ⟨hb.2.2.1.1, Int.le_trans (Int.le_sub_one_of_lt (Int.lt_of_lt_of_le c2 hb.1.2)) (by decide)⟩ | omega), (rnI_stop hx0 hp0 (by rw [rnW_at (by omega)]; omega) (l' := IhB4 740 27) (by rw [rnW_at (by omega)]; omega) (by omega) (by omega) (by omega) (by omega))⟩
  · have hB0 := fB_self (zn := znJ) (K := fKc wz_69d61) h0
    refine And.intro ⟨rfl, by decide, by decide⟩ ?_
    refine fload1 rL_754_754_0_23_1_0 h0 hB0 ⟨by decide, by decide⟩ (by first | exact ⟨ha1.1, ha1.2⟩ | omega) ?_
    intro z8 lz8 uz8 qz8
    refine And.intro ⟨rfl, by decide, by decide⟩ (And.intro rfl (And.intro (Or.inl rfl) (fputf fb_740_27 (by decide +kernel) hW (by first | exact ⟨lz8, uz8⟩ | omega) ?_)))
    intro IhB9 ehB9 hB9
    have t10 := fup_at ehB9 27 (by first | rfl | omega)
    have t11 : IhB9 740 28 = I 740 28 := (congrFun (congrFun ehB9 740) 28).trans (fup_ne (by first | decide | omega))
    refine And.intro ⟨rfl, by decide, by decide⟩ ?_
    refine fload1 rL_755_755_0_23_1_0 h0 hB9 ⟨by decide, by decide⟩ (by first | exact ⟨ha1.1, ha1.2⟩ | omega) ?_
    intro z12 lz12 uz12 qz12
    have w16 : z12 = I 755 x1.toNat := qz12.trans (fup_other ehB9 755 _ (Or.inl (by decide)))
    refine And.intro ⟨rfl, by decide, by decide⟩ (And.intro rfl (And.intro (Or.inl rfl) (fputf fb_740_28 (by decide +kernel) hW (by first | exact ⟨lz12, uz12⟩ | omega) ?_)))
    intro IhB13 ehB13 hB13
    have t14 : IhB13 740 27 = IhB9 740 27 := (congrFun (congrFun ehB13 740) 27).trans (fup_ne (by first | decide | omega))
    have t15 := fup_at ehB13 28 (by first | rfl | omega)
    exact fcutJ (I := IhB13) (j := (jc_M_fallsIn_0827b_23 x1 x2 x3 x4 I)) (lv' := [(0, .inr (.inr (some 740))), (3, .inl _), (4, .inl _), (5, .inl _)]) (And.intro rfl (And.intro rfl (And.intro rfl (And.intro rfl True.intro)))) ⟨_, _, _, rfl, rfl, ⟨by omega, (rnI_0 (by omega) rfl (by omega) (by omega))⟩, rfl⟩ (by omega)
end CT

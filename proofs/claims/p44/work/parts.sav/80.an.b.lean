set_option linter.all false
section CT
variable {ρ : Nat → Int32} {base n : Nat} {F : Nat → Prop} {D : va_G} {dA : Nat → ClassId} {la : Launch}
set_option maxRecDepth 8000 in
theorem ct_Works_isGone_bce90 {I : fH} {x1 : Int} (h0 : fB bsJ I) (ha1 : (0 ≤ x1 ∧ x1 ≤ 23)) : fC ρ base n F xTc vwCl xTys D dA la gJ (fbz bsJ znJ (fKc []) I) xm_50 [.inr (.inr (some 675)), .inl x1] I (fun _ r => ∃ z, r = some (.inl z) ∧ (0 ≤ z ∧ z ≤ 1) ∧ ((z = 1 ∧ gt (cR 512 I) (538 + 14 * x1) = 1) ∨ (z = 0 ∧ gt (cR 512 I) (538 + 14 * x1) = 0))) := by
  have hW : fzs [] (fKc []) := fKc_ok _
  refine f_meth (rb := rbJ) (J := []) 1 400 xG xin_50 x6_50 okJ (fB_self h0) ?_ ?_
  · exact fun q h => absurd h List.not_mem_nil
  · have hB0 := fB_self (zn := znJ) (K := fKc []) h0
    refine And.intro ⟨rfl, by decide, by decide⟩ ?_
    refine fload1 rL_686_686_0_23_1_0 h0 hB0 ⟨by decide, by decide⟩ (by first | exact ⟨ha1.1, ha1.2⟩ | omega) ?_
    intro z1 lz1 uz1 qz1
    have v5 := cL_a (d := 512) (a := 174) (n := 24) (b := 538) (m := 14) (by decide +kernel) (by decide) qz1 (by omega) rfl
    refine And.intro (And.intro (by first | exact fi_ lz1 uz1 rfl | omega) (by first | exact ⟨by decide, by decide⟩ | omega)) (And.intro ?_ ?_)
    · intro c2
      refine And.intro (⟨by omega, by omega⟩) ?_
      exact ⟨_, rfl, by omega, (gn_of v5 (by omega) (by omega))⟩
    · intro c3
      refine And.intro (⟨by decide, by decide⟩) ?_
      exact ⟨_, rfl, (by first | exact ⟨by decide, by decide⟩ | omega), (gn_of v5 (by omega) (by omega))⟩
abbrev jc_People_isWatched_98c46_2 (x1 : Int) (I0 : fH) : Nat → fL → List fV → fH → Prop := fun m lv st I => ∃ (y1 : Int) (y2 : Int), lv = [(0, .inr (.inr (some 689))), (1, .inl y1), (2, .inl y2)] ∧ st = [] ∧ (((0 ≤ y1 ∧ y1 ≤ 19) ∧ (0 ≤ y2 ∧ y2 ≤ 24) ∧ (y2 ≤ I0 689 4) ∧ (y1 = x1)) ∧ (anU (wt1 (cR 512 I0) x1) y2 0)) ∧ m = (1 + 1 * (24 - y2) : Int).toNat
set_option maxRecDepth 8000 in
theorem ct_People_isWatched_98c46 {I : fH} {x1 : Int} (h0 : fB bsJ I) (ha1 : (0 ≤ x1 ∧ x1 ≤ 19)) : fC ρ base n F xTc vwCl xTys D dA la gJ (fbz bsJ znJ (fKc []) I) xm_97 [.inr (.inr (some 689)), .inl x1] I (fun _ r => ∃ z, r = some (.inl z) ∧ (0 ≤ z ∧ z ≤ 1) ∧ ((z = 1 ∧ sWat (cR 512 I) x1) ∨ (z = 0 ∧ ¬ sWat (cR 512 I) x1))) := by
  have hW : fzs [] (fKc []) := fKc_ok _
  refine f_meth (rb := rbJ) (J := [(2, (jc_People_isWatched_98c46_2 x1 I))]) 26 400 xG xin_97 x6_97 okJ (fB_self h0) ?_ ?_
  · refine List.forall_mem_cons.mpr ⟨?_, fun q h => absurd h List.not_mem_nil⟩
    · rintro m _ _ I1 hB1 ⟨y1, y2, rfl, rfl, ⟨hb, hx0⟩, hm⟩
      have eJ : I1 = I := fFr_nil (fFr_of hB1)
      have k1 := fBz_eq hB1 (a := 689) (j := 4) (by decide +kernel)
      have b2 := fBd fb_689_4 (fBz h0 hB1)
      refine And.intro ⟨rfl, by decide, by decide⟩ (fgetf fb_689_4 h0 hB1 ?_)
      intro z3 lz3 uz3 qz3
      have v4 := cL_f (d := 512) (a := 177) (j := 4) (r := 8) (p := 8) (by decide +kernel) (by decide) qz3 rfl
      rw [eJ] at v4
      refine And.intro (And.intro (by first | exact fi_ hb.2.1.1 hb.2.1.2 rfl | omega) (by first | exact fi_ lz3 uz3 rfl | omega)) (And.intro ?_ ?_)
      · intro c4
        refine And.intro (⟨by decide, by decide⟩) ?_
        have w8 := (cL_f (d := 512) (a := 177) (j := 4) (r := 8) (p := 8) (I := I) (z := I 689 4) (by decide +kernel) (by decide) rfl rfl)
        exact ⟨_, rfl, (by first | exact ⟨by decide, by decide⟩ | omega), (Or.inr ⟨by omega, (wt_end hx0 (by omega)).elim (fun q => absurd q.1 (by omega)) (fun q => q.2)⟩)⟩
      · intro c5
        refine And.intro ⟨rfl, by decide, by decide⟩ ?_
        refine fload1 rL_692_692_0_23_1_0 h0 hB1 ⟨by decide, by decide⟩ (by first | exact ⟨hb.2.1.1, Int.le_trans (Int.le_sub_one_of_lt (Int.lt_of_lt_of_le c5 uz3)) (by decide)⟩ | omega) ?_
        intro z6 lz6 uz6 qz6
        have v15 := cL_a (d := 512) (a := 180) (n := 24) (b := 872) (m := 6) (by decide +kernel) (by decide) qz6 (by omega) rfl
        rw [eJ] at v15
        refine And.intro (And.intro (by first | exact fi_ lz6 uz6 rfl | omega) (by first | exact fi_ hb.1.1 hb.1.2 rfl | omega)) (And.intro ?_ ?_)
        · intro c7
          exact fcutJ (I := I1) (j := (jc_People_isWatched_98c46_2 x1 I)) (lv' := [(0, .inr (.inr (some 689))), (1, .inl _), (2, .inl _)]) (And.intro rfl (And.intro rfl (And.intro rfl True.intro))) ⟨_, _, rfl, rfl, ⟨by omega, (anU_no hx0 (by omega) (by omega) rfl (wt1_a (u := y2) (by omega) v15 (Or.inl ⟨by omega, by omega⟩)))⟩, rfl⟩ (by omega)
        · intro c8
          refine And.intro ⟨rfl, by decide, by decide⟩ ?_
          refine fload1 rL_691_691_0_23_1_0 h0 hB1 ⟨by decide, by decide⟩ (by first | exact ⟨hb.2.1.1, Int.le_trans (Int.le_sub_one_of_lt (Int.lt_of_lt_of_le c5 uz3)) (by decide)⟩ | omega) ?_
          intro z9 lz9 uz9 qz9
          have v25 := cL_a (d := 512) (a := 179) (n := 24) (b := 871) (m := 6) (by decide +kernel) (by decide) qz9 (by omega) rfl
          rw [eJ] at v25
          refine And.intro (And.intro (by first | exact fi_ lz9 uz9 rfl | omega) (by first | exact ⟨by decide, by decide⟩ | omega)) (And.intro ?_ ?_)
          · intro c10
            exact fcutJ (I := I1) (j := (jc_People_isWatched_98c46_2 x1 I)) (lv' := [(0, .inr (.inr (some 689))), (1, .inl _), (2, .inl _)]) (And.intro rfl (And.intro rfl (And.intro rfl True.intro))) ⟨_, _, rfl, rfl, ⟨by omega, (anU_no hx0 (by omega) (by omega) rfl (wt1_a (u := y2) (by omega) v25 (Or.inr ⟨by omega, by omega⟩)))⟩, rfl⟩ (by omega)
          · intro c11
            refine Exists.intro xm_21 (And.intro mi_21 (And.intro ⟨rfl, rfl, rfl, rfl⟩ (And.intro rfl ?_)))
            refine fcallp hB1 (ct_People_isDead_16e8f (fBz h0 hB1) (by first | exact ⟨hb.2.1.1, Int.le_trans (Int.le_sub_one_of_lt (Int.lt_of_lt_of_le c5 uz3)) (by decide)⟩ | omega)) ?_
            rintro _ ⟨z12, rfl, hz12, g0z12⟩
            try rw [eJ] at g0z12
            refine And.intro (by omega) (And.intro ?_ ?_)
            · intro c13
              exact fcutJ (I := I1) (j := (jc_People_isWatched_98c46_2 x1 I)) (lv' := [(0, .inr (.inr (some 689))), (1, .inl _), (2, .inl _)]) (And.intro rfl (And.intro rfl (And.intro rfl True.intro))) ⟨_, _, rfl, rfl, ⟨by omega, (anU_no hx0 (by omega) (by omega) rfl (wt1_d (u := y2) (by omega) (g0z12.elim (fun q => q.2) (fun q => absurd q.1 (by omega)))))⟩, rfl⟩ (by omega)
            · intro c14
              refine And.intro (⟨by decide, by decide⟩) ?_
              have w8 := (cL_f (d := 512) (a := 177) (j := 4) (r := 8) (p := 8) (I := I) (z := I 689 4) (by decide +kernel) (by decide) rfl rfl)
              exact ⟨_, rfl, (by first | exact ⟨by decide, by decide⟩ | omega), (Or.inl ⟨by omega, wt_yes (y := y2) (by omega) (by omega) (wt1_of (u := y2) (by omega) v25 (by omega) (by omega) v15 (by omega) (by omega) (g0z12.elim (fun q => absurd q.1 (by omega)) (fun q => q.2)))⟩)⟩
  · have hB0 := fB_self (zn := znJ) (K := fKc []) h0
    have b15 := fBd fb_689_4 (fBz h0 hB0)
    exact fcutJ (I := I) (j := (jc_People_isWatched_98c46_2 x1 I)) (lv' := [(0, .inr (.inr (some 689))), (1, .inl _), (2, .inl _)]) (And.intro rfl (And.intro rfl (And.intro rfl True.intro))) ⟨_, _, rfl, rfl, ⟨by omega, (anU_0 (by omega) rfl)⟩, rfl⟩ (by omega)
set_option maxRecDepth 8000 in
theorem ct_Cells_sendReport_31df9 {I : fH} {x1 : Int} {x2 : Int} {x3 : Int} (h0 : fB bsJ I) (ha1 : (0 ≤ x1 ∧ x1 ≤ 19)) (ha2 : ((-2147483648) ≤ x2 ∧ x2 ≤ 2147483647)) (ha3 : (0 ≤ x3 ∧ x3 ≤ 99)) (hp0 : 0 ≤ x2) : fC ρ base n F xTc vwCl xTys D dA la gJ (fbz bsJ znJ (fKc wz_3ed0a) I) xm_98 [.inr (.inr (some 514)), .inl x1, .inl x2, .inl x3] I (fun I' r => r = none ∧ True ∧ (cR 512 I' = sSx (cR 512 I) x1 x2 x3)) := by
  have hW : fzs wz_3ed0a (fKc wz_3ed0a) := fKc_ok _
  refine f_meth (rb := rbJ) (J := []) 1 400 xG xin_98 x6_98 okJ (fB_self h0) ?_ ?_
  · exact fun q h => absurd h List.not_mem_nil
  · have hB0 := fB_self (zn := znJ) (K := fKc wz_3ed0a) h0
    refine And.intro (by first | exact fi_ ha3.1 ha3.2 rfl | omega) (And.intro ?_ ?_)
    · intro c1
      refine And.intro ⟨rfl, by decide, by decide⟩ (fgetf fb_514_12 h0 hB0 ?_)
      intro z2 lz2 uz2 qz2
      have v35 := cL_f (d := 512) (a := 2) (j := 12) (r := 13) (p := 13) (by decide +kernel) (by decide) qz2 rfl
      refine And.intro (And.intro (by first | exact fi_ lz2 uz2 rfl | omega) (by first | exact ⟨by decide, by decide⟩ | omega)) (And.intro ?_ ?_)
      · intro c3
        exact ⟨rfl, True.intro, (sSx_f (by omega) v35 (by omega) (by omega))⟩
      · intro c4
        refine And.intro ⟨rfl, by decide, by decide⟩ ?_
        refine And.intro ⟨rfl, by decide, by decide⟩ (fgetf fb_514_12 h0 hB0 ?_)
        intro z5 lz5 uz5 qz5
        have v48 := cL_f (d := 512) (a := 2) (j := 12) (r := 13) (p := 13) (by decide +kernel) (by decide) qz5 rfl
        refine And.intro ⟨rfl, by decide⟩ (And.intro (by omega) ?_)
        refine And.intro ⟨rfl, by decide, by decide⟩ ?_
        refine And.intro ⟨rfl, by decide⟩ (And.intro (by first | exact ⟨ha1.1, Int.lt_of_le_of_lt ha1.2 (by decide)⟩ | omega) ?_)
        refine And.intro (fcopyU (rgG_518_537 (by omega) (by omega)) (rgG_585_674 (by omega) (by omega)) rL_518_537_0_4_1_0 rS_585_674_0_4_1_0 (fzs_sub (by decide +kernel) hW) h0 hB0 (by omega) (by omega) (by omega) (by omega)) (And.intro rfl ?_)
        intro IhB6 ehB6 hB6
        have t7 : IhB6 514 12 = I 514 12 := (congrFun (congrFun ehB6 514) 12).trans (fcpy_ne (by omega))
        have r65 := cR_ra (d := 512) (c := x1.toNat) (s := z5.toNat) ehB6 rfl (by omega) (by omega) (by omega) (by omega) rfl rfl
        skip
        refine fstore rS_585_674_5_5_1_0 (fzs_sub (by decide +kernel) hW) (by omega) (by first | exact ⟨ha2.1, ha2.2⟩ | omega) ?_
        intro IhB8 ehB8 hB8
        have t9 := fup_self ehB8
        have t10 : IhB8 514 12 = IhB6 514 12 := (congrFun (congrFun ehB8 514) 12).trans (fup_ne (by first | exact Or.inl (by decide) | omega))
        have r72 := cS_c (d := 512) (a := 73) (nr := 90) (j := 5) (b := 3616) (mr := 8) (by decide +kernel) (by decide) ehB8 (by omega) (by omega) rfl
        intro z11 hz11 ez11 bz11
        try replace bz11 := bz11 (by omega)
        refine fstore rS_585_674_6_6_1_0 (fzs_sub (by decide +kernel) hW) (by omega) (by omega) ?_
        intro IhB12 ehB12 hB12
        have t13 := fup_self ehB12
        have t14 : IhB12 514 12 = IhB8 514 12 := (congrFun (congrFun ehB12 514) 12).trans (fup_ne (by first | exact Or.inl (by decide) | omega))
        have r80 := cS_c (d := 512) (a := 73) (nr := 90) (j := 6) (b := 3617) (mr := 8) (by decide +kernel) (by decide) ehB12 (by omega) (by omega) rfl
        refine fstore rS_585_674_7_7_1_0 (fzs_sub (by decide +kernel) hW) (by omega) (by first | exact ⟨ha1.1, ha1.2⟩ | omega) ?_
        intro IhB15 ehB15 hB15
        have t16 := fup_self ehB15
        have t17 : IhB15 514 12 = IhB12 514 12 := (congrFun (congrFun ehB15 514) 12).trans (fup_ne (by first | exact Or.inl (by decide) | omega))
        have r86 := cS_c (d := 512) (a := 73) (nr := 90) (j := 7) (b := 3610) (mr := 8) (by decide +kernel) (by decide) ehB15 (by omega) (by omega) rfl
        refine And.intro ⟨rfl, by decide, by decide⟩ (fgetf fb_514_12 h0 hB15 ?_)
        intro z18 lz18 uz18 qz18
        have v89 := cL_f (d := 512) (a := 2) (j := 12) (r := 13) (p := 13) (by decide +kernel) (by decide) qz18 rfl
        rw [r86, r80, r72, r65] at v89
        refine And.intro ⟨rfl, by decide, by decide⟩ (And.intro rfl (And.intro (Or.inl rfl) (fputf fb_514_12 (by decide +kernel) hW (by omega) ?_)))
        intro IhB19 ehB19 hB19
        have r94 := cS_f (d := 512) (a := 2) (j := 12) (r := 13) (p := 13) (by decide +kernel) (by decide) ehB19 rfl
        exact ⟨rfl, True.intro, (by rw [r94, r86, r80, r72, r65]; exact (sSx_2 (n := z5) (by omega) v48 (by omega) (by omega) (by omega) (by omega) (fun _ => congrArg (gt _) (by omega)) (by omega) (by omega) hz11 ez11 (by omega) v89 (by omega) (by omega) (by omega)))⟩
    · intro c20
      refine And.intro ⟨rfl, by decide, by decide⟩ ?_
      refine And.intro ⟨rfl, by decide⟩ (And.intro (by first | exact ⟨ha1.1, Int.lt_of_le_of_lt ha1.2 (by decide)⟩ | omega) ?_)
      refine And.intro ⟨rfl, by decide, by decide⟩ ?_
      refine And.intro ⟨rfl, by decide⟩ (And.intro (by first | exact ⟨ha1.1, Int.lt_of_le_of_lt ha1.2 (by decide)⟩ | omega) ?_)
      refine And.intro (fcopyU (rgG_518_537 (by omega) (by omega)) (rgG_560_579 (by omega) (by omega)) rL_518_537_0_4_1_0 rS_560_579_0_5_1_0 (fzs_sub (by decide +kernel) hW) h0 hB0 (by omega) (by omega) (by omega) (by omega)) (And.intro rfl ?_)
      intro IhB21 ehB21 hB21
      refine And.intro ⟨rfl, by decide, by decide⟩ ?_
      refine And.intro ⟨rfl, by decide⟩ (And.intro (by first | exact ⟨ha1.1, Int.lt_of_le_of_lt ha1.2 (by decide)⟩ | omega) ?_)
      refine fstore rS_560_579_0_5_1_0 (fzs_sub (by decide +kernel) hW) (by omega) (by first | exact ⟨ha2.1, ha2.2⟩ | omega) ?_
      intro IhB22 ehB22 hB22
      have t23 := fup_self ehB22
      exact ⟨rfl, True.intro, (sSx_0 (by omega) ((cR_no (d := 512) (c := x1.toNat) ehB21 rfl (by omega) (by omega) ehB22 (by omega) rfl (by omega) hp0 rfl).trans (by rw [Int.toNat_of_nonneg (by omega)])))⟩
abbrev jc_City_sendReports_305c9_2 (I0 : fH) : Nat → fL → List fV → fH → Prop := fun m lv st I => ∃ (y1 : Int), lv = [(0, .inr (.inr (some 513))), (1, .inl y1)] ∧ st = [] ∧ (((0 ≤ y1 ∧ y1 ≤ 20) ∧ (y1 ≤ I0 514 5)) ∧ ((cR 512 I) = nf sSe (cR 512 I0) y1.toNat)) ∧ m = (1 + 1 * (20 - y1) : Int).toNat
set_option maxRecDepth 8000 in
theorem ct_City_sendReports_305c9 {I : fH}  (h0 : fB bsJ I) (hp0 : 0 ≤ gt (cR 512 I) 0) : fC ρ base n F xTc vwCl xTys D dA la gJ (fbz bsJ znJ (fKc wz_3ed0a) I) xm_96 [.inr (.inr (some 513))] I (fun I' r => r = none ∧ True ∧ (cR 512 I' = nf sSe (cR 512 I) (gt (cR 512 I) 5).toNat)) := by
  have hW : fzs wz_3ed0a (fKc wz_3ed0a) := fKc_ok _
  refine f_meth (rb := rbJ) (J := [(2, (jc_City_sendReports_305c9_2 I))]) 22 400 xG xin_96 x6_96 okJ (fB_self h0) ?_ ?_
  · refine List.forall_mem_cons.mpr ⟨?_, fun q h => absurd h List.not_mem_nil⟩
    · rintro m _ _ I1 hB1 ⟨y1, rfl, rfl, ⟨hb, hx0⟩, hm⟩
      have k1 := fBz_eq hB1 (a := 513) (j := 9) (by decide +kernel)
      have k2 := fBz_eq hB1 (a := 514) (j := 5) (by decide +kernel)
      have b3 := fBd fb_514_5 (fBz h0 hB1)
      have w0 : gt (cR 512 I1) 0 = gt (cR 512 I) 0 := (cG_fr (d := 512) (i0 := 0) (i1 := 0) (m := 1) (q := 0) (by decide +kernel) (fFr_of hB1) (by omega))
      refine And.intro ⟨rfl, by decide, by decide⟩ ?_
      refine And.intro ⟨rfl, by decide, by decide⟩ (fgetf fb_514_5 h0 hB1 ?_)
      intro z4 lz4 uz4 qz4
      have v7 := cL_f (d := 512) (a := 2) (j := 5) (r := 5) (p := 5) (by decide +kernel) (by decide) qz4 rfl
      refine And.intro (And.intro (by first | exact fi_ hb.1.1 hb.1.2 rfl | omega) (by first | exact fi_ lz4 uz4 rfl | omega)) (And.intro ?_ ?_)
      · intro c5
        have w5 : I 514 5 = gt (cR 512 I) 5 := (cL_f (d := 512) (a := 2) (j := 5) (r := 5) (p := 5) (I := I) (z := I 514 5) (by decide +kernel) (by decide) rfl rfl)
        exact ⟨rfl, True.intro, (nf_end hx0 (by omega))⟩
      · intro c6
        refine And.intro ⟨rfl, by decide, by decide⟩ ?_
        refine Exists.intro xm_97 (And.intro mi_97 (And.intro ⟨rfl, rfl, rfl, rfl⟩ (And.intro rfl ?_)))
        refine fcallp hB1 (ct_People_isWatched_98c46 (fBz h0 hB1) (by first | exact ⟨hb.1.1, Int.le_trans (Int.le_sub_one_of_lt (Int.lt_of_lt_of_le c6 uz4)) (by decide)⟩ | omega)) ?_
        rintro _ ⟨z7, rfl, hz7, g0z7⟩
        refine And.intro (by omega) (And.intro ?_ ?_)
        · intro c8
          exact fcutJ (I := I1) (j := (jc_City_sendReports_305c9_2 I)) (lv' := [(0, .inr (.inr (some 513))), (1, .inl _)]) (And.intro rfl (And.intro rfl True.intro)) ⟨_, rfl, rfl, ⟨by omega, (nf_row hx0 (by omega) (by omega) (sSe_n (u := y1) (by omega) (g0z7.elim (fun q => absurd q.1 (by omega)) (fun q => q.2))))⟩, rfl⟩ (by omega)
        · intro c9
          refine And.intro ⟨rfl, by decide, by decide⟩ ?_
          refine And.intro ⟨rfl, by decide, by decide⟩ (fgetf fb_513_9 h0 hB1 ?_)
          intro z10 lz10 uz10 qz10
          have v30 := cL_f (d := 512) (a := 1) (j := 9) (r := 0) (p := 0) (by decide +kernel) (by decide) qz10 rfl
          have w30 : z10 = gt (cR 512 I1) 0 := gt_at v30 (by omega)
          refine And.intro ⟨rfl, by decide, by decide⟩ (fgetf fb_513_8 h0 hB1 ?_)
          intro z11 lz11 uz11 qz11
          have v34 := cL_f (d := 512) (a := 1) (j := 8) (r := 4) (p := 4) (by decide +kernel) (by decide) qz11 rfl
          refine Exists.intro xm_98 (And.intro mi_98 (And.intro ⟨rfl, rfl, rfl, rfl⟩ (And.intro rfl ?_)))
          refine fcall _ h0 (fzs_sub (by decide +kernel) hW) hB1 (ct_Cells_sendReport_31df9 (fBz h0 hB1) (by first | exact ⟨hb.1.1, Int.le_trans (Int.le_sub_one_of_lt (Int.lt_of_lt_of_le c6 uz4)) (by decide)⟩ | omega) (by first | exact ⟨lz10, uz10⟩ | omega) (by first | exact ⟨lz11, uz11⟩ | omega) (by omega)) ?_
          rintro IhB13 _ hB13 fhB13 ⟨rfl, hz12, g0z12⟩
          have t14 := fhB13 514 5 (by decide +kernel)
          have k15 := fBz_eq hB13 (a := 513) (j := 9) (by decide +kernel)
          have k16 := fBz_eq hB13 (a := 514) (j := 5) (by decide +kernel)
          exact fcutJ (I := IhB13) (j := (jc_City_sendReports_305c9_2 I)) (lv' := [(0, .inr (.inr (some 513))), (1, .inl _)]) (And.intro rfl (And.intro rfl True.intro)) ⟨_, rfl, rfl, ⟨by omega, (nf_row hx0 (by omega) (by omega) (sSe_y (u := y1) (by omega) (g0z7.elim (fun q => q.2) (fun q => absurd q.1 (by omega))) (g0z12.trans (by unfold sSe1; rw [gt_at v30 (show _ = (0 : Int) by omega), gt_at v34 (show _ = (4 : Int) by omega)]))))⟩, rfl⟩ (by omega)
  · have hB0 := fB_self (zn := znJ) (K := fKc wz_3ed0a) h0
    have b17 := fBd fb_514_5 (fBz h0 hB0)
    exact fcutJ (I := I) (j := (jc_City_sendReports_305c9_2 I)) (lv' := [(0, .inr (.inr (some 513))), (1, .inl _)]) (And.intro rfl (And.intro rfl True.intro)) ⟨_, rfl, rfl, ⟨by omega, rfl⟩, rfl⟩ (by omega)
set_option maxRecDepth 8000 in
theorem ct_Cells_hear_45721 {I : fH} {x1 : Nat} (h0 : fB bsJ I) (ha1 : (585 ≤ x1 ∧ x1 ≤ 674)) (hp0 : 0 ≤ gt (cR 512 I) (3616 + 8 * ((x1 : Int) - 585))) (hp1 : gt (cR 512 I) (47 + 20 * gt (cR 512 I) (3610 + 8 * ((x1 : Int) - 585))) ≠ gt (cR 512 I) (3616 + 8 * ((x1 : Int) - 585))) : fC ρ base n F xTc vwCl xTys D dA la gJ (fbz bsJ znJ (fKc wz_10d1b) I) xm_76 [.inr (.inr (some 514)), .inr (.inr (some x1))] I (fun I' r => r = none ∧ True ∧ (cR 512 I' = sKn1 (cR 512 I) (gt (cR 512 I) (3610 + 8 * ((x1 : Int) - 585))) (fun k : Nat => gt (cR 512 I) (3611 + 8 * ((x1 : Int) - 585) + (k : Int))) (gt (cR 512 I) (3616 + 8 * ((x1 : Int) - 585))))) := by
  have hW : fzs wz_10d1b (fKc wz_10d1b) := fKc_ok _
  refine f_meth (rb := rbJ) (J := []) 1 400 xG xin_76 x6_76 okJ (fB_self h0) ?_ ?_
  · exact fun q h => absurd h List.not_mem_nil
  · have hB0 := fB_self (zn := znJ) (K := fKc wz_10d1b) h0
    refine fload rL_585_674_7_7_1_0 h0 hB0 (by omega) ?_
    intro z1 lz1 uz1 qz1
    have w3 := fld_at qz1 7 (by omega)
    refine fload rL_585_674_5_5_1_0 h0 hB0 (by omega) ?_
    intro z2 lz2 uz2 qz2
    have w7 := fld_at qz2 5 (by omega)
    refine And.intro ⟨rfl, by decide, by decide⟩ ?_
    refine And.intro ⟨rfl, by decide⟩ (And.intro (by first | exact ⟨lz1, Int.lt_of_le_of_lt uz1 (by decide)⟩ | omega) ?_)
    refine fload rL_560_579_0_5_1_0 h0 hB0 (by omega) ?_
    intro z3 lz3 uz3 qz3
    refine And.intro (And.intro (by first | exact fi_ lz2 uz2 rfl | omega) (by first | exact fi_ lz3 uz3 rfl | omega)) (And.intro ?_ ?_)
    · intro c4
      exact ⟨rfl, True.intro, (by have ei : ((x1 : Int) - 585) = (((x1 - 585 : Nat) : Nat) : Int) := (by omega); have e3 : gt (cR 512 I) (3610 + 8 * ((x1 : Int) - 585)) = ((z1.toNat : Nat) : Int) := (by rw [ei]; exact (gR_rp (d := 512) (i := x1 - 585) (k := 0) (by omega) (by omega) (by omega)).trans (by rw [if_pos rfl, show 73 + (x1 - 585) + 512 = x1 by omega]; omega)); have h1 := hp0; have h2 := hp1; rw [e3, ei] at h2; rw [ei] at h1; rw [e3, ei]; exact he_0 (d := 512) (z := z3) (by omega) (by omega) h1 h2 (by rw [show 48 + z1.toNat + 512 = 560 + z1.toNat by omega]; exact fld_at qz3 5 (by omega)) (by rw [show 73 + (x1 - 585) + 512 = x1 by omega]; omega))⟩
    · intro c5
      refine And.intro ⟨rfl, by decide, by decide⟩ ?_
      refine And.intro ⟨rfl, by decide⟩ (And.intro (by first | exact ⟨lz1, Int.lt_of_le_of_lt uz1 (by decide)⟩ | omega) ?_)
      refine And.intro (fcopyU (rgG_585_674 (by omega) (by omega)) (rgG_560_579 (by omega) (by omega)) rL_585_674_0_5_1_0 rS_560_579_0_5_1_0 (fzs_sub (by decide +kernel) hW) h0 hB0 (by omega) (by omega) (by omega) (by omega)) (And.intro rfl ?_)
      intro IhB6 ehB6 hB6
      exact ⟨rfl, True.intro, (by have ei : ((x1 : Int) - 585) = (((x1 - 585 : Nat) : Nat) : Int) := (by omega); have e3 : gt (cR 512 I) (3610 + 8 * ((x1 : Int) - 585)) = ((z1.toNat : Nat) : Int) := (by rw [ei]; exact (gR_rp (d := 512) (i := x1 - 585) (k := 0) (by omega) (by omega) (by omega)).trans (by rw [if_pos rfl, show 73 + (x1 - 585) + 512 = x1 by omega]; omega)); have h1 := hp0; rw [ei] at h1; rw [e3, ei]; exact he_1 (d := 512) (z := z3) ehB6 rfl (by omega) (by omega) (by omega) (by omega) h1 (by rw [show 48 + z1.toNat + 512 = 560 + z1.toNat by omega]; exact fld_at qz3 5 (by omega)) (by rw [show 73 + (x1 - 585) + 512 = x1 by omega]; omega))⟩
abbrev jc_Cells_takeReports_88f4c_4 (x1 : Int) (I0 : fH) : Nat → fL → List fV → fH → Prop := fun m lv st I => ∃ (y1 : Int) (y2 : Int) (y3 : Int), lv = [(0, .inr (.inr (some 514))), (1, .inl y1), (2, .inl y2), (3, .inl y3)] ∧ st = [] ∧ ((((-2147483648) ≤ y1 ∧ y1 ≤ 2147483647) ∧ (0 ≤ y2 ∧ y2 ≤ 90) ∧ (0 ≤ y3 ∧ y3 ≤ 90) ∧ (y2 ≤ y3) ∧ (I 514 12 = I0 514 12) ∧ (y3 ≤ I0 514 12) ∧ (y1 = x1)) ∧ ((y2, (cR 512 I)) = nf sCm (0, (cR 512 I0)) y3.toNat)) ∧ m = (1 + 1 * (90 - y3) : Int).toNat
set_option maxRecDepth 8000 in
theorem ct_Cells_takeReports_88f4c {I : fH} {x1 : Int} (h0 : fB bsJ I) (ha1 : ((-2147483648) ≤ x1 ∧ x1 ≤ 2147483647)) (hp0 : x1 = gt (cR 512 I) 0) (hp1 : okB (cR 512 I)) : fC ρ base n F xTc vwCl xTys D dA la gJ (fbz bsJ znJ (fKc wz_3ed0a) I) xm_74 [.inr (.inr (some 514)), .inl x1] I (fun I' r => r = none ∧ True ∧ (cR 512 I' = sCome (cR 512 I))) := by
  have hW : fzs wz_3ed0a (fKc wz_3ed0a) := fKc_ok _
  refine f_meth (rb := rbJ) (J := [(4, (jc_Cells_takeReports_88f4c_4 x1 I))]) 92 400 xG xin_74 x6_74 okJ (fB_self h0) ?_ ?_
  · refine List.forall_mem_cons.mpr ⟨?_, fun q h => absurd h List.not_mem_nil⟩
    · rintro m _ _ I1 hB1 ⟨y1, y2, y3, rfl, rfl, ⟨hb, hx0⟩, hm⟩
      have b1 := fBd fb_514_12 (fBz h0 hB1)
      have w13 : I 514 12 = gt (cR 512 I) 13 := (cL_f (d := 512) (a := 2) (j := 12) (r := 13) (p := 13) (I := I) (z := I 514 12) (by decide +kernel) (by decide) rfl rfl)
      have c3 : okC (cR 512 I1) y2 y3 (gt (cR 512 I) 13) ∧ gt (cR 512 I1) 0 = gt (cR 512 I) 0 := by have q := okC_nf hp1 y3.toNat (by omega); rw [← hx0] at q; refine ⟨?_, q.2.2.2 0 (by omega) (by omega)⟩; have q1 := q.1; rw [Int.toNat_of_nonneg (by omega)] at q1; exact q1
      refine And.intro ⟨rfl, by decide, by decide⟩ (fgetf fb_514_12 h0 hB1 ?_)
      intro z2 lz2 uz2 qz2
      have v6 := cL_f (d := 512) (a := 2) (j := 12) (r := 13) (p := 13) (by decide +kernel) (by decide) qz2 rfl
      refine And.intro (And.intro (by first | exact fi_ hb.2.2.1.1 hb.2.2.1.2 rfl | omega) (by first | exact fi_ lz2 uz2 rfl | omega)) (And.intro ?_ ?_)
      · intro c3
        refine And.intro ⟨rfl, by decide, by decide⟩ (And.intro rfl (And.intro (Or.inl rfl) (fputf fb_514_12 (by decide +kernel) hW (by first | exact ⟨hb.2.1.1, hb.2.1.2⟩ | omega) ?_)))
        intro IhB4 ehB4 hB4
        have t5 := fup_at ehB4 12 (by first | rfl | omega)
        have r60 := cS_f (d := 512) (a := 2) (j := 12) (r := 13) (p := 13) (by decide +kernel) (by decide) ehB4 rfl
        exact ⟨rfl, True.intro, (by rw [r60]; exact (cmr_end hx0 (by omega) (by omega) (by omega)))⟩
      · intro c6
        refine And.intro ⟨rfl, by decide, by decide⟩ ?_
        refine And.intro ⟨rfl, by decide⟩ (And.intro (by first | exact ⟨hb.2.2.1.1, Int.lt_of_le_of_lt (Int.le_sub_one_of_lt (Int.lt_of_lt_of_le c6 uz2)) (by decide)⟩ | omega) ?_)
        refine fload rL_585_674_6_6_1_0 h0 hB1 (by omega) ?_
        intro z7 lz7 uz7 qz7
        have v24 := cL_c (d := 512) (a := 73) (nr := 90) (j := 6) (b := 3617) (mr := 8) (by decide +kernel) (by decide) qz7 (by omega) (by omega) rfl
        refine And.intro (And.intro (by first | exact fi_ lz7 uz7 rfl | omega) (by first | exact fi_ hb.1.1 hb.1.2 rfl | omega)) (And.intro ?_ ?_)
        · intro c8
          refine Exists.intro xm_76 (And.intro mi_76 (And.intro ⟨rfl, rfl, rfl, rfl⟩ (And.intro rfl ?_)))
          refine fcall _ h0 (fzs_sub (by decide +kernel) hW) hB1 (ct_Cells_hear_45721 (fBz h0 hB1) (by omega) (okC_he (i := y3) c3.1 (by omega) (by omega)).1 (okC_he (i := y3) c3.1 (by omega) (by omega)).2) ?_
          rintro IhB10 _ hB10 fhB10 ⟨rfl, hz9, g0z9⟩
          have t11 := fhB10 514 12 (by decide +kernel)
          exact fcutJ (I := IhB10) (j := (jc_Cells_takeReports_88f4c_4 x1 I)) (lv' := [(0, .inr (.inr (some 514))), (1, .inl _), (2, .inl _), (3, .inl _)]) (And.intro rfl (And.intro rfl (And.intro rfl (And.intro rfl True.intro)))) ⟨_, _, _, rfl, rfl, ⟨by omega, (cmr_old hx0 (by omega) (by omega) v24 (by omega) (show x1 = gt (cR 512 I1) 0 by rw [c3.2]; exact hp0) rfl (by omega) g0z9 rfl (by omega) rfl (by omega) (fun _ => congrArg (gt _) (by omega)))⟩, rfl⟩ (by omega)
        · intro c12
          refine And.intro ⟨rfl, by decide, by decide⟩ ?_
          refine And.intro ⟨rfl, by decide⟩ (And.intro (by omega) ?_)
          refine Exists.intro xm_75 (And.intro mi_75 (And.intro ⟨rfl, rfl, rfl, rfl⟩ (And.intro True.intro ?_)))
          refine fcall _ h0 (fzs_sub (by decide +kernel) hW) hB1 (ct_copyRow (W := [584]) (len := 8) (fBz h0 hB1) (frCx (a0 := 585) (a1 := 674) (by decide +kernel) (by omega) (by omega))) ?_
          rintro IhB13 _ hB13 fhB13 ⟨rfl, ehB13⟩
          have t14 := fhB13 514 12 (by decide +kernel)
          intro z15 hz15 bz15
          have bz15 := bz15 (by omega)
          exact fcutJ (I := IhB13) (j := (jc_Cells_takeReports_88f4c_4 x1 I)) (lv' := [(0, .inr (.inr (some 514))), (1, .inl _), (2, .inl _), (3, .inl _)]) (And.intro rfl (And.intro rfl (And.intro rfl (And.intro rfl True.intro)))) ⟨_, _, _, rfl, rfl, ⟨by omega, (cmr_new hx0 v24 (by omega) (show x1 = gt (cR 512 I1) 0 by rw [c3.2]; exact hp0) rfl (by omega) (cR_mv (d := 512) (i := y3.toNat) (s := y2.toNat) ehB13 rfl (by omega) (by omega) (by omega) (by omega) rfl rfl) (by omega) (fun _ => congrArg (gt _) (by omega)) (by omega) (by omega) (by omega))⟩, rfl⟩ (by omega)
  · have hB0 := fB_self (zn := znJ) (K := fKc wz_3ed0a) h0
    have b16 := fBd fb_514_12 (fBz h0 hB0)
    exact fcutJ (I := I) (j := (jc_Cells_takeReports_88f4c_4 x1 I)) (lv' := [(0, .inr (.inr (some 514))), (1, .inl _), (2, .inl _), (3, .inl _)]) (And.intro rfl (And.intro rfl (And.intro rfl (And.intro rfl True.intro)))) ⟨_, _, _, rfl, rfl, ⟨by omega, rfl⟩, rfl⟩ (by omega)
set_option maxRecDepth 8000 in
theorem ct_People_needOf_66c94 {I : fH} {x1 : Int} (h0 : fB bsJ I) (ha1 : (0 ≤ x1 ∧ x1 ≤ 23)) : fC ρ base n F xTc vwCl xTys D dA la gJ (fbz bsJ znJ (fKc []) I) xm_92 [.inr (.inr (some 689)), .inl x1] I (fun _ r => ∃ z, r = some (.inl z) ∧ (1 ≤ z ∧ z ≤ 2) ∧ (z = sNd (cR 512 I) x1)) := by
  have hW : fzs [] (fKc []) := fKc_ok _
  refine f_meth (rb := rbJ) (J := []) 1 400 xG xin_92 x6_92 okJ (fB_self h0) ?_ ?_
  · exact fun q h => absurd h List.not_mem_nil
  · have hB0 := fB_self (zn := znJ) (K := fKc []) h0
    refine And.intro ⟨rfl, by decide, by decide⟩ ?_
    refine fload1 rL_690_690_0_23_1_0 h0 hB0 ⟨by decide, by decide⟩ (by first | exact ⟨ha1.1, ha1.2⟩ | omega) ?_
    intro z1 lz1 uz1 qz1
    have v5 := cL_a (d := 512) (a := 178) (n := 24) (b := 870) (m := 6) (by decide +kernel) (by decide) qz1 (by omega) rfl
    refine And.intro (And.intro (by first | exact fi_ lz1 uz1 rfl | omega) (by first | exact ⟨by decide, by decide⟩ | omega)) (And.intro ?_ ?_)
    · intro c2
      refine And.intro (True.intro) ?_
      exact ⟨_, rfl, by omega, (sNd_of v5 (by omega) (by omega))⟩
    · intro c3
      refine And.intro (True.intro) ?_
      exact ⟨_, rfl, (by first | exact ⟨by decide, by decide⟩ | omega), (sNd_of v5 (by omega) (by omega))⟩
set_option maxRecDepth 8000 in
theorem ct_People_sicken_4d132 {I : fH} {x1 : Int} {x2 : Int} (h0 : fB bsJ I) (ha1 : (0 ≤ x1 ∧ x1 ≤ 23)) (ha2 : ((-1) ≤ x2 ∧ x2 ≤ 8)) : fC ρ base n F xTc vwCl xTys D dA la gJ (fbz bsJ znJ (fKc wz_e70f1) I) xm_93 [.inr (.inr (some 689)), .inl x1, .inl x2] I (fun I' r => r = none ∧ True ∧ (cR 512 I' = sSi (cR 512 I) x1 x2)) := by
  have hW : fzs wz_e70f1 (fKc wz_e70f1) := fKc_ok _
  refine f_meth (rb := rbJ) (J := []) 1 400 xG xin_93 x6_93 okJ (fB_self h0) ?_ ?_
  · exact fun q h => absurd h List.not_mem_nil
  · have hB0 := fB_self (zn := znJ) (K := fKc wz_e70f1) h0
    refine And.intro ⟨rfl, by decide, by decide⟩ ?_
    refine And.intro ⟨rfl, by decide, by decide⟩ ?_
    refine fload1 rL_693_693_0_23_1_0 h0 hB0 ⟨by decide, by decide⟩ (by first | exact ⟨ha1.1, ha1.2⟩ | omega) ?_
    intro z1 lz1 uz1 qz1
    have v13 := cL_a (d := 512) (a := 181) (n := 24) (b := 873) (m := 6) (by decide +kernel) (by decide) qz1 (by omega) rfl
    intro z2 hz2 ez2 bz2
    clear ez2
    have bz2 := bz2 (by omega)
    refine And.intro (And.intro (by first | exact ⟨by decide, by decide⟩ | omega) (And.intro (by omega) rfl)) ?_
    intro z3 hz3
    refine And.intro (And.intro (by first | exact ⟨by decide, by decide⟩ | omega) (And.intro (by omega) rfl)) ?_
    intro z4 hz4
    refine fstore1 rS_693_693_0_23_1_0 (fzs_sub (by decide +kernel) hW) ⟨by decide, by decide⟩ (by first | exact ⟨ha1.1, ha1.2⟩ | omega) (by omega) ?_
    intro IhB5 ehB5 hB5
    have t6 := fup_self ehB5
    have r22 := cS_a (d := 512) (a := 181) (n := 24) (b := 873) (m := 6) (by decide +kernel) (by decide) ehB5 (by omega) rfl
    exact ⟨rfl, True.intro, (by rw [r22]; exact (sSi_of v13 (by omega) (by omega) (mn_le (by (repeat' split) <;> omega) (by (repeat' split) <;> omega) (by (repeat' split) <;> omega))))⟩
set_option maxRecDepth 8000 in
theorem ct_City_breathe_fe888 {I : fH} {x1 : Int} (h0 : fB bsJ I) (ha1 : (0 ≤ x1 ∧ x1 ≤ 23)) : fC ρ base n F xTc vwCl xTys D dA la gJ (fbz bsJ znJ (fKc wz_edb18) I) xm_91 [.inr (.inr (some 513)), .inl x1] I (fun I' r => r = none ∧ True ∧ (cR 512 I' = sBr (cR 512 I) x1)) := by
  have hW : fzs wz_edb18 (fKc wz_edb18) := fKc_ok _
  refine f_meth (rb := rbJ) (J := []) 1 400 xG xin_91 x6_91 okJ (fB_self h0) ?_ ?_
  · exact fun q h => absurd h List.not_mem_nil
  · have hB0 := fB_self (zn := znJ) (K := fKc wz_edb18) h0
    refine And.intro ⟨rfl, by decide, by decide⟩ ?_
    refine And.intro ⟨rfl, by decide, by decide⟩ ?_
    refine fload1 rL_692_692_0_23_1_0 h0 hB0 ⟨by decide, by decide⟩ (by first | exact ⟨ha1.1, ha1.2⟩ | omega) ?_
    intro z1 lz1 uz1 qz1
    have v8 := cL_a (d := 512) (a := 180) (n := 24) (b := 872) (m := 6) (by decide +kernel) (by decide) qz1 (by omega) rfl
    refine And.intro ⟨rfl, by decide, by decide⟩ ?_
    refine Exists.intro xm_92 (And.intro mi_92 (And.intro ⟨rfl, rfl, rfl, rfl⟩ (And.intro rfl ?_)))
    refine fcallp hB0 (ct_People_needOf_66c94 (fBz h0 hB0) (by first | exact ⟨ha1.1, ha1.2⟩ | omega)) ?_
    rintro _ ⟨z2, rfl, hz2, g0z2⟩
    refine And.intro ⟨rfl, by decide, by decide⟩ ?_
    refine And.intro ⟨rfl, by decide, by decide⟩ ?_
    refine And.intro ⟨rfl, by decide⟩ (And.intro (by first | exact ⟨lz1, Int.lt_of_le_of_lt uz1 (by decide)⟩ | omega) ?_)
    refine fload rL_518_537_0_4_1_0 h0 hB0 (by omega) ?_
    intro z3 lz3 uz3 qz3
    have v30 := cL_r (d := 512) (a := 6) (nr := 20) (n := 5) (b := 31) (mr := 20) (m := 1) (by decide +kernel) (by decide) qz3 (by omega) (by omega) rfl
    refine And.intro (And.intro (by first | exact fi_ hz2.1 hz2.2 rfl | omega) (And.intro (by first | exact fi_ lz3 uz3 rfl | omega) rfl)) ?_
    intro z4 hz4
    refine And.intro ⟨rfl, by decide, by decide⟩ ?_
    refine And.intro ⟨rfl, by decide, by decide⟩ ?_
    refine And.intro ⟨rfl, by decide⟩ (And.intro (by first | exact ⟨lz1, Int.lt_of_le_of_lt uz1 (by decide)⟩ | omega) ?_)
    refine fload rL_518_537_0_4_1_0 h0 hB0 (by omega) ?_
    intro z5 lz5 uz5 qz5
    have v47 := cL_r (d := 512) (a := 6) (nr := 20) (n := 5) (b := 31) (mr := 20) (m := 1) (by decide +kernel) (by decide) qz5 (by omega) (by omega) rfl
    intro z6 hz6 ez6 bz6
    clear ez6
    have bz6 := bz6 (by omega)
    refine fstore rS_518_537_0_4_1_0 (fzs_sub (by decide +kernel) hW) (by omega) (by omega) ?_
    intro IhB7 ehB7 hB7
    have t8 := fup_self ehB7
    have r51 := cS_r (d := 512) (a := 6) (nr := 20) (n := 5) (b := 31) (mr := 20) (m := 1) (by decide +kernel) (by decide) ehB7 (by omega) (by omega) rfl
    refine And.intro ⟨rfl, by decide, by decide⟩ ?_
    refine And.intro (And.intro (by omega) (And.intro (by first | exact ⟨by decide, by decide⟩ | omega) (And.intro (by first | exact by decide | omega) rfl))) ?_
    intro z9 hz9 ez9 dz9
    have dz9 := dz9 (by omega) (by omega)
    change _ = _ / _ at dz9
    refine Exists.intro xm_84 (And.intro mi_84 (And.intro ⟨rfl, rfl, rfl, rfl⟩ (And.intro rfl ?_)))
    refine fcall _ h0 (fzs_sub (by decide +kernel) hW) hB7 (ct_Cells_addAir_f5ee0 (fBz h0 hB7) (by first | exact ⟨lz1, uz1⟩ | omega) (by first | exact ⟨by decide, by decide⟩ | omega) (by omega) (by omega) (by omega)) ?_
    rintro IhB11 _ hB11 fhB11 ⟨rfl, hz10, g0z10⟩
    refine And.intro ⟨rfl, by decide, by decide⟩ ?_
    refine And.intro (And.intro (by omega) (And.intro (by first | exact ⟨by decide, by decide⟩ | omega) (And.intro (by first | exact by decide | omega) rfl))) ?_
    intro z12 hz12 ez12 dz12
    have dz12 := dz12 (by omega) (by omega)
    change _ = _ / _ at dz12
    intro z13 hz13 ez13 bz13
    clear ez13
    have bz13 := bz13 (by omega)
    refine Exists.intro xm_84 (And.intro mi_84 (And.intro ⟨rfl, rfl, rfl, rfl⟩ (And.intro rfl ?_)))
    refine fcall _ h0 (fzs_sub (by decide +kernel) hW) hB11 (ct_Cells_addAir_f5ee0 (fBz h0 hB11) (by first | exact ⟨lz1, uz1⟩ | omega) (by first | exact ⟨by decide, by decide⟩ | omega) (by omega) (by omega) (by omega)) ?_
    rintro IhB15 _ hB15 fhB15 ⟨rfl, hz14, g0z14⟩
    refine And.intro (by omega) (And.intro ?_ ?_)
    · intro c16
      refine And.intro ⟨rfl, by decide, by decide⟩ ?_
      refine And.intro ⟨rfl, by decide, by decide⟩ ?_
      refine And.intro ⟨rfl, by decide⟩ (And.intro (by first | exact ⟨lz1, Int.lt_of_le_of_lt uz1 (by decide)⟩ | omega) ?_)
      refine fload rL_518_537_0_4_1_0 h0 hB15 (by omega) ?_
      intro z17 lz17 uz17 qz17
      have v104 := cL_r (d := 512) (a := 6) (nr := 20) (n := 5) (b := 31) (mr := 20) (m := 1) (by decide +kernel) (by decide) qz17 (by omega) (by omega) rfl
      rw [g0z14, g0z10, r51] at v104
      refine And.intro ⟨rfl, by decide, by decide⟩ ?_
      refine And.intro ⟨rfl, by decide, by decide⟩ ?_
      refine fload1 rL_515_515_0_19_1_0 h0 hB15 ⟨by decide, by decide⟩ (by first | exact ⟨lz1, uz1⟩ | omega) ?_
      intro z18 lz18 uz18 qz18
      have v113 := cL_a (d := 512) (a := 3) (n := 20) (b := 30) (m := 20) (by decide +kernel) (by decide) qz18 (by omega) rfl
      rw [g0z14, g0z10, r51] at v113
      refine And.intro (And.intro (by first | exact fi_ lz17 uz17 rfl | omega) (by first | exact fi_ lz18 uz18 rfl | omega)) (And.intro ?_ ?_)
      · intro c19
        refine And.intro ⟨rfl, by decide, by decide⟩ ?_
        refine And.intro (by omega) (And.intro ?_ ?_)
        · intro c20
          refine Exists.intro xm_93 (And.intro mi_93 (And.intro ⟨rfl, rfl, rfl, rfl⟩ (And.intro rfl ?_)))
          refine fcall _ h0 (fzs_sub (by decide +kernel) hW) hB15 (ct_People_sicken_4d132 (fBz h0 hB15) (by first | exact ⟨ha1.1, ha1.2⟩ | omega) (by omega)) ?_
          rintro IhB22 _ hB22 fhB22 ⟨rfl, hz21, g0z21⟩
          exact ⟨rfl, True.intro, (by rw [g0z21, g0z14, g0z10, r51]; exact (sBr_cl (n := z4) v8 (by omega) g0z2 (by omega) (mn_of (mn_le (by omega) (by omega) (by omega)) rfl v30) (by omega) (by omega) (by omega) (by omega) (by omega) rfl rfl v104 (by omega) v113 (by omega) rfl (by (repeat' split) <;> omega)))⟩
        · intro c23
          refine Exists.intro xm_93 (And.intro mi_93 (And.intro ⟨rfl, rfl, rfl, rfl⟩ (And.intro rfl ?_)))
          refine fcall _ h0 (fzs_sub (by decide +kernel) hW) hB15 (ct_People_sicken_4d132 (fBz h0 hB15) (by first | exact ⟨ha1.1, ha1.2⟩ | omega) (by first | exact ⟨by decide, by decide⟩ | omega)) ?_
          rintro IhB25 _ hB25 fhB25 ⟨rfl, hz24, g0z24⟩
          exact ⟨rfl, True.intro, (by rw [g0z24, g0z14, g0z10, r51]; exact (sBr_cl (n := z4) v8 (by omega) g0z2 (by omega) (mn_of (mn_le (by omega) (by omega) (by omega)) rfl v30) (by omega) (by omega) (by omega) (by omega) (by omega) rfl rfl v104 (by omega) v113 (by omega) rfl (by (repeat' split) <;> omega)))⟩
      · intro c26
        refine And.intro ⟨rfl, by decide, by decide⟩ ?_
        refine And.intro (by omega) (And.intro ?_ ?_)
        · intro c27
          refine Exists.intro xm_93 (And.intro mi_93 (And.intro ⟨rfl, rfl, rfl, rfl⟩ (And.intro rfl ?_)))
          refine fcall _ h0 (fzs_sub (by decide +kernel) hW) hB15 (ct_People_sicken_4d132 (fBz h0 hB15) (by first | exact ⟨ha1.1, ha1.2⟩ | omega) (by omega)) ?_
          rintro IhB29 _ hB29 fhB29 ⟨rfl, hz28, g0z28⟩
          exact ⟨rfl, True.intro, (by rw [g0z28, g0z14, g0z10, r51]; exact (sBr_cl (n := z4) v8 (by omega) g0z2 (by omega) (mn_of (mn_le (by omega) (by omega) (by omega)) rfl v30) (by omega) (by omega) (by omega) (by omega) (by omega) rfl rfl v104 (by omega) v113 (by omega) rfl (by (repeat' split) <;> omega)))⟩
        · intro c30
          refine Exists.intro xm_93 (And.intro mi_93 (And.intro ⟨rfl, rfl, rfl, rfl⟩ (And.intro rfl ?_)))
          refine fcall _ h0 (fzs_sub (by decide +kernel) hW) hB15 (ct_People_sicken_4d132 (fBz h0 hB15) (by first | exact ⟨ha1.1, ha1.2⟩ | omega) (by first | exact ⟨by decide, by decide⟩ | omega)) ?_
          rintro IhB32 _ hB32 fhB32 ⟨rfl, hz31, g0z31⟩
          exact ⟨rfl, True.intro, (by rw [g0z31, g0z14, g0z10, r51]; exact (sBr_cl (n := z4) v8 (by omega) g0z2 (by omega) (mn_of (mn_le (by omega) (by omega) (by omega)) rfl v30) (by omega) (by omega) (by omega) (by omega) (by omega) rfl rfl v104 (by omega) v113 (by omega) rfl (by (repeat' split) <;> omega)))⟩
    · intro c33
      refine And.intro ⟨rfl, by decide, by decide⟩ ?_
      refine And.intro ⟨rfl, by decide, by decide⟩ ?_
      refine And.intro ⟨rfl, by decide⟩ (And.intro (by first | exact ⟨lz1, Int.lt_of_le_of_lt uz1 (by decide)⟩ | omega) ?_)
      refine fload rL_518_537_0_4_1_0 h0 hB15 (by omega) ?_
      intro z34 lz34 uz34 qz34
      have v104 := cL_r (d := 512) (a := 6) (nr := 20) (n := 5) (b := 31) (mr := 20) (m := 1) (by decide +kernel) (by decide) qz34 (by omega) (by omega) rfl
      rw [g0z14, g0z10, r51] at v104
      refine And.intro ⟨rfl, by decide, by decide⟩ ?_
      refine And.intro ⟨rfl, by decide, by decide⟩ ?_
      refine fload1 rL_515_515_0_19_1_0 h0 hB15 ⟨by decide, by decide⟩ (by first | exact ⟨lz1, uz1⟩ | omega) ?_
      intro z35 lz35 uz35 qz35
      have v113 := cL_a (d := 512) (a := 3) (n := 20) (b := 30) (m := 20) (by decide +kernel) (by decide) qz35 (by omega) rfl
      rw [g0z14, g0z10, r51] at v113
      refine And.intro (And.intro (by first | exact fi_ lz34 uz34 rfl | omega) (by first | exact fi_ lz35 uz35 rfl | omega)) (And.intro ?_ ?_)
      · intro c36
        refine And.intro ⟨rfl, by decide, by decide⟩ ?_
        refine And.intro (by first | exact ⟨by decide, by decide⟩ | omega) (And.intro ?_ ?_)
        · intro c37
          refine Exists.intro xm_93 (And.intro mi_93 (And.intro ⟨rfl, rfl, rfl, rfl⟩ (And.intro rfl ?_)))
          refine fcall _ h0 (fzs_sub (by decide +kernel) hW) hB15 (ct_People_sicken_4d132 (fBz h0 hB15) (by first | exact ⟨ha1.1, ha1.2⟩ | omega) (by first | exact ⟨by decide, by decide⟩ | omega)) ?_
          rintro IhB39 _ hB39 fhB39 ⟨rfl, hz38, g0z38⟩
          exact ⟨rfl, True.intro, (by rw [g0z38, g0z14, g0z10, r51]; exact (sBr_cl (n := z4) v8 (by omega) g0z2 (by omega) (mn_of (mn_le (by omega) (by omega) (by omega)) rfl v30) (by omega) (by omega) (by omega) (by omega) (by omega) rfl rfl v104 (by omega) v113 (by omega) rfl (by (repeat' split) <;> omega)))⟩
        · intro c40
          refine Exists.intro xm_93 (And.intro mi_93 (And.intro ⟨rfl, rfl, rfl, rfl⟩ (And.intro rfl ?_)))
          refine fcall _ h0 (fzs_sub (by decide +kernel) hW) hB15 (ct_People_sicken_4d132 (fBz h0 hB15) (by first | exact ⟨ha1.1, ha1.2⟩ | omega) (by first | exact ⟨by decide, by decide⟩ | omega)) ?_
          rintro IhB42 _ hB42 fhB42 ⟨rfl, hz41, g0z41⟩
          exact ⟨rfl, True.intro, (by rw [g0z41, g0z14, g0z10, r51]; exact (sBr_cl (n := z4) v8 (by omega) g0z2 (by omega) (mn_of (mn_le (by omega) (by omega) (by omega)) rfl v30) (by omega) (by omega) (by omega) (by omega) (by omega) rfl rfl v104 (by omega) v113 (by omega) rfl (by (repeat' split) <;> omega)))⟩
      · intro c43
        refine And.intro ⟨rfl, by decide, by decide⟩ ?_
        refine And.intro (by omega) (And.intro ?_ ?_)
        · intro c44
          refine Exists.intro xm_93 (And.intro mi_93 (And.intro ⟨rfl, rfl, rfl, rfl⟩ (And.intro rfl ?_)))
          refine fcall _ h0 (fzs_sub (by decide +kernel) hW) hB15 (ct_People_sicken_4d132 (fBz h0 hB15) (by first | exact ⟨ha1.1, ha1.2⟩ | omega) (by omega)) ?_
          rintro IhB46 _ hB46 fhB46 ⟨rfl, hz45, g0z45⟩
          exact ⟨rfl, True.intro, (by rw [g0z45, g0z14, g0z10, r51]; exact (sBr_cl (n := z4) v8 (by omega) g0z2 (by omega) (mn_of (mn_le (by omega) (by omega) (by omega)) rfl v30) (by omega) (by omega) (by omega) (by omega) (by omega) rfl rfl v104 (by omega) v113 (by omega) rfl (by (repeat' split) <;> omega)))⟩
        · intro c47
          refine Exists.intro xm_93 (And.intro mi_93 (And.intro ⟨rfl, rfl, rfl, rfl⟩ (And.intro rfl ?_)))
          refine fcall _ h0 (fzs_sub (by decide +kernel) hW) hB15 (ct_People_sicken_4d132 (fBz h0 hB15) (by first | exact ⟨ha1.1, ha1.2⟩ | omega) (by first | exact ⟨by decide, by decide⟩ | omega)) ?_
          rintro IhB49 _ hB49 fhB49 ⟨rfl, hz48, g0z48⟩
          exact ⟨rfl, True.intro, (by rw [g0z48, g0z14, g0z10, r51]; exact (sBr_cl (n := z4) v8 (by omega) g0z2 (by omega) (mn_of (mn_le (by omega) (by omega) (by omega)) rfl v30) (by omega) (by omega) (by omega) (by omega) (by omega) rfl rfl v104 (by omega) v113 (by omega) rfl (by (repeat' split) <;> omega)))⟩
set_option maxRecDepth 8000 in
theorem ct_City_level_cee1f {I : fH}  (h0 : fB bsJ I)  : fC ρ base n F xTc vwCl xTys D dA la gJ (fbz bsJ znJ (fKc []) I) xm_31 [.inr (.inr (some 513))] I (fun _ r => ∃ z, r = some (.inl z) ∧ (0 ≤ z ∧ z ≤ 60) ∧ (z = sLv (cR 512 I))) := by
  have hW : fzs [] (fKc []) := fKc_ok _
  refine f_meth (rb := rbJ) (J := []) 1 400 xG xin_31 x6_31 okJ (fB_self h0) ?_ ?_
  · exact fun q h => absurd h List.not_mem_nil
  · have hB0 := fB_self (zn := znJ) (K := fKc []) h0
    refine And.intro ⟨rfl, by decide, by decide⟩ (fgetf fb_513_5 h0 hB0 ?_)
    intro z1 lz1 uz1 qz1
    have v1 := cL_f (d := 512) (a := 1) (j := 5) (r := 1) (p := 1) (by decide +kernel) (by decide) qz1 rfl
    refine And.intro (And.intro (by first | exact fi_ lz1 uz1 rfl | omega) (And.intro (by first | exact ⟨by decide, by decide⟩ | omega) (And.intro (by first | exact by decide | omega) rfl))) ?_
    intro z2 hz2 ez2 dz2
    have dz2 := dz2 (by omega) (by omega)
    change _ = _ / _ at dz2
    refine And.intro (True.intro) ?_
    exact ⟨_, rfl, by omega, (sLv_of v1 (by omega) (by omega))⟩
set_option maxRecDepth 8000 in
theorem ct_Works_isSkin_984b7 {I : fH} {x1 : Int} (h0 : fB bsJ I) (ha1 : (0 ≤ x1 ∧ x1 ≤ 23)) : fC ρ base n F xTc vwCl xTys D dA la gJ (fbz bsJ znJ (fKc []) I) xm_64 [.inr (.inr (some 675)), .inl x1] I (fun _ r => ∃ z, r = some (.inl z) ∧ (0 ≤ z ∧ z ≤ 1) ∧ ((z = 1 ∧ gt (cR 512 I) (530 + 14 * x1) = 1 ∧ gt (cR 512 I) (538 + 14 * x1) = 0) ∨ (z = 0 ∧ ¬ (gt (cR 512 I) (530 + 14 * x1) = 1 ∧ gt (cR 512 I) (538 + 14 * x1) = 0)))) := by
  have hW : fzs [] (fKc []) := fKc_ok _
  refine f_meth (rb := rbJ) (J := []) 1 400 xG xin_64 x6_64 okJ (fB_self h0) ?_ ?_
  · exact fun q h => absurd h List.not_mem_nil
  · have hB0 := fB_self (zn := znJ) (K := fKc []) h0
    refine And.intro ⟨rfl, by decide, by decide⟩ ?_
    refine fload1 rL_676_676_0_23_1_0 h0 hB0 ⟨by decide, by decide⟩ (by first | exact ⟨ha1.1, ha1.2⟩ | omega) ?_
    intro z1 lz1 uz1 qz1
    have v5 := cL_a (d := 512) (a := 164) (n := 24) (b := 530) (m := 14) (by decide +kernel) (by decide) qz1 (by omega) rfl
    refine And.intro (And.intro (by first | exact fi_ lz1 uz1 rfl | omega) (by first | exact ⟨by decide, by decide⟩ | omega)) (And.intro ?_ ?_)
    · intro c2
      refine And.intro (⟨by omega, by omega⟩) ?_
      exact ⟨_, rfl, by omega, (sk_of v5 (by omega) (Or.inr ⟨by omega, Or.inl (by omega)⟩))⟩
    · intro c3
      refine And.intro ⟨rfl, by decide, by decide⟩ ?_
      refine fload1 rL_686_686_0_23_1_0 h0 hB0 ⟨by decide, by decide⟩ (by first | exact ⟨ha1.1, ha1.2⟩ | omega) ?_
      intro z4 lz4 uz4 qz4
      have v15 := cL_a (d := 512) (a := 174) (n := 24) (b := 538) (m := 14) (by decide +kernel) (by decide) qz4 (by omega) rfl
      refine And.intro (by first | exact fi_ lz4 uz4 rfl | omega) (And.intro ?_ ?_)
      · intro c5
        refine And.intro (⟨by omega, by omega⟩) ?_
        exact ⟨_, rfl, by omega, (sk_of v5 (by omega) (Or.inr ⟨by omega, Or.inr ⟨_, _, v15, by omega, by omega⟩⟩))⟩
      · intro c6
        refine And.intro (⟨by decide, by decide⟩) ?_
        exact ⟨_, rfl, (by first | exact ⟨by decide, by decide⟩ | omega), (sk_of v5 (by omega) (Or.inl ⟨by omega, by omega, _, _, v15, by omega, by omega⟩))⟩
set_option maxRecDepth 8000 in
theorem ct_City_liftOf_6cbf4 {I : fH} {x1 : Int} (h0 : fB bsJ I) (ha1 : (0 ≤ x1 ∧ x1 ≤ 23)) : fC ρ base n F xTc vwCl xTys D dA la gJ (fbz bsJ znJ (fKc []) I) xm_63 [.inr (.inr (some 513)), .inl x1] I (fun _ r => ∃ z, r = some (.inl z) ∧ (0 ≤ z ∧ z ≤ 9998900) ∧ (z = sLi (cR 512 I) x1.toNat)) := by
  have hW : fzs [] (fKc []) := fKc_ok _
  refine f_meth (rb := rbJ) (J := []) 1 400 xG xin_63 x6_63 okJ (fB_self h0) ?_ ?_
  · exact fun q h => absurd h List.not_mem_nil
  · have hB0 := fB_self (zn := znJ) (K := fKc []) h0
    refine And.intro ⟨rfl, by decide, by decide⟩ ?_
    refine Exists.intro xm_64 (And.intro mi_64 (And.intro ⟨rfl, rfl, rfl, rfl⟩ (And.intro rfl ?_)))
    refine fcallp hB0 (ct_Works_isSkin_984b7 (fBz h0 hB0) (by first | exact ⟨ha1.1, ha1.2⟩ | omega)) ?_
    rintro _ ⟨z1, rfl, hz1, g0z1⟩
    refine And.intro (by omega) (And.intro ?_ ?_)
    · intro c2
      refine And.intro (True.intro) ?_
      exact ⟨_, rfl, by omega, (by first | exact sLi_n (w := x1) (by omega) (g0z1.elim (fun q => absurd q.1 (by omega)) (fun q => q.2)) (cR_rng (d := 512) (i0 := 538) (i1 := 860) (m := 14) (q := 0) (lo := 0) (hi := 1) (by decide +kernel) h0 (by omega)) (by omega) | exact sLi_y (w := x1) (by omega) ((g0z1.elim (fun q => q.2) (fun q => absurd q.1 (by omega))).1) ((g0z1.elim (fun q => q.2) (fun q => absurd q.1 (by omega))).2) v19 (by omega) (sTb_of v30 g0nil0 (by omega)) k31 (by omega))⟩
    · intro c3
      refine And.intro ⟨rfl, by decide, by decide⟩ ?_
      refine And.intro ⟨rfl, by decide, by decide⟩ ?_
      refine fload1 rL_684_684_0_23_1_0 h0 hB0 ⟨by decide, by decide⟩ (by first | exact ⟨ha1.1, ha1.2⟩ | omega) ?_
      intro z4 lz4 uz4 qz4
      have v19 := cL_a (d := 512) (a := 172) (n := 24) (b := 536) (m := 14) (by decide +kernel) (by decide) qz4 (by omega) rfl
      refine And.intro ⟨rfl, by decide, by decide⟩ ?_
      refine And.intro ⟨rfl, by decide⟩ (And.intro (by first | exact ⟨by decide, by decide⟩ | omega) ?_)
      refine Exists.intro xm_31 (And.intro mi_31 (And.intro ⟨rfl, rfl, rfl, rfl⟩ (And.intro rfl ?_)))
      refine fcallp hB0 (ct_City_level_cee1f (fBz h0 hB0)) ?_
      rintro _ ⟨z5, rfl, hz5, g0z5⟩
      refine fload1 rL_696_696_0_60_1_0 h0 hB0 ⟨by decide, by decide⟩ (by first | exact ⟨hz5.1, hz5.2⟩ | omega) ?_
      intro z6 lz6 uz6 qz6
      have v30 := cL_a (d := 512) (a := 184) (n := 61) (b := 1020) (m := 1) (by decide +kernel) (by decide) qz6 (by omega) rfl
      intro z7 hz7 ez7 bz7
      clear ez7
      try replace bz7 := bz7 (by omega)
      have m31 := mul_rng lz4 uz4 lz6 uz6
      have k31 := bz7 ⟨by omega, by omega⟩
      refine And.intro (And.intro (by omega) (And.intro (by first | exact ⟨by decide, by decide⟩ | omega) (And.intro (by first | exact by decide | omega) rfl))) ?_
      intro z8 hz8 ez8 dz8
      have dz8 := dz8 (by omega) (by omega)
      change _ = _ / _ at dz8
      refine And.intro (True.intro) ?_
      exact ⟨_, rfl, by omega, (by first | exact sLi_n (w := x1) (by omega) (g0z1.elim (fun q => absurd q.1 (by omega)) (fun q => q.2)) (cR_rng (d := 512) (i0 := 538) (i1 := 860) (m := 14) (q := 0) (lo := 0) (hi := 1) (by decide +kernel) h0 (by omega)) (by omega) | exact sLi_y (w := x1) (by omega) ((g0z1.elim (fun q => q.2) (fun q => absurd q.1 (by omega))).1) ((g0z1.elim (fun q => q.2) (fun q => absurd q.1 (by omega))).2) v19 (by omega) (sTb_of v30 g0z5 (by omega)) k31 (by omega))⟩
end CT

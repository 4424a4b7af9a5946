set_option linter.all false
section CT
variable {ρ : Nat → Int32} {base n : Nat} {F : Nat → Prop} {D : va_G} {dA : Nat → ClassId} {la : Launch}
abbrev jc_City_lift_1f18c_4 (I0 : fH) : Nat → fL → List fV → fH → Prop := fun m lv st I => ∃ (y1 : Int) (y2 : Int), lv = [(0, .inr (.inr (some 513))), (1, .inl y1), (2, .inl y2)] ∧ st = [] ∧ (((0 ≤ y1 ∧ y1 ≤ 239973600) ∧ (0 ≤ y2 ∧ y2 ≤ 24) ∧ (y2 ≤ I0 675 13) ∧ (y1 ≤ 9998900 * y2)) ∧ (y1 = sm (sLi (cR 512 I0)) y2.toNat)) ∧ m = (1 + 1 * (24 - y2) : Int).toNat
set_option maxRecDepth 8000 in
theorem ct_City_lift_1f18c {I : fH}  (h0 : fB bsJ I)  : fC ρ base n F xTc vwCl xTys D dA la gJ (fbz bsJ znJ (fKc []) I) xm_62 [.inr (.inr (some 513))] I (fun _ r => ∃ z, r = some (.inl z) ∧ (0 ≤ z ∧ z ≤ 239973600) ∧ (z = sLift (cR 512 I))) := by
  have hW : fzs [] (fKc []) := fKc_ok _
  refine f_meth (rb := rbJ) (J := [(4, (jc_City_lift_1f18c_4 I))]) 26 400 xG xin_62 x6_62 okJ (fB_self h0) ?_ ?_
  · refine List.forall_mem_cons.mpr ⟨?_, fun q h => absurd h List.not_mem_nil⟩
    · rintro m _ _ I1 hB1 ⟨y1, y2, rfl, rfl, ⟨hb, hx0⟩, hm⟩
      have eJ : I1 = I := fFr_nil (fFr_of hB1)
      have k1 := fBz_eq hB1 (a := 675) (j := 13) (by decide +kernel)
      have b2 := fBd fb_675_13 (fBz h0 hB1)
      refine And.intro ⟨rfl, by decide, by decide⟩ ?_
      refine And.intro ⟨rfl, by decide, by decide⟩ (fgetf fb_675_13 h0 hB1 ?_)
      intro z3 lz3 uz3 qz3
      have v9 := cL_f (d := 512) (a := 163) (j := 13) (r := 7) (p := 7) (by decide +kernel) (by decide) qz3 rfl
      rw [eJ] at v9
      refine And.intro (And.intro (by first | exact fi_ hb.2.1.1 hb.2.1.2 rfl | omega) (by first | exact fi_ lz3 uz3 rfl | omega)) (And.intro ?_ ?_)
      · intro c4
        refine And.intro (True.intro) ?_
        have w7 := (cL_f (d := 512) (a := 163) (j := 13) (r := 7) (p := 7) (I := I) (z := I 675 13) (by decide +kernel) (by decide) rfl rfl)
        exact ⟨_, rfl, (by first | exact ⟨hb.1.1, hb.1.2⟩ | omega), (sm_fin hx0 (by omega))⟩
      · intro c5
        refine Exists.intro xm_63 (And.intro mi_63 (And.intro ⟨rfl, rfl, rfl, rfl⟩ (And.intro rfl ?_)))
        refine fcallp hB1 (ct_City_liftOf_6cbf4 (fBz h0 hB1) (by first | exact ⟨hb.2.1.1, Int.le_trans (Int.le_sub_one_of_lt (Int.lt_of_lt_of_le c5 uz3)) (by decide)⟩ | omega)) ?_
        rintro _ ⟨z6, rfl, hz6, g0z6⟩
        try rw [eJ] at g0z6
        intro z7 hz7 ez7 bz7
        clear ez7
        have bz7 := bz7 (by omega)
        exact fcutJ (I := I1) (j := (jc_City_lift_1f18c_4 I)) (lv' := [(0, .inr (.inr (some 513))), (1, .inl _), (2, .inl _)]) (And.intro rfl (And.intro rfl (And.intro rfl True.intro))) ⟨_, _, rfl, rfl, ⟨by omega, (sm_at hx0 (by omega) (by omega) g0z6 (by omega))⟩, rfl⟩ (by omega)
  · have hB0 := fB_self (zn := znJ) (K := fKc []) h0
    have b8 := fBd fb_675_13 (fBz h0 hB0)
    exact fcutJ (I := I) (j := (jc_City_lift_1f18c_4 I)) (lv' := [(0, .inr (.inr (some 513))), (1, .inl _), (2, .inl _)]) (And.intro rfl (And.intro rfl (And.intro rfl True.intro))) ⟨_, _, rfl, rfl, ⟨by omega, rfl⟩, rfl⟩ (by omega)
abbrev jc_People_living_f14dc_4 (I0 : fH) : Nat → fL → List fV → fH → Prop := fun m lv st I => ∃ (y1 : Int) (y2 : Int), lv = [(0, .inr (.inr (some 689))), (1, .inl y1), (2, .inl y2)] ∧ st = [] ∧ (((0 ≤ y1 ∧ y1 ≤ 24) ∧ (0 ≤ y2 ∧ y2 ≤ 24) ∧ (y2 ≤ I0 689 4) ∧ (y1 ≤ y2)) ∧ (y1 = sm (sLiv (cR 512 I0)) y2.toNat)) ∧ m = (1 + 1 * (24 - y2) : Int).toNat
set_option maxRecDepth 8000 in
theorem ct_People_living_f14dc {I : fH}  (h0 : fB bsJ I)  : fC ρ base n F xTc vwCl xTys D dA la gJ (fbz bsJ znJ (fKc []) I) xm_67 [.inr (.inr (some 689))] I (fun _ r => ∃ z, r = some (.inl z) ∧ (0 ≤ z ∧ z ≤ 24) ∧ (z = sm (sLiv (cR 512 I)) (gt (cR 512 I) 8).toNat)) := by
  have hW : fzs [] (fKc []) := fKc_ok _
  refine f_meth (rb := rbJ) (J := [(4, (jc_People_living_f14dc_4 I))]) 26 400 xG xin_67 x6_67 okJ (fB_self h0) ?_ ?_
  · refine List.forall_mem_cons.mpr ⟨?_, fun q h => absurd h List.not_mem_nil⟩
    · rintro m _ _ I1 hB1 ⟨y1, y2, rfl, rfl, ⟨hb, hx0⟩, hm⟩
      have eJ : I1 = I := fFr_nil (fFr_of hB1)
      have k1 := fBz_eq hB1 (a := 689) (j := 4) (by decide +kernel)
      have b2 := fBd fb_689_4 (fBz h0 hB1)
      refine And.intro ⟨rfl, by decide, by decide⟩ (fgetf fb_689_4 h0 hB1 ?_)
      intro z3 lz3 uz3 qz3
      have v6 := cL_f (d := 512) (a := 177) (j := 4) (r := 8) (p := 8) (by decide +kernel) (by decide) qz3 rfl
      rw [eJ] at v6
      refine And.intro (And.intro (by first | exact fi_ hb.2.1.1 hb.2.1.2 rfl | omega) (by first | exact fi_ lz3 uz3 rfl | omega)) (And.intro ?_ ?_)
      · intro c4
        refine And.intro (True.intro) ?_
        have w8 := (cL_f (d := 512) (a := 177) (j := 4) (r := 8) (p := 8) (I := I) (z := I 689 4) (by decide +kernel) (by decide) rfl rfl)
        exact ⟨_, rfl, (by first | exact ⟨hb.1.1, hb.1.2⟩ | omega), (sm_fin hx0 (by omega))⟩
      · intro c5
        refine Exists.intro xm_21 (And.intro mi_21 (And.intro ⟨rfl, rfl, rfl, rfl⟩ (And.intro rfl ?_)))
        refine fcallp hB1 (ct_People_isDead_16e8f (fBz h0 hB1) (by first | exact ⟨hb.2.1.1, Int.le_trans (Int.le_sub_one_of_lt (Int.lt_of_lt_of_le c5 uz3)) (by decide)⟩ | omega)) ?_
        rintro _ ⟨z6, rfl, hz6, g0z6⟩
        try rw [eJ] at g0z6
        refine And.intro (by omega) (And.intro ?_ ?_)
        · intro c7
          exact fcutJ (I := I1) (j := (jc_People_living_f14dc_4 I)) (lv' := [(0, .inr (.inr (some 689))), (1, .inl _), (2, .inl _)]) (And.intro rfl (And.intro rfl (And.intro rfl True.intro))) ⟨_, _, rfl, rfl, ⟨by omega, (by first | exact sm_at (v := 1) hx0 (by omega) (by omega) (sLiv_l (w := y2) (by omega) (g0z6.elim (fun q => absurd q.1 (by omega)) (fun q => q.2)) rfl) (by omega) | exact sm_at (v := 0) hx0 (by omega) (by omega) (sLiv_d (w := y2) (by omega) (g0z6.elim (fun q => q.2) (fun q => absurd q.1 (by omega))) rfl) (by omega))⟩, rfl⟩ (by omega)
        · intro c8
          intro z9 hz9 bz9
          have bz9 := bz9 (by omega)
          exact fcutJ (I := I1) (j := (jc_People_living_f14dc_4 I)) (lv' := [(0, .inr (.inr (some 689))), (1, .inl _), (2, .inl _)]) (And.intro rfl (And.intro rfl (And.intro rfl True.intro))) ⟨_, _, rfl, rfl, ⟨by omega, (by first | exact sm_at (v := 1) hx0 (by omega) (by omega) (sLiv_l (w := y2) (by omega) (g0z6.elim (fun q => absurd q.1 (by omega)) (fun q => q.2)) rfl) (by omega) | exact sm_at (v := 0) hx0 (by omega) (by omega) (sLiv_d (w := y2) (by omega) (g0z6.elim (fun q => q.2) (fun q => absurd q.1 (by omega))) rfl) (by omega))⟩, rfl⟩ (by omega)
  · have hB0 := fB_self (zn := znJ) (K := fKc []) h0
    have b10 := fBd fb_689_4 (fBz h0 hB0)
    exact fcutJ (I := I) (j := (jc_People_living_f14dc_4 I)) (lv' := [(0, .inr (.inr (some 689))), (1, .inl _), (2, .inl _)]) (And.intro rfl (And.intro rfl (And.intro rfl True.intro))) ⟨_, _, rfl, rfl, ⟨by omega, rfl⟩, rfl⟩ (by omega)
set_option maxRecDepth 8000 in
theorem ct_Works_isDropped_e5842 {I : fH} {x1 : Int} (h0 : fB bsJ I) (ha1 : (0 ≤ x1 ∧ x1 ≤ 23)) (hp0 : okA (cR 512 I)) : fC ρ base n F xTc vwCl xTys D dA la gJ (fbz bsJ znJ (fKc []) I) xm_55 [.inr (.inr (some 675)), .inl x1] I (fun _ r => ∃ z, r = some (.inl z) ∧ (0 ≤ z ∧ z ≤ 1) ∧ ((z = 1 ∧ 0 ≤ gt (cR 512 I) (539 + 14 * x1)) ∨ (z = 0 ∧ gt (cR 512 I) (539 + 14 * x1) < 0))) := by
  have hW : fzs [] (fKc []) := fKc_ok _
  refine f_meth (rb := rbJ) (J := []) 1 400 xG xin_55 x6_55 okJ (fB_self h0) ?_ ?_
  · exact fun q h => absurd h List.not_mem_nil
  · have hB0 := fB_self (zn := znJ) (K := fKc []) h0
    refine And.intro ⟨rfl, by decide, by decide⟩ ?_
    refine fload1 rL_687_687_0_23_1_0 h0 hB0 ⟨by decide, by decide⟩ (by first | exact ⟨ha1.1, ha1.2⟩ | omega) ?_
    intro z1 lz1 uz1 qz1
    have v5 := cL_l (d := 512) qz1 (by omega) rfl
    refine And.intro (And.intro (by first | exact fi_ lz1 uz1 rfl | omega) (by first | exact ⟨by decide, by decide⟩ | omega)) (And.intro ?_ ?_)
    · intro c2
      refine And.intro (⟨by omega, by omega⟩) ?_
      exact ⟨_, rfl, by omega, (dr_of hp0 (by omega) v5 (by omega))⟩
    · intro c3
      refine And.intro (⟨by decide, by decide⟩) ?_
      exact ⟨_, rfl, (by first | exact ⟨by decide, by decide⟩ | omega), (dr_of hp0 (by omega) v5 (by omega))⟩
set_option maxRecDepth 8000 in
theorem ct_Works_weightOf_23190 {I : fH} {x1 : Int} (h0 : fB bsJ I) (ha1 : (0 ≤ x1 ∧ x1 ≤ 23)) (hp0 : okA (cR 512 I)) : fC ρ base n F xTc vwCl xTys D dA la gJ (fbz bsJ znJ (fKc []) I) xm_68 [.inr (.inr (some 675)), .inl x1] I (fun _ r => ∃ z, r = some (.inl z) ∧ (0 ≤ z ∧ z ≤ 9999) ∧ (z = sWg (cR 512 I) x1.toNat)) := by
  have hW : fzs [] (fKc []) := fKc_ok _
  refine f_meth (rb := rbJ) (J := []) 1 400 xG xin_68 x6_68 okJ (fB_self h0) ?_ ?_
  · exact fun q h => absurd h List.not_mem_nil
  · have hB0 := fB_self (zn := znJ) (K := fKc []) h0
    refine Exists.intro xm_50 (And.intro mi_50 (And.intro ⟨rfl, rfl, rfl, rfl⟩ (And.intro rfl ?_)))
    refine fcallp hB0 (ct_Works_isGone_bce90 (fBz h0 hB0) (by first | exact ⟨ha1.1, ha1.2⟩ | omega)) ?_
    rintro _ ⟨z1, rfl, hz1, g0z1⟩
    refine And.intro (by omega) (And.intro ?_ ?_)
    · intro c2
      refine And.intro (True.intro) ?_
      exact ⟨_, rfl, (by first | exact ⟨by decide, by decide⟩ | omega), (by first | exact sWg_y (w := x1) (by omega) (g0z1.elim (fun q => absurd q.1 (by omega)) (fun q => q.2)) (g0nil0.elim (fun q => absurd q.1 (by omega)) (fun q => q.2)) v25 (by omega) | exact sWg_n (w := x1) (by omega) (Or.inr (g0nil0.elim (fun q => q.2) (fun q => absurd q.1 (by omega)))) (by omega) | exact sWg_n (w := x1) (by omega) (Or.inl (g0z1.elim (fun q => q.2) (fun q => absurd q.1 (by omega)))) (by omega))⟩
    · intro c3
      refine Exists.intro xm_55 (And.intro mi_55 (And.intro ⟨rfl, rfl, rfl, rfl⟩ (And.intro rfl ?_)))
      refine fcallp hB0 (ct_Works_isDropped_e5842 (fBz h0 hB0) (by first | exact ⟨ha1.1, ha1.2⟩ | omega) hp0) ?_
      rintro _ ⟨z4, rfl, hz4, g0z4⟩
      refine And.intro (by omega) (And.intro ?_ ?_)
      · intro c5
        refine And.intro ⟨rfl, by decide, by decide⟩ ?_
        refine fload1 rL_678_678_0_23_1_0 h0 hB0 ⟨by decide, by decide⟩ (by first | exact ⟨ha1.1, ha1.2⟩ | omega) ?_
        intro z6 lz6 uz6 qz6
        have v25 := cL_a (d := 512) (a := 166) (n := 24) (b := 532) (m := 14) (by decide +kernel) (by decide) qz6 (by omega) rfl
        refine And.intro (True.intro) ?_
        exact ⟨_, rfl, (by first | exact ⟨lz6, uz6⟩ | omega), (by first | exact sWg_y (w := x1) (by omega) (g0z1.elim (fun q => absurd q.1 (by omega)) (fun q => q.2)) (g0z4.elim (fun q => absurd q.1 (by omega)) (fun q => q.2)) v25 (by omega) | exact sWg_n (w := x1) (by omega) (Or.inr (g0z4.elim (fun q => q.2) (fun q => absurd q.1 (by omega)))) (by omega) | exact sWg_n (w := x1) (by omega) (Or.inl (g0z1.elim (fun q => q.2) (fun q => absurd q.1 (by omega)))) (by omega))⟩
      · intro c7
        refine And.intro (True.intro) ?_
        exact ⟨_, rfl, (by first | exact ⟨by decide, by decide⟩ | omega), (by first | exact sWg_y (w := x1) (by omega) (g0z1.elim (fun q => absurd q.1 (by omega)) (fun q => q.2)) (g0z4.elim (fun q => absurd q.1 (by omega)) (fun q => q.2)) v25 (by omega) | exact sWg_n (w := x1) (by omega) (Or.inr (g0z4.elim (fun q => q.2) (fun q => absurd q.1 (by omega)))) (by omega) | exact sWg_n (w := x1) (by omega) (Or.inl (g0z1.elim (fun q => q.2) (fun q => absurd q.1 (by omega)))) (by omega))⟩
abbrev jc_Cells_gases_f9efb_4 (I0 : fH) : Nat → fL → List fV → fH → Prop := fun m lv st I => ∃ (y1 : Int) (y2 : Int), lv = [(0, .inr (.inr (some 514))), (1, .inl y1), (2, .inl y2)] ∧ st = [] ∧ (((0 ≤ y1 ∧ y1 ≤ 79999920) ∧ (0 ≤ y2 ∧ y2 ≤ 20) ∧ (y2 ≤ I0 514 5) ∧ (y1 ≤ 3999996 * y2)) ∧ (y1 = sm (sGs (cR 512 I0)) y2.toNat)) ∧ m = (6 + 6 * (20 - y2) : Int).toNat
abbrev jc_Cells_gases_f9efb_14 (I0 : fH) : Nat → fL → List fV → fH → Prop := fun m lv st I => ∃ (y1 : Int) (y2 : Int) (y3 : Int), lv = [(0, .inr (.inr (some 514))), (1, .inl y1), (2, .inl y2), (3, .inl y3)] ∧ st = [] ∧ (((0 ≤ y1 ∧ y1 ≤ 83999916) ∧ (0 ≤ y2 ∧ y2 ≤ 19) ∧ (0 ≤ y3 ∧ y3 ≤ 4) ∧ (1 ≤ I 514 5 ∧ I 514 5 ≤ 20) ∧ (y2 + 1 ≤ I0 514 5) ∧ (y1 ≤ 3999996 * y2 + 999999 * y3)) ∧ (y1 = sm (sGs (cR 512 I0)) y2.toNat + sm (fun g => gt (cR 512 I0) (31 + 20 * y2 + (g : Int))) y3.toNat)) ∧ m = (1 + 6 * (20 - y2) + 1 * (4 - y3) : Int).toNat
set_option maxRecDepth 8000 in
theorem ct_Cells_gases_f9efb {I : fH}  (h0 : fB bsJ I)  : fC ρ base n F xTc vwCl xTys D dA la gJ (fbz bsJ znJ (fKc []) I) xm_66 [.inr (.inr (some 514))] I (fun _ r => ∃ z, r = some (.inl z) ∧ (0 ≤ z ∧ z ≤ 79999920) ∧ (z = sm (sGs (cR 512 I)) (gt (cR 512 I) 5).toNat)) := by
  have hW : fzs [] (fKc []) := fKc_ok _
  refine f_meth (rb := rbJ) (J := [(4, (jc_Cells_gases_f9efb_4 I)), (14, (jc_Cells_gases_f9efb_14 I))]) 127 400 xG xin_66 x6_66 okJ (fB_self h0) ?_ ?_
  · refine List.forall_mem_cons.mpr ⟨?_, List.forall_mem_cons.mpr ⟨?_, fun q h => absurd h List.not_mem_nil⟩⟩
    · rintro m _ _ I1 hB1 ⟨y1, y2, rfl, rfl, ⟨hb, hx0⟩, hm⟩
      have eJ : I1 = I := fFr_nil (fFr_of hB1)
      have k1 := fBz_eq hB1 (a := 514) (j := 5) (by decide +kernel)
      have b2 := fBd fb_514_5 (fBz h0 hB1)
      refine And.intro ⟨rfl, by decide, by decide⟩ (fgetf fb_514_5 h0 hB1 ?_)
      intro z3 lz3 uz3 qz3
      have v6 := cL_f (d := 512) (a := 2) (j := 5) (r := 5) (p := 5) (by decide +kernel) (by decide) qz3 rfl
      rw [eJ] at v6
      refine And.intro (And.intro (by first | exact fi_ hb.2.1.1 hb.2.1.2 rfl | omega) (by first | exact fi_ lz3 uz3 rfl | omega)) (And.intro ?_ ?_)
      · intro c4
        refine And.intro (True.intro) ?_
        have w5 := (cL_f (d := 512) (a := 2) (j := 5) (r := 5) (p := 5) (I := I) (z := I 514 5) (by decide +kernel) (by decide) rfl rfl)
        exact ⟨_, rfl, (by first | exact ⟨hb.1.1, hb.1.2⟩ | omega), (sm_fin hx0 (by omega))⟩
      · intro c5
        exact fcutJ (I := I1) (j := (jc_Cells_gases_f9efb_14 I)) (lv' := [(0, .inr (.inr (some 514))), (1, .inl _), (2, .inl _), (3, .inl _)]) (And.intro rfl (And.intro rfl (And.intro rfl (And.intro rfl True.intro)))) ⟨_, _, _, rfl, rfl, ⟨by omega, (hx0.trans (Int.add_zero _).symm)⟩, rfl⟩ (by omega)
    · rintro m _ _ I1 hB1 ⟨y1, y2, y3, rfl, rfl, ⟨hb, hx0⟩, hm⟩
      have eJ : I1 = I := fFr_nil (fFr_of hB1)
      have k6 := fBz_eq hB1 (a := 514) (j := 5) (by decide +kernel)
      have b7 := fBd fb_514_5 (fBz h0 hB1)
      refine And.intro (And.intro (by first | exact fi_ hb.2.2.1.1 hb.2.2.1.2 rfl | omega) (by first | exact ⟨by decide, by decide⟩ | omega)) (And.intro ?_ ?_)
      · intro c8
        exact fcutJ (I := I1) (j := (jc_Cells_gases_f9efb_4 I)) (lv' := [(0, .inr (.inr (some 514))), (1, .inl _), (2, .inl _)]) (And.intro rfl (And.intro rfl (And.intro rfl True.intro))) ⟨_, _, rfl, rfl, ⟨by omega, (sm_at rfl (by omega) (by omega) rfl (sGs_of hx0 (by omega) (by omega)))⟩, rfl⟩ (by omega)
      · intro c9
        refine And.intro ⟨rfl, by decide, by decide⟩ ?_
        refine And.intro ⟨rfl, by decide⟩ (And.intro (by first | exact ⟨hb.2.1.1, Int.lt_of_le_of_lt hb.2.1.2 (by decide)⟩ | omega) ?_)
        refine fload rL_518_537_0_4_1_0 h0 hB1 (by omega) ?_
        intro z10 lz10 uz10 qz10
        have v27 := cL_r (d := 512) (a := 6) (nr := 20) (n := 5) (b := 31) (mr := 20) (m := 1) (by decide +kernel) (by decide) qz10 (by omega) (by omega) rfl
        rw [eJ] at v27
        intro z11 hz11 ez11 bz11
        clear ez11
        have bz11 := bz11 (by omega)
        exact fcutJ (I := I1) (j := (jc_Cells_gases_f9efb_14 I)) (lv' := [(0, .inr (.inr (some 514))), (1, .inl _), (2, .inl _), (3, .inl _)]) (And.intro rfl (And.intro rfl (And.intro rfl (And.intro rfl True.intro)))) ⟨_, _, _, rfl, rfl, ⟨by omega, (sm_atp hx0 (by omega) (by omega) (gt_at v27 (by omega)) (by omega))⟩, rfl⟩ (by omega)
  · have hB0 := fB_self (zn := znJ) (K := fKc []) h0
    have b12 := fBd fb_514_5 (fBz h0 hB0)
    exact fcutJ (I := I) (j := (jc_Cells_gases_f9efb_4 I)) (lv' := [(0, .inr (.inr (some 514))), (1, .inl _), (2, .inl _)]) (And.intro rfl (And.intro rfl (And.intro rfl True.intro))) ⟨_, _, rfl, rfl, ⟨by omega, rfl⟩, rfl⟩ (by omega)
abbrev jc_City_weight_9bc16_10 (I0 : fH) : Nat → fL → List fV → fH → Prop := fun m lv st I => ∃ (y1 : Int) (y2 : Int), lv = [(0, .inr (.inr (some 513))), (1, .inl y1), (2, .inl y2)] ∧ st = [] ∧ (((0 ≤ y1 ∧ y1 ≤ 84999915) ∧ (0 ≤ y2 ∧ y2 ≤ 5) ∧ (y1 ≤ 79999920 + 999999 * y2)) ∧ (y1 = sm (sGs (cR 512 I0)) (gt (cR 512 I0) 5).toNat + sm (fun k => gt (cR 512 I0) (17 + (k : Int))) y2.toNat)) ∧ m = (26 + 1 * (5 - y2) : Int).toNat
abbrev jc_City_weight_9bc16_48 (I0 : fH) : Nat → fL → List fV → fH → Prop := fun m lv st I => ∃ (y2 : Int) (y3 : Int), lv = [(0, .inr (.inr (some 513))), (2, .inl y2), (3, .inl y3)] ∧ st = [] ∧ (((0 ≤ y2 ∧ y2 ≤ 1091415) ∧ (0 ≤ y3 ∧ y3 ≤ 24) ∧ (y3 ≤ I0 675 13) ∧ (y2 ≤ 851439 + 9999 * y3)) ∧ (y2 = (60 * sm (sLiv (cR 512 I0)) (gt (cR 512 I0) 8).toNat + (sm (sGs (cR 512 I0)) (gt (cR 512 I0) 5).toNat + sm (fun k => gt (cR 512 I0) (17 + (k : Int))) 5) / 100) + sm (sWg (cR 512 I0)) y3.toNat)) ∧ m = (1 + 1 * (24 - y3) : Int).toNat
set_option maxRecDepth 8000 in
theorem ct_City_weight_9bc16 {I : fH}  (h0 : fB bsJ I) (hp0 : okA (cR 512 I)) : fC ρ base n F xTc vwCl xTys D dA la gJ (fbz bsJ znJ (fKc []) I) xm_65 [.inr (.inr (some 513))] I (fun _ r => ∃ z, r = some (.inl z) ∧ (0 ≤ z ∧ z ≤ 1091415) ∧ (z = sWeight (cR 512 I))) := by
  have hW : fzs [] (fKc []) := fKc_ok _
  refine f_meth (rb := rbJ) (J := [(10, (jc_City_weight_9bc16_10 I)), (48, (jc_City_weight_9bc16_48 I))]) 32 400 xG xin_65 x6_65 okJ (fB_self h0) ?_ ?_
  · refine List.forall_mem_cons.mpr ⟨?_, List.forall_mem_cons.mpr ⟨?_, fun q h => absurd h List.not_mem_nil⟩⟩
    · rintro m _ _ I1 hB1 ⟨y1, y2, rfl, rfl, ⟨hb, hx0⟩, hm⟩
      have eJ : I1 = I := fFr_nil (fFr_of hB1)
      have k1 := fBz_eq hB1 (a := 675) (j := 13) (by decide +kernel)
      have b2 := fBd fb_675_13 (fBz h0 hB1)
      refine And.intro (And.intro (by first | exact fi_ hb.2.1.1 hb.2.1.2 rfl | omega) (by first | exact ⟨by decide, by decide⟩ | omega)) (And.intro ?_ ?_)
      · intro c3
        refine And.intro ⟨rfl, by decide, by decide⟩ ?_
        refine Exists.intro xm_67 (And.intro mi_67 (And.intro ⟨rfl, rfl, rfl, rfl⟩ (And.intro rfl ?_)))
        refine fcallp hB1 (ct_People_living_f14dc (fBz h0 hB1)) ?_
        rintro _ ⟨z4, rfl, hz4, g0z4⟩
        try rw [eJ] at g0z4
        intro z5 hz5 ez5 bz5
        clear ez5
        have bz5 := bz5 (by omega)
        refine And.intro (And.intro (by first | exact fi_ hb.1.1 hb.1.2 rfl | omega) (And.intro (by first | exact ⟨by decide, by decide⟩ | omega) (And.intro (by first | exact by decide | omega) rfl))) ?_
        intro z6 hz6 ez6 dz6
        have dz6 := dz6 (by omega) (by omega)
        change _ = _ / _ at dz6
        intro z7 hz7 ez7 bz7
        clear ez7
        have bz7 := bz7 (by omega)
        exact fcutJ (I := I1) (j := (jc_City_weight_9bc16_48 I)) (lv' := [(0, .inr (.inr (some 513))), (2, .inl _), (3, .inl _)]) (And.intro rfl (And.intro rfl (And.intro rfl True.intro))) ⟨_, _, rfl, rfl, ⟨by omega, (by have e5 : y2 = 5 := (by omega); have q := hx0; rw [e5] at q; exact sW_0 g0z4 q (by omega) (by omega))⟩, rfl⟩ (by omega)
      · intro c8
        refine And.intro ⟨rfl, by decide, by decide⟩ ?_
        refine fload1 rL_694_694_0_5_1_0 h0 hB1 ⟨by decide, by decide⟩ (by first | exact ⟨hb.2.1.1, Int.le_trans (Int.le_trans c8 (Int.le_refl _)) (by decide)⟩ | omega) ?_
        intro z9 lz9 uz9 qz9
        have v21 := cL_a (d := 512) (a := 182) (n := 6) (b := 17) (m := 1) (by decide +kernel) (by decide) qz9 (by omega) rfl
        rw [eJ] at v21
        intro z10 hz10 ez10 bz10
        clear ez10
        have bz10 := bz10 (by omega)
        exact fcutJ (I := I1) (j := (jc_City_weight_9bc16_10 I)) (lv' := [(0, .inr (.inr (some 513))), (1, .inl _), (2, .inl _)]) (And.intro rfl (And.intro rfl (And.intro rfl True.intro))) ⟨_, _, rfl, rfl, ⟨by omega, (sm_atp hx0 (by omega) (by omega) (gt_at v21 (by omega)) (by omega))⟩, rfl⟩ (by omega)
    · rintro m _ _ I1 hB1 ⟨y2, y3, rfl, rfl, ⟨hb, hx0⟩, hm⟩
      have eJ : I1 = I := fFr_nil (fFr_of hB1)
      have k11 := fBz_eq hB1 (a := 675) (j := 13) (by decide +kernel)
      have b12 := fBd fb_675_13 (fBz h0 hB1)
      have hpJ : okA (cR 512 I1) := (by rw [eJ]; exact hp0)
      refine And.intro ⟨rfl, by decide, by decide⟩ ?_
      refine And.intro ⟨rfl, by decide, by decide⟩ (fgetf fb_675_13 h0 hB1 ?_)
      intro z13 lz13 uz13 qz13
      have v53 := cL_f (d := 512) (a := 163) (j := 13) (r := 7) (p := 7) (by decide +kernel) (by decide) qz13 rfl
      rw [eJ] at v53
      refine And.intro (And.intro (by first | exact fi_ hb.2.1.1 hb.2.1.2 rfl | omega) (by first | exact fi_ lz13 uz13 rfl | omega)) (And.intro ?_ ?_)
      · intro c14
        refine And.intro (True.intro) ?_
        have w7 := (cL_f (d := 512) (a := 163) (j := 13) (r := 7) (p := 7) (I := I) (z := I 675 13) (by decide +kernel) (by decide) rfl rfl)
        exact ⟨_, rfl, (by first | exact ⟨hb.1.1, hb.1.2⟩ | omega), (sW_of hx0 (by omega))⟩
      · intro c15
        refine And.intro ⟨rfl, by decide, by decide⟩ ?_
        refine Exists.intro xm_68 (And.intro mi_68 (And.intro ⟨rfl, rfl, rfl, rfl⟩ (And.intro rfl ?_)))
        refine fcallp hB1 (ct_Works_weightOf_23190 (fBz h0 hB1) (by first | exact ⟨hb.2.1.1, Int.le_trans (Int.le_sub_one_of_lt (Int.lt_of_lt_of_le c15 uz13)) (by decide)⟩ | omega) hpJ) ?_
        rintro _ ⟨z16, rfl, hz16, g0z16⟩
        try rw [eJ] at g0z16
        intro z17 hz17 ez17 bz17
        clear ez17
        have bz17 := bz17 (by omega)
        exact fcutJ (I := I1) (j := (jc_City_weight_9bc16_48 I)) (lv' := [(0, .inr (.inr (some 513))), (2, .inl _), (3, .inl _)]) (And.intro rfl (And.intro rfl (And.intro rfl True.intro))) ⟨_, _, rfl, rfl, ⟨by omega, (sm_atp hx0 (by omega) (by omega) g0z16 (by omega))⟩, rfl⟩ (by omega)
  · have hB0 := fB_self (zn := znJ) (K := fKc []) h0
    have b18 := fBd fb_675_13 (fBz h0 hB0)
    refine And.intro ⟨rfl, by decide, by decide⟩ ?_
    refine Exists.intro xm_66 (And.intro mi_66 (And.intro ⟨rfl, rfl, rfl, rfl⟩ (And.intro rfl ?_)))
    refine fcallp hB0 (ct_Cells_gases_f9efb (fBz h0 hB0)) ?_
    rintro _ ⟨z19, rfl, hz19, g0z19⟩
    exact fcutJ (I := I) (j := (jc_City_weight_9bc16_10 I)) (lv' := [(0, .inr (.inr (some 513))), (1, .inl _), (2, .inl _)]) (And.intro rfl (And.intro rfl (And.intro rfl True.intro))) ⟨_, _, rfl, rfl, ⟨by omega, (g0z19.trans (Int.add_zero _).symm)⟩, rfl⟩ (by omega)
set_option maxRecDepth 8000 in
theorem ct_City_rise_ae6a0 {I : fH}  (h0 : fB bsJ I) (hp0 : okA (cR 512 I)) : fC ρ base n F xTc vwCl xTys D dA la gJ (fbz bsJ znJ (fKc wz_007ef) I) xm_94 [.inr (.inr (some 513))] I (fun I' r => r = none ∧ True ∧ (cR 512 I' = sRi (cR 512 I))) := by
  have hW : fzs wz_007ef (fKc wz_007ef) := fKc_ok _
  refine f_meth (rb := rbJ) (J := []) 1 400 xG xin_94 x6_94 okJ (fB_self h0) ?_ ?_
  · exact fun q h => absurd h List.not_mem_nil
  · have hB0 := fB_self (zn := znJ) (K := fKc wz_007ef) h0
    refine Exists.intro xm_62 (And.intro mi_62 (And.intro ⟨rfl, rfl, rfl, rfl⟩ (And.intro rfl ?_)))
    refine fcallp hB0 (ct_City_lift_1f18c (fBz h0 hB0)) ?_
    rintro _ ⟨z1, rfl, hz1, g0z1⟩
    refine Exists.intro xm_65 (And.intro mi_65 (And.intro ⟨rfl, rfl, rfl, rfl⟩ (And.intro rfl ?_)))
    refine fcallp hB0 (ct_City_weight_9bc16 (fBz h0 hB0) hp0) ?_
    rintro _ ⟨z2, rfl, hz2, g0z2⟩
    intro z3 hz3 ez3 bz3
    clear ez3
    have bz3 := bz3 (by omega)
    refine And.intro (And.intro (by omega) (And.intro (by first | exact ⟨by decide, by decide⟩ | omega) (And.intro (by first | exact by decide | omega) rfl))) ?_
    intro z4 hz4 ez4 dz4
    have d11 := xdv_t (by omega) (by omega) (by omega) hz4 ez4
    refine And.intro (And.intro (by first | exact ⟨by decide, by decide⟩ | omega) (And.intro (by omega) rfl)) ?_
    intro z5 hz5
    refine And.intro (And.intro (by first | exact ⟨by decide, by decide⟩ | omega) (And.intro (by omega) rfl)) ?_
    intro z6 hz6
    refine And.intro ⟨rfl, by decide, by decide⟩ (fgetf fb_513_5 h0 hB0 ?_)
    intro z7 lz7 uz7 qz7
    have v31 := cL_f (d := 512) (a := 1) (j := 5) (r := 1) (p := 1) (by decide +kernel) (by decide) qz7 rfl
    refine And.intro (And.intro (by first | exact ⟨by decide, by decide⟩ | omega) (And.intro (by omega) rfl)) ?_
    intro z8 hz8
    refine And.intro (And.intro (by first | exact ⟨by decide, by decide⟩ | omega) (And.intro (by omega) rfl)) ?_
    intro z9 hz9
    refine And.intro ⟨rfl, by decide, by decide⟩ (And.intro rfl (And.intro (Or.inl rfl) (fputf fb_513_5 (by decide +kernel) hW (by omega) ?_)))
    intro IhB10 ehB10 hB10
    have t11 := fup_at ehB10 5 (by first | rfl | omega)
    have r42 := cS_f (d := 512) (a := 1) (j := 5) (r := 1) (p := 1) (by decide +kernel) (by decide) ehB10 rfl
    exact ⟨rfl, True.intro, (by rw [r42]; exact (sRi_of g0z1 g0z2 (by omega) d11 (n := z6) (by (repeat' split) <;> omega) v31 (by omega) (by omega) (by unfold mn; (repeat' split) <;> omega)))⟩
set_option maxRecDepth 8000 in
theorem ct_City_loseGas_9b857 {I : fH} {x1 : Int} {x2 : Int} (h0 : fB bsJ I) (ha1 : (0 ≤ x1 ∧ x1 ≤ 23)) (ha2 : (0 ≤ x2 ∧ x2 ≤ 2000)) (hp0 : 0 ≤ x2) (hp1 : x2 ≤ I 684 x1.toNat) : fC ρ base n F xTc vwCl xTys D dA la gJ (fbz bsJ znJ (fKc wz_59734) I) xm_81 [.inr (.inr (some 513)), .inl x1, .inl x2] I (fun I' r => r = none ∧ True ∧ (cR 512 I' = sLs (cR 512 I) x1 x2)) := by
  have hW : fzs wz_59734 (fKc wz_59734) := fKc_ok _
  refine f_meth (rb := rbJ) (J := []) 1 400 xG xin_81 x6_81 okJ (fB_self h0) ?_ ?_
  · exact fun q h => absurd h List.not_mem_nil
  · have hB0 := fB_self (zn := znJ) (K := fKc wz_59734) h0
    refine And.intro ⟨rfl, by decide, by decide⟩ ?_
    refine And.intro ⟨rfl, by decide, by decide⟩ ?_
    refine fload1 rL_684_684_0_23_1_0 h0 hB0 ⟨by decide, by decide⟩ (by first | exact ⟨ha1.1, ha1.2⟩ | omega) ?_
    intro z1 lz1 uz1 qz1
    have v9 := cL_a (d := 512) (a := 172) (n := 24) (b := 536) (m := 14) (by decide +kernel) (by decide) qz1 (by omega) rfl
    intro z2 hz2 ez2 bz2
    have bz2 := bz2 (by omega)
    refine fstore1 rS_684_684_0_23_1_0 (fzs_sub (by decide +kernel) hW) ⟨by decide, by decide⟩ (by first | exact ⟨ha1.1, ha1.2⟩ | omega) (by omega) ?_
    intro IhB3 ehB3 hB3
    have t4 := fup_self ehB3
    have r12 := cS_a (d := 512) (a := 172) (n := 24) (b := 536) (m := 14) (by decide +kernel) (by decide) ehB3 (by omega) rfl
    refine And.intro ⟨rfl, by decide, by decide⟩ ?_
    refine And.intro ⟨rfl, by decide, by decide⟩ ?_
    refine And.intro ⟨rfl, by decide, by decide⟩ ?_
    refine And.intro ⟨rfl, by decide, by decide⟩ ?_
    refine fload1 rL_677_677_0_23_1_0 h0 hB3 ⟨by decide, by decide⟩ (by first | exact ⟨ha1.1, ha1.2⟩ | omega) ?_
    intro z5 lz5 uz5 qz5
    have v28 := cL_a (d := 512) (a := 165) (n := 24) (b := 531) (m := 14) (by decide +kernel) (by decide) qz5 (by omega) rfl
    rw [r12] at v28
    refine And.intro ⟨rfl, by decide⟩ (And.intro (by first | exact ⟨lz5, Int.lt_of_le_of_lt uz5 (by decide)⟩ | omega) ?_)
    refine fload rL_539_558_0_4_1_0 h0 hB3 (by omega) ?_
    intro z6 lz6 uz6 qz6
    have v32 := cL_r (d := 512) (a := 27) (nr := 20) (n := 5) (b := 37) (mr := 20) (m := 1) (by decide +kernel) (by decide) qz6 (by omega) (by omega) rfl
    rw [r12] at v32
    intro z7 hz7 ez7 bz7
    try replace bz7 := bz7 (by omega)
    refine fstore rS_539_558_0_4_1_0 (fzs_sub (by decide +kernel) hW) (by omega) (by omega) ?_
    intro IhB8 ehB8 hB8
    have t9 := fup_self ehB8
    have r35 := cS_r (d := 512) (a := 27) (nr := 20) (n := 5) (b := 37) (mr := 20) (m := 1) (by decide +kernel) (by decide) ehB8 (by omega) (by omega) rfl
    exact ⟨rfl, True.intro, (by rw [r35, r12]; exact (sLs_of (by omega) (by omega) (by omega) v28 (by omega) (by omega) (by omega) hz7 ez7 v32))⟩
abbrev jc_Works_isPatched_0f28c_2 (x1 : Int) (I0 : fH) : Nat → fL → List fV → fH → Prop := fun m lv st I => ∃ (y1 : Int) (y2 : Int), lv = [(0, .inr (.inr (some 675))), (1, .inl y1), (2, .inl y2)] ∧ st = [] ∧ (((0 ≤ y1 ∧ y1 ≤ 23) ∧ (0 ≤ y2 ∧ y2 ≤ 24) ∧ (y2 ≤ I0 675 13) ∧ (y1 = x1)) ∧ (cvU (cR 512 I0) x1 y2 0)) ∧ m = (1 + 1 * (24 - y2) : Int).toNat
set_option maxRecDepth 8000 in
theorem ct_Works_isPatched_0f28c {I : fH} {x1 : Int} (h0 : fB bsJ I) (ha1 : (0 ≤ x1 ∧ x1 ≤ 23)) : fC ρ base n F xTc vwCl xTys D dA la gJ (fbz bsJ znJ (fKc []) I) xm_79 [.inr (.inr (some 675)), .inl x1] I (fun _ r => ∃ z, r = some (.inl z) ∧ (0 ≤ z ∧ z ≤ 1) ∧ ((z = 1 ∧ sCv (cR 512 I) x1) ∨ (z = 0 ∧ ¬ sCv (cR 512 I) x1))) := by
  have hW : fzs [] (fKc []) := fKc_ok _
  refine f_meth (rb := rbJ) (J := [(2, (jc_Works_isPatched_0f28c_2 x1 I))]) 26 400 xG xin_79 x6_79 okJ (fB_self h0) ?_ ?_
  · refine List.forall_mem_cons.mpr ⟨?_, fun q h => absurd h List.not_mem_nil⟩
    · rintro m _ _ I1 hB1 ⟨y1, y2, rfl, rfl, ⟨hb, hx0⟩, hm⟩
      have eJ : I1 = I := fFr_nil (fFr_of hB1)
      have k1 := fBz_eq hB1 (a := 675) (j := 13) (by decide +kernel)
      have b2 := fBd fb_675_13 (fBz h0 hB1)
      refine And.intro ⟨rfl, by decide, by decide⟩ (fgetf fb_675_13 h0 hB1 ?_)
      intro z3 lz3 uz3 qz3
      have v4 := cL_f (d := 512) (a := 163) (j := 13) (r := 7) (p := 7) (by decide +kernel) (by decide) qz3 rfl
      rw [eJ] at v4
      refine And.intro (And.intro (by first | exact fi_ hb.2.1.1 hb.2.1.2 rfl | omega) (by first | exact fi_ lz3 uz3 rfl | omega)) (And.intro ?_ ?_)
      · intro c4
        refine And.intro (⟨by decide, by decide⟩) ?_
        have w7 := (cL_f (d := 512) (a := 163) (j := 13) (r := 7) (p := 7) (I := I) (z := I 675 13) (by decide +kernel) (by decide) rfl rfl)
        exact ⟨_, rfl, (by first | exact ⟨by decide, by decide⟩ | omega), (Or.inr ⟨by omega, (cvU_end hx0 (by omega)).elim (fun q => absurd q.1 (by omega)) (fun q => q.2)⟩)⟩
      · intro c5
        refine And.intro ⟨rfl, by decide, by decide⟩ ?_
        refine fload1 rL_676_676_0_23_1_0 h0 hB1 ⟨by decide, by decide⟩ (by first | exact ⟨hb.2.1.1, Int.le_trans (Int.le_sub_one_of_lt (Int.lt_of_lt_of_le c5 uz3)) (by decide)⟩ | omega) ?_
        intro z6 lz6 uz6 qz6
        have v15 := cL_a (d := 512) (a := 164) (n := 24) (b := 530) (m := 14) (by decide +kernel) (by decide) qz6 (by omega) rfl
        rw [eJ] at v15
        refine And.intro (And.intro (by first | exact fi_ lz6 uz6 rfl | omega) (by first | exact ⟨by decide, by decide⟩ | omega)) (And.intro ?_ ?_)
        · intro c7
          exact fcutJ (I := I1) (j := (jc_Works_isPatched_0f28c_2 x1 I)) (lv' := [(0, .inr (.inr (some 675))), (1, .inl _), (2, .inl _)]) (And.intro rfl (And.intro rfl (And.intro rfl True.intro))) ⟨_, _, rfl, rfl, ⟨by omega, (cvU_no hx0 (by omega) (by omega) rfl (cv1_a (u := y2) (by omega) v15 (by omega)))⟩, rfl⟩ (by omega)
        · intro c8
          refine And.intro ⟨rfl, by decide, by decide⟩ ?_
          refine fload1 rL_683_683_0_23_1_0 h0 hB1 ⟨by decide, by decide⟩ (by first | exact ⟨hb.2.1.1, Int.le_trans (Int.le_sub_one_of_lt (Int.lt_of_lt_of_le c5 uz3)) (by decide)⟩ | omega) ?_
          intro z9 lz9 uz9 qz9
          have v25 := cL_a (d := 512) (a := 171) (n := 24) (b := 535) (m := 14) (by decide +kernel) (by decide) qz9 (by omega) rfl
          rw [eJ] at v25
          refine And.intro (And.intro (by first | exact fi_ lz9 uz9 rfl | omega) (by first | exact fi_ hb.1.1 hb.1.2 rfl | omega)) (And.intro ?_ ?_)
          · intro c10
            exact fcutJ (I := I1) (j := (jc_Works_isPatched_0f28c_2 x1 I)) (lv' := [(0, .inr (.inr (some 675))), (1, .inl _), (2, .inl _)]) (And.intro rfl (And.intro rfl (And.intro rfl True.intro))) ⟨_, _, rfl, rfl, ⟨by omega, (cvU_no hx0 (by omega) (by omega) rfl (cv1_a (u := y2) (by omega) v25 (by omega)))⟩, rfl⟩ (by omega)
          · intro c11
            refine And.intro ⟨rfl, by decide, by decide⟩ ?_
            refine fload1 rL_679_679_0_23_1_0 h0 hB1 ⟨by decide, by decide⟩ (by first | exact ⟨hb.2.1.1, Int.le_trans (Int.le_sub_one_of_lt (Int.lt_of_lt_of_le c5 uz3)) (by decide)⟩ | omega) ?_
            intro z12 lz12 uz12 qz12
            have v35 := cL_a (d := 512) (a := 167) (n := 24) (b := 533) (m := 14) (by decide +kernel) (by decide) qz12 (by omega) rfl
            rw [eJ] at v35
            refine And.intro (And.intro (by first | exact fi_ lz12 uz12 rfl | omega) (by first | exact ⟨by decide, by decide⟩ | omega)) (And.intro ?_ ?_)
            · intro c13
              exact fcutJ (I := I1) (j := (jc_Works_isPatched_0f28c_2 x1 I)) (lv' := [(0, .inr (.inr (some 675))), (1, .inl _), (2, .inl _)]) (And.intro rfl (And.intro rfl (And.intro rfl True.intro))) ⟨_, _, rfl, rfl, ⟨by omega, (cvU_no hx0 (by omega) (by omega) rfl (cv1_a (u := y2) (by omega) v35 (by omega)))⟩, rfl⟩ (by omega)
            · intro c14
              refine And.intro ⟨rfl, by decide, by decide⟩ ?_
              refine fload1 rL_686_686_0_23_1_0 h0 hB1 ⟨by decide, by decide⟩ (by first | exact ⟨hb.2.1.1, Int.le_trans (Int.le_sub_one_of_lt (Int.lt_of_lt_of_le c5 uz3)) (by decide)⟩ | omega) ?_
              intro z15 lz15 uz15 qz15
              have v45 := cL_a (d := 512) (a := 174) (n := 24) (b := 538) (m := 14) (by decide +kernel) (by decide) qz15 (by omega) rfl
              rw [eJ] at v45
              refine And.intro (by first | exact fi_ lz15 uz15 rfl | omega) (And.intro ?_ ?_)
              · intro c16
                exact fcutJ (I := I1) (j := (jc_Works_isPatched_0f28c_2 x1 I)) (lv' := [(0, .inr (.inr (some 675))), (1, .inl _), (2, .inl _)]) (And.intro rfl (And.intro rfl (And.intro rfl True.intro))) ⟨_, _, rfl, rfl, ⟨by omega, (cvU_no hx0 (by omega) (by omega) rfl (cv1_a (u := y2) (by omega) v45 (by omega)))⟩, rfl⟩ (by omega)
              · intro c17
                refine And.intro (⟨by decide, by decide⟩) ?_
                have w7 := (cL_f (d := 512) (a := 163) (j := 13) (r := 7) (p := 7) (I := I) (z := I 675 13) (by decide +kernel) (by decide) rfl rfl)
                exact ⟨_, rfl, (by first | exact ⟨by decide, by decide⟩ | omega), (Or.inl ⟨by omega, cv_yes (y := y2) (by omega) (by omega) (cv1_of (u := y2) (by omega) v15 (by omega) v25 (by omega) v35 (by omega) v45 (by omega) (by omega))⟩)⟩
  · have hB0 := fB_self (zn := znJ) (K := fKc []) h0
    have b18 := fBd fb_675_13 (fBz h0 hB0)
    exact fcutJ (I := I) (j := (jc_Works_isPatched_0f28c_2 x1 I)) (lv' := [(0, .inr (.inr (some 675))), (1, .inl _), (2, .inl _)]) (And.intro rfl (And.intro rfl (And.intro rfl True.intro))) ⟨_, _, rfl, rfl, ⟨by omega, (cvU_0 (by omega) rfl)⟩, rfl⟩ (by omega)
set_option maxRecDepth 8000 in
theorem ct_Works_wear_b8097 {I : fH} {x1 : Int} {x2 : Int} (h0 : fB bsJ I) (ha1 : (0 ≤ x1 ∧ x1 ≤ 23)) (ha2 : (0 ≤ x2 ∧ x2 ≤ 999)) : fC ρ base n F xTc vwCl xTys D dA la gJ (fbz bsJ znJ (fKc wz_e4d0d) I) xm_80 [.inr (.inr (some 675)), .inl x1, .inl x2] I (fun I' r => r = none ∧ True ∧ (cR 512 I' = sWe (cR 512 I) x1 (gt (cR 512 I) (537 + 14 * x1) + x2))) := by
  have hW : fzs wz_e4d0d (fKc wz_e4d0d) := fKc_ok _
  refine f_meth (rb := rbJ) (J := []) 1 400 xG xin_80 x6_80 okJ (fB_self h0) ?_ ?_
  · exact fun q h => absurd h List.not_mem_nil
  · have hB0 := fB_self (zn := znJ) (K := fKc wz_e4d0d) h0
    refine And.intro ⟨rfl, by decide, by decide⟩ ?_
    refine fload1 rL_685_685_0_23_1_0 h0 hB0 ⟨by decide, by decide⟩ (by first | exact ⟨ha1.1, ha1.2⟩ | omega) ?_
    intro z1 lz1 uz1 qz1
    have v5 := cL_a (d := 512) (a := 173) (n := 24) (b := 537) (m := 14) (by decide +kernel) (by decide) qz1 (by omega) rfl
    intro z2 hz2 ez2 bz2
    clear ez2
    have bz2 := bz2 (by omega)
    refine And.intro (And.intro (by omega) (And.intro (by first | exact ⟨by decide, by decide⟩ | omega) (And.intro (by first | exact by decide | omega) rfl))) ?_
    intro z3 hz3 ez3 dz3
    have dz3 := dz3 (by omega) (by omega)
    change _ = _ / _ at dz3
    refine And.intro ⟨rfl, by decide, by decide⟩ ?_
    refine fload1 rL_683_683_0_23_1_0 h0 hB0 ⟨by decide, by decide⟩ (by first | exact ⟨ha1.1, ha1.2⟩ | omega) ?_
    intro z4 lz4 uz4 qz4
    have v18 := cL_a (d := 512) (a := 171) (n := 24) (b := 535) (m := 14) (by decide +kernel) (by decide) qz4 (by omega) rfl
    refine And.intro (And.intro (by omega) (And.intro (by first | exact fi_ lz4 uz4 rfl | omega) rfl)) ?_
    intro z5 hz5
    refine And.intro ⟨rfl, by decide, by decide⟩ ?_
    refine fload1 rL_683_683_0_23_1_0 h0 hB0 ⟨by decide, by decide⟩ (by first | exact ⟨ha1.1, ha1.2⟩ | omega) ?_
    intro z6 lz6 uz6 qz6
    have v30 := cL_a (d := 512) (a := 171) (n := 24) (b := 535) (m := 14) (by decide +kernel) (by decide) qz6 (by omega) rfl
    intro z7 hz7 ez7 bz7
    clear ez7
    have bz7 := bz7 (by omega)
    refine fstore1 rS_683_683_0_23_1_0 (fzs_sub (by decide +kernel) hW) ⟨by decide, by decide⟩ (by first | exact ⟨ha1.1, ha1.2⟩ | omega) (by omega) ?_
    intro IhB8 ehB8 hB8
    have t9 := fup_self ehB8
    have r34 := cS_a (d := 512) (a := 171) (n := 24) (b := 535) (m := 14) (by decide +kernel) (by decide) ehB8 (by omega) rfl
    intro z10 hz10 ez10 bz10
    clear ez10
    have bz10 := bz10 (by omega)
    intro z11 hz11 ez11 bz11
    clear ez11
    have bz11 := bz11 (by omega)
    refine And.intro ⟨rfl, by decide, by decide⟩ ?_
    refine And.intro (And.intro (by omega) (And.intro (by first | exact ⟨by decide, by decide⟩ | omega) rfl)) ?_
    intro z12 hz12
    refine fstore1 rS_685_685_0_23_1_0 (fzs_sub (by decide +kernel) hW) ⟨by decide, by decide⟩ (by first | exact ⟨ha1.1, ha1.2⟩ | omega) (by omega) ?_
    intro IhB13 ehB13 hB13
    have t14 := fup_self ehB13
    have r54 := cS_a (d := 512) (a := 173) (n := 24) (b := 537) (m := 14) (by decide +kernel) (by decide) ehB13 (by omega) rfl
    exact ⟨rfl, True.intro, (by rw [r54, r34]; exact (sWe_of (n := z5) (by omega) v5 (by omega) rfl v18 (by omega) (mn_le (by omega) (by omega) (by omega)) (by omega) (by omega) (by omega) (mn_le (by omega) (by omega) (by omega))))⟩
set_option maxRecDepth 8000 in
theorem ct_City_runSkin_4289c {I : fH} {x1 : Int} (h0 : fB bsJ I) (ha1 : (0 ≤ x1 ∧ x1 ≤ 23)) : fC ρ base n F xTc vwCl xTys D dA la gJ (fbz bsJ znJ (fKc wz_a2d33) I) xm_78 [.inr (.inr (some 513)), .inl x1] I (fun I' r => r = none ∧ True ∧ (cR 512 I' = sSki (cR 512 I) x1)) := by
  have hW : fzs wz_a2d33 (fKc wz_a2d33) := fKc_ok _
  refine f_meth (rb := rbJ) (J := []) 1 400 xG xin_78 x6_78 okJ (fB_self h0) ?_ ?_
  · exact fun q h => absurd h List.not_mem_nil
  · have hB0 := fB_self (zn := znJ) (K := fKc wz_a2d33) h0
    refine And.intro ⟨rfl, by decide, by decide⟩ ?_
    refine Exists.intro xm_79 (And.intro mi_79 (And.intro ⟨rfl, rfl, rfl, rfl⟩ (And.intro rfl ?_)))
    refine fcallp hB0 (ct_Works_isPatched_0f28c (fBz h0 hB0) (by first | exact ⟨ha1.1, ha1.2⟩ | omega)) ?_
    rintro _ ⟨z1, rfl, hz1, g0z1⟩
    refine And.intro (by omega) (And.intro ?_ ?_)
    · intro c2
      refine And.intro ⟨rfl, by decide, by decide⟩ ?_
      refine And.intro ⟨rfl, by decide, by decide⟩ ?_
      refine And.intro ⟨rfl, by decide⟩ (And.intro (by first | exact ⟨by decide, by decide⟩ | omega) ?_)
      refine Exists.intro xm_31 (And.intro mi_31 (And.intro ⟨rfl, rfl, rfl, rfl⟩ (And.intro rfl ?_)))
      refine fcallp hB0 (ct_City_level_cee1f (fBz h0 hB0)) ?_
      rintro _ ⟨z3, rfl, hz3, g0z3⟩
      refine fload1 rL_698_698_0_60_1_0 h0 hB0 ⟨by decide, by decide⟩ (by first | exact ⟨hz3.1, hz3.2⟩ | omega) ?_
      intro z4 lz4 uz4 qz4
      have v27 := cL_a (d := 512) (a := 186) (n := 61) (b := 1142) (m := 1) (by decide +kernel) (by decide) qz4 (by omega) rfl
      refine And.intro (And.intro (by first | exact fi_ lz4 uz4 rfl | omega) (And.intro (by first | exact ⟨by decide, by decide⟩ | omega) (And.intro (by first | exact by decide | omega) rfl))) ?_
      intro z5 hz5 ez5 dz5
      have dz5 := dz5 (by omega) (by omega)
      change _ = _ / _ at dz5
      refine Exists.intro xm_80 (And.intro mi_80 (And.intro ⟨rfl, rfl, rfl, rfl⟩ (And.intro rfl ?_)))
      refine fcall _ h0 (fzs_sub (by decide +kernel) hW) hB0 (ct_Works_wear_b8097 (fBz h0 hB0) (by first | exact ⟨ha1.1, ha1.2⟩ | omega) (by omega)) ?_
      rintro IhB7 _ hB7 fhB7 ⟨rfl, hz6, g0z6⟩
      refine And.intro ⟨rfl, by decide, by decide⟩ ?_
      refine And.intro ⟨rfl, by decide, by decide⟩ ?_
      refine fload1 rL_683_683_0_23_1_0 h0 hB7 ⟨by decide, by decide⟩ (by first | exact ⟨ha1.1, ha1.2⟩ | omega) ?_
      intro z8 lz8 uz8 qz8
      have v42 := cL_a (d := 512) (a := 171) (n := 24) (b := 535) (m := 14) (by decide +kernel) (by decide) qz8 (by omega) rfl
      rw [g0z6] at v42
      refine And.intro (by first | exact fi_ lz8 uz8 rfl | omega) (And.intro ?_ ?_)
      · intro c9
        exact ⟨rfl, True.intro, (sSk_n (s := z4) (g0z1.elim (fun q => absurd q.1 (by omega)) (fun q => q.2)) (sTb_of v27 g0z3 (by omega)) (by rw [show z4 / 10 = z5 by omega]; exact (by rw [g0z6]; exact (sSk2_n v42 (by omega) (by omega)))))⟩
      · intro c10
        refine And.intro ⟨rfl, by decide, by decide⟩ ?_
        refine And.intro ⟨rfl, by decide, by decide⟩ ?_
        refine fload1 rL_684_684_0_23_1_0 h0 hB7 ⟨by decide, by decide⟩ (by first | exact ⟨ha1.1, ha1.2⟩ | omega) ?_
        intro z11 lz11 uz11 qz11
        have v54 := cL_a (d := 512) (a := 172) (n := 24) (b := 536) (m := 14) (by decide +kernel) (by decide) qz11 (by omega) rfl
        rw [g0z6] at v54
        refine And.intro (And.intro (by first | exact fi_ lz11 uz11 rfl | omega) (And.intro (by first | exact ⟨by decide, by decide⟩ | omega) (And.intro (by first | exact by decide | omega) rfl))) ?_
        intro z12 hz12 ez12 dz12
        have dz12 := dz12 (by omega) (by omega)
        change _ = _ / _ at dz12
        intro z13 hz13 ez13 bz13
        clear ez13
        have bz13 := bz13 (by omega)
        refine And.intro (And.intro (by first | exact fi_ lz11 uz11 rfl | omega) (And.intro (by omega) rfl)) ?_
        intro z14 hz14
        refine Exists.intro xm_81 (And.intro mi_81 (And.intro ⟨rfl, rfl, rfl, rfl⟩ (And.intro rfl ?_)))
        refine fcall _ h0 (fzs_sub (by decide +kernel) hW) hB7 (ct_City_loseGas_9b857 (fBz h0 hB7) (by first | exact ⟨ha1.1, ha1.2⟩ | omega) (by omega) (by omega) (by omega)) ?_
        rintro IhB16 _ hB16 fhB16 ⟨rfl, hz15, g0z15⟩
        exact ⟨rfl, True.intro, (sSk_n (s := z4) (g0z1.elim (fun q => absurd q.1 (by omega)) (fun q => q.2)) (sTb_of v27 g0z3 (by omega)) (by rw [show z4 / 10 = z5 by omega]; exact (by rw [g0z15, g0z6]; exact (sSk2_y v42 (by omega) (by omega) v54 (by omega) (mn_le (by omega) (by omega) (by omega))))))⟩
    · intro c17
      exact ⟨rfl, True.intro, (sSk_y (g0z1.elim (fun q => q.2) (fun q => absurd q.1 (by omega))))⟩
set_option maxRecDepth 8000 in
theorem ct_Works_partForFoul_82e3d {I : fH} {x1 : Int} (h0 : fB bsJ I) (ha1 : (0 ≤ x1 ∧ x1 ≤ 23)) : fC ρ base n F xTc vwCl xTys D dA la gJ (fbz bsJ znJ (fKc []) I) xm_83 [.inr (.inr (some 675)), .inl x1] I (fun _ r => ∃ z, r = some (.inl z) ∧ (0 ≤ z ∧ z ≤ 99999) ∧ (z = sPt (cR 512 I) x1)) := by
  have hW : fzs [] (fKc []) := fKc_ok _
  refine f_meth (rb := rbJ) (J := []) 1 400 xG xin_83 x6_83 okJ (fB_self h0) ?_ ?_
  · exact fun q h => absurd h List.not_mem_nil
  · have hB0 := fB_self (zn := znJ) (K := fKc []) h0
    refine And.intro ⟨rfl, by decide, by decide⟩ ?_
    refine fload1 rL_683_683_0_23_1_0 h0 hB0 ⟨by decide, by decide⟩ (by first | exact ⟨ha1.1, ha1.2⟩ | omega) ?_
    intro z1 lz1 uz1 qz1
    have v5 := cL_a (d := 512) (a := 171) (n := 24) (b := 535) (m := 14) (by decide +kernel) (by decide) qz1 (by omega) rfl
    refine And.intro ⟨rfl, by decide, by decide⟩ ?_
    refine fload1 rL_680_680_0_23_1_0 h0 hB0 ⟨by decide, by decide⟩ (by first | exact ⟨ha1.1, ha1.2⟩ | omega) ?_
    intro z2 lz2 uz2 qz2
    have v13 := cL_a (d := 512) (a := 168) (n := 24) (b := 534) (m := 14) (by decide +kernel) (by decide) qz2 (by omega) rfl
    intro z3 hz3 ez3 bz3
    clear ez3
    have bz3 := bz3 (by omega)
    intro z4 hz4 ez4 bz4
    clear ez4
    try replace bz4 := bz4 (by omega)
    have m15 := mul_rng lz1 uz1 (y := z3) (B := 100) (by omega) (by omega)
    have k15 := bz4 ⟨by omega, by omega⟩
    refine And.intro (And.intro (by omega) (And.intro (by first | exact ⟨by decide, by decide⟩ | omega) (And.intro (by first | exact by decide | omega) rfl))) ?_
    intro z5 hz5 ez5 dz5
    have dz5 := dz5 (by omega) (by omega)
    change _ = _ / _ at dz5
    refine And.intro (True.intro) ?_
    exact ⟨_, rfl, by omega, (sPt_of v5 (by omega) v13 (by omega) k15 (by omega) (by omega))⟩
set_option maxRecDepth 8000 in
theorem ct_City_isDayAt_d574d {I : fH} {x1 : Int} (h0 : fB bsJ I) (ha1 : ((-2147483648) ≤ x1 ∧ x1 ≤ 2147483647)) : fC ρ base n F xTc vwCl xTys D dA la gJ (fbz bsJ znJ (fKc []) I) xm_70 [.inr (.inr (some 513)), .inl x1] I (fun _ r => ∃ z, r = some (.inl z) ∧ (0 ≤ z ∧ z ≤ 1) ∧ ((z = 1 ∧ dyP x1 (gt (cR 512 I) 3)) ∨ (z = 0 ∧ ¬ dyP x1 (gt (cR 512 I) 3)))) := by
  have hW : fzs [] (fKc []) := fKc_ok _
  refine f_meth (rb := rbJ) (J := []) 1 400 xG xin_70 x6_70 okJ (fB_self h0) ?_ ?_
  · exact fun q h => absurd h List.not_mem_nil
  · have hB0 := fB_self (zn := znJ) (K := fKc []) h0
    refine And.intro ⟨rfl, by decide, by decide⟩ (fgetf fb_513_7 h0 hB0 ?_)
    intro z1 lz1 uz1 qz1
    have v1 := cL_f (d := 512) (a := 1) (j := 7) (r := 3) (p := 3) (by decide +kernel) (by decide) qz1 rfl
    refine And.intro (by first | exact fi_ lz1 uz1 rfl | omega) (And.intro ?_ ?_)
    · intro c2
      refine And.intro (⟨by omega, by omega⟩) ?_
      exact ⟨_, rfl, by omega, (by first | (exfalso; omega) | exact dy_of hnil0 enil0 v9 rfl (by omega))⟩
    · intro c3
      refine And.intro ⟨rfl, by decide, by decide⟩ (fgetf fb_513_7 h0 hB0 ?_)
      intro z4 lz4 uz4 qz4
      have v9 := cL_f (d := 512) (a := 1) (j := 7) (r := 3) (p := 3) (by decide +kernel) (by decide) qz4 rfl
      refine And.intro (And.intro (by first | exact fi_ ha1.1 ha1.2 rfl | omega) (And.intro (by first | exact fi_ lz4 uz4 rfl | omega) (And.intro (by omega) rfl))) ?_
      intro z5 hz5 ez5 dz5
      refine And.intro ⟨rfl, by decide, by decide⟩ (fgetf fb_513_7 h0 hB0 ?_)
      intro z6 lz6 uz6 qz6
      have v14 := cL_f (d := 512) (a := 1) (j := 7) (r := 3) (p := 3) (by decide +kernel) (by decide) qz6 rfl
      refine And.intro (And.intro (by first | exact fi_ lz6 uz6 rfl | omega) (And.intro (by first | exact ⟨by decide, by decide⟩ | omega) (And.intro (by first | exact by decide | omega) rfl))) ?_
      intro z7 hz7 ez7 dz7
      have dz7 := dz7 (by omega) (by omega)
      change _ = _ / _ at dz7
      refine And.intro (by omega) (And.intro ?_ ?_)
      · intro c8
        refine And.intro (⟨by omega, by omega⟩) ?_
        exact ⟨_, rfl, by omega, (by first | (exfalso; omega) | exact dy_of hz5 ez5 v9 rfl (by omega))⟩
      · intro c9
        refine And.intro (⟨by decide, by decide⟩) ?_
        exact ⟨_, rfl, (by first | exact ⟨by decide, by decide⟩ | omega), (by first | (exfalso; omega) | exact dy_of hz5 ez5 v9 rfl (by omega))⟩
end CT

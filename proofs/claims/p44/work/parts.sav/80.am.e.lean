set_option linter.all false
section CT
variable {ρ : Nat → Int32} {base n : Nat} {F : Nat → Prop} {D : va_G} {dA : Nat → ClassId} {la : Launch}
set_option maxRecDepth 8000 in
theorem ct_M_findOrder_1fb74 {I : fH} {x1 : Int} {x2 : Int} (h0 : fB bsJ I) (ha1 : (1 ≤ x1 ∧ x1 ≤ 60)) (ha2 : (1 ≤ x2 ∧ x2 ≤ 20000)) : fC ρ base n F xTc vwCl xTys D dA la gJ (fbz bsJ znJ (fKc wz_4d25e) I) xm_478 [.inr (.inr (some 740)), .inl x1, .inl x2] I (fun I' r => ∃ z, r = some (.inl z) ∧ ((0 ≤ z ∧ z ≤ 2147483647) ∨ z = (-1000000004) ∨ z = (-1000000002)) ∧ (z = bsZ (bsF (I 741 12).toNat (fun b => I 741 (4370 + 3 * b)) (fun b => I 741 (4371 + 3 * b)) (fun b => I 741 (4372 + 3 * b)) x1 x2)) ∧ ((bsF (I 741 12).toNat (fun b => I 741 (4370 + 3 * b)) (fun b => I 741 (4371 + 3 * b)) (fun b => I 741 (4372 + 3 * b)) x1 x2).2.1 ≠ -1000000002 → ∀ i : Nat, i < (I 741 12).toNat → I' 758 i = (bsF (I 741 12).toNat (fun b => I 741 (4370 + 3 * b)) (fun b => I 741 (4371 + 3 * b)) (fun b => I 741 (4372 + 3 * b)) x1 x2).2.2 i)) := by
  have hW : fzs wz_4d25e (fKc wz_4d25e) := fKc_ok _
  refine f_meth (rb := rbJ) (J := []) 1 400 xG xin_478 x6_478 okJ (fB_self h0) ?_ ?_
  · exact fun q h => absurd h List.not_mem_nil
  · have hB0 := fB_self (zn := znJ) (K := fKc wz_4d25e) h0
    have b1 := fBd fb_741_12 (fBz h0 hB0)
    have b2 := fBd fb_740_35 (fBz h0 hB0)
    refine And.intro ⟨rfl, by decide, by decide⟩ (And.intro rfl (And.intro (Or.inl rfl) (fputf fb_740_33 (by decide +kernel) hW (by first | exact ⟨by decide, by decide⟩ | omega) ?_)))
    intro IhB3 ehB3 hB3
    have t4 := fup_at ehB3 33 (by first | rfl | omega)
    have t5 : IhB3 740 34 = I 740 34 := (congrFun (congrFun ehB3 740) 34).trans (fup_ne (by first | decide | omega))
    have t6 : IhB3 740 35 = I 740 35 := (congrFun (congrFun ehB3 740) 35).trans (fup_ne (by first | decide | omega))
    refine And.intro ⟨rfl, by decide, by decide⟩ (And.intro rfl (And.intro (Or.inl rfl) (fputf fb_740_34 (by decide +kernel) hW (by first | exact ⟨Int.le_trans (by decide) ha2.1, Int.le_trans ha2.2 (by decide)⟩ | omega) ?_)))
    intro IhB7 ehB7 hB7
    have t8 : IhB7 740 33 = IhB3 740 33 := (congrFun (congrFun ehB7 740) 33).trans (fup_ne (by first | decide | omega))
    have t9 := fup_at ehB7 34 (by first | rfl | omega)
    have t10 : IhB7 740 35 = IhB3 740 35 := (congrFun (congrFun ehB7 740) 35).trans (fup_ne (by first | decide | omega))
    refine And.intro ⟨rfl, by decide, by decide⟩ (And.intro rfl (And.intro (Or.inr ⟨rfl, by decide, by decide⟩) (fputf fb_740_35 (by decide +kernel) hW (by first | exact ⟨by decide, by decide⟩ | omega) ?_)))
    intro IhB11 ehB11 hB11
    have t12 : IhB11 740 33 = IhB7 740 33 := (congrFun (congrFun ehB11 740) 33).trans (fup_ne (by first | decide | omega))
    have t13 : IhB11 740 34 = IhB7 740 34 := (congrFun (congrFun ehB11 740) 34).trans (fup_ne (by first | decide | omega))
    have t14 := fup_at ehB11 35 (by first | rfl | omega)
    have b12 := fBd fb_741_12 (fBz h0 hB11)
    refine Exists.intro xm_486 (And.intro mi_486 (And.intro ⟨rfl, rfl, rfl, rfl⟩ (And.intro rfl ?_)))
    refine fcall _ h0 (fzs_sub (by decide +kernel) hW) hB11 (ct_M_seek_71684 (fBz h0 hB11) (by first | exact ⟨ha1.1, ha1.2⟩ | omega) (by first | exact ⟨by decide, by decide⟩ | omega) (by first | exact ⟨by decide, by decide⟩ | omega) (by first | exact ⟨by decide, by decide⟩ | omega) (by first | exact ⟨by decide, by decide⟩ | omega) (by omega) (by omega) (by omega)) ?_
    rintro IhB16 _ hB16 fhB16 ⟨rfl, hz15, g0z15, g1z15⟩
    have s4 : ∀ j, IhB11 741 j = I 741 j := fun j => (fup_other ehB11 741 j (Or.inl (by decide))).trans ((fup_other ehB7 741 j (Or.inl (by decide))).trans (fup_other ehB3 741 j (Or.inl (by decide))))
    simp only [s4] at g0z15
    have w21 := g0z15 (fun _ => 0) (x2, -1000000002, fun _ => 0) (fun i hi => absurd hi (by omega)) (bq_in (by omega) (by omega) (by omega) (by omega))
    refine And.intro ⟨rfl, by decide, by decide⟩ (fgetf fb_740_35 h0 hB16 ?_)
    intro z17 lz17 uz17 qz17
    refine And.intro (by first | exact fi_ lz17 uz17 rfl | omega) (And.intro ?_ ?_)
    · intro c18
      refine And.intro ⟨rfl, by decide, by decide⟩ (fgetf fb_740_33 h0 hB16 ?_)
      intro z19 lz19 uz19 qz19
      refine And.intro (by first | exact fi_ lz19 uz19 rfl | omega) (And.intro ?_ ?_)
      · intro c20
        refine And.intro ⟨rfl, by decide, by decide⟩ (fgetf fb_740_33 h0 hB16 ?_)
        intro z21 lz21 uz21 qz21
        refine And.intro (True.intro) ?_
        exact ⟨_, rfl, by omega, (bq_z w21 (by omega)), w21.2.2⟩
      · intro c22
        refine And.intro (True.intro) ?_
        exact ⟨_, rfl, by omega, (bq_z w21 (by omega)), w21.2.2⟩
    · intro c23
      refine And.intro (True.intro) ?_
      exact ⟨_, rfl, by omega, (bq_z w21 (by omega)), w21.2.2⟩
set_option maxRecDepth 8000 in
theorem ct_M_isYears_9dc65 {I : fH} {x0 : Int} (h0 : fB bsJ I) (ha0 : ((-2147483648) ≤ x0 ∧ x0 ≤ 2147483647)) : fC ρ base n F xTc vwCl xTys D dA la gJ (fbz bsJ znJ (fKc []) I) xm_477 [.inl x0] I (fun _ r => ∃ z, r = some (.inl z) ∧ (((z = 1 ∧ 1 ≤ x0 ∧ x0 ≤ 60) ∨ z = 0) ∧ (z = 0 → ¬ (1 ≤ x0 ∧ x0 ≤ 60)))) := by
  have hW : fzs [] (fKc []) := fKc_ok _
  refine f_meth (rb := rbJ) (J := []) 1 400 xG xin_477 x6_477 okJ (fB_self h0) ?_ ?_
  · exact fun q h => absurd h List.not_mem_nil
  · have hB0 := fB_self (zn := znJ) (K := fKc []) h0
    refine And.intro (by first | exact fi_ ha0.1 ha0.2 rfl | omega) ?_
    refine Exists.intro xm_238 (And.intro mi_238 (And.intro ⟨rfl, rfl, rfl, rfl⟩ (And.intro True.intro ?_)))
    refine fcallp hB0 (ct_M_isIn_27230 (fBz h0 hB0) (by first | exact ⟨ha0.1, ha0.2⟩ | omega) (by first | exact ⟨by decide, by decide⟩ | omega) (by first | exact ⟨by decide, by decide⟩ | omega)) ?_
    rintro _ ⟨z1, rfl, hz1⟩
    refine And.intro (⟨by omega, by omega⟩) ?_
    exact ⟨_, rfl, by omega⟩
set_option maxRecDepth 8000 in
theorem ct_M_plan_47fe7 {I : fH} {x1 : Int} {x2 : Int} (h0 : fB bsJ I) (ha1 : ((-2147483648) ≤ x1 ∧ x1 ≤ 2147483647)) (ha2 : ((-2147483648) ≤ x2 ∧ x2 ≤ 2147483647)) : fC ρ base n F xTc vwCl xTys D dA la gJ (fbz bsJ znJ (fKc wz_4d25e) I) xm_476 [.inr (.inr (some 740)), .inl x1, .inl x2] I (fun _ r => ∃ z, r = some (.inl z) ∧ ((0 ≤ z ∧ z ≤ 2147483647) ∨ z = (-1000000004) ∨ z = (-1000000002) ∨ z = (-1000000001)) ∧ (((1 ≤ x1 ∧ x1 ≤ 60 ∧ 1 ≤ x2 ∧ x2 ≤ 20000) ∧ z = bsZ (bsF (I 741 12).toNat (fun b => I 741 (4370 + 3 * b)) (fun b => I 741 (4371 + 3 * b)) (fun b => I 741 (4372 + 3 * b)) x1 x2)) ∨ (¬ (1 ≤ x1 ∧ x1 ≤ 60 ∧ 1 ≤ x2 ∧ x2 ≤ 20000) ∧ z = (-1000000001)))) := by
  have hW : fzs wz_4d25e (fKc wz_4d25e) := fKc_ok _
  refine f_meth (rb := rbJ) (J := []) 1 400 xG xin_476 x6_476 okJ (fB_self h0) ?_ ?_
  · exact fun q h => absurd h List.not_mem_nil
  · have hB0 := fB_self (zn := znJ) (K := fKc wz_4d25e) h0
    refine Exists.intro xm_477 (And.intro mi_477 (And.intro ⟨rfl, rfl, rfl, rfl⟩ (And.intro True.intro ?_)))
    refine fcallp hB0 (ct_M_isYears_9dc65 (fBz h0 hB0) (by first | exact ⟨ha1.1, ha1.2⟩ | omega)) ?_
    rintro _ ⟨z1, rfl, hz1⟩
    refine And.intro (by omega) (And.intro ?_ ?_)
    · intro c2
      refine And.intro (True.intro) ?_
      exact ⟨_, rfl, by omega, (by first | exact Or.inl ⟨by omega, g0nil0⟩ | exact Or.inr ⟨by omega, by omega⟩)⟩
    · intro c3
      refine And.intro (by first | exact fi_ ha2.1 ha2.2 rfl | omega) ?_
      refine Exists.intro xm_238 (And.intro mi_238 (And.intro ⟨rfl, rfl, rfl, rfl⟩ (And.intro True.intro ?_)))
      refine fcallp hB0 (ct_M_isIn_27230 (fBz h0 hB0) (by first | exact ⟨ha2.1, ha2.2⟩ | omega) (by first | exact ⟨by decide, by decide⟩ | omega) (by first | exact ⟨by decide, by decide⟩ | omega)) ?_
      rintro _ ⟨z4, rfl, hz4⟩
      refine And.intro (by omega) (And.intro ?_ ?_)
      · intro c5
        refine And.intro (True.intro) ?_
        exact ⟨_, rfl, by omega, (by first | exact Or.inl ⟨by omega, g0nil0⟩ | exact Or.inr ⟨by omega, by omega⟩)⟩
      · intro c6
        refine Exists.intro xm_478 (And.intro mi_478 (And.intro ⟨rfl, rfl, rfl, rfl⟩ (And.intro rfl ?_)))
        refine fcall _ h0 (fzs_sub (by decide +kernel) hW) hB0 (ct_M_findOrder_1fb74 (fBz h0 hB0) (by omega) (by first | exact ⟨Int.le_trans (by decide) (Int.le_trans (Int.le_refl _) hz4.1), Int.le_trans (Int.le_trans hz4.2 (Int.le_refl _)) (by decide)⟩ | omega)) ?_
        rintro IhB8 _ hB8 fhB8 ⟨z7, rfl, hz7, g0z7, g1z7⟩
        refine And.intro (True.intro) ?_
        exact ⟨_, rfl, by omega, (by first | exact Or.inl ⟨by omega, g0z7⟩ | exact Or.inr ⟨by omega, by omega⟩)⟩
set_option maxRecDepth 8000 in
theorem ct_X_planned_1f2a9 {I : fH} {x1 : Int} {x2 : Int} (h0 : fB bsJ I) (ha1 : ((-2147483648) ≤ x1 ∧ x1 ≤ 2147483647)) (ha2 : ((-2147483648) ≤ x2 ∧ x2 ≤ 2147483647)) : fC ρ base n F xTc vwCl xTys D dA la gJ (fbz bsJ znJ (fKc wz_79e74) I) xm_216 [.inr (.inr (some 0)), .inl x1, .inl x2] I (fun _ r => ∃ z, r = some (.inl z) ∧ ((-2147483648) ≤ z ∧ z ≤ 6) ∧ (((1 ≤ x1 ∧ x1 ≤ 60 ∧ 0 ≤ x2) ∧ ((bsZ (bsF (I 211 15).toNat (I 254) (I 255) (I 256) x1 ((20000 : Nat) : Int)) < 0 ∧ z = bsZ (bsF (I 211 15).toNat (I 254) (I 255) (I 256) x1 ((20000 : Nat) : Int))) ∨ (0 ≤ bsZ (bsF (I 211 15).toNat (I 254) (I 255) (I 256) x1 ((20000 : Nat) : Int)) ∧ x2 < I 211 15 ∧ z = (bsF (I 211 15).toNat (I 254) (I 255) (I 256) x1 ((20000 : Nat) : Int)).2.2 x2.toNat) ∨ (0 ≤ bsZ (bsF (I 211 15).toNat (I 254) (I 255) (I 256) x1 ((20000 : Nat) : Int)) ∧ I 211 15 ≤ x2 ∧ z = -1000000005))) ∨ (¬ (1 ≤ x1 ∧ x1 ≤ 60 ∧ 0 ≤ x2) ∧ z = (-1000000001)))) := by
  have hW : fzs wz_79e74 (fKc wz_79e74) := fKc_ok _
  refine f_meth (rb := rbJ) (J := []) 1 400 xG xin_216 x6_216 okJ (fB_self h0) ?_ ?_
  · exact fun q h => absurd h List.not_mem_nil
  · have hB0 := fB_self (zn := znJ) (K := fKc wz_79e74) h0
    refine Exists.intro xm_13 (And.intro mi_13 (And.intro ⟨rfl, rfl, rfl, rfl⟩ (And.intro True.intro ?_)))
    refine fcallp hB0 (ct_X_within_c27b1 (fBz h0 hB0) (by first | exact ⟨ha1.1, ha1.2⟩ | omega) (by first | exact ⟨by decide, by decide⟩ | omega) (by first | exact ⟨by decide, by decide⟩ | omega)) ?_
    rintro _ ⟨z1, rfl, hz1⟩
    refine And.intro (by omega) (And.intro ?_ ?_)
    · intro c2
      refine And.intro (True.intro) ?_
      exact ⟨_, rfl, (by first | exact ⟨by decide, by decide⟩ | omega), (by first | exact Or.inr ⟨by omega, by omega⟩ | exact Or.inl ⟨by omega, Or.inl ⟨by rw [← g0nil0]; omega, g0nil0⟩⟩ | exact Or.inl ⟨by omega, Or.inr (Or.inl ⟨by rw [← g0nil0]; omega, by omega, qnil0.trans (g1nil0 (bs_ok (by rw [← g0nil0]; omega)) _ (by omega))⟩)⟩ | exact Or.inl ⟨by omega, Or.inr (Or.inr ⟨by rw [← g0nil0]; omega, by omega, by omega⟩)⟩)⟩
    · intro c3
      refine And.intro (by first | exact fi_ ha2.1 ha2.2 rfl | omega) (And.intro ?_ ?_)
      · intro c4
        refine And.intro ⟨rfl, by decide, by decide⟩ ?_
        refine And.intro ⟨rfl, by decide, by decide⟩ ?_
        refine Exists.intro xm_206 (And.intro mi_206 (And.intro ⟨rfl, rfl, rfl, rfl⟩ (And.intro rfl ?_)))
        refine fcall _ h0 (fzs_sub (by decide +kernel) hW) hB0 (ct_Order_bestSum_ae03f (fBz h0 hB0) (by first | exact ⟨Int.le_trans (by decide) (Int.le_trans (Int.le_refl _) hz1.1), Int.le_trans (Int.le_trans hz1.2 (Int.le_refl _)) (by decide)⟩ | omega) (by first | exact ⟨by decide, by decide⟩ | omega)) ?_
        rintro IhB6 _ hB6 fhB6 ⟨z5, rfl, hz5, g0z5, g1z5⟩
        have k7 := fBz_eq hB6 (a := 211) (j := 15) (by decide +kernel)
        refine And.intro (by first | exact fi_ hz5.1 hz5.2 rfl | omega) (And.intro ?_ ?_)
        · intro c8
          refine And.intro ⟨rfl, by decide, by decide⟩ ?_
          refine And.intro ⟨rfl, by decide, by decide⟩ (fgetf fb_211_15 h0 hB6 ?_)
          intro z9 lz9 uz9 qz9
          refine And.intro (And.intro (by first | exact fi_ (Int.le_trans (Int.le_refl _) c4) ha2.2 rfl | omega) (by first | exact fi_ lz9 uz9 rfl | omega)) (And.intro ?_ ?_)
          · intro c10
            refine And.intro (True.intro) ?_
            exact ⟨_, rfl, by omega, (by first | exact Or.inr ⟨by omega, by omega⟩ | exact Or.inl ⟨by omega, Or.inl ⟨by rw [← g0z5]; omega, g0z5⟩⟩ | exact Or.inl ⟨by omega, Or.inr (Or.inl ⟨by rw [← g0z5]; omega, by omega, qnil0.trans (g1z5 (bs_ok (by rw [← g0z5]; omega)) _ (by omega))⟩)⟩ | exact Or.inl ⟨by omega, Or.inr (Or.inr ⟨by rw [← g0z5]; omega, by omega, by omega⟩)⟩)⟩
          · intro c11
            refine And.intro ⟨rfl, by decide, by decide⟩ ?_
            refine And.intro ⟨rfl, by decide, by decide⟩ ?_
            refine fload1 rL_736_736_0_6_1_0 h0 hB6 ⟨by decide, by decide⟩ (by first | exact ⟨Int.le_trans (by decide) (Int.le_trans (Int.le_refl _) c4), Int.le_trans (Int.le_sub_one_of_lt (Int.lt_of_lt_of_le c11 uz9)) (by decide)⟩ | omega) ?_
            intro z12 lz12 uz12 qz12
            refine And.intro (True.intro) ?_
            exact ⟨_, rfl, (by first | exact ⟨Int.le_trans (by decide) lz12, uz12⟩ | omega), (by first | exact Or.inr ⟨by omega, by omega⟩ | exact Or.inl ⟨by omega, Or.inl ⟨by rw [← g0z5]; omega, g0z5⟩⟩ | exact Or.inl ⟨by omega, Or.inr (Or.inl ⟨by rw [← g0z5]; omega, by omega, qz12.trans (g1z5 (bs_ok (by rw [← g0z5]; omega)) _ (by omega))⟩)⟩ | exact Or.inl ⟨by omega, Or.inr (Or.inr ⟨by rw [← g0z5]; omega, by omega, by omega⟩)⟩)⟩
        · intro c13
          refine And.intro (True.intro) ?_
          exact ⟨_, rfl, (by first | exact ⟨hz5.1, Int.le_trans (Int.le_sub_one_of_lt (Int.lt_of_lt_of_le c13 (Int.le_refl _))) (by decide)⟩ | omega), (by first | exact Or.inr ⟨by omega, by omega⟩ | exact Or.inl ⟨by omega, Or.inl ⟨by rw [← g0z5]; omega, g0z5⟩⟩ | exact Or.inl ⟨by omega, Or.inr (Or.inl ⟨by rw [← g0z5]; omega, by omega, qz12.trans (g1z5 (bs_ok (by rw [← g0z5]; omega)) _ (by omega))⟩)⟩ | exact Or.inl ⟨by omega, Or.inr (Or.inr ⟨by rw [← g0z5]; omega, by omega, by omega⟩)⟩)⟩
      · intro c14
        refine And.intro (True.intro) ?_
        exact ⟨_, rfl, (by first | exact ⟨by decide, by decide⟩ | omega), (by first | exact Or.inr ⟨by omega, by omega⟩ | exact Or.inl ⟨by omega, Or.inl ⟨by rw [← g0z5]; omega, g0z5⟩⟩ | exact Or.inl ⟨by omega, Or.inr (Or.inl ⟨by rw [← g0z5]; omega, by omega, qz12.trans (g1z5 (bs_ok (by rw [← g0z5]; omega)) _ (by omega))⟩)⟩ | exact Or.inl ⟨by omega, Or.inr (Or.inr ⟨by rw [← g0z5]; omega, by omega, by omega⟩)⟩)⟩
set_option maxRecDepth 8000 in
theorem ct_M_planned_1c024 {I : fH} {x1 : Int} {x2 : Int} (h0 : fB bsJ I) (ha1 : ((-2147483648) ≤ x1 ∧ x1 ≤ 2147483647)) (ha2 : ((-2147483648) ≤ x2 ∧ x2 ≤ 2147483647)) : fC ρ base n F xTc vwCl xTys D dA la gJ (fbz bsJ znJ (fKc wz_4d25e) I) xm_487 [.inr (.inr (some 740)), .inl x1, .inl x2] I (fun _ r => ∃ z, r = some (.inl z) ∧ ((0 ≤ z ∧ z ≤ 6) ∨ z = (-1000000005) ∨ z = (-1000000004) ∨ z = (-1000000002) ∨ z = (-1000000001)) ∧ (((1 ≤ x1 ∧ x1 ≤ 60 ∧ 0 ≤ x2) ∧ ((bsZ (bsF (I 741 12).toNat (fun b => I 741 (4370 + 3 * b)) (fun b => I 741 (4371 + 3 * b)) (fun b => I 741 (4372 + 3 * b)) x1 ((20000 : Nat) : Int)) < 0 ∧ z = bsZ (bsF (I 741 12).toNat (fun b => I 741 (4370 + 3 * b)) (fun b => I 741 (4371 + 3 * b)) (fun b => I 741 (4372 + 3 * b)) x1 ((20000 : Nat) : Int))) ∨ (0 ≤ bsZ (bsF (I 741 12).toNat (fun b => I 741 (4370 + 3 * b)) (fun b => I 741 (4371 + 3 * b)) (fun b => I 741 (4372 + 3 * b)) x1 ((20000 : Nat) : Int)) ∧ x2 < I 741 12 ∧ z = (bsF (I 741 12).toNat (fun b => I 741 (4370 + 3 * b)) (fun b => I 741 (4371 + 3 * b)) (fun b => I 741 (4372 + 3 * b)) x1 ((20000 : Nat) : Int)).2.2 x2.toNat) ∨ (0 ≤ bsZ (bsF (I 741 12).toNat (fun b => I 741 (4370 + 3 * b)) (fun b => I 741 (4371 + 3 * b)) (fun b => I 741 (4372 + 3 * b)) x1 ((20000 : Nat) : Int)) ∧ I 741 12 ≤ x2 ∧ z = -1000000005))) ∨ (¬ (1 ≤ x1 ∧ x1 ≤ 60 ∧ 0 ≤ x2) ∧ z = (-1000000001)))) := by
  have hW : fzs wz_4d25e (fKc wz_4d25e) := fKc_ok _
  refine f_meth (rb := rbJ) (J := []) 1 400 xG xin_487 x6_487 okJ (fB_self h0) ?_ ?_
  · exact fun q h => absurd h List.not_mem_nil
  · have hB0 := fB_self (zn := znJ) (K := fKc wz_4d25e) h0
    refine Exists.intro xm_477 (And.intro mi_477 (And.intro ⟨rfl, rfl, rfl, rfl⟩ (And.intro True.intro ?_)))
    refine fcallp hB0 (ct_M_isYears_9dc65 (fBz h0 hB0) (by first | exact ⟨ha1.1, ha1.2⟩ | omega)) ?_
    rintro _ ⟨z1, rfl, hz1⟩
    refine And.intro (by omega) (And.intro ?_ ?_)
    · intro c2
      refine And.intro (True.intro) ?_
      exact ⟨_, rfl, by omega, (by first | exact Or.inr ⟨by omega, by omega⟩ | exact Or.inl ⟨by omega, Or.inl ⟨by rw [← g0nil0]; omega, g0nil0⟩⟩ | exact Or.inl ⟨by omega, Or.inr (Or.inl ⟨by rw [← g0nil0]; omega, by omega, qnil0.trans (g1nil0 (bs_ok (by rw [← g0nil0]; omega)) _ (by omega))⟩)⟩ | exact Or.inl ⟨by omega, Or.inr (Or.inr ⟨by rw [← g0nil0]; omega, by omega, by omega⟩)⟩)⟩
    · intro c3
      refine And.intro (by first | exact fi_ ha2.1 ha2.2 rfl | omega) (And.intro ?_ ?_)
      · intro c4
        refine Exists.intro xm_478 (And.intro mi_478 (And.intro ⟨rfl, rfl, rfl, rfl⟩ (And.intro rfl ?_)))
        refine fcall _ h0 (fzs_sub (by decide +kernel) hW) hB0 (ct_M_findOrder_1fb74 (fBz h0 hB0) (by omega) (by first | exact ⟨by decide, by decide⟩ | omega)) ?_
        rintro IhB6 _ hB6 fhB6 ⟨z5, rfl, hz5, g0z5, g1z5⟩
        have k7 := fBz_eq hB6 (a := 741) (j := 12) (by decide +kernel)
        refine And.intro (by omega) (And.intro ?_ ?_)
        · intro c8
          refine And.intro ⟨rfl, by decide, by decide⟩ ?_
          refine fload1 rL_741_741_12_12_1_0 h0 hB6 ⟨by decide, by decide⟩ (by first | exact ⟨by decide, by decide⟩ | omega) ?_
          intro z9 lz9 uz9 qz9
          have pz9 := fld_at qz9 12 (by omega)
          refine And.intro (And.intro (by first | exact fi_ (Int.le_trans (Int.le_refl _) c4) ha2.2 rfl | omega) (by first | exact fi_ lz9 uz9 rfl | omega)) (And.intro ?_ ?_)
          · intro c10
            refine And.intro (True.intro) ?_
            exact ⟨_, rfl, by omega, (by first | exact Or.inr ⟨by omega, by omega⟩ | exact Or.inl ⟨by omega, Or.inl ⟨by rw [← g0z5]; omega, g0z5⟩⟩ | exact Or.inl ⟨by omega, Or.inr (Or.inl ⟨by rw [← g0z5]; omega, by omega, qnil0.trans (g1z5 (bs_ok (by rw [← g0z5]; omega)) _ (by omega))⟩)⟩ | exact Or.inl ⟨by omega, Or.inr (Or.inr ⟨by rw [← g0z5]; omega, by omega, by omega⟩)⟩)⟩
          · intro c11
            refine And.intro ⟨rfl, by decide, by decide⟩ ?_
            refine fload1 rL_758_758_0_6_1_0 h0 hB6 ⟨by decide, by decide⟩ (by first | exact ⟨Int.le_trans (by decide) (Int.le_trans (Int.le_refl _) c4), Int.le_trans (Int.le_sub_one_of_lt (Int.lt_of_lt_of_le c11 uz9)) (by decide)⟩ | omega) ?_
            intro z12 lz12 uz12 qz12
            refine And.intro (True.intro) ?_
            exact ⟨_, rfl, by omega, (by first | exact Or.inr ⟨by omega, by omega⟩ | exact Or.inl ⟨by omega, Or.inl ⟨by rw [← g0z5]; omega, g0z5⟩⟩ | exact Or.inl ⟨by omega, Or.inr (Or.inl ⟨by rw [← g0z5]; omega, by omega, qz12.trans (g1z5 (bs_ok (by rw [← g0z5]; omega)) _ (by omega))⟩)⟩ | exact Or.inl ⟨by omega, Or.inr (Or.inr ⟨by rw [← g0z5]; omega, by omega, by omega⟩)⟩)⟩
        · intro c13
          refine And.intro (True.intro) ?_
          exact ⟨_, rfl, by omega, (by first | exact Or.inr ⟨by omega, by omega⟩ | exact Or.inl ⟨by omega, Or.inl ⟨by rw [← g0z5]; omega, g0z5⟩⟩ | exact Or.inl ⟨by omega, Or.inr (Or.inl ⟨by rw [← g0z5]; omega, by omega, qz12.trans (g1z5 (bs_ok (by rw [← g0z5]; omega)) _ (by omega))⟩)⟩ | exact Or.inl ⟨by omega, Or.inr (Or.inr ⟨by rw [← g0z5]; omega, by omega, by omega⟩)⟩)⟩
      · intro c14
        refine And.intro (True.intro) ?_
        exact ⟨_, rfl, by omega, (by first | exact Or.inr ⟨by omega, by omega⟩ | exact Or.inl ⟨by omega, Or.inl ⟨by rw [← g0z5]; omega, g0z5⟩⟩ | exact Or.inl ⟨by omega, Or.inr (Or.inl ⟨by rw [← g0z5]; omega, by omega, qz12.trans (g1z5 (bs_ok (by rw [← g0z5]; omega)) _ (by omega))⟩)⟩ | exact Or.inl ⟨by omega, Or.inr (Or.inr ⟨by rw [← g0z5]; omega, by omega, by omega⟩)⟩)⟩
set_option maxRecDepth 8000 in
theorem ct_X_tell_f2ca8 {I : fH} {x1 : Int} (h0 : fB bsJ I) (ha1 : ((-2147483648) ≤ x1 ∧ x1 ≤ 2147483647)) : fC ρ base n F xTc vwCl xTys D dA la gJ (fbz bsJ znJ (fKc wz_ea84a) I) xm_217 [.inr (.inr (some 0)), .inl x1] I (fun I' r => ∃ z, r = some (.inl z) ∧ (((1 ≤ z ∧ z ≤ 60) ∨ z = (-1000000003)) ∧ ((I 0 14 < 60 → I' 0 14 = I 0 14 + 1 ∧ z = I 0 14 + 1) ∧ (60 ≤ I 0 14 → I' 0 14 = I 0 14 ∧ z = (-1000000003))))) := by
  have hW : fzs wz_ea84a (fKc wz_ea84a) := fKc_ok _
  refine f_meth (rb := rbJ) (J := []) 1 400 xG xin_217 x6_217 okJ (fB_self h0) ?_ ?_
  · exact fun q h => absurd h List.not_mem_nil
  · have hB0 := fB_self (zn := znJ) (K := fKc wz_ea84a) h0
    refine And.intro ⟨rfl, by decide, by decide⟩ (fgetf fb_0_14 h0 hB0 ?_)
    intro z1 lz1 uz1 qz1
    refine And.intro (And.intro (by first | exact fi_ lz1 uz1 rfl | omega) (by first | exact ⟨by decide, by decide⟩ | omega)) (And.intro ?_ ?_)
    · intro c2
      refine And.intro ⟨rfl, by decide, by decide⟩ ?_
      refine And.intro ⟨rfl, by decide, by decide⟩ (fgetf fb_0_14 h0 hB0 ?_)
      intro z3 lz3 uz3 qz3
      refine fstore rS_738_738_0_59_1_0 (fzs_sub (by decide +kernel) hW) (by omega) (by first | exact ⟨ha1.1, ha1.2⟩ | omega) ?_
      intro IhB4 ehB4 hB4
      have t5 := fup_self ehB4
      have t6 : IhB4 0 14 = I 0 14 := (congrFun (congrFun ehB4 0) 14).trans (fup_ne (by first | exact Or.inl (by decide) | omega))
      refine And.intro ⟨rfl, by decide, by decide⟩ (fgetf fb_0_14 h0 hB4 ?_)
      intro z7 lz7 uz7 qz7
      refine And.intro ⟨rfl, by decide, by decide⟩ (And.intro rfl (And.intro (Or.inl rfl) (fputf fb_0_14 (by decide +kernel) hW (by omega) ?_)))
      intro IhB8 ehB8 hB8
      have t9 := fup_at ehB8 14 (by first | rfl | omega)
      refine And.intro ⟨rfl, by decide, by decide⟩ (fgetf fb_0_14 h0 hB8 ?_)
      intro z10 lz10 uz10 qz10
      refine And.intro (True.intro) ?_
      exact ⟨_, rfl, by omega⟩
    · intro c11
      refine And.intro (True.intro) ?_
      exact ⟨_, rfl, by omega⟩
set_option maxRecDepth 8000 in
theorem ct_M_tell_9320d {I : fH} {x1 : Int} (h0 : fB bsJ I) (ha1 : ((-2147483648) ≤ x1 ∧ x1 ≤ 2147483647)) : fC ρ base n F xTc vwCl xTys D dA la gJ (fbz bsJ znJ (fKc wz_f12ac) I) xm_488 [.inr (.inr (some 740)), .inl x1] I (fun I' r => ∃ z, r = some (.inl z) ∧ (((1 ≤ z ∧ z ≤ 60) ∨ z = (-1000000003)) ∧ ((I 740 37 < 60 → I' 740 37 = I 740 37 + 1 ∧ z = I 740 37 + 1) ∧ (60 ≤ I 740 37 → I' 740 37 = I 740 37 ∧ z = (-1000000003))))) := by
  have hW : fzs wz_f12ac (fKc wz_f12ac) := fKc_ok _
  refine f_meth (rb := rbJ) (J := []) 1 400 xG xin_488 x6_488 okJ (fB_self h0) ?_ ?_
  · exact fun q h => absurd h List.not_mem_nil
  · have hB0 := fB_self (zn := znJ) (K := fKc wz_f12ac) h0
    refine And.intro ⟨rfl, by decide, by decide⟩ (fgetf fb_740_37 h0 hB0 ?_)
    intro z1 lz1 uz1 qz1
    refine And.intro (And.intro (by first | exact fi_ lz1 uz1 rfl | omega) (by first | exact ⟨by decide, by decide⟩ | omega)) (And.intro ?_ ?_)
    · intro c2
      refine And.intro ⟨rfl, by decide, by decide⟩ ?_
      refine And.intro ⟨rfl, by decide, by decide⟩ (fgetf fb_740_37 h0 hB0 ?_)
      intro z3 lz3 uz3 qz3
      refine fstore rS_759_759_0_59_1_0 (fzs_sub (by decide +kernel) hW) (by omega) (by first | exact ⟨ha1.1, ha1.2⟩ | omega) ?_
      intro IhB4 ehB4 hB4
      have t5 := fup_self ehB4
      have t6 : IhB4 740 37 = I 740 37 := (congrFun (congrFun ehB4 740) 37).trans (fup_ne (by first | exact Or.inl (by decide) | omega))
      refine And.intro ⟨rfl, by decide, by decide⟩ (fgetf fb_740_37 h0 hB4 ?_)
      intro z7 lz7 uz7 qz7
      refine And.intro ⟨rfl, by decide, by decide⟩ (And.intro rfl (And.intro (Or.inl rfl) (fputf fb_740_37 (by decide +kernel) hW (by omega) ?_)))
      intro IhB8 ehB8 hB8
      have t9 := fup_at ehB8 37 (by first | rfl | omega)
      refine And.intro ⟨rfl, by decide, by decide⟩ (fgetf fb_740_37 h0 hB8 ?_)
      intro z10 lz10 uz10 qz10
      refine And.intro (True.intro) ?_
      exact ⟨_, rfl, by omega⟩
    · intro c11
      refine And.intro (True.intro) ?_
      exact ⟨_, rfl, by omega⟩
end CT

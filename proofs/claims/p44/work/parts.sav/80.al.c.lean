set_option linter.all false
section CT
variable {ρ : Nat → Int32} {base n : Nat} {F : Nat → Prop} {D : va_G} {dA : Nat → ClassId} {la : Launch}
set_option maxRecDepth 8000 in
theorem ct_M_sewn_6ebad {I : fH} {x1 : Int} {x2 : Int} {x3 : Int} {x4 : Int} (h0 : fB bsJ I) (ha1 : ((-2147483648) ≤ x1 ∧ x1 ≤ 2147483647)) (ha2 : ((-2147483648) ≤ x2 ∧ x2 ≤ 2147483647)) (ha3 : ((-2147483648) ≤ x3 ∧ x3 ≤ 2147483647)) (ha4 : ((-2147483648) ≤ x4 ∧ x4 ≤ 2147483647)) (hp0 : rnOK (mR I)) : fC ρ base n F xTc vwCl xTys D dA la gJ (fbz bsJ znJ (fKc wz_e4773) I) xm_461 [.inr (.inr (some 740)), .inl x1, .inl x2, .inl x3, .inl x4] I (fun _ r => ∃ z, r = some (.inl z) ∧ ((-2147483648) ≤ z ∧ z ≤ 2147483647) ∧ ((((1 ≤ x1 ∧ x1 ≤ 48) ∧ (0 ≤ x2 ∧ x2 ≤ 9) ∧ (0 ≤ x3 ∧ x3 < I 741 7) ∧ (0 ≤ x4 ∧ x4 < x1)) → z = rKc (mR I) (rnW (fun j : Nat => I 741 (4510 + j))) x2 x1.toNat x3 x4.toNat (rn_f (mR I))) ∧ (¬ ((1 ≤ x1 ∧ x1 ≤ 48) ∧ (0 ≤ x2 ∧ x2 ≤ 9) ∧ (0 ≤ x3 ∧ x3 < I 741 7) ∧ (0 ≤ x4 ∧ x4 < x1)) → z = (-1000000001)))) := by
  have hW : fzs wz_e4773 (fKc wz_e4773) := fKc_ok _
  refine f_meth (rb := rbJ) (J := []) 1 400 xG xin_461 x6_461 okJ (fB_self h0) ?_ ?_
  · exact fun q h => absurd h List.not_mem_nil
  · have hB0 := fB_self (zn := znJ) (K := fKc wz_e4773) h0
    have b1 := fBd fb_741_7 (fBz h0 hB0)
    refine And.intro (by first | exact fi_ ha1.1 ha1.2 rfl | omega) ?_
    refine Exists.intro xm_238 (And.intro mi_238 (And.intro ⟨rfl, rfl, rfl, rfl⟩ (And.intro True.intro ?_)))
    refine fcallp hB0 (ct_M_isIn_27230 (fBz h0 hB0) (by first | exact ⟨ha1.1, ha1.2⟩ | omega) (by first | exact ⟨by decide, by decide⟩ | omega) (by first | exact ⟨by decide, by decide⟩ | omega)) ?_
    rintro _ ⟨z2, rfl, hz2⟩
    refine And.intro (by omega) (And.intro ?_ ?_)
    · intro c3
      refine And.intro (True.intro) ?_
      exact ⟨_, rfl, (by first | exact ⟨by decide, by decide⟩ | omega), ⟨fun q => by exfalso; omega, fun _ => by omega⟩⟩
    · intro c4
      refine And.intro (by first | exact fi_ ha2.1 ha2.2 rfl | omega) ?_
      refine Exists.intro xm_238 (And.intro mi_238 (And.intro ⟨rfl, rfl, rfl, rfl⟩ (And.intro True.intro ?_)))
      refine fcallp hB0 (ct_M_isIn_27230 (fBz h0 hB0) (by first | exact ⟨ha2.1, ha2.2⟩ | omega) (by first | exact ⟨by decide, by decide⟩ | omega) (by first | exact ⟨by decide, by decide⟩ | omega)) ?_
      rintro _ ⟨z5, rfl, hz5⟩
      refine And.intro (by omega) (And.intro ?_ ?_)
      · intro c6
        refine And.intro (True.intro) ?_
        exact ⟨_, rfl, (by first | exact ⟨by decide, by decide⟩ | omega), ⟨fun q => by exfalso; omega, fun _ => by omega⟩⟩
      · intro c7
        refine Exists.intro xm_266 (And.intro mi_266 (And.intro ⟨rfl, rfl, rfl, rfl⟩ (And.intro rfl ?_)))
        refine fcallp hB0 (ct_M_isWork_a0fef (fBz h0 hB0) (by first | exact ⟨ha3.1, ha3.2⟩ | omega)) ?_
        rintro _ ⟨z8, rfl, hz8⟩
        refine And.intro (by omega) (And.intro ?_ ?_)
        · intro c9
          refine And.intro (True.intro) ?_
          exact ⟨_, rfl, (by first | exact ⟨by decide, by decide⟩ | omega), ⟨fun q => by exfalso; omega, fun _ => by omega⟩⟩
        · intro c10
          refine And.intro (by first | exact fi_ ha4.1 ha4.2 rfl | omega) ?_
          refine And.intro (by omega) ?_
          refine Exists.intro xm_238 (And.intro mi_238 (And.intro ⟨rfl, rfl, rfl, rfl⟩ (And.intro True.intro ?_)))
          refine fcallp hB0 (ct_M_isIn_27230 (fBz h0 hB0) (by first | exact ⟨ha4.1, ha4.2⟩ | omega) (by first | exact ⟨by decide, by decide⟩ | omega) (by omega)) ?_
          rintro _ ⟨z11, rfl, hz11⟩
          refine And.intro (by omega) (And.intro ?_ ?_)
          · intro c12
            refine Exists.intro xm_455 (And.intro mi_455 (And.intro ⟨rfl, rfl, rfl, rfl⟩ (And.intro rfl ?_)))
            refine fcall _ h0 (fzs_sub (by decide +kernel) hW) hB0 (ct_M_rounds_3e399 (fBz h0 hB0) (by first | exact ⟨Int.le_trans (by decide) (Int.le_trans (Int.le_refl _) hz2.1), Int.le_trans (Int.le_trans hz2.2 (Int.le_refl _)) (by decide)⟩ | omega) (by first | exact ⟨Int.le_trans (by decide) (Int.le_trans (Int.le_refl _) hz5.1), Int.le_trans (Int.le_trans hz5.2 (Int.le_refl _)) (by decide)⟩ | omega) (by omega) (by omega) hp0) ?_
            rintro IhB14 _ hB14 fhB14 ⟨z13, rfl, hz13, g0z13, g1z13⟩
            refine And.intro ⟨rfl, by decide, by decide⟩ (fgetf fb_740_29 h0 hB14 ?_)
            intro z15 lz15 uz15 qz15
            refine And.intro (True.intro) ?_
            exact ⟨_, rfl, (by first | exact ⟨lz15, uz15⟩ | omega), ⟨fun _ => qz15.trans (g1z13 (by omega) (by omega)), fun q => absurd ⟨⟨by omega, by omega⟩, ⟨by omega, by omega⟩, ⟨by omega, by omega⟩, by omega, by omega⟩ q⟩⟩
          · intro c16
            refine And.intro (True.intro) ?_
            exact ⟨_, rfl, (by first | exact ⟨by decide, by decide⟩ | omega), ⟨fun q => by exfalso; omega, fun _ => by omega⟩⟩
set_option maxRecDepth 8000 in
theorem ct_X_swap_dabbb {I : fH} {x1 : Int} {x2 : Int} (h0 : fB bsJ I) (ha1 : (0 ≤ x1 ∧ x1 ≤ 3)) (ha2 : (0 ≤ x2 ∧ x2 ≤ 99)) : fC ρ base n F xTc vwCl xTys D dA la gJ (fbz bsJ znJ (fKc wz_2a2bc) I) xm_18 [.inr (.inr (some 223)), .inl x1, .inl x2] I (fun I' r => ∃ z, r = some (.inl z) ∧ (0 ≤ z ∧ z ≤ 99) ∧ (I' = fupd I 223 x1.toNat x2) ∧ (z = I 223 x1.toNat)) := by
  have hW : fzs wz_2a2bc (fKc wz_2a2bc) := fKc_ok _
  refine f_meth (rb := rbJ) (J := []) 1 400 xG xin_18 x6_18 okJ (fB_self h0) ?_ ?_
  · exact fun q h => absurd h List.not_mem_nil
  · have hB0 := fB_self (zn := znJ) (K := fKc wz_2a2bc) h0
    refine fload1 rL_223_223_0_3_1_0 h0 hB0 ⟨by decide, by decide⟩ (by first | exact ⟨ha1.1, ha1.2⟩ | omega) ?_
    intro z1 lz1 uz1 qz1
    refine fstore1 rS_223_223_0_3_1_0 (fzs_sub (by decide +kernel) hW) ⟨by decide, by decide⟩ (by first | exact ⟨ha1.1, ha1.2⟩ | omega) (by first | exact ⟨ha2.1, ha2.2⟩ | omega) ?_
    intro IhB2 ehB2 hB2
    have t3 := fup_self ehB2
    refine And.intro (True.intro) ?_
    exact ⟨_, rfl, (by first | exact ⟨lz1, uz1⟩ | omega), ehB2, qz1⟩
set_option maxRecDepth 8000 in
theorem ct_X_takes_78459 {I : fH} {x1 : Int} {x2 : Int} (h0 : fB bsJ I) (ha1 : ((-2147483648) ≤ x1 ∧ x1 ≤ 2147483647)) (ha2 : ((-2147483648) ≤ x2 ∧ x2 ≤ 2147483647)) : fC ρ base n F xTc vwCl xTys D dA la gJ (fbz bsJ znJ (fKc wz_2a2bc) I) xm_186 [.inr (.inr (some 0)), .inl x1, .inl x2] I (fun I' r => ∃ z, r = some (.inl z) ∧ ((0 ≤ z ∧ z ≤ 99) ∨ z = (-1000000001)) ∧ (((0 ≤ x1 ∧ x1 ≤ 3 ∧ 0 ≤ x2 ∧ x2 ≤ 99) ∧ I' = fupd I 223 x1.toNat x2 ∧ z = I 223 x1.toNat) ∨ (¬ (0 ≤ x1 ∧ x1 ≤ 3 ∧ 0 ≤ x2 ∧ x2 ≤ 99) ∧ I' = I ∧ z = (-1000000001)))) := by
  have hW : fzs wz_2a2bc (fKc wz_2a2bc) := fKc_ok _
  refine f_meth (rb := rbJ) (J := []) 1 400 xG xin_186 x6_186 okJ (fB_self h0) ?_ ?_
  · exact fun q h => absurd h List.not_mem_nil
  · have hB0 := fB_self (zn := znJ) (K := fKc wz_2a2bc) h0
    refine Exists.intro xm_13 (And.intro mi_13 (And.intro ⟨rfl, rfl, rfl, rfl⟩ (And.intro True.intro ?_)))
    refine fcallp hB0 (ct_X_within_c27b1 (fBz h0 hB0) (by first | exact ⟨ha1.1, ha1.2⟩ | omega) (by first | exact ⟨by decide, by decide⟩ | omega) (by first | exact ⟨by decide, by decide⟩ | omega)) ?_
    rintro _ ⟨z1, rfl, hz1⟩
    refine And.intro (by omega) (And.intro ?_ ?_)
    · intro c2
      refine And.intro (True.intro) ?_
      exact ⟨_, rfl, by omega, (by first | exact Or.inl ⟨by omega, g0nil0, g1nil0⟩ | exact Or.inr ⟨by omega, rfl, by omega⟩)⟩
    · intro c3
      refine Exists.intro xm_13 (And.intro mi_13 (And.intro ⟨rfl, rfl, rfl, rfl⟩ (And.intro True.intro ?_)))
      refine fcallp hB0 (ct_X_within_c27b1 (fBz h0 hB0) (by first | exact ⟨ha2.1, ha2.2⟩ | omega) (by first | exact ⟨by decide, by decide⟩ | omega) (by first | exact ⟨by decide, by decide⟩ | omega)) ?_
      rintro _ ⟨z4, rfl, hz4⟩
      refine And.intro (by omega) (And.intro ?_ ?_)
      · intro c5
        refine And.intro (True.intro) ?_
        exact ⟨_, rfl, by omega, (by first | exact Or.inl ⟨by omega, g0nil0, g1nil0⟩ | exact Or.inr ⟨by omega, rfl, by omega⟩)⟩
      · intro c6
        refine And.intro ⟨rfl, by decide, by decide⟩ ?_
        refine And.intro ⟨rfl, by decide, by decide⟩ ?_
        refine Exists.intro xm_18 (And.intro mi_18 (And.intro ⟨rfl, rfl, rfl, rfl⟩ (And.intro True.intro ?_)))
        refine fcall _ h0 (fzs_sub (by decide +kernel) hW) hB0 (ct_X_swap_dabbb (fBz h0 hB0) (by first | exact ⟨Int.le_trans (by decide) (Int.le_trans (Int.le_refl _) hz1.1), Int.le_trans (Int.le_trans hz1.2 (Int.le_refl _)) (by decide)⟩ | omega) (by first | exact ⟨Int.le_trans (by decide) (Int.le_trans (Int.le_refl _) hz4.1), Int.le_trans (Int.le_trans hz4.2 (Int.le_refl _)) (by decide)⟩ | omega)) ?_
        rintro IhB8 _ hB8 fhB8 ⟨z7, rfl, hz7, g0z7, g1z7⟩
        refine And.intro (True.intro) ?_
        exact ⟨_, rfl, by omega, (by first | exact Or.inl ⟨by omega, g0z7, g1z7⟩ | exact Or.inr ⟨by omega, rfl, by omega⟩)⟩
set_option maxRecDepth 8000 in
theorem ct_M_put_e8087 {I : fH} {x1 : Int} {x2 : Int} (h0 : fB bsJ I) (ha1 : (4560 ≤ x1 ∧ x1 ≤ 4563)) (ha2 : (0 ≤ x2 ∧ x2 ≤ 99)) : fC ρ base n F xTc vwCl xTys D dA la gJ (fbz bsJ znJ (fKc wz_0a5ca) I) xm_242 [.inr (.inr (some 740)), .inl x1, .inl x2] I (fun I' r => ∃ z, r = some (.inl z) ∧ (0 ≤ z ∧ z ≤ 99) ∧ (I' = fupd I 741 x1.toNat x2) ∧ (z = I 741 x1.toNat)) := by
  have hW : fzs wz_0a5ca (fKc wz_0a5ca) := fKc_ok _
  refine f_meth (rb := rbJ) (J := []) 1 400 xG xin_242 x6_242 okJ (fB_self h0) ?_ ?_
  · exact fun q h => absurd h List.not_mem_nil
  · have hB0 := fB_self (zn := znJ) (K := fKc wz_0a5ca) h0
    refine And.intro ⟨rfl, by decide, by decide⟩ ?_
    refine fload1 rL_741_741_4560_4563_1_0 h0 hB0 ⟨by decide, by decide⟩ (by first | exact ⟨ha1.1, ha1.2⟩ | omega) ?_
    intro z1 lz1 uz1 qz1
    refine And.intro ⟨rfl, by decide, by decide⟩ ?_
    refine fstore1 rS_741_741_4560_4563_1_0 (fzs_sub (by decide +kernel) hW) ⟨by decide, by decide⟩ (by first | exact ⟨ha1.1, ha1.2⟩ | omega) (by first | exact ⟨ha2.1, ha2.2⟩ | omega) ?_
    intro IhB2 ehB2 hB2
    have t3 := fup_self ehB2
    refine And.intro (True.intro) ?_
    exact ⟨_, rfl, (by first | exact ⟨lz1, uz1⟩ | omega), ehB2, qz1⟩
set_option maxRecDepth 8000 in
theorem ct_M_takes_3be66 {I : fH} {x1 : Int} {x2 : Int} (h0 : fB bsJ I) (ha1 : ((-2147483648) ≤ x1 ∧ x1 ≤ 2147483647)) (ha2 : ((-2147483648) ≤ x2 ∧ x2 ≤ 2147483647)) : fC ρ base n F xTc vwCl xTys D dA la gJ (fbz bsJ znJ (fKc wz_0a5ca) I) xm_462 [.inr (.inr (some 740)), .inl x1, .inl x2] I (fun I' r => ∃ z, r = some (.inl z) ∧ ((0 ≤ z ∧ z ≤ 99) ∨ z = (-1000000001)) ∧ (((0 ≤ x1 ∧ x1 ≤ 3 ∧ 0 ≤ x2 ∧ x2 ≤ 99) ∧ I' = fupd I 741 (4560 + x1).toNat x2 ∧ z = I 741 (4560 + x1).toNat) ∨ (¬ (0 ≤ x1 ∧ x1 ≤ 3 ∧ 0 ≤ x2 ∧ x2 ≤ 99) ∧ I' = I ∧ z = (-1000000001)))) := by
  have hW : fzs wz_0a5ca (fKc wz_0a5ca) := fKc_ok _
  refine f_meth (rb := rbJ) (J := []) 1 400 xG xin_462 x6_462 okJ (fB_self h0) ?_ ?_
  · exact fun q h => absurd h List.not_mem_nil
  · have hB0 := fB_self (zn := znJ) (K := fKc wz_0a5ca) h0
    refine And.intro (by first | exact fi_ ha1.1 ha1.2 rfl | omega) ?_
    refine Exists.intro xm_238 (And.intro mi_238 (And.intro ⟨rfl, rfl, rfl, rfl⟩ (And.intro True.intro ?_)))
    refine fcallp hB0 (ct_M_isIn_27230 (fBz h0 hB0) (by first | exact ⟨ha1.1, ha1.2⟩ | omega) (by first | exact ⟨by decide, by decide⟩ | omega) (by first | exact ⟨by decide, by decide⟩ | omega)) ?_
    rintro _ ⟨z1, rfl, hz1⟩
    refine And.intro (by omega) (And.intro ?_ ?_)
    · intro c2
      refine And.intro (True.intro) ?_
      exact ⟨_, rfl, by omega, (by first | exact Or.inl ⟨by omega, g0nil0.trans (fupd_ix (by omega)), g1nil0.trans (fld_ix (by omega))⟩ | exact Or.inr ⟨by omega, rfl, by omega⟩)⟩
    · intro c3
      refine And.intro (by first | exact fi_ ha2.1 ha2.2 rfl | omega) ?_
      refine Exists.intro xm_238 (And.intro mi_238 (And.intro ⟨rfl, rfl, rfl, rfl⟩ (And.intro True.intro ?_)))
      refine fcallp hB0 (ct_M_isIn_27230 (fBz h0 hB0) (by first | exact ⟨ha2.1, ha2.2⟩ | omega) (by first | exact ⟨by decide, by decide⟩ | omega) (by first | exact ⟨by decide, by decide⟩ | omega)) ?_
      rintro _ ⟨z4, rfl, hz4⟩
      refine And.intro (by omega) (And.intro ?_ ?_)
      · intro c5
        refine And.intro (True.intro) ?_
        exact ⟨_, rfl, by omega, (by first | exact Or.inl ⟨by omega, g0nil0.trans (fupd_ix (by omega)), g1nil0.trans (fld_ix (by omega))⟩ | exact Or.inr ⟨by omega, rfl, by omega⟩)⟩
      · intro c6
        refine Exists.intro xm_242 (And.intro mi_242 (And.intro ⟨rfl, rfl, rfl, rfl⟩ (And.intro rfl ?_)))
        refine fcall _ h0 (fzs_sub (by decide +kernel) hW) hB0 (ct_M_put_e8087 (fBz h0 hB0) (by omega) (by first | exact ⟨Int.le_trans (by decide) (Int.le_trans (Int.le_refl _) hz4.1), Int.le_trans (Int.le_trans hz4.2 (Int.le_refl _)) (by decide)⟩ | omega)) ?_
        rintro IhB8 _ hB8 fhB8 ⟨z7, rfl, hz7, g0z7, g1z7⟩
        refine And.intro (True.intro) ?_
        exact ⟨_, rfl, by omega, (by first | exact Or.inl ⟨by omega, g0z7.trans (fupd_ix (by omega)), g1z7.trans (fld_ix (by omega))⟩ | exact Or.inr ⟨by omega, rfl, by omega⟩)⟩
set_option maxRecDepth 8000 in
theorem ct_X_swap_baf7c {I : fH} {x0 : Nat} {x1 : Int} {x2 : Int} (h0 : fB bsJ I) (ha0 : (225 ≤ x0 ∧ x0 ≤ 248)) (ha1 : (0 ≤ x1 ∧ x1 ≤ 3)) (ha2 : (0 ≤ x2 ∧ x2 ≤ 999)) : fC ρ base n F xTc vwCl xTys D dA la gJ (fbz bsJ znJ (fKc wz_e3030) I) xm_18 [.inr (.inr (some x0)), .inl x1, .inl x2] I (fun I' r => ∃ z, r = some (.inl z) ∧ (0 ≤ z ∧ z ≤ 999) ∧ (I' = fupd I x0 x1.toNat x2) ∧ (z = I x0 x1.toNat)) := by
  have hW : fzs wz_e3030 (fKc wz_e3030) := fKc_ok _
  refine f_meth (rb := rbJ) (J := []) 1 400 xG xin_18 x6_18 okJ (fB_self h0) ?_ ?_
  · exact fun q h => absurd h List.not_mem_nil
  · have hB0 := fB_self (zn := znJ) (K := fKc wz_e3030) h0
    refine fload rL_225_248_0_3_1_0 h0 hB0 (by omega) ?_
    intro z1 lz1 uz1 qz1
    refine fstore rS_225_248_0_3_1_0 (fzs_sub (by decide +kernel) hW) (by omega) (by first | exact ⟨ha2.1, ha2.2⟩ | omega) ?_
    intro IhB2 ehB2 hB2
    have t3 := fup_self ehB2
    refine And.intro (True.intro) ?_
    exact ⟨_, rfl, (by first | exact ⟨lz1, uz1⟩ | omega), ehB2, qz1⟩
set_option maxRecDepth 8000 in
theorem ct_X_harm_aee5c {I : fH} {x1 : Int} {x2 : Int} {x3 : Int} (h0 : fB bsJ I) (ha1 : ((-2147483648) ≤ x1 ∧ x1 ≤ 2147483647)) (ha2 : ((-2147483648) ≤ x2 ∧ x2 ≤ 2147483647)) (ha3 : ((-2147483648) ≤ x3 ∧ x3 ≤ 2147483647)) : fC ρ base n F xTc vwCl xTys D dA la gJ (fbz bsJ znJ (fKc wz_e3030) I) xm_187 [.inr (.inr (some 0)), .inl x1, .inl x2, .inl x3] I (fun I' r => ∃ z, r = some (.inl z) ∧ ((0 ≤ z ∧ z ≤ 999) ∨ z = (-1000000001)) ∧ (((0 ≤ x1 ∧ x1 ≤ 23 ∧ 0 ≤ x2 ∧ x2 ≤ 3 ∧ 0 ≤ x3 ∧ x3 ≤ 999) ∧ I' = fupd I (225 + x1.toNat) x2.toNat x3 ∧ z = I (225 + x1.toNat) x2.toNat) ∨ (¬ (0 ≤ x1 ∧ x1 ≤ 23 ∧ 0 ≤ x2 ∧ x2 ≤ 3 ∧ 0 ≤ x3 ∧ x3 ≤ 999) ∧ I' = I ∧ z = (-1000000001)))) := by
  have hW : fzs wz_e3030 (fKc wz_e3030) := fKc_ok _
  refine f_meth (rb := rbJ) (J := []) 1 400 xG xin_187 x6_187 okJ (fB_self h0) ?_ ?_
  · exact fun q h => absurd h List.not_mem_nil
  · have hB0 := fB_self (zn := znJ) (K := fKc wz_e3030) h0
    refine Exists.intro xm_13 (And.intro mi_13 (And.intro ⟨rfl, rfl, rfl, rfl⟩ (And.intro True.intro ?_)))
    refine fcallp hB0 (ct_X_within_c27b1 (fBz h0 hB0) (by first | exact ⟨ha1.1, ha1.2⟩ | omega) (by first | exact ⟨by decide, by decide⟩ | omega) (by first | exact ⟨by decide, by decide⟩ | omega)) ?_
    rintro _ ⟨z1, rfl, hz1⟩
    refine And.intro (by omega) (And.intro ?_ ?_)
    · intro c2
      refine And.intro (True.intro) ?_
      exact ⟨_, rfl, by omega, (by first | exact Or.inl ⟨by omega, g0nil0, g1nil0⟩ | exact Or.inr ⟨by omega, rfl, by omega⟩)⟩
    · intro c3
      refine Exists.intro xm_13 (And.intro mi_13 (And.intro ⟨rfl, rfl, rfl, rfl⟩ (And.intro True.intro ?_)))
      refine fcallp hB0 (ct_X_within_c27b1 (fBz h0 hB0) (by first | exact ⟨ha2.1, ha2.2⟩ | omega) (by first | exact ⟨by decide, by decide⟩ | omega) (by first | exact ⟨by decide, by decide⟩ | omega)) ?_
      rintro _ ⟨z4, rfl, hz4⟩
      refine And.intro (by omega) (And.intro ?_ ?_)
      · intro c5
        refine And.intro (True.intro) ?_
        exact ⟨_, rfl, by omega, (by first | exact Or.inl ⟨by omega, g0nil0, g1nil0⟩ | exact Or.inr ⟨by omega, rfl, by omega⟩)⟩
      · intro c6
        refine Exists.intro xm_13 (And.intro mi_13 (And.intro ⟨rfl, rfl, rfl, rfl⟩ (And.intro True.intro ?_)))
        refine fcallp hB0 (ct_X_within_c27b1 (fBz h0 hB0) (by first | exact ⟨ha3.1, ha3.2⟩ | omega) (by first | exact ⟨by decide, by decide⟩ | omega) (by first | exact ⟨by decide, by decide⟩ | omega)) ?_
        rintro _ ⟨z7, rfl, hz7⟩
        refine And.intro (by omega) (And.intro ?_ ?_)
        · intro c8
          refine And.intro ⟨rfl, by decide, by decide⟩ ?_
          refine And.intro ⟨rfl, by decide, by decide⟩ ?_
          refine And.intro ⟨rfl, by decide⟩ (And.intro (by first | exact ⟨Int.le_trans (by decide) (Int.le_trans (Int.le_refl _) hz1.1), Int.lt_of_le_of_lt (Int.le_trans hz1.2 (Int.le_refl _)) (by decide)⟩ | omega) ?_)
          refine Exists.intro xm_18 (And.intro mi_18 (And.intro ⟨rfl, rfl, rfl, rfl⟩ (And.intro True.intro ?_)))
          refine fcall _ h0 (fzs_sub (by decide +kernel) hW) hB0 (ct_X_swap_baf7c (fBz h0 hB0) (by omega) (by first | exact ⟨Int.le_trans (by decide) (Int.le_trans (Int.le_refl _) hz4.1), Int.le_trans (Int.le_trans hz4.2 (Int.le_refl _)) (by decide)⟩ | omega) (by first | exact ⟨Int.le_trans (by decide) (Int.le_trans (Int.le_refl _) hz7.1), Int.le_trans (Int.le_trans hz7.2 (Int.le_refl _)) (by decide)⟩ | omega)) ?_
          rintro IhB10 _ hB10 fhB10 ⟨z9, rfl, hz9, g0z9, g1z9⟩
          refine And.intro (True.intro) ?_
          exact ⟨_, rfl, by omega, (by first | exact Or.inl ⟨by omega, g0z9, g1z9⟩ | exact Or.inr ⟨by omega, rfl, by omega⟩)⟩
        · intro c11
          refine And.intro (True.intro) ?_
          exact ⟨_, rfl, by omega, (by first | exact Or.inl ⟨by omega, g0z9, g1z9⟩ | exact Or.inr ⟨by omega, rfl, by omega⟩)⟩
set_option maxRecDepth 8000 in
theorem ct_M_put_68ae5 {I : fH} {x1 : Int} {x2 : Int} (h0 : fB bsJ I) (ha1 : ((4570 ≤ x1 ∧ x1 ≤ 4665) ∧ (x1 - 4570) % 4 ≤ 3)) (ha2 : (0 ≤ x2 ∧ x2 ≤ 999)) : fC ρ base n F xTc vwCl xTys D dA la gJ (fbz bsJ znJ (fKc wz_ad4fa) I) xm_242 [.inr (.inr (some 740)), .inl x1, .inl x2] I (fun I' r => ∃ z, r = some (.inl z) ∧ (0 ≤ z ∧ z ≤ 999) ∧ (I' = fupd I 741 x1.toNat x2) ∧ (z = I 741 x1.toNat)) := by
  have hW : fzs wz_ad4fa (fKc wz_ad4fa) := fKc_ok _
  refine f_meth (rb := rbJ) (J := []) 1 400 xG xin_242 x6_242 okJ (fB_self h0) ?_ ?_
  · exact fun q h => absurd h List.not_mem_nil
  · have hB0 := fB_self (zn := znJ) (K := fKc wz_ad4fa) h0
    refine And.intro ⟨rfl, by decide, by decide⟩ ?_
    refine fload rL_741_741_4570_4665_4_3 h0 hB0 (by omega) ?_
    intro z1 lz1 uz1 qz1
    refine And.intro ⟨rfl, by decide, by decide⟩ ?_
    refine fstore rS_741_741_4570_4665_4_3 (fzs_sub (by decide +kernel) hW) (by omega) (by first | exact ⟨ha2.1, ha2.2⟩ | omega) ?_
    intro IhB2 ehB2 hB2
    have t3 := fup_self ehB2
    refine And.intro (True.intro) ?_
    exact ⟨_, rfl, (by first | exact ⟨lz1, uz1⟩ | omega), ehB2, qz1⟩
set_option maxRecDepth 8000 in
theorem ct_M_harm_249d0 {I : fH} {x1 : Int} {x2 : Int} {x3 : Int} (h0 : fB bsJ I) (ha1 : ((-2147483648) ≤ x1 ∧ x1 ≤ 2147483647)) (ha2 : ((-2147483648) ≤ x2 ∧ x2 ≤ 2147483647)) (ha3 : ((-2147483648) ≤ x3 ∧ x3 ≤ 2147483647)) : fC ρ base n F xTc vwCl xTys D dA la gJ (fbz bsJ znJ (fKc wz_ad4fa) I) xm_463 [.inr (.inr (some 740)), .inl x1, .inl x2, .inl x3] I (fun I' r => ∃ z, r = some (.inl z) ∧ ((0 ≤ z ∧ z ≤ 999) ∨ z = (-1000000001)) ∧ (((0 ≤ x1 ∧ x1 ≤ 23 ∧ 0 ≤ x2 ∧ x2 ≤ 3 ∧ 0 ≤ x3 ∧ x3 ≤ 999) ∧ I' = fupd I 741 (4570 + 4 * x1 + x2).toNat x3 ∧ z = I 741 (4570 + 4 * x1 + x2).toNat) ∨ (¬ (0 ≤ x1 ∧ x1 ≤ 23 ∧ 0 ≤ x2 ∧ x2 ≤ 3 ∧ 0 ≤ x3 ∧ x3 ≤ 999) ∧ I' = I ∧ z = (-1000000001)))) := by
  have hW : fzs wz_ad4fa (fKc wz_ad4fa) := fKc_ok _
  refine f_meth (rb := rbJ) (J := []) 1 400 xG xin_463 x6_463 okJ (fB_self h0) ?_ ?_
  · exact fun q h => absurd h List.not_mem_nil
  · have hB0 := fB_self (zn := znJ) (K := fKc wz_ad4fa) h0
    refine And.intro (by first | exact fi_ ha1.1 ha1.2 rfl | omega) ?_
    refine Exists.intro xm_238 (And.intro mi_238 (And.intro ⟨rfl, rfl, rfl, rfl⟩ (And.intro True.intro ?_)))
    refine fcallp hB0 (ct_M_isIn_27230 (fBz h0 hB0) (by first | exact ⟨ha1.1, ha1.2⟩ | omega) (by first | exact ⟨by decide, by decide⟩ | omega) (by first | exact ⟨by decide, by decide⟩ | omega)) ?_
    rintro _ ⟨z1, rfl, hz1⟩
    refine And.intro (by omega) (And.intro ?_ ?_)
    · intro c2
      refine And.intro (True.intro) ?_
      exact ⟨_, rfl, by omega, (by first | exact Or.inl ⟨by omega, g0nil0.trans (fupd_ix (by omega)), g1nil0.trans (fld_ix (by omega))⟩ | exact Or.inr ⟨by omega, rfl, by omega⟩)⟩
    · intro c3
      refine And.intro (by first | exact fi_ ha2.1 ha2.2 rfl | omega) ?_
      refine Exists.intro xm_238 (And.intro mi_238 (And.intro ⟨rfl, rfl, rfl, rfl⟩ (And.intro True.intro ?_)))
      refine fcallp hB0 (ct_M_isIn_27230 (fBz h0 hB0) (by first | exact ⟨ha2.1, ha2.2⟩ | omega) (by first | exact ⟨by decide, by decide⟩ | omega) (by first | exact ⟨by decide, by decide⟩ | omega)) ?_
      rintro _ ⟨z4, rfl, hz4⟩
      refine And.intro (by omega) (And.intro ?_ ?_)
      · intro c5
        refine And.intro (True.intro) ?_
        exact ⟨_, rfl, by omega, (by first | exact Or.inl ⟨by omega, g0nil0.trans (fupd_ix (by omega)), g1nil0.trans (fld_ix (by omega))⟩ | exact Or.inr ⟨by omega, rfl, by omega⟩)⟩
      · intro c6
        refine And.intro (by first | exact fi_ ha3.1 ha3.2 rfl | omega) ?_
        refine Exists.intro xm_238 (And.intro mi_238 (And.intro ⟨rfl, rfl, rfl, rfl⟩ (And.intro True.intro ?_)))
        refine fcallp hB0 (ct_M_isIn_27230 (fBz h0 hB0) (by first | exact ⟨ha3.1, ha3.2⟩ | omega) (by first | exact ⟨by decide, by decide⟩ | omega) (by first | exact ⟨by decide, by decide⟩ | omega)) ?_
        rintro _ ⟨z7, rfl, hz7⟩
        refine And.intro (by omega) (And.intro ?_ ?_)
        · intro c8
          refine And.intro (True.intro) ?_
          exact ⟨_, rfl, by omega, (by first | exact Or.inl ⟨by omega, g0nil0.trans (fupd_ix (by omega)), g1nil0.trans (fld_ix (by omega))⟩ | exact Or.inr ⟨by omega, rfl, by omega⟩)⟩
        · intro c9
          refine Exists.intro xm_242 (And.intro mi_242 (And.intro ⟨rfl, rfl, rfl, rfl⟩ (And.intro rfl ?_)))
          refine fcall _ h0 (fzs_sub (by decide +kernel) hW) hB0 (ct_M_put_68ae5 (fBz h0 hB0) (by omega) (by first | exact ⟨Int.le_trans (by decide) (Int.le_trans (Int.le_refl _) hz7.1), Int.le_trans (Int.le_trans hz7.2 (Int.le_refl _)) (by decide)⟩ | omega)) ?_
          rintro IhB11 _ hB11 fhB11 ⟨z10, rfl, hz10, g0z10, g1z10⟩
          refine And.intro (True.intro) ?_
          exact ⟨_, rfl, by omega, (by first | exact Or.inl ⟨by omega, g0z10.trans (fupd_ix (by omega)), g1z10.trans (fld_ix (by omega))⟩ | exact Or.inr ⟨by omega, rfl, by omega⟩)⟩
abbrev jc_Dark_choose_7e957_10 (x2 : Int) (x3 : Int) (I0 : fH) : Nat → fL → List fV → fH → Prop := fun m lv st I => ∃ (y2 : Int) (y3 : Int) (y4 : Int) (y5 : Int) (y7 : Int), lv = [(0, .inr (.inr (some 732))), (1, .inr (.inr (some 211))), (2, .inl y2), (3, .inl y3), (4, .inl y4), (5, .inr (.inl y5)), (7, .inl y7)] ∧ st = [] ∧ (((0 ≤ y2 ∧ y2 ≤ 23) ∧ (0 ≤ y3 ∧ y3 ≤ 300) ∧ ((-2147483648) ≤ y4 ∧ y4 ≤ 2147483647) ∧ ((-9223372036854775808) ≤ y5 ∧ y5 ≤ 9223372036854775807) ∧ (0 ≤ y7 ∧ y7 ≤ 4) ∧ (y2 = x2) ∧ (y3 = x3)) ∧ (I = I0) ∧ ((y4, y5) = nf (dkF (I0 223) (I0 (225 + x2.toNat)) (fun j => (I0 733 j, I0 734 j)) x3) (-1000000005, 0) y7.toNat)) ∧ m = (1 + 1 * (4 - y7) : Int).toNat
set_option maxRecDepth 8000 in
theorem ct_Dark_choose_7e957 {I : fH} {x2 : Int} {x3 : Int} (h0 : fB bsJ I) (ha2 : (0 ≤ x2 ∧ x2 ≤ 23)) (ha3 : (0 ≤ x3 ∧ x3 ≤ 300)) (hp0 : ∀ j : Nat, (j : Int) ≤ x3 → (I 733 j = -1000000005 ∨ (0 ≤ I 733 j ∧ I 733 j ≤ 30000)) ∧ 0 ≤ I 734 j ∧ I 734 j < 70368744177664) : fC ρ base n F xTc vwCl xTys D dA la gJ (fbz bsJ znJ (fKc wz_61c55) I) xm_190 [.inr (.inr (some 732)), .inr (.inr (some 211)), .inl x2, .inl x3] I (fun I' r => r = none ∧ True ∧ (I' = fupd (fupd I 733 x3.toNat (nf (dkF (I 223) (I (225 + x2.toNat)) (fun j => (I 733 j, I 734 j)) x3) (-1000000005, 0) 4).1) 734 x3.toNat (nf (dkF (I 223) (I (225 + x2.toNat)) (fun j => (I 733 j, I 734 j)) x3) (-1000000005, 0) 4).2)) := by
  have hW : fzs wz_61c55 (fKc wz_61c55) := fKc_ok _
  refine f_meth (rb := rbJ) (J := [(10, (jc_Dark_choose_7e957_10 x2 x3 I))]) 6 400 xG xin_190 x6_190 okJ (fB_self h0) ?_ ?_
  · refine List.forall_mem_cons.mpr ⟨?_, fun q h => absurd h List.not_mem_nil⟩
    · rintro m _ _ I1 hB1 ⟨y2, y3, y4, y5, y7, rfl, rfl, ⟨hb, hx0, hx1⟩, hm⟩
      have ey3 : x3 = y3 := by omega
      subst ey3
      have ey2 : x2 = y2 := by omega
      subst ey2
      refine And.intro (And.intro (by first | exact fi_ hb.2.2.2.2.1.1 hb.2.2.2.2.1.2 rfl | omega) (by first | exact ⟨by decide, by decide⟩ | omega)) (And.intro ?_ ?_)
      · intro c1
        refine And.intro ⟨rfl, by decide, by decide⟩ ?_
        refine fstore1 rS_733_733_0_300_1_0 (fzs_sub (by decide +kernel) hW) ⟨by decide, by decide⟩ (by first | exact ⟨hb.2.1.1, hb.2.1.2⟩ | omega) (by first | exact ⟨hb.2.2.1.1, hb.2.2.1.2⟩ | omega) ?_
        intro IhB2 ehB2 hB2
        have t3 := fup_self ehB2
        refine And.intro ⟨rfl, by decide, by decide⟩ ?_
        refine fstore1 rS_734_734_0_300_1_0 (fzs_sub (by decide +kernel) hW) ⟨by decide, by decide⟩ (by first | exact ⟨hb.2.1.1, hb.2.1.2⟩ | omega) (by first | exact ⟨hb.2.2.2.1.1, hb.2.2.2.1.2⟩ | omega) ?_
        intro IhB4 ehB4 hB4
        have t5 := fup_self ehB4
        exact ⟨rfl, True.intro, (by have q := hx1; rw [show y7.toNat = 4 by omega] at q; rw [ehB4, ehB2, hx0, ← q])⟩
      · intro c6
        refine And.intro ⟨rfl, by decide, by decide⟩ ?_
        refine fload1 rL_223_223_0_3_1_0 h0 hB1 ⟨by decide, by decide⟩ (by first | exact ⟨hb.2.2.2.2.1.1, Int.le_trans (Int.le_sub_one_of_lt (Int.lt_of_lt_of_le c6 (Int.le_refl _))) (by decide)⟩ | omega) ?_
        intro z7 lz7 uz7 qz7
        rw [hx0] at qz7
        refine And.intro (by omega) (And.intro ?_ ?_)
        · intro c8
          exact fcutJ (I := I1) (j := (jc_Dark_choose_7e957_10 x2 x3 I)) (lv' := [(0, .inr (.inr (some 732))), (1, .inr (.inr (some 211))), (2, .inl _), (3, .inl _), (4, .inl _), (5, .inr (.inl _)), (7, .inl _)]) (And.intro rfl (And.intro rfl (And.intro rfl (And.intro rfl (And.intro rfl (And.intro rfl (And.intro rfl True.intro))))))) ⟨_, _, _, _, _, rfl, rfl, ⟨by omega, hx0, (by first | exact dk_yes hx1 (by omega) (by omega) qz7 qnil0 qnil0 qnil0 (by omega) (shl_or (by omega) (by omega) (by omega) enil0 enil0) (by omega) | exact dk_n1 hx1 (by omega) (by omega) qz7 (by omega) | exact dk_n2 hx1 (by omega) (by omega) qz7 qnil0 (by omega) | exact dk_n3 hx1 (by omega) (by omega) qz7 qnil0 qnil0 (by omega))⟩, rfl⟩ (by omega)
        · intro c9
          refine And.intro ⟨rfl, by decide, by decide⟩ ?_
          refine fload rL_733_733_0_300_1_0 h0 hB1 (by omega) ?_
          intro z10 lz10 uz10 qz10
          rw [hx0] at qz10
          have w38 := hp0 (x3 - z7).toNat (by omega)
          refine And.intro (And.intro (by first | exact fi_ lz10 uz10 rfl | omega) (by first | exact ⟨by decide, by decide⟩ | omega)) (And.intro ?_ ?_)
          · intro c11
            exact fcutJ (I := I1) (j := (jc_Dark_choose_7e957_10 x2 x3 I)) (lv' := [(0, .inr (.inr (some 732))), (1, .inr (.inr (some 211))), (2, .inl _), (3, .inl _), (4, .inl _), (5, .inr (.inl _)), (7, .inl _)]) (And.intro rfl (And.intro rfl (And.intro rfl (And.intro rfl (And.intro rfl (And.intro rfl (And.intro rfl True.intro))))))) ⟨_, _, _, _, _, rfl, rfl, ⟨by omega, hx0, (by first | exact dk_yes hx1 (by omega) (by omega) qz7 qnil0 qnil0 qnil0 (by omega) (shl_or (by omega) (by omega) (by omega) enil0 enil0) (by omega) | exact dk_n1 hx1 (by omega) (by omega) qz7 (by omega) | exact dk_n2 hx1 (by omega) (by omega) qz7 qz10 (by omega) | exact dk_n3 hx1 (by omega) (by omega) qz7 qnil0 qnil0 (by omega))⟩, rfl⟩ (by omega)
          · intro c12
            refine And.intro ⟨rfl, by decide, by decide⟩ ?_
            refine fload rL_733_733_0_300_1_0 h0 hB1 (by omega) ?_
            intro z13 lz13 uz13 qz13
            rw [hx0] at qz13
            refine And.intro ⟨rfl, by decide, by decide⟩ ?_
            refine And.intro ⟨rfl, by decide⟩ (And.intro (by first | exact ⟨hb.1.1, Int.lt_of_le_of_lt hb.1.2 (by decide)⟩ | omega) ?_)
            refine fload rL_225_248_0_3_1_0 h0 hB1 (by omega) ?_
            intro z14 lz14 uz14 qz14
            rw [hx0] at qz14
            intro z15 hz15 ez15 bz15
            try replace bz15 := bz15 (by omega)
            refine And.intro (And.intro (by first | exact fi_ hb.2.2.1.1 hb.2.2.1.2 rfl | omega) (by first | exact ⟨by decide, by decide⟩ | omega)) (And.intro ?_ ?_)
            · intro c16
              refine And.intro ⟨rfl, by decide, by decide⟩ ?_
              refine fload rL_734_734_0_300_1_0 h0 hB1 (by omega) ?_
              intro z17 lz17 uz17 qz17
              rw [hx0] at qz17
              intro z18 hz18 ez18
              refine And.intro (by first | exact fi_ hb.2.2.2.2.1.1 (Int.le_sub_one_of_lt (Int.lt_of_lt_of_le c6 (Int.le_refl _))) rfl | omega) ?_
              intro z19 hz19 ez19
              exact fcutJ (I := I1) (j := (jc_Dark_choose_7e957_10 x2 x3 I)) (lv' := [(0, .inr (.inr (some 732))), (1, .inr (.inr (some 211))), (2, .inl _), (3, .inl _), (4, .inl _), (5, .inr (.inl _)), (7, .inl _)]) (And.intro rfl (And.intro rfl (And.intro rfl (And.intro rfl (And.intro rfl (And.intro rfl (And.intro rfl True.intro))))))) ⟨_, _, _, _, _, rfl, rfl, ⟨by omega, hx0, (by first | exact dk_yes hx1 (by omega) (by omega) qz7 qz13 qz14 qz17 (by omega) (shl_or (by omega) (by omega) (by omega) ez18 ez19) (by omega) | exact dk_n1 hx1 (by omega) (by omega) qz7 (by omega) | exact dk_n2 hx1 (by omega) (by omega) qz7 qz10 (by omega) | exact dk_n3 hx1 (by omega) (by omega) qz7 qz13 qz14 (by omega))⟩, rfl⟩ (by omega)
            · intro c20
              refine And.intro (by omega) (And.intro ?_ ?_)
              · intro c21
                exact fcutJ (I := I1) (j := (jc_Dark_choose_7e957_10 x2 x3 I)) (lv' := [(0, .inr (.inr (some 732))), (1, .inr (.inr (some 211))), (2, .inl _), (3, .inl _), (4, .inl _), (5, .inr (.inl _)), (7, .inl _)]) (And.intro rfl (And.intro rfl (And.intro rfl (And.intro rfl (And.intro rfl (And.intro rfl (And.intro rfl True.intro))))))) ⟨_, _, _, _, _, rfl, rfl, ⟨by omega, hx0, (by first | exact dk_yes hx1 (by omega) (by omega) qz7 qz13 qz14 qz17 (by omega) (shl_or (by omega) (by omega) (by omega) ez18 ez19) (by omega) | exact dk_n1 hx1 (by omega) (by omega) qz7 (by omega) | exact dk_n2 hx1 (by omega) (by omega) qz7 qz10 (by omega) | exact dk_n3 hx1 (by omega) (by omega) qz7 qz13 qz14 (by omega))⟩, rfl⟩ (by omega)
              · intro c22
                refine And.intro ⟨rfl, by decide, by decide⟩ ?_
                refine fload rL_734_734_0_300_1_0 h0 hB1 (by omega) ?_
                intro z23 lz23 uz23 qz23
                rw [hx0] at qz23
                intro z24 hz24 ez24
                refine And.intro (by first | exact fi_ hb.2.2.2.2.1.1 (Int.le_sub_one_of_lt (Int.lt_of_lt_of_le c6 (Int.le_refl _))) rfl | omega) ?_
                intro z25 hz25 ez25
                exact fcutJ (I := I1) (j := (jc_Dark_choose_7e957_10 x2 x3 I)) (lv' := [(0, .inr (.inr (some 732))), (1, .inr (.inr (some 211))), (2, .inl _), (3, .inl _), (4, .inl _), (5, .inr (.inl _)), (7, .inl _)]) (And.intro rfl (And.intro rfl (And.intro rfl (And.intro rfl (And.intro rfl (And.intro rfl (And.intro rfl True.intro))))))) ⟨_, _, _, _, _, rfl, rfl, ⟨by omega, hx0, (by first | exact dk_yes hx1 (by omega) (by omega) qz7 qz13 qz14 qz23 (by omega) (shl_or (by omega) (by omega) (by omega) ez24 ez25) (by omega) | exact dk_n1 hx1 (by omega) (by omega) qz7 (by omega) | exact dk_n2 hx1 (by omega) (by omega) qz7 qz10 (by omega) | exact dk_n3 hx1 (by omega) (by omega) qz7 qz13 qz14 (by omega))⟩, rfl⟩ (by omega)
  · have hB0 := fB_self (zn := znJ) (K := fKc wz_61c55) h0
    exact fcutJ (I := I) (j := (jc_Dark_choose_7e957_10 x2 x3 I)) (lv' := [(0, .inr (.inr (some 732))), (1, .inr (.inr (some 211))), (2, .inl _), (3, .inl _), (4, .inl _), (5, .inr (.inl _)), (7, .inl _)]) (And.intro rfl (And.intro rfl (And.intro rfl (And.intro rfl (And.intro rfl (And.intro rfl (And.intro rfl True.intro))))))) ⟨_, _, _, _, _, rfl, rfl, ⟨by omega, rfl, rfl⟩, rfl⟩ (by omega)
abbrev jc_Dark_leastHarm_e9db9_3 (x2 : Int) (x3 : Int) : Nat → fL → List fV → fH → Prop := fun m lv st I => ∃ (y2 : Int) (y3 : Int) (y4 : Int), lv = [(0, .inr (.inr (some 732))), (1, .inr (.inr (some 211))), (2, .inl y2), (3, .inl y3), (4, .inl y4)] ∧ st = [] ∧ (((1 ≤ y2 ∧ y2 ≤ 24) ∧ (0 ≤ y3 ∧ y3 ≤ 300) ∧ (0 ≤ y4 ∧ y4 ≤ 301) ∧ (y2 = x2) ∧ (y3 = x3)) ∧ (∀ j : Nat, (j : Int) < y4 → I 733 j = 0 ∧ I 734 j = 0)) ∧ m = (7576 + 1 * (301 - y4) : Int).toNat
abbrev jc_Dark_leastHarm_e9db9_36 (x2 : Int) (x3 : Int) (I0 : fH) : Nat → fL → List fV → fH → Prop := fun m lv st I => ∃ (y3 : Int) (y4 : Int), lv = [(0, .inr (.inr (some 732))), (1, .inr (.inr (some 211))), (3, .inl y3), (4, .inl y4)] ∧ st = [] ∧ (((0 ≤ y3 ∧ y3 ≤ 300) ∧ ((-1) ≤ y4 ∧ y4 ≤ 23) ∧ (y3 = x3) ∧ (y4 < x2)) ∧ (∀ b : Nat, (b : Int) ≤ x3 → (I 733 b, I 734 b) = dkP (I0 223) (fun i => I0 (225 + i)) x2.toNat (x2 - 1 - y4).toNat b)) ∧ m = (303 + 303 * (y4 - (-1)) : Int).toNat
abbrev jc_Dark_leastHarm_e9db9_44 (x2 : Int) (x3 : Int) (I0 : fH) : Nat → fL → List fV → fH → Prop := fun m lv st I => ∃ (y3 : Int) (y4 : Int) (y5 : Int), lv = [(0, .inr (.inr (some 732))), (1, .inr (.inr (some 211))), (3, .inl y3), (4, .inl y4), (5, .inl y5)] ∧ st = [] ∧ (((0 ≤ y3 ∧ y3 ≤ 300) ∧ (0 ≤ y4 ∧ y4 ≤ 23) ∧ ((-1) ≤ y5 ∧ y5 ≤ 300) ∧ (y3 = x3) ∧ (y4 < x2)) ∧ (∀ b : Nat, (b : Int) ≤ x3 → y5 < (b : Int) → (I 733 b, I 734 b) = dkP (I0 223) (fun i => I0 (225 + i)) x2.toNat (x2 - y4).toNat b) ∧ (∀ b : Nat, (b : Int) ≤ y5 → (I 733 b, I 734 b) = dkP (I0 223) (fun i => I0 (225 + i)) x2.toNat (x2 - 1 - y4).toNat b)) ∧ m = (1 + 303 * (y4 - (-1)) + 1 * (y5 - (-1)) : Int).toNat
set_option maxRecDepth 8000 in
theorem ct_Dark_leastHarm_e9db9 {I : fH} {x2 : Int} {x3 : Int} (h0 : fB bsJ I) (ha2 : (1 ≤ x2 ∧ x2 ≤ 24)) (ha3 : (0 ≤ x3 ∧ x3 ≤ 300)) : fC ρ base n F xTc vwCl xTys D dA la gJ (fbz bsJ znJ (fKc wz_61c55) I) xm_189 [.inr (.inr (some 732)), .inr (.inr (some 211)), .inl x2, .inl x3] I (fun I' r => ∃ z, r = some (.inl z) ∧ ((-2147483648) ≤ z ∧ z ≤ 2147483647) ∧ ((I' 733 x3.toNat, I' 734 x3.toNat) = dkP (I 223) (fun i => I (225 + i)) x2.toNat x2.toNat x3.toNat) ∧ (z = I' 733 x3.toNat)) := by
  have hW : fzs wz_61c55 (fKc wz_61c55) := fKc_ok _
  refine f_meth (rb := rbJ) (J := [(3, (jc_Dark_leastHarm_e9db9_3 x2 x3)), (36, (jc_Dark_leastHarm_e9db9_36 x2 x3 I)), (44, (jc_Dark_leastHarm_e9db9_44 x2 x3 I))]) 7878 400 xG xin_189 x6_189 okJ (fB_self h0) ?_ ?_
  · refine List.forall_mem_cons.mpr ⟨?_, List.forall_mem_cons.mpr ⟨?_, List.forall_mem_cons.mpr ⟨?_, fun q h => absurd h List.not_mem_nil⟩⟩⟩
    · rintro m _ _ I1 hB1 ⟨y2, y3, y4, rfl, rfl, ⟨hb, hx0⟩, hm⟩
      refine And.intro (And.intro (by first | exact fi_ hb.2.2.1.1 hb.2.2.1.2 rfl | omega) (by first | exact fi_ hb.2.1.1 hb.2.1.2 rfl | omega)) (And.intro ?_ ?_)
      · intro c1
        exact fcutJ (I := I1) (j := (jc_Dark_leastHarm_e9db9_36 x2 x3 I)) (lv' := [(0, .inr (.inr (some 732))), (1, .inr (.inr (some 211))), (3, .inl _), (4, .inl _)]) (And.intro rfl (And.intro rfl (And.intro rfl (And.intro rfl True.intro)))) ⟨_, _, rfl, rfl, ⟨by omega, (fun b h => dk_k0 (by omega) (hx0 b (by omega)).1 (hx0 b (by omega)).2)⟩, rfl⟩ (by omega)
      · intro c2
        refine And.intro ⟨rfl, by decide, by decide⟩ ?_
        refine fstore1 rS_733_733_0_300_1_0 (fzs_sub (by decide +kernel) hW) ⟨by decide, by decide⟩ (by first | exact ⟨hb.2.2.1.1, Int.le_trans (Int.le_trans c2 hb.2.1.2) (by decide)⟩ | omega) (by first | exact ⟨by decide, by decide⟩ | omega) ?_
        intro IhB3 ehB3 hB3
        have t4 := fup_self ehB3
        refine And.intro ⟨rfl, by decide, by decide⟩ ?_
        refine fstore1 rS_734_734_0_300_1_0 (fzs_sub (by decide +kernel) hW) ⟨by decide, by decide⟩ (by first | exact ⟨hb.2.2.1.1, Int.le_trans (Int.le_trans c2 hb.2.1.2) (by decide)⟩ | omega) (by first | exact ⟨by decide, by decide⟩ | omega) ?_
        intro IhB5 ehB5 hB5
        have t6 := fup_self ehB5
        exact fcutJ (I := IhB5) (j := (jc_Dark_leastHarm_e9db9_3 x2 x3)) (lv' := [(0, .inr (.inr (some 732))), (1, .inr (.inr (some 211))), (2, .inl _), (3, .inl _), (4, .inl _)]) (And.intro rfl (And.intro rfl (And.intro rfl (And.intro rfl (And.intro rfl True.intro))))) ⟨_, _, _, rfl, rfl, ⟨by omega, (fun j h => if ej : j = y4.toNat then (by rw [ej]; exact ⟨(fup_other ehB5 733 _ (Or.inl (by decide))).trans (fup_self ehB3), fup_self ehB5⟩) else ⟨(fup_other ehB5 733 j (Or.inl (by decide))).trans ((fup_other ehB3 733 j (Or.inr ej)).trans (hx0 j (by omega)).1), (fup_other ehB5 734 j (Or.inr ej)).trans ((fup_other ehB3 734 j (Or.inl (by decide))).trans (hx0 j (by omega)).2)⟩)⟩, rfl⟩ (by omega)
    · rintro m _ _ I1 hB1 ⟨y3, y4, rfl, rfl, ⟨hb, hx0⟩, hm⟩
      refine And.intro (by first | exact fi_ hb.2.1.1 hb.2.1.2 rfl | omega) (And.intro ?_ ?_)
      · intro c7
        refine And.intro ⟨rfl, by decide, by decide⟩ ?_
        refine fload1 rL_733_733_0_300_1_0 h0 hB1 ⟨by decide, by decide⟩ (by first | exact ⟨hb.1.1, hb.1.2⟩ | omega) ?_
        intro z8 lz8 uz8 qz8
        refine And.intro (True.intro) ?_
        exact ⟨_, rfl, (by first | exact ⟨lz8, uz8⟩ | omega), (dk_cast (hx0 x3.toNat (by omega)) (by omega)), (fld_at qz8 x3.toNat (by omega))⟩
      · intro c9
        exact fcutJ (I := I1) (j := (jc_Dark_leastHarm_e9db9_44 x2 x3 I)) (lv' := [(0, .inr (.inr (some 732))), (1, .inr (.inr (some 211))), (3, .inl _), (4, .inl _), (5, .inl _)]) (And.intro rfl (And.intro rfl (And.intro rfl (And.intro rfl (And.intro rfl True.intro))))) ⟨_, _, _, rfl, rfl, ⟨by omega, (fun b h h2 => absurd h2 (by omega)), (fun b h => hx0 b (by omega))⟩, rfl⟩ (by omega)
    · rintro m _ _ I1 hB1 ⟨y3, y4, y5, rfl, rfl, ⟨hb, hx0, hx1⟩, hm⟩
      refine And.intro (by first | exact fi_ hb.2.2.1.1 hb.2.2.1.2 rfl | omega) (And.intro ?_ ?_)
      · intro c10
        exact fcutJ (I := I1) (j := (jc_Dark_leastHarm_e9db9_36 x2 x3 I)) (lv' := [(0, .inr (.inr (some 732))), (1, .inr (.inr (some 211))), (3, .inl _), (4, .inl _)]) (And.intro rfl (And.intro rfl (And.intro rfl (And.intro rfl True.intro)))) ⟨_, _, rfl, rfl, ⟨by omega, (fun b h => dk_cast (hx0 b h (by omega)) (by omega))⟩, rfl⟩ (by omega)
      · intro c11
        refine Exists.intro xm_190 (And.intro mi_190 (And.intro ⟨rfl, rfl, rfl, rfl⟩ (And.intro rfl ?_)))
        refine fcall _ h0 (fzs_sub (by decide +kernel) hW) hB1 (ct_Dark_choose_7e957 (fBz h0 hB1) (by first | exact ⟨hb.2.1.1, hb.2.1.2⟩ | omega) (by first | exact ⟨Int.le_trans (by decide) (Int.le_trans (Int.le_refl _) c11), hb.2.2.1.2⟩ | omega) (fun j hj => ch_pre (hx1 j hj) (dk_bd (by omega) (fun i l hi hl => by have q := (frL_at rL_225_248_0_3_1_0 h0 (a := 225 + i) (i := (l : Int)) (by omega)).2; rw [Int.toNat_natCast] at q; exact q) _ _) (by omega))) ?_
        rintro IhB13 _ hB13 fhB13 ⟨rfl, hz12, g0z12⟩
        exact fcutJ (I := IhB13) (j := (jc_Dark_leastHarm_e9db9_44 x2 x3 I)) (lv' := [(0, .inr (.inr (some 732))), (1, .inr (.inr (some 211))), (3, .inl _), (4, .inl _), (5, .inl _)]) (And.intro rfl (And.intro rfl (And.intro rfl (And.intro rfl (And.intro rfl True.intro))))) ⟨_, _, _, rfl, rfl, ⟨by omega, (fun b h h2 => if eb : b = y5.toNat then (by rw [eb]; exact (ch_eq g0z12).trans (dk_next (fun l hl => fFr_at (fFr_of hB1) 223 (by decide +kernel) rfl l) (fun l hl => (fFr_rows (fFr_of hB1) (r := 225) (m := 24) (len := 4) (by decide +kernel) y4.toNat l (by omega) hl).trans (by rw [show x2.toNat - 1 - (x2 - 1 - y4).toNat = y4.toNat by omega])) (fun t t1 t2 => hx1 t.toNat (by omega)) (fun l hl => by have q := (frL_at rL_223_223_0_3_1_0 h0 (a := 223) (i := (l : Int)) (by omega)).2.1; rw [Int.toNat_natCast] at q; exact q) (by omega) (by omega))) else (ch_ne g0z12 eb).trans (hx0 b h (by omega))), (fun b h => (ch_ne g0z12 (by omega)).trans (hx1 b (by omega)))⟩, rfl⟩ (by omega)
  · have hB0 := fB_self (zn := znJ) (K := fKc wz_61c55) h0
    exact fcutJ (I := I) (j := (jc_Dark_leastHarm_e9db9_3 x2 x3)) (lv' := [(0, .inr (.inr (some 732))), (1, .inr (.inr (some 211))), (2, .inl _), (3, .inl _), (4, .inl _)]) (And.intro rfl (And.intro rfl (And.intro rfl (And.intro rfl (And.intro rfl True.intro))))) ⟨_, _, _, rfl, rfl, ⟨by omega, (fun j h => absurd h (by omega))⟩, rfl⟩ (by omega)
set_option maxRecDepth 8000 in
theorem ct_X_dark_f8010 {I : fH} {x1 : Int} {x2 : Int} (h0 : fB bsJ I) (ha1 : ((-2147483648) ≤ x1 ∧ x1 ≤ 2147483647)) (ha2 : ((-2147483648) ≤ x2 ∧ x2 ≤ 2147483647)) : fC ρ base n F xTc vwCl xTys D dA la gJ (fbz bsJ znJ (fKc wz_61c55) I) xm_188 [.inr (.inr (some 0)), .inl x1, .inl x2] I (fun _ r => ∃ z, r = some (.inl z) ∧ ((-2147483648) ≤ z ∧ z ≤ 2147483647) ∧ (((1 ≤ x1 ∧ x1 ≤ 24 ∧ 0 ≤ x2 ∧ x2 ≤ 300) ∧ z = (dkP (I 223) (fun i => I (225 + i)) x1.toNat x1.toNat x2.toNat).1) ∨ (¬ (1 ≤ x1 ∧ x1 ≤ 24 ∧ 0 ≤ x2 ∧ x2 ≤ 300) ∧ z = (-1000000001)))) := by
  have hW : fzs wz_61c55 (fKc wz_61c55) := fKc_ok _
  refine f_meth (rb := rbJ) (J := []) 1 400 xG xin_188 x6_188 okJ (fB_self h0) ?_ ?_
  · exact fun q h => absurd h List.not_mem_nil
  · have hB0 := fB_self (zn := znJ) (K := fKc wz_61c55) h0
    refine Exists.intro xm_13 (And.intro mi_13 (And.intro ⟨rfl, rfl, rfl, rfl⟩ (And.intro True.intro ?_)))
    refine fcallp hB0 (ct_X_within_c27b1 (fBz h0 hB0) (by first | exact ⟨ha1.1, ha1.2⟩ | omega) (by first | exact ⟨by decide, by decide⟩ | omega) (by first | exact ⟨by decide, by decide⟩ | omega)) ?_
    rintro _ ⟨z1, rfl, hz1⟩
    refine And.intro (by omega) (And.intro ?_ ?_)
    · intro c2
      refine And.intro (True.intro) ?_
      exact ⟨_, rfl, (by first | exact ⟨by decide, by decide⟩ | omega), (by first | exact Or.inl ⟨by omega, g1nil0.trans (congrArg Prod.fst g0nil0)⟩ | exact Or.inr ⟨by omega, by omega⟩)⟩
    · intro c3
      refine Exists.intro xm_13 (And.intro mi_13 (And.intro ⟨rfl, rfl, rfl, rfl⟩ (And.intro True.intro ?_)))
      refine fcallp hB0 (ct_X_within_c27b1 (fBz h0 hB0) (by first | exact ⟨ha2.1, ha2.2⟩ | omega) (by first | exact ⟨by decide, by decide⟩ | omega) (by first | exact ⟨by decide, by decide⟩ | omega)) ?_
      rintro _ ⟨z4, rfl, hz4⟩
      refine And.intro (by omega) (And.intro ?_ ?_)
      · intro c5
        refine And.intro ⟨rfl, by decide, by decide⟩ ?_
        refine And.intro ⟨rfl, by decide, by decide⟩ ?_
        refine Exists.intro xm_189 (And.intro mi_189 (And.intro ⟨rfl, rfl, rfl, rfl⟩ (And.intro rfl ?_)))
        refine fcall _ h0 (fzs_sub (by decide +kernel) hW) hB0 (ct_Dark_leastHarm_e9db9 (fBz h0 hB0) (by first | exact ⟨Int.le_trans (by decide) (Int.le_trans (Int.le_refl _) hz1.1), Int.le_trans (Int.le_trans hz1.2 (Int.le_refl _)) (by decide)⟩ | omega) (by first | exact ⟨Int.le_trans (by decide) (Int.le_trans (Int.le_refl _) hz4.1), Int.le_trans (Int.le_trans hz4.2 (Int.le_refl _)) (by decide)⟩ | omega)) ?_
        rintro IhB7 _ hB7 fhB7 ⟨z6, rfl, hz6, g0z6, g1z6⟩
        refine And.intro (True.intro) ?_
        exact ⟨_, rfl, (by first | exact ⟨hz6.1, hz6.2⟩ | omega), (by first | exact Or.inl ⟨by omega, g1z6.trans (congrArg Prod.fst g0z6)⟩ | exact Or.inr ⟨by omega, by omega⟩)⟩
      · intro c8
        refine And.intro (True.intro) ?_
        exact ⟨_, rfl, (by first | exact ⟨by decide, by decide⟩ | omega), (by first | exact Or.inl ⟨by omega, g1z6.trans (congrArg Prod.fst g0z6)⟩ | exact Or.inr ⟨by omega, by omega⟩)⟩
set_option maxRecDepth 8000 in
theorem ct_M_harmBy_4eb55 {I : fH} {x1 : Int} {x2 : Int} {x3 : Int} (h0 : fB bsJ I) (ha1 : (0 ≤ x1 ∧ x1 ≤ 23)) (ha2 : (0 ≤ x2 ∧ x2 ≤ 300)) (ha3 : (0 ≤ x3 ∧ x3 ≤ 3)) : fC ρ base n F xTc vwCl xTys D dA la gJ (fbz bsJ znJ (fKc []) I) xm_467 [.inr (.inr (some 740)), .inl x1, .inl x2, .inl x3] I (fun _ r => ∃ z, r = some (.inl z) ∧ (((-2147483648) ≤ z ∧ z ≤ 2147483647) ∧ (0 ≤ z ∧ z ≤ 1000000)) ∧ (z = hbv I x1 x2 x3)) := by
  have hW : fzs [] (fKc []) := fKc_ok _
  refine f_meth (rb := rbJ) (J := []) 1 400 xG xin_467 x6_467 okJ (fB_self h0) ?_ ?_
  · exact fun q h => absurd h List.not_mem_nil
  · have hB0 := fB_self (zn := znJ) (K := fKc []) h0
    refine And.intro ⟨rfl, by decide, by decide⟩ ?_
    intro z1 hz1 ez1 bz1
    clear ez1
    have bz1 := bz1 (by omega)
    refine fload rL_741_741_4560_4563_1_0 h0 hB0 (by omega) ?_
    intro z2 lz2 uz2 qz2
    have w10 := fld_at qz2 (4560 + x3).toNat (by omega)
    intro z3 hz3 ez3 bz3
    clear ez3
    have bz3 := bz3 (by omega)
    refine And.intro (by omega) (And.intro ?_ ?_)
    · intro c4
      refine And.intro ⟨rfl, by decide, by decide⟩ ?_
      intro z5 hz5 ez5 bz5
      clear ez5
      have bz5 := bz5 (by omega)
      refine fload rL_741_741_4570_4665_1_0 h0 hB0 (by omega) ?_
      intro z6 lz6 uz6 qz6
      have w41 := fld_at qz6 (4570 + 4 * x1 + x3).toNat (by omega)
      refine And.intro ⟨rfl, by decide, by decide⟩ ?_
      intro z7 hz7 ez7 bz7
      clear ez7
      have bz7 := bz7 (by omega)
      refine fload rL_756_756_0_7524_1_0 h0 hB0 (by omega) ?_
      intro z8 lz8 uz8 qz8
      have w56 := fld_at qz8 (301 * (x1 + 1) + (x2 - I 741 (4560 + x3).toNat)).toNat (by omega)
      intro z9 hz9 ez9 bz9
      clear ez9
      have bz9 := bz9 (by omega)
      refine Exists.intro xm_291 (And.intro mi_291 (And.intro ⟨rfl, rfl, rfl, rfl⟩ (And.intro True.intro ?_)))
      refine fcallp hB0 (ct_M_least_31c1d (fBz h0 hB0) (by first | exact ⟨by decide, by decide⟩ | omega) (by omega)) ?_
      rintro _ ⟨z10, rfl, hz10⟩
      refine And.intro (True.intro) ?_
      exact ⟨_, rfl, by omega, (by unfold hbv; split <;> first | omega | (split <;> omega))⟩
    · intro c11
      refine And.intro (True.intro) ?_
      exact ⟨_, rfl, by omega, (by unfold hbv; split <;> first | omega | (split <;> omega))⟩
abbrev jc_M_findLoads_1f96d_2 (x1 : Int) (x2 : Int) : Nat → fL → List fV → fH → Prop := fun m lv st I => ∃ (y1 : Int) (y2 : Int) (y3 : Int), lv = [(0, .inr (.inr (some 740))), (1, .inl y1), (2, .inl y2), (3, .inl y3)] ∧ st = [] ∧ (((1 ≤ y1 ∧ y1 ≤ 24) ∧ (0 ≤ y2 ∧ y2 ≤ 300) ∧ (0 ≤ y3 ∧ y3 ≤ 301) ∧ (y1 = x1) ∧ (y2 = x2)) ∧ (∀ b : Int, 0 ≤ b → b < y3 → I 756 (301 * x1 + b).toNat = 0)) ∧ m = (45326 + 1 * (301 - y3) : Int).toNat
abbrev jc_M_findLoads_1f96d_30 (x1 : Int) (x2 : Int) : Nat → fL → List fV → fH → Prop := fun m lv st I => ∃ (y2 : Int) (y3 : Int), lv = [(0, .inr (.inr (some 740))), (2, .inl y2), (3, .inl y3)] ∧ st = [] ∧ (((0 ≤ y2 ∧ y2 ≤ 300) ∧ ((-1) ≤ y3 ∧ y3 ≤ 23) ∧ (y2 = x2) ∧ (y3 < x1)) ∧ (∀ i b : Int, y3 < i → i < x1 → 0 ≤ b → b ≤ x2 → sLd I i b) ∧ (∀ b : Int, 0 ≤ b → b ≤ x2 → I 756 (301 * x1 + b).toNat = 0) ∧ (∀ i b l : Int, y3 < i → i < x1 → 0 ≤ b → b ≤ x2 → 0 ≤ l → l < 4 → I 756 (301 * i + b).toNat ≤ hbv I i b l)) ∧ m = (1813 + 1813 * (y3 - (-1)) : Int).toNat
abbrev jc_M_findLoads_1f96d_37 (x1 : Int) (x2 : Int) : Nat → fL → List fV → fH → Prop := fun m lv st I => ∃ (y2 : Int) (y3 : Int) (y4 : Int), lv = [(0, .inr (.inr (some 740))), (2, .inl y2), (3, .inl y3), (4, .inl y4)] ∧ st = [] ∧ (((0 ≤ y2 ∧ y2 ≤ 300) ∧ (0 ≤ y3 ∧ y3 ≤ 23) ∧ (0 ≤ y4 ∧ y4 ≤ 301) ∧ (y2 = x2) ∧ (y3 < x1)) ∧ (∀ i b : Int, y3 < i → i < x1 → 0 ≤ b → b ≤ x2 → sLd I i b) ∧ (∀ b : Int, 0 ≤ b → b < y4 → sLd I y3 b) ∧ (∀ b : Int, 0 ≤ b → b ≤ x2 → I 756 (301 * x1 + b).toNat = 0) ∧ (∀ i b l : Int, y3 < i → i < x1 → 0 ≤ b → b ≤ x2 → 0 ≤ l → l < 4 → I 756 (301 * i + b).toNat ≤ hbv I i b l) ∧ (∀ b l : Int, 0 ≤ b → b < y4 → 0 ≤ l → l < 4 → I 756 (301 * y3 + b).toNat ≤ hbv I y3 b l)) ∧ m = (6 + 1813 * (y3 - (-1)) + 6 * (301 - y4) : Int).toNat
abbrev jc_M_findLoads_1f96d_51 (x1 : Int) (x2 : Int) : Nat → fL → List fV → fH → Prop := fun m lv st I => ∃ (y2 : Int) (y3 : Int) (y4 : Int) (y5 : Int) (y6 : Int), lv = [(0, .inr (.inr (some 740))), (2, .inl y2), (3, .inl y3), (4, .inl y4), (5, .inl y5), (6, .inl y6)] ∧ st = [] ∧ (((0 ≤ y2 ∧ y2 ≤ 300) ∧ (0 ≤ y3 ∧ y3 ≤ 23) ∧ (0 ≤ y4 ∧ y4 ≤ 300) ∧ (0 ≤ y5 ∧ y5 ≤ 1000000) ∧ (0 ≤ y6 ∧ y6 ≤ 4) ∧ (y2 = x2) ∧ (y3 < x1)) ∧ (∀ i b : Int, y3 < i → i < x1 → 0 ≤ b → b ≤ x2 → sLd I i b) ∧ (∀ b : Int, 0 ≤ b → b < y4 → sLd I y3 b) ∧ (sBst I y3 y4 y5 y6) ∧ (∀ b : Int, 0 ≤ b → b ≤ x2 → I 756 (301 * x1 + b).toNat = 0) ∧ (∀ i b l : Int, y3 < i → i < x1 → 0 ≤ b → b ≤ x2 → 0 ≤ l → l < 4 → I 756 (301 * i + b).toNat ≤ hbv I i b l) ∧ (∀ b l : Int, 0 ≤ b → b < y4 → 0 ≤ l → l < 4 → I 756 (301 * y3 + b).toNat ≤ hbv I y3 b l) ∧ (∀ l : Int, 0 ≤ l → l < y6 → y5 ≤ hbv I y3 y4 l)) ∧ m = (1 + 1813 * (y3 - (-1)) + 6 * (301 - y4) + 1 * (4 - y6) : Int).toNat
set_option maxRecDepth 8000 in
theorem ct_M_findLoads_1f96d {I : fH} {x1 : Int} {x2 : Int} (h0 : fB bsJ I) (ha1 : (1 ≤ x1 ∧ x1 ≤ 24)) (ha2 : (0 ≤ x2 ∧ x2 ≤ 300)) : fC ρ base n F xTc vwCl xTys D dA la gJ (fbz bsJ znJ (fKc wz_ce28c) I) xm_466 [.inr (.inr (some 740)), .inl x1, .inl x2] I (fun I' r => ∃ z, r = some (.inl z) ∧ (0 ≤ z ∧ z ≤ 1000000) ∧ (∀ i b : Int, 0 ≤ i → i < x1 → 0 ≤ b → b ≤ x2 → sLd I' i b) ∧ (z = I' 756 x2.toNat) ∧ (dTb I' x1 x2)) := by
  have hW : fzs wz_ce28c (fKc wz_ce28c) := fKc_ok _
  refine f_meth (rb := rbJ) (J := [(2, (jc_M_findLoads_1f96d_2 x1 x2)), (30, (jc_M_findLoads_1f96d_30 x1 x2)), (37, (jc_M_findLoads_1f96d_37 x1 x2)), (51, (jc_M_findLoads_1f96d_51 x1 x2))]) 45628 400 xG xin_466 x6_466 okJ (fB_self h0) ?_ ?_
  · refine List.forall_mem_cons.mpr ⟨?_, List.forall_mem_cons.mpr ⟨?_, List.forall_mem_cons.mpr ⟨?_, List.forall_mem_cons.mpr ⟨?_, fun q h => absurd h List.not_mem_nil⟩⟩⟩⟩
    · rintro m _ _ I1 hB1 ⟨y1, y2, y3, rfl, rfl, ⟨hb, hx0⟩, hm⟩
      refine And.intro (And.intro (by first | exact fi_ hb.2.2.1.1 hb.2.2.1.2 rfl | omega) (by first | exact fi_ hb.2.1.1 hb.2.1.2 rfl | omega)) (And.intro ?_ ?_)
      · intro c1
        exact fcutJ (I := I1) (j := (jc_M_findLoads_1f96d_30 x1 x2)) (lv' := [(0, .inr (.inr (some 740))), (2, .inl _), (3, .inl _)]) (And.intro rfl (And.intro rfl (And.intro rfl True.intro))) ⟨_, _, rfl, rfl, ⟨by omega, (fun i b h1 h2 => absurd h1 (by omega)), (fun b h1 h2 => hx0 b h1 (by omega)), (fun i b l h1 h2 => absurd h1 (by omega))⟩, rfl⟩ (by omega)
      · intro c2
        refine And.intro ⟨rfl, by decide, by decide⟩ ?_
        refine fstore rS_756_756_0_7524_1_0 (fzs_sub (by decide +kernel) hW) (by omega) (by first | exact ⟨by decide, by decide⟩ | omega) ?_
        intro IhB3 ehB3 hB3
        have t4 := fup_self ehB3
        exact fcutJ (I := IhB3) (j := (jc_M_findLoads_1f96d_2 x1 x2)) (lv' := [(0, .inr (.inr (some 740))), (1, .inl _), (2, .inl _), (3, .inl _)]) (And.intro rfl (And.intro rfl (And.intro rfl (And.intro rfl True.intro)))) ⟨_, _, _, rfl, rfl, ⟨by omega, (fun b h1 h2 => if eb : b = y3 then (by rw [eb]; exact fup_at ehB3 _ (by omega)) else (fup_other ehB3 756 _ (Or.inr (by omega))).trans (hx0 b h1 (by omega)))⟩, rfl⟩ (by omega)
    · rintro m _ _ I1 hB1 ⟨y2, y3, rfl, rfl, ⟨hb, hx0, hx1, hx2⟩, hm⟩
      refine And.intro (by first | exact fi_ hb.2.1.1 hb.2.1.2 rfl | omega) (And.intro ?_ ?_)
      · intro c5
        refine And.intro ⟨rfl, by decide, by decide⟩ ?_
        refine fload1 rL_756_756_0_7524_1_0 h0 hB1 ⟨by decide, by decide⟩ (by first | exact ⟨hb.1.1, Int.le_trans hb.1.2 (by decide)⟩ | omega) ?_
        intro z6 lz6 uz6 qz6
        refine And.intro (True.intro) ?_
        exact ⟨_, rfl, (by first | exact ⟨lz6, uz6⟩ | omega), (fun i b h1 h2 h3 h4 => hx0 i b (by omega) (by omega) h3 (by omega)), (fld_at qz6 x2.toNat (by omega)), (⟨hx1, fun i b h1 h2 h3 h4 => hx0 i b (by omega) h2 h3 h4, fun i b l h1 h2 h3 h4 h5 h6 => hx2 i b l (by omega) h2 h3 h4 h5 h6⟩ : dTb _ _ _)⟩
      · intro c7
        exact fcutJ (I := I1) (j := (jc_M_findLoads_1f96d_37 x1 x2)) (lv' := [(0, .inr (.inr (some 740))), (2, .inl _), (3, .inl _), (4, .inl _)]) (And.intro rfl (And.intro rfl (And.intro rfl (And.intro rfl True.intro)))) ⟨_, _, _, rfl, rfl, ⟨by omega, hx0, (fun b h1 h2 => absurd h2 (by omega)), hx1, hx2, (fun b l h1 h2 => absurd h2 (by omega))⟩, rfl⟩ (by omega)
    · rintro m _ _ I1 hB1 ⟨y2, y3, y4, rfl, rfl, ⟨hb, hx0, hx1, hx2, hx3, hx4⟩, hm⟩
      refine And.intro (And.intro (by first | exact fi_ hb.2.2.1.1 hb.2.2.1.2 rfl | omega) (by first | exact fi_ hb.1.1 hb.1.2 rfl | omega)) (And.intro ?_ ?_)
      · intro c8
        exact fcutJ (I := I1) (j := (jc_M_findLoads_1f96d_30 x1 x2)) (lv' := [(0, .inr (.inr (some 740))), (2, .inl _), (3, .inl _)]) (And.intro rfl (And.intro rfl (And.intro rfl True.intro))) ⟨_, _, rfl, rfl, ⟨by omega, (fun i b h1 h2 h3 h4 => if ei : i = y3 then (by rw [ei]; exact hx1 b h3 (by omega)) else hx0 i b (by omega) h2 h3 h4), hx2, (fun i b l h1 h2 h3 h4 h5 h6 => if ei : i = y3 then (by rw [ei]; exact hx4 b l h3 (by omega) h5 h6) else hx3 i b l (by omega) h2 h3 h4 h5 h6)⟩, rfl⟩ (by omega)
      · intro c9
        exact fcutJ (I := I1) (j := (jc_M_findLoads_1f96d_51 x1 x2)) (lv' := [(0, .inr (.inr (some 740))), (2, .inl _), (3, .inl _), (4, .inl _), (5, .inl _), (6, .inl _)]) (And.intro rfl (And.intro rfl (And.intro rfl (And.intro rfl (And.intro rfl (And.intro rfl True.intro)))))) ⟨_, _, _, _, _, rfl, rfl, ⟨by omega, hx0, hx1, (sBst_0 (by omega) (by omega)), hx2, hx3, hx4, (fun l h1 h2 => absurd h2 (by omega))⟩, rfl⟩ (by omega)
    · rintro m _ _ I1 hB1 ⟨y2, y3, y4, y5, y6, rfl, rfl, ⟨hb, hx0, hx1, hx2, hx3, hx4, hx5, hx6⟩, hm⟩
      refine And.intro (And.intro (by first | exact fi_ hb.2.2.2.2.1.1 hb.2.2.2.2.1.2 rfl | omega) (by first | exact ⟨by decide, by decide⟩ | omega)) (And.intro ?_ ?_)
      · intro c10
        refine And.intro ⟨rfl, by decide, by decide⟩ ?_
        refine fstore rS_756_756_0_7524_1_0 (fzs_sub (by decide +kernel) hW) (by omega) (by first | exact ⟨hb.2.2.2.1.1, hb.2.2.2.1.2⟩ | omega) ?_
        intro IhB11 ehB11 hB11
        have t12 := fup_self ehB11
        exact fcutJ (I := IhB11) (j := (jc_M_findLoads_1f96d_37 x1 x2)) (lv' := [(0, .inr (.inr (some 740))), (2, .inl _), (3, .inl _), (4, .inl _)]) (And.intro rfl (And.intro rfl (And.intro rfl (And.intro rfl True.intro)))) ⟨_, _, _, rfl, rfl, ⟨by omega, (fun i b h1 h2 h3 h4 => ld_keep (i0 := y3) (b0 := y4) ehB11 (by omega) (by omega) (by omega) (by omega) (hx0 i b h1 h2 h3 h4)), (fun b h1 h2 => if eb : b = y4 then (by rw [eb]; exact ld_new ehB11 (by omega) (sBst_get hx2 (by omega))) else ld_keep (i0 := y3) (b0 := y4) ehB11 (by omega) (by omega) (by omega) (by omega) (hx1 b h1 (by omega))), (fun b h1 h2 => (fup_other ehB11 756 _ (Or.inr (by omega))).trans (hx3 b h1 h2)), (fun i b l h1 h2 h3 h4 h5 h6 => by rw [fup_other ehB11 756 (301 * i + b).toNat (Or.inr (by omega)), hbv_keep (i0 := y3) (b0 := y4) ehB11 (by omega) (by omega) l]; exact hx4 i b l h1 h2 h3 h4 h5 h6), (fun b l h1 h2 h5 h6 => if eb : b = y4 then (by rw [eb, fup_at ehB11 (301 * y3 + y4).toNat (by omega), hbv_keep (i0 := y3) (b0 := y4) ehB11 (by omega) (by omega) l]; exact hx6 l h5 (by omega)) else (by rw [fup_other ehB11 756 (301 * y3 + b).toNat (Or.inr (by omega)), hbv_keep (i0 := y3) (b0 := y4) ehB11 (by omega) (by omega) l]; exact hx5 b l h1 (by omega) h5 h6))⟩, rfl⟩ (by omega)
      · intro c13
        refine Exists.intro xm_467 (And.intro mi_467 (And.intro ⟨rfl, rfl, rfl, rfl⟩ (And.intro rfl ?_)))
        refine fcallp hB1 (ct_M_harmBy_4eb55 (fBz h0 hB1) (by first | exact ⟨hb.2.1.1, hb.2.1.2⟩ | omega) (by first | exact ⟨hb.2.2.1.1, hb.2.2.1.2⟩ | omega) (by first | exact ⟨hb.2.2.2.2.1.1, Int.le_trans (Int.le_sub_one_of_lt (Int.lt_of_lt_of_le c13 (Int.le_refl _))) (by decide)⟩ | omega)) ?_
        rintro _ ⟨z14, rfl, hz14, g0z14⟩
        refine Exists.intro xm_291 (And.intro mi_291 (And.intro ⟨rfl, rfl, rfl, rfl⟩ (And.intro True.intro ?_)))
        refine fcallp hB1 (ct_M_least_31c1d (fBz h0 hB1) (by first | exact ⟨hb.2.2.2.1.1, Int.le_trans hb.2.2.2.1.2 (by decide)⟩ | omega) (by first | exact ⟨hz14.1.1, hz14.1.2⟩ | omega)) ?_
        rintro _ ⟨z15, rfl, hz15⟩
        exact fcutJ (I := I1) (j := (jc_M_findLoads_1f96d_51 x1 x2)) (lv' := [(0, .inr (.inr (some 740))), (2, .inl _), (3, .inl _), (4, .inl _), (5, .inl _), (6, .inl _)]) (And.intro rfl (And.intro rfl (And.intro rfl (And.intro rfl (And.intro rfl (And.intro rfl True.intro)))))) ⟨_, _, _, _, _, rfl, rfl, ⟨by omega, hx0, hx1, (sBst_step hx2 g0z14 (by omega) (by omega) (by omega)), hx3, hx4, hx5, (fun l h1 h2 => if el : l = y6 then (by rw [el, ← g0z14]; omega) else (by have q := hx6 l h1 (by omega); omega))⟩, rfl⟩ (by omega)
  · have hB0 := fB_self (zn := znJ) (K := fKc wz_ce28c) h0
    exact fcutJ (I := I) (j := (jc_M_findLoads_1f96d_2 x1 x2)) (lv' := [(0, .inr (.inr (some 740))), (1, .inl _), (2, .inl _), (3, .inl _)]) (And.intro rfl (And.intro rfl (And.intro rfl (And.intro rfl True.intro)))) ⟨_, _, _, rfl, rfl, ⟨by omega, (fun b h1 h2 => absurd h2 (by omega))⟩, rfl⟩ (by omega)
set_option maxRecDepth 8000 in
theorem ct_M_isNight_38061 {I : fH} {x0 : Int} {x1 : Int} (h0 : fB bsJ I) (ha0 : ((-2147483648) ≤ x0 ∧ x0 ≤ 2147483647)) (ha1 : ((-2147483648) ≤ x1 ∧ x1 ≤ 2147483647)) : fC ρ base n F xTc vwCl xTys D dA la gJ (fbz bsJ znJ (fKc []) I) xm_465 [.inl x0, .inl x1] I (fun _ r => ∃ z, r = some (.inl z) ∧ (((z = 1 ∧ 1 ≤ x0 ∧ x0 ≤ 24 ∧ 0 ≤ x1 ∧ x1 ≤ 300) ∨ z = 0) ∧ (z = 0 → ¬ (1 ≤ x0 ∧ x0 ≤ 24 ∧ 0 ≤ x1 ∧ x1 ≤ 300)))) := by
  have hW : fzs [] (fKc []) := fKc_ok _
  refine f_meth (rb := rbJ) (J := []) 1 400 xG xin_465 x6_465 okJ (fB_self h0) ?_ ?_
  · exact fun q h => absurd h List.not_mem_nil
  · have hB0 := fB_self (zn := znJ) (K := fKc []) h0
    refine And.intro (by first | exact fi_ ha0.1 ha0.2 rfl | omega) ?_
    refine Exists.intro xm_238 (And.intro mi_238 (And.intro ⟨rfl, rfl, rfl, rfl⟩ (And.intro True.intro ?_)))
    refine fcallp hB0 (ct_M_isIn_27230 (fBz h0 hB0) (by first | exact ⟨ha0.1, ha0.2⟩ | omega) (by first | exact ⟨by decide, by decide⟩ | omega) (by first | exact ⟨by decide, by decide⟩ | omega)) ?_
    rintro _ ⟨z1, rfl, hz1⟩
    refine And.intro (by omega) (And.intro ?_ ?_)
    · intro c2
      refine And.intro (⟨by omega, by omega⟩) ?_
      exact ⟨_, rfl, by omega⟩
    · intro c3
      refine And.intro (by first | exact fi_ ha1.1 ha1.2 rfl | omega) ?_
      refine Exists.intro xm_238 (And.intro mi_238 (And.intro ⟨rfl, rfl, rfl, rfl⟩ (And.intro True.intro ?_)))
      refine fcallp hB0 (ct_M_isIn_27230 (fBz h0 hB0) (by first | exact ⟨ha1.1, ha1.2⟩ | omega) (by first | exact ⟨by decide, by decide⟩ | omega) (by first | exact ⟨by decide, by decide⟩ | omega)) ?_
      rintro _ ⟨z4, rfl, hz4⟩
      refine And.intro (by omega) (And.intro ?_ ?_)
      · intro c5
        refine And.intro (⟨by omega, by omega⟩) ?_
        exact ⟨_, rfl, by omega⟩
      · intro c6
        refine And.intro (⟨by decide, by decide⟩) ?_
        exact ⟨_, rfl, by omega⟩
end CT

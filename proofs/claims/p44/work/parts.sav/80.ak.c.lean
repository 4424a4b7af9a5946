set_option linter.all false
section CT
variable {ρ : Nat → Int32} {base n : Nat} {F : Nat → Prop} {D : va_G} {dA : Nat → ClassId} {la : Launch}
set_option maxRecDepth 8000 in
theorem ct_Gauges_hasPlaces_a6d6f {I : fH} {x1 : Int} {x2 : Int} {x3 : Int} (h0 : fB bsJ I) (ha1 : (0 ≤ x1 ∧ x1 ≤ 19)) (ha2 : ((-2147483648) ≤ x2 ∧ x2 ≤ 2147483647)) (ha3 : ((-2147483648) ≤ x3 ∧ x3 ≤ 2147483647)) : fC ρ base n F xTc vwCl xTys D dA la gJ (fbz bsJ znJ (fKc []) I) xm_168 [.inr (.inr (some 703)), .inl x1, .inl x2, .inl x3] I (fun _ r => ∃ z, r = some (.inl z) ∧ (((z = 1 ∧ 0 ≤ x2 ∧ x2 ≤ 30 ∧ 0 ≤ x3 ∧ x3 ≤ 30) ∨ z = 0) ∧ (z = 1 → x2 + x3 ≤ 30))) := by
  have hW : fzs [] (fKc []) := fKc_ok _
  refine f_meth (rb := rbJ) (J := []) 1 400 xG xin_168 x6_168 okJ (fB_self h0) ?_ ?_
  · exact fun q h => absurd h List.not_mem_nil
  · have hB0 := fB_self (zn := znJ) (K := fKc []) h0
    refine And.intro ⟨rfl, by decide, by decide⟩ ?_
    refine fload1 rL_705_705_0_19_1_0 h0 hB0 ⟨by decide, by decide⟩ (by first | exact ⟨ha1.1, ha1.2⟩ | omega) ?_
    intro z1 lz1 uz1 qz1
    refine Exists.intro xm_13 (And.intro mi_13 (And.intro ⟨rfl, rfl, rfl, rfl⟩ (And.intro True.intro ?_)))
    refine fcallp hB0 (ct_X_within_c27b1 (fBz h0 hB0) (by first | exact ⟨ha2.1, ha2.2⟩ | omega) (by first | exact ⟨by decide, by decide⟩ | omega) (by first | exact ⟨Int.le_trans (by decide) lz1, Int.le_trans uz1 (by decide)⟩ | omega)) ?_
    rintro _ ⟨z2, rfl, hz2⟩
    refine And.intro (by omega) (And.intro ?_ ?_)
    · intro c3
      refine And.intro (⟨by omega, by omega⟩) ?_
      exact ⟨_, rfl, by omega⟩
    · intro c4
      refine And.intro ⟨rfl, by decide, by decide⟩ ?_
      refine fload1 rL_705_705_0_19_1_0 h0 hB0 ⟨by decide, by decide⟩ (by first | exact ⟨ha1.1, ha1.2⟩ | omega) ?_
      intro z5 lz5 uz5 qz5
      refine Exists.intro xm_13 (And.intro mi_13 (And.intro ⟨rfl, rfl, rfl, rfl⟩ (And.intro True.intro ?_)))
      refine fcallp hB0 (ct_X_within_c27b1 (fBz h0 hB0) (by first | exact ⟨ha3.1, ha3.2⟩ | omega) (by first | exact ⟨by decide, by decide⟩ | omega) (by omega)) ?_
      rintro _ ⟨z6, rfl, hz6⟩
      refine And.intro (by omega) (And.intro ?_ ?_)
      · intro c7
        refine And.intro (⟨by omega, by omega⟩) ?_
        exact ⟨_, rfl, by omega⟩
      · intro c8
        refine And.intro (⟨by decide, by decide⟩) ?_
        exact ⟨_, rfl, by omega⟩
set_option maxRecDepth 8000 in
theorem ct_Gauges_carry_d2c8d {I : fH} {x1 : Int} {x2 : Int} {x3 : Int} {x4 : Int} {x5 : Int} (h0 : fB bsJ I) (ha1 : (0 ≤ x1 ∧ x1 ≤ 19)) (ha2 : ((-2147483648) ≤ x2 ∧ x2 ≤ 2147483647)) (ha3 : (0 ≤ x3 ∧ x3 ≤ 19)) (ha4 : ((-2147483648) ≤ x4 ∧ x4 ≤ 2147483647)) (ha5 : ((-2147483648) ≤ x5 ∧ x5 ≤ 2147483647)) : fC ρ base n F xTc vwCl xTys D dA la gJ (fbz bsJ znJ (fKc wz_65950) I) xm_167 [.inr (.inr (some 703)), .inl x1, .inl x2, .inl x3, .inl x4, .inl x5] I (fun _ r => ∃ z, r = some (.inl z) ∧ ((0 ≤ z ∧ z ≤ 30) ∨ z = (-1000000013) ∨ z = (-1000000012) ∨ z = (-1000000011))) := by
  have hW : fzs wz_65950 (fKc wz_65950) := fKc_ok _
  refine f_meth (rb := rbJ) (J := []) 1 400 xG xin_167 x6_167 okJ (fB_self h0) ?_ ?_
  · exact fun q h => absurd h List.not_mem_nil
  · have hB0 := fB_self (zn := znJ) (K := fKc wz_65950) h0
    refine And.intro ⟨rfl, by decide, by decide⟩ ?_
    refine fload1 rL_704_704_0_19_1_0 h0 hB0 ⟨by decide, by decide⟩ (by first | exact ⟨ha1.1, ha1.2⟩ | omega) ?_
    intro z1 lz1 uz1 qz1
    refine And.intro (And.intro (by first | exact fi_ lz1 uz1 rfl | omega) (by first | exact ⟨by decide, by decide⟩ | omega)) (And.intro ?_ ?_)
    · intro c2
      refine And.intro (True.intro) ?_
      exact ⟨_, rfl, by omega⟩
    · intro c3
      refine And.intro ⟨rfl, by decide, by decide⟩ ?_
      refine fload1 rL_704_704_0_19_1_0 h0 hB0 ⟨by decide, by decide⟩ (by first | exact ⟨ha3.1, ha3.2⟩ | omega) ?_
      intro z4 lz4 uz4 qz4
      refine And.intro (And.intro (by first | exact fi_ lz4 uz4 rfl | omega) (by first | exact ⟨by decide, by decide⟩ | omega)) (And.intro ?_ ?_)
      · intro c5
        refine And.intro ⟨rfl, by decide, by decide⟩ ?_
        refine fload1 rL_704_704_0_19_1_0 h0 hB0 ⟨by decide, by decide⟩ (by first | exact ⟨ha1.1, ha1.2⟩ | omega) ?_
        intro z6 lz6 uz6 qz6
        refine And.intro ⟨rfl, by decide, by decide⟩ ?_
        refine fload1 rL_704_704_0_19_1_0 h0 hB0 ⟨by decide, by decide⟩ (by first | exact ⟨ha3.1, ha3.2⟩ | omega) ?_
        intro z7 lz7 uz7 qz7
        refine And.intro (And.intro (by first | exact fi_ lz6 uz6 rfl | omega) (by first | exact fi_ lz7 uz7 rfl | omega)) (And.intro ?_ ?_)
        · intro c8
          refine Exists.intro xm_168 (And.intro mi_168 (And.intro ⟨rfl, rfl, rfl, rfl⟩ (And.intro rfl ?_)))
          refine fcallp hB0 (ct_Gauges_hasPlaces_a6d6f (fBz h0 hB0) (by first | exact ⟨ha1.1, ha1.2⟩ | omega) (by first | exact ⟨ha2.1, ha2.2⟩ | omega) (by first | exact ⟨ha5.1, ha5.2⟩ | omega)) ?_
          rintro _ ⟨z9, rfl, hz9⟩
          refine And.intro (by omega) (And.intro ?_ ?_)
          · intro c10
            refine And.intro (True.intro) ?_
            exact ⟨_, rfl, by omega⟩
          · intro c11
            refine Exists.intro xm_168 (And.intro mi_168 (And.intro ⟨rfl, rfl, rfl, rfl⟩ (And.intro rfl ?_)))
            refine fcallp hB0 (ct_Gauges_hasPlaces_a6d6f (fBz h0 hB0) (by first | exact ⟨ha3.1, ha3.2⟩ | omega) (by first | exact ⟨ha4.1, ha4.2⟩ | omega) (by first | exact ⟨ha5.1, ha5.2⟩ | omega)) ?_
            rintro _ ⟨z12, rfl, hz12⟩
            refine And.intro (by omega) (And.intro ?_ ?_)
            · intro c13
              refine And.intro ⟨rfl, by decide, by decide⟩ ?_
              refine And.intro ⟨rfl, by decide⟩ (And.intro (by first | exact ⟨ha1.1, Int.lt_of_le_of_lt ha1.2 (by decide)⟩ | omega) ?_)
              refine And.intro ⟨rfl, by decide, by decide⟩ ?_
              refine And.intro ⟨rfl, by decide⟩ (And.intro (by first | exact ⟨ha3.1, Int.lt_of_le_of_lt ha3.2 (by decide)⟩ | omega) ?_)
              refine And.intro (fcopyU (rgG_707_726 (by omega) (by omega)) (rgG_707_726 (by omega) (by omega)) rL_707_726_0_29_1_0 rS_707_726_0_29_1_0 (fzs_sub (by decide +kernel) hW) h0 hB0 (by omega) (by omega) (by omega) (by omega)) (And.intro rfl ?_)
              intro IhB14 ehB14 hB14
              refine And.intro (True.intro) ?_
              exact ⟨_, rfl, by omega⟩
            · intro c15
              refine And.intro (True.intro) ?_
              exact ⟨_, rfl, by omega⟩
        · intro c16
          refine And.intro (True.intro) ?_
          exact ⟨_, rfl, by omega⟩
      · intro c17
        refine And.intro (True.intro) ?_
        exact ⟨_, rfl, by omega⟩
set_option maxRecDepth 8000 in
theorem ct_X_copy_f4558 {I : fH} {x1 : Int} {x2 : Int} {x3 : Int} {x4 : Int} {x5 : Int} (h0 : fB bsJ I) (ha1 : ((-2147483648) ≤ x1 ∧ x1 ≤ 2147483647)) (ha2 : ((-2147483648) ≤ x2 ∧ x2 ≤ 2147483647)) (ha3 : ((-2147483648) ≤ x3 ∧ x3 ≤ 2147483647)) (ha4 : ((-2147483648) ≤ x4 ∧ x4 ≤ 2147483647)) (ha5 : ((-2147483648) ≤ x5 ∧ x5 ≤ 2147483647)) : fC ρ base n F xTc vwCl xTys D dA la gJ (fbz bsJ znJ (fKc wz_65950) I) xm_166 [.inr (.inr (some 0)), .inl x1, .inl x2, .inl x3, .inl x4, .inl x5] I (fun _ r => ∃ z, r = some (.inl z) ∧ ((0 ≤ z ∧ z ≤ 30) ∨ z = (-1000000013) ∨ z = (-1000000012) ∨ z = (-1000000011) ∨ z = (-1000000001))) := by
  have hW : fzs wz_65950 (fKc wz_65950) := fKc_ok _
  refine f_meth (rb := rbJ) (J := []) 1 400 xG xin_166 x6_166 okJ (fB_self h0) ?_ ?_
  · exact fun q h => absurd h List.not_mem_nil
  · have hB0 := fB_self (zn := znJ) (K := fKc wz_65950) h0
    refine And.intro ⟨rfl, by decide, by decide⟩ ?_
    refine Exists.intro xm_17 (And.intro mi_17 (And.intro ⟨rfl, rfl, rfl, rfl⟩ (And.intro rfl ?_)))
    refine fcallp hB0 (ct_City_isCell_46f02 (fBz h0 hB0) (by first | exact ⟨ha1.1, ha1.2⟩ | omega)) ?_
    rintro _ ⟨z1, rfl, hz1⟩
    refine And.intro (by omega) (And.intro ?_ ?_)
    · intro c2
      refine And.intro (True.intro) ?_
      exact ⟨_, rfl, by omega⟩
    · intro c3
      refine And.intro ⟨rfl, by decide, by decide⟩ ?_
      refine Exists.intro xm_17 (And.intro mi_17 (And.intro ⟨rfl, rfl, rfl, rfl⟩ (And.intro rfl ?_)))
      refine fcallp hB0 (ct_City_isCell_46f02 (fBz h0 hB0) (by first | exact ⟨ha3.1, ha3.2⟩ | omega)) ?_
      rintro _ ⟨z4, rfl, hz4⟩
      refine And.intro (by omega) (And.intro ?_ ?_)
      · intro c5
        refine And.intro (True.intro) ?_
        exact ⟨_, rfl, by omega⟩
      · intro c6
        refine And.intro ⟨rfl, by decide, by decide⟩ ?_
        refine Exists.intro xm_167 (And.intro mi_167 (And.intro ⟨rfl, rfl, rfl, rfl⟩ (And.intro rfl ?_)))
        refine fcall _ h0 (fzs_sub (by decide +kernel) hW) hB0 (ct_Gauges_carry_d2c8d (fBz h0 hB0) (by omega) (by first | exact ⟨ha2.1, ha2.2⟩ | omega) (by omega) (by first | exact ⟨ha4.1, ha4.2⟩ | omega) (by first | exact ⟨ha5.1, ha5.2⟩ | omega)) ?_
        rintro IhB8 _ hB8 fhB8 ⟨z7, rfl, hz7⟩
        refine And.intro (True.intro) ?_
        exact ⟨_, rfl, by omega⟩
abbrev jc_M_copy_adc00_16 : Nat → fL → List fV → fH → Prop := fun m lv st I => lv = [] ∧ st = [] ∧ (True) ∧ m = (1 : Int).toNat
abbrev jc_M_copy_adc00_37 : Nat → fL → List fV → fH → Prop := fun m lv st I => lv = [] ∧ st = [] ∧ (True) ∧ m = (2 : Int).toNat
abbrev jc_M_copy_adc00_108 : Nat → fL → List fV → fH → Prop := fun m lv st I => lv = [] ∧ st = [] ∧ (True) ∧ m = (3 : Int).toNat
abbrev jc_M_copy_adc00_115 : Nat → fL → List fV → fH → Prop := fun m lv st I => ∃ (y1 : Int) (y2 : Int) (y3 : Int) (y4 : Int) (y5 : Int) (y6 : Int), lv = [(0, .inr (.inr (some 740))), (1, .inl y1), (2, .inl y2), (3, .inl y3), (4, .inl y4), (5, .inl y5), (6, .inl y6)] ∧ st = [] ∧ (((0 ≤ y1 ∧ y1 ≤ 19) ∧ (0 ≤ y2 ∧ y2 ≤ 30) ∧ (0 ≤ y3 ∧ y3 ≤ 19) ∧ (0 ≤ y4 ∧ y4 ≤ 30) ∧ (0 ≤ y5 ∧ y5 ≤ 30) ∧ (0 ≤ y6 ∧ y6 ≤ 30) ∧ (y4 + y5 ≤ 30) ∧ (y2 + y5 ≤ 30))) ∧ m = (35 + 1 * (30 - y6) : Int).toNat
abbrev jc_M_copy_adc00_152 : Nat → fL → List fV → fH → Prop := fun m lv st I => ∃ (y3 : Int) (y4 : Int) (y5 : Int) (y6 : Int), lv = [(0, .inr (.inr (some 740))), (3, .inl y3), (4, .inl y4), (5, .inl y5), (6, .inl y6)] ∧ st = [] ∧ (((0 ≤ y3 ∧ y3 ≤ 19) ∧ (0 ≤ y4 ∧ y4 ≤ 30) ∧ (0 ≤ y5 ∧ y5 ≤ 30) ∧ (0 ≤ y6 ∧ y6 ≤ 30) ∧ (y4 + y5 ≤ 30))) ∧ m = (4 + 1 * (30 - y6) : Int).toNat
set_option maxRecDepth 8000 in
theorem ct_M_copy_adc00 {I : fH} {x1 : Int} {x2 : Int} {x3 : Int} {x4 : Int} {x5 : Int} (h0 : fB bsJ I) (ha1 : ((-2147483648) ≤ x1 ∧ x1 ≤ 2147483647)) (ha2 : ((-2147483648) ≤ x2 ∧ x2 ≤ 2147483647)) (ha3 : ((-2147483648) ≤ x3 ∧ x3 ≤ 2147483647)) (ha4 : ((-2147483648) ≤ x4 ∧ x4 ≤ 2147483647)) (ha5 : ((-2147483648) ≤ x5 ∧ x5 ≤ 2147483647)) : fC ρ base n F xTc vwCl xTys D dA la gJ (fbz bsJ znJ (fKc wz_25294) I) xm_444 [.inr (.inr (some 740)), .inl x1, .inl x2, .inl x3, .inl x4, .inl x5] I (fun _ r => ∃ z, r = some (.inl z) ∧ ((0 ≤ z ∧ z ≤ 30) ∨ z = (-1000000013) ∨ z = (-1000000012) ∨ z = (-1000000011) ∨ z = (-1000000001))) := by
  have hW : fzs wz_25294 (fKc wz_25294) := fKc_ok _
  refine f_meth (rb := rbJ) (J := [(16, jc_M_copy_adc00_16), (37, jc_M_copy_adc00_37), (108, jc_M_copy_adc00_108), (115, jc_M_copy_adc00_115), (152, jc_M_copy_adc00_152)]) 66 400 xG xin_444 x6_444 okJ (fB_self h0) ?_ ?_
  · refine List.forall_mem_cons.mpr ⟨?_, List.forall_mem_cons.mpr ⟨?_, List.forall_mem_cons.mpr ⟨?_, List.forall_mem_cons.mpr ⟨?_, List.forall_mem_cons.mpr ⟨?_, fun q h => absurd h List.not_mem_nil⟩⟩⟩⟩⟩
    · rintro m _ _ I1 hB1 ⟨rfl, rfl, hb, hm⟩
      refine And.intro (True.intro) ?_
      exact ⟨_, rfl, by omega⟩
    · rintro m _ _ I1 hB1 ⟨rfl, rfl, hb, hm⟩
      refine And.intro (True.intro) ?_
      exact ⟨_, rfl, by omega⟩
    · rintro m _ _ I1 hB1 ⟨rfl, rfl, hb, hm⟩
      refine And.intro (True.intro) ?_
      exact ⟨_, rfl, by omega⟩
    · rintro m _ _ I1 hB1 ⟨y1, y2, y3, y4, y5, y6, rfl, rfl, hb, hm⟩
      refine And.intro (And.intro (by first | exact fi_ hb.2.2.2.2.2.1.1 hb.2.2.2.2.2.1.2 rfl | omega) (by first | exact fi_ hb.2.2.2.2.1.1 hb.2.2.2.2.1.2 rfl | omega)) (And.intro ?_ ?_)
      · intro c1
        exact fcutJ (I := I1) (j := jc_M_copy_adc00_152) (lv' := [(0, .inr (.inr (some 740))), (3, .inl _), (4, .inl _), (5, .inl _), (6, .inl _)]) (And.intro rfl (And.intro rfl (And.intro rfl (And.intro rfl (And.intro rfl True.intro))))) ⟨_, _, _, _, rfl, rfl, by omega, rfl⟩ (by omega)
      · intro c2
        refine And.intro ⟨rfl, by decide, by decide⟩ ?_
        refine And.intro ⟨rfl, by decide, by decide⟩ ?_
        intro z3 hz3 ez3 bz3
        clear ez3
        have bz3 := bz3 (by omega)
        intro z4 hz4 ez4 bz4
        clear ez4
        have bz4 := bz4 (by omega)
        refine fload rL_746_746_0_599_1_0 h0 hB1 (by omega) ?_
        intro z5 lz5 uz5 qz5
        refine fstore1 rS_753_753_0_29_1_0 (fzs_sub (by decide +kernel) hW) ⟨by decide, by decide⟩ (by first | exact ⟨hb.2.2.2.2.2.1.1, Int.le_trans (Int.le_sub_one_of_lt (Int.lt_of_lt_of_le c2 hb.2.2.2.2.1.2)) (by decide)⟩ | omega) (by first | exact ⟨lz5, uz5⟩ | omega) ?_
        intro IhB6 ehB6 hB6
        have t7 := fup_self ehB6
        exact fcutJ (I := IhB6) (j := jc_M_copy_adc00_115) (lv' := [(0, .inr (.inr (some 740))), (1, .inl _), (2, .inl _), (3, .inl _), (4, .inl _), (5, .inl _), (6, .inl _)]) (And.intro rfl (And.intro rfl (And.intro rfl (And.intro rfl (And.intro rfl (And.intro rfl (And.intro rfl True.intro))))))) ⟨_, _, _, _, _, _, rfl, rfl, by omega, rfl⟩ (by omega)
    · rintro m _ _ I1 hB1 ⟨y3, y4, y5, y6, rfl, rfl, hb, hm⟩
      refine And.intro (And.intro (by first | exact fi_ hb.2.2.2.1.1 hb.2.2.2.1.2 rfl | omega) (by first | exact fi_ hb.2.2.1.1 hb.2.2.1.2 rfl | omega)) (And.intro ?_ ?_)
      · intro c8
        refine And.intro (True.intro) ?_
        exact ⟨_, rfl, by omega⟩
      · intro c9
        refine And.intro ⟨rfl, by decide, by decide⟩ ?_
        intro z10 hz10 ez10 bz10
        clear ez10
        have bz10 := bz10 (by omega)
        intro z11 hz11 ez11 bz11
        clear ez11
        have bz11 := bz11 (by omega)
        refine And.intro ⟨rfl, by decide, by decide⟩ ?_
        refine fload1 rL_753_753_0_29_1_0 h0 hB1 ⟨by decide, by decide⟩ (by first | exact ⟨hb.2.2.2.1.1, Int.le_trans (Int.le_sub_one_of_lt (Int.lt_of_lt_of_le c9 hb.2.2.1.2)) (by decide)⟩ | omega) ?_
        intro z12 lz12 uz12 qz12
        refine fstore rS_746_746_0_599_1_0 (fzs_sub (by decide +kernel) hW) (by omega) (by first | exact ⟨lz12, uz12⟩ | omega) ?_
        intro IhB13 ehB13 hB13
        have t14 := fup_self ehB13
        exact fcutJ (I := IhB13) (j := jc_M_copy_adc00_152) (lv' := [(0, .inr (.inr (some 740))), (3, .inl _), (4, .inl _), (5, .inl _), (6, .inl _)]) (And.intro rfl (And.intro rfl (And.intro rfl (And.intro rfl (And.intro rfl True.intro))))) ⟨_, _, _, _, rfl, rfl, by omega, rfl⟩ (by omega)
  · have hB0 := fB_self (zn := znJ) (K := fKc wz_25294) h0
    refine Exists.intro xm_241 (And.intro mi_241 (And.intro ⟨rfl, rfl, rfl, rfl⟩ (And.intro rfl ?_)))
    refine fcallp hB0 (ct_M_isCell_45859 (fBz h0 hB0) (by first | exact ⟨ha1.1, ha1.2⟩ | omega)) ?_
    rintro _ ⟨z15, rfl, hz15⟩
    refine And.intro (by omega) (And.intro ?_ ?_)
    · intro c16
      exact fcutJ (I := I) (j := jc_M_copy_adc00_16) (lv' := []) (True.intro) ⟨rfl, rfl, True.intro, rfl⟩ (by omega)
    · intro c17
      refine Exists.intro xm_241 (And.intro mi_241 (And.intro ⟨rfl, rfl, rfl, rfl⟩ (And.intro rfl ?_)))
      refine fcallp hB0 (ct_M_isCell_45859 (fBz h0 hB0) (by first | exact ⟨ha3.1, ha3.2⟩ | omega)) ?_
      rintro _ ⟨z18, rfl, hz18⟩
      refine And.intro (by omega) (And.intro ?_ ?_)
      · intro c19
        refine And.intro ⟨rfl, by decide, by decide⟩ ?_
        refine fload rL_744_744_0_19_1_0 h0 hB0 (by omega) ?_
        intro z20 lz20 uz20 qz20
        refine And.intro (by first | exact fi_ lz20 uz20 rfl | omega) (And.intro ?_ ?_)
        · intro c21
          exact fcutJ (I := I) (j := jc_M_copy_adc00_37) (lv' := []) (True.intro) ⟨rfl, rfl, True.intro, rfl⟩ (by omega)
        · intro c22
          refine And.intro ⟨rfl, by decide, by decide⟩ ?_
          refine fload rL_744_744_0_19_1_0 h0 hB0 (by omega) ?_
          intro z23 lz23 uz23 qz23
          refine And.intro (by first | exact fi_ lz23 uz23 rfl | omega) (And.intro ?_ ?_)
          · intro c24
            refine And.intro ⟨rfl, by decide, by decide⟩ ?_
            refine fload rL_744_744_0_19_1_0 h0 hB0 (by omega) ?_
            intro z25 lz25 uz25 qz25
            refine And.intro ⟨rfl, by decide, by decide⟩ ?_
            refine fload rL_744_744_0_19_1_0 h0 hB0 (by omega) ?_
            intro z26 lz26 uz26 qz26
            refine And.intro (And.intro (by first | exact fi_ lz25 uz25 rfl | omega) (by first | exact fi_ lz26 uz26 rfl | omega)) (And.intro ?_ ?_)
            · intro c27
              refine And.intro (by first | exact fi_ ha2.1 ha2.2 rfl | omega) (And.intro ?_ ?_)
              · intro c28
                exact fcutJ (I := I) (j := jc_M_copy_adc00_108) (lv' := []) (True.intro) ⟨rfl, rfl, True.intro, rfl⟩ (by omega)
              · intro c29
                refine And.intro (by first | exact fi_ ha4.1 ha4.2 rfl | omega) (And.intro ?_ ?_)
                · intro c30
                  exact fcutJ (I := I) (j := jc_M_copy_adc00_108) (lv' := []) (True.intro) ⟨rfl, rfl, True.intro, rfl⟩ (by omega)
                · intro c31
                  refine And.intro (by first | exact fi_ ha5.1 ha5.2 rfl | omega) (And.intro ?_ ?_)
                  · intro c32
                    exact fcutJ (I := I) (j := jc_M_copy_adc00_108) (lv' := []) (True.intro) ⟨rfl, rfl, True.intro, rfl⟩ (by omega)
                  · intro c33
                    refine And.intro (by first | exact fi_ (Int.le_trans (Int.le_refl _) c29) ha2.2 rfl | omega) ?_
                    refine And.intro (by first | exact fi_ (Int.le_trans (Int.le_refl _) c33) ha5.2 rfl | omega) ?_
                    refine And.intro ⟨rfl, by decide, by decide⟩ ?_
                    refine fload rL_745_745_0_19_1_0 h0 hB0 (by omega) ?_
                    intro z34 lz34 uz34 qz34
                    refine And.intro (by first | exact fi_ lz34 uz34 rfl | omega) ?_
                    refine And.intro (And.intro (by omega) (by first | exact fl_ lz34 uz34 rfl | omega)) ?_
                    intro z35 hz35
                    refine And.intro (by omega) (And.intro ?_ ?_)
                    · intro c36
                      exact fcutJ (I := I) (j := jc_M_copy_adc00_108) (lv' := []) (True.intro) ⟨rfl, rfl, True.intro, rfl⟩ (by omega)
                    · intro c37
                      refine And.intro (by first | exact fi_ (Int.le_trans (Int.le_refl _) c31) ha4.2 rfl | omega) ?_
                      refine And.intro (by first | exact fi_ (Int.le_trans (Int.le_refl _) c33) ha5.2 rfl | omega) ?_
                      refine And.intro ⟨rfl, by decide, by decide⟩ ?_
                      refine fload rL_745_745_0_19_1_0 h0 hB0 (by omega) ?_
                      intro z38 lz38 uz38 qz38
                      refine And.intro (by first | exact fi_ lz38 uz38 rfl | omega) ?_
                      refine And.intro (And.intro (by omega) (by first | exact fl_ lz38 uz38 rfl | omega)) ?_
                      intro z39 hz39
                      refine And.intro (by omega) (And.intro ?_ ?_)
                      · intro c40
                        exact fcutJ (I := I) (j := jc_M_copy_adc00_115) (lv' := [(0, .inr (.inr (some 740))), (1, .inl _), (2, .inl _), (3, .inl _), (4, .inl _), (5, .inl _), (6, .inl _)]) (And.intro rfl (And.intro rfl (And.intro rfl (And.intro rfl (And.intro rfl (And.intro rfl (And.intro rfl True.intro))))))) ⟨_, _, _, _, _, _, rfl, rfl, by omega, rfl⟩ (by omega)
                      · intro c41
                        exact fcutJ (I := I) (j := jc_M_copy_adc00_108) (lv' := []) (True.intro) ⟨rfl, rfl, True.intro, rfl⟩ (by omega)
            · intro c42
              refine And.intro (True.intro) ?_
              exact ⟨_, rfl, by omega⟩
          · intro c43
            exact fcutJ (I := I) (j := jc_M_copy_adc00_37) (lv' := []) (True.intro) ⟨rfl, rfl, True.intro, rfl⟩ (by omega)
      · intro c44
        exact fcutJ (I := I) (j := jc_M_copy_adc00_16) (lv' := []) (True.intro) ⟨rfl, rfl, True.intro, rfl⟩ (by omega)
set_option maxRecDepth 8000 in
theorem ct_X_swap_20081 {I : fH} {x0 : Nat} {x1 : Int} {x2 : Int} (h0 : fB bsJ I) (ha0 : (213 ≤ x0 ∧ x0 ≤ 220)) (ha1 : (0 ≤ x1 ∧ x1 ≤ 11)) (ha2 : (0 ≤ x2 ∧ x2 ≤ 3)) : fC ρ base n F xTc vwCl xTys D dA la gJ (fbz bsJ znJ (fKc wz_9f933) I) xm_18 [.inr (.inr (some x0)), .inl x1, .inl x2] I (fun I' r => ∃ z, r = some (.inl z) ∧ (0 ≤ z ∧ z ≤ 3) ∧ (I' = fupd I x0 x1.toNat x2) ∧ (z = I x0 x1.toNat)) := by
  have hW : fzs wz_9f933 (fKc wz_9f933) := fKc_ok _
  refine f_meth (rb := rbJ) (J := []) 1 400 xG xin_18 x6_18 okJ (fB_self h0) ?_ ?_
  · exact fun q h => absurd h List.not_mem_nil
  · have hB0 := fB_self (zn := znJ) (K := fKc wz_9f933) h0
    refine fload rL_213_220_0_11_1_0 h0 hB0 (by omega) ?_
    intro z1 lz1 uz1 qz1
    refine fstore rS_213_220_0_11_1_0 (fzs_sub (by decide +kernel) hW) (by omega) (by first | exact ⟨ha2.1, ha2.2⟩ | omega) ?_
    intro IhB2 ehB2 hB2
    have t3 := fup_self ehB2
    refine And.intro (True.intro) ?_
    exact ⟨_, rfl, (by first | exact ⟨lz1, uz1⟩ | omega), ehB2, qz1⟩
set_option maxRecDepth 8000 in
theorem ct_X_shows_90a17 {I : fH} {x1 : Int} {x2 : Int} {x3 : Int} (h0 : fB bsJ I) (ha1 : ((-2147483648) ≤ x1 ∧ x1 ≤ 2147483647)) (ha2 : ((-2147483648) ≤ x2 ∧ x2 ≤ 2147483647)) (ha3 : ((-2147483648) ≤ x3 ∧ x3 ≤ 2147483647)) : fC ρ base n F xTc vwCl xTys D dA la gJ (fbz bsJ znJ (fKc wz_9f933) I) xm_169 [.inr (.inr (some 0)), .inl x1, .inl x2, .inl x3] I (fun I' r => ∃ z, r = some (.inl z) ∧ ((0 ≤ z ∧ z ≤ 3) ∨ z = (-1000000001)) ∧ (((0 ≤ x1 ∧ x1 ≤ 7 ∧ 0 ≤ x2 ∧ x2 ≤ 11 ∧ 0 ≤ x3 ∧ x3 ≤ 3) ∧ I' = fupd I (213 + x1.toNat) x2.toNat x3 ∧ z = I (213 + x1.toNat) x2.toNat) ∨ (¬ (0 ≤ x1 ∧ x1 ≤ 7 ∧ 0 ≤ x2 ∧ x2 ≤ 11 ∧ 0 ≤ x3 ∧ x3 ≤ 3) ∧ I' = I ∧ z = (-1000000001)))) := by
  have hW : fzs wz_9f933 (fKc wz_9f933) := fKc_ok _
  refine f_meth (rb := rbJ) (J := []) 1 400 xG xin_169 x6_169 okJ (fB_self h0) ?_ ?_
  · exact fun q h => absurd h List.not_mem_nil
  · have hB0 := fB_self (zn := znJ) (K := fKc wz_9f933) h0
    refine Exists.intro xm_13 (And.intro mi_13 (And.intro ⟨rfl, rfl, rfl, rfl⟩ (And.intro True.intro ?_)))
    refine fcallp hB0 (ct_X_within_c27b1 (fBz h0 hB0) (by first | exact ⟨ha1.1, ha1.2⟩ | omega) (by first | exact ⟨by decide, by decide⟩ | omega) (by first | exact ⟨by decide, by decide⟩ | omega)) ?_
    rintro _ ⟨z1, rfl, hz1⟩
    refine And.intro (by omega) (And.intro ?_ ?_)
    · intro c2
      refine And.intro (True.intro) ?_
      exact ⟨_, rfl, by omega, (by first | exact Or.inl ⟨by omega, g0nil0, g1nil0⟩ | exact Or.inr ⟨by omega, rfl, by omega⟩)⟩
    · intro c3
      refine Exists.intro xm_13 (And.intro mi_13 (And.intro ⟨rfl, rfl, rfl, rfl⟩ (And.intro True.intro ?_)))
      refine fcallp hB0 (ct_X_within_c27b1 (fBz h0 hB0) (by first | exact ⟨ha2.1, ha2.2⟩ | omega) (by first | exact ⟨by decide, by decide⟩ | omega) (by first | exact ⟨by decide, by decide⟩ | omega)) ?_
      rintro _ ⟨z4, rfl, hz4⟩
      refine And.intro (by omega) (And.intro ?_ ?_)
      · intro c5
        refine And.intro (True.intro) ?_
        exact ⟨_, rfl, by omega, (by first | exact Or.inl ⟨by omega, g0nil0, g1nil0⟩ | exact Or.inr ⟨by omega, rfl, by omega⟩)⟩
      · intro c6
        refine Exists.intro xm_13 (And.intro mi_13 (And.intro ⟨rfl, rfl, rfl, rfl⟩ (And.intro True.intro ?_)))
        refine fcallp hB0 (ct_X_within_c27b1 (fBz h0 hB0) (by first | exact ⟨ha3.1, ha3.2⟩ | omega) (by first | exact ⟨by decide, by decide⟩ | omega) (by first | exact ⟨by decide, by decide⟩ | omega)) ?_
        rintro _ ⟨z7, rfl, hz7⟩
        refine And.intro (by omega) (And.intro ?_ ?_)
        · intro c8
          refine And.intro ⟨rfl, by decide, by decide⟩ ?_
          refine And.intro ⟨rfl, by decide, by decide⟩ ?_
          refine And.intro ⟨rfl, by decide⟩ (And.intro (by first | exact ⟨Int.le_trans (by decide) (Int.le_trans (Int.le_refl _) hz1.1), Int.lt_of_le_of_lt (Int.le_trans hz1.2 (Int.le_refl _)) (by decide)⟩ | omega) ?_)
          refine Exists.intro xm_18 (And.intro mi_18 (And.intro ⟨rfl, rfl, rfl, rfl⟩ (And.intro True.intro ?_)))
          refine fcall _ h0 (fzs_sub (by decide +kernel) hW) hB0 (ct_X_swap_20081 (fBz h0 hB0) (by omega) (by first | exact ⟨Int.le_trans (by decide) (Int.le_trans (Int.le_refl _) hz4.1), Int.le_trans (Int.le_trans hz4.2 (Int.le_refl _)) (by decide)⟩ | omega) (by first | exact ⟨Int.le_trans (by decide) (Int.le_trans (Int.le_refl _) hz7.1), Int.le_trans (Int.le_trans hz7.2 (Int.le_refl _)) (by decide)⟩ | omega)) ?_
          rintro IhB10 _ hB10 fhB10 ⟨z9, rfl, hz9, g0z9, g1z9⟩
          refine And.intro (True.intro) ?_
          exact ⟨_, rfl, by omega, (by first | exact Or.inl ⟨by omega, g0z9, g1z9⟩ | exact Or.inr ⟨by omega, rfl, by omega⟩)⟩
        · intro c11
          refine And.intro (True.intro) ?_
          exact ⟨_, rfl, by omega, (by first | exact Or.inl ⟨by omega, g0z9, g1z9⟩ | exact Or.inr ⟨by omega, rfl, by omega⟩)⟩
set_option maxRecDepth 8000 in
theorem ct_M_isTest_9b7ec {I : fH} {x0 : Int} (h0 : fB bsJ I) (ha0 : ((-2147483648) ≤ x0 ∧ x0 ≤ 2147483647)) : fC ρ base n F xTc vwCl xTys D dA la gJ (fbz bsJ znJ (fKc []) I) xm_446 [.inl x0] I (fun _ r => ∃ z, r = some (.inl z) ∧ (((z = 1 ∧ 0 ≤ x0 ∧ x0 ≤ 7) ∨ z = 0) ∧ (z = 0 → ¬ (0 ≤ x0 ∧ x0 ≤ 7)))) := by
  have hW : fzs [] (fKc []) := fKc_ok _
  refine f_meth (rb := rbJ) (J := []) 1 400 xG xin_446 x6_446 okJ (fB_self h0) ?_ ?_
  · exact fun q h => absurd h List.not_mem_nil
  · have hB0 := fB_self (zn := znJ) (K := fKc []) h0
    refine And.intro (by first | exact fi_ ha0.1 ha0.2 rfl | omega) ?_
    refine Exists.intro xm_238 (And.intro mi_238 (And.intro ⟨rfl, rfl, rfl, rfl⟩ (And.intro True.intro ?_)))
    refine fcallp hB0 (ct_M_isIn_27230 (fBz h0 hB0) (by first | exact ⟨ha0.1, ha0.2⟩ | omega) (by first | exact ⟨by decide, by decide⟩ | omega) (by first | exact ⟨by decide, by decide⟩ | omega)) ?_
    rintro _ ⟨z1, rfl, hz1⟩
    refine And.intro (⟨by omega, by omega⟩) ?_
    exact ⟨_, rfl, by omega⟩
set_option maxRecDepth 8000 in
theorem ct_M_isFault_f748c {I : fH} {x0 : Int} (h0 : fB bsJ I) (ha0 : ((-2147483648) ≤ x0 ∧ x0 ≤ 2147483647)) : fC ρ base n F xTc vwCl xTys D dA la gJ (fbz bsJ znJ (fKc []) I) xm_447 [.inl x0] I (fun _ r => ∃ z, r = some (.inl z) ∧ (((z = 1 ∧ 0 ≤ x0 ∧ x0 ≤ 11) ∨ z = 0) ∧ (z = 0 → ¬ (0 ≤ x0 ∧ x0 ≤ 11)))) := by
  have hW : fzs [] (fKc []) := fKc_ok _
  refine f_meth (rb := rbJ) (J := []) 1 400 xG xin_447 x6_447 okJ (fB_self h0) ?_ ?_
  · exact fun q h => absurd h List.not_mem_nil
  · have hB0 := fB_self (zn := znJ) (K := fKc []) h0
    refine And.intro (by first | exact fi_ ha0.1 ha0.2 rfl | omega) ?_
    refine Exists.intro xm_238 (And.intro mi_238 (And.intro ⟨rfl, rfl, rfl, rfl⟩ (And.intro True.intro ?_)))
    refine fcallp hB0 (ct_M_isIn_27230 (fBz h0 hB0) (by first | exact ⟨ha0.1, ha0.2⟩ | omega) (by first | exact ⟨by decide, by decide⟩ | omega) (by first | exact ⟨by decide, by decide⟩ | omega)) ?_
    rintro _ ⟨z1, rfl, hz1⟩
    refine And.intro (⟨by omega, by omega⟩) ?_
    exact ⟨_, rfl, by omega⟩
set_option maxRecDepth 8000 in
theorem ct_M_put_27229 {I : fH} {x1 : Int} {x2 : Int} (h0 : fB bsJ I) (ha1 : ((4400 ≤ x1 ∧ x1 ≤ 4495) ∧ (x1 - 4400) % 12 ≤ 11)) (ha2 : (0 ≤ x2 ∧ x2 ≤ 3)) : fC ρ base n F xTc vwCl xTys D dA la gJ (fbz bsJ znJ (fKc wz_663b8) I) xm_242 [.inr (.inr (some 740)), .inl x1, .inl x2] I (fun I' r => ∃ z, r = some (.inl z) ∧ (0 ≤ z ∧ z ≤ 3) ∧ (I' = fupd I 741 x1.toNat x2) ∧ (z = I 741 x1.toNat)) := by
  have hW : fzs wz_663b8 (fKc wz_663b8) := fKc_ok _
  refine f_meth (rb := rbJ) (J := []) 1 400 xG xin_242 x6_242 okJ (fB_self h0) ?_ ?_
  · exact fun q h => absurd h List.not_mem_nil
  · have hB0 := fB_self (zn := znJ) (K := fKc wz_663b8) h0
    refine And.intro ⟨rfl, by decide, by decide⟩ ?_
    refine fload rL_741_741_4400_4495_12_11 h0 hB0 (by omega) ?_
    intro z1 lz1 uz1 qz1
    refine And.intro ⟨rfl, by decide, by decide⟩ ?_
    refine fstore rS_741_741_4400_4495_12_11 (fzs_sub (by decide +kernel) hW) (by omega) (by first | exact ⟨ha2.1, ha2.2⟩ | omega) ?_
    intro IhB2 ehB2 hB2
    have t3 := fup_self ehB2
    refine And.intro (True.intro) ?_
    exact ⟨_, rfl, (by first | exact ⟨lz1, uz1⟩ | omega), ehB2, qz1⟩
set_option maxRecDepth 8000 in
theorem ct_M_shows_19c07 {I : fH} {x1 : Int} {x2 : Int} {x3 : Int} (h0 : fB bsJ I) (ha1 : ((-2147483648) ≤ x1 ∧ x1 ≤ 2147483647)) (ha2 : ((-2147483648) ≤ x2 ∧ x2 ≤ 2147483647)) (ha3 : ((-2147483648) ≤ x3 ∧ x3 ≤ 2147483647)) : fC ρ base n F xTc vwCl xTys D dA la gJ (fbz bsJ znJ (fKc wz_663b8) I) xm_445 [.inr (.inr (some 740)), .inl x1, .inl x2, .inl x3] I (fun I' r => ∃ z, r = some (.inl z) ∧ ((0 ≤ z ∧ z ≤ 3) ∨ z = (-1000000001)) ∧ (((0 ≤ x1 ∧ x1 ≤ 7 ∧ 0 ≤ x2 ∧ x2 ≤ 11 ∧ 0 ≤ x3 ∧ x3 ≤ 3) ∧ I' = fupd I 741 (4400 + 12 * x1 + x2).toNat x3 ∧ z = I 741 (4400 + 12 * x1 + x2).toNat) ∨ (¬ (0 ≤ x1 ∧ x1 ≤ 7 ∧ 0 ≤ x2 ∧ x2 ≤ 11 ∧ 0 ≤ x3 ∧ x3 ≤ 3) ∧ I' = I ∧ z = (-1000000001)))) := by
  have hW : fzs wz_663b8 (fKc wz_663b8) := fKc_ok _
  refine f_meth (rb := rbJ) (J := []) 1 400 xG xin_445 x6_445 okJ (fB_self h0) ?_ ?_
  · exact fun q h => absurd h List.not_mem_nil
  · have hB0 := fB_self (zn := znJ) (K := fKc wz_663b8) h0
    refine Exists.intro xm_446 (And.intro mi_446 (And.intro ⟨rfl, rfl, rfl, rfl⟩ (And.intro True.intro ?_)))
    refine fcallp hB0 (ct_M_isTest_9b7ec (fBz h0 hB0) (by first | exact ⟨ha1.1, ha1.2⟩ | omega)) ?_
    rintro _ ⟨z1, rfl, hz1⟩
    refine And.intro (by omega) (And.intro ?_ ?_)
    · intro c2
      refine And.intro (True.intro) ?_
      exact ⟨_, rfl, by omega, (by first | exact Or.inl ⟨by omega, g0nil0.trans (fupd_ix (by omega)), g1nil0.trans (fld_ix (by omega))⟩ | exact Or.inr ⟨by omega, rfl, by omega⟩)⟩
    · intro c3
      refine Exists.intro xm_447 (And.intro mi_447 (And.intro ⟨rfl, rfl, rfl, rfl⟩ (And.intro True.intro ?_)))
      refine fcallp hB0 (ct_M_isFault_f748c (fBz h0 hB0) (by first | exact ⟨ha2.1, ha2.2⟩ | omega)) ?_
      rintro _ ⟨z4, rfl, hz4⟩
      refine And.intro (by omega) (And.intro ?_ ?_)
      · intro c5
        refine And.intro (True.intro) ?_
        exact ⟨_, rfl, by omega, (by first | exact Or.inl ⟨by omega, g0nil0.trans (fupd_ix (by omega)), g1nil0.trans (fld_ix (by omega))⟩ | exact Or.inr ⟨by omega, rfl, by omega⟩)⟩
      · intro c6
        refine And.intro (by first | exact fi_ ha3.1 ha3.2 rfl | omega) ?_
        refine Exists.intro xm_238 (And.intro mi_238 (And.intro ⟨rfl, rfl, rfl, rfl⟩ (And.intro True.intro ?_)))
        refine fcallp hB0 (ct_M_isIn_27230 (fBz h0 hB0) (by first | exact ⟨ha3.1, ha3.2⟩ | omega) (by first | exact ⟨by decide, by decide⟩ | omega) (by first | exact ⟨by decide, by decide⟩ | omega)) ?_
        rintro _ ⟨z7, rfl, hz7⟩
        refine And.intro (by omega) (And.intro ?_ ?_)
        · intro c8
          refine And.intro (True.intro) ?_
          exact ⟨_, rfl, by omega, (by first | exact Or.inl ⟨by omega, g0nil0.trans (fupd_ix (by omega)), g1nil0.trans (fld_ix (by omega))⟩ | exact Or.inr ⟨by omega, rfl, by omega⟩)⟩
        · intro c9
          refine Exists.intro xm_242 (And.intro mi_242 (And.intro ⟨rfl, rfl, rfl, rfl⟩ (And.intro rfl ?_)))
          refine fcall _ h0 (fzs_sub (by decide +kernel) hW) hB0 (ct_M_put_27229 (fBz h0 hB0) (by omega) (by first | exact ⟨Int.le_trans (by decide) (Int.le_trans (Int.le_refl _) hz7.1), Int.le_trans (Int.le_trans hz7.2 (Int.le_refl _)) (by decide)⟩ | omega)) ?_
          rintro IhB11 _ hB11 fhB11 ⟨z10, rfl, hz10, g0z10, g1z10⟩
          refine And.intro (True.intro) ?_
          exact ⟨_, rfl, by omega, (by first | exact Or.inl ⟨by omega, g0z10.trans (fupd_ix (by omega)), g1z10.trans (fld_ix (by omega))⟩ | exact Or.inr ⟨by omega, rfl, by omega⟩)⟩
abbrev jc_Desk_agrees_6299a_2 (x1 : Int) : Nat → fL → List fV → fH → Prop := fun m lv st I => ∃ (y1 : Int) (y2 : Int), lv = [(0, .inr (.inr (some 211))), (1, .inl y1), (2, .inl y2)] ∧ st = [] ∧ (((0 ≤ y1 ∧ y1 ≤ 11) ∧ (0 ≤ y2 ∧ y2 ≤ 8) ∧ (y1 = x1)) ∧ (agP (I 221) (fun t => I (213 + t)) y1.toNat y2.toNat)) ∧ m = (1 + 1 * (8 - y2) : Int).toNat
set_option maxRecDepth 8000 in
theorem ct_Desk_agrees_6299a {I : fH} {x1 : Int} (h0 : fB bsJ I) (ha1 : (0 ≤ x1 ∧ x1 ≤ 11)) : fC ρ base n F xTc vwCl xTys D dA la gJ (fbz bsJ znJ (fKc []) I) xm_172 [.inr (.inr (some 211)), .inl x1] I (fun _ r => ∃ z, r = some (.inl z) ∧ (0 ≤ z ∧ z ≤ 1) ∧ ((z = 1 ∧ agP (I 221) (fun t => I (213 + t)) x1.toNat 8) ∨ (z = 0 ∧ ¬ agP (I 221) (fun t => I (213 + t)) x1.toNat 8))) := by
  have hW : fzs [] (fKc []) := fKc_ok _
  refine f_meth (rb := rbJ) (J := [(2, (jc_Desk_agrees_6299a_2 x1))]) 10 400 xG xin_172 x6_172 okJ (fB_self h0) ?_ ?_
  · refine List.forall_mem_cons.mpr ⟨?_, fun q h => absurd h List.not_mem_nil⟩
    · rintro m _ _ I1 hB1 ⟨y1, y2, rfl, rfl, ⟨hb, hx0⟩, hm⟩
      have eI : I1 = I := fFr_nil (fFr_of hB1)
      refine And.intro (And.intro (by first | exact fi_ hb.2.1.1 hb.2.1.2 rfl | omega) (by first | exact ⟨by decide, by decide⟩ | omega)) (And.intro ?_ ?_)
      · intro c1
        refine And.intro (⟨by decide, by decide⟩) ?_
        exact ⟨_, rfl, (by first | exact ⟨by decide, by decide⟩ | omega), (Or.inl ⟨by omega, by have q := hx0; rw [eI, show y1 = x1 by omega, show y2.toNat = 8 by omega] at q; exact q⟩)⟩
      · intro c2
        refine And.intro ⟨rfl, by decide, by decide⟩ ?_
        refine fload1 rL_221_221_0_7_1_0 h0 hB1 ⟨by decide, by decide⟩ (by first | exact ⟨hb.2.1.1, Int.le_trans (Int.le_sub_one_of_lt (Int.lt_of_lt_of_le c2 (Int.le_refl _))) (by decide)⟩ | omega) ?_
        intro z3 lz3 uz3 qz3
        refine And.intro (And.intro (by first | exact fi_ lz3 uz3 rfl | omega) (by first | exact ⟨by decide, by decide⟩ | omega)) (And.intro ?_ ?_)
        · intro c4
          exact fcutJ (I := I1) (j := (jc_Desk_agrees_6299a_2 x1)) (lv' := [(0, .inr (.inr (some 211))), (1, .inl _), (2, .inl _)]) (And.intro rfl (And.intro rfl (And.intro rfl True.intro))) ⟨_, _, rfl, rfl, ⟨by omega, (agP_go hx0 (by omega) (by omega) (by first | exact Or.inr (qnil0.symm.trans ((by omega : nil0 = nil0).trans qnil0)) | exact Or.inl (by rw [← qz3]; omega)))⟩, rfl⟩ (by omega)
        · intro c5
          refine And.intro ⟨rfl, by decide, by decide⟩ ?_
          refine fload1 rL_221_221_0_7_1_0 h0 hB1 ⟨by decide, by decide⟩ (by first | exact ⟨hb.2.1.1, Int.le_trans (Int.le_sub_one_of_lt (Int.lt_of_lt_of_le c2 (Int.le_refl _))) (by decide)⟩ | omega) ?_
          intro z6 lz6 uz6 qz6
          refine And.intro ⟨rfl, by decide, by decide⟩ ?_
          refine And.intro ⟨rfl, by decide⟩ (And.intro (by first | exact ⟨hb.2.1.1, Int.lt_of_le_of_lt (Int.le_sub_one_of_lt (Int.lt_of_lt_of_le c2 (Int.le_refl _))) (by decide)⟩ | omega) ?_)
          refine fload rL_213_220_0_11_1_0 h0 hB1 (by omega) ?_
          intro z7 lz7 uz7 qz7
          refine And.intro (And.intro (by first | exact fi_ lz6 uz6 rfl | omega) (by first | exact fi_ lz7 uz7 rfl | omega)) (And.intro ?_ ?_)
          · intro c8
            exact fcutJ (I := I1) (j := (jc_Desk_agrees_6299a_2 x1)) (lv' := [(0, .inr (.inr (some 211))), (1, .inl _), (2, .inl _)]) (And.intro rfl (And.intro rfl (And.intro rfl True.intro))) ⟨_, _, rfl, rfl, ⟨by omega, (agP_go hx0 (by omega) (by omega) (by first | exact Or.inr (qz6.symm.trans ((by omega : z6 = z7).trans qz7)) | exact Or.inl (by rw [← qz3]; omega)))⟩, rfl⟩ (by omega)
          · intro c9
            refine And.intro (⟨by decide, by decide⟩) ?_
            exact ⟨_, rfl, (by first | exact ⟨by decide, by decide⟩ | omega), (Or.inr ⟨by omega, by rw [← eI, ← show y1 = x1 by omega]; exact agP_no (m := y2) (by omega) (by omega) (fun q => q.elim (fun q => by rw [← qz3] at q; omega) (fun q => by rw [← qz6, ← qz7] at q; omega))⟩)⟩
  · have hB0 := fB_self (zn := znJ) (K := fKc []) h0
    exact fcutJ (I := I) (j := (jc_Desk_agrees_6299a_2 x1)) (lv' := [(0, .inr (.inr (some 211))), (1, .inl _), (2, .inl _)]) (And.intro rfl (And.intro rfl (And.intro rfl True.intro))) ⟨_, _, rfl, rfl, ⟨by omega, (fun t ht => absurd ht (Nat.not_lt_zero _))⟩, rfl⟩ (by omega)
abbrev jc_Desk_leftFaults_e8455_4 : Nat → fL → List fV → fH → Prop := fun m lv st I => ∃ (y1 : Int) (y2 : Int), lv = [(0, .inr (.inr (some 211))), (1, .inl y1), (2, .inl y2)] ∧ st = [] ∧ ((((-2147483648) ≤ y1 ∧ y1 ≤ 2147483647) ∧ (0 ≤ y2 ∧ y2 ≤ 12)) ∧ (iI y1 = lfF (I 221) (fun t => I (213 + t)) y2.toNat)) ∧ m = (1 + 1 * (12 - y2) : Int).toNat
set_option maxRecDepth 8000 in
theorem ct_Desk_leftFaults_e8455 {I : fH}  (h0 : fB bsJ I)  : fC ρ base n F xTc vwCl xTys D dA la gJ (fbz bsJ znJ (fKc []) I) xm_171 [.inr (.inr (some 211))] I (fun _ r => ∃ z, r = some (.inl z) ∧ ((-2147483648) ≤ z ∧ z ≤ 2147483647) ∧ (iI z = lfF (I 221) (fun t => I (213 + t)) 12)) := by
  have hW : fzs [] (fKc []) := fKc_ok _
  refine f_meth (rb := rbJ) (J := [(4, jc_Desk_leftFaults_e8455_4)]) 14 400 xG xin_171 x6_171 okJ (fB_self h0) ?_ ?_
  · refine List.forall_mem_cons.mpr ⟨?_, fun q h => absurd h List.not_mem_nil⟩
    · rintro m _ _ I1 hB1 ⟨y1, y2, rfl, rfl, ⟨hb, hx0⟩, hm⟩
      have eI : I1 = I := fFr_nil (fFr_of hB1)
      refine And.intro (And.intro (by first | exact fi_ hb.2.1 hb.2.2 rfl | omega) (by first | exact ⟨by decide, by decide⟩ | omega)) (And.intro ?_ ?_)
      · intro c1
        refine And.intro (True.intro) ?_
        exact ⟨_, rfl, (by first | exact ⟨hb.1.1, hb.1.2⟩ | omega), (by have q := hx0; rw [eI, show y2.toNat = 12 by omega] at q; exact q)⟩
      · intro c2
        refine Exists.intro xm_172 (And.intro mi_172 (And.intro ⟨rfl, rfl, rfl, rfl⟩ (And.intro rfl ?_)))
        refine fcallp hB1 (ct_Desk_agrees_6299a (fBz h0 hB1) (by first | exact ⟨hb.2.1, Int.le_trans (Int.le_sub_one_of_lt (Int.lt_of_lt_of_le c2 (Int.le_refl _))) (by decide)⟩ | omega)) ?_
        rintro _ ⟨z3, rfl, hz3, g0z3⟩
        refine And.intro (by omega) (And.intro ?_ ?_)
        · intro c4
          exact fcutJ (I := I1) (j := jc_Desk_leftFaults_e8455_4) (lv' := [(0, .inr (.inr (some 211))), (1, .inl _), (2, .inl _)]) (And.intro rfl (And.intro rfl (And.intro rfl True.intro))) ⟨_, _, rfl, rfl, ⟨by omega, (by rcases g0z3 with ⟨ga, gb⟩ | ⟨ga, gb⟩ <;> first | exact lf_yes hx0 (by omega) (by omega) gb enil0 enil0 | exact lf_no hx0 (by omega) (by omega) gb | (exfalso; omega))⟩, rfl⟩ (by omega)
        · intro c5
          intro z6 hz6 ez6
          intro z7 hz7 ez7
          exact fcutJ (I := I1) (j := jc_Desk_leftFaults_e8455_4) (lv' := [(0, .inr (.inr (some 211))), (1, .inl _), (2, .inl _)]) (And.intro rfl (And.intro rfl (And.intro rfl True.intro))) ⟨_, _, rfl, rfl, ⟨by omega, (by rcases g0z3 with ⟨ga, gb⟩ | ⟨ga, gb⟩ <;> first | exact lf_yes hx0 (by omega) (by omega) gb ez6 ez7 | exact lf_no hx0 (by omega) (by omega) gb | (exfalso; omega))⟩, rfl⟩ (by omega)
  · have hB0 := fB_self (zn := znJ) (K := fKc []) h0
    exact fcutJ (I := I) (j := jc_Desk_leftFaults_e8455_4) (lv' := [(0, .inr (.inr (some 211))), (1, .inl _), (2, .inl _)]) (And.intro rfl (And.intro rfl (And.intro rfl True.intro))) ⟨_, _, rfl, rfl, ⟨by omega, iI_0⟩, rfl⟩ (by omega)
set_option maxRecDepth 8000 in
theorem ct_Integer_bitCount_ccf26 {I : fH} {x0 : Int} (h0 : fB bsJ I) (ha0 : ((-2147483648) ≤ x0 ∧ x0 ≤ 2147483647)) : fC ρ base n F xTc vwCl xTys D dA la gJ (fbz bsJ znJ (fKc []) I) xm_499 [.inl x0] I (fun _ r => ∃ z, r = some (.inl z) ∧ (0 ≤ z ∧ z ≤ 63) ∧ (iI z = bc32 (iI x0))) := by
  have hW : fzs [] (fKc []) := fKc_ok _
  refine f_meth (rb := rbJ) (J := []) 1 400 xG xin_499 x6_499 okJ (fB_self h0) ?_ ?_
  · exact fun q h => absurd h List.not_mem_nil
  · have hB0 := fB_self (zn := znJ) (K := fKc []) h0
    intro z1 hz1 ez1
    intro z2 hz2 ez2 bz2
    have bz2 := bz2 (by omega)
    intro z3 hz3 ez3 bz3
    clear bz3
    intro z4 hz4 ez4 bz4
    have bz4 := bz4 (by omega)
    intro z5 hz5 ez5
    intro z6 hz6 ez6 bz6
    have bz6 := bz6 (by omega)
    intro z7 hz7 ez7
    intro z8 hz8 ez8 bz8
    clear bz8
    intro z9 hz9 ez9 bz9
    have bz9 := bz9 (by omega)
    intro z10 hz10 ez10
    intro z11 hz11 ez11 bz11
    clear bz11
    intro z12 hz12 ez12
    intro z13 hz13 ez13 bz13
    clear bz13
    intro z14 hz14 ez14 bz14
    have bz14 := bz14 (by omega)
    refine And.intro (True.intro) ?_
    exact ⟨_, rfl, (by first | exact ⟨bz14.1, bz14.2⟩ | omega), (by unfold bc32; simp only []; rw [← (show iI z1 = xio 8 (iI x0) (iI 1) from ez1), ← (show iI z2 = iI z1 &&& iI 1431655765 from ez2), ← (show iI z3 = iI x0 - iI z2 from ez3), ← (show iI z5 = xio 8 (iI z3) (iI 2) from ez5), ← (show iI z4 = iI z3 &&& iI 858993459 from ez4), ← (show iI z6 = iI z5 &&& iI 858993459 from ez6)]; (first | (rw [← (show iI nil0 = iI z4 + iI z6 from enil0), ← (show iI z7 = xio 8 (iI nil0) (iI 4) from ez7), ← (show iI z8 = iI nil0 + iI z7 from ez8)]) | (rw [iI_add, ← (show iI z7 = xio 8 (iI (z4 + z6)) (iI 4) from ez7), ← (show iI z8 = iI (z4 + z6) + iI z7 from ez8)])); rw [← (show iI z9 = iI z8 &&& iI 252645135 from ez9), ← (show iI z10 = xio 8 (iI z9) (iI 8) from ez10), ← (show iI z11 = iI z9 + iI z10 from ez11), ← (show iI z12 = xio 8 (iI z11) (iI 16) from ez12), ← (show iI z13 = iI z11 + iI z12 from ez13)]; exact ez14)⟩
set_option maxRecDepth 8000 in
theorem ct_X_tested_c945d {I : fH} {x1 : Int} {x2 : Int} (h0 : fB bsJ I) (ha1 : ((-2147483648) ≤ x1 ∧ x1 ≤ 2147483647)) (ha2 : ((-2147483648) ≤ x2 ∧ x2 ≤ 2147483647)) : fC ρ base n F xTc vwCl xTys D dA la gJ (fbz bsJ znJ (fKc wz_ae6a8) I) xm_170 [.inr (.inr (some 0)), .inl x1, .inl x2] I (fun I' r => ∃ z, r = some (.inl z) ∧ ((0 ≤ z ∧ z ≤ 89) ∨ z = (-1000000001)) ∧ (((0 ≤ x1 ∧ x1 ≤ 7 ∧ (-1) ≤ x2 ∧ x2 ≤ 3) ∧ I' = fupd I 221 x1.toNat x2) ∨ (¬ (0 ≤ x1 ∧ x1 ≤ 7 ∧ (-1) ≤ x2 ∧ x2 ≤ 3) ∧ I' = I ∧ z = (-1000000001))) ∧ (0 ≤ x1 ∧ x1 ≤ 7 ∧ (-1) ≤ x2 ∧ x2 ≤ 3 → lfX (I' 221) (fun t => I' (213 + t)) z)) := by
  have hW : fzs wz_ae6a8 (fKc wz_ae6a8) := fKc_ok _
  refine f_meth (rb := rbJ) (J := []) 1 400 xG xin_170 x6_170 okJ (fB_self h0) ?_ ?_
  · exact fun q h => absurd h List.not_mem_nil
  · have hB0 := fB_self (zn := znJ) (K := fKc wz_ae6a8) h0
    refine Exists.intro xm_13 (And.intro mi_13 (And.intro ⟨rfl, rfl, rfl, rfl⟩ (And.intro True.intro ?_)))
    refine fcallp hB0 (ct_X_within_c27b1 (fBz h0 hB0) (by first | exact ⟨ha1.1, ha1.2⟩ | omega) (by first | exact ⟨by decide, by decide⟩ | omega) (by first | exact ⟨by decide, by decide⟩ | omega)) ?_
    rintro _ ⟨z1, rfl, hz1⟩
    refine And.intro (by omega) (And.intro ?_ ?_)
    · intro c2
      refine And.intro (True.intro) ?_
      exact ⟨_, rfl, by omega, (by first | exact Or.inl ⟨by omega, enil0⟩ | exact Or.inr ⟨by omega, rfl, by omega⟩), (fun q => absurd q (by omega))⟩
    · intro c3
      refine Exists.intro xm_13 (And.intro mi_13 (And.intro ⟨rfl, rfl, rfl, rfl⟩ (And.intro True.intro ?_)))
      refine fcallp hB0 (ct_X_within_c27b1 (fBz h0 hB0) (by first | exact ⟨ha2.1, ha2.2⟩ | omega) (by first | exact ⟨by decide, by decide⟩ | omega) (by first | exact ⟨by decide, by decide⟩ | omega)) ?_
      rintro _ ⟨z4, rfl, hz4⟩
      refine And.intro (by omega) (And.intro ?_ ?_)
      · intro c5
        refine And.intro ⟨rfl, by decide, by decide⟩ ?_
        refine And.intro ⟨rfl, by decide, by decide⟩ ?_
        refine fstore1 rS_221_221_0_7_1_0 (fzs_sub (by decide +kernel) hW) ⟨by decide, by decide⟩ (by first | exact ⟨Int.le_trans (by decide) (Int.le_trans (Int.le_refl _) hz1.1), Int.le_trans (Int.le_trans hz1.2 (Int.le_refl _)) (by decide)⟩ | omega) (by first | exact ⟨Int.le_trans (by decide) (Int.le_trans (Int.le_refl _) hz4.1), Int.le_trans (Int.le_trans hz4.2 (Int.le_refl _)) (by decide)⟩ | omega) ?_
        intro IhB6 ehB6 hB6
        have t7 := fup_self ehB6
        refine And.intro ⟨rfl, by decide, by decide⟩ ?_
        refine Exists.intro xm_171 (And.intro mi_171 (And.intro ⟨rfl, rfl, rfl, rfl⟩ (And.intro rfl ?_)))
        refine fcallp hB6 (ct_Desk_leftFaults_e8455 (fBz h0 hB6)) ?_
        rintro _ ⟨z8, rfl, hz8, g0z8⟩
        refine Exists.intro xm_499 (And.intro mi_499 (And.intro ⟨rfl, rfl, rfl, rfl⟩ (And.intro True.intro ?_)))
        refine fcallp hB6 (ct_Integer_bitCount_ccf26 (fBz h0 hB6) (by first | exact ⟨hz8.1, hz8.2⟩ | omega)) ?_
        rintro _ ⟨z9, rfl, hz9, g0z9⟩
        refine And.intro (True.intro) ?_
        exact ⟨_, rfl, by omega, (by first | exact Or.inl ⟨by omega, ehB6⟩ | exact Or.inr ⟨by omega, rfl, by omega⟩), (fun _ => lfX_mk (by omega) g0z8 g0z9)⟩
      · intro c10
        refine And.intro (True.intro) ?_
        exact ⟨_, rfl, by omega, (by first | exact Or.inl ⟨by omega, ehB6⟩ | exact Or.inr ⟨by omega, rfl, by omega⟩), (fun q => absurd q (by omega))⟩
end CT

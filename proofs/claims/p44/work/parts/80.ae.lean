set_option linter.all false
/-! contracts (written by gen95.py) -/
theorem x6_106 : f60c xTc xTys xm_106 = true := by decide +kernel
theorem x6_104 : f60c xTc xTys xm_104 = true := by decide +kernel
abbrev wz_7e5e0 : List Nat := [178, 179, 180, 181, 207, 208, 10404]
theorem x6_103 : f60c xTc xTys xm_103 = true := by decide +kernel
theorem x6_309 : f60c xTc xTys xm_309 = true := by decide +kernel
abbrev wz_d6a43 : List Nat := [748, 749, 20008, 20400, 20401, 20402, 20403, 20404]
theorem x6_308 : f60c xTc xTys xm_308 = true := by decide +kernel
abbrev wz_b3a7d : List Nat := [700, 11701]
theorem x6_109 : f60c xTc xTys xm_109 = true := by decide +kernel
theorem fb_699_1 : bsJ 699 1 = (0, 96) := by decide +kernel
theorem rS_700_700_0_95_1_0 : frS gJ bsJ znJ [700] 100 ((700, 700), (0, 95), (1, 0), (0, 255)) := frS_of (by decide +kernel)
theorem x6_108 : f60c xTc xTys xm_108 = true := by decide +kernel
theorem x6_107 : f60c xTc xTys xm_107 = true := by decide +kernel
abbrev wz_68031 : List Nat := [747, 12208]
theorem x6_310 : f60c xTc xTys xm_310 = true := by decide +kernel
theorem fb_740_8 : bsJ 740 8 = (0, 96) := by decide +kernel
theorem rS_747_747_0_95_1_0 : frS gJ bsJ znJ [747] 100 ((747, 747), (0, 95), (1, 0), ((-2147483648), 2147483647)) := frS_dflt (by decide) (by decide +kernel)
abbrev wz_6427d : List Nat := [11701]
theorem x6_110 : f60c xTc xTys xm_110 = true := by decide +kernel
abbrev wz_9d31e : List Nat := [12208]
theorem x6_311 : f60c xTc xTys xm_311 = true := by decide +kernel
theorem x6_116 : f60c xTc xTys xm_116 = true := by decide +kernel
theorem x6_130 : f60c xTc xTys xm_130 = true := by decide +kernel
theorem x6_129 : f60c xTc xTys xm_129 = true := by decide +kernel
abbrev wz_a3f2e : List Nat := [701, 11704]
theorem x6_123 : f60c xTc xTys xm_123 = true := by decide +kernel
theorem fb_699_4 : bsJ 699 4 = (0, 96) := by decide +kernel
theorem rS_701_701_0_95_1_0 : frS gJ bsJ znJ [701] 100 ((701, 701), (0, 95), (1, 0), ((-2147483648), 2147483647)) := frS_dflt (by decide) (by decide +kernel)
abbrev wz_0c5eb : List Nat := [701, 11704, 11707, 11709]
theorem x6_128 : f60c xTc xTys xm_128 = true := by decide +kernel
theorem fb_699_7 : bsJ 699 7 = (0, 96) := by decide +kernel
theorem rL_702_702_0_95_1_0 : frL gJ bsJ 100 ((702, 702), (0, 95), (1, 0), ((-2147483648), 2147483647)) := frL_hull (by decide) (by decide +kernel)
theorem fb_699_9 : bsJ 699 9 = ((-2147483648), 2147483647) := by decide +kernel
abbrev wz_4372f : List Nat := [702, 11707]
theorem x6_125 : f60c xTc xTys xm_125 = true := by decide +kernel
theorem rS_702_702_0_95_1_0 : frS gJ bsJ znJ [702] 100 ((702, 702), (0, 95), (1, 0), ((-2147483648), 2147483647)) := frS_dflt (by decide) (by decide +kernel)
abbrev wz_b7a7b : List Nat := [701, 11704, 11707, 11708, 11709]
theorem x6_127 : f60c xTc xTys xm_127 = true := by decide +kernel
theorem fb_699_8 : bsJ 699 8 = ((-2147483648), 2147483647) := by decide +kernel
abbrev wz_dd461 : List Nat := [701, 702, 11704, 11707, 11708, 11709, 11710]
theorem x6_126 : f60c xTc xTys xm_126 = true := by decide +kernel
theorem fb_699_10 : bsJ 699 10 = (0, 1) := by decide +kernel
theorem x6_113 : f60c xTc xTys xm_113 = true := by decide +kernel
theorem rL_700_700_0_95_1_0 : frL gJ bsJ 100 ((700, 700), (0, 95), (1, 0), (0, 255)) := frL_of (by decide +kernel)
theorem x6_115 : f60c xTc xTys xm_115 = true := by decide +kernel
theorem x6_114 : f60c xTc xTys xm_114 = true := by decide +kernel
abbrev wz_7c541 : List Nat := [701, 11704, 11705, 11710]
theorem x6_122 : f60c xTc xTys xm_122 = true := by decide +kernel
theorem fb_699_5 : bsJ 699 5 = ((-2147483648), 2147483647) := by decide +kernel
theorem x6_124 : f60c xTc xTys xm_124 = true := by decide +kernel
abbrev wz_84be8 : List Nat := [701, 702, 11704, 11705, 11707, 11708, 11709, 11710]
theorem x6_120 : f60c xTc xTys xm_120 = true := by decide +kernel
theorem fb_699_2 : bsJ 699 2 = ((-2147483648), 2147483647) := by decide +kernel
abbrev wz_4a62a : List Nat := [701, 702, 11702, 11704, 11705, 11707, 11708, 11709, 11710]
theorem x6_112 : f60c xTc xTys xm_112 = true := by decide +kernel
abbrev wz_5dd44 : List Nat := [188, 189, 190, 191, 192, 193, 10506]
theorem x6_131 : f60c xTc xTys xm_131 = true := by decide +kernel
theorem rS_188_188_0_11_1_0 : frS gJ bsJ znJ [188] 100 ((188, 188), (0, 11), (1, 0), ((-2147483648), 2147483647)) := frS_dflt (by decide) (by decide +kernel)
theorem rS_189_189_0_11_1_0 : frS gJ bsJ znJ [189] 100 ((189, 189), (0, 11), (1, 0), ((-2147483648), 2147483647)) := frS_dflt (by decide) (by decide +kernel)
theorem rS_190_190_0_11_1_0 : frS gJ bsJ znJ [190] 100 ((190, 190), (0, 11), (1, 0), ((-2147483648), 2147483647)) := frS_dflt (by decide) (by decide +kernel)
theorem rS_191_191_0_11_1_0 : frS gJ bsJ znJ [191] 100 ((191, 191), (0, 11), (1, 0), ((-2147483648), 2147483647)) := frS_dflt (by decide) (by decide +kernel)
theorem rS_192_192_0_11_1_0 : frS gJ bsJ znJ [192] 100 ((192, 192), (0, 11), (1, 0), (0, 96)) := frS_of (by decide +kernel)
abbrev wz_8696f : List Nat := [188, 189, 190, 191, 192, 193, 701, 702, 10506, 11701, 11702, 11704, 11705, 11707, 11708, 11709, 11710]
theorem x6_111 : f60c xTc xTys xm_111 = true := by decide +kernel
theorem x6_315 : f60c xTc xTys xm_315 = true := by decide +kernel
theorem rL_747_747_0_95_1_0 : frL gJ bsJ 100 ((747, 747), (0, 95), (1, 0), ((-2147483648), 2147483647)) := frL_hull (by decide) (by decide +kernel)
theorem x6_316 : f60c xTc xTys xm_316 = true := by decide +kernel
abbrev wz_1c18d : List Nat := [12209, 12210, 12211, 12212, 12213]
theorem x6_314 : f60c xTc xTys xm_314 = true := by decide +kernel
theorem fb_740_10 : bsJ 740 10 = (0, 96) := by decide +kernel
theorem fb_740_9 : bsJ 740 9 = (0, 96) := by decide +kernel
theorem fb_740_11 : bsJ 740 11 = ((-2147483648), 2147483647) := by decide +kernel
theorem fb_740_13 : bsJ 740 13 = ((-2147483648), 2147483647) := by decide +kernel
theorem fb_740_12 : bsJ 740 12 = ((-2147483648), 2147483647) := by decide +kernel
theorem x6_423 : f60c xTc xTys xm_423 = true := by decide +kernel
abbrev wz_6dafe : List Nat := [12216, 20605, 20840]
theorem x6_421 : f60c xTc xTys xm_421 = true := by decide +kernel
theorem fb_740_17 : bsJ 740 17 = ((-2147483648), 2147483647) := by decide +kernel
theorem fb_740_16 : bsJ 740 16 = (0, 97) := by decide +kernel
theorem rS_741_741_1215_3609_200_194 : frS gJ bsJ znJ [20605] 100 ((741, 741), (1215, 3609), (200, 194), ((-2147483648), 2147483647)) := frS_of (by decide +kernel)
theorem rS_741_741_4700_4899_1_0 : frS gJ bsJ znJ [20840] 100 ((741, 741), (4700, 4899), (1, 0), ((-2147483648), 2147483647)) := frS_of (by decide +kernel)
section CT
variable {ρ : Nat → Int32} {base n : Nat} {F : Nat → Prop} {D : va_G} {dA : Nat → ClassId} {la : Launch}
abbrev jc_People_needs_d1cfd_4 : Nat → fL → List fV → fH → Prop := fun m lv st I => ∃ (y1 : Int) (y2 : Int), lv = [(0, .inr (.inr (some 177))), (1, .inl y1), (2, .inl y2)] ∧ st = [] ∧ ((((-2147483648) ≤ y1 ∧ y1 ≤ 2147483647) ∧ (0 ≤ y2 ∧ y2 ≤ 24))) ∧ m = (1 + 1 * (24 - y2) : Int).toNat
set_option maxRecDepth 8000 in
theorem ct_People_needs_d1cfd {I : fH}  (h0 : fB bsJ I)  : fC ρ base n F xTc vwCl xTys D dA la gJ (fbz bsJ znJ (fKc []) I) xm_106 [.inr (.inr (some 177))] I (fun _ r => ∃ z, r = some (.inl z) ∧ ((-2147483648) ≤ z ∧ z ≤ 2147483647)) := by
  have hW : fzs [] (fKc []) := fKc_ok _
  refine f_meth (rb := rbJ) (J := [(4, jc_People_needs_d1cfd_4)]) 26 400 xG xin_106 x6_106 okJ (fB_self h0) ?_ ?_
  · refine List.forall_mem_cons.mpr ⟨?_, fun q h => absurd h List.not_mem_nil⟩
    · rintro m _ _ I1 hB1 ⟨y1, y2, rfl, rfl, hb, hm⟩
      refine And.intro ⟨rfl, by decide, by decide⟩ (fgetf fb_177_4 h0 hB1 ?_)
      intro z1 lz1 uz1 qz1
      refine And.intro (And.intro (by first | exact fi_ hb.2.1 hb.2.2 rfl | omega) (by first | exact fi_ lz1 uz1 rfl | omega)) (And.intro ?_ ?_)
      · intro c2
        refine And.intro (True.intro) ?_
        exact ⟨_, rfl, (by first | exact ⟨hb.1.1, hb.1.2⟩ | omega)⟩
      · intro c3
        refine Exists.intro xm_21 (And.intro mi_21 (And.intro ⟨rfl, rfl, rfl, rfl⟩ (And.intro rfl ?_)))
        refine fcallp hB1 (ct_People_isDead_edb17 (fBz h0 hB1) (by first | exact ⟨hb.2.1, Int.le_trans (Int.le_sub_one_of_lt (Int.lt_of_lt_of_le c3 uz1)) (by decide)⟩ | omega)) ?_
        rintro _ ⟨z4, rfl, hz4⟩
        refine And.intro (by omega) (And.intro ?_ ?_)
        · intro c5
          exact fcutJ (I := I1) (j := jc_People_needs_d1cfd_4) (lv' := [(0, .inr (.inr (some 177))), (1, .inl _), (2, .inl _)]) (And.intro rfl (And.intro rfl (And.intro rfl True.intro))) ⟨_, _, rfl, rfl, by omega, rfl⟩ (by omega)
        · intro c6
          refine Exists.intro xm_92 (And.intro mi_92 (And.intro ⟨rfl, rfl, rfl, rfl⟩ (And.intro rfl ?_)))
          refine fcallp hB1 (ct_People_needOf_69fc2 (fBz h0 hB1) (by first | exact ⟨hb.2.1, Int.le_trans (Int.le_sub_one_of_lt (Int.lt_of_lt_of_le c3 uz1)) (by decide)⟩ | omega)) ?_
          rintro _ ⟨z7, rfl, hz7⟩
          intro z8 hz8 ez8 bz8
          clear ez8
          clear bz8
          exact fcutJ (I := I1) (j := jc_People_needs_d1cfd_4) (lv' := [(0, .inr (.inr (some 177))), (1, .inl _), (2, .inl _)]) (And.intro rfl (And.intro rfl (And.intro rfl True.intro))) ⟨_, _, rfl, rfl, by omega, rfl⟩ (by omega)
  · have hB0 := fB_self (zn := znJ) (K := fKc []) h0
    exact fcutJ (I := I) (j := jc_People_needs_d1cfd_4) (lv' := [(0, .inr (.inr (some 177))), (1, .inl _), (2, .inl _)]) (And.intro rfl (And.intro rfl (And.intro rfl True.intro))) ⟨_, _, rfl, rfl, by omega, rfl⟩ (by omega)
set_option maxRecDepth 8000 in
theorem ct_Charter_mayBeBorn_dcbbd {I : fH}  (h0 : fB bsJ I)  : fC ρ base n F xTc vwCl xTys D dA la gJ (fbz bsJ znJ (fKc wz_7d09b) I) xm_104 [.inr (.inr (some 187)), .inr (.inr (some 1))] I (fun _ r => ∃ z, r = some (.inl z) ∧ (0 ≤ z ∧ z ≤ 1)) := by
  have hW : fzs wz_7d09b (fKc wz_7d09b) := fKc_ok _
  refine f_meth (rb := rbJ) (J := []) 1 400 xG xin_104 x6_104 okJ (fB_self h0) ?_ ?_
  · exact fun q h => absurd h List.not_mem_nil
  · have hB0 := fB_self (zn := znJ) (K := fKc wz_7d09b) h0
    refine And.intro ⟨rfl, by decide, by decide⟩ ?_
    refine Exists.intro xm_67 (And.intro mi_67 (And.intro ⟨rfl, rfl, rfl, rfl⟩ (And.intro rfl ?_)))
    refine fcallp hB0 (ct_People_living_beea0 (fBz h0 hB0)) ?_
    rintro _ ⟨z1, rfl, hz1⟩
    refine Exists.intro xm_30 (And.intro mi_30 (And.intro ⟨rfl, rfl, rfl, rfl⟩ (And.intro rfl ?_)))
    refine fcall _ h0 (fzs_sub (by decide +kernel) hW) hB0 (ct_Charter_put_c2709 (fBz h0 hB0) (by first | exact ⟨by decide, by decide⟩ | omega) (by first | exact ⟨hz1.1, hz1.2⟩ | omega)) ?_
    rintro IhB3 _ hB3 fhB3 rfl
    refine And.intro ⟨rfl, by decide, by decide⟩ ?_
    refine Exists.intro xm_105 (And.intro mi_105 (And.intro ⟨rfl, rfl, rfl, rfl⟩ (And.intro rfl ?_)))
    refine fcallp hB3 (ct_Works_gardenRates_79462 (fBz h0 hB3)) ?_
    rintro _ ⟨z4, rfl, hz4⟩
    refine Exists.intro xm_30 (And.intro mi_30 (And.intro ⟨rfl, rfl, rfl, rfl⟩ (And.intro rfl ?_)))
    refine fcall _ h0 (fzs_sub (by decide +kernel) hW) hB3 (ct_Charter_put_c2709 (fBz h0 hB3) (by first | exact ⟨by decide, by decide⟩ | omega) (by first | exact ⟨hz4.1, hz4.2⟩ | omega)) ?_
    rintro IhB6 _ hB6 fhB6 rfl
    refine And.intro ⟨rfl, by decide, by decide⟩ ?_
    refine Exists.intro xm_106 (And.intro mi_106 (And.intro ⟨rfl, rfl, rfl, rfl⟩ (And.intro rfl ?_)))
    refine fcallp hB6 (ct_People_needs_d1cfd (fBz h0 hB6)) ?_
    rintro _ ⟨z7, rfl, hz7⟩
    refine Exists.intro xm_30 (And.intro mi_30 (And.intro ⟨rfl, rfl, rfl, rfl⟩ (And.intro rfl ?_)))
    refine fcall _ h0 (fzs_sub (by decide +kernel) hW) hB6 (ct_Charter_put_c2709 (fBz h0 hB6) (by first | exact ⟨by decide, by decide⟩ | omega) (by first | exact ⟨hz7.1, hz7.2⟩ | omega)) ?_
    rintro IhB9 _ hB9 fhB9 rfl
    refine Exists.intro xm_31 (And.intro mi_31 (And.intro ⟨rfl, rfl, rfl, rfl⟩ (And.intro rfl ?_)))
    refine fcallp hB9 (ct_City_level_61deb (fBz h0 hB9)) ?_
    rintro _ ⟨z10, rfl, hz10⟩
    refine Exists.intro xm_30 (And.intro mi_30 (And.intro ⟨rfl, rfl, rfl, rfl⟩ (And.intro rfl ?_)))
    refine fcall _ h0 (fzs_sub (by decide +kernel) hW) hB9 (ct_Charter_put_c2709 (fBz h0 hB9) (by first | exact ⟨by decide, by decide⟩ | omega) (by first | exact ⟨Int.le_trans (by decide) hz10.1, Int.le_trans hz10.2 (by decide)⟩ | omega)) ?_
    rintro IhB12 _ hB12 fhB12 rfl
    refine Exists.intro xm_32 (And.intro mi_32 (And.intro ⟨rfl, rfl, rfl, rfl⟩ (And.intro rfl ?_)))
    refine fcallp hB12 (ct_City_hour_b7a7b (fBz h0 hB12)) ?_
    rintro _ ⟨z13, rfl, hz13⟩
    refine Exists.intro xm_33 (And.intro mi_33 (And.intro ⟨rfl, rfl, rfl, rfl⟩ (And.intro rfl ?_)))
    refine fcall _ h0 (fzs_sub (by decide +kernel) hW) hB12 (ct_Charter_allows_3e335 (fBz h0 hB12) (by first | exact ⟨by decide, by decide⟩ | omega) (by first | exact ⟨hz13.1, hz13.2⟩ | omega)) ?_
    rintro IhB15 _ hB15 fhB15 ⟨z14, rfl, hz14⟩
    refine And.intro (⟨by omega, by omega⟩) ?_
    exact ⟨_, rfl, by omega⟩
set_option maxRecDepth 8000 in
theorem ct_X_birth_faa88 {I : fH} {x1 : Int} (h0 : fB bsJ I) (ha1 : ((-2147483648) ≤ x1 ∧ x1 ≤ 2147483647)) : fC ρ base n F xTc vwCl xTys D dA la gJ (fbz bsJ znJ (fKc wz_7e5e0) I) xm_103 [.inr (.inr (some 0)), .inl x1] I (fun _ r => ∃ z, r = some (.inl z) ∧ ((0 ≤ z ∧ z ≤ 23) ∨ z = (-1000000003) ∨ z = (-1000000002) ∨ z = (-1000000001))) := by
  have hW : fzs wz_7e5e0 (fKc wz_7e5e0) := fKc_ok _
  refine f_meth (rb := rbJ) (J := []) 1 400 xG xin_103 x6_103 okJ (fB_self h0) ?_ ?_
  · exact fun q h => absurd h List.not_mem_nil
  · have hB0 := fB_self (zn := znJ) (K := fKc wz_7e5e0) h0
    refine And.intro ⟨rfl, by decide, by decide⟩ ?_
    refine Exists.intro xm_17 (And.intro mi_17 (And.intro ⟨rfl, rfl, rfl, rfl⟩ (And.intro rfl ?_)))
    refine fcallp hB0 (ct_City_isCell_46f02 (fBz h0 hB0) (by first | exact ⟨ha1.1, ha1.2⟩ | omega)) ?_
    rintro _ ⟨z1, rfl, hz1⟩
    refine And.intro (by omega) (And.intro ?_ ?_)
    · intro c2
      refine And.intro ⟨rfl, by decide, by decide⟩ ?_
      refine And.intro ⟨rfl, by decide, by decide⟩ ?_
      refine Exists.intro xm_104 (And.intro mi_104 (And.intro ⟨rfl, rfl, rfl, rfl⟩ (And.intro rfl ?_)))
      refine fcall _ h0 (fzs_sub (by decide +kernel) hW) hB0 (ct_Charter_mayBeBorn_dcbbd (fBz h0 hB0)) ?_
      rintro IhB4 _ hB4 fhB4 ⟨z3, rfl, hz3⟩
      refine And.intro (by omega) (And.intro ?_ ?_)
      · intro c5
        refine And.intro (True.intro) ?_
        exact ⟨_, rfl, by omega⟩
      · intro c6
        refine And.intro ⟨rfl, by decide, by decide⟩ ?_
        refine And.intro ⟨rfl, by decide, by decide⟩ ?_
        refine Exists.intro xm_100 (And.intro mi_100 (And.intro ⟨rfl, rfl, rfl, rfl⟩ (And.intro rfl ?_)))
        refine fcall _ h0 (fzs_sub (by decide +kernel) hW) hB4 (ct_People_addPerson_f57f7 (fBz h0 hB4) (by first | exact ⟨by decide, by decide⟩ | omega) (by first | exact ⟨by decide, by decide⟩ | omega) (by omega)) ?_
        rintro IhB8 _ hB8 fhB8 ⟨z7, rfl, hz7⟩
        refine And.intro (True.intro) ?_
        exact ⟨_, rfl, by omega⟩
    · intro c9
      refine And.intro (True.intro) ?_
      exact ⟨_, rfl, by omega⟩
abbrev jc_M_mayBirth_669a5_16 : Nat → fL → List fV → fH → Prop := fun m lv st I => ∃ (y1 : Int) (y2 : Int) (y3 : Int) (y4 : Int) (y5 : Int), lv = [(0, .inr (.inr (some 740))), (1, .inl y1), (2, .inl y2), (3, .inl y3), (4, .inl y4), (5, .inl y5)] ∧ st = [] ∧ ((((-1) ≤ y1 ∧ y1 ≤ 11) ∧ ((-2147483648) ≤ y2 ∧ y2 ≤ 2147483647) ∧ ((-2147483648) ≤ y3 ∧ y3 ≤ 2147483647) ∧ (0 ≤ y4 ∧ y4 ≤ 0) ∧ (0 ≤ y5 ∧ y5 ≤ 24) ∧ (y1 < I 741 9))) ∧ m = (26 + 1 * (24 - y5) : Int).toNat
abbrev jc_M_mayBirth_669a5_76 : Nat → fL → List fV → fH → Prop := fun m lv st I => ∃ (y1 : Int) (y2 : Int) (y3 : Int) (y4 : Int) (y5 : Int), lv = [(0, .inr (.inr (some 740))), (1, .inl y1), (2, .inl y2), (3, .inl y3), (4, .inl y4), (5, .inl y5)] ∧ st = [] ∧ ((((-1) ≤ y1 ∧ y1 ≤ 11) ∧ ((-2147483648) ≤ y2 ∧ y2 ≤ 2147483647) ∧ ((-2147483648) ≤ y3 ∧ y3 ≤ 2147483647) ∧ ((-2147483648) ≤ y4 ∧ y4 ≤ 2147483647) ∧ (0 ≤ y5 ∧ y5 ≤ 24) ∧ (y1 < I 741 9))) ∧ m = (1 + 1 * (24 - y5) : Int).toNat
set_option maxRecDepth 8000 in
theorem ct_M_mayBirth_669a5 {I : fH}  (h0 : fB bsJ I) (hp0 : sI I 741) : fC ρ base n F xTc vwCl xTys D dA la gJ (fbz bsJ znJ (fKc wz_5ef89) I) xm_309 [.inr (.inr (some 740))] I (fun _ r => ∃ z, r = some (.inl z) ∧ (0 ≤ z ∧ z ≤ 1)) := by
  have hW : fzs wz_5ef89 (fKc wz_5ef89) := fKc_ok _
  refine f_meth (rb := rbJ) (J := [(16, jc_M_mayBirth_669a5_16), (76, jc_M_mayBirth_669a5_76)]) 51 400 xG xin_309 x6_309 okJ (fB_self h0) ?_ ?_
  · refine List.forall_mem_cons.mpr ⟨?_, List.forall_mem_cons.mpr ⟨?_, fun q h => absurd h List.not_mem_nil⟩⟩
    · rintro m _ _ I1 hB1 ⟨y1, y2, y3, y4, y5, rfl, rfl, hb, hm⟩
      have k1 := fBz_eq hB1 (a := 741) (j := 9) (by decide +kernel)
      refine And.intro ⟨rfl, by decide, by decide⟩ ?_
      refine fload1 rL_741_741_8_8_1_0 h0 hB1 ⟨by decide, by decide⟩ (by first | exact ⟨by decide, by decide⟩ | omega) ?_
      intro z2 lz2 uz2 qz2
      have pz2 := fld_at qz2 8 (by omega)
      refine And.intro (And.intro (by first | exact fi_ hb.2.2.2.2.1.1 hb.2.2.2.2.1.2 rfl | omega) (by first | exact fi_ lz2 uz2 rfl | omega)) (And.intro ?_ ?_)
      · intro c3
        exact fcutJ (I := I1) (j := jc_M_mayBirth_669a5_76) (lv' := [(0, .inr (.inr (some 740))), (1, .inl _), (2, .inl _), (3, .inl _), (4, .inl _), (5, .inl _)]) (And.intro rfl (And.intro rfl (And.intro rfl (And.intro rfl (And.intro rfl (And.intro rfl True.intro)))))) ⟨_, _, _, _, _, rfl, rfl, by omega, rfl⟩ (by omega)
      · intro c4
        refine Exists.intro xm_248 (And.intro mi_248 (And.intro ⟨rfl, rfl, rfl, rfl⟩ (And.intro rfl ?_)))
        refine fcallp hB1 (ct_M_isDead_21e1a (fBz h0 hB1) (by first | exact ⟨hb.2.2.2.2.1.1, Int.le_trans (Int.le_sub_one_of_lt (Int.lt_of_lt_of_le c4 uz2)) (by decide)⟩ | omega)) ?_
        rintro _ ⟨z5, rfl, hz5⟩
        refine And.intro (by omega) (And.intro ?_ ?_)
        · intro c6
          intro z7 hz7 ez7 bz7
          clear ez7
          try replace bz7 := bz7 (by omega)
          refine Exists.intro xm_248 (And.intro mi_248 (And.intro ⟨rfl, rfl, rfl, rfl⟩ (And.intro rfl ?_)))
          refine fcallp hB1 (ct_M_isDead_21e1a (fBz h0 hB1) (by first | exact ⟨hb.2.2.2.2.1.1, Int.le_trans (Int.le_sub_one_of_lt (Int.lt_of_lt_of_le c4 uz2)) (by decide)⟩ | omega)) ?_
          rintro _ ⟨z8, rfl, hz8⟩
          refine And.intro (by omega) (And.intro ?_ ?_)
          · intro c9
            refine Exists.intro xm_300 (And.intro mi_300 (And.intro ⟨rfl, rfl, rfl, rfl⟩ (And.intro rfl ?_)))
            refine fcallp hB1 (ct_M_need_68cc2 (fBz h0 hB1) (by first | exact ⟨hb.2.2.2.2.1.1, Int.le_trans (Int.le_sub_one_of_lt (Int.lt_of_lt_of_le c4 uz2)) (by decide)⟩ | omega)) ?_
            rintro _ ⟨z10, rfl, hz10⟩
            intro z11 hz11 ez11 bz11
            clear ez11
            try replace bz11 := bz11 (by omega)
            exact fcutJ (I := I1) (j := jc_M_mayBirth_669a5_16) (lv' := [(0, .inr (.inr (some 740))), (1, .inl _), (2, .inl _), (3, .inl _), (4, .inl _), (5, .inl _)]) (And.intro rfl (And.intro rfl (And.intro rfl (And.intro rfl (And.intro rfl (And.intro rfl True.intro)))))) ⟨_, _, _, _, _, rfl, rfl, by omega, rfl⟩ (by omega)
          · intro c12
            intro z13 hz13 ez13 bz13
            clear ez13
            try replace bz13 := bz13 (by omega)
            exact fcutJ (I := I1) (j := jc_M_mayBirth_669a5_16) (lv' := [(0, .inr (.inr (some 740))), (1, .inl _), (2, .inl _), (3, .inl _), (4, .inl _), (5, .inl _)]) (And.intro rfl (And.intro rfl (And.intro rfl (And.intro rfl (And.intro rfl (And.intro rfl True.intro)))))) ⟨_, _, _, _, _, rfl, rfl, by omega, rfl⟩ (by omega)
        · intro c14
          intro z15 hz15 ez15 bz15
          clear ez15
          try replace bz15 := bz15 (by omega)
          refine Exists.intro xm_248 (And.intro mi_248 (And.intro ⟨rfl, rfl, rfl, rfl⟩ (And.intro rfl ?_)))
          refine fcallp hB1 (ct_M_isDead_21e1a (fBz h0 hB1) (by first | exact ⟨hb.2.2.2.2.1.1, Int.le_trans (Int.le_sub_one_of_lt (Int.lt_of_lt_of_le c4 uz2)) (by decide)⟩ | omega)) ?_
          rintro _ ⟨z16, rfl, hz16⟩
          refine And.intro (by omega) (And.intro ?_ ?_)
          · intro c17
            refine Exists.intro xm_300 (And.intro mi_300 (And.intro ⟨rfl, rfl, rfl, rfl⟩ (And.intro rfl ?_)))
            refine fcallp hB1 (ct_M_need_68cc2 (fBz h0 hB1) (by first | exact ⟨hb.2.2.2.2.1.1, Int.le_trans (Int.le_sub_one_of_lt (Int.lt_of_lt_of_le c4 uz2)) (by decide)⟩ | omega)) ?_
            rintro _ ⟨z18, rfl, hz18⟩
            intro z19 hz19 ez19 bz19
            clear ez19
            try replace bz19 := bz19 (by omega)
            exact fcutJ (I := I1) (j := jc_M_mayBirth_669a5_16) (lv' := [(0, .inr (.inr (some 740))), (1, .inl _), (2, .inl _), (3, .inl _), (4, .inl _), (5, .inl _)]) (And.intro rfl (And.intro rfl (And.intro rfl (And.intro rfl (And.intro rfl (And.intro rfl True.intro)))))) ⟨_, _, _, _, _, rfl, rfl, by omega, rfl⟩ (by omega)
          · intro c20
            intro z21 hz21 ez21 bz21
            clear ez21
            try replace bz21 := bz21 (by omega)
            exact fcutJ (I := I1) (j := jc_M_mayBirth_669a5_16) (lv' := [(0, .inr (.inr (some 740))), (1, .inl _), (2, .inl _), (3, .inl _), (4, .inl _), (5, .inl _)]) (And.intro rfl (And.intro rfl (And.intro rfl (And.intro rfl (And.intro rfl (And.intro rfl True.intro)))))) ⟨_, _, _, _, _, rfl, rfl, by omega, rfl⟩ (by omega)
    · rintro m _ _ I1 hB1 ⟨y1, y2, y3, y4, y5, rfl, rfl, hb, hm⟩
      have k22 := fBz_eq hB1 (a := 741) (j := 9) (by decide +kernel)
      refine And.intro ⟨rfl, by decide, by decide⟩ ?_
      refine fload1 rL_741_741_7_7_1_0 h0 hB1 ⟨by decide, by decide⟩ (by first | exact ⟨by decide, by decide⟩ | omega) ?_
      intro z23 lz23 uz23 qz23
      have pz23 := fld_at qz23 7 (by omega)
      refine And.intro (And.intro (by first | exact fi_ hb.2.2.2.2.1.1 hb.2.2.2.2.1.2 rfl | omega) (by first | exact fi_ lz23 uz23 rfl | omega)) (And.intro ?_ ?_)
      · intro c24
        refine And.intro ⟨rfl, by decide, by decide⟩ ?_
        refine fstore1 rS_748_748_0_127_1_0 (fzs_sub (by decide +kernel) hW) ⟨by decide, by decide⟩ (by first | exact ⟨by decide, by decide⟩ | omega) (by first | exact ⟨hb.2.1.1, hb.2.1.2⟩ | omega) ?_
        intro IhB25 ehB25 hB25
        have t26 := fup_self ehB25
        have t27 : IhB25 741 7 = I1 741 7 := (congrFun (congrFun ehB25 741) 7).trans (fup_ne (by first | decide | omega))
        have t28 := fup_at ehB25 112 (by first | rfl | omega)
        have k29 := fBz_eq hB25 (a := 741) (j := 9) (by decide +kernel)
        refine And.intro ⟨rfl, by decide, by decide⟩ ?_
        refine fstore1 rS_748_748_0_127_1_0 (fzs_sub (by decide +kernel) hW) ⟨by decide, by decide⟩ (by first | exact ⟨by decide, by decide⟩ | omega) (by first | exact ⟨hb.2.2.2.1.1, hb.2.2.2.1.2⟩ | omega) ?_
        intro IhB30 ehB30 hB30
        have t31 := fup_self ehB30
        have t32 : IhB30 741 7 = IhB25 741 7 := (congrFun (congrFun ehB30 741) 7).trans (fup_ne (by first | decide | omega))
        have t33 := fup_at ehB30 111 (by first | rfl | omega)
        have t34 : IhB30 748 112 = IhB25 748 112 := (congrFun (congrFun ehB30 748) 112).trans (fup_ne (by first | decide | omega))
        have k35 := fBz_eq hB30 (a := 741) (j := 9) (by decide +kernel)
        refine And.intro ⟨rfl, by decide, by decide⟩ ?_
        refine fstore1 rS_748_748_0_127_1_0 (fzs_sub (by decide +kernel) hW) ⟨by decide, by decide⟩ (by first | exact ⟨by decide, by decide⟩ | omega) (by first | exact ⟨hb.2.2.1.1, hb.2.2.1.2⟩ | omega) ?_
        intro IhB36 ehB36 hB36
        have t37 := fup_self ehB36
        have t38 : IhB36 741 7 = IhB30 741 7 := (congrFun (congrFun ehB36 741) 7).trans (fup_ne (by first | decide | omega))
        have t39 : IhB36 748 111 = IhB30 748 111 := (congrFun (congrFun ehB36 748) 111).trans (fup_ne (by first | decide | omega))
        have t40 : IhB36 748 112 = IhB30 748 112 := (congrFun (congrFun ehB36 748) 112).trans (fup_ne (by first | decide | omega))
        have t41 := fup_at ehB36 117 (by first | rfl | omega)
        have k42 := fBz_eq hB36 (a := 741) (j := 9) (by decide +kernel)
        refine And.intro (by first | exact fi_ hb.1.1 hb.1.2 rfl | omega) (And.intro ?_ ?_)
        · intro c43
          refine And.intro (⟨by decide, by decide⟩) ?_
          exact ⟨_, rfl, (by first | exact ⟨by decide, by decide⟩ | omega)⟩
        · intro c44
          refine Exists.intro xm_259 (And.intro mi_259 (And.intro ⟨rfl, rfl, rfl, rfl⟩ (And.intro rfl ?_)))
          refine fcall _ h0 (fzs_sub (by decide +kernel) hW) hB36 (ct_M_worked_0bc29 (fBz h0 hB36) (by first | exact ⟨Int.le_trans (by decide) (Int.le_trans (Int.le_refl _) c44), hb.1.2⟩ | omega) (sI_keep hp0 h0 hB36 (by decide +kernel)) (by omega)) ?_
          rintro IhB46 _ hB46 fhB46 ⟨z45, rfl, hz45⟩
          have t47 := fhB46 741 7 (by decide +kernel)
          have k48 := fBz_eq hB46 (a := 741) (j := 9) (by decide +kernel)
          refine And.intro (by first | exact fi_ hz45.1 hz45.2 rfl | omega) (And.intro ?_ ?_)
          · intro c49
            refine And.intro (⟨by omega, by omega⟩) ?_
            exact ⟨_, rfl, by omega⟩
          · intro c50
            refine And.intro (⟨by decide, by decide⟩) ?_
            exact ⟨_, rfl, (by first | exact ⟨by decide, by decide⟩ | omega)⟩
      · intro c51
        refine Exists.intro xm_267 (And.intro mi_267 (And.intro ⟨rfl, rfl, rfl, rfl⟩ (And.intro rfl ?_)))
        refine fcallp hB1 (ct_M_kindOf_31275 (fBz h0 hB1) (by first | exact ⟨hb.2.2.2.2.1.1, Int.le_trans (Int.le_sub_one_of_lt (Int.lt_of_lt_of_le c51 uz23)) (by decide)⟩ | omega)) ?_
        rintro _ ⟨z52, rfl, hz52, g0z52⟩
        refine And.intro (And.intro (by first | exact fi_ hz52.1 hz52.2 rfl | omega) (by first | exact ⟨by decide, by decide⟩ | omega)) (And.intro ?_ ?_)
        · intro c53
          intro z54 hz54 ez54 bz54
          clear ez54
          try replace bz54 := bz54 (by omega)
          exact fcutJ (I := I1) (j := jc_M_mayBirth_669a5_76) (lv' := [(0, .inr (.inr (some 740))), (1, .inl _), (2, .inl _), (3, .inl _), (4, .inl _), (5, .inl _)]) (And.intro rfl (And.intro rfl (And.intro rfl (And.intro rfl (And.intro rfl (And.intro rfl True.intro)))))) ⟨_, _, _, _, _, rfl, rfl, by omega, rfl⟩ (by omega)
        · intro c55
          refine Exists.intro xm_245 (And.intro mi_245 (And.intro ⟨rfl, rfl, rfl, rfl⟩ (And.intro rfl ?_)))
          refine fcallp hB1 (ct_M_isGone_0de37 (fBz h0 hB1) (by first | exact ⟨hb.2.2.2.2.1.1, Int.le_trans (Int.le_sub_one_of_lt (Int.lt_of_lt_of_le c51 uz23)) (by decide)⟩ | omega)) ?_
          rintro _ ⟨z56, rfl, hz56⟩
          refine And.intro (by omega) (And.intro ?_ ?_)
          · intro c57
            intro z58 hz58 ez58 bz58
            clear ez58
            try replace bz58 := bz58 (by omega)
            exact fcutJ (I := I1) (j := jc_M_mayBirth_669a5_76) (lv' := [(0, .inr (.inr (some 740))), (1, .inl _), (2, .inl _), (3, .inl _), (4, .inl _), (5, .inl _)]) (And.intro rfl (And.intro rfl (And.intro rfl (And.intro rfl (And.intro rfl (And.intro rfl True.intro)))))) ⟨_, _, _, _, _, rfl, rfl, by omega, rfl⟩ (by omega)
          · intro c59
            refine And.intro ⟨rfl, by decide, by decide⟩ ?_
            refine Exists.intro xm_244 (And.intro mi_244 (And.intro ⟨rfl, rfl, rfl, rfl⟩ (And.intro rfl ?_)))
            refine fcallp hB1 (ct_M_workAt_83d38 (fBz h0 hB1) (by first | exact ⟨hb.2.2.2.2.1.1, Int.le_trans (Int.le_sub_one_of_lt (Int.lt_of_lt_of_le c51 uz23)) (by decide)⟩ | omega)) ?_
            rintro _ ⟨_, rfl, rfl⟩
            refine fload rL_741_741_535_857_14_0 h0 hB1 (by omega) ?_
            intro z61 lz61 uz61 qz61
            intro z62 hz62 ez62 bz62
            clear ez62
            try replace bz62 := bz62 (by omega)
            exact fcutJ (I := I1) (j := jc_M_mayBirth_669a5_76) (lv' := [(0, .inr (.inr (some 740))), (1, .inl _), (2, .inl _), (3, .inl _), (4, .inl _), (5, .inl _)]) (And.intro rfl (And.intro rfl (And.intro rfl (And.intro rfl (And.intro rfl (And.intro rfl True.intro)))))) ⟨_, _, _, _, _, rfl, rfl, by omega, rfl⟩ (by omega)
  · have hB0 := fB_self (zn := znJ) (K := fKc wz_5ef89) h0
    refine Exists.intro xm_254 (And.intro mi_254 (And.intro ⟨rfl, rfl, rfl, rfl⟩ (And.intro rfl ?_)))
    refine fcallp hB0 (ct_M_counts_1278f (fBz h0 hB0) (by first | exact ⟨by decide, by decide⟩ | omega)) ?_
    rintro _ ⟨z63, rfl, hz63⟩
    exact fcutJ (I := I) (j := jc_M_mayBirth_669a5_16) (lv' := [(0, .inr (.inr (some 740))), (1, .inl _), (2, .inl _), (3, .inl _), (4, .inl _), (5, .inl _)]) (And.intro rfl (And.intro rfl (And.intro rfl (And.intro rfl (And.intro rfl (And.intro rfl True.intro)))))) ⟨_, _, _, _, _, rfl, rfl, by omega, rfl⟩ (by omega)
set_option maxRecDepth 8000 in
theorem ct_M_birth_69b9b {I : fH} {x1 : Int} (h0 : fB bsJ I) (ha1 : ((-2147483648) ≤ x1 ∧ x1 ≤ 2147483647)) (hp0 : sI I 741) : fC ρ base n F xTc vwCl xTys D dA la gJ (fbz bsJ znJ (fKc wz_d6a43) I) xm_308 [.inr (.inr (some 740)), .inl x1] I (fun _ r => ∃ z, r = some (.inl z) ∧ ((0 ≤ z ∧ z ≤ 23) ∨ z = (-1000000003) ∨ z = (-1000000002) ∨ z = (-1000000001))) := by
  have hW : fzs wz_d6a43 (fKc wz_d6a43) := fKc_ok _
  refine f_meth (rb := rbJ) (J := []) 1 400 xG xin_308 x6_308 okJ (fB_self h0) ?_ ?_
  · exact fun q h => absurd h List.not_mem_nil
  · have hB0 := fB_self (zn := znJ) (K := fKc wz_d6a43) h0
    refine Exists.intro xm_241 (And.intro mi_241 (And.intro ⟨rfl, rfl, rfl, rfl⟩ (And.intro rfl ?_)))
    refine fcallp hB0 (ct_M_isCell_45859 (fBz h0 hB0) (by first | exact ⟨ha1.1, ha1.2⟩ | omega)) ?_
    rintro _ ⟨z1, rfl, hz1⟩
    refine And.intro (by omega) (And.intro ?_ ?_)
    · intro c2
      refine Exists.intro xm_309 (And.intro mi_309 (And.intro ⟨rfl, rfl, rfl, rfl⟩ (And.intro rfl ?_)))
      refine fcall _ h0 (fzs_sub (by decide +kernel) hW) hB0 (ct_M_mayBirth_669a5 (fBz h0 hB0) (sI_keep hp0 h0 hB0 (by decide +kernel))) ?_
      rintro IhB4 _ hB4 fhB4 ⟨z3, rfl, hz3⟩
      refine And.intro (by omega) (And.intro ?_ ?_)
      · intro c5
        refine Exists.intro xm_305 (And.intro mi_305 (And.intro ⟨rfl, rfl, rfl, rfl⟩ (And.intro rfl ?_)))
        refine fcall _ h0 (fzs_sub (by decide +kernel) hW) hB4 (ct_M_person_81c92 (fBz h0 hB4) (by first | exact ⟨by decide, by decide⟩ | omega) (by first | exact ⟨by decide, by decide⟩ | omega) (by first | exact ⟨ha1.1, ha1.2⟩ | omega)) ?_
        rintro IhB7 _ hB7 fhB7 ⟨z6, rfl, hz6⟩
        refine And.intro (True.intro) ?_
        exact ⟨_, rfl, by omega⟩
      · intro c8
        refine And.intro (True.intro) ?_
        exact ⟨_, rfl, by omega⟩
    · intro c9
      refine And.intro (True.intro) ?_
      exact ⟨_, rfl, by omega⟩
abbrev jc_Tape_addFour_4538c_3 (I0 : fH) : Nat → fL → List fV → fH → Prop := fun m lv st I => ∃ (y1 : Int) (y2 : Int), lv = [(0, .inr (.inr (some 699))), (1, .inl y1), (2, .inl y2)] ∧ st = [] ∧ ((((-2147483648) ≤ y1 ∧ y1 ≤ 2147483647) ∧ ((-8) ≤ y2 ∧ y2 ≤ 24) ∧ (I0 699 1 ≤ 92 → 8 * (I 699 1 - I0 699 1) = 24 - y2))) ∧ m = (1 + 1 * (y2 - (-8)) : Int).toNat
set_option maxRecDepth 8000 in
theorem ct_Tape_addFour_4538c {I : fH} {x1 : Int} (h0 : fB bsJ I) (ha1 : ((-2147483648) ≤ x1 ∧ x1 ≤ 2147483647)) : fC ρ base n F xTc vwCl xTys D dA la gJ (fbz bsJ znJ (fKc wz_b3a7d) I) xm_109 [.inr (.inr (some 699)), .inl x1] I (fun I' r => r = none ∧ (I 699 1 ≤ 92 → I' 699 1 = I 699 1 + 4)) := by
  have hW : fzs wz_b3a7d (fKc wz_b3a7d) := fKc_ok _
  refine f_meth (rb := rbJ) (J := [(3, (jc_Tape_addFour_4538c_3 I))]) 34 400 xG xin_109 x6_109 okJ (fB_self h0) ?_ ?_
  · refine List.forall_mem_cons.mpr ⟨?_, fun q h => absurd h List.not_mem_nil⟩
    · rintro m _ _ I1 hB1 ⟨y1, y2, rfl, rfl, hb, hm⟩
      have b1 := fBd fb_699_1 (fBz h0 hB1)
      refine And.intro (by first | exact fi_ hb.2.1.1 hb.2.1.2 rfl | omega) (And.intro ?_ ?_)
      · intro c2
        exact ⟨rfl, by omega⟩
      · intro c3
        refine And.intro ⟨rfl, by decide, by decide⟩ (fgetf fb_699_1 h0 hB1 ?_)
        intro z4 lz4 uz4 qz4
        refine And.intro (And.intro (by first | exact fi_ lz4 uz4 rfl | omega) (by first | exact ⟨by decide, by decide⟩ | omega)) (And.intro ?_ ?_)
        · intro c5
          exact ⟨rfl, by omega⟩
        · intro c6
          refine And.intro ⟨rfl, by decide, by decide⟩ ?_
          refine And.intro ⟨rfl, by decide, by decide⟩ (fgetf fb_699_1 h0 hB1 ?_)
          intro z7 lz7 uz7 qz7
          intro z8 hz8 ez8
          intro z9 hz9 ez9 bz9
          clear ez9
          have bz9 := bz9 (by omega)
          refine fstore rS_700_700_0_95_1_0 (fzs_sub (by decide +kernel) hW) (by omega) (by first | exact ⟨bz9.1, bz9.2⟩ | omega) ?_
          intro IhB10 ehB10 hB10
          have t11 := fup_self ehB10
          have t12 : IhB10 699 1 = I1 699 1 := (congrFun (congrFun ehB10 699) 1).trans (fup_ne (by first | exact Or.inl (by decide) | omega))
          refine And.intro ⟨rfl, by decide, by decide⟩ (fgetf fb_699_1 h0 hB10 ?_)
          intro z13 lz13 uz13 qz13
          refine And.intro ⟨rfl, by decide, by decide⟩ (And.intro rfl (And.intro (Or.inl rfl) (fputf fb_699_1 (by decide +kernel) hW (by omega) ?_)))
          intro IhB14 ehB14 hB14
          have t15 := fup_at ehB14 1 (by first | rfl | omega)
          exact fcutJ (I := IhB14) (j := (jc_Tape_addFour_4538c_3 I)) (lv' := [(0, .inr (.inr (some 699))), (1, .inl _), (2, .inl _)]) (And.intro rfl (And.intro rfl (And.intro rfl True.intro))) ⟨_, _, rfl, rfl, by omega, rfl⟩ (by omega)
  · have hB0 := fB_self (zn := znJ) (K := fKc wz_b3a7d) h0
    have b16 := fBd fb_699_1 (fBz h0 hB0)
    exact fcutJ (I := I) (j := (jc_Tape_addFour_4538c_3 I)) (lv' := [(0, .inr (.inr (some 699))), (1, .inl _), (2, .inl _)]) (And.intro rfl (And.intro rfl (And.intro rfl True.intro))) ⟨_, _, rfl, rfl, by omega, rfl⟩ (by omega)
set_option maxRecDepth 8000 in
theorem ct_Tape_add_aea5a {I : fH} {x1 : Int} {x2 : Int} {x3 : Int} (h0 : fB bsJ I) (ha1 : ((-2147483648) ≤ x1 ∧ x1 ≤ 2147483647)) (ha2 : ((-2147483648) ≤ x2 ∧ x2 ≤ 2147483647)) (ha3 : ((-2147483648) ≤ x3 ∧ x3 ≤ 2147483647)) : fC ρ base n F xTc vwCl xTys D dA la gJ (fbz bsJ znJ (fKc wz_b3a7d) I) xm_108 [.inr (.inr (some 699)), .inl x1, .inl x2, .inl x3] I (fun I' r => ∃ z, r = some (.inl z) ∧ (((0 ≤ z ∧ z ≤ 96) ∨ z = (-1000000003)) ∧ ((I 699 1 ≤ 84 → I' 699 1 = I 699 1 + 12 ∧ z = I 699 1 + 12) ∧ (84 < I 699 1 → I' 699 1 = I 699 1 ∧ z = (-1000000003))))) := by
  have hW : fzs wz_b3a7d (fKc wz_b3a7d) := fKc_ok _
  refine f_meth (rb := rbJ) (J := []) 1 400 xG xin_108 x6_108 okJ (fB_self h0) ?_ ?_
  · exact fun q h => absurd h List.not_mem_nil
  · have hB0 := fB_self (zn := znJ) (K := fKc wz_b3a7d) h0
    refine And.intro ⟨rfl, by decide, by decide⟩ (fgetf fb_699_1 h0 hB0 ?_)
    intro z1 lz1 uz1 qz1
    refine And.intro (by omega) (And.intro ?_ ?_)
    · intro c2
      refine Exists.intro xm_109 (And.intro mi_109 (And.intro ⟨rfl, rfl, rfl, rfl⟩ (And.intro rfl ?_)))
      refine fcall _ h0 (fzs_sub (by decide +kernel) hW) hB0 (ct_Tape_addFour_4538c (fBz h0 hB0) (by first | exact ⟨ha1.1, ha1.2⟩ | omega)) ?_
      rintro IhB4 _ hB4 fhB4 ⟨rfl, hz3⟩
      refine Exists.intro xm_109 (And.intro mi_109 (And.intro ⟨rfl, rfl, rfl, rfl⟩ (And.intro rfl ?_)))
      refine fcall _ h0 (fzs_sub (by decide +kernel) hW) hB4 (ct_Tape_addFour_4538c (fBz h0 hB4) (by first | exact ⟨ha2.1, ha2.2⟩ | omega)) ?_
      rintro IhB6 _ hB6 fhB6 ⟨rfl, hz5⟩
      refine Exists.intro xm_109 (And.intro mi_109 (And.intro ⟨rfl, rfl, rfl, rfl⟩ (And.intro rfl ?_)))
      refine fcall _ h0 (fzs_sub (by decide +kernel) hW) hB6 (ct_Tape_addFour_4538c (fBz h0 hB6) (by first | exact ⟨ha3.1, ha3.2⟩ | omega)) ?_
      rintro IhB8 _ hB8 fhB8 ⟨rfl, hz7⟩
      refine And.intro ⟨rfl, by decide, by decide⟩ (fgetf fb_699_1 h0 hB8 ?_)
      intro z9 lz9 uz9 qz9
      refine And.intro (True.intro) ?_
      exact ⟨_, rfl, by omega⟩
    · intro c10
      refine And.intro (True.intro) ?_
      exact ⟨_, rfl, by omega⟩
set_option maxRecDepth 8000 in
theorem ct_X_feed_51110 {I : fH} {x1 : Int} {x2 : Int} {x3 : Int} (h0 : fB bsJ I) (ha1 : ((-2147483648) ≤ x1 ∧ x1 ≤ 2147483647)) (ha2 : ((-2147483648) ≤ x2 ∧ x2 ≤ 2147483647)) (ha3 : ((-2147483648) ≤ x3 ∧ x3 ≤ 2147483647)) : fC ρ base n F xTc vwCl xTys D dA la gJ (fbz bsJ znJ (fKc wz_b3a7d) I) xm_107 [.inr (.inr (some 0)), .inl x1, .inl x2, .inl x3] I (fun I' r => ∃ z, r = some (.inl z) ∧ (((0 ≤ z ∧ z ≤ 96) ∨ z = (-1000000003)) ∧ ((I 699 1 ≤ 84 → I' 699 1 = I 699 1 + 12 ∧ z = I 699 1 + 12) ∧ (84 < I 699 1 → I' 699 1 = I 699 1 ∧ z = (-1000000003))))) := by
  have hW : fzs wz_b3a7d (fKc wz_b3a7d) := fKc_ok _
  refine f_meth (rb := rbJ) (J := []) 1 400 xG xin_107 x6_107 okJ (fB_self h0) ?_ ?_
  · exact fun q h => absurd h List.not_mem_nil
  · have hB0 := fB_self (zn := znJ) (K := fKc wz_b3a7d) h0
    refine And.intro ⟨rfl, by decide, by decide⟩ ?_
    refine Exists.intro xm_108 (And.intro mi_108 (And.intro ⟨rfl, rfl, rfl, rfl⟩ (And.intro rfl ?_)))
    refine fcall _ h0 (fzs_sub (by decide +kernel) hW) hB0 (ct_Tape_add_aea5a (fBz h0 hB0) (by first | exact ⟨ha1.1, ha1.2⟩ | omega) (by first | exact ⟨ha2.1, ha2.2⟩ | omega) (by first | exact ⟨ha3.1, ha3.2⟩ | omega)) ?_
    rintro IhB2 _ hB2 fhB2 ⟨z1, rfl, hz1⟩
    refine And.intro (True.intro) ?_
    exact ⟨_, rfl, by omega⟩
abbrev jc_M_feed_07202_18 (I0 : fH) : Nat → fL → List fV → fH → Prop := fun m lv st I => ∃ (y1 : Int) (y2 : Int) (y3 : Int) (y4 : Int), lv = [(0, .inr (.inr (some 740))), (1, .inl y1), (2, .inl y2), (3, .inl y3), (4, .inl y4)] ∧ st = [] ∧ ((((-2147483648) ≤ y1 ∧ y1 ≤ 2147483647) ∧ ((-2147483648) ≤ y2 ∧ y2 ≤ 2147483647) ∧ ((-2147483648) ≤ y3 ∧ y3 ≤ 2147483647) ∧ (0 ≤ y4 ∧ y4 ≤ 12) ∧ (I 740 8 = I0 740 8 + y4) ∧ (I0 740 8 ≤ 84))) ∧ m = (1 + 1 * (12 - y4) : Int).toNat
set_option maxRecDepth 8000 in
theorem ct_M_feed_07202 {I : fH} {x1 : Int} {x2 : Int} {x3 : Int} (h0 : fB bsJ I) (ha1 : ((-2147483648) ≤ x1 ∧ x1 ≤ 2147483647)) (ha2 : ((-2147483648) ≤ x2 ∧ x2 ≤ 2147483647)) (ha3 : ((-2147483648) ≤ x3 ∧ x3 ≤ 2147483647)) : fC ρ base n F xTc vwCl xTys D dA la gJ (fbz bsJ znJ (fKc wz_68031) I) xm_310 [.inr (.inr (some 740)), .inl x1, .inl x2, .inl x3] I (fun I' r => ∃ z, r = some (.inl z) ∧ (((0 ≤ z ∧ z ≤ 96) ∨ z = (-1000000003)) ∧ ((I 740 8 ≤ 84 → I' 740 8 = I 740 8 + 12 ∧ z = I 740 8 + 12) ∧ (84 < I 740 8 → I' 740 8 = I 740 8 ∧ z = (-1000000003))))) := by
  have hW : fzs wz_68031 (fKc wz_68031) := fKc_ok _
  refine f_meth (rb := rbJ) (J := [(18, (jc_M_feed_07202_18 I))]) 14 400 xG xin_310 x6_310 okJ (fB_self h0) ?_ ?_
  · refine List.forall_mem_cons.mpr ⟨?_, fun q h => absurd h List.not_mem_nil⟩
    · rintro m _ _ I1 hB1 ⟨y1, y2, y3, y4, rfl, rfl, hb, hm⟩
      refine And.intro (And.intro (by first | exact fi_ hb.2.2.2.1.1 hb.2.2.2.1.2 rfl | omega) (by first | exact ⟨by decide, by decide⟩ | omega)) (And.intro ?_ ?_)
      · intro c1
        refine And.intro ⟨rfl, by decide, by decide⟩ (fgetf fb_740_8 h0 hB1 ?_)
        intro z2 lz2 uz2 qz2
        refine And.intro (True.intro) ?_
        exact ⟨_, rfl, by omega⟩
      · intro c3
        refine And.intro (And.intro (by first | exact fi_ hb.2.2.2.1.1 (Int.le_sub_one_of_lt (Int.lt_of_lt_of_le c3 (Int.le_refl _))) rfl | omega) (by first | exact ⟨by decide, by decide⟩ | omega)) (And.intro ?_ ?_)
        · intro c4
          refine And.intro (And.intro (by first | exact fi_ (Int.le_trans (Int.le_refl _) c4) (Int.le_sub_one_of_lt (Int.lt_of_lt_of_le c3 (Int.le_refl _))) rfl | omega) (by first | exact ⟨by decide, by decide⟩ | omega)) (And.intro ?_ ?_)
          · intro c5
            refine And.intro ⟨rfl, by decide, by decide⟩ ?_
            refine And.intro ⟨rfl, by decide, by decide⟩ (fgetf fb_740_8 h0 hB1 ?_)
            intro z6 lz6 uz6 qz6
            refine And.intro (And.intro (by first | exact fi_ (Int.le_trans (Int.le_refl _) c5) (Int.le_sub_one_of_lt (Int.lt_of_lt_of_le c3 (Int.le_refl _))) rfl | omega) (And.intro (by first | exact ⟨by decide, by decide⟩ | omega) (And.intro (by first | exact by decide | omega) rfl))) ?_
            intro z7 hz7 ez7 dz7
            have dz7 := dz7 (by omega) (by omega)
            change _ = _ % _ at dz7
            intro z8 hz8 ez8
            intro z9 hz9 ez9 bz9
            clear ez9
            have bz9 := bz9 (by omega)
            refine fstore rS_747_747_0_95_1_0 (fzs_sub (by decide +kernel) hW) (by omega) (by first | exact ⟨Int.le_trans (by decide) bz9.1, Int.le_trans bz9.2 (by decide)⟩ | omega) ?_
            intro IhB10 ehB10 hB10
            have t11 := fup_self ehB10
            have t12 : IhB10 740 8 = I1 740 8 := (congrFun (congrFun ehB10 740) 8).trans (fup_ne (by first | exact Or.inl (by decide) | omega))
            refine And.intro ⟨rfl, by decide, by decide⟩ (fgetf fb_740_8 h0 hB10 ?_)
            intro z13 lz13 uz13 qz13
            refine And.intro ⟨rfl, by decide, by decide⟩ (And.intro rfl (And.intro (Or.inl rfl) (fputf fb_740_8 (by decide +kernel) hW (by omega) ?_)))
            intro IhB14 ehB14 hB14
            have t15 := fup_at ehB14 8 (by first | rfl | omega)
            exact fcutJ (I := IhB14) (j := (jc_M_feed_07202_18 I)) (lv' := [(0, .inr (.inr (some 740))), (1, .inl _), (2, .inl _), (3, .inl _), (4, .inl _)]) (And.intro rfl (And.intro rfl (And.intro rfl (And.intro rfl (And.intro rfl True.intro))))) ⟨_, _, _, _, rfl, rfl, by omega, rfl⟩ (by omega)
          · intro c16
            refine And.intro ⟨rfl, by decide, by decide⟩ ?_
            refine And.intro ⟨rfl, by decide, by decide⟩ (fgetf fb_740_8 h0 hB1 ?_)
            intro z17 lz17 uz17 qz17
            refine And.intro (And.intro (by first | exact fi_ (Int.le_trans (Int.le_refl _) c4) (Int.le_sub_one_of_lt (Int.lt_of_lt_of_le c16 (Int.le_refl _))) rfl | omega) (And.intro (by first | exact ⟨by decide, by decide⟩ | omega) (And.intro (by first | exact by decide | omega) rfl))) ?_
            intro z18 hz18 ez18 dz18
            have dz18 := dz18 (by omega) (by omega)
            change _ = _ % _ at dz18
            intro z19 hz19 ez19
            intro z20 hz20 ez20 bz20
            clear ez20
            have bz20 := bz20 (by omega)
            refine fstore rS_747_747_0_95_1_0 (fzs_sub (by decide +kernel) hW) (by omega) (by first | exact ⟨Int.le_trans (by decide) bz20.1, Int.le_trans bz20.2 (by decide)⟩ | omega) ?_
            intro IhB21 ehB21 hB21
            have t22 := fup_self ehB21
            have t23 : IhB21 740 8 = I1 740 8 := (congrFun (congrFun ehB21 740) 8).trans (fup_ne (by first | exact Or.inl (by decide) | omega))
            refine And.intro ⟨rfl, by decide, by decide⟩ (fgetf fb_740_8 h0 hB21 ?_)
            intro z24 lz24 uz24 qz24
            refine And.intro ⟨rfl, by decide, by decide⟩ (And.intro rfl (And.intro (Or.inl rfl) (fputf fb_740_8 (by decide +kernel) hW (by omega) ?_)))
            intro IhB25 ehB25 hB25
            have t26 := fup_at ehB25 8 (by first | rfl | omega)
            exact fcutJ (I := IhB25) (j := (jc_M_feed_07202_18 I)) (lv' := [(0, .inr (.inr (some 740))), (1, .inl _), (2, .inl _), (3, .inl _), (4, .inl _)]) (And.intro rfl (And.intro rfl (And.intro rfl (And.intro rfl (And.intro rfl True.intro))))) ⟨_, _, _, _, rfl, rfl, by omega, rfl⟩ (by omega)
        · intro c27
          refine And.intro ⟨rfl, by decide, by decide⟩ ?_
          refine And.intro ⟨rfl, by decide, by decide⟩ (fgetf fb_740_8 h0 hB1 ?_)
          intro z28 lz28 uz28 qz28
          refine And.intro (And.intro (by first | exact fi_ hb.2.2.2.1.1 (Int.le_sub_one_of_lt (Int.lt_of_lt_of_le c27 (Int.le_refl _))) rfl | omega) (And.intro (by first | exact ⟨by decide, by decide⟩ | omega) (And.intro (by first | exact by decide | omega) rfl))) ?_
          intro z29 hz29 ez29 dz29
          have dz29 := dz29 (by omega) (by omega)
          change _ = _ % _ at dz29
          intro z30 hz30 ez30
          intro z31 hz31 ez31 bz31
          clear ez31
          have bz31 := bz31 (by omega)
          refine fstore rS_747_747_0_95_1_0 (fzs_sub (by decide +kernel) hW) (by omega) (by first | exact ⟨Int.le_trans (by decide) bz31.1, Int.le_trans bz31.2 (by decide)⟩ | omega) ?_
          intro IhB32 ehB32 hB32
          have t33 := fup_self ehB32
          have t34 : IhB32 740 8 = I1 740 8 := (congrFun (congrFun ehB32 740) 8).trans (fup_ne (by first | exact Or.inl (by decide) | omega))
          refine And.intro ⟨rfl, by decide, by decide⟩ (fgetf fb_740_8 h0 hB32 ?_)
          intro z35 lz35 uz35 qz35
          refine And.intro ⟨rfl, by decide, by decide⟩ (And.intro rfl (And.intro (Or.inl rfl) (fputf fb_740_8 (by decide +kernel) hW (by omega) ?_)))
          intro IhB36 ehB36 hB36
          have t37 := fup_at ehB36 8 (by first | rfl | omega)
          exact fcutJ (I := IhB36) (j := (jc_M_feed_07202_18 I)) (lv' := [(0, .inr (.inr (some 740))), (1, .inl _), (2, .inl _), (3, .inl _), (4, .inl _)]) (And.intro rfl (And.intro rfl (And.intro rfl (And.intro rfl (And.intro rfl True.intro))))) ⟨_, _, _, _, rfl, rfl, by omega, rfl⟩ (by omega)
  · have hB0 := fB_self (zn := znJ) (K := fKc wz_68031) h0
    refine And.intro ⟨rfl, by decide, by decide⟩ (fgetf fb_740_8 h0 hB0 ?_)
    intro z38 lz38 uz38 qz38
    refine And.intro (by omega) (And.intro ?_ ?_)
    · intro c39
      exact fcutJ (I := I) (j := (jc_M_feed_07202_18 I)) (lv' := [(0, .inr (.inr (some 740))), (1, .inl _), (2, .inl _), (3, .inl _), (4, .inl _)]) (And.intro rfl (And.intro rfl (And.intro rfl (And.intro rfl (And.intro rfl True.intro))))) ⟨_, _, _, _, rfl, rfl, by omega, rfl⟩ (by omega)
    · intro c40
      refine And.intro (True.intro) ?_
      exact ⟨_, rfl, by omega⟩
set_option maxRecDepth 8000 in
theorem ct_X_trim_032da {I : fH} {x1 : Int} (h0 : fB bsJ I) (ha1 : ((-2147483648) ≤ x1 ∧ x1 ≤ 2147483647)) : fC ρ base n F xTc vwCl xTys D dA la gJ (fbz bsJ znJ (fKc wz_6427d) I) xm_110 [.inr (.inr (some 0)), .inl x1] I (fun I' r => ∃ z, r = some (.inl z) ∧ (((0 ≤ z ∧ z ≤ 96) ∨ z = (-1000000001)) ∧ ((0 ≤ x1 ∧ x1 ≤ I 699 1 → z = x1 ∧ I' 699 1 = x1) ∧ (¬ (0 ≤ x1 ∧ x1 ≤ I 699 1) → z = (-1000000001) ∧ I' 699 1 = I 699 1)))) := by
  have hW : fzs wz_6427d (fKc wz_6427d) := fKc_ok _
  refine f_meth (rb := rbJ) (J := []) 1 400 xG xin_110 x6_110 okJ (fB_self h0) ?_ ?_
  · exact fun q h => absurd h List.not_mem_nil
  · have hB0 := fB_self (zn := znJ) (K := fKc wz_6427d) h0
    refine And.intro ⟨rfl, by decide, by decide⟩ ?_
    refine And.intro ⟨rfl, by decide, by decide⟩ (fgetf fb_699_1 h0 hB0 ?_)
    intro z1 lz1 uz1 qz1
    refine Exists.intro xm_13 (And.intro mi_13 (And.intro ⟨rfl, rfl, rfl, rfl⟩ (And.intro True.intro ?_)))
    refine fcallp hB0 (ct_X_within_c27b1 (fBz h0 hB0) (by first | exact ⟨ha1.1, ha1.2⟩ | omega) (by first | exact ⟨by decide, by decide⟩ | omega) (by first | exact ⟨Int.le_trans (by decide) lz1, Int.le_trans uz1 (by decide)⟩ | omega)) ?_
    rintro _ ⟨z2, rfl, hz2⟩
    refine And.intro (by omega) (And.intro ?_ ?_)
    · intro c3
      refine And.intro ⟨rfl, by decide, by decide⟩ ?_
      refine And.intro ⟨rfl, by decide, by decide⟩ (And.intro rfl (And.intro (Or.inl rfl) (fputf fb_699_1 (by decide +kernel) hW (by first | exact ⟨Int.le_trans (by decide) (Int.le_trans (Int.le_refl _) hz2.1), Int.le_trans (Int.le_trans hz2.2 uz1) (by decide)⟩ | omega) ?_)))
      intro IhB4 ehB4 hB4
      have t5 := fup_at ehB4 1 (by first | rfl | omega)
      refine And.intro (True.intro) ?_
      exact ⟨_, rfl, by omega⟩
    · intro c6
      refine And.intro (True.intro) ?_
      exact ⟨_, rfl, by omega⟩
set_option maxRecDepth 8000 in
theorem ct_M_trim_f395f {I : fH} {x1 : Int} (h0 : fB bsJ I) (ha1 : ((-2147483648) ≤ x1 ∧ x1 ≤ 2147483647)) : fC ρ base n F xTc vwCl xTys D dA la gJ (fbz bsJ znJ (fKc wz_9d31e) I) xm_311 [.inr (.inr (some 740)), .inl x1] I (fun I' r => ∃ z, r = some (.inl z) ∧ (((0 ≤ z ∧ z ≤ 96) ∨ z = (-1000000001)) ∧ ((0 ≤ x1 ∧ x1 ≤ I 740 8 → z = x1 ∧ I' 740 8 = x1) ∧ (¬ (0 ≤ x1 ∧ x1 ≤ I 740 8) → z = (-1000000001) ∧ I' 740 8 = I 740 8)))) := by
  have hW : fzs wz_9d31e (fKc wz_9d31e) := fKc_ok _
  refine f_meth (rb := rbJ) (J := []) 1 400 xG xin_311 x6_311 okJ (fB_self h0) ?_ ?_
  · exact fun q h => absurd h List.not_mem_nil
  · have hB0 := fB_self (zn := znJ) (K := fKc wz_9d31e) h0
    refine And.intro (by first | exact fi_ ha1.1 ha1.2 rfl | omega) ?_
    refine And.intro ⟨rfl, by decide, by decide⟩ (fgetf fb_740_8 h0 hB0 ?_)
    intro z1 lz1 uz1 qz1
    refine And.intro (by first | exact fi_ lz1 uz1 rfl | omega) ?_
    refine Exists.intro xm_238 (And.intro mi_238 (And.intro ⟨rfl, rfl, rfl, rfl⟩ (And.intro True.intro ?_)))
    refine fcallp hB0 (ct_M_isIn_27230 (fBz h0 hB0) (by first | exact ⟨ha1.1, ha1.2⟩ | omega) (by first | exact ⟨by decide, by decide⟩ | omega) (by first | exact ⟨Int.le_trans (by decide) lz1, Int.le_trans uz1 (by decide)⟩ | omega)) ?_
    rintro _ ⟨z2, rfl, hz2⟩
    refine And.intro (by omega) (And.intro ?_ ?_)
    · intro c3
      refine And.intro ⟨rfl, by decide, by decide⟩ (And.intro rfl (And.intro (Or.inl rfl) (fputf fb_740_8 (by decide +kernel) hW (by first | exact ⟨Int.le_trans (by decide) (Int.le_trans (Int.le_refl _) hz2.1), Int.le_trans (Int.le_trans hz2.2 uz1) (by decide)⟩ | omega) ?_)))
      intro IhB4 ehB4 hB4
      have t5 := fup_at ehB4 8 (by first | rfl | omega)
      refine And.intro (True.intro) ?_
      exact ⟨_, rfl, by omega⟩
    · intro c6
      refine And.intro (True.intro) ?_
      exact ⟨_, rfl, by omega⟩
set_option maxRecDepth 8000 in
theorem ct_Tape_isDigit_a19bc {I : fH} {x0 : Int} (h0 : fB bsJ I) (ha0 : (0 ≤ x0 ∧ x0 ≤ 255)) : fC ρ base n F xTc vwCl xTys D dA la gJ (fbz bsJ znJ (fKc []) I) xm_116 [.inl x0] I (fun _ r => ∃ z, r = some (.inl z) ∧ ((z = 1 ∧ 48 ≤ x0 ∧ x0 ≤ 57) ∨ z = 0)) := by
  have hW : fzs [] (fKc []) := fKc_ok _
  refine f_meth (rb := rbJ) (J := []) 1 400 xG xin_116 x6_116 okJ (fB_self h0) ?_ ?_
  · exact fun q h => absurd h List.not_mem_nil
  · have hB0 := fB_self (zn := znJ) (K := fKc []) h0
    refine And.intro (And.intro (by first | exact fi_ ha0.1 ha0.2 rfl | omega) (by first | exact ⟨by decide, by decide⟩ | omega)) (And.intro ?_ ?_)
    · intro c1
      refine And.intro (⟨by omega, by omega⟩) ?_
      exact ⟨_, rfl, by omega⟩
    · intro c2
      refine And.intro (And.intro (by first | exact fi_ (Int.le_trans (Int.le_refl _) c2) ha0.2 rfl | omega) (by first | exact ⟨by decide, by decide⟩ | omega)) (And.intro ?_ ?_)
      · intro c3
        refine And.intro (⟨by omega, by omega⟩) ?_
        exact ⟨_, rfl, by omega⟩
      · intro c4
        refine And.intro (⟨by decide, by decide⟩) ?_
        exact ⟨_, rfl, by omega⟩
set_option maxRecDepth 8000 in
theorem ct_Tape_strengthOf_dd2b6 {I : fH} {x0 : Int} (h0 : fB bsJ I) (ha0 : ((-2147483648) ≤ x0 ∧ x0 ≤ 2147483647)) : fC ρ base n F xTc vwCl xTys D dA la gJ (fbz bsJ znJ (fKc []) I) xm_130 [.inl x0] I (fun _ r => ∃ z, r = some (.inl z) ∧ (0 ≤ z ∧ z ≤ 5)) := by
  have hW : fzs [] (fKc []) := fKc_ok _
  refine f_meth (rb := rbJ) (J := []) 1 400 xG xin_130 x6_130 okJ (fB_self h0) ?_ ?_
  · exact fun q h => absurd h List.not_mem_nil
  · have hB0 := fB_self (zn := znJ) (K := fKc []) h0
    refine And.intro (by first | exact fi_ ha0.1 ha0.2 rfl | omega) ?_
    refine And.intro ?_ ?_
    · intro c1
      refine And.intro (True.intro) ?_
      exact ⟨_, rfl, (by first | exact ⟨by decide, by decide⟩ | omega)⟩
    intro c2
    refine And.intro ?_ ?_
    · intro c3
      refine And.intro (True.intro) ?_
      exact ⟨_, rfl, (by first | exact ⟨by decide, by decide⟩ | omega)⟩
    intro c4
    refine And.intro ?_ ?_
    · intro c5
      refine And.intro (True.intro) ?_
      exact ⟨_, rfl, (by first | exact ⟨by decide, by decide⟩ | omega)⟩
    intro c6
    refine And.intro ?_ ?_
    · intro c7
      refine And.intro (True.intro) ?_
      exact ⟨_, rfl, (by first | exact ⟨by decide, by decide⟩ | omega)⟩
    intro c8
    refine And.intro ?_ ?_
    · intro c9
      refine And.intro (True.intro) ?_
      exact ⟨_, rfl, (by first | exact ⟨by decide, by decide⟩ | omega)⟩
    intro c10
    refine And.intro ?_ ?_
    · intro c11
      refine And.intro (True.intro) ?_
      exact ⟨_, rfl, (by first | exact ⟨by decide, by decide⟩ | omega)⟩
    intro c12
    refine And.intro ?_ ?_
    · intro c13
      refine And.intro (True.intro) ?_
      exact ⟨_, rfl, (by first | exact ⟨by decide, by decide⟩ | omega)⟩
    intro c14
    refine And.intro ?_ ?_
    · intro c15
      refine And.intro (True.intro) ?_
      exact ⟨_, rfl, (by first | exact ⟨by decide, by decide⟩ | omega)⟩
    intro c16
    refine And.intro ?_ ?_
    · intro c17
      refine And.intro (True.intro) ?_
      exact ⟨_, rfl, (by first | exact ⟨by decide, by decide⟩ | omega)⟩
    intro c18
    refine And.intro (True.intro) ?_
    exact ⟨_, rfl, (by first | exact ⟨by decide, by decide⟩ | omega)⟩
set_option maxRecDepth 8000 in
theorem ct_Tape_strengthWaiting_0ab9a {I : fH} {x0 : Int} (h0 : fB bsJ I) (ha0 : ((-2147483648) ≤ x0 ∧ x0 ≤ 2147483647)) : fC ρ base n F xTc vwCl xTys D dA la gJ (fbz bsJ znJ (fKc []) I) xm_129 [.inl x0] I (fun _ r => ∃ z, r = some (.inl z) ∧ (0 ≤ z ∧ z ≤ 6)) := by
  have hW : fzs [] (fKc []) := fKc_ok _
  refine f_meth (rb := rbJ) (J := []) 1 400 xG xin_129 x6_129 okJ (fB_self h0) ?_ ?_
  · exact fun q h => absurd h List.not_mem_nil
  · have hB0 := fB_self (zn := znJ) (K := fKc []) h0
    refine And.intro (And.intro (by first | exact fi_ ha0.1 ha0.2 rfl | omega) (by first | exact ⟨by decide, by decide⟩ | omega)) (And.intro ?_ ?_)
    · intro c1
      refine Exists.intro xm_130 (And.intro mi_130 (And.intro ⟨rfl, rfl, rfl, rfl⟩ (And.intro True.intro ?_)))
      refine fcallp hB0 (ct_Tape_strengthOf_dd2b6 (fBz h0 hB0) (by first | exact ⟨ha0.1, ha0.2⟩ | omega)) ?_
      rintro _ ⟨z2, rfl, hz2⟩
      refine And.intro (True.intro) ?_
      exact ⟨_, rfl, (by first | exact ⟨hz2.1, Int.le_trans hz2.2 (by decide)⟩ | omega)⟩
    · intro c3
      refine And.intro (True.intro) ?_
      exact ⟨_, rfl, (by first | exact ⟨by decide, by decide⟩ | omega)⟩
set_option maxRecDepth 8000 in
theorem ct_Tape_emit_d6314 {I : fH} {x1 : Int} (h0 : fB bsJ I) (ha1 : ((-2147483648) ≤ x1 ∧ x1 ≤ 2147483647)) : fC ρ base n F xTc vwCl xTys D dA la gJ (fbz bsJ znJ (fKc wz_a3f2e) I) xm_123 [.inr (.inr (some 699)), .inl x1] I (fun _ r => ∃ z, r = some (.inl z) ∧ (0 ≤ z ∧ z ≤ 1)) := by
  have hW : fzs wz_a3f2e (fKc wz_a3f2e) := fKc_ok _
  refine f_meth (rb := rbJ) (J := []) 1 400 xG xin_123 x6_123 okJ (fB_self h0) ?_ ?_
  · exact fun q h => absurd h List.not_mem_nil
  · have hB0 := fB_self (zn := znJ) (K := fKc wz_a3f2e) h0
    refine And.intro ⟨rfl, by decide, by decide⟩ (fgetf fb_699_4 h0 hB0 ?_)
    intro z1 lz1 uz1 qz1
    refine And.intro (And.intro (by first | exact fi_ lz1 uz1 rfl | omega) (by first | exact ⟨by decide, by decide⟩ | omega)) (And.intro ?_ ?_)
    · intro c2
      refine And.intro ⟨rfl, by decide, by decide⟩ ?_
      refine And.intro ⟨rfl, by decide, by decide⟩ (fgetf fb_699_4 h0 hB0 ?_)
      intro z3 lz3 uz3 qz3
      refine fstore rS_701_701_0_95_1_0 (fzs_sub (by decide +kernel) hW) (by omega) (by first | exact ⟨ha1.1, ha1.2⟩ | omega) ?_
      intro IhB4 ehB4 hB4
      have t5 := fup_self ehB4
      have t6 : IhB4 699 4 = I 699 4 := (congrFun (congrFun ehB4 699) 4).trans (fup_ne (by first | exact Or.inl (by decide) | omega))
      refine And.intro ⟨rfl, by decide, by decide⟩ (fgetf fb_699_4 h0 hB4 ?_)
      intro z7 lz7 uz7 qz7
      refine And.intro ⟨rfl, by decide, by decide⟩ (And.intro rfl (And.intro (Or.inl rfl) (fputf fb_699_4 (by decide +kernel) hW (by omega) ?_)))
      intro IhB8 ehB8 hB8
      have t9 := fup_at ehB8 4 (by first | rfl | omega)
      refine And.intro (⟨by decide, by decide⟩) ?_
      exact ⟨_, rfl, (by first | exact ⟨by decide, by decide⟩ | omega)⟩
    · intro c10
      refine And.intro (⟨by decide, by decide⟩) ?_
      exact ⟨_, rfl, (by first | exact ⟨by decide, by decide⟩ | omega)⟩
abbrev jc_Tape_settle_fab00_0 : Nat → fL → List fV → fH → Prop := fun m lv st I => ∃ (y1 : Int), lv = [(0, .inr (.inr (some 699))), (1, .inl y1)] ∧ st = [] ∧ (((0 ≤ y1 ∧ y1 ≤ 6))) ∧ m = (1 + 1 * I 699 7 : Int).toNat
set_option maxRecDepth 8000 in
theorem ct_Tape_settle_fab00 {I : fH} {x1 : Int} (h0 : fB bsJ I) (ha1 : (0 ≤ x1 ∧ x1 ≤ 6)) : fC ρ base n F xTc vwCl xTys D dA la gJ (fbz bsJ znJ (fKc wz_0c5eb) I) xm_128 [.inr (.inr (some 699)), .inl x1] I (fun _ r => r = none) := by
  have hW : fzs wz_0c5eb (fKc wz_0c5eb) := fKc_ok _
  refine f_meth (rb := rbJ) (J := [(0, jc_Tape_settle_fab00_0)]) 98 400 xG xin_128 x6_128 okJ (fB_self h0) ?_ ?_
  · refine List.forall_mem_cons.mpr ⟨?_, fun q h => absurd h List.not_mem_nil⟩
    · rintro m _ _ I1 hB1 ⟨y1, rfl, rfl, hb, hm⟩
      refine And.intro ⟨rfl, by decide, by decide⟩ (fgetf fb_699_7 h0 hB1 ?_)
      intro z1 lz1 uz1 qz1
      refine And.intro (by first | exact fi_ lz1 uz1 rfl | omega) (And.intro ?_ ?_)
      · intro c2
        exact rfl
      · intro c3
        refine And.intro ⟨rfl, by decide, by decide⟩ ?_
        refine And.intro ⟨rfl, by decide, by decide⟩ (fgetf fb_699_7 h0 hB1 ?_)
        intro z4 lz4 uz4 qz4
        refine fload rL_702_702_0_95_1_0 h0 hB1 (by omega) ?_
        intro z5 lz5 uz5 qz5
        refine Exists.intro xm_129 (And.intro mi_129 (And.intro ⟨rfl, rfl, rfl, rfl⟩ (And.intro True.intro ?_)))
        refine fcallp hB1 (ct_Tape_strengthWaiting_0ab9a (fBz h0 hB1) (by first | exact ⟨lz5, uz5⟩ | omega)) ?_
        rintro _ ⟨z6, rfl, hz6⟩
        refine And.intro (And.intro (by first | exact fi_ hz6.1 hz6.2 rfl | omega) (by first | exact fi_ hb.1 hb.2 rfl | omega)) (And.intro ?_ ?_)
        · intro c7
          exact rfl
        · intro c8
          refine And.intro ⟨rfl, by decide, by decide⟩ (fgetf fb_699_7 h0 hB1 ?_)
          intro z9 lz9 uz9 qz9
          refine And.intro ⟨rfl, by decide, by decide⟩ (And.intro rfl (And.intro (Or.inl rfl) (fputf fb_699_7 (by decide +kernel) hW (by omega) ?_)))
          intro IhB10 ehB10 hB10
          have t11 := fup_at ehB10 7 (by first | rfl | omega)
          refine And.intro ⟨rfl, by decide, by decide⟩ ?_
          refine And.intro ⟨rfl, by decide, by decide⟩ (fgetf fb_699_7 h0 hB10 ?_)
          intro z12 lz12 uz12 qz12
          refine fload rL_702_702_0_95_1_0 h0 hB10 (by omega) ?_
          intro z13 lz13 uz13 qz13
          refine And.intro (And.intro (by first | exact fi_ lz13 uz13 rfl | omega) (by first | exact ⟨by decide, by decide⟩ | omega)) (And.intro ?_ ?_)
          · intro c14
            refine And.intro ⟨rfl, by decide, by decide⟩ ?_
            refine And.intro ⟨rfl, by decide, by decide⟩ (fgetf fb_699_7 h0 hB10 ?_)
            intro z15 lz15 uz15 qz15
            refine fload rL_702_702_0_95_1_0 h0 hB10 (by omega) ?_
            intro z16 lz16 uz16 qz16
            intro z17 hz17 ez17 bz17
            clear ez17
            clear bz17
            refine Exists.intro xm_123 (And.intro mi_123 (And.intro ⟨rfl, rfl, rfl, rfl⟩ (And.intro rfl ?_)))
            refine fcall _ h0 (fzs_sub (by decide +kernel) hW) hB10 (ct_Tape_emit_d6314 (fBz h0 hB10) (by omega)) ?_
            rintro IhB19 _ hB19 fhB19 ⟨z18, rfl, hz18⟩
            have t20 := fhB19 699 7 (by decide +kernel)
            exact fcutJ (I := IhB19) (j := jc_Tape_settle_fab00_0) (lv' := [(0, .inr (.inr (some 699))), (1, .inl _)]) (And.intro rfl (And.intro rfl True.intro)) ⟨_, rfl, rfl, by omega, rfl⟩ (by omega)
          · intro c21
            refine And.intro ⟨rfl, by decide, by decide⟩ (fgetf fb_699_9 h0 hB10 ?_)
            intro z22 lz22 uz22 qz22
            intro z23 hz23 ez23 bz23
            clear ez23
            clear bz23
            refine And.intro ⟨rfl, by decide, by decide⟩ (And.intro rfl (And.intro (Or.inl rfl) (fputf fb_699_9 (by decide +kernel) hW (by omega) ?_)))
            intro IhB24 ehB24 hB24
            have t25 : IhB24 699 7 = IhB10 699 7 := (congrFun (congrFun ehB24 699) 7).trans (fup_ne (by first | decide | omega))
            refine And.intro ⟨rfl, by decide, by decide⟩ ?_
            refine And.intro ⟨rfl, by decide, by decide⟩ (fgetf fb_699_7 h0 hB24 ?_)
            intro z26 lz26 uz26 qz26
            refine fload rL_702_702_0_95_1_0 h0 hB24 (by omega) ?_
            intro z27 lz27 uz27 qz27
            intro z28 hz28 ez28 bz28
            clear ez28
            clear bz28
            refine Exists.intro xm_123 (And.intro mi_123 (And.intro ⟨rfl, rfl, rfl, rfl⟩ (And.intro rfl ?_)))
            refine fcall _ h0 (fzs_sub (by decide +kernel) hW) hB24 (ct_Tape_emit_d6314 (fBz h0 hB24) (by omega)) ?_
            rintro IhB30 _ hB30 fhB30 ⟨z29, rfl, hz29⟩
            have t31 := fhB30 699 7 (by decide +kernel)
            exact fcutJ (I := IhB30) (j := jc_Tape_settle_fab00_0) (lv' := [(0, .inr (.inr (some 699))), (1, .inl _)]) (And.intro rfl (And.intro rfl True.intro)) ⟨_, rfl, rfl, by omega, rfl⟩ (by omega)
  · have hB0 := fB_self (zn := znJ) (K := fKc wz_0c5eb) h0
    refine And.intro ⟨rfl, by decide, by decide⟩ (fgetf fb_699_7 h0 hB0 ?_)
    intro z32 lz32 uz32 qz32
    refine And.intro (by first | exact fi_ lz32 uz32 rfl | omega) (And.intro ?_ ?_)
    · intro c33
      exact rfl
    · intro c34
      refine And.intro ⟨rfl, by decide, by decide⟩ ?_
      refine And.intro ⟨rfl, by decide, by decide⟩ (fgetf fb_699_7 h0 hB0 ?_)
      intro z35 lz35 uz35 qz35
      refine fload rL_702_702_0_95_1_0 h0 hB0 (by omega) ?_
      intro z36 lz36 uz36 qz36
      refine Exists.intro xm_129 (And.intro mi_129 (And.intro ⟨rfl, rfl, rfl, rfl⟩ (And.intro True.intro ?_)))
      refine fcallp hB0 (ct_Tape_strengthWaiting_0ab9a (fBz h0 hB0) (by first | exact ⟨lz36, uz36⟩ | omega)) ?_
      rintro _ ⟨z37, rfl, hz37⟩
      refine And.intro (And.intro (by first | exact fi_ hz37.1 hz37.2 rfl | omega) (by first | exact fi_ ha1.1 ha1.2 rfl | omega)) (And.intro ?_ ?_)
      · intro c38
        exact rfl
      · intro c39
        refine And.intro ⟨rfl, by decide, by decide⟩ (fgetf fb_699_7 h0 hB0 ?_)
        intro z40 lz40 uz40 qz40
        refine And.intro ⟨rfl, by decide, by decide⟩ (And.intro rfl (And.intro (Or.inl rfl) (fputf fb_699_7 (by decide +kernel) hW (by omega) ?_)))
        intro IhB41 ehB41 hB41
        have t42 := fup_at ehB41 7 (by first | rfl | omega)
        refine And.intro ⟨rfl, by decide, by decide⟩ ?_
        refine And.intro ⟨rfl, by decide, by decide⟩ (fgetf fb_699_7 h0 hB41 ?_)
        intro z43 lz43 uz43 qz43
        refine fload rL_702_702_0_95_1_0 h0 hB41 (by omega) ?_
        intro z44 lz44 uz44 qz44
        refine And.intro (And.intro (by first | exact fi_ lz44 uz44 rfl | omega) (by first | exact ⟨by decide, by decide⟩ | omega)) (And.intro ?_ ?_)
        · intro c45
          refine And.intro ⟨rfl, by decide, by decide⟩ ?_
          refine And.intro ⟨rfl, by decide, by decide⟩ (fgetf fb_699_7 h0 hB41 ?_)
          intro z46 lz46 uz46 qz46
          refine fload rL_702_702_0_95_1_0 h0 hB41 (by omega) ?_
          intro z47 lz47 uz47 qz47
          intro z48 hz48 ez48 bz48
          clear ez48
          clear bz48
          refine Exists.intro xm_123 (And.intro mi_123 (And.intro ⟨rfl, rfl, rfl, rfl⟩ (And.intro rfl ?_)))
          refine fcall _ h0 (fzs_sub (by decide +kernel) hW) hB41 (ct_Tape_emit_d6314 (fBz h0 hB41) (by omega)) ?_
          rintro IhB50 _ hB50 fhB50 ⟨z49, rfl, hz49⟩
          have t51 := fhB50 699 7 (by decide +kernel)
          exact fcutJ (I := IhB50) (j := jc_Tape_settle_fab00_0) (lv' := [(0, .inr (.inr (some 699))), (1, .inl _)]) (And.intro rfl (And.intro rfl True.intro)) ⟨_, rfl, rfl, by omega, rfl⟩ (by omega)
        · intro c52
          refine And.intro ⟨rfl, by decide, by decide⟩ (fgetf fb_699_9 h0 hB41 ?_)
          intro z53 lz53 uz53 qz53
          intro z54 hz54 ez54 bz54
          clear ez54
          clear bz54
          refine And.intro ⟨rfl, by decide, by decide⟩ (And.intro rfl (And.intro (Or.inl rfl) (fputf fb_699_9 (by decide +kernel) hW (by omega) ?_)))
          intro IhB55 ehB55 hB55
          have t56 : IhB55 699 7 = IhB41 699 7 := (congrFun (congrFun ehB55 699) 7).trans (fup_ne (by first | decide | omega))
          refine And.intro ⟨rfl, by decide, by decide⟩ ?_
          refine And.intro ⟨rfl, by decide, by decide⟩ (fgetf fb_699_7 h0 hB55 ?_)
          intro z57 lz57 uz57 qz57
          refine fload rL_702_702_0_95_1_0 h0 hB55 (by omega) ?_
          intro z58 lz58 uz58 qz58
          intro z59 hz59 ez59 bz59
          clear ez59
          clear bz59
          refine Exists.intro xm_123 (And.intro mi_123 (And.intro ⟨rfl, rfl, rfl, rfl⟩ (And.intro rfl ?_)))
          refine fcall _ h0 (fzs_sub (by decide +kernel) hW) hB55 (ct_Tape_emit_d6314 (fBz h0 hB55) (by omega)) ?_
          rintro IhB61 _ hB61 fhB61 ⟨z60, rfl, hz60⟩
          have t62 := fhB61 699 7 (by decide +kernel)
          exact fcutJ (I := IhB61) (j := jc_Tape_settle_fab00_0) (lv' := [(0, .inr (.inr (some 699))), (1, .inl _)]) (And.intro rfl (And.intro rfl True.intro)) ⟨_, rfl, rfl, by omega, rfl⟩ (by omega)
set_option maxRecDepth 8000 in
theorem ct_Tape_push_d8da9 {I : fH} {x1 : Int} (h0 : fB bsJ I) (ha1 : (0 ≤ x1 ∧ x1 ≤ 255)) : fC ρ base n F xTc vwCl xTys D dA la gJ (fbz bsJ znJ (fKc wz_4372f) I) xm_125 [.inr (.inr (some 699)), .inl x1] I (fun _ r => ∃ z, r = some (.inl z) ∧ (0 ≤ z ∧ z ≤ 1)) := by
  have hW : fzs wz_4372f (fKc wz_4372f) := fKc_ok _
  refine f_meth (rb := rbJ) (J := []) 1 400 xG xin_125 x6_125 okJ (fB_self h0) ?_ ?_
  · exact fun q h => absurd h List.not_mem_nil
  · have hB0 := fB_self (zn := znJ) (K := fKc wz_4372f) h0
    refine And.intro ⟨rfl, by decide, by decide⟩ (fgetf fb_699_7 h0 hB0 ?_)
    intro z1 lz1 uz1 qz1
    refine And.intro (And.intro (by first | exact fi_ lz1 uz1 rfl | omega) (by first | exact ⟨by decide, by decide⟩ | omega)) (And.intro ?_ ?_)
    · intro c2
      refine And.intro ⟨rfl, by decide, by decide⟩ ?_
      refine And.intro ⟨rfl, by decide, by decide⟩ (fgetf fb_699_7 h0 hB0 ?_)
      intro z3 lz3 uz3 qz3
      refine fstore rS_702_702_0_95_1_0 (fzs_sub (by decide +kernel) hW) (by omega) (by first | exact ⟨Int.le_trans (by decide) ha1.1, Int.le_trans ha1.2 (by decide)⟩ | omega) ?_
      intro IhB4 ehB4 hB4
      have t5 := fup_self ehB4
      have t6 : IhB4 699 7 = I 699 7 := (congrFun (congrFun ehB4 699) 7).trans (fup_ne (by first | exact Or.inl (by decide) | omega))
      refine And.intro ⟨rfl, by decide, by decide⟩ (fgetf fb_699_7 h0 hB4 ?_)
      intro z7 lz7 uz7 qz7
      refine And.intro ⟨rfl, by decide, by decide⟩ (And.intro rfl (And.intro (Or.inl rfl) (fputf fb_699_7 (by decide +kernel) hW (by omega) ?_)))
      intro IhB8 ehB8 hB8
      have t9 := fup_at ehB8 7 (by first | rfl | omega)
      refine And.intro (⟨by decide, by decide⟩) ?_
      exact ⟨_, rfl, (by first | exact ⟨by decide, by decide⟩ | omega)⟩
    · intro c10
      refine And.intro (⟨by decide, by decide⟩) ?_
      exact ⟨_, rfl, (by first | exact ⟨by decide, by decide⟩ | omega)⟩
set_option maxRecDepth 8000 in
theorem ct_Tape_close_9696d {I : fH}  (h0 : fB bsJ I)  : fC ρ base n F xTc vwCl xTys D dA la gJ (fbz bsJ znJ (fKc wz_b7a7b) I) xm_127 [.inr (.inr (some 699))] I (fun _ r => ∃ z, r = some (.inl z) ∧ (1 ≤ z ∧ z ≤ 1)) := by
  have hW : fzs wz_b7a7b (fKc wz_b7a7b) := fKc_ok _
  refine f_meth (rb := rbJ) (J := []) 1 400 xG xin_127 x6_127 okJ (fB_self h0) ?_ ?_
  · exact fun q h => absurd h List.not_mem_nil
  · have hB0 := fB_self (zn := znJ) (K := fKc wz_b7a7b) h0
    refine Exists.intro xm_128 (And.intro mi_128 (And.intro ⟨rfl, rfl, rfl, rfl⟩ (And.intro rfl ?_)))
    refine fcall _ h0 (fzs_sub (by decide +kernel) hW) hB0 (ct_Tape_settle_fab00 (fBz h0 hB0) (by first | exact ⟨by decide, by decide⟩ | omega)) ?_
    rintro IhB2 _ hB2 fhB2 rfl
    refine And.intro ⟨rfl, by decide, by decide⟩ (fgetf fb_699_7 h0 hB2 ?_)
    intro z3 lz3 uz3 qz3
    refine And.intro (by first | exact fi_ lz3 uz3 rfl | omega) (And.intro ?_ ?_)
    · intro c4
      refine And.intro ⟨rfl, by decide, by decide⟩ (fgetf fb_699_8 h0 hB2 ?_)
      intro z5 lz5 uz5 qz5
      intro z6 hz6 ez6 bz6
      clear ez6
      clear bz6
      refine And.intro ⟨rfl, by decide, by decide⟩ (And.intro rfl (And.intro (Or.inl rfl) (fputf fb_699_8 (by decide +kernel) hW (by omega) ?_)))
      intro IhB7 ehB7 hB7
      have t8 : IhB7 699 7 = IhB2 699 7 := (congrFun (congrFun ehB7 699) 7).trans (fup_ne (by first | decide | omega))
      have t9 := fup_at ehB7 8 (by first | rfl | omega)
      refine And.intro (⟨by decide, by decide⟩) ?_
      exact ⟨_, rfl, (by first | exact ⟨by decide, by decide⟩ | omega)⟩
    · intro c10
      refine And.intro ⟨rfl, by decide, by decide⟩ (fgetf fb_699_7 h0 hB2 ?_)
      intro z11 lz11 uz11 qz11
      refine And.intro ⟨rfl, by decide, by decide⟩ (And.intro rfl (And.intro (Or.inl rfl) (fputf fb_699_7 (by decide +kernel) hW (by omega) ?_)))
      intro IhB12 ehB12 hB12
      have t13 := fup_at ehB12 7 (by first | rfl | omega)
      refine And.intro ⟨rfl, by decide, by decide⟩ (fgetf fb_699_8 h0 hB12 ?_)
      intro z14 lz14 uz14 qz14
      intro z15 hz15 ez15 bz15
      clear ez15
      clear bz15
      refine And.intro ⟨rfl, by decide, by decide⟩ (And.intro rfl (And.intro (Or.inl rfl) (fputf fb_699_8 (by decide +kernel) hW (by omega) ?_)))
      intro IhB16 ehB16 hB16
      have t17 : IhB16 699 7 = IhB12 699 7 := (congrFun (congrFun ehB16 699) 7).trans (fup_ne (by first | decide | omega))
      have t18 := fup_at ehB16 8 (by first | rfl | omega)
      refine And.intro (⟨by decide, by decide⟩) ?_
      exact ⟨_, rfl, (by first | exact ⟨by decide, by decide⟩ | omega)⟩
abbrev jc_Tape_takeSign_f125c_24 : Nat → fL → List fV → fH → Prop := fun m lv st I => lv = [] ∧ st = [] ∧ ((((-2147483648) ≤ I 699 8 ∧ I 699 8 ≤ 0))) ∧ m = (2 : Int).toNat
abbrev jc_Tape_takeSign_f125c_98 : Nat → fL → List fV → fH → Prop := fun m lv st I => ∃ (y1 : Int), lv = [(0, .inr (.inr (some 699))), (1, .inl y1)] ∧ st = [] ∧ (((0 ≤ y1 ∧ y1 ≤ 255))) ∧ m = (1 : Int).toNat
set_option maxRecDepth 8000 in
theorem ct_Tape_takeSign_f125c {I : fH} {x1 : Int} (h0 : fB bsJ I) (ha1 : (0 ≤ x1 ∧ x1 ≤ 255)) : fC ρ base n F xTc vwCl xTys D dA la gJ (fbz bsJ znJ (fKc wz_dd461) I) xm_126 [.inr (.inr (some 699)), .inl x1] I (fun _ r => ∃ z, r = some (.inl z) ∧ (0 ≤ z ∧ z ≤ 1)) := by
  have hW : fzs wz_dd461 (fKc wz_dd461) := fKc_ok _
  refine f_meth (rb := rbJ) (J := [(24, jc_Tape_takeSign_f125c_24), (98, jc_Tape_takeSign_f125c_98)]) 3 400 xG xin_126 x6_126 okJ (fB_self h0) ?_ ?_
  · refine List.forall_mem_cons.mpr ⟨?_, List.forall_mem_cons.mpr ⟨?_, fun q h => absurd h List.not_mem_nil⟩⟩
    · rintro m _ _ I1 hB1 ⟨rfl, rfl, hb, hm⟩
      refine And.intro (⟨by omega, by omega⟩) ?_
      exact ⟨_, rfl, by omega⟩
    · rintro m _ _ I1 hB1 ⟨y1, rfl, rfl, hb, hm⟩
      refine And.intro ⟨rfl, by decide, by decide⟩ (And.intro rfl (And.intro (Or.inr ⟨rfl, by decide, by decide⟩) (fputf fb_699_10 (by decide +kernel) hW (by first | exact ⟨by decide, by decide⟩ | omega) ?_)))
      intro IhB1 ehB1 hB1
      have t2 := fup_at ehB1 10 (by first | rfl | omega)
      refine Exists.intro xm_125 (And.intro mi_125 (And.intro ⟨rfl, rfl, rfl, rfl⟩ (And.intro rfl ?_)))
      refine fcall _ h0 (fzs_sub (by decide +kernel) hW) hB1 (ct_Tape_push_d8da9 (fBz h0 hB1) (by first | exact ⟨hb.1, hb.2⟩ | omega)) ?_
      rintro IhB4 _ hB4 fhB4 ⟨z3, rfl, hz3⟩
      have t5 := fhB4 699 10 (by decide +kernel)
      refine And.intro (⟨by omega, by omega⟩) ?_
      exact ⟨_, rfl, by omega⟩
  · have hB0 := fB_self (zn := znJ) (K := fKc wz_dd461) h0
    refine And.intro (And.intro (by first | exact fi_ ha1.1 ha1.2 rfl | omega) (by first | exact ⟨by decide, by decide⟩ | omega)) (And.intro ?_ ?_)
    · intro c6
      refine Exists.intro xm_130 (And.intro mi_130 (And.intro ⟨rfl, rfl, rfl, rfl⟩ (And.intro True.intro ?_)))
      refine fcallp hB0 (ct_Tape_strengthOf_dd2b6 (fBz h0 hB0) (by first | exact ⟨Int.le_trans (by decide) ha1.1, Int.le_trans ha1.2 (by decide)⟩ | omega)) ?_
      rintro _ ⟨z7, rfl, hz7⟩
      refine And.intro (by first | exact fi_ hz7.1 hz7.2 rfl | omega) (And.intro ?_ ?_)
      · intro c8
        refine Exists.intro xm_130 (And.intro mi_130 (And.intro ⟨rfl, rfl, rfl, rfl⟩ (And.intro True.intro ?_)))
        refine fcallp hB0 (ct_Tape_strengthOf_dd2b6 (fBz h0 hB0) (by first | exact ⟨by decide, by decide⟩ | omega)) ?_
        rintro _ ⟨z9, rfl, hz9⟩
        refine And.intro (And.intro (by first | exact fi_ hz7.1 hz7.2 rfl | omega) (by first | exact fi_ hz9.1 hz9.2 rfl | omega)) (And.intro ?_ ?_)
        · intro c10
          refine And.intro (by omega) (And.intro ?_ ?_)
          · intro c11
            refine Exists.intro xm_128 (And.intro mi_128 (And.intro ⟨rfl, rfl, rfl, rfl⟩ (And.intro rfl ?_)))
            refine fcall _ h0 (fzs_sub (by decide +kernel) hW) hB0 (ct_Tape_settle_fab00 (fBz h0 hB0) (by first | exact ⟨hz7.1, Int.le_trans hz7.2 (by decide)⟩ | omega)) ?_
            rintro IhB13 _ hB13 fhB13 rfl
            refine And.intro (by omega) (And.intro ?_ ?_)
            · intro c14
              exact fcutJ (I := IhB13) (j := jc_Tape_takeSign_f125c_98) (lv' := [(0, .inr (.inr (some 699))), (1, .inl _)]) (And.intro rfl (And.intro rfl True.intro)) ⟨_, rfl, rfl, by omega, rfl⟩ (by omega)
            · intro c15
              refine And.intro ⟨rfl, by decide, by decide⟩ (fgetf fb_699_7 h0 hB13 ?_)
              intro z16 lz16 uz16 qz16
              refine And.intro (by first | exact fi_ lz16 uz16 rfl | omega) (And.intro ?_ ?_)
              · intro c17
                exact fcutJ (I := IhB13) (j := jc_Tape_takeSign_f125c_98) (lv' := [(0, .inr (.inr (some 699))), (1, .inl _)]) (And.intro rfl (And.intro rfl True.intro)) ⟨_, rfl, rfl, by omega, rfl⟩ (by omega)
              · intro c18
                refine And.intro ⟨rfl, by decide, by decide⟩ ?_
                refine And.intro ⟨rfl, by decide, by decide⟩ (fgetf fb_699_7 h0 hB13 ?_)
                intro z19 lz19 uz19 qz19
                refine fload rL_702_702_0_95_1_0 h0 hB13 (by omega) ?_
                intro z20 lz20 uz20 qz20
                refine Exists.intro xm_130 (And.intro mi_130 (And.intro ⟨rfl, rfl, rfl, rfl⟩ (And.intro True.intro ?_)))
                refine fcallp hB13 (ct_Tape_strengthOf_dd2b6 (fBz h0 hB13) (by first | exact ⟨lz20, uz20⟩ | omega)) ?_
                rintro _ ⟨z21, rfl, hz21⟩
                refine And.intro (And.intro (by first | exact fi_ hz21.1 hz21.2 rfl | omega) (by first | exact fi_ hz7.1 hz7.2 rfl | omega)) (And.intro ?_ ?_)
                · intro c22
                  exact fcutJ (I := IhB13) (j := jc_Tape_takeSign_f125c_98) (lv' := [(0, .inr (.inr (some 699))), (1, .inl _)]) (And.intro rfl (And.intro rfl True.intro)) ⟨_, rfl, rfl, by omega, rfl⟩ (by omega)
                · intro c23
                  refine And.intro (⟨by decide, by decide⟩) ?_
                  exact ⟨_, rfl, (by first | exact ⟨by decide, by decide⟩ | omega)⟩
          · intro c24
            refine Exists.intro xm_128 (And.intro mi_128 (And.intro ⟨rfl, rfl, rfl, rfl⟩ (And.intro rfl ?_)))
            refine fcall _ h0 (fzs_sub (by decide +kernel) hW) hB0 (ct_Tape_settle_fab00 (fBz h0 hB0) (by omega)) ?_
            rintro IhB26 _ hB26 fhB26 rfl
            refine And.intro (by omega) (And.intro ?_ ?_)
            · intro c27
              exact fcutJ (I := IhB26) (j := jc_Tape_takeSign_f125c_98) (lv' := [(0, .inr (.inr (some 699))), (1, .inl _)]) (And.intro rfl (And.intro rfl True.intro)) ⟨_, rfl, rfl, by omega, rfl⟩ (by omega)
            · intro c28
              refine And.intro ⟨rfl, by decide, by decide⟩ (fgetf fb_699_7 h0 hB26 ?_)
              intro z29 lz29 uz29 qz29
              refine And.intro (by first | exact fi_ lz29 uz29 rfl | omega) (And.intro ?_ ?_)
              · intro c30
                exact fcutJ (I := IhB26) (j := jc_Tape_takeSign_f125c_98) (lv' := [(0, .inr (.inr (some 699))), (1, .inl _)]) (And.intro rfl (And.intro rfl True.intro)) ⟨_, rfl, rfl, by omega, rfl⟩ (by omega)
              · intro c31
                refine And.intro ⟨rfl, by decide, by decide⟩ ?_
                refine And.intro ⟨rfl, by decide, by decide⟩ (fgetf fb_699_7 h0 hB26 ?_)
                intro z32 lz32 uz32 qz32
                refine fload rL_702_702_0_95_1_0 h0 hB26 (by omega) ?_
                intro z33 lz33 uz33 qz33
                refine Exists.intro xm_130 (And.intro mi_130 (And.intro ⟨rfl, rfl, rfl, rfl⟩ (And.intro True.intro ?_)))
                refine fcallp hB26 (ct_Tape_strengthOf_dd2b6 (fBz h0 hB26) (by first | exact ⟨lz33, uz33⟩ | omega)) ?_
                rintro _ ⟨z34, rfl, hz34⟩
                refine And.intro (And.intro (by first | exact fi_ hz34.1 hz34.2 rfl | omega) (by first | exact fi_ hz7.1 hz7.2 rfl | omega)) (And.intro ?_ ?_)
                · intro c35
                  exact fcutJ (I := IhB26) (j := jc_Tape_takeSign_f125c_98) (lv' := [(0, .inr (.inr (some 699))), (1, .inl _)]) (And.intro rfl (And.intro rfl True.intro)) ⟨_, rfl, rfl, by omega, rfl⟩ (by omega)
                · intro c36
                  refine And.intro (⟨by decide, by decide⟩) ?_
                  exact ⟨_, rfl, (by first | exact ⟨by decide, by decide⟩ | omega)⟩
        · intro c37
          refine And.intro (by first | exact ⟨by decide, by decide⟩ | omega) (And.intro ?_ ?_)
          · intro c38
            refine Exists.intro xm_128 (And.intro mi_128 (And.intro ⟨rfl, rfl, rfl, rfl⟩ (And.intro rfl ?_)))
            refine fcall _ h0 (fzs_sub (by decide +kernel) hW) hB0 (ct_Tape_settle_fab00 (fBz h0 hB0) (by first | exact ⟨hz7.1, Int.le_trans hz7.2 (by decide)⟩ | omega)) ?_
            rintro IhB40 _ hB40 fhB40 rfl
            refine And.intro (by first | exact ⟨by decide, by decide⟩ | omega) (And.intro ?_ ?_)
            · intro c41
              exact fcutJ (I := IhB40) (j := jc_Tape_takeSign_f125c_98) (lv' := [(0, .inr (.inr (some 699))), (1, .inl _)]) (And.intro rfl (And.intro rfl True.intro)) ⟨_, rfl, rfl, by omega, rfl⟩ (by omega)
            · intro c42
              refine And.intro ⟨rfl, by decide, by decide⟩ (fgetf fb_699_7 h0 hB40 ?_)
              intro z43 lz43 uz43 qz43
              refine And.intro (by first | exact fi_ lz43 uz43 rfl | omega) (And.intro ?_ ?_)
              · intro c44
                exact fcutJ (I := IhB40) (j := jc_Tape_takeSign_f125c_98) (lv' := [(0, .inr (.inr (some 699))), (1, .inl _)]) (And.intro rfl (And.intro rfl True.intro)) ⟨_, rfl, rfl, by omega, rfl⟩ (by omega)
              · intro c45
                refine And.intro ⟨rfl, by decide, by decide⟩ ?_
                refine And.intro ⟨rfl, by decide, by decide⟩ (fgetf fb_699_7 h0 hB40 ?_)
                intro z46 lz46 uz46 qz46
                refine fload rL_702_702_0_95_1_0 h0 hB40 (by omega) ?_
                intro z47 lz47 uz47 qz47
                refine Exists.intro xm_130 (And.intro mi_130 (And.intro ⟨rfl, rfl, rfl, rfl⟩ (And.intro True.intro ?_)))
                refine fcallp hB40 (ct_Tape_strengthOf_dd2b6 (fBz h0 hB40) (by first | exact ⟨lz47, uz47⟩ | omega)) ?_
                rintro _ ⟨z48, rfl, hz48⟩
                refine And.intro (And.intro (by first | exact fi_ hz48.1 hz48.2 rfl | omega) (by first | exact fi_ hz7.1 hz7.2 rfl | omega)) (And.intro ?_ ?_)
                · intro c49
                  exact fcutJ (I := IhB40) (j := jc_Tape_takeSign_f125c_98) (lv' := [(0, .inr (.inr (some 699))), (1, .inl _)]) (And.intro rfl (And.intro rfl True.intro)) ⟨_, rfl, rfl, by omega, rfl⟩ (by omega)
                · intro c50
                  refine And.intro (⟨by decide, by decide⟩) ?_
                  exact ⟨_, rfl, (by first | exact ⟨by decide, by decide⟩ | omega)⟩
          · intro c51
            refine Exists.intro xm_128 (And.intro mi_128 (And.intro ⟨rfl, rfl, rfl, rfl⟩ (And.intro rfl ?_)))
            refine fcall _ h0 (fzs_sub (by decide +kernel) hW) hB0 (ct_Tape_settle_fab00 (fBz h0 hB0) (by omega)) ?_
            rintro IhB53 _ hB53 fhB53 rfl
            refine And.intro (by first | exact ⟨by decide, by decide⟩ | omega) (And.intro ?_ ?_)
            · intro c54
              exact fcutJ (I := IhB53) (j := jc_Tape_takeSign_f125c_98) (lv' := [(0, .inr (.inr (some 699))), (1, .inl _)]) (And.intro rfl (And.intro rfl True.intro)) ⟨_, rfl, rfl, by omega, rfl⟩ (by omega)
            · intro c55
              refine And.intro ⟨rfl, by decide, by decide⟩ (fgetf fb_699_7 h0 hB53 ?_)
              intro z56 lz56 uz56 qz56
              refine And.intro (by first | exact fi_ lz56 uz56 rfl | omega) (And.intro ?_ ?_)
              · intro c57
                exact fcutJ (I := IhB53) (j := jc_Tape_takeSign_f125c_98) (lv' := [(0, .inr (.inr (some 699))), (1, .inl _)]) (And.intro rfl (And.intro rfl True.intro)) ⟨_, rfl, rfl, by omega, rfl⟩ (by omega)
              · intro c58
                refine And.intro ⟨rfl, by decide, by decide⟩ ?_
                refine And.intro ⟨rfl, by decide, by decide⟩ (fgetf fb_699_7 h0 hB53 ?_)
                intro z59 lz59 uz59 qz59
                refine fload rL_702_702_0_95_1_0 h0 hB53 (by omega) ?_
                intro z60 lz60 uz60 qz60
                refine Exists.intro xm_130 (And.intro mi_130 (And.intro ⟨rfl, rfl, rfl, rfl⟩ (And.intro True.intro ?_)))
                refine fcallp hB53 (ct_Tape_strengthOf_dd2b6 (fBz h0 hB53) (by first | exact ⟨lz60, uz60⟩ | omega)) ?_
                rintro _ ⟨z61, rfl, hz61⟩
                refine And.intro (And.intro (by first | exact fi_ hz61.1 hz61.2 rfl | omega) (by first | exact fi_ hz7.1 hz7.2 rfl | omega)) (And.intro ?_ ?_)
                · intro c62
                  exact fcutJ (I := IhB53) (j := jc_Tape_takeSign_f125c_98) (lv' := [(0, .inr (.inr (some 699))), (1, .inl _)]) (And.intro rfl (And.intro rfl True.intro)) ⟨_, rfl, rfl, by omega, rfl⟩ (by omega)
                · intro c63
                  refine And.intro (⟨by decide, by decide⟩) ?_
                  exact ⟨_, rfl, (by first | exact ⟨by decide, by decide⟩ | omega)⟩
      · intro c64
        refine And.intro (⟨by decide, by decide⟩) ?_
        exact ⟨_, rfl, (by first | exact ⟨by decide, by decide⟩ | omega)⟩
    · intro c65
      refine And.intro ⟨rfl, by decide, by decide⟩ (fgetf fb_699_8 h0 hB0 ?_)
      intro z66 lz66 uz66 qz66
      refine And.intro (by first | exact fi_ lz66 uz66 rfl | omega) (And.intro ?_ ?_)
      · intro c67
        exact fcutJ (I := I) (j := jc_Tape_takeSign_f125c_24) (lv' := []) (True.intro) ⟨rfl, rfl, by omega, rfl⟩ (by omega)
      · intro c68
        refine Exists.intro xm_127 (And.intro mi_127 (And.intro ⟨rfl, rfl, rfl, rfl⟩ (And.intro rfl ?_)))
        refine fcall _ h0 (fzs_sub (by decide +kernel) hW) hB0 (ct_Tape_close_9696d (fBz h0 hB0)) ?_
        rintro IhB70 _ hB70 fhB70 ⟨z69, rfl, hz69⟩
        refine And.intro (by omega) (And.intro ?_ ?_)
        · intro c71
          exact fcutJ (I := IhB70) (j := jc_Tape_takeSign_f125c_24) (lv' := []) (True.intro) ⟨rfl, rfl, by omega, rfl⟩ (by omega)
        · intro c72
          refine And.intro (⟨by decide, by decide⟩) ?_
          exact ⟨_, rfl, (by first | exact ⟨by decide, by decide⟩ | omega)⟩
abbrev jc_Tape_behindBlanks_aea90_2 : Nat → fL → List fV → fH → Prop := fun m lv st I => ∃ (y2 : Int), lv = [(0, .inr (.inr (some 699))), (2, .inl y2)] ∧ st = [] ∧ (((0 ≤ y2 ∧ y2 ≤ 96))) ∧ m = (1 + 1 * (96 - y2) : Int).toNat
set_option maxRecDepth 8000 in
theorem ct_Tape_behindBlanks_aea90 {I : fH} {x1 : Int} (h0 : fB bsJ I) (ha1 : (0 ≤ x1 ∧ x1 ≤ 96)) : fC ρ base n F xTc vwCl xTys D dA la gJ (fbz bsJ znJ (fKc []) I) xm_113 [.inr (.inr (some 699)), .inl x1] I (fun _ r => ∃ z, r = some (.inl z) ∧ (0 ≤ z ∧ z ≤ 96)) := by
  have hW : fzs [] (fKc []) := fKc_ok _
  refine f_meth (rb := rbJ) (J := [(2, jc_Tape_behindBlanks_aea90_2)]) 98 400 xG xin_113 x6_113 okJ (fB_self h0) ?_ ?_
  · refine List.forall_mem_cons.mpr ⟨?_, fun q h => absurd h List.not_mem_nil⟩
    · rintro m _ _ I1 hB1 ⟨y2, rfl, rfl, hb, hm⟩
      refine And.intro ⟨rfl, by decide, by decide⟩ (fgetf fb_699_1 h0 hB1 ?_)
      intro z1 lz1 uz1 qz1
      refine And.intro (And.intro (by first | exact fi_ hb.1 hb.2 rfl | omega) (by first | exact fi_ lz1 uz1 rfl | omega)) (And.intro ?_ ?_)
      · intro c2
        refine And.intro (True.intro) ?_
        exact ⟨_, rfl, (by first | exact ⟨hb.1, hb.2⟩ | omega)⟩
      · intro c3
        refine And.intro ⟨rfl, by decide, by decide⟩ ?_
        refine fload1 rL_700_700_0_95_1_0 h0 hB1 ⟨by decide, by decide⟩ (by first | exact ⟨hb.1, Int.le_trans (Int.le_sub_one_of_lt (Int.lt_of_lt_of_le c3 uz1)) (by decide)⟩ | omega) ?_
        intro z4 lz4 uz4 qz4
        refine And.intro (And.intro (by first | exact fi_ lz4 uz4 rfl | omega) (by first | exact ⟨by decide, by decide⟩ | omega)) (And.intro ?_ ?_)
        · intro c5
          refine And.intro (True.intro) ?_
          exact ⟨_, rfl, (by first | exact ⟨hb.1, Int.le_trans (Int.le_sub_one_of_lt (Int.lt_of_lt_of_le c3 uz1)) (by decide)⟩ | omega)⟩
        · intro c6
          exact fcutJ (I := I1) (j := jc_Tape_behindBlanks_aea90_2) (lv' := [(0, .inr (.inr (some 699))), (2, .inl _)]) (And.intro rfl (And.intro rfl True.intro)) ⟨_, rfl, rfl, by omega, rfl⟩ (by omega)
  · have hB0 := fB_self (zn := znJ) (K := fKc []) h0
    exact fcutJ (I := I) (j := jc_Tape_behindBlanks_aea90_2) (lv' := [(0, .inr (.inr (some 699))), (2, .inl _)]) (And.intro rfl (And.intro rfl True.intro)) ⟨_, rfl, rfl, by omega, rfl⟩ (by omega)
set_option maxRecDepth 8000 in
theorem ct_Tape_isLetter_45e0a {I : fH} {x0 : Int} (h0 : fB bsJ I) (ha0 : (0 ≤ x0 ∧ x0 ≤ 255)) : fC ρ base n F xTc vwCl xTys D dA la gJ (fbz bsJ znJ (fKc []) I) xm_115 [.inl x0] I (fun _ r => ∃ z, r = some (.inl z) ∧ ((z = 1 ∧ 97 ≤ x0 ∧ x0 ≤ 122) ∨ z = 0)) := by
  have hW : fzs [] (fKc []) := fKc_ok _
  refine f_meth (rb := rbJ) (J := []) 1 400 xG xin_115 x6_115 okJ (fB_self h0) ?_ ?_
  · exact fun q h => absurd h List.not_mem_nil
  · have hB0 := fB_self (zn := znJ) (K := fKc []) h0
    refine And.intro (And.intro (by first | exact fi_ ha0.1 ha0.2 rfl | omega) (by first | exact ⟨by decide, by decide⟩ | omega)) (And.intro ?_ ?_)
    · intro c1
      refine And.intro (⟨by omega, by omega⟩) ?_
      exact ⟨_, rfl, by omega⟩
    · intro c2
      refine And.intro (And.intro (by first | exact fi_ (Int.le_trans (Int.le_refl _) c2) ha0.2 rfl | omega) (by first | exact ⟨by decide, by decide⟩ | omega)) (And.intro ?_ ?_)
      · intro c3
        refine And.intro (⟨by omega, by omega⟩) ?_
        exact ⟨_, rfl, by omega⟩
      · intro c4
        refine And.intro (⟨by decide, by decide⟩) ?_
        exact ⟨_, rfl, by omega⟩
abbrev jc_Tape_behindWord_677ba_22 : Nat → fL → List fV → fH → Prop := fun m lv st I => ∃ (y2 : Int), lv = [(0, .inr (.inr (some 699))), (2, .inl y2)] ∧ st = [] ∧ (((0 ≤ y2 ∧ y2 ≤ 96) ∧ (1 ≤ I 699 1 ∧ I 699 1 ≤ 96))) ∧ m = (101 + 1 * (96 - y2) : Int).toNat
abbrev jc_Tape_behindWord_677ba_48 : Nat → fL → List fV → fH → Prop := fun m lv st I => ∃ (y2 : Int), lv = [(0, .inr (.inr (some 699))), (2, .inl y2)] ∧ st = [] ∧ (((0 ≤ y2 ∧ y2 ≤ 96))) ∧ m = (100 : Int).toNat
abbrev jc_Tape_behindWord_677ba_68 : Nat → fL → List fV → fH → Prop := fun m lv st I => ∃ (y2 : Int), lv = [(0, .inr (.inr (some 699))), (2, .inl y2)] ∧ st = [] ∧ (((0 ≤ y2 ∧ y2 ≤ 96) ∧ (1 ≤ I 699 1 ∧ I 699 1 ≤ 96))) ∧ m = (3 + 1 * (96 - y2) : Int).toNat
abbrev jc_Tape_behindWord_677ba_94 : Nat → fL → List fV → fH → Prop := fun m lv st I => ∃ (y2 : Int), lv = [(0, .inr (.inr (some 699))), (2, .inl y2)] ∧ st = [] ∧ (((0 ≤ y2 ∧ y2 ≤ 96))) ∧ m = (2 : Int).toNat
abbrev jc_Tape_behindWord_677ba_105 : Nat → fL → List fV → fH → Prop := fun m lv st I => ∃ (y2 : Int), lv = [(2, .inl y2)] ∧ st = [] ∧ (((0 ≤ y2 ∧ y2 ≤ 96))) ∧ m = (1 : Int).toNat
set_option maxRecDepth 8000 in
theorem ct_Tape_behindWord_677ba {I : fH} {x1 : Int} (h0 : fB bsJ I) (ha1 : (0 ≤ x1 ∧ x1 ≤ 96)) : fC ρ base n F xTc vwCl xTys D dA la gJ (fbz bsJ znJ (fKc []) I) xm_114 [.inr (.inr (some 699)), .inl x1] I (fun _ r => ∃ z, r = some (.inl z) ∧ (0 ≤ z ∧ z ≤ 96)) := by
  have hW : fzs [] (fKc []) := fKc_ok _
  refine f_meth (rb := rbJ) (J := [(22, jc_Tape_behindWord_677ba_22), (48, jc_Tape_behindWord_677ba_48), (68, jc_Tape_behindWord_677ba_68), (94, jc_Tape_behindWord_677ba_94), (105, jc_Tape_behindWord_677ba_105)]) 198 400 xG xin_114 x6_114 okJ (fB_self h0) ?_ ?_
  · refine List.forall_mem_cons.mpr ⟨?_, List.forall_mem_cons.mpr ⟨?_, List.forall_mem_cons.mpr ⟨?_, List.forall_mem_cons.mpr ⟨?_, List.forall_mem_cons.mpr ⟨?_, fun q h => absurd h List.not_mem_nil⟩⟩⟩⟩⟩
    · rintro m _ _ I1 hB1 ⟨y2, rfl, rfl, hb, hm⟩
      refine And.intro ⟨rfl, by decide, by decide⟩ (fgetf fb_699_1 h0 hB1 ?_)
      intro z1 lz1 uz1 qz1
      refine And.intro (And.intro (by first | exact fi_ hb.1.1 hb.1.2 rfl | omega) (by first | exact fi_ lz1 uz1 rfl | omega)) (And.intro ?_ ?_)
      · intro c2
        exact fcutJ (I := I1) (j := jc_Tape_behindWord_677ba_105) (lv' := [(2, .inl _)]) (And.intro rfl True.intro) ⟨_, rfl, rfl, by omega, rfl⟩ (by omega)
      · intro c3
        refine And.intro ⟨rfl, by decide, by decide⟩ ?_
        refine fload1 rL_700_700_0_95_1_0 h0 hB1 ⟨by decide, by decide⟩ (by first | exact ⟨hb.1.1, Int.le_trans (Int.le_sub_one_of_lt (Int.lt_of_lt_of_le c3 uz1)) (by decide)⟩ | omega) ?_
        intro z4 lz4 uz4 qz4
        refine Exists.intro xm_115 (And.intro mi_115 (And.intro ⟨rfl, rfl, rfl, rfl⟩ (And.intro True.intro ?_)))
        refine fcallp hB1 (ct_Tape_isLetter_45e0a (fBz h0 hB1) (by first | exact ⟨lz4, uz4⟩ | omega)) ?_
        rintro _ ⟨z5, rfl, hz5⟩
        refine And.intro (by omega) (And.intro ?_ ?_)
        · intro c6
          exact fcutJ (I := I1) (j := jc_Tape_behindWord_677ba_105) (lv' := [(2, .inl _)]) (And.intro rfl True.intro) ⟨_, rfl, rfl, by omega, rfl⟩ (by omega)
        · intro c7
          exact fcutJ (I := I1) (j := jc_Tape_behindWord_677ba_22) (lv' := [(0, .inr (.inr (some 699))), (2, .inl _)]) (And.intro rfl (And.intro rfl True.intro)) ⟨_, rfl, rfl, by omega, rfl⟩ (by omega)
    · rintro m _ _ I1 hB1 ⟨y2, rfl, rfl, hb, hm⟩
      refine And.intro ⟨rfl, by decide, by decide⟩ (fgetf fb_699_1 h0 hB1 ?_)
      intro z8 lz8 uz8 qz8
      refine And.intro (And.intro (by first | exact fi_ hb.1 hb.2 rfl | omega) (by first | exact fi_ lz8 uz8 rfl | omega)) (And.intro ?_ ?_)
      · intro c9
        exact fcutJ (I := I1) (j := jc_Tape_behindWord_677ba_94) (lv' := [(0, .inr (.inr (some 699))), (2, .inl _)]) (And.intro rfl (And.intro rfl True.intro)) ⟨_, rfl, rfl, by omega, rfl⟩ (by omega)
      · intro c10
        refine And.intro ⟨rfl, by decide, by decide⟩ ?_
        refine fload1 rL_700_700_0_95_1_0 h0 hB1 ⟨by decide, by decide⟩ (by first | exact ⟨hb.1, Int.le_trans (Int.le_sub_one_of_lt (Int.lt_of_lt_of_le c10 uz8)) (by decide)⟩ | omega) ?_
        intro z11 lz11 uz11 qz11
        refine Exists.intro xm_116 (And.intro mi_116 (And.intro ⟨rfl, rfl, rfl, rfl⟩ (And.intro True.intro ?_)))
        refine fcallp hB1 (ct_Tape_isDigit_a19bc (fBz h0 hB1) (by first | exact ⟨lz11, uz11⟩ | omega)) ?_
        rintro _ ⟨z12, rfl, hz12⟩
        refine And.intro (by omega) (And.intro ?_ ?_)
        · intro c13
          exact fcutJ (I := I1) (j := jc_Tape_behindWord_677ba_94) (lv' := [(0, .inr (.inr (some 699))), (2, .inl _)]) (And.intro rfl (And.intro rfl True.intro)) ⟨_, rfl, rfl, by omega, rfl⟩ (by omega)
        · intro c14
          exact fcutJ (I := I1) (j := jc_Tape_behindWord_677ba_68) (lv' := [(0, .inr (.inr (some 699))), (2, .inl _)]) (And.intro rfl (And.intro rfl True.intro)) ⟨_, rfl, rfl, by omega, rfl⟩ (by omega)
    · rintro m _ _ I1 hB1 ⟨y2, rfl, rfl, hb, hm⟩
      refine And.intro ⟨rfl, by decide, by decide⟩ (fgetf fb_699_1 h0 hB1 ?_)
      intro z15 lz15 uz15 qz15
      refine And.intro (And.intro (by first | exact fi_ hb.1.1 hb.1.2 rfl | omega) (by first | exact fi_ lz15 uz15 rfl | omega)) (And.intro ?_ ?_)
      · intro c16
        exact fcutJ (I := I1) (j := jc_Tape_behindWord_677ba_105) (lv' := [(2, .inl _)]) (And.intro rfl True.intro) ⟨_, rfl, rfl, by omega, rfl⟩ (by omega)
      · intro c17
        refine And.intro ⟨rfl, by decide, by decide⟩ ?_
        refine fload1 rL_700_700_0_95_1_0 h0 hB1 ⟨by decide, by decide⟩ (by first | exact ⟨hb.1.1, Int.le_trans (Int.le_sub_one_of_lt (Int.lt_of_lt_of_le c17 uz15)) (by decide)⟩ | omega) ?_
        intro z18 lz18 uz18 qz18
        refine Exists.intro xm_116 (And.intro mi_116 (And.intro ⟨rfl, rfl, rfl, rfl⟩ (And.intro True.intro ?_)))
        refine fcallp hB1 (ct_Tape_isDigit_a19bc (fBz h0 hB1) (by first | exact ⟨lz18, uz18⟩ | omega)) ?_
        rintro _ ⟨z19, rfl, hz19⟩
        refine And.intro (by omega) (And.intro ?_ ?_)
        · intro c20
          exact fcutJ (I := I1) (j := jc_Tape_behindWord_677ba_105) (lv' := [(2, .inl _)]) (And.intro rfl True.intro) ⟨_, rfl, rfl, by omega, rfl⟩ (by omega)
        · intro c21
          exact fcutJ (I := I1) (j := jc_Tape_behindWord_677ba_68) (lv' := [(0, .inr (.inr (some 699))), (2, .inl _)]) (And.intro rfl (And.intro rfl True.intro)) ⟨_, rfl, rfl, by omega, rfl⟩ (by omega)
    · rintro m _ _ I1 hB1 ⟨y2, rfl, rfl, hb, hm⟩
      refine And.intro ⟨rfl, by decide, by decide⟩ (fgetf fb_699_1 h0 hB1 ?_)
      intro z22 lz22 uz22 qz22
      refine And.intro (And.intro (by first | exact fi_ hb.1 hb.2 rfl | omega) (by first | exact fi_ lz22 uz22 rfl | omega)) (And.intro ?_ ?_)
      · intro c23
        exact fcutJ (I := I1) (j := jc_Tape_behindWord_677ba_105) (lv' := [(2, .inl _)]) (And.intro rfl True.intro) ⟨_, rfl, rfl, by omega, rfl⟩ (by omega)
      · intro c24
        exact fcutJ (I := I1) (j := jc_Tape_behindWord_677ba_105) (lv' := [(2, .inl _)]) (And.intro rfl True.intro) ⟨_, rfl, rfl, by omega, rfl⟩ (by omega)
    · rintro m _ _ I1 hB1 ⟨y2, rfl, rfl, hb, hm⟩
      refine And.intro (True.intro) ?_
      exact ⟨_, rfl, (by first | exact ⟨hb.1, hb.2⟩ | omega)⟩
  · have hB0 := fB_self (zn := znJ) (K := fKc []) h0
    refine And.intro ⟨rfl, by decide, by decide⟩ (fgetf fb_699_1 h0 hB0 ?_)
    intro z25 lz25 uz25 qz25
    refine And.intro (And.intro (by first | exact fi_ ha1.1 ha1.2 rfl | omega) (by first | exact fi_ lz25 uz25 rfl | omega)) (And.intro ?_ ?_)
    · intro c26
      exact fcutJ (I := I) (j := jc_Tape_behindWord_677ba_48) (lv' := [(0, .inr (.inr (some 699))), (2, .inl _)]) (And.intro rfl (And.intro rfl True.intro)) ⟨_, rfl, rfl, by omega, rfl⟩ (by omega)
    · intro c27
      refine And.intro ⟨rfl, by decide, by decide⟩ ?_
      refine fload1 rL_700_700_0_95_1_0 h0 hB0 ⟨by decide, by decide⟩ (by first | exact ⟨ha1.1, Int.le_trans (Int.le_sub_one_of_lt (Int.lt_of_lt_of_le c27 uz25)) (by decide)⟩ | omega) ?_
      intro z28 lz28 uz28 qz28
      refine Exists.intro xm_115 (And.intro mi_115 (And.intro ⟨rfl, rfl, rfl, rfl⟩ (And.intro True.intro ?_)))
      refine fcallp hB0 (ct_Tape_isLetter_45e0a (fBz h0 hB0) (by first | exact ⟨lz28, uz28⟩ | omega)) ?_
      rintro _ ⟨z29, rfl, hz29⟩
      refine And.intro (by omega) (And.intro ?_ ?_)
      · intro c30
        exact fcutJ (I := I) (j := jc_Tape_behindWord_677ba_48) (lv' := [(0, .inr (.inr (some 699))), (2, .inl _)]) (And.intro rfl (And.intro rfl True.intro)) ⟨_, rfl, rfl, by omega, rfl⟩ (by omega)
      · intro c31
        exact fcutJ (I := I) (j := jc_Tape_behindWord_677ba_22) (lv' := [(0, .inr (.inr (some 699))), (2, .inl _)]) (And.intro rfl (And.intro rfl True.intro)) ⟨_, rfl, rfl, by omega, rfl⟩ (by omega)
set_option maxRecDepth 8000 in
theorem ct_Tape_takeLeaf_f7912 {I : fH} {x1 : Int} (h0 : fB bsJ I) (ha1 : ((-2147483648) ≤ x1 ∧ x1 ≤ 2147483647)) : fC ρ base n F xTc vwCl xTys D dA la gJ (fbz bsJ znJ (fKc wz_7c541) I) xm_122 [.inr (.inr (some 699)), .inl x1] I (fun _ r => ∃ z, r = some (.inl z) ∧ (0 ≤ z ∧ z ≤ 1)) := by
  have hW : fzs wz_7c541 (fKc wz_7c541) := fKc_ok _
  refine f_meth (rb := rbJ) (J := []) 1 400 xG xin_122 x6_122 okJ (fB_self h0) ?_ ?_
  · exact fun q h => absurd h List.not_mem_nil
  · have hB0 := fB_self (zn := znJ) (K := fKc wz_7c541) h0
    refine And.intro ⟨rfl, by decide, by decide⟩ (fgetf fb_699_5 h0 hB0 ?_)
    intro z1 lz1 uz1 qz1
    intro z2 hz2 ez2 bz2
    clear ez2
    clear bz2
    refine And.intro ⟨rfl, by decide, by decide⟩ (And.intro rfl (And.intro (Or.inl rfl) (fputf fb_699_5 (by decide +kernel) hW (by omega) ?_)))
    intro IhB3 ehB3 hB3
    have t4 := fup_at ehB3 5 (by first | rfl | omega)
    refine And.intro ⟨rfl, by decide, by decide⟩ (And.intro rfl (And.intro (Or.inr ⟨rfl, by decide, by decide⟩) (fputf fb_699_10 (by decide +kernel) hW (by first | exact ⟨by decide, by decide⟩ | omega) ?_)))
    intro IhB5 ehB5 hB5
    have t6 : IhB5 699 5 = IhB3 699 5 := (congrFun (congrFun ehB5 699) 5).trans (fup_ne (by first | decide | omega))
    have t7 := fup_at ehB5 10 (by first | rfl | omega)
    refine Exists.intro xm_123 (And.intro mi_123 (And.intro ⟨rfl, rfl, rfl, rfl⟩ (And.intro rfl ?_)))
    refine fcall _ h0 (fzs_sub (by decide +kernel) hW) hB5 (ct_Tape_emit_d6314 (fBz h0 hB5) (by first | exact ⟨ha1.1, ha1.2⟩ | omega)) ?_
    rintro IhB9 _ hB9 fhB9 ⟨z8, rfl, hz8⟩
    have t10 := fhB9 699 5 (by decide +kernel)
    have t11 := fhB9 699 10 (by decide +kernel)
    refine And.intro (⟨by omega, by omega⟩) ?_
    exact ⟨_, rfl, by omega⟩
abbrev jc_Tape_numberBetween_367a1_5 : Nat → fL → List fV → fH → Prop := fun m lv st I => ∃ (y2 : Int) (y3 : Int) (y4 : Int), lv = [(0, .inr (.inr (some 699))), (2, .inl y2), (3, .inl y3), (4, .inl y4)] ∧ st = [] ∧ (((0 ≤ y2 ∧ y2 ≤ 96) ∧ ((-2147483648) ≤ y3 ∧ y3 ≤ 2147483647) ∧ (0 ≤ y4 ∧ y4 ≤ 96))) ∧ m = (1 + 1 * (96 - y4) : Int).toNat
set_option maxRecDepth 8000 in
theorem ct_Tape_numberBetween_367a1 {I : fH} {x1 : Int} {x2 : Int} (h0 : fB bsJ I) (ha1 : (0 ≤ x1 ∧ x1 ≤ 95)) (ha2 : (0 ≤ x2 ∧ x2 ≤ 96)) : fC ρ base n F xTc vwCl xTys D dA la gJ (fbz bsJ znJ (fKc []) I) xm_124 [.inr (.inr (some 699)), .inl x1, .inl x2] I (fun _ r => ∃ z, r = some (.inl z) ∧ ((-2147483648) ≤ z ∧ z ≤ 2147483647)) := by
  have hW : fzs [] (fKc []) := fKc_ok _
  refine f_meth (rb := rbJ) (J := [(5, jc_Tape_numberBetween_367a1_5)]) 98 400 xG xin_124 x6_124 okJ (fB_self h0) ?_ ?_
  · refine List.forall_mem_cons.mpr ⟨?_, fun q h => absurd h List.not_mem_nil⟩
    · rintro m _ _ I1 hB1 ⟨y2, y3, y4, rfl, rfl, hb, hm⟩
      refine And.intro (And.intro (by first | exact fi_ hb.2.2.1 hb.2.2.2 rfl | omega) (by first | exact fi_ hb.1.1 hb.1.2 rfl | omega)) (And.intro ?_ ?_)
      · intro c1
        refine And.intro (True.intro) ?_
        exact ⟨_, rfl, (by first | exact ⟨hb.2.1.1, hb.2.1.2⟩ | omega)⟩
      · intro c2
        intro z3 hz3 ez3 bz3
        clear ez3
        clear bz3
        refine And.intro ⟨rfl, by decide, by decide⟩ ?_
        refine fload1 rL_700_700_0_95_1_0 h0 hB1 ⟨by decide, by decide⟩ (by first | exact ⟨hb.2.2.1, Int.le_trans (Int.le_sub_one_of_lt (Int.lt_of_lt_of_le c2 hb.1.2)) (by decide)⟩ | omega) ?_
        intro z4 lz4 uz4 qz4
        intro z5 hz5 ez5 bz5
        clear ez5
        clear bz5
        intro z6 hz6 ez6 bz6
        clear ez6
        clear bz6
        exact fcutJ (I := I1) (j := jc_Tape_numberBetween_367a1_5) (lv' := [(0, .inr (.inr (some 699))), (2, .inl _), (3, .inl _), (4, .inl _)]) (And.intro rfl (And.intro rfl (And.intro rfl (And.intro rfl True.intro)))) ⟨_, _, _, rfl, rfl, by omega, rfl⟩ (by omega)
  · have hB0 := fB_self (zn := znJ) (K := fKc []) h0
    exact fcutJ (I := I) (j := jc_Tape_numberBetween_367a1_5) (lv' := [(0, .inr (.inr (some 699))), (2, .inl _), (3, .inl _), (4, .inl _)]) (And.intro rfl (And.intro rfl (And.intro rfl (And.intro rfl True.intro)))) ⟨_, _, _, rfl, rfl, by omega, rfl⟩ (by omega)
abbrev jc_Tape_takePart_5edc5_25 : Nat → fL → List fV → fH → Prop := fun m lv st I => ∃ (y3 k : Int), lv = [(0, .inr (.inr (some 699))), (3, .inl y3)] ∧ st = [.inl k] ∧ (97 ≤ y3 ∧ y3 ≤ 122) ∧ m = 0
set_option maxRecDepth 8000 in
theorem ct_Tape_takePart_5edc5 {I : fH} {x1 : Int} {x2 : Int} (h0 : fB bsJ I) (ha1 : (0 ≤ x1 ∧ x1 ≤ 95)) (ha2 : (0 ≤ x2 ∧ x2 ≤ 96)) : fC ρ base n F xTc vwCl xTys D dA la gJ (fbz bsJ znJ (fKc wz_84be8) I) xm_120 [.inr (.inr (some 699)), .inl x1, .inl x2] I (fun _ r => ∃ z, r = some (.inl z) ∧ (0 ≤ z ∧ z ≤ 1)) := by
  have hW : fzs wz_84be8 (fKc wz_84be8) := fKc_ok _
  refine f_methx (rb := rbJ) (J := [(25, jc_Tape_takePart_5edc5_25)]) 1 400 xG xin_120 x6_120 okJ (fB_self h0) ?_ ?_
  · refine List.forall_mem_cons.mpr ⟨?_, fun q h => absurd h List.not_mem_nil⟩
    · rintro m _ _ I1 hB1 ⟨y3, k, rfl, rfl, hb, hm⟩
      refine Or.inr (fun _ => fnames hB1 (fun r hr => ?_))
      refine And.intro (by omega) (And.intro ?_ ?_)
      · intro c1
        refine And.intro (⟨by omega, by omega⟩) ?_
        exact ⟨_, rfl, by omega⟩
      · intro c2
        refine Exists.intro xm_122 (And.intro mi_122 (And.intro ⟨rfl, rfl, rfl, rfl⟩ (And.intro rfl ?_)))
        refine fcall _ h0 (fzs_sub (by decide +kernel) hW) hB1 (ct_Tape_takeLeaf_f7912 (fBz h0 hB1) (by omega)) ?_
        rintro IhB4 _ hB4 fhB4 ⟨z3, rfl, hz3⟩
        have t5 := fhB4 699 2 (by decide +kernel)
        refine And.intro (by omega) (And.intro ?_ ?_)
        · intro c6
          refine And.intro (⟨by omega, by omega⟩) ?_
          exact ⟨_, rfl, by omega⟩
        · intro c7
          refine And.intro (⟨by decide, by decide⟩) ?_
          exact ⟨_, rfl, (by first | exact ⟨by decide, by decide⟩ | omega)⟩
  · have hB0 := fB_self (zn := znJ) (K := fKc wz_84be8) h0
    refine And.intro ⟨rfl, by decide, by decide⟩ ?_
    refine fload1 rL_700_700_0_95_1_0 h0 hB0 ⟨by decide, by decide⟩ (by first | exact ⟨ha1.1, ha1.2⟩ | omega) ?_
    intro z8 lz8 uz8 qz8
    refine Exists.intro xm_115 (And.intro mi_115 (And.intro ⟨rfl, rfl, rfl, rfl⟩ (And.intro True.intro ?_)))
    refine fcallp hB0 (ct_Tape_isLetter_45e0a (fBz h0 hB0) (by first | exact ⟨lz8, uz8⟩ | omega)) ?_
    rintro _ ⟨z9, rfl, hz9⟩
    refine And.intro (by omega) (And.intro ?_ ?_)
    · intro c10
      refine Exists.intro xm_116 (And.intro mi_116 (And.intro ⟨rfl, rfl, rfl, rfl⟩ (And.intro True.intro ?_)))
      refine fcallp hB0 (ct_Tape_isDigit_a19bc (fBz h0 hB0) (by first | exact ⟨lz8, uz8⟩ | omega)) ?_
      rintro _ ⟨z11, rfl, hz11⟩
      refine And.intro (by omega) (And.intro ?_ ?_)
      · intro c12
        refine And.intro (And.intro (by first | exact fi_ lz8 uz8 rfl | omega) (by first | exact ⟨by decide, by decide⟩ | omega)) (And.intro ?_ ?_)
        · intro c13
          refine And.intro (And.intro (by first | exact fi_ lz8 uz8 rfl | omega) (by first | exact ⟨by decide, by decide⟩ | omega)) (And.intro ?_ ?_)
          · intro c14
            refine And.intro (⟨by decide, by decide⟩) ?_
            exact ⟨_, rfl, (by first | exact ⟨by decide, by decide⟩ | omega)⟩
          · intro c15
            refine And.intro ⟨rfl, by decide, by decide⟩ (fgetf fb_699_9 h0 hB0 ?_)
            intro z16 lz16 uz16 qz16
            refine And.intro (And.intro (by first | exact fi_ lz16 uz16 rfl | omega) (by first | exact ⟨by decide, by decide⟩ | omega)) (And.intro ?_ ?_)
            · intro c17
              refine And.intro (⟨by decide, by decide⟩) ?_
              exact ⟨_, rfl, (by first | exact ⟨by decide, by decide⟩ | omega)⟩
            · intro c18
              refine And.intro ⟨rfl, by decide, by decide⟩ (fgetf fb_699_9 h0 hB0 ?_)
              intro z19 lz19 uz19 qz19
              refine And.intro ⟨rfl, by decide, by decide⟩ (And.intro rfl (And.intro (Or.inl rfl) (fputf fb_699_9 (by decide +kernel) hW (by omega) ?_)))
              intro IhB20 ehB20 hB20
              have t21 := fup_at ehB20 9 (by first | rfl | omega)
              refine Exists.intro xm_125 (And.intro mi_125 (And.intro ⟨rfl, rfl, rfl, rfl⟩ (And.intro rfl ?_)))
              refine fcall _ h0 (fzs_sub (by decide +kernel) hW) hB20 (ct_Tape_push_d8da9 (fBz h0 hB20) (by first | exact ⟨Int.le_trans (by decide) (Int.le_trans (Int.le_refl _) (Int.le_of_eq c15.symm)), Int.le_trans (Int.le_trans (Int.le_of_eq c15) (Int.le_refl _)) (by decide)⟩ | omega)) ?_
              rintro IhB23 _ hB23 fhB23 ⟨z22, rfl, hz22⟩
              have t24 := fhB23 699 9 (by decide +kernel)
              refine And.intro (⟨by omega, by omega⟩) ?_
              exact ⟨_, rfl, by omega⟩
        · intro c25
          refine And.intro ⟨rfl, by decide, by decide⟩ (fgetf fb_699_8 h0 hB0 ?_)
          intro z26 lz26 uz26 qz26
          refine And.intro (And.intro (by first | exact fi_ lz26 uz26 rfl | omega) (by first | exact ⟨by decide, by decide⟩ | omega)) (And.intro ?_ ?_)
          · intro c27
            refine And.intro (And.intro (by first | exact fi_ (Int.le_trans (Int.le_refl _) (Int.le_of_eq c25.symm)) (Int.le_trans (Int.le_of_eq c25) (Int.le_refl _)) rfl | omega) (by first | exact ⟨by decide, by decide⟩ | omega)) (And.intro ?_ ?_)
            · intro c28
              refine And.intro (⟨by decide, by decide⟩) ?_
              exact ⟨_, rfl, (by first | exact ⟨by decide, by decide⟩ | omega)⟩
            · intro c29
              refine And.intro ⟨rfl, by decide, by decide⟩ (fgetf fb_699_9 h0 hB0 ?_)
              intro z30 lz30 uz30 qz30
              refine And.intro (And.intro (by first | exact fi_ lz30 uz30 rfl | omega) (by first | exact ⟨by decide, by decide⟩ | omega)) (And.intro ?_ ?_)
              · intro c31
                refine And.intro (⟨by decide, by decide⟩) ?_
                exact ⟨_, rfl, (by first | exact ⟨by decide, by decide⟩ | omega)⟩
              · intro c32
                refine And.intro ⟨rfl, by decide, by decide⟩ (fgetf fb_699_9 h0 hB0 ?_)
                intro z33 lz33 uz33 qz33
                refine And.intro ⟨rfl, by decide, by decide⟩ (And.intro rfl (And.intro (Or.inl rfl) (fputf fb_699_9 (by decide +kernel) hW (by omega) ?_)))
                intro IhB34 ehB34 hB34
                have t35 := fup_at ehB34 9 (by first | rfl | omega)
                refine Exists.intro xm_125 (And.intro mi_125 (And.intro ⟨rfl, rfl, rfl, rfl⟩ (And.intro rfl ?_)))
                refine fcall _ h0 (fzs_sub (by decide +kernel) hW) hB34 (ct_Tape_push_d8da9 (fBz h0 hB34) (by first | exact ⟨Int.le_trans (by decide) (Int.le_trans (Int.le_refl _) (Int.le_of_eq c25.symm)), Int.le_trans (Int.le_trans (Int.le_of_eq c29) (Int.le_refl _)) (by decide)⟩ | omega)) ?_
                rintro IhB37 _ hB37 fhB37 ⟨z36, rfl, hz36⟩
                have t38 := fhB37 699 9 (by decide +kernel)
                refine And.intro (⟨by omega, by omega⟩) ?_
                exact ⟨_, rfl, by omega⟩
          · intro c39
            refine And.intro ⟨rfl, by decide, by decide⟩ (fgetf fb_699_8 h0 hB0 ?_)
            intro z40 lz40 uz40 qz40
            refine And.intro ⟨rfl, by decide, by decide⟩ (And.intro rfl (And.intro (Or.inl rfl) (fputf fb_699_8 (by decide +kernel) hW (by omega) ?_)))
            intro IhB41 ehB41 hB41
            have t42 := fup_at ehB41 8 (by first | rfl | omega)
            refine Exists.intro xm_125 (And.intro mi_125 (And.intro ⟨rfl, rfl, rfl, rfl⟩ (And.intro rfl ?_)))
            refine fcall _ h0 (fzs_sub (by decide +kernel) hW) hB41 (ct_Tape_push_d8da9 (fBz h0 hB41) (by first | exact ⟨Int.le_trans (by decide) (Int.le_trans (Int.le_refl _) (Int.le_of_eq c25.symm)), Int.le_trans (Int.le_trans (Int.le_of_eq c25) (Int.le_refl _)) (by decide)⟩ | omega)) ?_
            rintro IhB44 _ hB44 fhB44 ⟨z43, rfl, hz43⟩
            have t45 := fhB44 699 8 (by decide +kernel)
            refine And.intro (⟨by omega, by omega⟩) ?_
            exact ⟨_, rfl, by omega⟩
      · intro c46
        refine And.intro (by omega) (And.intro ?_ ?_)
        · intro c47
          refine And.intro (⟨by omega, by omega⟩) ?_
          exact ⟨_, rfl, by omega⟩
        · intro c48
          refine Exists.intro xm_124 (And.intro mi_124 (And.intro ⟨rfl, rfl, rfl, rfl⟩ (And.intro rfl ?_)))
          refine fcallp hB0 (ct_Tape_numberBetween_367a1 (fBz h0 hB0) (by first | exact ⟨ha1.1, ha1.2⟩ | omega) (by first | exact ⟨ha2.1, ha2.2⟩ | omega)) ?_
          rintro _ ⟨z49, rfl, hz49⟩
          refine Exists.intro xm_122 (And.intro mi_122 (And.intro ⟨rfl, rfl, rfl, rfl⟩ (And.intro rfl ?_)))
          refine fcall _ h0 (fzs_sub (by decide +kernel) hW) hB0 (ct_Tape_takeLeaf_f7912 (fBz h0 hB0) (by first | exact ⟨hz49.1, hz49.2⟩ | omega)) ?_
          rintro IhB51 _ hB51 fhB51 ⟨z50, rfl, hz50⟩
          refine And.intro (by omega) (And.intro ?_ ?_)
          · intro c52
            refine And.intro (⟨by omega, by omega⟩) ?_
            exact ⟨_, rfl, by omega⟩
          · intro c53
            refine And.intro (⟨by decide, by decide⟩) ?_
            exact ⟨_, rfl, (by first | exact ⟨by decide, by decide⟩ | omega)⟩
    · intro c54
      refine And.intro (by omega) (And.intro ?_ ?_)
      · intro c55
        refine And.intro (⟨by omega, by omega⟩) ?_
        exact ⟨_, rfl, by omega⟩
      · intro c56
        refine And.intro ⟨rfl, by decide, by decide⟩ (fgetf fb_699_2 h0 hB0 ?_)
        intro z57 lz57 uz57 qz57
        exact fcutJ (I := I) (j := jc_Tape_takePart_5edc5_25) (lv' := [(0, .inr (.inr (some 699))), (3, .inl _)]) (And.intro rfl (And.intro rfl True.intro)) ⟨_, _, rfl, rfl, by omega, rfl⟩ (by omega)
abbrev jc_Tape_compile_812f7_71 : Nat → fL → List fV → fH → Prop := fun m lv st I => ∃ (y1 : Int) (y2 : Int) (y3 : Int), lv = [(0, .inr (.inr (some 699))), (1, .inl y1), (2, .inl y2), (3, .inl y3)] ∧ st = [] ∧ (((0 ≤ y1 ∧ y1 ≤ 96) ∧ (0 ≤ y2 ∧ y2 ≤ 96) ∧ (0 ≤ y3 ∧ y3 ≤ 96) ∧ ((-1000000004) ≤ I 699 2 ∧ I 699 2 ≤ 5))) ∧ m = (6 + 3 * (96 - y3) : Int).toNat
abbrev jc_Tape_compile_812f7_106 : Nat → fL → List fV → fH → Prop := fun m lv st I => ∃ (y1 : Int) (y2 : Int) (y3 : Int), lv = [(0, .inr (.inr (some 699))), (1, .inl y1), (2, .inl y2), (3, .inl y3)] ∧ st = [] ∧ (((0 ≤ y1 ∧ y1 ≤ 95) ∧ (0 ≤ y2 ∧ y2 ≤ 96) ∧ (0 ≤ y3 ∧ y3 ≤ 95) ∧ (1 ≤ I 699 1 ∧ I 699 1 ≤ 96) ∧ ((-1000000004) ≤ I 699 2 ∧ I 699 2 ≤ 5))) ∧ m = (5 + 3 * (96 - y3) : Int).toNat
abbrev jc_Tape_compile_812f7_154 : Nat → fL → List fV → fH → Prop := fun m lv st I => ∃ (y1 : Int), lv = [(1, .inl y1)] ∧ st = [] ∧ (((0 ≤ y1 ∧ y1 ≤ 95) ∧ (1 ≤ I 699 1 ∧ I 699 1 ≤ 96) ∧ ((-1000000004) ≤ I 699 2 ∧ I 699 2 ≤ 5))) ∧ m = (3 : Int).toNat
abbrev jc_Tape_compile_812f7_156 : Nat → fL → List fV → fH → Prop := fun m lv st I => ∃ (y2 : Int) (y3 : Int) (y5 : Int), lv = [(0, .inr (.inr (some 699))), (2, .inl y2), (3, .inl y3), (5, .inl y5)] ∧ st = [] ∧ (((0 ≤ y2 ∧ y2 ≤ 96) ∧ (0 ≤ y3 ∧ y3 ≤ 95) ∧ (0 ≤ y5 ∧ y5 ≤ 96) ∧ (1 ≤ I 699 1 ∧ I 699 1 ≤ 96) ∧ ((-1000000004) ≤ I 699 2 ∧ I 699 2 ≤ 5))) ∧ m = (4 + 3 * (96 - y3) : Int).toNat
abbrev jc_Tape_compile_812f7_169 : Nat → fL → List fV → fH → Prop := fun m lv st I => lv = [(0, .inr (.inr (some 699)))] ∧ st = [] ∧ ((((-1000000004) ≤ I 699 2 ∧ I 699 2 ≤ 5))) ∧ m = (2 : Int).toNat
abbrev jc_Tape_compile_812f7_183 : Nat → fL → List fV → fH → Prop := fun m lv st I => lv = [(0, .inr (.inr (some 699)))] ∧ st = [] ∧ ((((-1000000004) ≤ I 699 2 ∧ I 699 2 ≤ 5))) ∧ m = (1 : Int).toNat
set_option maxRecDepth 8000 in
theorem ct_Tape_compile_812f7 {I : fH}  (h0 : fB bsJ I)  : fC ρ base n F xTc vwCl xTys D dA la gJ (fbz bsJ znJ (fKc wz_4a62a) I) xm_112 [.inr (.inr (some 699))] I (fun _ r => ∃ z, r = some (.inl z) ∧ ((0 ≤ z ∧ z ≤ 96) ∨ z = (-1000000005))) := by
  have hW : fzs wz_4a62a (fKc wz_4a62a) := fKc_ok _
  refine f_meth (rb := rbJ) (J := [(71, jc_Tape_compile_812f7_71), (106, jc_Tape_compile_812f7_106), (154, jc_Tape_compile_812f7_154), (156, jc_Tape_compile_812f7_156), (169, jc_Tape_compile_812f7_169), (183, jc_Tape_compile_812f7_183)]) 295 400 xG xin_112 x6_112 okJ (fB_self h0) ?_ ?_
  · refine List.forall_mem_cons.mpr ⟨?_, List.forall_mem_cons.mpr ⟨?_, List.forall_mem_cons.mpr ⟨?_, List.forall_mem_cons.mpr ⟨?_, List.forall_mem_cons.mpr ⟨?_, List.forall_mem_cons.mpr ⟨?_, fun q h => absurd h List.not_mem_nil⟩⟩⟩⟩⟩⟩
    · rintro m _ _ I1 hB1 ⟨y1, y2, y3, rfl, rfl, hb, hm⟩
      refine And.intro (And.intro (by first | exact fi_ hb.2.2.1.1 hb.2.2.1.2 rfl | omega) (by first | exact ⟨by decide, by decide⟩ | omega)) (And.intro ?_ ?_)
      · intro c1
        exact fcutJ (I := I1) (j := jc_Tape_compile_812f7_169) (lv' := [(0, .inr (.inr (some 699)))]) (And.intro rfl True.intro) ⟨rfl, rfl, by omega, rfl⟩ (by omega)
      · intro c2
        refine And.intro ⟨rfl, by decide, by decide⟩ (fgetf fb_699_1 h0 hB1 ?_)
        intro z3 lz3 uz3 qz3
        refine And.intro (And.intro (by first | exact fi_ hb.1.1 hb.1.2 rfl | omega) (by first | exact fi_ lz3 uz3 rfl | omega)) (And.intro ?_ ?_)
        · intro c4
          exact fcutJ (I := I1) (j := jc_Tape_compile_812f7_169) (lv' := [(0, .inr (.inr (some 699)))]) (And.intro rfl True.intro) ⟨rfl, rfl, by omega, rfl⟩ (by omega)
        · intro c5
          refine And.intro (And.intro (by first | exact fi_ hb.1.1 (Int.le_sub_one_of_lt (Int.lt_of_lt_of_le c5 uz3)) rfl | omega) (by first | exact fi_ hb.2.1.1 hb.2.1.2 rfl | omega)) (And.intro ?_ ?_)
          · intro c6
            exact fcutJ (I := I1) (j := jc_Tape_compile_812f7_106) (lv' := [(0, .inr (.inr (some 699))), (1, .inl _), (2, .inl _), (3, .inl _)]) (And.intro rfl (And.intro rfl (And.intro rfl (And.intro rfl True.intro)))) ⟨_, _, _, rfl, rfl, by omega, rfl⟩ (by omega)
          · intro c7
            refine And.intro ⟨rfl, by decide, by decide⟩ ?_
            refine fload1 rL_700_700_0_95_1_0 h0 hB1 ⟨by decide, by decide⟩ (by first | exact ⟨hb.1.1, Int.le_trans (Int.le_sub_one_of_lt (Int.lt_of_lt_of_le c5 uz3)) (by decide)⟩ | omega) ?_
            intro z8 lz8 uz8 qz8
            refine Exists.intro xm_116 (And.intro mi_116 (And.intro ⟨rfl, rfl, rfl, rfl⟩ (And.intro True.intro ?_)))
            refine fcallp hB1 (ct_Tape_isDigit_a19bc (fBz h0 hB1) (by first | exact ⟨lz8, uz8⟩ | omega)) ?_
            rintro _ ⟨z9, rfl, hz9⟩
            refine And.intro (by omega) (And.intro ?_ ?_)
            · intro c10
              exact fcutJ (I := I1) (j := jc_Tape_compile_812f7_106) (lv' := [(0, .inr (.inr (some 699))), (1, .inl _), (2, .inl _), (3, .inl _)]) (And.intro rfl (And.intro rfl (And.intro rfl (And.intro rfl True.intro)))) ⟨_, _, _, rfl, rfl, by omega, rfl⟩ (by omega)
            · intro c11
              refine Exists.intro xm_114 (And.intro mi_114 (And.intro ⟨rfl, rfl, rfl, rfl⟩ (And.intro rfl ?_)))
              refine fcallp hB1 (ct_Tape_behindWord_677ba (fBz h0 hB1) (by first | exact ⟨hb.1.1, Int.le_trans (Int.le_sub_one_of_lt (Int.lt_of_lt_of_le c5 uz3)) (by decide)⟩ | omega)) ?_
              rintro _ ⟨z12, rfl, hz12⟩
              refine And.intro (by first | exact ⟨by decide, by decide⟩ | omega) (And.intro ?_ ?_)
              · intro c13
                exact fcutJ (I := I1) (j := jc_Tape_compile_812f7_154) (lv' := [(1, .inl _)]) (And.intro rfl True.intro) ⟨_, rfl, rfl, by omega, rfl⟩ (by omega)
              · intro c14
                refine And.intro ⟨rfl, by decide, by decide⟩ (fgetf fb_699_10 h0 hB1 ?_)
                intro z15 lz15 uz15 qz15
                refine And.intro (by first | exact fi_ lz15 uz15 rfl | omega) (And.intro ?_ ?_)
                · intro c16
                  refine And.intro ⟨rfl, by decide, by decide⟩ ?_
                  refine fload1 rL_700_700_0_95_1_0 h0 hB1 ⟨by decide, by decide⟩ (by first | exact ⟨hb.1.1, Int.le_trans (Int.le_sub_one_of_lt (Int.lt_of_lt_of_le c5 uz3)) (by decide)⟩ | omega) ?_
                  intro z17 lz17 uz17 qz17
                  refine Exists.intro xm_126 (And.intro mi_126 (And.intro ⟨rfl, rfl, rfl, rfl⟩ (And.intro rfl ?_)))
                  refine fcall _ h0 (fzs_sub (by decide +kernel) hW) hB1 (ct_Tape_takeSign_f125c (fBz h0 hB1) (by first | exact ⟨lz17, uz17⟩ | omega)) ?_
                  rintro IhB19 _ hB19 fhB19 ⟨z18, rfl, hz18⟩
                  have t20 := fhB19 699 1 (by decide +kernel)
                  have t21 := fhB19 699 2 (by decide +kernel)
                  refine And.intro (by omega) (And.intro ?_ ?_)
                  · intro c22
                    exact fcutJ (I := IhB19) (j := jc_Tape_compile_812f7_156) (lv' := [(0, .inr (.inr (some 699))), (2, .inl _), (3, .inl _), (5, .inl _)]) (And.intro rfl (And.intro rfl (And.intro rfl (And.intro rfl True.intro)))) ⟨_, _, _, rfl, rfl, by omega, rfl⟩ (by omega)
                  · intro c23
                    exact fcutJ (I := IhB19) (j := jc_Tape_compile_812f7_154) (lv' := [(1, .inl _)]) (And.intro rfl True.intro) ⟨_, rfl, rfl, by omega, rfl⟩ (by omega)
                · intro c24
                  refine Exists.intro xm_120 (And.intro mi_120 (And.intro ⟨rfl, rfl, rfl, rfl⟩ (And.intro rfl ?_)))
                  refine fcall _ h0 (fzs_sub (by decide +kernel) hW) hB1 (ct_Tape_takePart_5edc5 (fBz h0 hB1) (by first | exact ⟨hb.1.1, Int.le_trans (Int.le_sub_one_of_lt (Int.lt_of_lt_of_le c5 uz3)) (by decide)⟩ | omega) (by first | exact ⟨hz12.1, hz12.2⟩ | omega)) ?_
                  rintro IhB26 _ hB26 fhB26 ⟨z25, rfl, hz25⟩
                  have t27 := fhB26 699 1 (by decide +kernel)
                  have t28 := fhB26 699 2 (by decide +kernel)
                  refine And.intro (by omega) (And.intro ?_ ?_)
                  · intro c29
                    exact fcutJ (I := IhB26) (j := jc_Tape_compile_812f7_154) (lv' := [(1, .inl _)]) (And.intro rfl True.intro) ⟨_, rfl, rfl, by omega, rfl⟩ (by omega)
                  · intro c30
                    exact fcutJ (I := IhB26) (j := jc_Tape_compile_812f7_156) (lv' := [(0, .inr (.inr (some 699))), (2, .inl _), (3, .inl _), (5, .inl _)]) (And.intro rfl (And.intro rfl (And.intro rfl (And.intro rfl True.intro)))) ⟨_, _, _, rfl, rfl, by omega, rfl⟩ (by omega)
    · rintro m _ _ I1 hB1 ⟨y1, y2, y3, rfl, rfl, hb, hm⟩
      refine Exists.intro xm_114 (And.intro mi_114 (And.intro ⟨rfl, rfl, rfl, rfl⟩ (And.intro rfl ?_)))
      refine fcallp hB1 (ct_Tape_behindWord_677ba (fBz h0 hB1) (by first | exact ⟨hb.1.1, Int.le_trans hb.1.2 (by decide)⟩ | omega)) ?_
      rintro _ ⟨z31, rfl, hz31⟩
      refine And.intro (by omega) (And.intro ?_ ?_)
      · intro c32
        exact fcutJ (I := I1) (j := jc_Tape_compile_812f7_154) (lv' := [(1, .inl _)]) (And.intro rfl True.intro) ⟨_, rfl, rfl, by omega, rfl⟩ (by omega)
      · intro c33
        refine And.intro ⟨rfl, by decide, by decide⟩ (fgetf fb_699_10 h0 hB1 ?_)
        intro z34 lz34 uz34 qz34
        refine And.intro (by first | exact fi_ lz34 uz34 rfl | omega) (And.intro ?_ ?_)
        · intro c35
          refine And.intro ⟨rfl, by decide, by decide⟩ ?_
          refine fload1 rL_700_700_0_95_1_0 h0 hB1 ⟨by decide, by decide⟩ (by first | exact ⟨hb.1.1, hb.1.2⟩ | omega) ?_
          intro z36 lz36 uz36 qz36
          refine Exists.intro xm_126 (And.intro mi_126 (And.intro ⟨rfl, rfl, rfl, rfl⟩ (And.intro rfl ?_)))
          refine fcall _ h0 (fzs_sub (by decide +kernel) hW) hB1 (ct_Tape_takeSign_f125c (fBz h0 hB1) (by first | exact ⟨lz36, uz36⟩ | omega)) ?_
          rintro IhB38 _ hB38 fhB38 ⟨z37, rfl, hz37⟩
          have t39 := fhB38 699 1 (by decide +kernel)
          have t40 := fhB38 699 2 (by decide +kernel)
          refine And.intro (by omega) (And.intro ?_ ?_)
          · intro c41
            exact fcutJ (I := IhB38) (j := jc_Tape_compile_812f7_156) (lv' := [(0, .inr (.inr (some 699))), (2, .inl _), (3, .inl _), (5, .inl _)]) (And.intro rfl (And.intro rfl (And.intro rfl (And.intro rfl True.intro)))) ⟨_, _, _, rfl, rfl, by omega, rfl⟩ (by omega)
          · intro c42
            exact fcutJ (I := IhB38) (j := jc_Tape_compile_812f7_154) (lv' := [(1, .inl _)]) (And.intro rfl True.intro) ⟨_, rfl, rfl, by omega, rfl⟩ (by omega)
        · intro c43
          refine Exists.intro xm_120 (And.intro mi_120 (And.intro ⟨rfl, rfl, rfl, rfl⟩ (And.intro rfl ?_)))
          refine fcall _ h0 (fzs_sub (by decide +kernel) hW) hB1 (ct_Tape_takePart_5edc5 (fBz h0 hB1) (by first | exact ⟨hb.1.1, hb.1.2⟩ | omega) (by first | exact ⟨hz31.1, hz31.2⟩ | omega)) ?_
          rintro IhB45 _ hB45 fhB45 ⟨z44, rfl, hz44⟩
          have t46 := fhB45 699 1 (by decide +kernel)
          have t47 := fhB45 699 2 (by decide +kernel)
          refine And.intro (by omega) (And.intro ?_ ?_)
          · intro c48
            exact fcutJ (I := IhB45) (j := jc_Tape_compile_812f7_154) (lv' := [(1, .inl _)]) (And.intro rfl True.intro) ⟨_, rfl, rfl, by omega, rfl⟩ (by omega)
          · intro c49
            exact fcutJ (I := IhB45) (j := jc_Tape_compile_812f7_156) (lv' := [(0, .inr (.inr (some 699))), (2, .inl _), (3, .inl _), (5, .inl _)]) (And.intro rfl (And.intro rfl (And.intro rfl (And.intro rfl True.intro)))) ⟨_, _, _, rfl, rfl, by omega, rfl⟩ (by omega)
    · rintro m _ _ I1 hB1 ⟨y1, rfl, rfl, hb, hm⟩
      refine And.intro (True.intro) ?_
      exact ⟨_, rfl, by omega⟩
    · rintro m _ _ I1 hB1 ⟨y2, y3, y5, rfl, rfl, hb, hm⟩
      refine Exists.intro xm_113 (And.intro mi_113 (And.intro ⟨rfl, rfl, rfl, rfl⟩ (And.intro rfl ?_)))
      refine fcallp hB1 (ct_Tape_behindBlanks_aea90 (fBz h0 hB1) (by first | exact ⟨hb.2.2.1.1, hb.2.2.1.2⟩ | omega)) ?_
      rintro _ ⟨z50, rfl, hz50⟩
      exact fcutJ (I := I1) (j := jc_Tape_compile_812f7_71) (lv' := [(0, .inr (.inr (some 699))), (1, .inl _), (2, .inl _), (3, .inl _)]) (And.intro rfl (And.intro rfl (And.intro rfl (And.intro rfl True.intro)))) ⟨_, _, _, rfl, rfl, by omega, rfl⟩ (by omega)
    · rintro m _ _ I1 hB1 ⟨rfl, rfl, hb, hm⟩
      refine And.intro ⟨rfl, by decide, by decide⟩ (fgetf fb_699_10 h0 hB1 ?_)
      intro z51 lz51 uz51 qz51
      refine And.intro (by first | exact fi_ lz51 uz51 rfl | omega) (And.intro ?_ ?_)
      · intro c52
        exact fcutJ (I := I1) (j := jc_Tape_compile_812f7_183) (lv' := [(0, .inr (.inr (some 699)))]) (And.intro rfl True.intro) ⟨rfl, rfl, by omega, rfl⟩ (by omega)
      · intro c53
        refine And.intro ⟨rfl, by decide, by decide⟩ (fgetf fb_699_8 h0 hB1 ?_)
        intro z54 lz54 uz54 qz54
        refine And.intro (by first | exact fi_ lz54 uz54 rfl | omega) (And.intro ?_ ?_)
        · intro c55
          refine Exists.intro xm_128 (And.intro mi_128 (And.intro ⟨rfl, rfl, rfl, rfl⟩ (And.intro rfl ?_)))
          refine fcall _ h0 (fzs_sub (by decide +kernel) hW) hB1 (ct_Tape_settle_fab00 (fBz h0 hB1) (by first | exact ⟨by decide, by decide⟩ | omega)) ?_
          rintro IhB57 _ hB57 fhB57 rfl
          have t58 := fhB57 699 2 (by decide +kernel)
          have t59 := fhB57 699 8 (by decide +kernel)
          have t60 := fhB57 699 10 (by decide +kernel)
          refine And.intro (True.intro) ?_
          exact ⟨_, rfl, by omega⟩
        · intro c61
          exact fcutJ (I := I1) (j := jc_Tape_compile_812f7_183) (lv' := [(0, .inr (.inr (some 699)))]) (And.intro rfl True.intro) ⟨rfl, rfl, by omega, rfl⟩ (by omega)
    · rintro m _ _ I1 hB1 ⟨rfl, rfl, hb, hm⟩
      refine And.intro ⟨rfl, by decide, by decide⟩ (fgetf fb_699_1 h0 hB1 ?_)
      intro z62 lz62 uz62 qz62
      refine And.intro (True.intro) ?_
      exact ⟨_, rfl, by omega⟩
  · have hB0 := fB_self (zn := znJ) (K := fKc wz_4a62a) h0
    refine And.intro ⟨rfl, by decide, by decide⟩ (And.intro rfl (And.intro (Or.inl rfl) (fputf fb_699_4 (by decide +kernel) hW (by first | exact ⟨by decide, by decide⟩ | omega) ?_)))
    intro IhB63 ehB63 hB63
    have t64 := fup_at ehB63 4 (by first | rfl | omega)
    refine And.intro ⟨rfl, by decide, by decide⟩ (And.intro rfl (And.intro (Or.inl rfl) (fputf fb_699_5 (by decide +kernel) hW (by first | exact ⟨by decide, by decide⟩ | omega) ?_)))
    intro IhB65 ehB65 hB65
    have t66 : IhB65 699 4 = IhB63 699 4 := (congrFun (congrFun ehB65 699) 4).trans (fup_ne (by first | decide | omega))
    have t67 := fup_at ehB65 5 (by first | rfl | omega)
    refine And.intro ⟨rfl, by decide, by decide⟩ (And.intro rfl (And.intro (Or.inl rfl) (fputf fb_699_7 (by decide +kernel) hW (by first | exact ⟨by decide, by decide⟩ | omega) ?_)))
    intro IhB68 ehB68 hB68
    have t69 : IhB68 699 4 = IhB65 699 4 := (congrFun (congrFun ehB68 699) 4).trans (fup_ne (by first | decide | omega))
    have t70 : IhB68 699 5 = IhB65 699 5 := (congrFun (congrFun ehB68 699) 5).trans (fup_ne (by first | decide | omega))
    have t71 := fup_at ehB68 7 (by first | rfl | omega)
    refine And.intro ⟨rfl, by decide, by decide⟩ (And.intro rfl (And.intro (Or.inl rfl) (fputf fb_699_8 (by decide +kernel) hW (by first | exact ⟨by decide, by decide⟩ | omega) ?_)))
    intro IhB72 ehB72 hB72
    have t73 : IhB72 699 4 = IhB68 699 4 := (congrFun (congrFun ehB72 699) 4).trans (fup_ne (by first | decide | omega))
    have t74 : IhB72 699 5 = IhB68 699 5 := (congrFun (congrFun ehB72 699) 5).trans (fup_ne (by first | decide | omega))
    have t75 : IhB72 699 7 = IhB68 699 7 := (congrFun (congrFun ehB72 699) 7).trans (fup_ne (by first | decide | omega))
    have t76 := fup_at ehB72 8 (by first | rfl | omega)
    refine And.intro ⟨rfl, by decide, by decide⟩ (And.intro rfl (And.intro (Or.inl rfl) (fputf fb_699_9 (by decide +kernel) hW (by first | exact ⟨by decide, by decide⟩ | omega) ?_)))
    intro IhB77 ehB77 hB77
    have t78 : IhB77 699 4 = IhB72 699 4 := (congrFun (congrFun ehB77 699) 4).trans (fup_ne (by first | decide | omega))
    have t79 : IhB77 699 5 = IhB72 699 5 := (congrFun (congrFun ehB77 699) 5).trans (fup_ne (by first | decide | omega))
    have t80 : IhB77 699 7 = IhB72 699 7 := (congrFun (congrFun ehB77 699) 7).trans (fup_ne (by first | decide | omega))
    have t81 : IhB77 699 8 = IhB72 699 8 := (congrFun (congrFun ehB77 699) 8).trans (fup_ne (by first | decide | omega))
    have t82 := fup_at ehB77 9 (by first | rfl | omega)
    refine And.intro ⟨rfl, by decide, by decide⟩ (And.intro rfl (And.intro (Or.inr ⟨rfl, by decide, by decide⟩) (fputf fb_699_10 (by decide +kernel) hW (by first | exact ⟨by decide, by decide⟩ | omega) ?_)))
    intro IhB83 ehB83 hB83
    have t84 : IhB83 699 4 = IhB77 699 4 := (congrFun (congrFun ehB83 699) 4).trans (fup_ne (by first | decide | omega))
    have t85 : IhB83 699 5 = IhB77 699 5 := (congrFun (congrFun ehB83 699) 5).trans (fup_ne (by first | decide | omega))
    have t86 : IhB83 699 7 = IhB77 699 7 := (congrFun (congrFun ehB83 699) 7).trans (fup_ne (by first | decide | omega))
    have t87 : IhB83 699 8 = IhB77 699 8 := (congrFun (congrFun ehB83 699) 8).trans (fup_ne (by first | decide | omega))
    have t88 : IhB83 699 9 = IhB77 699 9 := (congrFun (congrFun ehB83 699) 9).trans (fup_ne (by first | decide | omega))
    have t89 := fup_at ehB83 10 (by first | rfl | omega)
    refine Exists.intro xm_113 (And.intro mi_113 (And.intro ⟨rfl, rfl, rfl, rfl⟩ (And.intro rfl ?_)))
    refine fcallp hB83 (ct_Tape_behindBlanks_aea90 (fBz h0 hB83) (by first | exact ⟨by decide, by decide⟩ | omega)) ?_
    rintro _ ⟨z90, rfl, hz90⟩
    refine Exists.intro xm_114 (And.intro mi_114 (And.intro ⟨rfl, rfl, rfl, rfl⟩ (And.intro rfl ?_)))
    refine fcallp hB83 (ct_Tape_behindWord_677ba (fBz h0 hB83) (by first | exact ⟨hz90.1, hz90.2⟩ | omega)) ?_
    rintro _ ⟨z91, rfl, hz91⟩
    refine Exists.intro xm_117 (And.intro mi_117 (And.intro ⟨rfl, rfl, rfl, rfl⟩ (And.intro rfl ?_)))
    refine fcallp hB83 (ct_Tape_keyBetween_0cd50 (fBz h0 hB83) (by first | exact ⟨hz90.1, hz90.2⟩ | omega) (by first | exact ⟨hz91.1, hz91.2⟩ | omega)) ?_
    rintro _ ⟨z92, rfl, hz92⟩
    refine And.intro ⟨rfl, by decide, by decide⟩ (And.intro rfl (And.intro (Or.inl rfl) (fputf fb_699_2 (by decide +kernel) hW (by omega) ?_)))
    intro IhB93 ehB93 hB93
    have t94 := fup_at ehB93 2 (by first | rfl | omega)
    have t95 : IhB93 699 4 = IhB83 699 4 := (congrFun (congrFun ehB93 699) 4).trans (fup_ne (by first | decide | omega))
    have t96 : IhB93 699 5 = IhB83 699 5 := (congrFun (congrFun ehB93 699) 5).trans (fup_ne (by first | decide | omega))
    have t97 : IhB93 699 7 = IhB83 699 7 := (congrFun (congrFun ehB93 699) 7).trans (fup_ne (by first | decide | omega))
    have t98 : IhB93 699 8 = IhB83 699 8 := (congrFun (congrFun ehB93 699) 8).trans (fup_ne (by first | decide | omega))
    have t99 : IhB93 699 9 = IhB83 699 9 := (congrFun (congrFun ehB93 699) 9).trans (fup_ne (by first | decide | omega))
    have t100 : IhB93 699 10 = IhB83 699 10 := (congrFun (congrFun ehB93 699) 10).trans (fup_ne (by first | decide | omega))
    refine And.intro ⟨rfl, by decide, by decide⟩ (fgetf fb_699_2 h0 hB93 ?_)
    intro z101 lz101 uz101 qz101
    refine And.intro (And.intro (by first | exact fi_ lz101 uz101 rfl | omega) (by first | exact ⟨by decide, by decide⟩ | omega)) (And.intro ?_ ?_)
    · intro c102
      refine Exists.intro xm_113 (And.intro mi_113 (And.intro ⟨rfl, rfl, rfl, rfl⟩ (And.intro rfl ?_)))
      refine fcallp hB93 (ct_Tape_behindBlanks_aea90 (fBz h0 hB93) (by first | exact ⟨hz91.1, hz91.2⟩ | omega)) ?_
      rintro _ ⟨z103, rfl, hz103⟩
      exact fcutJ (I := IhB93) (j := jc_Tape_compile_812f7_71) (lv' := [(0, .inr (.inr (some 699))), (1, .inl _), (2, .inl _), (3, .inl _)]) (And.intro rfl (And.intro rfl (And.intro rfl (And.intro rfl True.intro)))) ⟨_, _, _, rfl, rfl, by omega, rfl⟩ (by omega)
    · intro c104
      refine And.intro (True.intro) ?_
      exact ⟨_, rfl, by omega⟩
set_option maxRecDepth 8000 in
theorem ct_Charter_addText_b135c {I : fH}  (h0 : fB bsJ I)  : fC ρ base n F xTc vwCl xTys D dA la gJ (fbz bsJ znJ (fKc wz_5dd44) I) xm_131 [.inr (.inr (some 187)), .inr (.inr (some 699))] I (fun _ r => ∃ z, r = some (.inl z) ∧ ((0 ≤ z ∧ z ≤ 11) ∨ z = (-1000000003))) := by
  have hW : fzs wz_5dd44 (fKc wz_5dd44) := fKc_ok _
  refine f_meth (rb := rbJ) (J := []) 1 400 xG xin_131 x6_131 okJ (fB_self h0) ?_ ?_
  · exact fun q h => absurd h List.not_mem_nil
  · have hB0 := fB_self (zn := znJ) (K := fKc wz_5dd44) h0
    refine And.intro ⟨rfl, by decide, by decide⟩ (fgetf fb_187_6 h0 hB0 ?_)
    intro z1 lz1 uz1 qz1
    refine And.intro (And.intro (by first | exact fi_ lz1 uz1 rfl | omega) (by first | exact ⟨by decide, by decide⟩ | omega)) (And.intro ?_ ?_)
    · intro c2
      refine And.intro ⟨rfl, by decide, by decide⟩ ?_
      refine And.intro ⟨rfl, by decide, by decide⟩ (fgetf fb_699_2 h0 hB0 ?_)
      intro z3 lz3 uz3 qz3
      refine fstore1 rS_188_188_0_11_1_0 (fzs_sub (by decide +kernel) hW) ⟨by decide, by decide⟩ (by first | exact ⟨lz1, Int.le_trans (Int.le_sub_one_of_lt (Int.lt_of_lt_of_le c2 (Int.le_refl _))) (by decide)⟩ | omega) (by first | exact ⟨lz3, uz3⟩ | omega) ?_
      intro IhB4 ehB4 hB4
      have t5 := fup_self ehB4
      have t6 : IhB4 187 6 = I 187 6 := (congrFun (congrFun ehB4 187) 6).trans (fup_ne (by first | exact Or.inl (by decide) | omega))
      have t7 : IhB4 699 2 = I 699 2 := (congrFun (congrFun ehB4 699) 2).trans (fup_ne (by first | exact Or.inl (by decide) | omega))
      refine And.intro ⟨rfl, by decide, by decide⟩ ?_
      refine fstore1 rS_189_189_0_11_1_0 (fzs_sub (by decide +kernel) hW) ⟨by decide, by decide⟩ (by first | exact ⟨lz1, Int.le_trans (Int.le_sub_one_of_lt (Int.lt_of_lt_of_le c2 (Int.le_refl _))) (by decide)⟩ | omega) (by first | exact ⟨by decide, by decide⟩ | omega) ?_
      intro IhB8 ehB8 hB8
      have t9 := fup_self ehB8
      have t10 : IhB8 187 6 = IhB4 187 6 := (congrFun (congrFun ehB8 187) 6).trans (fup_ne (by first | exact Or.inl (by decide) | omega))
      have t11 : IhB8 699 2 = IhB4 699 2 := (congrFun (congrFun ehB8 699) 2).trans (fup_ne (by first | exact Or.inl (by decide) | omega))
      refine And.intro ⟨rfl, by decide, by decide⟩ ?_
      refine fstore1 rS_190_190_0_11_1_0 (fzs_sub (by decide +kernel) hW) ⟨by decide, by decide⟩ (by first | exact ⟨lz1, Int.le_trans (Int.le_sub_one_of_lt (Int.lt_of_lt_of_le c2 (Int.le_refl _))) (by decide)⟩ | omega) (by first | exact ⟨by decide, by decide⟩ | omega) ?_
      intro IhB12 ehB12 hB12
      have t13 := fup_self ehB12
      have t14 : IhB12 187 6 = IhB8 187 6 := (congrFun (congrFun ehB12 187) 6).trans (fup_ne (by first | exact Or.inl (by decide) | omega))
      have t15 : IhB12 699 2 = IhB8 699 2 := (congrFun (congrFun ehB12 699) 2).trans (fup_ne (by first | exact Or.inl (by decide) | omega))
      refine And.intro ⟨rfl, by decide, by decide⟩ ?_
      refine And.intro ⟨rfl, by decide, by decide⟩ (fgetf fb_699_5 h0 hB12 ?_)
      intro z16 lz16 uz16 qz16
      refine fstore1 rS_191_191_0_11_1_0 (fzs_sub (by decide +kernel) hW) ⟨by decide, by decide⟩ (by first | exact ⟨lz1, Int.le_trans (Int.le_sub_one_of_lt (Int.lt_of_lt_of_le c2 (Int.le_refl _))) (by decide)⟩ | omega) (by first | exact ⟨lz16, uz16⟩ | omega) ?_
      intro IhB17 ehB17 hB17
      have t18 := fup_self ehB17
      have t19 : IhB17 187 6 = IhB12 187 6 := (congrFun (congrFun ehB17 187) 6).trans (fup_ne (by first | exact Or.inl (by decide) | omega))
      have t20 : IhB17 699 2 = IhB12 699 2 := (congrFun (congrFun ehB17 699) 2).trans (fup_ne (by first | exact Or.inl (by decide) | omega))
      have t21 : IhB17 699 5 = IhB12 699 5 := (congrFun (congrFun ehB17 699) 5).trans (fup_ne (by first | exact Or.inl (by decide) | omega))
      refine And.intro ⟨rfl, by decide, by decide⟩ ?_
      refine And.intro ⟨rfl, by decide, by decide⟩ (fgetf fb_699_4 h0 hB17 ?_)
      intro z22 lz22 uz22 qz22
      refine fstore1 rS_192_192_0_11_1_0 (fzs_sub (by decide +kernel) hW) ⟨by decide, by decide⟩ (by first | exact ⟨lz1, Int.le_trans (Int.le_sub_one_of_lt (Int.lt_of_lt_of_le c2 (Int.le_refl _))) (by decide)⟩ | omega) (by first | exact ⟨lz22, uz22⟩ | omega) ?_
      intro IhB23 ehB23 hB23
      have t24 := fup_self ehB23
      have t25 : IhB23 187 6 = IhB17 187 6 := (congrFun (congrFun ehB23 187) 6).trans (fup_ne (by first | exact Or.inl (by decide) | omega))
      have t26 : IhB23 699 2 = IhB17 699 2 := (congrFun (congrFun ehB23 699) 2).trans (fup_ne (by first | exact Or.inl (by decide) | omega))
      have t27 : IhB23 699 4 = IhB17 699 4 := (congrFun (congrFun ehB23 699) 4).trans (fup_ne (by first | exact Or.inl (by decide) | omega))
      have t28 : IhB23 699 5 = IhB17 699 5 := (congrFun (congrFun ehB23 699) 5).trans (fup_ne (by first | exact Or.inl (by decide) | omega))
      refine And.intro ⟨rfl, by decide, by decide⟩ ?_
      refine And.intro ⟨rfl, by decide, by decide⟩ ?_
      refine And.intro ⟨rfl, by decide⟩ (And.intro (by first | exact ⟨lz1, Int.lt_of_le_of_lt (Int.le_sub_one_of_lt (Int.lt_of_lt_of_le c2 (Int.le_refl _))) (by decide)⟩ | omega) ?_)
      refine Exists.intro xm_75 (And.intro mi_75 (And.intro ⟨rfl, rfl, rfl, rfl⟩ (And.intro True.intro ?_)))
      refine fcall _ h0 (fzs_sub (by decide +kernel) hW) hB23 (ct_copyRow (W := [193]) (len := 96) (fBz h0 hB23) (frCy (a0 := 194) (a1 := 205) (by decide +kernel) (by omega))) ?_
      rintro IhB29 _ hB29 fhB29 ⟨rfl, ehB29⟩
      have t30 := fhB29 187 6 (by decide +kernel)
      have t31 := fhB29 699 2 (by decide +kernel)
      have t32 := fhB29 699 4 (by decide +kernel)
      have t33 := fhB29 699 5 (by decide +kernel)
      refine And.intro ⟨rfl, by decide, by decide⟩ (And.intro rfl (And.intro (Or.inl rfl) (fputf fb_187_6 (by decide +kernel) hW (by omega) ?_)))
      intro IhB34 ehB34 hB34
      have t35 := fup_at ehB34 6 (by first | rfl | omega)
      have t36 : IhB34 699 2 = IhB29 699 2 := (congrFun (congrFun ehB34 699) 2).trans (fup_ne (by first | decide | omega))
      have t37 : IhB34 699 4 = IhB29 699 4 := (congrFun (congrFun ehB34 699) 4).trans (fup_ne (by first | decide | omega))
      have t38 : IhB34 699 5 = IhB29 699 5 := (congrFun (congrFun ehB34 699) 5).trans (fup_ne (by first | decide | omega))
      refine And.intro (True.intro) ?_
      exact ⟨_, rfl, by omega⟩
    · intro c39
      refine And.intro (True.intro) ?_
      exact ⟨_, rfl, by omega⟩
set_option maxRecDepth 8000 in
theorem ct_X_text_8a0ca {I : fH}  (h0 : fB bsJ I)  : fC ρ base n F xTc vwCl xTys D dA la gJ (fbz bsJ znJ (fKc wz_8696f) I) xm_111 [.inr (.inr (some 0))] I (fun I' r => ∃ z, r = some (.inl z) ∧ ((((-196) ≤ z ∧ z ≤ 11) ∨ z = (-1000000003)) ∧ (I' 699 1 = 0))) := by
  have hW : fzs wz_8696f (fKc wz_8696f) := fKc_ok _
  refine f_meth (rb := rbJ) (J := []) 1 400 xG xin_111 x6_111 okJ (fB_self h0) ?_ ?_
  · exact fun q h => absurd h List.not_mem_nil
  · have hB0 := fB_self (zn := znJ) (K := fKc wz_8696f) h0
    refine And.intro ⟨rfl, by decide, by decide⟩ ?_
    refine Exists.intro xm_112 (And.intro mi_112 (And.intro ⟨rfl, rfl, rfl, rfl⟩ (And.intro rfl ?_)))
    refine fcall _ h0 (fzs_sub (by decide +kernel) hW) hB0 (ct_Tape_compile_812f7 (fBz h0 hB0)) ?_
    rintro IhB2 _ hB2 fhB2 ⟨z1, rfl, hz1⟩
    have t3 := fhB2 699 1 (by decide +kernel)
    refine And.intro ⟨rfl, by decide, by decide⟩ ?_
    refine And.intro ⟨rfl, by decide, by decide⟩ (And.intro rfl (And.intro (Or.inl rfl) (fputf fb_699_1 (by decide +kernel) hW (by first | exact ⟨by decide, by decide⟩ | omega) ?_)))
    intro IhB4 ehB4 hB4
    have t5 := fup_at ehB4 1 (by first | rfl | omega)
    refine And.intro (by omega) (And.intro ?_ ?_)
    · intro c6
      refine And.intro ⟨rfl, by decide, by decide⟩ ?_
      refine And.intro ⟨rfl, by decide, by decide⟩ ?_
      refine Exists.intro xm_131 (And.intro mi_131 (And.intro ⟨rfl, rfl, rfl, rfl⟩ (And.intro rfl ?_)))
      refine fcall _ h0 (fzs_sub (by decide +kernel) hW) hB4 (ct_Charter_addText_b135c (fBz h0 hB4)) ?_
      rintro IhB8 _ hB8 fhB8 ⟨z7, rfl, hz7⟩
      have t9 := fhB8 699 1 (by decide +kernel)
      refine And.intro (True.intro) ?_
      exact ⟨_, rfl, by omega⟩
    · intro c10
      refine And.intro (True.intro) ?_
      exact ⟨_, rfl, by omega⟩
set_option maxRecDepth 8000 in
theorem ct_M_isLetter_13ae5 {I : fH} {x1 : Int} (h0 : fB bsJ I) (ha1 : (0 ≤ x1 ∧ x1 ≤ 96)) : fC ρ base n F xTc vwCl xTys D dA la gJ (fbz bsJ znJ (fKc []) I) xm_315 [.inr (.inr (some 740)), .inl x1] I (fun _ r => ∃ z, r = some (.inl z) ∧ (((z = 1 ∧ (-2147483648) ≤ x1 ∧ x1 ≤ 95) ∨ z = 0) ∧ ((z = 1 → x1 < I 740 8 ∧ 97 ≤ I 747 x1.toNat ∧ I 747 x1.toNat ≤ 122) ∧ (z = 0 → ¬ (x1 < I 740 8 ∧ 97 ≤ I 747 x1.toNat ∧ I 747 x1.toNat ≤ 122))))) := by
  have hW : fzs [] (fKc []) := fKc_ok _
  refine f_meth (rb := rbJ) (J := []) 1 400 xG xin_315 x6_315 okJ (fB_self h0) ?_ ?_
  · exact fun q h => absurd h List.not_mem_nil
  · have hB0 := fB_self (zn := znJ) (K := fKc []) h0
    refine And.intro ⟨rfl, by decide, by decide⟩ (fgetf fb_740_8 h0 hB0 ?_)
    intro z1 lz1 uz1 qz1
    refine And.intro (And.intro (by first | exact fi_ ha1.1 ha1.2 rfl | omega) (by first | exact fi_ lz1 uz1 rfl | omega)) (And.intro ?_ ?_)
    · intro c2
      refine And.intro (⟨by omega, by omega⟩) ?_
      exact ⟨_, rfl, by omega⟩
    · intro c3
      refine And.intro ⟨rfl, by decide, by decide⟩ ?_
      refine fload1 rL_747_747_0_95_1_0 h0 hB0 ⟨by decide, by decide⟩ (by first | exact ⟨ha1.1, Int.le_trans (Int.le_sub_one_of_lt (Int.lt_of_lt_of_le c3 uz1)) (by decide)⟩ | omega) ?_
      intro z4 lz4 uz4 qz4
      refine And.intro (by first | exact fi_ lz4 uz4 rfl | omega) ?_
      refine Exists.intro xm_238 (And.intro mi_238 (And.intro ⟨rfl, rfl, rfl, rfl⟩ (And.intro True.intro ?_)))
      refine fcallp hB0 (ct_M_isIn_27230 (fBz h0 hB0) (by first | exact ⟨lz4, uz4⟩ | omega) (by first | exact ⟨by decide, by decide⟩ | omega) (by first | exact ⟨by decide, by decide⟩ | omega)) ?_
      rintro _ ⟨z5, rfl, hz5⟩
      refine And.intro (by omega) (And.intro ?_ ?_)
      · intro c6
        refine And.intro (⟨by omega, by omega⟩) ?_
        exact ⟨_, rfl, by omega⟩
      · intro c7
        refine And.intro (⟨by decide, by decide⟩) ?_
        exact ⟨_, rfl, by omega⟩
set_option maxRecDepth 8000 in
theorem ct_M_isDigit_7604c {I : fH} {x1 : Int} (h0 : fB bsJ I) (ha1 : (0 ≤ x1 ∧ x1 ≤ 96)) : fC ρ base n F xTc vwCl xTys D dA la gJ (fbz bsJ znJ (fKc []) I) xm_316 [.inr (.inr (some 740)), .inl x1] I (fun _ r => ∃ z, r = some (.inl z) ∧ (((z = 1 ∧ (-2147483648) ≤ x1 ∧ x1 ≤ 95) ∨ z = 0) ∧ ((z = 1 → x1 < I 740 8 ∧ 48 ≤ I 747 x1.toNat ∧ I 747 x1.toNat ≤ 57) ∧ (z = 0 → ¬ (x1 < I 740 8 ∧ 48 ≤ I 747 x1.toNat ∧ I 747 x1.toNat ≤ 57))))) := by
  have hW : fzs [] (fKc []) := fKc_ok _
  refine f_meth (rb := rbJ) (J := []) 1 400 xG xin_316 x6_316 okJ (fB_self h0) ?_ ?_
  · exact fun q h => absurd h List.not_mem_nil
  · have hB0 := fB_self (zn := znJ) (K := fKc []) h0
    refine And.intro ⟨rfl, by decide, by decide⟩ (fgetf fb_740_8 h0 hB0 ?_)
    intro z1 lz1 uz1 qz1
    refine And.intro (And.intro (by first | exact fi_ ha1.1 ha1.2 rfl | omega) (by first | exact fi_ lz1 uz1 rfl | omega)) (And.intro ?_ ?_)
    · intro c2
      refine And.intro (⟨by omega, by omega⟩) ?_
      exact ⟨_, rfl, by omega⟩
    · intro c3
      refine And.intro ⟨rfl, by decide, by decide⟩ ?_
      refine fload1 rL_747_747_0_95_1_0 h0 hB0 ⟨by decide, by decide⟩ (by first | exact ⟨ha1.1, Int.le_trans (Int.le_sub_one_of_lt (Int.lt_of_lt_of_le c3 uz1)) (by decide)⟩ | omega) ?_
      intro z4 lz4 uz4 qz4
      refine And.intro (by first | exact fi_ lz4 uz4 rfl | omega) ?_
      refine Exists.intro xm_238 (And.intro mi_238 (And.intro ⟨rfl, rfl, rfl, rfl⟩ (And.intro True.intro ?_)))
      refine fcallp hB0 (ct_M_isIn_27230 (fBz h0 hB0) (by first | exact ⟨lz4, uz4⟩ | omega) (by first | exact ⟨by decide, by decide⟩ | omega) (by first | exact ⟨by decide, by decide⟩ | omega)) ?_
      rintro _ ⟨z5, rfl, hz5⟩
      refine And.intro (by omega) (And.intro ?_ ?_)
      · intro c6
        refine And.intro (⟨by omega, by omega⟩) ?_
        exact ⟨_, rfl, by omega⟩
      · intro c7
        refine And.intro (⟨by decide, by decide⟩) ?_
        exact ⟨_, rfl, by omega⟩
abbrev jc_M_next_c8003_34 (I0 : fH) : Nat → fL → List fV → fH → Prop := fun m lv st I => ∃ (y1 : Int) (y2 : Int), lv = [(0, .inr (.inr (some 740))), (1, .inl y1), (2, .inl y2)] ∧ st = [] ∧ (((0 ≤ y1 ∧ y1 ≤ 1) ∧ (0 ≤ y2 ∧ y2 ≤ 96) ∧ (I0 740 10 ≤ I 740 10) ∧ (I 740 10 ≤ I 740 8))) ∧ m = (203 + 1 * (96 - I 740 10) : Int).toNat
abbrev jc_M_next_c8003_72 (I0 : fH) : Nat → fL → List fV → fH → Prop := fun m lv st I => ∃ (y1 : Int) (y2 : Int), lv = [(0, .inr (.inr (some 740))), (1, .inl y1), (2, .inl y2)] ∧ st = [] ∧ (((0 ≤ y1 ∧ y1 ≤ 1) ∧ (0 ≤ y2 ∧ y2 ≤ 96) ∧ (I0 740 10 ≤ I 740 10) ∧ (I 740 10 ≤ I 740 8))) ∧ m = (202 : Int).toNat
abbrev jc_M_next_c8003_90 (I0 : fH) : Nat → fL → List fV → fH → Prop := fun m lv st I => ∃ (y1 : Int), lv = [(0, .inr (.inr (some 740))), (1, .inl y1)] ∧ st = [] ∧ (((0 ≤ y1 ∧ y1 ≤ 1) ∧ (I0 740 10 ≤ I 740 10) ∧ (I 740 10 ≤ I 740 8))) ∧ m = (201 : Int).toNat
abbrev jc_M_next_c8003_117 (I0 : fH) : Nat → fL → List fV → fH → Prop := fun m lv st I => ∃ (y1 : Int), lv = [(0, .inr (.inr (some 740))), (1, .inl y1)] ∧ st = [] ∧ (((0 ≤ y1 ∧ y1 ≤ 1) ∧ (I0 740 10 ≤ I 740 9) ∧ (I 740 9 = I 740 10) ∧ (I 740 9 < I 740 8))) ∧ m = (200 : Int).toNat
abbrev jc_M_next_c8003_128 (I0 : fH) : Nat → fL → List fV → fH → Prop := fun m lv st I => ∃ (y1 : Int), lv = [(0, .inr (.inr (some 740))), (1, .inl y1)] ∧ st = [] ∧ (((0 ≤ y1 ∧ y1 ≤ 1) ∧ (I0 740 10 ≤ I 740 9) ∧ (I 740 9 ≤ I 740 10) ∧ (I 740 10 ≤ I 740 8) ∧ (I 740 9 < I 740 8) ∧ (I 740 10 = I 740 9 → 97 ≤ I 747 (I 740 9).toNat ∧ I 747 (I 740 9).toNat ≤ 122))) ∧ m = (103 + 1 * (96 - I 740 10) : Int).toNat
abbrev jc_M_next_c8003_152 (I0 : fH) : Nat → fL → List fV → fH → Prop := fun m lv st I => ∃ (y1 : Int), lv = [(0, .inr (.inr (some 740))), (1, .inl y1)] ∧ st = [] ∧ (((0 ≤ y1 ∧ y1 ≤ 1) ∧ (I0 740 10 ≤ I 740 9) ∧ (I 740 9 < I 740 10) ∧ (I 740 10 ≤ I 740 8))) ∧ m = (102 : Int).toNat
abbrev jc_M_next_c8003_198 (I0 : fH) : Nat → fL → List fV → fH → Prop := fun m lv st I => ∃ (y1 : Int), lv = [(0, .inr (.inr (some 740))), (1, .inl y1)] ∧ st = [] ∧ (((0 ≤ y1 ∧ y1 ≤ 1) ∧ (I0 740 10 ≤ I 740 9) ∧ (I 740 9 = I 740 10) ∧ (I 740 9 < I 740 8))) ∧ m = (101 : Int).toNat
abbrev jc_M_next_c8003_214 (I0 : fH) : Nat → fL → List fV → fH → Prop := fun m lv st I => ∃ (y1 : Int), lv = [(0, .inr (.inr (some 740))), (1, .inl y1)] ∧ st = [] ∧ (((0 ≤ y1 ∧ y1 ≤ 1) ∧ (I0 740 10 ≤ I 740 9) ∧ (I 740 9 ≤ I 740 10) ∧ (I 740 10 ≤ I 740 8) ∧ (I 740 9 < I 740 8) ∧ (I 740 10 = I 740 9 → 48 ≤ I 747 (I 740 9).toNat ∧ I 747 (I 740 9).toNat ≤ 57))) ∧ m = (4 + 1 * (96 - I 740 10) : Int).toNat
abbrev jc_M_next_c8003_282 (I0 : fH) : Nat → fL → List fV → fH → Prop := fun m lv st I => ∃ (y1 : Int), lv = [(0, .inr (.inr (some 740))), (1, .inl y1)] ∧ st = [] ∧ (((0 ≤ y1 ∧ y1 ≤ 1) ∧ (I0 740 10 ≤ I 740 9) ∧ (I 740 9 < I 740 10) ∧ (I 740 10 ≤ I 740 8))) ∧ m = (3 : Int).toNat
abbrev jc_M_next_c8003_311 (I0 : fH) : Nat → fL → List fV → fH → Prop := fun m lv st I => lv = [(0, .inr (.inr (some 740)))] ∧ st = [] ∧ (((I0 740 10 ≤ I 740 9) ∧ (I 740 9 = I 740 10) ∧ (I 740 9 < I 740 8))) ∧ m = (2 : Int).toNat
abbrev jc_M_next_c8003_339 (I0 : fH) : Nat → fL → List fV → fH → Prop := fun m lv st I => lv = [] ∧ st = [] ∧ (((0 ≤ I 740 11 ∧ I 740 11 ≤ 4) ∧ (I0 740 10 ≤ I 740 9) ∧ (I 740 9 ≤ I 740 10) ∧ (I 740 10 ≤ I 740 8) ∧ (I 740 11 = 0 ∨ I 740 9 < I 740 10))) ∧ m = (1 : Int).toNat
set_option maxRecDepth 8000 in
theorem ct_M_next_c8003 {I : fH}  (h0 : fB bsJ I) (hp0 : I 740 10 ≤ I 740 8) : fC ρ base n F xTc vwCl xTys D dA la gJ (fbz bsJ znJ (fKc wz_1c18d) I) xm_314 [.inr (.inr (some 740))] I (fun I' r => r = none ∧ (I 740 10 ≤ I' 740 9 ∧ I' 740 9 ≤ I' 740 10 ∧ I' 740 10 ≤ I' 740 8 ∧ (I' 740 11 = 0 ∨ I' 740 9 < I' 740 10))) := by
  have hW : fzs wz_1c18d (fKc wz_1c18d) := fKc_ok _
  refine f_meth (rb := rbJ) (J := [(34, (jc_M_next_c8003_34 I)), (72, (jc_M_next_c8003_72 I)), (90, (jc_M_next_c8003_90 I)), (117, (jc_M_next_c8003_117 I)), (128, (jc_M_next_c8003_128 I)), (152, (jc_M_next_c8003_152 I)), (198, (jc_M_next_c8003_198 I)), (214, (jc_M_next_c8003_214 I)), (282, (jc_M_next_c8003_282 I)), (311, (jc_M_next_c8003_311 I)), (339, (jc_M_next_c8003_339 I))]) 300 400 xG xin_314 x6_314 okJ (fB_self h0) ?_ ?_
  · refine List.forall_mem_cons.mpr ⟨?_, List.forall_mem_cons.mpr ⟨?_, List.forall_mem_cons.mpr ⟨?_, List.forall_mem_cons.mpr ⟨?_, List.forall_mem_cons.mpr ⟨?_, List.forall_mem_cons.mpr ⟨?_, List.forall_mem_cons.mpr ⟨?_, List.forall_mem_cons.mpr ⟨?_, List.forall_mem_cons.mpr ⟨?_, List.forall_mem_cons.mpr ⟨?_, List.forall_mem_cons.mpr ⟨?_, fun q h => absurd h List.not_mem_nil⟩⟩⟩⟩⟩⟩⟩⟩⟩⟩⟩
    · rintro m _ _ I1 hB1 ⟨y1, y2, rfl, rfl, hb, hm⟩
      have k1 := fBz_eq hB1 (a := 740) (j := 8) (by decide +kernel)
      have b2 := fBd fb_740_8 (fBz h0 hB1)
      refine And.intro ⟨rfl, by decide, by decide⟩ (fgetf fb_740_10 h0 hB1 ?_)
      intro z3 lz3 uz3 qz3
      refine And.intro ⟨rfl, by decide, by decide⟩ (fgetf fb_740_8 h0 hB1 ?_)
      intro z4 lz4 uz4 qz4
      refine And.intro (And.intro (by first | exact fi_ lz3 uz3 rfl | omega) (by first | exact fi_ lz4 uz4 rfl | omega)) (And.intro ?_ ?_)
      · intro c5
        exact fcutJ (I := I1) (j := (jc_M_next_c8003_72 I)) (lv' := [(0, .inr (.inr (some 740))), (1, .inl _), (2, .inl _)]) (And.intro rfl (And.intro rfl (And.intro rfl True.intro))) ⟨_, _, rfl, rfl, by omega, rfl⟩ (by omega)
      · intro c6
        refine And.intro ⟨rfl, by decide, by decide⟩ ?_
        refine And.intro ⟨rfl, by decide, by decide⟩ (fgetf fb_740_10 h0 hB1 ?_)
        intro z7 lz7 uz7 qz7
        refine fload rL_747_747_0_95_1_0 h0 hB1 (by omega) ?_
        intro z8 lz8 uz8 qz8
        refine And.intro (And.intro (by first | exact fi_ lz8 uz8 rfl | omega) (by first | exact ⟨by decide, by decide⟩ | omega)) (And.intro ?_ ?_)
        · intro c9
          exact fcutJ (I := I1) (j := (jc_M_next_c8003_72 I)) (lv' := [(0, .inr (.inr (some 740))), (1, .inl _), (2, .inl _)]) (And.intro rfl (And.intro rfl (And.intro rfl True.intro))) ⟨_, _, rfl, rfl, by omega, rfl⟩ (by omega)
        · intro c10
          refine And.intro ⟨rfl, by decide, by decide⟩ (fgetf fb_740_10 h0 hB1 ?_)
          intro z11 lz11 uz11 qz11
          refine And.intro ⟨rfl, by decide, by decide⟩ (And.intro rfl (And.intro (Or.inl rfl) (fputf fb_740_10 (by decide +kernel) hW (by omega) ?_)))
          intro IhB12 ehB12 hB12
          have t13 : IhB12 740 8 = I1 740 8 := (congrFun (congrFun ehB12 740) 8).trans (fup_ne (by first | decide | omega))
          have t14 : IhB12 740 9 = I1 740 9 := (congrFun (congrFun ehB12 740) 9).trans (fup_ne (by first | decide | omega))
          have t15 := fup_at ehB12 10 (by first | rfl | omega)
          have t16 : IhB12 740 11 = I1 740 11 := (congrFun (congrFun ehB12 740) 11).trans (fup_ne (by first | decide | omega))
          have k17 := fBz_eq hB12 (a := 740) (j := 8) (by decide +kernel)
          exact fcutJ (I := IhB12) (j := (jc_M_next_c8003_34 I)) (lv' := [(0, .inr (.inr (some 740))), (1, .inl _), (2, .inl _)]) (And.intro rfl (And.intro rfl (And.intro rfl True.intro))) ⟨_, _, rfl, rfl, by omega, rfl⟩ (by omega)
    · rintro m _ _ I1 hB1 ⟨y1, y2, rfl, rfl, hb, hm⟩
      have k18 := fBz_eq hB1 (a := 740) (j := 8) (by decide +kernel)
      have b19 := fBd fb_740_8 (fBz h0 hB1)
      refine And.intro (by first | exact fi_ hb.1.1 hb.1.2 rfl | omega) (And.intro ?_ ?_)
      · intro c20
        exact fcutJ (I := I1) (j := (jc_M_next_c8003_90 I)) (lv' := [(0, .inr (.inr (some 740))), (1, .inl _)]) (And.intro rfl (And.intro rfl True.intro)) ⟨_, rfl, rfl, by omega, rfl⟩ (by omega)
      · intro c21
        refine And.intro ⟨rfl, by decide, by decide⟩ (fgetf fb_740_10 h0 hB1 ?_)
        intro z22 lz22 uz22 qz22
        refine And.intro (And.intro (by first | exact fi_ hb.2.1.1 hb.2.1.2 rfl | omega) (by first | exact fi_ lz22 uz22 rfl | omega)) (And.intro ?_ ?_)
        · intro c23
          exact fcutJ (I := I1) (j := (jc_M_next_c8003_90 I)) (lv' := [(0, .inr (.inr (some 740))), (1, .inl _)]) (And.intro rfl (And.intro rfl True.intro)) ⟨_, rfl, rfl, by omega, rfl⟩ (by omega)
        · intro c24
          exact fcutJ (I := I1) (j := (jc_M_next_c8003_90 I)) (lv' := [(0, .inr (.inr (some 740))), (1, .inl _)]) (And.intro rfl (And.intro rfl True.intro)) ⟨_, rfl, rfl, by omega, rfl⟩ (by omega)
    · rintro m _ _ I1 hB1 ⟨y1, rfl, rfl, hb, hm⟩
      have k25 := fBz_eq hB1 (a := 740) (j := 8) (by decide +kernel)
      have b26 := fBd fb_740_8 (fBz h0 hB1)
      refine And.intro ⟨rfl, by decide, by decide⟩ (fgetf fb_740_10 h0 hB1 ?_)
      intro z27 lz27 uz27 qz27
      refine And.intro ⟨rfl, by decide, by decide⟩ (And.intro rfl (And.intro (Or.inl rfl) (fputf fb_740_9 (by decide +kernel) hW (by first | exact ⟨lz27, uz27⟩ | omega) ?_)))
      intro IhB28 ehB28 hB28
      have t29 : IhB28 740 8 = I1 740 8 := (congrFun (congrFun ehB28 740) 8).trans (fup_ne (by first | decide | omega))
      have t30 := fup_at ehB28 9 (by first | rfl | omega)
      have t31 : IhB28 740 10 = I1 740 10 := (congrFun (congrFun ehB28 740) 10).trans (fup_ne (by first | decide | omega))
      have t32 : IhB28 740 11 = I1 740 11 := (congrFun (congrFun ehB28 740) 11).trans (fup_ne (by first | decide | omega))
      have k33 := fBz_eq hB28 (a := 740) (j := 8) (by decide +kernel)
      refine And.intro ⟨rfl, by decide, by decide⟩ (fgetf fb_740_9 h0 hB28 ?_)
      intro z34 lz34 uz34 qz34
      refine And.intro ⟨rfl, by decide, by decide⟩ (fgetf fb_740_8 h0 hB28 ?_)
      intro z35 lz35 uz35 qz35
      refine And.intro (And.intro (by first | exact fi_ lz34 uz34 rfl | omega) (by first | exact fi_ lz35 uz35 rfl | omega)) (And.intro ?_ ?_)
      · intro c36
        exact fcutJ (I := IhB28) (j := (jc_M_next_c8003_117 I)) (lv' := [(0, .inr (.inr (some 740))), (1, .inl _)]) (And.intro rfl (And.intro rfl True.intro)) ⟨_, rfl, rfl, by omega, rfl⟩ (by omega)
      · intro c37
        refine And.intro ⟨rfl, by decide, by decide⟩ (And.intro rfl (And.intro (Or.inl rfl) (fputf fb_740_11 (by decide +kernel) hW (by first | exact ⟨by decide, by decide⟩ | omega) ?_)))
        intro IhB38 ehB38 hB38
        have t39 : IhB38 740 8 = IhB28 740 8 := (congrFun (congrFun ehB38 740) 8).trans (fup_ne (by first | decide | omega))
        have t40 : IhB38 740 9 = IhB28 740 9 := (congrFun (congrFun ehB38 740) 9).trans (fup_ne (by first | decide | omega))
        have t41 : IhB38 740 10 = IhB28 740 10 := (congrFun (congrFun ehB38 740) 10).trans (fup_ne (by first | decide | omega))
        have t42 := fup_at ehB38 11 (by first | rfl | omega)
        have k43 := fBz_eq hB38 (a := 740) (j := 8) (by decide +kernel)
        exact fcutJ (I := IhB38) (j := (jc_M_next_c8003_339 I)) (lv' := []) (True.intro) ⟨rfl, rfl, by omega, rfl⟩ (by omega)
    · rintro m _ _ I1 hB1 ⟨y1, rfl, rfl, hb, hm⟩
      have k44 := fBz_eq hB1 (a := 740) (j := 8) (by decide +kernel)
      have b45 := fBd fb_740_8 (fBz h0 hB1)
      refine And.intro ⟨rfl, by decide, by decide⟩ (fgetf fb_740_9 h0 hB1 ?_)
      intro z46 lz46 uz46 qz46
      subst qz46
      refine Exists.intro xm_315 (And.intro mi_315 (And.intro ⟨rfl, rfl, rfl, rfl⟩ (And.intro rfl ?_)))
      refine fcallp hB1 (ct_M_isLetter_13ae5 (fBz h0 hB1) (by first | exact ⟨lz46, uz46⟩ | omega)) ?_
      rintro _ ⟨z47, rfl, hz47⟩
      have wd : I1 740 10 = I1 740 9 → I1 747 (I1 740 10).toNat = I1 747 (I1 740 9).toNat := fun q => by rw [q]
      refine And.intro (by omega) (And.intro ?_ ?_)
      · intro c48
        exact fcutJ (I := I1) (j := (jc_M_next_c8003_198 I)) (lv' := [(0, .inr (.inr (some 740))), (1, .inl _)]) (And.intro rfl (And.intro rfl True.intro)) ⟨_, rfl, rfl, by omega, rfl⟩ (by omega)
      · intro c49
        exact fcutJ (I := I1) (j := (jc_M_next_c8003_128 I)) (lv' := [(0, .inr (.inr (some 740))), (1, .inl _)]) (And.intro rfl (And.intro rfl True.intro)) ⟨_, rfl, rfl, by omega, rfl⟩ (by omega)
    · rintro m _ _ I1 hB1 ⟨y1, rfl, rfl, hb, hm⟩
      have k50 := fBz_eq hB1 (a := 740) (j := 8) (by decide +kernel)
      have b51 := fBd fb_740_8 (fBz h0 hB1)
      refine And.intro ⟨rfl, by decide, by decide⟩ (fgetf fb_740_10 h0 hB1 ?_)
      intro z52 lz52 uz52 qz52
      subst qz52
      refine Exists.intro xm_315 (And.intro mi_315 (And.intro ⟨rfl, rfl, rfl, rfl⟩ (And.intro rfl ?_)))
      refine fcallp hB1 (ct_M_isLetter_13ae5 (fBz h0 hB1) (by first | exact ⟨lz52, uz52⟩ | omega)) ?_
      rintro _ ⟨z53, rfl, hz53⟩
      have wc : I1 740 10 = I1 740 9 → I1 747 (I1 740 10).toNat = I1 747 (I1 740 9).toNat := fun q => by rw [q]
      refine And.intro (by omega) (And.intro ?_ ?_)
      · intro c54
        exact fcutJ (I := I1) (j := (jc_M_next_c8003_152 I)) (lv' := [(0, .inr (.inr (some 740))), (1, .inl _)]) (And.intro rfl (And.intro rfl True.intro)) ⟨_, rfl, rfl, by omega, rfl⟩ (by omega)
      · intro c55
        refine And.intro ⟨rfl, by decide, by decide⟩ (fgetf fb_740_10 h0 hB1 ?_)
        intro z56 lz56 uz56 qz56
        refine And.intro ⟨rfl, by decide, by decide⟩ (And.intro rfl (And.intro (Or.inl rfl) (fputf fb_740_10 (by decide +kernel) hW (by omega) ?_)))
        intro IhB57 ehB57 hB57
        have t58 : IhB57 740 9 = I1 740 9 := (congrFun (congrFun ehB57 740) 9).trans (fup_ne (by first | decide | omega))
        have t59 := fup_at ehB57 10 (by first | rfl | omega)
        have t60 : IhB57 740 11 = I1 740 11 := (congrFun (congrFun ehB57 740) 11).trans (fup_ne (by first | decide | omega))
        have k61 := fBz_eq hB57 (a := 740) (j := 8) (by decide +kernel)
        exact fcutJ (I := IhB57) (j := (jc_M_next_c8003_128 I)) (lv' := [(0, .inr (.inr (some 740))), (1, .inl _)]) (And.intro rfl (And.intro rfl True.intro)) ⟨_, rfl, rfl, by omega, rfl⟩ (by omega)
    · rintro m _ _ I1 hB1 ⟨y1, rfl, rfl, hb, hm⟩
      have k62 := fBz_eq hB1 (a := 740) (j := 8) (by decide +kernel)
      have b63 := fBd fb_740_8 (fBz h0 hB1)
      refine And.intro (by first | exact fi_ hb.1.1 hb.1.2 rfl | omega) (And.intro ?_ ?_)
      · intro c64
        refine And.intro ⟨rfl, by decide, by decide⟩ (And.intro rfl (And.intro (Or.inl rfl) (fputf fb_740_11 (by decide +kernel) hW (by omega) ?_)))
        intro IhB65 ehB65 hB65
        have t66 : IhB65 740 9 = I1 740 9 := (congrFun (congrFun ehB65 740) 9).trans (fup_ne (by first | decide | omega))
        have t67 : IhB65 740 10 = I1 740 10 := (congrFun (congrFun ehB65 740) 10).trans (fup_ne (by first | decide | omega))
        have t68 := fup_at ehB65 11 (by first | rfl | omega)
        have k69 := fBz_eq hB65 (a := 740) (j := 8) (by decide +kernel)
        refine And.intro ⟨rfl, by decide, by decide⟩ (fgetf fb_740_10 h0 hB65 ?_)
        intro z70 lz70 uz70 qz70
        refine And.intro ⟨rfl, by decide, by decide⟩ (fgetf fb_740_9 h0 hB65 ?_)
        intro z71 lz71 uz71 qz71
        refine And.intro (by omega) (And.intro ?_ ?_)
        · intro c72
          refine And.intro ⟨rfl, by decide, by decide⟩ (And.intro rfl (And.intro (Or.inl rfl) (fputf fb_740_13 (by decide +kernel) hW (by omega) ?_)))
          intro IhB73 ehB73 hB73
          have t74 : IhB73 740 9 = IhB65 740 9 := (congrFun (congrFun ehB73 740) 9).trans (fup_ne (by first | decide | omega))
          have t75 : IhB73 740 10 = IhB65 740 10 := (congrFun (congrFun ehB73 740) 10).trans (fup_ne (by first | decide | omega))
          have t76 : IhB73 740 11 = IhB65 740 11 := (congrFun (congrFun ehB73 740) 11).trans (fup_ne (by first | decide | omega))
          have t77 := fup_at ehB73 13 (by first | rfl | omega)
          have k78 := fBz_eq hB73 (a := 740) (j := 8) (by decide +kernel)
          exact fcutJ (I := IhB73) (j := (jc_M_next_c8003_339 I)) (lv' := []) (True.intro) ⟨rfl, rfl, by omega, rfl⟩ (by omega)
        · intro c79
          refine And.intro ⟨rfl, by decide, by decide⟩ ?_
          refine And.intro ⟨rfl, by decide, by decide⟩ (fgetf fb_740_9 h0 hB65 ?_)
          intro z80 lz80 uz80 qz80
          refine fload rL_747_747_0_95_1_0 h0 hB65 (by omega) ?_
          intro z81 lz81 uz81 qz81
          refine And.intro ⟨rfl, by decide, by decide⟩ (And.intro rfl (And.intro (Or.inl rfl) (fputf fb_740_13 (by decide +kernel) hW (by first | exact ⟨lz81, uz81⟩ | omega) ?_)))
          intro IhB82 ehB82 hB82
          have t83 : IhB82 740 9 = IhB65 740 9 := (congrFun (congrFun ehB82 740) 9).trans (fup_ne (by first | decide | omega))
          have t84 : IhB82 740 10 = IhB65 740 10 := (congrFun (congrFun ehB82 740) 10).trans (fup_ne (by first | decide | omega))
          have t85 : IhB82 740 11 = IhB65 740 11 := (congrFun (congrFun ehB82 740) 11).trans (fup_ne (by first | decide | omega))
          have t86 := fup_at ehB82 13 (by first | rfl | omega)
          have k87 := fBz_eq hB82 (a := 740) (j := 8) (by decide +kernel)
          exact fcutJ (I := IhB82) (j := (jc_M_next_c8003_339 I)) (lv' := []) (True.intro) ⟨rfl, rfl, by omega, rfl⟩ (by omega)
      · intro c88
        refine And.intro ⟨rfl, by decide, by decide⟩ (And.intro rfl (And.intro (Or.inl rfl) (fputf fb_740_11 (by decide +kernel) hW (by first | exact ⟨by decide, by decide⟩ | omega) ?_)))
        intro IhB89 ehB89 hB89
        have t90 : IhB89 740 9 = I1 740 9 := (congrFun (congrFun ehB89 740) 9).trans (fup_ne (by first | decide | omega))
        have t91 : IhB89 740 10 = I1 740 10 := (congrFun (congrFun ehB89 740) 10).trans (fup_ne (by first | decide | omega))
        have t92 := fup_at ehB89 11 (by first | rfl | omega)
        have k93 := fBz_eq hB89 (a := 740) (j := 8) (by decide +kernel)
        refine And.intro ⟨rfl, by decide, by decide⟩ (fgetf fb_740_10 h0 hB89 ?_)
        intro z94 lz94 uz94 qz94
        refine And.intro ⟨rfl, by decide, by decide⟩ (fgetf fb_740_9 h0 hB89 ?_)
        intro z95 lz95 uz95 qz95
        refine And.intro (by omega) (And.intro ?_ ?_)
        · intro c96
          refine And.intro ⟨rfl, by decide, by decide⟩ (And.intro rfl (And.intro (Or.inl rfl) (fputf fb_740_13 (by decide +kernel) hW (by omega) ?_)))
          intro IhB97 ehB97 hB97
          have t98 : IhB97 740 9 = IhB89 740 9 := (congrFun (congrFun ehB97 740) 9).trans (fup_ne (by first | decide | omega))
          have t99 : IhB97 740 10 = IhB89 740 10 := (congrFun (congrFun ehB97 740) 10).trans (fup_ne (by first | decide | omega))
          have t100 : IhB97 740 11 = IhB89 740 11 := (congrFun (congrFun ehB97 740) 11).trans (fup_ne (by first | decide | omega))
          have t101 := fup_at ehB97 13 (by first | rfl | omega)
          have k102 := fBz_eq hB97 (a := 740) (j := 8) (by decide +kernel)
          exact fcutJ (I := IhB97) (j := (jc_M_next_c8003_339 I)) (lv' := []) (True.intro) ⟨rfl, rfl, by omega, rfl⟩ (by omega)
        · intro c103
          refine And.intro ⟨rfl, by decide, by decide⟩ ?_
          refine And.intro ⟨rfl, by decide, by decide⟩ (fgetf fb_740_9 h0 hB89 ?_)
          intro z104 lz104 uz104 qz104
          refine fload rL_747_747_0_95_1_0 h0 hB89 (by omega) ?_
          intro z105 lz105 uz105 qz105
          refine And.intro ⟨rfl, by decide, by decide⟩ (And.intro rfl (And.intro (Or.inl rfl) (fputf fb_740_13 (by decide +kernel) hW (by first | exact ⟨lz105, uz105⟩ | omega) ?_)))
          intro IhB106 ehB106 hB106
          have t107 : IhB106 740 9 = IhB89 740 9 := (congrFun (congrFun ehB106 740) 9).trans (fup_ne (by first | decide | omega))
          have t108 : IhB106 740 10 = IhB89 740 10 := (congrFun (congrFun ehB106 740) 10).trans (fup_ne (by first | decide | omega))
          have t109 : IhB106 740 11 = IhB89 740 11 := (congrFun (congrFun ehB106 740) 11).trans (fup_ne (by first | decide | omega))
          have t110 := fup_at ehB106 13 (by first | rfl | omega)
          have k111 := fBz_eq hB106 (a := 740) (j := 8) (by decide +kernel)
          exact fcutJ (I := IhB106) (j := (jc_M_next_c8003_339 I)) (lv' := []) (True.intro) ⟨rfl, rfl, by omega, rfl⟩ (by omega)
    · rintro m _ _ I1 hB1 ⟨y1, rfl, rfl, hb, hm⟩
      have k112 := fBz_eq hB1 (a := 740) (j := 8) (by decide +kernel)
      have b113 := fBd fb_740_8 (fBz h0 hB1)
      refine And.intro ⟨rfl, by decide, by decide⟩ (fgetf fb_740_9 h0 hB1 ?_)
      intro z114 lz114 uz114 qz114
      subst qz114
      refine Exists.intro xm_316 (And.intro mi_316 (And.intro ⟨rfl, rfl, rfl, rfl⟩ (And.intro rfl ?_)))
      refine fcallp hB1 (ct_M_isDigit_7604c (fBz h0 hB1) (by first | exact ⟨lz114, uz114⟩ | omega)) ?_
      rintro _ ⟨z115, rfl, hz115⟩
      have wd : I1 740 10 = I1 740 9 → I1 747 (I1 740 10).toNat = I1 747 (I1 740 9).toNat := fun q => by rw [q]
      refine And.intro (by omega) (And.intro ?_ ?_)
      · intro c116
        exact fcutJ (I := I1) (j := (jc_M_next_c8003_311 I)) (lv' := [(0, .inr (.inr (some 740)))]) (And.intro rfl True.intro) ⟨rfl, rfl, by omega, rfl⟩ (by omega)
      · intro c117
        refine And.intro ⟨rfl, by decide, by decide⟩ (And.intro rfl (And.intro (Or.inl rfl) (fputf fb_740_12 (by decide +kernel) hW (by first | exact ⟨by decide, by decide⟩ | omega) ?_)))
        intro IhB118 ehB118 hB118
        have t119 : IhB118 740 9 = I1 740 9 := (congrFun (congrFun ehB118 740) 9).trans (fup_ne (by first | decide | omega))
        have t120 : IhB118 740 10 = I1 740 10 := (congrFun (congrFun ehB118 740) 10).trans (fup_ne (by first | decide | omega))
        have t121 : IhB118 740 11 = I1 740 11 := (congrFun (congrFun ehB118 740) 11).trans (fup_ne (by first | decide | omega))
        have k122 := fBz_eq hB118 (a := 740) (j := 8) (by decide +kernel)
        have w214 : IhB118 747 (IhB118 740 9).toNat = I1 747 (I1 740 9).toNat := by rw [fup_other ehB118 740 9 (Or.inr (by omega)), fup_other ehB118 747 _ (Or.inl (by decide))]
        exact fcutJ (I := IhB118) (j := (jc_M_next_c8003_214 I)) (lv' := [(0, .inr (.inr (some 740))), (1, .inl _)]) (And.intro rfl (And.intro rfl True.intro)) ⟨_, rfl, rfl, by omega, rfl⟩ (by omega)
    · rintro m _ _ I1 hB1 ⟨y1, rfl, rfl, hb, hm⟩
      have k123 := fBz_eq hB1 (a := 740) (j := 8) (by decide +kernel)
      have b124 := fBd fb_740_8 (fBz h0 hB1)
      refine And.intro ⟨rfl, by decide, by decide⟩ (fgetf fb_740_10 h0 hB1 ?_)
      intro z125 lz125 uz125 qz125
      subst qz125
      refine Exists.intro xm_316 (And.intro mi_316 (And.intro ⟨rfl, rfl, rfl, rfl⟩ (And.intro rfl ?_)))
      refine fcallp hB1 (ct_M_isDigit_7604c (fBz h0 hB1) (by first | exact ⟨lz125, uz125⟩ | omega)) ?_
      rintro _ ⟨z126, rfl, hz126⟩
      have wc : I1 740 10 = I1 740 9 → I1 747 (I1 740 10).toNat = I1 747 (I1 740 9).toNat := fun q => by rw [q]
      refine And.intro (by omega) (And.intro ?_ ?_)
      · intro c127
        exact fcutJ (I := I1) (j := (jc_M_next_c8003_282 I)) (lv' := [(0, .inr (.inr (some 740))), (1, .inl _)]) (And.intro rfl (And.intro rfl True.intro)) ⟨_, rfl, rfl, by omega, rfl⟩ (by omega)
      · intro c128
        refine And.intro ⟨rfl, by decide, by decide⟩ (fgetf fb_740_10 h0 hB1 ?_)
        intro z129 lz129 uz129 qz129
        refine And.intro ⟨rfl, by decide, by decide⟩ (fgetf fb_740_9 h0 hB1 ?_)
        intro z130 lz130 uz130 qz130
        refine And.intro (by omega) (And.intro ?_ ?_)
        · intro c131
          refine And.intro ⟨rfl, by decide, by decide⟩ (fgetf fb_740_12 h0 hB1 ?_)
          intro z132 lz132 uz132 qz132
          refine And.intro ⟨rfl, by decide, by decide⟩ (And.intro rfl (And.intro (Or.inl rfl) (fputf fb_740_12 (by decide +kernel) hW (by first | exact ⟨lz132, uz132⟩ | omega) ?_)))
          intro IhB133 ehB133 hB133
          have t134 : IhB133 740 9 = I1 740 9 := (congrFun (congrFun ehB133 740) 9).trans (fup_ne (by first | decide | omega))
          have t135 : IhB133 740 10 = I1 740 10 := (congrFun (congrFun ehB133 740) 10).trans (fup_ne (by first | decide | omega))
          have t136 : IhB133 740 11 = I1 740 11 := (congrFun (congrFun ehB133 740) 11).trans (fup_ne (by first | decide | omega))
          have t137 := fup_at ehB133 12 (by first | rfl | omega)
          have k138 := fBz_eq hB133 (a := 740) (j := 8) (by decide +kernel)
          refine And.intro ⟨rfl, by decide, by decide⟩ (fgetf fb_740_10 h0 hB133 ?_)
          intro z139 lz139 uz139 qz139
          refine And.intro ⟨rfl, by decide, by decide⟩ (And.intro rfl (And.intro (Or.inl rfl) (fputf fb_740_10 (by decide +kernel) hW (by omega) ?_)))
          intro IhB140 ehB140 hB140
          have t141 : IhB140 740 9 = IhB133 740 9 := (congrFun (congrFun ehB140 740) 9).trans (fup_ne (by first | decide | omega))
          have t142 := fup_at ehB140 10 (by first | rfl | omega)
          have t143 : IhB140 740 11 = IhB133 740 11 := (congrFun (congrFun ehB140 740) 11).trans (fup_ne (by first | decide | omega))
          have t144 : IhB140 740 12 = IhB133 740 12 := (congrFun (congrFun ehB140 740) 12).trans (fup_ne (by first | decide | omega))
          have k145 := fBz_eq hB140 (a := 740) (j := 8) (by decide +kernel)
          exact fcutJ (I := IhB140) (j := (jc_M_next_c8003_214 I)) (lv' := [(0, .inr (.inr (some 740))), (1, .inl _)]) (And.intro rfl (And.intro rfl True.intro)) ⟨_, rfl, rfl, by omega, rfl⟩ (by omega)
        · intro c146
          refine And.intro ⟨rfl, by decide, by decide⟩ (fgetf fb_740_12 h0 hB1 ?_)
          intro z147 lz147 uz147 qz147
          intro z148 hz148 ez148 bz148
          clear ez148
          try replace bz148 := bz148 (by omega)
          refine And.intro ⟨rfl, by decide, by decide⟩ ?_
          refine And.intro ⟨rfl, by decide, by decide⟩ (fgetf fb_740_10 h0 hB1 ?_)
          intro z149 lz149 uz149 qz149
          refine fload rL_747_747_0_95_1_0 h0 hB1 (by omega) ?_
          intro z150 lz150 uz150 qz150
          intro z151 hz151 ez151 bz151
          clear ez151
          try replace bz151 := bz151 (by omega)
          intro z152 hz152 ez152 bz152
          clear ez152
          try replace bz152 := bz152 (by omega)
          refine And.intro ⟨rfl, by decide, by decide⟩ (And.intro rfl (And.intro (Or.inl rfl) (fputf fb_740_12 (by decide +kernel) hW (by omega) ?_)))
          intro IhB153 ehB153 hB153
          have t154 : IhB153 740 9 = I1 740 9 := (congrFun (congrFun ehB153 740) 9).trans (fup_ne (by first | decide | omega))
          have t155 : IhB153 740 10 = I1 740 10 := (congrFun (congrFun ehB153 740) 10).trans (fup_ne (by first | decide | omega))
          have t156 : IhB153 740 11 = I1 740 11 := (congrFun (congrFun ehB153 740) 11).trans (fup_ne (by first | decide | omega))
          have t157 := fup_at ehB153 12 (by first | rfl | omega)
          have k158 := fBz_eq hB153 (a := 740) (j := 8) (by decide +kernel)
          refine And.intro ⟨rfl, by decide, by decide⟩ (fgetf fb_740_10 h0 hB153 ?_)
          intro z159 lz159 uz159 qz159
          refine And.intro ⟨rfl, by decide, by decide⟩ (And.intro rfl (And.intro (Or.inl rfl) (fputf fb_740_10 (by decide +kernel) hW (by omega) ?_)))
          intro IhB160 ehB160 hB160
          have t161 : IhB160 740 9 = IhB153 740 9 := (congrFun (congrFun ehB160 740) 9).trans (fup_ne (by first | decide | omega))
          have t162 := fup_at ehB160 10 (by first | rfl | omega)
          have t163 : IhB160 740 11 = IhB153 740 11 := (congrFun (congrFun ehB160 740) 11).trans (fup_ne (by first | decide | omega))
          have t164 : IhB160 740 12 = IhB153 740 12 := (congrFun (congrFun ehB160 740) 12).trans (fup_ne (by first | decide | omega))
          have k165 := fBz_eq hB160 (a := 740) (j := 8) (by decide +kernel)
          exact fcutJ (I := IhB160) (j := (jc_M_next_c8003_214 I)) (lv' := [(0, .inr (.inr (some 740))), (1, .inl _)]) (And.intro rfl (And.intro rfl True.intro)) ⟨_, rfl, rfl, by omega, rfl⟩ (by omega)
    · rintro m _ _ I1 hB1 ⟨y1, rfl, rfl, hb, hm⟩
      have k166 := fBz_eq hB1 (a := 740) (j := 8) (by decide +kernel)
      have b167 := fBd fb_740_8 (fBz h0 hB1)
      refine And.intro (by first | exact fi_ hb.1.1 hb.1.2 rfl | omega) (And.intro ?_ ?_)
      · intro c168
        refine And.intro ⟨rfl, by decide, by decide⟩ (And.intro rfl (And.intro (Or.inl rfl) (fputf fb_740_11 (by decide +kernel) hW (by first | exact ⟨by decide, by decide⟩ | omega) ?_)))
        intro IhB169 ehB169 hB169
        have t170 : IhB169 740 9 = I1 740 9 := (congrFun (congrFun ehB169 740) 9).trans (fup_ne (by first | decide | omega))
        have t171 : IhB169 740 10 = I1 740 10 := (congrFun (congrFun ehB169 740) 10).trans (fup_ne (by first | decide | omega))
        have t172 := fup_at ehB169 11 (by first | rfl | omega)
        have k173 := fBz_eq hB169 (a := 740) (j := 8) (by decide +kernel)
        exact fcutJ (I := IhB169) (j := (jc_M_next_c8003_339 I)) (lv' := []) (True.intro) ⟨rfl, rfl, by omega, rfl⟩ (by omega)
      · intro c174
        refine And.intro ⟨rfl, by decide, by decide⟩ (fgetf fb_740_10 h0 hB1 ?_)
        intro z175 lz175 uz175 qz175
        refine And.intro ⟨rfl, by decide, by decide⟩ (fgetf fb_740_9 h0 hB1 ?_)
        intro z176 lz176 uz176 qz176
        refine And.intro (by omega) (And.intro ?_ ?_)
        · intro c177
          refine And.intro ⟨rfl, by decide, by decide⟩ (And.intro rfl (And.intro (Or.inl rfl) (fputf fb_740_11 (by decide +kernel) hW (by omega) ?_)))
          intro IhB178 ehB178 hB178
          have t179 : IhB178 740 9 = I1 740 9 := (congrFun (congrFun ehB178 740) 9).trans (fup_ne (by first | decide | omega))
          have t180 : IhB178 740 10 = I1 740 10 := (congrFun (congrFun ehB178 740) 10).trans (fup_ne (by first | decide | omega))
          have t181 := fup_at ehB178 11 (by first | rfl | omega)
          have k182 := fBz_eq hB178 (a := 740) (j := 8) (by decide +kernel)
          exact fcutJ (I := IhB178) (j := (jc_M_next_c8003_339 I)) (lv' := []) (True.intro) ⟨rfl, rfl, by omega, rfl⟩ (by omega)
        · intro c183
          refine And.intro ⟨rfl, by decide, by decide⟩ (And.intro rfl (And.intro (Or.inl rfl) (fputf fb_740_11 (by decide +kernel) hW (by first | exact ⟨by decide, by decide⟩ | omega) ?_)))
          intro IhB184 ehB184 hB184
          have t185 : IhB184 740 9 = I1 740 9 := (congrFun (congrFun ehB184 740) 9).trans (fup_ne (by first | decide | omega))
          have t186 : IhB184 740 10 = I1 740 10 := (congrFun (congrFun ehB184 740) 10).trans (fup_ne (by first | decide | omega))
          have t187 := fup_at ehB184 11 (by first | rfl | omega)
          have k188 := fBz_eq hB184 (a := 740) (j := 8) (by decide +kernel)
          exact fcutJ (I := IhB184) (j := (jc_M_next_c8003_339 I)) (lv' := []) (True.intro) ⟨rfl, rfl, by omega, rfl⟩ (by omega)
    · rintro m _ _ I1 hB1 ⟨rfl, rfl, hb, hm⟩
      have k189 := fBz_eq hB1 (a := 740) (j := 8) (by decide +kernel)
      have b190 := fBd fb_740_8 (fBz h0 hB1)
      refine And.intro ⟨rfl, by decide, by decide⟩ (And.intro rfl (And.intro (Or.inl rfl) (fputf fb_740_11 (by decide +kernel) hW (by first | exact ⟨by decide, by decide⟩ | omega) ?_)))
      intro IhB191 ehB191 hB191
      have t192 : IhB191 740 8 = I1 740 8 := (congrFun (congrFun ehB191 740) 8).trans (fup_ne (by first | decide | omega))
      have t193 : IhB191 740 9 = I1 740 9 := (congrFun (congrFun ehB191 740) 9).trans (fup_ne (by first | decide | omega))
      have t194 : IhB191 740 10 = I1 740 10 := (congrFun (congrFun ehB191 740) 10).trans (fup_ne (by first | decide | omega))
      have t195 := fup_at ehB191 11 (by first | rfl | omega)
      have k196 := fBz_eq hB191 (a := 740) (j := 8) (by decide +kernel)
      refine And.intro ⟨rfl, by decide, by decide⟩ ?_
      refine And.intro ⟨rfl, by decide, by decide⟩ (fgetf fb_740_9 h0 hB191 ?_)
      intro z197 lz197 uz197 qz197
      refine fload rL_747_747_0_95_1_0 h0 hB191 (by omega) ?_
      intro z198 lz198 uz198 qz198
      refine And.intro ⟨rfl, by decide, by decide⟩ (And.intro rfl (And.intro (Or.inl rfl) (fputf fb_740_13 (by decide +kernel) hW (by first | exact ⟨lz198, uz198⟩ | omega) ?_)))
      intro IhB199 ehB199 hB199
      have t200 : IhB199 740 8 = IhB191 740 8 := (congrFun (congrFun ehB199 740) 8).trans (fup_ne (by first | decide | omega))
      have t201 : IhB199 740 9 = IhB191 740 9 := (congrFun (congrFun ehB199 740) 9).trans (fup_ne (by first | decide | omega))
      have t202 : IhB199 740 10 = IhB191 740 10 := (congrFun (congrFun ehB199 740) 10).trans (fup_ne (by first | decide | omega))
      have t203 : IhB199 740 11 = IhB191 740 11 := (congrFun (congrFun ehB199 740) 11).trans (fup_ne (by first | decide | omega))
      have t204 := fup_at ehB199 13 (by first | rfl | omega)
      have k205 := fBz_eq hB199 (a := 740) (j := 8) (by decide +kernel)
      refine And.intro ⟨rfl, by decide, by decide⟩ (fgetf fb_740_10 h0 hB199 ?_)
      intro z206 lz206 uz206 qz206
      refine And.intro ⟨rfl, by decide, by decide⟩ (And.intro rfl (And.intro (Or.inl rfl) (fputf fb_740_10 (by decide +kernel) hW (by omega) ?_)))
      intro IhB207 ehB207 hB207
      have t208 : IhB207 740 9 = IhB199 740 9 := (congrFun (congrFun ehB207 740) 9).trans (fup_ne (by first | decide | omega))
      have t209 := fup_at ehB207 10 (by first | rfl | omega)
      have t210 : IhB207 740 11 = IhB199 740 11 := (congrFun (congrFun ehB207 740) 11).trans (fup_ne (by first | decide | omega))
      have k211 := fBz_eq hB207 (a := 740) (j := 8) (by decide +kernel)
      exact fcutJ (I := IhB207) (j := (jc_M_next_c8003_339 I)) (lv' := []) (True.intro) ⟨rfl, rfl, by omega, rfl⟩ (by omega)
    · rintro m _ _ I1 hB1 ⟨rfl, rfl, hb, hm⟩
      have k212 := fBz_eq hB1 (a := 740) (j := 8) (by decide +kernel)
      have b213 := fBd fb_740_8 (fBz h0 hB1)
      exact ⟨rfl, by omega⟩
  · have hB0 := fB_self (zn := znJ) (K := fKc wz_1c18d) h0
    have b214 := fBd fb_740_8 (fBz h0 hB0)
    refine And.intro ⟨rfl, by decide, by decide⟩ (fgetf fb_740_10 h0 hB0 ?_)
    intro z215 lz215 uz215 qz215
    refine And.intro (by first | exact fi_ lz215 uz215 rfl | omega) (And.intro ?_ ?_)
    · intro c216
      refine And.intro ⟨rfl, by decide, by decide⟩ (fgetf fb_740_10 h0 hB0 ?_)
      intro z217 lz217 uz217 qz217
      exact fcutJ (I := I) (j := (jc_M_next_c8003_34 I)) (lv' := [(0, .inr (.inr (some 740))), (1, .inl _), (2, .inl _)]) (And.intro rfl (And.intro rfl (And.intro rfl True.intro))) ⟨_, _, rfl, rfl, by omega, rfl⟩ (by omega)
    · intro c218
      refine And.intro ⟨rfl, by decide, by decide⟩ (fgetf fb_740_11 h0 hB0 ?_)
      intro z219 lz219 uz219 qz219
      refine And.intro (And.intro (by first | exact fi_ lz219 uz219 rfl | omega) (by first | exact ⟨by decide, by decide⟩ | omega)) (And.intro ?_ ?_)
      · intro c220
        refine And.intro ⟨rfl, by decide, by decide⟩ (fgetf fb_740_10 h0 hB0 ?_)
        intro z221 lz221 uz221 qz221
        exact fcutJ (I := I) (j := (jc_M_next_c8003_34 I)) (lv' := [(0, .inr (.inr (some 740))), (1, .inl _), (2, .inl _)]) (And.intro rfl (And.intro rfl (And.intro rfl True.intro))) ⟨_, _, rfl, rfl, by omega, rfl⟩ (by omega)
      · intro c222
        refine And.intro ⟨rfl, by decide, by decide⟩ (fgetf fb_740_11 h0 hB0 ?_)
        intro z223 lz223 uz223 qz223
        refine And.intro (And.intro (by first | exact fi_ lz223 uz223 rfl | omega) (by first | exact ⟨by decide, by decide⟩ | omega)) (And.intro ?_ ?_)
        · intro c224
          refine And.intro ⟨rfl, by decide, by decide⟩ (fgetf fb_740_10 h0 hB0 ?_)
          intro z225 lz225 uz225 qz225
          exact fcutJ (I := I) (j := (jc_M_next_c8003_34 I)) (lv' := [(0, .inr (.inr (some 740))), (1, .inl _), (2, .inl _)]) (And.intro rfl (And.intro rfl (And.intro rfl True.intro))) ⟨_, _, rfl, rfl, by omega, rfl⟩ (by omega)
        · intro c226
          refine And.intro ⟨rfl, by decide, by decide⟩ (fgetf fb_740_10 h0 hB0 ?_)
          intro z227 lz227 uz227 qz227
          exact fcutJ (I := I) (j := (jc_M_next_c8003_34 I)) (lv' := [(0, .inr (.inr (some 740))), (1, .inl _), (2, .inl _)]) (And.intro rfl (And.intro rfl (And.intro rfl True.intro))) ⟨_, _, rfl, rfl, by omega, rfl⟩ (by omega)
set_option maxRecDepth 8000 in
theorem ct_M_isSign_90da9 {I : fH} {x1 : Int} (h0 : fB bsJ I) (ha1 : (33 ≤ x1 ∧ x1 ≤ 124)) : fC ρ base n F xTc vwCl xTys D dA la gJ (fbz bsJ znJ (fKc []) I) xm_423 [.inr (.inr (some 740)), .inl x1] I (fun _ r => ∃ z, r = some (.inl z) ∧ ((0 ≤ z ∧ z ≤ 1) ∧ (z = 1 → I 740 11 = 3 ∧ I 740 13 = x1))) := by
  have hW : fzs [] (fKc []) := fKc_ok _
  refine f_meth (rb := rbJ) (J := []) 1 400 xG xin_423 x6_423 okJ (fB_self h0) ?_ ?_
  · exact fun q h => absurd h List.not_mem_nil
  · have hB0 := fB_self (zn := znJ) (K := fKc []) h0
    refine And.intro ⟨rfl, by decide, by decide⟩ (fgetf fb_740_11 h0 hB0 ?_)
    intro z1 lz1 uz1 qz1
    refine And.intro (And.intro (by first | exact fi_ lz1 uz1 rfl | omega) (by first | exact ⟨by decide, by decide⟩ | omega)) (And.intro ?_ ?_)
    · intro c2
      refine And.intro (⟨by omega, by omega⟩) ?_
      exact ⟨_, rfl, by omega⟩
    · intro c3
      refine And.intro ⟨rfl, by decide, by decide⟩ (fgetf fb_740_13 h0 hB0 ?_)
      intro z4 lz4 uz4 qz4
      refine And.intro (And.intro (by first | exact fi_ lz4 uz4 rfl | omega) (by first | exact fi_ ha1.1 ha1.2 rfl | omega)) (And.intro ?_ ?_)
      · intro c5
        refine And.intro (⟨by omega, by omega⟩) ?_
        exact ⟨_, rfl, by omega⟩
      · intro c6
        refine And.intro (⟨by decide, by decide⟩) ?_
        exact ⟨_, rfl, by omega⟩
set_option maxRecDepth 8000 in
theorem ct_M_step_2c704 {I : fH} {x1 : Int} {x2 : Int} (h0 : fB bsJ I) (ha1 : (0 ≤ x1 ∧ x1 ≤ 2)) (ha2 : ((-2147483648) ≤ x2 ∧ x2 ≤ 2147483647)) (hp0 : 0 ≤ I 740 16 ∧ I 740 16 ≤ 96) (hp1 : (1215 ≤ I 740 17 ∧ I 740 17 ≤ 3415 ∧ (I 740 17 - 1215) % 200 = 0) ∨ I 740 17 = 4700) : fC ρ base n F xTc vwCl xTys D dA la gJ (fbz bsJ znJ (fKc wz_6dafe) I) xm_421 [.inr (.inr (some 740)), .inl x1, .inl x2] I (fun I' r => r = none ∧ (I' 740 16 = I 740 16 + 1) ∧ (sPut I I' (I 740 17) (I 740 16) x1 x2)) := by
  have hW : fzs wz_6dafe (fKc wz_6dafe) := fKc_ok _
  refine f_meth (rb := rbJ) (J := []) 1 400 xG xin_421 x6_421 okJ (fB_self h0) ?_ ?_
  · exact fun q h => absurd h List.not_mem_nil
  · have hB0 := fB_self (zn := znJ) (K := fKc wz_6dafe) h0
    refine And.intro ⟨rfl, by decide, by decide⟩ ?_
    refine And.intro ⟨rfl, by decide, by decide⟩ (fgetf fb_740_17 h0 hB0 ?_)
    intro z1 lz1 uz1 qz1
    refine And.intro ⟨rfl, by decide, by decide⟩ (fgetf fb_740_16 h0 hB0 ?_)
    intro z2 lz2 uz2 qz2
    intro z3 hz3 ez3 bz3
    clear ez3
    try replace bz3 := bz3 (by omega)
    refine fstoreX (W := [20605, 20840]) (fzs_sub (by decide +kernel) hW) (by rcases hp1 with hA | hA <;> first | exact frS_at rS_741_741_1215_3609_200_194 (by decide +kernel) (by omega) (by omega) | exact frS_at rS_741_741_4700_4899_1_0 (by decide +kernel) (by omega) (by omega)) ?_
    intro IhB4 ehB4 hB4
    have t5 := fup_self ehB4
    have t6 : IhB4 740 16 = I 740 16 := (congrFun (congrFun ehB4 740) 16).trans (fup_ne (by first | exact Or.inl (by decide) | omega))
    have t7 : IhB4 740 17 = I 740 17 := (congrFun (congrFun ehB4 740) 17).trans (fup_ne (by first | exact Or.inl (by decide) | omega))
    refine And.intro ⟨rfl, by decide, by decide⟩ ?_
    refine And.intro ⟨rfl, by decide, by decide⟩ (fgetf fb_740_17 h0 hB4 ?_)
    intro z8 lz8 uz8 qz8
    refine And.intro ⟨rfl, by decide, by decide⟩ (fgetf fb_740_16 h0 hB4 ?_)
    intro z9 lz9 uz9 qz9
    intro z10 hz10 ez10 bz10
    clear ez10
    try replace bz10 := bz10 (by omega)
    intro z11 hz11 ez11 bz11
    clear ez11
    try replace bz11 := bz11 (by omega)
    refine fstoreX (W := [20605, 20840]) (fzs_sub (by decide +kernel) hW) (by rcases hp1 with hA | hA <;> first | exact frS_at rS_741_741_1215_3609_200_194 (by decide +kernel) (by omega) (by omega) | exact frS_at rS_741_741_4700_4899_1_0 (by decide +kernel) (by omega) (by omega)) ?_
    intro IhB12 ehB12 hB12
    have t13 := fup_self ehB12
    have t14 : IhB12 740 16 = IhB4 740 16 := (congrFun (congrFun ehB12 740) 16).trans (fup_ne (by first | exact Or.inl (by decide) | omega))
    have t15 : IhB12 740 17 = IhB4 740 17 := (congrFun (congrFun ehB12 740) 17).trans (fup_ne (by first | exact Or.inl (by decide) | omega))
    refine And.intro ⟨rfl, by decide, by decide⟩ (fgetf fb_740_16 h0 hB12 ?_)
    intro z16 lz16 uz16 qz16
    refine And.intro ⟨rfl, by decide, by decide⟩ (And.intro rfl (And.intro (Or.inl rfl) (fputf fb_740_16 (by decide +kernel) hW (by omega) ?_)))
    intro IhB17 ehB17 hB17
    have t18 := fup_at ehB17 16 (by first | rfl | omega)
    have t19 : IhB17 740 17 = IhB12 740 17 := (congrFun (congrFun ehB17 740) 17).trans (fup_ne (by first | decide | omega))
    exact ⟨rfl, by omega, ⟨fun j h1 h2 => (fup_other ehB17 741 j (Or.inl (by decide))).trans ((fup_other ehB12 741 j (Or.inr (by omega))).trans (fup_other ehB4 741 j (Or.inr (by omega)))), (fup_other ehB17 741 _ (Or.inl (by decide))).trans ((fup_other ehB12 741 _ (Or.inr (by omega))).trans (fup_at ehB4 _ (by omega))), (fup_other ehB17 741 _ (Or.inl (by decide))).trans (fup_at ehB12 _ (by omega))⟩⟩
end CT

set_option linter.all false
/-! contracts (written by gen95.py) -/
theorem x6_108 : f60c xTc xTys xm_108 = true := by decide +kernel
theorem x6_107 : f60c xTc xTys xm_107 = true := by decide +kernel
abbrev wz_68031 : List Nat := [747, 12208]
theorem x6_310 : f60c xTc xTys xm_310 = true := by decide +kernel
theorem fb_740_8 : bsJ 740 8 = (0, 96) := by decide +kernel
theorem rS_747_747_0_95_1_0 : frS gJ bsJ znJ [747] 100 ((747, 747), (0, 95), (1, 0), ((-2147483648), 2147483647)) := frS_dflt (by decide) (by decide +kernel)
abbrev wz_6427d : List Nat := [11701]
theorem x6_110 : f60c xTc xTys xm_110 = true := by decide +kernel
abbrev wz_9d31e : List Nat := [12208]
theorem x6_311 : f60c xTc xTys xm_311 = true := by decide +kernel
theorem x6_116 : f60c xTc xTys xm_116 = true := by decide +kernel
theorem x6_130 : f60c xTc xTys xm_130 = true := by decide +kernel
theorem x6_129 : f60c xTc xTys xm_129 = true := by decide +kernel
abbrev wz_a3f2e : List Nat := [701, 11704]
theorem x6_123 : f60c xTc xTys xm_123 = true := by decide +kernel
theorem fb_699_4 : bsJ 699 4 = (0, 96) := by decide +kernel
theorem rS_701_701_0_95_1_0 : frS gJ bsJ znJ [701] 100 ((701, 701), (0, 95), (1, 0), ((-2147483648), 2147483647)) := frS_dflt (by decide) (by decide +kernel)
abbrev wz_0c5eb : List Nat := [701, 11704, 11707, 11709]
theorem x6_128 : f60c xTc xTys xm_128 = true := by decide +kernel
theorem fb_699_7 : bsJ 699 7 = (0, 96) := by decide +kernel
theorem rL_702_702_0_95_1_0 : frL gJ bsJ 100 ((702, 702), (0, 95), (1, 0), (0, 255)) := frL_of (by decide +kernel)
theorem fb_699_9 : bsJ 699 9 = ((-2147483648), 2147483647) := by decide +kernel
abbrev wz_4372f : List Nat := [702, 11707]
theorem x6_125 : f60c xTc xTys xm_125 = true := by decide +kernel
theorem rS_702_702_0_95_1_0 : frS gJ bsJ znJ [702] 100 ((702, 702), (0, 95), (1, 0), (0, 255)) := frS_of (by decide +kernel)
abbrev wz_b7a7b : List Nat := [701, 11704, 11707, 11708, 11709]
theorem x6_127 : f60c xTc xTys xm_127 = true := by decide +kernel
theorem fb_699_8 : bsJ 699 8 = ((-2147483648), 2147483647) := by decide +kernel
abbrev wz_dd461 : List Nat := [701, 702, 11704, 11707, 11708, 11709, 11710]
theorem x6_126 : f60c xTc xTys xm_126 = true := by decide +kernel
theorem fb_699_10 : bsJ 699 10 = (0, 1) := by decide +kernel
theorem x6_113 : f60c xTc xTys xm_113 = true := by decide +kernel
theorem rL_700_700_0_95_1_0 : frL gJ bsJ 100 ((700, 700), (0, 95), (1, 0), (0, 255)) := frL_of (by decide +kernel)
theorem x6_115 : f60c xTc xTys xm_115 = true := by decide +kernel
theorem x6_114 : f60c xTc xTys xm_114 = true := by decide +kernel
abbrev wz_7c541 : List Nat := [701, 11704, 11705, 11710]
theorem x6_122 : f60c xTc xTys xm_122 = true := by decide +kernel
theorem fb_699_5 : bsJ 699 5 = ((-2147483648), 2147483647) := by decide +kernel
theorem x6_124 : f60c xTc xTys xm_124 = true := by decide +kernel
abbrev wz_84be8 : List Nat := [701, 702, 11704, 11705, 11707, 11708, 11709, 11710]
theorem x6_120 : f60c xTc xTys xm_120 = true := by decide +kernel
theorem fb_699_2 : bsJ 699 2 = ((-2147483648), 2147483647) := by decide +kernel
abbrev wz_4a62a : List Nat := [701, 702, 11702, 11704, 11705, 11707, 11708, 11709, 11710]
theorem x6_112 : f60c xTc xTys xm_112 = true := by decide +kernel
abbrev wz_5dd44 : List Nat := [188, 189, 190, 191, 192, 193, 10506]
theorem x6_131 : f60c xTc xTys xm_131 = true := by decide +kernel
theorem rS_188_188_0_11_1_0 : frS gJ bsJ znJ [188] 100 ((188, 188), (0, 11), (1, 0), ((-2147483648), 2147483647)) := frS_dflt (by decide) (by decide +kernel)
theorem rS_189_189_0_11_1_0 : frS gJ bsJ znJ [189] 100 ((189, 189), (0, 11), (1, 0), ((-2147483648), 2147483647)) := frS_dflt (by decide) (by decide +kernel)
theorem rS_190_190_0_11_1_0 : frS gJ bsJ znJ [190] 100 ((190, 190), (0, 11), (1, 0), ((-2147483648), 2147483647)) := frS_dflt (by decide) (by decide +kernel)
theorem rS_191_191_0_11_1_0 : frS gJ bsJ znJ [191] 100 ((191, 191), (0, 11), (1, 0), ((-2147483648), 2147483647)) := frS_dflt (by decide) (by decide +kernel)
theorem rS_192_192_0_11_1_0 : frS gJ bsJ znJ [192] 100 ((192, 192), (0, 11), (1, 0), (0, 96)) := frS_of (by decide +kernel)
abbrev wz_8696f : List Nat := [188, 189, 190, 191, 192, 193, 701, 702, 10506, 11701, 11702, 11704, 11705, 11707, 11708, 11709, 11710]
theorem x6_111 : f60c xTc xTys xm_111 = true := by decide +kernel
theorem x6_315 : f60c xTc xTys xm_315 = true := by decide +kernel
theorem rL_747_747_0_95_1_0 : frL gJ bsJ 100 ((747, 747), (0, 95), (1, 0), ((-2147483648), 2147483647)) := frL_hull (by decide) (by decide +kernel)
theorem x6_316 : f60c xTc xTys xm_316 = true := by decide +kernel
section CT
variable {ρ : Nat → Int32} {base n : Nat} {F : Nat → Prop} {D : va_G} {dA : Nat → ClassId} {la : Launch}
set_option maxRecDepth 8000 in
theorem ct_Tape_add_aea5a {I : fH} {x1 : Int} {x2 : Int} {x3 : Int} (h0 : fB bsJ I) (ha1 : ((-2147483648) ≤ x1 ∧ x1 ≤ 2147483647)) (ha2 : ((-2147483648) ≤ x2 ∧ x2 ≤ 2147483647)) (ha3 : ((-2147483648) ≤ x3 ∧ x3 ≤ 2147483647)) : fC ρ base n F xTc vwCl xTys D dA la gJ (fbz bsJ znJ (fKc wz_b3a7d) I) xm_108 [.inr (.inr (some 699)), .inl x1, .inl x2, .inl x3] I (fun I' r => ∃ z, r = some (.inl z) ∧ (((0 ≤ z ∧ z ≤ 96) ∨ z = (-1000000003)) ∧ ((I 699 1 ≤ 84 → I' 699 1 = I 699 1 + 12 ∧ z = I 699 1 + 12) ∧ (84 < I 699 1 → I' 699 1 = I 699 1 ∧ z = (-1000000003)))) ∧ (I 699 1 ≤ 84 → ∀ j, I' 700 j = fbk (fbk (fbk (I 700) (I 699 1) x1 4) (I 699 1 + 4) x2 4) (I 699 1 + 8) x3 4 j) ∧ (84 < I 699 1 → I' = I)) := by
  have hW : fzs wz_b3a7d (fKc wz_b3a7d) := fKc_ok _
  refine f_meth (rb := rbJ) (J := []) 1 400 xG xin_108 x6_108 okJ (fB_self h0) ?_ ?_
  · exact fun q h => absurd h List.not_mem_nil
  · have hB0 := fB_self (zn := znJ) (K := fKc wz_b3a7d) h0
    refine And.intro ⟨rfl, by decide, by decide⟩ (fgetf fb_699_1 h0 hB0 ?_)
    intro z1 lz1 uz1 qz1
    refine And.intro (by omega) (And.intro ?_ ?_)
    · intro c2
      refine Exists.intro xm_109 (And.intro mi_109 (And.intro ⟨rfl, rfl, rfl, rfl⟩ (And.intro rfl ?_)))
      refine fcall _ h0 (fzs_sub (by decide +kernel) hW) hB0 (ct_Tape_addFour_4538c (fBz h0 hB0) (by first | exact ⟨ha1.1, ha1.2⟩ | omega)) ?_
      rintro IhB4 _ hB4 fhB4 ⟨rfl, hz3, g0z3⟩
      refine Exists.intro xm_109 (And.intro mi_109 (And.intro ⟨rfl, rfl, rfl, rfl⟩ (And.intro rfl ?_)))
      refine fcall _ h0 (fzs_sub (by decide +kernel) hW) hB4 (ct_Tape_addFour_4538c (fBz h0 hB4) (by first | exact ⟨ha2.1, ha2.2⟩ | omega)) ?_
      rintro IhB6 _ hB6 fhB6 ⟨rfl, hz5, g0z5⟩
      refine Exists.intro xm_109 (And.intro mi_109 (And.intro ⟨rfl, rfl, rfl, rfl⟩ (And.intro rfl ?_)))
      refine fcall _ h0 (fzs_sub (by decide +kernel) hW) hB6 (ct_Tape_addFour_4538c (fBz h0 hB6) (by first | exact ⟨ha3.1, ha3.2⟩ | omega)) ?_
      rintro IhB8 _ hB8 fhB8 ⟨rfl, hz7, g0z7⟩
      refine And.intro ⟨rfl, by decide, by decide⟩ (fgetf fb_699_1 h0 hB8 ?_)
      intro z9 lz9 uz9 qz9
      refine And.intro (True.intro) ?_
      exact ⟨_, rfl, by omega, (fun _ j => by rw [g0z7 (by omega) j, funext (g0z5 (by omega)), funext (g0z3 (by omega)), show IhB4 699 1 = I 699 1 + 4 by omega, show IhB6 699 1 = I 699 1 + 8 by omega]), (fun q => absurd q (by omega))⟩
    · intro c10
      refine And.intro (True.intro) ?_
      exact ⟨_, rfl, by omega, (fun q => absurd q (by omega)), (fun _ => rfl)⟩
set_option maxRecDepth 8000 in
theorem ct_X_feed_51110 {I : fH} {x1 : Int} {x2 : Int} {x3 : Int} (h0 : fB bsJ I) (ha1 : ((-2147483648) ≤ x1 ∧ x1 ≤ 2147483647)) (ha2 : ((-2147483648) ≤ x2 ∧ x2 ≤ 2147483647)) (ha3 : ((-2147483648) ≤ x3 ∧ x3 ≤ 2147483647)) : fC ρ base n F xTc vwCl xTys D dA la gJ (fbz bsJ znJ (fKc wz_b3a7d) I) xm_107 [.inr (.inr (some 0)), .inl x1, .inl x2, .inl x3] I (fun I' r => ∃ z, r = some (.inl z) ∧ (((0 ≤ z ∧ z ≤ 96) ∨ z = (-1000000003)) ∧ ((I 699 1 ≤ 84 → I' 699 1 = I 699 1 + 12 ∧ z = I 699 1 + 12) ∧ (84 < I 699 1 → I' 699 1 = I 699 1 ∧ z = (-1000000003)))) ∧ (I 699 1 ≤ 84 → ∀ j, I' 700 j = fbk (fbk (fbk (I 700) (I 699 1) x1 4) (I 699 1 + 4) x2 4) (I 699 1 + 8) x3 4 j) ∧ (84 < I 699 1 → I' = I)) := by
  have hW : fzs wz_b3a7d (fKc wz_b3a7d) := fKc_ok _
  refine f_meth (rb := rbJ) (J := []) 1 400 xG xin_107 x6_107 okJ (fB_self h0) ?_ ?_
  · exact fun q h => absurd h List.not_mem_nil
  · have hB0 := fB_self (zn := znJ) (K := fKc wz_b3a7d) h0
    refine And.intro ⟨rfl, by decide, by decide⟩ ?_
    refine Exists.intro xm_108 (And.intro mi_108 (And.intro ⟨rfl, rfl, rfl, rfl⟩ (And.intro rfl ?_)))
    refine fcall _ h0 (fzs_sub (by decide +kernel) hW) hB0 (ct_Tape_add_aea5a (fBz h0 hB0) (by first | exact ⟨ha1.1, ha1.2⟩ | omega) (by first | exact ⟨ha2.1, ha2.2⟩ | omega) (by first | exact ⟨ha3.1, ha3.2⟩ | omega)) ?_
    rintro IhB2 _ hB2 fhB2 ⟨z1, rfl, hz1, g0z1, g1z1⟩
    refine And.intro (True.intro) ?_
    exact ⟨_, rfl, by omega, g0z1, g1z1⟩
abbrev jc_M_feed_07202_18 (x1 : Int) (x2 : Int) (x3 : Int) (I0 : fH) : Nat → fL → List fV → fH → Prop := fun m lv st I => ∃ (y1 : Int) (y2 : Int) (y3 : Int) (y4 : Int), lv = [(0, .inr (.inr (some 740))), (1, .inl y1), (2, .inl y2), (3, .inl y3), (4, .inl y4)] ∧ st = [] ∧ ((((-2147483648) ≤ y1 ∧ y1 ≤ 2147483647) ∧ ((-2147483648) ≤ y2 ∧ y2 ≤ 2147483647) ∧ ((-2147483648) ≤ y3 ∧ y3 ≤ 2147483647) ∧ (0 ≤ y4 ∧ y4 ≤ 12) ∧ (I 740 8 = I0 740 8 + y4) ∧ (I0 740 8 ≤ 84) ∧ (y1 = x1) ∧ (y2 = x2) ∧ (y3 = x3) ∧ (0 ≤ I0 740 8)) ∧ (∀ j, I 747 j = fbm (I0 747) (I0 740 8) x1 x2 x3 y4 j)) ∧ m = (1 + 1 * (12 - y4) : Int).toNat
set_option maxRecDepth 8000 in
theorem ct_M_feed_07202 {I : fH} {x1 : Int} {x2 : Int} {x3 : Int} (h0 : fB bsJ I) (ha1 : ((-2147483648) ≤ x1 ∧ x1 ≤ 2147483647)) (ha2 : ((-2147483648) ≤ x2 ∧ x2 ≤ 2147483647)) (ha3 : ((-2147483648) ≤ x3 ∧ x3 ≤ 2147483647)) : fC ρ base n F xTc vwCl xTys D dA la gJ (fbz bsJ znJ (fKc wz_68031) I) xm_310 [.inr (.inr (some 740)), .inl x1, .inl x2, .inl x3] I (fun I' r => ∃ z, r = some (.inl z) ∧ (((0 ≤ z ∧ z ≤ 96) ∨ z = (-1000000003)) ∧ ((I 740 8 ≤ 84 → I' 740 8 = I 740 8 + 12 ∧ z = I 740 8 + 12) ∧ (84 < I 740 8 → I' 740 8 = I 740 8 ∧ z = (-1000000003)))) ∧ (I 740 8 ≤ 84 → ∀ j, I' 747 j = fbm (I 747) (I 740 8) x1 x2 x3 12 j) ∧ (84 < I 740 8 → I' = I)) := by
  have hW : fzs wz_68031 (fKc wz_68031) := fKc_ok _
  refine f_meth (rb := rbJ) (J := [(18, (jc_M_feed_07202_18 x1 x2 x3 I))]) 14 400 xG xin_310 x6_310 okJ (fB_self h0) ?_ ?_
  · refine List.forall_mem_cons.mpr ⟨?_, fun q h => absurd h List.not_mem_nil⟩
    · rintro m _ _ I1 hB1 ⟨y1, y2, y3, y4, rfl, rfl, ⟨hb, hx0⟩, hm⟩
      have b1 := fBd fb_740_8 (fBz h0 hB1)
      have ey1 : x1 = y1 := by omega
      subst ey1
      have ey2 : x2 = y2 := by omega
      subst ey2
      have ey3 : x3 = y3 := by omega
      subst ey3
      refine And.intro (And.intro (by first | exact fi_ hb.2.2.2.1.1 hb.2.2.2.1.2 rfl | omega) (by first | exact ⟨by decide, by decide⟩ | omega)) (And.intro ?_ ?_)
      · intro c2
        refine And.intro ⟨rfl, by decide, by decide⟩ (fgetf fb_740_8 h0 hB1 ?_)
        intro z3 lz3 uz3 qz3
        refine And.intro (True.intro) ?_
        exact ⟨_, rfl, by omega, (fun _ => by have h := hx0; rw [show y4 = 12 by omega] at h; exact h), (fun q => absurd q (by omega))⟩
      · intro c4
        refine And.intro (And.intro (by first | exact fi_ hb.2.2.2.1.1 (Int.le_sub_one_of_lt (Int.lt_of_lt_of_le c4 (Int.le_refl _))) rfl | omega) (by first | exact ⟨by decide, by decide⟩ | omega)) (And.intro ?_ ?_)
        · intro c5
          refine And.intro (And.intro (by first | exact fi_ (Int.le_trans (Int.le_refl _) c5) (Int.le_sub_one_of_lt (Int.lt_of_lt_of_le c4 (Int.le_refl _))) rfl | omega) (by first | exact ⟨by decide, by decide⟩ | omega)) (And.intro ?_ ?_)
          · intro c6
            refine And.intro ⟨rfl, by decide, by decide⟩ ?_
            refine And.intro ⟨rfl, by decide, by decide⟩ (fgetf fb_740_8 h0 hB1 ?_)
            intro z7 lz7 uz7 qz7
            refine And.intro (And.intro (by first | exact fi_ (Int.le_trans (Int.le_refl _) c6) (Int.le_sub_one_of_lt (Int.lt_of_lt_of_le c4 (Int.le_refl _))) rfl | omega) (And.intro (by first | exact ⟨by decide, by decide⟩ | omega) (And.intro (by first | exact by decide | omega) rfl))) ?_
            intro z8 hz8 ez8 dz8
            have dz8 := dz8 (by omega) (by omega)
            change _ = _ % _ at dz8
            intro z9 hz9 ez9
            intro z10 hz10 ez10 bz10
            have bz10 := bz10 (by omega)
            refine fstore rS_747_747_0_95_1_0 (fzs_sub (by decide +kernel) hW) (by omega) (by first | exact ⟨Int.le_trans (by decide) bz10.1, Int.le_trans bz10.2 (by decide)⟩ | omega) ?_
            intro IhB11 ehB11 hB11
            have t12 := fup_self ehB11
            have t13 : IhB11 740 8 = I1 740 8 := (congrFun (congrFun ehB11 740) 8).trans (fup_ne (by first | exact Or.inl (by decide) | omega))
            refine And.intro ⟨rfl, by decide, by decide⟩ (fgetf fb_740_8 h0 hB11 ?_)
            intro z14 lz14 uz14 qz14
            refine And.intro ⟨rfl, by decide, by decide⟩ (And.intro rfl (And.intro (Or.inl rfl) (fputf fb_740_8 (by decide +kernel) hW (by omega) ?_)))
            intro IhB15 ehB15 hB15
            have t16 := fup_at ehB15 8 (by first | rfl | omega)
            exact fcutJ (I := IhB15) (j := (jc_M_feed_07202_18 x1 x2 x3 I)) (lv' := [(0, .inr (.inr (some 740))), (1, .inl _), (2, .inl _), (3, .inl _), (4, .inl _)]) (And.intro rfl (And.intro rfl (And.intro rfl (And.intro rfl (And.intro rfl True.intro))))) ⟨_, _, _, _, rfl, rfl, ⟨by omega, (fbm_go hx0 (by omega) (by omega) (by omega) ehB11 ehB15 (by omega) (by unfold fbw; (repeat' split) <;> first | rfl | (exfalso; omega)) (by omega) ez9 (by omega) ez10)⟩, rfl⟩ (by omega)
          · intro c17
            refine And.intro ⟨rfl, by decide, by decide⟩ ?_
            refine And.intro ⟨rfl, by decide, by decide⟩ (fgetf fb_740_8 h0 hB1 ?_)
            intro z18 lz18 uz18 qz18
            refine And.intro (And.intro (by first | exact fi_ (Int.le_trans (Int.le_refl _) c5) (Int.le_sub_one_of_lt (Int.lt_of_lt_of_le c17 (Int.le_refl _))) rfl | omega) (And.intro (by first | exact ⟨by decide, by decide⟩ | omega) (And.intro (by first | exact by decide | omega) rfl))) ?_
            intro z19 hz19 ez19 dz19
            have dz19 := dz19 (by omega) (by omega)
            change _ = _ % _ at dz19
            intro z20 hz20 ez20
            intro z21 hz21 ez21 bz21
            have bz21 := bz21 (by omega)
            refine fstore rS_747_747_0_95_1_0 (fzs_sub (by decide +kernel) hW) (by omega) (by first | exact ⟨Int.le_trans (by decide) bz21.1, Int.le_trans bz21.2 (by decide)⟩ | omega) ?_
            intro IhB22 ehB22 hB22
            have t23 := fup_self ehB22
            have t24 : IhB22 740 8 = I1 740 8 := (congrFun (congrFun ehB22 740) 8).trans (fup_ne (by first | exact Or.inl (by decide) | omega))
            refine And.intro ⟨rfl, by decide, by decide⟩ (fgetf fb_740_8 h0 hB22 ?_)
            intro z25 lz25 uz25 qz25
            refine And.intro ⟨rfl, by decide, by decide⟩ (And.intro rfl (And.intro (Or.inl rfl) (fputf fb_740_8 (by decide +kernel) hW (by omega) ?_)))
            intro IhB26 ehB26 hB26
            have t27 := fup_at ehB26 8 (by first | rfl | omega)
            exact fcutJ (I := IhB26) (j := (jc_M_feed_07202_18 x1 x2 x3 I)) (lv' := [(0, .inr (.inr (some 740))), (1, .inl _), (2, .inl _), (3, .inl _), (4, .inl _)]) (And.intro rfl (And.intro rfl (And.intro rfl (And.intro rfl (And.intro rfl True.intro))))) ⟨_, _, _, _, rfl, rfl, ⟨by omega, (fbm_go hx0 (by omega) (by omega) (by omega) ehB22 ehB26 (by omega) (by unfold fbw; (repeat' split) <;> first | rfl | (exfalso; omega)) (by omega) ez20 (by omega) ez21)⟩, rfl⟩ (by omega)
        · intro c28
          refine And.intro ⟨rfl, by decide, by decide⟩ ?_
          refine And.intro ⟨rfl, by decide, by decide⟩ (fgetf fb_740_8 h0 hB1 ?_)
          intro z29 lz29 uz29 qz29
          refine And.intro (And.intro (by first | exact fi_ hb.2.2.2.1.1 (Int.le_sub_one_of_lt (Int.lt_of_lt_of_le c28 (Int.le_refl _))) rfl | omega) (And.intro (by first | exact ⟨by decide, by decide⟩ | omega) (And.intro (by first | exact by decide | omega) rfl))) ?_
          intro z30 hz30 ez30 dz30
          have dz30 := dz30 (by omega) (by omega)
          change _ = _ % _ at dz30
          intro z31 hz31 ez31
          intro z32 hz32 ez32 bz32
          have bz32 := bz32 (by omega)
          refine fstore rS_747_747_0_95_1_0 (fzs_sub (by decide +kernel) hW) (by omega) (by first | exact ⟨Int.le_trans (by decide) bz32.1, Int.le_trans bz32.2 (by decide)⟩ | omega) ?_
          intro IhB33 ehB33 hB33
          have t34 := fup_self ehB33
          have t35 : IhB33 740 8 = I1 740 8 := (congrFun (congrFun ehB33 740) 8).trans (fup_ne (by first | exact Or.inl (by decide) | omega))
          refine And.intro ⟨rfl, by decide, by decide⟩ (fgetf fb_740_8 h0 hB33 ?_)
          intro z36 lz36 uz36 qz36
          refine And.intro ⟨rfl, by decide, by decide⟩ (And.intro rfl (And.intro (Or.inl rfl) (fputf fb_740_8 (by decide +kernel) hW (by omega) ?_)))
          intro IhB37 ehB37 hB37
          have t38 := fup_at ehB37 8 (by first | rfl | omega)
          exact fcutJ (I := IhB37) (j := (jc_M_feed_07202_18 x1 x2 x3 I)) (lv' := [(0, .inr (.inr (some 740))), (1, .inl _), (2, .inl _), (3, .inl _), (4, .inl _)]) (And.intro rfl (And.intro rfl (And.intro rfl (And.intro rfl (And.intro rfl True.intro))))) ⟨_, _, _, _, rfl, rfl, ⟨by omega, (fbm_go hx0 (by omega) (by omega) (by omega) ehB33 ehB37 (by omega) (by unfold fbw; (repeat' split) <;> first | rfl | (exfalso; omega)) (by omega) ez31 (by omega) ez32)⟩, rfl⟩ (by omega)
  · have hB0 := fB_self (zn := znJ) (K := fKc wz_68031) h0
    have b39 := fBd fb_740_8 (fBz h0 hB0)
    refine And.intro ⟨rfl, by decide, by decide⟩ (fgetf fb_740_8 h0 hB0 ?_)
    intro z40 lz40 uz40 qz40
    refine And.intro (by omega) (And.intro ?_ ?_)
    · intro c41
      exact fcutJ (I := I) (j := (jc_M_feed_07202_18 x1 x2 x3 I)) (lv' := [(0, .inr (.inr (some 740))), (1, .inl _), (2, .inl _), (3, .inl _), (4, .inl _)]) (And.intro rfl (And.intro rfl (And.intro rfl (And.intro rfl (And.intro rfl True.intro))))) ⟨_, _, _, _, rfl, rfl, ⟨by omega, (fbm_0 (by omega))⟩, rfl⟩ (by omega)
    · intro c42
      refine And.intro (True.intro) ?_
      exact ⟨_, rfl, by omega, (fun q => absurd q (by omega)), (fun _ => rfl)⟩
set_option maxRecDepth 8000 in
theorem ct_X_trim_032da {I : fH} {x1 : Int} (h0 : fB bsJ I) (ha1 : ((-2147483648) ≤ x1 ∧ x1 ≤ 2147483647)) : fC ρ base n F xTc vwCl xTys D dA la gJ (fbz bsJ znJ (fKc wz_6427d) I) xm_110 [.inr (.inr (some 0)), .inl x1] I (fun I' r => ∃ z, r = some (.inl z) ∧ (((0 ≤ z ∧ z ≤ 96) ∨ z = (-1000000001)) ∧ ((0 ≤ x1 ∧ x1 ≤ I 699 1 → z = x1 ∧ I' 699 1 = x1) ∧ (¬ (0 ≤ x1 ∧ x1 ≤ I 699 1) → z = (-1000000001) ∧ I' 699 1 = I 699 1)))) := by
  have hW : fzs wz_6427d (fKc wz_6427d) := fKc_ok _
  refine f_meth (rb := rbJ) (J := []) 1 400 xG xin_110 x6_110 okJ (fB_self h0) ?_ ?_
  · exact fun q h => absurd h List.not_mem_nil
  · have hB0 := fB_self (zn := znJ) (K := fKc wz_6427d) h0
    refine And.intro ⟨rfl, by decide, by decide⟩ ?_
    refine And.intro ⟨rfl, by decide, by decide⟩ (fgetf fb_699_1 h0 hB0 ?_)
    intro z1 lz1 uz1 qz1
    refine Exists.intro xm_13 (And.intro mi_13 (And.intro ⟨rfl, rfl, rfl, rfl⟩ (And.intro True.intro ?_)))
    refine fcallp hB0 (ct_X_within_c27b1 (fBz h0 hB0) (by first | exact ⟨ha1.1, ha1.2⟩ | omega) (by first | exact ⟨by decide, by decide⟩ | omega) (by first | exact ⟨Int.le_trans (by decide) lz1, Int.le_trans uz1 (by decide)⟩ | omega)) ?_
    rintro _ ⟨z2, rfl, hz2⟩
    refine And.intro (by omega) (And.intro ?_ ?_)
    · intro c3
      refine And.intro ⟨rfl, by decide, by decide⟩ ?_
      refine And.intro ⟨rfl, by decide, by decide⟩ (And.intro rfl (And.intro (Or.inl rfl) (fputf fb_699_1 (by decide +kernel) hW (by first | exact ⟨Int.le_trans (by decide) (Int.le_trans (Int.le_refl _) hz2.1), Int.le_trans (Int.le_trans hz2.2 uz1) (by decide)⟩ | omega) ?_)))
      intro IhB4 ehB4 hB4
      have t5 := fup_at ehB4 1 (by first | rfl | omega)
      refine And.intro (True.intro) ?_
      exact ⟨_, rfl, by omega⟩
    · intro c6
      refine And.intro (True.intro) ?_
      exact ⟨_, rfl, by omega⟩
set_option maxRecDepth 8000 in
theorem ct_M_trim_f395f {I : fH} {x1 : Int} (h0 : fB bsJ I) (ha1 : ((-2147483648) ≤ x1 ∧ x1 ≤ 2147483647)) : fC ρ base n F xTc vwCl xTys D dA la gJ (fbz bsJ znJ (fKc wz_9d31e) I) xm_311 [.inr (.inr (some 740)), .inl x1] I (fun I' r => ∃ z, r = some (.inl z) ∧ (((0 ≤ z ∧ z ≤ 96) ∨ z = (-1000000001)) ∧ ((0 ≤ x1 ∧ x1 ≤ I 740 8 → z = x1 ∧ I' 740 8 = x1) ∧ (¬ (0 ≤ x1 ∧ x1 ≤ I 740 8) → z = (-1000000001) ∧ I' 740 8 = I 740 8)))) := by
  have hW : fzs wz_9d31e (fKc wz_9d31e) := fKc_ok _
  refine f_meth (rb := rbJ) (J := []) 1 400 xG xin_311 x6_311 okJ (fB_self h0) ?_ ?_
  · exact fun q h => absurd h List.not_mem_nil
  · have hB0 := fB_self (zn := znJ) (K := fKc wz_9d31e) h0
    refine And.intro (by first | exact fi_ ha1.1 ha1.2 rfl | omega) ?_
    refine And.intro ⟨rfl, by decide, by decide⟩ (fgetf fb_740_8 h0 hB0 ?_)
    intro z1 lz1 uz1 qz1
    refine And.intro (by first | exact fi_ lz1 uz1 rfl | omega) ?_
    refine Exists.intro xm_238 (And.intro mi_238 (And.intro ⟨rfl, rfl, rfl, rfl⟩ (And.intro True.intro ?_)))
    refine fcallp hB0 (ct_M_isIn_27230 (fBz h0 hB0) (by first | exact ⟨ha1.1, ha1.2⟩ | omega) (by first | exact ⟨by decide, by decide⟩ | omega) (by first | exact ⟨Int.le_trans (by decide) lz1, Int.le_trans uz1 (by decide)⟩ | omega)) ?_
    rintro _ ⟨z2, rfl, hz2⟩
    refine And.intro (by omega) (And.intro ?_ ?_)
    · intro c3
      refine And.intro ⟨rfl, by decide, by decide⟩ (And.intro rfl (And.intro (Or.inl rfl) (fputf fb_740_8 (by decide +kernel) hW (by first | exact ⟨Int.le_trans (by decide) (Int.le_trans (Int.le_refl _) hz2.1), Int.le_trans (Int.le_trans hz2.2 uz1) (by decide)⟩ | omega) ?_)))
      intro IhB4 ehB4 hB4
      have t5 := fup_at ehB4 8 (by first | rfl | omega)
      refine And.intro (True.intro) ?_
      exact ⟨_, rfl, by omega⟩
    · intro c6
      refine And.intro (True.intro) ?_
      exact ⟨_, rfl, by omega⟩
set_option maxRecDepth 8000 in
theorem ct_Tape_isDigit_a19bc {I : fH} {x0 : Int} (h0 : fB bsJ I) (ha0 : (0 ≤ x0 ∧ x0 ≤ 255)) : fC ρ base n F xTc vwCl xTys D dA la gJ (fbz bsJ znJ (fKc []) I) xm_116 [.inl x0] I (fun _ r => ∃ z, r = some (.inl z) ∧ (((z = 1 ∧ 48 ≤ x0 ∧ x0 ≤ 57) ∨ z = 0) ∧ (z = 1 ∨ x0 < 48 ∨ 57 < x0))) := by
  have hW : fzs [] (fKc []) := fKc_ok _
  refine f_meth (rb := rbJ) (J := []) 1 400 xG xin_116 x6_116 okJ (fB_self h0) ?_ ?_
  · exact fun q h => absurd h List.not_mem_nil
  · have hB0 := fB_self (zn := znJ) (K := fKc []) h0
    refine And.intro (And.intro (by first | exact fi_ ha0.1 ha0.2 rfl | omega) (by first | exact ⟨by decide, by decide⟩ | omega)) (And.intro ?_ ?_)
    · intro c1
      refine And.intro (⟨by omega, by omega⟩) ?_
      exact ⟨_, rfl, by omega⟩
    · intro c2
      refine And.intro (And.intro (by first | exact fi_ (Int.le_trans (Int.le_refl _) c2) ha0.2 rfl | omega) (by first | exact ⟨by decide, by decide⟩ | omega)) (And.intro ?_ ?_)
      · intro c3
        refine And.intro (⟨by omega, by omega⟩) ?_
        exact ⟨_, rfl, by omega⟩
      · intro c4
        refine And.intro (⟨by decide, by decide⟩) ?_
        exact ⟨_, rfl, by omega⟩
set_option maxRecDepth 8000 in
theorem ct_Tape_strengthOf_dd2b6 {I : fH} {x0 : Int} (h0 : fB bsJ I) (ha0 : (0 ≤ x0 ∧ x0 ≤ 255)) : fC ρ base n F xTc vwCl xTys D dA la gJ (fbz bsJ znJ (fKc []) I) xm_130 [.inl x0] I (fun _ r => ∃ z, r = some (.inl z) ∧ (0 ≤ z ∧ z ≤ 5) ∧ (z = rdG x0)) := by
  have hW : fzs [] (fKc []) := fKc_ok _
  refine f_meth (rb := rbJ) (J := []) 1 400 xG xin_130 x6_130 okJ (fB_self h0) ?_ ?_
  · exact fun q h => absurd h List.not_mem_nil
  · have hB0 := fB_self (zn := znJ) (K := fKc []) h0
    refine And.intro (by first | exact fi_ ha0.1 ha0.2 rfl | omega) ?_
    refine And.intro ?_ ?_
    · intro c1
      refine And.intro (True.intro) ?_
      exact ⟨_, rfl, (by first | exact ⟨by decide, by decide⟩ | omega), (by unfold rdG; (repeat' split) <;> omega)⟩
    intro c2
    refine And.intro ?_ ?_
    · intro c3
      refine And.intro (True.intro) ?_
      exact ⟨_, rfl, (by first | exact ⟨by decide, by decide⟩ | omega), (by unfold rdG; (repeat' split) <;> omega)⟩
    intro c4
    refine And.intro ?_ ?_
    · intro c5
      refine And.intro (True.intro) ?_
      exact ⟨_, rfl, (by first | exact ⟨by decide, by decide⟩ | omega), (by unfold rdG; (repeat' split) <;> omega)⟩
    intro c6
    refine And.intro ?_ ?_
    · intro c7
      refine And.intro (True.intro) ?_
      exact ⟨_, rfl, (by first | exact ⟨by decide, by decide⟩ | omega), (by unfold rdG; (repeat' split) <;> omega)⟩
    intro c8
    refine And.intro ?_ ?_
    · intro c9
      refine And.intro (True.intro) ?_
      exact ⟨_, rfl, (by first | exact ⟨by decide, by decide⟩ | omega), (by unfold rdG; (repeat' split) <;> omega)⟩
    intro c10
    refine And.intro ?_ ?_
    · intro c11
      refine And.intro (True.intro) ?_
      exact ⟨_, rfl, (by first | exact ⟨by decide, by decide⟩ | omega), (by unfold rdG; (repeat' split) <;> omega)⟩
    intro c12
    refine And.intro ?_ ?_
    · intro c13
      refine And.intro (True.intro) ?_
      exact ⟨_, rfl, (by first | exact ⟨by decide, by decide⟩ | omega), (by unfold rdG; (repeat' split) <;> omega)⟩
    intro c14
    refine And.intro ?_ ?_
    · intro c15
      refine And.intro (True.intro) ?_
      exact ⟨_, rfl, (by first | exact ⟨by decide, by decide⟩ | omega), (by unfold rdG; (repeat' split) <;> omega)⟩
    intro c16
    refine And.intro ?_ ?_
    · intro c17
      refine And.intro (True.intro) ?_
      exact ⟨_, rfl, (by first | exact ⟨by decide, by decide⟩ | omega), (by unfold rdG; (repeat' split) <;> omega)⟩
    intro c18
    refine And.intro (True.intro) ?_
    exact ⟨_, rfl, (by first | exact ⟨by decide, by decide⟩ | omega), (by unfold rdG; (repeat' split) <;> omega)⟩
set_option maxRecDepth 8000 in
theorem ct_Tape_strengthWaiting_0ab9a {I : fH} {x0 : Int} (h0 : fB bsJ I) (ha0 : (0 ≤ x0 ∧ x0 ≤ 255)) : fC ρ base n F xTc vwCl xTys D dA la gJ (fbz bsJ znJ (fKc []) I) xm_129 [.inl x0] I (fun _ r => ∃ z, r = some (.inl z) ∧ (0 ≤ z ∧ z ≤ 6) ∧ (z = rdH x0)) := by
  have hW : fzs [] (fKc []) := fKc_ok _
  refine f_meth (rb := rbJ) (J := []) 1 400 xG xin_129 x6_129 okJ (fB_self h0) ?_ ?_
  · exact fun q h => absurd h List.not_mem_nil
  · have hB0 := fB_self (zn := znJ) (K := fKc []) h0
    refine And.intro (And.intro (by first | exact fi_ ha0.1 ha0.2 rfl | omega) (by first | exact ⟨by decide, by decide⟩ | omega)) (And.intro ?_ ?_)
    · intro c1
      refine Exists.intro xm_130 (And.intro mi_130 (And.intro ⟨rfl, rfl, rfl, rfl⟩ (And.intro True.intro ?_)))
      refine fcallp hB0 (ct_Tape_strengthOf_dd2b6 (fBz h0 hB0) (by first | exact ⟨ha0.1, ha0.2⟩ | omega)) ?_
      rintro _ ⟨z2, rfl, hz2, g0z2⟩
      refine And.intro (True.intro) ?_
      exact ⟨_, rfl, (by first | exact ⟨hz2.1, Int.le_trans hz2.2 (by decide)⟩ | omega), (by unfold rdH; split <;> omega)⟩
    · intro c3
      refine And.intro (True.intro) ?_
      exact ⟨_, rfl, (by first | exact ⟨by decide, by decide⟩ | omega), (by unfold rdH; split <;> omega)⟩
set_option maxRecDepth 8000 in
theorem ct_Tape_emit_d6314 {I : fH} {x1 : Int} (h0 : fB bsJ I) (ha1 : ((-2147483648) ≤ x1 ∧ x1 ≤ 2147483647)) (hp0 : I 699 4 < 96) : fC ρ base n F xTc vwCl xTys D dA la gJ (fbz bsJ znJ (fKc wz_a3f2e) I) xm_123 [.inr (.inr (some 699)), .inl x1] I (fun I' r => ∃ z, r = some (.inl z) ∧ ((0 ≤ z ∧ z ≤ 1) ∧ (z = 1 ∧ I' 699 4 = I 699 4 + 1)) ∧ (cdX I' = x1 :: cdX I) ∧ (pdX I' = pdX I)) := by
  have hW : fzs wz_a3f2e (fKc wz_a3f2e) := fKc_ok _
  refine f_meth (rb := rbJ) (J := []) 1 400 xG xin_123 x6_123 okJ (fB_self h0) ?_ ?_
  · exact fun q h => absurd h List.not_mem_nil
  · have hB0 := fB_self (zn := znJ) (K := fKc wz_a3f2e) h0
    have b1 := fBd fb_699_4 (fBz h0 hB0)
    refine And.intro ⟨rfl, by decide, by decide⟩ (fgetf fb_699_4 h0 hB0 ?_)
    intro z2 lz2 uz2 qz2
    refine And.intro (And.intro (by first | exact fi_ lz2 uz2 rfl | omega) (by first | exact ⟨by decide, by decide⟩ | omega)) (And.intro ?_ ?_)
    · intro c3
      refine And.intro ⟨rfl, by decide, by decide⟩ ?_
      refine And.intro ⟨rfl, by decide, by decide⟩ (fgetf fb_699_4 h0 hB0 ?_)
      intro z4 lz4 uz4 qz4
      refine fstore rS_701_701_0_95_1_0 (fzs_sub (by decide +kernel) hW) (by omega) (by first | exact ⟨ha1.1, ha1.2⟩ | omega) ?_
      intro IhB5 ehB5 hB5
      have t6 := fup_self ehB5
      have t7 : IhB5 699 4 = I 699 4 := (congrFun (congrFun ehB5 699) 4).trans (fup_ne (by first | exact Or.inl (by decide) | omega))
      refine And.intro ⟨rfl, by decide, by decide⟩ (fgetf fb_699_4 h0 hB5 ?_)
      intro z8 lz8 uz8 qz8
      refine And.intro ⟨rfl, by decide, by decide⟩ (And.intro rfl (And.intro (Or.inl rfl) (fputf fb_699_4 (by decide +kernel) hW (by omega) ?_)))
      intro IhB9 ehB9 hB9
      have t10 := fup_at ehB9 4 (by first | rfl | omega)
      refine And.intro (⟨by decide, by decide⟩) ?_
      exact ⟨_, rfl, by omega, (rdl_put qz4 (by omega) ehB5 ehB9 (by omega) (by decide)), (rdl_same (fun j => ((fup_other ehB9 702 j (Or.inl (by decide))).trans (fup_other ehB5 702 j (Or.inl (by decide))))) ((fup_other ehB9 699 7 (Or.inr (by decide))).trans (fup_other ehB5 699 7 (Or.inl (by decide)))))⟩
    · intro c11
      refine And.intro (⟨by decide, by decide⟩) ?_
      exact ⟨_, rfl, by omega, (False.elim (by omega)), (False.elim (by omega))⟩
abbrev jc_Tape_settle_fab00_0 (x1 : Int) (I0 : fH) : Nat → fL → List fV → fH → Prop := fun m lv st I => ∃ (y1 : Int), lv = [(0, .inr (.inr (some 699))), (1, .inl y1)] ∧ st = [] ∧ (((0 ≤ y1 ∧ y1 ≤ 6) ∧ (I 699 7 + I 699 4 = I0 699 7 + I0 699 4) ∧ (I 699 7 ≤ I0 699 7) ∧ (y1 = x1)) ∧ (rdT x1 (pdX I) (cdX I) = rdT x1 (pdX I0) (cdX I0)) ∧ (I 699 9 = rdC 33 (pdX I))) ∧ m = (1 + 1 * I 699 7 : Int).toNat
set_option maxRecDepth 8000 in
theorem ct_Tape_settle_fab00 {I : fH} {x1 : Int} (h0 : fB bsJ I) (ha1 : (0 ≤ x1 ∧ x1 ≤ 6)) (hp0 : I 699 7 + I 699 4 ≤ 96) (hp1 : I 699 9 = rdC 33 (pdX I)) : fC ρ base n F xTc vwCl xTys D dA la gJ (fbz bsJ znJ (fKc wz_0c5eb) I) xm_128 [.inr (.inr (some 699)), .inl x1] I (fun I' r => r = none ∧ (I' 699 7 + I' 699 4 = I 699 7 + I 699 4 ∧ I' 699 7 ≤ I 699 7) ∧ ((pdX I', cdX I') = rdT x1 (pdX I) (cdX I)) ∧ (I' 699 9 = rdC 33 (pdX I'))) := by
  have hW : fzs wz_0c5eb (fKc wz_0c5eb) := fKc_ok _
  refine f_meth (rb := rbJ) (J := [(0, (jc_Tape_settle_fab00_0 x1 I))]) 98 400 xG xin_128 x6_128 okJ (fB_self h0) ?_ ?_
  · refine List.forall_mem_cons.mpr ⟨?_, fun q h => absurd h List.not_mem_nil⟩
    · rintro m _ _ I1 hB1 ⟨y1, rfl, rfl, ⟨hb, hx0, hx1⟩, hm⟩
      have b1 := fBd fb_699_4 (fBz h0 hB1)
      have b2 := fBd fb_699_7 (fBz h0 hB1)
      have c33 := rdC_0 33 (pdX I1)
      refine And.intro ⟨rfl, by decide, by decide⟩ (fgetf fb_699_7 h0 hB1 ?_)
      intro z3 lz3 uz3 qz3
      refine And.intro (by first | exact fi_ lz3 uz3 rfl | omega) (And.intro ?_ ?_)
      · intro c4
        exact ⟨rfl, by omega, (by first | exact (st_end0 (J := I1) (k := x1) (by omega)).trans hx0 | exact (st_end1 (J := I1) (k := x1) qnil0 (by omega) qnil0 g0nil0 (by omega)).trans hx0 | exact st_end0 (J := I) (k := x1) (by omega) | exact st_end1 (J := I) (k := x1) qnil0 (by omega) qnil0 g0nil0 (by omega)), (by first | exact hx1 | exact hp1)⟩
      · intro c5
        refine And.intro ⟨rfl, by decide, by decide⟩ ?_
        refine And.intro ⟨rfl, by decide, by decide⟩ (fgetf fb_699_7 h0 hB1 ?_)
        intro z6 lz6 uz6 qz6
        refine fload rL_702_702_0_95_1_0 h0 hB1 (by omega) ?_
        intro z7 lz7 uz7 qz7
        refine Exists.intro xm_129 (And.intro mi_129 (And.intro ⟨rfl, rfl, rfl, rfl⟩ (And.intro True.intro ?_)))
        refine fcallp hB1 (ct_Tape_strengthWaiting_0ab9a (fBz h0 hB1) (by first | exact ⟨lz7, uz7⟩ | omega)) ?_
        rintro _ ⟨z8, rfl, hz8, g0z8⟩
        refine And.intro (And.intro (by first | exact fi_ hz8.1 hz8.2 rfl | omega) (by first | exact fi_ hb.1.1 hb.1.2 rfl | omega)) (And.intro ?_ ?_)
        · intro c9
          exact ⟨rfl, by omega, (by first | exact (st_end0 (J := I1) (k := x1) (by omega)).trans hx0 | exact (st_end1 (J := I1) (k := x1) qz6 (by omega) qz7 g0z8 (by omega)).trans hx0 | exact st_end0 (J := I) (k := x1) (by omega) | exact st_end1 (J := I) (k := x1) qz6 (by omega) qz7 g0z8 (by omega)), (by first | exact hx1 | exact hp1)⟩
        · intro c10
          refine And.intro ⟨rfl, by decide, by decide⟩ (fgetf fb_699_7 h0 hB1 ?_)
          intro z11 lz11 uz11 qz11
          refine And.intro ⟨rfl, by decide, by decide⟩ (And.intro rfl (And.intro (Or.inl rfl) (fputf fb_699_7 (by decide +kernel) hW (by omega) ?_)))
          intro IhB12 ehB12 hB12
          have t13 : IhB12 699 4 = I1 699 4 := (congrFun (congrFun ehB12 699) 4).trans (fup_ne (by first | decide | omega))
          have t14 := fup_at ehB12 7 (by first | rfl | omega)
          have t15 : IhB12 699 9 = I1 699 9 := (congrFun (congrFun ehB12 699) 9).trans (fup_ne (by first | decide | omega))
          refine And.intro ⟨rfl, by decide, by decide⟩ ?_
          refine And.intro ⟨rfl, by decide, by decide⟩ (fgetf fb_699_7 h0 hB12 ?_)
          intro z16 lz16 uz16 qz16
          refine fload rL_702_702_0_95_1_0 h0 hB12 (by omega) ?_
          intro z17 lz17 uz17 qz17
          have w43 : z17 = z7 := qz17.trans ((fup_other ehB12 702 _ (Or.inl (by decide))).trans ((fld_ix (by omega)).trans qz7.symm))
          refine And.intro (And.intro (by first | exact fi_ lz17 uz17 rfl | omega) (by first | exact ⟨by decide, by decide⟩ | omega)) (And.intro ?_ ?_)
          · intro c18
            refine And.intro ⟨rfl, by decide, by decide⟩ ?_
            refine And.intro ⟨rfl, by decide, by decide⟩ (fgetf fb_699_7 h0 hB12 ?_)
            intro z19 lz19 uz19 qz19
            refine fload rL_702_702_0_95_1_0 h0 hB12 (by omega) ?_
            intro z20 lz20 uz20 qz20
            intro z21 hz21 ez21 bz21
            clear ez21
            have bz21 := bz21 (by omega)
            refine Exists.intro xm_123 (And.intro mi_123 (And.intro ⟨rfl, rfl, rfl, rfl⟩ (And.intro rfl ?_)))
            refine fcall _ h0 (fzs_sub (by decide +kernel) hW) hB12 (ct_Tape_emit_d6314 (fBz h0 hB12) (by omega) (by omega)) ?_
            rintro IhB23 _ hB23 fhB23 ⟨z22, rfl, hz22, g0z22, g1z22⟩
            have t24 := fhB23 699 7 (by decide +kernel)
            have t25 := fhB23 699 9 (by decide +kernel)
            exact fcutJ (I := IhB23) (j := (jc_Tape_settle_fab00_0 x1 I)) (lv' := [(0, .inr (.inr (some 699))), (1, .inl _)]) (And.intro rfl (And.intro rfl True.intro)) ⟨_, rfl, rfl, ⟨by omega, (by first | exact (st_go (k := x1) (J := I1) (K := Inil0) qz6 (by omega) qz7 (by omega) (by omega) (fun j => ((fup_other enil0 702 j (Or.inl (by decide))).trans (fup_other ehB12 702 j (Or.inl (by decide))))) (by omega) (fun j => ((fup_other enil0 701 j (Or.inl (by decide))).trans (fup_other ehB12 701 j (Or.inl (by decide))))) qz20 (by omega) (g0z22.trans (by rw [show z21 = 20000 + z20 by omega])) g1z22).trans hx0 | exact (st_go (k := x1) (J := I1) (K := IhB12) qz6 (by omega) qz7 (by omega) (by omega) (fun j => (fup_other ehB12 702 j (Or.inl (by decide)))) (by omega) (fun j => (fup_other ehB12 701 j (Or.inl (by decide)))) qz20 (by omega) (g0z22.trans (by rw [show z21 = 20000 + z20 by omega])) g1z22).trans hx0), (by first | exact st_nt (J := I1) (K := Inil0) hx1 qz6 (by omega) qz7 (by omega) (fun j => ((fup_other enil0 702 j (Or.inl (by decide))).trans (fup_other ehB12 702 j (Or.inl (by decide))))) (by omega) (by omega) g1z22 | exact st_nt (J := I1) (K := IhB12) hx1 qz6 (by omega) qz7 (by omega) (fun j => (fup_other ehB12 702 j (Or.inl (by decide)))) (by omega) (by omega) g1z22)⟩, rfl⟩ (by omega)
          · intro c26
            refine And.intro ⟨rfl, by decide, by decide⟩ (fgetf fb_699_9 h0 hB12 ?_)
            intro z27 lz27 uz27 qz27
            intro z28 hz28 ez28 bz28
            clear ez28
            try replace bz28 := bz28 (by omega)
            refine And.intro ⟨rfl, by decide, by decide⟩ (And.intro rfl (And.intro (Or.inl rfl) (fputf fb_699_9 (by decide +kernel) hW (by omega) ?_)))
            intro IhB29 ehB29 hB29
            have t30 : IhB29 699 4 = IhB12 699 4 := (congrFun (congrFun ehB29 699) 4).trans (fup_ne (by first | decide | omega))
            have t31 : IhB29 699 7 = IhB12 699 7 := (congrFun (congrFun ehB29 699) 7).trans (fup_ne (by first | decide | omega))
            have t32 := fup_at ehB29 9 (by first | rfl | omega)
            refine And.intro ⟨rfl, by decide, by decide⟩ ?_
            refine And.intro ⟨rfl, by decide, by decide⟩ (fgetf fb_699_7 h0 hB29 ?_)
            intro z33 lz33 uz33 qz33
            refine fload rL_702_702_0_95_1_0 h0 hB29 (by omega) ?_
            intro z34 lz34 uz34 qz34
            intro z35 hz35 ez35 bz35
            clear ez35
            have bz35 := bz35 (by omega)
            refine Exists.intro xm_123 (And.intro mi_123 (And.intro ⟨rfl, rfl, rfl, rfl⟩ (And.intro rfl ?_)))
            refine fcall _ h0 (fzs_sub (by decide +kernel) hW) hB29 (ct_Tape_emit_d6314 (fBz h0 hB29) (by omega) (by omega)) ?_
            rintro IhB37 _ hB37 fhB37 ⟨z36, rfl, hz36, g0z36, g1z36⟩
            have t38 := fhB37 699 7 (by decide +kernel)
            have t39 := fhB37 699 9 (by decide +kernel)
            exact fcutJ (I := IhB37) (j := (jc_Tape_settle_fab00_0 x1 I)) (lv' := [(0, .inr (.inr (some 699))), (1, .inl _)]) (And.intro rfl (And.intro rfl True.intro)) ⟨_, rfl, rfl, ⟨by omega, (by first | exact (st_go (k := x1) (J := I1) (K := IhB29) qz6 (by omega) qz7 (by omega) (by omega) (fun j => ((fup_other ehB29 702 j (Or.inl (by decide))).trans (fup_other ehB12 702 j (Or.inl (by decide))))) (by omega) (fun j => ((fup_other ehB29 701 j (Or.inl (by decide))).trans (fup_other ehB12 701 j (Or.inl (by decide))))) qz34 (by omega) (g0z36.trans (by rw [show z35 = 20000 + z34 by omega])) g1z36).trans hx0 | exact (st_go (k := x1) (J := I1) (K := IhB12) qz6 (by omega) qz7 (by omega) (by omega) (fun j => (fup_other ehB12 702 j (Or.inl (by decide)))) (by omega) (fun j => (fup_other ehB12 701 j (Or.inl (by decide)))) qz34 (by omega) (g0z36.trans (by rw [show z35 = 20000 + z34 by omega])) g1z36).trans hx0), (by first | exact st_nt (J := I1) (K := IhB29) hx1 qz6 (by omega) qz7 (by omega) (fun j => ((fup_other ehB29 702 j (Or.inl (by decide))).trans (fup_other ehB12 702 j (Or.inl (by decide))))) (by omega) (by omega) g1z36 | exact st_nt (J := I1) (K := IhB12) hx1 qz6 (by omega) qz7 (by omega) (fun j => (fup_other ehB12 702 j (Or.inl (by decide)))) (by omega) (by omega) g1z36)⟩, rfl⟩ (by omega)
  · have hB0 := fB_self (zn := znJ) (K := fKc wz_0c5eb) h0
    have b40 := fBd fb_699_4 (fBz h0 hB0)
    have b41 := fBd fb_699_7 (fBz h0 hB0)
    have c33 := rdC_0 33 (pdX I)
    refine And.intro ⟨rfl, by decide, by decide⟩ (fgetf fb_699_7 h0 hB0 ?_)
    intro z42 lz42 uz42 qz42
    refine And.intro (by first | exact fi_ lz42 uz42 rfl | omega) (And.intro ?_ ?_)
    · intro c43
      exact ⟨rfl, by omega, (by first | exact (st_end0 (J := I1) (k := x1) (by omega)).trans hx0 | exact (st_end1 (J := I1) (k := x1) qz6 (by omega) qz7 g0z8 (by omega)).trans hx0 | exact st_end0 (J := I) (k := x1) (by omega) | exact st_end1 (J := I) (k := x1) qz6 (by omega) qz7 g0z8 (by omega)), (by first | exact hx1 | exact hp1)⟩
    · intro c44
      refine And.intro ⟨rfl, by decide, by decide⟩ ?_
      refine And.intro ⟨rfl, by decide, by decide⟩ (fgetf fb_699_7 h0 hB0 ?_)
      intro z45 lz45 uz45 qz45
      refine fload rL_702_702_0_95_1_0 h0 hB0 (by omega) ?_
      intro z46 lz46 uz46 qz46
      refine Exists.intro xm_129 (And.intro mi_129 (And.intro ⟨rfl, rfl, rfl, rfl⟩ (And.intro True.intro ?_)))
      refine fcallp hB0 (ct_Tape_strengthWaiting_0ab9a (fBz h0 hB0) (by first | exact ⟨lz46, uz46⟩ | omega)) ?_
      rintro _ ⟨z47, rfl, hz47, g0z47⟩
      refine And.intro (And.intro (by first | exact fi_ hz47.1 hz47.2 rfl | omega) (by first | exact fi_ ha1.1 ha1.2 rfl | omega)) (And.intro ?_ ?_)
      · intro c48
        exact ⟨rfl, by omega, (by first | exact (st_end0 (J := I1) (k := x1) (by omega)).trans hx0 | exact (st_end1 (J := I1) (k := x1) qz45 (by omega) qz46 g0z47 (by omega)).trans hx0 | exact st_end0 (J := I) (k := x1) (by omega) | exact st_end1 (J := I) (k := x1) qz45 (by omega) qz46 g0z47 (by omega)), (by first | exact hx1 | exact hp1)⟩
      · intro c49
        refine And.intro ⟨rfl, by decide, by decide⟩ (fgetf fb_699_7 h0 hB0 ?_)
        intro z50 lz50 uz50 qz50
        refine And.intro ⟨rfl, by decide, by decide⟩ (And.intro rfl (And.intro (Or.inl rfl) (fputf fb_699_7 (by decide +kernel) hW (by omega) ?_)))
        intro IhB51 ehB51 hB51
        have t52 : IhB51 699 4 = I 699 4 := (congrFun (congrFun ehB51 699) 4).trans (fup_ne (by first | decide | omega))
        have t53 := fup_at ehB51 7 (by first | rfl | omega)
        have t54 : IhB51 699 9 = I 699 9 := (congrFun (congrFun ehB51 699) 9).trans (fup_ne (by first | decide | omega))
        refine And.intro ⟨rfl, by decide, by decide⟩ ?_
        refine And.intro ⟨rfl, by decide, by decide⟩ (fgetf fb_699_7 h0 hB51 ?_)
        intro z55 lz55 uz55 qz55
        refine fload rL_702_702_0_95_1_0 h0 hB51 (by omega) ?_
        intro z56 lz56 uz56 qz56
        have w43 : z56 = z46 := qz56.trans ((fup_other ehB51 702 _ (Or.inl (by decide))).trans ((fld_ix (by omega)).trans qz46.symm))
        refine And.intro (And.intro (by first | exact fi_ lz56 uz56 rfl | omega) (by first | exact ⟨by decide, by decide⟩ | omega)) (And.intro ?_ ?_)
        · intro c57
          refine And.intro ⟨rfl, by decide, by decide⟩ ?_
          refine And.intro ⟨rfl, by decide, by decide⟩ (fgetf fb_699_7 h0 hB51 ?_)
          intro z58 lz58 uz58 qz58
          refine fload rL_702_702_0_95_1_0 h0 hB51 (by omega) ?_
          intro z59 lz59 uz59 qz59
          intro z60 hz60 ez60 bz60
          clear ez60
          have bz60 := bz60 (by omega)
          refine Exists.intro xm_123 (And.intro mi_123 (And.intro ⟨rfl, rfl, rfl, rfl⟩ (And.intro rfl ?_)))
          refine fcall _ h0 (fzs_sub (by decide +kernel) hW) hB51 (ct_Tape_emit_d6314 (fBz h0 hB51) (by omega) (by omega)) ?_
          rintro IhB62 _ hB62 fhB62 ⟨z61, rfl, hz61, g0z61, g1z61⟩
          have t63 := fhB62 699 7 (by decide +kernel)
          have t64 := fhB62 699 9 (by decide +kernel)
          exact fcutJ (I := IhB62) (j := (jc_Tape_settle_fab00_0 x1 I)) (lv' := [(0, .inr (.inr (some 699))), (1, .inl _)]) (And.intro rfl (And.intro rfl True.intro)) ⟨_, rfl, rfl, ⟨by omega, (by first | exact st_go (J := I) (K := IhB29) qz45 (by omega) qz46 (by omega) (by omega) (fun j => ((fup_other ehB29 702 j (Or.inl (by decide))).trans (fup_other ehB51 702 j (Or.inl (by decide))))) (by omega) (fun j => ((fup_other ehB29 701 j (Or.inl (by decide))).trans (fup_other ehB51 701 j (Or.inl (by decide))))) qz59 (by omega) (g0z61.trans (by rw [show z60 = 20000 + z59 by omega])) g1z61 | exact st_go (J := I) (K := IhB51) qz45 (by omega) qz46 (by omega) (by omega) (fun j => (fup_other ehB51 702 j (Or.inl (by decide)))) (by omega) (fun j => (fup_other ehB51 701 j (Or.inl (by decide)))) qz59 (by omega) (g0z61.trans (by rw [show z60 = 20000 + z59 by omega])) g1z61), (by first | exact st_nt (J := I) (K := IhB29) hp1 qz45 (by omega) qz46 (by omega) (fun j => ((fup_other ehB29 702 j (Or.inl (by decide))).trans (fup_other ehB51 702 j (Or.inl (by decide))))) (by omega) (by omega) g1z61 | exact st_nt (J := I) (K := IhB51) hp1 qz45 (by omega) qz46 (by omega) (fun j => (fup_other ehB51 702 j (Or.inl (by decide)))) (by omega) (by omega) g1z61)⟩, rfl⟩ (by omega)
        · intro c65
          refine And.intro ⟨rfl, by decide, by decide⟩ (fgetf fb_699_9 h0 hB51 ?_)
          intro z66 lz66 uz66 qz66
          intro z67 hz67 ez67 bz67
          clear ez67
          try replace bz67 := bz67 (by omega)
          refine And.intro ⟨rfl, by decide, by decide⟩ (And.intro rfl (And.intro (Or.inl rfl) (fputf fb_699_9 (by decide +kernel) hW (by omega) ?_)))
          intro IhB68 ehB68 hB68
          have t69 : IhB68 699 4 = IhB51 699 4 := (congrFun (congrFun ehB68 699) 4).trans (fup_ne (by first | decide | omega))
          have t70 : IhB68 699 7 = IhB51 699 7 := (congrFun (congrFun ehB68 699) 7).trans (fup_ne (by first | decide | omega))
          have t71 := fup_at ehB68 9 (by first | rfl | omega)
          refine And.intro ⟨rfl, by decide, by decide⟩ ?_
          refine And.intro ⟨rfl, by decide, by decide⟩ (fgetf fb_699_7 h0 hB68 ?_)
          intro z72 lz72 uz72 qz72
          refine fload rL_702_702_0_95_1_0 h0 hB68 (by omega) ?_
          intro z73 lz73 uz73 qz73
          intro z74 hz74 ez74 bz74
          clear ez74
          have bz74 := bz74 (by omega)
          refine Exists.intro xm_123 (And.intro mi_123 (And.intro ⟨rfl, rfl, rfl, rfl⟩ (And.intro rfl ?_)))
          refine fcall _ h0 (fzs_sub (by decide +kernel) hW) hB68 (ct_Tape_emit_d6314 (fBz h0 hB68) (by omega) (by omega)) ?_
          rintro IhB76 _ hB76 fhB76 ⟨z75, rfl, hz75, g0z75, g1z75⟩
          have t77 := fhB76 699 7 (by decide +kernel)
          have t78 := fhB76 699 9 (by decide +kernel)
          exact fcutJ (I := IhB76) (j := (jc_Tape_settle_fab00_0 x1 I)) (lv' := [(0, .inr (.inr (some 699))), (1, .inl _)]) (And.intro rfl (And.intro rfl True.intro)) ⟨_, rfl, rfl, ⟨by omega, (by first | exact st_go (J := I) (K := IhB68) qz45 (by omega) qz46 (by omega) (by omega) (fun j => ((fup_other ehB68 702 j (Or.inl (by decide))).trans (fup_other ehB51 702 j (Or.inl (by decide))))) (by omega) (fun j => ((fup_other ehB68 701 j (Or.inl (by decide))).trans (fup_other ehB51 701 j (Or.inl (by decide))))) qz73 (by omega) (g0z75.trans (by rw [show z74 = 20000 + z73 by omega])) g1z75 | exact st_go (J := I) (K := IhB51) qz45 (by omega) qz46 (by omega) (by omega) (fun j => (fup_other ehB51 702 j (Or.inl (by decide)))) (by omega) (fun j => (fup_other ehB51 701 j (Or.inl (by decide)))) qz73 (by omega) (g0z75.trans (by rw [show z74 = 20000 + z73 by omega])) g1z75), (by first | exact st_nt (J := I) (K := IhB68) hp1 qz45 (by omega) qz46 (by omega) (fun j => ((fup_other ehB68 702 j (Or.inl (by decide))).trans (fup_other ehB51 702 j (Or.inl (by decide))))) (by omega) (by omega) g1z75 | exact st_nt (J := I) (K := IhB51) hp1 qz45 (by omega) qz46 (by omega) (fun j => (fup_other ehB51 702 j (Or.inl (by decide)))) (by omega) (by omega) g1z75)⟩, rfl⟩ (by omega)
set_option maxRecDepth 8000 in
theorem ct_Tape_push_d8da9 {I : fH} {x1 : Int} (h0 : fB bsJ I) (ha1 : (0 ≤ x1 ∧ x1 ≤ 255)) (hp0 : I 699 7 < 96) : fC ρ base n F xTc vwCl xTys D dA la gJ (fbz bsJ znJ (fKc wz_4372f) I) xm_125 [.inr (.inr (some 699)), .inl x1] I (fun I' r => ∃ z, r = some (.inl z) ∧ ((0 ≤ z ∧ z ≤ 1) ∧ (z = 1 ∧ I' 699 7 = I 699 7 + 1)) ∧ (pdX I' = x1 :: pdX I) ∧ (cdX I' = cdX I)) := by
  have hW : fzs wz_4372f (fKc wz_4372f) := fKc_ok _
  refine f_meth (rb := rbJ) (J := []) 1 400 xG xin_125 x6_125 okJ (fB_self h0) ?_ ?_
  · exact fun q h => absurd h List.not_mem_nil
  · have hB0 := fB_self (zn := znJ) (K := fKc wz_4372f) h0
    have b1 := fBd fb_699_7 (fBz h0 hB0)
    refine And.intro ⟨rfl, by decide, by decide⟩ (fgetf fb_699_7 h0 hB0 ?_)
    intro z2 lz2 uz2 qz2
    refine And.intro (And.intro (by first | exact fi_ lz2 uz2 rfl | omega) (by first | exact ⟨by decide, by decide⟩ | omega)) (And.intro ?_ ?_)
    · intro c3
      refine And.intro ⟨rfl, by decide, by decide⟩ ?_
      refine And.intro ⟨rfl, by decide, by decide⟩ (fgetf fb_699_7 h0 hB0 ?_)
      intro z4 lz4 uz4 qz4
      refine fstore rS_702_702_0_95_1_0 (fzs_sub (by decide +kernel) hW) (by omega) (by first | exact ⟨ha1.1, ha1.2⟩ | omega) ?_
      intro IhB5 ehB5 hB5
      have t6 := fup_self ehB5
      have t7 : IhB5 699 7 = I 699 7 := (congrFun (congrFun ehB5 699) 7).trans (fup_ne (by first | exact Or.inl (by decide) | omega))
      refine And.intro ⟨rfl, by decide, by decide⟩ (fgetf fb_699_7 h0 hB5 ?_)
      intro z8 lz8 uz8 qz8
      refine And.intro ⟨rfl, by decide, by decide⟩ (And.intro rfl (And.intro (Or.inl rfl) (fputf fb_699_7 (by decide +kernel) hW (by omega) ?_)))
      intro IhB9 ehB9 hB9
      have t10 := fup_at ehB9 7 (by first | rfl | omega)
      refine And.intro (⟨by decide, by decide⟩) ?_
      exact ⟨_, rfl, by omega, (rdl_put qz4 (by omega) ehB5 ehB9 (by omega) (by decide)), (rdl_same (fun j => ((fup_other ehB9 701 j (Or.inl (by decide))).trans (fup_other ehB5 701 j (Or.inl (by decide))))) ((fup_other ehB9 699 4 (Or.inr (by decide))).trans (fup_other ehB5 699 4 (Or.inl (by decide)))))⟩
    · intro c11
      refine And.intro (⟨by decide, by decide⟩) ?_
      exact ⟨_, rfl, by omega, (False.elim (by omega)), (False.elim (by omega))⟩
set_option maxRecDepth 8000 in
theorem ct_Tape_close_9696d {I : fH}  (h0 : fB bsJ I) (hp0 : I 699 7 + I 699 4 ≤ 96) (hp1 : I 699 9 = rdC 33 (pdX I)) (hp2 : 0 < I 699 8 ∧ I 699 8 = rdC 40 (pdX I)) (hp3 : rdA (pdX I)) : fC ρ base n F xTc vwCl xTys D dA la gJ (fbz bsJ znJ (fKc wz_b7a7b) I) xm_127 [.inr (.inr (some 699))] I (fun I' r => ∃ z, r = some (.inl z) ∧ ((1 ≤ z ∧ z ≤ 1) ∧ (z = 1 ∧ I' 699 7 + I' 699 4 ≤ I 699 7 + I 699 4 ∧ I' 699 8 = I 699 8 - 1)) ∧ (pdX I' = (rdT 1 (pdX I) (cdX I)).1.tail) ∧ (cdX I' = (rdT 1 (pdX I) (cdX I)).2) ∧ (I' 699 9 = rdC 33 (pdX I')) ∧ (I' 699 8 = rdC 40 (pdX I')) ∧ (rdA (pdX I'))) := by
  have hW : fzs wz_b7a7b (fKc wz_b7a7b) := fKc_ok _
  refine f_meth (rb := rbJ) (J := []) 1 400 xG xin_127 x6_127 okJ (fB_self h0) ?_ ?_
  · exact fun q h => absurd h List.not_mem_nil
  · have hB0 := fB_self (zn := znJ) (K := fKc wz_b7a7b) h0
    have b1 := fBd fb_699_4 (fBz h0 hB0)
    have b2 := fBd fb_699_7 (fBz h0 hB0)
    refine Exists.intro xm_128 (And.intro mi_128 (And.intro ⟨rfl, rfl, rfl, rfl⟩ (And.intro rfl ?_)))
    refine fcall _ h0 (fzs_sub (by decide +kernel) hW) hB0 (ct_Tape_settle_fab00 (fBz h0 hB0) (by first | exact ⟨by decide, by decide⟩ | omega) (by omega) hp1) ?_
    rintro IhB4 _ hB4 fhB4 ⟨rfl, hz3, g0z3, g1z3⟩
    have t5 := fhB4 699 8 (by decide +kernel)
    obtain ⟨kr, ke1, ke2, ke3⟩ := rd_ket (pdX I) (cdX I) hp3 (by omega)
    have ks : pdX IhB4 = 40 :: kr := (congrArg Prod.fst g0z3).trans ke1
    have kn := rdl_pos ks
    refine And.intro ⟨rfl, by decide, by decide⟩ (fgetf fb_699_7 h0 hB4 ?_)
    intro z6 lz6 uz6 qz6
    refine And.intro (by first | exact fi_ lz6 uz6 rfl | omega) (And.intro ?_ ?_)
    · intro c7
      refine And.intro ⟨rfl, by decide, by decide⟩ (fgetf fb_699_8 h0 hB4 ?_)
      intro z8 lz8 uz8 qz8
      intro z9 hz9 ez9 bz9
      clear ez9
      try replace bz9 := bz9 (by omega)
      refine And.intro ⟨rfl, by decide, by decide⟩ (And.intro rfl (And.intro (Or.inl rfl) (fputf fb_699_8 (by decide +kernel) hW (by omega) ?_)))
      intro IhB10 ehB10 hB10
      have t11 : IhB10 699 4 = IhB4 699 4 := (congrFun (congrFun ehB10 699) 4).trans (fup_ne (by first | decide | omega))
      have t12 : IhB10 699 7 = IhB4 699 7 := (congrFun (congrFun ehB10 699) 7).trans (fup_ne (by first | decide | omega))
      have t13 := fup_at ehB10 8 (by first | rfl | omega)
      have t14 : IhB10 699 9 = IhB4 699 9 := (congrFun (congrFun ehB10 699) 9).trans (fup_ne (by first | decide | omega))
      refine And.intro (⟨by decide, by decide⟩) ?_
      exact ⟨_, rfl, by omega, (by first | exact (kt_pd ks (fun j => ((fup_other ehB10 702 j (Or.inl (by decide))).trans (fup_other enil0 702 j (Or.inl (by decide))))) (by omega)).trans (by rw [ke1]; rfl) | exact absurd kn (by omega)), (by first | exact ((rdl_same (fun j => ((fup_other ehB10 701 j (Or.inl (by decide))).trans (fup_other enil0 701 j (Or.inl (by decide))))) ((fup_other ehB10 699 4 (Or.inr (by decide))).trans (fup_other enil0 699 4 (Or.inr (by decide)))))).trans (congrArg Prod.snd g0z3) | exact absurd kn (by omega)), (by first | exact kt_33 ks (kt_pd ks (fun j => ((fup_other ehB10 702 j (Or.inl (by decide))).trans (fup_other enil0 702 j (Or.inl (by decide))))) (by omega)) g1z3 (by omega) | exact absurd kn (by omega)), (by first | exact kt_40 (kt_pd ks (fun j => ((fup_other ehB10 702 j (Or.inl (by decide))).trans (fup_other enil0 702 j (Or.inl (by decide))))) (by omega)) ke3 (by omega) | exact absurd kn (by omega)), (by first | exact kt_A (kt_pd ks (fun j => ((fup_other ehB10 702 j (Or.inl (by decide))).trans (fup_other enil0 702 j (Or.inl (by decide))))) (by omega)) ke2 | exact absurd kn (by omega))⟩
    · intro c15
      refine And.intro ⟨rfl, by decide, by decide⟩ (fgetf fb_699_7 h0 hB4 ?_)
      intro z16 lz16 uz16 qz16
      refine And.intro ⟨rfl, by decide, by decide⟩ (And.intro rfl (And.intro (Or.inl rfl) (fputf fb_699_7 (by decide +kernel) hW (by omega) ?_)))
      intro IhB17 ehB17 hB17
      have t18 : IhB17 699 4 = IhB4 699 4 := (congrFun (congrFun ehB17 699) 4).trans (fup_ne (by first | decide | omega))
      have t19 := fup_at ehB17 7 (by first | rfl | omega)
      have t20 : IhB17 699 8 = IhB4 699 8 := (congrFun (congrFun ehB17 699) 8).trans (fup_ne (by first | decide | omega))
      have t21 : IhB17 699 9 = IhB4 699 9 := (congrFun (congrFun ehB17 699) 9).trans (fup_ne (by first | decide | omega))
      refine And.intro ⟨rfl, by decide, by decide⟩ (fgetf fb_699_8 h0 hB17 ?_)
      intro z22 lz22 uz22 qz22
      intro z23 hz23 ez23 bz23
      clear ez23
      try replace bz23 := bz23 (by omega)
      refine And.intro ⟨rfl, by decide, by decide⟩ (And.intro rfl (And.intro (Or.inl rfl) (fputf fb_699_8 (by decide +kernel) hW (by omega) ?_)))
      intro IhB24 ehB24 hB24
      have t25 : IhB24 699 4 = IhB17 699 4 := (congrFun (congrFun ehB24 699) 4).trans (fup_ne (by first | decide | omega))
      have t26 : IhB24 699 7 = IhB17 699 7 := (congrFun (congrFun ehB24 699) 7).trans (fup_ne (by first | decide | omega))
      have t27 := fup_at ehB24 8 (by first | rfl | omega)
      have t28 : IhB24 699 9 = IhB17 699 9 := (congrFun (congrFun ehB24 699) 9).trans (fup_ne (by first | decide | omega))
      refine And.intro (⟨by decide, by decide⟩) ?_
      exact ⟨_, rfl, by omega, (by first | exact (kt_pd ks (fun j => ((fup_other ehB24 702 j (Or.inl (by decide))).trans (fup_other ehB17 702 j (Or.inl (by decide))))) (by omega)).trans (by rw [ke1]; rfl) | exact absurd kn (by omega)), (by first | exact ((rdl_same (fun j => ((fup_other ehB24 701 j (Or.inl (by decide))).trans (fup_other ehB17 701 j (Or.inl (by decide))))) ((fup_other ehB24 699 4 (Or.inr (by decide))).trans (fup_other ehB17 699 4 (Or.inr (by decide)))))).trans (congrArg Prod.snd g0z3) | exact absurd kn (by omega)), (by first | exact kt_33 ks (kt_pd ks (fun j => ((fup_other ehB24 702 j (Or.inl (by decide))).trans (fup_other ehB17 702 j (Or.inl (by decide))))) (by omega)) g1z3 (by omega) | exact absurd kn (by omega)), (by first | exact kt_40 (kt_pd ks (fun j => ((fup_other ehB24 702 j (Or.inl (by decide))).trans (fup_other ehB17 702 j (Or.inl (by decide))))) (by omega)) ke3 (by omega) | exact absurd kn (by omega)), (by first | exact kt_A (kt_pd ks (fun j => ((fup_other ehB24 702 j (Or.inl (by decide))).trans (fup_other ehB17 702 j (Or.inl (by decide))))) (by omega)) ke2 | exact absurd kn (by omega))⟩
set_option maxRecDepth 8000 in
theorem ct_Tape_takeSign_f125c {I : fH} {x1 : Int} (h0 : fB bsJ I) (ha1 : (0 ≤ x1 ∧ x1 ≤ 255)) (hp0 : I 699 7 + I 699 4 ≤ 95) (hp1 : I 699 9 = rdC 33 (pdX I)) (hp2 : I 699 8 = rdC 40 (pdX I)) (hp3 : rdA (pdX I)) (hp4 : I 699 10 = 0) : fC ρ base n F xTc vwCl xTys D dA la gJ (fbz bsJ znJ (fKc wz_dd461) I) xm_126 [.inr (.inr (some 699)), .inl x1] I (fun I' r => ∃ z, r = some (.inl z) ∧ ((0 ≤ z ∧ z ≤ 1) ∧ (I' 699 7 + I' 699 4 ≤ I 699 7 + I 699 4 + 1 ∧ I' 699 5 = I 699 5 ∧ (I' 699 10 = 0 ∨ I' 699 10 = 1))) ∧ (z = 1 → rdEg x1 (pdX I) (cdX I) (I 699 5) = some (pdX I', cdX I', I' 699 5, decide (I' 699 10 = 1))) ∧ (z = 0 → rdEg x1 (pdX I) (cdX I) (I 699 5) = none) ∧ (z = 1 → I' 699 9 = rdC 33 (pdX I') ∧ I' 699 8 = rdC 40 (pdX I') ∧ rdA (pdX I'))) := by
  have hW : fzs wz_dd461 (fKc wz_dd461) := fKc_ok _
  refine f_meth (rb := rbJ) (J := []) 1 400 xG xin_126 x6_126 okJ (fB_self h0) ?_ ?_
  · exact fun q h => absurd h List.not_mem_nil
  · have hB0 := fB_self (zn := znJ) (K := fKc wz_dd461) h0
    have b1 := fBd fb_699_4 (fBz h0 hB0)
    have b2 := fBd fb_699_7 (fBz h0 hB0)
    refine And.intro (And.intro (by first | exact fi_ ha1.1 ha1.2 rfl | omega) (by first | exact ⟨by decide, by decide⟩ | omega)) (And.intro ?_ ?_)
    · intro c3
      refine Exists.intro xm_130 (And.intro mi_130 (And.intro ⟨rfl, rfl, rfl, rfl⟩ (And.intro True.intro ?_)))
      refine fcallp hB0 (ct_Tape_strengthOf_dd2b6 (fBz h0 hB0) (by first | exact ⟨ha1.1, ha1.2⟩ | omega)) ?_
      rintro _ ⟨z4, rfl, hz4, g0z4⟩
      have gb := rdG_bd x1
      refine And.intro (by first | exact fi_ hz4.1 hz4.2 rfl | omega) (And.intro ?_ ?_)
      · intro c5
        refine Exists.intro xm_130 (And.intro mi_130 (And.intro ⟨rfl, rfl, rfl, rfl⟩ (And.intro True.intro ?_)))
        refine fcallp hB0 (ct_Tape_strengthOf_dd2b6 (fBz h0 hB0) (by first | exact ⟨by decide, by decide⟩ | omega)) ?_
        rintro _ ⟨z6, rfl, hz6, g0z6⟩
        have g61 : rdG ((61 : Nat) : Int) = 3 := by decide
        refine And.intro (And.intro (by first | exact fi_ hz4.1 hz4.2 rfl | omega) (by first | exact fi_ hz6.1 hz6.2 rfl | omega)) (And.intro ?_ ?_)
        · intro c7
          refine And.intro (by omega) (And.intro ?_ ?_)
          · intro c8
            refine Exists.intro xm_128 (And.intro mi_128 (And.intro ⟨rfl, rfl, rfl, rfl⟩ (And.intro rfl ?_)))
            refine fcall _ h0 (fzs_sub (by decide +kernel) hW) hB0 (ct_Tape_settle_fab00 (fBz h0 hB0) (by first | exact ⟨hz4.1, Int.le_trans hz4.2 (by decide)⟩ | omega) (by omega) hp1) ?_
            rintro IhB10 _ hB10 fhB10 ⟨rfl, hz9, g0z9, g1z9⟩
            have t11 := fhB10 699 5 (by decide +kernel)
            have t12 := fhB10 699 8 (by decide +kernel)
            have t13 := fhB10 699 10 (by decide +kernel)
            refine And.intro (by omega) (And.intro ?_ ?_)
            · intro c14
              refine And.intro ⟨rfl, by decide, by decide⟩ (And.intro rfl (And.intro (Or.inr ⟨rfl, by decide, by decide⟩) (fputf fb_699_10 (by decide +kernel) hW (by first | exact ⟨by decide, by decide⟩ | omega) ?_)))
              intro IhB15 ehB15 hB15
              have t16 : IhB15 699 4 = IhB10 699 4 := (congrFun (congrFun ehB15 699) 4).trans (fup_ne (by first | decide | omega))
              have t17 : IhB15 699 5 = IhB10 699 5 := (congrFun (congrFun ehB15 699) 5).trans (fup_ne (by first | decide | omega))
              have t18 : IhB15 699 7 = IhB10 699 7 := (congrFun (congrFun ehB15 699) 7).trans (fup_ne (by first | decide | omega))
              have t19 : IhB15 699 8 = IhB10 699 8 := (congrFun (congrFun ehB15 699) 8).trans (fup_ne (by first | decide | omega))
              have t20 : IhB15 699 9 = IhB10 699 9 := (congrFun (congrFun ehB15 699) 9).trans (fup_ne (by first | decide | omega))
              have t21 := fup_at ehB15 10 (by first | rfl | omega)
              refine Exists.intro xm_125 (And.intro mi_125 (And.intro ⟨rfl, rfl, rfl, rfl⟩ (And.intro rfl ?_)))
              refine fcall _ h0 (fzs_sub (by decide +kernel) hW) hB15 (ct_Tape_push_d8da9 (fBz h0 hB15) (by first | exact ⟨ha1.1, ha1.2⟩ | omega) (by omega)) ?_
              rintro IhB23 _ hB23 fhB23 ⟨z22, rfl, hz22, g0z22, g1z22⟩
              have t24 := fhB23 699 4 (by decide +kernel)
              have t25 := fhB23 699 5 (by decide +kernel)
              have t26 := fhB23 699 8 (by decide +kernel)
              have t27 := fhB23 699 9 (by decide +kernel)
              have t28 := fhB23 699 10 (by decide +kernel)
              refine And.intro (⟨by omega, by omega⟩) ?_
              exact ⟨_, rfl, by omega, (fun _ => eg_op (by omega) (by omega) (by unfold rdK; split <;> omega) g0z9 (by first | exact (fun q => absurd q (by omega)) | exact (fun _ => rdY_no (by omega)) | exact (fun _ q => absurd (of_decide_eq_true ((rdY_hd qnil0 (by omega) qnil0).symm.trans q)) (by omega))) (g0z22.trans (congrArg (List.cons x1) (rdl_same (fun j => (fup_other ehB15 702 j (Or.inl (by decide)))) (fup_other ehB15 699 7 (Or.inr (by decide)))))) (g1z22.trans (rdl_same (fun j => (fup_other ehB15 701 j (Or.inl (by decide)))) (fup_other ehB15 699 4 (Or.inr (by decide))))) (by omega) (by omega)), (fun q => absurd q (by omega)), (fun _ => sg_fin (S := IhB10) (by omega) (g0z22.trans (congrArg (List.cons x1) (rdl_same (fun j => (fup_other ehB15 702 j (Or.inl (by decide)))) (fup_other ehB15 699 7 (Or.inr (by decide)))))) g1z9 (by omega) (by rw [pr1 g0z9, rdT_40 (by omega)]; omega) (by omega) (by rw [pr1 g0z9]; exact rdA_T _ _ hp3))⟩
            · intro c29
              refine And.intro ⟨rfl, by decide, by decide⟩ (fgetf fb_699_7 h0 hB10 ?_)
              intro z30 lz30 uz30 qz30
              refine And.intro (by first | exact fi_ lz30 uz30 rfl | omega) (And.intro ?_ ?_)
              · intro c31
                refine And.intro ⟨rfl, by decide, by decide⟩ (And.intro rfl (And.intro (Or.inr ⟨rfl, by decide, by decide⟩) (fputf fb_699_10 (by decide +kernel) hW (by first | exact ⟨by decide, by decide⟩ | omega) ?_)))
                intro IhB32 ehB32 hB32
                have t33 : IhB32 699 4 = IhB10 699 4 := (congrFun (congrFun ehB32 699) 4).trans (fup_ne (by first | decide | omega))
                have t34 : IhB32 699 5 = IhB10 699 5 := (congrFun (congrFun ehB32 699) 5).trans (fup_ne (by first | decide | omega))
                have t35 : IhB32 699 7 = IhB10 699 7 := (congrFun (congrFun ehB32 699) 7).trans (fup_ne (by first | decide | omega))
                have t36 : IhB32 699 8 = IhB10 699 8 := (congrFun (congrFun ehB32 699) 8).trans (fup_ne (by first | decide | omega))
                have t37 : IhB32 699 9 = IhB10 699 9 := (congrFun (congrFun ehB32 699) 9).trans (fup_ne (by first | decide | omega))
                have t38 := fup_at ehB32 10 (by first | rfl | omega)
                refine Exists.intro xm_125 (And.intro mi_125 (And.intro ⟨rfl, rfl, rfl, rfl⟩ (And.intro rfl ?_)))
                refine fcall _ h0 (fzs_sub (by decide +kernel) hW) hB32 (ct_Tape_push_d8da9 (fBz h0 hB32) (by first | exact ⟨ha1.1, ha1.2⟩ | omega) (by omega)) ?_
                rintro IhB40 _ hB40 fhB40 ⟨z39, rfl, hz39, g0z39, g1z39⟩
                have t41 := fhB40 699 4 (by decide +kernel)
                have t42 := fhB40 699 5 (by decide +kernel)
                have t43 := fhB40 699 8 (by decide +kernel)
                have t44 := fhB40 699 9 (by decide +kernel)
                have t45 := fhB40 699 10 (by decide +kernel)
                refine And.intro (⟨by omega, by omega⟩) ?_
                exact ⟨_, rfl, by omega, (fun _ => eg_op (by omega) (by omega) (by unfold rdK; split <;> omega) g0z9 (by first | exact (fun q => absurd q (by omega)) | exact (fun _ => rdY_no (by omega)) | exact (fun _ q => absurd (of_decide_eq_true ((rdY_hd qnil0 (by omega) qnil0).symm.trans q)) (by omega))) (g0z39.trans (congrArg (List.cons x1) (rdl_same (fun j => (fup_other ehB32 702 j (Or.inl (by decide)))) (fup_other ehB32 699 7 (Or.inr (by decide)))))) (g1z39.trans (rdl_same (fun j => (fup_other ehB32 701 j (Or.inl (by decide)))) (fup_other ehB32 699 4 (Or.inr (by decide))))) (by omega) (by omega)), (fun q => absurd q (by omega)), (fun _ => sg_fin (S := IhB10) (by omega) (g0z39.trans (congrArg (List.cons x1) (rdl_same (fun j => (fup_other ehB32 702 j (Or.inl (by decide)))) (fup_other ehB32 699 7 (Or.inr (by decide)))))) g1z9 (by omega) (by rw [pr1 g0z9, rdT_40 (by omega)]; omega) (by omega) (by rw [pr1 g0z9]; exact rdA_T _ _ hp3))⟩
              · intro c46
                refine And.intro ⟨rfl, by decide, by decide⟩ ?_
                refine And.intro ⟨rfl, by decide, by decide⟩ (fgetf fb_699_7 h0 hB10 ?_)
                intro z47 lz47 uz47 qz47
                refine fload rL_702_702_0_95_1_0 h0 hB10 (by omega) ?_
                intro z48 lz48 uz48 qz48
                refine Exists.intro xm_130 (And.intro mi_130 (And.intro ⟨rfl, rfl, rfl, rfl⟩ (And.intro True.intro ?_)))
                refine fcallp hB10 (ct_Tape_strengthOf_dd2b6 (fBz h0 hB10) (by first | exact ⟨lz48, uz48⟩ | omega)) ?_
                rintro _ ⟨z49, rfl, hz49, g0z49⟩
                refine And.intro (And.intro (by first | exact fi_ hz49.1 hz49.2 rfl | omega) (by first | exact fi_ hz4.1 hz4.2 rfl | omega)) (And.intro ?_ ?_)
                · intro c50
                  refine And.intro ⟨rfl, by decide, by decide⟩ (And.intro rfl (And.intro (Or.inr ⟨rfl, by decide, by decide⟩) (fputf fb_699_10 (by decide +kernel) hW (by first | exact ⟨by decide, by decide⟩ | omega) ?_)))
                  intro IhB51 ehB51 hB51
                  have t52 : IhB51 699 4 = IhB10 699 4 := (congrFun (congrFun ehB51 699) 4).trans (fup_ne (by first | decide | omega))
                  have t53 : IhB51 699 5 = IhB10 699 5 := (congrFun (congrFun ehB51 699) 5).trans (fup_ne (by first | decide | omega))
                  have t54 : IhB51 699 7 = IhB10 699 7 := (congrFun (congrFun ehB51 699) 7).trans (fup_ne (by first | decide | omega))
                  have t55 : IhB51 699 8 = IhB10 699 8 := (congrFun (congrFun ehB51 699) 8).trans (fup_ne (by first | decide | omega))
                  have t56 : IhB51 699 9 = IhB10 699 9 := (congrFun (congrFun ehB51 699) 9).trans (fup_ne (by first | decide | omega))
                  have t57 := fup_at ehB51 10 (by first | rfl | omega)
                  refine Exists.intro xm_125 (And.intro mi_125 (And.intro ⟨rfl, rfl, rfl, rfl⟩ (And.intro rfl ?_)))
                  refine fcall _ h0 (fzs_sub (by decide +kernel) hW) hB51 (ct_Tape_push_d8da9 (fBz h0 hB51) (by first | exact ⟨ha1.1, ha1.2⟩ | omega) (by omega)) ?_
                  rintro IhB59 _ hB59 fhB59 ⟨z58, rfl, hz58, g0z58, g1z58⟩
                  have t60 := fhB59 699 4 (by decide +kernel)
                  have t61 := fhB59 699 5 (by decide +kernel)
                  have t62 := fhB59 699 8 (by decide +kernel)
                  have t63 := fhB59 699 9 (by decide +kernel)
                  have t64 := fhB59 699 10 (by decide +kernel)
                  refine And.intro (⟨by omega, by omega⟩) ?_
                  exact ⟨_, rfl, by omega, (fun _ => eg_op (by omega) (by omega) (by unfold rdK; split <;> omega) g0z9 (by first | exact (fun q => absurd q (by omega)) | exact (fun _ => rdY_no (by omega)) | exact (fun _ q => absurd (of_decide_eq_true ((rdY_hd qz47 (by omega) qz48).symm.trans q)) (by omega))) (g0z58.trans (congrArg (List.cons x1) (rdl_same (fun j => (fup_other ehB51 702 j (Or.inl (by decide)))) (fup_other ehB51 699 7 (Or.inr (by decide)))))) (g1z58.trans (rdl_same (fun j => (fup_other ehB51 701 j (Or.inl (by decide)))) (fup_other ehB51 699 4 (Or.inr (by decide))))) (by omega) (by omega)), (fun q => absurd q (by omega)), (fun _ => sg_fin (S := IhB10) (by omega) (g0z58.trans (congrArg (List.cons x1) (rdl_same (fun j => (fup_other ehB51 702 j (Or.inl (by decide)))) (fup_other ehB51 699 7 (Or.inr (by decide)))))) g1z9 (by omega) (by rw [pr1 g0z9, rdT_40 (by omega)]; omega) (by omega) (by rw [pr1 g0z9]; exact rdA_T _ _ hp3))⟩
                · intro c65
                  refine And.intro (⟨by decide, by decide⟩) ?_
                  exact ⟨_, rfl, by omega, (fun q => absurd q (by omega)), (fun _ => eg_cmp (by omega) (by omega) (by omega) g0z9 ((rdY_hd qz47 (by omega) qz48).trans (decide_eq_true (by omega)))), (fun q => absurd q (by omega))⟩
          · intro c66
            refine Exists.intro xm_128 (And.intro mi_128 (And.intro ⟨rfl, rfl, rfl, rfl⟩ (And.intro rfl ?_)))
            refine fcall _ h0 (fzs_sub (by decide +kernel) hW) hB0 (ct_Tape_settle_fab00 (fBz h0 hB0) (by omega) (by omega) hp1) ?_
            rintro IhB68 _ hB68 fhB68 ⟨rfl, hz67, g0z67, g1z67⟩
            have t69 := fhB68 699 5 (by decide +kernel)
            have t70 := fhB68 699 8 (by decide +kernel)
            have t71 := fhB68 699 10 (by decide +kernel)
            refine And.intro (by omega) (And.intro ?_ ?_)
            · intro c72
              refine And.intro ⟨rfl, by decide, by decide⟩ (And.intro rfl (And.intro (Or.inr ⟨rfl, by decide, by decide⟩) (fputf fb_699_10 (by decide +kernel) hW (by first | exact ⟨by decide, by decide⟩ | omega) ?_)))
              intro IhB73 ehB73 hB73
              have t74 : IhB73 699 4 = IhB68 699 4 := (congrFun (congrFun ehB73 699) 4).trans (fup_ne (by first | decide | omega))
              have t75 : IhB73 699 5 = IhB68 699 5 := (congrFun (congrFun ehB73 699) 5).trans (fup_ne (by first | decide | omega))
              have t76 : IhB73 699 7 = IhB68 699 7 := (congrFun (congrFun ehB73 699) 7).trans (fup_ne (by first | decide | omega))
              have t77 : IhB73 699 8 = IhB68 699 8 := (congrFun (congrFun ehB73 699) 8).trans (fup_ne (by first | decide | omega))
              have t78 : IhB73 699 9 = IhB68 699 9 := (congrFun (congrFun ehB73 699) 9).trans (fup_ne (by first | decide | omega))
              have t79 := fup_at ehB73 10 (by first | rfl | omega)
              refine Exists.intro xm_125 (And.intro mi_125 (And.intro ⟨rfl, rfl, rfl, rfl⟩ (And.intro rfl ?_)))
              refine fcall _ h0 (fzs_sub (by decide +kernel) hW) hB73 (ct_Tape_push_d8da9 (fBz h0 hB73) (by first | exact ⟨ha1.1, ha1.2⟩ | omega) (by omega)) ?_
              rintro IhB81 _ hB81 fhB81 ⟨z80, rfl, hz80, g0z80, g1z80⟩
              have t82 := fhB81 699 4 (by decide +kernel)
              have t83 := fhB81 699 5 (by decide +kernel)
              have t84 := fhB81 699 8 (by decide +kernel)
              have t85 := fhB81 699 9 (by decide +kernel)
              have t86 := fhB81 699 10 (by decide +kernel)
              refine And.intro (⟨by omega, by omega⟩) ?_
              exact ⟨_, rfl, by omega, (fun _ => eg_op (by omega) (by omega) (by unfold rdK; split <;> omega) g0z67 (by first | exact (fun q => absurd q (by omega)) | exact (fun _ => rdY_no (by omega)) | exact (fun _ q => absurd (of_decide_eq_true ((rdY_hd qz47 (by omega) qz48).symm.trans q)) (by omega))) (g0z80.trans (congrArg (List.cons x1) (rdl_same (fun j => (fup_other ehB73 702 j (Or.inl (by decide)))) (fup_other ehB73 699 7 (Or.inr (by decide)))))) (g1z80.trans (rdl_same (fun j => (fup_other ehB73 701 j (Or.inl (by decide)))) (fup_other ehB73 699 4 (Or.inr (by decide))))) (by omega) (by omega)), (fun q => absurd q (by omega)), (fun _ => sg_fin (S := IhB68) (by omega) (g0z80.trans (congrArg (List.cons x1) (rdl_same (fun j => (fup_other ehB73 702 j (Or.inl (by decide)))) (fup_other ehB73 699 7 (Or.inr (by decide)))))) g1z67 (by omega) (by rw [pr1 g0z67, rdT_40 (by omega)]; omega) (by omega) (by rw [pr1 g0z67]; exact rdA_T _ _ hp3))⟩
            · intro c87
              refine And.intro ⟨rfl, by decide, by decide⟩ (fgetf fb_699_7 h0 hB68 ?_)
              intro z88 lz88 uz88 qz88
              refine And.intro (by first | exact fi_ lz88 uz88 rfl | omega) (And.intro ?_ ?_)
              · intro c89
                refine And.intro ⟨rfl, by decide, by decide⟩ (And.intro rfl (And.intro (Or.inr ⟨rfl, by decide, by decide⟩) (fputf fb_699_10 (by decide +kernel) hW (by first | exact ⟨by decide, by decide⟩ | omega) ?_)))
                intro IhB90 ehB90 hB90
                have t91 : IhB90 699 4 = IhB68 699 4 := (congrFun (congrFun ehB90 699) 4).trans (fup_ne (by first | decide | omega))
                have t92 : IhB90 699 5 = IhB68 699 5 := (congrFun (congrFun ehB90 699) 5).trans (fup_ne (by first | decide | omega))
                have t93 : IhB90 699 7 = IhB68 699 7 := (congrFun (congrFun ehB90 699) 7).trans (fup_ne (by first | decide | omega))
                have t94 : IhB90 699 8 = IhB68 699 8 := (congrFun (congrFun ehB90 699) 8).trans (fup_ne (by first | decide | omega))
                have t95 : IhB90 699 9 = IhB68 699 9 := (congrFun (congrFun ehB90 699) 9).trans (fup_ne (by first | decide | omega))
                have t96 := fup_at ehB90 10 (by first | rfl | omega)
                refine Exists.intro xm_125 (And.intro mi_125 (And.intro ⟨rfl, rfl, rfl, rfl⟩ (And.intro rfl ?_)))
                refine fcall _ h0 (fzs_sub (by decide +kernel) hW) hB90 (ct_Tape_push_d8da9 (fBz h0 hB90) (by first | exact ⟨ha1.1, ha1.2⟩ | omega) (by omega)) ?_
                rintro IhB98 _ hB98 fhB98 ⟨z97, rfl, hz97, g0z97, g1z97⟩
                have t99 := fhB98 699 4 (by decide +kernel)
                have t100 := fhB98 699 5 (by decide +kernel)
                have t101 := fhB98 699 8 (by decide +kernel)
                have t102 := fhB98 699 9 (by decide +kernel)
                have t103 := fhB98 699 10 (by decide +kernel)
                refine And.intro (⟨by omega, by omega⟩) ?_
                exact ⟨_, rfl, by omega, (fun _ => eg_op (by omega) (by omega) (by unfold rdK; split <;> omega) g0z67 (by first | exact (fun q => absurd q (by omega)) | exact (fun _ => rdY_no (by omega)) | exact (fun _ q => absurd (of_decide_eq_true ((rdY_hd qz47 (by omega) qz48).symm.trans q)) (by omega))) (g0z97.trans (congrArg (List.cons x1) (rdl_same (fun j => (fup_other ehB90 702 j (Or.inl (by decide)))) (fup_other ehB90 699 7 (Or.inr (by decide)))))) (g1z97.trans (rdl_same (fun j => (fup_other ehB90 701 j (Or.inl (by decide)))) (fup_other ehB90 699 4 (Or.inr (by decide))))) (by omega) (by omega)), (fun q => absurd q (by omega)), (fun _ => sg_fin (S := IhB68) (by omega) (g0z97.trans (congrArg (List.cons x1) (rdl_same (fun j => (fup_other ehB90 702 j (Or.inl (by decide)))) (fup_other ehB90 699 7 (Or.inr (by decide)))))) g1z67 (by omega) (by rw [pr1 g0z67, rdT_40 (by omega)]; omega) (by omega) (by rw [pr1 g0z67]; exact rdA_T _ _ hp3))⟩
              · intro c104
                refine And.intro ⟨rfl, by decide, by decide⟩ ?_
                refine And.intro ⟨rfl, by decide, by decide⟩ (fgetf fb_699_7 h0 hB68 ?_)
                intro z105 lz105 uz105 qz105
                refine fload rL_702_702_0_95_1_0 h0 hB68 (by omega) ?_
                intro z106 lz106 uz106 qz106
                refine Exists.intro xm_130 (And.intro mi_130 (And.intro ⟨rfl, rfl, rfl, rfl⟩ (And.intro True.intro ?_)))
                refine fcallp hB68 (ct_Tape_strengthOf_dd2b6 (fBz h0 hB68) (by first | exact ⟨lz106, uz106⟩ | omega)) ?_
                rintro _ ⟨z107, rfl, hz107, g0z107⟩
                refine And.intro (And.intro (by first | exact fi_ hz107.1 hz107.2 rfl | omega) (by first | exact fi_ hz4.1 hz4.2 rfl | omega)) (And.intro ?_ ?_)
                · intro c108
                  refine And.intro ⟨rfl, by decide, by decide⟩ (And.intro rfl (And.intro (Or.inr ⟨rfl, by decide, by decide⟩) (fputf fb_699_10 (by decide +kernel) hW (by first | exact ⟨by decide, by decide⟩ | omega) ?_)))
                  intro IhB109 ehB109 hB109
                  have t110 : IhB109 699 4 = IhB68 699 4 := (congrFun (congrFun ehB109 699) 4).trans (fup_ne (by first | decide | omega))
                  have t111 : IhB109 699 5 = IhB68 699 5 := (congrFun (congrFun ehB109 699) 5).trans (fup_ne (by first | decide | omega))
                  have t112 : IhB109 699 7 = IhB68 699 7 := (congrFun (congrFun ehB109 699) 7).trans (fup_ne (by first | decide | omega))
                  have t113 : IhB109 699 8 = IhB68 699 8 := (congrFun (congrFun ehB109 699) 8).trans (fup_ne (by first | decide | omega))
                  have t114 : IhB109 699 9 = IhB68 699 9 := (congrFun (congrFun ehB109 699) 9).trans (fup_ne (by first | decide | omega))
                  have t115 := fup_at ehB109 10 (by first | rfl | omega)
                  refine Exists.intro xm_125 (And.intro mi_125 (And.intro ⟨rfl, rfl, rfl, rfl⟩ (And.intro rfl ?_)))
                  refine fcall _ h0 (fzs_sub (by decide +kernel) hW) hB109 (ct_Tape_push_d8da9 (fBz h0 hB109) (by first | exact ⟨ha1.1, ha1.2⟩ | omega) (by omega)) ?_
                  rintro IhB117 _ hB117 fhB117 ⟨z116, rfl, hz116, g0z116, g1z116⟩
                  have t118 := fhB117 699 4 (by decide +kernel)
                  have t119 := fhB117 699 5 (by decide +kernel)
                  have t120 := fhB117 699 8 (by decide +kernel)
                  have t121 := fhB117 699 9 (by decide +kernel)
                  have t122 := fhB117 699 10 (by decide +kernel)
                  refine And.intro (⟨by omega, by omega⟩) ?_
                  exact ⟨_, rfl, by omega, (fun _ => eg_op (by omega) (by omega) (by unfold rdK; split <;> omega) g0z67 (by first | exact (fun q => absurd q (by omega)) | exact (fun _ => rdY_no (by omega)) | exact (fun _ q => absurd (of_decide_eq_true ((rdY_hd qz105 (by omega) qz106).symm.trans q)) (by omega))) (g0z116.trans (congrArg (List.cons x1) (rdl_same (fun j => (fup_other ehB109 702 j (Or.inl (by decide)))) (fup_other ehB109 699 7 (Or.inr (by decide)))))) (g1z116.trans (rdl_same (fun j => (fup_other ehB109 701 j (Or.inl (by decide)))) (fup_other ehB109 699 4 (Or.inr (by decide))))) (by omega) (by omega)), (fun q => absurd q (by omega)), (fun _ => sg_fin (S := IhB68) (by omega) (g0z116.trans (congrArg (List.cons x1) (rdl_same (fun j => (fup_other ehB109 702 j (Or.inl (by decide)))) (fup_other ehB109 699 7 (Or.inr (by decide)))))) g1z67 (by omega) (by rw [pr1 g0z67, rdT_40 (by omega)]; omega) (by omega) (by rw [pr1 g0z67]; exact rdA_T _ _ hp3))⟩
                · intro c123
                  refine And.intro (⟨by decide, by decide⟩) ?_
                  exact ⟨_, rfl, by omega, (fun q => absurd q (by omega)), (fun _ => eg_cmp (by omega) (by omega) (by omega) g0z67 ((rdY_hd qz105 (by omega) qz106).trans (decide_eq_true (by omega)))), (fun q => absurd q (by omega))⟩
        · intro c124
          refine And.intro (by first | exact ⟨by decide, by decide⟩ | omega) (And.intro ?_ ?_)
          · intro c125
            refine Exists.intro xm_128 (And.intro mi_128 (And.intro ⟨rfl, rfl, rfl, rfl⟩ (And.intro rfl ?_)))
            refine fcall _ h0 (fzs_sub (by decide +kernel) hW) hB0 (ct_Tape_settle_fab00 (fBz h0 hB0) (by first | exact ⟨hz4.1, Int.le_trans hz4.2 (by decide)⟩ | omega) (by omega) hp1) ?_
            rintro IhB127 _ hB127 fhB127 ⟨rfl, hz126, g0z126, g1z126⟩
            have t128 := fhB127 699 5 (by decide +kernel)
            have t129 := fhB127 699 8 (by decide +kernel)
            have t130 := fhB127 699 10 (by decide +kernel)
            refine And.intro (by first | exact ⟨by decide, by decide⟩ | omega) (And.intro ?_ ?_)
            · intro c131
              refine And.intro ⟨rfl, by decide, by decide⟩ (And.intro rfl (And.intro (Or.inr ⟨rfl, by decide, by decide⟩) (fputf fb_699_10 (by decide +kernel) hW (by first | exact ⟨by decide, by decide⟩ | omega) ?_)))
              intro IhB132 ehB132 hB132
              have t133 : IhB132 699 4 = IhB127 699 4 := (congrFun (congrFun ehB132 699) 4).trans (fup_ne (by first | decide | omega))
              have t134 : IhB132 699 5 = IhB127 699 5 := (congrFun (congrFun ehB132 699) 5).trans (fup_ne (by first | decide | omega))
              have t135 : IhB132 699 7 = IhB127 699 7 := (congrFun (congrFun ehB132 699) 7).trans (fup_ne (by first | decide | omega))
              have t136 : IhB132 699 8 = IhB127 699 8 := (congrFun (congrFun ehB132 699) 8).trans (fup_ne (by first | decide | omega))
              have t137 : IhB132 699 9 = IhB127 699 9 := (congrFun (congrFun ehB132 699) 9).trans (fup_ne (by first | decide | omega))
              have t138 := fup_at ehB132 10 (by first | rfl | omega)
              refine Exists.intro xm_125 (And.intro mi_125 (And.intro ⟨rfl, rfl, rfl, rfl⟩ (And.intro rfl ?_)))
              refine fcall _ h0 (fzs_sub (by decide +kernel) hW) hB132 (ct_Tape_push_d8da9 (fBz h0 hB132) (by first | exact ⟨ha1.1, ha1.2⟩ | omega) (by omega)) ?_
              rintro IhB140 _ hB140 fhB140 ⟨z139, rfl, hz139, g0z139, g1z139⟩
              have t141 := fhB140 699 4 (by decide +kernel)
              have t142 := fhB140 699 5 (by decide +kernel)
              have t143 := fhB140 699 8 (by decide +kernel)
              have t144 := fhB140 699 9 (by decide +kernel)
              have t145 := fhB140 699 10 (by decide +kernel)
              refine And.intro (⟨by omega, by omega⟩) ?_
              exact ⟨_, rfl, by omega, (fun _ => eg_op (by omega) (by omega) (by unfold rdK; split <;> omega) g0z126 (by first | exact (fun q => absurd q (by omega)) | exact (fun _ => rdY_no (by omega)) | exact (fun _ q => absurd (of_decide_eq_true ((rdY_hd qz105 (by omega) qz106).symm.trans q)) (by omega))) (g0z139.trans (congrArg (List.cons x1) (rdl_same (fun j => (fup_other ehB132 702 j (Or.inl (by decide)))) (fup_other ehB132 699 7 (Or.inr (by decide)))))) (g1z139.trans (rdl_same (fun j => (fup_other ehB132 701 j (Or.inl (by decide)))) (fup_other ehB132 699 4 (Or.inr (by decide))))) (by omega) (by omega)), (fun q => absurd q (by omega)), (fun _ => sg_fin (S := IhB127) (by omega) (g0z139.trans (congrArg (List.cons x1) (rdl_same (fun j => (fup_other ehB132 702 j (Or.inl (by decide)))) (fup_other ehB132 699 7 (Or.inr (by decide)))))) g1z126 (by omega) (by rw [pr1 g0z126, rdT_40 (by omega)]; omega) (by omega) (by rw [pr1 g0z126]; exact rdA_T _ _ hp3))⟩
            · intro c146
              refine And.intro ⟨rfl, by decide, by decide⟩ (fgetf fb_699_7 h0 hB127 ?_)
              intro z147 lz147 uz147 qz147
              refine And.intro (by first | exact fi_ lz147 uz147 rfl | omega) (And.intro ?_ ?_)
              · intro c148
                refine And.intro ⟨rfl, by decide, by decide⟩ (And.intro rfl (And.intro (Or.inr ⟨rfl, by decide, by decide⟩) (fputf fb_699_10 (by decide +kernel) hW (by first | exact ⟨by decide, by decide⟩ | omega) ?_)))
                intro IhB149 ehB149 hB149
                have t150 : IhB149 699 4 = IhB127 699 4 := (congrFun (congrFun ehB149 699) 4).trans (fup_ne (by first | decide | omega))
                have t151 : IhB149 699 5 = IhB127 699 5 := (congrFun (congrFun ehB149 699) 5).trans (fup_ne (by first | decide | omega))
                have t152 : IhB149 699 7 = IhB127 699 7 := (congrFun (congrFun ehB149 699) 7).trans (fup_ne (by first | decide | omega))
                have t153 : IhB149 699 8 = IhB127 699 8 := (congrFun (congrFun ehB149 699) 8).trans (fup_ne (by first | decide | omega))
                have t154 : IhB149 699 9 = IhB127 699 9 := (congrFun (congrFun ehB149 699) 9).trans (fup_ne (by first | decide | omega))
                have t155 := fup_at ehB149 10 (by first | rfl | omega)
                refine Exists.intro xm_125 (And.intro mi_125 (And.intro ⟨rfl, rfl, rfl, rfl⟩ (And.intro rfl ?_)))
                refine fcall _ h0 (fzs_sub (by decide +kernel) hW) hB149 (ct_Tape_push_d8da9 (fBz h0 hB149) (by first | exact ⟨ha1.1, ha1.2⟩ | omega) (by omega)) ?_
                rintro IhB157 _ hB157 fhB157 ⟨z156, rfl, hz156, g0z156, g1z156⟩
                have t158 := fhB157 699 4 (by decide +kernel)
                have t159 := fhB157 699 5 (by decide +kernel)
                have t160 := fhB157 699 8 (by decide +kernel)
                have t161 := fhB157 699 9 (by decide +kernel)
                have t162 := fhB157 699 10 (by decide +kernel)
                refine And.intro (⟨by omega, by omega⟩) ?_
                exact ⟨_, rfl, by omega, (fun _ => eg_op (by omega) (by omega) (by unfold rdK; split <;> omega) g0z126 (by first | exact (fun q => absurd q (by omega)) | exact (fun _ => rdY_no (by omega)) | exact (fun _ q => absurd (of_decide_eq_true ((rdY_hd qz105 (by omega) qz106).symm.trans q)) (by omega))) (g0z156.trans (congrArg (List.cons x1) (rdl_same (fun j => (fup_other ehB149 702 j (Or.inl (by decide)))) (fup_other ehB149 699 7 (Or.inr (by decide)))))) (g1z156.trans (rdl_same (fun j => (fup_other ehB149 701 j (Or.inl (by decide)))) (fup_other ehB149 699 4 (Or.inr (by decide))))) (by omega) (by omega)), (fun q => absurd q (by omega)), (fun _ => sg_fin (S := IhB127) (by omega) (g0z156.trans (congrArg (List.cons x1) (rdl_same (fun j => (fup_other ehB149 702 j (Or.inl (by decide)))) (fup_other ehB149 699 7 (Or.inr (by decide)))))) g1z126 (by omega) (by rw [pr1 g0z126, rdT_40 (by omega)]; omega) (by omega) (by rw [pr1 g0z126]; exact rdA_T _ _ hp3))⟩
              · intro c163
                refine And.intro ⟨rfl, by decide, by decide⟩ ?_
                refine And.intro ⟨rfl, by decide, by decide⟩ (fgetf fb_699_7 h0 hB127 ?_)
                intro z164 lz164 uz164 qz164
                refine fload rL_702_702_0_95_1_0 h0 hB127 (by omega) ?_
                intro z165 lz165 uz165 qz165
                refine Exists.intro xm_130 (And.intro mi_130 (And.intro ⟨rfl, rfl, rfl, rfl⟩ (And.intro True.intro ?_)))
                refine fcallp hB127 (ct_Tape_strengthOf_dd2b6 (fBz h0 hB127) (by first | exact ⟨lz165, uz165⟩ | omega)) ?_
                rintro _ ⟨z166, rfl, hz166, g0z166⟩
                refine And.intro (And.intro (by first | exact fi_ hz166.1 hz166.2 rfl | omega) (by first | exact fi_ hz4.1 hz4.2 rfl | omega)) (And.intro ?_ ?_)
                · intro c167
                  refine And.intro ⟨rfl, by decide, by decide⟩ (And.intro rfl (And.intro (Or.inr ⟨rfl, by decide, by decide⟩) (fputf fb_699_10 (by decide +kernel) hW (by first | exact ⟨by decide, by decide⟩ | omega) ?_)))
                  intro IhB168 ehB168 hB168
                  have t169 : IhB168 699 4 = IhB127 699 4 := (congrFun (congrFun ehB168 699) 4).trans (fup_ne (by first | decide | omega))
                  have t170 : IhB168 699 5 = IhB127 699 5 := (congrFun (congrFun ehB168 699) 5).trans (fup_ne (by first | decide | omega))
                  have t171 : IhB168 699 7 = IhB127 699 7 := (congrFun (congrFun ehB168 699) 7).trans (fup_ne (by first | decide | omega))
                  have t172 : IhB168 699 8 = IhB127 699 8 := (congrFun (congrFun ehB168 699) 8).trans (fup_ne (by first | decide | omega))
                  have t173 : IhB168 699 9 = IhB127 699 9 := (congrFun (congrFun ehB168 699) 9).trans (fup_ne (by first | decide | omega))
                  have t174 := fup_at ehB168 10 (by first | rfl | omega)
                  refine Exists.intro xm_125 (And.intro mi_125 (And.intro ⟨rfl, rfl, rfl, rfl⟩ (And.intro rfl ?_)))
                  refine fcall _ h0 (fzs_sub (by decide +kernel) hW) hB168 (ct_Tape_push_d8da9 (fBz h0 hB168) (by first | exact ⟨ha1.1, ha1.2⟩ | omega) (by omega)) ?_
                  rintro IhB176 _ hB176 fhB176 ⟨z175, rfl, hz175, g0z175, g1z175⟩
                  have t177 := fhB176 699 4 (by decide +kernel)
                  have t178 := fhB176 699 5 (by decide +kernel)
                  have t179 := fhB176 699 8 (by decide +kernel)
                  have t180 := fhB176 699 9 (by decide +kernel)
                  have t181 := fhB176 699 10 (by decide +kernel)
                  refine And.intro (⟨by omega, by omega⟩) ?_
                  exact ⟨_, rfl, by omega, (fun _ => eg_op (by omega) (by omega) (by unfold rdK; split <;> omega) g0z126 (by first | exact (fun q => absurd q (by omega)) | exact (fun _ => rdY_no (by omega)) | exact (fun _ q => absurd (of_decide_eq_true ((rdY_hd qz164 (by omega) qz165).symm.trans q)) (by omega))) (g0z175.trans (congrArg (List.cons x1) (rdl_same (fun j => (fup_other ehB168 702 j (Or.inl (by decide)))) (fup_other ehB168 699 7 (Or.inr (by decide)))))) (g1z175.trans (rdl_same (fun j => (fup_other ehB168 701 j (Or.inl (by decide)))) (fup_other ehB168 699 4 (Or.inr (by decide))))) (by omega) (by omega)), (fun q => absurd q (by omega)), (fun _ => sg_fin (S := IhB127) (by omega) (g0z175.trans (congrArg (List.cons x1) (rdl_same (fun j => (fup_other ehB168 702 j (Or.inl (by decide)))) (fup_other ehB168 699 7 (Or.inr (by decide)))))) g1z126 (by omega) (by rw [pr1 g0z126, rdT_40 (by omega)]; omega) (by omega) (by rw [pr1 g0z126]; exact rdA_T _ _ hp3))⟩
                · intro c182
                  refine And.intro (⟨by decide, by decide⟩) ?_
                  exact ⟨_, rfl, by omega, (fun q => absurd q (by omega)), (fun _ => eg_cmp (by omega) (by omega) (by omega) g0z126 ((rdY_hd qz164 (by omega) qz165).trans (decide_eq_true (by omega)))), (fun q => absurd q (by omega))⟩
          · intro c183
            refine Exists.intro xm_128 (And.intro mi_128 (And.intro ⟨rfl, rfl, rfl, rfl⟩ (And.intro rfl ?_)))
            refine fcall _ h0 (fzs_sub (by decide +kernel) hW) hB0 (ct_Tape_settle_fab00 (fBz h0 hB0) (by omega) (by omega) hp1) ?_
            rintro IhB185 _ hB185 fhB185 ⟨rfl, hz184, g0z184, g1z184⟩
            have t186 := fhB185 699 5 (by decide +kernel)
            have t187 := fhB185 699 8 (by decide +kernel)
            have t188 := fhB185 699 10 (by decide +kernel)
            refine And.intro (by first | exact ⟨by decide, by decide⟩ | omega) (And.intro ?_ ?_)
            · intro c189
              refine And.intro ⟨rfl, by decide, by decide⟩ (And.intro rfl (And.intro (Or.inr ⟨rfl, by decide, by decide⟩) (fputf fb_699_10 (by decide +kernel) hW (by first | exact ⟨by decide, by decide⟩ | omega) ?_)))
              intro IhB190 ehB190 hB190
              have t191 : IhB190 699 4 = IhB185 699 4 := (congrFun (congrFun ehB190 699) 4).trans (fup_ne (by first | decide | omega))
              have t192 : IhB190 699 5 = IhB185 699 5 := (congrFun (congrFun ehB190 699) 5).trans (fup_ne (by first | decide | omega))
              have t193 : IhB190 699 7 = IhB185 699 7 := (congrFun (congrFun ehB190 699) 7).trans (fup_ne (by first | decide | omega))
              have t194 : IhB190 699 8 = IhB185 699 8 := (congrFun (congrFun ehB190 699) 8).trans (fup_ne (by first | decide | omega))
              have t195 : IhB190 699 9 = IhB185 699 9 := (congrFun (congrFun ehB190 699) 9).trans (fup_ne (by first | decide | omega))
              have t196 := fup_at ehB190 10 (by first | rfl | omega)
              refine Exists.intro xm_125 (And.intro mi_125 (And.intro ⟨rfl, rfl, rfl, rfl⟩ (And.intro rfl ?_)))
              refine fcall _ h0 (fzs_sub (by decide +kernel) hW) hB190 (ct_Tape_push_d8da9 (fBz h0 hB190) (by first | exact ⟨ha1.1, ha1.2⟩ | omega) (by omega)) ?_
              rintro IhB198 _ hB198 fhB198 ⟨z197, rfl, hz197, g0z197, g1z197⟩
              have t199 := fhB198 699 4 (by decide +kernel)
              have t200 := fhB198 699 5 (by decide +kernel)
              have t201 := fhB198 699 8 (by decide +kernel)
              have t202 := fhB198 699 9 (by decide +kernel)
              have t203 := fhB198 699 10 (by decide +kernel)
              refine And.intro (⟨by omega, by omega⟩) ?_
              exact ⟨_, rfl, by omega, (fun _ => eg_op (by omega) (by omega) (by unfold rdK; split <;> omega) g0z184 (by first | exact (fun q => absurd q (by omega)) | exact (fun _ => rdY_no (by omega)) | exact (fun _ q => absurd (of_decide_eq_true ((rdY_hd qz164 (by omega) qz165).symm.trans q)) (by omega))) (g0z197.trans (congrArg (List.cons x1) (rdl_same (fun j => (fup_other ehB190 702 j (Or.inl (by decide)))) (fup_other ehB190 699 7 (Or.inr (by decide)))))) (g1z197.trans (rdl_same (fun j => (fup_other ehB190 701 j (Or.inl (by decide)))) (fup_other ehB190 699 4 (Or.inr (by decide))))) (by omega) (by omega)), (fun q => absurd q (by omega)), (fun _ => sg_fin (S := IhB185) (by omega) (g0z197.trans (congrArg (List.cons x1) (rdl_same (fun j => (fup_other ehB190 702 j (Or.inl (by decide)))) (fup_other ehB190 699 7 (Or.inr (by decide)))))) g1z184 (by omega) (by rw [pr1 g0z184, rdT_40 (by omega)]; omega) (by omega) (by rw [pr1 g0z184]; exact rdA_T _ _ hp3))⟩
            · intro c204
              refine And.intro ⟨rfl, by decide, by decide⟩ (fgetf fb_699_7 h0 hB185 ?_)
              intro z205 lz205 uz205 qz205
              refine And.intro (by first | exact fi_ lz205 uz205 rfl | omega) (And.intro ?_ ?_)
              · intro c206
                refine And.intro ⟨rfl, by decide, by decide⟩ (And.intro rfl (And.intro (Or.inr ⟨rfl, by decide, by decide⟩) (fputf fb_699_10 (by decide +kernel) hW (by first | exact ⟨by decide, by decide⟩ | omega) ?_)))
                intro IhB207 ehB207 hB207
                have t208 : IhB207 699 4 = IhB185 699 4 := (congrFun (congrFun ehB207 699) 4).trans (fup_ne (by first | decide | omega))
                have t209 : IhB207 699 5 = IhB185 699 5 := (congrFun (congrFun ehB207 699) 5).trans (fup_ne (by first | decide | omega))
                have t210 : IhB207 699 7 = IhB185 699 7 := (congrFun (congrFun ehB207 699) 7).trans (fup_ne (by first | decide | omega))
                have t211 : IhB207 699 8 = IhB185 699 8 := (congrFun (congrFun ehB207 699) 8).trans (fup_ne (by first | decide | omega))
                have t212 : IhB207 699 9 = IhB185 699 9 := (congrFun (congrFun ehB207 699) 9).trans (fup_ne (by first | decide | omega))
                have t213 := fup_at ehB207 10 (by first | rfl | omega)
                refine Exists.intro xm_125 (And.intro mi_125 (And.intro ⟨rfl, rfl, rfl, rfl⟩ (And.intro rfl ?_)))
                refine fcall _ h0 (fzs_sub (by decide +kernel) hW) hB207 (ct_Tape_push_d8da9 (fBz h0 hB207) (by first | exact ⟨ha1.1, ha1.2⟩ | omega) (by omega)) ?_
                rintro IhB215 _ hB215 fhB215 ⟨z214, rfl, hz214, g0z214, g1z214⟩
                have t216 := fhB215 699 4 (by decide +kernel)
                have t217 := fhB215 699 5 (by decide +kernel)
                have t218 := fhB215 699 8 (by decide +kernel)
                have t219 := fhB215 699 9 (by decide +kernel)
                have t220 := fhB215 699 10 (by decide +kernel)
                refine And.intro (⟨by omega, by omega⟩) ?_
                exact ⟨_, rfl, by omega, (fun _ => eg_op (by omega) (by omega) (by unfold rdK; split <;> omega) g0z184 (by first | exact (fun q => absurd q (by omega)) | exact (fun _ => rdY_no (by omega)) | exact (fun _ q => absurd (of_decide_eq_true ((rdY_hd qz164 (by omega) qz165).symm.trans q)) (by omega))) (g0z214.trans (congrArg (List.cons x1) (rdl_same (fun j => (fup_other ehB207 702 j (Or.inl (by decide)))) (fup_other ehB207 699 7 (Or.inr (by decide)))))) (g1z214.trans (rdl_same (fun j => (fup_other ehB207 701 j (Or.inl (by decide)))) (fup_other ehB207 699 4 (Or.inr (by decide))))) (by omega) (by omega)), (fun q => absurd q (by omega)), (fun _ => sg_fin (S := IhB185) (by omega) (g0z214.trans (congrArg (List.cons x1) (rdl_same (fun j => (fup_other ehB207 702 j (Or.inl (by decide)))) (fup_other ehB207 699 7 (Or.inr (by decide)))))) g1z184 (by omega) (by rw [pr1 g0z184, rdT_40 (by omega)]; omega) (by omega) (by rw [pr1 g0z184]; exact rdA_T _ _ hp3))⟩
              · intro c221
                refine And.intro ⟨rfl, by decide, by decide⟩ ?_
                refine And.intro ⟨rfl, by decide, by decide⟩ (fgetf fb_699_7 h0 hB185 ?_)
                intro z222 lz222 uz222 qz222
                refine fload rL_702_702_0_95_1_0 h0 hB185 (by omega) ?_
                intro z223 lz223 uz223 qz223
                refine Exists.intro xm_130 (And.intro mi_130 (And.intro ⟨rfl, rfl, rfl, rfl⟩ (And.intro True.intro ?_)))
                refine fcallp hB185 (ct_Tape_strengthOf_dd2b6 (fBz h0 hB185) (by first | exact ⟨lz223, uz223⟩ | omega)) ?_
                rintro _ ⟨z224, rfl, hz224, g0z224⟩
                refine And.intro (And.intro (by first | exact fi_ hz224.1 hz224.2 rfl | omega) (by first | exact fi_ hz4.1 hz4.2 rfl | omega)) (And.intro ?_ ?_)
                · intro c225
                  refine And.intro ⟨rfl, by decide, by decide⟩ (And.intro rfl (And.intro (Or.inr ⟨rfl, by decide, by decide⟩) (fputf fb_699_10 (by decide +kernel) hW (by first | exact ⟨by decide, by decide⟩ | omega) ?_)))
                  intro IhB226 ehB226 hB226
                  have t227 : IhB226 699 4 = IhB185 699 4 := (congrFun (congrFun ehB226 699) 4).trans (fup_ne (by first | decide | omega))
                  have t228 : IhB226 699 5 = IhB185 699 5 := (congrFun (congrFun ehB226 699) 5).trans (fup_ne (by first | decide | omega))
                  have t229 : IhB226 699 7 = IhB185 699 7 := (congrFun (congrFun ehB226 699) 7).trans (fup_ne (by first | decide | omega))
                  have t230 : IhB226 699 8 = IhB185 699 8 := (congrFun (congrFun ehB226 699) 8).trans (fup_ne (by first | decide | omega))
                  have t231 : IhB226 699 9 = IhB185 699 9 := (congrFun (congrFun ehB226 699) 9).trans (fup_ne (by first | decide | omega))
                  have t232 := fup_at ehB226 10 (by first | rfl | omega)
                  refine Exists.intro xm_125 (And.intro mi_125 (And.intro ⟨rfl, rfl, rfl, rfl⟩ (And.intro rfl ?_)))
                  refine fcall _ h0 (fzs_sub (by decide +kernel) hW) hB226 (ct_Tape_push_d8da9 (fBz h0 hB226) (by first | exact ⟨ha1.1, ha1.2⟩ | omega) (by omega)) ?_
                  rintro IhB234 _ hB234 fhB234 ⟨z233, rfl, hz233, g0z233, g1z233⟩
                  have t235 := fhB234 699 4 (by decide +kernel)
                  have t236 := fhB234 699 5 (by decide +kernel)
                  have t237 := fhB234 699 8 (by decide +kernel)
                  have t238 := fhB234 699 9 (by decide +kernel)
                  have t239 := fhB234 699 10 (by decide +kernel)
                  refine And.intro (⟨by omega, by omega⟩) ?_
                  exact ⟨_, rfl, by omega, (fun _ => eg_op (by omega) (by omega) (by unfold rdK; split <;> omega) g0z184 (by first | exact (fun q => absurd q (by omega)) | exact (fun _ => rdY_no (by omega)) | exact (fun _ q => absurd (of_decide_eq_true ((rdY_hd qz222 (by omega) qz223).symm.trans q)) (by omega))) (g0z233.trans (congrArg (List.cons x1) (rdl_same (fun j => (fup_other ehB226 702 j (Or.inl (by decide)))) (fup_other ehB226 699 7 (Or.inr (by decide)))))) (g1z233.trans (rdl_same (fun j => (fup_other ehB226 701 j (Or.inl (by decide)))) (fup_other ehB226 699 4 (Or.inr (by decide))))) (by omega) (by omega)), (fun q => absurd q (by omega)), (fun _ => sg_fin (S := IhB185) (by omega) (g0z233.trans (congrArg (List.cons x1) (rdl_same (fun j => (fup_other ehB226 702 j (Or.inl (by decide)))) (fup_other ehB226 699 7 (Or.inr (by decide)))))) g1z184 (by omega) (by rw [pr1 g0z184, rdT_40 (by omega)]; omega) (by omega) (by rw [pr1 g0z184]; exact rdA_T _ _ hp3))⟩
                · intro c240
                  refine And.intro (⟨by decide, by decide⟩) ?_
                  exact ⟨_, rfl, by omega, (fun q => absurd q (by omega)), (fun _ => eg_cmp (by omega) (by omega) (by omega) g0z184 ((rdY_hd qz222 (by omega) qz223).trans (decide_eq_true (by omega)))), (fun q => absurd q (by omega))⟩
      · intro c241
        refine And.intro (⟨by decide, by decide⟩) ?_
        exact ⟨_, rfl, by omega, (fun q => absurd q (by omega)), (fun _ => eg_no (by omega) (by omega)), (fun q => absurd q (by omega))⟩
    · intro c242
      refine And.intro ⟨rfl, by decide, by decide⟩ (fgetf fb_699_8 h0 hB0 ?_)
      intro z243 lz243 uz243 qz243
      refine And.intro (by first | exact fi_ lz243 uz243 rfl | omega) (And.intro ?_ ?_)
      · intro c244
        refine And.intro (⟨by omega, by omega⟩) ?_
        exact ⟨_, rfl, by omega, (by first | exact (fun q => absurd q (by omega)) | exact (fun _ => eg_ket (by omega) (by omega) g0nil0 g1nil0 (by omega) (by omega))), (by first | exact (fun q => absurd q (by omega)) | exact (fun _ => eg_ket0 (by omega) (by omega))), (by first | exact (fun q => absurd q (by omega)) | exact (fun _ => ⟨g2nil0, g3nil0, g4nil0⟩))⟩
      · intro c245
        refine Exists.intro xm_127 (And.intro mi_127 (And.intro ⟨rfl, rfl, rfl, rfl⟩ (And.intro rfl ?_)))
        refine fcall _ h0 (fzs_sub (by decide +kernel) hW) hB0 (ct_Tape_close_9696d (fBz h0 hB0) (by omega) hp1 (by omega) hp3) ?_
        rintro IhB247 _ hB247 fhB247 ⟨z246, rfl, hz246, g0z246, g1z246, g2z246, g3z246, g4z246⟩
        have t248 := fhB247 699 5 (by decide +kernel)
        have t249 := fhB247 699 10 (by decide +kernel)
        refine And.intro (by omega) (And.intro ?_ ?_)
        · intro c250
          refine And.intro (⟨by omega, by omega⟩) ?_
          exact ⟨_, rfl, by omega, (by first | exact (fun q => absurd q (by omega)) | exact (fun _ => eg_ket (by omega) (by omega) g0z246 g1z246 (by omega) (by omega))), (by first | exact (fun q => absurd q (by omega)) | exact (fun _ => eg_ket0 (by omega) (by omega))), (by first | exact (fun q => absurd q (by omega)) | exact (fun _ => ⟨g2z246, g3z246, g4z246⟩))⟩
        · intro c251
          refine And.intro (⟨by decide, by decide⟩) ?_
          exact ⟨_, rfl, by omega, (by first | exact (fun q => absurd q (by omega)) | exact (fun _ => eg_ket (by omega) (by omega) g0z246 g1z246 (by omega) (by omega))), (by first | exact (fun q => absurd q (by omega)) | exact (fun _ => eg_ket0 (by omega) (by omega))), (by first | exact (fun q => absurd q (by omega)) | exact (fun _ => ⟨g2z246, g3z246, g4z246⟩))⟩
abbrev jc_Tape_behindBlanks_aea90_2 (x1 : Int) : Nat → fL → List fV → fH → Prop := fun m lv st I => ∃ (y2 : Int), lv = [(0, .inr (.inr (some 699))), (2, .inl y2)] ∧ st = [] ∧ (((0 ≤ y2 ∧ y2 ≤ 96)) ∧ (rdS rdB (I 700) (I 699 1) y2 = rdS rdB (I 700) (I 699 1) x1)) ∧ m = (1 + 1 * (96 - y2) : Int).toNat
set_option maxRecDepth 8000 in
theorem ct_Tape_behindBlanks_aea90 {I : fH} {x1 : Int} (h0 : fB bsJ I) (ha1 : (0 ≤ x1 ∧ x1 ≤ 96)) : fC ρ base n F xTc vwCl xTys D dA la gJ (fbz bsJ znJ (fKc []) I) xm_113 [.inr (.inr (some 699)), .inl x1] I (fun _ r => ∃ z, r = some (.inl z) ∧ (0 ≤ z ∧ z ≤ 96) ∧ (z = rdS rdB (I 700) (I 699 1) x1)) := by
  have hW : fzs [] (fKc []) := fKc_ok _
  refine f_meth (rb := rbJ) (J := [(2, (jc_Tape_behindBlanks_aea90_2 x1))]) 98 400 xG xin_113 x6_113 okJ (fB_self h0) ?_ ?_
  · refine List.forall_mem_cons.mpr ⟨?_, fun q h => absurd h List.not_mem_nil⟩
    · rintro m _ _ I1 hB1 ⟨y2, rfl, rfl, ⟨hb, hx0⟩, hm⟩
      have b1 := fBd fb_699_1 (fBz h0 hB1)
      have eI : I1 = I := fFr_nil (fFr_of hB1)
      refine And.intro ⟨rfl, by decide, by decide⟩ (fgetf fb_699_1 h0 hB1 ?_)
      intro z2 lz2 uz2 qz2
      refine And.intro (And.intro (by first | exact fi_ hb.1 hb.2 rfl | omega) (by first | exact fi_ lz2 uz2 rfl | omega)) (And.intro ?_ ?_)
      · intro c3
        refine And.intro (True.intro) ?_
        exact ⟨_, rfl, (by first | exact ⟨hb.1, hb.2⟩ | omega), ((rdS_no (c := rdB) (tp := I1 700) (n := I1 699 1) (p := y2) (fun q => by have q1 := q.1; have q2 := rdB_iff.mp q.2; omega)).symm.trans (hx0.trans (by rw [eI])))⟩
      · intro c4
        refine And.intro ⟨rfl, by decide, by decide⟩ ?_
        refine fload1 rL_700_700_0_95_1_0 h0 hB1 ⟨by decide, by decide⟩ (by first | exact ⟨hb.1, Int.le_trans (Int.le_sub_one_of_lt (Int.lt_of_lt_of_le c4 uz2)) (by decide)⟩ | omega) ?_
        intro z5 lz5 uz5 qz5
        refine And.intro (And.intro (by first | exact fi_ lz5 uz5 rfl | omega) (by first | exact ⟨by decide, by decide⟩ | omega)) (And.intro ?_ ?_)
        · intro c6
          refine And.intro (True.intro) ?_
          exact ⟨_, rfl, (by first | exact ⟨hb.1, Int.le_trans (Int.le_sub_one_of_lt (Int.lt_of_lt_of_le c4 uz2)) (by decide)⟩ | omega), ((rdS_no (c := rdB) (tp := I1 700) (n := I1 699 1) (p := y2) (fun q => by have q1 := q.1; have q2 := rdB_iff.mp q.2; omega)).symm.trans (hx0.trans (by rw [eI])))⟩
        · intro c7
          exact fcutJ (I := I1) (j := (jc_Tape_behindBlanks_aea90_2 x1)) (lv' := [(0, .inr (.inr (some 699))), (2, .inl _)]) (And.intro rfl (And.intro rfl True.intro)) ⟨_, rfl, rfl, ⟨by omega, ((rdS_go (by omega) (rdB_iff.mpr (by omega))).symm.trans hx0)⟩, rfl⟩ (by omega)
  · have hB0 := fB_self (zn := znJ) (K := fKc []) h0
    have b8 := fBd fb_699_1 (fBz h0 hB0)
    exact fcutJ (I := I) (j := (jc_Tape_behindBlanks_aea90_2 x1)) (lv' := [(0, .inr (.inr (some 699))), (2, .inl _)]) (And.intro rfl (And.intro rfl True.intro)) ⟨_, rfl, rfl, ⟨by omega, rfl⟩, rfl⟩ (by omega)
set_option maxRecDepth 8000 in
theorem ct_Tape_isLetter_45e0a {I : fH} {x0 : Int} (h0 : fB bsJ I) (ha0 : (0 ≤ x0 ∧ x0 ≤ 255)) : fC ρ base n F xTc vwCl xTys D dA la gJ (fbz bsJ znJ (fKc []) I) xm_115 [.inl x0] I (fun _ r => ∃ z, r = some (.inl z) ∧ (((z = 1 ∧ 97 ≤ x0 ∧ x0 ≤ 122) ∨ z = 0) ∧ (z = 1 ∨ x0 < 97 ∨ 122 < x0))) := by
  have hW : fzs [] (fKc []) := fKc_ok _
  refine f_meth (rb := rbJ) (J := []) 1 400 xG xin_115 x6_115 okJ (fB_self h0) ?_ ?_
  · exact fun q h => absurd h List.not_mem_nil
  · have hB0 := fB_self (zn := znJ) (K := fKc []) h0
    refine And.intro (And.intro (by first | exact fi_ ha0.1 ha0.2 rfl | omega) (by first | exact ⟨by decide, by decide⟩ | omega)) (And.intro ?_ ?_)
    · intro c1
      refine And.intro (⟨by omega, by omega⟩) ?_
      exact ⟨_, rfl, by omega⟩
    · intro c2
      refine And.intro (And.intro (by first | exact fi_ (Int.le_trans (Int.le_refl _) c2) ha0.2 rfl | omega) (by first | exact ⟨by decide, by decide⟩ | omega)) (And.intro ?_ ?_)
      · intro c3
        refine And.intro (⟨by omega, by omega⟩) ?_
        exact ⟨_, rfl, by omega⟩
      · intro c4
        refine And.intro (⟨by decide, by decide⟩) ?_
        exact ⟨_, rfl, by omega⟩
abbrev jc_Tape_behindWord_677ba_22 (x1 : Int) : Nat → fL → List fV → fH → Prop := fun m lv st I => ∃ (y2 : Int), lv = [(0, .inr (.inr (some 699))), (2, .inl y2)] ∧ st = [] ∧ (((0 ≤ y2 ∧ y2 ≤ 96) ∧ (1 ≤ I 699 1 ∧ I 699 1 ≤ 96)) ∧ (rdS rdL (I 700) (I 699 1) y2 = rdW (I 700) (I 699 1) x1)) ∧ m = (98 + 1 * (96 - y2) : Int).toNat
abbrev jc_Tape_behindWord_677ba_68 (x1 : Int) : Nat → fL → List fV → fH → Prop := fun m lv st I => ∃ (y2 : Int), lv = [(0, .inr (.inr (some 699))), (2, .inl y2)] ∧ st = [] ∧ (((0 ≤ y2 ∧ y2 ≤ 96) ∧ (1 ≤ I 699 1 ∧ I 699 1 ≤ 96)) ∧ (rdS rdD (I 700) (I 699 1) y2 = rdW (I 700) (I 699 1) x1)) ∧ m = (1 + 1 * (96 - y2) : Int).toNat
set_option maxRecDepth 8000 in
theorem ct_Tape_behindWord_677ba {I : fH} {x1 : Int} (h0 : fB bsJ I) (ha1 : (0 ≤ x1 ∧ x1 ≤ 96)) : fC ρ base n F xTc vwCl xTys D dA la gJ (fbz bsJ znJ (fKc []) I) xm_114 [.inr (.inr (some 699)), .inl x1] I (fun _ r => ∃ z, r = some (.inl z) ∧ (0 ≤ z ∧ z ≤ 96) ∧ (z = rdW (I 700) (I 699 1) x1)) := by
  have hW : fzs [] (fKc []) := fKc_ok _
  refine f_meth (rb := rbJ) (J := [(22, (jc_Tape_behindWord_677ba_22 x1)), (68, (jc_Tape_behindWord_677ba_68 x1))]) 195 400 xG xin_114 x6_114 okJ (fB_self h0) ?_ ?_
  · refine List.forall_mem_cons.mpr ⟨?_, List.forall_mem_cons.mpr ⟨?_, fun q h => absurd h List.not_mem_nil⟩⟩
    · rintro m _ _ I1 hB1 ⟨y2, rfl, rfl, ⟨hb, hx0⟩, hm⟩
      have b1 := fBd fb_699_1 (fBz h0 hB1)
      have eI : I1 = I := fFr_nil (fFr_of hB1)
      refine And.intro ⟨rfl, by decide, by decide⟩ (fgetf fb_699_1 h0 hB1 ?_)
      intro z2 lz2 uz2 qz2
      refine And.intro (And.intro (by first | exact fi_ hb.1.1 hb.1.2 rfl | omega) (by first | exact fi_ lz2 uz2 rfl | omega)) (And.intro ?_ ?_)
      · intro c3
        refine And.intro (True.intro) ?_
        exact ⟨_, rfl, (by first | exact ⟨hb.1.1, hb.1.2⟩ | omega), (by first | exact (rdS_no (c := rdL) (tp := I1 700) (n := I1 699 1) (p := y2) (fun q => by have q1 := q.1; have q2 := rdL_iff.mp q.2; omega)).symm.trans (hx0.trans (by rw [eI])) | exact (rdS_no (c := rdD) (tp := I1 700) (n := I1 699 1) (p := y2) (fun q => by have q1 := q.1; have q2 := rdD_iff.mp q.2; omega)).symm.trans (hx0.trans (by rw [eI])) | exact (rdW_s (by omega) (rdL_no (by omega)) (rdD_no (by omega))).symm | exact (rdW_n (by omega)).symm)⟩
      · intro c4
        refine And.intro ⟨rfl, by decide, by decide⟩ ?_
        refine fload1 rL_700_700_0_95_1_0 h0 hB1 ⟨by decide, by decide⟩ (by first | exact ⟨hb.1.1, Int.le_trans (Int.le_sub_one_of_lt (Int.lt_of_lt_of_le c4 uz2)) (by decide)⟩ | omega) ?_
        intro z5 lz5 uz5 qz5
        refine Exists.intro xm_115 (And.intro mi_115 (And.intro ⟨rfl, rfl, rfl, rfl⟩ (And.intro True.intro ?_)))
        refine fcallp hB1 (ct_Tape_isLetter_45e0a (fBz h0 hB1) (by first | exact ⟨lz5, uz5⟩ | omega)) ?_
        rintro _ ⟨z6, rfl, hz6⟩
        refine And.intro (by omega) (And.intro ?_ ?_)
        · intro c7
          refine And.intro (True.intro) ?_
          exact ⟨_, rfl, (by first | exact ⟨hb.1.1, Int.le_trans (Int.le_sub_one_of_lt (Int.lt_of_lt_of_le c4 uz2)) (by decide)⟩ | omega), (by first | exact (rdS_no (c := rdL) (tp := I1 700) (n := I1 699 1) (p := y2) (fun q => by have q1 := q.1; have q2 := rdL_iff.mp q.2; omega)).symm.trans (hx0.trans (by rw [eI])) | exact (rdS_no (c := rdD) (tp := I1 700) (n := I1 699 1) (p := y2) (fun q => by have q1 := q.1; have q2 := rdD_iff.mp q.2; omega)).symm.trans (hx0.trans (by rw [eI])) | exact (rdW_s (by omega) (rdL_no (by omega)) (rdD_no (by omega))).symm | exact (rdW_n (by omega)).symm)⟩
        · intro c8
          exact fcutJ (I := I1) (j := (jc_Tape_behindWord_677ba_22 x1)) (lv' := [(0, .inr (.inr (some 699))), (2, .inl _)]) (And.intro rfl (And.intro rfl True.intro)) ⟨_, rfl, rfl, ⟨by omega, ((rdS_go (by omega) (rdL_iff.mpr (by omega))).symm.trans hx0)⟩, rfl⟩ (by omega)
    · rintro m _ _ I1 hB1 ⟨y2, rfl, rfl, ⟨hb, hx0⟩, hm⟩
      have b9 := fBd fb_699_1 (fBz h0 hB1)
      have eI : I1 = I := fFr_nil (fFr_of hB1)
      refine And.intro ⟨rfl, by decide, by decide⟩ (fgetf fb_699_1 h0 hB1 ?_)
      intro z10 lz10 uz10 qz10
      refine And.intro (And.intro (by first | exact fi_ hb.1.1 hb.1.2 rfl | omega) (by first | exact fi_ lz10 uz10 rfl | omega)) (And.intro ?_ ?_)
      · intro c11
        refine And.intro (True.intro) ?_
        exact ⟨_, rfl, (by first | exact ⟨hb.1.1, hb.1.2⟩ | omega), (by first | exact (rdS_no (c := rdL) (tp := I1 700) (n := I1 699 1) (p := y2) (fun q => by have q1 := q.1; have q2 := rdL_iff.mp q.2; omega)).symm.trans (hx0.trans (by rw [eI])) | exact (rdS_no (c := rdD) (tp := I1 700) (n := I1 699 1) (p := y2) (fun q => by have q1 := q.1; have q2 := rdD_iff.mp q.2; omega)).symm.trans (hx0.trans (by rw [eI])) | exact (rdW_s (by omega) (rdL_no (by omega)) (rdD_no (by omega))).symm | exact (rdW_n (by omega)).symm)⟩
      · intro c12
        refine And.intro ⟨rfl, by decide, by decide⟩ ?_
        refine fload1 rL_700_700_0_95_1_0 h0 hB1 ⟨by decide, by decide⟩ (by first | exact ⟨hb.1.1, Int.le_trans (Int.le_sub_one_of_lt (Int.lt_of_lt_of_le c12 uz10)) (by decide)⟩ | omega) ?_
        intro z13 lz13 uz13 qz13
        refine Exists.intro xm_116 (And.intro mi_116 (And.intro ⟨rfl, rfl, rfl, rfl⟩ (And.intro True.intro ?_)))
        refine fcallp hB1 (ct_Tape_isDigit_a19bc (fBz h0 hB1) (by first | exact ⟨lz13, uz13⟩ | omega)) ?_
        rintro _ ⟨z14, rfl, hz14⟩
        refine And.intro (by omega) (And.intro ?_ ?_)
        · intro c15
          refine And.intro (True.intro) ?_
          exact ⟨_, rfl, (by first | exact ⟨hb.1.1, Int.le_trans (Int.le_sub_one_of_lt (Int.lt_of_lt_of_le c12 uz10)) (by decide)⟩ | omega), (by first | exact (rdS_no (c := rdL) (tp := I1 700) (n := I1 699 1) (p := y2) (fun q => by have q1 := q.1; have q2 := rdL_iff.mp q.2; omega)).symm.trans (hx0.trans (by rw [eI])) | exact (rdS_no (c := rdD) (tp := I1 700) (n := I1 699 1) (p := y2) (fun q => by have q1 := q.1; have q2 := rdD_iff.mp q.2; omega)).symm.trans (hx0.trans (by rw [eI])) | exact (rdW_s (by omega) (rdL_no (by omega)) (rdD_no (by omega))).symm | exact (rdW_n (by omega)).symm)⟩
        · intro c16
          exact fcutJ (I := I1) (j := (jc_Tape_behindWord_677ba_68 x1)) (lv' := [(0, .inr (.inr (some 699))), (2, .inl _)]) (And.intro rfl (And.intro rfl True.intro)) ⟨_, rfl, rfl, ⟨by omega, ((rdS_go (by omega) (rdD_iff.mpr (by omega))).symm.trans hx0)⟩, rfl⟩ (by omega)
  · have hB0 := fB_self (zn := znJ) (K := fKc []) h0
    have b17 := fBd fb_699_1 (fBz h0 hB0)
    refine And.intro ⟨rfl, by decide, by decide⟩ (fgetf fb_699_1 h0 hB0 ?_)
    intro z18 lz18 uz18 qz18
    refine And.intro (And.intro (by first | exact fi_ ha1.1 ha1.2 rfl | omega) (by first | exact fi_ lz18 uz18 rfl | omega)) (And.intro ?_ ?_)
    · intro c19
      refine And.intro ⟨rfl, by decide, by decide⟩ (fgetf fb_699_1 h0 hB0 ?_)
      intro z20 lz20 uz20 qz20
      refine And.intro (And.intro (by first | exact fi_ ha1.1 ha1.2 rfl | omega) (by first | exact fi_ lz20 uz20 rfl | omega)) (And.intro ?_ ?_)
      · intro c21
        refine And.intro ⟨rfl, by decide, by decide⟩ (fgetf fb_699_1 h0 hB0 ?_)
        intro z22 lz22 uz22 qz22
        refine And.intro (And.intro (by first | exact fi_ ha1.1 ha1.2 rfl | omega) (by first | exact fi_ lz22 uz22 rfl | omega)) (And.intro ?_ ?_)
        · intro c23
          refine And.intro (True.intro) ?_
          exact ⟨_, rfl, (by first | exact ⟨ha1.1, ha1.2⟩ | omega), (by first | exact (rdS_no (c := rdL) (tp := I1 700) (n := I1 699 1) (p := y2) (fun q => by have q1 := q.1; have q2 := rdL_iff.mp q.2; omega)).symm.trans (hx0.trans (by rw [eI])) | exact (rdS_no (c := rdD) (tp := I1 700) (n := I1 699 1) (p := y2) (fun q => by have q1 := q.1; have q2 := rdD_iff.mp q.2; omega)).symm.trans (hx0.trans (by rw [eI])) | exact (rdW_s (by omega) (rdL_no (by omega)) (rdD_no (by omega))).symm | exact (rdW_n (by omega)).symm)⟩
        · intro c24
          refine And.intro (True.intro) ?_
          exact ⟨_, rfl, by omega, (by first | exact (rdS_no (c := rdL) (tp := I1 700) (n := I1 699 1) (p := y2) (fun q => by have q1 := q.1; have q2 := rdL_iff.mp q.2; omega)).symm.trans (hx0.trans (by rw [eI])) | exact (rdS_no (c := rdD) (tp := I1 700) (n := I1 699 1) (p := y2) (fun q => by have q1 := q.1; have q2 := rdD_iff.mp q.2; omega)).symm.trans (hx0.trans (by rw [eI])) | exact (rdW_s (by omega) (rdL_no (by omega)) (rdD_no (by omega))).symm | exact (rdW_n (by omega)).symm)⟩
      · intro c25
        refine And.intro ⟨rfl, by decide, by decide⟩ ?_
        refine fload1 rL_700_700_0_95_1_0 h0 hB0 ⟨by decide, by decide⟩ (by first | exact ⟨ha1.1, Int.le_trans (Int.le_sub_one_of_lt (Int.lt_of_lt_of_le c25 uz20)) (by decide)⟩ | omega) ?_
        intro z26 lz26 uz26 qz26
        refine Exists.intro xm_116 (And.intro mi_116 (And.intro ⟨rfl, rfl, rfl, rfl⟩ (And.intro True.intro ?_)))
        refine fcallp hB0 (ct_Tape_isDigit_a19bc (fBz h0 hB0) (by first | exact ⟨lz26, uz26⟩ | omega)) ?_
        rintro _ ⟨z27, rfl, hz27⟩
        refine And.intro (by omega) (And.intro ?_ ?_)
        · intro c28
          refine And.intro ⟨rfl, by decide, by decide⟩ (fgetf fb_699_1 h0 hB0 ?_)
          intro z29 lz29 uz29 qz29
          refine And.intro (And.intro (by first | exact fi_ ha1.1 (Int.le_sub_one_of_lt (Int.lt_of_lt_of_le c25 uz20)) rfl | omega) (by first | exact fi_ lz29 uz29 rfl | omega)) (And.intro ?_ ?_)
          · intro c30
            refine And.intro (True.intro) ?_
            exact ⟨_, rfl, (by first | exact ⟨ha1.1, Int.le_trans (Int.le_sub_one_of_lt (Int.lt_of_lt_of_le c25 uz20)) (by decide)⟩ | omega), (by first | exact (rdS_no (c := rdL) (tp := I1 700) (n := I1 699 1) (p := y2) (fun q => by have q1 := q.1; have q2 := rdL_iff.mp q.2; omega)).symm.trans (hx0.trans (by rw [eI])) | exact (rdS_no (c := rdD) (tp := I1 700) (n := I1 699 1) (p := y2) (fun q => by have q1 := q.1; have q2 := rdD_iff.mp q.2; omega)).symm.trans (hx0.trans (by rw [eI])) | exact (rdW_s (by omega) (rdL_no (by omega)) (rdD_no (by omega))).symm | exact (rdW_n (by omega)).symm)⟩
          · intro c31
            refine And.intro (True.intro) ?_
            exact ⟨_, rfl, by omega, (by first | exact (rdS_no (c := rdL) (tp := I1 700) (n := I1 699 1) (p := y2) (fun q => by have q1 := q.1; have q2 := rdL_iff.mp q.2; omega)).symm.trans (hx0.trans (by rw [eI])) | exact (rdS_no (c := rdD) (tp := I1 700) (n := I1 699 1) (p := y2) (fun q => by have q1 := q.1; have q2 := rdD_iff.mp q.2; omega)).symm.trans (hx0.trans (by rw [eI])) | exact (rdW_s (by omega) (rdL_no (by omega)) (rdD_no (by omega))).symm | exact (rdW_n (by omega)).symm)⟩
        · intro c32
          exact fcutJ (I := I) (j := (jc_Tape_behindWord_677ba_68 x1)) (lv' := [(0, .inr (.inr (some 699))), (2, .inl _)]) (And.intro rfl (And.intro rfl True.intro)) ⟨_, rfl, rfl, ⟨by omega, (rdW_D (by omega) (rdL_no (by omega)) (rdD_iff.mpr (by omega))).symm⟩, rfl⟩ (by omega)
    · intro c33
      refine And.intro ⟨rfl, by decide, by decide⟩ ?_
      refine fload1 rL_700_700_0_95_1_0 h0 hB0 ⟨by decide, by decide⟩ (by first | exact ⟨ha1.1, Int.le_trans (Int.le_sub_one_of_lt (Int.lt_of_lt_of_le c33 uz18)) (by decide)⟩ | omega) ?_
      intro z34 lz34 uz34 qz34
      refine Exists.intro xm_115 (And.intro mi_115 (And.intro ⟨rfl, rfl, rfl, rfl⟩ (And.intro True.intro ?_)))
      refine fcallp hB0 (ct_Tape_isLetter_45e0a (fBz h0 hB0) (by first | exact ⟨lz34, uz34⟩ | omega)) ?_
      rintro _ ⟨z35, rfl, hz35⟩
      refine And.intro (by omega) (And.intro ?_ ?_)
      · intro c36
        refine And.intro ⟨rfl, by decide, by decide⟩ (fgetf fb_699_1 h0 hB0 ?_)
        intro z37 lz37 uz37 qz37
        refine And.intro (And.intro (by first | exact fi_ ha1.1 (Int.le_sub_one_of_lt (Int.lt_of_lt_of_le c33 uz18)) rfl | omega) (by first | exact fi_ lz37 uz37 rfl | omega)) (And.intro ?_ ?_)
        · intro c38
          refine And.intro ⟨rfl, by decide, by decide⟩ (fgetf fb_699_1 h0 hB0 ?_)
          intro z39 lz39 uz39 qz39
          refine And.intro (And.intro (by first | exact fi_ ha1.1 (Int.le_sub_one_of_lt (Int.lt_of_lt_of_le c33 uz18)) rfl | omega) (by first | exact fi_ lz39 uz39 rfl | omega)) (And.intro ?_ ?_)
          · intro c40
            refine And.intro (True.intro) ?_
            exact ⟨_, rfl, (by first | exact ⟨ha1.1, Int.le_trans (Int.le_sub_one_of_lt (Int.lt_of_lt_of_le c33 uz18)) (by decide)⟩ | omega), (by first | exact (rdS_no (c := rdL) (tp := I1 700) (n := I1 699 1) (p := y2) (fun q => by have q1 := q.1; have q2 := rdL_iff.mp q.2; omega)).symm.trans (hx0.trans (by rw [eI])) | exact (rdS_no (c := rdD) (tp := I1 700) (n := I1 699 1) (p := y2) (fun q => by have q1 := q.1; have q2 := rdD_iff.mp q.2; omega)).symm.trans (hx0.trans (by rw [eI])) | exact (rdW_s (by omega) (rdL_no (by omega)) (rdD_no (by omega))).symm | exact (rdW_n (by omega)).symm)⟩
          · intro c41
            refine And.intro (True.intro) ?_
            exact ⟨_, rfl, by omega, (by first | exact (rdS_no (c := rdL) (tp := I1 700) (n := I1 699 1) (p := y2) (fun q => by have q1 := q.1; have q2 := rdL_iff.mp q.2; omega)).symm.trans (hx0.trans (by rw [eI])) | exact (rdS_no (c := rdD) (tp := I1 700) (n := I1 699 1) (p := y2) (fun q => by have q1 := q.1; have q2 := rdD_iff.mp q.2; omega)).symm.trans (hx0.trans (by rw [eI])) | exact (rdW_s (by omega) (rdL_no (by omega)) (rdD_no (by omega))).symm | exact (rdW_n (by omega)).symm)⟩
        · intro c42
          refine And.intro ⟨rfl, by decide, by decide⟩ ?_
          refine fload1 rL_700_700_0_95_1_0 h0 hB0 ⟨by decide, by decide⟩ (by first | exact ⟨ha1.1, Int.le_trans (Int.le_sub_one_of_lt (Int.lt_of_lt_of_le c33 uz18)) (by decide)⟩ | omega) ?_
          intro z43 lz43 uz43 qz43
          refine Exists.intro xm_116 (And.intro mi_116 (And.intro ⟨rfl, rfl, rfl, rfl⟩ (And.intro True.intro ?_)))
          refine fcallp hB0 (ct_Tape_isDigit_a19bc (fBz h0 hB0) (by first | exact ⟨lz43, uz43⟩ | omega)) ?_
          rintro _ ⟨z44, rfl, hz44⟩
          refine And.intro (by omega) (And.intro ?_ ?_)
          · intro c45
            refine And.intro ⟨rfl, by decide, by decide⟩ (fgetf fb_699_1 h0 hB0 ?_)
            intro z46 lz46 uz46 qz46
            refine And.intro (And.intro (by first | exact fi_ ha1.1 (Int.le_sub_one_of_lt (Int.lt_of_lt_of_le c33 uz18)) rfl | omega) (by first | exact fi_ lz46 uz46 rfl | omega)) (And.intro ?_ ?_)
            · intro c47
              refine And.intro (True.intro) ?_
              exact ⟨_, rfl, (by first | exact ⟨ha1.1, Int.le_trans (Int.le_sub_one_of_lt (Int.lt_of_lt_of_le c33 uz18)) (by decide)⟩ | omega), (by first | exact (rdS_no (c := rdL) (tp := I1 700) (n := I1 699 1) (p := y2) (fun q => by have q1 := q.1; have q2 := rdL_iff.mp q.2; omega)).symm.trans (hx0.trans (by rw [eI])) | exact (rdS_no (c := rdD) (tp := I1 700) (n := I1 699 1) (p := y2) (fun q => by have q1 := q.1; have q2 := rdD_iff.mp q.2; omega)).symm.trans (hx0.trans (by rw [eI])) | exact (rdW_s (by omega) (rdL_no (by omega)) (rdD_no (by omega))).symm | exact (rdW_n (by omega)).symm)⟩
            · intro c48
              refine And.intro (True.intro) ?_
              exact ⟨_, rfl, by omega, (by first | exact (rdS_no (c := rdL) (tp := I1 700) (n := I1 699 1) (p := y2) (fun q => by have q1 := q.1; have q2 := rdL_iff.mp q.2; omega)).symm.trans (hx0.trans (by rw [eI])) | exact (rdS_no (c := rdD) (tp := I1 700) (n := I1 699 1) (p := y2) (fun q => by have q1 := q.1; have q2 := rdD_iff.mp q.2; omega)).symm.trans (hx0.trans (by rw [eI])) | exact (rdW_s (by omega) (rdL_no (by omega)) (rdD_no (by omega))).symm | exact (rdW_n (by omega)).symm)⟩
          · intro c49
            exact fcutJ (I := I) (j := (jc_Tape_behindWord_677ba_68 x1)) (lv' := [(0, .inr (.inr (some 699))), (2, .inl _)]) (And.intro rfl (And.intro rfl True.intro)) ⟨_, rfl, rfl, ⟨by omega, (rdW_D (by omega) (rdL_no (by omega)) (rdD_iff.mpr (by omega))).symm⟩, rfl⟩ (by omega)
      · intro c50
        exact fcutJ (I := I) (j := (jc_Tape_behindWord_677ba_22 x1)) (lv' := [(0, .inr (.inr (some 699))), (2, .inl _)]) (And.intro rfl (And.intro rfl True.intro)) ⟨_, rfl, rfl, ⟨by omega, (rdW_L (by omega) (rdL_iff.mpr (by omega))).symm⟩, rfl⟩ (by omega)
set_option maxRecDepth 8000 in
theorem ct_Tape_takeLeaf_f7912 {I : fH} {x1 : Int} (h0 : fB bsJ I) (ha1 : ((-2147483648) ≤ x1 ∧ x1 ≤ 2147483647)) (hp0 : I 699 4 < 96) (hp1 : 0 ≤ I 699 5 ∧ I 699 5 ≤ 96) : fC ρ base n F xTc vwCl xTys D dA la gJ (fbz bsJ znJ (fKc wz_7c541) I) xm_122 [.inr (.inr (some 699)), .inl x1] I (fun I' r => ∃ z, r = some (.inl z) ∧ ((0 ≤ z ∧ z ≤ 1) ∧ (z = 1 ∧ I' 699 4 = I 699 4 + 1 ∧ I' 699 5 = I 699 5 + 1 ∧ I' 699 10 = 0)) ∧ (cdX I' = x1 :: cdX I) ∧ (pdX I' = pdX I)) := by
  have hW : fzs wz_7c541 (fKc wz_7c541) := fKc_ok _
  refine f_meth (rb := rbJ) (J := []) 1 400 xG xin_122 x6_122 okJ (fB_self h0) ?_ ?_
  · exact fun q h => absurd h List.not_mem_nil
  · have hB0 := fB_self (zn := znJ) (K := fKc wz_7c541) h0
    refine And.intro ⟨rfl, by decide, by decide⟩ (fgetf fb_699_5 h0 hB0 ?_)
    intro z1 lz1 uz1 qz1
    intro z2 hz2 ez2 bz2
    clear ez2
    try replace bz2 := bz2 (by omega)
    refine And.intro ⟨rfl, by decide, by decide⟩ (And.intro rfl (And.intro (Or.inl rfl) (fputf fb_699_5 (by decide +kernel) hW (by omega) ?_)))
    intro IhB3 ehB3 hB3
    have t4 : IhB3 699 4 = I 699 4 := (congrFun (congrFun ehB3 699) 4).trans (fup_ne (by first | decide | omega))
    have t5 := fup_at ehB3 5 (by first | rfl | omega)
    have t6 : IhB3 699 10 = I 699 10 := (congrFun (congrFun ehB3 699) 10).trans (fup_ne (by first | decide | omega))
    refine And.intro ⟨rfl, by decide, by decide⟩ (And.intro rfl (And.intro (Or.inr ⟨rfl, by decide, by decide⟩) (fputf fb_699_10 (by decide +kernel) hW (by first | exact ⟨by decide, by decide⟩ | omega) ?_)))
    intro IhB7 ehB7 hB7
    have t8 : IhB7 699 4 = IhB3 699 4 := (congrFun (congrFun ehB7 699) 4).trans (fup_ne (by first | decide | omega))
    have t9 : IhB7 699 5 = IhB3 699 5 := (congrFun (congrFun ehB7 699) 5).trans (fup_ne (by first | decide | omega))
    have t10 := fup_at ehB7 10 (by first | rfl | omega)
    refine Exists.intro xm_123 (And.intro mi_123 (And.intro ⟨rfl, rfl, rfl, rfl⟩ (And.intro rfl ?_)))
    refine fcall _ h0 (fzs_sub (by decide +kernel) hW) hB7 (ct_Tape_emit_d6314 (fBz h0 hB7) (by first | exact ⟨ha1.1, ha1.2⟩ | omega) (by omega)) ?_
    rintro IhB12 _ hB12 fhB12 ⟨z11, rfl, hz11, g0z11, g1z11⟩
    have t13 := fhB12 699 5 (by decide +kernel)
    have t14 := fhB12 699 10 (by decide +kernel)
    refine And.intro (⟨by omega, by omega⟩) ?_
    exact ⟨_, rfl, by omega, (g0z11.trans (congrArg (List.cons x1) (rdl_same (fun j => ((fup_other ehB7 701 j (Or.inl (by decide))).trans (fup_other ehB3 701 j (Or.inl (by decide))))) ((fup_other ehB7 699 4 (Or.inr (by decide))).trans (fup_other ehB3 699 4 (Or.inr (by decide))))))), (g1z11.trans (rdl_same (fun j => ((fup_other ehB7 702 j (Or.inl (by decide))).trans (fup_other ehB3 702 j (Or.inl (by decide))))) ((fup_other ehB7 699 7 (Or.inr (by decide))).trans (fup_other ehB3 699 7 (Or.inr (by decide))))))⟩
abbrev jc_Tape_numberBetween_367a1_5 (x1 : Int) (x2 : Int) : Nat → fL → List fV → fH → Prop := fun m lv st I => ∃ (y2 : Int) (y3 : Int) (y4 : Int), lv = [(0, .inr (.inr (some 699))), (2, .inl y2), (3, .inl y3), (4, .inl y4)] ∧ st = [] ∧ (((0 ≤ y2 ∧ y2 ≤ 96) ∧ ((-2147483648) ≤ y3 ∧ y3 ≤ 2147483647) ∧ (0 ≤ y4 ∧ y4 ≤ 96) ∧ (y2 = x2) ∧ (y4 ≤ x2) ∧ ((y4 = x1 ∧ y3 = 0) ∨ (y4 = x1 + 1 ∧ -1000 ≤ y3 ∧ y3 ≤ 1000) ∨ (y4 = x1 + 2 ∧ -20000 ≤ y3 ∧ y3 ≤ 20000) ∨ (y4 = x1 + 3 ∧ -210000 ≤ y3 ∧ y3 ≤ 210000) ∨ (y4 = x1 + 4 ∧ -2200000 ≤ y3 ∧ y3 ≤ 2200000))) ∧ (y3 = rdV (I 700) x1 (y4 - x1).toNat)) ∧ m = (1 + 1 * (96 - y4) : Int).toNat
set_option maxRecDepth 8000 in
theorem ct_Tape_numberBetween_367a1 {I : fH} {x1 : Int} {x2 : Int} (h0 : fB bsJ I) (ha1 : (0 ≤ x1 ∧ x1 ≤ 95)) (ha2 : (0 ≤ x2 ∧ x2 ≤ 96)) (hp0 : x1 ≤ x2) (hp1 : x2 ≤ x1 + 4) : fC ρ base n F xTc vwCl xTys D dA la gJ (fbz bsJ znJ (fKc []) I) xm_124 [.inr (.inr (some 699)), .inl x1, .inl x2] I (fun _ r => ∃ z, r = some (.inl z) ∧ ((-2147483648) ≤ z ∧ z ≤ 2147483647) ∧ (z = rdV (I 700) x1 (x2 - x1).toNat)) := by
  have hW : fzs [] (fKc []) := fKc_ok _
  refine f_meth (rb := rbJ) (J := [(5, (jc_Tape_numberBetween_367a1_5 x1 x2))]) 98 400 xG xin_124 x6_124 okJ (fB_self h0) ?_ ?_
  · refine List.forall_mem_cons.mpr ⟨?_, fun q h => absurd h List.not_mem_nil⟩
    · rintro m _ _ I1 hB1 ⟨y2, y3, y4, rfl, rfl, ⟨hb, hx0⟩, hm⟩
      have eI : I1 = I := fFr_nil (fFr_of hB1)
      refine And.intro (And.intro (by first | exact fi_ hb.2.2.1.1 hb.2.2.1.2 rfl | omega) (by first | exact fi_ hb.1.1 hb.1.2 rfl | omega)) (And.intro ?_ ?_)
      · intro c1
        refine And.intro (True.intro) ?_
        exact ⟨_, rfl, (by first | exact ⟨hb.2.1.1, hb.2.1.2⟩ | omega), (by have q := hx0; rw [eI, show y4 = x2 by omega] at q; exact q)⟩
      · intro c2
        intro z3 hz3 ez3 bz3
        clear ez3
        try replace bz3 := bz3 (by omega)
        refine And.intro ⟨rfl, by decide, by decide⟩ ?_
        refine fload1 rL_700_700_0_95_1_0 h0 hB1 ⟨by decide, by decide⟩ (by first | exact ⟨hb.2.2.1.1, Int.le_trans (Int.le_sub_one_of_lt (Int.lt_of_lt_of_le c2 hb.1.2)) (by decide)⟩ | omega) ?_
        intro z4 lz4 uz4 qz4
        intro z5 hz5 ez5 bz5
        clear ez5
        try replace bz5 := bz5 (by omega)
        intro z6 hz6 ez6 bz6
        clear ez6
        try replace bz6 := bz6 (by omega)
        exact fcutJ (I := I1) (j := (jc_Tape_numberBetween_367a1_5 x1 x2)) (lv' := [(0, .inr (.inr (some 699))), (2, .inl _), (3, .inl _), (4, .inl _)]) (And.intro rfl (And.intro rfl (And.intro rfl (And.intro rfl True.intro)))) ⟨_, _, _, rfl, rfl, ⟨by omega, (rdV_go hx0 (by omega) (by omega) (fld_at qz4 _ (by omega)) (by omega))⟩, rfl⟩ (by omega)
  · have hB0 := fB_self (zn := znJ) (K := fKc []) h0
    exact fcutJ (I := I) (j := (jc_Tape_numberBetween_367a1_5 x1 x2)) (lv' := [(0, .inr (.inr (some 699))), (2, .inl _), (3, .inl _), (4, .inl _)]) (And.intro rfl (And.intro rfl (And.intro rfl (And.intro rfl True.intro)))) ⟨_, _, _, rfl, rfl, ⟨by omega, (by rw [show (x1 - x1).toNat = 0 by omega]; rfl)⟩, rfl⟩ (by omega)
abbrev jc_Tape_takePart_5edc5_25 (x1 : Int) (x2 : Int) (I0 : fH) : Nat → fL → List fV → fH → Prop := fun m lv st I => ∃ (y3 k : Int), lv = [(0, .inr (.inr (some 699))), (3, .inl y3)] ∧ st = [.inl k] ∧ (((97 ≤ y3 ∧ y3 ≤ 122) ∧ (97 ≤ y3) ∧ (y3 ≤ 122) ∧ (0 ≤ k) ∧ (k ≤ 5) ∧ (y3 = I0 700 x1.toNat) ∧ (x2 - x1 = 1) ∧ (k = I0 699 2)) ∧ (I = I0)) ∧ m = 0
set_option maxRecDepth 8000 in
theorem ct_Tape_takePart_5edc5 {I : fH} {x1 : Int} {x2 : Int} (h0 : fB bsJ I) (ha1 : (0 ≤ x1 ∧ x1 ≤ 95)) (ha2 : (0 ≤ x2 ∧ x2 ≤ 96)) (hp0 : I 699 7 + I 699 4 ≤ 95) (hp1 : I 699 9 = rdC 33 (pdX I)) (hp2 : I 699 8 = rdC 40 (pdX I)) (hp3 : rdA (pdX I)) (hp4 : 0 ≤ I 699 2 ∧ I 699 2 ≤ 5) (hp5 : 0 ≤ I 699 5 ∧ I 699 5 ≤ 96) (hp6 : x1 < x2 ∧ x1 < I 699 1 ∧ x2 ≤ 96) (hp7 : x2 = rdW (I 700) (I 699 1) x1) (hp8 : I 699 10 = 1) : fC ρ base n F xTc vwCl xTys D dA la gJ (fbz bsJ znJ (fKc wz_84be8) I) xm_120 [.inr (.inr (some 699)), .inl x1, .inl x2] I (fun I' r => ∃ z, r = some (.inl z) ∧ ((0 ≤ z ∧ z ≤ 1) ∧ (I' 699 7 + I' 699 4 ≤ I 699 7 + I 699 4 + 1 ∧ I' 699 5 ≤ I 699 5 + 1 ∧ I 699 5 ≤ I' 699 5 ∧ (I' 699 10 = 0 ∨ I' 699 10 = 1))) ∧ (z = 1 → rdEp (I 700) (I 699 1) (I 699 2) (pdX I) (cdX I) (I 699 5) x1 = some (pdX I', cdX I', I' 699 5, decide (I' 699 10 = 1))) ∧ (z = 0 → rdEp (I 700) (I 699 1) (I 699 2) (pdX I) (cdX I) (I 699 5) x1 = none) ∧ (z = 1 → I' 699 9 = rdC 33 (pdX I') ∧ I' 699 8 = rdC 40 (pdX I') ∧ rdA (pdX I'))) := by
  have hW : fzs wz_84be8 (fKc wz_84be8) := fKc_ok _
  refine f_methx (rb := rbJ) (J := [(25, (jc_Tape_takePart_5edc5_25 x1 x2 I))]) 1 400 xG xin_120 x6_120 okJ (fB_self h0) ?_ ?_
  · refine List.forall_mem_cons.mpr ⟨?_, fun q h => absurd h List.not_mem_nil⟩
    · rintro m _ _ I1 hB1 ⟨y3, k, rfl, rfl, ⟨hb, hx0⟩, hm⟩
      refine Or.inr (fun _ => fnames hB1 (by omega) (by omega) (fun r hr hn => ?_))
      have t8 : I1 699 8 = I 699 8 := by rw [hx0]
      have t9 : I1 699 9 = I 699 9 := by rw [hx0]
      have t5 : I1 699 5 = I 699 5 := by rw [hx0]
      have t4 : I1 699 4 = I 699 4 := by rw [hx0]
      have t7 : I1 699 7 = I 699 7 := by rw [hx0]
      have t10 : I1 699 10 = I 699 10 := by rw [hx0]
      have b1 := fBd fb_699_4 (fBz h0 hB1)
      have b2 := fBd fb_699_7 (fBz h0 hB1)
      refine And.intro (by omega) (And.intro ?_ ?_)
      · intro c3
        refine And.intro (⟨by omega, by omega⟩) ?_
        exact ⟨_, rfl, by omega, (by first | exact (fun q => absurd q (by omega)) | exact (fun _ => ep_name (f := y3) (by omega) hp7 (by omega) (by omega) (by rw [← (by omega : k = I 699 2)]; exact hn.mp (by omega)) (g1nil0.trans (by rw [hx0])) (g0nil0.trans (cons_eq (by omega) (by rw [hx0]))) (by omega) (by omega))), (by first | exact (fun q => absurd q (by omega)) | exact (fun _ => ep_name0 (f := y3) (by omega) hp7 (by omega) (fun q => absurd (hn.mpr (by rw [(by omega : k = I 699 2)]; exact q.2)) (by omega))) | exact (fun _ => ep_name0 qnil0 hp7 (by omega) (fun q => by have q1 := q.1; omega))), (by first | exact (fun q => absurd q (by omega)) | exact (fun _ => pt_leaf (g1nil0.trans (by rw [hx0])) hp1 (by omega) hp2 (by omega) hp3))⟩
      · intro c4
        refine Exists.intro xm_122 (And.intro mi_122 (And.intro ⟨rfl, rfl, rfl, rfl⟩ (And.intro rfl ?_)))
        refine fcall _ h0 (fzs_sub (by decide +kernel) hW) hB1 (ct_Tape_takeLeaf_f7912 (fBz h0 hB1) (by omega) (by omega) (by omega)) ?_
        rintro IhB6 _ hB6 fhB6 ⟨z5, rfl, hz5, g0z5, g1z5⟩
        have t7 := fhB6 699 2 (by decide +kernel)
        have t8 := fhB6 699 7 (by decide +kernel)
        have t9 := fhB6 699 8 (by decide +kernel)
        have t10 := fhB6 699 9 (by decide +kernel)
        refine And.intro (by omega) (And.intro ?_ ?_)
        · intro c11
          refine And.intro (⟨by omega, by omega⟩) ?_
          exact ⟨_, rfl, by omega, (by first | exact (fun q => absurd q (by omega)) | exact (fun _ => ep_name (f := y3) (by omega) hp7 (by omega) (by omega) (by rw [← (by omega : k = I 699 2)]; exact hn.mp (by omega)) (g1z5.trans (by rw [hx0])) (g0z5.trans (cons_eq (by omega) (by rw [hx0]))) (by omega) (by omega))), (by first | exact (fun q => absurd q (by omega)) | exact (fun _ => ep_name0 (f := y3) (by omega) hp7 (by omega) (fun q => absurd (hn.mpr (by rw [(by omega : k = I 699 2)]; exact q.2)) (by omega))) | exact (fun _ => ep_name0 qnil0 hp7 (by omega) (fun q => by have q1 := q.1; omega))), (by first | exact (fun q => absurd q (by omega)) | exact (fun _ => pt_leaf (g1z5.trans (by rw [hx0])) hp1 (by omega) hp2 (by omega) hp3))⟩
        · intro c12
          refine And.intro (⟨by decide, by decide⟩) ?_
          exact ⟨_, rfl, by omega, (by first | exact (fun q => absurd q (by omega)) | exact (fun _ => ep_name (f := y3) (by omega) hp7 (by omega) (by omega) (by rw [← (by omega : k = I 699 2)]; exact hn.mp (by omega)) (g1z5.trans (by rw [hx0])) (g0z5.trans (cons_eq (by omega) (by rw [hx0]))) (by omega) (by omega))), (by first | exact (fun q => absurd q (by omega)) | exact (fun _ => ep_name0 (f := y3) (by omega) hp7 (by omega) (fun q => absurd (hn.mpr (by rw [(by omega : k = I 699 2)]; exact q.2)) (by omega))) | exact (fun _ => ep_name0 qnil0 hp7 (by omega) (fun q => by have q1 := q.1; omega))), (by first | exact (fun q => absurd q (by omega)) | exact (fun _ => pt_leaf (g1z5.trans (by rw [hx0])) hp1 (by omega) hp2 (by omega) hp3))⟩
  · have hB0 := fB_self (zn := znJ) (K := fKc wz_84be8) h0
    have b13 := fBd fb_699_4 (fBz h0 hB0)
    have b14 := fBd fb_699_7 (fBz h0 hB0)
    refine And.intro ⟨rfl, by decide, by decide⟩ ?_
    refine fload1 rL_700_700_0_95_1_0 h0 hB0 ⟨by decide, by decide⟩ (by first | exact ⟨ha1.1, ha1.2⟩ | omega) ?_
    intro z15 lz15 uz15 qz15
    refine Exists.intro xm_115 (And.intro mi_115 (And.intro ⟨rfl, rfl, rfl, rfl⟩ (And.intro True.intro ?_)))
    refine fcallp hB0 (ct_Tape_isLetter_45e0a (fBz h0 hB0) (by first | exact ⟨lz15, uz15⟩ | omega)) ?_
    rintro _ ⟨z16, rfl, hz16⟩
    refine And.intro (by omega) (And.intro ?_ ?_)
    · intro c17
      refine Exists.intro xm_116 (And.intro mi_116 (And.intro ⟨rfl, rfl, rfl, rfl⟩ (And.intro True.intro ?_)))
      refine fcallp hB0 (ct_Tape_isDigit_a19bc (fBz h0 hB0) (by first | exact ⟨lz15, uz15⟩ | omega)) ?_
      rintro _ ⟨z18, rfl, hz18⟩
      refine And.intro (by omega) (And.intro ?_ ?_)
      · intro c19
        refine And.intro (And.intro (by first | exact fi_ lz15 uz15 rfl | omega) (by first | exact ⟨by decide, by decide⟩ | omega)) (And.intro ?_ ?_)
        · intro c20
          refine And.intro (And.intro (by first | exact fi_ lz15 uz15 rfl | omega) (by first | exact ⟨by decide, by decide⟩ | omega)) (And.intro ?_ ?_)
          · intro c21
            refine And.intro (⟨by decide, by decide⟩) ?_
            exact ⟨_, rfl, by omega, (fun q => absurd q (by omega)), (fun _ => ep_no qz15 (by omega) (by omega) (by omega) (by omega)), (fun q => absurd q (by omega))⟩
          · intro c22
            refine And.intro ⟨rfl, by decide, by decide⟩ (fgetf fb_699_9 h0 hB0 ?_)
            intro z23 lz23 uz23 qz23
            refine And.intro (And.intro (by first | exact fi_ lz23 uz23 rfl | omega) (by first | exact ⟨by decide, by decide⟩ | omega)) (And.intro ?_ ?_)
            · intro c24
              refine And.intro (⟨by decide, by decide⟩) ?_
              exact ⟨_, rfl, by omega, (fun q => absurd q (by omega)), (fun _ => ep_no qz15 (by omega) (by omega) (by omega) (by omega)), (fun q => absurd q (by omega))⟩
            · intro c25
              refine And.intro ⟨rfl, by decide, by decide⟩ (fgetf fb_699_9 h0 hB0 ?_)
              intro z26 lz26 uz26 qz26
              refine And.intro ⟨rfl, by decide, by decide⟩ (And.intro rfl (And.intro (Or.inl rfl) (fputf fb_699_9 (by decide +kernel) hW (by omega) ?_)))
              intro IhB27 ehB27 hB27
              have t28 : IhB27 699 2 = I 699 2 := (congrFun (congrFun ehB27 699) 2).trans (fup_ne (by first | decide | omega))
              have t29 : IhB27 699 4 = I 699 4 := (congrFun (congrFun ehB27 699) 4).trans (fup_ne (by first | decide | omega))
              have t30 : IhB27 699 5 = I 699 5 := (congrFun (congrFun ehB27 699) 5).trans (fup_ne (by first | decide | omega))
              have t31 : IhB27 699 7 = I 699 7 := (congrFun (congrFun ehB27 699) 7).trans (fup_ne (by first | decide | omega))
              have t32 : IhB27 699 8 = I 699 8 := (congrFun (congrFun ehB27 699) 8).trans (fup_ne (by first | decide | omega))
              have t33 := fup_at ehB27 9 (by first | rfl | omega)
              have t34 : IhB27 699 10 = I 699 10 := (congrFun (congrFun ehB27 699) 10).trans (fup_ne (by first | decide | omega))
              refine Exists.intro xm_125 (And.intro mi_125 (And.intro ⟨rfl, rfl, rfl, rfl⟩ (And.intro rfl ?_)))
              refine fcall _ h0 (fzs_sub (by decide +kernel) hW) hB27 (ct_Tape_push_d8da9 (fBz h0 hB27) (by first | exact ⟨Int.le_trans (by decide) (Int.le_trans (Int.le_refl _) (Int.le_of_eq c22.symm)), Int.le_trans (Int.le_trans (Int.le_of_eq c22) (Int.le_refl _)) (by decide)⟩ | omega) (by omega)) ?_
              rintro IhB36 _ hB36 fhB36 ⟨z35, rfl, hz35, g0z35, g1z35⟩
              have t37 := fhB36 699 2 (by decide +kernel)
              have t38 := fhB36 699 4 (by decide +kernel)
              have t39 := fhB36 699 5 (by decide +kernel)
              have t40 := fhB36 699 8 (by decide +kernel)
              have t41 := fhB36 699 9 (by decide +kernel)
              have t42 := fhB36 699 10 (by decide +kernel)
              refine And.intro (⟨by omega, by omega⟩) ?_
              exact ⟨_, rfl, by omega, (fun _ => ep_not qz15 (by omega) (by omega) (g0z35.trans (congrArg (List.cons _) (rdl_same (fun j => (fup_other ehB27 702 j (Or.inl (by decide)))) (fup_other ehB27 699 7 (Or.inr (by decide)))))) (g1z35.trans (rdl_same (fun j => (fup_other ehB27 701 j (Or.inl (by decide)))) (fup_other ehB27 699 4 (Or.inr (by decide))))) (by omega) (by omega)), (fun q => absurd q (by omega)), (fun _ => pt_not (by omega) (g0z35.trans (congrArg (List.cons _) (rdl_same (fun j => (fup_other ehB27 702 j (Or.inl (by decide)))) (fup_other ehB27 699 7 (Or.inr (by decide)))))) hp1 (by omega) hp2 (by omega) hp3)⟩
        · intro c43
          refine And.intro ⟨rfl, by decide, by decide⟩ (fgetf fb_699_8 h0 hB0 ?_)
          intro z44 lz44 uz44 qz44
          refine And.intro (And.intro (by first | exact fi_ lz44 uz44 rfl | omega) (by first | exact ⟨by decide, by decide⟩ | omega)) (And.intro ?_ ?_)
          · intro c45
            refine And.intro (And.intro (by first | exact fi_ (Int.le_trans (Int.le_refl _) (Int.le_of_eq c43.symm)) (Int.le_trans (Int.le_of_eq c43) (Int.le_refl _)) rfl | omega) (by first | exact ⟨by decide, by decide⟩ | omega)) (And.intro ?_ ?_)
            · intro c46
              refine And.intro (⟨by decide, by decide⟩) ?_
              exact ⟨_, rfl, by omega, (fun q => absurd q (by omega)), (fun _ => ep_no qz15 (by omega) (by omega) (by omega) (by omega)), (fun q => absurd q (by omega))⟩
            · intro c47
              refine And.intro ⟨rfl, by decide, by decide⟩ (fgetf fb_699_9 h0 hB0 ?_)
              intro z48 lz48 uz48 qz48
              refine And.intro (And.intro (by first | exact fi_ lz48 uz48 rfl | omega) (by first | exact ⟨by decide, by decide⟩ | omega)) (And.intro ?_ ?_)
              · intro c49
                refine And.intro (⟨by decide, by decide⟩) ?_
                exact ⟨_, rfl, by omega, (fun q => absurd q (by omega)), (fun _ => ep_no qz15 (by omega) (by omega) (by omega) (by omega)), (fun q => absurd q (by omega))⟩
              · intro c50
                refine And.intro ⟨rfl, by decide, by decide⟩ (fgetf fb_699_9 h0 hB0 ?_)
                intro z51 lz51 uz51 qz51
                refine And.intro ⟨rfl, by decide, by decide⟩ (And.intro rfl (And.intro (Or.inl rfl) (fputf fb_699_9 (by decide +kernel) hW (by omega) ?_)))
                intro IhB52 ehB52 hB52
                have t53 : IhB52 699 2 = I 699 2 := (congrFun (congrFun ehB52 699) 2).trans (fup_ne (by first | decide | omega))
                have t54 : IhB52 699 4 = I 699 4 := (congrFun (congrFun ehB52 699) 4).trans (fup_ne (by first | decide | omega))
                have t55 : IhB52 699 5 = I 699 5 := (congrFun (congrFun ehB52 699) 5).trans (fup_ne (by first | decide | omega))
                have t56 : IhB52 699 7 = I 699 7 := (congrFun (congrFun ehB52 699) 7).trans (fup_ne (by first | decide | omega))
                have t57 : IhB52 699 8 = I 699 8 := (congrFun (congrFun ehB52 699) 8).trans (fup_ne (by first | decide | omega))
                have t58 := fup_at ehB52 9 (by first | rfl | omega)
                have t59 : IhB52 699 10 = I 699 10 := (congrFun (congrFun ehB52 699) 10).trans (fup_ne (by first | decide | omega))
                refine Exists.intro xm_125 (And.intro mi_125 (And.intro ⟨rfl, rfl, rfl, rfl⟩ (And.intro rfl ?_)))
                refine fcall _ h0 (fzs_sub (by decide +kernel) hW) hB52 (ct_Tape_push_d8da9 (fBz h0 hB52) (by first | exact ⟨Int.le_trans (by decide) (Int.le_trans (Int.le_refl _) (Int.le_of_eq c43.symm)), Int.le_trans (Int.le_trans (Int.le_of_eq c47) (Int.le_refl _)) (by decide)⟩ | omega) (by omega)) ?_
                rintro IhB61 _ hB61 fhB61 ⟨z60, rfl, hz60, g0z60, g1z60⟩
                have t62 := fhB61 699 2 (by decide +kernel)
                have t63 := fhB61 699 4 (by decide +kernel)
                have t64 := fhB61 699 5 (by decide +kernel)
                have t65 := fhB61 699 8 (by decide +kernel)
                have t66 := fhB61 699 9 (by decide +kernel)
                have t67 := fhB61 699 10 (by decide +kernel)
                refine And.intro (⟨by omega, by omega⟩) ?_
                exact ⟨_, rfl, by omega, (fun _ => ep_not qz15 (by omega) (by omega) (g0z60.trans (congrArg (List.cons _) (rdl_same (fun j => (fup_other ehB52 702 j (Or.inl (by decide)))) (fup_other ehB52 699 7 (Or.inr (by decide)))))) (g1z60.trans (rdl_same (fun j => (fup_other ehB52 701 j (Or.inl (by decide)))) (fup_other ehB52 699 4 (Or.inr (by decide))))) (by omega) (by omega)), (fun q => absurd q (by omega)), (fun _ => pt_not (by omega) (g0z60.trans (congrArg (List.cons _) (rdl_same (fun j => (fup_other ehB52 702 j (Or.inl (by decide)))) (fup_other ehB52 699 7 (Or.inr (by decide)))))) hp1 (by omega) hp2 (by omega) hp3)⟩
          · intro c68
            refine And.intro ⟨rfl, by decide, by decide⟩ (fgetf fb_699_8 h0 hB0 ?_)
            intro z69 lz69 uz69 qz69
            refine And.intro ⟨rfl, by decide, by decide⟩ (And.intro rfl (And.intro (Or.inl rfl) (fputf fb_699_8 (by decide +kernel) hW (by omega) ?_)))
            intro IhB70 ehB70 hB70
            have t71 : IhB70 699 2 = I 699 2 := (congrFun (congrFun ehB70 699) 2).trans (fup_ne (by first | decide | omega))
            have t72 : IhB70 699 4 = I 699 4 := (congrFun (congrFun ehB70 699) 4).trans (fup_ne (by first | decide | omega))
            have t73 : IhB70 699 5 = I 699 5 := (congrFun (congrFun ehB70 699) 5).trans (fup_ne (by first | decide | omega))
            have t74 : IhB70 699 7 = I 699 7 := (congrFun (congrFun ehB70 699) 7).trans (fup_ne (by first | decide | omega))
            have t75 := fup_at ehB70 8 (by first | rfl | omega)
            have t76 : IhB70 699 9 = I 699 9 := (congrFun (congrFun ehB70 699) 9).trans (fup_ne (by first | decide | omega))
            have t77 : IhB70 699 10 = I 699 10 := (congrFun (congrFun ehB70 699) 10).trans (fup_ne (by first | decide | omega))
            refine Exists.intro xm_125 (And.intro mi_125 (And.intro ⟨rfl, rfl, rfl, rfl⟩ (And.intro rfl ?_)))
            refine fcall _ h0 (fzs_sub (by decide +kernel) hW) hB70 (ct_Tape_push_d8da9 (fBz h0 hB70) (by first | exact ⟨Int.le_trans (by decide) (Int.le_trans (Int.le_refl _) (Int.le_of_eq c43.symm)), Int.le_trans (Int.le_trans (Int.le_of_eq c43) (Int.le_refl _)) (by decide)⟩ | omega) (by omega)) ?_
            rintro IhB79 _ hB79 fhB79 ⟨z78, rfl, hz78, g0z78, g1z78⟩
            have t80 := fhB79 699 2 (by decide +kernel)
            have t81 := fhB79 699 4 (by decide +kernel)
            have t82 := fhB79 699 5 (by decide +kernel)
            have t83 := fhB79 699 8 (by decide +kernel)
            have t84 := fhB79 699 9 (by decide +kernel)
            have t85 := fhB79 699 10 (by decide +kernel)
            refine And.intro (⟨by omega, by omega⟩) ?_
            exact ⟨_, rfl, by omega, (fun _ => ep_bra qz15 (by omega) (by omega) (g0z78.trans (congrArg (List.cons _) (rdl_same (fun j => (fup_other ehB70 702 j (Or.inl (by decide)))) (fup_other ehB70 699 7 (Or.inr (by decide)))))) (g1z78.trans (rdl_same (fun j => (fup_other ehB70 701 j (Or.inl (by decide)))) (fup_other ehB70 699 4 (Or.inr (by decide))))) (by omega) (by omega)), (fun q => absurd q (by omega)), (fun _ => pt_bra (by omega) (g0z78.trans (congrArg (List.cons _) (rdl_same (fun j => (fup_other ehB70 702 j (Or.inl (by decide)))) (fup_other ehB70 699 7 (Or.inr (by decide)))))) hp1 (by omega) hp2 (by omega) hp3)⟩
      · intro c86
        refine And.intro (by omega) (And.intro ?_ ?_)
        · intro c87
          refine And.intro (⟨by omega, by omega⟩) ?_
          exact ⟨_, rfl, by omega, (by first | exact (fun q => absurd q (by omega)) | exact (fun _ => ep_num qz15 hp7 (by omega) (by omega) g0nil0 g1nil0 g0nil0 (by omega) (by omega))), (by first | exact (fun q => absurd q (by omega)) | exact (fun _ => ep_num0 qz15 hp7 (by omega) (by omega))), (by first | exact (fun q => absurd q (by omega)) | exact (fun _ => pt_leaf g1nil0 hp1 (by omega) hp2 (by omega) hp3))⟩
        · intro c88
          refine Exists.intro xm_124 (And.intro mi_124 (And.intro ⟨rfl, rfl, rfl, rfl⟩ (And.intro rfl ?_)))
          refine fcallp hB0 (ct_Tape_numberBetween_367a1 (fBz h0 hB0) (by first | exact ⟨ha1.1, ha1.2⟩ | omega) (by first | exact ⟨ha2.1, ha2.2⟩ | omega) (by omega) (by omega)) ?_
          rintro _ ⟨z89, rfl, hz89, g0z89⟩
          refine Exists.intro xm_122 (And.intro mi_122 (And.intro ⟨rfl, rfl, rfl, rfl⟩ (And.intro rfl ?_)))
          refine fcall _ h0 (fzs_sub (by decide +kernel) hW) hB0 (ct_Tape_takeLeaf_f7912 (fBz h0 hB0) (by first | exact ⟨hz89.1, hz89.2⟩ | omega) (by omega) (by omega)) ?_
          rintro IhB91 _ hB91 fhB91 ⟨z90, rfl, hz90, g0z90, g1z90⟩
          have t92 := fhB91 699 2 (by decide +kernel)
          have t93 := fhB91 699 7 (by decide +kernel)
          have t94 := fhB91 699 8 (by decide +kernel)
          have t95 := fhB91 699 9 (by decide +kernel)
          refine And.intro (by omega) (And.intro ?_ ?_)
          · intro c96
            refine And.intro (⟨by omega, by omega⟩) ?_
            exact ⟨_, rfl, by omega, (by first | exact (fun q => absurd q (by omega)) | exact (fun _ => ep_num qz15 hp7 (by omega) (by omega) g0z89 g1z90 g0z90 (by omega) (by omega))), (by first | exact (fun q => absurd q (by omega)) | exact (fun _ => ep_num0 qz15 hp7 (by omega) (by omega))), (by first | exact (fun q => absurd q (by omega)) | exact (fun _ => pt_leaf g1z90 hp1 (by omega) hp2 (by omega) hp3))⟩
          · intro c97
            refine And.intro (⟨by decide, by decide⟩) ?_
            exact ⟨_, rfl, by omega, (by first | exact (fun q => absurd q (by omega)) | exact (fun _ => ep_num qz15 hp7 (by omega) (by omega) g0z89 g1z90 g0z90 (by omega) (by omega))), (by first | exact (fun q => absurd q (by omega)) | exact (fun _ => ep_num0 qz15 hp7 (by omega) (by omega))), (by first | exact (fun q => absurd q (by omega)) | exact (fun _ => pt_leaf g1z90 hp1 (by omega) hp2 (by omega) hp3))⟩
    · intro c98
      refine And.intro (by omega) (And.intro ?_ ?_)
      · intro c99
        refine And.intro (⟨by omega, by omega⟩) ?_
        exact ⟨_, rfl, by omega, (by first | exact (fun q => absurd q (by omega)) | exact (fun _ => ep_name (f := y3) (by omega) hp7 (by omega) (by omega) (by rw [← (by omega : k = I 699 2)]; exact hn.mp (by omega)) (g1z5.trans (by rw [hx0])) (g0z5.trans (cons_eq (by omega) (by rw [hx0]))) (by omega) (by omega))), (by first | exact (fun q => absurd q (by omega)) | exact (fun _ => ep_name0 (f := y3) (by omega) hp7 (by omega) (fun q => absurd (hn.mpr (by rw [(by omega : k = I 699 2)]; exact q.2)) (by omega))) | exact (fun _ => ep_name0 qz15 hp7 (by omega) (fun q => by have q1 := q.1; omega))), (by first | exact (fun q => absurd q (by omega)) | exact (fun _ => pt_leaf (g1z5.trans (by rw [hx0])) hp1 (by omega) hp2 (by omega) hp3))⟩
      · intro c100
        refine And.intro ⟨rfl, by decide, by decide⟩ (fgetf fb_699_2 h0 hB0 ?_)
        intro z101 lz101 uz101 qz101
        exact fcutJ (I := I) (j := (jc_Tape_takePart_5edc5_25 x1 x2 I)) (lv' := [(0, .inr (.inr (some 699))), (3, .inl _)]) (And.intro rfl (And.intro rfl True.intro)) ⟨_, _, rfl, rfl, ⟨by omega, rfl⟩, rfl⟩ (by omega)
abbrev jc_Tape_compile_812f7_71 (I0 : fH) : Nat → fL → List fV → fH → Prop := fun m lv st I => ∃ (y1 : Int) (y2 : Int) (y3 : Int), lv = [(0, .inr (.inr (some 699))), (1, .inl y1), (2, .inl y2), (3, .inl y3)] ∧ st = [] ∧ (((0 ≤ y1 ∧ y1 ≤ 96) ∧ (0 ≤ y2 ∧ y2 ≤ 96) ∧ (0 ≤ y3 ∧ y3 ≤ 96) ∧ ((-1000000004) ≤ I 699 2 ∧ I 699 2 ≤ 5) ∧ (0 ≤ y1) ∧ (y1 ≤ I 699 1) ∧ (y3 ≤ y1) ∧ (I 699 7 + I 699 4 ≤ y1) ∧ (I 699 5 ≤ y1) ∧ (0 ≤ I 699 5) ∧ (0 ≤ I 699 2) ∧ (I 699 2 ≤ 5) ∧ (I 699 10 = 0 ∨ I 699 10 = 1)) ∧ (cpR I y2 y1 = cpM I y2) ∧ (I 699 9 = rdC 33 (pdX I)) ∧ (I 699 8 = rdC 40 (pdX I)) ∧ (rdA (pdX I)) ∧ (y2 = rdW (I0 700) (I0 699 1) (rdS rdB (I0 700) (I0 699 1) 0)) ∧ (rdk (I0 700) (rdS rdB (I0 700) (I0 699 1) 0) y2 (I 699 2))) ∧ m = (1 + 1 * (96 - y3) : Int).toNat
set_option maxRecDepth 8000 in
theorem ct_Tape_compile_812f7 {I : fH}  (h0 : fB bsJ I)  : fC ρ base n F xTc vwCl xTys D dA la gJ (fbz bsJ znJ (fKc wz_4a62a) I) xm_112 [.inr (.inr (some 699))] I (fun I' r => ∃ z, r = some (.inl z) ∧ ((0 ≤ z ∧ z ≤ 96) ∨ z = (-1000000005)) ∧ (cpX (I 700) (I 699 1) z (cdX I') (I' 699 5) (I' 699 2))) := by
  have hW : fzs wz_4a62a (fKc wz_4a62a) := fKc_ok _
  refine f_meth (rb := rbJ) (J := [(71, (jc_Tape_compile_812f7_71 I))]) 98 400 xG xin_112 x6_112 okJ (fB_self h0) ?_ ?_
  · refine List.forall_mem_cons.mpr ⟨?_, fun q h => absurd h List.not_mem_nil⟩
    · rintro m _ _ I1 hB1 ⟨y1, y2, y3, rfl, rfl, ⟨hb, hx0, hx1, hx2, hx3, hx4, hx5⟩, hm⟩
      have k1 := fBz_eq hB1 (a := 699) (j := 1) (by decide +kernel)
      have b2 := fBd fb_699_1 (fBz h0 hB1)
      have b3 := fBd fb_699_4 (fBz h0 hB1)
      have b4 := fBd fb_699_7 (fBz h0 hB1)
      have b5 := fBd fb_699_10 (fBz h0 hB1)
      have e7 : I1 700 = I 700 := funext (fFr_at (fFr_of hB1) 700 (by decide +kernel) rfl)
      have e1 : I1 699 1 = I 699 1 := fBz_eq hB1 (by decide +kernel)
      have c40 := rdC_0 40 (pdX I1)
      have c33 := rdC_0 33 (pdX I1)
      refine And.intro (And.intro (by first | exact fi_ hb.2.2.1.1 hb.2.2.1.2 rfl | omega) (by first | exact ⟨by decide, by decide⟩ | omega)) (And.intro ?_ ?_)
      · intro c6
        refine And.intro ⟨rfl, by decide, by decide⟩ (fgetf fb_699_10 h0 hB1 ?_)
        intro z7 lz7 uz7 qz7
        refine And.intro (by first | exact fi_ lz7 uz7 rfl | omega) (And.intro ?_ ?_)
        · intro c8
          refine And.intro ⟨rfl, by decide, by decide⟩ (fgetf fb_699_1 h0 hB1 ?_)
          intro z9 lz9 uz9 qz9
          refine And.intro (True.intro) ?_
          exact ⟨_, rfl, by omega, (cpX_bad (J := I1) e7 e1 hx4 hx5 (by omega) (by omega) hx0 (by omega)  ((cp_end (by omega) (by omega)).trans (by omega)))⟩
        · intro c10
          refine And.intro ⟨rfl, by decide, by decide⟩ (fgetf fb_699_8 h0 hB1 ?_)
          intro z11 lz11 uz11 qz11
          refine And.intro (by first | exact fi_ lz11 uz11 rfl | omega) (And.intro ?_ ?_)
          · intro c12
            refine Exists.intro xm_128 (And.intro mi_128 (And.intro ⟨rfl, rfl, rfl, rfl⟩ (And.intro rfl ?_)))
            refine fcall _ h0 (fzs_sub (by decide +kernel) hW) hB1 (ct_Tape_settle_fab00 (fBz h0 hB1) (by first | exact ⟨by decide, by decide⟩ | omega) (by omega) hx1) ?_
            rintro IhB14 _ hB14 fhB14 ⟨rfl, hz13, g0z13, g1z13⟩
            have t15 := fhB14 699 2 (by decide +kernel)
            have t16 := fhB14 699 5 (by decide +kernel)
            have t17 := fhB14 699 8 (by decide +kernel)
            have t18 := fhB14 699 10 (by decide +kernel)
            have k19 := fBz_eq hB14 (a := 699) (j := 1) (by decide +kernel)
            refine And.intro (True.intro) ?_
            exact ⟨_, rfl, by omega, (cpX_ok (J := I1) e7 e1 hx4 hx5 (by omega) (by omega) hx0 (by omega) ((cp_ok (by omega) (by omega) (by omega)).trans (cp_fin (S := IhB14) g0z13 (by omega))))⟩
          · intro c20
            refine And.intro ⟨rfl, by decide, by decide⟩ (fgetf fb_699_1 h0 hB1 ?_)
            intro z21 lz21 uz21 qz21
            refine And.intro (True.intro) ?_
            exact ⟨_, rfl, by omega, (cpX_bad (J := I1) e7 e1 hx4 hx5 (by omega) (by omega) hx0 (by omega)  ((cp_end (by omega) (by omega)).trans (by omega)))⟩
      · intro c22
        refine And.intro ⟨rfl, by decide, by decide⟩ (fgetf fb_699_1 h0 hB1 ?_)
        intro z23 lz23 uz23 qz23
        refine And.intro (And.intro (by first | exact fi_ hb.1.1 hb.1.2 rfl | omega) (by first | exact fi_ lz23 uz23 rfl | omega)) (And.intro ?_ ?_)
        · intro c24
          refine And.intro ⟨rfl, by decide, by decide⟩ (fgetf fb_699_10 h0 hB1 ?_)
          intro z25 lz25 uz25 qz25
          refine And.intro (by first | exact fi_ lz25 uz25 rfl | omega) (And.intro ?_ ?_)
          · intro c26
            refine And.intro ⟨rfl, by decide, by decide⟩ (fgetf fb_699_1 h0 hB1 ?_)
            intro z27 lz27 uz27 qz27
            refine And.intro (True.intro) ?_
            exact ⟨_, rfl, by omega, (cpX_bad (J := I1) e7 e1 hx4 hx5 (by omega) (by omega) hx0 (by omega)  ((cp_end (by omega) (by omega)).trans (by omega)))⟩
          · intro c28
            refine And.intro ⟨rfl, by decide, by decide⟩ (fgetf fb_699_8 h0 hB1 ?_)
            intro z29 lz29 uz29 qz29
            refine And.intro (by first | exact fi_ lz29 uz29 rfl | omega) (And.intro ?_ ?_)
            · intro c30
              refine Exists.intro xm_128 (And.intro mi_128 (And.intro ⟨rfl, rfl, rfl, rfl⟩ (And.intro rfl ?_)))
              refine fcall _ h0 (fzs_sub (by decide +kernel) hW) hB1 (ct_Tape_settle_fab00 (fBz h0 hB1) (by first | exact ⟨by decide, by decide⟩ | omega) (by omega) hx1) ?_
              rintro IhB32 _ hB32 fhB32 ⟨rfl, hz31, g0z31, g1z31⟩
              have t33 := fhB32 699 2 (by decide +kernel)
              have t34 := fhB32 699 5 (by decide +kernel)
              have t35 := fhB32 699 8 (by decide +kernel)
              have t36 := fhB32 699 10 (by decide +kernel)
              have k37 := fBz_eq hB32 (a := 699) (j := 1) (by decide +kernel)
              refine And.intro (True.intro) ?_
              exact ⟨_, rfl, by omega, (cpX_ok (J := I1) e7 e1 hx4 hx5 (by omega) (by omega) hx0 (by omega) ((cp_ok (by omega) (by omega) (by omega)).trans (cp_fin (S := IhB32) g0z31 (by omega))))⟩
            · intro c38
              refine And.intro ⟨rfl, by decide, by decide⟩ (fgetf fb_699_1 h0 hB1 ?_)
              intro z39 lz39 uz39 qz39
              refine And.intro (True.intro) ?_
              exact ⟨_, rfl, by omega, (cpX_bad (J := I1) e7 e1 hx4 hx5 (by omega) (by omega) hx0 (by omega)  ((cp_end (by omega) (by omega)).trans (by omega)))⟩
        · intro c40
          refine And.intro (And.intro (by first | exact fi_ hb.1.1 (Int.le_sub_one_of_lt (Int.lt_of_lt_of_le c40 uz23)) rfl | omega) (by first | exact fi_ hb.2.1.1 hb.2.1.2 rfl | omega)) (And.intro ?_ ?_)
          · intro c41
            refine Exists.intro xm_114 (And.intro mi_114 (And.intro ⟨rfl, rfl, rfl, rfl⟩ (And.intro rfl ?_)))
            refine fcallp hB1 (ct_Tape_behindWord_677ba (fBz h0 hB1) (by first | exact ⟨hb.1.1, Int.le_trans (Int.le_sub_one_of_lt (Int.lt_of_lt_of_le c40 uz23)) (by decide)⟩ | omega)) ?_
            rintro _ ⟨z42, rfl, hz42, g0z42⟩
            have w111 := rdW_bd (tp := I1 700) (n := I1 699 1) (p := y1) (by omega)
            rw [← g0z42] at w111
            refine And.intro (by omega) (And.intro ?_ ?_)
            · intro c43
              refine And.intro (True.intro) ?_
              exact ⟨_, rfl, by omega, (by first | exact cpX_bad (J := I1) e7 e1 hx4 hx5 (by omega) (by omega) hx0 (by omega) (rdM_bad (by omega) ((cp_due (by omega)).trans (g1nil0 (by omega)))) | exact cpX_bad (J := I1) e7 e1 hx4 hx5 (by omega) (by omega) hx0 (by omega) (rdM_bad (by omega) ((cp_sgn (by omega)).trans (by rw [← qnil0]; exact g1nil0 (by omega)))) | exact cpX_bad (J := I1) e7 e1 hx4 hx5 (by omega) (by omega) hx0 (by omega) (rdM_glue (by omega) ⟨by omega, rdD_iff.mpr (by omega)⟩))⟩
            · intro c44
              refine And.intro ⟨rfl, by decide, by decide⟩ (fgetf fb_699_10 h0 hB1 ?_)
              intro z45 lz45 uz45 qz45
              refine And.intro (by first | exact fi_ lz45 uz45 rfl | omega) (And.intro ?_ ?_)
              · intro c46
                refine And.intro ⟨rfl, by decide, by decide⟩ ?_
                refine fload1 rL_700_700_0_95_1_0 h0 hB1 ⟨by decide, by decide⟩ (by first | exact ⟨hb.1.1, Int.le_trans (Int.le_sub_one_of_lt (Int.lt_of_lt_of_le c40 uz23)) (by decide)⟩ | omega) ?_
                intro z47 lz47 uz47 qz47
                refine Exists.intro xm_126 (And.intro mi_126 (And.intro ⟨rfl, rfl, rfl, rfl⟩ (And.intro rfl ?_)))
                refine fcall _ h0 (fzs_sub (by decide +kernel) hW) hB1 (ct_Tape_takeSign_f125c (fBz h0 hB1) (by first | exact ⟨lz47, uz47⟩ | omega) (by omega) hx1 hx2 hx3 (by omega)) ?_
                rintro IhB49 _ hB49 fhB49 ⟨z48, rfl, hz48, g0z48, g1z48, g2z48⟩
                have t50 := fhB49 699 1 (by decide +kernel)
                have t51 := fhB49 699 2 (by decide +kernel)
                have t52 := fhB49 699 5 (by decide +kernel)
                have k53 := fBz_eq hB49 (a := 699) (j := 1) (by decide +kernel)
                refine And.intro (by omega) (And.intro ?_ ?_)
                · intro c54
                  refine Exists.intro xm_113 (And.intro mi_113 (And.intro ⟨rfl, rfl, rfl, rfl⟩ (And.intro rfl ?_)))
                  refine fcallp hB49 (ct_Tape_behindBlanks_aea90 (fBz h0 hB49) (by first | exact ⟨hz42.1, hz42.2⟩ | omega)) ?_
                  rintro _ ⟨z55, rfl, hz55, g0z55⟩
                  have r159 := rdS_ge (c := rdB) (tp := IhB49 700) (n := IhB49 699 1) (p := z42)
                  have s159 := rdS_le (c := rdB) (tp := IhB49 700) (n := IhB49 699 1) (p := z42) (by omega)
                  rw [← g0z55] at r159 s159
                  exact fcutJ (I := IhB49) (j := (jc_Tape_compile_812f7_71 I)) (lv' := [(0, .inr (.inr (some 699))), (1, .inl _), (2, .inl _), (3, .inl _)]) (And.intro rfl (And.intro rfl (And.intro rfl (And.intro rfl True.intro)))) ⟨_, _, _, rfl, rfl, ⟨by omega, (by first | exact cp_step (J := I1) (K := Inil0) hx0 (fFr_at fnil0 700 (by decide +kernel) rfl) (by omega) (by omega) (by omega) (fun q => by have q1 := q.1; have q2 := rdD_iff.mp q.2; omega) ((cp_due (by omega)).trans (g0nil0 (by omega))) g0z42 g0z55 | exact cp_step (J := I1) (K := IhB49) hx0 (fFr_at fhB49 700 (by decide +kernel) rfl) (by omega) (by omega) (by omega) (fun q => by have q1 := q.1; have q2 := rdD_iff.mp q.2; omega) ((cp_sgn (by omega)).trans (by rw [← qz47]; exact g0z48 (by omega))) g0z42 g0z55), (by first | exact (g2nil0 (by omega)).1 | exact (g2z48 (by omega)).1), (by first | exact (g2nil0 (by omega)).2.1 | exact (g2z48 (by omega)).2.1), (by first | exact (g2nil0 (by omega)).2.2 | exact (g2z48 (by omega)).2.2), hx4, (by rw [(by omega : IhB49 699 2 = I1 699 2)]; exact hx5)⟩, rfl⟩ (by omega)
                · intro c56
                  refine And.intro (True.intro) ?_
                  exact ⟨_, rfl, by omega, (by first | exact cpX_bad (J := I1) e7 e1 hx4 hx5 (by omega) (by omega) hx0 (by omega) (rdM_bad (by omega) ((cp_due (by omega)).trans (g1nil0 (by omega)))) | exact cpX_bad (J := I1) e7 e1 hx4 hx5 (by omega) (by omega) hx0 (by omega) (rdM_bad (by omega) ((cp_sgn (by omega)).trans (by rw [← qz47]; exact g1z48 (by omega)))) | exact cpX_bad (J := I1) e7 e1 hx4 hx5 (by omega) (by omega) hx0 (by omega) (rdM_glue (by omega) ⟨by omega, rdD_iff.mpr (by omega)⟩))⟩
              · intro c57
                refine Exists.intro xm_120 (And.intro mi_120 (And.intro ⟨rfl, rfl, rfl, rfl⟩ (And.intro rfl ?_)))
                refine fcall _ h0 (fzs_sub (by decide +kernel) hW) hB1 (ct_Tape_takePart_5edc5 (fBz h0 hB1) (by first | exact ⟨hb.1.1, Int.le_trans (Int.le_sub_one_of_lt (Int.lt_of_lt_of_le c40 uz23)) (by decide)⟩ | omega) (by first | exact ⟨hz42.1, hz42.2⟩ | omega) (by omega) hx1 hx2 hx3 (by omega) (by omega) (by omega) g0z42 (by omega)) ?_
                rintro IhB59 _ hB59 fhB59 ⟨z58, rfl, hz58, g0z58, g1z58, g2z58⟩
                have t60 := fhB59 699 1 (by decide +kernel)
                have t61 := fhB59 699 2 (by decide +kernel)
                have k62 := fBz_eq hB59 (a := 699) (j := 1) (by decide +kernel)
                refine And.intro (by omega) (And.intro ?_ ?_)
                · intro c63
                  refine And.intro (True.intro) ?_
                  exact ⟨_, rfl, by omega, (by first | exact cpX_bad (J := I1) e7 e1 hx4 hx5 (by omega) (by omega) hx0 (by omega) (rdM_bad (by omega) ((cp_due (by omega)).trans (g1z58 (by omega)))) | exact cpX_bad (J := I1) e7 e1 hx4 hx5 (by omega) (by omega) hx0 (by omega) (rdM_bad (by omega) ((cp_sgn (by omega)).trans (by rw [← qz47]; exact g1z48 (by omega)))) | exact cpX_bad (J := I1) e7 e1 hx4 hx5 (by omega) (by omega) hx0 (by omega) (rdM_glue (by omega) ⟨by omega, rdD_iff.mpr (by omega)⟩))⟩
                · intro c64
                  refine Exists.intro xm_113 (And.intro mi_113 (And.intro ⟨rfl, rfl, rfl, rfl⟩ (And.intro rfl ?_)))
                  refine fcallp hB59 (ct_Tape_behindBlanks_aea90 (fBz h0 hB59) (by first | exact ⟨hz42.1, hz42.2⟩ | omega)) ?_
                  rintro _ ⟨z65, rfl, hz65, g0z65⟩
                  have r159 := rdS_ge (c := rdB) (tp := IhB59 700) (n := IhB59 699 1) (p := z42)
                  have s159 := rdS_le (c := rdB) (tp := IhB59 700) (n := IhB59 699 1) (p := z42) (by omega)
                  rw [← g0z65] at r159 s159
                  exact fcutJ (I := IhB59) (j := (jc_Tape_compile_812f7_71 I)) (lv' := [(0, .inr (.inr (some 699))), (1, .inl _), (2, .inl _), (3, .inl _)]) (And.intro rfl (And.intro rfl (And.intro rfl (And.intro rfl True.intro)))) ⟨_, _, _, rfl, rfl, ⟨by omega, (by first | exact cp_step (J := I1) (K := IhB59) hx0 (fFr_at fhB59 700 (by decide +kernel) rfl) (by omega) (by omega) (by omega) (fun q => by have q1 := q.1; have q2 := rdD_iff.mp q.2; omega) ((cp_due (by omega)).trans (g0z58 (by omega))) g0z42 g0z65 | exact cp_step (J := I1) (K := IhB49) hx0 (fFr_at fhB49 700 (by decide +kernel) rfl) (by omega) (by omega) (by omega) (fun q => by have q1 := q.1; have q2 := rdD_iff.mp q.2; omega) ((cp_sgn (by omega)).trans (by rw [← qz47]; exact g0z48 (by omega))) g0z42 g0z65), (by first | exact (g2z58 (by omega)).1 | exact (g2z48 (by omega)).1), (by first | exact (g2z58 (by omega)).2.1 | exact (g2z48 (by omega)).2.1), (by first | exact (g2z58 (by omega)).2.2 | exact (g2z48 (by omega)).2.2), hx4, (by rw [(by omega : IhB59 699 2 = I1 699 2)]; exact hx5)⟩, rfl⟩ (by omega)
          · intro c66
            refine And.intro ⟨rfl, by decide, by decide⟩ ?_
            refine fload1 rL_700_700_0_95_1_0 h0 hB1 ⟨by decide, by decide⟩ (by first | exact ⟨hb.1.1, Int.le_trans (Int.le_sub_one_of_lt (Int.lt_of_lt_of_le c40 uz23)) (by decide)⟩ | omega) ?_
            intro z67 lz67 uz67 qz67
            refine Exists.intro xm_116 (And.intro mi_116 (And.intro ⟨rfl, rfl, rfl, rfl⟩ (And.intro True.intro ?_)))
            refine fcallp hB1 (ct_Tape_isDigit_a19bc (fBz h0 hB1) (by first | exact ⟨lz67, uz67⟩ | omega)) ?_
            rintro _ ⟨z68, rfl, hz68⟩
            refine And.intro (by omega) (And.intro ?_ ?_)
            · intro c69
              refine Exists.intro xm_114 (And.intro mi_114 (And.intro ⟨rfl, rfl, rfl, rfl⟩ (And.intro rfl ?_)))
              refine fcallp hB1 (ct_Tape_behindWord_677ba (fBz h0 hB1) (by first | exact ⟨hb.1.1, Int.le_trans (Int.le_sub_one_of_lt (Int.lt_of_lt_of_le c40 uz23)) (by decide)⟩ | omega)) ?_
              rintro _ ⟨z70, rfl, hz70, g0z70⟩
              have w111 := rdW_bd (tp := I1 700) (n := I1 699 1) (p := y1) (by omega)
              rw [← g0z70] at w111
              refine And.intro (by omega) (And.intro ?_ ?_)
              · intro c71
                refine And.intro (True.intro) ?_
                exact ⟨_, rfl, by omega, (by first | exact cpX_bad (J := I1) e7 e1 hx4 hx5 (by omega) (by omega) hx0 (by omega) (rdM_bad (by omega) ((cp_due (by omega)).trans (g1z58 (by omega)))) | exact cpX_bad (J := I1) e7 e1 hx4 hx5 (by omega) (by omega) hx0 (by omega) (rdM_bad (by omega) ((cp_sgn (by omega)).trans (by rw [← qz47]; exact g1z48 (by omega)))) | exact cpX_bad (J := I1) e7 e1 hx4 hx5 (by omega) (by omega) hx0 (by omega) (rdM_glue (by omega) ⟨by omega, rdD_iff.mpr (by omega)⟩))⟩
              · intro c72
                refine And.intro ⟨rfl, by decide, by decide⟩ (fgetf fb_699_10 h0 hB1 ?_)
                intro z73 lz73 uz73 qz73
                refine And.intro (by first | exact fi_ lz73 uz73 rfl | omega) (And.intro ?_ ?_)
                · intro c74
                  refine And.intro ⟨rfl, by decide, by decide⟩ ?_
                  refine fload1 rL_700_700_0_95_1_0 h0 hB1 ⟨by decide, by decide⟩ (by first | exact ⟨hb.1.1, Int.le_trans (Int.le_sub_one_of_lt (Int.lt_of_lt_of_le c40 uz23)) (by decide)⟩ | omega) ?_
                  intro z75 lz75 uz75 qz75
                  refine Exists.intro xm_126 (And.intro mi_126 (And.intro ⟨rfl, rfl, rfl, rfl⟩ (And.intro rfl ?_)))
                  refine fcall _ h0 (fzs_sub (by decide +kernel) hW) hB1 (ct_Tape_takeSign_f125c (fBz h0 hB1) (by first | exact ⟨lz75, uz75⟩ | omega) (by omega) hx1 hx2 hx3 (by omega)) ?_
                  rintro IhB77 _ hB77 fhB77 ⟨z76, rfl, hz76, g0z76, g1z76, g2z76⟩
                  have t78 := fhB77 699 1 (by decide +kernel)
                  have t79 := fhB77 699 2 (by decide +kernel)
                  have t80 := fhB77 699 5 (by decide +kernel)
                  have k81 := fBz_eq hB77 (a := 699) (j := 1) (by decide +kernel)
                  refine And.intro (by omega) (And.intro ?_ ?_)
                  · intro c82
                    refine Exists.intro xm_113 (And.intro mi_113 (And.intro ⟨rfl, rfl, rfl, rfl⟩ (And.intro rfl ?_)))
                    refine fcallp hB77 (ct_Tape_behindBlanks_aea90 (fBz h0 hB77) (by first | exact ⟨hz70.1, hz70.2⟩ | omega)) ?_
                    rintro _ ⟨z83, rfl, hz83, g0z83⟩
                    have r159 := rdS_ge (c := rdB) (tp := IhB77 700) (n := IhB77 699 1) (p := z70)
                    have s159 := rdS_le (c := rdB) (tp := IhB77 700) (n := IhB77 699 1) (p := z70) (by omega)
                    rw [← g0z83] at r159 s159
                    exact fcutJ (I := IhB77) (j := (jc_Tape_compile_812f7_71 I)) (lv' := [(0, .inr (.inr (some 699))), (1, .inl _), (2, .inl _), (3, .inl _)]) (And.intro rfl (And.intro rfl (And.intro rfl (And.intro rfl True.intro)))) ⟨_, _, _, rfl, rfl, ⟨by omega, (by first | exact cp_step (J := I1) (K := IhB59) hx0 (fFr_at fhB59 700 (by decide +kernel) rfl) (by omega) (by omega) (by omega) (fun q => by have q1 := q.1; have q2 := rdD_iff.mp q.2; omega) ((cp_due (by omega)).trans (g0z58 (by omega))) g0z70 g0z83 | exact cp_step (J := I1) (K := IhB77) hx0 (fFr_at fhB77 700 (by decide +kernel) rfl) (by omega) (by omega) (by omega) (fun q => by have q1 := q.1; have q2 := rdD_iff.mp q.2; omega) ((cp_sgn (by omega)).trans (by rw [← qz75]; exact g0z76 (by omega))) g0z70 g0z83), (by first | exact (g2z58 (by omega)).1 | exact (g2z76 (by omega)).1), (by first | exact (g2z58 (by omega)).2.1 | exact (g2z76 (by omega)).2.1), (by first | exact (g2z58 (by omega)).2.2 | exact (g2z76 (by omega)).2.2), hx4, (by rw [(by omega : IhB77 699 2 = I1 699 2)]; exact hx5)⟩, rfl⟩ (by omega)
                  · intro c84
                    refine And.intro (True.intro) ?_
                    exact ⟨_, rfl, by omega, (by first | exact cpX_bad (J := I1) e7 e1 hx4 hx5 (by omega) (by omega) hx0 (by omega) (rdM_bad (by omega) ((cp_due (by omega)).trans (g1z58 (by omega)))) | exact cpX_bad (J := I1) e7 e1 hx4 hx5 (by omega) (by omega) hx0 (by omega) (rdM_bad (by omega) ((cp_sgn (by omega)).trans (by rw [← qz75]; exact g1z76 (by omega)))) | exact cpX_bad (J := I1) e7 e1 hx4 hx5 (by omega) (by omega) hx0 (by omega) (rdM_glue (by omega) ⟨by omega, rdD_iff.mpr (by omega)⟩))⟩
                · intro c85
                  refine Exists.intro xm_120 (And.intro mi_120 (And.intro ⟨rfl, rfl, rfl, rfl⟩ (And.intro rfl ?_)))
                  refine fcall _ h0 (fzs_sub (by decide +kernel) hW) hB1 (ct_Tape_takePart_5edc5 (fBz h0 hB1) (by first | exact ⟨hb.1.1, Int.le_trans (Int.le_sub_one_of_lt (Int.lt_of_lt_of_le c40 uz23)) (by decide)⟩ | omega) (by first | exact ⟨hz70.1, hz70.2⟩ | omega) (by omega) hx1 hx2 hx3 (by omega) (by omega) (by omega) g0z70 (by omega)) ?_
                  rintro IhB87 _ hB87 fhB87 ⟨z86, rfl, hz86, g0z86, g1z86, g2z86⟩
                  have t88 := fhB87 699 1 (by decide +kernel)
                  have t89 := fhB87 699 2 (by decide +kernel)
                  have k90 := fBz_eq hB87 (a := 699) (j := 1) (by decide +kernel)
                  refine And.intro (by omega) (And.intro ?_ ?_)
                  · intro c91
                    refine And.intro (True.intro) ?_
                    exact ⟨_, rfl, by omega, (by first | exact cpX_bad (J := I1) e7 e1 hx4 hx5 (by omega) (by omega) hx0 (by omega) (rdM_bad (by omega) ((cp_due (by omega)).trans (g1z86 (by omega)))) | exact cpX_bad (J := I1) e7 e1 hx4 hx5 (by omega) (by omega) hx0 (by omega) (rdM_bad (by omega) ((cp_sgn (by omega)).trans (by rw [← qz75]; exact g1z76 (by omega)))) | exact cpX_bad (J := I1) e7 e1 hx4 hx5 (by omega) (by omega) hx0 (by omega) (rdM_glue (by omega) ⟨by omega, rdD_iff.mpr (by omega)⟩))⟩
                  · intro c92
                    refine Exists.intro xm_113 (And.intro mi_113 (And.intro ⟨rfl, rfl, rfl, rfl⟩ (And.intro rfl ?_)))
                    refine fcallp hB87 (ct_Tape_behindBlanks_aea90 (fBz h0 hB87) (by first | exact ⟨hz70.1, hz70.2⟩ | omega)) ?_
                    rintro _ ⟨z93, rfl, hz93, g0z93⟩
                    have r159 := rdS_ge (c := rdB) (tp := IhB87 700) (n := IhB87 699 1) (p := z70)
                    have s159 := rdS_le (c := rdB) (tp := IhB87 700) (n := IhB87 699 1) (p := z70) (by omega)
                    rw [← g0z93] at r159 s159
                    exact fcutJ (I := IhB87) (j := (jc_Tape_compile_812f7_71 I)) (lv' := [(0, .inr (.inr (some 699))), (1, .inl _), (2, .inl _), (3, .inl _)]) (And.intro rfl (And.intro rfl (And.intro rfl (And.intro rfl True.intro)))) ⟨_, _, _, rfl, rfl, ⟨by omega, (by first | exact cp_step (J := I1) (K := IhB87) hx0 (fFr_at fhB87 700 (by decide +kernel) rfl) (by omega) (by omega) (by omega) (fun q => by have q1 := q.1; have q2 := rdD_iff.mp q.2; omega) ((cp_due (by omega)).trans (g0z86 (by omega))) g0z70 g0z93 | exact cp_step (J := I1) (K := IhB77) hx0 (fFr_at fhB77 700 (by decide +kernel) rfl) (by omega) (by omega) (by omega) (fun q => by have q1 := q.1; have q2 := rdD_iff.mp q.2; omega) ((cp_sgn (by omega)).trans (by rw [← qz75]; exact g0z76 (by omega))) g0z70 g0z93), (by first | exact (g2z86 (by omega)).1 | exact (g2z76 (by omega)).1), (by first | exact (g2z86 (by omega)).2.1 | exact (g2z76 (by omega)).2.1), (by first | exact (g2z86 (by omega)).2.2 | exact (g2z76 (by omega)).2.2), hx4, (by rw [(by omega : IhB87 699 2 = I1 699 2)]; exact hx5)⟩, rfl⟩ (by omega)
            · intro c94
              refine Exists.intro xm_114 (And.intro mi_114 (And.intro ⟨rfl, rfl, rfl, rfl⟩ (And.intro rfl ?_)))
              refine fcallp hB1 (ct_Tape_behindWord_677ba (fBz h0 hB1) (by first | exact ⟨hb.1.1, Int.le_trans (Int.le_sub_one_of_lt (Int.lt_of_lt_of_le c40 uz23)) (by decide)⟩ | omega)) ?_
              rintro _ ⟨z95, rfl, hz95, g0z95⟩
              have w111 := rdW_bd (tp := I1 700) (n := I1 699 1) (p := y1) (by omega)
              rw [← g0z95] at w111
              refine And.intro (by first | exact ⟨by decide, by decide⟩ | omega) (And.intro ?_ ?_)
              · intro c96
                refine And.intro (True.intro) ?_
                exact ⟨_, rfl, by omega, (by first | exact cpX_bad (J := I1) e7 e1 hx4 hx5 (by omega) (by omega) hx0 (by omega) (rdM_bad (by omega) ((cp_due (by omega)).trans (g1z86 (by omega)))) | exact cpX_bad (J := I1) e7 e1 hx4 hx5 (by omega) (by omega) hx0 (by omega) (rdM_bad (by omega) ((cp_sgn (by omega)).trans (by rw [← qz75]; exact g1z76 (by omega)))) | exact cpX_bad (J := I1) e7 e1 hx4 hx5 (by omega) (by omega) hx0 (by omega) (rdM_glue (by omega) ⟨by omega, rdD_iff.mpr (by omega)⟩))⟩
              · intro c97
                refine And.intro ⟨rfl, by decide, by decide⟩ (fgetf fb_699_10 h0 hB1 ?_)
                intro z98 lz98 uz98 qz98
                refine And.intro (by first | exact fi_ lz98 uz98 rfl | omega) (And.intro ?_ ?_)
                · intro c99
                  refine And.intro ⟨rfl, by decide, by decide⟩ ?_
                  refine fload1 rL_700_700_0_95_1_0 h0 hB1 ⟨by decide, by decide⟩ (by first | exact ⟨hb.1.1, Int.le_trans (Int.le_sub_one_of_lt (Int.lt_of_lt_of_le c40 uz23)) (by decide)⟩ | omega) ?_
                  intro z100 lz100 uz100 qz100
                  refine Exists.intro xm_126 (And.intro mi_126 (And.intro ⟨rfl, rfl, rfl, rfl⟩ (And.intro rfl ?_)))
                  refine fcall _ h0 (fzs_sub (by decide +kernel) hW) hB1 (ct_Tape_takeSign_f125c (fBz h0 hB1) (by first | exact ⟨lz100, uz100⟩ | omega) (by omega) hx1 hx2 hx3 (by omega)) ?_
                  rintro IhB102 _ hB102 fhB102 ⟨z101, rfl, hz101, g0z101, g1z101, g2z101⟩
                  have t103 := fhB102 699 1 (by decide +kernel)
                  have t104 := fhB102 699 2 (by decide +kernel)
                  have t105 := fhB102 699 5 (by decide +kernel)
                  have k106 := fBz_eq hB102 (a := 699) (j := 1) (by decide +kernel)
                  refine And.intro (by omega) (And.intro ?_ ?_)
                  · intro c107
                    refine Exists.intro xm_113 (And.intro mi_113 (And.intro ⟨rfl, rfl, rfl, rfl⟩ (And.intro rfl ?_)))
                    refine fcallp hB102 (ct_Tape_behindBlanks_aea90 (fBz h0 hB102) (by first | exact ⟨hz95.1, hz95.2⟩ | omega)) ?_
                    rintro _ ⟨z108, rfl, hz108, g0z108⟩
                    have r159 := rdS_ge (c := rdB) (tp := IhB102 700) (n := IhB102 699 1) (p := z95)
                    have s159 := rdS_le (c := rdB) (tp := IhB102 700) (n := IhB102 699 1) (p := z95) (by omega)
                    rw [← g0z108] at r159 s159
                    exact fcutJ (I := IhB102) (j := (jc_Tape_compile_812f7_71 I)) (lv' := [(0, .inr (.inr (some 699))), (1, .inl _), (2, .inl _), (3, .inl _)]) (And.intro rfl (And.intro rfl (And.intro rfl (And.intro rfl True.intro)))) ⟨_, _, _, rfl, rfl, ⟨by omega, (by first | exact cp_step (J := I1) (K := IhB87) hx0 (fFr_at fhB87 700 (by decide +kernel) rfl) (by omega) (by omega) (by omega) (fun q => by have q1 := q.1; have q2 := rdD_iff.mp q.2; omega) ((cp_due (by omega)).trans (g0z86 (by omega))) g0z95 g0z108 | exact cp_step (J := I1) (K := IhB102) hx0 (fFr_at fhB102 700 (by decide +kernel) rfl) (by omega) (by omega) (by omega) (fun q => by have q1 := q.1; have q2 := rdD_iff.mp q.2; omega) ((cp_sgn (by omega)).trans (by rw [← qz100]; exact g0z101 (by omega))) g0z95 g0z108), (by first | exact (g2z86 (by omega)).1 | exact (g2z101 (by omega)).1), (by first | exact (g2z86 (by omega)).2.1 | exact (g2z101 (by omega)).2.1), (by first | exact (g2z86 (by omega)).2.2 | exact (g2z101 (by omega)).2.2), hx4, (by rw [(by omega : IhB102 699 2 = I1 699 2)]; exact hx5)⟩, rfl⟩ (by omega)
                  · intro c109
                    refine And.intro (True.intro) ?_
                    exact ⟨_, rfl, by omega, (by first | exact cpX_bad (J := I1) e7 e1 hx4 hx5 (by omega) (by omega) hx0 (by omega) (rdM_bad (by omega) ((cp_due (by omega)).trans (g1z86 (by omega)))) | exact cpX_bad (J := I1) e7 e1 hx4 hx5 (by omega) (by omega) hx0 (by omega) (rdM_bad (by omega) ((cp_sgn (by omega)).trans (by rw [← qz100]; exact g1z101 (by omega)))) | exact cpX_bad (J := I1) e7 e1 hx4 hx5 (by omega) (by omega) hx0 (by omega) (rdM_glue (by omega) ⟨by omega, rdD_iff.mpr (by omega)⟩))⟩
                · intro c110
                  refine Exists.intro xm_120 (And.intro mi_120 (And.intro ⟨rfl, rfl, rfl, rfl⟩ (And.intro rfl ?_)))
                  refine fcall _ h0 (fzs_sub (by decide +kernel) hW) hB1 (ct_Tape_takePart_5edc5 (fBz h0 hB1) (by first | exact ⟨hb.1.1, Int.le_trans (Int.le_sub_one_of_lt (Int.lt_of_lt_of_le c40 uz23)) (by decide)⟩ | omega) (by first | exact ⟨hz95.1, hz95.2⟩ | omega) (by omega) hx1 hx2 hx3 (by omega) (by omega) (by omega) g0z95 (by omega)) ?_
                  rintro IhB112 _ hB112 fhB112 ⟨z111, rfl, hz111, g0z111, g1z111, g2z111⟩
                  have t113 := fhB112 699 1 (by decide +kernel)
                  have t114 := fhB112 699 2 (by decide +kernel)
                  have k115 := fBz_eq hB112 (a := 699) (j := 1) (by decide +kernel)
                  refine And.intro (by omega) (And.intro ?_ ?_)
                  · intro c116
                    refine And.intro (True.intro) ?_
                    exact ⟨_, rfl, by omega, (by first | exact cpX_bad (J := I1) e7 e1 hx4 hx5 (by omega) (by omega) hx0 (by omega) (rdM_bad (by omega) ((cp_due (by omega)).trans (g1z111 (by omega)))) | exact cpX_bad (J := I1) e7 e1 hx4 hx5 (by omega) (by omega) hx0 (by omega) (rdM_bad (by omega) ((cp_sgn (by omega)).trans (by rw [← qz100]; exact g1z101 (by omega)))) | exact cpX_bad (J := I1) e7 e1 hx4 hx5 (by omega) (by omega) hx0 (by omega) (rdM_glue (by omega) ⟨by omega, rdD_iff.mpr (by omega)⟩))⟩
                  · intro c117
                    refine Exists.intro xm_113 (And.intro mi_113 (And.intro ⟨rfl, rfl, rfl, rfl⟩ (And.intro rfl ?_)))
                    refine fcallp hB112 (ct_Tape_behindBlanks_aea90 (fBz h0 hB112) (by first | exact ⟨hz95.1, hz95.2⟩ | omega)) ?_
                    rintro _ ⟨z118, rfl, hz118, g0z118⟩
                    have r159 := rdS_ge (c := rdB) (tp := IhB112 700) (n := IhB112 699 1) (p := z95)
                    have s159 := rdS_le (c := rdB) (tp := IhB112 700) (n := IhB112 699 1) (p := z95) (by omega)
                    rw [← g0z118] at r159 s159
                    exact fcutJ (I := IhB112) (j := (jc_Tape_compile_812f7_71 I)) (lv' := [(0, .inr (.inr (some 699))), (1, .inl _), (2, .inl _), (3, .inl _)]) (And.intro rfl (And.intro rfl (And.intro rfl (And.intro rfl True.intro)))) ⟨_, _, _, rfl, rfl, ⟨by omega, (by first | exact cp_step (J := I1) (K := IhB112) hx0 (fFr_at fhB112 700 (by decide +kernel) rfl) (by omega) (by omega) (by omega) (fun q => by have q1 := q.1; have q2 := rdD_iff.mp q.2; omega) ((cp_due (by omega)).trans (g0z111 (by omega))) g0z95 g0z118 | exact cp_step (J := I1) (K := IhB102) hx0 (fFr_at fhB102 700 (by decide +kernel) rfl) (by omega) (by omega) (by omega) (fun q => by have q1 := q.1; have q2 := rdD_iff.mp q.2; omega) ((cp_sgn (by omega)).trans (by rw [← qz100]; exact g0z101 (by omega))) g0z95 g0z118), (by first | exact (g2z111 (by omega)).1 | exact (g2z101 (by omega)).1), (by first | exact (g2z111 (by omega)).2.1 | exact (g2z101 (by omega)).2.1), (by first | exact (g2z111 (by omega)).2.2 | exact (g2z101 (by omega)).2.2), hx4, (by rw [(by omega : IhB112 699 2 = I1 699 2)]; exact hx5)⟩, rfl⟩ (by omega)
  · have hB0 := fB_self (zn := znJ) (K := fKc wz_4a62a) h0
    have b119 := fBd fb_699_1 (fBz h0 hB0)
    have b120 := fBd fb_699_4 (fBz h0 hB0)
    have b121 := fBd fb_699_7 (fBz h0 hB0)
    have b122 := fBd fb_699_10 (fBz h0 hB0)
    refine And.intro ⟨rfl, by decide, by decide⟩ (And.intro rfl (And.intro (Or.inl rfl) (fputf fb_699_4 (by decide +kernel) hW (by first | exact ⟨by decide, by decide⟩ | omega) ?_)))
    intro IhB123 ehB123 hB123
    have t124 : IhB123 699 2 = I 699 2 := (congrFun (congrFun ehB123 699) 2).trans (fup_ne (by first | decide | omega))
    have t125 := fup_at ehB123 4 (by first | rfl | omega)
    have t126 : IhB123 699 5 = I 699 5 := (congrFun (congrFun ehB123 699) 5).trans (fup_ne (by first | decide | omega))
    have t127 : IhB123 699 7 = I 699 7 := (congrFun (congrFun ehB123 699) 7).trans (fup_ne (by first | decide | omega))
    have t128 : IhB123 699 8 = I 699 8 := (congrFun (congrFun ehB123 699) 8).trans (fup_ne (by first | decide | omega))
    have t129 : IhB123 699 9 = I 699 9 := (congrFun (congrFun ehB123 699) 9).trans (fup_ne (by first | decide | omega))
    have t130 : IhB123 699 10 = I 699 10 := (congrFun (congrFun ehB123 699) 10).trans (fup_ne (by first | decide | omega))
    have k131 := fBz_eq hB123 (a := 699) (j := 1) (by decide +kernel)
    refine And.intro ⟨rfl, by decide, by decide⟩ (And.intro rfl (And.intro (Or.inl rfl) (fputf fb_699_5 (by decide +kernel) hW (by first | exact ⟨by decide, by decide⟩ | omega) ?_)))
    intro IhB132 ehB132 hB132
    have t133 : IhB132 699 2 = IhB123 699 2 := (congrFun (congrFun ehB132 699) 2).trans (fup_ne (by first | decide | omega))
    have t134 : IhB132 699 4 = IhB123 699 4 := (congrFun (congrFun ehB132 699) 4).trans (fup_ne (by first | decide | omega))
    have t135 := fup_at ehB132 5 (by first | rfl | omega)
    have t136 : IhB132 699 7 = IhB123 699 7 := (congrFun (congrFun ehB132 699) 7).trans (fup_ne (by first | decide | omega))
    have t137 : IhB132 699 8 = IhB123 699 8 := (congrFun (congrFun ehB132 699) 8).trans (fup_ne (by first | decide | omega))
    have t138 : IhB132 699 9 = IhB123 699 9 := (congrFun (congrFun ehB132 699) 9).trans (fup_ne (by first | decide | omega))
    have t139 : IhB132 699 10 = IhB123 699 10 := (congrFun (congrFun ehB132 699) 10).trans (fup_ne (by first | decide | omega))
    have k140 := fBz_eq hB132 (a := 699) (j := 1) (by decide +kernel)
    refine And.intro ⟨rfl, by decide, by decide⟩ (And.intro rfl (And.intro (Or.inl rfl) (fputf fb_699_7 (by decide +kernel) hW (by first | exact ⟨by decide, by decide⟩ | omega) ?_)))
    intro IhB141 ehB141 hB141
    have t142 : IhB141 699 2 = IhB132 699 2 := (congrFun (congrFun ehB141 699) 2).trans (fup_ne (by first | decide | omega))
    have t143 : IhB141 699 4 = IhB132 699 4 := (congrFun (congrFun ehB141 699) 4).trans (fup_ne (by first | decide | omega))
    have t144 : IhB141 699 5 = IhB132 699 5 := (congrFun (congrFun ehB141 699) 5).trans (fup_ne (by first | decide | omega))
    have t145 := fup_at ehB141 7 (by first | rfl | omega)
    have t146 : IhB141 699 8 = IhB132 699 8 := (congrFun (congrFun ehB141 699) 8).trans (fup_ne (by first | decide | omega))
    have t147 : IhB141 699 9 = IhB132 699 9 := (congrFun (congrFun ehB141 699) 9).trans (fup_ne (by first | decide | omega))
    have t148 : IhB141 699 10 = IhB132 699 10 := (congrFun (congrFun ehB141 699) 10).trans (fup_ne (by first | decide | omega))
    have k149 := fBz_eq hB141 (a := 699) (j := 1) (by decide +kernel)
    refine And.intro ⟨rfl, by decide, by decide⟩ (And.intro rfl (And.intro (Or.inl rfl) (fputf fb_699_8 (by decide +kernel) hW (by first | exact ⟨by decide, by decide⟩ | omega) ?_)))
    intro IhB150 ehB150 hB150
    have t151 : IhB150 699 2 = IhB141 699 2 := (congrFun (congrFun ehB150 699) 2).trans (fup_ne (by first | decide | omega))
    have t152 : IhB150 699 4 = IhB141 699 4 := (congrFun (congrFun ehB150 699) 4).trans (fup_ne (by first | decide | omega))
    have t153 : IhB150 699 5 = IhB141 699 5 := (congrFun (congrFun ehB150 699) 5).trans (fup_ne (by first | decide | omega))
    have t154 : IhB150 699 7 = IhB141 699 7 := (congrFun (congrFun ehB150 699) 7).trans (fup_ne (by first | decide | omega))
    have t155 := fup_at ehB150 8 (by first | rfl | omega)
    have t156 : IhB150 699 9 = IhB141 699 9 := (congrFun (congrFun ehB150 699) 9).trans (fup_ne (by first | decide | omega))
    have t157 : IhB150 699 10 = IhB141 699 10 := (congrFun (congrFun ehB150 699) 10).trans (fup_ne (by first | decide | omega))
    have k158 := fBz_eq hB150 (a := 699) (j := 1) (by decide +kernel)
    refine And.intro ⟨rfl, by decide, by decide⟩ (And.intro rfl (And.intro (Or.inl rfl) (fputf fb_699_9 (by decide +kernel) hW (by first | exact ⟨by decide, by decide⟩ | omega) ?_)))
    intro IhB159 ehB159 hB159
    have t160 : IhB159 699 2 = IhB150 699 2 := (congrFun (congrFun ehB159 699) 2).trans (fup_ne (by first | decide | omega))
    have t161 : IhB159 699 4 = IhB150 699 4 := (congrFun (congrFun ehB159 699) 4).trans (fup_ne (by first | decide | omega))
    have t162 : IhB159 699 5 = IhB150 699 5 := (congrFun (congrFun ehB159 699) 5).trans (fup_ne (by first | decide | omega))
    have t163 : IhB159 699 7 = IhB150 699 7 := (congrFun (congrFun ehB159 699) 7).trans (fup_ne (by first | decide | omega))
    have t164 : IhB159 699 8 = IhB150 699 8 := (congrFun (congrFun ehB159 699) 8).trans (fup_ne (by first | decide | omega))
    have t165 := fup_at ehB159 9 (by first | rfl | omega)
    have t166 : IhB159 699 10 = IhB150 699 10 := (congrFun (congrFun ehB159 699) 10).trans (fup_ne (by first | decide | omega))
    have k167 := fBz_eq hB159 (a := 699) (j := 1) (by decide +kernel)
    refine And.intro ⟨rfl, by decide, by decide⟩ (And.intro rfl (And.intro (Or.inr ⟨rfl, by decide, by decide⟩) (fputf fb_699_10 (by decide +kernel) hW (by first | exact ⟨by decide, by decide⟩ | omega) ?_)))
    intro IhB168 ehB168 hB168
    have t169 : IhB168 699 2 = IhB159 699 2 := (congrFun (congrFun ehB168 699) 2).trans (fup_ne (by first | decide | omega))
    have t170 : IhB168 699 4 = IhB159 699 4 := (congrFun (congrFun ehB168 699) 4).trans (fup_ne (by first | decide | omega))
    have t171 : IhB168 699 5 = IhB159 699 5 := (congrFun (congrFun ehB168 699) 5).trans (fup_ne (by first | decide | omega))
    have t172 : IhB168 699 7 = IhB159 699 7 := (congrFun (congrFun ehB168 699) 7).trans (fup_ne (by first | decide | omega))
    have t173 : IhB168 699 8 = IhB159 699 8 := (congrFun (congrFun ehB168 699) 8).trans (fup_ne (by first | decide | omega))
    have t174 : IhB168 699 9 = IhB159 699 9 := (congrFun (congrFun ehB168 699) 9).trans (fup_ne (by first | decide | omega))
    have t175 := fup_at ehB168 10 (by first | rfl | omega)
    have k176 := fBz_eq hB168 (a := 699) (j := 1) (by decide +kernel)
    have e7 : IhB168 700 = I 700 := funext (fFr_at (fFr_of hB168) 700 (by decide +kernel) rfl)
    have e1 : IhB168 699 1 = I 699 1 := fBz_eq hB168 (by decide +kernel)
    refine Exists.intro xm_113 (And.intro mi_113 (And.intro ⟨rfl, rfl, rfl, rfl⟩ (And.intro rfl ?_)))
    refine fcallp hB168 (ct_Tape_behindBlanks_aea90 (fBz h0 hB168) (by first | exact ⟨by decide, by decide⟩ | omega)) ?_
    rintro _ ⟨z177, rfl, hz177, g0z177⟩
    rw [e7, e1] at g0z177
    have g32 : z177 = (rdS rdB (I 700) (I 699 1) 0) := g0z177
    have r32 := rdS_ge (c := rdB) (tp := I 700) (n := I 699 1) (p := 0)
    have s32 := rdS_le (c := rdB) (tp := I 700) (n := I 699 1) (p := 0) (by omega)
    rw [← g32] at r32 s32
    refine Exists.intro xm_114 (And.intro mi_114 (And.intro ⟨rfl, rfl, rfl, rfl⟩ (And.intro rfl ?_)))
    refine fcallp hB168 (ct_Tape_behindWord_677ba (fBz h0 hB168) (by first | exact ⟨hz177.1, hz177.2⟩ | omega)) ?_
    rintro _ ⟨z178, rfl, hz178, g0z178⟩
    rw [e7, e1] at g0z178
    have g38 : z178 = rdW (I 700) (I 699 1) (rdS rdB (I 700) (I 699 1) 0) := by rw [← g32]; exact g0z178
    have w38 : z177 ≤ z178 ∧ z178 ≤ I 699 1 := by rw [g0z178]; by_cases q : z177 < I 699 1; (have := rdW_bd (tp := I 700) q; omega); (rw [rdW_n q]; omega)
    refine Exists.intro xm_117 (And.intro mi_117 (And.intro ⟨rfl, rfl, rfl, rfl⟩ (And.intro rfl ?_)))
    refine fcallp hB168 (ct_Tape_keyBetween_0cd50 (fBz h0 hB168) (by first | exact ⟨hz177.1, hz177.2⟩ | omega) (by first | exact ⟨hz178.1, hz178.2⟩ | omega)) ?_
    rintro _ ⟨z179, rfl, hz179, g0z179⟩
    rw [e7] at g0z179
    refine And.intro ⟨rfl, by decide, by decide⟩ (And.intro rfl (And.intro (Or.inl rfl) (fputf fb_699_2 (by decide +kernel) hW (by omega) ?_)))
    intro IhB180 ehB180 hB180
    have t181 := fup_at ehB180 2 (by first | rfl | omega)
    have t182 : IhB180 699 4 = IhB168 699 4 := (congrFun (congrFun ehB180 699) 4).trans (fup_ne (by first | decide | omega))
    have t183 : IhB180 699 5 = IhB168 699 5 := (congrFun (congrFun ehB180 699) 5).trans (fup_ne (by first | decide | omega))
    have t184 : IhB180 699 7 = IhB168 699 7 := (congrFun (congrFun ehB180 699) 7).trans (fup_ne (by first | decide | omega))
    have t185 : IhB180 699 8 = IhB168 699 8 := (congrFun (congrFun ehB180 699) 8).trans (fup_ne (by first | decide | omega))
    have t186 : IhB180 699 9 = IhB168 699 9 := (congrFun (congrFun ehB180 699) 9).trans (fup_ne (by first | decide | omega))
    have t187 : IhB180 699 10 = IhB168 699 10 := (congrFun (congrFun ehB180 699) 10).trans (fup_ne (by first | decide | omega))
    have k188 := fBz_eq hB180 (a := 699) (j := 1) (by decide +kernel)
    refine And.intro ⟨rfl, by decide, by decide⟩ (fgetf fb_699_2 h0 hB180 ?_)
    intro z189 lz189 uz189 qz189
    refine And.intro (And.intro (by first | exact fi_ lz189 uz189 rfl | omega) (by first | exact ⟨by decide, by decide⟩ | omega)) (And.intro ?_ ?_)
    · intro c190
      refine Exists.intro xm_113 (And.intro mi_113 (And.intro ⟨rfl, rfl, rfl, rfl⟩ (And.intro rfl ?_)))
      refine fcallp hB180 (ct_Tape_behindBlanks_aea90 (fBz h0 hB180) (by first | exact ⟨hz178.1, hz178.2⟩ | omega)) ?_
      rintro _ ⟨z191, rfl, hz191, g0z191⟩
      have r65 := rdS_ge (c := rdB) (tp := IhB180 700) (n := IhB180 699 1) (p := z178)
      have s65 := rdS_le (c := rdB) (tp := IhB180 700) (n := IhB180 699 1) (p := z178) (by omega)
      rw [← g0z191] at r65 s65
      exact fcutJ (I := IhB180) (j := (jc_Tape_compile_812f7_71 I)) (lv' := [(0, .inr (.inr (some 699))), (1, .inl _), (2, .inl _), (3, .inl _)]) (And.intro rfl (And.intro rfl (And.intro rfl (And.intro rfl True.intro)))) ⟨_, _, _, rfl, rfl, ⟨by omega, (cp_init (by omega) (by omega) (by omega) (by omega) g0z191), (by rw [show pdX IhB180 = [] from rdl_no (row := IhB180 702) (m := IhB180 699 7) (by omega)]; show IhB180 699 9 = 0; omega), (by rw [show pdX IhB180 = [] from rdl_no (row := IhB180 702) (m := IhB180 699 7) (by omega)]; show IhB180 699 8 = 0; omega), (by rw [show pdX IhB180 = [] from rdl_no (row := IhB180 702) (m := IhB180 699 7) (by omega)]; exact True.intro), g38, (by rw [← g32, (by omega : IhB180 699 2 = z179)]; exact g0z179)⟩, rfl⟩ (by omega)
    · intro c192
      refine And.intro (True.intro) ?_
      exact ⟨_, rfl, by omega, (cpX_no (k := z179) (by rw [← g38, ← g32]; exact g0z179) (by omega) g32)⟩
set_option maxRecDepth 8000 in
theorem ct_Charter_addText_b135c {I : fH}  (h0 : fB bsJ I) (hp0 : -1 ≤ (cLw 0 I).vote ∧ (cLw 0 I).vote < (cLw 0 I).n) : fC ρ base n F xTc vwCl xTys D dA la gJ (fbz bsJ znJ (fKc wz_5dd44) I) xm_131 [.inr (.inr (some 187)), .inr (.inr (some 699))] I (fun I' r => ∃ z, r = some (.inl z) ∧ (((0 ≤ z ∧ z ≤ 11) ∨ z = (-1000000003)) ∧ ((I 187 6 < 12 → z = I 187 6 ∧ I' 187 6 = I 187 6 + 1) ∧ (12 ≤ I 187 6 → z = (-1000000003) ∧ I' 187 6 = I 187 6))) ∧ ((12 ≤ I 187 6 ∧ cLw 0 I' = cLw 0 I) ∨ (I 187 6 < 12 ∧ cLw 0 I' = lAdd (cLw 0 I) (I 699 2) (I 699 5) (rdl (I 701) (I 699 4).toNat))) ∧ (cR 0 I' = cR 0 I)) := by
  have hW : fzs wz_5dd44 (fKc wz_5dd44) := fKc_ok _
  refine f_meth (rb := rbJ) (J := []) 1 400 xG xin_131 x6_131 okJ (fB_self h0) ?_ ?_
  · exact fun q h => absurd h List.not_mem_nil
  · have hB0 := fB_self (zn := znJ) (K := fKc wz_5dd44) h0
    have b1 := fBd fb_187_6 (fBz h0 hB0)
    have b2 := fBd fb_699_4 (fBz h0 hB0)
    refine And.intro ⟨rfl, by decide, by decide⟩ (fgetf fb_187_6 h0 hB0 ?_)
    intro z3 lz3 uz3 qz3
    refine And.intro (And.intro (by first | exact fi_ lz3 uz3 rfl | omega) (by first | exact ⟨by decide, by decide⟩ | omega)) (And.intro ?_ ?_)
    · intro c4
      refine And.intro ⟨rfl, by decide, by decide⟩ ?_
      refine And.intro ⟨rfl, by decide, by decide⟩ (fgetf fb_699_2 h0 hB0 ?_)
      intro z5 lz5 uz5 qz5
      refine fstore1 rS_188_188_0_11_1_0 (fzs_sub (by decide +kernel) hW) ⟨by decide, by decide⟩ (by first | exact ⟨lz3, Int.le_trans (Int.le_sub_one_of_lt (Int.lt_of_lt_of_le c4 (Int.le_refl _))) (by decide)⟩ | omega) (by first | exact ⟨lz5, uz5⟩ | omega) ?_
      intro IhB6 ehB6 hB6
      have t7 := fup_self ehB6
      have t8 : IhB6 187 6 = I 187 6 := (congrFun (congrFun ehB6 187) 6).trans (fup_ne (by first | exact Or.inl (by decide) | omega))
      have t9 : IhB6 699 2 = I 699 2 := (congrFun (congrFun ehB6 699) 2).trans (fup_ne (by first | exact Or.inl (by decide) | omega))
      refine And.intro ⟨rfl, by decide, by decide⟩ ?_
      refine fstore1 rS_189_189_0_11_1_0 (fzs_sub (by decide +kernel) hW) ⟨by decide, by decide⟩ (by first | exact ⟨lz3, Int.le_trans (Int.le_sub_one_of_lt (Int.lt_of_lt_of_le c4 (Int.le_refl _))) (by decide)⟩ | omega) (by first | exact ⟨by decide, by decide⟩ | omega) ?_
      intro IhB10 ehB10 hB10
      have t11 := fup_self ehB10
      have t12 : IhB10 187 6 = IhB6 187 6 := (congrFun (congrFun ehB10 187) 6).trans (fup_ne (by first | exact Or.inl (by decide) | omega))
      have t13 : IhB10 699 2 = IhB6 699 2 := (congrFun (congrFun ehB10 699) 2).trans (fup_ne (by first | exact Or.inl (by decide) | omega))
      refine And.intro ⟨rfl, by decide, by decide⟩ ?_
      refine fstore1 rS_190_190_0_11_1_0 (fzs_sub (by decide +kernel) hW) ⟨by decide, by decide⟩ (by first | exact ⟨lz3, Int.le_trans (Int.le_sub_one_of_lt (Int.lt_of_lt_of_le c4 (Int.le_refl _))) (by decide)⟩ | omega) (by first | exact ⟨by decide, by decide⟩ | omega) ?_
      intro IhB14 ehB14 hB14
      have t15 := fup_self ehB14
      have t16 : IhB14 187 6 = IhB10 187 6 := (congrFun (congrFun ehB14 187) 6).trans (fup_ne (by first | exact Or.inl (by decide) | omega))
      have t17 : IhB14 699 2 = IhB10 699 2 := (congrFun (congrFun ehB14 699) 2).trans (fup_ne (by first | exact Or.inl (by decide) | omega))
      refine And.intro ⟨rfl, by decide, by decide⟩ ?_
      refine And.intro ⟨rfl, by decide, by decide⟩ (fgetf fb_699_5 h0 hB14 ?_)
      intro z18 lz18 uz18 qz18
      refine fstore1 rS_191_191_0_11_1_0 (fzs_sub (by decide +kernel) hW) ⟨by decide, by decide⟩ (by first | exact ⟨lz3, Int.le_trans (Int.le_sub_one_of_lt (Int.lt_of_lt_of_le c4 (Int.le_refl _))) (by decide)⟩ | omega) (by first | exact ⟨lz18, uz18⟩ | omega) ?_
      intro IhB19 ehB19 hB19
      have t20 := fup_self ehB19
      have t21 : IhB19 187 6 = IhB14 187 6 := (congrFun (congrFun ehB19 187) 6).trans (fup_ne (by first | exact Or.inl (by decide) | omega))
      have t22 : IhB19 699 2 = IhB14 699 2 := (congrFun (congrFun ehB19 699) 2).trans (fup_ne (by first | exact Or.inl (by decide) | omega))
      have t23 : IhB19 699 5 = IhB14 699 5 := (congrFun (congrFun ehB19 699) 5).trans (fup_ne (by first | exact Or.inl (by decide) | omega))
      refine And.intro ⟨rfl, by decide, by decide⟩ ?_
      refine And.intro ⟨rfl, by decide, by decide⟩ (fgetf fb_699_4 h0 hB19 ?_)
      intro z24 lz24 uz24 qz24
      refine fstore1 rS_192_192_0_11_1_0 (fzs_sub (by decide +kernel) hW) ⟨by decide, by decide⟩ (by first | exact ⟨lz3, Int.le_trans (Int.le_sub_one_of_lt (Int.lt_of_lt_of_le c4 (Int.le_refl _))) (by decide)⟩ | omega) (by first | exact ⟨lz24, uz24⟩ | omega) ?_
      intro IhB25 ehB25 hB25
      have t26 := fup_self ehB25
      have t27 : IhB25 187 6 = IhB19 187 6 := (congrFun (congrFun ehB25 187) 6).trans (fup_ne (by first | exact Or.inl (by decide) | omega))
      have t28 : IhB25 699 2 = IhB19 699 2 := (congrFun (congrFun ehB25 699) 2).trans (fup_ne (by first | exact Or.inl (by decide) | omega))
      have t29 : IhB25 699 4 = IhB19 699 4 := (congrFun (congrFun ehB25 699) 4).trans (fup_ne (by first | exact Or.inl (by decide) | omega))
      have t30 : IhB25 699 5 = IhB19 699 5 := (congrFun (congrFun ehB25 699) 5).trans (fup_ne (by first | exact Or.inl (by decide) | omega))
      refine And.intro ⟨rfl, by decide, by decide⟩ ?_
      refine And.intro ⟨rfl, by decide, by decide⟩ ?_
      refine And.intro ⟨rfl, by decide⟩ (And.intro (by first | exact ⟨lz3, Int.lt_of_le_of_lt (Int.le_sub_one_of_lt (Int.lt_of_lt_of_le c4 (Int.le_refl _))) (by decide)⟩ | omega) ?_)
      refine Exists.intro xm_75 (And.intro mi_75 (And.intro ⟨rfl, rfl, rfl, rfl⟩ (And.intro True.intro ?_)))
      refine fcall _ h0 (fzs_sub (by decide +kernel) hW) hB25 (ct_copyRow (W := [193]) (len := 96) (fBz h0 hB25) (frCy (a0 := 194) (a1 := 205) (by decide +kernel) (by omega))) ?_
      rintro IhB31 _ hB31 fhB31 ⟨rfl, ehB31⟩
      have t32 := fhB31 187 6 (by decide +kernel)
      have t33 := fhB31 699 2 (by decide +kernel)
      have t34 := fhB31 699 4 (by decide +kernel)
      have t35 := fhB31 699 5 (by decide +kernel)
      refine And.intro ⟨rfl, by decide, by decide⟩ (And.intro rfl (And.intro (Or.inl rfl) (fputf fb_187_6 (by decide +kernel) hW (by omega) ?_)))
      intro IhB36 ehB36 hB36
      have t37 := fup_at ehB36 6 (by first | rfl | omega)
      have t38 : IhB36 699 2 = IhB31 699 2 := (congrFun (congrFun ehB36 699) 2).trans (fup_ne (by first | decide | omega))
      have t39 : IhB36 699 4 = IhB31 699 4 := (congrFun (congrFun ehB36 699) 4).trans (fup_ne (by first | decide | omega))
      have t40 : IhB36 699 5 = IhB31 699 5 := (congrFun (congrFun ehB36 699) 5).trans (fup_ne (by first | decide | omega))
      refine And.intro (True.intro) ?_
      exact ⟨_, rfl, by omega, (Or.inr ⟨by omega, by have a := qz5; have b := qz18.trans (fBz_eq hB14 (a := 699) (j := 5) (by decide +kernel)); have c := qz24.trans (fBz_eq hB19 (a := 699) (j := 4) (by decide +kernel)); rw [← a, ← b, ← c]; exact cLw_add ehB6 ehB10 ehB14 ehB19 ehB25 ehB31 ehB36 qz3 (by omega) rfl (by omega) (by omega) (by omega) (by omega) (by have q := hp0; have w : (cLw 0 I).n = I 187 6 := rfl; omega) (by omega)⟩), (cR_fr (d := 0) cZ0_ok (fFr_of hB36) (by decide +kernel))⟩
    · intro c41
      refine And.intro (True.intro) ?_
      exact ⟨_, rfl, by omega, (Or.inl ⟨by omega, rfl⟩), (cR_fr (d := 0) cZ0_ok (fFr_of hB0) (by decide +kernel))⟩
set_option maxRecDepth 8000 in
theorem ct_X_text_8a0ca {I : fH}  (h0 : fB bsJ I) (hp0 : -1 ≤ (cLw 0 I).vote ∧ (cLw 0 I).vote < (cLw 0 I).n) : fC ρ base n F xTc vwCl xTys D dA la gJ (fbz bsJ znJ (fKc wz_8696f) I) xm_111 [.inr (.inr (some 0))] I (fun I' r => ∃ z, r = some (.inl z) ∧ ((((-196) ≤ z ∧ z ≤ 11) ∨ z = (-1000000003)) ∧ (I' 699 1 = 0)) ∧ (txZ (I 700) (I 699 1) (I 187 6) z (I' 187 6)) ∧ (txL (I 700) (I 699 1) (cLw 0 I) z (cLw 0 I')) ∧ (cR 0 I' = cR 0 I)) := by
  have hW : fzs wz_8696f (fKc wz_8696f) := fKc_ok _
  refine f_meth (rb := rbJ) (J := []) 1 400 xG xin_111 x6_111 okJ (fB_self h0) ?_ ?_
  · exact fun q h => absurd h List.not_mem_nil
  · have hB0 := fB_self (zn := znJ) (K := fKc wz_8696f) h0
    have b1 := fBd fb_187_6 (fBz h0 hB0)
    have b2 := fBd fb_699_4 (fBz h0 hB0)
    refine And.intro ⟨rfl, by decide, by decide⟩ ?_
    refine Exists.intro xm_112 (And.intro mi_112 (And.intro ⟨rfl, rfl, rfl, rfl⟩ (And.intro rfl ?_)))
    refine fcall _ h0 (fzs_sub (by decide +kernel) hW) hB0 (ct_Tape_compile_812f7 (fBz h0 hB0)) ?_
    rintro IhB4 _ hB4 fhB4 ⟨z3, rfl, hz3, g0z3⟩
    have t5 := fhB4 187 6 (by decide +kernel)
    have t6 := fhB4 699 1 (by decide +kernel)
    have eK : cLw 0 IhB4 = cLw 0 I := (cLw_fr lZ0_ok fhB4 (by decide +kernel))
    refine And.intro ⟨rfl, by decide, by decide⟩ ?_
    refine And.intro ⟨rfl, by decide, by decide⟩ (And.intro rfl (And.intro (Or.inl rfl) (fputf fb_699_1 (by decide +kernel) hW (by first | exact ⟨by decide, by decide⟩ | omega) ?_)))
    intro IhB7 ehB7 hB7
    have t8 : IhB7 187 6 = IhB4 187 6 := (congrFun (congrFun ehB7 187) 6).trans (fup_ne (by first | decide | omega))
    have t9 := fup_at ehB7 1 (by first | rfl | omega)
    refine And.intro (by omega) (And.intro ?_ ?_)
    · intro c10
      refine And.intro ⟨rfl, by decide, by decide⟩ ?_
      refine And.intro ⟨rfl, by decide, by decide⟩ ?_
      refine Exists.intro xm_131 (And.intro mi_131 (And.intro ⟨rfl, rfl, rfl, rfl⟩ (And.intro rfl ?_)))
      refine fcall _ h0 (fzs_sub (by decide +kernel) hW) hB7 (ct_Charter_addText_b135c (fBz h0 hB7) (by rw [((cLw_u0 ehB7 (Or.inr (by decide))).trans eK)]; exact hp0)) ?_
      rintro IhB12 _ hB12 fhB12 ⟨z11, rfl, hz11, g0z11, g1z11⟩
      have t13 := fhB12 699 1 (by decide +kernel)
      refine And.intro (True.intro) ?_
      exact ⟨_, rfl, by omega, (txZ_mk g0z3 (by omega)), (tx_c g0z3 (by omega) ehB7 ((cLw_u0 ehB7 (Or.inr (by decide))).trans eK) g0z11 (by omega) (fBd (show bsJ 699 4 = (0, 96) by decide +kernel) (fBz h0 hB7)).2), (cR_fr (d := 0) cZ0_ok (fFr_of hB12) (by decide +kernel))⟩
    · intro c14
      refine And.intro (True.intro) ?_
      exact ⟨_, rfl, by omega, (txZ_mk g0z3 (by omega)), (tx_bad g0z3 (by omega) (by omega) ((cLw_u0 ehB7 (Or.inr (by decide))).trans eK)), (cR_fr (d := 0) cZ0_ok (fFr_of hB7) (by decide +kernel))⟩
set_option maxRecDepth 8000 in
theorem ct_M_isLetter_13ae5 {I : fH} {x1 : Int} (h0 : fB bsJ I) (ha1 : (0 ≤ x1 ∧ x1 ≤ 96)) : fC ρ base n F xTc vwCl xTys D dA la gJ (fbz bsJ znJ (fKc []) I) xm_315 [.inr (.inr (some 740)), .inl x1] I (fun _ r => ∃ z, r = some (.inl z) ∧ (((z = 1 ∧ (-2147483648) ≤ x1 ∧ x1 ≤ 95) ∨ z = 0) ∧ ((z = 1 → x1 < I 740 8 ∧ 97 ≤ I 747 x1.toNat ∧ I 747 x1.toNat ≤ 122) ∧ (z = 0 → ¬ (x1 < I 740 8 ∧ 97 ≤ I 747 x1.toNat ∧ I 747 x1.toNat ≤ 122))))) := by
  have hW : fzs [] (fKc []) := fKc_ok _
  refine f_meth (rb := rbJ) (J := []) 1 400 xG xin_315 x6_315 okJ (fB_self h0) ?_ ?_
  · exact fun q h => absurd h List.not_mem_nil
  · have hB0 := fB_self (zn := znJ) (K := fKc []) h0
    refine And.intro ⟨rfl, by decide, by decide⟩ (fgetf fb_740_8 h0 hB0 ?_)
    intro z1 lz1 uz1 qz1
    refine And.intro (And.intro (by first | exact fi_ ha1.1 ha1.2 rfl | omega) (by first | exact fi_ lz1 uz1 rfl | omega)) (And.intro ?_ ?_)
    · intro c2
      refine And.intro (⟨by omega, by omega⟩) ?_
      exact ⟨_, rfl, by omega⟩
    · intro c3
      refine And.intro ⟨rfl, by decide, by decide⟩ ?_
      refine fload1 rL_747_747_0_95_1_0 h0 hB0 ⟨by decide, by decide⟩ (by first | exact ⟨ha1.1, Int.le_trans (Int.le_sub_one_of_lt (Int.lt_of_lt_of_le c3 uz1)) (by decide)⟩ | omega) ?_
      intro z4 lz4 uz4 qz4
      refine And.intro (by first | exact fi_ lz4 uz4 rfl | omega) ?_
      refine Exists.intro xm_238 (And.intro mi_238 (And.intro ⟨rfl, rfl, rfl, rfl⟩ (And.intro True.intro ?_)))
      refine fcallp hB0 (ct_M_isIn_27230 (fBz h0 hB0) (by first | exact ⟨lz4, uz4⟩ | omega) (by first | exact ⟨by decide, by decide⟩ | omega) (by first | exact ⟨by decide, by decide⟩ | omega)) ?_
      rintro _ ⟨z5, rfl, hz5⟩
      refine And.intro (by omega) (And.intro ?_ ?_)
      · intro c6
        refine And.intro (⟨by omega, by omega⟩) ?_
        exact ⟨_, rfl, by omega⟩
      · intro c7
        refine And.intro (⟨by decide, by decide⟩) ?_
        exact ⟨_, rfl, by omega⟩
set_option maxRecDepth 8000 in
theorem ct_M_isDigit_7604c {I : fH} {x1 : Int} (h0 : fB bsJ I) (ha1 : (0 ≤ x1 ∧ x1 ≤ 96)) : fC ρ base n F xTc vwCl xTys D dA la gJ (fbz bsJ znJ (fKc []) I) xm_316 [.inr (.inr (some 740)), .inl x1] I (fun _ r => ∃ z, r = some (.inl z) ∧ (((z = 1 ∧ (-2147483648) ≤ x1 ∧ x1 ≤ 95) ∨ z = 0) ∧ ((z = 1 → x1 < I 740 8 ∧ 48 ≤ I 747 x1.toNat ∧ I 747 x1.toNat ≤ 57) ∧ (z = 0 → ¬ (x1 < I 740 8 ∧ 48 ≤ I 747 x1.toNat ∧ I 747 x1.toNat ≤ 57))))) := by
  have hW : fzs [] (fKc []) := fKc_ok _
  refine f_meth (rb := rbJ) (J := []) 1 400 xG xin_316 x6_316 okJ (fB_self h0) ?_ ?_
  · exact fun q h => absurd h List.not_mem_nil
  · have hB0 := fB_self (zn := znJ) (K := fKc []) h0
    refine And.intro ⟨rfl, by decide, by decide⟩ (fgetf fb_740_8 h0 hB0 ?_)
    intro z1 lz1 uz1 qz1
    refine And.intro (And.intro (by first | exact fi_ ha1.1 ha1.2 rfl | omega) (by first | exact fi_ lz1 uz1 rfl | omega)) (And.intro ?_ ?_)
    · intro c2
      refine And.intro (⟨by omega, by omega⟩) ?_
      exact ⟨_, rfl, by omega⟩
    · intro c3
      refine And.intro ⟨rfl, by decide, by decide⟩ ?_
      refine fload1 rL_747_747_0_95_1_0 h0 hB0 ⟨by decide, by decide⟩ (by first | exact ⟨ha1.1, Int.le_trans (Int.le_sub_one_of_lt (Int.lt_of_lt_of_le c3 uz1)) (by decide)⟩ | omega) ?_
      intro z4 lz4 uz4 qz4
      refine And.intro (by first | exact fi_ lz4 uz4 rfl | omega) ?_
      refine Exists.intro xm_238 (And.intro mi_238 (And.intro ⟨rfl, rfl, rfl, rfl⟩ (And.intro True.intro ?_)))
      refine fcallp hB0 (ct_M_isIn_27230 (fBz h0 hB0) (by first | exact ⟨lz4, uz4⟩ | omega) (by first | exact ⟨by decide, by decide⟩ | omega) (by first | exact ⟨by decide, by decide⟩ | omega)) ?_
      rintro _ ⟨z5, rfl, hz5⟩
      refine And.intro (by omega) (And.intro ?_ ?_)
      · intro c6
        refine And.intro (⟨by omega, by omega⟩) ?_
        exact ⟨_, rfl, by omega⟩
      · intro c7
        refine And.intro (⟨by decide, by decide⟩) ?_
        exact ⟨_, rfl, by omega⟩
end CT

set_option linter.all false
/-! contracts (written by gen95.py) -/
abbrev wz_78ec0 : List Nat := [20011, 20810, 20811]
theorem x6_473 : f60c xTc xTys xm_473 = true := by decide +kernel
theorem fb_741_11 : bsJ 741 11 = (0, 10) := by decide +kernel
theorem rL_741_741_11_11_1_0 : frL gJ bsJ 100 ((741, 741), (11, 11), (1, 0), (0, 10)) := frL_of (by decide +kernel)
theorem rS_741_741_4350_4368_2_0 : frS gJ bsJ znJ [20810] 100 ((741, 741), (4350, 4368), (2, 0), (0, 9999)) := frS_of (by decide +kernel)
theorem rS_741_741_4351_4369_2_0 : frS gJ bsJ znJ [20811] 100 ((741, 741), (4351, 4369), (2, 0), (0, 999)) := frS_of (by decide +kernel)
theorem rS_741_741_11_11_1_0 : frS gJ bsJ znJ [20011] 100 ((741, 741), (11, 11), (1, 0), (0, 10)) := frS_of (by decide +kernel)
theorem x6_202 : f60c xTc xTys xm_202 = true := by decide +kernel
theorem rL_252_252_0_9_1_0 : frL gJ bsJ 100 ((252, 252), (0, 9), (1, 0), (0, 9999)) := frL_of (by decide +kernel)
theorem rL_253_253_0_9_1_0 : frL gJ bsJ 100 ((253, 253), (0, 9), (1, 0), (0, 999)) := frL_of (by decide +kernel)
theorem x6_201 : f60c xTc xTys xm_201 = true := by decide +kernel
theorem x6_200 : f60c xTc xTys xm_200 = true := by decide +kernel
theorem x6_474 : f60c xTc xTys xm_474 = true := by decide +kernel
theorem rL_741_741_4350_4368_2_0 : frL gJ bsJ 100 ((741, 741), (4350, 4368), (2, 0), (0, 9999)) := frL_of (by decide +kernel)
theorem rL_741_741_4351_4369_2_0 : frL gJ bsJ 100 ((741, 741), (4351, 4369), (2, 0), (0, 999)) := frL_of (by decide +kernel)
abbrev wz_84712 : List Nat := [254, 255, 256, 10615]
theorem x6_204 : f60c xTc xTys xm_204 = true := by decide +kernel
theorem fb_211_15 : bsJ 211 15 = (0, 7) := by decide +kernel
theorem rS_254_254_0_6_1_0 : frS gJ bsJ znJ [254] 100 ((254, 254), (0, 6), (1, 0), (0, 9)) := frS_of (by decide +kernel)
theorem rS_255_255_0_6_1_0 : frS gJ bsJ znJ [255] 100 ((255, 255), (0, 6), (1, 0), (0, 99)) := frS_of (by decide +kernel)
theorem rS_256_256_0_6_1_0 : frS gJ bsJ znJ [256] 100 ((256, 256), (0, 6), (1, 0), (0, 127)) := frS_of (by decide +kernel)
theorem x6_203 : f60c xTc xTys xm_203 = true := by decide +kernel
abbrev wz_526cb : List Nat := [20012, 20820, 20821, 20822]
theorem x6_475 : f60c xTc xTys xm_475 = true := by decide +kernel
theorem fb_741_12 : bsJ 741 12 = (0, 7) := by decide +kernel
theorem rL_741_741_12_12_1_0 : frL gJ bsJ 100 ((741, 741), (12, 12), (1, 0), (0, 7)) := frL_of (by decide +kernel)
theorem rS_741_741_4370_4388_3_0 : frS gJ bsJ znJ [20820] 100 ((741, 741), (4370, 4388), (3, 0), (0, 9)) := frS_of (by decide +kernel)
theorem rS_741_741_4371_4389_3_0 : frS gJ bsJ znJ [20821] 100 ((741, 741), (4371, 4389), (3, 0), (0, 99)) := frS_of (by decide +kernel)
theorem rS_741_741_4372_4390_3_0 : frS gJ bsJ znJ [20822] 100 ((741, 741), (4372, 4390), (3, 0), (0, 127)) := frS_of (by decide +kernel)
theorem rS_741_741_12_12_1_0 : frS gJ bsJ znJ [20012] 100 ((741, 741), (12, 12), (1, 0), (0, 7)) := frS_of (by decide +kernel)
abbrev wz_c325e : List Nat := [736, 12104]
theorem x6_215 : f60c xTc xTys xm_215 = true := by decide +kernel
theorem fb_735_4 : bsJ 735 4 = ((-2147483648), 2147483647) := by decide +kernel
theorem x6_207 : f60c xTc xTys xm_207 = true := by decide +kernel
abbrev wz_7628e : List Nat := [736, 737, 12103, 12104]
theorem x6_208 : f60c xTc xTys xm_208 = true := by decide +kernel
theorem fb_735_3 : bsJ 735 3 = ((-2147483648), 2147483647) := by decide +kernel
theorem rL_256_256_0_6_1_0 : frL gJ bsJ 100 ((256, 256), (0, 6), (1, 0), (0, 127)) := frL_of (by decide +kernel)
theorem rS_737_737_0_6_1_0 : frS gJ bsJ znJ [737] 100 ((737, 737), (0, 6), (1, 0), (0, 6)) := frS_of (by decide +kernel)
theorem rL_254_254_0_6_1_0 : frL gJ bsJ 100 ((254, 254), (0, 6), (1, 0), (0, 9)) := frL_of (by decide +kernel)
theorem rL_255_255_0_6_1_0 : frL gJ bsJ 100 ((255, 255), (0, 6), (1, 0), (0, 99)) := frL_of (by decide +kernel)
theorem fb_735_2 : bsJ 735 2 = ((-2147483648), 2147483647) := by decide +kernel
theorem x6_209 : f60c xTc xTys xm_209 = true := by decide +kernel
theorem x6_210 : f60c xTc xTys xm_210 = true := by decide +kernel
theorem x6_211 : f60c xTc xTys xm_211 = true := by decide +kernel
theorem x6_212 : f60c xTc xTys xm_212 = true := by decide +kernel
theorem x6_213 : f60c xTc xTys xm_213 = true := by decide +kernel
theorem x6_214 : f60c xTc xTys xm_214 = true := by decide +kernel
abbrev wz_79e74 : List Nat := [736, 737, 12102, 12103, 12104]
theorem x6_206 : f60c xTc xTys xm_206 = true := by decide +kernel
theorem x6_205 : f60c xTc xTys xm_205 = true := by decide +kernel
abbrev wz_4d25e : List Nat := [757, 758, 12233, 12234, 12235]
theorem x6_479 : f60c xTc xTys xm_479 = true := by decide +kernel
theorem fb_740_35 : bsJ 740 35 = (0, 1) := by decide +kernel
theorem rL_757_757_0_6_1_0 : frL gJ bsJ 100 ((757, 757), (0, 6), (1, 0), (0, 6)) := frL_of (by decide +kernel)
theorem rS_758_758_0_6_1_0 : frS gJ bsJ znJ [758] 100 ((758, 758), (0, 6), (1, 0), (0, 6)) := frS_of (by decide +kernel)
theorem rL_741_741_4372_4390_3_0 : frL gJ bsJ 100 ((741, 741), (4372, 4390), (3, 0), (0, 127)) := frL_of (by decide +kernel)
theorem fb_740_34 : bsJ 740 34 = ((-2147483648), 2147483647) := by decide +kernel
theorem rS_757_757_0_6_1_0 : frS gJ bsJ znJ [757] 100 ((757, 757), (0, 6), (1, 0), (0, 6)) := frS_of (by decide +kernel)
theorem rL_741_741_4370_4388_3_0 : frL gJ bsJ 100 ((741, 741), (4370, 4388), (3, 0), (0, 9)) := frL_of (by decide +kernel)
theorem rL_741_741_4371_4389_3_0 : frL gJ bsJ 100 ((741, 741), (4371, 4389), (3, 0), (0, 99)) := frL_of (by decide +kernel)
theorem fb_740_33 : bsJ 740 33 = ((-2147483648), 2147483647) := by decide +kernel
theorem x6_480 : f60c xTc xTys xm_480 = true := by decide +kernel
theorem x6_481 : f60c xTc xTys xm_481 = true := by decide +kernel
theorem x6_482 : f60c xTc xTys xm_482 = true := by decide +kernel
theorem x6_483 : f60c xTc xTys xm_483 = true := by decide +kernel
theorem x6_484 : f60c xTc xTys xm_484 = true := by decide +kernel
theorem x6_485 : f60c xTc xTys xm_485 = true := by decide +kernel
theorem x6_486 : f60c xTc xTys xm_486 = true := by decide +kernel
theorem x6_478 : f60c xTc xTys xm_478 = true := by decide +kernel
theorem x6_477 : f60c xTc xTys xm_477 = true := by decide +kernel
theorem x6_476 : f60c xTc xTys xm_476 = true := by decide +kernel
theorem x6_216 : f60c xTc xTys xm_216 = true := by decide +kernel
theorem rL_736_736_0_6_1_0 : frL gJ bsJ 100 ((736, 736), (0, 6), (1, 0), (0, 6)) := frL_of (by decide +kernel)
theorem x6_487 : f60c xTc xTys xm_487 = true := by decide +kernel
theorem rL_758_758_0_6_1_0 : frL gJ bsJ 100 ((758, 758), (0, 6), (1, 0), (0, 6)) := frL_of (by decide +kernel)
abbrev wz_ea84a : List Nat := [738, 10014]
theorem x6_217 : f60c xTc xTys xm_217 = true := by decide +kernel
theorem fb_0_14 : bsJ 0 14 = (0, 60) := by decide +kernel
theorem rS_738_738_0_59_1_0 : frS gJ bsJ znJ [738] 100 ((738, 738), (0, 59), (1, 0), ((-2147483648), 2147483647)) := frS_dflt (by decide) (by decide +kernel)
abbrev wz_f12ac : List Nat := [759, 12237]
theorem x6_488 : f60c xTc xTys xm_488 = true := by decide +kernel
theorem fb_740_37 : bsJ 740 37 = (0, 60) := by decide +kernel
theorem rS_759_759_0_59_1_0 : frS gJ bsJ znJ [759] 100 ((759, 759), (0, 59), (1, 0), ((-2147483648), 2147483647)) := frS_dflt (by decide) (by decide +kernel)
section CT
variable {ρ : Nat → Int32} {base n : Nat} {F : Nat → Prop} {D : va_G} {dA : Nat → ClassId} {la : Launch}
set_option maxRecDepth 8000 in
theorem ct_M_lot_a4778 {I : fH} {x1 : Int} {x2 : Int} (h0 : fB bsJ I) (ha1 : ((-2147483648) ≤ x1 ∧ x1 ≤ 2147483647)) (ha2 : ((-2147483648) ≤ x2 ∧ x2 ≤ 2147483647)) : fC ρ base n F xTc vwCl xTys D dA la gJ (fbz bsJ znJ (fKc wz_78ec0) I) xm_473 [.inr (.inr (some 740)), .inl x1, .inl x2] I (fun I' r => ∃ z, r = some (.inl z) ∧ (((0 ≤ z ∧ z ≤ 9) ∨ z = (-1000000003) ∨ z = (-1000000001)) ∧ ((1 ≤ x1 ∧ x1 ≤ 9999 ∧ 0 ≤ x2 ∧ x2 ≤ 999 ∧ I 741 11 < 10 → z = I 741 11 ∧ I' 741 11 = I 741 11 + 1) ∧ (1 ≤ x1 ∧ x1 ≤ 9999 ∧ 0 ≤ x2 ∧ x2 ≤ 999 ∧ 10 ≤ I 741 11 → z = (-1000000003) ∧ I' 741 11 = I 741 11) ∧ (¬ (1 ≤ x1 ∧ x1 ≤ 9999 ∧ 0 ≤ x2 ∧ x2 ≤ 999) → z = (-1000000001) ∧ I' 741 11 = I 741 11))) ∧ (∀ j : Nat, j < 10 → I' 741 (4350 + 2 * j) = if (j : Int) = z then x1 else I 741 (4350 + 2 * j)) ∧ (∀ j : Nat, j < 10 → I' 741 (4351 + 2 * j) = if (j : Int) = z then x2 else I 741 (4351 + 2 * j))) := by
  have hW : fzs wz_78ec0 (fKc wz_78ec0) := fKc_ok _
  refine f_meth (rb := rbJ) (J := []) 1 400 xG xin_473 x6_473 okJ (fB_self h0) ?_ ?_
  · exact fun q h => absurd h List.not_mem_nil
  · have hB0 := fB_self (zn := znJ) (K := fKc wz_78ec0) h0
    have b1 := fBd fb_741_11 (fBz h0 hB0)
    refine And.intro (by first | exact fi_ ha1.1 ha1.2 rfl | omega) ?_
    refine Exists.intro xm_238 (And.intro mi_238 (And.intro ⟨rfl, rfl, rfl, rfl⟩ (And.intro True.intro ?_)))
    refine fcallp hB0 (ct_M_isIn_27230 (fBz h0 hB0) (by first | exact ⟨ha1.1, ha1.2⟩ | omega) (by first | exact ⟨by decide, by decide⟩ | omega) (by first | exact ⟨by decide, by decide⟩ | omega)) ?_
    rintro _ ⟨z2, rfl, hz2⟩
    refine And.intro (by omega) (And.intro ?_ ?_)
    · intro c3
      refine And.intro (True.intro) ?_
      exact ⟨_, rfl, by omega, (fun j _ => if_no (by omega)), (fun j _ => if_no (by omega))⟩
    · intro c4
      refine And.intro (by first | exact fi_ ha2.1 ha2.2 rfl | omega) ?_
      refine Exists.intro xm_238 (And.intro mi_238 (And.intro ⟨rfl, rfl, rfl, rfl⟩ (And.intro True.intro ?_)))
      refine fcallp hB0 (ct_M_isIn_27230 (fBz h0 hB0) (by first | exact ⟨ha2.1, ha2.2⟩ | omega) (by first | exact ⟨by decide, by decide⟩ | omega) (by first | exact ⟨by decide, by decide⟩ | omega)) ?_
      rintro _ ⟨z5, rfl, hz5⟩
      refine And.intro (by omega) (And.intro ?_ ?_)
      · intro c6
        refine And.intro ⟨rfl, by decide, by decide⟩ ?_
        refine fload1 rL_741_741_11_11_1_0 h0 hB0 ⟨by decide, by decide⟩ (by first | exact ⟨by decide, by decide⟩ | omega) ?_
        intro z7 lz7 uz7 qz7
        have pz7 := fld_at qz7 11 (by omega)
        refine And.intro (And.intro (by first | exact fi_ lz7 uz7 rfl | omega) (by first | exact ⟨by decide, by decide⟩ | omega)) (And.intro ?_ ?_)
        · intro c8
          refine And.intro ⟨rfl, by decide, by decide⟩ ?_
          refine And.intro ⟨rfl, by decide, by decide⟩ ?_
          refine fload1 rL_741_741_11_11_1_0 h0 hB0 ⟨by decide, by decide⟩ (by first | exact ⟨by decide, by decide⟩ | omega) ?_
          intro z9 lz9 uz9 qz9
          have pz9 := fld_at qz9 11 (by omega)
          refine fstore rS_741_741_4350_4368_2_0 (fzs_sub (by decide +kernel) hW) (by omega) (by first | exact ⟨Int.le_trans (by decide) (Int.le_trans (Int.le_refl _) hz2.1), Int.le_trans (Int.le_trans hz2.2 (Int.le_refl _)) (by decide)⟩ | omega) ?_
          intro IhB10 ehB10 hB10
          have t11 := fup_self ehB10
          have t12 : IhB10 741 11 = I 741 11 := (congrFun (congrFun ehB10 741) 11).trans (fup_ne (by first | exact Or.inl (by decide) | omega))
          refine And.intro ⟨rfl, by decide, by decide⟩ ?_
          refine And.intro ⟨rfl, by decide, by decide⟩ ?_
          refine fload1 rL_741_741_11_11_1_0 h0 hB10 ⟨by decide, by decide⟩ (by first | exact ⟨by decide, by decide⟩ | omega) ?_
          intro z13 lz13 uz13 qz13
          have pz13 := fld_at qz13 11 (by omega)
          refine fstore rS_741_741_4351_4369_2_0 (fzs_sub (by decide +kernel) hW) (by omega) (by first | exact ⟨Int.le_trans (by decide) (Int.le_trans (Int.le_refl _) hz5.1), Int.le_trans (Int.le_trans hz5.2 (Int.le_refl _)) (by decide)⟩ | omega) ?_
          intro IhB14 ehB14 hB14
          have t15 := fup_self ehB14
          have t16 : IhB14 741 11 = IhB10 741 11 := (congrFun (congrFun ehB14 741) 11).trans (fup_ne (by first | exact Or.inl (by decide) | omega))
          refine And.intro ⟨rfl, by decide, by decide⟩ ?_
          refine fload1 rL_741_741_11_11_1_0 h0 hB14 ⟨by decide, by decide⟩ (by first | exact ⟨by decide, by decide⟩ | omega) ?_
          intro z17 lz17 uz17 qz17
          have pz17 := fld_at qz17 11 (by omega)
          refine fstore1 rS_741_741_11_11_1_0 (fzs_sub (by decide +kernel) hW) ⟨by decide, by decide⟩ (by first | exact ⟨by decide, by decide⟩ | omega) (by omega) ?_
          intro IhB18 ehB18 hB18
          have t19 := fup_self ehB18
          have t20 := fup_at ehB18 11 (by first | rfl | omega)
          refine And.intro ⟨rfl, by decide, by decide⟩ ?_
          refine fload1 rL_741_741_11_11_1_0 h0 hB18 ⟨by decide, by decide⟩ (by first | exact ⟨by decide, by decide⟩ | omega) ?_
          intro z21 lz21 uz21 qz21
          have pz21 := fld_at qz21 11 (by omega)
          refine And.intro (True.intro) ?_
          exact ⟨_, rfl, by omega, (fun j hj => ((fup_other ehB18 741 (4350 + 2 * j) (Or.inr (by omega))).trans (fup_other ehB14 741 (4350 + 2 * j) (Or.inr (by omega)))).trans ((fup_if ehB10 (4350 + 2 * j)).trans (if_go (by omega) rfl))), (fun j hj => (fup_other ehB18 741 (4351 + 2 * j) (Or.inr (by omega))).trans ((fup_if ehB14 (4351 + 2 * j)).trans (if_go (by omega) (fup_other ehB10 741 (4351 + 2 * j) (Or.inr (by omega))))))⟩
        · intro c22
          refine And.intro (True.intro) ?_
          exact ⟨_, rfl, by omega, (fun j _ => if_no (by omega)), (fun j _ => if_no (by omega))⟩
      · intro c23
        refine And.intro (True.intro) ?_
        exact ⟨_, rfl, by omega, (fun j _ => if_no (by omega)), (fun j _ => if_no (by omega))⟩
abbrev jc_Desk_sumOf_9fb57_5 (x2 : Int) : Nat → fL → List fV → fH → Prop := fun m lv st I => ∃ (y2 : Int) (y3 : Int) (y4 : Int), lv = [(0, .inr (.inr (some 211))), (1, .inr (.inr (some 252))), (2, .inl y2), (3, .inl y3), (4, .inl y4)] ∧ st = [] ∧ (((1 ≤ y2 ∧ y2 ≤ 2147483647) ∧ ((-2147483648) ≤ y3 ∧ y3 ≤ 2147483647) ∧ (0 ≤ y4 ∧ y4 ≤ 10) ∧ (y2 = x2) ∧ (y4 ≤ I 211 11)) ∧ (iI y3 = smF (I 252) y2 y4.toNat)) ∧ m = (1 + 1 * (10 - y4) : Int).toNat
set_option maxRecDepth 8000 in
theorem ct_Desk_sumOf_9fb57 {I : fH} {x2 : Int} (h0 : fB bsJ I) (ha2 : (1 ≤ x2 ∧ x2 ≤ 2147483647)) : fC ρ base n F xTc vwCl xTys D dA la gJ (fbz bsJ znJ (fKc []) I) xm_202 [.inr (.inr (some 211)), .inr (.inr (some 252)), .inl x2] I (fun _ r => ∃ z, r = some (.inl z) ∧ ((-2147483648) ≤ z ∧ z ≤ 2147483647) ∧ (iI z = smF (I 252) x2 (I 211 11).toNat)) := by
  have hW : fzs [] (fKc []) := fKc_ok _
  refine f_meth (rb := rbJ) (J := [(5, (jc_Desk_sumOf_9fb57_5 x2))]) 12 400 xG xin_202 x6_202 okJ (fB_self h0) ?_ ?_
  · refine List.forall_mem_cons.mpr ⟨?_, fun q h => absurd h List.not_mem_nil⟩
    · rintro m _ _ I1 hB1 ⟨y2, y3, y4, rfl, rfl, ⟨hb, hx0⟩, hm⟩
      have b1 := fBd fb_211_11 (fBz h0 hB1)
      have eI : I1 = I := fFr_nil (fFr_of hB1)
      refine And.intro ⟨rfl, by decide, by decide⟩ (fgetf fb_211_11 h0 hB1 ?_)
      intro z2 lz2 uz2 qz2
      refine And.intro (And.intro (by first | exact fi_ hb.2.2.1.1 hb.2.2.1.2 rfl | omega) (by first | exact fi_ lz2 uz2 rfl | omega)) (And.intro ?_ ?_)
      · intro c3
        refine And.intro (True.intro) ?_
        exact ⟨_, rfl, (by first | exact ⟨hb.2.1.1, hb.2.1.2⟩ | omega), (by have q := hx0; rw [eI, show y2 = x2 by omega, show y4.toNat = (I 211 11).toNat by rw [← eI]; omega] at q; exact q)⟩
      · intro c4
        intro z5 hz5 ez5
        intro z6 hz6 ez6 bz6
        have bz6 := bz6 (by omega)
        have wb := bt_of hz6 ez5 ez6 (by omega)
        refine And.intro (And.intro (by first | exact fi_ bz6.1 bz6.2 rfl | omega) (by first | exact ⟨by decide, by decide⟩ | omega)) (And.intro ?_ ?_)
        · intro c7
          exact fcutJ (I := I1) (j := (jc_Desk_sumOf_9fb57_5 x2)) (lv' := [(0, .inr (.inr (some 211))), (1, .inr (.inr (some 252))), (2, .inl _), (3, .inl _), (4, .inl _)]) (And.intro rfl (And.intro rfl (And.intro rfl (And.intro rfl (And.intro rfl True.intro))))) ⟨_, _, _, rfl, rfl, ⟨by omega, (by first | exact sm_yes hx0 (by omega) (by omega) (by omega) enil0 qnil0 | exact sm_no hx0 (by omega) (by omega) (by omega))⟩, rfl⟩ (by omega)
        · intro c8
          refine fload1 rL_252_252_0_9_1_0 h0 hB1 ⟨by decide, by decide⟩ (by first | exact ⟨hb.2.2.1.1, Int.le_trans (Int.le_sub_one_of_lt (Int.lt_of_lt_of_le c4 uz2)) (by decide)⟩ | omega) ?_
          intro z9 lz9 uz9 qz9
          intro z10 hz10 ez10 bz10
          clear bz10
          exact fcutJ (I := I1) (j := (jc_Desk_sumOf_9fb57_5 x2)) (lv' := [(0, .inr (.inr (some 211))), (1, .inr (.inr (some 252))), (2, .inl _), (3, .inl _), (4, .inl _)]) (And.intro rfl (And.intro rfl (And.intro rfl (And.intro rfl (And.intro rfl True.intro))))) ⟨_, _, _, rfl, rfl, ⟨by omega, (by first | exact sm_yes hx0 (by omega) (by omega) (by omega) ez10 qz9 | exact sm_no hx0 (by omega) (by omega) (by omega))⟩, rfl⟩ (by omega)
  · have hB0 := fB_self (zn := znJ) (K := fKc []) h0
    have b11 := fBd fb_211_11 (fBz h0 hB0)
    exact fcutJ (I := I) (j := (jc_Desk_sumOf_9fb57_5 x2)) (lv' := [(0, .inr (.inr (some 211))), (1, .inr (.inr (some 252))), (2, .inl _), (3, .inl _), (4, .inl _)]) (And.intro rfl (And.intro rfl (And.intro rfl (And.intro rfl (And.intro rfl True.intro))))) ⟨_, _, _, rfl, rfl, ⟨by omega, iI_0⟩, rfl⟩ (by omega)
abbrev jc_Desk_sumOf_8e437_5 (x2 : Int) : Nat → fL → List fV → fH → Prop := fun m lv st I => ∃ (y2 : Int) (y3 : Int) (y4 : Int), lv = [(0, .inr (.inr (some 211))), (1, .inr (.inr (some 253))), (2, .inl y2), (3, .inl y3), (4, .inl y4)] ∧ st = [] ∧ (((1 ≤ y2 ∧ y2 ≤ 2147483647) ∧ ((-2147483648) ≤ y3 ∧ y3 ≤ 2147483647) ∧ (0 ≤ y4 ∧ y4 ≤ 10) ∧ (y2 = x2) ∧ (y4 ≤ I 211 11)) ∧ (iI y3 = smF (I 253) y2 y4.toNat)) ∧ m = (1 + 1 * (10 - y4) : Int).toNat
set_option maxRecDepth 8000 in
theorem ct_Desk_sumOf_8e437 {I : fH} {x2 : Int} (h0 : fB bsJ I) (ha2 : (1 ≤ x2 ∧ x2 ≤ 2147483647)) : fC ρ base n F xTc vwCl xTys D dA la gJ (fbz bsJ znJ (fKc []) I) xm_202 [.inr (.inr (some 211)), .inr (.inr (some 253)), .inl x2] I (fun _ r => ∃ z, r = some (.inl z) ∧ ((-2147483648) ≤ z ∧ z ≤ 2147483647) ∧ (iI z = smF (I 253) x2 (I 211 11).toNat)) := by
  have hW : fzs [] (fKc []) := fKc_ok _
  refine f_meth (rb := rbJ) (J := [(5, (jc_Desk_sumOf_8e437_5 x2))]) 12 400 xG xin_202 x6_202 okJ (fB_self h0) ?_ ?_
  · refine List.forall_mem_cons.mpr ⟨?_, fun q h => absurd h List.not_mem_nil⟩
    · rintro m _ _ I1 hB1 ⟨y2, y3, y4, rfl, rfl, ⟨hb, hx0⟩, hm⟩
      have b1 := fBd fb_211_11 (fBz h0 hB1)
      have eI : I1 = I := fFr_nil (fFr_of hB1)
      refine And.intro ⟨rfl, by decide, by decide⟩ (fgetf fb_211_11 h0 hB1 ?_)
      intro z2 lz2 uz2 qz2
      refine And.intro (And.intro (by first | exact fi_ hb.2.2.1.1 hb.2.2.1.2 rfl | omega) (by first | exact fi_ lz2 uz2 rfl | omega)) (And.intro ?_ ?_)
      · intro c3
        refine And.intro (True.intro) ?_
        exact ⟨_, rfl, (by first | exact ⟨hb.2.1.1, hb.2.1.2⟩ | omega), (by have q := hx0; rw [eI, show y2 = x2 by omega, show y4.toNat = (I 211 11).toNat by rw [← eI]; omega] at q; exact q)⟩
      · intro c4
        intro z5 hz5 ez5
        intro z6 hz6 ez6 bz6
        have bz6 := bz6 (by omega)
        have wb := bt_of hz6 ez5 ez6 (by omega)
        refine And.intro (And.intro (by first | exact fi_ bz6.1 bz6.2 rfl | omega) (by first | exact ⟨by decide, by decide⟩ | omega)) (And.intro ?_ ?_)
        · intro c7
          exact fcutJ (I := I1) (j := (jc_Desk_sumOf_8e437_5 x2)) (lv' := [(0, .inr (.inr (some 211))), (1, .inr (.inr (some 253))), (2, .inl _), (3, .inl _), (4, .inl _)]) (And.intro rfl (And.intro rfl (And.intro rfl (And.intro rfl (And.intro rfl True.intro))))) ⟨_, _, _, rfl, rfl, ⟨by omega, (by first | exact sm_yes hx0 (by omega) (by omega) (by omega) enil0 qnil0 | exact sm_no hx0 (by omega) (by omega) (by omega))⟩, rfl⟩ (by omega)
        · intro c8
          refine fload1 rL_253_253_0_9_1_0 h0 hB1 ⟨by decide, by decide⟩ (by first | exact ⟨hb.2.2.1.1, Int.le_trans (Int.le_sub_one_of_lt (Int.lt_of_lt_of_le c4 uz2)) (by decide)⟩ | omega) ?_
          intro z9 lz9 uz9 qz9
          intro z10 hz10 ez10 bz10
          clear bz10
          exact fcutJ (I := I1) (j := (jc_Desk_sumOf_8e437_5 x2)) (lv' := [(0, .inr (.inr (some 211))), (1, .inr (.inr (some 253))), (2, .inl _), (3, .inl _), (4, .inl _)]) (And.intro rfl (And.intro rfl (And.intro rfl (And.intro rfl (And.intro rfl True.intro))))) ⟨_, _, _, rfl, rfl, ⟨by omega, (by first | exact sm_yes hx0 (by omega) (by omega) (by omega) ez10 qz9 | exact sm_no hx0 (by omega) (by omega) (by omega))⟩, rfl⟩ (by omega)
  · have hB0 := fB_self (zn := znJ) (K := fKc []) h0
    have b11 := fBd fb_211_11 (fBz h0 hB0)
    exact fcutJ (I := I) (j := (jc_Desk_sumOf_8e437_5 x2)) (lv' := [(0, .inr (.inr (some 211))), (1, .inr (.inr (some 253))), (2, .inl _), (3, .inl _), (4, .inl _)]) (And.intro rfl (And.intro rfl (And.intro rfl (And.intro rfl (And.intro rfl True.intro))))) ⟨_, _, _, rfl, rfl, ⟨by omega, iI_0⟩, rfl⟩ (by omega)
abbrev jc_Desk_bestLots_84d7e_10 (x1 : Int) : Nat → fL → List fV → fH → Prop := fun m lv st I => ∃ (y1 : Int) (y2 : Int) (y3 : Int) (y4 : Int) (y5 : Int), lv = [(0, .inr (.inr (some 211))), (1, .inl y1), (2, .inl y2), (3, .inl y3), (4, .inl y4), (5, .inl y5)] ∧ st = [] ∧ (((0 ≤ y1 ∧ y1 ≤ 99999) ∧ (0 ≤ y2 ∧ y2 ≤ 2147483647) ∧ ((-2147483648) ≤ y3 ∧ y3 ≤ 2147483647) ∧ ((-2147483648) ≤ y4 ∧ y4 ≤ 99999) ∧ (1 ≤ y5 ∧ y5 ≤ 2147483647) ∧ (y1 = x1) ∧ (1 ≤ y5)) ∧ ((y2, y3, y4) = nf (cgF (I 252) (I 253) (I 211 11).toNat y1) (0, 0, 0) (y5 - 1).toNat) ∧ (y5 ≤ tw (I 211 11))) ∧ m = (1 + 1 * (2147483647 - y5) : Int).toNat
set_option maxRecDepth 8000 in
theorem ct_Desk_bestLots_84d7e {I : fH} {x1 : Int} (h0 : fB bsJ I) (ha1 : (0 ≤ x1 ∧ x1 ≤ 99999)) : fC ρ base n F xTc vwCl xTys D dA la gJ (fbz bsJ znJ (fKc []) I) xm_201 [.inr (.inr (some 211)), .inl x1] I (fun _ r => ∃ z, r = some (.inl z) ∧ (0 ≤ z ∧ z ≤ 2147483647) ∧ (z = (nf (cgF (I 252) (I 253) (I 211 11).toNat x1) (0, 0, 0) (tw (I 211 11) - 1).toNat).1)) := by
  have hW : fzs [] (fKc []) := fKc_ok _
  refine f_meth (rb := rbJ) (J := [(10, (jc_Desk_bestLots_84d7e_10 x1))]) 2147483648 400 xG xin_201 x6_201 okJ (fB_self h0) ?_ ?_
  · refine List.forall_mem_cons.mpr ⟨?_, fun q h => absurd h List.not_mem_nil⟩
    · rintro m _ _ I1 hB1 ⟨y1, y2, y3, y4, y5, rfl, rfl, ⟨hb, hx0, hx1⟩, hm⟩
      have b1 := fBd fb_211_11 (fBz h0 hB1)
      have eI : I1 = I := fFr_nil (fFr_of hB1)
      refine And.intro ⟨rfl, by decide, by decide⟩ (fgetf fb_211_11 h0 hB1 ?_)
      intro z2 lz2 uz2 qz2
      intro z3 hz3 ez3
      have wt := tw_of hz3 ez3
      rw [qz2] at wt
      refine And.intro (by omega) (And.intro ?_ ?_)
      · intro c4
        refine And.intro (True.intro) ?_
        exact ⟨_, rfl, (by first | exact ⟨hb.2.1.1, hb.2.1.2⟩ | omega), (by have q := congrArg Prod.fst hx0; rw [eI, show y1 = x1 by omega, show y5 = tw (I 211 11) by rw [← eI]; omega] at q; exact q)⟩
      · intro c5
        refine And.intro ⟨rfl, by decide, by decide⟩ ?_
        refine Exists.intro xm_202 (And.intro mi_202 (And.intro ⟨rfl, rfl, rfl, rfl⟩ (And.intro rfl ?_)))
        refine fcallp hB1 (ct_Desk_sumOf_9fb57 (fBz h0 hB1) (by first | exact ⟨hb.2.2.2.2.1.1, hb.2.2.2.2.1.2⟩ | omega)) ?_
        rintro _ ⟨z6, rfl, hz6, g0z6⟩
        refine And.intro ⟨rfl, by decide, by decide⟩ ?_
        refine Exists.intro xm_202 (And.intro mi_202 (And.intro ⟨rfl, rfl, rfl, rfl⟩ (And.intro rfl ?_)))
        refine fcallp hB1 (ct_Desk_sumOf_8e437 (fBz h0 hB1) (by first | exact ⟨hb.2.2.2.2.1.1, hb.2.2.2.2.1.2⟩ | omega)) ?_
        rintro _ ⟨z7, rfl, hz7, g0z7⟩
        refine And.intro (And.intro (by first | exact fi_ hz7.1 hz7.2 rfl | omega) (by first | exact fi_ hb.2.2.1.1 hb.2.2.1.2 rfl | omega)) (And.intro ?_ ?_)
        · intro c8
          refine And.intro (And.intro (by first | exact fi_ hz6.1 hz6.2 rfl | omega) (by first | exact fi_ hb.1.1 hb.1.2 rfl | omega)) (And.intro ?_ ?_)
          · intro c9
            exact fcutJ (I := I1) (j := (jc_Desk_bestLots_84d7e_10 x1)) (lv' := [(0, .inr (.inr (some 211))), (1, .inl _), (2, .inl _), (3, .inl _), (4, .inl _), (5, .inl _)]) (And.intro rfl (And.intro rfl (And.intro rfl (And.intro rfl (And.intro rfl (And.intro rfl True.intro)))))) ⟨_, _, _, _, _, rfl, rfl, ⟨by omega, (by first | exact cg_yes hx0 (by omega) (by omega) (by omega) (by omega) g0z6 g0z7 (by omega) | exact cg_no hx0 (by omega) (by omega) (by omega) (by omega) g0z6 g0z7 (by omega)), (by omega)⟩, rfl⟩ (by omega)
          · intro c10
            refine And.intro (by first | exact ⟨by decide, by decide⟩ | omega) (And.intro ?_ ?_)
            · intro c11
              exact fcutJ (I := I1) (j := (jc_Desk_bestLots_84d7e_10 x1)) (lv' := [(0, .inr (.inr (some 211))), (1, .inl _), (2, .inl _), (3, .inl _), (4, .inl _), (5, .inl _)]) (And.intro rfl (And.intro rfl (And.intro rfl (And.intro rfl (And.intro rfl (And.intro rfl True.intro)))))) ⟨_, _, _, _, _, rfl, rfl, ⟨by omega, (by first | exact cg_yes hx0 (by omega) (by omega) (by omega) (by omega) g0z6 g0z7 (by omega) | exact cg_no hx0 (by omega) (by omega) (by omega) (by omega) g0z6 g0z7 (by omega)), (by omega)⟩, rfl⟩ (by omega)
            · intro c12
              exact fcutJ (I := I1) (j := (jc_Desk_bestLots_84d7e_10 x1)) (lv' := [(0, .inr (.inr (some 211))), (1, .inl _), (2, .inl _), (3, .inl _), (4, .inl _), (5, .inl _)]) (And.intro rfl (And.intro rfl (And.intro rfl (And.intro rfl (And.intro rfl (And.intro rfl True.intro)))))) ⟨_, _, _, _, _, rfl, rfl, ⟨by omega, (by first | exact cg_yes hx0 (by omega) (by omega) (by omega) (by omega) g0z6 g0z7 (by omega) | exact cg_no hx0 (by omega) (by omega) (by omega) (by omega) g0z6 g0z7 (by omega)), (by omega)⟩, rfl⟩ (by omega)
        · intro c13
          refine And.intro (And.intro (by first | exact fi_ hz7.1 hz7.2 rfl | omega) (by first | exact fi_ hb.2.2.1.1 hb.2.2.1.2 rfl | omega)) (And.intro ?_ ?_)
          · intro c14
            refine And.intro (And.intro (by first | exact fi_ hz6.1 hz6.2 rfl | omega) (by first | exact fi_ hb.1.1 hb.1.2 rfl | omega)) (And.intro ?_ ?_)
            · intro c15
              exact fcutJ (I := I1) (j := (jc_Desk_bestLots_84d7e_10 x1)) (lv' := [(0, .inr (.inr (some 211))), (1, .inl _), (2, .inl _), (3, .inl _), (4, .inl _), (5, .inl _)]) (And.intro rfl (And.intro rfl (And.intro rfl (And.intro rfl (And.intro rfl (And.intro rfl True.intro)))))) ⟨_, _, _, _, _, rfl, rfl, ⟨by omega, (by first | exact cg_yes hx0 (by omega) (by omega) (by omega) (by omega) g0z6 g0z7 (by omega) | exact cg_no hx0 (by omega) (by omega) (by omega) (by omega) g0z6 g0z7 (by omega)), (by omega)⟩, rfl⟩ (by omega)
            · intro c16
              refine And.intro (by omega) (And.intro ?_ ?_)
              · intro c17
                exact fcutJ (I := I1) (j := (jc_Desk_bestLots_84d7e_10 x1)) (lv' := [(0, .inr (.inr (some 211))), (1, .inl _), (2, .inl _), (3, .inl _), (4, .inl _), (5, .inl _)]) (And.intro rfl (And.intro rfl (And.intro rfl (And.intro rfl (And.intro rfl (And.intro rfl True.intro)))))) ⟨_, _, _, _, _, rfl, rfl, ⟨by omega, (by first | exact cg_yes hx0 (by omega) (by omega) (by omega) (by omega) g0z6 g0z7 (by omega) | exact cg_no hx0 (by omega) (by omega) (by omega) (by omega) g0z6 g0z7 (by omega)), (by omega)⟩, rfl⟩ (by omega)
              · intro c18
                exact fcutJ (I := I1) (j := (jc_Desk_bestLots_84d7e_10 x1)) (lv' := [(0, .inr (.inr (some 211))), (1, .inl _), (2, .inl _), (3, .inl _), (4, .inl _), (5, .inl _)]) (And.intro rfl (And.intro rfl (And.intro rfl (And.intro rfl (And.intro rfl (And.intro rfl True.intro)))))) ⟨_, _, _, _, _, rfl, rfl, ⟨by omega, (by first | exact cg_yes hx0 (by omega) (by omega) (by omega) (by omega) g0z6 g0z7 (by omega) | exact cg_no hx0 (by omega) (by omega) (by omega) (by omega) g0z6 g0z7 (by omega)), (by omega)⟩, rfl⟩ (by omega)
          · intro c19
            refine And.intro (And.intro (by first | exact fi_ hz6.1 hz6.2 rfl | omega) (by first | exact fi_ hb.2.2.2.1.1 hb.2.2.2.1.2 rfl | omega)) (And.intro ?_ ?_)
            · intro c20
              refine And.intro (And.intro (by first | exact fi_ hz6.1 hz6.2 rfl | omega) (by first | exact fi_ hb.1.1 hb.1.2 rfl | omega)) (And.intro ?_ ?_)
              · intro c21
                exact fcutJ (I := I1) (j := (jc_Desk_bestLots_84d7e_10 x1)) (lv' := [(0, .inr (.inr (some 211))), (1, .inl _), (2, .inl _), (3, .inl _), (4, .inl _), (5, .inl _)]) (And.intro rfl (And.intro rfl (And.intro rfl (And.intro rfl (And.intro rfl (And.intro rfl True.intro)))))) ⟨_, _, _, _, _, rfl, rfl, ⟨by omega, (by first | exact cg_yes hx0 (by omega) (by omega) (by omega) (by omega) g0z6 g0z7 (by omega) | exact cg_no hx0 (by omega) (by omega) (by omega) (by omega) g0z6 g0z7 (by omega)), (by omega)⟩, rfl⟩ (by omega)
              · intro c22
                refine And.intro (by omega) (And.intro ?_ ?_)
                · intro c23
                  exact fcutJ (I := I1) (j := (jc_Desk_bestLots_84d7e_10 x1)) (lv' := [(0, .inr (.inr (some 211))), (1, .inl _), (2, .inl _), (3, .inl _), (4, .inl _), (5, .inl _)]) (And.intro rfl (And.intro rfl (And.intro rfl (And.intro rfl (And.intro rfl (And.intro rfl True.intro)))))) ⟨_, _, _, _, _, rfl, rfl, ⟨by omega, (by first | exact cg_yes hx0 (by omega) (by omega) (by omega) (by omega) g0z6 g0z7 (by omega) | exact cg_no hx0 (by omega) (by omega) (by omega) (by omega) g0z6 g0z7 (by omega)), (by omega)⟩, rfl⟩ (by omega)
                · intro c24
                  exact fcutJ (I := I1) (j := (jc_Desk_bestLots_84d7e_10 x1)) (lv' := [(0, .inr (.inr (some 211))), (1, .inl _), (2, .inl _), (3, .inl _), (4, .inl _), (5, .inl _)]) (And.intro rfl (And.intro rfl (And.intro rfl (And.intro rfl (And.intro rfl (And.intro rfl True.intro)))))) ⟨_, _, _, _, _, rfl, rfl, ⟨by omega, (by first | exact cg_yes hx0 (by omega) (by omega) (by omega) (by omega) g0z6 g0z7 (by omega) | exact cg_no hx0 (by omega) (by omega) (by omega) (by omega) g0z6 g0z7 (by omega)), (by omega)⟩, rfl⟩ (by omega)
            · intro c25
              refine And.intro (And.intro (by first | exact fi_ hz6.1 (Int.le_sub_one_of_lt (Int.lt_of_lt_of_le c25 hb.2.2.2.1.2)) rfl | omega) (by first | exact fi_ hb.1.1 hb.1.2 rfl | omega)) (And.intro ?_ ?_)
              · intro c26
                exact fcutJ (I := I1) (j := (jc_Desk_bestLots_84d7e_10 x1)) (lv' := [(0, .inr (.inr (some 211))), (1, .inl _), (2, .inl _), (3, .inl _), (4, .inl _), (5, .inl _)]) (And.intro rfl (And.intro rfl (And.intro rfl (And.intro rfl (And.intro rfl (And.intro rfl True.intro)))))) ⟨_, _, _, _, _, rfl, rfl, ⟨by omega, (by first | exact cg_yes hx0 (by omega) (by omega) (by omega) (by omega) g0z6 g0z7 (by omega) | exact cg_no hx0 (by omega) (by omega) (by omega) (by omega) g0z6 g0z7 (by omega)), (by omega)⟩, rfl⟩ (by omega)
              · intro c27
                refine And.intro (by first | exact ⟨by decide, by decide⟩ | omega) (And.intro ?_ ?_)
                · intro c28
                  exact fcutJ (I := I1) (j := (jc_Desk_bestLots_84d7e_10 x1)) (lv' := [(0, .inr (.inr (some 211))), (1, .inl _), (2, .inl _), (3, .inl _), (4, .inl _), (5, .inl _)]) (And.intro rfl (And.intro rfl (And.intro rfl (And.intro rfl (And.intro rfl (And.intro rfl True.intro)))))) ⟨_, _, _, _, _, rfl, rfl, ⟨by omega, (by first | exact cg_yes hx0 (by omega) (by omega) (by omega) (by omega) g0z6 g0z7 (by omega) | exact cg_no hx0 (by omega) (by omega) (by omega) (by omega) g0z6 g0z7 (by omega)), (by omega)⟩, rfl⟩ (by omega)
                · intro c29
                  exact fcutJ (I := I1) (j := (jc_Desk_bestLots_84d7e_10 x1)) (lv' := [(0, .inr (.inr (some 211))), (1, .inl _), (2, .inl _), (3, .inl _), (4, .inl _), (5, .inl _)]) (And.intro rfl (And.intro rfl (And.intro rfl (And.intro rfl (And.intro rfl (And.intro rfl True.intro)))))) ⟨_, _, _, _, _, rfl, rfl, ⟨by omega, (by first | exact cg_yes hx0 (by omega) (by omega) (by omega) (by omega) g0z6 g0z7 (by omega) | exact cg_no hx0 (by omega) (by omega) (by omega) (by omega) g0z6 g0z7 (by omega)), (by omega)⟩, rfl⟩ (by omega)
  · have hB0 := fB_self (zn := znJ) (K := fKc []) h0
    have b30 := fBd fb_211_11 (fBz h0 hB0)
    exact fcutJ (I := I) (j := (jc_Desk_bestLots_84d7e_10 x1)) (lv' := [(0, .inr (.inr (some 211))), (1, .inl _), (2, .inl _), (3, .inl _), (4, .inl _), (5, .inl _)]) (And.intro rfl (And.intro rfl (And.intro rfl (And.intro rfl (And.intro rfl (And.intro rfl True.intro)))))) ⟨_, _, _, _, _, rfl, rfl, ⟨by omega, rfl, (tw_1 (by omega))⟩, rfl⟩ (by omega)
set_option maxRecDepth 8000 in
theorem ct_X_cargo_17ae9 {I : fH} {x1 : Int} (h0 : fB bsJ I) (ha1 : ((-2147483648) ≤ x1 ∧ x1 ≤ 2147483647)) : fC ρ base n F xTc vwCl xTys D dA la gJ (fbz bsJ znJ (fKc []) I) xm_200 [.inr (.inr (some 0)), .inl x1] I (fun _ r => ∃ z, r = some (.inl z) ∧ ((0 ≤ z ∧ z ≤ 2147483647) ∨ z = (-1000000001)) ∧ (((0 ≤ x1 ∧ x1 ≤ 99999) ∧ z = (nf (cgF (I 252) (I 253) (I 211 11).toNat x1) (0, 0, 0) (tw (I 211 11) - 1).toNat).1) ∨ (¬ ((0 ≤ x1 ∧ x1 ≤ 99999)) ∧ z = (-1000000001)))) := by
  have hW : fzs [] (fKc []) := fKc_ok _
  refine f_meth (rb := rbJ) (J := []) 1 400 xG xin_200 x6_200 okJ (fB_self h0) ?_ ?_
  · exact fun q h => absurd h List.not_mem_nil
  · have hB0 := fB_self (zn := znJ) (K := fKc []) h0
    refine Exists.intro xm_13 (And.intro mi_13 (And.intro ⟨rfl, rfl, rfl, rfl⟩ (And.intro True.intro ?_)))
    refine fcallp hB0 (ct_X_within_c27b1 (fBz h0 hB0) (by first | exact ⟨ha1.1, ha1.2⟩ | omega) (by first | exact ⟨by decide, by decide⟩ | omega) (by first | exact ⟨by decide, by decide⟩ | omega)) ?_
    rintro _ ⟨z1, rfl, hz1⟩
    refine And.intro (by omega) (And.intro ?_ ?_)
    · intro c2
      refine And.intro (True.intro) ?_
      exact ⟨_, rfl, by omega, (by first | exact Or.inl ⟨by omega, g0nil0⟩ | exact Or.inr ⟨by omega, by omega⟩)⟩
    · intro c3
      refine And.intro ⟨rfl, by decide, by decide⟩ ?_
      refine Exists.intro xm_201 (And.intro mi_201 (And.intro ⟨rfl, rfl, rfl, rfl⟩ (And.intro rfl ?_)))
      refine fcallp hB0 (ct_Desk_bestLots_84d7e (fBz h0 hB0) (by first | exact ⟨Int.le_trans (by decide) (Int.le_trans (Int.le_refl _) hz1.1), Int.le_trans (Int.le_trans hz1.2 (Int.le_refl _)) (by decide)⟩ | omega)) ?_
      rintro _ ⟨z4, rfl, hz4, g0z4⟩
      refine And.intro (True.intro) ?_
      exact ⟨_, rfl, by omega, (by first | exact Or.inl ⟨by omega, g0z4⟩ | exact Or.inr ⟨by omega, by omega⟩)⟩
abbrev jc_M_cargo_a46a8_25 (x1 : Int) : Nat → fL → List fV → fH → Prop := fun m lv st I => ∃ (y1 : Int) (y2 : Int) (y3 : Int) (y4 : Int) (y5 : Int), lv = [(0, .inr (.inr (some 740))), (1, .inl y1), (2, .inl y2), (3, .inl y3), (4, .inl y4), (5, .inl y5)] ∧ st = [] ∧ (((0 ≤ y1 ∧ y1 ≤ 99999) ∧ (0 ≤ y2 ∧ y2 ≤ 2147483647) ∧ (0 ≤ y3 ∧ y3 ≤ 2147483647) ∧ ((-2147483648) ≤ y4 ∧ y4 ≤ 99999) ∧ (1 ≤ y5 ∧ y5 ≤ 2147483647) ∧ (y1 = x1) ∧ (1 ≤ y5) ∧ (0 ≤ x1) ∧ (x1 ≤ 99999)) ∧ ((y2, y3, y4) = nf (cgF (fun k => I 741 (4350 + 2 * k)) (fun k => I 741 (4351 + 2 * k)) (I 741 11).toNat y1) (0, 0, 0) (y5 - 1).toNat) ∧ (y5 ≤ tw (I 741 11))) ∧ m = (12 + 12 * (2147483647 - y5) : Int).toNat
abbrev jc_M_cargo_a46a8_48 (x1 : Int) : Nat → fL → List fV → fH → Prop := fun m lv st I => ∃ (y1 : Int) (y2 : Int) (y3 : Int) (y4 : Int) (y5 : Int) (y6 : Int) (y7 : Int) (y8 : Int), lv = [(0, .inr (.inr (some 740))), (1, .inl y1), (2, .inl y2), (3, .inl y3), (4, .inl y4), (5, .inl y5), (6, .inl y6), (7, .inl y7), (8, .inl y8)] ∧ st = [] ∧ (((0 ≤ y1 ∧ y1 ≤ 99999) ∧ (0 ≤ y2 ∧ y2 ≤ 2147483647) ∧ (0 ≤ y3 ∧ y3 ≤ 2147483647) ∧ ((-2147483648) ≤ y4 ∧ y4 ≤ 99999) ∧ (1 ≤ y5 ∧ y5 ≤ 2147483646) ∧ ((-2147483648) ≤ y6 ∧ y6 ≤ 2147483647) ∧ ((-2147483648) ≤ y7 ∧ y7 ≤ 2147483647) ∧ (0 ≤ y8 ∧ y8 ≤ 10) ∧ (y1 = x1) ∧ (1 ≤ y5) ∧ (0 ≤ x1) ∧ (x1 ≤ 99999) ∧ (y8 ≤ I 741 11)) ∧ ((y2, y3, y4) = nf (cgF (fun k => I 741 (4350 + 2 * k)) (fun k => I 741 (4351 + 2 * k)) (I 741 11).toNat y1) (0, 0, 0) (y5 - 1).toNat) ∧ (y5 < tw (I 741 11)) ∧ (iI y6 = smF (fun k => I 741 (4350 + 2 * k)) y5 y8.toNat) ∧ (iI y7 = smF (fun k => I 741 (4351 + 2 * k)) y5 y8.toNat)) ∧ m = (1 + 12 * (2147483647 - y5) + 1 * (10 - y8) : Int).toNat
set_option maxRecDepth 8000 in
theorem ct_M_cargo_a46a8 {I : fH} {x1 : Int} (h0 : fB bsJ I) (ha1 : ((-2147483648) ≤ x1 ∧ x1 ≤ 2147483647)) : fC ρ base n F xTc vwCl xTys D dA la gJ (fbz bsJ znJ (fKc []) I) xm_474 [.inr (.inr (some 740)), .inl x1] I (fun _ r => ∃ z, r = some (.inl z) ∧ ((0 ≤ z ∧ z ≤ 2147483647) ∨ z = (-1000000001)) ∧ (((0 ≤ x1 ∧ x1 ≤ 99999) ∧ z = (nf (cgF (fun k => I 741 (4350 + 2 * k)) (fun k => I 741 (4351 + 2 * k)) (I 741 11).toNat x1) (0, 0, 0) (tw (I 741 11) - 1).toNat).1) ∨ (¬ ((0 ≤ x1 ∧ x1 ≤ 99999)) ∧ z = (-1000000001)))) := by
  have hW : fzs [] (fKc []) := fKc_ok _
  refine f_meth (rb := rbJ) (J := [(25, (jc_M_cargo_a46a8_25 x1)), (48, (jc_M_cargo_a46a8_48 x1))]) 25769803765 400 xG xin_474 x6_474 okJ (fB_self h0) ?_ ?_
  · refine List.forall_mem_cons.mpr ⟨?_, List.forall_mem_cons.mpr ⟨?_, fun q h => absurd h List.not_mem_nil⟩⟩
    · rintro m _ _ I1 hB1 ⟨y1, y2, y3, y4, y5, rfl, rfl, ⟨hb, hx0, hx1⟩, hm⟩
      have b1 := fBd fb_741_11 (fBz h0 hB1)
      have eI : I1 = I := fFr_nil (fFr_of hB1)
      refine And.intro ⟨rfl, by decide, by decide⟩ ?_
      refine fload1 rL_741_741_11_11_1_0 h0 hB1 ⟨by decide, by decide⟩ (by first | exact ⟨by decide, by decide⟩ | omega) ?_
      intro z2 lz2 uz2 qz2
      have pz2 := fld_at qz2 11 (by omega)
      intro z3 hz3 ez3
      have wt := tw_of hz3 ez3
      rw [pz2] at wt
      refine And.intro (by omega) (And.intro ?_ ?_)
      · intro c4
        refine And.intro (True.intro) ?_
        exact ⟨_, rfl, by omega, (Or.inl ⟨by omega, by have q := congrArg Prod.fst hx0; rw [eI, show y1 = x1 by omega, show y5 = tw (I 741 11) by rw [← eI]; omega] at q; exact q⟩)⟩
      · intro c5
        exact fcutJ (I := I1) (j := (jc_M_cargo_a46a8_48 x1)) (lv' := [(0, .inr (.inr (some 740))), (1, .inl _), (2, .inl _), (3, .inl _), (4, .inl _), (5, .inl _), (6, .inl _), (7, .inl _), (8, .inl _)]) (And.intro rfl (And.intro rfl (And.intro rfl (And.intro rfl (And.intro rfl (And.intro rfl (And.intro rfl (And.intro rfl (And.intro rfl True.intro))))))))) ⟨_, _, _, _, _, _, _, _, rfl, rfl, ⟨by omega, hx0, (by omega), iI_0, iI_0⟩, rfl⟩ (by omega)
    · rintro m _ _ I1 hB1 ⟨y1, y2, y3, y4, y5, y6, y7, y8, rfl, rfl, ⟨hb, hx0, hx1, hx2, hx3⟩, hm⟩
      have b6 := fBd fb_741_11 (fBz h0 hB1)
      have eI : I1 = I := fFr_nil (fFr_of hB1)
      refine And.intro ⟨rfl, by decide, by decide⟩ ?_
      refine fload1 rL_741_741_11_11_1_0 h0 hB1 ⟨by decide, by decide⟩ (by first | exact ⟨by decide, by decide⟩ | omega) ?_
      intro z7 lz7 uz7 qz7
      have pz7 := fld_at qz7 11 (by omega)
      refine And.intro (And.intro (by first | exact fi_ hb.2.2.2.2.2.2.2.1.1 hb.2.2.2.2.2.2.2.1.2 rfl | omega) (by first | exact fi_ lz7 uz7 rfl | omega)) (And.intro ?_ ?_)
      · intro c8
        have w8 : y8.toNat = (I1 741 11).toNat := by omega
        rw [w8] at hx2 hx3
        refine And.intro (And.intro (by first | exact fi_ hb.2.2.2.2.2.1.1 hb.2.2.2.2.2.1.2 rfl | omega) (by first | exact fi_ hb.1.1 hb.1.2 rfl | omega)) (And.intro ?_ ?_)
        · intro c9
          intro z10 hz10 bz10
          have bz10 := bz10 (by omega)
          exact fcutJ (I := I1) (j := (jc_M_cargo_a46a8_25 x1)) (lv' := [(0, .inr (.inr (some 740))), (1, .inl _), (2, .inl _), (3, .inl _), (4, .inl _), (5, .inl _)]) (And.intro rfl (And.intro rfl (And.intro rfl (And.intro rfl (And.intro rfl (And.intro rfl True.intro)))))) ⟨_, _, _, _, _, rfl, rfl, ⟨by omega, (by first | exact cg_yes hx0 (by omega) (by omega) (by omega) (by omega) hx2 hx3 (by omega) | exact cg_no hx0 (by omega) (by omega) (by omega) (by omega) hx2 hx3 (by omega)), (by omega)⟩, rfl⟩ (by omega)
        · intro c11
          refine And.intro (And.intro (by first | exact fi_ hb.2.2.2.2.2.2.1.1 hb.2.2.2.2.2.2.1.2 rfl | omega) (by first | exact fi_ hb.2.2.1.1 hb.2.2.1.2 rfl | omega)) (And.intro ?_ ?_)
          · intro c12
            intro z13 hz13 bz13
            have bz13 := bz13 (by omega)
            exact fcutJ (I := I1) (j := (jc_M_cargo_a46a8_25 x1)) (lv' := [(0, .inr (.inr (some 740))), (1, .inl _), (2, .inl _), (3, .inl _), (4, .inl _), (5, .inl _)]) (And.intro rfl (And.intro rfl (And.intro rfl (And.intro rfl (And.intro rfl (And.intro rfl True.intro)))))) ⟨_, _, _, _, _, rfl, rfl, ⟨by omega, (by first | exact cg_yes hx0 (by omega) (by omega) (by omega) (by omega) hx2 hx3 (by omega) | exact cg_no hx0 (by omega) (by omega) (by omega) (by omega) hx2 hx3 (by omega)), (by omega)⟩, rfl⟩ (by omega)
          · intro c14
            refine And.intro (And.intro (by first | exact fi_ hb.2.2.2.2.2.2.1.1 hb.2.2.2.2.2.2.1.2 rfl | omega) (by first | exact fi_ hb.2.2.1.1 hb.2.2.1.2 rfl | omega)) (And.intro ?_ ?_)
            · intro c15
              intro z16 hz16 bz16
              have bz16 := bz16 (by omega)
              exact fcutJ (I := I1) (j := (jc_M_cargo_a46a8_25 x1)) (lv' := [(0, .inr (.inr (some 740))), (1, .inl _), (2, .inl _), (3, .inl _), (4, .inl _), (5, .inl _)]) (And.intro rfl (And.intro rfl (And.intro rfl (And.intro rfl (And.intro rfl (And.intro rfl True.intro)))))) ⟨_, _, _, _, _, rfl, rfl, ⟨by omega, (by first | exact cg_yes hx0 (by omega) (by omega) (by omega) (by omega) hx2 hx3 (by omega) | exact cg_no hx0 (by omega) (by omega) (by omega) (by omega) hx2 hx3 (by omega)), (by omega)⟩, rfl⟩ (by omega)
            · intro c17
              refine And.intro (And.intro (by first | exact fi_ hb.2.2.2.2.2.1.1 (Int.le_trans c11 hb.1.2) rfl | omega) (by first | exact fi_ hb.2.2.2.1.1 hb.2.2.2.1.2 rfl | omega)) (And.intro ?_ ?_)
              · intro c18
                intro z19 hz19 bz19
                have bz19 := bz19 (by omega)
                exact fcutJ (I := I1) (j := (jc_M_cargo_a46a8_25 x1)) (lv' := [(0, .inr (.inr (some 740))), (1, .inl _), (2, .inl _), (3, .inl _), (4, .inl _), (5, .inl _)]) (And.intro rfl (And.intro rfl (And.intro rfl (And.intro rfl (And.intro rfl (And.intro rfl True.intro)))))) ⟨_, _, _, _, _, rfl, rfl, ⟨by omega, (by first | exact cg_yes hx0 (by omega) (by omega) (by omega) (by omega) hx2 hx3 (by omega) | exact cg_no hx0 (by omega) (by omega) (by omega) (by omega) hx2 hx3 (by omega)), (by omega)⟩, rfl⟩ (by omega)
              · intro c20
                intro z21 hz21 bz21
                have bz21 := bz21 (by omega)
                exact fcutJ (I := I1) (j := (jc_M_cargo_a46a8_25 x1)) (lv' := [(0, .inr (.inr (some 740))), (1, .inl _), (2, .inl _), (3, .inl _), (4, .inl _), (5, .inl _)]) (And.intro rfl (And.intro rfl (And.intro rfl (And.intro rfl (And.intro rfl (And.intro rfl True.intro)))))) ⟨_, _, _, _, _, rfl, rfl, ⟨by omega, (by first | exact cg_yes hx0 (by omega) (by omega) (by omega) (by omega) hx2 hx3 (by omega) | exact cg_no hx0 (by omega) (by omega) (by omega) (by omega) hx2 hx3 (by omega)), (by omega)⟩, rfl⟩ (by omega)
      · intro c22
        intro z23 hz23 ez23
        intro z24 hz24 ez24 bz24
        have bz24 := bz24 (by omega)
        have wb := bt_of hz24 ez23 ez24 (by omega)
        refine And.intro ⟨rfl, by decide, by decide⟩ ?_
        refine fload rL_741_741_4350_4368_2_0 h0 hB1 (by omega) ?_
        intro z25 lz25 uz25 qz25
        intro z26 hz26 ez26 bz26
        clear bz26
        intro z27 hz27 ez27 bz27
        clear bz27
        intro z28 hz28 ez28
        intro z29 hz29 ez29 bz29
        have bz29 := bz29 (by omega)
        have wc := bt_of hz29 ez28 ez29 (by omega)
        refine And.intro ⟨rfl, by decide, by decide⟩ ?_
        refine fload rL_741_741_4351_4369_2_0 h0 hB1 (by omega) ?_
        intro z30 lz30 uz30 qz30
        intro z31 hz31 ez31 bz31
        clear bz31
        intro z32 hz32 ez32 bz32
        clear bz32
        exact fcutJ (I := I1) (j := (jc_M_cargo_a46a8_48 x1)) (lv' := [(0, .inr (.inr (some 740))), (1, .inl _), (2, .inl _), (3, .inl _), (4, .inl _), (5, .inl _), (6, .inl _), (7, .inl _), (8, .inl _)]) (And.intro rfl (And.intro rfl (And.intro rfl (And.intro rfl (And.intro rfl (And.intro rfl (And.intro rfl (And.intro rfl (And.intro rfl True.intro))))))))) ⟨_, _, _, _, _, _, _, _, rfl, rfl, ⟨by omega, hx0, hx1, (sm_mul hx2 (by omega) (by omega) wb (by omega) ez26 ez27 (fld_at qz25 _ (by omega))), (sm_mul hx3 (by omega) (by omega) wc (by omega) ez31 ez32 (fld_at qz30 _ (by omega)))⟩, rfl⟩ (by omega)
  · have hB0 := fB_self (zn := znJ) (K := fKc []) h0
    have b33 := fBd fb_741_11 (fBz h0 hB0)
    refine And.intro (by first | exact fi_ ha1.1 ha1.2 rfl | omega) ?_
    refine Exists.intro xm_238 (And.intro mi_238 (And.intro ⟨rfl, rfl, rfl, rfl⟩ (And.intro True.intro ?_)))
    refine fcallp hB0 (ct_M_isIn_27230 (fBz h0 hB0) (by first | exact ⟨ha1.1, ha1.2⟩ | omega) (by first | exact ⟨by decide, by decide⟩ | omega) (by first | exact ⟨by decide, by decide⟩ | omega)) ?_
    rintro _ ⟨z34, rfl, hz34⟩
    refine And.intro (by omega) (And.intro ?_ ?_)
    · intro c35
      exact fcutJ (I := I) (j := (jc_M_cargo_a46a8_25 x1)) (lv' := [(0, .inr (.inr (some 740))), (1, .inl _), (2, .inl _), (3, .inl _), (4, .inl _), (5, .inl _)]) (And.intro rfl (And.intro rfl (And.intro rfl (And.intro rfl (And.intro rfl (And.intro rfl True.intro)))))) ⟨_, _, _, _, _, rfl, rfl, ⟨by omega, rfl, (tw_1 (by omega))⟩, rfl⟩ (by omega)
    · intro c36
      refine And.intro (True.intro) ?_
      exact ⟨_, rfl, by omega, (Or.inr ⟨by omega, by omega⟩)⟩
set_option maxRecDepth 8000 in
theorem ct_Desk_addBuild_36cf1 {I : fH} {x1 : Int} {x2 : Int} {x3 : Int} (h0 : fB bsJ I) (ha1 : (1 ≤ x1 ∧ x1 ≤ 9)) (ha2 : (1 ≤ x2 ∧ x2 ≤ 99)) (ha3 : (0 ≤ x3 ∧ x3 ≤ 127)) : fC ρ base n F xTc vwCl xTys D dA la gJ (fbz bsJ znJ (fKc wz_84712) I) xm_204 [.inr (.inr (some 211)), .inl x1, .inl x2, .inl x3] I (fun I' r => ∃ z, r = some (.inl z) ∧ (((0 ≤ z ∧ z ≤ 6) ∨ z = (-1000000003)) ∧ ((I 211 15 < 7 → z = I 211 15 ∧ I' 211 15 = I 211 15 + 1) ∧ (7 ≤ I 211 15 → z = (-1000000003) ∧ I' 211 15 = I 211 15))) ∧ (∀ j : Nat, I' 254 j = if (j : Int) = z then x1 else I 254 j) ∧ (∀ j : Nat, I' 255 j = if (j : Int) = z then x2 else I 255 j) ∧ (∀ j : Nat, I' 256 j = if (j : Int) = z then x3 else I 256 j)) := by
  have hW : fzs wz_84712 (fKc wz_84712) := fKc_ok _
  refine f_meth (rb := rbJ) (J := []) 1 400 xG xin_204 x6_204 okJ (fB_self h0) ?_ ?_
  · exact fun q h => absurd h List.not_mem_nil
  · have hB0 := fB_self (zn := znJ) (K := fKc wz_84712) h0
    refine And.intro ⟨rfl, by decide, by decide⟩ (fgetf fb_211_15 h0 hB0 ?_)
    intro z1 lz1 uz1 qz1
    refine And.intro (And.intro (by first | exact fi_ lz1 uz1 rfl | omega) (by first | exact ⟨by decide, by decide⟩ | omega)) (And.intro ?_ ?_)
    · intro c2
      refine And.intro ⟨rfl, by decide, by decide⟩ ?_
      refine fstore1 rS_254_254_0_6_1_0 (fzs_sub (by decide +kernel) hW) ⟨by decide, by decide⟩ (by first | exact ⟨lz1, Int.le_trans (Int.le_sub_one_of_lt (Int.lt_of_lt_of_le c2 (Int.le_refl _))) (by decide)⟩ | omega) (by first | exact ⟨Int.le_trans (by decide) ha1.1, ha1.2⟩ | omega) ?_
      intro IhB3 ehB3 hB3
      have t4 := fup_self ehB3
      have t5 : IhB3 211 15 = I 211 15 := (congrFun (congrFun ehB3 211) 15).trans (fup_ne (by first | exact Or.inl (by decide) | omega))
      refine And.intro ⟨rfl, by decide, by decide⟩ ?_
      refine fstore1 rS_255_255_0_6_1_0 (fzs_sub (by decide +kernel) hW) ⟨by decide, by decide⟩ (by first | exact ⟨lz1, Int.le_trans (Int.le_sub_one_of_lt (Int.lt_of_lt_of_le c2 (Int.le_refl _))) (by decide)⟩ | omega) (by first | exact ⟨Int.le_trans (by decide) ha2.1, ha2.2⟩ | omega) ?_
      intro IhB6 ehB6 hB6
      have t7 := fup_self ehB6
      have t8 : IhB6 211 15 = IhB3 211 15 := (congrFun (congrFun ehB6 211) 15).trans (fup_ne (by first | exact Or.inl (by decide) | omega))
      refine And.intro ⟨rfl, by decide, by decide⟩ ?_
      refine fstore1 rS_256_256_0_6_1_0 (fzs_sub (by decide +kernel) hW) ⟨by decide, by decide⟩ (by first | exact ⟨lz1, Int.le_trans (Int.le_sub_one_of_lt (Int.lt_of_lt_of_le c2 (Int.le_refl _))) (by decide)⟩ | omega) (by first | exact ⟨ha3.1, ha3.2⟩ | omega) ?_
      intro IhB9 ehB9 hB9
      have t10 := fup_self ehB9
      have t11 : IhB9 211 15 = IhB6 211 15 := (congrFun (congrFun ehB9 211) 15).trans (fup_ne (by first | exact Or.inl (by decide) | omega))
      refine And.intro ⟨rfl, by decide, by decide⟩ (And.intro rfl (And.intro (Or.inl rfl) (fputf fb_211_15 (by decide +kernel) hW (by omega) ?_)))
      intro IhB12 ehB12 hB12
      have t13 := fup_at ehB12 15 (by first | rfl | omega)
      refine And.intro (True.intro) ?_
      exact ⟨_, rfl, by omega, (fun j => ((fup_other ehB12 254 j (Or.inl (by decide))).trans ((fup_other ehB9 254 j (Or.inl (by decide))).trans (fup_other ehB6 254 j (Or.inl (by decide))))).trans ((fup_if ehB3 j).trans (if_go (by omega) rfl))), (fun j => ((fup_other ehB12 255 j (Or.inl (by decide))).trans (fup_other ehB9 255 j (Or.inl (by decide)))).trans ((fup_if ehB6 j).trans (if_go (by omega) (fup_other ehB3 255 j (Or.inl (by decide)))))), (fun j => (fup_other ehB12 256 j (Or.inl (by decide))).trans ((fup_if ehB9 j).trans (if_go (by omega) ((fup_other ehB6 256 j (Or.inl (by decide))).trans (fup_other ehB3 256 j (Or.inl (by decide)))))))⟩
    · intro c14
      refine And.intro (True.intro) ?_
      exact ⟨_, rfl, by omega, (fun j => if_no (by omega)), (fun j => if_no (by omega)), (fun j => if_no (by omega))⟩
set_option maxRecDepth 8000 in
theorem ct_X_build_aad8f {I : fH} {x1 : Int} {x2 : Int} {x3 : Int} (h0 : fB bsJ I) (ha1 : ((-2147483648) ≤ x1 ∧ x1 ≤ 2147483647)) (ha2 : ((-2147483648) ≤ x2 ∧ x2 ≤ 2147483647)) (ha3 : ((-2147483648) ≤ x3 ∧ x3 ≤ 2147483647)) : fC ρ base n F xTc vwCl xTys D dA la gJ (fbz bsJ znJ (fKc wz_84712) I) xm_203 [.inr (.inr (some 0)), .inl x1, .inl x2, .inl x3] I (fun I' r => ∃ z, r = some (.inl z) ∧ (((0 ≤ z ∧ z ≤ 6) ∨ z = (-1000000003) ∨ z = (-1000000001)) ∧ ((1 ≤ x1 ∧ x1 ≤ 9 ∧ 1 ≤ x2 ∧ x2 ≤ 99 ∧ 0 ≤ x3 ∧ x3 ≤ 127 ∧ I 211 15 < 7 → z = I 211 15 ∧ I' 211 15 = I 211 15 + 1) ∧ (1 ≤ x1 ∧ x1 ≤ 9 ∧ 1 ≤ x2 ∧ x2 ≤ 99 ∧ 0 ≤ x3 ∧ x3 ≤ 127 ∧ 7 ≤ I 211 15 → z = (-1000000003) ∧ I' 211 15 = I 211 15) ∧ (¬ (1 ≤ x1 ∧ x1 ≤ 9 ∧ 1 ≤ x2 ∧ x2 ≤ 99 ∧ 0 ≤ x3 ∧ x3 ≤ 127) → z = (-1000000001) ∧ I' 211 15 = I 211 15))) ∧ (∀ j : Nat, I' 254 j = if (j : Int) = z then x1 else I 254 j) ∧ (∀ j : Nat, I' 255 j = if (j : Int) = z then x2 else I 255 j) ∧ (∀ j : Nat, I' 256 j = if (j : Int) = z then x3 else I 256 j)) := by
  have hW : fzs wz_84712 (fKc wz_84712) := fKc_ok _
  refine f_meth (rb := rbJ) (J := []) 1 400 xG xin_203 x6_203 okJ (fB_self h0) ?_ ?_
  · exact fun q h => absurd h List.not_mem_nil
  · have hB0 := fB_self (zn := znJ) (K := fKc wz_84712) h0
    have b1 := fBd fb_211_15 (fBz h0 hB0)
    refine Exists.intro xm_13 (And.intro mi_13 (And.intro ⟨rfl, rfl, rfl, rfl⟩ (And.intro True.intro ?_)))
    refine fcallp hB0 (ct_X_within_c27b1 (fBz h0 hB0) (by first | exact ⟨ha1.1, ha1.2⟩ | omega) (by first | exact ⟨by decide, by decide⟩ | omega) (by first | exact ⟨by decide, by decide⟩ | omega)) ?_
    rintro _ ⟨z2, rfl, hz2⟩
    refine And.intro (by omega) (And.intro ?_ ?_)
    · intro c3
      refine And.intro (True.intro) ?_
      exact ⟨_, rfl, by omega, (by first | exact g0nil0 | exact fun j => if_no (by omega)), (by first | exact g1nil0 | exact fun j => if_no (by omega)), (by first | exact g2nil0 | exact fun j => if_no (by omega))⟩
    · intro c4
      refine Exists.intro xm_13 (And.intro mi_13 (And.intro ⟨rfl, rfl, rfl, rfl⟩ (And.intro True.intro ?_)))
      refine fcallp hB0 (ct_X_within_c27b1 (fBz h0 hB0) (by first | exact ⟨ha2.1, ha2.2⟩ | omega) (by first | exact ⟨by decide, by decide⟩ | omega) (by first | exact ⟨by decide, by decide⟩ | omega)) ?_
      rintro _ ⟨z5, rfl, hz5⟩
      refine And.intro (by omega) (And.intro ?_ ?_)
      · intro c6
        refine And.intro (True.intro) ?_
        exact ⟨_, rfl, by omega, (by first | exact g0nil0 | exact fun j => if_no (by omega)), (by first | exact g1nil0 | exact fun j => if_no (by omega)), (by first | exact g2nil0 | exact fun j => if_no (by omega))⟩
      · intro c7
        refine Exists.intro xm_13 (And.intro mi_13 (And.intro ⟨rfl, rfl, rfl, rfl⟩ (And.intro True.intro ?_)))
        refine fcallp hB0 (ct_X_within_c27b1 (fBz h0 hB0) (by first | exact ⟨ha3.1, ha3.2⟩ | omega) (by first | exact ⟨by decide, by decide⟩ | omega) (by first | exact ⟨by decide, by decide⟩ | omega)) ?_
        rintro _ ⟨z8, rfl, hz8⟩
        refine And.intro (by omega) (And.intro ?_ ?_)
        · intro c9
          refine And.intro ⟨rfl, by decide, by decide⟩ ?_
          refine Exists.intro xm_204 (And.intro mi_204 (And.intro ⟨rfl, rfl, rfl, rfl⟩ (And.intro rfl ?_)))
          refine fcall _ h0 (fzs_sub (by decide +kernel) hW) hB0 (ct_Desk_addBuild_36cf1 (fBz h0 hB0) (by first | exact ⟨Int.le_trans (by decide) (Int.le_trans (Int.le_refl _) hz2.1), Int.le_trans (Int.le_trans hz2.2 (Int.le_refl _)) (by decide)⟩ | omega) (by first | exact ⟨Int.le_trans (by decide) (Int.le_trans (Int.le_refl _) hz5.1), Int.le_trans (Int.le_trans hz5.2 (Int.le_refl _)) (by decide)⟩ | omega) (by first | exact ⟨Int.le_trans (by decide) (Int.le_trans (Int.le_refl _) hz8.1), Int.le_trans (Int.le_trans hz8.2 (Int.le_refl _)) (by decide)⟩ | omega)) ?_
          rintro IhB11 _ hB11 fhB11 ⟨z10, rfl, hz10, g0z10, g1z10, g2z10⟩
          refine And.intro (True.intro) ?_
          exact ⟨_, rfl, by omega, (by first | exact g0z10 | exact fun j => if_no (by omega)), (by first | exact g1z10 | exact fun j => if_no (by omega)), (by first | exact g2z10 | exact fun j => if_no (by omega))⟩
        · intro c12
          refine And.intro (True.intro) ?_
          exact ⟨_, rfl, by omega, (by first | exact g0z10 | exact fun j => if_no (by omega)), (by first | exact g1z10 | exact fun j => if_no (by omega)), (by first | exact g2z10 | exact fun j => if_no (by omega))⟩
set_option maxRecDepth 8000 in
theorem ct_M_build_09a60 {I : fH} {x1 : Int} {x2 : Int} {x3 : Int} (h0 : fB bsJ I) (ha1 : ((-2147483648) ≤ x1 ∧ x1 ≤ 2147483647)) (ha2 : ((-2147483648) ≤ x2 ∧ x2 ≤ 2147483647)) (ha3 : ((-2147483648) ≤ x3 ∧ x3 ≤ 2147483647)) : fC ρ base n F xTc vwCl xTys D dA la gJ (fbz bsJ znJ (fKc wz_526cb) I) xm_475 [.inr (.inr (some 740)), .inl x1, .inl x2, .inl x3] I (fun I' r => ∃ z, r = some (.inl z) ∧ (((0 ≤ z ∧ z ≤ 6) ∨ z = (-1000000003) ∨ z = (-1000000001)) ∧ ((1 ≤ x1 ∧ x1 ≤ 9 ∧ 1 ≤ x2 ∧ x2 ≤ 99 ∧ 0 ≤ x3 ∧ x3 ≤ 127 ∧ I 741 12 < 7 → z = I 741 12 ∧ I' 741 12 = I 741 12 + 1) ∧ (1 ≤ x1 ∧ x1 ≤ 9 ∧ 1 ≤ x2 ∧ x2 ≤ 99 ∧ 0 ≤ x3 ∧ x3 ≤ 127 ∧ 7 ≤ I 741 12 → z = (-1000000003) ∧ I' 741 12 = I 741 12) ∧ (¬ (1 ≤ x1 ∧ x1 ≤ 9 ∧ 1 ≤ x2 ∧ x2 ≤ 99 ∧ 0 ≤ x3 ∧ x3 ≤ 127) → z = (-1000000001) ∧ I' 741 12 = I 741 12))) ∧ (∀ j : Nat, j < 7 → I' 741 (4370 + 3 * j) = if (j : Int) = z then x1 else I 741 (4370 + 3 * j)) ∧ (∀ j : Nat, j < 7 → I' 741 (4371 + 3 * j) = if (j : Int) = z then x2 else I 741 (4371 + 3 * j)) ∧ (∀ j : Nat, j < 7 → I' 741 (4372 + 3 * j) = if (j : Int) = z then x3 else I 741 (4372 + 3 * j))) := by
  have hW : fzs wz_526cb (fKc wz_526cb) := fKc_ok _
  refine f_meth (rb := rbJ) (J := []) 1 400 xG xin_475 x6_475 okJ (fB_self h0) ?_ ?_
  · exact fun q h => absurd h List.not_mem_nil
  · have hB0 := fB_self (zn := znJ) (K := fKc wz_526cb) h0
    have b1 := fBd fb_741_12 (fBz h0 hB0)
    refine And.intro (by first | exact fi_ ha1.1 ha1.2 rfl | omega) ?_
    refine Exists.intro xm_238 (And.intro mi_238 (And.intro ⟨rfl, rfl, rfl, rfl⟩ (And.intro True.intro ?_)))
    refine fcallp hB0 (ct_M_isIn_27230 (fBz h0 hB0) (by first | exact ⟨ha1.1, ha1.2⟩ | omega) (by first | exact ⟨by decide, by decide⟩ | omega) (by first | exact ⟨by decide, by decide⟩ | omega)) ?_
    rintro _ ⟨z2, rfl, hz2⟩
    refine And.intro (by omega) (And.intro ?_ ?_)
    · intro c3
      refine And.intro (True.intro) ?_
      exact ⟨_, rfl, by omega, (fun j _ => if_no (by omega)), (fun j _ => if_no (by omega)), (fun j _ => if_no (by omega))⟩
    · intro c4
      refine And.intro (by first | exact fi_ ha2.1 ha2.2 rfl | omega) ?_
      refine Exists.intro xm_238 (And.intro mi_238 (And.intro ⟨rfl, rfl, rfl, rfl⟩ (And.intro True.intro ?_)))
      refine fcallp hB0 (ct_M_isIn_27230 (fBz h0 hB0) (by first | exact ⟨ha2.1, ha2.2⟩ | omega) (by first | exact ⟨by decide, by decide⟩ | omega) (by first | exact ⟨by decide, by decide⟩ | omega)) ?_
      rintro _ ⟨z5, rfl, hz5⟩
      refine And.intro (by omega) (And.intro ?_ ?_)
      · intro c6
        refine And.intro (True.intro) ?_
        exact ⟨_, rfl, by omega, (fun j _ => if_no (by omega)), (fun j _ => if_no (by omega)), (fun j _ => if_no (by omega))⟩
      · intro c7
        refine And.intro (by first | exact fi_ ha3.1 ha3.2 rfl | omega) ?_
        refine Exists.intro xm_238 (And.intro mi_238 (And.intro ⟨rfl, rfl, rfl, rfl⟩ (And.intro True.intro ?_)))
        refine fcallp hB0 (ct_M_isIn_27230 (fBz h0 hB0) (by first | exact ⟨ha3.1, ha3.2⟩ | omega) (by first | exact ⟨by decide, by decide⟩ | omega) (by first | exact ⟨by decide, by decide⟩ | omega)) ?_
        rintro _ ⟨z8, rfl, hz8⟩
        refine And.intro (by omega) (And.intro ?_ ?_)
        · intro c9
          refine And.intro ⟨rfl, by decide, by decide⟩ ?_
          refine fload1 rL_741_741_12_12_1_0 h0 hB0 ⟨by decide, by decide⟩ (by first | exact ⟨by decide, by decide⟩ | omega) ?_
          intro z10 lz10 uz10 qz10
          have pz10 := fld_at qz10 12 (by omega)
          refine And.intro (And.intro (by first | exact fi_ lz10 uz10 rfl | omega) (by first | exact ⟨by decide, by decide⟩ | omega)) (And.intro ?_ ?_)
          · intro c11
            refine And.intro ⟨rfl, by decide, by decide⟩ ?_
            refine fload1 rL_741_741_12_12_1_0 h0 hB0 ⟨by decide, by decide⟩ (by first | exact ⟨by decide, by decide⟩ | omega) ?_
            intro z12 lz12 uz12 qz12
            have pz12 := fld_at qz12 12 (by omega)
            refine And.intro ⟨rfl, by decide, by decide⟩ ?_
            refine fstore rS_741_741_4370_4388_3_0 (fzs_sub (by decide +kernel) hW) (by omega) (by first | exact ⟨Int.le_trans (by decide) (Int.le_trans (Int.le_refl _) hz2.1), Int.le_trans (Int.le_trans hz2.2 (Int.le_refl _)) (by decide)⟩ | omega) ?_
            intro IhB13 ehB13 hB13
            have t14 := fup_self ehB13
            have t15 : IhB13 741 12 = I 741 12 := (congrFun (congrFun ehB13 741) 12).trans (fup_ne (by first | exact Or.inl (by decide) | omega))
            refine And.intro ⟨rfl, by decide, by decide⟩ ?_
            refine fstore rS_741_741_4371_4389_3_0 (fzs_sub (by decide +kernel) hW) (by omega) (by first | exact ⟨Int.le_trans (by decide) (Int.le_trans (Int.le_refl _) hz5.1), Int.le_trans (Int.le_trans hz5.2 (Int.le_refl _)) (by decide)⟩ | omega) ?_
            intro IhB16 ehB16 hB16
            have t17 := fup_self ehB16
            have t18 : IhB16 741 12 = IhB13 741 12 := (congrFun (congrFun ehB16 741) 12).trans (fup_ne (by first | exact Or.inl (by decide) | omega))
            refine And.intro ⟨rfl, by decide, by decide⟩ ?_
            refine fstore rS_741_741_4372_4390_3_0 (fzs_sub (by decide +kernel) hW) (by omega) (by first | exact ⟨Int.le_trans (by decide) (Int.le_trans (Int.le_refl _) hz8.1), Int.le_trans (Int.le_trans hz8.2 (Int.le_refl _)) (by decide)⟩ | omega) ?_
            intro IhB19 ehB19 hB19
            have t20 := fup_self ehB19
            have t21 : IhB19 741 12 = IhB16 741 12 := (congrFun (congrFun ehB19 741) 12).trans (fup_ne (by first | exact Or.inl (by decide) | omega))
            refine And.intro ⟨rfl, by decide, by decide⟩ ?_
            refine fload1 rL_741_741_12_12_1_0 h0 hB19 ⟨by decide, by decide⟩ (by first | exact ⟨by decide, by decide⟩ | omega) ?_
            intro z22 lz22 uz22 qz22
            have pz22 := fld_at qz22 12 (by omega)
            refine fstore1 rS_741_741_12_12_1_0 (fzs_sub (by decide +kernel) hW) ⟨by decide, by decide⟩ (by first | exact ⟨by decide, by decide⟩ | omega) (by omega) ?_
            intro IhB23 ehB23 hB23
            have t24 := fup_self ehB23
            have t25 := fup_at ehB23 12 (by first | rfl | omega)
            refine And.intro ⟨rfl, by decide, by decide⟩ ?_
            refine fload1 rL_741_741_12_12_1_0 h0 hB23 ⟨by decide, by decide⟩ (by first | exact ⟨by decide, by decide⟩ | omega) ?_
            intro z26 lz26 uz26 qz26
            have pz26 := fld_at qz26 12 (by omega)
            refine And.intro (True.intro) ?_
            exact ⟨_, rfl, by omega, (fun j hj => ((fup_other ehB23 741 (4370 + 3 * j) (Or.inr (by omega))).trans ((fup_other ehB19 741 (4370 + 3 * j) (Or.inr (by omega))).trans (fup_other ehB16 741 (4370 + 3 * j) (Or.inr (by omega))))).trans ((fup_if ehB13 (4370 + 3 * j)).trans (if_go (by omega) rfl))), (fun j hj => ((fup_other ehB23 741 (4371 + 3 * j) (Or.inr (by omega))).trans (fup_other ehB19 741 (4371 + 3 * j) (Or.inr (by omega)))).trans ((fup_if ehB16 (4371 + 3 * j)).trans (if_go (by omega) (fup_other ehB13 741 (4371 + 3 * j) (Or.inr (by omega)))))), (fun j hj => (fup_other ehB23 741 (4372 + 3 * j) (Or.inr (by omega))).trans ((fup_if ehB19 (4372 + 3 * j)).trans (if_go (by omega) ((fup_other ehB16 741 (4372 + 3 * j) (Or.inr (by omega))).trans (fup_other ehB13 741 (4372 + 3 * j) (Or.inr (by omega)))))))⟩
          · intro c27
            refine And.intro (True.intro) ?_
            exact ⟨_, rfl, by omega, (fun j _ => if_no (by omega)), (fun j _ => if_no (by omega)), (fun j _ => if_no (by omega))⟩
        · intro c28
          refine And.intro (True.intro) ?_
          exact ⟨_, rfl, by omega, (fun j _ => if_no (by omega)), (fun j _ => if_no (by omega)), (fun j _ => if_no (by omega))⟩
set_option maxRecDepth 8000 in
theorem ct_Order_take_e8cff {I : fH} {x1 : Int} (h0 : fB bsJ I) (ha1 : ((-2147483648) ≤ x1 ∧ x1 ≤ 2147483647)) : fC ρ base n F xTc vwCl xTys D dA la gJ (fbz bsJ znJ (fKc wz_c325e) I) xm_215 [.inr (.inr (some 735)), .inl x1] I (fun I' r => r = none ∧ True ∧ (∀ (p : Nat → Int) (s : sSt), (∀ i : Nat, (i : Int) < I 211 15 → I 737 i = p i) → skR (I 211 15).toNat s I → skR (I 211 15).toNat (sTk p x1 s) I')) := by
  have hW : fzs wz_c325e (fKc wz_c325e) := fKc_ok _
  refine f_meth (rb := rbJ) (J := []) 1 400 xG xin_215 x6_215 okJ (fB_self h0) ?_ ?_
  · exact fun q h => absurd h List.not_mem_nil
  · have hB0 := fB_self (zn := znJ) (K := fKc wz_c325e) h0
    have b1 := fBd fb_211_15 (fBz h0 hB0)
    refine And.intro ⟨rfl, by decide, by decide⟩ (fgetf fb_735_4 h0 hB0 ?_)
    intro z2 lz2 uz2 qz2
    refine And.intro (And.intro (by first | exact fi_ lz2 uz2 rfl | omega) (by first | exact ⟨by decide, by decide⟩ | omega)) (And.intro ?_ ?_)
    · intro c3
      refine And.intro ⟨rfl, by decide, by decide⟩ (And.intro rfl (And.intro (Or.inl rfl) (fputf fb_735_4 (by decide +kernel) hW (by first | exact ⟨ha1.1, ha1.2⟩ | omega) ?_)))
      intro IhB4 ehB4 hB4
      have t5 := fup_at ehB4 4 (by first | rfl | omega)
      refine And.intro ⟨rfl, by decide, by decide⟩ ?_
      refine And.intro ⟨rfl, by decide, by decide⟩ ?_
      refine Exists.intro xm_75 (And.intro mi_75 (And.intro ⟨rfl, rfl, rfl, rfl⟩ (And.intro True.intro ?_)))
      refine fcall _ h0 (fzs_sub (by decide +kernel) hW) hB4 (ct_copyRow (W := [736]) (len := 7) (fBz h0 hB4) (frC_of (by decide +kernel))) ?_
      rintro IhB6 _ hB6 fhB6 ⟨rfl, ehB6⟩
      have t7 := fhB6 735 4 (by decide +kernel)
      exact ⟨rfl, True.intro, (fun p s hp hs => by first | exact tk_yes (by omega) (fun i hi => hp i (by omega)) hs (by omega) ehB4 ehB6 | exact tk_no hs (by omega))⟩
    · intro c8
      refine And.intro ⟨rfl, by decide, by decide⟩ (fgetf fb_735_4 h0 hB0 ?_)
      intro z9 lz9 uz9 qz9
      refine And.intro (And.intro (by first | exact fi_ ha1.1 ha1.2 rfl | omega) (by first | exact fi_ lz9 uz9 rfl | omega)) (And.intro ?_ ?_)
      · intro c10
        exact ⟨rfl, True.intro, (fun p s hp hs => by first | exact tk_yes (by omega) (fun i hi => hp i (by omega)) hs (by omega) ehB4 ehB6 | exact tk_no hs (by omega))⟩
      · intro c11
        refine And.intro ⟨rfl, by decide, by decide⟩ (And.intro rfl (And.intro (Or.inl rfl) (fputf fb_735_4 (by decide +kernel) hW (by first | exact ⟨Int.le_trans (by decide) (Int.add_one_le_of_lt (Int.lt_of_le_of_lt lz9 c11)), ha1.2⟩ | omega) ?_)))
        intro IhB12 ehB12 hB12
        have t13 := fup_at ehB12 4 (by first | rfl | omega)
        refine And.intro ⟨rfl, by decide, by decide⟩ ?_
        refine And.intro ⟨rfl, by decide, by decide⟩ ?_
        refine Exists.intro xm_75 (And.intro mi_75 (And.intro ⟨rfl, rfl, rfl, rfl⟩ (And.intro True.intro ?_)))
        refine fcall _ h0 (fzs_sub (by decide +kernel) hW) hB12 (ct_copyRow (W := [736]) (len := 7) (fBz h0 hB12) (frC_of (by decide +kernel))) ?_
        rintro IhB14 _ hB14 fhB14 ⟨rfl, ehB14⟩
        have t15 := fhB14 735 4 (by decide +kernel)
        exact ⟨rfl, True.intro, (fun p s hp hs => by first | exact tk_yes (by omega) (fun i hi => hp i (by omega)) hs (by omega) ehB12 ehB14 | exact tk_no hs (by omega))⟩
end CT

/-! contracts (written by gen95.py) -/
abbrev wz_ce28c : List Nat := [756]
theorem x6_466 : f60c xTc xTys xm_466 = true := by decide +kernel
theorem rS_756_756_0_7524_1_0 : frS gJ bsJ znJ [756] 100 ((756, 756), (0, 7524), (1, 0), (0, 1000000)) := frS_of (by decide +kernel)
theorem x6_465 : f60c xTc xTys xm_465 = true := by decide +kernel
theorem x6_464 : f60c xTc xTys xm_464 = true := by decide +kernel
theorem x6_192 : f60c xTc xTys xm_192 = true := by decide +kernel
theorem x6_191 : f60c xTc xTys xm_191 = true := by decide +kernel
theorem x6_469 : f60c xTc xTys xm_469 = true := by decide +kernel
theorem x6_468 : f60c xTc xTys xm_468 = true := by decide +kernel
theorem x6_193 : f60c xTc xTys xm_193 = true := by decide +kernel
theorem x6_470 : f60c xTc xTys xm_470 = true := by decide +kernel
theorem rL_741_741_42_427_20_5 : frL gJ bsJ 100 ((741, 741), (42, 427), (20, 5), ((-2147483648), 2147483647)) := frL_hull (by decide) (by decide +kernel)
abbrev wz_f0603 : List Nat := [249, 250, 251, 10608]
theorem x6_195 : f60c xTc xTys xm_195 = true := by decide +kernel
theorem fb_211_8 : bsJ 211 8 = (0, 6) := by decide +kernel
theorem rS_249_249_0_5_1_0 : frS gJ bsJ znJ [249] 100 ((249, 249), (0, 5), (1, 0), ((-2147483648), 2147483647)) := frS_dflt (by decide) (by decide +kernel)
theorem rS_250_250_0_5_1_0 : frS gJ bsJ znJ [250] 100 ((250, 250), (0, 5), (1, 0), ((-2147483648), 2147483647)) := frS_dflt (by decide) (by decide +kernel)
theorem rS_251_251_0_5_1_0 : frS gJ bsJ znJ [251] 100 ((251, 251), (0, 5), (1, 0), ((-2147483648), 2147483647)) := frS_dflt (by decide) (by decide +kernel)
theorem x6_194 : f60c xTc xTys xm_194 = true := by decide +kernel
abbrev wz_ac3fb : List Nat := [20010, 20800, 20801, 20802]
theorem x6_471 : f60c xTc xTys xm_471 = true := by decide +kernel
theorem rL_741_741_10_10_1_0 : frL gJ bsJ 100 ((741, 741), (10, 10), (1, 0), (0, 6)) := frL_of (by decide +kernel)
theorem rS_741_741_4330_4345_3_0 : frS gJ bsJ znJ [20800] 100 ((741, 741), (4330, 4345), (3, 0), ((-2147483648), 2147483647)) := frS_of (by decide +kernel)
theorem rS_741_741_4331_4346_3_0 : frS gJ bsJ znJ [20801] 100 ((741, 741), (4331, 4346), (3, 0), ((-2147483648), 2147483647)) := frS_of (by decide +kernel)
theorem rS_741_741_4332_4347_3_0 : frS gJ bsJ znJ [20802] 100 ((741, 741), (4332, 4347), (3, 0), ((-2147483648), 2147483647)) := frS_of (by decide +kernel)
theorem rS_741_741_10_10_1_0 : frS gJ bsJ znJ [20010] 100 ((741, 741), (10, 10), (1, 0), (0, 6)) := frS_of (by decide +kernel)
theorem x6_500 : f60c xTc xTys xm_500 = true := by decide +kernel
theorem x6_197 : f60c xTc xTys xm_197 = true := by decide +kernel
theorem rL_250_250_0_5_1_0 : frL gJ bsJ 100 ((250, 250), (0, 5), (1, 0), ((-2147483648), 2147483647)) := frL_hull (by decide) (by decide +kernel)
theorem rL_251_251_0_5_1_0 : frL gJ bsJ 100 ((251, 251), (0, 5), (1, 0), ((-2147483648), 2147483647)) := frL_hull (by decide) (by decide +kernel)
theorem rL_249_249_0_5_1_0 : frL gJ bsJ 100 ((249, 249), (0, 5), (1, 0), ((-2147483648), 2147483647)) := frL_hull (by decide) (by decide +kernel)
theorem x6_196 : f60c xTc xTys xm_196 = true := by decide +kernel
theorem x6_472 : f60c xTc xTys xm_472 = true := by decide +kernel
theorem rL_741_741_4331_4346_3_0 : frL gJ bsJ 100 ((741, 741), (4331, 4346), (3, 0), ((-2147483648), 2147483647)) := frL_hull (by decide) (by decide +kernel)
theorem rL_741_741_4332_4347_3_0 : frL gJ bsJ 100 ((741, 741), (4332, 4347), (3, 0), ((-2147483648), 2147483647)) := frL_hull (by decide) (by decide +kernel)
theorem rL_741_741_4330_4345_3_0 : frL gJ bsJ 100 ((741, 741), (4330, 4345), (3, 0), ((-2147483648), 2147483647)) := frL_hull (by decide) (by decide +kernel)
abbrev wz_8f79a : List Nat := [252, 253, 10611]
theorem x6_199 : f60c xTc xTys xm_199 = true := by decide +kernel
theorem fb_211_11 : bsJ 211 11 = (0, 10) := by decide +kernel
theorem rS_252_252_0_9_1_0 : frS gJ bsJ znJ [252] 100 ((252, 252), (0, 9), (1, 0), ((-2147483648), 2147483647)) := frS_dflt (by decide) (by decide +kernel)
theorem rS_253_253_0_9_1_0 : frS gJ bsJ znJ [253] 100 ((253, 253), (0, 9), (1, 0), ((-2147483648), 2147483647)) := frS_dflt (by decide) (by decide +kernel)
theorem x6_198 : f60c xTc xTys xm_198 = true := by decide +kernel
abbrev wz_78ec0 : List Nat := [20011, 20810, 20811]
theorem x6_473 : f60c xTc xTys xm_473 = true := by decide +kernel
theorem rL_741_741_11_11_1_0 : frL gJ bsJ 100 ((741, 741), (11, 11), (1, 0), (0, 10)) := frL_of (by decide +kernel)
theorem rS_741_741_4350_4368_2_0 : frS gJ bsJ znJ [20810] 100 ((741, 741), (4350, 4368), (2, 0), ((-2147483648), 2147483647)) := frS_of (by decide +kernel)
theorem rS_741_741_4351_4369_2_0 : frS gJ bsJ znJ [20811] 100 ((741, 741), (4351, 4369), (2, 0), ((-2147483648), 2147483647)) := frS_of (by decide +kernel)
theorem rS_741_741_11_11_1_0 : frS gJ bsJ znJ [20011] 100 ((741, 741), (11, 11), (1, 0), (0, 10)) := frS_of (by decide +kernel)
theorem x6_202 : f60c xTc xTys xm_202 = true := by decide +kernel
theorem rL_252_252_0_9_1_0 : frL gJ bsJ 100 ((252, 252), (0, 9), (1, 0), ((-2147483648), 2147483647)) := frL_hull (by decide) (by decide +kernel)
theorem rL_253_253_0_9_1_0 : frL gJ bsJ 100 ((253, 253), (0, 9), (1, 0), ((-2147483648), 2147483647)) := frL_hull (by decide) (by decide +kernel)
theorem x6_201 : f60c xTc xTys xm_201 = true := by decide +kernel
theorem x6_200 : f60c xTc xTys xm_200 = true := by decide +kernel
theorem x6_474 : f60c xTc xTys xm_474 = true := by decide +kernel
theorem rL_741_741_4350_4368_2_0 : frL gJ bsJ 100 ((741, 741), (4350, 4368), (2, 0), ((-2147483648), 2147483647)) := frL_hull (by decide) (by decide +kernel)
theorem rL_741_741_4351_4369_2_0 : frL gJ bsJ 100 ((741, 741), (4351, 4369), (2, 0), ((-2147483648), 2147483647)) := frL_hull (by decide) (by decide +kernel)
abbrev wz_84712 : List Nat := [254, 255, 256, 10615]
theorem x6_204 : f60c xTc xTys xm_204 = true := by decide +kernel
theorem fb_211_15 : bsJ 211 15 = (0, 7) := by decide +kernel
theorem rS_254_254_0_6_1_0 : frS gJ bsJ znJ [254] 100 ((254, 254), (0, 6), (1, 0), ((-2147483648), 2147483647)) := frS_dflt (by decide) (by decide +kernel)
theorem rS_255_255_0_6_1_0 : frS gJ bsJ znJ [255] 100 ((255, 255), (0, 6), (1, 0), ((-2147483648), 2147483647)) := frS_dflt (by decide) (by decide +kernel)
theorem rS_256_256_0_6_1_0 : frS gJ bsJ znJ [256] 100 ((256, 256), (0, 6), (1, 0), ((-2147483648), 2147483647)) := frS_dflt (by decide) (by decide +kernel)
theorem x6_203 : f60c xTc xTys xm_203 = true := by decide +kernel
abbrev wz_526cb : List Nat := [20012, 20820, 20821, 20822]
theorem x6_475 : f60c xTc xTys xm_475 = true := by decide +kernel
theorem rL_741_741_12_12_1_0 : frL gJ bsJ 100 ((741, 741), (12, 12), (1, 0), (0, 7)) := frL_of (by decide +kernel)
theorem rS_741_741_4370_4388_3_0 : frS gJ bsJ znJ [20820] 100 ((741, 741), (4370, 4388), (3, 0), ((-2147483648), 2147483647)) := frS_of (by decide +kernel)
theorem rS_741_741_4371_4389_3_0 : frS gJ bsJ znJ [20821] 100 ((741, 741), (4371, 4389), (3, 0), ((-2147483648), 2147483647)) := frS_of (by decide +kernel)
theorem rS_741_741_4372_4390_3_0 : frS gJ bsJ znJ [20822] 100 ((741, 741), (4372, 4390), (3, 0), ((-2147483648), 2147483647)) := frS_of (by decide +kernel)
theorem rS_741_741_12_12_1_0 : frS gJ bsJ znJ [20012] 100 ((741, 741), (12, 12), (1, 0), (0, 7)) := frS_of (by decide +kernel)
abbrev wz_c325e : List Nat := [736, 12104]
theorem x6_215 : f60c xTc xTys xm_215 = true := by decide +kernel
theorem fb_735_4 : bsJ 735 4 = ((-2147483648), 2147483647) := by decide +kernel
theorem x6_207 : f60c xTc xTys xm_207 = true := by decide +kernel
abbrev wz_7628e : List Nat := [736, 737, 12103, 12104]
theorem x6_208 : f60c xTc xTys xm_208 = true := by decide +kernel
theorem fb_735_3 : bsJ 735 3 = ((-2147483648), 2147483647) := by decide +kernel
theorem rL_256_256_0_6_1_0 : frL gJ bsJ 100 ((256, 256), (0, 6), (1, 0), ((-2147483648), 2147483647)) := frL_hull (by decide) (by decide +kernel)
theorem rS_737_737_0_6_1_0 : frS gJ bsJ znJ [737] 100 ((737, 737), (0, 6), (1, 0), (0, 6)) := frS_of (by decide +kernel)
theorem rL_254_254_0_6_1_0 : frL gJ bsJ 100 ((254, 254), (0, 6), (1, 0), ((-2147483648), 2147483647)) := frL_hull (by decide) (by decide +kernel)
theorem rL_255_255_0_6_1_0 : frL gJ bsJ 100 ((255, 255), (0, 6), (1, 0), ((-2147483648), 2147483647)) := frL_hull (by decide) (by decide +kernel)
theorem fb_735_2 : bsJ 735 2 = ((-2147483648), 2147483647) := by decide +kernel
theorem x6_209 : f60c xTc xTys xm_209 = true := by decide +kernel
theorem x6_210 : f60c xTc xTys xm_210 = true := by decide +kernel
theorem x6_211 : f60c xTc xTys xm_211 = true := by decide +kernel
theorem x6_212 : f60c xTc xTys xm_212 = true := by decide +kernel
theorem x6_213 : f60c xTc xTys xm_213 = true := by decide +kernel
theorem x6_214 : f60c xTc xTys xm_214 = true := by decide +kernel
abbrev wz_79e74 : List Nat := [736, 737, 12102, 12103, 12104]
theorem x6_206 : f60c xTc xTys xm_206 = true := by decide +kernel
theorem x6_205 : f60c xTc xTys xm_205 = true := by decide +kernel
abbrev wz_4d25e : List Nat := [757, 758, 12233, 12234, 12235]
theorem x6_479 : f60c xTc xTys xm_479 = true := by decide +kernel
theorem rL_757_757_0_6_1_0 : frL gJ bsJ 100 ((757, 757), (0, 6), (1, 0), (0, 6)) := frL_of (by decide +kernel)
theorem rS_758_758_0_6_1_0 : frS gJ bsJ znJ [758] 100 ((758, 758), (0, 6), (1, 0), (0, 6)) := frS_of (by decide +kernel)
theorem fb_740_35 : bsJ 740 35 = (0, 1) := by decide +kernel
theorem rL_741_741_4372_4390_3_0 : frL gJ bsJ 100 ((741, 741), (4372, 4390), (3, 0), ((-2147483648), 2147483647)) := frL_hull (by decide) (by decide +kernel)
theorem fb_740_34 : bsJ 740 34 = ((-2147483648), 2147483647) := by decide +kernel
theorem rS_757_757_0_6_1_0 : frS gJ bsJ znJ [757] 100 ((757, 757), (0, 6), (1, 0), (0, 6)) := frS_of (by decide +kernel)
theorem rL_741_741_4370_4388_3_0 : frL gJ bsJ 100 ((741, 741), (4370, 4388), (3, 0), ((-2147483648), 2147483647)) := frL_hull (by decide) (by decide +kernel)
theorem rL_741_741_4371_4389_3_0 : frL gJ bsJ 100 ((741, 741), (4371, 4389), (3, 0), ((-2147483648), 2147483647)) := frL_hull (by decide) (by decide +kernel)
theorem fb_740_33 : bsJ 740 33 = ((-2147483648), 2147483647) := by decide +kernel
section CT
variable {ρ : Nat → Int32} {base n : Nat} {F : Nat → Prop} {D : va_G} {dA : Nat → ClassId} {la : Launch}
abbrev jc_M_findLoads_1f96d_2 (x1 : Int) (x2 : Int) : Nat → fL → List fV → fH → Prop := fun m lv st I => ∃ (y1 : Int) (y2 : Int) (y3 : Int), lv = [(0, .inr (.inr (some 740))), (1, .inl y1), (2, .inl y2), (3, .inl y3)] ∧ st = [] ∧ (((1 ≤ y1 ∧ y1 ≤ 24) ∧ (0 ≤ y2 ∧ y2 ≤ 300) ∧ (0 ≤ y3 ∧ y3 ≤ 301) ∧ (y1 = x1) ∧ (y2 = x2))) ∧ m = (45326 + 1 * (301 - y3) : Int).toNat
abbrev jc_M_findLoads_1f96d_30 (x1 : Int) (x2 : Int) : Nat → fL → List fV → fH → Prop := fun m lv st I => ∃ (y2 : Int) (y3 : Int), lv = [(0, .inr (.inr (some 740))), (2, .inl y2), (3, .inl y3)] ∧ st = [] ∧ (((0 ≤ y2 ∧ y2 ≤ 300) ∧ ((-1) ≤ y3 ∧ y3 ≤ 23) ∧ (y2 = x2)) ∧ (∀ i b : Int, y3 < i → i < x1 → 0 ≤ b → b ≤ x2 → sLd I i b)) ∧ m = (1813 + 1813 * (y3 - (-1)) : Int).toNat
abbrev jc_M_findLoads_1f96d_37 (x1 : Int) (x2 : Int) : Nat → fL → List fV → fH → Prop := fun m lv st I => ∃ (y2 : Int) (y3 : Int) (y4 : Int), lv = [(0, .inr (.inr (some 740))), (2, .inl y2), (3, .inl y3), (4, .inl y4)] ∧ st = [] ∧ (((0 ≤ y2 ∧ y2 ≤ 300) ∧ (0 ≤ y3 ∧ y3 ≤ 23) ∧ (0 ≤ y4 ∧ y4 ≤ 301) ∧ (y2 = x2)) ∧ (∀ i b : Int, y3 < i → i < x1 → 0 ≤ b → b ≤ x2 → sLd I i b) ∧ (∀ b : Int, 0 ≤ b → b < y4 → sLd I y3 b)) ∧ m = (6 + 1813 * (y3 - (-1)) + 6 * (301 - y4) : Int).toNat
abbrev jc_M_findLoads_1f96d_51 (x1 : Int) (x2 : Int) : Nat → fL → List fV → fH → Prop := fun m lv st I => ∃ (y2 : Int) (y3 : Int) (y4 : Int) (y5 : Int) (y6 : Int), lv = [(0, .inr (.inr (some 740))), (2, .inl y2), (3, .inl y3), (4, .inl y4), (5, .inl y5), (6, .inl y6)] ∧ st = [] ∧ (((0 ≤ y2 ∧ y2 ≤ 300) ∧ (0 ≤ y3 ∧ y3 ≤ 23) ∧ (0 ≤ y4 ∧ y4 ≤ 300) ∧ (0 ≤ y5 ∧ y5 ≤ 1000000) ∧ (0 ≤ y6 ∧ y6 ≤ 4) ∧ (y2 = x2)) ∧ (∀ i b : Int, y3 < i → i < x1 → 0 ≤ b → b ≤ x2 → sLd I i b) ∧ (∀ b : Int, 0 ≤ b → b < y4 → sLd I y3 b) ∧ (sBst I y3 y4 y5 y6)) ∧ m = (1 + 1813 * (y3 - (-1)) + 6 * (301 - y4) + 1 * (4 - y6) : Int).toNat
set_option maxRecDepth 8000 in
theorem ct_M_findLoads_1f96d {I : fH} {x1 : Int} {x2 : Int} (h0 : fB bsJ I) (ha1 : (1 ≤ x1 ∧ x1 ≤ 24)) (ha2 : (0 ≤ x2 ∧ x2 ≤ 300)) : fC ρ base n F xTc vwCl xTys D dA la gJ (fbz bsJ znJ (fKc wz_ce28c) I) xm_466 [.inr (.inr (some 740)), .inl x1, .inl x2] I (fun I' r => ∃ z, r = some (.inl z) ∧ (0 ≤ z ∧ z ≤ 1000000) ∧ (∀ i b : Int, 0 ≤ i → i < x1 → 0 ≤ b → b ≤ x2 → sLd I' i b) ∧ (z = I' 756 x2.toNat)) := by
  have hW : fzs wz_ce28c (fKc wz_ce28c) := fKc_ok _
  refine f_meth (rb := rbJ) (J := [(2, (jc_M_findLoads_1f96d_2 x1 x2)), (30, (jc_M_findLoads_1f96d_30 x1 x2)), (37, (jc_M_findLoads_1f96d_37 x1 x2)), (51, (jc_M_findLoads_1f96d_51 x1 x2))]) 45628 400 xG xin_466 x6_466 okJ (fB_self h0) ?_ ?_
  · refine List.forall_mem_cons.mpr ⟨?_, List.forall_mem_cons.mpr ⟨?_, List.forall_mem_cons.mpr ⟨?_, List.forall_mem_cons.mpr ⟨?_, fun q h => absurd h List.not_mem_nil⟩⟩⟩⟩
    · rintro m _ _ I1 hB1 ⟨y1, y2, y3, rfl, rfl, hb, hm⟩
      refine And.intro (by omega) (And.intro ?_ ?_)
      · intro c1
        exact fcutJ (I := I1) (j := (jc_M_findLoads_1f96d_30 x1 x2)) (lv' := [(0, .inr (.inr (some 740))), (2, .inl _), (3, .inl _)]) (And.intro rfl (And.intro rfl (And.intro rfl True.intro))) ⟨_, _, rfl, rfl, ⟨by omega, (fun i b h1 h2 => absurd h1 (by omega))⟩, rfl⟩ (by omega)
      · intro c2
        refine And.intro ⟨rfl, by decide, by decide⟩ ?_
        refine fstore rS_756_756_0_7524_1_0 (fzs_sub (by decide +kernel) hW) (by omega) (by omega) ?_
        intro IhB3 ehB3 hB3
        have t4 := fup_self ehB3
        exact fcutJ (I := IhB3) (j := (jc_M_findLoads_1f96d_2 x1 x2)) (lv' := [(0, .inr (.inr (some 740))), (1, .inl _), (2, .inl _), (3, .inl _)]) (And.intro rfl (And.intro rfl (And.intro rfl (And.intro rfl True.intro)))) ⟨_, _, _, rfl, rfl, by omega, rfl⟩ (by omega)
    · rintro m _ _ I1 hB1 ⟨y2, y3, rfl, rfl, ⟨hb, hx0⟩, hm⟩
      refine And.intro (by omega) (And.intro ?_ ?_)
      · intro c5
        refine And.intro ⟨rfl, by decide, by decide⟩ ?_
        refine fload rL_756_756_0_7524_1_0 h0 hB1 (by omega) ?_
        intro z6 lz6 uz6 qz6
        refine And.intro (True.intro) ?_
        exact ⟨_, rfl, by omega, (fun i b h1 h2 h3 h4 => hx0 i b (by omega) (by omega) h3 (by omega)), (fld_at qz6 x2.toNat (by omega))⟩
      · intro c7
        exact fcutJ (I := I1) (j := (jc_M_findLoads_1f96d_37 x1 x2)) (lv' := [(0, .inr (.inr (some 740))), (2, .inl _), (3, .inl _), (4, .inl _)]) (And.intro rfl (And.intro rfl (And.intro rfl (And.intro rfl True.intro)))) ⟨_, _, _, rfl, rfl, ⟨by omega, hx0, (fun b h1 h2 => absurd h2 (by omega))⟩, rfl⟩ (by omega)
    · rintro m _ _ I1 hB1 ⟨y2, y3, y4, rfl, rfl, ⟨hb, hx0, hx1⟩, hm⟩
      refine And.intro (by omega) (And.intro ?_ ?_)
      · intro c8
        exact fcutJ (I := I1) (j := (jc_M_findLoads_1f96d_30 x1 x2)) (lv' := [(0, .inr (.inr (some 740))), (2, .inl _), (3, .inl _)]) (And.intro rfl (And.intro rfl (And.intro rfl True.intro))) ⟨_, _, rfl, rfl, ⟨by omega, (fun i b h1 h2 h3 h4 => if ei : i = y3 then (by rw [ei]; exact hx1 b h3 (by omega)) else hx0 i b (by omega) h2 h3 h4)⟩, rfl⟩ (by omega)
      · intro c9
        exact fcutJ (I := I1) (j := (jc_M_findLoads_1f96d_51 x1 x2)) (lv' := [(0, .inr (.inr (some 740))), (2, .inl _), (3, .inl _), (4, .inl _), (5, .inl _), (6, .inl _)]) (And.intro rfl (And.intro rfl (And.intro rfl (And.intro rfl (And.intro rfl (And.intro rfl True.intro)))))) ⟨_, _, _, _, _, rfl, rfl, ⟨by omega, hx0, hx1, (sBst_0 (by omega) (by omega))⟩, rfl⟩ (by omega)
    · rintro m _ _ I1 hB1 ⟨y2, y3, y4, y5, y6, rfl, rfl, ⟨hb, hx0, hx1, hx2⟩, hm⟩
      refine And.intro (by omega) (And.intro ?_ ?_)
      · intro c10
        refine And.intro ⟨rfl, by decide, by decide⟩ ?_
        refine fstore rS_756_756_0_7524_1_0 (fzs_sub (by decide +kernel) hW) (by omega) (by omega) ?_
        intro IhB11 ehB11 hB11
        have t12 := fup_self ehB11
        exact fcutJ (I := IhB11) (j := (jc_M_findLoads_1f96d_37 x1 x2)) (lv' := [(0, .inr (.inr (some 740))), (2, .inl _), (3, .inl _), (4, .inl _)]) (And.intro rfl (And.intro rfl (And.intro rfl (And.intro rfl True.intro)))) ⟨_, _, _, rfl, rfl, ⟨by omega, (fun i b h1 h2 h3 h4 => ld_keep (i0 := y3) (b0 := y4) ehB11 (by omega) (by omega) (by omega) (by omega) (hx0 i b h1 h2 h3 h4)), (fun b h1 h2 => if eb : b = y4 then (by rw [eb]; exact ld_new ehB11 (by omega) (sBst_get hx2 (by omega))) else ld_keep (i0 := y3) (b0 := y4) ehB11 (by omega) (by omega) (by omega) (by omega) (hx1 b h1 (by omega)))⟩, rfl⟩ (by omega)
      · intro c13
        refine Exists.intro xm_467 (And.intro mi_467 (And.intro ⟨rfl, rfl, rfl, rfl⟩ (And.intro rfl ?_)))
        refine fcallp hB1 (ct_M_harmBy_4eb55 (fBz h0 hB1) (by omega) (by omega) (by omega)) ?_
        rintro _ ⟨z14, rfl, hz14, g0z14⟩
        refine Exists.intro xm_291 (And.intro mi_291 (And.intro ⟨rfl, rfl, rfl, rfl⟩ (And.intro True.intro ?_)))
        refine fcallp hB1 (ct_M_least_31c1d (fBz h0 hB1) (by omega) (by omega)) ?_
        rintro _ ⟨z15, rfl, hz15⟩
        exact fcutJ (I := I1) (j := (jc_M_findLoads_1f96d_51 x1 x2)) (lv' := [(0, .inr (.inr (some 740))), (2, .inl _), (3, .inl _), (4, .inl _), (5, .inl _), (6, .inl _)]) (And.intro rfl (And.intro rfl (And.intro rfl (And.intro rfl (And.intro rfl (And.intro rfl True.intro)))))) ⟨_, _, _, _, _, rfl, rfl, ⟨by omega, hx0, hx1, (sBst_step hx2 g0z14 (by omega) (by omega) (by omega))⟩, rfl⟩ (by omega)
  · have hB0 := fB_self (zn := znJ) (K := fKc wz_ce28c) h0
    exact fcutJ (I := I) (j := (jc_M_findLoads_1f96d_2 x1 x2)) (lv' := [(0, .inr (.inr (some 740))), (1, .inl _), (2, .inl _), (3, .inl _)]) (And.intro rfl (And.intro rfl (And.intro rfl (And.intro rfl True.intro)))) ⟨_, _, _, rfl, rfl, by omega, rfl⟩ (by omega)
set_option maxRecDepth 8000 in
theorem ct_M_isNight_38061 {I : fH} {x0 : Int} {x1 : Int} (h0 : fB bsJ I) (ha0 : ((-2147483648) ≤ x0 ∧ x0 ≤ 2147483647)) (ha1 : ((-2147483648) ≤ x1 ∧ x1 ≤ 2147483647)) : fC ρ base n F xTc vwCl xTys D dA la gJ (fbz bsJ znJ (fKc []) I) xm_465 [.inl x0, .inl x1] I (fun _ r => ∃ z, r = some (.inl z) ∧ ((z = 1 ∧ 1 ≤ x0 ∧ x0 ≤ 24 ∧ 0 ≤ x1 ∧ x1 ≤ 300) ∨ z = 0)) := by
  have hW : fzs [] (fKc []) := fKc_ok _
  refine f_meth (rb := rbJ) (J := []) 1 400 xG xin_465 x6_465 okJ (fB_self h0) ?_ ?_
  · exact fun q h => absurd h List.not_mem_nil
  · have hB0 := fB_self (zn := znJ) (K := fKc []) h0
    refine And.intro (by omega) ?_
    refine Exists.intro xm_238 (And.intro mi_238 (And.intro ⟨rfl, rfl, rfl, rfl⟩ (And.intro True.intro ?_)))
    refine fcallp hB0 (ct_M_isIn_27230 (fBz h0 hB0) (by omega) (by omega) (by omega)) ?_
    rintro _ ⟨z1, rfl, hz1⟩
    refine And.intro (by omega) (And.intro ?_ ?_)
    · intro c2
      refine And.intro (⟨by omega, by omega⟩) ?_
      exact ⟨_, rfl, by omega⟩
    · intro c3
      refine And.intro (by omega) ?_
      refine Exists.intro xm_238 (And.intro mi_238 (And.intro ⟨rfl, rfl, rfl, rfl⟩ (And.intro True.intro ?_)))
      refine fcallp hB0 (ct_M_isIn_27230 (fBz h0 hB0) (by omega) (by omega) (by omega)) ?_
      rintro _ ⟨z4, rfl, hz4⟩
      refine And.intro (by omega) (And.intro ?_ ?_)
      · intro c5
        refine And.intro (⟨by omega, by omega⟩) ?_
        exact ⟨_, rfl, by omega⟩
      · intro c6
        refine And.intro (⟨by omega, by omega⟩) ?_
        exact ⟨_, rfl, by omega⟩
set_option maxRecDepth 8000 in
theorem ct_M_dark_295c2 {I : fH} {x1 : Int} {x2 : Int} (h0 : fB bsJ I) (ha1 : ((-2147483648) ≤ x1 ∧ x1 ≤ 2147483647)) (ha2 : ((-2147483648) ≤ x2 ∧ x2 ≤ 2147483647)) : fC ρ base n F xTc vwCl xTys D dA la gJ (fbz bsJ znJ (fKc wz_ce28c) I) xm_464 [.inr (.inr (some 740)), .inl x1, .inl x2] I (fun _ r => ∃ z, r = some (.inl z) ∧ ((0 ≤ z ∧ z ≤ 999999) ∨ z = (-1000000005) ∨ z = (-1000000001))) := by
  have hW : fzs wz_ce28c (fKc wz_ce28c) := fKc_ok _
  refine f_meth (rb := rbJ) (J := []) 1 400 xG xin_464 x6_464 okJ (fB_self h0) ?_ ?_
  · exact fun q h => absurd h List.not_mem_nil
  · have hB0 := fB_self (zn := znJ) (K := fKc wz_ce28c) h0
    refine Exists.intro xm_465 (And.intro mi_465 (And.intro ⟨rfl, rfl, rfl, rfl⟩ (And.intro True.intro ?_)))
    refine fcallp hB0 (ct_M_isNight_38061 (fBz h0 hB0) (by omega) (by omega)) ?_
    rintro _ ⟨z1, rfl, hz1⟩
    refine And.intro (by omega) (And.intro ?_ ?_)
    · intro c2
      refine Exists.intro xm_466 (And.intro mi_466 (And.intro ⟨rfl, rfl, rfl, rfl⟩ (And.intro rfl ?_)))
      refine fcall _ h0 (fzs_sub (by decide +kernel) hW) hB0 (ct_M_findLoads_1f96d (fBz h0 hB0) (by omega) (by omega)) ?_
      rintro IhB4 _ hB4 fhB4 ⟨z3, rfl, hz3, g0z3, g1z3⟩
      refine And.intro (by omega) (And.intro ?_ ?_)
      · intro c5
        refine And.intro (True.intro) ?_
        exact ⟨_, rfl, by omega⟩
      · intro c6
        refine And.intro (True.intro) ?_
        exact ⟨_, rfl, by omega⟩
    · intro c7
      refine And.intro (True.intro) ?_
      exact ⟨_, rfl, by omega⟩
set_option maxRecDepth 8000 in
theorem ct_Dark_loadAt_007b1 {I : fH} {x1 : Int} {x2 : Int} (h0 : fB bsJ I) (ha1 : (0 ≤ x1 ∧ x1 ≤ 300)) (ha2 : (0 ≤ x2 ∧ x2 ≤ 23)) : fC ρ base n F xTc vwCl xTys D dA la gJ (fbz bsJ znJ (fKc []) I) xm_192 [.inr (.inr (some 732)), .inl x1, .inl x2] I (fun _ r => ∃ z, r = some (.inl z) ∧ (0 ≤ z ∧ z ≤ 3)) := by
  have hW : fzs [] (fKc []) := fKc_ok _
  refine f_meth (rb := rbJ) (J := []) 1 400 xG xin_192 x6_192 okJ (fB_self h0) ?_ ?_
  · exact fun q h => absurd h List.not_mem_nil
  · have hB0 := fB_self (zn := znJ) (K := fKc []) h0
    refine And.intro ⟨rfl, by decide, by decide⟩ ?_
    refine fload rL_734_734_0_300_1_0 h0 hB0 (by omega) ?_
    intro z1 lz1 uz1 qz1
    intro z2 hz2 ez2
    intro z3 hz3 ez3 bz3
    intro z4 hz4 ez4 bz4
    clear ez4
    have bz4 := bz4 (by omega)
    refine And.intro (True.intro) ?_
    exact ⟨_, rfl, by omega⟩
set_option maxRecDepth 8000 in
theorem ct_X_load_86bcf {I : fH} {x1 : Int} {x2 : Int} {x3 : Int} (h0 : fB bsJ I) (ha1 : ((-2147483648) ≤ x1 ∧ x1 ≤ 2147483647)) (ha2 : ((-2147483648) ≤ x2 ∧ x2 ≤ 2147483647)) (ha3 : ((-2147483648) ≤ x3 ∧ x3 ≤ 2147483647)) : fC ρ base n F xTc vwCl xTys D dA la gJ (fbz bsJ znJ (fKc wz_61c55) I) xm_191 [.inr (.inr (some 0)), .inl x1, .inl x2, .inl x3] I (fun _ r => ∃ z, r = some (.inl z) ∧ ((0 ≤ z ∧ z ≤ 3) ∨ z = (-1000000005) ∨ z = (-1000000001))) := by
  have hW : fzs wz_61c55 (fKc wz_61c55) := fKc_ok _
  refine f_meth (rb := rbJ) (J := []) 1 400 xG xin_191 x6_191 okJ (fB_self h0) ?_ ?_
  · exact fun q h => absurd h List.not_mem_nil
  · have hB0 := fB_self (zn := znJ) (K := fKc wz_61c55) h0
    refine Exists.intro xm_13 (And.intro mi_13 (And.intro ⟨rfl, rfl, rfl, rfl⟩ (And.intro True.intro ?_)))
    refine fcallp hB0 (ct_X_within_c27b1 (fBz h0 hB0) (by omega) (by omega) (by omega)) ?_
    rintro _ ⟨z1, rfl, hz1⟩
    refine And.intro (by omega) (And.intro ?_ ?_)
    · intro c2
      refine And.intro (True.intro) ?_
      exact ⟨_, rfl, by omega⟩
    · intro c3
      refine Exists.intro xm_13 (And.intro mi_13 (And.intro ⟨rfl, rfl, rfl, rfl⟩ (And.intro True.intro ?_)))
      refine fcallp hB0 (ct_X_within_c27b1 (fBz h0 hB0) (by omega) (by omega) (by omega)) ?_
      rintro _ ⟨z4, rfl, hz4⟩
      refine And.intro (by omega) (And.intro ?_ ?_)
      · intro c5
        refine And.intro (True.intro) ?_
        exact ⟨_, rfl, by omega⟩
      · intro c6
        refine Exists.intro xm_13 (And.intro mi_13 (And.intro ⟨rfl, rfl, rfl, rfl⟩ (And.intro True.intro ?_)))
        refine fcallp hB0 (ct_X_within_c27b1 (fBz h0 hB0) (by omega) (by omega) (by omega)) ?_
        rintro _ ⟨z7, rfl, hz7⟩
        refine And.intro (by omega) (And.intro ?_ ?_)
        · intro c8
          refine And.intro ⟨rfl, by decide, by decide⟩ ?_
          refine And.intro ⟨rfl, by decide, by decide⟩ ?_
          refine Exists.intro xm_189 (And.intro mi_189 (And.intro ⟨rfl, rfl, rfl, rfl⟩ (And.intro rfl ?_)))
          refine fcall _ h0 (fzs_sub (by decide +kernel) hW) hB0 (ct_Dark_leastHarm_e9db9 (fBz h0 hB0) (by omega) (by omega)) ?_
          rintro IhB10 _ hB10 fhB10 ⟨z9, rfl, hz9⟩
          refine And.intro (by omega) (And.intro ?_ ?_)
          · intro c11
            refine And.intro ⟨rfl, by decide, by decide⟩ ?_
            refine Exists.intro xm_192 (And.intro mi_192 (And.intro ⟨rfl, rfl, rfl, rfl⟩ (And.intro rfl ?_)))
            refine fcallp hB10 (ct_Dark_loadAt_007b1 (fBz h0 hB10) (by omega) (by omega)) ?_
            rintro _ ⟨z12, rfl, hz12⟩
            refine And.intro (True.intro) ?_
            exact ⟨_, rfl, by omega⟩
          · intro c13
            refine And.intro (True.intro) ?_
            exact ⟨_, rfl, by omega⟩
        · intro c14
          refine And.intro (True.intro) ?_
          exact ⟨_, rfl, by omega⟩
abbrev jc_M_loadAt_deb31_2 (x1 : Int) (x2 : Int) (I0 : fH) : Nat → fL → List fV → fH → Prop := fun m lv st I => ∃ (y1 : Int) (y2 : Int) (y3 : Int), lv = [(0, .inr (.inr (some 740))), (1, .inl y1), (2, .inl y2), (3, .inl y3)] ∧ st = [] ∧ (((0 ≤ y1 ∧ y1 ≤ 23) ∧ (0 ≤ y2 ∧ y2 ≤ 300) ∧ (0 ≤ y3 ∧ y3 ≤ 3) ∧ (y1 = x1) ∧ (y2 = x2)) ∧ (∀ l : Int, 0 ≤ l → l < y3 → hbv I0 x1 x2 l ≠ I0 756 (301 * x1 + x2).toNat)) ∧ m = (1 + 1 * (3 - y3) : Int).toNat
set_option maxRecDepth 8000 in
theorem ct_M_loadAt_deb31 {I : fH} {x1 : Int} {x2 : Int} (h0 : fB bsJ I) (ha1 : (0 ≤ x1 ∧ x1 ≤ 23)) (ha2 : (0 ≤ x2 ∧ x2 ≤ 300)) (hp0 : sLd I x1 x2) : fC ρ base n F xTc vwCl xTys D dA la gJ (fbz bsJ znJ (fKc []) I) xm_469 [.inr (.inr (some 740)), .inl x1, .inl x2] I (fun _ r => ∃ z, r = some (.inl z) ∧ (0 ≤ z ∧ z ≤ 3) ∧ (hbv I x1 x2 z = I 756 (301 * x1 + x2).toNat)) := by
  have hW : fzs [] (fKc []) := fKc_ok _
  refine f_meth (rb := rbJ) (J := [(2, (jc_M_loadAt_deb31_2 x1 x2 I))]) 5 400 xG xin_469 x6_469 okJ (fB_self h0) ?_ ?_
  · refine List.forall_mem_cons.mpr ⟨?_, fun q h => absurd h List.not_mem_nil⟩
    · rintro m _ _ I1 hB1 ⟨y1, y2, y3, rfl, rfl, ⟨hb, hx0⟩, hm⟩
      have eI : I1 = I := fFr_nil (fFr_of hB1)
      have ey1 : y1 = x1 := by omega
      have ey2 : y2 = x2 := by omega
      obtain ⟨l0, hl0, he0⟩ := hp0
      refine Exists.intro xm_467 (And.intro mi_467 (And.intro ⟨rfl, rfl, rfl, rfl⟩ (And.intro rfl ?_)))
      refine fcallp hB1 (ct_M_harmBy_4eb55 (fBz h0 hB1) (by omega) (by omega) (by omega)) ?_
      rintro _ ⟨z1, rfl, hz1, g0z1⟩
      rw [eI, ey1, ey2] at g0z1
      refine And.intro ⟨rfl, by decide, by decide⟩ ?_
      intro z2 hz2 ez2 bz2
      clear ez2
      have bz2 := bz2 (by omega)
      refine fload rL_756_756_0_7524_1_0 h0 hB1 (by omega) ?_
      intro z3 lz3 uz3 qz3
      have wv := fld_at qz3 (301 * x1 + x2).toNat (by omega)
      rw [eI] at wv
      have wl : l0 = y3 → z1 = z3 := fun q => by rw [g0z1, wv, ← q]; exact he0
      have wm : ¬ l0 < y3 := fun q => hx0 l0 hl0.1 q he0
      refine And.intro (by omega) (And.intro ?_ ?_)
      · intro c4
        refine And.intro (True.intro) ?_
        exact ⟨_, rfl, by omega, (by rw [← g0z1, ← wv]; omega)⟩
      · intro c5
        intro z6 hz6 bz6
        have bz6 := bz6 (by omega)
        exact fcutJ (I := I1) (j := (jc_M_loadAt_deb31_2 x1 x2 I)) (lv' := [(0, .inr (.inr (some 740))), (1, .inl _), (2, .inl _), (3, .inl _)]) (And.intro rfl (And.intro rfl (And.intro rfl (And.intro rfl True.intro)))) ⟨_, _, _, rfl, rfl, ⟨by omega, (fun l h1 h2 => if el : l = y3 then (by rw [el, ← g0z1, ← wv]; omega) else hx0 l h1 (by omega))⟩, rfl⟩ (by omega)
  · have hB0 := fB_self (zn := znJ) (K := fKc []) h0
    exact fcutJ (I := I) (j := (jc_M_loadAt_deb31_2 x1 x2 I)) (lv' := [(0, .inr (.inr (some 740))), (1, .inl _), (2, .inl _), (3, .inl _)]) (And.intro rfl (And.intro rfl (And.intro rfl (And.intro rfl True.intro)))) ⟨_, _, _, rfl, rfl, ⟨by omega, (fun l h1 h2 => absurd h2 (by omega))⟩, rfl⟩ (by omega)
abbrev jc_M_load_94669_45 (x1 : Int) (x2 : Int) : Nat → fL → List fV → fH → Prop := fun m lv st I => ∃ (y3 : Int) (y4 : Int) (y5 : Int), lv = [(0, .inr (.inr (some 740))), (3, .inl y3), (4, .inl y4), (5, .inl y5)] ∧ st = [] ∧ (((0 ≤ y3 ∧ y3 ≤ 23) ∧ (0 ≤ y4 ∧ y4 ≤ 300) ∧ (0 ≤ y5 ∧ y5 ≤ 23) ∧ (y4 ≤ x2) ∧ (y5 ≤ y3) ∧ (y3 < x1)) ∧ (∀ i b : Int, 0 ≤ i → i < x1 → 0 ≤ b → b ≤ x2 → sLd I i b) ∧ (I 756 (301 * y5 + y4).toNat ≠ 1000000)) ∧ m = (1 + 1 * (23 - y5) : Int).toNat
set_option maxRecDepth 8000 in
theorem ct_M_load_94669 {I : fH} {x1 : Int} {x2 : Int} {x3 : Int} (h0 : fB bsJ I) (ha1 : ((-2147483648) ≤ x1 ∧ x1 ≤ 2147483647)) (ha2 : ((-2147483648) ≤ x2 ∧ x2 ≤ 2147483647)) (ha3 : ((-2147483648) ≤ x3 ∧ x3 ≤ 2147483647)) : fC ρ base n F xTc vwCl xTys D dA la gJ (fbz bsJ znJ (fKc wz_ce28c) I) xm_468 [.inr (.inr (some 740)), .inl x1, .inl x2, .inl x3] I (fun _ r => ∃ z, r = some (.inl z) ∧ ((0 ≤ z ∧ z ≤ 3) ∨ z = (-1000000005) ∨ z = (-1000000001))) := by
  have hW : fzs wz_ce28c (fKc wz_ce28c) := fKc_ok _
  refine f_meth (rb := rbJ) (J := [(45, (jc_M_load_94669_45 x1 x2))]) 25 400 xG xin_468 x6_468 okJ (fB_self h0) ?_ ?_
  · refine List.forall_mem_cons.mpr ⟨?_, fun q h => absurd h List.not_mem_nil⟩
    · rintro m _ _ I1 hB1 ⟨y3, y4, y5, rfl, rfl, ⟨hb, hx0, hx1⟩, hm⟩
      refine And.intro (by omega) (And.intro ?_ ?_)
      · intro c1
        refine Exists.intro xm_469 (And.intro mi_469 (And.intro ⟨rfl, rfl, rfl, rfl⟩ (And.intro rfl ?_)))
        refine fcallp hB1 (ct_M_loadAt_deb31 (fBz h0 hB1) (by omega) (by omega) (hx0 _ _ (by omega) (by omega) (by omega) (by omega))) ?_
        rintro _ ⟨z2, rfl, hz2, g0z2⟩
        refine And.intro (True.intro) ?_
        exact ⟨_, rfl, by omega⟩
      · intro c3
        refine And.intro ⟨rfl, by decide, by decide⟩ ?_
        refine Exists.intro xm_469 (And.intro mi_469 (And.intro ⟨rfl, rfl, rfl, rfl⟩ (And.intro rfl ?_)))
        refine fcallp hB1 (ct_M_loadAt_deb31 (fBz h0 hB1) (by omega) (by omega) (hx0 _ _ (by omega) (by omega) (by omega) (by omega))) ?_
        rintro _ ⟨z4, rfl, hz4, g0z4⟩
        intro z5 hz5 ez5 bz5
        clear ez5
        have bz5 := bz5 (by omega)
        refine fload rL_741_741_4560_4563_1_0 h0 hB1 (by omega) ?_
        intro z6 lz6 uz6 qz6
        have w69 := fld_at qz6 (4560 + z4).toNat (by omega)
        have wg := ld_go (I := I1) (i := y5) (b := y4) (l := z4) (by rw [g0z4]; exact hx1) ((frL_at rL_741_741_4570_4665_1_0 (fBz h0 hB1) (a := 741) (i := 4570 + 4 * y5 + z4) (by omega)).2.1)
        have wg1 := wg.1
        intro z7 hz7 ez7 bz7
        clear ez7
        have bz7 := bz7 (by omega)
        exact fcutJ (I := I1) (j := (jc_M_load_94669_45 x1 x2)) (lv' := [(0, .inr (.inr (some 740))), (3, .inl _), (4, .inl _), (5, .inl _)]) (And.intro rfl (And.intro rfl (And.intro rfl (And.intro rfl True.intro)))) ⟨_, _, _, rfl, rfl, ⟨by omega, hx0, (ne_to wg.2 (by omega))⟩, rfl⟩ (by omega)
  · have hB0 := fB_self (zn := znJ) (K := fKc wz_ce28c) h0
    refine Exists.intro xm_465 (And.intro mi_465 (And.intro ⟨rfl, rfl, rfl, rfl⟩ (And.intro True.intro ?_)))
    refine fcallp hB0 (ct_M_isNight_38061 (fBz h0 hB0) (by omega) (by omega)) ?_
    rintro _ ⟨z8, rfl, hz8⟩
    refine And.intro (by omega) (And.intro ?_ ?_)
    · intro c9
      refine And.intro (True.intro) ?_
      exact ⟨_, rfl, by omega⟩
    · intro c10
      refine And.intro (by omega) ?_
      refine And.intro (by omega) ?_
      refine Exists.intro xm_238 (And.intro mi_238 (And.intro ⟨rfl, rfl, rfl, rfl⟩ (And.intro True.intro ?_)))
      refine fcallp hB0 (ct_M_isIn_27230 (fBz h0 hB0) (by omega) (by omega) (by omega)) ?_
      rintro _ ⟨z11, rfl, hz11⟩
      refine And.intro (by omega) (And.intro ?_ ?_)
      · intro c12
        refine Exists.intro xm_466 (And.intro mi_466 (And.intro ⟨rfl, rfl, rfl, rfl⟩ (And.intro rfl ?_)))
        refine fcall _ h0 (fzs_sub (by decide +kernel) hW) hB0 (ct_M_findLoads_1f96d (fBz h0 hB0) (by omega) (by omega)) ?_
        rintro IhB14 _ hB14 fhB14 ⟨z13, rfl, hz13, g0z13, g1z13⟩
        refine And.intro (by omega) (And.intro ?_ ?_)
        · intro c15
          exact fcutJ (I := IhB14) (j := (jc_M_load_94669_45 x1 x2)) (lv' := [(0, .inr (.inr (some 740))), (3, .inl _), (4, .inl _), (5, .inl _)]) (And.intro rfl (And.intro rfl (And.intro rfl (And.intro rfl True.intro)))) ⟨_, _, _, rfl, rfl, ⟨by omega, g0z13, (ne_to (j := x2.toNat) (by omega) (by omega))⟩, rfl⟩ (by omega)
        · intro c16
          refine And.intro (True.intro) ?_
          exact ⟨_, rfl, by omega⟩
      · intro c17
        refine And.intro (True.intro) ?_
        exact ⟨_, rfl, by omega⟩
set_option maxRecDepth 8000 in
theorem ct_X_known_5372c {I : fH} {x1 : Int} {x2 : Int} (h0 : fB bsJ I) (ha1 : ((-2147483648) ≤ x1 ∧ x1 ≤ 2147483647)) (ha2 : ((-2147483648) ≤ x2 ∧ x2 ≤ 2147483647)) : fC ρ base n F xTc vwCl xTys D dA la gJ (fbz bsJ znJ (fKc []) I) xm_193 [.inr (.inr (some 0)), .inl x1, .inl x2] I (fun _ r => ∃ z, r = some (.inl z) ∧ ((-2147483648) ≤ z ∧ z ≤ 2147483647)) := by
  have hW : fzs [] (fKc []) := fKc_ok _
  refine f_meth (rb := rbJ) (J := []) 1 400 xG xin_193 x6_193 okJ (fB_self h0) ?_ ?_
  · exact fun q h => absurd h List.not_mem_nil
  · have hB0 := fB_self (zn := znJ) (K := fKc []) h0
    refine And.intro ⟨rfl, by decide, by decide⟩ ?_
    refine Exists.intro xm_17 (And.intro mi_17 (And.intro ⟨rfl, rfl, rfl, rfl⟩ (And.intro rfl ?_)))
    refine fcallp hB0 (ct_City_isCell_46f02 (fBz h0 hB0) (by omega)) ?_
    rintro _ ⟨z1, rfl, hz1⟩
    refine And.intro (by omega) (And.intro ?_ ?_)
    · intro c2
      refine And.intro (True.intro) ?_
      exact ⟨_, rfl, by omega⟩
    · intro c3
      refine Exists.intro xm_13 (And.intro mi_13 (And.intro ⟨rfl, rfl, rfl, rfl⟩ (And.intro True.intro ?_)))
      refine fcallp hB0 (ct_X_within_c27b1 (fBz h0 hB0) (by omega) (by omega) (by omega)) ?_
      rintro _ ⟨z4, rfl, hz4⟩
      refine And.intro (by omega) (And.intro ?_ ?_)
      · intro c5
        refine And.intro (True.intro) ?_
        exact ⟨_, rfl, by omega⟩
      · intro c6
        refine And.intro ⟨rfl, by decide, by decide⟩ ?_
        refine And.intro ⟨rfl, by decide, by decide⟩ ?_
        refine And.intro ⟨rfl, by decide, by decide⟩ ?_
        refine And.intro ⟨rfl, by decide⟩ (And.intro (by omega) ?_)
        refine fload rL_48_67_0_5_1_0 h0 hB0 (by omega) ?_
        intro z7 lz7 uz7 qz7
        refine And.intro (True.intro) ?_
        exact ⟨_, rfl, by omega⟩
set_option maxRecDepth 8000 in
theorem ct_M_known_05810 {I : fH} {x1 : Int} {x2 : Int} (h0 : fB bsJ I) (ha1 : ((-2147483648) ≤ x1 ∧ x1 ≤ 2147483647)) (ha2 : ((-2147483648) ≤ x2 ∧ x2 ≤ 2147483647)) : fC ρ base n F xTc vwCl xTys D dA la gJ (fbz bsJ znJ (fKc []) I) xm_470 [.inr (.inr (some 740)), .inl x1, .inl x2] I (fun _ r => ∃ z, r = some (.inl z) ∧ ((-2147483648) ≤ z ∧ z ≤ 2147483647)) := by
  have hW : fzs [] (fKc []) := fKc_ok _
  refine f_meth (rb := rbJ) (J := []) 1 400 xG xin_470 x6_470 okJ (fB_self h0) ?_ ?_
  · exact fun q h => absurd h List.not_mem_nil
  · have hB0 := fB_self (zn := znJ) (K := fKc []) h0
    refine Exists.intro xm_241 (And.intro mi_241 (And.intro ⟨rfl, rfl, rfl, rfl⟩ (And.intro rfl ?_)))
    refine fcallp hB0 (ct_M_isCell_45859 (fBz h0 hB0) (by omega)) ?_
    rintro _ ⟨z1, rfl, hz1⟩
    refine And.intro (by omega) (And.intro ?_ ?_)
    · intro c2
      refine And.intro (True.intro) ?_
      exact ⟨_, rfl, by omega⟩
    · intro c3
      refine And.intro (by omega) ?_
      refine Exists.intro xm_238 (And.intro mi_238 (And.intro ⟨rfl, rfl, rfl, rfl⟩ (And.intro True.intro ?_)))
      refine fcallp hB0 (ct_M_isIn_27230 (fBz h0 hB0) (by omega) (by omega) (by omega)) ?_
      rintro _ ⟨z4, rfl, hz4⟩
      refine And.intro (by omega) (And.intro ?_ ?_)
      · intro c5
        refine And.intro ⟨rfl, by decide, by decide⟩ ?_
        refine Exists.intro xm_239 (And.intro mi_239 (And.intro ⟨rfl, rfl, rfl, rfl⟩ (And.intro rfl ?_)))
        refine fcallp hB0 (ct_M_cellAt_c15f4 (fBz h0 hB0) (by omega)) ?_
        rintro _ ⟨_, rfl, rfl⟩
        refine fload rL_741_741_47_427_20_0 h0 hB0 (by omega) ?_
        intro z7 lz7 uz7 qz7
        refine And.intro (by omega) (And.intro ?_ ?_)
        · intro c8
          refine And.intro ⟨rfl, by decide, by decide⟩ ?_
          refine Exists.intro xm_239 (And.intro mi_239 (And.intro ⟨rfl, rfl, rfl, rfl⟩ (And.intro rfl ?_)))
          refine fcallp hB0 (ct_M_cellAt_c15f4 (fBz h0 hB0) (by omega)) ?_
          rintro _ ⟨_, rfl, rfl⟩
          refine fload rL_741_741_42_427_20_5 h0 hB0 (by omega) ?_
          intro z10 lz10 uz10 qz10
          refine And.intro (True.intro) ?_
          exact ⟨_, rfl, by omega⟩
        · intro c11
          refine And.intro (True.intro) ?_
          exact ⟨_, rfl, by omega⟩
      · intro c12
        refine And.intro (True.intro) ?_
        exact ⟨_, rfl, by omega⟩
set_option maxRecDepth 8000 in
theorem ct_Desk_addShip_b0073 {I : fH} {x1 : Int} {x2 : Int} {x3 : Int} (h0 : fB bsJ I) (ha1 : (2 ≤ x1 ∧ x1 ≤ 9999)) (ha2 : (0 ≤ x2 ∧ x2 ≤ 9999)) (ha3 : (1 ≤ x3 ∧ x3 ≤ 999)) : fC ρ base n F xTc vwCl xTys D dA la gJ (fbz bsJ znJ (fKc wz_f0603) I) xm_195 [.inr (.inr (some 211)), .inl x1, .inl x2, .inl x3] I (fun _ r => ∃ z, r = some (.inl z) ∧ ((0 ≤ z ∧ z ≤ 5) ∨ z = (-1000000003))) := by
  have hW : fzs wz_f0603 (fKc wz_f0603) := fKc_ok _
  refine f_meth (rb := rbJ) (J := []) 1 400 xG xin_195 x6_195 okJ (fB_self h0) ?_ ?_
  · exact fun q h => absurd h List.not_mem_nil
  · have hB0 := fB_self (zn := znJ) (K := fKc wz_f0603) h0
    refine And.intro ⟨rfl, by decide, by decide⟩ (fgetf fb_211_8 h0 hB0 ?_)
    intro z1 lz1 uz1 qz1
    refine And.intro (by omega) (And.intro ?_ ?_)
    · intro c2
      refine And.intro ⟨rfl, by decide, by decide⟩ ?_
      refine fstore rS_249_249_0_5_1_0 (fzs_sub (by decide +kernel) hW) (by omega) (by omega) ?_
      intro IhB3 ehB3 hB3
      have t4 := fup_self ehB3
      have t5 : IhB3 211 8 = I 211 8 := (congrFun (congrFun ehB3 211) 8).trans (fup_ne (by omega))
      refine And.intro ⟨rfl, by decide, by decide⟩ ?_
      refine fstore rS_250_250_0_5_1_0 (fzs_sub (by decide +kernel) hW) (by omega) (by omega) ?_
      intro IhB6 ehB6 hB6
      have t7 := fup_self ehB6
      have t8 : IhB6 211 8 = IhB3 211 8 := (congrFun (congrFun ehB6 211) 8).trans (fup_ne (by omega))
      refine And.intro ⟨rfl, by decide, by decide⟩ ?_
      refine fstore rS_251_251_0_5_1_0 (fzs_sub (by decide +kernel) hW) (by omega) (by omega) ?_
      intro IhB9 ehB9 hB9
      have t10 := fup_self ehB9
      have t11 : IhB9 211 8 = IhB6 211 8 := (congrFun (congrFun ehB9 211) 8).trans (fup_ne (by omega))
      refine And.intro ⟨rfl, by decide, by decide⟩ (And.intro rfl (And.intro (Or.inl rfl) (fputf fb_211_8 (by decide +kernel) hW (by omega) ?_)))
      intro IhB12 ehB12 hB12
      have t13 := fup_at ehB12 8 (by omega)
      refine And.intro (True.intro) ?_
      exact ⟨_, rfl, by omega⟩
    · intro c14
      refine And.intro (True.intro) ?_
      exact ⟨_, rfl, by omega⟩
set_option maxRecDepth 8000 in
theorem ct_X_ship_594a6 {I : fH} {x1 : Int} {x2 : Int} {x3 : Int} (h0 : fB bsJ I) (ha1 : ((-2147483648) ≤ x1 ∧ x1 ≤ 2147483647)) (ha2 : ((-2147483648) ≤ x2 ∧ x2 ≤ 2147483647)) (ha3 : ((-2147483648) ≤ x3 ∧ x3 ≤ 2147483647)) : fC ρ base n F xTc vwCl xTys D dA la gJ (fbz bsJ znJ (fKc wz_f0603) I) xm_194 [.inr (.inr (some 0)), .inl x1, .inl x2, .inl x3] I (fun _ r => ∃ z, r = some (.inl z) ∧ ((0 ≤ z ∧ z ≤ 5) ∨ z = (-1000000003) ∨ z = (-1000000001))) := by
  have hW : fzs wz_f0603 (fKc wz_f0603) := fKc_ok _
  refine f_meth (rb := rbJ) (J := []) 1 400 xG xin_194 x6_194 okJ (fB_self h0) ?_ ?_
  · exact fun q h => absurd h List.not_mem_nil
  · have hB0 := fB_self (zn := znJ) (K := fKc wz_f0603) h0
    refine Exists.intro xm_13 (And.intro mi_13 (And.intro ⟨rfl, rfl, rfl, rfl⟩ (And.intro True.intro ?_)))
    refine fcallp hB0 (ct_X_within_c27b1 (fBz h0 hB0) (by omega) (by omega) (by omega)) ?_
    rintro _ ⟨z1, rfl, hz1⟩
    refine And.intro (by omega) (And.intro ?_ ?_)
    · intro c2
      refine And.intro (True.intro) ?_
      exact ⟨_, rfl, by omega⟩
    · intro c3
      refine Exists.intro xm_13 (And.intro mi_13 (And.intro ⟨rfl, rfl, rfl, rfl⟩ (And.intro True.intro ?_)))
      refine fcallp hB0 (ct_X_within_c27b1 (fBz h0 hB0) (by omega) (by omega) (by omega)) ?_
      rintro _ ⟨z4, rfl, hz4⟩
      refine And.intro (by omega) (And.intro ?_ ?_)
      · intro c5
        refine And.intro (True.intro) ?_
        exact ⟨_, rfl, by omega⟩
      · intro c6
        refine Exists.intro xm_13 (And.intro mi_13 (And.intro ⟨rfl, rfl, rfl, rfl⟩ (And.intro True.intro ?_)))
        refine fcallp hB0 (ct_X_within_c27b1 (fBz h0 hB0) (by omega) (by omega) (by omega)) ?_
        rintro _ ⟨z7, rfl, hz7⟩
        refine And.intro (by omega) (And.intro ?_ ?_)
        · intro c8
          refine And.intro ⟨rfl, by decide, by decide⟩ ?_
          refine Exists.intro xm_195 (And.intro mi_195 (And.intro ⟨rfl, rfl, rfl, rfl⟩ (And.intro rfl ?_)))
          refine fcall _ h0 (fzs_sub (by decide +kernel) hW) hB0 (ct_Desk_addShip_b0073 (fBz h0 hB0) (by omega) (by omega) (by omega)) ?_
          rintro IhB10 _ hB10 fhB10 ⟨z9, rfl, hz9⟩
          refine And.intro (True.intro) ?_
          exact ⟨_, rfl, by omega⟩
        · intro c11
          refine And.intro (True.intro) ?_
          exact ⟨_, rfl, by omega⟩
set_option maxRecDepth 8000 in
theorem ct_M_ship_fd85e {I : fH} {x1 : Int} {x2 : Int} {x3 : Int} (h0 : fB bsJ I) (ha1 : ((-2147483648) ≤ x1 ∧ x1 ≤ 2147483647)) (ha2 : ((-2147483648) ≤ x2 ∧ x2 ≤ 2147483647)) (ha3 : ((-2147483648) ≤ x3 ∧ x3 ≤ 2147483647)) (hp0 : sI I 741) : fC ρ base n F xTc vwCl xTys D dA la gJ (fbz bsJ znJ (fKc wz_ac3fb) I) xm_471 [.inr (.inr (some 740)), .inl x1, .inl x2, .inl x3] I (fun I' r => ∃ z, r = some (.inl z) ∧ ((0 ≤ z ∧ z ≤ 5) ∨ z = (-1000000003) ∨ z = (-1000000001)) ∧ (sI I' 741)) := by
  have hW : fzs wz_ac3fb (fKc wz_ac3fb) := fKc_ok _
  refine f_meth (rb := rbJ) (J := []) 1 400 xG xin_471 x6_471 okJ (fB_self h0) ?_ ?_
  · exact fun q h => absurd h List.not_mem_nil
  · have hB0 := fB_self (zn := znJ) (K := fKc wz_ac3fb) h0
    refine And.intro (by omega) ?_
    refine Exists.intro xm_238 (And.intro mi_238 (And.intro ⟨rfl, rfl, rfl, rfl⟩ (And.intro True.intro ?_)))
    refine fcallp hB0 (ct_M_isIn_27230 (fBz h0 hB0) (by omega) (by omega) (by omega)) ?_
    rintro _ ⟨z1, rfl, hz1⟩
    refine And.intro (by omega) (And.intro ?_ ?_)
    · intro c2
      refine And.intro (True.intro) ?_
      exact ⟨_, rfl, by omega, hp0⟩
    · intro c3
      refine And.intro (by omega) ?_
      refine Exists.intro xm_238 (And.intro mi_238 (And.intro ⟨rfl, rfl, rfl, rfl⟩ (And.intro True.intro ?_)))
      refine fcallp hB0 (ct_M_isIn_27230 (fBz h0 hB0) (by omega) (by omega) (by omega)) ?_
      rintro _ ⟨z4, rfl, hz4⟩
      refine And.intro (by omega) (And.intro ?_ ?_)
      · intro c5
        refine And.intro (True.intro) ?_
        exact ⟨_, rfl, by omega, hp0⟩
      · intro c6
        refine And.intro (by omega) ?_
        refine Exists.intro xm_238 (And.intro mi_238 (And.intro ⟨rfl, rfl, rfl, rfl⟩ (And.intro True.intro ?_)))
        refine fcallp hB0 (ct_M_isIn_27230 (fBz h0 hB0) (by omega) (by omega) (by omega)) ?_
        rintro _ ⟨z7, rfl, hz7⟩
        refine And.intro (by omega) (And.intro ?_ ?_)
        · intro c8
          refine And.intro ⟨rfl, by decide, by decide⟩ ?_
          refine fload rL_741_741_10_10_1_0 h0 hB0 (by omega) ?_
          intro z9 lz9 uz9 qz9
          have pz9 := fld_at qz9 10 (by omega)
          refine And.intro (by omega) (And.intro ?_ ?_)
          · intro c10
            refine And.intro ⟨rfl, by decide, by decide⟩ ?_
            refine fload rL_741_741_10_10_1_0 h0 hB0 (by omega) ?_
            intro z11 lz11 uz11 qz11
            have pz11 := fld_at qz11 10 (by omega)
            refine And.intro ⟨rfl, by decide, by decide⟩ ?_
            refine fstore rS_741_741_4330_4345_3_0 (fzs_sub (by decide +kernel) hW) (by omega) (by omega) ?_
            intro IhB12 ehB12 hB12
            have t13 := fup_self ehB12
            have t14 : IhB12 741 10 = I 741 10 := (congrFun (congrFun ehB12 741) 10).trans (fup_ne (by omega))
            refine And.intro ⟨rfl, by decide, by decide⟩ ?_
            refine fstore rS_741_741_4331_4346_3_0 (fzs_sub (by decide +kernel) hW) (by omega) (by omega) ?_
            intro IhB15 ehB15 hB15
            have t16 := fup_self ehB15
            have t17 : IhB15 741 10 = IhB12 741 10 := (congrFun (congrFun ehB15 741) 10).trans (fup_ne (by omega))
            refine And.intro ⟨rfl, by decide, by decide⟩ ?_
            refine fstore rS_741_741_4332_4347_3_0 (fzs_sub (by decide +kernel) hW) (by omega) (by omega) ?_
            intro IhB18 ehB18 hB18
            have t19 := fup_self ehB18
            have t20 : IhB18 741 10 = IhB15 741 10 := (congrFun (congrFun ehB18 741) 10).trans (fup_ne (by omega))
            refine And.intro ⟨rfl, by decide, by decide⟩ ?_
            refine fload rL_741_741_10_10_1_0 h0 hB18 (by omega) ?_
            intro z21 lz21 uz21 qz21
            have pz21 := fld_at qz21 10 (by omega)
            refine fstore rS_741_741_10_10_1_0 (fzs_sub (by decide +kernel) hW) (by omega) (by omega) ?_
            intro IhB22 ehB22 hB22
            have t23 := fup_self ehB22
            have t24 := fup_at ehB22 10 (by omega)
            refine And.intro ⟨rfl, by decide, by decide⟩ ?_
            refine fload rL_741_741_10_10_1_0 h0 hB22 (by omega) ?_
            intro z25 lz25 uz25 qz25
            have pz25 := fld_at qz25 10 (by omega)
            refine And.intro (True.intro) ?_
            exact ⟨_, rfl, by omega, (sI_ship (sBd_of h0) (by omega) (fun j h hj => ((fup_other ehB22 741 j (Or.inr (by omega))).trans ((fup_other ehB18 741 j (Or.inr (by omega))).trans ((fup_other ehB15 741 j (Or.inr (by omega))).trans (fup_other ehB12 741 j (Or.inr (by omega))))))) (by rw [(fup_other ehB22 741 (4330 + 3 * I 741 10).toNat (Or.inr (by omega))), (fup_other ehB18 741 (4330 + 3 * I 741 10).toNat (Or.inr (by omega))), (fup_other ehB15 741 (4330 + 3 * I 741 10).toNat (Or.inr (by omega))), fup_at ehB12 (4330 + 3 * I 741 10).toNat (by omega)]; omega) (by omega) hp0)⟩
          · intro c26
            refine And.intro (True.intro) ?_
            exact ⟨_, rfl, by omega, hp0⟩
        · intro c27
          refine And.intro (True.intro) ?_
          exact ⟨_, rfl, by omega, hp0⟩
set_option maxRecDepth 8000 in
theorem ct_Math_floorMod_805d8 {I : fH} {x0 : Int} {x1 : Int} (h0 : fB bsJ I) (ha0 : ((-2147483648) ≤ x0 ∧ x0 ≤ 2147483647)) (ha1 : (1 ≤ x1 ∧ x1 ≤ 2147483647)) : fC ρ base n F xTc vwCl xTys D dA la gJ (fbz bsJ znJ (fKc []) I) xm_500 [.inl x0, .inl x1] I (fun _ r => ∃ z, r = some (.inl z) ∧ ((-2147483648) ≤ z ∧ z ≤ 2147483647)) := by
  have hW : fzs [] (fKc []) := fKc_ok _
  refine f_meth (rb := rbJ) (J := []) 1 400 xG xin_500 x6_500 okJ (fB_self h0) ?_ ?_
  · exact fun q h => absurd h List.not_mem_nil
  · have hB0 := fB_self (zn := znJ) (K := fKc []) h0
    refine And.intro (And.intro (by omega) (And.intro (by omega) (And.intro (by omega) rfl))) ?_
    intro z1 hz1 ez1 dz1
    intro z2 hz2 ez2
    refine And.intro (by omega) (And.intro ?_ ?_)
    · intro c3
      refine And.intro (True.intro) ?_
      exact ⟨_, rfl, by omega⟩
    · intro c4
      refine And.intro (by omega) (And.intro ?_ ?_)
      · intro c5
        refine And.intro (True.intro) ?_
        exact ⟨_, rfl, by omega⟩
      · intro c6
        intro z7 hz7 ez7 bz7
        clear ez7
        clear bz7
        refine And.intro (True.intro) ?_
        exact ⟨_, rfl, by omega⟩
abbrev jc_Desk_nextMeeting_028da_17 : Nat → fL → List fV → fH → Prop := fun m lv st I => ∃ (y1 : Int) (y3 : Int) (y4 : Int), lv = [(0, .inr (.inr (some 211))), (1, .inl y1), (2, .inr (.inr (some 1))), (3, .inl y3), (4, .inl y4)] ∧ st = [] ∧ (((0 ≤ y1 ∧ y1 ≤ 5) ∧ (1 ≤ y3 ∧ y3 ≤ 2147483647) ∧ (0 ≤ y4 ∧ y4 ≤ 12001))) ∧ m = (1 + 1 * (12001 - y4) : Int).toNat
set_option maxRecDepth 8000 in
theorem ct_Desk_nextMeeting_028da {I : fH} {x1 : Int} (h0 : fB bsJ I) (ha1 : (0 ≤ x1 ∧ x1 ≤ 5)) : fC ρ base n F xTc vwCl xTys D dA la gJ (fbz bsJ znJ (fKc []) I) xm_197 [.inr (.inr (some 211)), .inl x1, .inr (.inr (some 1))] I (fun _ r => ∃ z, r = some (.inl z) ∧ ((-2147483648) ≤ z ∧ z ≤ 2147483647)) := by
  have hW : fzs [] (fKc []) := fKc_ok _
  refine f_meth (rb := rbJ) (J := [(17, jc_Desk_nextMeeting_028da_17)]) 12003 400 xG xin_197 x6_197 okJ (fB_self h0) ?_ ?_
  · refine List.forall_mem_cons.mpr ⟨?_, fun q h => absurd h List.not_mem_nil⟩
    · rintro m _ _ I1 hB1 ⟨y1, y3, y4, rfl, rfl, hb, hm⟩
      refine And.intro (by omega) (And.intro ?_ ?_)
      · intro c1
        refine And.intro (True.intro) ?_
        exact ⟨_, rfl, by omega⟩
      · intro c2
        refine And.intro ⟨rfl, by decide, by decide⟩ (fgetf fb_1_9 h0 hB1 ?_)
        intro z3 lz3 uz3 qz3
        intro z4 hz4 ez4 bz4
        clear ez4
        clear bz4
        refine And.intro ⟨rfl, by decide, by decide⟩ ?_
        refine fload rL_250_250_0_5_1_0 h0 hB1 (by omega) ?_
        intro z5 lz5 uz5 qz5
        intro z6 hz6 ez6 bz6
        clear ez6
        clear bz6
        refine Exists.intro xm_500 (And.intro mi_500 (And.intro ⟨rfl, rfl, rfl, rfl⟩ (And.intro True.intro ?_)))
        refine fcallp hB1 (ct_Math_floorMod_805d8 (fBz h0 hB1) (by omega) (by omega)) ?_
        rintro _ ⟨z7, rfl, hz7⟩
        refine And.intro ⟨rfl, by decide, by decide⟩ ?_
        refine fload rL_251_251_0_5_1_0 h0 hB1 (by omega) ?_
        intro z8 lz8 uz8 qz8
        refine And.intro (by omega) (And.intro ?_ ?_)
        · intro c9
          exact fcutJ (I := I1) (j := jc_Desk_nextMeeting_028da_17) (lv' := [(0, .inr (.inr (some 211))), (1, .inl _), (2, .inr (.inr (some 1))), (3, .inl _), (4, .inl _)]) (And.intro rfl (And.intro rfl (And.intro rfl (And.intro rfl (And.intro rfl True.intro))))) ⟨_, _, _, rfl, rfl, by omega, rfl⟩ (by omega)
        · intro c10
          refine And.intro ⟨rfl, by decide, by decide⟩ (fgetf fb_1_6 h0 hB1 ?_)
          intro z11 lz11 uz11 qz11
          intro z12 hz12 ez12 bz12
          clear ez12
          clear bz12
          refine Exists.intro xm_70 (And.intro mi_70 (And.intro ⟨rfl, rfl, rfl, rfl⟩ (And.intro rfl ?_)))
          refine fcallp hB1 (ct_City_isDayAt_bb9dd (fBz h0 hB1) (by omega)) ?_
          rintro _ ⟨z13, rfl, hz13⟩
          refine And.intro (by omega) (And.intro ?_ ?_)
          · intro c14
            exact fcutJ (I := I1) (j := jc_Desk_nextMeeting_028da_17) (lv' := [(0, .inr (.inr (some 211))), (1, .inl _), (2, .inr (.inr (some 1))), (3, .inl _), (4, .inl _)]) (And.intro rfl (And.intro rfl (And.intro rfl (And.intro rfl (And.intro rfl True.intro))))) ⟨_, _, _, rfl, rfl, by omega, rfl⟩ (by omega)
          · intro c15
            refine And.intro (True.intro) ?_
            exact ⟨_, rfl, by omega⟩
  · have hB0 := fB_self (zn := znJ) (K := fKc []) h0
    refine And.intro ⟨rfl, by decide, by decide⟩ ?_
    refine fload rL_249_249_0_5_1_0 h0 hB0 (by omega) ?_
    intro z16 lz16 uz16 qz16
    refine And.intro (by omega) (And.intro ?_ ?_)
    · intro c17
      exact fcutJ (I := I) (j := jc_Desk_nextMeeting_028da_17) (lv' := [(0, .inr (.inr (some 211))), (1, .inl _), (2, .inr (.inr (some 1))), (3, .inl _), (4, .inl _)]) (And.intro rfl (And.intro rfl (And.intro rfl (And.intro rfl (And.intro rfl True.intro))))) ⟨_, _, _, rfl, rfl, by omega, rfl⟩ (by omega)
    · intro c18
      refine And.intro (True.intro) ?_
      exact ⟨_, rfl, by omega⟩
set_option maxRecDepth 8000 in
theorem ct_X_window_54b3b {I : fH} {x1 : Int} (h0 : fB bsJ I) (ha1 : ((-2147483648) ≤ x1 ∧ x1 ≤ 2147483647)) : fC ρ base n F xTc vwCl xTys D dA la gJ (fbz bsJ znJ (fKc []) I) xm_196 [.inr (.inr (some 0)), .inl x1] I (fun _ r => ∃ z, r = some (.inl z) ∧ ((-2147483648) ≤ z ∧ z ≤ 2147483647)) := by
  have hW : fzs [] (fKc []) := fKc_ok _
  refine f_meth (rb := rbJ) (J := []) 1 400 xG xin_196 x6_196 okJ (fB_self h0) ?_ ?_
  · exact fun q h => absurd h List.not_mem_nil
  · have hB0 := fB_self (zn := znJ) (K := fKc []) h0
    refine And.intro ⟨rfl, by decide, by decide⟩ ?_
    refine And.intro ⟨rfl, by decide, by decide⟩ (fgetf fb_211_8 h0 hB0 ?_)
    intro z1 lz1 uz1 qz1
    refine Exists.intro xm_13 (And.intro mi_13 (And.intro ⟨rfl, rfl, rfl, rfl⟩ (And.intro True.intro ?_)))
    refine fcallp hB0 (ct_X_within_c27b1 (fBz h0 hB0) (by omega) (by omega) (by omega)) ?_
    rintro _ ⟨z2, rfl, hz2⟩
    refine And.intro (by omega) (And.intro ?_ ?_)
    · intro c3
      refine And.intro (True.intro) ?_
      exact ⟨_, rfl, by omega⟩
    · intro c4
      refine And.intro ⟨rfl, by decide, by decide⟩ ?_
      refine And.intro ⟨rfl, by decide, by decide⟩ ?_
      refine Exists.intro xm_197 (And.intro mi_197 (And.intro ⟨rfl, rfl, rfl, rfl⟩ (And.intro rfl ?_)))
      refine fcallp hB0 (ct_Desk_nextMeeting_028da (fBz h0 hB0) (by omega)) ?_
      rintro _ ⟨z5, rfl, hz5⟩
      refine And.intro (True.intro) ?_
      exact ⟨_, rfl, by omega⟩
abbrev jc_M_window_94a7b_37 : Nat → fL → List fV → fH → Prop := fun m lv st I => ∃ (y1 : Int) (y2 : Int) (y3 : Int), lv = [(0, .inr (.inr (some 740))), (1, .inl y1), (2, .inl y2), (3, .inl y3)] ∧ st = [] ∧ (((0 ≤ y1 ∧ y1 ≤ 5) ∧ (2 ≤ y2 ∧ y2 ≤ 2147483647) ∧ (0 ≤ y3 ∧ y3 ≤ 12001))) ∧ m = (1 + 1 * (12001 - y3) : Int).toNat
set_option maxRecDepth 8000 in
theorem ct_M_window_94a7b {I : fH} {x1 : Int} (h0 : fB bsJ I) (ha1 : ((-2147483648) ≤ x1 ∧ x1 ≤ 2147483647)) (hp0 : sI I 741) : fC ρ base n F xTc vwCl xTys D dA la gJ (fbz bsJ znJ (fKc []) I) xm_472 [.inr (.inr (some 740)), .inl x1] I (fun _ r => ∃ z, r = some (.inl z) ∧ ((0 ≤ z ∧ z ≤ 34000) ∨ z = (-1000000005) ∨ z = (-1000000001))) := by
  have hW : fzs [] (fKc []) := fKc_ok _
  refine f_meth (rb := rbJ) (J := [(37, jc_M_window_94a7b_37)]) 12003 400 xG xin_472 x6_472 okJ (fB_self h0) ?_ ?_
  · refine List.forall_mem_cons.mpr ⟨?_, fun q h => absurd h List.not_mem_nil⟩
    · rintro m _ _ I1 hB1 ⟨y1, y2, y3, rfl, rfl, hb, hm⟩
      refine And.intro (by omega) (And.intro ?_ ?_)
      · intro c1
        refine And.intro (True.intro) ?_
        exact ⟨_, rfl, by omega⟩
      · intro c2
        refine And.intro ⟨rfl, by decide, by decide⟩ ?_
        refine fload rL_741_741_0_0_1_0 h0 hB1 (by omega) ?_
        intro z3 lz3 uz3 qz3
        have pz3 := fld_at qz3 0 (by omega)
        refine And.intro ⟨rfl, by decide, by decide⟩ ?_
        refine fload rL_741_741_4331_4346_3_0 h0 hB1 (by omega) ?_
        intro z4 lz4 uz4 qz4
        intro z5 hz5 ez5 bz5
        clear ez5
        try replace bz5 := bz5 (by omega)
        refine And.intro (And.intro (by omega) (And.intro (by omega) (And.intro (by omega) rfl))) ?_
        intro z6 hz6 ez6 dz6
        refine And.intro (by omega) (And.intro ?_ ?_)
        · intro c7
          intro z8 hz8 ez8 bz8
          clear ez8
          try replace bz8 := bz8 (by omega)
          refine And.intro ⟨rfl, by decide, by decide⟩ ?_
          refine fload rL_741_741_4332_4347_3_0 h0 hB1 (by omega) ?_
          intro z9 lz9 uz9 qz9
          refine And.intro (by omega) (And.intro ?_ ?_)
          · intro c10
            exact fcutJ (I := I1) (j := jc_M_window_94a7b_37) (lv' := [(0, .inr (.inr (some 740))), (1, .inl _), (2, .inl _), (3, .inl _)]) (And.intro rfl (And.intro rfl (And.intro rfl (And.intro rfl True.intro)))) ⟨_, _, _, rfl, rfl, by omega, rfl⟩ (by omega)
          · intro c11
            refine And.intro ⟨rfl, by decide, by decide⟩ ?_
            refine fload rL_741_741_2_2_1_0 h0 hB1 (by omega) ?_
            intro z12 lz12 uz12 qz12
            have pz12 := fld_at qz12 2 (by omega)
            intro z13 hz13 ez13 bz13
            clear ez13
            try replace bz13 := bz13 (by omega)
            refine Exists.intro xm_283 (And.intro mi_283 (And.intro ⟨rfl, rfl, rfl, rfl⟩ (And.intro rfl ?_)))
            refine fcallp hB1 (ct_M_isDay_57f71 (fBz h0 hB1) (by omega)) ?_
            rintro _ ⟨z14, rfl, hz14⟩
            refine And.intro (by omega) (And.intro ?_ ?_)
            · intro c15
              exact fcutJ (I := I1) (j := jc_M_window_94a7b_37) (lv' := [(0, .inr (.inr (some 740))), (1, .inl _), (2, .inl _), (3, .inl _)]) (And.intro rfl (And.intro rfl (And.intro rfl (And.intro rfl True.intro)))) ⟨_, _, _, rfl, rfl, by omega, rfl⟩ (by omega)
            · intro c16
              refine And.intro ⟨rfl, by decide, by decide⟩ ?_
              refine fload rL_741_741_0_0_1_0 h0 hB1 (by omega) ?_
              intro z17 lz17 uz17 qz17
              have pz17 := fld_at qz17 0 (by omega)
              refine And.intro (True.intro) ?_
              exact ⟨_, rfl, by omega⟩
        · intro c18
          intro z19 hz19 ez19 bz19
          clear ez19
          try replace bz19 := bz19 (by omega)
          refine And.intro ⟨rfl, by decide, by decide⟩ ?_
          refine fload rL_741_741_4332_4347_3_0 h0 hB1 (by omega) ?_
          intro z20 lz20 uz20 qz20
          refine And.intro (by omega) (And.intro ?_ ?_)
          · intro c21
            exact fcutJ (I := I1) (j := jc_M_window_94a7b_37) (lv' := [(0, .inr (.inr (some 740))), (1, .inl _), (2, .inl _), (3, .inl _)]) (And.intro rfl (And.intro rfl (And.intro rfl (And.intro rfl True.intro)))) ⟨_, _, _, rfl, rfl, by omega, rfl⟩ (by omega)
          · intro c22
            refine And.intro ⟨rfl, by decide, by decide⟩ ?_
            refine fload rL_741_741_2_2_1_0 h0 hB1 (by omega) ?_
            intro z23 lz23 uz23 qz23
            have pz23 := fld_at qz23 2 (by omega)
            intro z24 hz24 ez24 bz24
            clear ez24
            try replace bz24 := bz24 (by omega)
            refine Exists.intro xm_283 (And.intro mi_283 (And.intro ⟨rfl, rfl, rfl, rfl⟩ (And.intro rfl ?_)))
            refine fcallp hB1 (ct_M_isDay_57f71 (fBz h0 hB1) (by omega)) ?_
            rintro _ ⟨z25, rfl, hz25⟩
            refine And.intro (by omega) (And.intro ?_ ?_)
            · intro c26
              exact fcutJ (I := I1) (j := jc_M_window_94a7b_37) (lv' := [(0, .inr (.inr (some 740))), (1, .inl _), (2, .inl _), (3, .inl _)]) (And.intro rfl (And.intro rfl (And.intro rfl (And.intro rfl True.intro)))) ⟨_, _, _, rfl, rfl, by omega, rfl⟩ (by omega)
            · intro c27
              refine And.intro ⟨rfl, by decide, by decide⟩ ?_
              refine fload rL_741_741_0_0_1_0 h0 hB1 (by omega) ?_
              intro z28 lz28 uz28 qz28
              have pz28 := fld_at qz28 0 (by omega)
              refine And.intro (True.intro) ?_
              exact ⟨_, rfl, by omega⟩
  · have hB0 := fB_self (zn := znJ) (K := fKc []) h0
    refine And.intro (by omega) ?_
    refine And.intro ⟨rfl, by decide, by decide⟩ ?_
    refine fload rL_741_741_10_10_1_0 h0 hB0 (by omega) ?_
    intro z29 lz29 uz29 qz29
    have pz29 := fld_at qz29 10 (by omega)
    refine And.intro (by omega) ?_
    refine Exists.intro xm_238 (And.intro mi_238 (And.intro ⟨rfl, rfl, rfl, rfl⟩ (And.intro True.intro ?_)))
    refine fcallp hB0 (ct_M_isIn_27230 (fBz h0 hB0) (by omega) (by omega) (by omega)) ?_
    rintro _ ⟨z30, rfl, hz30⟩
    refine And.intro (by omega) (And.intro ?_ ?_)
    · intro c31
      refine And.intro ⟨rfl, by decide, by decide⟩ ?_
      refine fload rL_741_741_4330_4345_3_0 h0 hB0 (by omega) ?_
      intro z32 lz32 uz32 qz32
      have w33 := fld_at qz32 (4330 + 3 * x1.toNat) (by omega)
      have v33 := hp0.2.2.1 x1.toNat (by omega)
      exact fcutJ (I := I) (j := jc_M_window_94a7b_37) (lv' := [(0, .inr (.inr (some 740))), (1, .inl _), (2, .inl _), (3, .inl _)]) (And.intro rfl (And.intro rfl (And.intro rfl (And.intro rfl True.intro)))) ⟨_, _, _, rfl, rfl, by omega, rfl⟩ (by omega)
    · intro c33
      refine And.intro (True.intro) ?_
      exact ⟨_, rfl, by omega⟩
set_option maxRecDepth 8000 in
theorem ct_Desk_addLot_b50ff {I : fH} {x1 : Int} {x2 : Int} (h0 : fB bsJ I) (ha1 : (1 ≤ x1 ∧ x1 ≤ 9999)) (ha2 : (0 ≤ x2 ∧ x2 ≤ 999)) : fC ρ base n F xTc vwCl xTys D dA la gJ (fbz bsJ znJ (fKc wz_8f79a) I) xm_199 [.inr (.inr (some 211)), .inl x1, .inl x2] I (fun _ r => ∃ z, r = some (.inl z) ∧ ((0 ≤ z ∧ z ≤ 9) ∨ z = (-1000000003))) := by
  have hW : fzs wz_8f79a (fKc wz_8f79a) := fKc_ok _
  refine f_meth (rb := rbJ) (J := []) 1 400 xG xin_199 x6_199 okJ (fB_self h0) ?_ ?_
  · exact fun q h => absurd h List.not_mem_nil
  · have hB0 := fB_self (zn := znJ) (K := fKc wz_8f79a) h0
    refine And.intro ⟨rfl, by decide, by decide⟩ (fgetf fb_211_11 h0 hB0 ?_)
    intro z1 lz1 uz1 qz1
    refine And.intro (by omega) (And.intro ?_ ?_)
    · intro c2
      refine And.intro ⟨rfl, by decide, by decide⟩ ?_
      refine fstore rS_252_252_0_9_1_0 (fzs_sub (by decide +kernel) hW) (by omega) (by omega) ?_
      intro IhB3 ehB3 hB3
      have t4 := fup_self ehB3
      have t5 : IhB3 211 11 = I 211 11 := (congrFun (congrFun ehB3 211) 11).trans (fup_ne (by omega))
      refine And.intro ⟨rfl, by decide, by decide⟩ ?_
      refine fstore rS_253_253_0_9_1_0 (fzs_sub (by decide +kernel) hW) (by omega) (by omega) ?_
      intro IhB6 ehB6 hB6
      have t7 := fup_self ehB6
      have t8 : IhB6 211 11 = IhB3 211 11 := (congrFun (congrFun ehB6 211) 11).trans (fup_ne (by omega))
      refine And.intro ⟨rfl, by decide, by decide⟩ (And.intro rfl (And.intro (Or.inl rfl) (fputf fb_211_11 (by decide +kernel) hW (by omega) ?_)))
      intro IhB9 ehB9 hB9
      have t10 := fup_at ehB9 11 (by omega)
      refine And.intro (True.intro) ?_
      exact ⟨_, rfl, by omega⟩
    · intro c11
      refine And.intro (True.intro) ?_
      exact ⟨_, rfl, by omega⟩
set_option maxRecDepth 8000 in
theorem ct_X_lot_2a88d {I : fH} {x1 : Int} {x2 : Int} (h0 : fB bsJ I) (ha1 : ((-2147483648) ≤ x1 ∧ x1 ≤ 2147483647)) (ha2 : ((-2147483648) ≤ x2 ∧ x2 ≤ 2147483647)) : fC ρ base n F xTc vwCl xTys D dA la gJ (fbz bsJ znJ (fKc wz_8f79a) I) xm_198 [.inr (.inr (some 0)), .inl x1, .inl x2] I (fun _ r => ∃ z, r = some (.inl z) ∧ ((0 ≤ z ∧ z ≤ 9) ∨ z = (-1000000003) ∨ z = (-1000000001))) := by
  have hW : fzs wz_8f79a (fKc wz_8f79a) := fKc_ok _
  refine f_meth (rb := rbJ) (J := []) 1 400 xG xin_198 x6_198 okJ (fB_self h0) ?_ ?_
  · exact fun q h => absurd h List.not_mem_nil
  · have hB0 := fB_self (zn := znJ) (K := fKc wz_8f79a) h0
    refine Exists.intro xm_13 (And.intro mi_13 (And.intro ⟨rfl, rfl, rfl, rfl⟩ (And.intro True.intro ?_)))
    refine fcallp hB0 (ct_X_within_c27b1 (fBz h0 hB0) (by omega) (by omega) (by omega)) ?_
    rintro _ ⟨z1, rfl, hz1⟩
    refine And.intro (by omega) (And.intro ?_ ?_)
    · intro c2
      refine And.intro (True.intro) ?_
      exact ⟨_, rfl, by omega⟩
    · intro c3
      refine Exists.intro xm_13 (And.intro mi_13 (And.intro ⟨rfl, rfl, rfl, rfl⟩ (And.intro True.intro ?_)))
      refine fcallp hB0 (ct_X_within_c27b1 (fBz h0 hB0) (by omega) (by omega) (by omega)) ?_
      rintro _ ⟨z4, rfl, hz4⟩
      refine And.intro (by omega) (And.intro ?_ ?_)
      · intro c5
        refine And.intro (True.intro) ?_
        exact ⟨_, rfl, by omega⟩
      · intro c6
        refine And.intro ⟨rfl, by decide, by decide⟩ ?_
        refine Exists.intro xm_199 (And.intro mi_199 (And.intro ⟨rfl, rfl, rfl, rfl⟩ (And.intro rfl ?_)))
        refine fcall _ h0 (fzs_sub (by decide +kernel) hW) hB0 (ct_Desk_addLot_b50ff (fBz h0 hB0) (by omega) (by omega)) ?_
        rintro IhB8 _ hB8 fhB8 ⟨z7, rfl, hz7⟩
        refine And.intro (True.intro) ?_
        exact ⟨_, rfl, by omega⟩
set_option maxRecDepth 8000 in
theorem ct_M_lot_a4778 {I : fH} {x1 : Int} {x2 : Int} (h0 : fB bsJ I) (ha1 : ((-2147483648) ≤ x1 ∧ x1 ≤ 2147483647)) (ha2 : ((-2147483648) ≤ x2 ∧ x2 ≤ 2147483647)) : fC ρ base n F xTc vwCl xTys D dA la gJ (fbz bsJ znJ (fKc wz_78ec0) I) xm_473 [.inr (.inr (some 740)), .inl x1, .inl x2] I (fun _ r => ∃ z, r = some (.inl z) ∧ ((0 ≤ z ∧ z ≤ 9) ∨ z = (-1000000003) ∨ z = (-1000000001))) := by
  have hW : fzs wz_78ec0 (fKc wz_78ec0) := fKc_ok _
  refine f_meth (rb := rbJ) (J := []) 1 400 xG xin_473 x6_473 okJ (fB_self h0) ?_ ?_
  · exact fun q h => absurd h List.not_mem_nil
  · have hB0 := fB_self (zn := znJ) (K := fKc wz_78ec0) h0
    refine And.intro (by omega) ?_
    refine Exists.intro xm_238 (And.intro mi_238 (And.intro ⟨rfl, rfl, rfl, rfl⟩ (And.intro True.intro ?_)))
    refine fcallp hB0 (ct_M_isIn_27230 (fBz h0 hB0) (by omega) (by omega) (by omega)) ?_
    rintro _ ⟨z1, rfl, hz1⟩
    refine And.intro (by omega) (And.intro ?_ ?_)
    · intro c2
      refine And.intro (True.intro) ?_
      exact ⟨_, rfl, by omega⟩
    · intro c3
      refine And.intro (by omega) ?_
      refine Exists.intro xm_238 (And.intro mi_238 (And.intro ⟨rfl, rfl, rfl, rfl⟩ (And.intro True.intro ?_)))
      refine fcallp hB0 (ct_M_isIn_27230 (fBz h0 hB0) (by omega) (by omega) (by omega)) ?_
      rintro _ ⟨z4, rfl, hz4⟩
      refine And.intro (by omega) (And.intro ?_ ?_)
      · intro c5
        refine And.intro ⟨rfl, by decide, by decide⟩ ?_
        refine fload rL_741_741_11_11_1_0 h0 hB0 (by omega) ?_
        intro z6 lz6 uz6 qz6
        have pz6 := fld_at qz6 11 (by omega)
        refine And.intro (by omega) (And.intro ?_ ?_)
        · intro c7
          refine And.intro ⟨rfl, by decide, by decide⟩ ?_
          refine And.intro ⟨rfl, by decide, by decide⟩ ?_
          refine fload rL_741_741_11_11_1_0 h0 hB0 (by omega) ?_
          intro z8 lz8 uz8 qz8
          have pz8 := fld_at qz8 11 (by omega)
          refine fstore rS_741_741_4350_4368_2_0 (fzs_sub (by decide +kernel) hW) (by omega) (by omega) ?_
          intro IhB9 ehB9 hB9
          have t10 := fup_self ehB9
          have t11 : IhB9 741 11 = I 741 11 := (congrFun (congrFun ehB9 741) 11).trans (fup_ne (by omega))
          refine And.intro ⟨rfl, by decide, by decide⟩ ?_
          refine And.intro ⟨rfl, by decide, by decide⟩ ?_
          refine fload rL_741_741_11_11_1_0 h0 hB9 (by omega) ?_
          intro z12 lz12 uz12 qz12
          have pz12 := fld_at qz12 11 (by omega)
          refine fstore rS_741_741_4351_4369_2_0 (fzs_sub (by decide +kernel) hW) (by omega) (by omega) ?_
          intro IhB13 ehB13 hB13
          have t14 := fup_self ehB13
          have t15 : IhB13 741 11 = IhB9 741 11 := (congrFun (congrFun ehB13 741) 11).trans (fup_ne (by omega))
          refine And.intro ⟨rfl, by decide, by decide⟩ ?_
          refine fload rL_741_741_11_11_1_0 h0 hB13 (by omega) ?_
          intro z16 lz16 uz16 qz16
          have pz16 := fld_at qz16 11 (by omega)
          refine fstore rS_741_741_11_11_1_0 (fzs_sub (by decide +kernel) hW) (by omega) (by omega) ?_
          intro IhB17 ehB17 hB17
          have t18 := fup_self ehB17
          have t19 := fup_at ehB17 11 (by omega)
          refine And.intro ⟨rfl, by decide, by decide⟩ ?_
          refine fload rL_741_741_11_11_1_0 h0 hB17 (by omega) ?_
          intro z20 lz20 uz20 qz20
          have pz20 := fld_at qz20 11 (by omega)
          refine And.intro (True.intro) ?_
          exact ⟨_, rfl, by omega⟩
        · intro c21
          refine And.intro (True.intro) ?_
          exact ⟨_, rfl, by omega⟩
      · intro c22
        refine And.intro (True.intro) ?_
        exact ⟨_, rfl, by omega⟩
abbrev jc_Desk_sumOf_9fb57_5 : Nat → fL → List fV → fH → Prop := fun m lv st I => ∃ (y2 : Int) (y3 : Int) (y4 : Int), lv = [(0, .inr (.inr (some 211))), (1, .inr (.inr (some 252))), (2, .inl y2), (3, .inl y3), (4, .inl y4)] ∧ st = [] ∧ (((1 ≤ y2 ∧ y2 ≤ 2147483647) ∧ ((-2147483648) ≤ y3 ∧ y3 ≤ 2147483647) ∧ (0 ≤ y4 ∧ y4 ≤ 10))) ∧ m = (1 + 1 * (10 - y4) : Int).toNat
set_option maxRecDepth 8000 in
theorem ct_Desk_sumOf_9fb57 {I : fH} {x2 : Int} (h0 : fB bsJ I) (ha2 : (1 ≤ x2 ∧ x2 ≤ 2147483647)) : fC ρ base n F xTc vwCl xTys D dA la gJ (fbz bsJ znJ (fKc []) I) xm_202 [.inr (.inr (some 211)), .inr (.inr (some 252)), .inl x2] I (fun _ r => ∃ z, r = some (.inl z) ∧ ((-2147483648) ≤ z ∧ z ≤ 2147483647)) := by
  have hW : fzs [] (fKc []) := fKc_ok _
  refine f_meth (rb := rbJ) (J := [(5, jc_Desk_sumOf_9fb57_5)]) 12 400 xG xin_202 x6_202 okJ (fB_self h0) ?_ ?_
  · refine List.forall_mem_cons.mpr ⟨?_, fun q h => absurd h List.not_mem_nil⟩
    · rintro m _ _ I1 hB1 ⟨y2, y3, y4, rfl, rfl, hb, hm⟩
      refine And.intro ⟨rfl, by decide, by decide⟩ (fgetf fb_211_11 h0 hB1 ?_)
      intro z1 lz1 uz1 qz1
      refine And.intro (by omega) (And.intro ?_ ?_)
      · intro c2
        refine And.intro (True.intro) ?_
        exact ⟨_, rfl, by omega⟩
      · intro c3
        intro z4 hz4 ez4
        intro z5 hz5 ez5 bz5
        clear ez5
        have bz5 := bz5 (by omega)
        refine And.intro (by omega) (And.intro ?_ ?_)
        · intro c6
          exact fcutJ (I := I1) (j := jc_Desk_sumOf_9fb57_5) (lv' := [(0, .inr (.inr (some 211))), (1, .inr (.inr (some 252))), (2, .inl _), (3, .inl _), (4, .inl _)]) (And.intro rfl (And.intro rfl (And.intro rfl (And.intro rfl (And.intro rfl True.intro))))) ⟨_, _, _, rfl, rfl, by omega, rfl⟩ (by omega)
        · intro c7
          refine fload rL_252_252_0_9_1_0 h0 hB1 (by omega) ?_
          intro z8 lz8 uz8 qz8
          intro z9 hz9 ez9 bz9
          clear ez9
          clear bz9
          exact fcutJ (I := I1) (j := jc_Desk_sumOf_9fb57_5) (lv' := [(0, .inr (.inr (some 211))), (1, .inr (.inr (some 252))), (2, .inl _), (3, .inl _), (4, .inl _)]) (And.intro rfl (And.intro rfl (And.intro rfl (And.intro rfl (And.intro rfl True.intro))))) ⟨_, _, _, rfl, rfl, by omega, rfl⟩ (by omega)
  · have hB0 := fB_self (zn := znJ) (K := fKc []) h0
    exact fcutJ (I := I) (j := jc_Desk_sumOf_9fb57_5) (lv' := [(0, .inr (.inr (some 211))), (1, .inr (.inr (some 252))), (2, .inl _), (3, .inl _), (4, .inl _)]) (And.intro rfl (And.intro rfl (And.intro rfl (And.intro rfl (And.intro rfl True.intro))))) ⟨_, _, _, rfl, rfl, by omega, rfl⟩ (by omega)
abbrev jc_Desk_sumOf_8e437_5 : Nat → fL → List fV → fH → Prop := fun m lv st I => ∃ (y2 : Int) (y3 : Int) (y4 : Int), lv = [(0, .inr (.inr (some 211))), (1, .inr (.inr (some 253))), (2, .inl y2), (3, .inl y3), (4, .inl y4)] ∧ st = [] ∧ (((1 ≤ y2 ∧ y2 ≤ 2147483647) ∧ ((-2147483648) ≤ y3 ∧ y3 ≤ 2147483647) ∧ (0 ≤ y4 ∧ y4 ≤ 10))) ∧ m = (1 + 1 * (10 - y4) : Int).toNat
set_option maxRecDepth 8000 in
theorem ct_Desk_sumOf_8e437 {I : fH} {x2 : Int} (h0 : fB bsJ I) (ha2 : (1 ≤ x2 ∧ x2 ≤ 2147483647)) : fC ρ base n F xTc vwCl xTys D dA la gJ (fbz bsJ znJ (fKc []) I) xm_202 [.inr (.inr (some 211)), .inr (.inr (some 253)), .inl x2] I (fun _ r => ∃ z, r = some (.inl z) ∧ ((-2147483648) ≤ z ∧ z ≤ 2147483647)) := by
  have hW : fzs [] (fKc []) := fKc_ok _
  refine f_meth (rb := rbJ) (J := [(5, jc_Desk_sumOf_8e437_5)]) 12 400 xG xin_202 x6_202 okJ (fB_self h0) ?_ ?_
  · refine List.forall_mem_cons.mpr ⟨?_, fun q h => absurd h List.not_mem_nil⟩
    · rintro m _ _ I1 hB1 ⟨y2, y3, y4, rfl, rfl, hb, hm⟩
      refine And.intro ⟨rfl, by decide, by decide⟩ (fgetf fb_211_11 h0 hB1 ?_)
      intro z1 lz1 uz1 qz1
      refine And.intro (by omega) (And.intro ?_ ?_)
      · intro c2
        refine And.intro (True.intro) ?_
        exact ⟨_, rfl, by omega⟩
      · intro c3
        intro z4 hz4 ez4
        intro z5 hz5 ez5 bz5
        clear ez5
        have bz5 := bz5 (by omega)
        refine And.intro (by omega) (And.intro ?_ ?_)
        · intro c6
          exact fcutJ (I := I1) (j := jc_Desk_sumOf_8e437_5) (lv' := [(0, .inr (.inr (some 211))), (1, .inr (.inr (some 253))), (2, .inl _), (3, .inl _), (4, .inl _)]) (And.intro rfl (And.intro rfl (And.intro rfl (And.intro rfl (And.intro rfl True.intro))))) ⟨_, _, _, rfl, rfl, by omega, rfl⟩ (by omega)
        · intro c7
          refine fload rL_253_253_0_9_1_0 h0 hB1 (by omega) ?_
          intro z8 lz8 uz8 qz8
          intro z9 hz9 ez9 bz9
          clear ez9
          clear bz9
          exact fcutJ (I := I1) (j := jc_Desk_sumOf_8e437_5) (lv' := [(0, .inr (.inr (some 211))), (1, .inr (.inr (some 253))), (2, .inl _), (3, .inl _), (4, .inl _)]) (And.intro rfl (And.intro rfl (And.intro rfl (And.intro rfl (And.intro rfl True.intro))))) ⟨_, _, _, rfl, rfl, by omega, rfl⟩ (by omega)
  · have hB0 := fB_self (zn := znJ) (K := fKc []) h0
    exact fcutJ (I := I) (j := jc_Desk_sumOf_8e437_5) (lv' := [(0, .inr (.inr (some 211))), (1, .inr (.inr (some 253))), (2, .inl _), (3, .inl _), (4, .inl _)]) (And.intro rfl (And.intro rfl (And.intro rfl (And.intro rfl (And.intro rfl True.intro))))) ⟨_, _, _, rfl, rfl, by omega, rfl⟩ (by omega)
abbrev jc_Desk_bestLots_84d7e_10 : Nat → fL → List fV → fH → Prop := fun m lv st I => ∃ (y1 : Int) (y2 : Int) (y3 : Int) (y4 : Int) (y5 : Int), lv = [(0, .inr (.inr (some 211))), (1, .inl y1), (2, .inl y2), (3, .inl y3), (4, .inl y4), (5, .inl y5)] ∧ st = [] ∧ (((0 ≤ y1 ∧ y1 ≤ 99999) ∧ (0 ≤ y2 ∧ y2 ≤ 2147483647) ∧ ((-2147483648) ≤ y3 ∧ y3 ≤ 2147483647) ∧ ((-2147483648) ≤ y4 ∧ y4 ≤ 99999) ∧ (1 ≤ y5 ∧ y5 ≤ 2147483647))) ∧ m = (4 + 4 * (2147483647 - y5) : Int).toNat
abbrev jc_Desk_bestLots_84d7e_64 : Nat → fL → List fV → fH → Prop := fun m lv st I => ∃ (y1 : Int) (y2 : Int) (y3 : Int) (y4 : Int) (y5 : Int) (y6 : Int) (y7 : Int), lv = [(0, .inr (.inr (some 211))), (1, .inl y1), (2, .inl y2), (3, .inl y3), (4, .inl y4), (5, .inl y5), (6, .inl y6), (7, .inl y7)] ∧ st = [] ∧ (((0 ≤ y1 ∧ y1 ≤ 99999) ∧ (0 ≤ y2 ∧ y2 ≤ 2147483647) ∧ ((-2147483648) ≤ y3 ∧ y3 ≤ 2147483647) ∧ ((-2147483648) ≤ y4 ∧ y4 ≤ 99999) ∧ (1 ≤ y5 ∧ y5 ≤ 2147483646) ∧ ((-2147483648) ≤ y6 ∧ y6 ≤ 2147483647) ∧ ((-2147483648) ≤ y7 ∧ y7 ≤ 2147483647))) ∧ m = (2 + 4 * (2147483647 - y5) : Int).toNat
abbrev jc_Desk_bestLots_84d7e_68 : Nat → fL → List fV → fH → Prop := fun m lv st I => ∃ (y1 : Int) (y2 : Int) (y3 : Int) (y4 : Int) (y5 : Int) (y6 : Int) (y7 : Int), lv = [(0, .inr (.inr (some 211))), (1, .inl y1), (2, .inl y2), (3, .inl y3), (4, .inl y4), (5, .inl y5), (6, .inl y6), (7, .inl y7)] ∧ st = [] ∧ (((0 ≤ y1 ∧ y1 ≤ 99999) ∧ (0 ≤ y2 ∧ y2 ≤ 2147483647) ∧ ((-2147483648) ≤ y3 ∧ y3 ≤ 2147483647) ∧ ((-2147483648) ≤ y4 ∧ y4 ≤ 99999) ∧ (1 ≤ y5 ∧ y5 ≤ 2147483646) ∧ ((-2147483648) ≤ y6 ∧ y6 ≤ 2147483647) ∧ ((-2147483648) ≤ y7 ∧ y7 ≤ 2147483647))) ∧ m = (3 + 4 * (2147483647 - y5) : Int).toNat
abbrev jc_Desk_bestLots_84d7e_92 : Nat → fL → List fV → fH → Prop := fun m lv st I => ∃ (y1 : Int) (y2 : Int) (y3 : Int) (y4 : Int) (y5 : Int), lv = [(0, .inr (.inr (some 211))), (1, .inl y1), (2, .inl y2), (3, .inl y3), (4, .inl y4), (5, .inl y5)] ∧ st = [] ∧ (((0 ≤ y1 ∧ y1 ≤ 99999) ∧ (0 ≤ y2 ∧ y2 ≤ 2147483647) ∧ ((-2147483648) ≤ y3 ∧ y3 ≤ 2147483647) ∧ ((-2147483648) ≤ y4 ∧ y4 ≤ 99999) ∧ (1 ≤ y5 ∧ y5 ≤ 2147483646))) ∧ m = (1 + 4 * (2147483647 - y5) : Int).toNat
set_option maxRecDepth 8000 in
theorem ct_Desk_bestLots_84d7e {I : fH} {x1 : Int} (h0 : fB bsJ I) (ha1 : (0 ≤ x1 ∧ x1 ≤ 99999)) : fC ρ base n F xTc vwCl xTys D dA la gJ (fbz bsJ znJ (fKc []) I) xm_201 [.inr (.inr (some 211)), .inl x1] I (fun _ r => ∃ z, r = some (.inl z) ∧ (0 ≤ z ∧ z ≤ 2147483647)) := by
  have hW : fzs [] (fKc []) := fKc_ok _
  refine f_meth (rb := rbJ) (J := [(10, jc_Desk_bestLots_84d7e_10), (64, jc_Desk_bestLots_84d7e_64), (68, jc_Desk_bestLots_84d7e_68), (92, jc_Desk_bestLots_84d7e_92)]) 8589934589 400 xG xin_201 x6_201 okJ (fB_self h0) ?_ ?_
  · refine List.forall_mem_cons.mpr ⟨?_, List.forall_mem_cons.mpr ⟨?_, List.forall_mem_cons.mpr ⟨?_, List.forall_mem_cons.mpr ⟨?_, fun q h => absurd h List.not_mem_nil⟩⟩⟩⟩
    · rintro m _ _ I1 hB1 ⟨y1, y2, y3, y4, y5, rfl, rfl, hb, hm⟩
      refine And.intro ⟨rfl, by decide, by decide⟩ (fgetf fb_211_11 h0 hB1 ?_)
      intro z1 lz1 uz1 qz1
      intro z2 hz2 ez2
      refine And.intro (by omega) (And.intro ?_ ?_)
      · intro c3
        refine And.intro (True.intro) ?_
        exact ⟨_, rfl, by omega⟩
      · intro c4
        refine And.intro ⟨rfl, by decide, by decide⟩ ?_
        refine Exists.intro xm_202 (And.intro mi_202 (And.intro ⟨rfl, rfl, rfl, rfl⟩ (And.intro rfl ?_)))
        refine fcallp hB1 (ct_Desk_sumOf_9fb57 (fBz h0 hB1) (by omega)) ?_
        rintro _ ⟨z5, rfl, hz5⟩
        refine And.intro ⟨rfl, by decide, by decide⟩ ?_
        refine Exists.intro xm_202 (And.intro mi_202 (And.intro ⟨rfl, rfl, rfl, rfl⟩ (And.intro rfl ?_)))
        refine fcallp hB1 (ct_Desk_sumOf_8e437 (fBz h0 hB1) (by omega)) ?_
        rintro _ ⟨z6, rfl, hz6⟩
        refine And.intro (by omega) (And.intro ?_ ?_)
        · intro c7
          exact fcutJ (I := I1) (j := jc_Desk_bestLots_84d7e_64) (lv' := [(0, .inr (.inr (some 211))), (1, .inl _), (2, .inl _), (3, .inl _), (4, .inl _), (5, .inl _), (6, .inl _), (7, .inl _)]) (And.intro rfl (And.intro rfl (And.intro rfl (And.intro rfl (And.intro rfl (And.intro rfl (And.intro rfl (And.intro rfl True.intro)))))))) ⟨_, _, _, _, _, _, _, rfl, rfl, by omega, rfl⟩ (by omega)
        · intro c8
          refine And.intro (by omega) (And.intro ?_ ?_)
          · intro c9
            exact fcutJ (I := I1) (j := jc_Desk_bestLots_84d7e_68) (lv' := [(0, .inr (.inr (some 211))), (1, .inl _), (2, .inl _), (3, .inl _), (4, .inl _), (5, .inl _), (6, .inl _), (7, .inl _)]) (And.intro rfl (And.intro rfl (And.intro rfl (And.intro rfl (And.intro rfl (And.intro rfl (And.intro rfl (And.intro rfl True.intro)))))))) ⟨_, _, _, _, _, _, _, rfl, rfl, by omega, rfl⟩ (by omega)
          · intro c10
            refine And.intro (by omega) (And.intro ?_ ?_)
            · intro c11
              exact fcutJ (I := I1) (j := jc_Desk_bestLots_84d7e_68) (lv' := [(0, .inr (.inr (some 211))), (1, .inl _), (2, .inl _), (3, .inl _), (4, .inl _), (5, .inl _), (6, .inl _), (7, .inl _)]) (And.intro rfl (And.intro rfl (And.intro rfl (And.intro rfl (And.intro rfl (And.intro rfl (And.intro rfl (And.intro rfl True.intro)))))))) ⟨_, _, _, _, _, _, _, rfl, rfl, by omega, rfl⟩ (by omega)
            · intro c12
              exact fcutJ (I := I1) (j := jc_Desk_bestLots_84d7e_64) (lv' := [(0, .inr (.inr (some 211))), (1, .inl _), (2, .inl _), (3, .inl _), (4, .inl _), (5, .inl _), (6, .inl _), (7, .inl _)]) (And.intro rfl (And.intro rfl (And.intro rfl (And.intro rfl (And.intro rfl (And.intro rfl (And.intro rfl (And.intro rfl True.intro)))))))) ⟨_, _, _, _, _, _, _, rfl, rfl, by omega, rfl⟩ (by omega)
    · rintro m _ _ I1 hB1 ⟨y1, y2, y3, y4, y5, y6, y7, rfl, rfl, hb, hm⟩
      refine And.intro (by omega) (And.intro ?_ ?_)
      · intro c13
        exact fcutJ (I := I1) (j := jc_Desk_bestLots_84d7e_92) (lv' := [(0, .inr (.inr (some 211))), (1, .inl _), (2, .inl _), (3, .inl _), (4, .inl _), (5, .inl _)]) (And.intro rfl (And.intro rfl (And.intro rfl (And.intro rfl (And.intro rfl (And.intro rfl True.intro)))))) ⟨_, _, _, _, _, rfl, rfl, by omega, rfl⟩ (by omega)
      · intro c14
        refine And.intro (by omega) (And.intro ?_ ?_)
        · intro c15
          exact fcutJ (I := I1) (j := jc_Desk_bestLots_84d7e_92) (lv' := [(0, .inr (.inr (some 211))), (1, .inl _), (2, .inl _), (3, .inl _), (4, .inl _), (5, .inl _)]) (And.intro rfl (And.intro rfl (And.intro rfl (And.intro rfl (And.intro rfl (And.intro rfl True.intro)))))) ⟨_, _, _, _, _, rfl, rfl, by omega, rfl⟩ (by omega)
        · intro c16
          exact fcutJ (I := I1) (j := jc_Desk_bestLots_84d7e_92) (lv' := [(0, .inr (.inr (some 211))), (1, .inl _), (2, .inl _), (3, .inl _), (4, .inl _), (5, .inl _)]) (And.intro rfl (And.intro rfl (And.intro rfl (And.intro rfl (And.intro rfl (And.intro rfl True.intro)))))) ⟨_, _, _, _, _, rfl, rfl, by omega, rfl⟩ (by omega)
    · rintro m _ _ I1 hB1 ⟨y1, y2, y3, y4, y5, y6, y7, rfl, rfl, hb, hm⟩
      refine And.intro (by omega) (And.intro ?_ ?_)
      · intro c17
        exact fcutJ (I := I1) (j := jc_Desk_bestLots_84d7e_92) (lv' := [(0, .inr (.inr (some 211))), (1, .inl _), (2, .inl _), (3, .inl _), (4, .inl _), (5, .inl _)]) (And.intro rfl (And.intro rfl (And.intro rfl (And.intro rfl (And.intro rfl (And.intro rfl True.intro)))))) ⟨_, _, _, _, _, rfl, rfl, by omega, rfl⟩ (by omega)
      · intro c18
        refine And.intro (by omega) (And.intro ?_ ?_)
        · intro c19
          exact fcutJ (I := I1) (j := jc_Desk_bestLots_84d7e_92) (lv' := [(0, .inr (.inr (some 211))), (1, .inl _), (2, .inl _), (3, .inl _), (4, .inl _), (5, .inl _)]) (And.intro rfl (And.intro rfl (And.intro rfl (And.intro rfl (And.intro rfl (And.intro rfl True.intro)))))) ⟨_, _, _, _, _, rfl, rfl, by omega, rfl⟩ (by omega)
        · intro c20
          exact fcutJ (I := I1) (j := jc_Desk_bestLots_84d7e_92) (lv' := [(0, .inr (.inr (some 211))), (1, .inl _), (2, .inl _), (3, .inl _), (4, .inl _), (5, .inl _)]) (And.intro rfl (And.intro rfl (And.intro rfl (And.intro rfl (And.intro rfl (And.intro rfl True.intro)))))) ⟨_, _, _, _, _, rfl, rfl, by omega, rfl⟩ (by omega)
    · rintro m _ _ I1 hB1 ⟨y1, y2, y3, y4, y5, rfl, rfl, hb, hm⟩
      exact fcutJ (I := I1) (j := jc_Desk_bestLots_84d7e_10) (lv' := [(0, .inr (.inr (some 211))), (1, .inl _), (2, .inl _), (3, .inl _), (4, .inl _), (5, .inl _)]) (And.intro rfl (And.intro rfl (And.intro rfl (And.intro rfl (And.intro rfl (And.intro rfl True.intro)))))) ⟨_, _, _, _, _, rfl, rfl, by omega, rfl⟩ (by omega)
  · have hB0 := fB_self (zn := znJ) (K := fKc []) h0
    exact fcutJ (I := I) (j := jc_Desk_bestLots_84d7e_10) (lv' := [(0, .inr (.inr (some 211))), (1, .inl _), (2, .inl _), (3, .inl _), (4, .inl _), (5, .inl _)]) (And.intro rfl (And.intro rfl (And.intro rfl (And.intro rfl (And.intro rfl (And.intro rfl True.intro)))))) ⟨_, _, _, _, _, rfl, rfl, by omega, rfl⟩ (by omega)
set_option maxRecDepth 8000 in
theorem ct_X_cargo_17ae9 {I : fH} {x1 : Int} (h0 : fB bsJ I) (ha1 : ((-2147483648) ≤ x1 ∧ x1 ≤ 2147483647)) : fC ρ base n F xTc vwCl xTys D dA la gJ (fbz bsJ znJ (fKc []) I) xm_200 [.inr (.inr (some 0)), .inl x1] I (fun _ r => ∃ z, r = some (.inl z) ∧ ((0 ≤ z ∧ z ≤ 2147483647) ∨ z = (-1000000001))) := by
  have hW : fzs [] (fKc []) := fKc_ok _
  refine f_meth (rb := rbJ) (J := []) 1 400 xG xin_200 x6_200 okJ (fB_self h0) ?_ ?_
  · exact fun q h => absurd h List.not_mem_nil
  · have hB0 := fB_self (zn := znJ) (K := fKc []) h0
    refine Exists.intro xm_13 (And.intro mi_13 (And.intro ⟨rfl, rfl, rfl, rfl⟩ (And.intro True.intro ?_)))
    refine fcallp hB0 (ct_X_within_c27b1 (fBz h0 hB0) (by omega) (by omega) (by omega)) ?_
    rintro _ ⟨z1, rfl, hz1⟩
    refine And.intro (by omega) (And.intro ?_ ?_)
    · intro c2
      refine And.intro (True.intro) ?_
      exact ⟨_, rfl, by omega⟩
    · intro c3
      refine And.intro ⟨rfl, by decide, by decide⟩ ?_
      refine Exists.intro xm_201 (And.intro mi_201 (And.intro ⟨rfl, rfl, rfl, rfl⟩ (And.intro rfl ?_)))
      refine fcallp hB0 (ct_Desk_bestLots_84d7e (fBz h0 hB0) (by omega)) ?_
      rintro _ ⟨z4, rfl, hz4⟩
      refine And.intro (True.intro) ?_
      exact ⟨_, rfl, by omega⟩
abbrev jc_M_cargo_a46a8_25 : Nat → fL → List fV → fH → Prop := fun m lv st I => ∃ (y1 : Int) (y2 : Int) (y3 : Int) (y4 : Int) (y5 : Int), lv = [(0, .inr (.inr (some 740))), (1, .inl y1), (2, .inl y2), (3, .inl y3), (4, .inl y4), (5, .inl y5)] ∧ st = [] ∧ (((0 ≤ y1 ∧ y1 ≤ 99999) ∧ (0 ≤ y2 ∧ y2 ≤ 2147483647) ∧ (0 ≤ y3 ∧ y3 ≤ 2147483647) ∧ ((-2147483648) ≤ y4 ∧ y4 ≤ 99999) ∧ (1 ≤ y5 ∧ y5 ≤ 2147483647))) ∧ m = (12 + 12 * (2147483647 - y5) : Int).toNat
abbrev jc_M_cargo_a46a8_48 : Nat → fL → List fV → fH → Prop := fun m lv st I => ∃ (y1 : Int) (y2 : Int) (y3 : Int) (y4 : Int) (y5 : Int) (y6 : Int) (y7 : Int) (y8 : Int), lv = [(0, .inr (.inr (some 740))), (1, .inl y1), (2, .inl y2), (3, .inl y3), (4, .inl y4), (5, .inl y5), (6, .inl y6), (7, .inl y7), (8, .inl y8)] ∧ st = [] ∧ (((0 ≤ y1 ∧ y1 ≤ 99999) ∧ (0 ≤ y2 ∧ y2 ≤ 2147483647) ∧ (0 ≤ y3 ∧ y3 ≤ 2147483647) ∧ ((-2147483648) ≤ y4 ∧ y4 ≤ 99999) ∧ (1 ≤ y5 ∧ y5 ≤ 2147483646) ∧ ((-2147483648) ≤ y6 ∧ y6 ≤ 2147483647) ∧ ((-2147483648) ≤ y7 ∧ y7 ≤ 2147483647) ∧ (0 ≤ y8 ∧ y8 ≤ 10))) ∧ m = (1 + 12 * (2147483647 - y5) + 1 * (10 - y8) : Int).toNat
set_option maxRecDepth 8000 in
theorem ct_M_cargo_a46a8 {I : fH} {x1 : Int} (h0 : fB bsJ I) (ha1 : ((-2147483648) ≤ x1 ∧ x1 ≤ 2147483647)) : fC ρ base n F xTc vwCl xTys D dA la gJ (fbz bsJ znJ (fKc []) I) xm_474 [.inr (.inr (some 740)), .inl x1] I (fun _ r => ∃ z, r = some (.inl z) ∧ ((0 ≤ z ∧ z ≤ 2147483647) ∨ z = (-1000000001))) := by
  have hW : fzs [] (fKc []) := fKc_ok _
  refine f_meth (rb := rbJ) (J := [(25, jc_M_cargo_a46a8_25), (48, jc_M_cargo_a46a8_48)]) 25769803765 400 xG xin_474 x6_474 okJ (fB_self h0) ?_ ?_
  · refine List.forall_mem_cons.mpr ⟨?_, List.forall_mem_cons.mpr ⟨?_, fun q h => absurd h List.not_mem_nil⟩⟩
    · rintro m _ _ I1 hB1 ⟨y1, y2, y3, y4, y5, rfl, rfl, hb, hm⟩
      refine And.intro ⟨rfl, by decide, by decide⟩ ?_
      refine fload rL_741_741_11_11_1_0 h0 hB1 (by omega) ?_
      intro z1 lz1 uz1 qz1
      have pz1 := fld_at qz1 11 (by omega)
      intro z2 hz2 ez2
      refine And.intro (by omega) (And.intro ?_ ?_)
      · intro c3
        refine And.intro (True.intro) ?_
        exact ⟨_, rfl, by omega⟩
      · intro c4
        exact fcutJ (I := I1) (j := jc_M_cargo_a46a8_48) (lv' := [(0, .inr (.inr (some 740))), (1, .inl _), (2, .inl _), (3, .inl _), (4, .inl _), (5, .inl _), (6, .inl _), (7, .inl _), (8, .inl _)]) (And.intro rfl (And.intro rfl (And.intro rfl (And.intro rfl (And.intro rfl (And.intro rfl (And.intro rfl (And.intro rfl (And.intro rfl True.intro))))))))) ⟨_, _, _, _, _, _, _, _, rfl, rfl, by omega, rfl⟩ (by omega)
    · rintro m _ _ I1 hB1 ⟨y1, y2, y3, y4, y5, y6, y7, y8, rfl, rfl, hb, hm⟩
      refine And.intro ⟨rfl, by decide, by decide⟩ ?_
      refine fload rL_741_741_11_11_1_0 h0 hB1 (by omega) ?_
      intro z5 lz5 uz5 qz5
      have pz5 := fld_at qz5 11 (by omega)
      refine And.intro (by omega) (And.intro ?_ ?_)
      · intro c6
        refine And.intro (by omega) (And.intro ?_ ?_)
        · intro c7
          intro z8 hz8 bz8
          have bz8 := bz8 (by omega)
          exact fcutJ (I := I1) (j := jc_M_cargo_a46a8_25) (lv' := [(0, .inr (.inr (some 740))), (1, .inl _), (2, .inl _), (3, .inl _), (4, .inl _), (5, .inl _)]) (And.intro rfl (And.intro rfl (And.intro rfl (And.intro rfl (And.intro rfl (And.intro rfl True.intro)))))) ⟨_, _, _, _, _, rfl, rfl, by omega, rfl⟩ (by omega)
        · intro c9
          refine And.intro (by omega) (And.intro ?_ ?_)
          · intro c10
            intro z11 hz11 bz11
            have bz11 := bz11 (by omega)
            exact fcutJ (I := I1) (j := jc_M_cargo_a46a8_25) (lv' := [(0, .inr (.inr (some 740))), (1, .inl _), (2, .inl _), (3, .inl _), (4, .inl _), (5, .inl _)]) (And.intro rfl (And.intro rfl (And.intro rfl (And.intro rfl (And.intro rfl (And.intro rfl True.intro)))))) ⟨_, _, _, _, _, rfl, rfl, by omega, rfl⟩ (by omega)
          · intro c12
            refine And.intro (by omega) (And.intro ?_ ?_)
            · intro c13
              intro z14 hz14 bz14
              have bz14 := bz14 (by omega)
              exact fcutJ (I := I1) (j := jc_M_cargo_a46a8_25) (lv' := [(0, .inr (.inr (some 740))), (1, .inl _), (2, .inl _), (3, .inl _), (4, .inl _), (5, .inl _)]) (And.intro rfl (And.intro rfl (And.intro rfl (And.intro rfl (And.intro rfl (And.intro rfl True.intro)))))) ⟨_, _, _, _, _, rfl, rfl, by omega, rfl⟩ (by omega)
            · intro c15
              refine And.intro (by omega) (And.intro ?_ ?_)
              · intro c16
                intro z17 hz17 bz17
                have bz17 := bz17 (by omega)
                exact fcutJ (I := I1) (j := jc_M_cargo_a46a8_25) (lv' := [(0, .inr (.inr (some 740))), (1, .inl _), (2, .inl _), (3, .inl _), (4, .inl _), (5, .inl _)]) (And.intro rfl (And.intro rfl (And.intro rfl (And.intro rfl (And.intro rfl (And.intro rfl True.intro)))))) ⟨_, _, _, _, _, rfl, rfl, by omega, rfl⟩ (by omega)
              · intro c18
                intro z19 hz19 bz19
                have bz19 := bz19 (by omega)
                exact fcutJ (I := I1) (j := jc_M_cargo_a46a8_25) (lv' := [(0, .inr (.inr (some 740))), (1, .inl _), (2, .inl _), (3, .inl _), (4, .inl _), (5, .inl _)]) (And.intro rfl (And.intro rfl (And.intro rfl (And.intro rfl (And.intro rfl (And.intro rfl True.intro)))))) ⟨_, _, _, _, _, rfl, rfl, by omega, rfl⟩ (by omega)
      · intro c20
        intro z21 hz21 ez21
        intro z22 hz22 ez22 bz22
        clear ez22
        have bz22 := bz22 (by omega)
        refine And.intro ⟨rfl, by decide, by decide⟩ ?_
        refine fload rL_741_741_4350_4368_2_0 h0 hB1 (by omega) ?_
        intro z23 lz23 uz23 qz23
        intro z24 hz24 ez24 bz24
        clear ez24
        clear bz24
        intro z25 hz25 ez25 bz25
        clear ez25
        clear bz25
        intro z26 hz26 ez26
        intro z27 hz27 ez27 bz27
        clear ez27
        have bz27 := bz27 (by omega)
        refine And.intro ⟨rfl, by decide, by decide⟩ ?_
        refine fload rL_741_741_4351_4369_2_0 h0 hB1 (by omega) ?_
        intro z28 lz28 uz28 qz28
        intro z29 hz29 ez29 bz29
        clear ez29
        clear bz29
        intro z30 hz30 ez30 bz30
        clear ez30
        clear bz30
        exact fcutJ (I := I1) (j := jc_M_cargo_a46a8_48) (lv' := [(0, .inr (.inr (some 740))), (1, .inl _), (2, .inl _), (3, .inl _), (4, .inl _), (5, .inl _), (6, .inl _), (7, .inl _), (8, .inl _)]) (And.intro rfl (And.intro rfl (And.intro rfl (And.intro rfl (And.intro rfl (And.intro rfl (And.intro rfl (And.intro rfl (And.intro rfl True.intro))))))))) ⟨_, _, _, _, _, _, _, _, rfl, rfl, by omega, rfl⟩ (by omega)
  · have hB0 := fB_self (zn := znJ) (K := fKc []) h0
    refine And.intro (by omega) ?_
    refine Exists.intro xm_238 (And.intro mi_238 (And.intro ⟨rfl, rfl, rfl, rfl⟩ (And.intro True.intro ?_)))
    refine fcallp hB0 (ct_M_isIn_27230 (fBz h0 hB0) (by omega) (by omega) (by omega)) ?_
    rintro _ ⟨z31, rfl, hz31⟩
    refine And.intro (by omega) (And.intro ?_ ?_)
    · intro c32
      exact fcutJ (I := I) (j := jc_M_cargo_a46a8_25) (lv' := [(0, .inr (.inr (some 740))), (1, .inl _), (2, .inl _), (3, .inl _), (4, .inl _), (5, .inl _)]) (And.intro rfl (And.intro rfl (And.intro rfl (And.intro rfl (And.intro rfl (And.intro rfl True.intro)))))) ⟨_, _, _, _, _, rfl, rfl, by omega, rfl⟩ (by omega)
    · intro c33
      refine And.intro (True.intro) ?_
      exact ⟨_, rfl, by omega⟩
set_option maxRecDepth 8000 in
theorem ct_Desk_addBuild_36cf1 {I : fH} {x1 : Int} {x2 : Int} {x3 : Int} (h0 : fB bsJ I) (ha1 : (1 ≤ x1 ∧ x1 ≤ 9)) (ha2 : (1 ≤ x2 ∧ x2 ≤ 99)) (ha3 : (0 ≤ x3 ∧ x3 ≤ 127)) : fC ρ base n F xTc vwCl xTys D dA la gJ (fbz bsJ znJ (fKc wz_84712) I) xm_204 [.inr (.inr (some 211)), .inl x1, .inl x2, .inl x3] I (fun _ r => ∃ z, r = some (.inl z) ∧ ((0 ≤ z ∧ z ≤ 6) ∨ z = (-1000000003))) := by
  have hW : fzs wz_84712 (fKc wz_84712) := fKc_ok _
  refine f_meth (rb := rbJ) (J := []) 1 400 xG xin_204 x6_204 okJ (fB_self h0) ?_ ?_
  · exact fun q h => absurd h List.not_mem_nil
  · have hB0 := fB_self (zn := znJ) (K := fKc wz_84712) h0
    refine And.intro ⟨rfl, by decide, by decide⟩ (fgetf fb_211_15 h0 hB0 ?_)
    intro z1 lz1 uz1 qz1
    refine And.intro (by omega) (And.intro ?_ ?_)
    · intro c2
      refine And.intro ⟨rfl, by decide, by decide⟩ ?_
      refine fstore rS_254_254_0_6_1_0 (fzs_sub (by decide +kernel) hW) (by omega) (by omega) ?_
      intro IhB3 ehB3 hB3
      have t4 := fup_self ehB3
      have t5 : IhB3 211 15 = I 211 15 := (congrFun (congrFun ehB3 211) 15).trans (fup_ne (by omega))
      refine And.intro ⟨rfl, by decide, by decide⟩ ?_
      refine fstore rS_255_255_0_6_1_0 (fzs_sub (by decide +kernel) hW) (by omega) (by omega) ?_
      intro IhB6 ehB6 hB6
      have t7 := fup_self ehB6
      have t8 : IhB6 211 15 = IhB3 211 15 := (congrFun (congrFun ehB6 211) 15).trans (fup_ne (by omega))
      refine And.intro ⟨rfl, by decide, by decide⟩ ?_
      refine fstore rS_256_256_0_6_1_0 (fzs_sub (by decide +kernel) hW) (by omega) (by omega) ?_
      intro IhB9 ehB9 hB9
      have t10 := fup_self ehB9
      have t11 : IhB9 211 15 = IhB6 211 15 := (congrFun (congrFun ehB9 211) 15).trans (fup_ne (by omega))
      refine And.intro ⟨rfl, by decide, by decide⟩ (And.intro rfl (And.intro (Or.inl rfl) (fputf fb_211_15 (by decide +kernel) hW (by omega) ?_)))
      intro IhB12 ehB12 hB12
      have t13 := fup_at ehB12 15 (by omega)
      refine And.intro (True.intro) ?_
      exact ⟨_, rfl, by omega⟩
    · intro c14
      refine And.intro (True.intro) ?_
      exact ⟨_, rfl, by omega⟩
set_option maxRecDepth 8000 in
theorem ct_X_build_aad8f {I : fH} {x1 : Int} {x2 : Int} {x3 : Int} (h0 : fB bsJ I) (ha1 : ((-2147483648) ≤ x1 ∧ x1 ≤ 2147483647)) (ha2 : ((-2147483648) ≤ x2 ∧ x2 ≤ 2147483647)) (ha3 : ((-2147483648) ≤ x3 ∧ x3 ≤ 2147483647)) : fC ρ base n F xTc vwCl xTys D dA la gJ (fbz bsJ znJ (fKc wz_84712) I) xm_203 [.inr (.inr (some 0)), .inl x1, .inl x2, .inl x3] I (fun _ r => ∃ z, r = some (.inl z) ∧ ((0 ≤ z ∧ z ≤ 6) ∨ z = (-1000000003) ∨ z = (-1000000001))) := by
  have hW : fzs wz_84712 (fKc wz_84712) := fKc_ok _
  refine f_meth (rb := rbJ) (J := []) 1 400 xG xin_203 x6_203 okJ (fB_self h0) ?_ ?_
  · exact fun q h => absurd h List.not_mem_nil
  · have hB0 := fB_self (zn := znJ) (K := fKc wz_84712) h0
    refine Exists.intro xm_13 (And.intro mi_13 (And.intro ⟨rfl, rfl, rfl, rfl⟩ (And.intro True.intro ?_)))
    refine fcallp hB0 (ct_X_within_c27b1 (fBz h0 hB0) (by omega) (by omega) (by omega)) ?_
    rintro _ ⟨z1, rfl, hz1⟩
    refine And.intro (by omega) (And.intro ?_ ?_)
    · intro c2
      refine And.intro (True.intro) ?_
      exact ⟨_, rfl, by omega⟩
    · intro c3
      refine Exists.intro xm_13 (And.intro mi_13 (And.intro ⟨rfl, rfl, rfl, rfl⟩ (And.intro True.intro ?_)))
      refine fcallp hB0 (ct_X_within_c27b1 (fBz h0 hB0) (by omega) (by omega) (by omega)) ?_
      rintro _ ⟨z4, rfl, hz4⟩
      refine And.intro (by omega) (And.intro ?_ ?_)
      · intro c5
        refine And.intro (True.intro) ?_
        exact ⟨_, rfl, by omega⟩
      · intro c6
        refine Exists.intro xm_13 (And.intro mi_13 (And.intro ⟨rfl, rfl, rfl, rfl⟩ (And.intro True.intro ?_)))
        refine fcallp hB0 (ct_X_within_c27b1 (fBz h0 hB0) (by omega) (by omega) (by omega)) ?_
        rintro _ ⟨z7, rfl, hz7⟩
        refine And.intro (by omega) (And.intro ?_ ?_)
        · intro c8
          refine And.intro ⟨rfl, by decide, by decide⟩ ?_
          refine Exists.intro xm_204 (And.intro mi_204 (And.intro ⟨rfl, rfl, rfl, rfl⟩ (And.intro rfl ?_)))
          refine fcall _ h0 (fzs_sub (by decide +kernel) hW) hB0 (ct_Desk_addBuild_36cf1 (fBz h0 hB0) (by omega) (by omega) (by omega)) ?_
          rintro IhB10 _ hB10 fhB10 ⟨z9, rfl, hz9⟩
          refine And.intro (True.intro) ?_
          exact ⟨_, rfl, by omega⟩
        · intro c11
          refine And.intro (True.intro) ?_
          exact ⟨_, rfl, by omega⟩
set_option maxRecDepth 8000 in
theorem ct_M_build_09a60 {I : fH} {x1 : Int} {x2 : Int} {x3 : Int} (h0 : fB bsJ I) (ha1 : ((-2147483648) ≤ x1 ∧ x1 ≤ 2147483647)) (ha2 : ((-2147483648) ≤ x2 ∧ x2 ≤ 2147483647)) (ha3 : ((-2147483648) ≤ x3 ∧ x3 ≤ 2147483647)) : fC ρ base n F xTc vwCl xTys D dA la gJ (fbz bsJ znJ (fKc wz_526cb) I) xm_475 [.inr (.inr (some 740)), .inl x1, .inl x2, .inl x3] I (fun _ r => ∃ z, r = some (.inl z) ∧ ((0 ≤ z ∧ z ≤ 6) ∨ z = (-1000000003) ∨ z = (-1000000001))) := by
  have hW : fzs wz_526cb (fKc wz_526cb) := fKc_ok _
  refine f_meth (rb := rbJ) (J := []) 1 400 xG xin_475 x6_475 okJ (fB_self h0) ?_ ?_
  · exact fun q h => absurd h List.not_mem_nil
  · have hB0 := fB_self (zn := znJ) (K := fKc wz_526cb) h0
    refine And.intro (by omega) ?_
    refine Exists.intro xm_238 (And.intro mi_238 (And.intro ⟨rfl, rfl, rfl, rfl⟩ (And.intro True.intro ?_)))
    refine fcallp hB0 (ct_M_isIn_27230 (fBz h0 hB0) (by omega) (by omega) (by omega)) ?_
    rintro _ ⟨z1, rfl, hz1⟩
    refine And.intro (by omega) (And.intro ?_ ?_)
    · intro c2
      refine And.intro (True.intro) ?_
      exact ⟨_, rfl, by omega⟩
    · intro c3
      refine And.intro (by omega) ?_
      refine Exists.intro xm_238 (And.intro mi_238 (And.intro ⟨rfl, rfl, rfl, rfl⟩ (And.intro True.intro ?_)))
      refine fcallp hB0 (ct_M_isIn_27230 (fBz h0 hB0) (by omega) (by omega) (by omega)) ?_
      rintro _ ⟨z4, rfl, hz4⟩
      refine And.intro (by omega) (And.intro ?_ ?_)
      · intro c5
        refine And.intro (True.intro) ?_
        exact ⟨_, rfl, by omega⟩
      · intro c6
        refine And.intro (by omega) ?_
        refine Exists.intro xm_238 (And.intro mi_238 (And.intro ⟨rfl, rfl, rfl, rfl⟩ (And.intro True.intro ?_)))
        refine fcallp hB0 (ct_M_isIn_27230 (fBz h0 hB0) (by omega) (by omega) (by omega)) ?_
        rintro _ ⟨z7, rfl, hz7⟩
        refine And.intro (by omega) (And.intro ?_ ?_)
        · intro c8
          refine And.intro ⟨rfl, by decide, by decide⟩ ?_
          refine fload rL_741_741_12_12_1_0 h0 hB0 (by omega) ?_
          intro z9 lz9 uz9 qz9
          have pz9 := fld_at qz9 12 (by omega)
          refine And.intro (by omega) (And.intro ?_ ?_)
          · intro c10
            refine And.intro ⟨rfl, by decide, by decide⟩ ?_
            refine fload rL_741_741_12_12_1_0 h0 hB0 (by omega) ?_
            intro z11 lz11 uz11 qz11
            have pz11 := fld_at qz11 12 (by omega)
            refine And.intro ⟨rfl, by decide, by decide⟩ ?_
            refine fstore rS_741_741_4370_4388_3_0 (fzs_sub (by decide +kernel) hW) (by omega) (by omega) ?_
            intro IhB12 ehB12 hB12
            have t13 := fup_self ehB12
            have t14 : IhB12 741 12 = I 741 12 := (congrFun (congrFun ehB12 741) 12).trans (fup_ne (by omega))
            refine And.intro ⟨rfl, by decide, by decide⟩ ?_
            refine fstore rS_741_741_4371_4389_3_0 (fzs_sub (by decide +kernel) hW) (by omega) (by omega) ?_
            intro IhB15 ehB15 hB15
            have t16 := fup_self ehB15
            have t17 : IhB15 741 12 = IhB12 741 12 := (congrFun (congrFun ehB15 741) 12).trans (fup_ne (by omega))
            refine And.intro ⟨rfl, by decide, by decide⟩ ?_
            refine fstore rS_741_741_4372_4390_3_0 (fzs_sub (by decide +kernel) hW) (by omega) (by omega) ?_
            intro IhB18 ehB18 hB18
            have t19 := fup_self ehB18
            have t20 : IhB18 741 12 = IhB15 741 12 := (congrFun (congrFun ehB18 741) 12).trans (fup_ne (by omega))
            refine And.intro ⟨rfl, by decide, by decide⟩ ?_
            refine fload rL_741_741_12_12_1_0 h0 hB18 (by omega) ?_
            intro z21 lz21 uz21 qz21
            have pz21 := fld_at qz21 12 (by omega)
            refine fstore rS_741_741_12_12_1_0 (fzs_sub (by decide +kernel) hW) (by omega) (by omega) ?_
            intro IhB22 ehB22 hB22
            have t23 := fup_self ehB22
            have t24 := fup_at ehB22 12 (by omega)
            refine And.intro ⟨rfl, by decide, by decide⟩ ?_
            refine fload rL_741_741_12_12_1_0 h0 hB22 (by omega) ?_
            intro z25 lz25 uz25 qz25
            have pz25 := fld_at qz25 12 (by omega)
            refine And.intro (True.intro) ?_
            exact ⟨_, rfl, by omega⟩
          · intro c26
            refine And.intro (True.intro) ?_
            exact ⟨_, rfl, by omega⟩
        · intro c27
          refine And.intro (True.intro) ?_
          exact ⟨_, rfl, by omega⟩
set_option maxRecDepth 8000 in
theorem ct_Order_take_e8cff {I : fH} {x1 : Int} (h0 : fB bsJ I) (ha1 : ((-2147483648) ≤ x1 ∧ x1 ≤ 2147483647)) : fC ρ base n F xTc vwCl xTys D dA la gJ (fbz bsJ znJ (fKc wz_c325e) I) xm_215 [.inr (.inr (some 735)), .inl x1] I (fun _ r => r = none) := by
  have hW : fzs wz_c325e (fKc wz_c325e) := fKc_ok _
  refine f_meth (rb := rbJ) (J := []) 1 400 xG xin_215 x6_215 okJ (fB_self h0) ?_ ?_
  · exact fun q h => absurd h List.not_mem_nil
  · have hB0 := fB_self (zn := znJ) (K := fKc wz_c325e) h0
    refine And.intro ⟨rfl, by decide, by decide⟩ (fgetf fb_735_4 h0 hB0 ?_)
    intro z1 lz1 uz1 qz1
    refine And.intro (by omega) (And.intro ?_ ?_)
    · intro c2
      refine And.intro ⟨rfl, by decide, by decide⟩ (And.intro rfl (And.intro (Or.inl rfl) (fputf fb_735_4 (by decide +kernel) hW (by omega) ?_)))
      intro IhB3 ehB3 hB3
      have t4 := fup_at ehB3 4 (by omega)
      refine And.intro ⟨rfl, by decide, by decide⟩ ?_
      refine And.intro ⟨rfl, by decide, by decide⟩ ?_
      refine Exists.intro xm_75 (And.intro mi_75 (And.intro ⟨rfl, rfl, rfl, rfl⟩ (And.intro True.intro ?_)))
      refine fcall _ h0 (fzs_sub (by decide +kernel) hW) hB3 (ct_copyRow (W := [736]) (len := 7) (fBz h0 hB3) (frC_of (by decide +kernel))) ?_
      rintro IhB5 _ hB5 fhB5 ⟨rfl, ehB5⟩
      have t6 := fhB5 735 4 (by decide +kernel)
      exact rfl
    · intro c7
      refine And.intro ⟨rfl, by decide, by decide⟩ (fgetf fb_735_4 h0 hB0 ?_)
      intro z8 lz8 uz8 qz8
      refine And.intro (by omega) (And.intro ?_ ?_)
      · intro c9
        exact rfl
      · intro c10
        refine And.intro ⟨rfl, by decide, by decide⟩ (And.intro rfl (And.intro (Or.inl rfl) (fputf fb_735_4 (by decide +kernel) hW (by omega) ?_)))
        intro IhB11 ehB11 hB11
        have t12 := fup_at ehB11 4 (by omega)
        refine And.intro ⟨rfl, by decide, by decide⟩ ?_
        refine And.intro ⟨rfl, by decide, by decide⟩ ?_
        refine Exists.intro xm_75 (And.intro mi_75 (And.intro ⟨rfl, rfl, rfl, rfl⟩ (And.intro True.intro ?_)))
        refine fcall _ h0 (fzs_sub (by decide +kernel) hW) hB11 (ct_copyRow (W := [736]) (len := 7) (fBz h0 hB11) (frC_of (by decide +kernel))) ?_
        rintro IhB13 _ hB13 fhB13 ⟨rfl, ehB13⟩
        have t14 := fhB13 735 4 (by decide +kernel)
        exact rfl
set_option maxRecDepth 8000 in
theorem ct_Order_goOn_992d9 {I : fH} {x2 : Int} {x3 : Int} {x4 : Int} {x5 : Int} (h0 : fB bsJ I) (ha2 : (7 ≤ x2 ∧ x2 ≤ 7)) (ha3 : ((-2147483648) ≤ x3 ∧ x3 ≤ 2147483647)) (ha4 : ((-2147483648) ≤ x4 ∧ x4 ≤ 2147483647)) (ha5 : ((-2147483648) ≤ x5 ∧ x5 ≤ 2147483647)) : fC ρ base n F xTc vwCl xTys D dA la gJ (fbz bsJ znJ (fKc wz_c325e) I) xm_207 [.inr (.inr (some 735)), .inr (.inr (some 211)), .inl x2, .inl x3, .inl x4, .inl x5] I (fun _ r => r = none) := by
  have hW : fzs wz_c325e (fKc wz_c325e) := fKc_ok _
  refine f_meth (rb := rbJ) (J := []) 1 400 xG xin_207 x6_207 okJ (fB_self h0) ?_ ?_
  · exact fun q h => absurd h List.not_mem_nil
  · have hB0 := fB_self (zn := znJ) (K := fKc wz_c325e) h0
    refine And.intro ⟨rfl, by decide, by decide⟩ (fgetf fb_211_15 h0 hB0 ?_)
    intro z1 lz1 uz1 qz1
    refine And.intro (by omega) (And.intro ?_ ?_)
    · intro c2
      refine Exists.intro xm_215 (And.intro mi_215 (And.intro ⟨rfl, rfl, rfl, rfl⟩ (And.intro rfl ?_)))
      refine fcall _ h0 (fzs_sub (by decide +kernel) hW) hB0 (ct_Order_take_e8cff (fBz h0 hB0) (by omega)) ?_
      rintro IhB4 _ hB4 fhB4 rfl
      have t5 := fhB4 211 15 (by decide +kernel)
      exact rfl
    · intro c6
      exfalso
      omega
abbrev jc_Order_goOn_0ff97_24 : Nat → fL → List fV → fH → Prop := fun m lv st I => ∃ (y2 : Int) (y3 : Int) (y4 : Int) (y5 : Int) (y6 : Int), lv = [(0, .inr (.inr (some 735))), (1, .inr (.inr (some 211))), (2, .inl y2), (3, .inl y3), (4, .inl y4), (5, .inl y5), (6, .inl y6)] ∧ st = [] ∧ (((6 ≤ y2 ∧ y2 ≤ 6) ∧ ((-2147483648) ≤ y3 ∧ y3 ≤ 2147483647) ∧ ((-2147483648) ≤ y4 ∧ y4 ≤ 2147483647) ∧ ((-2147483648) ≤ y5 ∧ y5 ≤ 2147483647) ∧ (0 ≤ y6 ∧ y6 ≤ 7) ∧ (7 ≤ I 211 15 ∧ I 211 15 ≤ 7))) ∧ m = (1 + 1 * (7 - y6) : Int).toNat
set_option maxRecDepth 8000 in
theorem ct_Order_goOn_0ff97 {I : fH} {x2 : Int} {x3 : Int} {x4 : Int} {x5 : Int} (h0 : fB bsJ I) (ha2 : (6 ≤ x2 ∧ x2 ≤ 6)) (ha3 : ((-2147483648) ≤ x3 ∧ x3 ≤ 2147483647)) (ha4 : ((-2147483648) ≤ x4 ∧ x4 ≤ 2147483647)) (ha5 : ((-2147483648) ≤ x5 ∧ x5 ≤ 2147483647)) : fC ρ base n F xTc vwCl xTys D dA la gJ (fbz bsJ znJ (fKc wz_7628e) I) xm_208 [.inr (.inr (some 735)), .inr (.inr (some 211)), .inl x2, .inl x3, .inl x4, .inl x5] I (fun _ r => r = none) := by
  have hW : fzs wz_7628e (fKc wz_7628e) := fKc_ok _
  refine f_meth (rb := rbJ) (J := [(24, jc_Order_goOn_0ff97_24)]) 9 400 xG xin_208 x6_208 okJ (fB_self h0) ?_ ?_
  · refine List.forall_mem_cons.mpr ⟨?_, fun q h => absurd h List.not_mem_nil⟩
    · rintro m _ _ I1 hB1 ⟨y2, y3, y4, y5, y6, rfl, rfl, hb, hm⟩
      refine And.intro ⟨rfl, by decide, by decide⟩ (fgetf fb_211_15 h0 hB1 ?_)
      intro z1 lz1 uz1 qz1
      refine And.intro (by omega) (And.intro ?_ ?_)
      · intro c2
        exact rfl
      · intro c3
        refine And.intro ⟨rfl, by decide, by decide⟩ (fgetf fb_735_3 h0 hB1 ?_)
        intro z4 lz4 uz4 qz4
        refine And.intro (by omega) (And.intro ?_ ?_)
        · intro c5
          exact rfl
        · intro c6
          intro z7 hz7 ez7
          intro z8 hz8 ez8 bz8
          clear ez8
          have bz8 := bz8 (by omega)
          refine And.intro (by omega) (And.intro ?_ ?_)
          · intro c9
            exact fcutJ (I := I1) (j := jc_Order_goOn_0ff97_24) (lv' := [(0, .inr (.inr (some 735))), (1, .inr (.inr (some 211))), (2, .inl _), (3, .inl _), (4, .inl _), (5, .inl _), (6, .inl _)]) (And.intro rfl (And.intro rfl (And.intro rfl (And.intro rfl (And.intro rfl (And.intro rfl (And.intro rfl True.intro))))))) ⟨_, _, _, _, _, rfl, rfl, by omega, rfl⟩ (by omega)
          · intro c10
            refine And.intro ⟨rfl, by decide, by decide⟩ ?_
            refine fload rL_256_256_0_6_1_0 h0 hB1 (by omega) ?_
            intro z11 lz11 uz11 qz11
            intro z12 hz12 ez12
            intro z13 hz13 ez13 bz13
            clear ez13
            clear bz13
            refine And.intro (by omega) (And.intro ?_ ?_)
            · intro c14
              exact fcutJ (I := I1) (j := jc_Order_goOn_0ff97_24) (lv' := [(0, .inr (.inr (some 735))), (1, .inr (.inr (some 211))), (2, .inl _), (3, .inl _), (4, .inl _), (5, .inl _), (6, .inl _)]) (And.intro rfl (And.intro rfl (And.intro rfl (And.intro rfl (And.intro rfl (And.intro rfl (And.intro rfl True.intro))))))) ⟨_, _, _, _, _, rfl, rfl, by omega, rfl⟩ (by omega)
            · intro c15
              refine And.intro ⟨rfl, by decide, by decide⟩ (fgetf fb_735_3 h0 hB1 ?_)
              intro z16 lz16 uz16 qz16
              refine And.intro ⟨rfl, by decide, by decide⟩ (And.intro rfl (And.intro (Or.inl rfl) (fputf fb_735_3 (by decide +kernel) hW (by omega) ?_)))
              intro IhB17 ehB17 hB17
              have t18 : IhB17 211 15 = I1 211 15 := (congrFun (congrFun ehB17 211) 15).trans (fup_ne (by omega))
              have t19 := fup_at ehB17 3 (by omega)
              refine And.intro ⟨rfl, by decide, by decide⟩ ?_
              refine fstore rS_737_737_0_6_1_0 (fzs_sub (by decide +kernel) hW) (by omega) (by omega) ?_
              intro IhB20 ehB20 hB20
              have t21 := fup_self ehB20
              have t22 : IhB20 211 15 = IhB17 211 15 := (congrFun (congrFun ehB20 211) 15).trans (fup_ne (by omega))
              have t23 : IhB20 735 3 = IhB17 735 3 := (congrFun (congrFun ehB20 735) 3).trans (fup_ne (by omega))
              have t24 := fup_at ehB20 6 (by omega)
              refine And.intro ⟨rfl, by decide, by decide⟩ ?_
              refine fload rL_254_254_0_6_1_0 h0 hB20 (by omega) ?_
              intro z25 lz25 uz25 qz25
              intro z26 hz26 ez26 bz26
              clear ez26
              clear bz26
              refine And.intro ⟨rfl, by decide, by decide⟩ ?_
              refine fload rL_255_255_0_6_1_0 h0 hB20 (by omega) ?_
              intro z27 lz27 uz27 qz27
              refine And.intro ⟨rfl, by decide, by decide⟩ (fgetf fb_735_2 h0 hB20 ?_)
              intro z28 lz28 uz28 qz28
              intro z29 hz29 ez29 bz29
              clear ez29
              clear bz29
              refine And.intro (And.intro (by omega) (And.intro (by omega) rfl)) ?_
              intro z30 hz30
              intro z31 hz31 ez31 bz31
              clear ez31
              clear bz31
              refine And.intro ⟨rfl, by decide, by decide⟩ (fgetf fb_735_3 h0 hB20 ?_)
              intro z32 lz32 uz32 qz32
              refine And.intro (by omega) (And.intro ?_ ?_)
              · intro c33
                exact fcutJ (I := IhB20) (j := jc_Order_goOn_0ff97_24) (lv' := [(0, .inr (.inr (some 735))), (1, .inr (.inr (some 211))), (2, .inl _), (3, .inl _), (4, .inl _), (5, .inl _), (6, .inl _)]) (And.intro rfl (And.intro rfl (And.intro rfl (And.intro rfl (And.intro rfl (And.intro rfl (And.intro rfl True.intro))))))) ⟨_, _, _, _, _, rfl, rfl, by omega, rfl⟩ (by omega)
              · intro c34
                intro z35 hz35 ez35
                intro z36 hz36 ez36
                intro z37 hz37 ez37 bz37
                clear ez37
                clear bz37
                refine Exists.intro xm_207 (And.intro mi_207 (And.intro ⟨rfl, rfl, rfl, rfl⟩ (And.intro rfl ?_)))
                refine fcall _ h0 (fzs_sub (by decide +kernel) hW) hB20 (ct_Order_goOn_992d9 (fBz h0 hB20) (by omega) (by omega) (by omega) (by omega)) ?_
                rintro IhB39 _ hB39 fhB39 rfl
                have t40 := fhB39 211 15 (by decide +kernel)
                have t41 := fhB39 735 3 (by decide +kernel)
                exact fcutJ (I := IhB39) (j := jc_Order_goOn_0ff97_24) (lv' := [(0, .inr (.inr (some 735))), (1, .inr (.inr (some 211))), (2, .inl _), (3, .inl _), (4, .inl _), (5, .inl _), (6, .inl _)]) (And.intro rfl (And.intro rfl (And.intro rfl (And.intro rfl (And.intro rfl (And.intro rfl (And.intro rfl True.intro))))))) ⟨_, _, _, _, _, rfl, rfl, by omega, rfl⟩ (by omega)
  · have hB0 := fB_self (zn := znJ) (K := fKc wz_7628e) h0
    refine And.intro ⟨rfl, by decide, by decide⟩ (fgetf fb_211_15 h0 hB0 ?_)
    intro z42 lz42 uz42 qz42
    refine And.intro (by omega) (And.intro ?_ ?_)
    · intro c43
      refine Exists.intro xm_215 (And.intro mi_215 (And.intro ⟨rfl, rfl, rfl, rfl⟩ (And.intro rfl ?_)))
      refine fcall _ h0 (fzs_sub (by decide +kernel) hW) hB0 (ct_Order_take_e8cff (fBz h0 hB0) (by omega)) ?_
      rintro IhB45 _ hB45 fhB45 rfl
      have t46 := fhB45 211 15 (by decide +kernel)
      exact rfl
    · intro c47
      refine And.intro (by omega) (And.intro ?_ ?_)
      · intro c48
        exact fcutJ (I := I) (j := jc_Order_goOn_0ff97_24) (lv' := [(0, .inr (.inr (some 735))), (1, .inr (.inr (some 211))), (2, .inl _), (3, .inl _), (4, .inl _), (5, .inl _), (6, .inl _)]) (And.intro rfl (And.intro rfl (And.intro rfl (And.intro rfl (And.intro rfl (And.intro rfl (And.intro rfl True.intro))))))) ⟨_, _, _, _, _, rfl, rfl, by omega, rfl⟩ (by omega)
      · intro c49
        refine Exists.intro xm_215 (And.intro mi_215 (And.intro ⟨rfl, rfl, rfl, rfl⟩ (And.intro rfl ?_)))
        refine fcall _ h0 (fzs_sub (by decide +kernel) hW) hB0 (ct_Order_take_e8cff (fBz h0 hB0) (by omega)) ?_
        rintro IhB51 _ hB51 fhB51 rfl
        have t52 := fhB51 211 15 (by decide +kernel)
        exact rfl
abbrev jc_Order_goOn_341c6_24 : Nat → fL → List fV → fH → Prop := fun m lv st I => ∃ (y2 : Int) (y3 : Int) (y4 : Int) (y5 : Int) (y6 : Int), lv = [(0, .inr (.inr (some 735))), (1, .inr (.inr (some 211))), (2, .inl y2), (3, .inl y3), (4, .inl y4), (5, .inl y5), (6, .inl y6)] ∧ st = [] ∧ (((5 ≤ y2 ∧ y2 ≤ 5) ∧ ((-2147483648) ≤ y3 ∧ y3 ≤ 2147483647) ∧ ((-2147483648) ≤ y4 ∧ y4 ≤ 2147483647) ∧ ((-2147483648) ≤ y5 ∧ y5 ≤ 2147483647) ∧ (0 ≤ y6 ∧ y6 ≤ 7) ∧ (6 ≤ I 211 15 ∧ I 211 15 ≤ 7))) ∧ m = (1 + 1 * (7 - y6) : Int).toNat
set_option maxRecDepth 8000 in
theorem ct_Order_goOn_341c6 {I : fH} {x2 : Int} {x3 : Int} {x4 : Int} {x5 : Int} (h0 : fB bsJ I) (ha2 : (5 ≤ x2 ∧ x2 ≤ 5)) (ha3 : ((-2147483648) ≤ x3 ∧ x3 ≤ 2147483647)) (ha4 : ((-2147483648) ≤ x4 ∧ x4 ≤ 2147483647)) (ha5 : ((-2147483648) ≤ x5 ∧ x5 ≤ 2147483647)) : fC ρ base n F xTc vwCl xTys D dA la gJ (fbz bsJ znJ (fKc wz_7628e) I) xm_209 [.inr (.inr (some 735)), .inr (.inr (some 211)), .inl x2, .inl x3, .inl x4, .inl x5] I (fun _ r => r = none) := by
  have hW : fzs wz_7628e (fKc wz_7628e) := fKc_ok _
  refine f_meth (rb := rbJ) (J := [(24, jc_Order_goOn_341c6_24)]) 9 400 xG xin_209 x6_209 okJ (fB_self h0) ?_ ?_
  · refine List.forall_mem_cons.mpr ⟨?_, fun q h => absurd h List.not_mem_nil⟩
    · rintro m _ _ I1 hB1 ⟨y2, y3, y4, y5, y6, rfl, rfl, hb, hm⟩
      refine And.intro ⟨rfl, by decide, by decide⟩ (fgetf fb_211_15 h0 hB1 ?_)
      intro z1 lz1 uz1 qz1
      refine And.intro (by omega) (And.intro ?_ ?_)
      · intro c2
        exact rfl
      · intro c3
        refine And.intro ⟨rfl, by decide, by decide⟩ (fgetf fb_735_3 h0 hB1 ?_)
        intro z4 lz4 uz4 qz4
        refine And.intro (by omega) (And.intro ?_ ?_)
        · intro c5
          exact rfl
        · intro c6
          intro z7 hz7 ez7
          intro z8 hz8 ez8 bz8
          clear ez8
          have bz8 := bz8 (by omega)
          refine And.intro (by omega) (And.intro ?_ ?_)
          · intro c9
            exact fcutJ (I := I1) (j := jc_Order_goOn_341c6_24) (lv' := [(0, .inr (.inr (some 735))), (1, .inr (.inr (some 211))), (2, .inl _), (3, .inl _), (4, .inl _), (5, .inl _), (6, .inl _)]) (And.intro rfl (And.intro rfl (And.intro rfl (And.intro rfl (And.intro rfl (And.intro rfl (And.intro rfl True.intro))))))) ⟨_, _, _, _, _, rfl, rfl, by omega, rfl⟩ (by omega)
          · intro c10
            refine And.intro ⟨rfl, by decide, by decide⟩ ?_
            refine fload rL_256_256_0_6_1_0 h0 hB1 (by omega) ?_
            intro z11 lz11 uz11 qz11
            intro z12 hz12 ez12
            intro z13 hz13 ez13 bz13
            clear ez13
            clear bz13
            refine And.intro (by omega) (And.intro ?_ ?_)
            · intro c14
              exact fcutJ (I := I1) (j := jc_Order_goOn_341c6_24) (lv' := [(0, .inr (.inr (some 735))), (1, .inr (.inr (some 211))), (2, .inl _), (3, .inl _), (4, .inl _), (5, .inl _), (6, .inl _)]) (And.intro rfl (And.intro rfl (And.intro rfl (And.intro rfl (And.intro rfl (And.intro rfl (And.intro rfl True.intro))))))) ⟨_, _, _, _, _, rfl, rfl, by omega, rfl⟩ (by omega)
            · intro c15
              refine And.intro ⟨rfl, by decide, by decide⟩ (fgetf fb_735_3 h0 hB1 ?_)
              intro z16 lz16 uz16 qz16
              refine And.intro ⟨rfl, by decide, by decide⟩ (And.intro rfl (And.intro (Or.inl rfl) (fputf fb_735_3 (by decide +kernel) hW (by omega) ?_)))
              intro IhB17 ehB17 hB17
              have t18 : IhB17 211 15 = I1 211 15 := (congrFun (congrFun ehB17 211) 15).trans (fup_ne (by omega))
              have t19 := fup_at ehB17 3 (by omega)
              refine And.intro ⟨rfl, by decide, by decide⟩ ?_
              refine fstore rS_737_737_0_6_1_0 (fzs_sub (by decide +kernel) hW) (by omega) (by omega) ?_
              intro IhB20 ehB20 hB20
              have t21 := fup_self ehB20
              have t22 : IhB20 211 15 = IhB17 211 15 := (congrFun (congrFun ehB20 211) 15).trans (fup_ne (by omega))
              have t23 : IhB20 735 3 = IhB17 735 3 := (congrFun (congrFun ehB20 735) 3).trans (fup_ne (by omega))
              have t24 := fup_at ehB20 5 (by omega)
              refine And.intro ⟨rfl, by decide, by decide⟩ ?_
              refine fload rL_254_254_0_6_1_0 h0 hB20 (by omega) ?_
              intro z25 lz25 uz25 qz25
              intro z26 hz26 ez26 bz26
              clear ez26
              clear bz26
              refine And.intro ⟨rfl, by decide, by decide⟩ ?_
              refine fload rL_255_255_0_6_1_0 h0 hB20 (by omega) ?_
              intro z27 lz27 uz27 qz27
              refine And.intro ⟨rfl, by decide, by decide⟩ (fgetf fb_735_2 h0 hB20 ?_)
              intro z28 lz28 uz28 qz28
              intro z29 hz29 ez29 bz29
              clear ez29
              clear bz29
              refine And.intro (And.intro (by omega) (And.intro (by omega) rfl)) ?_
              intro z30 hz30
              intro z31 hz31 ez31 bz31
              clear ez31
              clear bz31
              refine And.intro ⟨rfl, by decide, by decide⟩ (fgetf fb_735_3 h0 hB20 ?_)
              intro z32 lz32 uz32 qz32
              refine And.intro (by omega) (And.intro ?_ ?_)
              · intro c33
                exact fcutJ (I := IhB20) (j := jc_Order_goOn_341c6_24) (lv' := [(0, .inr (.inr (some 735))), (1, .inr (.inr (some 211))), (2, .inl _), (3, .inl _), (4, .inl _), (5, .inl _), (6, .inl _)]) (And.intro rfl (And.intro rfl (And.intro rfl (And.intro rfl (And.intro rfl (And.intro rfl (And.intro rfl True.intro))))))) ⟨_, _, _, _, _, rfl, rfl, by omega, rfl⟩ (by omega)
              · intro c34
                intro z35 hz35 ez35
                intro z36 hz36 ez36
                intro z37 hz37 ez37 bz37
                clear ez37
                clear bz37
                refine Exists.intro xm_208 (And.intro mi_208 (And.intro ⟨rfl, rfl, rfl, rfl⟩ (And.intro rfl ?_)))
                refine fcall _ h0 (fzs_sub (by decide +kernel) hW) hB20 (ct_Order_goOn_0ff97 (fBz h0 hB20) (by omega) (by omega) (by omega) (by omega)) ?_
                rintro IhB39 _ hB39 fhB39 rfl
                have t40 := fhB39 211 15 (by decide +kernel)
                exact fcutJ (I := IhB39) (j := jc_Order_goOn_341c6_24) (lv' := [(0, .inr (.inr (some 735))), (1, .inr (.inr (some 211))), (2, .inl _), (3, .inl _), (4, .inl _), (5, .inl _), (6, .inl _)]) (And.intro rfl (And.intro rfl (And.intro rfl (And.intro rfl (And.intro rfl (And.intro rfl (And.intro rfl True.intro))))))) ⟨_, _, _, _, _, rfl, rfl, by omega, rfl⟩ (by omega)
  · have hB0 := fB_self (zn := znJ) (K := fKc wz_7628e) h0
    refine And.intro ⟨rfl, by decide, by decide⟩ (fgetf fb_211_15 h0 hB0 ?_)
    intro z41 lz41 uz41 qz41
    refine And.intro (by omega) (And.intro ?_ ?_)
    · intro c42
      refine Exists.intro xm_215 (And.intro mi_215 (And.intro ⟨rfl, rfl, rfl, rfl⟩ (And.intro rfl ?_)))
      refine fcall _ h0 (fzs_sub (by decide +kernel) hW) hB0 (ct_Order_take_e8cff (fBz h0 hB0) (by omega)) ?_
      rintro IhB44 _ hB44 fhB44 rfl
      have t45 := fhB44 211 15 (by decide +kernel)
      exact rfl
    · intro c46
      refine And.intro (by omega) (And.intro ?_ ?_)
      · intro c47
        exact fcutJ (I := I) (j := jc_Order_goOn_341c6_24) (lv' := [(0, .inr (.inr (some 735))), (1, .inr (.inr (some 211))), (2, .inl _), (3, .inl _), (4, .inl _), (5, .inl _), (6, .inl _)]) (And.intro rfl (And.intro rfl (And.intro rfl (And.intro rfl (And.intro rfl (And.intro rfl (And.intro rfl True.intro))))))) ⟨_, _, _, _, _, rfl, rfl, by omega, rfl⟩ (by omega)
      · intro c48
        refine Exists.intro xm_215 (And.intro mi_215 (And.intro ⟨rfl, rfl, rfl, rfl⟩ (And.intro rfl ?_)))
        refine fcall _ h0 (fzs_sub (by decide +kernel) hW) hB0 (ct_Order_take_e8cff (fBz h0 hB0) (by omega)) ?_
        rintro IhB50 _ hB50 fhB50 rfl
        have t51 := fhB50 211 15 (by decide +kernel)
        exact rfl
abbrev jc_Order_goOn_2e9e0_24 : Nat → fL → List fV → fH → Prop := fun m lv st I => ∃ (y2 : Int) (y3 : Int) (y4 : Int) (y5 : Int) (y6 : Int), lv = [(0, .inr (.inr (some 735))), (1, .inr (.inr (some 211))), (2, .inl y2), (3, .inl y3), (4, .inl y4), (5, .inl y5), (6, .inl y6)] ∧ st = [] ∧ (((4 ≤ y2 ∧ y2 ≤ 4) ∧ ((-2147483648) ≤ y3 ∧ y3 ≤ 2147483647) ∧ ((-2147483648) ≤ y4 ∧ y4 ≤ 2147483647) ∧ ((-2147483648) ≤ y5 ∧ y5 ≤ 2147483647) ∧ (0 ≤ y6 ∧ y6 ≤ 7) ∧ (5 ≤ I 211 15 ∧ I 211 15 ≤ 7))) ∧ m = (1 + 1 * (7 - y6) : Int).toNat
set_option maxRecDepth 8000 in
theorem ct_Order_goOn_2e9e0 {I : fH} {x2 : Int} {x3 : Int} {x4 : Int} {x5 : Int} (h0 : fB bsJ I) (ha2 : (4 ≤ x2 ∧ x2 ≤ 4)) (ha3 : ((-2147483648) ≤ x3 ∧ x3 ≤ 2147483647)) (ha4 : ((-2147483648) ≤ x4 ∧ x4 ≤ 2147483647)) (ha5 : ((-2147483648) ≤ x5 ∧ x5 ≤ 2147483647)) : fC ρ base n F xTc vwCl xTys D dA la gJ (fbz bsJ znJ (fKc wz_7628e) I) xm_210 [.inr (.inr (some 735)), .inr (.inr (some 211)), .inl x2, .inl x3, .inl x4, .inl x5] I (fun _ r => r = none) := by
  have hW : fzs wz_7628e (fKc wz_7628e) := fKc_ok _
  refine f_meth (rb := rbJ) (J := [(24, jc_Order_goOn_2e9e0_24)]) 9 400 xG xin_210 x6_210 okJ (fB_self h0) ?_ ?_
  · refine List.forall_mem_cons.mpr ⟨?_, fun q h => absurd h List.not_mem_nil⟩
    · rintro m _ _ I1 hB1 ⟨y2, y3, y4, y5, y6, rfl, rfl, hb, hm⟩
      refine And.intro ⟨rfl, by decide, by decide⟩ (fgetf fb_211_15 h0 hB1 ?_)
      intro z1 lz1 uz1 qz1
      refine And.intro (by omega) (And.intro ?_ ?_)
      · intro c2
        exact rfl
      · intro c3
        refine And.intro ⟨rfl, by decide, by decide⟩ (fgetf fb_735_3 h0 hB1 ?_)
        intro z4 lz4 uz4 qz4
        refine And.intro (by omega) (And.intro ?_ ?_)
        · intro c5
          exact rfl
        · intro c6
          intro z7 hz7 ez7
          intro z8 hz8 ez8 bz8
          clear ez8
          have bz8 := bz8 (by omega)
          refine And.intro (by omega) (And.intro ?_ ?_)
          · intro c9
            exact fcutJ (I := I1) (j := jc_Order_goOn_2e9e0_24) (lv' := [(0, .inr (.inr (some 735))), (1, .inr (.inr (some 211))), (2, .inl _), (3, .inl _), (4, .inl _), (5, .inl _), (6, .inl _)]) (And.intro rfl (And.intro rfl (And.intro rfl (And.intro rfl (And.intro rfl (And.intro rfl (And.intro rfl True.intro))))))) ⟨_, _, _, _, _, rfl, rfl, by omega, rfl⟩ (by omega)
          · intro c10
            refine And.intro ⟨rfl, by decide, by decide⟩ ?_
            refine fload rL_256_256_0_6_1_0 h0 hB1 (by omega) ?_
            intro z11 lz11 uz11 qz11
            intro z12 hz12 ez12
            intro z13 hz13 ez13 bz13
            clear ez13
            clear bz13
            refine And.intro (by omega) (And.intro ?_ ?_)
            · intro c14
              exact fcutJ (I := I1) (j := jc_Order_goOn_2e9e0_24) (lv' := [(0, .inr (.inr (some 735))), (1, .inr (.inr (some 211))), (2, .inl _), (3, .inl _), (4, .inl _), (5, .inl _), (6, .inl _)]) (And.intro rfl (And.intro rfl (And.intro rfl (And.intro rfl (And.intro rfl (And.intro rfl (And.intro rfl True.intro))))))) ⟨_, _, _, _, _, rfl, rfl, by omega, rfl⟩ (by omega)
            · intro c15
              refine And.intro ⟨rfl, by decide, by decide⟩ (fgetf fb_735_3 h0 hB1 ?_)
              intro z16 lz16 uz16 qz16
              refine And.intro ⟨rfl, by decide, by decide⟩ (And.intro rfl (And.intro (Or.inl rfl) (fputf fb_735_3 (by decide +kernel) hW (by omega) ?_)))
              intro IhB17 ehB17 hB17
              have t18 : IhB17 211 15 = I1 211 15 := (congrFun (congrFun ehB17 211) 15).trans (fup_ne (by omega))
              have t19 := fup_at ehB17 3 (by omega)
              refine And.intro ⟨rfl, by decide, by decide⟩ ?_
              refine fstore rS_737_737_0_6_1_0 (fzs_sub (by decide +kernel) hW) (by omega) (by omega) ?_
              intro IhB20 ehB20 hB20
              have t21 := fup_self ehB20
              have t22 : IhB20 211 15 = IhB17 211 15 := (congrFun (congrFun ehB20 211) 15).trans (fup_ne (by omega))
              have t23 : IhB20 735 3 = IhB17 735 3 := (congrFun (congrFun ehB20 735) 3).trans (fup_ne (by omega))
              have t24 := fup_at ehB20 4 (by omega)
              refine And.intro ⟨rfl, by decide, by decide⟩ ?_
              refine fload rL_254_254_0_6_1_0 h0 hB20 (by omega) ?_
              intro z25 lz25 uz25 qz25
              intro z26 hz26 ez26 bz26
              clear ez26
              clear bz26
              refine And.intro ⟨rfl, by decide, by decide⟩ ?_
              refine fload rL_255_255_0_6_1_0 h0 hB20 (by omega) ?_
              intro z27 lz27 uz27 qz27
              refine And.intro ⟨rfl, by decide, by decide⟩ (fgetf fb_735_2 h0 hB20 ?_)
              intro z28 lz28 uz28 qz28
              intro z29 hz29 ez29 bz29
              clear ez29
              clear bz29
              refine And.intro (And.intro (by omega) (And.intro (by omega) rfl)) ?_
              intro z30 hz30
              intro z31 hz31 ez31 bz31
              clear ez31
              clear bz31
              refine And.intro ⟨rfl, by decide, by decide⟩ (fgetf fb_735_3 h0 hB20 ?_)
              intro z32 lz32 uz32 qz32
              refine And.intro (by omega) (And.intro ?_ ?_)
              · intro c33
                exact fcutJ (I := IhB20) (j := jc_Order_goOn_2e9e0_24) (lv' := [(0, .inr (.inr (some 735))), (1, .inr (.inr (some 211))), (2, .inl _), (3, .inl _), (4, .inl _), (5, .inl _), (6, .inl _)]) (And.intro rfl (And.intro rfl (And.intro rfl (And.intro rfl (And.intro rfl (And.intro rfl (And.intro rfl True.intro))))))) ⟨_, _, _, _, _, rfl, rfl, by omega, rfl⟩ (by omega)
              · intro c34
                intro z35 hz35 ez35
                intro z36 hz36 ez36
                intro z37 hz37 ez37 bz37
                clear ez37
                clear bz37
                refine Exists.intro xm_209 (And.intro mi_209 (And.intro ⟨rfl, rfl, rfl, rfl⟩ (And.intro rfl ?_)))
                refine fcall _ h0 (fzs_sub (by decide +kernel) hW) hB20 (ct_Order_goOn_341c6 (fBz h0 hB20) (by omega) (by omega) (by omega) (by omega)) ?_
                rintro IhB39 _ hB39 fhB39 rfl
                have t40 := fhB39 211 15 (by decide +kernel)
                exact fcutJ (I := IhB39) (j := jc_Order_goOn_2e9e0_24) (lv' := [(0, .inr (.inr (some 735))), (1, .inr (.inr (some 211))), (2, .inl _), (3, .inl _), (4, .inl _), (5, .inl _), (6, .inl _)]) (And.intro rfl (And.intro rfl (And.intro rfl (And.intro rfl (And.intro rfl (And.intro rfl (And.intro rfl True.intro))))))) ⟨_, _, _, _, _, rfl, rfl, by omega, rfl⟩ (by omega)
  · have hB0 := fB_self (zn := znJ) (K := fKc wz_7628e) h0
    refine And.intro ⟨rfl, by decide, by decide⟩ (fgetf fb_211_15 h0 hB0 ?_)
    intro z41 lz41 uz41 qz41
    refine And.intro (by omega) (And.intro ?_ ?_)
    · intro c42
      refine Exists.intro xm_215 (And.intro mi_215 (And.intro ⟨rfl, rfl, rfl, rfl⟩ (And.intro rfl ?_)))
      refine fcall _ h0 (fzs_sub (by decide +kernel) hW) hB0 (ct_Order_take_e8cff (fBz h0 hB0) (by omega)) ?_
      rintro IhB44 _ hB44 fhB44 rfl
      have t45 := fhB44 211 15 (by decide +kernel)
      exact rfl
    · intro c46
      refine And.intro (by omega) (And.intro ?_ ?_)
      · intro c47
        exact fcutJ (I := I) (j := jc_Order_goOn_2e9e0_24) (lv' := [(0, .inr (.inr (some 735))), (1, .inr (.inr (some 211))), (2, .inl _), (3, .inl _), (4, .inl _), (5, .inl _), (6, .inl _)]) (And.intro rfl (And.intro rfl (And.intro rfl (And.intro rfl (And.intro rfl (And.intro rfl (And.intro rfl True.intro))))))) ⟨_, _, _, _, _, rfl, rfl, by omega, rfl⟩ (by omega)
      · intro c48
        refine Exists.intro xm_215 (And.intro mi_215 (And.intro ⟨rfl, rfl, rfl, rfl⟩ (And.intro rfl ?_)))
        refine fcall _ h0 (fzs_sub (by decide +kernel) hW) hB0 (ct_Order_take_e8cff (fBz h0 hB0) (by omega)) ?_
        rintro IhB50 _ hB50 fhB50 rfl
        have t51 := fhB50 211 15 (by decide +kernel)
        exact rfl
abbrev jc_Order_goOn_6df0d_24 : Nat → fL → List fV → fH → Prop := fun m lv st I => ∃ (y2 : Int) (y3 : Int) (y4 : Int) (y5 : Int) (y6 : Int), lv = [(0, .inr (.inr (some 735))), (1, .inr (.inr (some 211))), (2, .inl y2), (3, .inl y3), (4, .inl y4), (5, .inl y5), (6, .inl y6)] ∧ st = [] ∧ (((3 ≤ y2 ∧ y2 ≤ 3) ∧ ((-2147483648) ≤ y3 ∧ y3 ≤ 2147483647) ∧ ((-2147483648) ≤ y4 ∧ y4 ≤ 2147483647) ∧ ((-2147483648) ≤ y5 ∧ y5 ≤ 2147483647) ∧ (0 ≤ y6 ∧ y6 ≤ 7) ∧ (4 ≤ I 211 15 ∧ I 211 15 ≤ 7))) ∧ m = (1 + 1 * (7 - y6) : Int).toNat
set_option maxRecDepth 8000 in
theorem ct_Order_goOn_6df0d {I : fH} {x2 : Int} {x3 : Int} {x4 : Int} {x5 : Int} (h0 : fB bsJ I) (ha2 : (3 ≤ x2 ∧ x2 ≤ 3)) (ha3 : ((-2147483648) ≤ x3 ∧ x3 ≤ 2147483647)) (ha4 : ((-2147483648) ≤ x4 ∧ x4 ≤ 2147483647)) (ha5 : ((-2147483648) ≤ x5 ∧ x5 ≤ 2147483647)) : fC ρ base n F xTc vwCl xTys D dA la gJ (fbz bsJ znJ (fKc wz_7628e) I) xm_211 [.inr (.inr (some 735)), .inr (.inr (some 211)), .inl x2, .inl x3, .inl x4, .inl x5] I (fun _ r => r = none) := by
  have hW : fzs wz_7628e (fKc wz_7628e) := fKc_ok _
  refine f_meth (rb := rbJ) (J := [(24, jc_Order_goOn_6df0d_24)]) 9 400 xG xin_211 x6_211 okJ (fB_self h0) ?_ ?_
  · refine List.forall_mem_cons.mpr ⟨?_, fun q h => absurd h List.not_mem_nil⟩
    · rintro m _ _ I1 hB1 ⟨y2, y3, y4, y5, y6, rfl, rfl, hb, hm⟩
      refine And.intro ⟨rfl, by decide, by decide⟩ (fgetf fb_211_15 h0 hB1 ?_)
      intro z1 lz1 uz1 qz1
      refine And.intro (by omega) (And.intro ?_ ?_)
      · intro c2
        exact rfl
      · intro c3
        refine And.intro ⟨rfl, by decide, by decide⟩ (fgetf fb_735_3 h0 hB1 ?_)
        intro z4 lz4 uz4 qz4
        refine And.intro (by omega) (And.intro ?_ ?_)
        · intro c5
          exact rfl
        · intro c6
          intro z7 hz7 ez7
          intro z8 hz8 ez8 bz8
          clear ez8
          have bz8 := bz8 (by omega)
          refine And.intro (by omega) (And.intro ?_ ?_)
          · intro c9
            exact fcutJ (I := I1) (j := jc_Order_goOn_6df0d_24) (lv' := [(0, .inr (.inr (some 735))), (1, .inr (.inr (some 211))), (2, .inl _), (3, .inl _), (4, .inl _), (5, .inl _), (6, .inl _)]) (And.intro rfl (And.intro rfl (And.intro rfl (And.intro rfl (And.intro rfl (And.intro rfl (And.intro rfl True.intro))))))) ⟨_, _, _, _, _, rfl, rfl, by omega, rfl⟩ (by omega)
          · intro c10
            refine And.intro ⟨rfl, by decide, by decide⟩ ?_
            refine fload rL_256_256_0_6_1_0 h0 hB1 (by omega) ?_
            intro z11 lz11 uz11 qz11
            intro z12 hz12 ez12
            intro z13 hz13 ez13 bz13
            clear ez13
            clear bz13
            refine And.intro (by omega) (And.intro ?_ ?_)
            · intro c14
              exact fcutJ (I := I1) (j := jc_Order_goOn_6df0d_24) (lv' := [(0, .inr (.inr (some 735))), (1, .inr (.inr (some 211))), (2, .inl _), (3, .inl _), (4, .inl _), (5, .inl _), (6, .inl _)]) (And.intro rfl (And.intro rfl (And.intro rfl (And.intro rfl (And.intro rfl (And.intro rfl (And.intro rfl True.intro))))))) ⟨_, _, _, _, _, rfl, rfl, by omega, rfl⟩ (by omega)
            · intro c15
              refine And.intro ⟨rfl, by decide, by decide⟩ (fgetf fb_735_3 h0 hB1 ?_)
              intro z16 lz16 uz16 qz16
              refine And.intro ⟨rfl, by decide, by decide⟩ (And.intro rfl (And.intro (Or.inl rfl) (fputf fb_735_3 (by decide +kernel) hW (by omega) ?_)))
              intro IhB17 ehB17 hB17
              have t18 : IhB17 211 15 = I1 211 15 := (congrFun (congrFun ehB17 211) 15).trans (fup_ne (by omega))
              have t19 := fup_at ehB17 3 (by omega)
              refine And.intro ⟨rfl, by decide, by decide⟩ ?_
              refine fstore rS_737_737_0_6_1_0 (fzs_sub (by decide +kernel) hW) (by omega) (by omega) ?_
              intro IhB20 ehB20 hB20
              have t21 := fup_self ehB20
              have t22 : IhB20 211 15 = IhB17 211 15 := (congrFun (congrFun ehB20 211) 15).trans (fup_ne (by omega))
              have t23 : IhB20 735 3 = IhB17 735 3 := (congrFun (congrFun ehB20 735) 3).trans (fup_ne (by omega))
              have t24 := fup_at ehB20 3 (by omega)
              refine And.intro ⟨rfl, by decide, by decide⟩ ?_
              refine fload rL_254_254_0_6_1_0 h0 hB20 (by omega) ?_
              intro z25 lz25 uz25 qz25
              intro z26 hz26 ez26 bz26
              clear ez26
              clear bz26
              refine And.intro ⟨rfl, by decide, by decide⟩ ?_
              refine fload rL_255_255_0_6_1_0 h0 hB20 (by omega) ?_
              intro z27 lz27 uz27 qz27
              refine And.intro ⟨rfl, by decide, by decide⟩ (fgetf fb_735_2 h0 hB20 ?_)
              intro z28 lz28 uz28 qz28
              intro z29 hz29 ez29 bz29
              clear ez29
              clear bz29
              refine And.intro (And.intro (by omega) (And.intro (by omega) rfl)) ?_
              intro z30 hz30
              intro z31 hz31 ez31 bz31
              clear ez31
              clear bz31
              refine And.intro ⟨rfl, by decide, by decide⟩ (fgetf fb_735_3 h0 hB20 ?_)
              intro z32 lz32 uz32 qz32
              refine And.intro (by omega) (And.intro ?_ ?_)
              · intro c33
                exact fcutJ (I := IhB20) (j := jc_Order_goOn_6df0d_24) (lv' := [(0, .inr (.inr (some 735))), (1, .inr (.inr (some 211))), (2, .inl _), (3, .inl _), (4, .inl _), (5, .inl _), (6, .inl _)]) (And.intro rfl (And.intro rfl (And.intro rfl (And.intro rfl (And.intro rfl (And.intro rfl (And.intro rfl True.intro))))))) ⟨_, _, _, _, _, rfl, rfl, by omega, rfl⟩ (by omega)
              · intro c34
                intro z35 hz35 ez35
                intro z36 hz36 ez36
                intro z37 hz37 ez37 bz37
                clear ez37
                clear bz37
                refine Exists.intro xm_210 (And.intro mi_210 (And.intro ⟨rfl, rfl, rfl, rfl⟩ (And.intro rfl ?_)))
                refine fcall _ h0 (fzs_sub (by decide +kernel) hW) hB20 (ct_Order_goOn_2e9e0 (fBz h0 hB20) (by omega) (by omega) (by omega) (by omega)) ?_
                rintro IhB39 _ hB39 fhB39 rfl
                have t40 := fhB39 211 15 (by decide +kernel)
                exact fcutJ (I := IhB39) (j := jc_Order_goOn_6df0d_24) (lv' := [(0, .inr (.inr (some 735))), (1, .inr (.inr (some 211))), (2, .inl _), (3, .inl _), (4, .inl _), (5, .inl _), (6, .inl _)]) (And.intro rfl (And.intro rfl (And.intro rfl (And.intro rfl (And.intro rfl (And.intro rfl (And.intro rfl True.intro))))))) ⟨_, _, _, _, _, rfl, rfl, by omega, rfl⟩ (by omega)
  · have hB0 := fB_self (zn := znJ) (K := fKc wz_7628e) h0
    refine And.intro ⟨rfl, by decide, by decide⟩ (fgetf fb_211_15 h0 hB0 ?_)
    intro z41 lz41 uz41 qz41
    refine And.intro (by omega) (And.intro ?_ ?_)
    · intro c42
      refine Exists.intro xm_215 (And.intro mi_215 (And.intro ⟨rfl, rfl, rfl, rfl⟩ (And.intro rfl ?_)))
      refine fcall _ h0 (fzs_sub (by decide +kernel) hW) hB0 (ct_Order_take_e8cff (fBz h0 hB0) (by omega)) ?_
      rintro IhB44 _ hB44 fhB44 rfl
      have t45 := fhB44 211 15 (by decide +kernel)
      exact rfl
    · intro c46
      refine And.intro (by omega) (And.intro ?_ ?_)
      · intro c47
        exact fcutJ (I := I) (j := jc_Order_goOn_6df0d_24) (lv' := [(0, .inr (.inr (some 735))), (1, .inr (.inr (some 211))), (2, .inl _), (3, .inl _), (4, .inl _), (5, .inl _), (6, .inl _)]) (And.intro rfl (And.intro rfl (And.intro rfl (And.intro rfl (And.intro rfl (And.intro rfl (And.intro rfl True.intro))))))) ⟨_, _, _, _, _, rfl, rfl, by omega, rfl⟩ (by omega)
      · intro c48
        refine Exists.intro xm_215 (And.intro mi_215 (And.intro ⟨rfl, rfl, rfl, rfl⟩ (And.intro rfl ?_)))
        refine fcall _ h0 (fzs_sub (by decide +kernel) hW) hB0 (ct_Order_take_e8cff (fBz h0 hB0) (by omega)) ?_
        rintro IhB50 _ hB50 fhB50 rfl
        have t51 := fhB50 211 15 (by decide +kernel)
        exact rfl
abbrev jc_Order_goOn_0f9c9_24 : Nat → fL → List fV → fH → Prop := fun m lv st I => ∃ (y2 : Int) (y3 : Int) (y4 : Int) (y5 : Int) (y6 : Int), lv = [(0, .inr (.inr (some 735))), (1, .inr (.inr (some 211))), (2, .inl y2), (3, .inl y3), (4, .inl y4), (5, .inl y5), (6, .inl y6)] ∧ st = [] ∧ (((2 ≤ y2 ∧ y2 ≤ 2) ∧ ((-2147483648) ≤ y3 ∧ y3 ≤ 2147483647) ∧ ((-2147483648) ≤ y4 ∧ y4 ≤ 2147483647) ∧ ((-2147483648) ≤ y5 ∧ y5 ≤ 2147483647) ∧ (0 ≤ y6 ∧ y6 ≤ 7) ∧ (3 ≤ I 211 15 ∧ I 211 15 ≤ 7))) ∧ m = (1 + 1 * (7 - y6) : Int).toNat
set_option maxRecDepth 8000 in
theorem ct_Order_goOn_0f9c9 {I : fH} {x2 : Int} {x3 : Int} {x4 : Int} {x5 : Int} (h0 : fB bsJ I) (ha2 : (2 ≤ x2 ∧ x2 ≤ 2)) (ha3 : ((-2147483648) ≤ x3 ∧ x3 ≤ 2147483647)) (ha4 : ((-2147483648) ≤ x4 ∧ x4 ≤ 2147483647)) (ha5 : ((-2147483648) ≤ x5 ∧ x5 ≤ 2147483647)) : fC ρ base n F xTc vwCl xTys D dA la gJ (fbz bsJ znJ (fKc wz_7628e) I) xm_212 [.inr (.inr (some 735)), .inr (.inr (some 211)), .inl x2, .inl x3, .inl x4, .inl x5] I (fun _ r => r = none) := by
  have hW : fzs wz_7628e (fKc wz_7628e) := fKc_ok _
  refine f_meth (rb := rbJ) (J := [(24, jc_Order_goOn_0f9c9_24)]) 9 400 xG xin_212 x6_212 okJ (fB_self h0) ?_ ?_
  · refine List.forall_mem_cons.mpr ⟨?_, fun q h => absurd h List.not_mem_nil⟩
    · rintro m _ _ I1 hB1 ⟨y2, y3, y4, y5, y6, rfl, rfl, hb, hm⟩
      refine And.intro ⟨rfl, by decide, by decide⟩ (fgetf fb_211_15 h0 hB1 ?_)
      intro z1 lz1 uz1 qz1
      refine And.intro (by omega) (And.intro ?_ ?_)
      · intro c2
        exact rfl
      · intro c3
        refine And.intro ⟨rfl, by decide, by decide⟩ (fgetf fb_735_3 h0 hB1 ?_)
        intro z4 lz4 uz4 qz4
        refine And.intro (by omega) (And.intro ?_ ?_)
        · intro c5
          exact rfl
        · intro c6
          intro z7 hz7 ez7
          intro z8 hz8 ez8 bz8
          clear ez8
          have bz8 := bz8 (by omega)
          refine And.intro (by omega) (And.intro ?_ ?_)
          · intro c9
            exact fcutJ (I := I1) (j := jc_Order_goOn_0f9c9_24) (lv' := [(0, .inr (.inr (some 735))), (1, .inr (.inr (some 211))), (2, .inl _), (3, .inl _), (4, .inl _), (5, .inl _), (6, .inl _)]) (And.intro rfl (And.intro rfl (And.intro rfl (And.intro rfl (And.intro rfl (And.intro rfl (And.intro rfl True.intro))))))) ⟨_, _, _, _, _, rfl, rfl, by omega, rfl⟩ (by omega)
          · intro c10
            refine And.intro ⟨rfl, by decide, by decide⟩ ?_
            refine fload rL_256_256_0_6_1_0 h0 hB1 (by omega) ?_
            intro z11 lz11 uz11 qz11
            intro z12 hz12 ez12
            intro z13 hz13 ez13 bz13
            clear ez13
            clear bz13
            refine And.intro (by omega) (And.intro ?_ ?_)
            · intro c14
              exact fcutJ (I := I1) (j := jc_Order_goOn_0f9c9_24) (lv' := [(0, .inr (.inr (some 735))), (1, .inr (.inr (some 211))), (2, .inl _), (3, .inl _), (4, .inl _), (5, .inl _), (6, .inl _)]) (And.intro rfl (And.intro rfl (And.intro rfl (And.intro rfl (And.intro rfl (And.intro rfl (And.intro rfl True.intro))))))) ⟨_, _, _, _, _, rfl, rfl, by omega, rfl⟩ (by omega)
            · intro c15
              refine And.intro ⟨rfl, by decide, by decide⟩ (fgetf fb_735_3 h0 hB1 ?_)
              intro z16 lz16 uz16 qz16
              refine And.intro ⟨rfl, by decide, by decide⟩ (And.intro rfl (And.intro (Or.inl rfl) (fputf fb_735_3 (by decide +kernel) hW (by omega) ?_)))
              intro IhB17 ehB17 hB17
              have t18 : IhB17 211 15 = I1 211 15 := (congrFun (congrFun ehB17 211) 15).trans (fup_ne (by omega))
              have t19 := fup_at ehB17 3 (by omega)
              refine And.intro ⟨rfl, by decide, by decide⟩ ?_
              refine fstore rS_737_737_0_6_1_0 (fzs_sub (by decide +kernel) hW) (by omega) (by omega) ?_
              intro IhB20 ehB20 hB20
              have t21 := fup_self ehB20
              have t22 : IhB20 211 15 = IhB17 211 15 := (congrFun (congrFun ehB20 211) 15).trans (fup_ne (by omega))
              have t23 : IhB20 735 3 = IhB17 735 3 := (congrFun (congrFun ehB20 735) 3).trans (fup_ne (by omega))
              have t24 := fup_at ehB20 2 (by omega)
              refine And.intro ⟨rfl, by decide, by decide⟩ ?_
              refine fload rL_254_254_0_6_1_0 h0 hB20 (by omega) ?_
              intro z25 lz25 uz25 qz25
              intro z26 hz26 ez26 bz26
              clear ez26
              clear bz26
              refine And.intro ⟨rfl, by decide, by decide⟩ ?_
              refine fload rL_255_255_0_6_1_0 h0 hB20 (by omega) ?_
              intro z27 lz27 uz27 qz27
              refine And.intro ⟨rfl, by decide, by decide⟩ (fgetf fb_735_2 h0 hB20 ?_)
              intro z28 lz28 uz28 qz28
              intro z29 hz29 ez29 bz29
              clear ez29
              clear bz29
              refine And.intro (And.intro (by omega) (And.intro (by omega) rfl)) ?_
              intro z30 hz30
              intro z31 hz31 ez31 bz31
              clear ez31
              clear bz31
              refine And.intro ⟨rfl, by decide, by decide⟩ (fgetf fb_735_3 h0 hB20 ?_)
              intro z32 lz32 uz32 qz32
              refine And.intro (by omega) (And.intro ?_ ?_)
              · intro c33
                exact fcutJ (I := IhB20) (j := jc_Order_goOn_0f9c9_24) (lv' := [(0, .inr (.inr (some 735))), (1, .inr (.inr (some 211))), (2, .inl _), (3, .inl _), (4, .inl _), (5, .inl _), (6, .inl _)]) (And.intro rfl (And.intro rfl (And.intro rfl (And.intro rfl (And.intro rfl (And.intro rfl (And.intro rfl True.intro))))))) ⟨_, _, _, _, _, rfl, rfl, by omega, rfl⟩ (by omega)
              · intro c34
                intro z35 hz35 ez35
                intro z36 hz36 ez36
                intro z37 hz37 ez37 bz37
                clear ez37
                clear bz37
                refine Exists.intro xm_211 (And.intro mi_211 (And.intro ⟨rfl, rfl, rfl, rfl⟩ (And.intro rfl ?_)))
                refine fcall _ h0 (fzs_sub (by decide +kernel) hW) hB20 (ct_Order_goOn_6df0d (fBz h0 hB20) (by omega) (by omega) (by omega) (by omega)) ?_
                rintro IhB39 _ hB39 fhB39 rfl
                have t40 := fhB39 211 15 (by decide +kernel)
                exact fcutJ (I := IhB39) (j := jc_Order_goOn_0f9c9_24) (lv' := [(0, .inr (.inr (some 735))), (1, .inr (.inr (some 211))), (2, .inl _), (3, .inl _), (4, .inl _), (5, .inl _), (6, .inl _)]) (And.intro rfl (And.intro rfl (And.intro rfl (And.intro rfl (And.intro rfl (And.intro rfl (And.intro rfl True.intro))))))) ⟨_, _, _, _, _, rfl, rfl, by omega, rfl⟩ (by omega)
  · have hB0 := fB_self (zn := znJ) (K := fKc wz_7628e) h0
    refine And.intro ⟨rfl, by decide, by decide⟩ (fgetf fb_211_15 h0 hB0 ?_)
    intro z41 lz41 uz41 qz41
    refine And.intro (by omega) (And.intro ?_ ?_)
    · intro c42
      refine Exists.intro xm_215 (And.intro mi_215 (And.intro ⟨rfl, rfl, rfl, rfl⟩ (And.intro rfl ?_)))
      refine fcall _ h0 (fzs_sub (by decide +kernel) hW) hB0 (ct_Order_take_e8cff (fBz h0 hB0) (by omega)) ?_
      rintro IhB44 _ hB44 fhB44 rfl
      have t45 := fhB44 211 15 (by decide +kernel)
      exact rfl
    · intro c46
      refine And.intro (by omega) (And.intro ?_ ?_)
      · intro c47
        exact fcutJ (I := I) (j := jc_Order_goOn_0f9c9_24) (lv' := [(0, .inr (.inr (some 735))), (1, .inr (.inr (some 211))), (2, .inl _), (3, .inl _), (4, .inl _), (5, .inl _), (6, .inl _)]) (And.intro rfl (And.intro rfl (And.intro rfl (And.intro rfl (And.intro rfl (And.intro rfl (And.intro rfl True.intro))))))) ⟨_, _, _, _, _, rfl, rfl, by omega, rfl⟩ (by omega)
      · intro c48
        refine Exists.intro xm_215 (And.intro mi_215 (And.intro ⟨rfl, rfl, rfl, rfl⟩ (And.intro rfl ?_)))
        refine fcall _ h0 (fzs_sub (by decide +kernel) hW) hB0 (ct_Order_take_e8cff (fBz h0 hB0) (by omega)) ?_
        rintro IhB50 _ hB50 fhB50 rfl
        have t51 := fhB50 211 15 (by decide +kernel)
        exact rfl
abbrev jc_Order_goOn_e7135_24 : Nat → fL → List fV → fH → Prop := fun m lv st I => ∃ (y2 : Int) (y3 : Int) (y4 : Int) (y5 : Int) (y6 : Int), lv = [(0, .inr (.inr (some 735))), (1, .inr (.inr (some 211))), (2, .inl y2), (3, .inl y3), (4, .inl y4), (5, .inl y5), (6, .inl y6)] ∧ st = [] ∧ (((1 ≤ y2 ∧ y2 ≤ 1) ∧ ((-2147483648) ≤ y3 ∧ y3 ≤ 2147483647) ∧ ((-2147483648) ≤ y4 ∧ y4 ≤ 2147483647) ∧ ((-2147483648) ≤ y5 ∧ y5 ≤ 2147483647) ∧ (0 ≤ y6 ∧ y6 ≤ 7) ∧ (2 ≤ I 211 15 ∧ I 211 15 ≤ 7))) ∧ m = (1 + 1 * (7 - y6) : Int).toNat
set_option maxRecDepth 8000 in
theorem ct_Order_goOn_e7135 {I : fH} {x2 : Int} {x3 : Int} {x4 : Int} {x5 : Int} (h0 : fB bsJ I) (ha2 : (1 ≤ x2 ∧ x2 ≤ 1)) (ha3 : ((-2147483648) ≤ x3 ∧ x3 ≤ 2147483647)) (ha4 : ((-2147483648) ≤ x4 ∧ x4 ≤ 2147483647)) (ha5 : ((-2147483648) ≤ x5 ∧ x5 ≤ 2147483647)) : fC ρ base n F xTc vwCl xTys D dA la gJ (fbz bsJ znJ (fKc wz_7628e) I) xm_213 [.inr (.inr (some 735)), .inr (.inr (some 211)), .inl x2, .inl x3, .inl x4, .inl x5] I (fun _ r => r = none) := by
  have hW : fzs wz_7628e (fKc wz_7628e) := fKc_ok _
  refine f_meth (rb := rbJ) (J := [(24, jc_Order_goOn_e7135_24)]) 9 400 xG xin_213 x6_213 okJ (fB_self h0) ?_ ?_
  · refine List.forall_mem_cons.mpr ⟨?_, fun q h => absurd h List.not_mem_nil⟩
    · rintro m _ _ I1 hB1 ⟨y2, y3, y4, y5, y6, rfl, rfl, hb, hm⟩
      refine And.intro ⟨rfl, by decide, by decide⟩ (fgetf fb_211_15 h0 hB1 ?_)
      intro z1 lz1 uz1 qz1
      refine And.intro (by omega) (And.intro ?_ ?_)
      · intro c2
        exact rfl
      · intro c3
        refine And.intro ⟨rfl, by decide, by decide⟩ (fgetf fb_735_3 h0 hB1 ?_)
        intro z4 lz4 uz4 qz4
        refine And.intro (by omega) (And.intro ?_ ?_)
        · intro c5
          exact rfl
        · intro c6
          intro z7 hz7 ez7
          intro z8 hz8 ez8 bz8
          clear ez8
          have bz8 := bz8 (by omega)
          refine And.intro (by omega) (And.intro ?_ ?_)
          · intro c9
            exact fcutJ (I := I1) (j := jc_Order_goOn_e7135_24) (lv' := [(0, .inr (.inr (some 735))), (1, .inr (.inr (some 211))), (2, .inl _), (3, .inl _), (4, .inl _), (5, .inl _), (6, .inl _)]) (And.intro rfl (And.intro rfl (And.intro rfl (And.intro rfl (And.intro rfl (And.intro rfl (And.intro rfl True.intro))))))) ⟨_, _, _, _, _, rfl, rfl, by omega, rfl⟩ (by omega)
          · intro c10
            refine And.intro ⟨rfl, by decide, by decide⟩ ?_
            refine fload rL_256_256_0_6_1_0 h0 hB1 (by omega) ?_
            intro z11 lz11 uz11 qz11
            intro z12 hz12 ez12
            intro z13 hz13 ez13 bz13
            clear ez13
            clear bz13
            refine And.intro (by omega) (And.intro ?_ ?_)
            · intro c14
              exact fcutJ (I := I1) (j := jc_Order_goOn_e7135_24) (lv' := [(0, .inr (.inr (some 735))), (1, .inr (.inr (some 211))), (2, .inl _), (3, .inl _), (4, .inl _), (5, .inl _), (6, .inl _)]) (And.intro rfl (And.intro rfl (And.intro rfl (And.intro rfl (And.intro rfl (And.intro rfl (And.intro rfl True.intro))))))) ⟨_, _, _, _, _, rfl, rfl, by omega, rfl⟩ (by omega)
            · intro c15
              refine And.intro ⟨rfl, by decide, by decide⟩ (fgetf fb_735_3 h0 hB1 ?_)
              intro z16 lz16 uz16 qz16
              refine And.intro ⟨rfl, by decide, by decide⟩ (And.intro rfl (And.intro (Or.inl rfl) (fputf fb_735_3 (by decide +kernel) hW (by omega) ?_)))
              intro IhB17 ehB17 hB17
              have t18 : IhB17 211 15 = I1 211 15 := (congrFun (congrFun ehB17 211) 15).trans (fup_ne (by omega))
              have t19 := fup_at ehB17 3 (by omega)
              refine And.intro ⟨rfl, by decide, by decide⟩ ?_
              refine fstore rS_737_737_0_6_1_0 (fzs_sub (by decide +kernel) hW) (by omega) (by omega) ?_
              intro IhB20 ehB20 hB20
              have t21 := fup_self ehB20
              have t22 : IhB20 211 15 = IhB17 211 15 := (congrFun (congrFun ehB20 211) 15).trans (fup_ne (by omega))
              have t23 : IhB20 735 3 = IhB17 735 3 := (congrFun (congrFun ehB20 735) 3).trans (fup_ne (by omega))
              have t24 := fup_at ehB20 1 (by omega)
              refine And.intro ⟨rfl, by decide, by decide⟩ ?_
              refine fload rL_254_254_0_6_1_0 h0 hB20 (by omega) ?_
              intro z25 lz25 uz25 qz25
              intro z26 hz26 ez26 bz26
              clear ez26
              clear bz26
              refine And.intro ⟨rfl, by decide, by decide⟩ ?_
              refine fload rL_255_255_0_6_1_0 h0 hB20 (by omega) ?_
              intro z27 lz27 uz27 qz27
              refine And.intro ⟨rfl, by decide, by decide⟩ (fgetf fb_735_2 h0 hB20 ?_)
              intro z28 lz28 uz28 qz28
              intro z29 hz29 ez29 bz29
              clear ez29
              clear bz29
              refine And.intro (And.intro (by omega) (And.intro (by omega) rfl)) ?_
              intro z30 hz30
              intro z31 hz31 ez31 bz31
              clear ez31
              clear bz31
              refine And.intro ⟨rfl, by decide, by decide⟩ (fgetf fb_735_3 h0 hB20 ?_)
              intro z32 lz32 uz32 qz32
              refine And.intro (by omega) (And.intro ?_ ?_)
              · intro c33
                exact fcutJ (I := IhB20) (j := jc_Order_goOn_e7135_24) (lv' := [(0, .inr (.inr (some 735))), (1, .inr (.inr (some 211))), (2, .inl _), (3, .inl _), (4, .inl _), (5, .inl _), (6, .inl _)]) (And.intro rfl (And.intro rfl (And.intro rfl (And.intro rfl (And.intro rfl (And.intro rfl (And.intro rfl True.intro))))))) ⟨_, _, _, _, _, rfl, rfl, by omega, rfl⟩ (by omega)
              · intro c34
                intro z35 hz35 ez35
                intro z36 hz36 ez36
                intro z37 hz37 ez37 bz37
                clear ez37
                clear bz37
                refine Exists.intro xm_212 (And.intro mi_212 (And.intro ⟨rfl, rfl, rfl, rfl⟩ (And.intro rfl ?_)))
                refine fcall _ h0 (fzs_sub (by decide +kernel) hW) hB20 (ct_Order_goOn_0f9c9 (fBz h0 hB20) (by omega) (by omega) (by omega) (by omega)) ?_
                rintro IhB39 _ hB39 fhB39 rfl
                have t40 := fhB39 211 15 (by decide +kernel)
                exact fcutJ (I := IhB39) (j := jc_Order_goOn_e7135_24) (lv' := [(0, .inr (.inr (some 735))), (1, .inr (.inr (some 211))), (2, .inl _), (3, .inl _), (4, .inl _), (5, .inl _), (6, .inl _)]) (And.intro rfl (And.intro rfl (And.intro rfl (And.intro rfl (And.intro rfl (And.intro rfl (And.intro rfl True.intro))))))) ⟨_, _, _, _, _, rfl, rfl, by omega, rfl⟩ (by omega)
  · have hB0 := fB_self (zn := znJ) (K := fKc wz_7628e) h0
    refine And.intro ⟨rfl, by decide, by decide⟩ (fgetf fb_211_15 h0 hB0 ?_)
    intro z41 lz41 uz41 qz41
    refine And.intro (by omega) (And.intro ?_ ?_)
    · intro c42
      refine Exists.intro xm_215 (And.intro mi_215 (And.intro ⟨rfl, rfl, rfl, rfl⟩ (And.intro rfl ?_)))
      refine fcall _ h0 (fzs_sub (by decide +kernel) hW) hB0 (ct_Order_take_e8cff (fBz h0 hB0) (by omega)) ?_
      rintro IhB44 _ hB44 fhB44 rfl
      have t45 := fhB44 211 15 (by decide +kernel)
      exact rfl
    · intro c46
      refine And.intro (by omega) (And.intro ?_ ?_)
      · intro c47
        exact fcutJ (I := I) (j := jc_Order_goOn_e7135_24) (lv' := [(0, .inr (.inr (some 735))), (1, .inr (.inr (some 211))), (2, .inl _), (3, .inl _), (4, .inl _), (5, .inl _), (6, .inl _)]) (And.intro rfl (And.intro rfl (And.intro rfl (And.intro rfl (And.intro rfl (And.intro rfl (And.intro rfl True.intro))))))) ⟨_, _, _, _, _, rfl, rfl, by omega, rfl⟩ (by omega)
      · intro c48
        refine Exists.intro xm_215 (And.intro mi_215 (And.intro ⟨rfl, rfl, rfl, rfl⟩ (And.intro rfl ?_)))
        refine fcall _ h0 (fzs_sub (by decide +kernel) hW) hB0 (ct_Order_take_e8cff (fBz h0 hB0) (by omega)) ?_
        rintro IhB50 _ hB50 fhB50 rfl
        have t51 := fhB50 211 15 (by decide +kernel)
        exact rfl
abbrev jc_Order_goOn_1b23c_24 : Nat → fL → List fV → fH → Prop := fun m lv st I => ∃ (y2 : Int) (y3 : Int) (y4 : Int) (y5 : Int) (y6 : Int), lv = [(0, .inr (.inr (some 735))), (1, .inr (.inr (some 211))), (2, .inl y2), (3, .inl y3), (4, .inl y4), (5, .inl y5), (6, .inl y6)] ∧ st = [] ∧ (((0 ≤ y2 ∧ y2 ≤ 0) ∧ (0 ≤ y3 ∧ y3 ≤ 0) ∧ (0 ≤ y4 ∧ y4 ≤ 0) ∧ (0 ≤ y5 ∧ y5 ≤ 0) ∧ (0 ≤ y6 ∧ y6 ≤ 7) ∧ (1 ≤ I 211 15 ∧ I 211 15 ≤ 7))) ∧ m = (1 + 1 * (7 - y6) : Int).toNat
set_option maxRecDepth 8000 in
theorem ct_Order_goOn_1b23c {I : fH} {x2 : Int} {x3 : Int} {x4 : Int} {x5 : Int} (h0 : fB bsJ I) (ha2 : (0 ≤ x2 ∧ x2 ≤ 0)) (ha3 : (0 ≤ x3 ∧ x3 ≤ 0)) (ha4 : (0 ≤ x4 ∧ x4 ≤ 0)) (ha5 : (0 ≤ x5 ∧ x5 ≤ 0)) : fC ρ base n F xTc vwCl xTys D dA la gJ (fbz bsJ znJ (fKc wz_7628e) I) xm_214 [.inr (.inr (some 735)), .inr (.inr (some 211)), .inl x2, .inl x3, .inl x4, .inl x5] I (fun _ r => r = none) := by
  have hW : fzs wz_7628e (fKc wz_7628e) := fKc_ok _
  refine f_meth (rb := rbJ) (J := [(24, jc_Order_goOn_1b23c_24)]) 9 400 xG xin_214 x6_214 okJ (fB_self h0) ?_ ?_
  · refine List.forall_mem_cons.mpr ⟨?_, fun q h => absurd h List.not_mem_nil⟩
    · rintro m _ _ I1 hB1 ⟨y2, y3, y4, y5, y6, rfl, rfl, hb, hm⟩
      refine And.intro ⟨rfl, by decide, by decide⟩ (fgetf fb_211_15 h0 hB1 ?_)
      intro z1 lz1 uz1 qz1
      refine And.intro (by omega) (And.intro ?_ ?_)
      · intro c2
        exact rfl
      · intro c3
        refine And.intro ⟨rfl, by decide, by decide⟩ (fgetf fb_735_3 h0 hB1 ?_)
        intro z4 lz4 uz4 qz4
        refine And.intro (by omega) (And.intro ?_ ?_)
        · intro c5
          exact rfl
        · intro c6
          intro z7 hz7 ez7
          intro z8 hz8 ez8 bz8
          clear ez8
          have bz8 := bz8 (by omega)
          refine And.intro (by omega) (And.intro ?_ ?_)
          · intro c9
            exact fcutJ (I := I1) (j := jc_Order_goOn_1b23c_24) (lv' := [(0, .inr (.inr (some 735))), (1, .inr (.inr (some 211))), (2, .inl _), (3, .inl _), (4, .inl _), (5, .inl _), (6, .inl _)]) (And.intro rfl (And.intro rfl (And.intro rfl (And.intro rfl (And.intro rfl (And.intro rfl (And.intro rfl True.intro))))))) ⟨_, _, _, _, _, rfl, rfl, by omega, rfl⟩ (by omega)
          · intro c10
            refine And.intro ⟨rfl, by decide, by decide⟩ ?_
            refine fload rL_256_256_0_6_1_0 h0 hB1 (by omega) ?_
            intro z11 lz11 uz11 qz11
            intro z12 hz12 ez12
            intro z13 hz13 ez13 bz13
            clear ez13
            clear bz13
            refine And.intro (by omega) (And.intro ?_ ?_)
            · intro c14
              exact fcutJ (I := I1) (j := jc_Order_goOn_1b23c_24) (lv' := [(0, .inr (.inr (some 735))), (1, .inr (.inr (some 211))), (2, .inl _), (3, .inl _), (4, .inl _), (5, .inl _), (6, .inl _)]) (And.intro rfl (And.intro rfl (And.intro rfl (And.intro rfl (And.intro rfl (And.intro rfl (And.intro rfl True.intro))))))) ⟨_, _, _, _, _, rfl, rfl, by omega, rfl⟩ (by omega)
            · intro c15
              refine And.intro ⟨rfl, by decide, by decide⟩ (fgetf fb_735_3 h0 hB1 ?_)
              intro z16 lz16 uz16 qz16
              refine And.intro ⟨rfl, by decide, by decide⟩ (And.intro rfl (And.intro (Or.inl rfl) (fputf fb_735_3 (by decide +kernel) hW (by omega) ?_)))
              intro IhB17 ehB17 hB17
              have t18 : IhB17 211 15 = I1 211 15 := (congrFun (congrFun ehB17 211) 15).trans (fup_ne (by omega))
              have t19 := fup_at ehB17 3 (by omega)
              refine And.intro ⟨rfl, by decide, by decide⟩ ?_
              refine fstore rS_737_737_0_6_1_0 (fzs_sub (by decide +kernel) hW) (by omega) (by omega) ?_
              intro IhB20 ehB20 hB20
              have t21 := fup_self ehB20
              have t22 : IhB20 211 15 = IhB17 211 15 := (congrFun (congrFun ehB20 211) 15).trans (fup_ne (by omega))
              have t23 : IhB20 735 3 = IhB17 735 3 := (congrFun (congrFun ehB20 735) 3).trans (fup_ne (by omega))
              have t24 := fup_at ehB20 0 (by omega)
              refine And.intro ⟨rfl, by decide, by decide⟩ ?_
              refine fload rL_254_254_0_6_1_0 h0 hB20 (by omega) ?_
              intro z25 lz25 uz25 qz25
              intro z26 hz26 ez26 bz26
              clear ez26
              clear bz26
              refine And.intro ⟨rfl, by decide, by decide⟩ ?_
              refine fload rL_255_255_0_6_1_0 h0 hB20 (by omega) ?_
              intro z27 lz27 uz27 qz27
              refine And.intro ⟨rfl, by decide, by decide⟩ (fgetf fb_735_2 h0 hB20 ?_)
              intro z28 lz28 uz28 qz28
              intro z29 hz29 ez29 bz29
              clear ez29
              clear bz29
              refine And.intro (And.intro (by omega) (And.intro (by omega) rfl)) ?_
              intro z30 hz30
              intro z31 hz31 ez31 bz31
              clear ez31
              clear bz31
              refine And.intro ⟨rfl, by decide, by decide⟩ (fgetf fb_735_3 h0 hB20 ?_)
              intro z32 lz32 uz32 qz32
              refine And.intro (by omega) (And.intro ?_ ?_)
              · intro c33
                exact fcutJ (I := IhB20) (j := jc_Order_goOn_1b23c_24) (lv' := [(0, .inr (.inr (some 735))), (1, .inr (.inr (some 211))), (2, .inl _), (3, .inl _), (4, .inl _), (5, .inl _), (6, .inl _)]) (And.intro rfl (And.intro rfl (And.intro rfl (And.intro rfl (And.intro rfl (And.intro rfl (And.intro rfl True.intro))))))) ⟨_, _, _, _, _, rfl, rfl, by omega, rfl⟩ (by omega)
              · intro c34
                intro z35 hz35 ez35
                intro z36 hz36 ez36
                intro z37 hz37 ez37 bz37
                clear ez37
                clear bz37
                refine Exists.intro xm_213 (And.intro mi_213 (And.intro ⟨rfl, rfl, rfl, rfl⟩ (And.intro rfl ?_)))
                refine fcall _ h0 (fzs_sub (by decide +kernel) hW) hB20 (ct_Order_goOn_e7135 (fBz h0 hB20) (by omega) (by omega) (by omega) (by omega)) ?_
                rintro IhB39 _ hB39 fhB39 rfl
                have t40 := fhB39 211 15 (by decide +kernel)
                exact fcutJ (I := IhB39) (j := jc_Order_goOn_1b23c_24) (lv' := [(0, .inr (.inr (some 735))), (1, .inr (.inr (some 211))), (2, .inl _), (3, .inl _), (4, .inl _), (5, .inl _), (6, .inl _)]) (And.intro rfl (And.intro rfl (And.intro rfl (And.intro rfl (And.intro rfl (And.intro rfl (And.intro rfl True.intro))))))) ⟨_, _, _, _, _, rfl, rfl, by omega, rfl⟩ (by omega)
  · have hB0 := fB_self (zn := znJ) (K := fKc wz_7628e) h0
    refine And.intro ⟨rfl, by decide, by decide⟩ (fgetf fb_211_15 h0 hB0 ?_)
    intro z41 lz41 uz41 qz41
    refine And.intro (by omega) (And.intro ?_ ?_)
    · intro c42
      refine Exists.intro xm_215 (And.intro mi_215 (And.intro ⟨rfl, rfl, rfl, rfl⟩ (And.intro rfl ?_)))
      refine fcall _ h0 (fzs_sub (by decide +kernel) hW) hB0 (ct_Order_take_e8cff (fBz h0 hB0) (by omega)) ?_
      rintro IhB44 _ hB44 fhB44 rfl
      have t45 := fhB44 211 15 (by decide +kernel)
      exact rfl
    · intro c46
      refine And.intro (by omega) (And.intro ?_ ?_)
      · intro c47
        exact fcutJ (I := I) (j := jc_Order_goOn_1b23c_24) (lv' := [(0, .inr (.inr (some 735))), (1, .inr (.inr (some 211))), (2, .inl _), (3, .inl _), (4, .inl _), (5, .inl _), (6, .inl _)]) (And.intro rfl (And.intro rfl (And.intro rfl (And.intro rfl (And.intro rfl (And.intro rfl (And.intro rfl True.intro))))))) ⟨_, _, _, _, _, rfl, rfl, by omega, rfl⟩ (by omega)
      · intro c48
        refine Exists.intro xm_215 (And.intro mi_215 (And.intro ⟨rfl, rfl, rfl, rfl⟩ (And.intro rfl ?_)))
        refine fcall _ h0 (fzs_sub (by decide +kernel) hW) hB0 (ct_Order_take_e8cff (fBz h0 hB0) (by omega)) ?_
        rintro IhB50 _ hB50 fhB50 rfl
        have t51 := fhB50 211 15 (by decide +kernel)
        exact rfl
set_option maxRecDepth 8000 in
theorem ct_Order_bestSum_ae03f {I : fH} {x2 : Int} {x3 : Int} (h0 : fB bsJ I) (ha2 : (1 ≤ x2 ∧ x2 ≤ 60)) (ha3 : (1 ≤ x3 ∧ x3 ≤ 20000)) : fC ρ base n F xTc vwCl xTys D dA la gJ (fbz bsJ znJ (fKc wz_79e74) I) xm_206 [.inr (.inr (some 735)), .inr (.inr (some 211)), .inl x2, .inl x3] I (fun _ r => ∃ z, r = some (.inl z) ∧ ((-2147483648) ≤ z ∧ z ≤ 2147483647)) := by
  have hW : fzs wz_79e74 (fKc wz_79e74) := fKc_ok _
  refine f_meth (rb := rbJ) (J := []) 1 400 xG xin_206 x6_206 okJ (fB_self h0) ?_ ?_
  · exact fun q h => absurd h List.not_mem_nil
  · have hB0 := fB_self (zn := znJ) (K := fKc wz_79e74) h0
    refine And.intro ⟨rfl, by decide, by decide⟩ (And.intro rfl (And.intro (Or.inl rfl) (fputf fb_735_2 (by decide +kernel) hW (by omega) ?_)))
    intro IhB1 ehB1 hB1
    have t2 := fup_at ehB1 2 (by omega)
    refine And.intro ⟨rfl, by decide, by decide⟩ (And.intro rfl (And.intro (Or.inl rfl) (fputf fb_735_3 (by decide +kernel) hW (by omega) ?_)))
    intro IhB3 ehB3 hB3
    have t4 : IhB3 735 2 = IhB1 735 2 := (congrFun (congrFun ehB3 735) 2).trans (fup_ne (by omega))
    have t5 := fup_at ehB3 3 (by omega)
    refine And.intro ⟨rfl, by decide, by decide⟩ (And.intro rfl (And.intro (Or.inl rfl) (fputf fb_735_4 (by decide +kernel) hW (by omega) ?_)))
    intro IhB6 ehB6 hB6
    have t7 : IhB6 735 2 = IhB3 735 2 := (congrFun (congrFun ehB6 735) 2).trans (fup_ne (by omega))
    have t8 : IhB6 735 3 = IhB3 735 3 := (congrFun (congrFun ehB6 735) 3).trans (fup_ne (by omega))
    have t9 := fup_at ehB6 4 (by omega)
    refine Exists.intro xm_214 (And.intro mi_214 (And.intro ⟨rfl, rfl, rfl, rfl⟩ (And.intro rfl ?_)))
    refine fcall _ h0 (fzs_sub (by decide +kernel) hW) hB6 (ct_Order_goOn_1b23c (fBz h0 hB6) (by omega) (by omega) (by omega) (by omega)) ?_
    rintro IhB11 _ hB11 fhB11 rfl
    have t12 := fhB11 735 2 (by decide +kernel)
    refine And.intro ⟨rfl, by decide, by decide⟩ (fgetf fb_735_3 h0 hB11 ?_)
    intro z13 lz13 uz13 qz13
    refine And.intro (by omega) (And.intro ?_ ?_)
    · intro c14
      refine And.intro ⟨rfl, by decide, by decide⟩ (fgetf fb_735_4 h0 hB11 ?_)
      intro z15 lz15 uz15 qz15
      refine And.intro (True.intro) ?_
      exact ⟨_, rfl, by omega⟩
    · intro c16
      refine And.intro (True.intro) ?_
      exact ⟨_, rfl, by omega⟩
set_option maxRecDepth 8000 in
theorem ct_X_plan_77562 {I : fH} {x1 : Int} {x2 : Int} (h0 : fB bsJ I) (ha1 : ((-2147483648) ≤ x1 ∧ x1 ≤ 2147483647)) (ha2 : ((-2147483648) ≤ x2 ∧ x2 ≤ 2147483647)) : fC ρ base n F xTc vwCl xTys D dA la gJ (fbz bsJ znJ (fKc wz_79e74) I) xm_205 [.inr (.inr (some 0)), .inl x1, .inl x2] I (fun _ r => ∃ z, r = some (.inl z) ∧ ((-2147483648) ≤ z ∧ z ≤ 2147483647)) := by
  have hW : fzs wz_79e74 (fKc wz_79e74) := fKc_ok _
  refine f_meth (rb := rbJ) (J := []) 1 400 xG xin_205 x6_205 okJ (fB_self h0) ?_ ?_
  · exact fun q h => absurd h List.not_mem_nil
  · have hB0 := fB_self (zn := znJ) (K := fKc wz_79e74) h0
    refine Exists.intro xm_13 (And.intro mi_13 (And.intro ⟨rfl, rfl, rfl, rfl⟩ (And.intro True.intro ?_)))
    refine fcallp hB0 (ct_X_within_c27b1 (fBz h0 hB0) (by omega) (by omega) (by omega)) ?_
    rintro _ ⟨z1, rfl, hz1⟩
    refine And.intro (by omega) (And.intro ?_ ?_)
    · intro c2
      refine And.intro (True.intro) ?_
      exact ⟨_, rfl, by omega⟩
    · intro c3
      refine Exists.intro xm_13 (And.intro mi_13 (And.intro ⟨rfl, rfl, rfl, rfl⟩ (And.intro True.intro ?_)))
      refine fcallp hB0 (ct_X_within_c27b1 (fBz h0 hB0) (by omega) (by omega) (by omega)) ?_
      rintro _ ⟨z4, rfl, hz4⟩
      refine And.intro (by omega) (And.intro ?_ ?_)
      · intro c5
        refine And.intro ⟨rfl, by decide, by decide⟩ ?_
        refine And.intro ⟨rfl, by decide, by decide⟩ ?_
        refine Exists.intro xm_206 (And.intro mi_206 (And.intro ⟨rfl, rfl, rfl, rfl⟩ (And.intro rfl ?_)))
        refine fcall _ h0 (fzs_sub (by decide +kernel) hW) hB0 (ct_Order_bestSum_ae03f (fBz h0 hB0) (by omega) (by omega)) ?_
        rintro IhB7 _ hB7 fhB7 ⟨z6, rfl, hz6⟩
        refine And.intro (True.intro) ?_
        exact ⟨_, rfl, by omega⟩
      · intro c8
        refine And.intro (True.intro) ?_
        exact ⟨_, rfl, by omega⟩
abbrev jc_M_seek_c83ec_29 : Nat → fL → List fV → fH → Prop := fun m lv st I => ∃ (y2 : Int) (y6 : Int), lv = [(0, .inr (.inr (some 740))), (2, .inl y2), (6, .inl y6)] ∧ st = [] ∧ (((7 ≤ y2 ∧ y2 ≤ 7) ∧ (0 ≤ y6 ∧ y6 ≤ 7) ∧ ((-2147483647) ≤ I 740 33 ∧ I 740 33 ≤ 2147483647) ∧ (7 ≤ I 741 12 ∧ I 741 12 ≤ 7))) ∧ m = (8 + 1 * (7 - y6) : Int).toNat
abbrev jc_M_seek_c83ec_59 : Nat → fL → List fV → fH → Prop := fun m lv st I => ∃ (y1 : Int) (y2 : Int) (y3 : Int) (y4 : Int) (y5 : Int) (y6 : Int), lv = [(0, .inr (.inr (some 740))), (1, .inl y1), (2, .inl y2), (3, .inl y3), (4, .inl y4), (5, .inl y5), (6, .inl y6)] ∧ st = [] ∧ (((1 ≤ y1 ∧ y1 ≤ 60) ∧ (7 ≤ y2 ∧ y2 ≤ 7) ∧ ((-2147483648) ≤ y3 ∧ y3 ≤ 2147483647) ∧ ((-2147483648) ≤ y4 ∧ y4 ≤ 2147483647) ∧ ((-2147483648) ≤ y5 ∧ y5 ≤ 2147483647) ∧ (0 ≤ y6 ∧ y6 ≤ 6) ∧ (0 ≤ I 741 12 ∧ I 741 12 ≤ 6) ∧ (y2 < I 741 12))) ∧ m = (1 + 1 * (6 - y6) : Int).toNat
set_option maxRecDepth 8000 in
theorem ct_M_seek_c83ec {I : fH} {x1 : Int} {x2 : Int} {x3 : Int} {x4 : Int} {x5 : Int} (h0 : fB bsJ I) (ha1 : (1 ≤ x1 ∧ x1 ≤ 60)) (ha2 : (7 ≤ x2 ∧ x2 ≤ 7)) (ha3 : ((-2147483648) ≤ x3 ∧ x3 ≤ 2147483647)) (ha4 : ((-2147483648) ≤ x4 ∧ x4 ≤ 2147483647)) (ha5 : ((-2147483648) ≤ x5 ∧ x5 ≤ 2147483647)) (hp0 : x2 = 7) (hp1 : x2 ≤ I 741 12) : fC ρ base n F xTc vwCl xTys D dA la gJ (fbz bsJ znJ (fKc wz_4d25e) I) xm_479 [.inr (.inr (some 740)), .inl x1, .inl x2, .inl x3, .inl x4, .inl x5] I (fun _ r => r = none) := by
  have hW : fzs wz_4d25e (fKc wz_4d25e) := fKc_ok _
  refine f_meth (rb := rbJ) (J := [(29, jc_M_seek_c83ec_29), (59, jc_M_seek_c83ec_59)]) 16 400 xG xin_479 x6_479 okJ (fB_self h0) ?_ ?_
  · refine List.forall_mem_cons.mpr ⟨?_, List.forall_mem_cons.mpr ⟨?_, fun q h => absurd h List.not_mem_nil⟩⟩
    · rintro m _ _ I1 hB1 ⟨y2, y6, rfl, rfl, hb, hm⟩
      have k1 := fBz_eq hB1 (a := 741) (j := 12) (by decide +kernel)
      refine And.intro (by omega) (And.intro ?_ ?_)
      · intro c2
        exact rfl
      · intro c3
        refine And.intro ⟨rfl, by decide, by decide⟩ ?_
        refine And.intro ⟨rfl, by decide, by decide⟩ ?_
        refine fload rL_757_757_0_6_1_0 h0 hB1 (by omega) ?_
        intro z4 lz4 uz4 qz4
        refine fstore rS_758_758_0_6_1_0 (fzs_sub (by decide +kernel) hW) (by omega) (by omega) ?_
        intro IhB5 ehB5 hB5
        have t6 := fup_self ehB5
        have t7 : IhB5 740 33 = I1 740 33 := (congrFun (congrFun ehB5 740) 33).trans (fup_ne (by omega))
        have t8 : IhB5 741 12 = I1 741 12 := (congrFun (congrFun ehB5 741) 12).trans (fup_ne (by omega))
        have k9 := fBz_eq hB5 (a := 741) (j := 12) (by decide +kernel)
        exact fcutJ (I := IhB5) (j := jc_M_seek_c83ec_29) (lv' := [(0, .inr (.inr (some 740))), (2, .inl _), (6, .inl _)]) (And.intro rfl (And.intro rfl (And.intro rfl True.intro))) ⟨_, _, rfl, rfl, by omega, rfl⟩ (by omega)
    · rintro m _ _ I1 hB1 ⟨y1, y2, y3, y4, y5, y6, rfl, rfl, hb, hm⟩
      have k10 := fBz_eq hB1 (a := 741) (j := 12) (by decide +kernel)
      refine And.intro ⟨rfl, by decide, by decide⟩ ?_
      refine fload rL_741_741_12_12_1_0 h0 hB1 (by omega) ?_
      intro z11 lz11 uz11 qz11
      have pz11 := fld_at qz11 12 (by omega)
      refine And.intro (by omega) (And.intro ?_ ?_)
      · intro c12
        exact rfl
      · intro c13
        refine And.intro ⟨rfl, by decide, by decide⟩ (fgetf fb_740_35 h0 hB1 ?_)
        intro z14 lz14 uz14 qz14
        refine And.intro (by omega) (And.intro ?_ ?_)
        · intro c15
          exact rfl
        · intro c16
          intro z17 hz17 ez17
          intro z18 hz18 ez18 bz18
          clear ez18
          have bz18 := bz18 (by omega)
          refine And.intro (by omega) (And.intro ?_ ?_)
          · intro c19
            exact fcutJ (I := I1) (j := jc_M_seek_c83ec_59) (lv' := [(0, .inr (.inr (some 740))), (1, .inl _), (2, .inl _), (3, .inl _), (4, .inl _), (5, .inl _), (6, .inl _)]) (And.intro rfl (And.intro rfl (And.intro rfl (And.intro rfl (And.intro rfl (And.intro rfl (And.intro rfl True.intro))))))) ⟨_, _, _, _, _, _, rfl, rfl, by omega, rfl⟩ (by omega)
          · intro c20
            refine And.intro ⟨rfl, by decide, by decide⟩ ?_
            refine fload rL_741_741_4372_4390_3_0 h0 hB1 (by omega) ?_
            intro z21 lz21 uz21 qz21
            intro z22 hz22 ez22
            intro z23 hz23 ez23 bz23
            clear ez23
            clear bz23
            refine And.intro (by omega) (And.intro ?_ ?_)
            · intro c24
              refine And.intro ⟨rfl, by decide, by decide⟩ (fgetf fb_740_34 h0 hB1 ?_)
              intro z25 lz25 uz25 qz25
              refine And.intro (by omega) (And.intro ?_ ?_)
              · intro c26
                refine And.intro ⟨rfl, by decide, by decide⟩ (And.intro rfl (And.intro (Or.inr ⟨rfl, by omega⟩) (fputf fb_740_35 (by decide +kernel) hW (by omega) ?_)))
                intro IhB27 ehB27 hB27
                have t28 : IhB27 740 34 = I1 740 34 := (congrFun (congrFun ehB27 740) 34).trans (fup_ne (by omega))
                have t29 := fup_at ehB27 35 (by omega)
                have t30 : IhB27 741 12 = I1 741 12 := (congrFun (congrFun ehB27 741) 12).trans (fup_ne (by omega))
                have k31 := fBz_eq hB27 (a := 741) (j := 12) (by decide +kernel)
                refine And.intro ⟨rfl, by decide, by decide⟩ (fgetf fb_740_35 h0 hB27 ?_)
                intro z32 lz32 uz32 qz32
                refine And.intro (by omega) (And.intro ?_ ?_)
                · intro c33
                  exact fcutJ (I := IhB27) (j := jc_M_seek_c83ec_59) (lv' := [(0, .inr (.inr (some 740))), (1, .inl _), (2, .inl _), (3, .inl _), (4, .inl _), (5, .inl _), (6, .inl _)]) (And.intro rfl (And.intro rfl (And.intro rfl (And.intro rfl (And.intro rfl (And.intro rfl (And.intro rfl True.intro))))))) ⟨_, _, _, _, _, _, rfl, rfl, by omega, rfl⟩ (by omega)
                · intro c34
                  refine And.intro ⟨rfl, by decide, by decide⟩ (fgetf fb_740_34 h0 hB27 ?_)
                  intro z35 lz35 uz35 qz35
                  intro z36 hz36 ez36 bz36
                  clear ez36
                  try replace bz36 := bz36 (by omega)
                  refine And.intro ⟨rfl, by decide, by decide⟩ (And.intro rfl (And.intro (Or.inl rfl) (fputf fb_740_34 (by decide +kernel) hW (by omega) ?_)))
                  intro IhB37 ehB37 hB37
                  have t38 := fup_at ehB37 34 (by omega)
                  have t39 : IhB37 740 35 = IhB27 740 35 := (congrFun (congrFun ehB37 740) 35).trans (fup_ne (by omega))
                  have t40 : IhB37 741 12 = IhB27 741 12 := (congrFun (congrFun ehB37 741) 12).trans (fup_ne (by omega))
                  have k41 := fBz_eq hB37 (a := 741) (j := 12) (by decide +kernel)
                  refine And.intro ⟨rfl, by decide, by decide⟩ ?_
                  refine fstore rS_757_757_0_6_1_0 (fzs_sub (by decide +kernel) hW) (by omega) (by omega) ?_
                  intro IhB42 ehB42 hB42
                  have t43 := fup_self ehB42
                  have t44 : IhB42 740 34 = IhB37 740 34 := (congrFun (congrFun ehB42 740) 34).trans (fup_ne (by omega))
                  have t45 : IhB42 740 35 = IhB37 740 35 := (congrFun (congrFun ehB42 740) 35).trans (fup_ne (by omega))
                  have t46 : IhB42 741 12 = IhB37 741 12 := (congrFun (congrFun ehB42 741) 12).trans (fup_ne (by omega))
                  have k47 := fBz_eq hB42 (a := 741) (j := 12) (by decide +kernel)
                  refine And.intro ⟨rfl, by decide, by decide⟩ ?_
                  refine fload rL_741_741_4370_4388_3_0 h0 hB42 (by omega) ?_
                  intro z48 lz48 uz48 qz48
                  intro z49 hz49 ez49 bz49
                  clear ez49
                  try replace bz49 := bz49 (by omega)
                  intro z50 hz50 ez50
                  intro z51 hz51 ez51
                  refine And.intro (by omega) (And.intro ?_ ?_)
                  · intro c52
                    intro z53 hz53 ez53 bz53
                    clear ez53
                    try replace bz53 := bz53 (by omega)
                    exfalso
                    omega
                  · intro c54
                    refine And.intro ⟨rfl, by decide, by decide⟩ ?_
                    refine fload rL_741_741_4371_4389_3_0 h0 hB42 (by omega) ?_
                    intro z55 lz55 uz55 qz55
                    intro z56 hz56 ez56 bz56
                    clear ez56
                    try replace bz56 := bz56 (by omega)
                    intro z57 hz57 ez57 bz57
                    clear ez57
                    try replace bz57 := bz57 (by omega)
                    intro z58 hz58 ez58 bz58
                    clear ez58
                    try replace bz58 := bz58 (by omega)
                    exfalso
                    omega
              · intro c59
                refine And.intro ⟨rfl, by decide, by decide⟩ (And.intro rfl (And.intro (Or.inr ⟨rfl, by omega⟩) (fputf fb_740_35 (by decide +kernel) hW (by omega) ?_)))
                intro IhB60 ehB60 hB60
                have t61 : IhB60 740 34 = I1 740 34 := (congrFun (congrFun ehB60 740) 34).trans (fup_ne (by omega))
                have t62 := fup_at ehB60 35 (by omega)
                have t63 : IhB60 741 12 = I1 741 12 := (congrFun (congrFun ehB60 741) 12).trans (fup_ne (by omega))
                have k64 := fBz_eq hB60 (a := 741) (j := 12) (by decide +kernel)
                refine And.intro ⟨rfl, by decide, by decide⟩ (fgetf fb_740_35 h0 hB60 ?_)
                intro z65 lz65 uz65 qz65
                refine And.intro (by omega) (And.intro ?_ ?_)
                · intro c66
                  exact fcutJ (I := IhB60) (j := jc_M_seek_c83ec_59) (lv' := [(0, .inr (.inr (some 740))), (1, .inl _), (2, .inl _), (3, .inl _), (4, .inl _), (5, .inl _), (6, .inl _)]) (And.intro rfl (And.intro rfl (And.intro rfl (And.intro rfl (And.intro rfl (And.intro rfl (And.intro rfl True.intro))))))) ⟨_, _, _, _, _, _, rfl, rfl, by omega, rfl⟩ (by omega)
                · intro c67
                  refine And.intro ⟨rfl, by decide, by decide⟩ (fgetf fb_740_34 h0 hB60 ?_)
                  intro z68 lz68 uz68 qz68
                  intro z69 hz69 ez69 bz69
                  clear ez69
                  try replace bz69 := bz69 (by omega)
                  refine And.intro ⟨rfl, by decide, by decide⟩ (And.intro rfl (And.intro (Or.inl rfl) (fputf fb_740_34 (by decide +kernel) hW (by omega) ?_)))
                  intro IhB70 ehB70 hB70
                  have t71 := fup_at ehB70 34 (by omega)
                  have t72 : IhB70 740 35 = IhB60 740 35 := (congrFun (congrFun ehB70 740) 35).trans (fup_ne (by omega))
                  have t73 : IhB70 741 12 = IhB60 741 12 := (congrFun (congrFun ehB70 741) 12).trans (fup_ne (by omega))
                  have k74 := fBz_eq hB70 (a := 741) (j := 12) (by decide +kernel)
                  refine And.intro ⟨rfl, by decide, by decide⟩ ?_
                  refine fstore rS_757_757_0_6_1_0 (fzs_sub (by decide +kernel) hW) (by omega) (by omega) ?_
                  intro IhB75 ehB75 hB75
                  have t76 := fup_self ehB75
                  have t77 : IhB75 740 34 = IhB70 740 34 := (congrFun (congrFun ehB75 740) 34).trans (fup_ne (by omega))
                  have t78 : IhB75 740 35 = IhB70 740 35 := (congrFun (congrFun ehB75 740) 35).trans (fup_ne (by omega))
                  have t79 : IhB75 741 12 = IhB70 741 12 := (congrFun (congrFun ehB75 741) 12).trans (fup_ne (by omega))
                  have k80 := fBz_eq hB75 (a := 741) (j := 12) (by decide +kernel)
                  refine And.intro ⟨rfl, by decide, by decide⟩ ?_
                  refine fload rL_741_741_4370_4388_3_0 h0 hB75 (by omega) ?_
                  intro z81 lz81 uz81 qz81
                  intro z82 hz82 ez82 bz82
                  clear ez82
                  try replace bz82 := bz82 (by omega)
                  intro z83 hz83 ez83
                  intro z84 hz84 ez84
                  refine And.intro (by omega) (And.intro ?_ ?_)
                  · intro c85
                    intro z86 hz86 ez86 bz86
                    clear ez86
                    try replace bz86 := bz86 (by omega)
                    exfalso
                    omega
                  · intro c87
                    refine And.intro ⟨rfl, by decide, by decide⟩ ?_
                    refine fload rL_741_741_4371_4389_3_0 h0 hB75 (by omega) ?_
                    intro z88 lz88 uz88 qz88
                    intro z89 hz89 ez89 bz89
                    clear ez89
                    try replace bz89 := bz89 (by omega)
                    intro z90 hz90 ez90 bz90
                    clear ez90
                    try replace bz90 := bz90 (by omega)
                    intro z91 hz91 ez91 bz91
                    clear ez91
                    try replace bz91 := bz91 (by omega)
                    exfalso
                    omega
            · intro c92
              exact fcutJ (I := I1) (j := jc_M_seek_c83ec_59) (lv' := [(0, .inr (.inr (some 740))), (1, .inl _), (2, .inl _), (3, .inl _), (4, .inl _), (5, .inl _), (6, .inl _)]) (And.intro rfl (And.intro rfl (And.intro rfl (And.intro rfl (And.intro rfl (And.intro rfl (And.intro rfl True.intro))))))) ⟨_, _, _, _, _, _, rfl, rfl, by omega, rfl⟩ (by omega)
  · have hB0 := fB_self (zn := znJ) (K := fKc wz_4d25e) h0
    refine And.intro ⟨rfl, by decide, by decide⟩ ?_
    refine fload rL_741_741_12_12_1_0 h0 hB0 (by omega) ?_
    intro z93 lz93 uz93 qz93
    have pz93 := fld_at qz93 12 (by omega)
    refine And.intro (by omega) (And.intro ?_ ?_)
    · intro c94
      exact fcutJ (I := I) (j := jc_M_seek_c83ec_59) (lv' := [(0, .inr (.inr (some 740))), (1, .inl _), (2, .inl _), (3, .inl _), (4, .inl _), (5, .inl _), (6, .inl _)]) (And.intro rfl (And.intro rfl (And.intro rfl (And.intro rfl (And.intro rfl (And.intro rfl (And.intro rfl True.intro))))))) ⟨_, _, _, _, _, _, rfl, rfl, by omega, rfl⟩ (by omega)
    · intro c95
      refine And.intro ⟨rfl, by decide, by decide⟩ (fgetf fb_740_33 h0 hB0 ?_)
      intro z96 lz96 uz96 qz96
      refine And.intro (by omega) (And.intro ?_ ?_)
      · intro c97
        exact rfl
      · intro c98
        refine And.intro ⟨rfl, by decide, by decide⟩ (And.intro rfl (And.intro (Or.inl rfl) (fputf fb_740_33 (by decide +kernel) hW (by omega) ?_)))
        intro IhB99 ehB99 hB99
        have t100 := fup_at ehB99 33 (by omega)
        have t101 : IhB99 741 12 = I 741 12 := (congrFun (congrFun ehB99 741) 12).trans (fup_ne (by omega))
        have k102 := fBz_eq hB99 (a := 741) (j := 12) (by decide +kernel)
        exact fcutJ (I := IhB99) (j := jc_M_seek_c83ec_29) (lv' := [(0, .inr (.inr (some 740))), (2, .inl _), (6, .inl _)]) (And.intro rfl (And.intro rfl (And.intro rfl True.intro))) ⟨_, _, rfl, rfl, by omega, rfl⟩ (by omega)
end CT

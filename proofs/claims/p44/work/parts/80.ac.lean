set_option linter.all false
/-! contracts (written by gen95.py) -/
theorem x6_59 : f60c xTc xTys xm_59 = true := by decide +kernel
abbrev wz_72684 : List Nat := [20001, 20002, 20003, 20004]
theorem rS_741_741_1_1_1_0 : frS gJ bsJ znJ [20001] 100 ((741, 741), (1, 1), (1, 0), (0, 600)) := frS_of (by decide +kernel)
theorem rS_741_741_2_2_1_0 : frS gJ bsJ znJ [20002] 100 ((741, 741), (2, 2), (1, 0), ((-2147483648), 2147483647)) := frS_of (by decide +kernel)
theorem rS_741_741_3_3_1_0 : frS gJ bsJ znJ [20003] 100 ((741, 741), (3, 3), (1, 0), (2, 9999)) := frS_of (by decide +kernel)
theorem rS_741_741_4_4_1_0 : frS gJ bsJ znJ [20004] 100 ((741, 741), (4, 4), (1, 0), (0, 99)) := frS_of (by decide +kernel)
theorem x6_278 : f60c xTc xTys xm_278 = true := by decide +kernel
theorem x6_64 : f60c xTc xTys xm_64 = true := by decide +kernel
theorem x6_63 : f60c xTc xTys xm_63 = true := by decide +kernel
theorem rL_184_184_0_60_1_0 : frL gJ bsJ 100 ((184, 184), (0, 60), (1, 0), ((-2147483648), 2147483647)) := frL_hull (by decide) (by decide +kernel)
theorem x6_62 : f60c xTc xTys xm_62 = true := by decide +kernel
theorem x6_70 : f60c xTc xTys xm_70 = true := by decide +kernel
theorem x6_69 : f60c xTc xTys xm_69 = true := by decide +kernel
theorem x6_68 : f60c xTc xTys xm_68 = true := by decide +kernel
theorem x6_67 : f60c xTc xTys xm_67 = true := by decide +kernel
theorem x6_66 : f60c xTc xTys xm_66 = true := by decide +kernel
theorem x6_65 : f60c xTc xTys xm_65 = true := by decide +kernel
theorem x6_71 : f60c xTc xTys xm_71 = true := by decide +kernel
theorem x6_61 : f60c xTc xTys xm_61 = true := by decide +kernel
theorem x6_281 : f60c xTc xTys xm_281 = true := by decide +kernel
theorem rL_741_741_1020_1202_122_60 : frL gJ bsJ 100 ((741, 741), (1020, 1202), (122, 60), ((-2147483648), 2147483647)) := frL_hull (by decide) (by decide +kernel)
theorem x6_280 : f60c xTc xTys xm_280 = true := by decide +kernel
theorem rL_741_741_536_858_14_0 : frL gJ bsJ 100 ((741, 741), (536, 858), (14, 0), ((-2147483648), 2147483647)) := frL_hull (by decide) (by decide +kernel)
theorem x6_283 : f60c xTc xTys xm_283 = true := by decide +kernel
theorem rL_741_741_3_3_1_0 : frL gJ bsJ 100 ((741, 741), (3, 3), (1, 0), (2, 9999)) := frL_of (by decide +kernel)
theorem x6_282 : f60c xTc xTys xm_282 = true := by decide +kernel
theorem rL_741_741_532_854_14_0 : frL gJ bsJ 100 ((741, 741), (532, 854), (14, 0), ((-2147483648), 2147483647)) := frL_hull (by decide) (by decide +kernel)
theorem rL_741_741_17_21_1_0 : frL gJ bsJ 100 ((741, 741), (17, 21), (1, 0), ((-2147483648), 2147483647)) := frL_hull (by decide) (by decide +kernel)
theorem rL_741_741_31_414_1_0 : frL gJ bsJ 100 ((741, 741), (31, 414), (1, 0), ((-2147483648), 2147483647)) := frL_hull (by decide) (by decide +kernel)
theorem x6_279 : f60c xTc xTys xm_279 = true := by decide +kernel
theorem rL_741_741_37_420_1_0 : frL gJ bsJ 100 ((741, 741), (37, 420), (1, 0), ((-2147483648), 2147483647)) := frL_hull (by decide) (by decide +kernel)
theorem rL_741_741_2_2_1_0 : frL gJ bsJ 100 ((741, 741), (2, 2), (1, 0), ((-2147483648), 2147483647)) := frL_hull (by decide) (by decide +kernel)
abbrev wz_1cc9b : List Nat := [182, 10106]
theorem x6_86 : f60c xTc xTys xm_86 = true := by decide +kernel
abbrev wz_4543e : List Nat := [174, 175, 176]
theorem x6_87 : f60c xTc xTys xm_87 = true := by decide +kernel
abbrev wz_ed400 : List Nat := [5, 26]
theorem x6_84 : f60c xTc xTys xm_84 = true := by decide +kernel
theorem x6_83 : f60c xTc xTys xm_83 = true := by decide +kernel
theorem x6_82 : f60c xTc xTys xm_82 = true := by decide +kernel
abbrev wz_213b7 : List Nat := [171, 173]
theorem x6_80 : f60c xTc xTys xm_80 = true := by decide +kernel
theorem x6_79 : f60c xTc xTys xm_79 = true := by decide +kernel
abbrev wz_de755 : List Nat := [26, 172]
theorem x6_81 : f60c xTc xTys xm_81 = true := by decide +kernel
abbrev wz_65a7b : List Nat := [26, 171, 172, 173]
theorem x6_78 : f60c xTc xTys xm_78 = true := by decide +kernel
theorem rL_186_186_0_60_1_0 : frL gJ bsJ 100 ((186, 186), (0, 60), (1, 0), ((-2147483648), 2147483647)) := frL_hull (by decide) (by decide +kernel)
abbrev wz_abae9 : List Nat := [5, 26, 182]
theorem x6_85 : f60c xTc xTys xm_85 = true := by decide +kernel
abbrev wz_1f04a : List Nat := [5, 26, 171, 172, 173, 174, 175, 176, 182, 10106]
theorem x6_77 : f60c xTc xTys xm_77 = true := by decide +kernel
theorem x6_92 : f60c xTc xTys xm_92 = true := by decide +kernel
abbrev wz_b5181 : List Nat := [181]
theorem x6_93 : f60c xTc xTys xm_93 = true := by decide +kernel
theorem rS_181_181_0_23_1_0 : frS gJ bsJ znJ [181] 100 ((181, 181), (0, 23), (1, 0), ((-2147483648), 2147483647)) := frS_dflt (by decide) (by decide +kernel)
abbrev wz_e3569 : List Nat := [5, 26, 181]
theorem x6_91 : f60c xTc xTys xm_91 = true := by decide +kernel
abbrev wz_57158 : List Nat := [168, 170]
theorem x6_95 : f60c xTc xTys xm_95 = true := by decide +kernel
theorem rL_170_170_0_23_1_0 : frL gJ bsJ 100 ((170, 170), (0, 23), (1, 0), ((-2147483648), 2147483647)) := frL_hull (by decide) (by decide +kernel)
abbrev wz_0cc09 : List Nat := [47, 72, 10212]
theorem x6_98 : f60c xTc xTys xm_98 = true := by decide +kernel
theorem fb_2_12 : bsJ 2 12 = (0, 90) := by decide +kernel
theorem rgG_73_162 {o : Nat} (h1 : 73 ≤ o) (h2 : o ≤ 162) : gJ.1 o = some (100, 8) ∧ ∀ j, j < 8 → gJ.2 o j = none := frG_of (a0 := 73) (a1 := 162) (by decide +kernel) h1 h2
theorem rS_73_162_0_4_1_0 : frS gJ bsJ znJ [72] 100 ((73, 162), (0, 4), (1, 0), ((-2147483648), 2147483647)) := frS_of (by decide +kernel)
theorem rS_73_162_5_5_1_0 : frS gJ bsJ znJ [72] 100 ((73, 162), (5, 5), (1, 0), ((-2147483648), 2147483647)) := frS_of (by decide +kernel)
theorem rS_73_162_6_6_1_0 : frS gJ bsJ znJ [72] 100 ((73, 162), (6, 6), (1, 0), ((-2147483648), 2147483647)) := frS_of (by decide +kernel)
theorem rS_73_162_7_7_1_0 : frS gJ bsJ znJ [72] 100 ((73, 162), (7, 7), (1, 0), (0, 19)) := frS_of (by decide +kernel)
theorem x6_97 : f60c xTc xTys xm_97 = true := by decide +kernel
theorem x6_96 : f60c xTc xTys xm_96 = true := by decide +kernel
theorem x6_89 : f60c xTc xTys xm_89 = true := by decide +kernel
theorem rL_70_70_0_23_1_0 : frL gJ bsJ 100 ((70, 70), (0, 23), (1, 0), ((-2147483648), 2147483647)) := frL_hull (by decide) (by decide +kernel)
theorem rL_68_68_0_23_1_0 : frL gJ bsJ 100 ((68, 68), (0, 23), (1, 0), (0, 19)) := frL_of (by decide +kernel)
theorem rL_69_69_0_23_1_0 : frL gJ bsJ 100 ((69, 69), (0, 23), (1, 0), (0, 19)) := frL_of (by decide +kernel)
theorem x6_88 : f60c xTc xTys xm_88 = true := by decide +kernel
theorem x6_76 : f60c xTc xTys xm_76 = true := by decide +kernel
theorem rL_73_162_7_7_1_0 : frL gJ bsJ 100 ((73, 162), (7, 7), (1, 0), (0, 19)) := frL_of (by decide +kernel)
theorem rL_73_162_5_5_1_0 : frL gJ bsJ 100 ((73, 162), (5, 5), (1, 0), ((-2147483648), 2147483647)) := frL_hull (by decide) (by decide +kernel)
theorem rL_48_67_0_5_1_0 : frL gJ bsJ 100 ((48, 67), (0, 5), (1, 0), ((-2147483648), 2147483647)) := frL_hull (by decide) (by decide +kernel)
theorem rL_73_162_0_5_1_0 : frL gJ bsJ 100 ((73, 162), (0, 5), (1, 0), ((-2147483648), 2147483647)) := frL_hull (by decide) (by decide +kernel)
theorem x6_74 : f60c xTc xTys xm_74 = true := by decide +kernel
theorem rL_73_162_6_6_1_0 : frL gJ bsJ 100 ((73, 162), (6, 6), (1, 0), ((-2147483648), 2147483647)) := frL_hull (by decide) (by decide +kernel)
abbrev wz_fd6d1 : List Nat := [10105]
theorem x6_94 : f60c xTc xTys xm_94 = true := by decide +kernel
theorem x6_90 : f60c xTc xTys xm_90 = true := by decide +kernel
abbrev wz_c5d03 : List Nat := [5, 26, 47, 72, 168, 170, 171, 172, 173, 174, 175, 176, 181, 182, 10105, 10106, 10109, 10212]
theorem x6_73 : f60c xTc xTys xm_73 = true := by decide +kernel
theorem x6_72 : f60c xTc xTys xm_72 = true := by decide +kernel
theorem x6_304 : f60c xTc xTys xm_304 = true := by decide +kernel
abbrev wz_3cf37 : List Nat := [20112, 20113, 20114, 20115, 20116, 20117]
theorem x6_287 : f60c xTc xTys xm_287 = true := by decide +kernel
theorem rL_741_741_31_4327_1_0 : frL gJ bsJ 100 ((741, 741), (31, 4327), (1, 0), ((-2147483648), 2147483647)) := frL_hull (by decide) (by decide +kernel)
theorem rS_741_741_42_426_20_4 : frS gJ bsJ znJ [20112, 20113, 20114, 20115, 20116] 100 ((741, 741), (42, 426), (20, 4), ((-2147483648), 2147483647)) := frS_of (by decide +kernel)
theorem rL_741_741_47_427_20_0 : frL gJ bsJ 100 ((741, 741), (47, 427), (20, 0), ((-2147483648), 2147483647)) := frL_hull (by decide) (by decide +kernel)
section CT
variable {ρ : Nat → Int32} {base n : Nat} {F : Nat → Prop} {D : va_G} {dA : Nat → ClassId} {la : Launch}
set_option maxRecDepth 8000 in
theorem ct_X_set_46fd7 {I : fH} {x1 : Int} {x2 : Int} (h0 : fB bsJ I) (ha1 : ((-2147483648) ≤ x1 ∧ x1 ≤ 2147483647)) (ha2 : ((-2147483648) ≤ x2 ∧ x2 ≤ 2147483647)) : fC ρ base n F xTc vwCl xTys D dA la gJ (fbz bsJ znJ (fKc wz_310ed) I) xm_59 [.inr (.inr (some 0)), .inl x1, .inl x2] I (fun _ r => ∃ z, r = some (.inl z) ∧ ((-2147483648) ≤ z ∧ z ≤ 2147483647)) := by
  have hW : fzs wz_310ed (fKc wz_310ed) := fKc_ok _
  refine f_meth (rb := rbJ) (J := []) 1 400 xG xin_59 x6_59 okJ (fB_self h0) ?_ ?_
  · exact fun q h => absurd h List.not_mem_nil
  · have hB0 := fB_self (zn := znJ) (K := fKc wz_310ed) h0
    refine And.intro ⟨rfl, by decide, by decide⟩ ?_
    refine Exists.intro xm_60 (And.intro mi_60 (And.intro ⟨rfl, rfl, rfl, rfl⟩ (And.intro rfl ?_)))
    refine fcall _ h0 (fzs_sub (by decide +kernel) hW) hB0 (ct_City_setTo_b8c84 (fBz h0 hB0) (by first | exact ⟨ha1.1, ha1.2⟩ | omega) (by first | exact ⟨ha2.1, ha2.2⟩ | omega)) ?_
    rintro IhB2 _ hB2 fhB2 ⟨z1, rfl, hz1⟩
    refine And.intro (True.intro) ?_
    exact ⟨_, rfl, (by first | exact ⟨hz1.1, hz1.2⟩ | omega)⟩
theorem ct_M_put_0b81c {I : fH} {x1 x2 : Int} (h0 : fB bsJ I) (ha1 : 1 ≤ x1 ∧ x1 ≤ 4) (ha2 : -2147483648 ≤ x2 ∧ x2 ≤ 2147483647) (hp0 : (x1 = 1 ∧ 0 ≤ x2 ∧ x2 ≤ 600) ∨ (x1 = 2 ∧ (-2147483648) ≤ x2 ∧ x2 ≤ 2147483647) ∨ (x1 = 3 ∧ 2 ≤ x2 ∧ x2 ≤ 9999) ∨ (x1 = 4 ∧ 0 ≤ x2 ∧ x2 ≤ 99)) : fC ρ base n F xTc vwCl xTys D dA la gJ (fbz bsJ znJ (fKc wz_72684) I) xm_242 [.inr (.inr (some 740)), .inl x1, .inl x2] I (fun I' r => ∃ z, r = some (.inl z) ∧ (-2147483648 ≤ z ∧ z ≤ 2147483647) ∧ (I' = fupd I 741 x1.toNat x2) ∧ (z = I 741 x1.toNat)) := by
  have hq : znJ 741 x1.toNat ∈ wz_72684 ∧ (bsJ 741 x1.toNat).1 ≤ x2 ∧ x2 ≤ (bsJ 741 x1.toNat).2 := by
    rcases hp0 with hp0 | hp0 | hp0 | hp0
    · exact (frS_at rS_741_741_1_1_1_0 (by decide +kernel) (by omega) (by omega)).2
    · exact (frS_at rS_741_741_2_2_1_0 (by decide +kernel) (by omega) (by omega)).2
    · exact (frS_at rS_741_741_3_3_1_0 (by decide +kernel) (by omega) (by omega)).2
    · exact (frS_at rS_741_741_4_4_1_0 (by decide +kernel) (by omega) (by omega)).2
  refine fC_mono (ct_put h0 (by omega) hq.1 hq.2) (fun I' r _ q => ?_)
  obtain ⟨z, e, e2, e3⟩ := q
  have h3 := (frL_at rL_741_741_0_4899_1_0 h0 (a := 741) (i := x1) (by omega)).2
  exact ⟨z, e, by omega, e3, e2⟩
abbrev jc_M_set_d6f28_73 : Nat → fL → List fV → fH → Prop := fun m lv st I => ∃ (y1 : Int) (y2 : Int), lv = [(0, .inr (.inr (some 740))), (1, .inl y1), (2, .inl y2)] ∧ st = [] ∧ ((((-2147483648) ≤ y1 ∧ y1 ≤ 2147483647) ∧ ((-2147483648) ≤ y2 ∧ y2 ≤ 2147483647))) ∧ m = (1 : Int).toNat
set_option maxRecDepth 8000 in
theorem ct_M_set_d6f28 {I : fH} {x1 : Int} {x2 : Int} (h0 : fB bsJ I) (ha1 : ((-2147483648) ≤ x1 ∧ x1 ≤ 2147483647)) (ha2 : ((-2147483648) ≤ x2 ∧ x2 ≤ 2147483647)) : fC ρ base n F xTc vwCl xTys D dA la gJ (fbz bsJ znJ (fKc wz_72684) I) xm_278 [.inr (.inr (some 740)), .inl x1, .inl x2] I (fun _ r => ∃ z, r = some (.inl z) ∧ ((-2147483648) ≤ z ∧ z ≤ 2147483647)) := by
  have hW : fzs wz_72684 (fKc wz_72684) := fKc_ok _
  refine f_meth (rb := rbJ) (J := [(73, jc_M_set_d6f28_73)]) 2 400 xG xin_278 x6_278 okJ (fB_self h0) ?_ ?_
  · refine List.forall_mem_cons.mpr ⟨?_, fun q h => absurd h List.not_mem_nil⟩
    · rintro m _ _ I1 hB1 ⟨y1, y2, rfl, rfl, hb, hm⟩
      refine And.intro (by omega) (And.intro ?_ ?_)
      · intro c1
        refine And.intro (True.intro) ?_
        exact ⟨_, rfl, by omega⟩
      · intro c2
        intro z3 hz3 ez3 bz3
        clear ez3
        try replace bz3 := bz3 (by omega)
        refine Exists.intro xm_242 (And.intro mi_242 (And.intro ⟨rfl, rfl, rfl, rfl⟩ (And.intro rfl ?_)))
        refine fcall _ h0 (fzs_sub (by decide +kernel) hW) hB1 (ct_M_put_0b81c (fBz h0 hB1) (by omega) (by first | exact ⟨hb.2.1, hb.2.2⟩ | omega) (by omega)) ?_
        rintro IhB5 _ hB5 fhB5 ⟨z4, rfl, hz4, g0z4, g1z4⟩
        refine And.intro (True.intro) ?_
        exact ⟨_, rfl, (by first | exact ⟨hz4.1, hz4.2⟩ | omega)⟩
  · have hB0 := fB_self (zn := znJ) (K := fKc wz_72684) h0
    refine And.intro (by first | exact fi_ ha1.1 ha1.2 rfl | omega) (And.intro ?_ ?_)
    · intro c6
      refine And.intro (And.intro (by first | exact fi_ ha1.1 ha1.2 rfl | omega) (by first | exact ⟨by decide, by decide⟩ | omega)) (And.intro ?_ ?_)
      · intro c7
        refine And.intro (And.intro (by first | exact fi_ ha1.1 ha1.2 rfl | omega) (by first | exact ⟨by decide, by decide⟩ | omega)) (And.intro ?_ ?_)
        · intro c8
          refine And.intro (And.intro (by first | exact fi_ ha1.1 ha1.2 rfl | omega) (by first | exact ⟨by decide, by decide⟩ | omega)) (And.intro ?_ ?_)
          · intro c9
            exact fcutJ (I := I) (j := jc_M_set_d6f28_73) (lv' := [(0, .inr (.inr (some 740))), (1, .inl _), (2, .inl _)]) (And.intro rfl (And.intro rfl (And.intro rfl True.intro))) ⟨_, _, rfl, rfl, by omega, rfl⟩ (by omega)
          · intro c10
            refine And.intro (by first | exact fi_ ha2.1 ha2.2 rfl | omega) ?_
            refine Exists.intro xm_238 (And.intro mi_238 (And.intro ⟨rfl, rfl, rfl, rfl⟩ (And.intro True.intro ?_)))
            refine fcallp hB0 (ct_M_isIn_27230 (fBz h0 hB0) (by first | exact ⟨ha2.1, ha2.2⟩ | omega) (by first | exact ⟨by decide, by decide⟩ | omega) (by first | exact ⟨by decide, by decide⟩ | omega)) ?_
            rintro _ ⟨z11, rfl, hz11⟩
            refine And.intro (by omega) (And.intro ?_ ?_)
            · intro c12
              exact fcutJ (I := I) (j := jc_M_set_d6f28_73) (lv' := [(0, .inr (.inr (some 740))), (1, .inl _), (2, .inl _)]) (And.intro rfl (And.intro rfl (And.intro rfl True.intro))) ⟨_, _, rfl, rfl, by omega, rfl⟩ (by omega)
            · intro c13
              refine And.intro (by first | exact ⟨by decide, by decide⟩ | omega) (And.intro ?_ ?_)
              · intro c14
                refine And.intro (True.intro) ?_
                exact ⟨_, rfl, by omega⟩
              · intro c15
                intro z16 hz16 ez16 bz16
                clear ez16
                try replace bz16 := bz16 (by omega)
                refine Exists.intro xm_242 (And.intro mi_242 (And.intro ⟨rfl, rfl, rfl, rfl⟩ (And.intro rfl ?_)))
                refine fcall _ h0 (fzs_sub (by decide +kernel) hW) hB0 (ct_M_put_0b81c (fBz h0 hB0) (by omega) (by first | exact ⟨Int.le_trans (by decide) (Int.le_trans (Int.le_refl _) hz11.1), Int.le_trans (Int.le_trans hz11.2 (Int.le_refl _)) (by decide)⟩ | omega) (by omega)) ?_
                rintro IhB18 _ hB18 fhB18 ⟨z17, rfl, hz17, g0z17, g1z17⟩
                refine And.intro (True.intro) ?_
                exact ⟨_, rfl, (by first | exact ⟨hz17.1, hz17.2⟩ | omega)⟩
        · intro c19
          refine And.intro (by first | exact fi_ ha2.1 ha2.2 rfl | omega) ?_
          refine Exists.intro xm_238 (And.intro mi_238 (And.intro ⟨rfl, rfl, rfl, rfl⟩ (And.intro True.intro ?_)))
          refine fcallp hB0 (ct_M_isIn_27230 (fBz h0 hB0) (by first | exact ⟨ha2.1, ha2.2⟩ | omega) (by first | exact ⟨by decide, by decide⟩ | omega) (by first | exact ⟨by decide, by decide⟩ | omega)) ?_
          rintro _ ⟨z20, rfl, hz20⟩
          refine And.intro (by omega) (And.intro ?_ ?_)
          · intro c21
            refine And.intro (True.intro) ?_
            exact ⟨_, rfl, by omega⟩
          · intro c22
            intro z23 hz23 ez23 bz23
            clear ez23
            try replace bz23 := bz23 (by omega)
            refine Exists.intro xm_242 (And.intro mi_242 (And.intro ⟨rfl, rfl, rfl, rfl⟩ (And.intro rfl ?_)))
            refine fcall _ h0 (fzs_sub (by decide +kernel) hW) hB0 (ct_M_put_0b81c (fBz h0 hB0) (by omega) (by first | exact ⟨Int.le_trans (by decide) (Int.le_trans (Int.le_refl _) hz20.1), Int.le_trans (Int.le_trans hz20.2 (Int.le_refl _)) (by decide)⟩ | omega) (by omega)) ?_
            rintro IhB25 _ hB25 fhB25 ⟨z24, rfl, hz24, g0z24, g1z24⟩
            refine And.intro (True.intro) ?_
            exact ⟨_, rfl, (by first | exact ⟨hz24.1, hz24.2⟩ | omega)⟩
      · intro c26
        refine And.intro (by first | exact fi_ ha2.1 ha2.2 rfl | omega) ?_
        refine Exists.intro xm_238 (And.intro mi_238 (And.intro ⟨rfl, rfl, rfl, rfl⟩ (And.intro True.intro ?_)))
        refine fcallp hB0 (ct_M_isIn_27230 (fBz h0 hB0) (by first | exact ⟨ha2.1, ha2.2⟩ | omega) (by first | exact ⟨by decide, by decide⟩ | omega) (by first | exact ⟨by decide, by decide⟩ | omega)) ?_
        rintro _ ⟨z27, rfl, hz27⟩
        refine And.intro (by omega) (And.intro ?_ ?_)
        · intro c28
          refine And.intro (True.intro) ?_
          exact ⟨_, rfl, by omega⟩
        · intro c29
          intro z30 hz30 ez30 bz30
          clear ez30
          try replace bz30 := bz30 (by omega)
          refine Exists.intro xm_242 (And.intro mi_242 (And.intro ⟨rfl, rfl, rfl, rfl⟩ (And.intro rfl ?_)))
          refine fcall _ h0 (fzs_sub (by decide +kernel) hW) hB0 (ct_M_put_0b81c (fBz h0 hB0) (by omega) (by first | exact ⟨Int.le_trans (by decide) (Int.le_trans (Int.le_refl _) hz27.1), Int.le_trans (Int.le_trans hz27.2 (Int.le_refl _)) (by decide)⟩ | omega) (by omega)) ?_
          rintro IhB32 _ hB32 fhB32 ⟨z31, rfl, hz31, g0z31, g1z31⟩
          refine And.intro (True.intro) ?_
          exact ⟨_, rfl, (by first | exact ⟨hz31.1, hz31.2⟩ | omega)⟩
    · intro c33
      refine And.intro (by first | exact fi_ ha2.1 ha2.2 rfl | omega) ?_
      refine Exists.intro xm_238 (And.intro mi_238 (And.intro ⟨rfl, rfl, rfl, rfl⟩ (And.intro True.intro ?_)))
      refine fcallp hB0 (ct_M_isIn_27230 (fBz h0 hB0) (by first | exact ⟨ha2.1, ha2.2⟩ | omega) (by first | exact ⟨by decide, by decide⟩ | omega) (by first | exact ⟨by decide, by decide⟩ | omega)) ?_
      rintro _ ⟨z34, rfl, hz34⟩
      refine And.intro (by omega) (And.intro ?_ ?_)
      · intro c35
        refine And.intro (True.intro) ?_
        exact ⟨_, rfl, by omega⟩
      · intro c36
        intro z37 hz37 ez37 bz37
        clear ez37
        try replace bz37 := bz37 (by omega)
        refine Exists.intro xm_242 (And.intro mi_242 (And.intro ⟨rfl, rfl, rfl, rfl⟩ (And.intro rfl ?_)))
        refine fcall _ h0 (fzs_sub (by decide +kernel) hW) hB0 (ct_M_put_0b81c (fBz h0 hB0) (by omega) (by first | exact ⟨Int.le_trans (by decide) (Int.le_trans (Int.le_refl _) hz34.1), Int.le_trans (Int.le_trans hz34.2 (Int.le_refl _)) (by decide)⟩ | omega) (by omega)) ?_
        rintro IhB39 _ hB39 fhB39 ⟨z38, rfl, hz38, g0z38, g1z38⟩
        refine And.intro (True.intro) ?_
        exact ⟨_, rfl, (by first | exact ⟨hz38.1, hz38.2⟩ | omega)⟩
set_option maxRecDepth 8000 in
theorem ct_Works_isSkin_801f8 {I : fH} {x1 : Int} (h0 : fB bsJ I) (ha1 : (0 ≤ x1 ∧ x1 ≤ 23)) : fC ρ base n F xTc vwCl xTys D dA la gJ (fbz bsJ znJ (fKc []) I) xm_64 [.inr (.inr (some 163)), .inl x1] I (fun _ r => ∃ z, r = some (.inl z) ∧ (0 ≤ z ∧ z ≤ 1)) := by
  have hW : fzs [] (fKc []) := fKc_ok _
  refine f_meth (rb := rbJ) (J := []) 1 400 xG xin_64 x6_64 okJ (fB_self h0) ?_ ?_
  · exact fun q h => absurd h List.not_mem_nil
  · have hB0 := fB_self (zn := znJ) (K := fKc []) h0
    refine And.intro ⟨rfl, by decide, by decide⟩ ?_
    refine fload1 rL_164_164_0_23_1_0 h0 hB0 ⟨by decide, by decide⟩ (by first | exact ⟨ha1.1, ha1.2⟩ | omega) ?_
    intro z1 lz1 uz1 qz1
    refine And.intro (And.intro (by first | exact fi_ lz1 uz1 rfl | omega) (by first | exact ⟨by decide, by decide⟩ | omega)) (And.intro ?_ ?_)
    · intro c2
      refine And.intro (⟨by omega, by omega⟩) ?_
      exact ⟨_, rfl, by omega⟩
    · intro c3
      refine And.intro ⟨rfl, by decide, by decide⟩ ?_
      refine fload1 rL_174_174_0_23_1_0 h0 hB0 ⟨by decide, by decide⟩ (by first | exact ⟨ha1.1, ha1.2⟩ | omega) ?_
      intro z4 lz4 uz4 qz4
      refine And.intro (by first | exact fi_ lz4 uz4 rfl | omega) (And.intro ?_ ?_)
      · intro c5
        refine And.intro (⟨by omega, by omega⟩) ?_
        exact ⟨_, rfl, by omega⟩
      · intro c6
        refine And.intro (⟨by decide, by decide⟩) ?_
        exact ⟨_, rfl, (by first | exact ⟨by decide, by decide⟩ | omega)⟩
set_option maxRecDepth 8000 in
theorem ct_City_liftOf_26d0e {I : fH} {x1 : Int} (h0 : fB bsJ I) (ha1 : (0 ≤ x1 ∧ x1 ≤ 23)) : fC ρ base n F xTc vwCl xTys D dA la gJ (fbz bsJ znJ (fKc []) I) xm_63 [.inr (.inr (some 1)), .inl x1] I (fun _ r => ∃ z, r = some (.inl z) ∧ ((-2147483648) ≤ z ∧ z ≤ 2147483647)) := by
  have hW : fzs [] (fKc []) := fKc_ok _
  refine f_meth (rb := rbJ) (J := []) 1 400 xG xin_63 x6_63 okJ (fB_self h0) ?_ ?_
  · exact fun q h => absurd h List.not_mem_nil
  · have hB0 := fB_self (zn := znJ) (K := fKc []) h0
    refine And.intro ⟨rfl, by decide, by decide⟩ ?_
    refine Exists.intro xm_64 (And.intro mi_64 (And.intro ⟨rfl, rfl, rfl, rfl⟩ (And.intro rfl ?_)))
    refine fcallp hB0 (ct_Works_isSkin_801f8 (fBz h0 hB0) (by first | exact ⟨ha1.1, ha1.2⟩ | omega)) ?_
    rintro _ ⟨z1, rfl, hz1⟩
    refine And.intro (by omega) (And.intro ?_ ?_)
    · intro c2
      refine And.intro (True.intro) ?_
      exact ⟨_, rfl, by omega⟩
    · intro c3
      refine And.intro ⟨rfl, by decide, by decide⟩ ?_
      refine And.intro ⟨rfl, by decide, by decide⟩ ?_
      refine fload1 rL_172_172_0_23_1_0 h0 hB0 ⟨by decide, by decide⟩ (by first | exact ⟨ha1.1, ha1.2⟩ | omega) ?_
      intro z4 lz4 uz4 qz4
      refine And.intro ⟨rfl, by decide, by decide⟩ ?_
      refine And.intro ⟨rfl, by decide⟩ (And.intro (by first | exact ⟨by decide, by decide⟩ | omega) ?_)
      refine Exists.intro xm_31 (And.intro mi_31 (And.intro ⟨rfl, rfl, rfl, rfl⟩ (And.intro rfl ?_)))
      refine fcallp hB0 (ct_City_level_61deb (fBz h0 hB0)) ?_
      rintro _ ⟨z5, rfl, hz5⟩
      refine fload1 rL_184_184_0_60_1_0 h0 hB0 ⟨by decide, by decide⟩ (by first | exact ⟨hz5.1, hz5.2⟩ | omega) ?_
      intro z6 lz6 uz6 qz6
      intro z7 hz7 ez7 bz7
      clear ez7
      clear bz7
      refine And.intro (And.intro (by omega) (And.intro (by first | exact ⟨by decide, by decide⟩ | omega) (And.intro (by first | exact by decide | omega) rfl))) ?_
      intro z8 hz8 ez8 dz8
      refine And.intro (True.intro) ?_
      exact ⟨_, rfl, by omega⟩
abbrev jc_City_lift_641ac_4 : Nat → fL → List fV → fH → Prop := fun m lv st I => ∃ (y1 : Int) (y2 : Int), lv = [(0, .inr (.inr (some 1))), (1, .inl y1), (2, .inl y2)] ∧ st = [] ∧ ((((-2147483648) ≤ y1 ∧ y1 ≤ 2147483647) ∧ (0 ≤ y2 ∧ y2 ≤ 24))) ∧ m = (1 + 1 * (24 - y2) : Int).toNat
set_option maxRecDepth 8000 in
theorem ct_City_lift_641ac {I : fH}  (h0 : fB bsJ I)  : fC ρ base n F xTc vwCl xTys D dA la gJ (fbz bsJ znJ (fKc []) I) xm_62 [.inr (.inr (some 1))] I (fun _ r => ∃ z, r = some (.inl z) ∧ ((-2147483648) ≤ z ∧ z ≤ 2147483647)) := by
  have hW : fzs [] (fKc []) := fKc_ok _
  refine f_meth (rb := rbJ) (J := [(4, jc_City_lift_641ac_4)]) 26 400 xG xin_62 x6_62 okJ (fB_self h0) ?_ ?_
  · refine List.forall_mem_cons.mpr ⟨?_, fun q h => absurd h List.not_mem_nil⟩
    · rintro m _ _ I1 hB1 ⟨y1, y2, rfl, rfl, hb, hm⟩
      refine And.intro ⟨rfl, by decide, by decide⟩ ?_
      refine And.intro ⟨rfl, by decide, by decide⟩ (fgetf fb_163_13 h0 hB1 ?_)
      intro z1 lz1 uz1 qz1
      refine And.intro (And.intro (by first | exact fi_ hb.2.1 hb.2.2 rfl | omega) (by first | exact fi_ lz1 uz1 rfl | omega)) (And.intro ?_ ?_)
      · intro c2
        refine And.intro (True.intro) ?_
        exact ⟨_, rfl, (by first | exact ⟨hb.1.1, hb.1.2⟩ | omega)⟩
      · intro c3
        refine Exists.intro xm_63 (And.intro mi_63 (And.intro ⟨rfl, rfl, rfl, rfl⟩ (And.intro rfl ?_)))
        refine fcallp hB1 (ct_City_liftOf_26d0e (fBz h0 hB1) (by first | exact ⟨hb.2.1, Int.le_trans (Int.le_sub_one_of_lt (Int.lt_of_lt_of_le c3 uz1)) (by decide)⟩ | omega)) ?_
        rintro _ ⟨z4, rfl, hz4⟩
        intro z5 hz5 ez5 bz5
        clear ez5
        clear bz5
        exact fcutJ (I := I1) (j := jc_City_lift_641ac_4) (lv' := [(0, .inr (.inr (some 1))), (1, .inl _), (2, .inl _)]) (And.intro rfl (And.intro rfl (And.intro rfl True.intro))) ⟨_, _, rfl, rfl, by omega, rfl⟩ (by omega)
  · have hB0 := fB_self (zn := znJ) (K := fKc []) h0
    exact fcutJ (I := I) (j := jc_City_lift_641ac_4) (lv' := [(0, .inr (.inr (some 1))), (1, .inl _), (2, .inl _)]) (And.intro rfl (And.intro rfl (And.intro rfl True.intro))) ⟨_, _, rfl, rfl, by omega, rfl⟩ (by omega)
set_option maxRecDepth 8000 in
theorem ct_City_isDayAt_bb9dd {I : fH} {x1 : Int} (h0 : fB bsJ I) (ha1 : ((-2147483648) ≤ x1 ∧ x1 ≤ 2147483647)) : fC ρ base n F xTc vwCl xTys D dA la gJ (fbz bsJ znJ (fKc []) I) xm_70 [.inr (.inr (some 1)), .inl x1] I (fun _ r => ∃ z, r = some (.inl z) ∧ (0 ≤ z ∧ z ≤ 1)) := by
  have hW : fzs [] (fKc []) := fKc_ok _
  refine f_meth (rb := rbJ) (J := []) 1 400 xG xin_70 x6_70 okJ (fB_self h0) ?_ ?_
  · exact fun q h => absurd h List.not_mem_nil
  · have hB0 := fB_self (zn := znJ) (K := fKc []) h0
    refine And.intro ⟨rfl, by decide, by decide⟩ (fgetf fb_1_7 h0 hB0 ?_)
    intro z1 lz1 uz1 qz1
    refine And.intro (by first | exact fi_ lz1 uz1 rfl | omega) (And.intro ?_ ?_)
    · intro c2
      refine And.intro (⟨by omega, by omega⟩) ?_
      exact ⟨_, rfl, by omega⟩
    · intro c3
      refine And.intro ⟨rfl, by decide, by decide⟩ (fgetf fb_1_7 h0 hB0 ?_)
      intro z4 lz4 uz4 qz4
      refine And.intro (And.intro (by first | exact fi_ ha1.1 ha1.2 rfl | omega) (And.intro (by first | exact fi_ lz4 uz4 rfl | omega) (And.intro (by omega) rfl))) ?_
      intro z5 hz5 ez5 dz5
      refine And.intro ⟨rfl, by decide, by decide⟩ (fgetf fb_1_7 h0 hB0 ?_)
      intro z6 lz6 uz6 qz6
      refine And.intro (And.intro (by first | exact fi_ lz6 uz6 rfl | omega) (And.intro (by first | exact ⟨by decide, by decide⟩ | omega) (And.intro (by first | exact by decide | omega) rfl))) ?_
      intro z7 hz7 ez7 dz7
      have dz7 := dz7 (by omega) (by omega)
      change _ = _ / _ at dz7
      refine And.intro (by omega) (And.intro ?_ ?_)
      · intro c8
        refine And.intro (⟨by omega, by omega⟩) ?_
        exact ⟨_, rfl, by omega⟩
      · intro c9
        refine And.intro (⟨by decide, by decide⟩) ?_
        exact ⟨_, rfl, (by first | exact ⟨by decide, by decide⟩ | omega)⟩
set_option maxRecDepth 8000 in
theorem ct_City_isDay_fb0d1 {I : fH}  (h0 : fB bsJ I)  : fC ρ base n F xTc vwCl xTys D dA la gJ (fbz bsJ znJ (fKc []) I) xm_69 [.inr (.inr (some 1))] I (fun _ r => ∃ z, r = some (.inl z) ∧ (0 ≤ z ∧ z ≤ 1)) := by
  have hW : fzs [] (fKc []) := fKc_ok _
  refine f_meth (rb := rbJ) (J := []) 1 400 xG xin_69 x6_69 okJ (fB_self h0) ?_ ?_
  · exact fun q h => absurd h List.not_mem_nil
  · have hB0 := fB_self (zn := znJ) (K := fKc []) h0
    refine And.intro ⟨rfl, by decide, by decide⟩ (fgetf fb_1_6 h0 hB0 ?_)
    intro z1 lz1 uz1 qz1
    refine Exists.intro xm_70 (And.intro mi_70 (And.intro ⟨rfl, rfl, rfl, rfl⟩ (And.intro rfl ?_)))
    refine fcallp hB0 (ct_City_isDayAt_bb9dd (fBz h0 hB0) (by first | exact ⟨lz1, uz1⟩ | omega)) ?_
    rintro _ ⟨z2, rfl, hz2⟩
    refine And.intro (⟨by omega, by omega⟩) ?_
    exact ⟨_, rfl, by omega⟩
set_option maxRecDepth 8000 in
theorem ct_Works_weightOf_e689a {I : fH} {x1 : Int} (h0 : fB bsJ I) (ha1 : (0 ≤ x1 ∧ x1 ≤ 23)) : fC ρ base n F xTc vwCl xTys D dA la gJ (fbz bsJ znJ (fKc []) I) xm_68 [.inr (.inr (some 163)), .inl x1] I (fun _ r => ∃ z, r = some (.inl z) ∧ ((-2147483648) ≤ z ∧ z ≤ 2147483647)) := by
  have hW : fzs [] (fKc []) := fKc_ok _
  refine f_meth (rb := rbJ) (J := []) 1 400 xG xin_68 x6_68 okJ (fB_self h0) ?_ ?_
  · exact fun q h => absurd h List.not_mem_nil
  · have hB0 := fB_self (zn := znJ) (K := fKc []) h0
    refine Exists.intro xm_50 (And.intro mi_50 (And.intro ⟨rfl, rfl, rfl, rfl⟩ (And.intro rfl ?_)))
    refine fcallp hB0 (ct_Works_isGone_6681e (fBz h0 hB0) (by first | exact ⟨ha1.1, ha1.2⟩ | omega)) ?_
    rintro _ ⟨z1, rfl, hz1⟩
    refine And.intro (by omega) (And.intro ?_ ?_)
    · intro c2
      refine And.intro (True.intro) ?_
      exact ⟨_, rfl, (by first | exact ⟨by decide, by decide⟩ | omega)⟩
    · intro c3
      refine Exists.intro xm_55 (And.intro mi_55 (And.intro ⟨rfl, rfl, rfl, rfl⟩ (And.intro rfl ?_)))
      refine fcallp hB0 (ct_Works_isDropped_adfda (fBz h0 hB0) (by first | exact ⟨ha1.1, ha1.2⟩ | omega)) ?_
      rintro _ ⟨z4, rfl, hz4⟩
      refine And.intro (by omega) (And.intro ?_ ?_)
      · intro c5
        refine And.intro ⟨rfl, by decide, by decide⟩ ?_
        refine fload1 rL_166_166_0_23_1_0 h0 hB0 ⟨by decide, by decide⟩ (by first | exact ⟨ha1.1, ha1.2⟩ | omega) ?_
        intro z6 lz6 uz6 qz6
        refine And.intro (True.intro) ?_
        exact ⟨_, rfl, (by first | exact ⟨lz6, uz6⟩ | omega)⟩
      · intro c7
        refine And.intro (True.intro) ?_
        exact ⟨_, rfl, (by first | exact ⟨by decide, by decide⟩ | omega)⟩
abbrev jc_People_living_beea0_4 : Nat → fL → List fV → fH → Prop := fun m lv st I => ∃ (y1 : Int) (y2 : Int), lv = [(0, .inr (.inr (some 177))), (1, .inl y1), (2, .inl y2)] ∧ st = [] ∧ ((((-2147483648) ≤ y1 ∧ y1 ≤ 2147483647) ∧ (0 ≤ y2 ∧ y2 ≤ 24))) ∧ m = (1 + 1 * (24 - y2) : Int).toNat
set_option maxRecDepth 8000 in
theorem ct_People_living_beea0 {I : fH}  (h0 : fB bsJ I)  : fC ρ base n F xTc vwCl xTys D dA la gJ (fbz bsJ znJ (fKc []) I) xm_67 [.inr (.inr (some 177))] I (fun _ r => ∃ z, r = some (.inl z) ∧ ((-2147483648) ≤ z ∧ z ≤ 2147483647)) := by
  have hW : fzs [] (fKc []) := fKc_ok _
  refine f_meth (rb := rbJ) (J := [(4, jc_People_living_beea0_4)]) 26 400 xG xin_67 x6_67 okJ (fB_self h0) ?_ ?_
  · refine List.forall_mem_cons.mpr ⟨?_, fun q h => absurd h List.not_mem_nil⟩
    · rintro m _ _ I1 hB1 ⟨y1, y2, rfl, rfl, hb, hm⟩
      refine And.intro ⟨rfl, by decide, by decide⟩ (fgetf fb_177_4 h0 hB1 ?_)
      intro z1 lz1 uz1 qz1
      refine And.intro (And.intro (by first | exact fi_ hb.2.1 hb.2.2 rfl | omega) (by first | exact fi_ lz1 uz1 rfl | omega)) (And.intro ?_ ?_)
      · intro c2
        refine And.intro (True.intro) ?_
        exact ⟨_, rfl, (by first | exact ⟨hb.1.1, hb.1.2⟩ | omega)⟩
      · intro c3
        refine Exists.intro xm_21 (And.intro mi_21 (And.intro ⟨rfl, rfl, rfl, rfl⟩ (And.intro rfl ?_)))
        refine fcallp hB1 (ct_People_isDead_edb17 (fBz h0 hB1) (by first | exact ⟨hb.2.1, Int.le_trans (Int.le_sub_one_of_lt (Int.lt_of_lt_of_le c3 uz1)) (by decide)⟩ | omega)) ?_
        rintro _ ⟨z4, rfl, hz4⟩
        refine And.intro (by omega) (And.intro ?_ ?_)
        · intro c5
          exact fcutJ (I := I1) (j := jc_People_living_beea0_4) (lv' := [(0, .inr (.inr (some 177))), (1, .inl _), (2, .inl _)]) (And.intro rfl (And.intro rfl (And.intro rfl True.intro))) ⟨_, _, rfl, rfl, by omega, rfl⟩ (by omega)
        · intro c6
          intro z7 hz7 bz7
          clear bz7
          exact fcutJ (I := I1) (j := jc_People_living_beea0_4) (lv' := [(0, .inr (.inr (some 177))), (1, .inl _), (2, .inl _)]) (And.intro rfl (And.intro rfl (And.intro rfl True.intro))) ⟨_, _, rfl, rfl, by omega, rfl⟩ (by omega)
  · have hB0 := fB_self (zn := znJ) (K := fKc []) h0
    exact fcutJ (I := I) (j := jc_People_living_beea0_4) (lv' := [(0, .inr (.inr (some 177))), (1, .inl _), (2, .inl _)]) (And.intro rfl (And.intro rfl (And.intro rfl True.intro))) ⟨_, _, rfl, rfl, by omega, rfl⟩ (by omega)
abbrev jc_Cells_gases_5c65b_4 : Nat → fL → List fV → fH → Prop := fun m lv st I => ∃ (y1 : Int) (y2 : Int), lv = [(0, .inr (.inr (some 2))), (1, .inl y1), (2, .inl y2)] ∧ st = [] ∧ ((((-2147483648) ≤ y1 ∧ y1 ≤ 2147483647) ∧ (0 ≤ y2 ∧ y2 ≤ 20))) ∧ m = (6 + 6 * (20 - y2) : Int).toNat
abbrev jc_Cells_gases_5c65b_14 : Nat → fL → List fV → fH → Prop := fun m lv st I => ∃ (y1 : Int) (y2 : Int) (y3 : Int), lv = [(0, .inr (.inr (some 2))), (1, .inl y1), (2, .inl y2), (3, .inl y3)] ∧ st = [] ∧ ((((-2147483648) ≤ y1 ∧ y1 ≤ 2147483647) ∧ (0 ≤ y2 ∧ y2 ≤ 19) ∧ (0 ≤ y3 ∧ y3 ≤ 4) ∧ (1 ≤ I 2 5 ∧ I 2 5 ≤ 20))) ∧ m = (1 + 6 * (20 - y2) + 1 * (4 - y3) : Int).toNat
set_option maxRecDepth 8000 in
theorem ct_Cells_gases_5c65b {I : fH}  (h0 : fB bsJ I)  : fC ρ base n F xTc vwCl xTys D dA la gJ (fbz bsJ znJ (fKc []) I) xm_66 [.inr (.inr (some 2))] I (fun _ r => ∃ z, r = some (.inl z) ∧ ((-2147483648) ≤ z ∧ z ≤ 2147483647)) := by
  have hW : fzs [] (fKc []) := fKc_ok _
  refine f_meth (rb := rbJ) (J := [(4, jc_Cells_gases_5c65b_4), (14, jc_Cells_gases_5c65b_14)]) 127 400 xG xin_66 x6_66 okJ (fB_self h0) ?_ ?_
  · refine List.forall_mem_cons.mpr ⟨?_, List.forall_mem_cons.mpr ⟨?_, fun q h => absurd h List.not_mem_nil⟩⟩
    · rintro m _ _ I1 hB1 ⟨y1, y2, rfl, rfl, hb, hm⟩
      refine And.intro ⟨rfl, by decide, by decide⟩ (fgetf fb_2_5 h0 hB1 ?_)
      intro z1 lz1 uz1 qz1
      refine And.intro (And.intro (by first | exact fi_ hb.2.1 hb.2.2 rfl | omega) (by first | exact fi_ lz1 uz1 rfl | omega)) (And.intro ?_ ?_)
      · intro c2
        refine And.intro (True.intro) ?_
        exact ⟨_, rfl, (by first | exact ⟨hb.1.1, hb.1.2⟩ | omega)⟩
      · intro c3
        exact fcutJ (I := I1) (j := jc_Cells_gases_5c65b_14) (lv' := [(0, .inr (.inr (some 2))), (1, .inl _), (2, .inl _), (3, .inl _)]) (And.intro rfl (And.intro rfl (And.intro rfl (And.intro rfl True.intro)))) ⟨_, _, _, rfl, rfl, by omega, rfl⟩ (by omega)
    · rintro m _ _ I1 hB1 ⟨y1, y2, y3, rfl, rfl, hb, hm⟩
      refine And.intro (And.intro (by first | exact fi_ hb.2.2.1.1 hb.2.2.1.2 rfl | omega) (by first | exact ⟨by decide, by decide⟩ | omega)) (And.intro ?_ ?_)
      · intro c4
        exact fcutJ (I := I1) (j := jc_Cells_gases_5c65b_4) (lv' := [(0, .inr (.inr (some 2))), (1, .inl _), (2, .inl _)]) (And.intro rfl (And.intro rfl (And.intro rfl True.intro))) ⟨_, _, rfl, rfl, by omega, rfl⟩ (by omega)
      · intro c5
        refine And.intro ⟨rfl, by decide, by decide⟩ ?_
        refine And.intro ⟨rfl, by decide⟩ (And.intro (by first | exact ⟨hb.2.1.1, Int.lt_of_le_of_lt hb.2.1.2 (by decide)⟩ | omega) ?_)
        refine fload rL_6_25_0_4_1_0 h0 hB1 (by omega) ?_
        intro z6 lz6 uz6 qz6
        intro z7 hz7 ez7 bz7
        clear ez7
        clear bz7
        exact fcutJ (I := I1) (j := jc_Cells_gases_5c65b_14) (lv' := [(0, .inr (.inr (some 2))), (1, .inl _), (2, .inl _), (3, .inl _)]) (And.intro rfl (And.intro rfl (And.intro rfl (And.intro rfl True.intro)))) ⟨_, _, _, rfl, rfl, by omega, rfl⟩ (by omega)
  · have hB0 := fB_self (zn := znJ) (K := fKc []) h0
    exact fcutJ (I := I) (j := jc_Cells_gases_5c65b_4) (lv' := [(0, .inr (.inr (some 2))), (1, .inl _), (2, .inl _)]) (And.intro rfl (And.intro rfl (And.intro rfl True.intro))) ⟨_, _, rfl, rfl, by omega, rfl⟩ (by omega)
abbrev jc_City_weight_75fdd_10 : Nat → fL → List fV → fH → Prop := fun m lv st I => ∃ (y1 : Int) (y2 : Int), lv = [(0, .inr (.inr (some 1))), (1, .inl y1), (2, .inl y2)] ∧ st = [] ∧ ((((-2147483648) ≤ y1 ∧ y1 ≤ 2147483647) ∧ (0 ≤ y2 ∧ y2 ≤ 5))) ∧ m = (26 + 1 * (5 - y2) : Int).toNat
abbrev jc_City_weight_75fdd_48 : Nat → fL → List fV → fH → Prop := fun m lv st I => ∃ (y2 : Int) (y3 : Int), lv = [(0, .inr (.inr (some 1))), (2, .inl y2), (3, .inl y3)] ∧ st = [] ∧ ((((-2147483648) ≤ y2 ∧ y2 ≤ 2147483647) ∧ (0 ≤ y3 ∧ y3 ≤ 24))) ∧ m = (1 + 1 * (24 - y3) : Int).toNat
set_option maxRecDepth 8000 in
theorem ct_City_weight_75fdd {I : fH}  (h0 : fB bsJ I)  : fC ρ base n F xTc vwCl xTys D dA la gJ (fbz bsJ znJ (fKc []) I) xm_65 [.inr (.inr (some 1))] I (fun _ r => ∃ z, r = some (.inl z) ∧ ((-2147483648) ≤ z ∧ z ≤ 2147483647)) := by
  have hW : fzs [] (fKc []) := fKc_ok _
  refine f_meth (rb := rbJ) (J := [(10, jc_City_weight_75fdd_10), (48, jc_City_weight_75fdd_48)]) 32 400 xG xin_65 x6_65 okJ (fB_self h0) ?_ ?_
  · refine List.forall_mem_cons.mpr ⟨?_, List.forall_mem_cons.mpr ⟨?_, fun q h => absurd h List.not_mem_nil⟩⟩
    · rintro m _ _ I1 hB1 ⟨y1, y2, rfl, rfl, hb, hm⟩
      refine And.intro (And.intro (by first | exact fi_ hb.2.1 hb.2.2 rfl | omega) (by first | exact ⟨by decide, by decide⟩ | omega)) (And.intro ?_ ?_)
      · intro c1
        refine And.intro ⟨rfl, by decide, by decide⟩ ?_
        refine Exists.intro xm_67 (And.intro mi_67 (And.intro ⟨rfl, rfl, rfl, rfl⟩ (And.intro rfl ?_)))
        refine fcallp hB1 (ct_People_living_beea0 (fBz h0 hB1)) ?_
        rintro _ ⟨z2, rfl, hz2⟩
        intro z3 hz3 ez3 bz3
        clear ez3
        clear bz3
        refine And.intro (And.intro (by first | exact fi_ hb.1.1 hb.1.2 rfl | omega) (And.intro (by first | exact ⟨by decide, by decide⟩ | omega) (And.intro (by first | exact by decide | omega) rfl))) ?_
        intro z4 hz4 ez4 dz4
        intro z5 hz5 ez5 bz5
        clear ez5
        clear bz5
        exact fcutJ (I := I1) (j := jc_City_weight_75fdd_48) (lv' := [(0, .inr (.inr (some 1))), (2, .inl _), (3, .inl _)]) (And.intro rfl (And.intro rfl (And.intro rfl True.intro))) ⟨_, _, rfl, rfl, by omega, rfl⟩ (by omega)
      · intro c6
        refine And.intro ⟨rfl, by decide, by decide⟩ ?_
        refine fload1 rL_182_182_0_5_1_0 h0 hB1 ⟨by decide, by decide⟩ (by first | exact ⟨hb.2.1, Int.le_trans (Int.le_trans c6 (Int.le_refl _)) (by decide)⟩ | omega) ?_
        intro z7 lz7 uz7 qz7
        intro z8 hz8 ez8 bz8
        clear ez8
        clear bz8
        exact fcutJ (I := I1) (j := jc_City_weight_75fdd_10) (lv' := [(0, .inr (.inr (some 1))), (1, .inl _), (2, .inl _)]) (And.intro rfl (And.intro rfl (And.intro rfl True.intro))) ⟨_, _, rfl, rfl, by omega, rfl⟩ (by omega)
    · rintro m _ _ I1 hB1 ⟨y2, y3, rfl, rfl, hb, hm⟩
      refine And.intro ⟨rfl, by decide, by decide⟩ ?_
      refine And.intro ⟨rfl, by decide, by decide⟩ (fgetf fb_163_13 h0 hB1 ?_)
      intro z9 lz9 uz9 qz9
      refine And.intro (And.intro (by first | exact fi_ hb.2.1 hb.2.2 rfl | omega) (by first | exact fi_ lz9 uz9 rfl | omega)) (And.intro ?_ ?_)
      · intro c10
        refine And.intro (True.intro) ?_
        exact ⟨_, rfl, (by first | exact ⟨hb.1.1, hb.1.2⟩ | omega)⟩
      · intro c11
        refine And.intro ⟨rfl, by decide, by decide⟩ ?_
        refine Exists.intro xm_68 (And.intro mi_68 (And.intro ⟨rfl, rfl, rfl, rfl⟩ (And.intro rfl ?_)))
        refine fcallp hB1 (ct_Works_weightOf_e689a (fBz h0 hB1) (by first | exact ⟨hb.2.1, Int.le_trans (Int.le_sub_one_of_lt (Int.lt_of_lt_of_le c11 uz9)) (by decide)⟩ | omega)) ?_
        rintro _ ⟨z12, rfl, hz12⟩
        intro z13 hz13 ez13 bz13
        clear ez13
        clear bz13
        exact fcutJ (I := I1) (j := jc_City_weight_75fdd_48) (lv' := [(0, .inr (.inr (some 1))), (2, .inl _), (3, .inl _)]) (And.intro rfl (And.intro rfl (And.intro rfl True.intro))) ⟨_, _, rfl, rfl, by omega, rfl⟩ (by omega)
  · have hB0 := fB_self (zn := znJ) (K := fKc []) h0
    refine And.intro ⟨rfl, by decide, by decide⟩ ?_
    refine Exists.intro xm_66 (And.intro mi_66 (And.intro ⟨rfl, rfl, rfl, rfl⟩ (And.intro rfl ?_)))
    refine fcallp hB0 (ct_Cells_gases_5c65b (fBz h0 hB0)) ?_
    rintro _ ⟨z14, rfl, hz14⟩
    exact fcutJ (I := I) (j := jc_City_weight_75fdd_10) (lv' := [(0, .inr (.inr (some 1))), (1, .inl _), (2, .inl _)]) (And.intro rfl (And.intro rfl (And.intro rfl True.intro))) ⟨_, _, rfl, rfl, by omega, rfl⟩ (by omega)
abbrev jc_Cells_gasesOut_23490_4 : Nat → fL → List fV → fH → Prop := fun m lv st I => ∃ (y1 : Int) (y2 : Int), lv = [(0, .inr (.inr (some 2))), (1, .inl y1), (2, .inl y2)] ∧ st = [] ∧ ((((-2147483648) ≤ y1 ∧ y1 ≤ 2147483647) ∧ (0 ≤ y2 ∧ y2 ≤ 20))) ∧ m = (6 + 6 * (20 - y2) : Int).toNat
abbrev jc_Cells_gasesOut_23490_14 : Nat → fL → List fV → fH → Prop := fun m lv st I => ∃ (y1 : Int) (y2 : Int) (y3 : Int), lv = [(0, .inr (.inr (some 2))), (1, .inl y1), (2, .inl y2), (3, .inl y3)] ∧ st = [] ∧ ((((-2147483648) ≤ y1 ∧ y1 ≤ 2147483647) ∧ (0 ≤ y2 ∧ y2 ≤ 19) ∧ (0 ≤ y3 ∧ y3 ≤ 4) ∧ (1 ≤ I 2 5 ∧ I 2 5 ≤ 20))) ∧ m = (1 + 6 * (20 - y2) + 1 * (4 - y3) : Int).toNat
set_option maxRecDepth 8000 in
theorem ct_Cells_gasesOut_23490 {I : fH}  (h0 : fB bsJ I)  : fC ρ base n F xTc vwCl xTys D dA la gJ (fbz bsJ znJ (fKc []) I) xm_71 [.inr (.inr (some 2))] I (fun _ r => ∃ z, r = some (.inl z) ∧ ((-2147483648) ≤ z ∧ z ≤ 2147483647)) := by
  have hW : fzs [] (fKc []) := fKc_ok _
  refine f_meth (rb := rbJ) (J := [(4, jc_Cells_gasesOut_23490_4), (14, jc_Cells_gasesOut_23490_14)]) 127 400 xG xin_71 x6_71 okJ (fB_self h0) ?_ ?_
  · refine List.forall_mem_cons.mpr ⟨?_, List.forall_mem_cons.mpr ⟨?_, fun q h => absurd h List.not_mem_nil⟩⟩
    · rintro m _ _ I1 hB1 ⟨y1, y2, rfl, rfl, hb, hm⟩
      refine And.intro ⟨rfl, by decide, by decide⟩ (fgetf fb_2_5 h0 hB1 ?_)
      intro z1 lz1 uz1 qz1
      refine And.intro (And.intro (by first | exact fi_ hb.2.1 hb.2.2 rfl | omega) (by first | exact fi_ lz1 uz1 rfl | omega)) (And.intro ?_ ?_)
      · intro c2
        refine And.intro (True.intro) ?_
        exact ⟨_, rfl, (by first | exact ⟨hb.1.1, hb.1.2⟩ | omega)⟩
      · intro c3
        exact fcutJ (I := I1) (j := jc_Cells_gasesOut_23490_14) (lv' := [(0, .inr (.inr (some 2))), (1, .inl _), (2, .inl _), (3, .inl _)]) (And.intro rfl (And.intro rfl (And.intro rfl (And.intro rfl True.intro)))) ⟨_, _, _, rfl, rfl, by omega, rfl⟩ (by omega)
    · rintro m _ _ I1 hB1 ⟨y1, y2, y3, rfl, rfl, hb, hm⟩
      refine And.intro (And.intro (by first | exact fi_ hb.2.2.1.1 hb.2.2.1.2 rfl | omega) (by first | exact ⟨by decide, by decide⟩ | omega)) (And.intro ?_ ?_)
      · intro c4
        exact fcutJ (I := I1) (j := jc_Cells_gasesOut_23490_4) (lv' := [(0, .inr (.inr (some 2))), (1, .inl _), (2, .inl _)]) (And.intro rfl (And.intro rfl (And.intro rfl True.intro))) ⟨_, _, rfl, rfl, by omega, rfl⟩ (by omega)
      · intro c5
        refine And.intro ⟨rfl, by decide, by decide⟩ ?_
        refine And.intro ⟨rfl, by decide⟩ (And.intro (by first | exact ⟨hb.2.1.1, Int.lt_of_le_of_lt hb.2.1.2 (by decide)⟩ | omega) ?_)
        refine fload rL_27_46_0_4_1_0 h0 hB1 (by omega) ?_
        intro z6 lz6 uz6 qz6
        intro z7 hz7 ez7 bz7
        clear ez7
        clear bz7
        exact fcutJ (I := I1) (j := jc_Cells_gasesOut_23490_14) (lv' := [(0, .inr (.inr (some 2))), (1, .inl _), (2, .inl _), (3, .inl _)]) (And.intro rfl (And.intro rfl (And.intro rfl (And.intro rfl True.intro)))) ⟨_, _, _, rfl, rfl, by omega, rfl⟩ (by omega)
  · have hB0 := fB_self (zn := znJ) (K := fKc []) h0
    exact fcutJ (I := I) (j := jc_Cells_gasesOut_23490_4) (lv' := [(0, .inr (.inr (some 2))), (1, .inl _), (2, .inl _)]) (And.intro rfl (And.intro rfl (And.intro rfl True.intro))) ⟨_, _, rfl, rfl, by omega, rfl⟩ (by omega)
set_option maxRecDepth 8000 in
theorem ct_X_city_22325 {I : fH} {x1 : Int} (h0 : fB bsJ I) (ha1 : ((-2147483648) ≤ x1 ∧ x1 ≤ 2147483647)) : fC ρ base n F xTc vwCl xTys D dA la gJ (fbz bsJ znJ (fKc []) I) xm_61 [.inr (.inr (some 0)), .inl x1] I (fun _ r => ∃ z, r = some (.inl z) ∧ ((-2147483648) ≤ z ∧ z ≤ 2147483647)) := by
  have hW : fzs [] (fKc []) := fKc_ok _
  refine f_meth (rb := rbJ) (J := []) 1 400 xG xin_61 x6_61 okJ (fB_self h0) ?_ ?_
  · exact fun q h => absurd h List.not_mem_nil
  · have hB0 := fB_self (zn := znJ) (K := fKc []) h0
    refine Exists.intro xm_13 (And.intro mi_13 (And.intro ⟨rfl, rfl, rfl, rfl⟩ (And.intro True.intro ?_)))
    refine fcallp hB0 (ct_X_within_c27b1 (fBz h0 hB0) (by first | exact ⟨ha1.1, ha1.2⟩ | omega) (by first | exact ⟨by decide, by decide⟩ | omega) (by first | exact ⟨by decide, by decide⟩ | omega)) ?_
    rintro _ ⟨z1, rfl, hz1⟩
    refine And.intro (by omega) (And.intro ?_ ?_)
    · intro c2
      refine And.intro (by first | exact fi_ ha1.1 ha1.2 rfl | omega) (And.intro ?_ ?_)
      · refine And.intro (fun ex => ?_) (And.intro (fun ex => ?_) (And.intro (fun ex => ?_) (And.intro (fun ex => ?_) (And.intro (fun ex => ?_) (And.intro (fun ex => ?_) (And.intro (fun ex => ?_) (And.intro (fun ex => ?_) (True.intro))))))))
        · skip
          refine And.intro ⟨rfl, by decide, by decide⟩ ?_
          refine And.intro ⟨rfl, by decide, by decide⟩ (fgetf fb_1_5 h0 hB0 ?_)
          intro z3 lz3 uz3 qz3
          refine And.intro (True.intro) ?_
          exact ⟨_, rfl, (by first | exact ⟨Int.le_trans (by decide) lz3, Int.le_trans uz3 (by decide)⟩ | omega)⟩
        · skip
          refine And.intro ⟨rfl, by decide, by decide⟩ ?_
          refine Exists.intro xm_31 (And.intro mi_31 (And.intro ⟨rfl, rfl, rfl, rfl⟩ (And.intro rfl ?_)))
          refine fcallp hB0 (ct_City_level_61deb (fBz h0 hB0)) ?_
          rintro _ ⟨z4, rfl, hz4⟩
          refine And.intro (True.intro) ?_
          exact ⟨_, rfl, (by first | exact ⟨Int.le_trans (by decide) hz4.1, Int.le_trans hz4.2 (by decide)⟩ | omega)⟩
        · skip
          refine And.intro ⟨rfl, by decide, by decide⟩ ?_
          refine Exists.intro xm_62 (And.intro mi_62 (And.intro ⟨rfl, rfl, rfl, rfl⟩ (And.intro rfl ?_)))
          refine fcallp hB0 (ct_City_lift_641ac (fBz h0 hB0)) ?_
          rintro _ ⟨z5, rfl, hz5⟩
          refine And.intro (True.intro) ?_
          exact ⟨_, rfl, (by first | exact ⟨hz5.1, hz5.2⟩ | omega)⟩
        · skip
          refine And.intro ⟨rfl, by decide, by decide⟩ ?_
          refine Exists.intro xm_65 (And.intro mi_65 (And.intro ⟨rfl, rfl, rfl, rfl⟩ (And.intro rfl ?_)))
          refine fcallp hB0 (ct_City_weight_75fdd (fBz h0 hB0)) ?_
          rintro _ ⟨z6, rfl, hz6⟩
          refine And.intro (True.intro) ?_
          exact ⟨_, rfl, (by first | exact ⟨hz6.1, hz6.2⟩ | omega)⟩
        · skip
          refine And.intro ⟨rfl, by decide, by decide⟩ ?_
          refine Exists.intro xm_69 (And.intro mi_69 (And.intro ⟨rfl, rfl, rfl, rfl⟩ (And.intro rfl ?_)))
          refine fcallp hB0 (ct_City_isDay_fb0d1 (fBz h0 hB0)) ?_
          rintro _ ⟨z7, rfl, hz7⟩
          refine And.intro (by omega) (And.intro ?_ ?_)
          · intro c8
            refine And.intro (True.intro) ?_
            exact ⟨_, rfl, by omega⟩
          · intro c9
            refine And.intro (True.intro) ?_
            exact ⟨_, rfl, (by first | exact ⟨by decide, by decide⟩ | omega)⟩
        · skip
          refine And.intro ⟨rfl, by decide, by decide⟩ ?_
          refine And.intro ⟨rfl, by decide, by decide⟩ (fgetf fb_1_6 h0 hB0 ?_)
          intro z10 lz10 uz10 qz10
          refine And.intro (True.intro) ?_
          exact ⟨_, rfl, (by first | exact ⟨lz10, uz10⟩ | omega)⟩
        · skip
          refine And.intro ⟨rfl, by decide, by decide⟩ ?_
          refine And.intro ⟨rfl, by decide, by decide⟩ (fgetf fb_1_9 h0 hB0 ?_)
          intro z11 lz11 uz11 qz11
          refine And.intro (True.intro) ?_
          exact ⟨_, rfl, (by first | exact ⟨lz11, uz11⟩ | omega)⟩
        · skip
          refine And.intro ⟨rfl, by decide, by decide⟩ ?_
          refine And.intro ⟨rfl, by decide, by decide⟩ ?_
          refine Exists.intro xm_71 (And.intro mi_71 (And.intro ⟨rfl, rfl, rfl, rfl⟩ (And.intro rfl ?_)))
          refine fcallp hB0 (ct_Cells_gasesOut_23490 (fBz h0 hB0)) ?_
          rintro _ ⟨z12, rfl, hz12⟩
          refine And.intro (True.intro) ?_
          exact ⟨_, rfl, (by first | exact ⟨hz12.1, hz12.2⟩ | omega)⟩
      · intro c13
        refine And.intro (True.intro) ?_
        exact ⟨_, rfl, (by first | exact ⟨by decide, by decide⟩ | omega)⟩
    · intro c14
      refine And.intro ⟨rfl, by decide, by decide⟩ ?_
      refine And.intro ⟨rfl, by decide, by decide⟩ ?_
      refine fload rL_182_182_0_5_1_0 h0 hB0 (by omega) ?_
      intro z15 lz15 uz15 qz15
      refine And.intro (True.intro) ?_
      exact ⟨_, rfl, (by first | exact ⟨lz15, uz15⟩ | omega)⟩
set_option maxRecDepth 8000 in
theorem ct_M_table_49021 {I : fH} {x1 : Int} (h0 : fB bsJ I) (ha1 : ((0 ≤ x1 ∧ x1 ≤ 2) ∧ (x1 - 0) % 2 ≤ 0)) : fC ρ base n F xTc vwCl xTys D dA la gJ (fbz bsJ znJ (fKc []) I) xm_281 [.inr (.inr (some 740)), .inl x1] I (fun _ r => ∃ z, r = some (.inl z) ∧ ((-2147483648) ≤ z ∧ z ≤ 2147483647)) := by
  have hW : fzs [] (fKc []) := fKc_ok _
  refine f_meth (rb := rbJ) (J := []) 1 400 xG xin_281 x6_281 okJ (fB_self h0) ?_ ?_
  · exact fun q h => absurd h List.not_mem_nil
  · have hB0 := fB_self (zn := znJ) (K := fKc []) h0
    refine And.intro ⟨rfl, by decide, by decide⟩ ?_
    refine Exists.intro xm_260 (And.intro mi_260 (And.intro ⟨rfl, rfl, rfl, rfl⟩ (And.intro rfl ?_)))
    refine fcallp hB0 (ct_M_level_daf8a (fBz h0 hB0)) ?_
    rintro _ ⟨z1, rfl, hz1⟩
    refine fload rL_741_741_1020_1202_122_60 h0 hB0 (by omega) ?_
    intro z2 lz2 uz2 qz2
    refine And.intro (True.intro) ?_
    exact ⟨_, rfl, (by first | exact ⟨lz2, uz2⟩ | omega)⟩
abbrev jc_M_lift_1d7b0_4 : Nat → fL → List fV → fH → Prop := fun m lv st I => ∃ (y1 : Int) (y3 : Int), lv = [(0, .inr (.inr (some 740))), (1, .inr (.inl y1)), (3, .inl y3)] ∧ st = [] ∧ ((((-9223372036854775808) ≤ y1 ∧ y1 ≤ 9223372036854775807) ∧ (0 ≤ y3 ∧ y3 ≤ 24))) ∧ m = (1 + 1 * (24 - y3) : Int).toNat
set_option maxRecDepth 8000 in
theorem ct_M_lift_1d7b0 {I : fH}  (h0 : fB bsJ I)  : fC ρ base n F xTc vwCl xTys D dA la gJ (fbz bsJ znJ (fKc []) I) xm_280 [.inr (.inr (some 740))] I (fun _ r => ∃ z, r = some (.inr (.inl z)) ∧ ((-9223372036854775808) ≤ z ∧ z ≤ 9223372036854775807)) := by
  have hW : fzs [] (fKc []) := fKc_ok _
  refine f_meth (rb := rbJ) (J := [(4, jc_M_lift_1d7b0_4)]) 26 400 xG xin_280 x6_280 okJ (fB_self h0) ?_ ?_
  · refine List.forall_mem_cons.mpr ⟨?_, fun q h => absurd h List.not_mem_nil⟩
    · rintro m _ _ I1 hB1 ⟨y1, y3, rfl, rfl, hb, hm⟩
      refine And.intro ⟨rfl, by decide, by decide⟩ ?_
      refine fload1 rL_741_741_7_7_1_0 h0 hB1 ⟨by decide, by decide⟩ (by first | exact ⟨by decide, by decide⟩ | omega) ?_
      intro z1 lz1 uz1 qz1
      have pz1 := fld_at qz1 7 (by omega)
      refine And.intro (And.intro (by first | exact fi_ hb.2.1 hb.2.2 rfl | omega) (by first | exact fi_ lz1 uz1 rfl | omega)) (And.intro ?_ ?_)
      · intro c2
        refine And.intro (True.intro) ?_
        exact ⟨_, rfl, (by first | exact ⟨hb.1.1, hb.1.2⟩ | omega)⟩
      · intro c3
        refine Exists.intro xm_267 (And.intro mi_267 (And.intro ⟨rfl, rfl, rfl, rfl⟩ (And.intro rfl ?_)))
        refine fcallp hB1 (ct_M_kindOf_31275 (fBz h0 hB1) (by first | exact ⟨hb.2.1, Int.le_trans (Int.le_sub_one_of_lt (Int.lt_of_lt_of_le c3 uz1)) (by decide)⟩ | omega)) ?_
        rintro _ ⟨z4, rfl, hz4, g0z4⟩
        refine And.intro (And.intro (by first | exact fi_ hz4.1 hz4.2 rfl | omega) (by first | exact ⟨by decide, by decide⟩ | omega)) (And.intro ?_ ?_)
        · intro c5
          intro z6 hz6 ez6 bz6
          exact fcutJ (I := I1) (j := jc_M_lift_1d7b0_4) (lv' := [(0, .inr (.inr (some 740))), (1, .inr (.inl _)), (3, .inl _)]) (And.intro rfl (And.intro rfl (And.intro rfl True.intro))) ⟨_, _, rfl, rfl, by omega, rfl⟩ (by omega)
        · intro c7
          refine Exists.intro xm_245 (And.intro mi_245 (And.intro ⟨rfl, rfl, rfl, rfl⟩ (And.intro rfl ?_)))
          refine fcallp hB1 (ct_M_isGone_0de37 (fBz h0 hB1) (by first | exact ⟨hb.2.1, Int.le_trans (Int.le_sub_one_of_lt (Int.lt_of_lt_of_le c3 uz1)) (by decide)⟩ | omega)) ?_
          rintro _ ⟨z8, rfl, hz8⟩
          refine And.intro (by omega) (And.intro ?_ ?_)
          · intro c9
            intro z10 hz10 ez10 bz10
            exact fcutJ (I := I1) (j := jc_M_lift_1d7b0_4) (lv' := [(0, .inr (.inr (some 740))), (1, .inr (.inl _)), (3, .inl _)]) (And.intro rfl (And.intro rfl (And.intro rfl True.intro))) ⟨_, _, rfl, rfl, by omega, rfl⟩ (by omega)
          · intro c11
            refine And.intro ⟨rfl, by decide, by decide⟩ ?_
            refine Exists.intro xm_244 (And.intro mi_244 (And.intro ⟨rfl, rfl, rfl, rfl⟩ (And.intro rfl ?_)))
            refine fcallp hB1 (ct_M_workAt_83d38 (fBz h0 hB1) (by first | exact ⟨hb.2.1, Int.le_trans (Int.le_sub_one_of_lt (Int.lt_of_lt_of_le c3 uz1)) (by decide)⟩ | omega)) ?_
            rintro _ ⟨_, rfl, rfl⟩
            refine fload rL_741_741_536_858_14_0 h0 hB1 (by omega) ?_
            intro z13 lz13 uz13 qz13
            refine And.intro (by first | exact fi_ lz13 uz13 rfl | omega) ?_
            refine Exists.intro xm_281 (And.intro mi_281 (And.intro ⟨rfl, rfl, rfl, rfl⟩ (And.intro rfl ?_)))
            refine fcallp hB1 (ct_M_table_49021 (fBz h0 hB1) (by omega)) ?_
            rintro _ ⟨z14, rfl, hz14⟩
            refine And.intro (by first | exact fi_ hz14.1 hz14.2 rfl | omega) ?_
            intro z15 hz15 ez15 bz15
            refine And.intro (And.intro (by omega) (by omega)) ?_
            intro z16 hz16 ez16
            intro z17 hz17 ez17 bz17
            exact fcutJ (I := I1) (j := jc_M_lift_1d7b0_4) (lv' := [(0, .inr (.inr (some 740))), (1, .inr (.inl _)), (3, .inl _)]) (And.intro rfl (And.intro rfl (And.intro rfl True.intro))) ⟨_, _, rfl, rfl, by omega, rfl⟩ (by omega)
  · have hB0 := fB_self (zn := znJ) (K := fKc []) h0
    exact fcutJ (I := I) (j := jc_M_lift_1d7b0_4) (lv' := [(0, .inr (.inr (some 740))), (1, .inr (.inl _)), (3, .inl _)]) (And.intro rfl (And.intro rfl (And.intro rfl True.intro))) ⟨_, _, rfl, rfl, by omega, rfl⟩ (by omega)
set_option maxRecDepth 8000 in
theorem ct_M_isDay_57f71 {I : fH} {x1 : Int} (h0 : fB bsJ I) (ha1 : ((-2147483648) ≤ x1 ∧ x1 ≤ 2147483647)) : fC ρ base n F xTc vwCl xTys D dA la gJ (fbz bsJ znJ (fKc []) I) xm_283 [.inr (.inr (some 740)), .inl x1] I (fun _ r => ∃ z, r = some (.inl z) ∧ (0 ≤ z ∧ z ≤ 1)) := by
  have hW : fzs [] (fKc []) := fKc_ok _
  refine f_meth (rb := rbJ) (J := []) 1 400 xG xin_283 x6_283 okJ (fB_self h0) ?_ ?_
  · exact fun q h => absurd h List.not_mem_nil
  · have hB0 := fB_self (zn := znJ) (K := fKc []) h0
    refine And.intro ⟨rfl, by decide, by decide⟩ ?_
    refine fload1 rL_741_741_3_3_1_0 h0 hB0 ⟨by decide, by decide⟩ (by first | exact ⟨by decide, by decide⟩ | omega) ?_
    intro z1 lz1 uz1 qz1
    have pz1 := fld_at qz1 3 (by omega)
    refine And.intro (And.intro (by first | exact fi_ ha1.1 ha1.2 rfl | omega) (And.intro (by first | exact fi_ lz1 uz1 rfl | omega) (And.intro (by omega) rfl))) ?_
    intro z2 hz2 ez2 dz2
    refine And.intro ⟨rfl, by decide, by decide⟩ ?_
    refine fload1 rL_741_741_3_3_1_0 h0 hB0 ⟨by decide, by decide⟩ (by first | exact ⟨by decide, by decide⟩ | omega) ?_
    intro z3 lz3 uz3 qz3
    have pz3 := fld_at qz3 3 (by omega)
    refine And.intro (And.intro (by first | exact fi_ lz3 uz3 rfl | omega) (And.intro (by first | exact ⟨by decide, by decide⟩ | omega) (And.intro (by first | exact by decide | omega) rfl))) ?_
    intro z4 hz4 ez4 dz4
    have dz4 := dz4 (by omega) (by omega)
    change _ = _ / _ at dz4
    refine And.intro (by omega) (And.intro ?_ ?_)
    · intro c5
      refine And.intro (⟨by omega, by omega⟩) ?_
      exact ⟨_, rfl, by omega⟩
    · intro c6
      refine And.intro (⟨by decide, by decide⟩) ?_
      exact ⟨_, rfl, (by first | exact ⟨by decide, by decide⟩ | omega)⟩
abbrev jc_M_weight_47499_4 : Nat → fL → List fV → fH → Prop := fun m lv st I => ∃ (y1 : Int) (y3 : Int), lv = [(0, .inr (.inr (some 740))), (1, .inr (.inl y1)), (3, .inl y3)] ∧ st = [] ∧ ((((-9223372036854775808) ≤ y1 ∧ y1 ≤ 9223372036854775807) ∧ (0 ≤ y3 ∧ y3 ≤ 24))) ∧ m = (158 + 1 * (24 - y3) : Int).toNat
abbrev jc_M_weight_47499_67 : Nat → fL → List fV → fH → Prop := fun m lv st I => ∃ (y1 : Int) (y3 : Int), lv = [(0, .inr (.inr (some 740))), (1, .inr (.inl y1)), (3, .inl y3)] ∧ st = [] ∧ ((((-9223372036854775808) ≤ y1 ∧ y1 ≤ 9223372036854775807) ∧ (0 ≤ y3 ∧ y3 ≤ 24))) ∧ m = (133 + 1 * (24 - y3) : Int).toNat
abbrev jc_M_weight_47499_107 : Nat → fL → List fV → fH → Prop := fun m lv st I => ∃ (y1 : Int) (y3 : Int) (y5 : Int), lv = [(0, .inr (.inr (some 740))), (1, .inr (.inl y1)), (3, .inr (.inl y3)), (5, .inl y5)] ∧ st = [] ∧ ((((-9223372036854775808) ≤ y1 ∧ y1 ≤ 9223372036854775807) ∧ ((-9223372036854775808) ≤ y3 ∧ y3 ≤ 9223372036854775807) ∧ (0 ≤ y5 ∧ y5 ≤ 5))) ∧ m = (127 + 1 * (5 - y5) : Int).toNat
abbrev jc_M_weight_47499_136 : Nat → fL → List fV → fH → Prop := fun m lv st I => ∃ (y1 : Int) (y3 : Int) (y5 : Int), lv = [(0, .inr (.inr (some 740))), (1, .inr (.inl y1)), (3, .inr (.inl y3)), (5, .inl y5)] ∧ st = [] ∧ ((((-9223372036854775808) ≤ y1 ∧ y1 ≤ 9223372036854775807) ∧ ((-9223372036854775808) ≤ y3 ∧ y3 ≤ 9223372036854775807) ∧ (0 ≤ y5 ∧ y5 ≤ 20))) ∧ m = (6 + 6 * (20 - y5) : Int).toNat
abbrev jc_M_weight_47499_150 : Nat → fL → List fV → fH → Prop := fun m lv st I => ∃ (y1 : Int) (y3 : Int) (y5 : Int) (y6 : Int), lv = [(0, .inr (.inr (some 740))), (1, .inr (.inl y1)), (3, .inr (.inl y3)), (5, .inl y5), (6, .inl y6)] ∧ st = [] ∧ ((((-9223372036854775808) ≤ y1 ∧ y1 ≤ 9223372036854775807) ∧ ((-9223372036854775808) ≤ y3 ∧ y3 ≤ 9223372036854775807) ∧ (0 ≤ y5 ∧ y5 ≤ 19) ∧ (0 ≤ y6 ∧ y6 ≤ 4) ∧ (1 ≤ I 741 5 ∧ I 741 5 ≤ 20))) ∧ m = (1 + 6 * (20 - y5) + 1 * (4 - y6) : Int).toNat
set_option maxRecDepth 8000 in
theorem ct_M_weight_47499 {I : fH}  (h0 : fB bsJ I)  : fC ρ base n F xTc vwCl xTys D dA la gJ (fbz bsJ znJ (fKc []) I) xm_282 [.inr (.inr (some 740))] I (fun _ r => ∃ z, r = some (.inr (.inl z)) ∧ ((-9223372036854775808) ≤ z ∧ z ≤ 9223372036854775807)) := by
  have hW : fzs [] (fKc []) := fKc_ok _
  refine f_meth (rb := rbJ) (J := [(4, jc_M_weight_47499_4), (67, jc_M_weight_47499_67), (107, jc_M_weight_47499_107), (136, jc_M_weight_47499_136), (150, jc_M_weight_47499_150)]) 183 400 xG xin_282 x6_282 okJ (fB_self h0) ?_ ?_
  · refine List.forall_mem_cons.mpr ⟨?_, List.forall_mem_cons.mpr ⟨?_, List.forall_mem_cons.mpr ⟨?_, List.forall_mem_cons.mpr ⟨?_, List.forall_mem_cons.mpr ⟨?_, fun q h => absurd h List.not_mem_nil⟩⟩⟩⟩⟩
    · rintro m _ _ I1 hB1 ⟨y1, y3, rfl, rfl, hb, hm⟩
      refine And.intro ⟨rfl, by decide, by decide⟩ ?_
      refine fload1 rL_741_741_7_7_1_0 h0 hB1 ⟨by decide, by decide⟩ (by first | exact ⟨by decide, by decide⟩ | omega) ?_
      intro z1 lz1 uz1 qz1
      have pz1 := fld_at qz1 7 (by omega)
      refine And.intro (And.intro (by first | exact fi_ hb.2.1 hb.2.2 rfl | omega) (by first | exact fi_ lz1 uz1 rfl | omega)) (And.intro ?_ ?_)
      · intro c2
        exact fcutJ (I := I1) (j := jc_M_weight_47499_67) (lv' := [(0, .inr (.inr (some 740))), (1, .inr (.inl _)), (3, .inl _)]) (And.intro rfl (And.intro rfl (And.intro rfl True.intro))) ⟨_, _, rfl, rfl, by omega, rfl⟩ (by omega)
      · intro c3
        refine Exists.intro xm_245 (And.intro mi_245 (And.intro ⟨rfl, rfl, rfl, rfl⟩ (And.intro rfl ?_)))
        refine fcallp hB1 (ct_M_isGone_0de37 (fBz h0 hB1) (by first | exact ⟨hb.2.1, Int.le_trans (Int.le_sub_one_of_lt (Int.lt_of_lt_of_le c3 uz1)) (by decide)⟩ | omega)) ?_
        rintro _ ⟨z4, rfl, hz4⟩
        refine And.intro (by omega) (And.intro ?_ ?_)
        · intro c5
          intro z6 hz6 ez6 bz6
          exact fcutJ (I := I1) (j := jc_M_weight_47499_4) (lv' := [(0, .inr (.inr (some 740))), (1, .inr (.inl _)), (3, .inl _)]) (And.intro rfl (And.intro rfl (And.intro rfl True.intro))) ⟨_, _, rfl, rfl, by omega, rfl⟩ (by omega)
        · intro c7
          refine And.intro ⟨rfl, by decide, by decide⟩ ?_
          refine Exists.intro xm_244 (And.intro mi_244 (And.intro ⟨rfl, rfl, rfl, rfl⟩ (And.intro rfl ?_)))
          refine fcallp hB1 (ct_M_workAt_83d38 (fBz h0 hB1) (by first | exact ⟨hb.2.1, Int.le_trans (Int.le_sub_one_of_lt (Int.lt_of_lt_of_le c3 uz1)) (by decide)⟩ | omega)) ?_
          rintro _ ⟨_, rfl, rfl⟩
          refine fload rL_741_741_539_861_14_0 h0 hB1 (by omega) ?_
          intro z9 lz9 uz9 qz9
          refine And.intro (by first | exact fi_ lz9 uz9 rfl | omega) (And.intro ?_ ?_)
          · intro c10
            intro z11 hz11 ez11 bz11
            exact fcutJ (I := I1) (j := jc_M_weight_47499_4) (lv' := [(0, .inr (.inr (some 740))), (1, .inr (.inl _)), (3, .inl _)]) (And.intro rfl (And.intro rfl (And.intro rfl True.intro))) ⟨_, _, rfl, rfl, by omega, rfl⟩ (by omega)
          · intro c12
            refine And.intro ⟨rfl, by decide, by decide⟩ ?_
            refine Exists.intro xm_244 (And.intro mi_244 (And.intro ⟨rfl, rfl, rfl, rfl⟩ (And.intro rfl ?_)))
            refine fcallp hB1 (ct_M_workAt_83d38 (fBz h0 hB1) (by first | exact ⟨hb.2.1, Int.le_trans (Int.le_sub_one_of_lt (Int.lt_of_lt_of_le c3 uz1)) (by decide)⟩ | omega)) ?_
            rintro _ ⟨_, rfl, rfl⟩
            refine fload rL_741_741_532_854_14_0 h0 hB1 (by omega) ?_
            intro z14 lz14 uz14 qz14
            refine And.intro (by first | exact fi_ lz14 uz14 rfl | omega) ?_
            intro z15 hz15 ez15 bz15
            exact fcutJ (I := I1) (j := jc_M_weight_47499_4) (lv' := [(0, .inr (.inr (some 740))), (1, .inr (.inl _)), (3, .inl _)]) (And.intro rfl (And.intro rfl (And.intro rfl True.intro))) ⟨_, _, rfl, rfl, by omega, rfl⟩ (by omega)
    · rintro m _ _ I1 hB1 ⟨y1, y3, rfl, rfl, hb, hm⟩
      refine And.intro ⟨rfl, by decide, by decide⟩ ?_
      refine fload1 rL_741_741_8_8_1_0 h0 hB1 ⟨by decide, by decide⟩ (by first | exact ⟨by decide, by decide⟩ | omega) ?_
      intro z16 lz16 uz16 qz16
      have pz16 := fld_at qz16 8 (by omega)
      refine And.intro (And.intro (by first | exact fi_ hb.2.1 hb.2.2 rfl | omega) (by first | exact fi_ lz16 uz16 rfl | omega)) (And.intro ?_ ?_)
      · intro c17
        exact fcutJ (I := I1) (j := jc_M_weight_47499_107) (lv' := [(0, .inr (.inr (some 740))), (1, .inr (.inl _)), (3, .inr (.inl _)), (5, .inl _)]) (And.intro rfl (And.intro rfl (And.intro rfl (And.intro rfl True.intro)))) ⟨_, _, _, rfl, rfl, by omega, rfl⟩ (by omega)
      · intro c18
        refine Exists.intro xm_248 (And.intro mi_248 (And.intro ⟨rfl, rfl, rfl, rfl⟩ (And.intro rfl ?_)))
        refine fcallp hB1 (ct_M_isDead_21e1a (fBz h0 hB1) (by first | exact ⟨hb.2.1, Int.le_trans (Int.le_sub_one_of_lt (Int.lt_of_lt_of_le c18 uz16)) (by decide)⟩ | omega)) ?_
        rintro _ ⟨z19, rfl, hz19⟩
        refine And.intro (by omega) (And.intro ?_ ?_)
        · intro c20
          intro z21 hz21 ez21 bz21
          exact fcutJ (I := I1) (j := jc_M_weight_47499_67) (lv' := [(0, .inr (.inr (some 740))), (1, .inr (.inl _)), (3, .inl _)]) (And.intro rfl (And.intro rfl (And.intro rfl True.intro))) ⟨_, _, rfl, rfl, by omega, rfl⟩ (by omega)
        · intro c22
          intro z23 hz23 ez23 bz23
          exact fcutJ (I := I1) (j := jc_M_weight_47499_67) (lv' := [(0, .inr (.inr (some 740))), (1, .inr (.inl _)), (3, .inl _)]) (And.intro rfl (And.intro rfl (And.intro rfl True.intro))) ⟨_, _, rfl, rfl, by omega, rfl⟩ (by omega)
    · rintro m _ _ I1 hB1 ⟨y1, y3, y5, rfl, rfl, hb, hm⟩
      refine And.intro (And.intro (by first | exact fi_ hb.2.2.1 hb.2.2.2 rfl | omega) (by first | exact ⟨by decide, by decide⟩ | omega)) (And.intro ?_ ?_)
      · intro c24
        exact fcutJ (I := I1) (j := jc_M_weight_47499_136) (lv' := [(0, .inr (.inr (some 740))), (1, .inr (.inl _)), (3, .inr (.inl _)), (5, .inl _)]) (And.intro rfl (And.intro rfl (And.intro rfl (And.intro rfl True.intro)))) ⟨_, _, _, rfl, rfl, by omega, rfl⟩ (by omega)
      · intro c25
        refine And.intro ⟨rfl, by decide, by decide⟩ ?_
        refine fload rL_741_741_17_21_1_0 h0 hB1 (by omega) ?_
        intro z26 lz26 uz26 qz26
        refine And.intro (by first | exact fi_ lz26 uz26 rfl | omega) ?_
        intro z27 hz27 ez27 bz27
        exact fcutJ (I := I1) (j := jc_M_weight_47499_107) (lv' := [(0, .inr (.inr (some 740))), (1, .inr (.inl _)), (3, .inr (.inl _)), (5, .inl _)]) (And.intro rfl (And.intro rfl (And.intro rfl (And.intro rfl True.intro)))) ⟨_, _, _, rfl, rfl, by omega, rfl⟩ (by omega)
    · rintro m _ _ I1 hB1 ⟨y1, y3, y5, rfl, rfl, hb, hm⟩
      refine And.intro ⟨rfl, by decide, by decide⟩ ?_
      refine fload1 rL_741_741_5_5_1_0 h0 hB1 ⟨by decide, by decide⟩ (by first | exact ⟨by decide, by decide⟩ | omega) ?_
      intro z28 lz28 uz28 qz28
      have pz28 := fld_at qz28 5 (by omega)
      refine And.intro (And.intro (by first | exact fi_ hb.2.2.1 hb.2.2.2 rfl | omega) (by first | exact fi_ lz28 uz28 rfl | omega)) (And.intro ?_ ?_)
      · intro c29
        refine And.intro (And.intro (by omega) (by omega)) ?_
        intro z30 hz30 ez30
        intro z31 hz31 ez31 bz31
        refine And.intro (True.intro) ?_
        exact ⟨_, rfl, by omega⟩
      · intro c32
        exact fcutJ (I := I1) (j := jc_M_weight_47499_150) (lv' := [(0, .inr (.inr (some 740))), (1, .inr (.inl _)), (3, .inr (.inl _)), (5, .inl _), (6, .inl _)]) (And.intro rfl (And.intro rfl (And.intro rfl (And.intro rfl (And.intro rfl True.intro))))) ⟨_, _, _, _, rfl, rfl, by omega, rfl⟩ (by omega)
    · rintro m _ _ I1 hB1 ⟨y1, y3, y5, y6, rfl, rfl, hb, hm⟩
      refine And.intro (And.intro (by first | exact fi_ hb.2.2.2.1.1 hb.2.2.2.1.2 rfl | omega) (by first | exact ⟨by decide, by decide⟩ | omega)) (And.intro ?_ ?_)
      · intro c33
        exact fcutJ (I := I1) (j := jc_M_weight_47499_136) (lv' := [(0, .inr (.inr (some 740))), (1, .inr (.inl _)), (3, .inr (.inl _)), (5, .inl _)]) (And.intro rfl (And.intro rfl (And.intro rfl (And.intro rfl True.intro)))) ⟨_, _, _, rfl, rfl, by omega, rfl⟩ (by omega)
      · intro c34
        refine And.intro ⟨rfl, by decide, by decide⟩ ?_
        refine Exists.intro xm_239 (And.intro mi_239 (And.intro ⟨rfl, rfl, rfl, rfl⟩ (And.intro rfl ?_)))
        refine fcallp hB1 (ct_M_cellAt_c15f4 (fBz h0 hB1) (by first | exact ⟨hb.2.2.1.1, hb.2.2.1.2⟩ | omega)) ?_
        rintro _ ⟨_, rfl, rfl⟩
        refine fload rL_741_741_31_414_1_0 h0 hB1 (by omega) ?_
        intro z36 lz36 uz36 qz36
        refine And.intro (by first | exact fi_ lz36 uz36 rfl | omega) ?_
        intro z37 hz37 ez37 bz37
        exact fcutJ (I := I1) (j := jc_M_weight_47499_150) (lv' := [(0, .inr (.inr (some 740))), (1, .inr (.inl _)), (3, .inr (.inl _)), (5, .inl _), (6, .inl _)]) (And.intro rfl (And.intro rfl (And.intro rfl (And.intro rfl (And.intro rfl True.intro))))) ⟨_, _, _, _, rfl, rfl, by omega, rfl⟩ (by omega)
  · have hB0 := fB_self (zn := znJ) (K := fKc []) h0
    exact fcutJ (I := I) (j := jc_M_weight_47499_4) (lv' := [(0, .inr (.inr (some 740))), (1, .inr (.inl _)), (3, .inl _)]) (And.intro rfl (And.intro rfl (And.intro rfl True.intro))) ⟨_, _, rfl, rfl, by omega, rfl⟩ (by omega)
abbrev jc_M_city_467ce_109 : Nat → fL → List fV → fH → Prop := fun m lv st I => ∃ (y2 : Int) (y3 : Int), lv = [(0, .inr (.inr (some 740))), (2, .inl y2), (3, .inl y3)] ∧ st = [] ∧ ((((-2147483648) ≤ y2 ∧ y2 ≤ 2147483647) ∧ (0 ≤ y3 ∧ y3 ≤ 20))) ∧ m = (6 + 6 * (20 - y3) : Int).toNat
abbrev jc_M_city_467ce_122 : Nat → fL → List fV → fH → Prop := fun m lv st I => ∃ (y2 : Int) (y3 : Int) (y4 : Int), lv = [(0, .inr (.inr (some 740))), (2, .inl y2), (3, .inl y3), (4, .inl y4)] ∧ st = [] ∧ ((((-2147483648) ≤ y2 ∧ y2 ≤ 2147483647) ∧ (0 ≤ y3 ∧ y3 ≤ 19) ∧ (0 ≤ y4 ∧ y4 ≤ 4) ∧ (1 ≤ I 741 5 ∧ I 741 5 ≤ 20))) ∧ m = (1 + 6 * (20 - y3) + 1 * (4 - y4) : Int).toNat
set_option maxRecDepth 8000 in
theorem ct_M_city_467ce {I : fH} {x1 : Int} (h0 : fB bsJ I) (ha1 : ((-2147483648) ≤ x1 ∧ x1 ≤ 2147483647)) : fC ρ base n F xTc vwCl xTys D dA la gJ (fbz bsJ znJ (fKc []) I) xm_279 [.inr (.inr (some 740)), .inl x1] I (fun _ r => ∃ z, r = some (.inl z) ∧ ((-2147483648) ≤ z ∧ z ≤ 2147483647)) := by
  have hW : fzs [] (fKc []) := fKc_ok _
  refine f_meth (rb := rbJ) (J := [(109, jc_M_city_467ce_109), (122, jc_M_city_467ce_122)]) 127 400 xG xin_279 x6_279 okJ (fB_self h0) ?_ ?_
  · refine List.forall_mem_cons.mpr ⟨?_, List.forall_mem_cons.mpr ⟨?_, fun q h => absurd h List.not_mem_nil⟩⟩
    · rintro m _ _ I1 hB1 ⟨y2, y3, rfl, rfl, hb, hm⟩
      refine And.intro ⟨rfl, by decide, by decide⟩ ?_
      refine fload1 rL_741_741_5_5_1_0 h0 hB1 ⟨by decide, by decide⟩ (by first | exact ⟨by decide, by decide⟩ | omega) ?_
      intro z1 lz1 uz1 qz1
      have pz1 := fld_at qz1 5 (by omega)
      refine And.intro (And.intro (by first | exact fi_ hb.2.1 hb.2.2 rfl | omega) (by first | exact fi_ lz1 uz1 rfl | omega)) (And.intro ?_ ?_)
      · intro c2
        refine And.intro (True.intro) ?_
        exact ⟨_, rfl, (by first | exact ⟨hb.1.1, hb.1.2⟩ | omega)⟩
      · intro c3
        exact fcutJ (I := I1) (j := jc_M_city_467ce_122) (lv' := [(0, .inr (.inr (some 740))), (2, .inl _), (3, .inl _), (4, .inl _)]) (And.intro rfl (And.intro rfl (And.intro rfl (And.intro rfl True.intro)))) ⟨_, _, _, rfl, rfl, by omega, rfl⟩ (by omega)
    · rintro m _ _ I1 hB1 ⟨y2, y3, y4, rfl, rfl, hb, hm⟩
      refine And.intro (And.intro (by first | exact fi_ hb.2.2.1.1 hb.2.2.1.2 rfl | omega) (by first | exact ⟨by decide, by decide⟩ | omega)) (And.intro ?_ ?_)
      · intro c4
        exact fcutJ (I := I1) (j := jc_M_city_467ce_109) (lv' := [(0, .inr (.inr (some 740))), (2, .inl _), (3, .inl _)]) (And.intro rfl (And.intro rfl (And.intro rfl True.intro))) ⟨_, _, rfl, rfl, by omega, rfl⟩ (by omega)
      · intro c5
        refine And.intro ⟨rfl, by decide, by decide⟩ ?_
        refine Exists.intro xm_239 (And.intro mi_239 (And.intro ⟨rfl, rfl, rfl, rfl⟩ (And.intro rfl ?_)))
        refine fcallp hB1 (ct_M_cellAt_c15f4 (fBz h0 hB1) (by first | exact ⟨hb.2.1.1, hb.2.1.2⟩ | omega)) ?_
        rintro _ ⟨_, rfl, rfl⟩
        refine fload rL_741_741_37_420_1_0 h0 hB1 (by omega) ?_
        intro z7 lz7 uz7 qz7
        intro z8 hz8 ez8 bz8
        clear ez8
        clear bz8
        exact fcutJ (I := I1) (j := jc_M_city_467ce_122) (lv' := [(0, .inr (.inr (some 740))), (2, .inl _), (3, .inl _), (4, .inl _)]) (And.intro rfl (And.intro rfl (And.intro rfl (And.intro rfl True.intro)))) ⟨_, _, _, rfl, rfl, by omega, rfl⟩ (by omega)
  · have hB0 := fB_self (zn := znJ) (K := fKc []) h0
    refine And.intro (by first | exact fi_ ha1.1 ha1.2 rfl | omega) (And.intro ?_ ?_)
    · refine And.intro (fun ex => ?_) (And.intro (fun ex => ?_) (And.intro (fun ex => ?_) (And.intro (fun ex => ?_) (And.intro (fun ex => ?_) (And.intro (fun ex => ?_) (And.intro (fun ex => ?_) (And.intro (fun ex => ?_) (True.intro))))))))
      · skip
        refine And.intro ⟨rfl, by decide, by decide⟩ ?_
        refine fload1 rL_741_741_1_1_1_0 h0 hB0 ⟨by decide, by decide⟩ (by first | exact ⟨by decide, by decide⟩ | omega) ?_
        intro z9 lz9 uz9 qz9
        have pz9 := fld_at qz9 1 (by omega)
        refine And.intro (True.intro) ?_
        exact ⟨_, rfl, (by first | exact ⟨Int.le_trans (by decide) lz9, Int.le_trans uz9 (by decide)⟩ | omega)⟩
      · skip
        refine Exists.intro xm_260 (And.intro mi_260 (And.intro ⟨rfl, rfl, rfl, rfl⟩ (And.intro rfl ?_)))
        refine fcallp hB0 (ct_M_level_daf8a (fBz h0 hB0)) ?_
        rintro _ ⟨z10, rfl, hz10⟩
        refine And.intro (True.intro) ?_
        exact ⟨_, rfl, (by first | exact ⟨Int.le_trans (by decide) hz10.1, Int.le_trans hz10.2 (by decide)⟩ | omega)⟩
      · skip
        refine Exists.intro xm_280 (And.intro mi_280 (And.intro ⟨rfl, rfl, rfl, rfl⟩ (And.intro rfl ?_)))
        refine fcallp hB0 (ct_M_lift_1d7b0 (fBz h0 hB0)) ?_
        rintro _ ⟨z11, rfl, hz11⟩
        intro z12 hz12 ez12 bz12
        clear ez12
        clear bz12
        refine And.intro (True.intro) ?_
        exact ⟨_, rfl, by omega⟩
      · skip
        refine Exists.intro xm_282 (And.intro mi_282 (And.intro ⟨rfl, rfl, rfl, rfl⟩ (And.intro rfl ?_)))
        refine fcallp hB0 (ct_M_weight_47499 (fBz h0 hB0)) ?_
        rintro _ ⟨z13, rfl, hz13⟩
        intro z14 hz14 ez14 bz14
        clear ez14
        clear bz14
        refine And.intro (True.intro) ?_
        exact ⟨_, rfl, by omega⟩
      · skip
        refine And.intro ⟨rfl, by decide, by decide⟩ ?_
        refine fload1 rL_741_741_2_2_1_0 h0 hB0 ⟨by decide, by decide⟩ (by first | exact ⟨by decide, by decide⟩ | omega) ?_
        intro z15 lz15 uz15 qz15
        have pz15 := fld_at qz15 2 (by omega)
        refine Exists.intro xm_283 (And.intro mi_283 (And.intro ⟨rfl, rfl, rfl, rfl⟩ (And.intro rfl ?_)))
        refine fcallp hB0 (ct_M_isDay_57f71 (fBz h0 hB0) (by first | exact ⟨lz15, uz15⟩ | omega)) ?_
        rintro _ ⟨z16, rfl, hz16⟩
        refine And.intro (by omega) (And.intro ?_ ?_)
        · intro c17
          refine And.intro (True.intro) ?_
          exact ⟨_, rfl, by omega⟩
        · intro c18
          refine And.intro (True.intro) ?_
          exact ⟨_, rfl, (by first | exact ⟨by decide, by decide⟩ | omega)⟩
      · skip
        refine And.intro ⟨rfl, by decide, by decide⟩ ?_
        refine fload1 rL_741_741_2_2_1_0 h0 hB0 ⟨by decide, by decide⟩ (by first | exact ⟨by decide, by decide⟩ | omega) ?_
        intro z19 lz19 uz19 qz19
        have pz19 := fld_at qz19 2 (by omega)
        refine And.intro (True.intro) ?_
        exact ⟨_, rfl, (by first | exact ⟨lz19, uz19⟩ | omega)⟩
      · skip
        refine And.intro ⟨rfl, by decide, by decide⟩ ?_
        refine fload1 rL_741_741_0_0_1_0 h0 hB0 ⟨by decide, by decide⟩ (by first | exact ⟨by decide, by decide⟩ | omega) ?_
        intro z20 lz20 uz20 qz20
        have pz20 := fld_at qz20 0 (by omega)
        refine And.intro (True.intro) ?_
        exact ⟨_, rfl, (by first | exact ⟨Int.le_trans (by decide) lz20, Int.le_trans uz20 (by decide)⟩ | omega)⟩
      · skip
        exact fcutJ (I := I) (j := jc_M_city_467ce_109) (lv' := [(0, .inr (.inr (some 740))), (2, .inl _), (3, .inl _)]) (And.intro rfl (And.intro rfl (And.intro rfl True.intro))) ⟨_, _, rfl, rfl, by omega, rfl⟩ (by omega)
    · intro c21
      refine And.intro (by first | exact fi_ ha1.1 ha1.2 rfl | omega) ?_
      refine Exists.intro xm_238 (And.intro mi_238 (And.intro ⟨rfl, rfl, rfl, rfl⟩ (And.intro True.intro ?_)))
      refine fcallp hB0 (ct_M_isIn_27230 (fBz h0 hB0) (by first | exact ⟨ha1.1, ha1.2⟩ | omega) (by first | exact ⟨by decide, by decide⟩ | omega) (by first | exact ⟨by decide, by decide⟩ | omega)) ?_
      rintro _ ⟨z22, rfl, hz22⟩
      refine And.intro (by omega) (And.intro ?_ ?_)
      · intro c23
        refine And.intro (True.intro) ?_
        exact ⟨_, rfl, by omega⟩
      · intro c24
        refine And.intro ⟨rfl, by decide, by decide⟩ ?_
        refine fload rL_741_741_17_22_1_0 h0 hB0 (by omega) ?_
        intro z25 lz25 uz25 qz25
        refine And.intro (True.intro) ?_
        exact ⟨_, rfl, (by first | exact ⟨lz25, uz25⟩ | omega)⟩
set_option maxRecDepth 8000 in
theorem ct_City_runRotor_c3465 {I : fH} {x1 : Int} (h0 : fB bsJ I) (ha1 : (0 ≤ x1 ∧ x1 ≤ 23)) : fC ρ base n F xTc vwCl xTys D dA la gJ (fbz bsJ znJ (fKc wz_1cc9b) I) xm_86 [.inr (.inr (some 1)), .inl x1] I (fun _ r => r = none) := by
  have hW : fzs wz_1cc9b (fKc wz_1cc9b) := fKc_ok _
  refine f_meth (rb := rbJ) (J := []) 1 400 xG xin_86 x6_86 okJ (fB_self h0) ?_ ?_
  · exact fun q h => absurd h List.not_mem_nil
  · have hB0 := fB_self (zn := znJ) (K := fKc wz_1cc9b) h0
    refine And.intro ⟨rfl, by decide, by decide⟩ ?_
    refine fload1 rL_182_182_0_5_1_0 h0 hB0 ⟨by decide, by decide⟩ (by first | exact ⟨by decide, by decide⟩ | omega) ?_
    intro z1 lz1 uz1 qz1
    have pz1 := fld_at qz1 5 (by omega)
    refine And.intro ⟨rfl, by decide, by decide⟩ ?_
    refine And.intro ⟨rfl, by decide, by decide⟩ ?_
    refine fload1 rL_171_171_0_23_1_0 h0 hB0 ⟨by decide, by decide⟩ (by first | exact ⟨ha1.1, ha1.2⟩ | omega) ?_
    intro z2 lz2 uz2 qz2
    refine And.intro (And.intro (by first | exact fi_ lz1 uz1 rfl | omega) (by first | exact fi_ lz2 uz2 rfl | omega)) (And.intro ?_ ?_)
    · intro c3
      exact rfl
    · intro c4
      refine And.intro ⟨rfl, by decide, by decide⟩ ?_
      refine fload1 rL_182_182_0_5_1_0 h0 hB0 ⟨by decide, by decide⟩ (by first | exact ⟨by decide, by decide⟩ | omega) ?_
      intro z5 lz5 uz5 qz5
      have pz5 := fld_at qz5 5 (by omega)
      refine And.intro ⟨rfl, by decide, by decide⟩ ?_
      refine And.intro ⟨rfl, by decide, by decide⟩ ?_
      refine fload1 rL_171_171_0_23_1_0 h0 hB0 ⟨by decide, by decide⟩ (by first | exact ⟨ha1.1, ha1.2⟩ | omega) ?_
      intro z6 lz6 uz6 qz6
      intro z7 hz7 ez7 bz7
      clear ez7
      clear bz7
      refine fstore1 rS_182_182_0_5_1_0 (fzs_sub (by decide +kernel) hW) ⟨by decide, by decide⟩ (by first | exact ⟨by decide, by decide⟩ | omega) (by omega) ?_
      intro IhB8 ehB8 hB8
      have t9 := fup_self ehB8
      have t10 := fup_at ehB8 5 (by first | rfl | omega)
      refine And.intro ⟨rfl, by decide, by decide⟩ (fgetf fb_1_6 h0 hB8 ?_)
      intro z11 lz11 uz11 qz11
      intro z12 hz12 ez12 bz12
      clear ez12
      clear bz12
      refine And.intro ⟨rfl, by decide, by decide⟩ (And.intro rfl (And.intro (Or.inl rfl) (fputf fb_1_6 (by decide +kernel) hW (by omega) ?_)))
      intro IhB13 ehB13 hB13
      have t14 : IhB13 182 5 = IhB8 182 5 := (congrFun (congrFun ehB13 182) 5).trans (fup_ne (by first | decide | omega))
      exact rfl
set_option maxRecDepth 8000 in
theorem ct_City_runProbe_4687a {I : fH} {x1 : Int} (h0 : fB bsJ I) (ha1 : (0 ≤ x1 ∧ x1 ≤ 23)) : fC ρ base n F xTc vwCl xTys D dA la gJ (fbz bsJ znJ (fKc wz_4543e) I) xm_87 [.inr (.inr (some 1)), .inl x1] I (fun _ r => r = none) := by
  have hW : fzs wz_4543e (fKc wz_4543e) := fKc_ok _
  refine f_meth (rb := rbJ) (J := []) 1 400 xG xin_87 x6_87 okJ (fB_self h0) ?_ ?_
  · exact fun q h => absurd h List.not_mem_nil
  · have hB0 := fB_self (zn := znJ) (K := fKc wz_4543e) h0
    refine And.intro ⟨rfl, by decide, by decide⟩ ?_
    refine Exists.intro xm_55 (And.intro mi_55 (And.intro ⟨rfl, rfl, rfl, rfl⟩ (And.intro rfl ?_)))
    refine fcallp hB0 (ct_Works_isDropped_adfda (fBz h0 hB0) (by first | exact ⟨ha1.1, ha1.2⟩ | omega)) ?_
    rintro _ ⟨z1, rfl, hz1⟩
    refine And.intro (by omega) (And.intro ?_ ?_)
    · intro c2
      exact rfl
    · intro c3
      refine And.intro ⟨rfl, by decide, by decide⟩ ?_
      refine And.intro ⟨rfl, by decide, by decide⟩ ?_
      refine And.intro ⟨rfl, by decide, by decide⟩ ?_
      refine And.intro ⟨rfl, by decide, by decide⟩ ?_
      refine fload1 rL_175_175_0_23_1_0 h0 hB0 ⟨by decide, by decide⟩ (by first | exact ⟨ha1.1, ha1.2⟩ | omega) ?_
      intro z4 lz4 uz4 qz4
      refine And.intro (And.intro (by first | exact ⟨by decide, by decide⟩ | omega) (And.intro (by omega) rfl)) ?_
      intro z5 hz5
      refine fstore1 rS_175_175_0_23_1_0 (fzs_sub (by decide +kernel) hW) ⟨by decide, by decide⟩ (by first | exact ⟨ha1.1, ha1.2⟩ | omega) (by omega) ?_
      intro IhB6 ehB6 hB6
      have t7 := fup_self ehB6
      refine And.intro ⟨rfl, by decide, by decide⟩ ?_
      refine And.intro ⟨rfl, by decide, by decide⟩ ?_
      refine fload1 rL_176_176_0_23_1_0 h0 hB6 ⟨by decide, by decide⟩ (by first | exact ⟨ha1.1, ha1.2⟩ | omega) ?_
      intro z8 lz8 uz8 qz8
      refine And.intro ⟨rfl, by decide, by decide⟩ ?_
      refine And.intro ⟨rfl, by decide⟩ (And.intro (by first | exact ⟨by decide, by decide⟩ | omega) ?_)
      refine And.intro ⟨rfl, by decide, by decide⟩ ?_
      refine And.intro ⟨rfl, by decide, by decide⟩ ?_
      refine fload1 rL_175_175_0_23_1_0 h0 hB6 ⟨by decide, by decide⟩ (by first | exact ⟨ha1.1, ha1.2⟩ | omega) ?_
      intro z9 lz9 uz9 qz9
      refine fload rL_185_185_0_60_1_0 h0 hB6 (by omega) ?_
      intro z10 lz10 uz10 qz10
      intro z11 hz11 ez11 bz11
      clear ez11
      clear bz11
      refine fstore1 rS_176_176_0_23_1_0 (fzs_sub (by decide +kernel) hW) ⟨by decide, by decide⟩ (by first | exact ⟨ha1.1, ha1.2⟩ | omega) (by omega) ?_
      intro IhB12 ehB12 hB12
      have t13 := fup_self ehB12
      refine And.intro ⟨rfl, by decide, by decide⟩ ?_
      refine And.intro ⟨rfl, by decide, by decide⟩ ?_
      refine And.intro ⟨rfl, by decide, by decide⟩ ?_
      refine And.intro ⟨rfl, by decide, by decide⟩ ?_
      refine fload1 rL_176_176_0_23_1_0 h0 hB12 ⟨by decide, by decide⟩ (by first | exact ⟨ha1.1, ha1.2⟩ | omega) ?_
      intro z14 lz14 uz14 qz14
      refine And.intro ⟨rfl, by decide, by decide⟩ ?_
      refine And.intro ⟨rfl, by decide, by decide⟩ ?_
      refine fload1 rL_171_171_0_23_1_0 h0 hB12 ⟨by decide, by decide⟩ (by first | exact ⟨ha1.1, ha1.2⟩ | omega) ?_
      intro z15 lz15 uz15 qz15
      refine And.intro (And.intro (by first | exact fi_ lz14 uz14 rfl | omega) (by first | exact fi_ lz15 uz15 rfl | omega)) (And.intro ?_ ?_)
      · intro c16
        refine fstore1 rS_174_174_0_23_1_0 (fzs_sub (by decide +kernel) hW) ⟨by decide, by decide⟩ (by first | exact ⟨ha1.1, ha1.2⟩ | omega) (by omega) ?_
        intro IhB17 ehB17 hB17
        have t18 := fup_self ehB17
        exact rfl
      · intro c19
        refine fstore1 rS_174_174_0_23_1_0 (fzs_sub (by decide +kernel) hW) ⟨by decide, by decide⟩ (by first | exact ⟨ha1.1, ha1.2⟩ | omega) (by first | exact ⟨by decide, by decide⟩ | omega) ?_
        intro IhB20 ehB20 hB20
        have t21 := fup_self ehB20
        exact rfl
set_option maxRecDepth 8000 in
theorem ct_Cells_addAir_1fa72 {I : fH} {x1 : Int} {x2 : Int} {x3 : Int} (h0 : fB bsJ I) (ha1 : (0 ≤ x1 ∧ x1 ≤ 19)) (ha2 : (0 ≤ x2 ∧ x2 ≤ 4)) (ha3 : ((-2147483648) ≤ x3 ∧ x3 ≤ 2147483647)) : fC ρ base n F xTc vwCl xTys D dA la gJ (fbz bsJ znJ (fKc wz_ed400) I) xm_84 [.inr (.inr (some 2)), .inl x1, .inl x2, .inl x3] I (fun _ r => r = none) := by
  have hW : fzs wz_ed400 (fKc wz_ed400) := fKc_ok _
  refine f_meth (rb := rbJ) (J := []) 1 400 xG xin_84 x6_84 okJ (fB_self h0) ?_ ?_
  · exact fun q h => absurd h List.not_mem_nil
  · have hB0 := fB_self (zn := znJ) (K := fKc wz_ed400) h0
    refine And.intro ⟨rfl, by decide, by decide⟩ ?_
    refine And.intro ⟨rfl, by decide⟩ (And.intro (by first | exact ⟨ha1.1, Int.lt_of_le_of_lt ha1.2 (by decide)⟩ | omega) ?_)
    refine fload rL_6_25_0_4_1_0 h0 hB0 (by omega) ?_
    intro z1 lz1 uz1 qz1
    intro z2 hz2 ez2 bz2
    clear ez2
    clear bz2
    refine And.intro ⟨rfl, by decide, by decide⟩ ?_
    refine And.intro ⟨rfl, by decide⟩ (And.intro (by first | exact ⟨ha1.1, Int.lt_of_le_of_lt ha1.2 (by decide)⟩ | omega) ?_)
    refine And.intro (And.intro (by omega) (And.intro (by first | exact ⟨by decide, by decide⟩ | omega) rfl)) ?_
    intro z3 hz3
    refine fstore rS_6_25_0_4_1_0 (fzs_sub (by decide +kernel) hW) (by omega) (by omega) ?_
    intro IhB4 ehB4 hB4
    have t5 := fup_self ehB4
    refine And.intro (by omega) (And.intro ?_ ?_)
    · intro c6
      exact rfl
    · intro c7
      refine And.intro ⟨rfl, by decide, by decide⟩ ?_
      refine And.intro ⟨rfl, by decide⟩ (And.intro (by first | exact ⟨ha1.1, Int.lt_of_le_of_lt ha1.2 (by decide)⟩ | omega) ?_)
      refine fload rL_27_46_0_4_1_0 h0 hB4 (by omega) ?_
      intro z8 lz8 uz8 qz8
      intro z9 hz9 ez9 bz9
      clear ez9
      clear bz9
      refine fstore rS_27_46_0_4_1_0 (fzs_sub (by decide +kernel) hW) (by omega) (by omega) ?_
      intro IhB10 ehB10 hB10
      have t11 := fup_self ehB10
      exact rfl
set_option maxRecDepth 8000 in
theorem ct_Works_partForFoul_f7a9f {I : fH} {x1 : Int} (h0 : fB bsJ I) (ha1 : (0 ≤ x1 ∧ x1 ≤ 23)) : fC ρ base n F xTc vwCl xTys D dA la gJ (fbz bsJ znJ (fKc []) I) xm_83 [.inr (.inr (some 163)), .inl x1] I (fun _ r => ∃ z, r = some (.inl z) ∧ ((-2147483648) ≤ z ∧ z ≤ 2147483647)) := by
  have hW : fzs [] (fKc []) := fKc_ok _
  refine f_meth (rb := rbJ) (J := []) 1 400 xG xin_83 x6_83 okJ (fB_self h0) ?_ ?_
  · exact fun q h => absurd h List.not_mem_nil
  · have hB0 := fB_self (zn := znJ) (K := fKc []) h0
    refine And.intro ⟨rfl, by decide, by decide⟩ ?_
    refine fload1 rL_171_171_0_23_1_0 h0 hB0 ⟨by decide, by decide⟩ (by first | exact ⟨ha1.1, ha1.2⟩ | omega) ?_
    intro z1 lz1 uz1 qz1
    refine And.intro ⟨rfl, by decide, by decide⟩ ?_
    refine fload1 rL_168_168_0_23_1_0 h0 hB0 ⟨by decide, by decide⟩ (by first | exact ⟨ha1.1, ha1.2⟩ | omega) ?_
    intro z2 lz2 uz2 qz2
    intro z3 hz3 ez3 bz3
    clear ez3
    clear bz3
    intro z4 hz4 ez4 bz4
    clear ez4
    clear bz4
    refine And.intro (And.intro (by omega) (And.intro (by first | exact ⟨by decide, by decide⟩ | omega) (And.intro (by first | exact by decide | omega) rfl))) ?_
    intro z5 hz5 ez5 dz5
    refine And.intro (True.intro) ?_
    exact ⟨_, rfl, by omega⟩
set_option maxRecDepth 8000 in
theorem ct_City_runGarden_95dd6 {I : fH} {x1 : Int} (h0 : fB bsJ I) (ha1 : (0 ≤ x1 ∧ x1 ≤ 23)) : fC ρ base n F xTc vwCl xTys D dA la gJ (fbz bsJ znJ (fKc wz_ed400) I) xm_82 [.inr (.inr (some 1)), .inl x1] I (fun _ r => r = none) := by
  have hW : fzs wz_ed400 (fKc wz_ed400) := fKc_ok _
  refine f_meth (rb := rbJ) (J := []) 1 400 xG xin_82 x6_82 okJ (fB_self h0) ?_ ?_
  · exact fun q h => absurd h List.not_mem_nil
  · have hB0 := fB_self (zn := znJ) (K := fKc wz_ed400) h0
    refine Exists.intro xm_69 (And.intro mi_69 (And.intro ⟨rfl, rfl, rfl, rfl⟩ (And.intro rfl ?_)))
    refine fcallp hB0 (ct_City_isDay_fb0d1 (fBz h0 hB0)) ?_
    rintro _ ⟨z1, rfl, hz1⟩
    refine And.intro (by omega) (And.intro ?_ ?_)
    · intro c2
      refine And.intro ⟨rfl, by decide, by decide⟩ ?_
      refine And.intro ⟨rfl, by decide, by decide⟩ ?_
      refine fload1 rL_165_165_0_23_1_0 h0 hB0 ⟨by decide, by decide⟩ (by first | exact ⟨ha1.1, ha1.2⟩ | omega) ?_
      intro z3 lz3 uz3 qz3
      refine And.intro ⟨rfl, by decide, by decide⟩ ?_
      refine Exists.intro xm_83 (And.intro mi_83 (And.intro ⟨rfl, rfl, rfl, rfl⟩ (And.intro rfl ?_)))
      refine fcallp hB0 (ct_Works_partForFoul_f7a9f (fBz h0 hB0) (by first | exact ⟨ha1.1, ha1.2⟩ | omega)) ?_
      rintro _ ⟨z4, rfl, hz4⟩
      refine And.intro ⟨rfl, by decide, by decide⟩ ?_
      refine And.intro ⟨rfl, by decide, by decide⟩ ?_
      refine And.intro ⟨rfl, by decide⟩ (And.intro (by first | exact ⟨lz3, Int.lt_of_le_of_lt uz3 (by decide)⟩ | omega) ?_)
      refine fload rL_6_25_0_4_1_0 h0 hB0 (by omega) ?_
      intro z5 lz5 uz5 qz5
      refine And.intro (And.intro (by first | exact fi_ hz4.1 hz4.2 rfl | omega) (And.intro (by first | exact fi_ lz5 uz5 rfl | omega) rfl)) ?_
      intro z6 hz6
      refine And.intro ⟨rfl, by decide, by decide⟩ ?_
      refine And.intro ⟨rfl, by decide, by decide⟩ ?_
      refine And.intro ⟨rfl, by decide⟩ (And.intro (by first | exact ⟨lz3, Int.lt_of_le_of_lt uz3 (by decide)⟩ | omega) ?_)
      refine fload rL_6_25_0_4_1_0 h0 hB0 (by omega) ?_
      intro z7 lz7 uz7 qz7
      intro z8 hz8 ez8 bz8
      clear ez8
      clear bz8
      refine fstore rS_6_25_0_4_1_0 (fzs_sub (by decide +kernel) hW) (by omega) (by omega) ?_
      intro IhB9 ehB9 hB9
      have t10 := fup_self ehB9
      refine And.intro ⟨rfl, by decide, by decide⟩ ?_
      refine Exists.intro xm_84 (And.intro mi_84 (And.intro ⟨rfl, rfl, rfl, rfl⟩ (And.intro rfl ?_)))
      refine fcall _ h0 (fzs_sub (by decide +kernel) hW) hB9 (ct_Cells_addAir_1fa72 (fBz h0 hB9) (by first | exact ⟨lz3, uz3⟩ | omega) (by first | exact ⟨by decide, by decide⟩ | omega) (by omega)) ?_
      rintro IhB12 _ hB12 fhB12 rfl
      exact rfl
    · intro c13
      exact rfl
set_option maxRecDepth 8000 in
theorem ct_Works_wear_df87e {I : fH} {x1 : Int} {x2 : Int} (h0 : fB bsJ I) (ha1 : (0 ≤ x1 ∧ x1 ≤ 23)) (ha2 : ((-2147483648) ≤ x2 ∧ x2 ≤ 2147483647)) : fC ρ base n F xTc vwCl xTys D dA la gJ (fbz bsJ znJ (fKc wz_213b7) I) xm_80 [.inr (.inr (some 163)), .inl x1, .inl x2] I (fun _ r => r = none) := by
  have hW : fzs wz_213b7 (fKc wz_213b7) := fKc_ok _
  refine f_meth (rb := rbJ) (J := []) 1 400 xG xin_80 x6_80 okJ (fB_self h0) ?_ ?_
  · exact fun q h => absurd h List.not_mem_nil
  · have hB0 := fB_self (zn := znJ) (K := fKc wz_213b7) h0
    refine And.intro ⟨rfl, by decide, by decide⟩ ?_
    refine fload1 rL_173_173_0_23_1_0 h0 hB0 ⟨by decide, by decide⟩ (by first | exact ⟨ha1.1, ha1.2⟩ | omega) ?_
    intro z1 lz1 uz1 qz1
    intro z2 hz2 ez2 bz2
    clear ez2
    try replace bz2 := bz2 (by omega)
    refine And.intro (And.intro (by omega) (And.intro (by first | exact ⟨by decide, by decide⟩ | omega) (And.intro (by first | exact by decide | omega) rfl))) ?_
    intro z3 hz3 ez3 dz3
    refine And.intro ⟨rfl, by decide, by decide⟩ ?_
    refine fload1 rL_171_171_0_23_1_0 h0 hB0 ⟨by decide, by decide⟩ (by first | exact ⟨ha1.1, ha1.2⟩ | omega) ?_
    intro z4 lz4 uz4 qz4
    refine And.intro (And.intro (by omega) (And.intro (by first | exact fi_ lz4 uz4 rfl | omega) rfl)) ?_
    intro z5 hz5
    refine And.intro ⟨rfl, by decide, by decide⟩ ?_
    refine fload1 rL_171_171_0_23_1_0 h0 hB0 ⟨by decide, by decide⟩ (by first | exact ⟨ha1.1, ha1.2⟩ | omega) ?_
    intro z6 lz6 uz6 qz6
    intro z7 hz7 ez7 bz7
    clear ez7
    try replace bz7 := bz7 (by omega)
    refine fstore1 rS_171_171_0_23_1_0 (fzs_sub (by decide +kernel) hW) ⟨by decide, by decide⟩ (by first | exact ⟨ha1.1, ha1.2⟩ | omega) (by omega) ?_
    intro IhB8 ehB8 hB8
    have t9 := fup_self ehB8
    intro z10 hz10 ez10 bz10
    clear ez10
    try replace bz10 := bz10 (by omega)
    intro z11 hz11 ez11 bz11
    clear ez11
    try replace bz11 := bz11 (by omega)
    refine And.intro ⟨rfl, by decide, by decide⟩ ?_
    refine And.intro (And.intro (by omega) (And.intro (by first | exact ⟨by decide, by decide⟩ | omega) rfl)) ?_
    intro z12 hz12
    refine fstore1 rS_173_173_0_23_1_0 (fzs_sub (by decide +kernel) hW) ⟨by decide, by decide⟩ (by first | exact ⟨ha1.1, ha1.2⟩ | omega) (by omega) ?_
    intro IhB13 ehB13 hB13
    have t14 := fup_self ehB13
    exact rfl
abbrev jc_Works_isPatched_cee43_2 : Nat → fL → List fV → fH → Prop := fun m lv st I => ∃ (y1 : Int) (y2 : Int), lv = [(0, .inr (.inr (some 163))), (1, .inl y1), (2, .inl y2)] ∧ st = [] ∧ (((0 ≤ y1 ∧ y1 ≤ 23) ∧ (0 ≤ y2 ∧ y2 ≤ 24))) ∧ m = (1 + 1 * (24 - y2) : Int).toNat
set_option maxRecDepth 8000 in
theorem ct_Works_isPatched_cee43 {I : fH} {x1 : Int} (h0 : fB bsJ I) (ha1 : (0 ≤ x1 ∧ x1 ≤ 23)) : fC ρ base n F xTc vwCl xTys D dA la gJ (fbz bsJ znJ (fKc []) I) xm_79 [.inr (.inr (some 163)), .inl x1] I (fun _ r => ∃ z, r = some (.inl z) ∧ (0 ≤ z ∧ z ≤ 1)) := by
  have hW : fzs [] (fKc []) := fKc_ok _
  refine f_meth (rb := rbJ) (J := [(2, jc_Works_isPatched_cee43_2)]) 26 400 xG xin_79 x6_79 okJ (fB_self h0) ?_ ?_
  · refine List.forall_mem_cons.mpr ⟨?_, fun q h => absurd h List.not_mem_nil⟩
    · rintro m _ _ I1 hB1 ⟨y1, y2, rfl, rfl, hb, hm⟩
      refine And.intro ⟨rfl, by decide, by decide⟩ (fgetf fb_163_13 h0 hB1 ?_)
      intro z1 lz1 uz1 qz1
      refine And.intro (And.intro (by first | exact fi_ hb.2.1 hb.2.2 rfl | omega) (by first | exact fi_ lz1 uz1 rfl | omega)) (And.intro ?_ ?_)
      · intro c2
        refine And.intro (⟨by decide, by decide⟩) ?_
        exact ⟨_, rfl, (by first | exact ⟨by decide, by decide⟩ | omega)⟩
      · intro c3
        refine And.intro ⟨rfl, by decide, by decide⟩ ?_
        refine fload1 rL_164_164_0_23_1_0 h0 hB1 ⟨by decide, by decide⟩ (by first | exact ⟨hb.2.1, Int.le_trans (Int.le_sub_one_of_lt (Int.lt_of_lt_of_le c3 uz1)) (by decide)⟩ | omega) ?_
        intro z4 lz4 uz4 qz4
        refine And.intro (And.intro (by first | exact fi_ lz4 uz4 rfl | omega) (by first | exact ⟨by decide, by decide⟩ | omega)) (And.intro ?_ ?_)
        · intro c5
          exact fcutJ (I := I1) (j := jc_Works_isPatched_cee43_2) (lv' := [(0, .inr (.inr (some 163))), (1, .inl _), (2, .inl _)]) (And.intro rfl (And.intro rfl (And.intro rfl True.intro))) ⟨_, _, rfl, rfl, by omega, rfl⟩ (by omega)
        · intro c6
          refine And.intro ⟨rfl, by decide, by decide⟩ ?_
          refine fload1 rL_171_171_0_23_1_0 h0 hB1 ⟨by decide, by decide⟩ (by first | exact ⟨hb.2.1, Int.le_trans (Int.le_sub_one_of_lt (Int.lt_of_lt_of_le c3 uz1)) (by decide)⟩ | omega) ?_
          intro z7 lz7 uz7 qz7
          refine And.intro (And.intro (by first | exact fi_ lz7 uz7 rfl | omega) (by first | exact fi_ hb.1.1 hb.1.2 rfl | omega)) (And.intro ?_ ?_)
          · intro c8
            exact fcutJ (I := I1) (j := jc_Works_isPatched_cee43_2) (lv' := [(0, .inr (.inr (some 163))), (1, .inl _), (2, .inl _)]) (And.intro rfl (And.intro rfl (And.intro rfl True.intro))) ⟨_, _, rfl, rfl, by omega, rfl⟩ (by omega)
          · intro c9
            refine And.intro ⟨rfl, by decide, by decide⟩ ?_
            refine fload1 rL_167_167_0_23_1_0 h0 hB1 ⟨by decide, by decide⟩ (by first | exact ⟨hb.2.1, Int.le_trans (Int.le_sub_one_of_lt (Int.lt_of_lt_of_le c3 uz1)) (by decide)⟩ | omega) ?_
            intro z10 lz10 uz10 qz10
            refine And.intro (And.intro (by first | exact fi_ lz10 uz10 rfl | omega) (by first | exact ⟨by decide, by decide⟩ | omega)) (And.intro ?_ ?_)
            · intro c11
              exact fcutJ (I := I1) (j := jc_Works_isPatched_cee43_2) (lv' := [(0, .inr (.inr (some 163))), (1, .inl _), (2, .inl _)]) (And.intro rfl (And.intro rfl (And.intro rfl True.intro))) ⟨_, _, rfl, rfl, by omega, rfl⟩ (by omega)
            · intro c12
              refine And.intro ⟨rfl, by decide, by decide⟩ ?_
              refine fload1 rL_174_174_0_23_1_0 h0 hB1 ⟨by decide, by decide⟩ (by first | exact ⟨hb.2.1, Int.le_trans (Int.le_sub_one_of_lt (Int.lt_of_lt_of_le c3 uz1)) (by decide)⟩ | omega) ?_
              intro z13 lz13 uz13 qz13
              refine And.intro (by first | exact fi_ lz13 uz13 rfl | omega) (And.intro ?_ ?_)
              · intro c14
                exact fcutJ (I := I1) (j := jc_Works_isPatched_cee43_2) (lv' := [(0, .inr (.inr (some 163))), (1, .inl _), (2, .inl _)]) (And.intro rfl (And.intro rfl (And.intro rfl True.intro))) ⟨_, _, rfl, rfl, by omega, rfl⟩ (by omega)
              · intro c15
                refine And.intro (⟨by decide, by decide⟩) ?_
                exact ⟨_, rfl, (by first | exact ⟨by decide, by decide⟩ | omega)⟩
  · have hB0 := fB_self (zn := znJ) (K := fKc []) h0
    exact fcutJ (I := I) (j := jc_Works_isPatched_cee43_2) (lv' := [(0, .inr (.inr (some 163))), (1, .inl _), (2, .inl _)]) (And.intro rfl (And.intro rfl (And.intro rfl True.intro))) ⟨_, _, rfl, rfl, by omega, rfl⟩ (by omega)
set_option maxRecDepth 8000 in
theorem ct_City_loseGas_68982 {I : fH} {x1 : Int} {x2 : Int} (h0 : fB bsJ I) (ha1 : (0 ≤ x1 ∧ x1 ≤ 23)) (ha2 : ((-2147483648) ≤ x2 ∧ x2 ≤ 2147483647)) : fC ρ base n F xTc vwCl xTys D dA la gJ (fbz bsJ znJ (fKc wz_de755) I) xm_81 [.inr (.inr (some 1)), .inl x1, .inl x2] I (fun _ r => r = none) := by
  have hW : fzs wz_de755 (fKc wz_de755) := fKc_ok _
  refine f_meth (rb := rbJ) (J := []) 1 400 xG xin_81 x6_81 okJ (fB_self h0) ?_ ?_
  · exact fun q h => absurd h List.not_mem_nil
  · have hB0 := fB_self (zn := znJ) (K := fKc wz_de755) h0
    refine And.intro ⟨rfl, by decide, by decide⟩ ?_
    refine And.intro ⟨rfl, by decide, by decide⟩ ?_
    refine fload1 rL_172_172_0_23_1_0 h0 hB0 ⟨by decide, by decide⟩ (by first | exact ⟨ha1.1, ha1.2⟩ | omega) ?_
    intro z1 lz1 uz1 qz1
    intro z2 hz2 ez2 bz2
    clear ez2
    clear bz2
    refine fstore1 rS_172_172_0_23_1_0 (fzs_sub (by decide +kernel) hW) ⟨by decide, by decide⟩ (by first | exact ⟨ha1.1, ha1.2⟩ | omega) (by omega) ?_
    intro IhB3 ehB3 hB3
    have t4 := fup_self ehB3
    refine And.intro ⟨rfl, by decide, by decide⟩ ?_
    refine And.intro ⟨rfl, by decide, by decide⟩ ?_
    refine And.intro ⟨rfl, by decide, by decide⟩ ?_
    refine And.intro ⟨rfl, by decide, by decide⟩ ?_
    refine fload1 rL_165_165_0_23_1_0 h0 hB3 ⟨by decide, by decide⟩ (by first | exact ⟨ha1.1, ha1.2⟩ | omega) ?_
    intro z5 lz5 uz5 qz5
    refine And.intro ⟨rfl, by decide⟩ (And.intro (by first | exact ⟨lz5, Int.lt_of_le_of_lt uz5 (by decide)⟩ | omega) ?_)
    refine fload rL_27_46_0_4_1_0 h0 hB3 (by omega) ?_
    intro z6 lz6 uz6 qz6
    intro z7 hz7 ez7 bz7
    clear ez7
    clear bz7
    refine fstore rS_27_46_0_4_1_0 (fzs_sub (by decide +kernel) hW) (by omega) (by omega) ?_
    intro IhB8 ehB8 hB8
    have t9 := fup_self ehB8
    exact rfl
set_option maxRecDepth 8000 in
theorem ct_City_runSkin_7959e {I : fH} {x1 : Int} (h0 : fB bsJ I) (ha1 : (0 ≤ x1 ∧ x1 ≤ 23)) : fC ρ base n F xTc vwCl xTys D dA la gJ (fbz bsJ znJ (fKc wz_65a7b) I) xm_78 [.inr (.inr (some 1)), .inl x1] I (fun _ r => r = none) := by
  have hW : fzs wz_65a7b (fKc wz_65a7b) := fKc_ok _
  refine f_meth (rb := rbJ) (J := []) 1 400 xG xin_78 x6_78 okJ (fB_self h0) ?_ ?_
  · exact fun q h => absurd h List.not_mem_nil
  · have hB0 := fB_self (zn := znJ) (K := fKc wz_65a7b) h0
    refine And.intro ⟨rfl, by decide, by decide⟩ ?_
    refine Exists.intro xm_79 (And.intro mi_79 (And.intro ⟨rfl, rfl, rfl, rfl⟩ (And.intro rfl ?_)))
    refine fcallp hB0 (ct_Works_isPatched_cee43 (fBz h0 hB0) (by first | exact ⟨ha1.1, ha1.2⟩ | omega)) ?_
    rintro _ ⟨z1, rfl, hz1⟩
    refine And.intro (by omega) (And.intro ?_ ?_)
    · intro c2
      refine And.intro ⟨rfl, by decide, by decide⟩ ?_
      refine And.intro ⟨rfl, by decide, by decide⟩ ?_
      refine And.intro ⟨rfl, by decide⟩ (And.intro (by first | exact ⟨by decide, by decide⟩ | omega) ?_)
      refine Exists.intro xm_31 (And.intro mi_31 (And.intro ⟨rfl, rfl, rfl, rfl⟩ (And.intro rfl ?_)))
      refine fcallp hB0 (ct_City_level_61deb (fBz h0 hB0)) ?_
      rintro _ ⟨z3, rfl, hz3⟩
      refine fload1 rL_186_186_0_60_1_0 h0 hB0 ⟨by decide, by decide⟩ (by first | exact ⟨hz3.1, hz3.2⟩ | omega) ?_
      intro z4 lz4 uz4 qz4
      refine And.intro (And.intro (by first | exact fi_ lz4 uz4 rfl | omega) (And.intro (by first | exact ⟨by decide, by decide⟩ | omega) (And.intro (by first | exact by decide | omega) rfl))) ?_
      intro z5 hz5 ez5 dz5
      refine Exists.intro xm_80 (And.intro mi_80 (And.intro ⟨rfl, rfl, rfl, rfl⟩ (And.intro rfl ?_)))
      refine fcall _ h0 (fzs_sub (by decide +kernel) hW) hB0 (ct_Works_wear_df87e (fBz h0 hB0) (by first | exact ⟨ha1.1, ha1.2⟩ | omega) (by omega)) ?_
      rintro IhB7 _ hB7 fhB7 rfl
      refine And.intro ⟨rfl, by decide, by decide⟩ ?_
      refine And.intro ⟨rfl, by decide, by decide⟩ ?_
      refine fload1 rL_171_171_0_23_1_0 h0 hB7 ⟨by decide, by decide⟩ (by first | exact ⟨ha1.1, ha1.2⟩ | omega) ?_
      intro z8 lz8 uz8 qz8
      refine And.intro (by first | exact fi_ lz8 uz8 rfl | omega) (And.intro ?_ ?_)
      · intro c9
        exact rfl
      · intro c10
        refine And.intro ⟨rfl, by decide, by decide⟩ ?_
        refine And.intro ⟨rfl, by decide, by decide⟩ ?_
        refine fload1 rL_172_172_0_23_1_0 h0 hB7 ⟨by decide, by decide⟩ (by first | exact ⟨ha1.1, ha1.2⟩ | omega) ?_
        intro z11 lz11 uz11 qz11
        refine And.intro (And.intro (by first | exact fi_ lz11 uz11 rfl | omega) (And.intro (by first | exact ⟨by decide, by decide⟩ | omega) (And.intro (by first | exact by decide | omega) rfl))) ?_
        intro z12 hz12 ez12 dz12
        intro z13 hz13 ez13 bz13
        clear ez13
        clear bz13
        refine And.intro (And.intro (by first | exact fi_ lz11 uz11 rfl | omega) (And.intro (by omega) rfl)) ?_
        intro z14 hz14
        refine Exists.intro xm_81 (And.intro mi_81 (And.intro ⟨rfl, rfl, rfl, rfl⟩ (And.intro rfl ?_)))
        refine fcall _ h0 (fzs_sub (by decide +kernel) hW) hB7 (ct_City_loseGas_68982 (fBz h0 hB7) (by first | exact ⟨ha1.1, ha1.2⟩ | omega) (by omega)) ?_
        rintro IhB16 _ hB16 fhB16 rfl
        exact rfl
    · intro c17
      exact rfl
set_option maxRecDepth 8000 in
theorem ct_City_runStill_e1f2a {I : fH} {x1 : Int} (h0 : fB bsJ I) (ha1 : (0 ≤ x1 ∧ x1 ≤ 23)) : fC ρ base n F xTc vwCl xTys D dA la gJ (fbz bsJ znJ (fKc wz_abae9) I) xm_85 [.inr (.inr (some 1)), .inl x1] I (fun _ r => r = none) := by
  have hW : fzs wz_abae9 (fKc wz_abae9) := fKc_ok _
  refine f_meth (rb := rbJ) (J := []) 1 400 xG xin_85 x6_85 okJ (fB_self h0) ?_ ?_
  · exact fun q h => absurd h List.not_mem_nil
  · have hB0 := fB_self (zn := znJ) (K := fKc wz_abae9) h0
    refine And.intro ⟨rfl, by decide, by decide⟩ ?_
    refine fload1 rL_182_182_0_5_1_0 h0 hB0 ⟨by decide, by decide⟩ (by first | exact ⟨by decide, by decide⟩ | omega) ?_
    intro z1 lz1 uz1 qz1
    have pz1 := fld_at qz1 5 (by omega)
    refine And.intro (And.intro (by first | exact fi_ lz1 uz1 rfl | omega) (by first | exact ⟨by decide, by decide⟩ | omega)) (And.intro ?_ ?_)
    · intro c2
      refine And.intro ⟨rfl, by decide, by decide⟩ ?_
      refine fload1 rL_182_182_0_5_1_0 h0 hB0 ⟨by decide, by decide⟩ (by first | exact ⟨by decide, by decide⟩ | omega) ?_
      intro z3 lz3 uz3 qz3
      have pz3 := fld_at qz3 5 (by omega)
      refine fstore1 rS_182_182_0_5_1_0 (fzs_sub (by decide +kernel) hW) ⟨by decide, by decide⟩ (by first | exact ⟨by decide, by decide⟩ | omega) (by omega) ?_
      intro IhB4 ehB4 hB4
      have t5 := fup_self ehB4
      have t6 := fup_at ehB4 5 (by first | rfl | omega)
      refine And.intro ⟨rfl, by decide, by decide⟩ ?_
      refine And.intro ⟨rfl, by decide, by decide⟩ ?_
      refine fload1 rL_165_165_0_23_1_0 h0 hB4 ⟨by decide, by decide⟩ (by first | exact ⟨ha1.1, ha1.2⟩ | omega) ?_
      intro z7 lz7 uz7 qz7
      refine And.intro ⟨rfl, by decide, by decide⟩ ?_
      refine Exists.intro xm_83 (And.intro mi_83 (And.intro ⟨rfl, rfl, rfl, rfl⟩ (And.intro rfl ?_)))
      refine fcallp hB4 (ct_Works_partForFoul_f7a9f (fBz h0 hB4) (by first | exact ⟨ha1.1, ha1.2⟩ | omega)) ?_
      rintro _ ⟨z8, rfl, hz8⟩
      refine And.intro ⟨rfl, by decide, by decide⟩ ?_
      refine And.intro ⟨rfl, by decide, by decide⟩ ?_
      refine And.intro ⟨rfl, by decide⟩ (And.intro (by first | exact ⟨lz7, Int.lt_of_le_of_lt uz7 (by decide)⟩ | omega) ?_)
      refine fload rL_6_25_0_4_1_0 h0 hB4 (by omega) ?_
      intro z9 lz9 uz9 qz9
      refine And.intro (And.intro (by first | exact fi_ hz8.1 hz8.2 rfl | omega) (And.intro (by first | exact fi_ lz9 uz9 rfl | omega) rfl)) ?_
      intro z10 hz10
      refine And.intro ⟨rfl, by decide, by decide⟩ ?_
      refine And.intro ⟨rfl, by decide, by decide⟩ ?_
      refine And.intro ⟨rfl, by decide⟩ (And.intro (by first | exact ⟨lz7, Int.lt_of_le_of_lt uz7 (by decide)⟩ | omega) ?_)
      refine fload rL_6_25_0_4_1_0 h0 hB4 (by omega) ?_
      intro z11 lz11 uz11 qz11
      intro z12 hz12 ez12 bz12
      clear ez12
      clear bz12
      refine fstore rS_6_25_0_4_1_0 (fzs_sub (by decide +kernel) hW) (by omega) (by omega) ?_
      intro IhB13 ehB13 hB13
      have t14 := fup_self ehB13
      have t15 : IhB13 182 5 = IhB4 182 5 := (congrFun (congrFun ehB13 182) 5).trans (fup_ne (by first | exact Or.inl (by decide) | omega))
      refine And.intro ⟨rfl, by decide, by decide⟩ ?_
      refine And.intro (And.intro (by omega) (And.intro (by first | exact ⟨by decide, by decide⟩ | omega) (And.intro (by first | exact by decide | omega) rfl))) ?_
      intro z16 hz16 ez16 dz16
      refine Exists.intro xm_84 (And.intro mi_84 (And.intro ⟨rfl, rfl, rfl, rfl⟩ (And.intro rfl ?_)))
      refine fcall _ h0 (fzs_sub (by decide +kernel) hW) hB13 (ct_Cells_addAir_1fa72 (fBz h0 hB13) (by first | exact ⟨lz7, uz7⟩ | omega) (by first | exact ⟨by decide, by decide⟩ | omega) (by omega)) ?_
      rintro IhB18 _ hB18 fhB18 rfl
      have t19 := fhB18 182 5 (by decide +kernel)
      refine And.intro ⟨rfl, by decide, by decide⟩ ?_
      refine And.intro (And.intro (by omega) (And.intro (by first | exact ⟨by decide, by decide⟩ | omega) (And.intro (by first | exact by decide | omega) rfl))) ?_
      intro z20 hz20 ez20 dz20
      intro z21 hz21 ez21 bz21
      clear ez21
      clear bz21
      refine Exists.intro xm_84 (And.intro mi_84 (And.intro ⟨rfl, rfl, rfl, rfl⟩ (And.intro rfl ?_)))
      refine fcall _ h0 (fzs_sub (by decide +kernel) hW) hB18 (ct_Cells_addAir_1fa72 (fBz h0 hB18) (by first | exact ⟨lz7, uz7⟩ | omega) (by first | exact ⟨by decide, by decide⟩ | omega) (by omega)) ?_
      rintro IhB23 _ hB23 fhB23 rfl
      have t24 := fhB23 182 5 (by decide +kernel)
      exact rfl
    · intro c25
      exact rfl
set_option maxRecDepth 8000 in
theorem ct_City_runWork_55621 {I : fH} {x1 : Int} (h0 : fB bsJ I) (ha1 : (0 ≤ x1 ∧ x1 ≤ 23)) : fC ρ base n F xTc vwCl xTys D dA la gJ (fbz bsJ znJ (fKc wz_1f04a) I) xm_77 [.inr (.inr (some 1)), .inl x1] I (fun _ r => r = none) := by
  have hW : fzs wz_1f04a (fKc wz_1f04a) := fKc_ok _
  refine f_meth (rb := rbJ) (J := []) 1 400 xG xin_77 x6_77 okJ (fB_self h0) ?_ ?_
  · exact fun q h => absurd h List.not_mem_nil
  · have hB0 := fB_self (zn := znJ) (K := fKc wz_1f04a) h0
    refine And.intro ⟨rfl, by decide, by decide⟩ ?_
    refine And.intro ⟨rfl, by decide, by decide⟩ ?_
    refine fload1 rL_164_164_0_23_1_0 h0 hB0 ⟨by decide, by decide⟩ (by first | exact ⟨ha1.1, ha1.2⟩ | omega) ?_
    intro z1 lz1 uz1 qz1
    refine And.intro (by first | exact fi_ lz1 uz1 rfl | omega) (And.intro ?_ ?_)
    · refine And.intro (fun ex => ?_) (And.intro (fun ex => ?_) (And.intro (fun ex => ?_) (And.intro (fun ex => ?_) (And.intro (fun ex => ?_) (And.intro (fun ex => ?_) (True.intro))))))
      · skip
        refine Exists.intro xm_78 (And.intro mi_78 (And.intro ⟨rfl, rfl, rfl, rfl⟩ (And.intro rfl ?_)))
        refine fcall _ h0 (fzs_sub (by decide +kernel) hW) hB0 (ct_City_runSkin_7959e (fBz h0 hB0) (by first | exact ⟨ha1.1, ha1.2⟩ | omega)) ?_
        rintro IhB3 _ hB3 fhB3 rfl
        exact rfl
      · skip
        refine Exists.intro xm_82 (And.intro mi_82 (And.intro ⟨rfl, rfl, rfl, rfl⟩ (And.intro rfl ?_)))
        refine fcall _ h0 (fzs_sub (by decide +kernel) hW) hB0 (ct_City_runGarden_95dd6 (fBz h0 hB0) (by first | exact ⟨ha1.1, ha1.2⟩ | omega)) ?_
        rintro IhB5 _ hB5 fhB5 rfl
        exact rfl
      · skip
        refine Exists.intro xm_85 (And.intro mi_85 (And.intro ⟨rfl, rfl, rfl, rfl⟩ (And.intro rfl ?_)))
        refine fcall _ h0 (fzs_sub (by decide +kernel) hW) hB0 (ct_City_runStill_e1f2a (fBz h0 hB0) (by first | exact ⟨ha1.1, ha1.2⟩ | omega)) ?_
        rintro IhB7 _ hB7 fhB7 rfl
        exact rfl
      · skip
        refine Exists.intro xm_86 (And.intro mi_86 (And.intro ⟨rfl, rfl, rfl, rfl⟩ (And.intro rfl ?_)))
        refine fcall _ h0 (fzs_sub (by decide +kernel) hW) hB0 (ct_City_runRotor_c3465 (fBz h0 hB0) (by first | exact ⟨ha1.1, ha1.2⟩ | omega)) ?_
        rintro IhB9 _ hB9 fhB9 rfl
        exact rfl
      · skip
        refine And.intro ⟨rfl, by decide, by decide⟩ ?_
        refine And.intro ⟨rfl, by decide, by decide⟩ ?_
        refine fload1 rL_172_172_0_23_1_0 h0 hB0 ⟨by decide, by decide⟩ (by first | exact ⟨ha1.1, ha1.2⟩ | omega) ?_
        intro z10 lz10 uz10 qz10
        intro z11 hz11 ez11 bz11
        clear ez11
        clear bz11
        refine fstore1 rS_172_172_0_23_1_0 (fzs_sub (by decide +kernel) hW) ⟨by decide, by decide⟩ (by first | exact ⟨ha1.1, ha1.2⟩ | omega) (by omega) ?_
        intro IhB12 ehB12 hB12
        have t13 := fup_self ehB12
        refine And.intro ⟨rfl, by decide, by decide⟩ ?_
        refine And.intro ⟨rfl, by decide, by decide⟩ ?_
        refine And.intro ⟨rfl, by decide, by decide⟩ ?_
        refine And.intro ⟨rfl, by decide, by decide⟩ ?_
        refine fload1 rL_172_172_0_23_1_0 h0 hB12 ⟨by decide, by decide⟩ (by first | exact ⟨ha1.1, ha1.2⟩ | omega) ?_
        intro z14 lz14 uz14 qz14
        refine And.intro (by first | exact fi_ lz14 uz14 rfl | omega) (And.intro ?_ ?_)
        · intro c15
          refine fstore1 rS_174_174_0_23_1_0 (fzs_sub (by decide +kernel) hW) ⟨by decide, by decide⟩ (by first | exact ⟨ha1.1, ha1.2⟩ | omega) (by omega) ?_
          intro IhB16 ehB16 hB16
          have t17 := fup_self ehB16
          exact rfl
        · intro c18
          refine fstore1 rS_174_174_0_23_1_0 (fzs_sub (by decide +kernel) hW) ⟨by decide, by decide⟩ (by first | exact ⟨ha1.1, ha1.2⟩ | omega) (by first | exact ⟨by decide, by decide⟩ | omega) ?_
          intro IhB19 ehB19 hB19
          have t20 := fup_self ehB19
          exact rfl
      · skip
        refine Exists.intro xm_87 (And.intro mi_87 (And.intro ⟨rfl, rfl, rfl, rfl⟩ (And.intro rfl ?_)))
        refine fcall _ h0 (fzs_sub (by decide +kernel) hW) hB0 (ct_City_runProbe_4687a (fBz h0 hB0) (by first | exact ⟨ha1.1, ha1.2⟩ | omega)) ?_
        rintro IhB22 _ hB22 fhB22 rfl
        exact rfl
    · intro c23
      exact rfl
set_option maxRecDepth 8000 in
theorem ct_People_needOf_69fc2 {I : fH} {x1 : Int} (h0 : fB bsJ I) (ha1 : (0 ≤ x1 ∧ x1 ≤ 23)) : fC ρ base n F xTc vwCl xTys D dA la gJ (fbz bsJ znJ (fKc []) I) xm_92 [.inr (.inr (some 177)), .inl x1] I (fun _ r => ∃ z, r = some (.inl z) ∧ (1 ≤ z ∧ z ≤ 2)) := by
  have hW : fzs [] (fKc []) := fKc_ok _
  refine f_meth (rb := rbJ) (J := []) 1 400 xG xin_92 x6_92 okJ (fB_self h0) ?_ ?_
  · exact fun q h => absurd h List.not_mem_nil
  · have hB0 := fB_self (zn := znJ) (K := fKc []) h0
    refine And.intro ⟨rfl, by decide, by decide⟩ ?_
    refine fload1 rL_178_178_0_23_1_0 h0 hB0 ⟨by decide, by decide⟩ (by first | exact ⟨ha1.1, ha1.2⟩ | omega) ?_
    intro z1 lz1 uz1 qz1
    refine And.intro (And.intro (by first | exact fi_ lz1 uz1 rfl | omega) (by first | exact ⟨by decide, by decide⟩ | omega)) (And.intro ?_ ?_)
    · intro c2
      refine And.intro (True.intro) ?_
      exact ⟨_, rfl, by omega⟩
    · intro c3
      refine And.intro (True.intro) ?_
      exact ⟨_, rfl, (by first | exact ⟨by decide, by decide⟩ | omega)⟩
set_option maxRecDepth 8000 in
theorem ct_People_sicken_1f528 {I : fH} {x1 : Int} {x2 : Int} (h0 : fB bsJ I) (ha1 : (0 ≤ x1 ∧ x1 ≤ 23)) (ha2 : ((-1) ≤ x2 ∧ x2 ≤ 8)) : fC ρ base n F xTc vwCl xTys D dA la gJ (fbz bsJ znJ (fKc wz_b5181) I) xm_93 [.inr (.inr (some 177)), .inl x1, .inl x2] I (fun _ r => r = none) := by
  have hW : fzs wz_b5181 (fKc wz_b5181) := fKc_ok _
  refine f_meth (rb := rbJ) (J := []) 1 400 xG xin_93 x6_93 okJ (fB_self h0) ?_ ?_
  · exact fun q h => absurd h List.not_mem_nil
  · have hB0 := fB_self (zn := znJ) (K := fKc wz_b5181) h0
    refine And.intro ⟨rfl, by decide, by decide⟩ ?_
    refine And.intro ⟨rfl, by decide, by decide⟩ ?_
    refine fload1 rL_181_181_0_23_1_0 h0 hB0 ⟨by decide, by decide⟩ (by first | exact ⟨ha1.1, ha1.2⟩ | omega) ?_
    intro z1 lz1 uz1 qz1
    intro z2 hz2 ez2 bz2
    clear ez2
    clear bz2
    refine And.intro (And.intro (by first | exact ⟨by decide, by decide⟩ | omega) (And.intro (by omega) rfl)) ?_
    intro z3 hz3
    refine And.intro (And.intro (by first | exact ⟨by decide, by decide⟩ | omega) (And.intro (by omega) rfl)) ?_
    intro z4 hz4
    refine fstore1 rS_181_181_0_23_1_0 (fzs_sub (by decide +kernel) hW) ⟨by decide, by decide⟩ (by first | exact ⟨ha1.1, ha1.2⟩ | omega) (by omega) ?_
    intro IhB5 ehB5 hB5
    have t6 := fup_self ehB5
    exact rfl
set_option maxRecDepth 8000 in
theorem ct_City_breathe_98bcc {I : fH} {x1 : Int} (h0 : fB bsJ I) (ha1 : (0 ≤ x1 ∧ x1 ≤ 23)) : fC ρ base n F xTc vwCl xTys D dA la gJ (fbz bsJ znJ (fKc wz_e3569) I) xm_91 [.inr (.inr (some 1)), .inl x1] I (fun _ r => r = none) := by
  have hW : fzs wz_e3569 (fKc wz_e3569) := fKc_ok _
  refine f_meth (rb := rbJ) (J := []) 1 400 xG xin_91 x6_91 okJ (fB_self h0) ?_ ?_
  · exact fun q h => absurd h List.not_mem_nil
  · have hB0 := fB_self (zn := znJ) (K := fKc wz_e3569) h0
    refine And.intro ⟨rfl, by decide, by decide⟩ ?_
    refine And.intro ⟨rfl, by decide, by decide⟩ ?_
    refine fload1 rL_180_180_0_23_1_0 h0 hB0 ⟨by decide, by decide⟩ (by first | exact ⟨ha1.1, ha1.2⟩ | omega) ?_
    intro z1 lz1 uz1 qz1
    refine And.intro ⟨rfl, by decide, by decide⟩ ?_
    refine Exists.intro xm_92 (And.intro mi_92 (And.intro ⟨rfl, rfl, rfl, rfl⟩ (And.intro rfl ?_)))
    refine fcallp hB0 (ct_People_needOf_69fc2 (fBz h0 hB0) (by first | exact ⟨ha1.1, ha1.2⟩ | omega)) ?_
    rintro _ ⟨z2, rfl, hz2⟩
    refine And.intro ⟨rfl, by decide, by decide⟩ ?_
    refine And.intro ⟨rfl, by decide, by decide⟩ ?_
    refine And.intro ⟨rfl, by decide⟩ (And.intro (by first | exact ⟨lz1, Int.lt_of_le_of_lt uz1 (by decide)⟩ | omega) ?_)
    refine fload rL_6_25_0_4_1_0 h0 hB0 (by omega) ?_
    intro z3 lz3 uz3 qz3
    refine And.intro (And.intro (by first | exact fi_ hz2.1 hz2.2 rfl | omega) (And.intro (by first | exact fi_ lz3 uz3 rfl | omega) rfl)) ?_
    intro z4 hz4
    refine And.intro ⟨rfl, by decide, by decide⟩ ?_
    refine And.intro ⟨rfl, by decide, by decide⟩ ?_
    refine And.intro ⟨rfl, by decide⟩ (And.intro (by first | exact ⟨lz1, Int.lt_of_le_of_lt uz1 (by decide)⟩ | omega) ?_)
    refine fload rL_6_25_0_4_1_0 h0 hB0 (by omega) ?_
    intro z5 lz5 uz5 qz5
    intro z6 hz6 ez6 bz6
    clear ez6
    clear bz6
    refine fstore rS_6_25_0_4_1_0 (fzs_sub (by decide +kernel) hW) (by omega) (by omega) ?_
    intro IhB7 ehB7 hB7
    have t8 := fup_self ehB7
    refine And.intro ⟨rfl, by decide, by decide⟩ ?_
    refine And.intro (And.intro (by omega) (And.intro (by first | exact ⟨by decide, by decide⟩ | omega) (And.intro (by first | exact by decide | omega) rfl))) ?_
    intro z9 hz9 ez9 dz9
    refine Exists.intro xm_84 (And.intro mi_84 (And.intro ⟨rfl, rfl, rfl, rfl⟩ (And.intro rfl ?_)))
    refine fcall _ h0 (fzs_sub (by decide +kernel) hW) hB7 (ct_Cells_addAir_1fa72 (fBz h0 hB7) (by first | exact ⟨lz1, uz1⟩ | omega) (by first | exact ⟨by decide, by decide⟩ | omega) (by omega)) ?_
    rintro IhB11 _ hB11 fhB11 rfl
    refine And.intro ⟨rfl, by decide, by decide⟩ ?_
    refine And.intro (And.intro (by omega) (And.intro (by first | exact ⟨by decide, by decide⟩ | omega) (And.intro (by first | exact by decide | omega) rfl))) ?_
    intro z12 hz12 ez12 dz12
    intro z13 hz13 ez13 bz13
    clear ez13
    clear bz13
    refine Exists.intro xm_84 (And.intro mi_84 (And.intro ⟨rfl, rfl, rfl, rfl⟩ (And.intro rfl ?_)))
    refine fcall _ h0 (fzs_sub (by decide +kernel) hW) hB11 (ct_Cells_addAir_1fa72 (fBz h0 hB11) (by first | exact ⟨lz1, uz1⟩ | omega) (by first | exact ⟨by decide, by decide⟩ | omega) (by omega)) ?_
    rintro IhB15 _ hB15 fhB15 rfl
    refine And.intro (by omega) (And.intro ?_ ?_)
    · intro c16
      refine And.intro ⟨rfl, by decide, by decide⟩ ?_
      refine And.intro ⟨rfl, by decide, by decide⟩ ?_
      refine And.intro ⟨rfl, by decide⟩ (And.intro (by first | exact ⟨lz1, Int.lt_of_le_of_lt uz1 (by decide)⟩ | omega) ?_)
      refine fload rL_6_25_0_4_1_0 h0 hB15 (by omega) ?_
      intro z17 lz17 uz17 qz17
      refine And.intro ⟨rfl, by decide, by decide⟩ ?_
      refine And.intro ⟨rfl, by decide, by decide⟩ ?_
      refine fload1 rL_3_3_0_19_1_0 h0 hB15 ⟨by decide, by decide⟩ (by first | exact ⟨lz1, uz1⟩ | omega) ?_
      intro z18 lz18 uz18 qz18
      refine And.intro (And.intro (by first | exact fi_ lz17 uz17 rfl | omega) (by first | exact fi_ lz18 uz18 rfl | omega)) (And.intro ?_ ?_)
      · intro c19
        refine And.intro ⟨rfl, by decide, by decide⟩ ?_
        refine And.intro (by omega) (And.intro ?_ ?_)
        · intro c20
          refine Exists.intro xm_93 (And.intro mi_93 (And.intro ⟨rfl, rfl, rfl, rfl⟩ (And.intro rfl ?_)))
          refine fcall _ h0 (fzs_sub (by decide +kernel) hW) hB15 (ct_People_sicken_1f528 (fBz h0 hB15) (by first | exact ⟨ha1.1, ha1.2⟩ | omega) (by omega)) ?_
          rintro IhB22 _ hB22 fhB22 rfl
          exact rfl
        · intro c23
          refine Exists.intro xm_93 (And.intro mi_93 (And.intro ⟨rfl, rfl, rfl, rfl⟩ (And.intro rfl ?_)))
          refine fcall _ h0 (fzs_sub (by decide +kernel) hW) hB15 (ct_People_sicken_1f528 (fBz h0 hB15) (by first | exact ⟨ha1.1, ha1.2⟩ | omega) (by first | exact ⟨by decide, by decide⟩ | omega)) ?_
          rintro IhB25 _ hB25 fhB25 rfl
          exact rfl
      · intro c26
        refine And.intro ⟨rfl, by decide, by decide⟩ ?_
        refine And.intro (by omega) (And.intro ?_ ?_)
        · intro c27
          refine Exists.intro xm_93 (And.intro mi_93 (And.intro ⟨rfl, rfl, rfl, rfl⟩ (And.intro rfl ?_)))
          refine fcall _ h0 (fzs_sub (by decide +kernel) hW) hB15 (ct_People_sicken_1f528 (fBz h0 hB15) (by first | exact ⟨ha1.1, ha1.2⟩ | omega) (by omega)) ?_
          rintro IhB29 _ hB29 fhB29 rfl
          exact rfl
        · intro c30
          refine Exists.intro xm_93 (And.intro mi_93 (And.intro ⟨rfl, rfl, rfl, rfl⟩ (And.intro rfl ?_)))
          refine fcall _ h0 (fzs_sub (by decide +kernel) hW) hB15 (ct_People_sicken_1f528 (fBz h0 hB15) (by first | exact ⟨ha1.1, ha1.2⟩ | omega) (by first | exact ⟨by decide, by decide⟩ | omega)) ?_
          rintro IhB32 _ hB32 fhB32 rfl
          exact rfl
    · intro c33
      refine And.intro ⟨rfl, by decide, by decide⟩ ?_
      refine And.intro ⟨rfl, by decide, by decide⟩ ?_
      refine And.intro ⟨rfl, by decide⟩ (And.intro (by first | exact ⟨lz1, Int.lt_of_le_of_lt uz1 (by decide)⟩ | omega) ?_)
      refine fload rL_6_25_0_4_1_0 h0 hB15 (by omega) ?_
      intro z34 lz34 uz34 qz34
      refine And.intro ⟨rfl, by decide, by decide⟩ ?_
      refine And.intro ⟨rfl, by decide, by decide⟩ ?_
      refine fload1 rL_3_3_0_19_1_0 h0 hB15 ⟨by decide, by decide⟩ (by first | exact ⟨lz1, uz1⟩ | omega) ?_
      intro z35 lz35 uz35 qz35
      refine And.intro (And.intro (by first | exact fi_ lz34 uz34 rfl | omega) (by first | exact fi_ lz35 uz35 rfl | omega)) (And.intro ?_ ?_)
      · intro c36
        refine And.intro ⟨rfl, by decide, by decide⟩ ?_
        refine And.intro (by first | exact ⟨by decide, by decide⟩ | omega) (And.intro ?_ ?_)
        · intro c37
          refine Exists.intro xm_93 (And.intro mi_93 (And.intro ⟨rfl, rfl, rfl, rfl⟩ (And.intro rfl ?_)))
          refine fcall _ h0 (fzs_sub (by decide +kernel) hW) hB15 (ct_People_sicken_1f528 (fBz h0 hB15) (by first | exact ⟨ha1.1, ha1.2⟩ | omega) (by first | exact ⟨by decide, by decide⟩ | omega)) ?_
          rintro IhB39 _ hB39 fhB39 rfl
          exact rfl
        · intro c40
          refine Exists.intro xm_93 (And.intro mi_93 (And.intro ⟨rfl, rfl, rfl, rfl⟩ (And.intro rfl ?_)))
          refine fcall _ h0 (fzs_sub (by decide +kernel) hW) hB15 (ct_People_sicken_1f528 (fBz h0 hB15) (by first | exact ⟨ha1.1, ha1.2⟩ | omega) (by first | exact ⟨by decide, by decide⟩ | omega)) ?_
          rintro IhB42 _ hB42 fhB42 rfl
          exact rfl
      · intro c43
        refine And.intro ⟨rfl, by decide, by decide⟩ ?_
        refine And.intro (by omega) (And.intro ?_ ?_)
        · intro c44
          refine Exists.intro xm_93 (And.intro mi_93 (And.intro ⟨rfl, rfl, rfl, rfl⟩ (And.intro rfl ?_)))
          refine fcall _ h0 (fzs_sub (by decide +kernel) hW) hB15 (ct_People_sicken_1f528 (fBz h0 hB15) (by first | exact ⟨ha1.1, ha1.2⟩ | omega) (by omega)) ?_
          rintro IhB46 _ hB46 fhB46 rfl
          exact rfl
        · intro c47
          refine Exists.intro xm_93 (And.intro mi_93 (And.intro ⟨rfl, rfl, rfl, rfl⟩ (And.intro rfl ?_)))
          refine fcall _ h0 (fzs_sub (by decide +kernel) hW) hB15 (ct_People_sicken_1f528 (fBz h0 hB15) (by first | exact ⟨ha1.1, ha1.2⟩ | omega) (by first | exact ⟨by decide, by decide⟩ | omega)) ?_
          rintro IhB49 _ hB49 fhB49 rfl
          exact rfl
abbrev jc_Works_foulAll_0fc04_2 : Nat → fL → List fV → fH → Prop := fun m lv st I => ∃ (y1 : Int), lv = [(0, .inr (.inr (some 163))), (1, .inl y1)] ∧ st = [] ∧ (((0 ≤ y1 ∧ y1 ≤ 24))) ∧ m = (1 + 1 * (24 - y1) : Int).toNat
set_option maxRecDepth 8000 in
theorem ct_Works_foulAll_0fc04 {I : fH}  (h0 : fB bsJ I)  : fC ρ base n F xTc vwCl xTys D dA la gJ (fbz bsJ znJ (fKc wz_57158) I) xm_95 [.inr (.inr (some 163))] I (fun _ r => r = none) := by
  have hW : fzs wz_57158 (fKc wz_57158) := fKc_ok _
  refine f_meth (rb := rbJ) (J := [(2, jc_Works_foulAll_0fc04_2)]) 26 400 xG xin_95 x6_95 okJ (fB_self h0) ?_ ?_
  · refine List.forall_mem_cons.mpr ⟨?_, fun q h => absurd h List.not_mem_nil⟩
    · rintro m _ _ I1 hB1 ⟨y1, rfl, rfl, hb, hm⟩
      refine And.intro ⟨rfl, by decide, by decide⟩ (fgetf fb_163_13 h0 hB1 ?_)
      intro z1 lz1 uz1 qz1
      refine And.intro (And.intro (by first | exact fi_ hb.1 hb.2 rfl | omega) (by first | exact fi_ lz1 uz1 rfl | omega)) (And.intro ?_ ?_)
      · intro c2
        exact rfl
      · intro c3
        refine And.intro ⟨rfl, by decide, by decide⟩ ?_
        refine fload1 rL_174_174_0_23_1_0 h0 hB1 ⟨by decide, by decide⟩ (by first | exact ⟨hb.1, Int.le_trans (Int.le_sub_one_of_lt (Int.lt_of_lt_of_le c3 uz1)) (by decide)⟩ | omega) ?_
        intro z4 lz4 uz4 qz4
        refine And.intro (by first | exact fi_ lz4 uz4 rfl | omega) (And.intro ?_ ?_)
        · intro c5
          exact fcutJ (I := I1) (j := jc_Works_foulAll_0fc04_2) (lv' := [(0, .inr (.inr (some 163))), (1, .inl _)]) (And.intro rfl (And.intro rfl True.intro)) ⟨_, rfl, rfl, by omega, rfl⟩ (by omega)
        · intro c6
          refine And.intro ⟨rfl, by decide, by decide⟩ ?_
          refine fload1 rL_170_170_0_23_1_0 h0 hB1 ⟨by decide, by decide⟩ (by first | exact ⟨hb.1, Int.le_trans (Int.le_sub_one_of_lt (Int.lt_of_lt_of_le c3 uz1)) (by decide)⟩ | omega) ?_
          intro z7 lz7 uz7 qz7
          refine And.intro ⟨rfl, by decide, by decide⟩ ?_
          refine fload1 rL_169_169_0_23_1_0 h0 hB1 ⟨by decide, by decide⟩ (by first | exact ⟨hb.1, Int.le_trans (Int.le_sub_one_of_lt (Int.lt_of_lt_of_le c3 uz1)) (by decide)⟩ | omega) ?_
          intro z8 lz8 uz8 qz8
          intro z9 hz9 ez9 bz9
          clear ez9
          clear bz9
          refine fstore1 rS_170_170_0_23_1_0 (fzs_sub (by decide +kernel) hW) ⟨by decide, by decide⟩ (by first | exact ⟨hb.1, Int.le_trans (Int.le_sub_one_of_lt (Int.lt_of_lt_of_le c3 uz1)) (by decide)⟩ | omega) (by omega) ?_
          intro IhB10 ehB10 hB10
          have t11 := fup_self ehB10
          have t12 : IhB10 163 13 = I1 163 13 := (congrFun (congrFun ehB10 163) 13).trans (fup_ne (by first | exact Or.inl (by decide) | omega))
          refine And.intro ⟨rfl, by decide, by decide⟩ ?_
          refine And.intro ⟨rfl, by decide, by decide⟩ ?_
          refine fload1 rL_168_168_0_23_1_0 h0 hB10 ⟨by decide, by decide⟩ (by first | exact ⟨hb.1, Int.le_trans (Int.le_sub_one_of_lt (Int.lt_of_lt_of_le c3 uz1)) (by decide)⟩ | omega) ?_
          intro z13 lz13 uz13 qz13
          refine And.intro ⟨rfl, by decide, by decide⟩ ?_
          refine fload1 rL_170_170_0_23_1_0 h0 hB10 ⟨by decide, by decide⟩ (by first | exact ⟨hb.1, Int.le_trans (Int.le_sub_one_of_lt (Int.lt_of_lt_of_le c3 uz1)) (by decide)⟩ | omega) ?_
          intro z14 lz14 uz14 qz14
          refine And.intro (And.intro (by first | exact fi_ lz14 uz14 rfl | omega) (And.intro (by first | exact ⟨by decide, by decide⟩ | omega) (And.intro (by first | exact by decide | omega) rfl))) ?_
          intro z15 hz15 ez15 dz15
          intro z16 hz16 ez16 bz16
          clear ez16
          clear bz16
          refine And.intro (And.intro (by first | exact ⟨by decide, by decide⟩ | omega) (And.intro (by omega) rfl)) ?_
          intro z17 hz17
          refine fstore1 rS_168_168_0_23_1_0 (fzs_sub (by decide +kernel) hW) ⟨by decide, by decide⟩ (by first | exact ⟨hb.1, Int.le_trans (Int.le_sub_one_of_lt (Int.lt_of_lt_of_le c3 uz1)) (by decide)⟩ | omega) (by omega) ?_
          intro IhB18 ehB18 hB18
          have t19 := fup_self ehB18
          have t20 : IhB18 163 13 = IhB10 163 13 := (congrFun (congrFun ehB18 163) 13).trans (fup_ne (by first | exact Or.inl (by decide) | omega))
          refine And.intro ⟨rfl, by decide, by decide⟩ ?_
          refine fload1 rL_170_170_0_23_1_0 h0 hB18 ⟨by decide, by decide⟩ (by first | exact ⟨hb.1, Int.le_trans (Int.le_sub_one_of_lt (Int.lt_of_lt_of_le c3 uz1)) (by decide)⟩ | omega) ?_
          intro z21 lz21 uz21 qz21
          refine And.intro (And.intro (by first | exact fi_ lz21 uz21 rfl | omega) (And.intro (by first | exact ⟨by decide, by decide⟩ | omega) (And.intro (by first | exact by decide | omega) rfl))) ?_
          intro z22 hz22 ez22 dz22
          refine fstore1 rS_170_170_0_23_1_0 (fzs_sub (by decide +kernel) hW) ⟨by decide, by decide⟩ (by first | exact ⟨hb.1, Int.le_trans (Int.le_sub_one_of_lt (Int.lt_of_lt_of_le c3 uz1)) (by decide)⟩ | omega) (by omega) ?_
          intro IhB23 ehB23 hB23
          have t24 := fup_self ehB23
          have t25 : IhB23 163 13 = IhB18 163 13 := (congrFun (congrFun ehB23 163) 13).trans (fup_ne (by first | exact Or.inl (by decide) | omega))
          exact fcutJ (I := IhB23) (j := jc_Works_foulAll_0fc04_2) (lv' := [(0, .inr (.inr (some 163))), (1, .inl _)]) (And.intro rfl (And.intro rfl True.intro)) ⟨_, rfl, rfl, by omega, rfl⟩ (by omega)
  · have hB0 := fB_self (zn := znJ) (K := fKc wz_57158) h0
    exact fcutJ (I := I) (j := jc_Works_foulAll_0fc04_2) (lv' := [(0, .inr (.inr (some 163))), (1, .inl _)]) (And.intro rfl (And.intro rfl True.intro)) ⟨_, rfl, rfl, by omega, rfl⟩ (by omega)
set_option maxRecDepth 8000 in
theorem ct_Cells_sendReport_d1e0c {I : fH} {x1 : Int} {x2 : Int} {x3 : Int} (h0 : fB bsJ I) (ha1 : (0 ≤ x1 ∧ x1 ≤ 19)) (ha2 : ((-2147483648) ≤ x2 ∧ x2 ≤ 2147483647)) (ha3 : ((-2147483648) ≤ x3 ∧ x3 ≤ 2147483647)) : fC ρ base n F xTc vwCl xTys D dA la gJ (fbz bsJ znJ (fKc wz_0cc09) I) xm_98 [.inr (.inr (some 2)), .inl x1, .inl x2, .inl x3] I (fun _ r => r = none) := by
  have hW : fzs wz_0cc09 (fKc wz_0cc09) := fKc_ok _
  refine f_meth (rb := rbJ) (J := []) 1 400 xG xin_98 x6_98 okJ (fB_self h0) ?_ ?_
  · exact fun q h => absurd h List.not_mem_nil
  · have hB0 := fB_self (zn := znJ) (K := fKc wz_0cc09) h0
    refine And.intro (by first | exact fi_ ha3.1 ha3.2 rfl | omega) (And.intro ?_ ?_)
    · intro c1
      refine And.intro ⟨rfl, by decide, by decide⟩ (fgetf fb_2_12 h0 hB0 ?_)
      intro z2 lz2 uz2 qz2
      refine And.intro (And.intro (by first | exact fi_ lz2 uz2 rfl | omega) (by first | exact ⟨by decide, by decide⟩ | omega)) (And.intro ?_ ?_)
      · intro c3
        exact rfl
      · intro c4
        refine And.intro ⟨rfl, by decide, by decide⟩ ?_
        refine And.intro ⟨rfl, by decide, by decide⟩ (fgetf fb_2_12 h0 hB0 ?_)
        intro z5 lz5 uz5 qz5
        refine And.intro ⟨rfl, by decide⟩ (And.intro (by omega) ?_)
        refine And.intro ⟨rfl, by decide, by decide⟩ ?_
        refine And.intro ⟨rfl, by decide⟩ (And.intro (by first | exact ⟨ha1.1, Int.lt_of_le_of_lt ha1.2 (by decide)⟩ | omega) ?_)
        refine And.intro (fcopyU (rgG_6_25 (by omega) (by omega)) (rgG_73_162 (by omega) (by omega)) rL_6_25_0_4_1_0 rS_73_162_0_4_1_0 (fzs_sub (by decide +kernel) hW) h0 hB0 (by omega) (by omega) (by omega) (by omega)) (And.intro rfl ?_)
        intro IhB6 ehB6 hB6
        have t7 : IhB6 2 12 = I 2 12 := (congrFun (congrFun ehB6 2) 12).trans (fcpy_ne (by omega))
        refine fstore rS_73_162_5_5_1_0 (fzs_sub (by decide +kernel) hW) (by omega) (by first | exact ⟨ha2.1, ha2.2⟩ | omega) ?_
        intro IhB8 ehB8 hB8
        have t9 := fup_self ehB8
        have t10 : IhB8 2 12 = IhB6 2 12 := (congrFun (congrFun ehB8 2) 12).trans (fup_ne (by first | exact Or.inl (by decide) | omega))
        intro z11 hz11 ez11 bz11
        clear ez11
        clear bz11
        refine fstore rS_73_162_6_6_1_0 (fzs_sub (by decide +kernel) hW) (by omega) (by omega) ?_
        intro IhB12 ehB12 hB12
        have t13 := fup_self ehB12
        have t14 : IhB12 2 12 = IhB8 2 12 := (congrFun (congrFun ehB12 2) 12).trans (fup_ne (by first | exact Or.inl (by decide) | omega))
        refine fstore rS_73_162_7_7_1_0 (fzs_sub (by decide +kernel) hW) (by omega) (by first | exact ⟨ha1.1, ha1.2⟩ | omega) ?_
        intro IhB15 ehB15 hB15
        have t16 := fup_self ehB15
        have t17 : IhB15 2 12 = IhB12 2 12 := (congrFun (congrFun ehB15 2) 12).trans (fup_ne (by first | exact Or.inl (by decide) | omega))
        refine And.intro ⟨rfl, by decide, by decide⟩ (fgetf fb_2_12 h0 hB15 ?_)
        intro z18 lz18 uz18 qz18
        refine And.intro ⟨rfl, by decide, by decide⟩ (And.intro rfl (And.intro (Or.inl rfl) (fputf fb_2_12 (by decide +kernel) hW (by omega) ?_)))
        intro IhB19 ehB19 hB19
        exact rfl
    · intro c20
      refine And.intro ⟨rfl, by decide, by decide⟩ ?_
      refine And.intro ⟨rfl, by decide⟩ (And.intro (by first | exact ⟨ha1.1, Int.lt_of_le_of_lt ha1.2 (by decide)⟩ | omega) ?_)
      refine And.intro ⟨rfl, by decide, by decide⟩ ?_
      refine And.intro ⟨rfl, by decide⟩ (And.intro (by first | exact ⟨ha1.1, Int.lt_of_le_of_lt ha1.2 (by decide)⟩ | omega) ?_)
      refine And.intro (fcopyU (rgG_6_25 (by omega) (by omega)) (rgG_48_67 (by omega) (by omega)) rL_6_25_0_4_1_0 rS_48_67_0_5_1_0 (fzs_sub (by decide +kernel) hW) h0 hB0 (by omega) (by omega) (by omega) (by omega)) (And.intro rfl ?_)
      intro IhB21 ehB21 hB21
      refine And.intro ⟨rfl, by decide, by decide⟩ ?_
      refine And.intro ⟨rfl, by decide⟩ (And.intro (by first | exact ⟨ha1.1, Int.lt_of_le_of_lt ha1.2 (by decide)⟩ | omega) ?_)
      refine fstore rS_48_67_0_5_1_0 (fzs_sub (by decide +kernel) hW) (by omega) (by first | exact ⟨ha2.1, ha2.2⟩ | omega) ?_
      intro IhB22 ehB22 hB22
      have t23 := fup_self ehB22
      exact rfl
abbrev jc_People_isWatched_5c632_2 : Nat → fL → List fV → fH → Prop := fun m lv st I => ∃ (y1 : Int) (y2 : Int), lv = [(0, .inr (.inr (some 177))), (1, .inl y1), (2, .inl y2)] ∧ st = [] ∧ (((0 ≤ y1 ∧ y1 ≤ 19) ∧ (0 ≤ y2 ∧ y2 ≤ 24))) ∧ m = (1 + 1 * (24 - y2) : Int).toNat
set_option maxRecDepth 8000 in
theorem ct_People_isWatched_5c632 {I : fH} {x1 : Int} (h0 : fB bsJ I) (ha1 : (0 ≤ x1 ∧ x1 ≤ 19)) : fC ρ base n F xTc vwCl xTys D dA la gJ (fbz bsJ znJ (fKc []) I) xm_97 [.inr (.inr (some 177)), .inl x1] I (fun _ r => ∃ z, r = some (.inl z) ∧ (0 ≤ z ∧ z ≤ 1)) := by
  have hW : fzs [] (fKc []) := fKc_ok _
  refine f_meth (rb := rbJ) (J := [(2, jc_People_isWatched_5c632_2)]) 26 400 xG xin_97 x6_97 okJ (fB_self h0) ?_ ?_
  · refine List.forall_mem_cons.mpr ⟨?_, fun q h => absurd h List.not_mem_nil⟩
    · rintro m _ _ I1 hB1 ⟨y1, y2, rfl, rfl, hb, hm⟩
      refine And.intro ⟨rfl, by decide, by decide⟩ (fgetf fb_177_4 h0 hB1 ?_)
      intro z1 lz1 uz1 qz1
      refine And.intro (And.intro (by first | exact fi_ hb.2.1 hb.2.2 rfl | omega) (by first | exact fi_ lz1 uz1 rfl | omega)) (And.intro ?_ ?_)
      · intro c2
        refine And.intro (⟨by decide, by decide⟩) ?_
        exact ⟨_, rfl, (by first | exact ⟨by decide, by decide⟩ | omega)⟩
      · intro c3
        refine And.intro ⟨rfl, by decide, by decide⟩ ?_
        refine fload1 rL_180_180_0_23_1_0 h0 hB1 ⟨by decide, by decide⟩ (by first | exact ⟨hb.2.1, Int.le_trans (Int.le_sub_one_of_lt (Int.lt_of_lt_of_le c3 uz1)) (by decide)⟩ | omega) ?_
        intro z4 lz4 uz4 qz4
        refine And.intro (And.intro (by first | exact fi_ lz4 uz4 rfl | omega) (by first | exact fi_ hb.1.1 hb.1.2 rfl | omega)) (And.intro ?_ ?_)
        · intro c5
          exact fcutJ (I := I1) (j := jc_People_isWatched_5c632_2) (lv' := [(0, .inr (.inr (some 177))), (1, .inl _), (2, .inl _)]) (And.intro rfl (And.intro rfl (And.intro rfl True.intro))) ⟨_, _, rfl, rfl, by omega, rfl⟩ (by omega)
        · intro c6
          refine And.intro ⟨rfl, by decide, by decide⟩ ?_
          refine fload1 rL_179_179_0_23_1_0 h0 hB1 ⟨by decide, by decide⟩ (by first | exact ⟨hb.2.1, Int.le_trans (Int.le_sub_one_of_lt (Int.lt_of_lt_of_le c3 uz1)) (by decide)⟩ | omega) ?_
          intro z7 lz7 uz7 qz7
          refine And.intro (And.intro (by first | exact fi_ lz7 uz7 rfl | omega) (by first | exact ⟨by decide, by decide⟩ | omega)) (And.intro ?_ ?_)
          · intro c8
            exact fcutJ (I := I1) (j := jc_People_isWatched_5c632_2) (lv' := [(0, .inr (.inr (some 177))), (1, .inl _), (2, .inl _)]) (And.intro rfl (And.intro rfl (And.intro rfl True.intro))) ⟨_, _, rfl, rfl, by omega, rfl⟩ (by omega)
          · intro c9
            refine Exists.intro xm_21 (And.intro mi_21 (And.intro ⟨rfl, rfl, rfl, rfl⟩ (And.intro rfl ?_)))
            refine fcallp hB1 (ct_People_isDead_edb17 (fBz h0 hB1) (by first | exact ⟨hb.2.1, Int.le_trans (Int.le_sub_one_of_lt (Int.lt_of_lt_of_le c3 uz1)) (by decide)⟩ | omega)) ?_
            rintro _ ⟨z10, rfl, hz10⟩
            refine And.intro (by omega) (And.intro ?_ ?_)
            · intro c11
              exact fcutJ (I := I1) (j := jc_People_isWatched_5c632_2) (lv' := [(0, .inr (.inr (some 177))), (1, .inl _), (2, .inl _)]) (And.intro rfl (And.intro rfl (And.intro rfl True.intro))) ⟨_, _, rfl, rfl, by omega, rfl⟩ (by omega)
            · intro c12
              refine And.intro (⟨by decide, by decide⟩) ?_
              exact ⟨_, rfl, (by first | exact ⟨by decide, by decide⟩ | omega)⟩
  · have hB0 := fB_self (zn := znJ) (K := fKc []) h0
    exact fcutJ (I := I) (j := jc_People_isWatched_5c632_2) (lv' := [(0, .inr (.inr (some 177))), (1, .inl _), (2, .inl _)]) (And.intro rfl (And.intro rfl (And.intro rfl True.intro))) ⟨_, _, rfl, rfl, by omega, rfl⟩ (by omega)
abbrev jc_City_sendReports_0032f_2 : Nat → fL → List fV → fH → Prop := fun m lv st I => ∃ (y1 : Int), lv = [(0, .inr (.inr (some 1))), (1, .inl y1)] ∧ st = [] ∧ (((0 ≤ y1 ∧ y1 ≤ 20))) ∧ m = (1 + 1 * (20 - y1) : Int).toNat
set_option maxRecDepth 8000 in
theorem ct_City_sendReports_0032f {I : fH}  (h0 : fB bsJ I)  : fC ρ base n F xTc vwCl xTys D dA la gJ (fbz bsJ znJ (fKc wz_0cc09) I) xm_96 [.inr (.inr (some 1))] I (fun _ r => r = none) := by
  have hW : fzs wz_0cc09 (fKc wz_0cc09) := fKc_ok _
  refine f_meth (rb := rbJ) (J := [(2, jc_City_sendReports_0032f_2)]) 22 400 xG xin_96 x6_96 okJ (fB_self h0) ?_ ?_
  · refine List.forall_mem_cons.mpr ⟨?_, fun q h => absurd h List.not_mem_nil⟩
    · rintro m _ _ I1 hB1 ⟨y1, rfl, rfl, hb, hm⟩
      refine And.intro ⟨rfl, by decide, by decide⟩ ?_
      refine And.intro ⟨rfl, by decide, by decide⟩ (fgetf fb_2_5 h0 hB1 ?_)
      intro z1 lz1 uz1 qz1
      refine And.intro (And.intro (by first | exact fi_ hb.1 hb.2 rfl | omega) (by first | exact fi_ lz1 uz1 rfl | omega)) (And.intro ?_ ?_)
      · intro c2
        exact rfl
      · intro c3
        refine And.intro ⟨rfl, by decide, by decide⟩ ?_
        refine Exists.intro xm_97 (And.intro mi_97 (And.intro ⟨rfl, rfl, rfl, rfl⟩ (And.intro rfl ?_)))
        refine fcallp hB1 (ct_People_isWatched_5c632 (fBz h0 hB1) (by first | exact ⟨hb.1, Int.le_trans (Int.le_sub_one_of_lt (Int.lt_of_lt_of_le c3 uz1)) (by decide)⟩ | omega)) ?_
        rintro _ ⟨z4, rfl, hz4⟩
        refine And.intro (by omega) (And.intro ?_ ?_)
        · intro c5
          exact fcutJ (I := I1) (j := jc_City_sendReports_0032f_2) (lv' := [(0, .inr (.inr (some 1))), (1, .inl _)]) (And.intro rfl (And.intro rfl True.intro)) ⟨_, rfl, rfl, by omega, rfl⟩ (by omega)
        · intro c6
          refine And.intro ⟨rfl, by decide, by decide⟩ ?_
          refine And.intro ⟨rfl, by decide, by decide⟩ (fgetf fb_1_9 h0 hB1 ?_)
          intro z7 lz7 uz7 qz7
          refine And.intro ⟨rfl, by decide, by decide⟩ (fgetf fb_1_8 h0 hB1 ?_)
          intro z8 lz8 uz8 qz8
          refine Exists.intro xm_98 (And.intro mi_98 (And.intro ⟨rfl, rfl, rfl, rfl⟩ (And.intro rfl ?_)))
          refine fcall _ h0 (fzs_sub (by decide +kernel) hW) hB1 (ct_Cells_sendReport_d1e0c (fBz h0 hB1) (by first | exact ⟨hb.1, Int.le_trans (Int.le_sub_one_of_lt (Int.lt_of_lt_of_le c3 uz1)) (by decide)⟩ | omega) (by first | exact ⟨lz7, uz7⟩ | omega) (by first | exact ⟨lz8, uz8⟩ | omega)) ?_
          rintro IhB10 _ hB10 fhB10 rfl
          have t11 := fhB10 2 5 (by decide +kernel)
          exact fcutJ (I := IhB10) (j := jc_City_sendReports_0032f_2) (lv' := [(0, .inr (.inr (some 1))), (1, .inl _)]) (And.intro rfl (And.intro rfl True.intro)) ⟨_, rfl, rfl, by omega, rfl⟩ (by omega)
  · have hB0 := fB_self (zn := znJ) (K := fKc wz_0cc09) h0
    exact fcutJ (I := I) (j := jc_City_sendReports_0032f_2) (lv' := [(0, .inr (.inr (some 1))), (1, .inl _)]) (And.intro rfl (And.intro rfl True.intro)) ⟨_, rfl, rfl, by omega, rfl⟩ (by omega)
abbrev jc_Cells_flow_5ffc6_38 : Nat → fL → List fV → fH → Prop := fun m lv st I => ∃ (y1 : Int) (y2 : Int) (y3 : Int) (y4 : Int) (y5 : Int), lv = [(0, .inr (.inr (some 2))), (1, .inl y1), (2, .inl y2), (3, .inl y3), (4, .inl y4), (5, .inl y5)] ∧ st = [] ∧ (((0 ≤ y1 ∧ y1 ≤ 23) ∧ (0 ≤ y2 ∧ y2 ≤ 19) ∧ (0 ≤ y3 ∧ y3 ≤ 19) ∧ (1 ≤ y4 ∧ y4 ≤ 2147483647) ∧ (0 ≤ y5 ∧ y5 ≤ 5))) ∧ m = (1 + 1 * (5 - y5) : Int).toNat
set_option maxRecDepth 8000 in
theorem ct_Cells_flow_5ffc6 {I : fH} {x1 : Int} (h0 : fB bsJ I) (ha1 : (0 ≤ x1 ∧ x1 ≤ 23)) : fC ρ base n F xTc vwCl xTys D dA la gJ (fbz bsJ znJ (fKc wz_ed400) I) xm_89 [.inr (.inr (some 2)), .inl x1] I (fun _ r => r = none) := by
  have hW : fzs wz_ed400 (fKc wz_ed400) := fKc_ok _
  refine f_meth (rb := rbJ) (J := [(38, jc_Cells_flow_5ffc6_38)]) 7 400 xG xin_89 x6_89 okJ (fB_self h0) ?_ ?_
  · refine List.forall_mem_cons.mpr ⟨?_, fun q h => absurd h List.not_mem_nil⟩
    · rintro m _ _ I1 hB1 ⟨y1, y2, y3, y4, y5, rfl, rfl, hb, hm⟩
      refine And.intro (And.intro (by first | exact fi_ hb.2.2.2.2.1 hb.2.2.2.2.2 rfl | omega) (by first | exact ⟨by decide, by decide⟩ | omega)) (And.intro ?_ ?_)
      · intro c1
        exact rfl
      · intro c2
        refine And.intro ⟨rfl, by decide, by decide⟩ ?_
        refine And.intro ⟨rfl, by decide⟩ (And.intro (by first | exact ⟨hb.2.1.1, Int.lt_of_le_of_lt hb.2.1.2 (by decide)⟩ | omega) ?_)
        refine fload rL_6_25_0_4_1_0 h0 hB1 (by omega) ?_
        intro z3 lz3 uz3 qz3
        refine And.intro ⟨rfl, by decide, by decide⟩ ?_
        refine fload1 rL_3_3_0_19_1_0 h0 hB1 ⟨by decide, by decide⟩ (by first | exact ⟨hb.2.2.1.1, hb.2.2.1.2⟩ | omega) ?_
        intro z4 lz4 uz4 qz4
        intro z5 hz5 ez5 bz5
        clear ez5
        clear bz5
        refine And.intro ⟨rfl, by decide, by decide⟩ ?_
        refine And.intro ⟨rfl, by decide⟩ (And.intro (by first | exact ⟨hb.2.2.1.1, Int.lt_of_le_of_lt hb.2.2.1.2 (by decide)⟩ | omega) ?_)
        refine fload rL_6_25_0_4_1_0 h0 hB1 (by omega) ?_
        intro z6 lz6 uz6 qz6
        refine And.intro ⟨rfl, by decide, by decide⟩ ?_
        refine fload1 rL_3_3_0_19_1_0 h0 hB1 ⟨by decide, by decide⟩ (by first | exact ⟨hb.2.1.1, hb.2.1.2⟩ | omega) ?_
        intro z7 lz7 uz7 qz7
        intro z8 hz8 ez8 bz8
        clear ez8
        clear bz8
        intro z9 hz9 ez9 bz9
        clear ez9
        clear bz9
        refine And.intro (And.intro (by omega) (And.intro (by first | exact fi_ hb.2.2.2.1.1 hb.2.2.2.1.2 rfl | omega) (And.intro (by omega) rfl))) ?_
        intro z10 hz10 ez10 dz10
        refine And.intro ⟨rfl, by decide, by decide⟩ ?_
        refine fload1 rL_70_70_0_23_1_0 h0 hB1 ⟨by decide, by decide⟩ (by first | exact ⟨hb.1.1, hb.1.2⟩ | omega) ?_
        intro z11 lz11 uz11 qz11
        intro z12 hz12 ez12 bz12
        clear ez12
        clear bz12
        refine And.intro (And.intro (by omega) (And.intro (by first | exact ⟨by decide, by decide⟩ | omega) (And.intro (by first | exact by decide | omega) rfl))) ?_
        intro z13 hz13 ez13 dz13
        refine And.intro (by omega) (And.intro ?_ ?_)
        · intro c14
          refine And.intro ⟨rfl, by decide, by decide⟩ ?_
          refine And.intro ⟨rfl, by decide⟩ (And.intro (by first | exact ⟨hb.2.2.1.1, Int.lt_of_le_of_lt hb.2.2.1.2 (by decide)⟩ | omega) ?_)
          refine fload rL_6_25_0_4_1_0 h0 hB1 (by omega) ?_
          intro z15 lz15 uz15 qz15
          intro z16 hz16 ez16 bz16
          clear ez16
          clear bz16
          refine fstore rS_6_25_0_4_1_0 (fzs_sub (by decide +kernel) hW) (by omega) (by omega) ?_
          intro IhB17 ehB17 hB17
          have t18 := fup_self ehB17
          intro z19 hz19 ez19 bz19
          clear ez19
          clear bz19
          refine Exists.intro xm_84 (And.intro mi_84 (And.intro ⟨rfl, rfl, rfl, rfl⟩ (And.intro rfl ?_)))
          refine fcall _ h0 (fzs_sub (by decide +kernel) hW) hB17 (ct_Cells_addAir_1fa72 (fBz h0 hB17) (by first | exact ⟨hb.2.1.1, hb.2.1.2⟩ | omega) (by first | exact ⟨hb.2.2.2.2.1, Int.le_trans (Int.le_sub_one_of_lt (Int.lt_of_lt_of_le c2 (Int.le_refl _))) (by decide)⟩ | omega) (by omega)) ?_
          rintro IhB21 _ hB21 fhB21 rfl
          exact fcutJ (I := IhB21) (j := jc_Cells_flow_5ffc6_38) (lv' := [(0, .inr (.inr (some 2))), (1, .inl _), (2, .inl _), (3, .inl _), (4, .inl _), (5, .inl _)]) (And.intro rfl (And.intro rfl (And.intro rfl (And.intro rfl (And.intro rfl (And.intro rfl True.intro)))))) ⟨_, _, _, _, _, rfl, rfl, by omega, rfl⟩ (by omega)
        · intro c22
          refine And.intro ⟨rfl, by decide, by decide⟩ ?_
          refine And.intro ⟨rfl, by decide⟩ (And.intro (by first | exact ⟨hb.2.1.1, Int.lt_of_le_of_lt hb.2.1.2 (by decide)⟩ | omega) ?_)
          refine fload rL_6_25_0_4_1_0 h0 hB1 (by omega) ?_
          intro z23 lz23 uz23 qz23
          intro z24 hz24 ez24 bz24
          clear ez24
          clear bz24
          refine fstore rS_6_25_0_4_1_0 (fzs_sub (by decide +kernel) hW) (by omega) (by omega) ?_
          intro IhB25 ehB25 hB25
          have t26 := fup_self ehB25
          refine Exists.intro xm_84 (And.intro mi_84 (And.intro ⟨rfl, rfl, rfl, rfl⟩ (And.intro rfl ?_)))
          refine fcall _ h0 (fzs_sub (by decide +kernel) hW) hB25 (ct_Cells_addAir_1fa72 (fBz h0 hB25) (by first | exact ⟨hb.2.2.1.1, hb.2.2.1.2⟩ | omega) (by first | exact ⟨hb.2.2.2.2.1, Int.le_trans (Int.le_sub_one_of_lt (Int.lt_of_lt_of_le c2 (Int.le_refl _))) (by decide)⟩ | omega) (by omega)) ?_
          rintro IhB28 _ hB28 fhB28 rfl
          exact fcutJ (I := IhB28) (j := jc_Cells_flow_5ffc6_38) (lv' := [(0, .inr (.inr (some 2))), (1, .inl _), (2, .inl _), (3, .inl _), (4, .inl _), (5, .inl _)]) (And.intro rfl (And.intro rfl (And.intro rfl (And.intro rfl (And.intro rfl (And.intro rfl True.intro)))))) ⟨_, _, _, _, _, rfl, rfl, by omega, rfl⟩ (by omega)
  · have hB0 := fB_self (zn := znJ) (K := fKc wz_ed400) h0
    refine And.intro ⟨rfl, by decide, by decide⟩ ?_
    refine fload1 rL_68_68_0_23_1_0 h0 hB0 ⟨by decide, by decide⟩ (by first | exact ⟨ha1.1, ha1.2⟩ | omega) ?_
    intro z29 lz29 uz29 qz29
    refine And.intro ⟨rfl, by decide, by decide⟩ ?_
    refine fload1 rL_69_69_0_23_1_0 h0 hB0 ⟨by decide, by decide⟩ (by first | exact ⟨ha1.1, ha1.2⟩ | omega) ?_
    intro z30 lz30 uz30 qz30
    refine And.intro ⟨rfl, by decide, by decide⟩ ?_
    refine fload1 rL_3_3_0_19_1_0 h0 hB0 ⟨by decide, by decide⟩ (by first | exact ⟨lz29, uz29⟩ | omega) ?_
    intro z31 lz31 uz31 qz31
    refine And.intro ⟨rfl, by decide, by decide⟩ ?_
    refine fload1 rL_3_3_0_19_1_0 h0 hB0 ⟨by decide, by decide⟩ (by first | exact ⟨lz30, uz30⟩ | omega) ?_
    intro z32 lz32 uz32 qz32
    intro z33 hz33 ez33 bz33
    clear ez33
    clear bz33
    refine And.intro (by omega) (And.intro ?_ ?_)
    · intro c34
      exact fcutJ (I := I) (j := jc_Cells_flow_5ffc6_38) (lv' := [(0, .inr (.inr (some 2))), (1, .inl _), (2, .inl _), (3, .inl _), (4, .inl _), (5, .inl _)]) (And.intro rfl (And.intro rfl (And.intro rfl (And.intro rfl (And.intro rfl (And.intro rfl True.intro)))))) ⟨_, _, _, _, _, rfl, rfl, by omega, rfl⟩ (by omega)
    · intro c35
      exact rfl
abbrev jc_Cells_flowAll_6143e_2 : Nat → fL → List fV → fH → Prop := fun m lv st I => ∃ (y1 : Int), lv = [(0, .inr (.inr (some 2))), (1, .inl y1)] ∧ st = [] ∧ (((0 ≤ y1 ∧ y1 ≤ 24))) ∧ m = (1 + 1 * (24 - y1) : Int).toNat
set_option maxRecDepth 8000 in
theorem ct_Cells_flowAll_6143e {I : fH}  (h0 : fB bsJ I)  : fC ρ base n F xTc vwCl xTys D dA la gJ (fbz bsJ znJ (fKc wz_ed400) I) xm_88 [.inr (.inr (some 2))] I (fun _ r => r = none) := by
  have hW : fzs wz_ed400 (fKc wz_ed400) := fKc_ok _
  refine f_meth (rb := rbJ) (J := [(2, jc_Cells_flowAll_6143e_2)]) 26 400 xG xin_88 x6_88 okJ (fB_self h0) ?_ ?_
  · refine List.forall_mem_cons.mpr ⟨?_, fun q h => absurd h List.not_mem_nil⟩
    · rintro m _ _ I1 hB1 ⟨y1, rfl, rfl, hb, hm⟩
      refine And.intro ⟨rfl, by decide, by decide⟩ (fgetf fb_2_10 h0 hB1 ?_)
      intro z1 lz1 uz1 qz1
      refine And.intro (And.intro (by first | exact fi_ hb.1 hb.2 rfl | omega) (by first | exact fi_ lz1 uz1 rfl | omega)) (And.intro ?_ ?_)
      · intro c2
        exact rfl
      · intro c3
        refine And.intro ⟨rfl, by decide, by decide⟩ ?_
        refine fload1 rL_71_71_0_23_1_0 h0 hB1 ⟨by decide, by decide⟩ (by first | exact ⟨hb.1, Int.le_trans (Int.le_sub_one_of_lt (Int.lt_of_lt_of_le c3 uz1)) (by decide)⟩ | omega) ?_
        intro z4 lz4 uz4 qz4
        refine And.intro (And.intro (by first | exact fi_ lz4 uz4 rfl | omega) (by first | exact ⟨by decide, by decide⟩ | omega)) (And.intro ?_ ?_)
        · intro c5
          exact fcutJ (I := I1) (j := jc_Cells_flowAll_6143e_2) (lv' := [(0, .inr (.inr (some 2))), (1, .inl _)]) (And.intro rfl (And.intro rfl True.intro)) ⟨_, rfl, rfl, by omega, rfl⟩ (by omega)
        · intro c6
          refine Exists.intro xm_89 (And.intro mi_89 (And.intro ⟨rfl, rfl, rfl, rfl⟩ (And.intro rfl ?_)))
          refine fcall _ h0 (fzs_sub (by decide +kernel) hW) hB1 (ct_Cells_flow_5ffc6 (fBz h0 hB1) (by first | exact ⟨hb.1, Int.le_trans (Int.le_sub_one_of_lt (Int.lt_of_lt_of_le c3 uz1)) (by decide)⟩ | omega)) ?_
          rintro IhB8 _ hB8 fhB8 rfl
          have t9 := fhB8 2 10 (by decide +kernel)
          exact fcutJ (I := IhB8) (j := jc_Cells_flowAll_6143e_2) (lv' := [(0, .inr (.inr (some 2))), (1, .inl _)]) (And.intro rfl (And.intro rfl True.intro)) ⟨_, rfl, rfl, by omega, rfl⟩ (by omega)
  · have hB0 := fB_self (zn := znJ) (K := fKc wz_ed400) h0
    exact fcutJ (I := I) (j := jc_Cells_flowAll_6143e_2) (lv' := [(0, .inr (.inr (some 2))), (1, .inl _)]) (And.intro rfl (And.intro rfl True.intro)) ⟨_, rfl, rfl, by omega, rfl⟩ (by omega)
set_option maxRecDepth 8000 in
theorem ct_Cells_hear_3a84b {I : fH} {x1 : Nat} (h0 : fB bsJ I) (ha1 : (73 ≤ x1 ∧ x1 ≤ 162)) : fC ρ base n F xTc vwCl xTys D dA la gJ (fbz bsJ znJ (fKc wz_ef877) I) xm_76 [.inr (.inr (some 2)), .inr (.inr (some x1))] I (fun _ r => r = none) := by
  have hW : fzs wz_ef877 (fKc wz_ef877) := fKc_ok _
  refine f_meth (rb := rbJ) (J := []) 1 400 xG xin_76 x6_76 okJ (fB_self h0) ?_ ?_
  · exact fun q h => absurd h List.not_mem_nil
  · have hB0 := fB_self (zn := znJ) (K := fKc wz_ef877) h0
    refine fload rL_73_162_7_7_1_0 h0 hB0 (by omega) ?_
    intro z1 lz1 uz1 qz1
    refine fload rL_73_162_5_5_1_0 h0 hB0 (by omega) ?_
    intro z2 lz2 uz2 qz2
    refine And.intro ⟨rfl, by decide, by decide⟩ ?_
    refine And.intro ⟨rfl, by decide⟩ (And.intro (by first | exact ⟨lz1, Int.lt_of_le_of_lt uz1 (by decide)⟩ | omega) ?_)
    refine fload rL_48_67_0_5_1_0 h0 hB0 (by omega) ?_
    intro z3 lz3 uz3 qz3
    refine And.intro (And.intro (by first | exact fi_ lz2 uz2 rfl | omega) (by first | exact fi_ lz3 uz3 rfl | omega)) (And.intro ?_ ?_)
    · intro c4
      exact rfl
    · intro c5
      refine And.intro ⟨rfl, by decide, by decide⟩ ?_
      refine And.intro ⟨rfl, by decide⟩ (And.intro (by first | exact ⟨lz1, Int.lt_of_le_of_lt uz1 (by decide)⟩ | omega) ?_)
      refine And.intro (fcopyU (rgG_73_162 (by omega) (by omega)) (rgG_48_67 (by omega) (by omega)) rL_73_162_0_5_1_0 rS_48_67_0_5_1_0 (fzs_sub (by decide +kernel) hW) h0 hB0 (by omega) (by omega) (by omega) (by omega)) (And.intro rfl ?_)
      intro IhB6 ehB6 hB6
      exact rfl
abbrev jc_Cells_takeReports_b5cfd_4 : Nat → fL → List fV → fH → Prop := fun m lv st I => ∃ (y1 : Int) (y2 : Int) (y3 : Int), lv = [(0, .inr (.inr (some 2))), (1, .inl y1), (2, .inl y2), (3, .inl y3)] ∧ st = [] ∧ ((((-2147483648) ≤ y1 ∧ y1 ≤ 2147483647) ∧ (0 ≤ y2 ∧ y2 ≤ 90) ∧ (0 ≤ y3 ∧ y3 ≤ 90) ∧ (y2 ≤ y3))) ∧ m = (1 + 1 * (90 - y3) : Int).toNat
set_option maxRecDepth 8000 in
theorem ct_Cells_takeReports_b5cfd {I : fH} {x1 : Int} (h0 : fB bsJ I) (ha1 : ((-2147483648) ≤ x1 ∧ x1 ≤ 2147483647)) : fC ρ base n F xTc vwCl xTys D dA la gJ (fbz bsJ znJ (fKc wz_0cc09) I) xm_74 [.inr (.inr (some 2)), .inl x1] I (fun _ r => r = none) := by
  have hW : fzs wz_0cc09 (fKc wz_0cc09) := fKc_ok _
  refine f_meth (rb := rbJ) (J := [(4, jc_Cells_takeReports_b5cfd_4)]) 92 400 xG xin_74 x6_74 okJ (fB_self h0) ?_ ?_
  · refine List.forall_mem_cons.mpr ⟨?_, fun q h => absurd h List.not_mem_nil⟩
    · rintro m _ _ I1 hB1 ⟨y1, y2, y3, rfl, rfl, hb, hm⟩
      refine And.intro ⟨rfl, by decide, by decide⟩ (fgetf fb_2_12 h0 hB1 ?_)
      intro z1 lz1 uz1 qz1
      refine And.intro (And.intro (by first | exact fi_ hb.2.2.1.1 hb.2.2.1.2 rfl | omega) (by first | exact fi_ lz1 uz1 rfl | omega)) (And.intro ?_ ?_)
      · intro c2
        refine And.intro ⟨rfl, by decide, by decide⟩ (And.intro rfl (And.intro (Or.inl rfl) (fputf fb_2_12 (by decide +kernel) hW (by first | exact ⟨hb.2.1.1, hb.2.1.2⟩ | omega) ?_)))
        intro IhB3 ehB3 hB3
        have t4 := fup_at ehB3 12 (by first | rfl | omega)
        exact rfl
      · intro c5
        refine And.intro ⟨rfl, by decide, by decide⟩ ?_
        refine And.intro ⟨rfl, by decide⟩ (And.intro (by first | exact ⟨hb.2.2.1.1, Int.lt_of_le_of_lt (Int.le_sub_one_of_lt (Int.lt_of_lt_of_le c5 uz1)) (by decide)⟩ | omega) ?_)
        refine fload rL_73_162_6_6_1_0 h0 hB1 (by omega) ?_
        intro z6 lz6 uz6 qz6
        refine And.intro (And.intro (by first | exact fi_ lz6 uz6 rfl | omega) (by first | exact fi_ hb.1.1 hb.1.2 rfl | omega)) (And.intro ?_ ?_)
        · intro c7
          refine Exists.intro xm_76 (And.intro mi_76 (And.intro ⟨rfl, rfl, rfl, rfl⟩ (And.intro rfl ?_)))
          refine fcall _ h0 (fzs_sub (by decide +kernel) hW) hB1 (ct_Cells_hear_3a84b (fBz h0 hB1) (by omega)) ?_
          rintro IhB9 _ hB9 fhB9 rfl
          have t10 := fhB9 2 12 (by decide +kernel)
          exact fcutJ (I := IhB9) (j := jc_Cells_takeReports_b5cfd_4) (lv' := [(0, .inr (.inr (some 2))), (1, .inl _), (2, .inl _), (3, .inl _)]) (And.intro rfl (And.intro rfl (And.intro rfl (And.intro rfl True.intro)))) ⟨_, _, _, rfl, rfl, by omega, rfl⟩ (by omega)
        · intro c11
          refine And.intro ⟨rfl, by decide, by decide⟩ ?_
          refine And.intro ⟨rfl, by decide⟩ (And.intro (by omega) ?_)
          refine Exists.intro xm_75 (And.intro mi_75 (And.intro ⟨rfl, rfl, rfl, rfl⟩ (And.intro True.intro ?_)))
          refine fcall _ h0 (fzs_sub (by decide +kernel) hW) hB1 (ct_copyRow (W := [72]) (len := 8) (fBz h0 hB1) (frCx (a0 := 73) (a1 := 162) (by decide +kernel) (by omega) (by omega))) ?_
          rintro IhB12 _ hB12 fhB12 ⟨rfl, ehB12⟩
          have t13 := fhB12 2 12 (by decide +kernel)
          intro z14 hz14 bz14
          have bz14 := bz14 (by omega)
          exact fcutJ (I := IhB12) (j := jc_Cells_takeReports_b5cfd_4) (lv' := [(0, .inr (.inr (some 2))), (1, .inl _), (2, .inl _), (3, .inl _)]) (And.intro rfl (And.intro rfl (And.intro rfl (And.intro rfl True.intro)))) ⟨_, _, _, rfl, rfl, by omega, rfl⟩ (by omega)
  · have hB0 := fB_self (zn := znJ) (K := fKc wz_0cc09) h0
    exact fcutJ (I := I) (j := jc_Cells_takeReports_b5cfd_4) (lv' := [(0, .inr (.inr (some 2))), (1, .inl _), (2, .inl _), (3, .inl _)]) (And.intro rfl (And.intro rfl (And.intro rfl (And.intro rfl True.intro)))) ⟨_, _, _, rfl, rfl, by omega, rfl⟩ (by omega)
set_option maxRecDepth 8000 in
theorem ct_City_rise_1dcb3 {I : fH}  (h0 : fB bsJ I)  : fC ρ base n F xTc vwCl xTys D dA la gJ (fbz bsJ znJ (fKc wz_fd6d1) I) xm_94 [.inr (.inr (some 1))] I (fun _ r => r = none) := by
  have hW : fzs wz_fd6d1 (fKc wz_fd6d1) := fKc_ok _
  refine f_meth (rb := rbJ) (J := []) 1 400 xG xin_94 x6_94 okJ (fB_self h0) ?_ ?_
  · exact fun q h => absurd h List.not_mem_nil
  · have hB0 := fB_self (zn := znJ) (K := fKc wz_fd6d1) h0
    refine Exists.intro xm_62 (And.intro mi_62 (And.intro ⟨rfl, rfl, rfl, rfl⟩ (And.intro rfl ?_)))
    refine fcallp hB0 (ct_City_lift_641ac (fBz h0 hB0)) ?_
    rintro _ ⟨z1, rfl, hz1⟩
    refine Exists.intro xm_65 (And.intro mi_65 (And.intro ⟨rfl, rfl, rfl, rfl⟩ (And.intro rfl ?_)))
    refine fcallp hB0 (ct_City_weight_75fdd (fBz h0 hB0)) ?_
    rintro _ ⟨z2, rfl, hz2⟩
    intro z3 hz3 ez3 bz3
    clear ez3
    try replace bz3 := bz3 (by omega)
    refine And.intro (And.intro (by omega) (And.intro (by first | exact ⟨by decide, by decide⟩ | omega) (And.intro (by first | exact by decide | omega) rfl))) ?_
    intro z4 hz4 ez4 dz4
    refine And.intro (And.intro (by first | exact ⟨by decide, by decide⟩ | omega) (And.intro (by omega) rfl)) ?_
    intro z5 hz5
    refine And.intro (And.intro (by first | exact ⟨by decide, by decide⟩ | omega) (And.intro (by omega) rfl)) ?_
    intro z6 hz6
    refine And.intro ⟨rfl, by decide, by decide⟩ (fgetf fb_1_5 h0 hB0 ?_)
    intro z7 lz7 uz7 qz7
    refine And.intro (And.intro (by first | exact ⟨by decide, by decide⟩ | omega) (And.intro (by omega) rfl)) ?_
    intro z8 hz8
    refine And.intro (And.intro (by first | exact ⟨by decide, by decide⟩ | omega) (And.intro (by omega) rfl)) ?_
    intro z9 hz9
    refine And.intro ⟨rfl, by decide, by decide⟩ (And.intro rfl (And.intro (Or.inl rfl) (fputf fb_1_5 (by decide +kernel) hW (by omega) ?_)))
    intro IhB10 ehB10 hB10
    have t11 := fup_at ehB10 5 (by first | rfl | omega)
    exact rfl
abbrev jc_Cells_leakAll_bf967_2 : Nat → fL → List fV → fH → Prop := fun m lv st I => ∃ (y1 : Int), lv = [(0, .inr (.inr (some 2))), (1, .inl y1)] ∧ st = [] ∧ (((0 ≤ y1 ∧ y1 ≤ 20))) ∧ m = (7 + 7 * (20 - y1) : Int).toNat
abbrev jc_Cells_leakAll_bf967_12 : Nat → fL → List fV → fH → Prop := fun m lv st I => ∃ (y1 : Int) (y2 : Int), lv = [(0, .inr (.inr (some 2))), (1, .inl y1), (2, .inl y2)] ∧ st = [] ∧ (((0 ≤ y1 ∧ y1 ≤ 19) ∧ (0 ≤ y2 ∧ y2 ≤ 5) ∧ (1 ≤ I 2 5 ∧ I 2 5 ≤ 20))) ∧ m = (1 + 7 * (20 - y1) + 1 * (5 - y2) : Int).toNat
set_option maxRecDepth 8000 in
theorem ct_Cells_leakAll_bf967 {I : fH}  (h0 : fB bsJ I)  : fC ρ base n F xTc vwCl xTys D dA la gJ (fbz bsJ znJ (fKc wz_ed400) I) xm_90 [.inr (.inr (some 2))] I (fun _ r => r = none) := by
  have hW : fzs wz_ed400 (fKc wz_ed400) := fKc_ok _
  refine f_meth (rb := rbJ) (J := [(2, jc_Cells_leakAll_bf967_2), (12, jc_Cells_leakAll_bf967_12)]) 148 400 xG xin_90 x6_90 okJ (fB_self h0) ?_ ?_
  · refine List.forall_mem_cons.mpr ⟨?_, List.forall_mem_cons.mpr ⟨?_, fun q h => absurd h List.not_mem_nil⟩⟩
    · rintro m _ _ I1 hB1 ⟨y1, rfl, rfl, hb, hm⟩
      refine And.intro ⟨rfl, by decide, by decide⟩ (fgetf fb_2_5 h0 hB1 ?_)
      intro z1 lz1 uz1 qz1
      refine And.intro (And.intro (by first | exact fi_ hb.1 hb.2 rfl | omega) (by first | exact fi_ lz1 uz1 rfl | omega)) (And.intro ?_ ?_)
      · intro c2
        exact rfl
      · intro c3
        exact fcutJ (I := I1) (j := jc_Cells_leakAll_bf967_12) (lv' := [(0, .inr (.inr (some 2))), (1, .inl _), (2, .inl _)]) (And.intro rfl (And.intro rfl (And.intro rfl True.intro))) ⟨_, _, rfl, rfl, by omega, rfl⟩ (by omega)
    · rintro m _ _ I1 hB1 ⟨y1, y2, rfl, rfl, hb, hm⟩
      refine And.intro (And.intro (by first | exact fi_ hb.2.1.1 hb.2.1.2 rfl | omega) (by first | exact ⟨by decide, by decide⟩ | omega)) (And.intro ?_ ?_)
      · intro c4
        exact fcutJ (I := I1) (j := jc_Cells_leakAll_bf967_2) (lv' := [(0, .inr (.inr (some 2))), (1, .inl _)]) (And.intro rfl (And.intro rfl True.intro)) ⟨_, rfl, rfl, by omega, rfl⟩ (by omega)
      · intro c5
        refine And.intro ⟨rfl, by decide, by decide⟩ ?_
        refine And.intro ⟨rfl, by decide⟩ (And.intro (by first | exact ⟨hb.1.1, Int.lt_of_le_of_lt hb.1.2 (by decide)⟩ | omega) ?_)
        refine fload rL_6_25_0_4_1_0 h0 hB1 (by omega) ?_
        intro z6 lz6 uz6 qz6
        refine And.intro ⟨rfl, by decide, by decide⟩ ?_
        refine fload1 rL_4_4_0_19_1_0 h0 hB1 ⟨by decide, by decide⟩ (by first | exact ⟨hb.1.1, hb.1.2⟩ | omega) ?_
        intro z7 lz7 uz7 qz7
        intro z8 hz8 ez8 bz8
        clear ez8
        clear bz8
        refine And.intro (And.intro (by omega) (And.intro (by first | exact ⟨by decide, by decide⟩ | omega) (And.intro (by first | exact by decide | omega) rfl))) ?_
        intro z9 hz9 ez9 dz9
        refine And.intro ⟨rfl, by decide, by decide⟩ ?_
        refine And.intro ⟨rfl, by decide⟩ (And.intro (by first | exact ⟨hb.1.1, Int.lt_of_le_of_lt hb.1.2 (by decide)⟩ | omega) ?_)
        refine fload rL_6_25_0_4_1_0 h0 hB1 (by omega) ?_
        intro z10 lz10 uz10 qz10
        intro z11 hz11 ez11 bz11
        clear ez11
        clear bz11
        refine fstore rS_6_25_0_4_1_0 (fzs_sub (by decide +kernel) hW) (by omega) (by omega) ?_
        intro IhB12 ehB12 hB12
        have t13 := fup_self ehB12
        have t14 : IhB12 2 5 = I1 2 5 := (congrFun (congrFun ehB12 2) 5).trans (fup_ne (by first | exact Or.inl (by decide) | omega))
        refine And.intro ⟨rfl, by decide, by decide⟩ ?_
        refine And.intro ⟨rfl, by decide⟩ (And.intro (by first | exact ⟨hb.1.1, Int.lt_of_le_of_lt hb.1.2 (by decide)⟩ | omega) ?_)
        refine fload rL_27_46_0_4_1_0 h0 hB12 (by omega) ?_
        intro z15 lz15 uz15 qz15
        intro z16 hz16 ez16 bz16
        clear ez16
        clear bz16
        refine fstore rS_27_46_0_4_1_0 (fzs_sub (by decide +kernel) hW) (by omega) (by omega) ?_
        intro IhB17 ehB17 hB17
        have t18 := fup_self ehB17
        have t19 : IhB17 2 5 = IhB12 2 5 := (congrFun (congrFun ehB17 2) 5).trans (fup_ne (by first | exact Or.inl (by decide) | omega))
        exact fcutJ (I := IhB17) (j := jc_Cells_leakAll_bf967_12) (lv' := [(0, .inr (.inr (some 2))), (1, .inl _), (2, .inl _)]) (And.intro rfl (And.intro rfl (And.intro rfl True.intro))) ⟨_, _, rfl, rfl, by omega, rfl⟩ (by omega)
  · have hB0 := fB_self (zn := znJ) (K := fKc wz_ed400) h0
    exact fcutJ (I := I) (j := jc_Cells_leakAll_bf967_2) (lv' := [(0, .inr (.inr (some 2))), (1, .inl _)]) (And.intro rfl (And.intro rfl True.intro)) ⟨_, rfl, rfl, by omega, rfl⟩ (by omega)
abbrev jc_City_passMinute_6a7f6_13 (I0 : fH) : Nat → fL → List fV → fH → Prop := fun m lv st I => ∃ (y1 : Int), lv = [(0, .inr (.inr (some 1))), (1, .inl y1)] ∧ st = [] ∧ (((0 ≤ y1 ∧ y1 ≤ 24) ∧ (I 1 9 = I0 1 9))) ∧ m = (26 + 1 * (24 - y1) : Int).toNat
abbrev jc_City_passMinute_6a7f6_75 (I0 : fH) : Nat → fL → List fV → fH → Prop := fun m lv st I => ∃ (y1 : Int), lv = [(0, .inr (.inr (some 1))), (1, .inl y1)] ∧ st = [] ∧ (((0 ≤ y1 ∧ y1 ≤ 24) ∧ (I 1 9 = I0 1 9))) ∧ m = (1 + 1 * (24 - y1) : Int).toNat
set_option maxRecDepth 8000 in
theorem ct_City_passMinute_6a7f6 {I : fH}  (h0 : fB bsJ I)  : fC ρ base n F xTc vwCl xTys D dA la gJ (fbz bsJ znJ (fKc wz_c5d03) I) xm_73 [.inr (.inr (some 1))] I (fun I' r => r = none ∧ (I 1 9 < 2147483647 → I' 1 9 = I 1 9 + 1)) := by
  have hW : fzs wz_c5d03 (fKc wz_c5d03) := fKc_ok _
  refine f_meth (rb := rbJ) (J := [(13, (jc_City_passMinute_6a7f6_13 I)), (75, (jc_City_passMinute_6a7f6_75 I))]) 51 400 xG xin_73 x6_73 okJ (fB_self h0) ?_ ?_
  · refine List.forall_mem_cons.mpr ⟨?_, List.forall_mem_cons.mpr ⟨?_, fun q h => absurd h List.not_mem_nil⟩⟩
    · rintro m _ _ I1 hB1 ⟨y1, rfl, rfl, hb, hm⟩
      refine And.intro ⟨rfl, by decide, by decide⟩ ?_
      refine And.intro ⟨rfl, by decide, by decide⟩ (fgetf fb_163_13 h0 hB1 ?_)
      intro z1 lz1 uz1 qz1
      refine And.intro (And.intro (by first | exact fi_ hb.1.1 hb.1.2 rfl | omega) (by first | exact fi_ lz1 uz1 rfl | omega)) (And.intro ?_ ?_)
      · intro c2
        refine And.intro ⟨rfl, by decide, by decide⟩ ?_
        refine Exists.intro xm_88 (And.intro mi_88 (And.intro ⟨rfl, rfl, rfl, rfl⟩ (And.intro rfl ?_)))
        refine fcall _ h0 (fzs_sub (by decide +kernel) hW) hB1 (ct_Cells_flowAll_6143e (fBz h0 hB1)) ?_
        rintro IhB4 _ hB4 fhB4 rfl
        have t5 := fhB4 1 9 (by decide +kernel)
        have t6 := fhB4 163 13 (by decide +kernel)
        refine And.intro ⟨rfl, by decide, by decide⟩ ?_
        refine Exists.intro xm_90 (And.intro mi_90 (And.intro ⟨rfl, rfl, rfl, rfl⟩ (And.intro rfl ?_)))
        refine fcall _ h0 (fzs_sub (by decide +kernel) hW) hB4 (ct_Cells_leakAll_bf967 (fBz h0 hB4)) ?_
        rintro IhB8 _ hB8 fhB8 rfl
        have t9 := fhB8 1 9 (by decide +kernel)
        have t10 := fhB8 163 13 (by decide +kernel)
        exact fcutJ (I := IhB8) (j := (jc_City_passMinute_6a7f6_75 I)) (lv' := [(0, .inr (.inr (some 1))), (1, .inl _)]) (And.intro rfl (And.intro rfl True.intro)) ⟨_, rfl, rfl, by omega, rfl⟩ (by omega)
      · intro c11
        refine And.intro ⟨rfl, by decide, by decide⟩ ?_
        refine And.intro ⟨rfl, by decide, by decide⟩ ?_
        refine fload1 rL_167_167_0_23_1_0 h0 hB1 ⟨by decide, by decide⟩ (by first | exact ⟨hb.1.1, Int.le_trans (Int.le_sub_one_of_lt (Int.lt_of_lt_of_le c11 uz1)) (by decide)⟩ | omega) ?_
        intro z12 lz12 uz12 qz12
        refine And.intro (And.intro (by first | exact fi_ lz12 uz12 rfl | omega) (by first | exact ⟨by decide, by decide⟩ | omega)) (And.intro ?_ ?_)
        · intro c13
          exact fcutJ (I := I1) (j := (jc_City_passMinute_6a7f6_13 I)) (lv' := [(0, .inr (.inr (some 1))), (1, .inl _)]) (And.intro rfl (And.intro rfl True.intro)) ⟨_, rfl, rfl, by omega, rfl⟩ (by omega)
        · intro c14
          refine And.intro ⟨rfl, by decide, by decide⟩ ?_
          refine Exists.intro xm_50 (And.intro mi_50 (And.intro ⟨rfl, rfl, rfl, rfl⟩ (And.intro rfl ?_)))
          refine fcallp hB1 (ct_Works_isGone_6681e (fBz h0 hB1) (by first | exact ⟨hb.1.1, Int.le_trans (Int.le_sub_one_of_lt (Int.lt_of_lt_of_le c11 uz1)) (by decide)⟩ | omega)) ?_
          rintro _ ⟨z15, rfl, hz15⟩
          refine And.intro (by omega) (And.intro ?_ ?_)
          · intro c16
            exact fcutJ (I := I1) (j := (jc_City_passMinute_6a7f6_13 I)) (lv' := [(0, .inr (.inr (some 1))), (1, .inl _)]) (And.intro rfl (And.intro rfl True.intro)) ⟨_, rfl, rfl, by omega, rfl⟩ (by omega)
          · intro c17
            refine Exists.intro xm_77 (And.intro mi_77 (And.intro ⟨rfl, rfl, rfl, rfl⟩ (And.intro rfl ?_)))
            refine fcall _ h0 (fzs_sub (by decide +kernel) hW) hB1 (ct_City_runWork_55621 (fBz h0 hB1) (by first | exact ⟨hb.1.1, Int.le_trans (Int.le_sub_one_of_lt (Int.lt_of_lt_of_le c11 uz1)) (by decide)⟩ | omega)) ?_
            rintro IhB19 _ hB19 fhB19 rfl
            have t20 := fhB19 1 9 (by decide +kernel)
            have t21 := fhB19 163 13 (by decide +kernel)
            exact fcutJ (I := IhB19) (j := (jc_City_passMinute_6a7f6_13 I)) (lv' := [(0, .inr (.inr (some 1))), (1, .inl _)]) (And.intro rfl (And.intro rfl True.intro)) ⟨_, rfl, rfl, by omega, rfl⟩ (by omega)
    · rintro m _ _ I1 hB1 ⟨y1, rfl, rfl, hb, hm⟩
      refine And.intro ⟨rfl, by decide, by decide⟩ ?_
      refine And.intro ⟨rfl, by decide, by decide⟩ (fgetf fb_177_4 h0 hB1 ?_)
      intro z22 lz22 uz22 qz22
      refine And.intro (And.intro (by first | exact fi_ hb.1.1 hb.1.2 rfl | omega) (by first | exact fi_ lz22 uz22 rfl | omega)) (And.intro ?_ ?_)
      · intro c23
        refine Exists.intro xm_94 (And.intro mi_94 (And.intro ⟨rfl, rfl, rfl, rfl⟩ (And.intro rfl ?_)))
        refine fcall _ h0 (fzs_sub (by decide +kernel) hW) hB1 (ct_City_rise_1dcb3 (fBz h0 hB1)) ?_
        rintro IhB25 _ hB25 fhB25 rfl
        have t26 := fhB25 1 9 (by decide +kernel)
        have t27 := fhB25 177 4 (by decide +kernel)
        refine And.intro ⟨rfl, by decide, by decide⟩ (fgetf fb_1_6 h0 hB25 ?_)
        intro z28 lz28 uz28 qz28
        intro z29 hz29 ez29 bz29
        clear ez29
        try replace bz29 := bz29 (by omega)
        refine And.intro ⟨rfl, by decide, by decide⟩ (And.intro rfl (And.intro (Or.inl rfl) (fputf fb_1_6 (by decide +kernel) hW (by omega) ?_)))
        intro IhB30 ehB30 hB30
        have t31 := fup_at ehB30 6 (by first | rfl | omega)
        have t32 : IhB30 1 9 = IhB25 1 9 := (congrFun (congrFun ehB30 1) 9).trans (fup_ne (by first | decide | omega))
        have t33 : IhB30 177 4 = IhB25 177 4 := (congrFun (congrFun ehB30 177) 4).trans (fup_ne (by first | decide | omega))
        refine And.intro ⟨rfl, by decide, by decide⟩ ?_
        refine Exists.intro xm_95 (And.intro mi_95 (And.intro ⟨rfl, rfl, rfl, rfl⟩ (And.intro rfl ?_)))
        refine fcall _ h0 (fzs_sub (by decide +kernel) hW) hB30 (ct_Works_foulAll_0fc04 (fBz h0 hB30)) ?_
        rintro IhB35 _ hB35 fhB35 rfl
        have t36 := fhB35 1 6 (by decide +kernel)
        have t37 := fhB35 1 9 (by decide +kernel)
        have t38 := fhB35 177 4 (by decide +kernel)
        refine And.intro ⟨rfl, by decide, by decide⟩ (fgetf fb_1_9 h0 hB35 ?_)
        intro z39 lz39 uz39 qz39
        intro z40 hz40 ez40 bz40
        clear ez40
        try replace bz40 := bz40 (by omega)
        refine And.intro ⟨rfl, by decide, by decide⟩ (And.intro rfl (And.intro (Or.inl rfl) (fputf fb_1_9 (by decide +kernel) hW (by omega) ?_)))
        intro IhB41 ehB41 hB41
        have t42 : IhB41 1 6 = IhB35 1 6 := (congrFun (congrFun ehB41 1) 6).trans (fup_ne (by first | decide | omega))
        have t43 := fup_at ehB41 9 (by first | rfl | omega)
        have t44 : IhB41 177 4 = IhB35 177 4 := (congrFun (congrFun ehB41 177) 4).trans (fup_ne (by first | decide | omega))
        refine And.intro ⟨rfl, by decide, by decide⟩ (fgetf fb_1_9 h0 hB41 ?_)
        intro z45 lz45 uz45 qz45
        refine And.intro (And.intro (by first | exact fi_ lz45 uz45 rfl | omega) (And.intro (by first | exact ⟨by decide, by decide⟩ | omega) (And.intro (by first | exact by decide | omega) rfl))) ?_
        intro z46 hz46 ez46 dz46
        refine And.intro (by omega) (And.intro ?_ ?_)
        · intro c47
          exact ⟨rfl, by omega⟩
        · intro c48
          refine Exists.intro xm_96 (And.intro mi_96 (And.intro ⟨rfl, rfl, rfl, rfl⟩ (And.intro rfl ?_)))
          refine fcall _ h0 (fzs_sub (by decide +kernel) hW) hB41 (ct_City_sendReports_0032f (fBz h0 hB41)) ?_
          rintro IhB50 _ hB50 fhB50 rfl
          have t51 := fhB50 1 6 (by decide +kernel)
          have t52 := fhB50 1 9 (by decide +kernel)
          have t53 := fhB50 177 4 (by decide +kernel)
          exact ⟨rfl, by omega⟩
      · intro c54
        refine And.intro ⟨rfl, by decide, by decide⟩ ?_
        refine Exists.intro xm_21 (And.intro mi_21 (And.intro ⟨rfl, rfl, rfl, rfl⟩ (And.intro rfl ?_)))
        refine fcallp hB1 (ct_People_isDead_edb17 (fBz h0 hB1) (by first | exact ⟨hb.1.1, Int.le_trans (Int.le_sub_one_of_lt (Int.lt_of_lt_of_le c54 uz22)) (by decide)⟩ | omega)) ?_
        rintro _ ⟨z55, rfl, hz55⟩
        refine And.intro (by omega) (And.intro ?_ ?_)
        · intro c56
          exact fcutJ (I := I1) (j := (jc_City_passMinute_6a7f6_75 I)) (lv' := [(0, .inr (.inr (some 1))), (1, .inl _)]) (And.intro rfl (And.intro rfl True.intro)) ⟨_, rfl, rfl, by omega, rfl⟩ (by omega)
        · intro c57
          refine Exists.intro xm_91 (And.intro mi_91 (And.intro ⟨rfl, rfl, rfl, rfl⟩ (And.intro rfl ?_)))
          refine fcall _ h0 (fzs_sub (by decide +kernel) hW) hB1 (ct_City_breathe_98bcc (fBz h0 hB1) (by first | exact ⟨hb.1.1, Int.le_trans (Int.le_sub_one_of_lt (Int.lt_of_lt_of_le c54 uz22)) (by decide)⟩ | omega)) ?_
          rintro IhB59 _ hB59 fhB59 rfl
          have t60 := fhB59 1 9 (by decide +kernel)
          have t61 := fhB59 177 4 (by decide +kernel)
          exact fcutJ (I := IhB59) (j := (jc_City_passMinute_6a7f6_75 I)) (lv' := [(0, .inr (.inr (some 1))), (1, .inl _)]) (And.intro rfl (And.intro rfl True.intro)) ⟨_, rfl, rfl, by omega, rfl⟩ (by omega)
  · have hB0 := fB_self (zn := znJ) (K := fKc wz_c5d03) h0
    refine And.intro ⟨rfl, by decide, by decide⟩ ?_
    refine And.intro ⟨rfl, by decide, by decide⟩ (fgetf fb_1_9 h0 hB0 ?_)
    intro z62 lz62 uz62 qz62
    refine Exists.intro xm_74 (And.intro mi_74 (And.intro ⟨rfl, rfl, rfl, rfl⟩ (And.intro rfl ?_)))
    refine fcall _ h0 (fzs_sub (by decide +kernel) hW) hB0 (ct_Cells_takeReports_b5cfd (fBz h0 hB0) (by first | exact ⟨lz62, uz62⟩ | omega)) ?_
    rintro IhB64 _ hB64 fhB64 rfl
    have t65 := fhB64 1 9 (by decide +kernel)
    exact fcutJ (I := IhB64) (j := (jc_City_passMinute_6a7f6_13 I)) (lv' := [(0, .inr (.inr (some 1))), (1, .inl _)]) (And.intro rfl (And.intro rfl True.intro)) ⟨_, rfl, rfl, by omega, rfl⟩ (by omega)
abbrev jc_X_run_f9fd1_33 (x1 : Int) (I0 : fH) : Nat → fL → List fV → fH → Prop := fun m lv st I => ∃ (y1 : Int) (y2 : Int), lv = [(0, .inr (.inr (some 0))), (1, .inl y1), (2, .inl y2)] ∧ st = [] ∧ (((1 ≤ y1 ∧ y1 ≤ 120) ∧ (0 ≤ y2 ∧ y2 ≤ 120) ∧ (I 1 9 = I0 1 9 + y2) ∧ (I0 1 9 + y1 ≤ 20000) ∧ (0 ≤ I0 1 9) ∧ (y2 ≤ y1) ∧ (y1 = x1))) ∧ m = (1 + 1 * (120 - y2) : Int).toNat
set_option maxRecDepth 8000 in
theorem ct_X_run_f9fd1 {I : fH} {x1 : Int} (h0 : fB bsJ I) (ha1 : ((-2147483648) ≤ x1 ∧ x1 ≤ 2147483647)) (hp0 : 0 ≤ I 1 9 ∧ I 1 9 ≤ 20000) : fC ρ base n F xTc vwCl xTys D dA la gJ (fbz bsJ znJ (fKc wz_c5d03) I) xm_72 [.inr (.inr (some 0)), .inl x1] I (fun I' r => ∃ z, r = some (.inl z) ∧ (((-2147483648) ≤ z ∧ z ≤ 2147483647) ∧ ((1 ≤ x1 ∧ x1 ≤ 120 ∧ I 1 9 + x1 ≤ 20000 → z = I 1 9 + x1 ∧ I' 1 9 = I 1 9 + x1) ∧ (1 ≤ x1 ∧ x1 ≤ 120 ∧ 20000 < I 1 9 + x1 → z = (-1000000003) ∧ I' 1 9 = I 1 9) ∧ (¬ (1 ≤ x1 ∧ x1 ≤ 120) → z = (-1000000001) ∧ I' 1 9 = I 1 9)))) := by
  have hW : fzs wz_c5d03 (fKc wz_c5d03) := fKc_ok _
  refine f_meth (rb := rbJ) (J := [(33, (jc_X_run_f9fd1_33 x1 I))]) 122 400 xG xin_72 x6_72 okJ (fB_self h0) ?_ ?_
  · refine List.forall_mem_cons.mpr ⟨?_, fun q h => absurd h List.not_mem_nil⟩
    · rintro m _ _ I1 hB1 ⟨y1, y2, rfl, rfl, hb, hm⟩
      refine And.intro (And.intro (by first | exact fi_ hb.2.1.1 hb.2.1.2 rfl | omega) (by first | exact fi_ hb.1.1 hb.1.2 rfl | omega)) (And.intro ?_ ?_)
      · intro c1
        refine And.intro ⟨rfl, by decide, by decide⟩ ?_
        refine And.intro ⟨rfl, by decide, by decide⟩ (fgetf fb_1_9 h0 hB1 ?_)
        intro z2 lz2 uz2 qz2
        refine And.intro (True.intro) ?_
        exact ⟨_, rfl, by omega⟩
      · intro c3
        refine And.intro ⟨rfl, by decide, by decide⟩ ?_
        refine Exists.intro xm_73 (And.intro mi_73 (And.intro ⟨rfl, rfl, rfl, rfl⟩ (And.intro rfl ?_)))
        refine fcall _ h0 (fzs_sub (by decide +kernel) hW) hB1 (ct_City_passMinute_6a7f6 (fBz h0 hB1)) ?_
        rintro IhB5 _ hB5 fhB5 ⟨rfl, hz4⟩
        exact fcutJ (I := IhB5) (j := (jc_X_run_f9fd1_33 x1 I)) (lv' := [(0, .inr (.inr (some 0))), (1, .inl _), (2, .inl _)]) (And.intro rfl (And.intro rfl (And.intro rfl True.intro))) ⟨_, _, rfl, rfl, by omega, rfl⟩ (by omega)
  · have hB0 := fB_self (zn := znJ) (K := fKc wz_c5d03) h0
    refine Exists.intro xm_13 (And.intro mi_13 (And.intro ⟨rfl, rfl, rfl, rfl⟩ (And.intro True.intro ?_)))
    refine fcallp hB0 (ct_X_within_c27b1 (fBz h0 hB0) (by first | exact ⟨ha1.1, ha1.2⟩ | omega) (by first | exact ⟨by decide, by decide⟩ | omega) (by first | exact ⟨by decide, by decide⟩ | omega)) ?_
    rintro _ ⟨z6, rfl, hz6⟩
    refine And.intro (by omega) (And.intro ?_ ?_)
    · intro c7
      refine And.intro ⟨rfl, by decide, by decide⟩ ?_
      refine And.intro ⟨rfl, by decide, by decide⟩ (fgetf fb_1_9 h0 hB0 ?_)
      intro z8 lz8 uz8 qz8
      intro z9 hz9 ez9 bz9
      clear ez9
      try replace bz9 := bz9 (by omega)
      refine And.intro (by omega) (And.intro ?_ ?_)
      · intro c10
        exact fcutJ (I := I) (j := (jc_X_run_f9fd1_33 x1 I)) (lv' := [(0, .inr (.inr (some 0))), (1, .inl _), (2, .inl _)]) (And.intro rfl (And.intro rfl (And.intro rfl True.intro))) ⟨_, _, rfl, rfl, by omega, rfl⟩ (by omega)
      · intro c11
        refine And.intro (True.intro) ?_
        exact ⟨_, rfl, by omega⟩
    · intro c12
      refine And.intro (True.intro) ?_
      exact ⟨_, rfl, by omega⟩
abbrev jc_M_hasWatch_bb889_4 : Nat → fL → List fV → fH → Prop := fun m lv st I => ∃ (y1 : Int) (y2 : Int) (y3 : Int), lv = [(0, .inr (.inr (some 740))), (1, .inl y1), (2, .inl y2), (3, .inl y3)] ∧ st = [] ∧ (((0 ≤ y1 ∧ y1 ≤ 19) ∧ (0 ≤ y2 ∧ y2 ≤ 1) ∧ (0 ≤ y3 ∧ y3 ≤ 24))) ∧ m = (1 + 1 * (24 - y3) : Int).toNat
set_option maxRecDepth 8000 in
theorem ct_M_hasWatch_bb889 {I : fH} {x1 : Int} (h0 : fB bsJ I) (ha1 : (0 ≤ x1 ∧ x1 ≤ 19)) : fC ρ base n F xTc vwCl xTys D dA la gJ (fbz bsJ znJ (fKc []) I) xm_304 [.inr (.inr (some 740)), .inl x1] I (fun _ r => ∃ z, r = some (.inl z) ∧ (0 ≤ z ∧ z ≤ 1)) := by
  have hW : fzs [] (fKc []) := fKc_ok _
  refine f_meth (rb := rbJ) (J := [(4, jc_M_hasWatch_bb889_4)]) 26 400 xG xin_304 x6_304 okJ (fB_self h0) ?_ ?_
  · refine List.forall_mem_cons.mpr ⟨?_, fun q h => absurd h List.not_mem_nil⟩
    · rintro m _ _ I1 hB1 ⟨y1, y2, y3, rfl, rfl, hb, hm⟩
      refine And.intro ⟨rfl, by decide, by decide⟩ ?_
      refine fload1 rL_741_741_8_8_1_0 h0 hB1 ⟨by decide, by decide⟩ (by first | exact ⟨by decide, by decide⟩ | omega) ?_
      intro z1 lz1 uz1 qz1
      have pz1 := fld_at qz1 8 (by omega)
      refine And.intro (And.intro (by first | exact fi_ hb.2.2.1 hb.2.2.2 rfl | omega) (by first | exact fi_ lz1 uz1 rfl | omega)) (And.intro ?_ ?_)
      · intro c2
        refine And.intro (⟨by omega, by omega⟩) ?_
        exact ⟨_, rfl, (by first | exact ⟨hb.2.1.1, hb.2.1.2⟩ | omega)⟩
      · intro c3
        refine And.intro (by first | exact fi_ hb.2.1.1 hb.2.1.2 rfl | omega) (And.intro ?_ ?_)
        · intro c4
          exact fcutJ (I := I1) (j := jc_M_hasWatch_bb889_4) (lv' := [(0, .inr (.inr (some 740))), (1, .inl _), (2, .inl _), (3, .inl _)]) (And.intro rfl (And.intro rfl (And.intro rfl (And.intro rfl True.intro)))) ⟨_, _, _, rfl, rfl, by omega, rfl⟩ (by omega)
        · intro c5
          refine And.intro ⟨rfl, by decide, by decide⟩ ?_
          refine Exists.intro xm_247 (And.intro mi_247 (And.intro ⟨rfl, rfl, rfl, rfl⟩ (And.intro rfl ?_)))
          refine fcallp hB1 (ct_M_personAt_9b331 (fBz h0 hB1) (by first | exact ⟨hb.2.2.1, Int.le_trans (Int.le_sub_one_of_lt (Int.lt_of_lt_of_le c3 uz1)) (by decide)⟩ | omega)) ?_
          rintro _ ⟨_, rfl, rfl⟩
          refine fload rL_741_741_871_1009_6_0 h0 hB1 (by omega) ?_
          intro z7 lz7 uz7 qz7
          refine And.intro (And.intro (by first | exact fi_ lz7 uz7 rfl | omega) (by first | exact ⟨by decide, by decide⟩ | omega)) (And.intro ?_ ?_)
          · intro c8
            exact fcutJ (I := I1) (j := jc_M_hasWatch_bb889_4) (lv' := [(0, .inr (.inr (some 740))), (1, .inl _), (2, .inl _), (3, .inl _)]) (And.intro rfl (And.intro rfl (And.intro rfl (And.intro rfl True.intro)))) ⟨_, _, _, rfl, rfl, by omega, rfl⟩ (by omega)
          · intro c9
            refine And.intro ⟨rfl, by decide, by decide⟩ ?_
            refine Exists.intro xm_247 (And.intro mi_247 (And.intro ⟨rfl, rfl, rfl, rfl⟩ (And.intro rfl ?_)))
            refine fcallp hB1 (ct_M_personAt_9b331 (fBz h0 hB1) (by first | exact ⟨hb.2.2.1, Int.le_trans (Int.le_sub_one_of_lt (Int.lt_of_lt_of_le c3 uz1)) (by decide)⟩ | omega)) ?_
            rintro _ ⟨_, rfl, rfl⟩
            refine fload rL_741_741_872_1010_6_0 h0 hB1 (by omega) ?_
            intro z11 lz11 uz11 qz11
            refine And.intro (And.intro (by first | exact fi_ lz11 uz11 rfl | omega) (by first | exact fi_ hb.1.1 hb.1.2 rfl | omega)) (And.intro ?_ ?_)
            · intro c12
              exact fcutJ (I := I1) (j := jc_M_hasWatch_bb889_4) (lv' := [(0, .inr (.inr (some 740))), (1, .inl _), (2, .inl _), (3, .inl _)]) (And.intro rfl (And.intro rfl (And.intro rfl (And.intro rfl True.intro)))) ⟨_, _, _, rfl, rfl, by omega, rfl⟩ (by omega)
            · intro c13
              refine Exists.intro xm_248 (And.intro mi_248 (And.intro ⟨rfl, rfl, rfl, rfl⟩ (And.intro rfl ?_)))
              refine fcallp hB1 (ct_M_isDead_21e1a (fBz h0 hB1) (by first | exact ⟨hb.2.2.1, Int.le_trans (Int.le_sub_one_of_lt (Int.lt_of_lt_of_le c3 uz1)) (by decide)⟩ | omega)) ?_
              rintro _ ⟨z14, rfl, hz14⟩
              refine And.intro (by omega) (And.intro ?_ ?_)
              · intro c15
                exact fcutJ (I := I1) (j := jc_M_hasWatch_bb889_4) (lv' := [(0, .inr (.inr (some 740))), (1, .inl _), (2, .inl _), (3, .inl _)]) (And.intro rfl (And.intro rfl (And.intro rfl (And.intro rfl True.intro)))) ⟨_, _, _, rfl, rfl, by omega, rfl⟩ (by omega)
              · intro c16
                exact fcutJ (I := I1) (j := jc_M_hasWatch_bb889_4) (lv' := [(0, .inr (.inr (some 740))), (1, .inl _), (2, .inl _), (3, .inl _)]) (And.intro rfl (And.intro rfl (And.intro rfl (And.intro rfl True.intro)))) ⟨_, _, _, rfl, rfl, by omega, rfl⟩ (by omega)
  · have hB0 := fB_self (zn := znJ) (K := fKc []) h0
    exact fcutJ (I := I) (j := jc_M_hasWatch_bb889_4) (lv' := [(0, .inr (.inr (some 740))), (1, .inl _), (2, .inl _), (3, .inl _)]) (And.intro rfl (And.intro rfl (And.intro rfl (And.intro rfl True.intro)))) ⟨_, _, _, rfl, rfl, by omega, rfl⟩ (by omega)
abbrev jc_M_knows_34678_25 : Nat → fL → List fV → fH → Prop := fun m lv st I => ∃ (y2 : Int) (y3 : Int) (y4 : Int) (y5 : Int), lv = [(0, .inr (.inr (some 740))), (2, .inl y2), (3, .inl y3), (4, .inl y4), (5, .inl y5)] ∧ st = [] ∧ (((31 ≤ y2 ∧ y2 ≤ 4323) ∧ ((-2147483648) ≤ y3 ∧ y3 ≤ 2147483647) ∧ ((30 ≤ y4 ∧ y4 ≤ 410) ∧ (y4 - 30) % 20 ≤ 0) ∧ (0 ≤ y5 ∧ y5 ≤ 5))) ∧ m = (1 + 1 * (5 - y5) : Int).toNat
set_option maxRecDepth 8000 in
theorem ct_M_knows_34678 {I : fH} {x1 : Int} {x2 : Int} {x3 : Int} (h0 : fB bsJ I) (ha1 : (0 ≤ x1 ∧ x1 ≤ 19)) (ha2 : (31 ≤ x2 ∧ x2 ≤ 4323)) (ha3 : ((-2147483648) ≤ x3 ∧ x3 ≤ 2147483647)) : fC ρ base n F xTc vwCl xTys D dA la gJ (fbz bsJ znJ (fKc wz_3cf37) I) xm_287 [.inr (.inr (some 740)), .inl x1, .inl x2, .inl x3] I (fun _ r => r = none) := by
  have hW : fzs wz_3cf37 (fKc wz_3cf37) := fKc_ok _
  refine f_meth (rb := rbJ) (J := [(25, jc_M_knows_34678_25)]) 7 400 xG xin_287 x6_287 okJ (fB_self h0) ?_ ?_
  · refine List.forall_mem_cons.mpr ⟨?_, fun q h => absurd h List.not_mem_nil⟩
    · rintro m _ _ I1 hB1 ⟨y2, y3, y4, y5, rfl, rfl, hb, hm⟩
      refine And.intro (And.intro (by first | exact fi_ hb.2.2.2.1 hb.2.2.2.2 rfl | omega) (by first | exact ⟨by decide, by decide⟩ | omega)) (And.intro ?_ ?_)
      · intro c1
        refine And.intro ⟨rfl, by decide, by decide⟩ ?_
        refine fstore rS_741_741_47_427_20_0 (fzs_sub (by decide +kernel) hW) (by omega) (by first | exact ⟨hb.2.1.1, hb.2.1.2⟩ | omega) ?_
        intro IhB2 ehB2 hB2
        have t3 := fup_self ehB2
        exact rfl
      · intro c4
        refine And.intro ⟨rfl, by decide, by decide⟩ ?_
        refine And.intro ⟨rfl, by decide, by decide⟩ ?_
        refine fload rL_741_741_31_4327_1_0 h0 hB1 (by omega) ?_
        intro z5 lz5 uz5 qz5
        refine fstore rS_741_741_42_426_20_4 (fzs_sub (by decide +kernel) hW) (by omega) (by first | exact ⟨lz5, uz5⟩ | omega) ?_
        intro IhB6 ehB6 hB6
        have t7 := fup_self ehB6
        exact fcutJ (I := IhB6) (j := jc_M_knows_34678_25) (lv' := [(0, .inr (.inr (some 740))), (2, .inl _), (3, .inl _), (4, .inl _), (5, .inl _)]) (And.intro rfl (And.intro rfl (And.intro rfl (And.intro rfl (And.intro rfl True.intro))))) ⟨_, _, _, _, rfl, rfl, by omega, rfl⟩ (by omega)
  · have hB0 := fB_self (zn := znJ) (K := fKc wz_3cf37) h0
    refine Exists.intro xm_239 (And.intro mi_239 (And.intro ⟨rfl, rfl, rfl, rfl⟩ (And.intro rfl ?_)))
    refine fcallp hB0 (ct_M_cellAt_c15f4 (fBz h0 hB0) (by first | exact ⟨ha1.1, ha1.2⟩ | omega)) ?_
    rintro _ ⟨_, rfl, rfl⟩
    refine And.intro ⟨rfl, by decide, by decide⟩ ?_
    refine fload rL_741_741_47_427_20_0 h0 hB0 (by omega) ?_
    intro z9 lz9 uz9 qz9
    refine And.intro (And.intro (by first | exact fi_ ha3.1 ha3.2 rfl | omega) (by first | exact fi_ lz9 uz9 rfl | omega)) (And.intro ?_ ?_)
    · intro c10
      exact fcutJ (I := I) (j := jc_M_knows_34678_25) (lv' := [(0, .inr (.inr (some 740))), (2, .inl _), (3, .inl _), (4, .inl _), (5, .inl _)]) (And.intro rfl (And.intro rfl (And.intro rfl (And.intro rfl (And.intro rfl True.intro))))) ⟨_, _, _, _, rfl, rfl, by omega, rfl⟩ (by omega)
    · intro c11
      exact rfl
end CT

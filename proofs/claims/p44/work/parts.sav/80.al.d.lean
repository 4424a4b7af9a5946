set_option linter.all false
section CT
variable {ρ : Nat → Int32} {base n : Nat} {F : Nat → Prop} {D : va_G} {dA : Nat → ClassId} {la : Launch}
set_option maxRecDepth 8000 in
theorem ct_M_dark_295c2 {I : fH} {x1 : Int} {x2 : Int} (h0 : fB bsJ I) (ha1 : ((-2147483648) ≤ x1 ∧ x1 ≤ 2147483647)) (ha2 : ((-2147483648) ≤ x2 ∧ x2 ≤ 2147483647)) : fC ρ base n F xTc vwCl xTys D dA la gJ (fbz bsJ znJ (fKc wz_ce28c) I) xm_464 [.inr (.inr (some 740)), .inl x1, .inl x2] I (fun I' r => ∃ z, r = some (.inl z) ∧ ((0 ≤ z ∧ z ≤ 999999) ∨ z = (-1000000005) ∨ z = (-1000000001)) ∧ (((1 ≤ x1 ∧ x1 ≤ 24 ∧ 0 ≤ x2 ∧ x2 ≤ 300) ∧ dTb I' x1 x2 ∧ z = (if I' 756 x2.toNat = 1000000 then (-1000000005) else I' 756 x2.toNat)) ∨ (¬ (1 ≤ x1 ∧ x1 ≤ 24 ∧ 0 ≤ x2 ∧ x2 ≤ 300) ∧ z = (-1000000001)))) := by
  have hW : fzs wz_ce28c (fKc wz_ce28c) := fKc_ok _
  refine f_meth (rb := rbJ) (J := []) 1 400 xG xin_464 x6_464 okJ (fB_self h0) ?_ ?_
  · exact fun q h => absurd h List.not_mem_nil
  · have hB0 := fB_self (zn := znJ) (K := fKc wz_ce28c) h0
    refine Exists.intro xm_465 (And.intro mi_465 (And.intro ⟨rfl, rfl, rfl, rfl⟩ (And.intro True.intro ?_)))
    refine fcallp hB0 (ct_M_isNight_38061 (fBz h0 hB0) (by first | exact ⟨ha1.1, ha1.2⟩ | omega) (by first | exact ⟨ha2.1, ha2.2⟩ | omega)) ?_
    rintro _ ⟨z1, rfl, hz1⟩
    refine And.intro (by omega) (And.intro ?_ ?_)
    · intro c2
      refine Exists.intro xm_466 (And.intro mi_466 (And.intro ⟨rfl, rfl, rfl, rfl⟩ (And.intro rfl ?_)))
      refine fcall _ h0 (fzs_sub (by decide +kernel) hW) hB0 (ct_M_findLoads_1f96d (fBz h0 hB0) (by omega) (by omega)) ?_
      rintro IhB4 _ hB4 fhB4 ⟨z3, rfl, hz3, g0z3, g1z3, g2z3⟩
      refine And.intro (And.intro (by first | exact fi_ hz3.1 hz3.2 rfl | omega) (by first | exact ⟨by decide, by decide⟩ | omega)) (And.intro ?_ ?_)
      · intro c5
        refine And.intro (True.intro) ?_
        exact ⟨_, rfl, by omega, (Or.inl ⟨by omega, g2z3, by rw [← g1z3]; split <;> omega⟩)⟩
      · intro c6
        refine And.intro (True.intro) ?_
        exact ⟨_, rfl, by omega, (Or.inl ⟨by omega, g2z3, by rw [← g1z3]; split <;> omega⟩)⟩
    · intro c7
      refine And.intro (True.intro) ?_
      exact ⟨_, rfl, by omega, (Or.inr ⟨by omega, by omega⟩)⟩
set_option maxRecDepth 8000 in
theorem ct_Dark_loadAt_007b1 {I : fH} {x1 : Int} {x2 : Int} (h0 : fB bsJ I) (ha1 : (0 ≤ x1 ∧ x1 ≤ 300)) (ha2 : (0 ≤ x2 ∧ x2 ≤ 23)) : fC ρ base n F xTc vwCl xTys D dA la gJ (fbz bsJ znJ (fKc []) I) xm_192 [.inr (.inr (some 732)), .inl x1, .inl x2] I (fun _ r => ∃ z, r = some (.inl z) ∧ (0 ≤ z ∧ z ≤ 3) ∧ (0 ≤ I 734 x1.toNat ∧ I 734 x1.toNat < 281474976710656 → z = I 734 x1.toNat / 4 ^ x2.toNat % 4)) := by
  have hW : fzs [] (fKc []) := fKc_ok _
  refine f_meth (rb := rbJ) (J := []) 1 400 xG xin_192 x6_192 okJ (fB_self h0) ?_ ?_
  · exact fun q h => absurd h List.not_mem_nil
  · have hB0 := fB_self (zn := znJ) (K := fKc []) h0
    refine And.intro ⟨rfl, by decide, by decide⟩ ?_
    refine fload1 rL_734_734_0_300_1_0 h0 hB0 ⟨by decide, by decide⟩ (by first | exact ⟨ha1.1, ha1.2⟩ | omega) ?_
    intro z1 lz1 uz1 qz1
    intro z2 hz2 ez2
    intro z3 hz3 ez3 bz3
    intro z4 hz4 ez4 bz4
    clear ez4
    have bz4 := bz4 (by omega)
    refine And.intro (True.intro) ?_
    exact ⟨_, rfl, by omega, (fun q => (show z4 = z3 by omega).trans ((shr_and (c := z1) (by rw [qz1]; exact q) (by omega) (by omega) ez2 ez3).trans (by rw [qz1])))⟩
set_option maxRecDepth 8000 in
theorem ct_X_load_86bcf {I : fH} {x1 : Int} {x2 : Int} {x3 : Int} (h0 : fB bsJ I) (ha1 : ((-2147483648) ≤ x1 ∧ x1 ≤ 2147483647)) (ha2 : ((-2147483648) ≤ x2 ∧ x2 ≤ 2147483647)) (ha3 : ((-2147483648) ≤ x3 ∧ x3 ≤ 2147483647)) : fC ρ base n F xTc vwCl xTys D dA la gJ (fbz bsJ znJ (fKc wz_61c55) I) xm_191 [.inr (.inr (some 0)), .inl x1, .inl x2, .inl x3] I (fun _ r => ∃ z, r = some (.inl z) ∧ ((0 ≤ z ∧ z ≤ 3) ∨ z = (-1000000005) ∨ z = (-1000000001)) ∧ ((((1 ≤ x1 ∧ x1 ≤ 24 ∧ 0 ≤ x2 ∧ x2 ≤ 300) ∧ 0 ≤ x3 ∧ x3 < x1) ∧ (((dkP (I 223) (fun i => I (225 + i)) x1.toNat x1.toNat x2.toNat).1 = -1000000005 ∧ z = -1000000005) ∨ ((dkP (I 223) (fun i => I (225 + i)) x1.toNat x1.toNat x2.toNat).1 ≠ -1000000005 ∧ z = (dkP (I 223) (fun i => I (225 + i)) x1.toNat x1.toNat x2.toNat).2 / 4 ^ x3.toNat % 4))) ∨ (¬ ((1 ≤ x1 ∧ x1 ≤ 24 ∧ 0 ≤ x2 ∧ x2 ≤ 300) ∧ 0 ≤ x3 ∧ x3 < x1) ∧ z = (-1000000001)))) := by
  have hW : fzs wz_61c55 (fKc wz_61c55) := fKc_ok _
  refine f_meth (rb := rbJ) (J := []) 1 400 xG xin_191 x6_191 okJ (fB_self h0) ?_ ?_
  · exact fun q h => absurd h List.not_mem_nil
  · have hB0 := fB_self (zn := znJ) (K := fKc wz_61c55) h0
    refine Exists.intro xm_13 (And.intro mi_13 (And.intro ⟨rfl, rfl, rfl, rfl⟩ (And.intro True.intro ?_)))
    refine fcallp hB0 (ct_X_within_c27b1 (fBz h0 hB0) (by first | exact ⟨ha1.1, ha1.2⟩ | omega) (by first | exact ⟨by decide, by decide⟩ | omega) (by first | exact ⟨by decide, by decide⟩ | omega)) ?_
    rintro _ ⟨z1, rfl, hz1⟩
    refine And.intro (by omega) (And.intro ?_ ?_)
    · intro c2
      refine And.intro (True.intro) ?_
      exact ⟨_, rfl, by omega, (by first | exact Or.inr ⟨by omega, by omega⟩ | exact Or.inl ⟨by omega, Or.inl ⟨by rw [← w45]; omega, by omega⟩⟩ | exact Or.inl ⟨by omega, Or.inr ⟨by rw [← w45]; omega, (g0nil0 (by rw [w46]; exact dk_code (dk_bd (by omega) (fun i l hi hl => by have q := (frL_at rL_225_248_0_3_1_0 h0 (a := 225 + i) (i := (l : Int)) (by omega)).2; rw [Int.toNat_natCast] at q; exact q) _ _) (by omega))).trans (by rw [w46])⟩⟩)⟩
    · intro c3
      refine Exists.intro xm_13 (And.intro mi_13 (And.intro ⟨rfl, rfl, rfl, rfl⟩ (And.intro True.intro ?_)))
      refine fcallp hB0 (ct_X_within_c27b1 (fBz h0 hB0) (by first | exact ⟨ha2.1, ha2.2⟩ | omega) (by first | exact ⟨by decide, by decide⟩ | omega) (by first | exact ⟨by decide, by decide⟩ | omega)) ?_
      rintro _ ⟨z4, rfl, hz4⟩
      refine And.intro (by omega) (And.intro ?_ ?_)
      · intro c5
        refine And.intro (True.intro) ?_
        exact ⟨_, rfl, by omega, (by first | exact Or.inr ⟨by omega, by omega⟩ | exact Or.inl ⟨by omega, Or.inl ⟨by rw [← w45]; omega, by omega⟩⟩ | exact Or.inl ⟨by omega, Or.inr ⟨by rw [← w45]; omega, (g0nil0 (by rw [w46]; exact dk_code (dk_bd (by omega) (fun i l hi hl => by have q := (frL_at rL_225_248_0_3_1_0 h0 (a := 225 + i) (i := (l : Int)) (by omega)).2; rw [Int.toNat_natCast] at q; exact q) _ _) (by omega))).trans (by rw [w46])⟩⟩)⟩
      · intro c6
        refine Exists.intro xm_13 (And.intro mi_13 (And.intro ⟨rfl, rfl, rfl, rfl⟩ (And.intro True.intro ?_)))
        refine fcallp hB0 (ct_X_within_c27b1 (fBz h0 hB0) (by first | exact ⟨ha3.1, ha3.2⟩ | omega) (by first | exact ⟨by decide, by decide⟩ | omega) (by omega)) ?_
        rintro _ ⟨z7, rfl, hz7⟩
        refine And.intro (by omega) (And.intro ?_ ?_)
        · intro c8
          refine And.intro ⟨rfl, by decide, by decide⟩ ?_
          refine And.intro ⟨rfl, by decide, by decide⟩ ?_
          refine Exists.intro xm_189 (And.intro mi_189 (And.intro ⟨rfl, rfl, rfl, rfl⟩ (And.intro rfl ?_)))
          refine fcall _ h0 (fzs_sub (by decide +kernel) hW) hB0 (ct_Dark_leastHarm_e9db9 (fBz h0 hB0) (by first | exact ⟨Int.le_trans (by decide) (Int.le_trans (Int.le_refl _) hz1.1), Int.le_trans (Int.le_trans hz1.2 (Int.le_refl _)) (by decide)⟩ | omega) (by first | exact ⟨Int.le_trans (by decide) (Int.le_trans (Int.le_refl _) hz4.1), Int.le_trans (Int.le_trans hz4.2 (Int.le_refl _)) (by decide)⟩ | omega)) ?_
          rintro IhB10 _ hB10 fhB10 ⟨z9, rfl, hz9, g0z9, g1z9⟩
          have w45 := g1z9.trans (congrArg Prod.fst g0z9)
          have w46 : IhB10 734 x2.toNat = (dkP (I 223) (fun i => I (225 + i)) x1.toNat x1.toNat x2.toNat).2 := congrArg Prod.snd g0z9
          refine And.intro (And.intro (by first | exact fi_ hz9.1 hz9.2 rfl | omega) (by first | exact ⟨by decide, by decide⟩ | omega)) (And.intro ?_ ?_)
          · intro c11
            refine And.intro ⟨rfl, by decide, by decide⟩ ?_
            refine Exists.intro xm_192 (And.intro mi_192 (And.intro ⟨rfl, rfl, rfl, rfl⟩ (And.intro rfl ?_)))
            refine fcallp hB10 (ct_Dark_loadAt_007b1 (fBz h0 hB10) (by first | exact ⟨Int.le_trans (by decide) (Int.le_trans (Int.le_refl _) hz4.1), Int.le_trans (Int.le_trans hz4.2 (Int.le_refl _)) (by decide)⟩ | omega) (by omega)) ?_
            rintro _ ⟨z12, rfl, hz12, g0z12⟩
            refine And.intro (True.intro) ?_
            exact ⟨_, rfl, by omega, (by first | exact Or.inr ⟨by omega, by omega⟩ | exact Or.inl ⟨by omega, Or.inl ⟨by rw [← w45]; omega, by omega⟩⟩ | exact Or.inl ⟨by omega, Or.inr ⟨by rw [← w45]; omega, (g0z12 (by rw [w46]; exact dk_code (dk_bd (by omega) (fun i l hi hl => by have q := (frL_at rL_225_248_0_3_1_0 h0 (a := 225 + i) (i := (l : Int)) (by omega)).2; rw [Int.toNat_natCast] at q; exact q) _ _) (by omega))).trans (by rw [w46])⟩⟩)⟩
          · intro c13
            refine And.intro (True.intro) ?_
            exact ⟨_, rfl, by omega, (by first | exact Or.inr ⟨by omega, by omega⟩ | exact Or.inl ⟨by omega, Or.inl ⟨by rw [← w45]; omega, by omega⟩⟩ | exact Or.inl ⟨by omega, Or.inr ⟨by rw [← w45]; omega, (g0z12 (by rw [w46]; exact dk_code (dk_bd (by omega) (fun i l hi hl => by have q := (frL_at rL_225_248_0_3_1_0 h0 (a := 225 + i) (i := (l : Int)) (by omega)).2; rw [Int.toNat_natCast] at q; exact q) _ _) (by omega))).trans (by rw [w46])⟩⟩)⟩
        · intro c14
          refine And.intro (True.intro) ?_
          exact ⟨_, rfl, by omega, (by first | exact Or.inr ⟨by omega, by omega⟩ | exact Or.inl ⟨by omega, Or.inl ⟨by rw [← w45]; omega, by omega⟩⟩ | exact Or.inl ⟨by omega, Or.inr ⟨by rw [← w45]; omega, (g0z12 (by rw [w46]; exact dk_code (dk_bd (by omega) (fun i l hi hl => by have q := (frL_at rL_225_248_0_3_1_0 h0 (a := 225 + i) (i := (l : Int)) (by omega)).2; rw [Int.toNat_natCast] at q; exact q) _ _) (by omega))).trans (by rw [w46])⟩⟩)⟩
abbrev jc_M_loadAt_deb31_2 (x1 : Int) (x2 : Int) (I0 : fH) : Nat → fL → List fV → fH → Prop := fun m lv st I => ∃ (y1 : Int) (y2 : Int) (y3 : Int), lv = [(0, .inr (.inr (some 740))), (1, .inl y1), (2, .inl y2), (3, .inl y3)] ∧ st = [] ∧ (((0 ≤ y1 ∧ y1 ≤ 23) ∧ (0 ≤ y2 ∧ y2 ≤ 300) ∧ (0 ≤ y3 ∧ y3 ≤ 3) ∧ (y1 = x1) ∧ (y2 = x2)) ∧ (∀ l : Int, 0 ≤ l → l < y3 → hbv I0 x1 x2 l ≠ I0 756 (301 * x1 + x2).toNat)) ∧ m = (1 + 1 * (3 - y3) : Int).toNat
set_option maxRecDepth 8000 in
theorem ct_M_loadAt_deb31 {I : fH} {x1 : Int} {x2 : Int} (h0 : fB bsJ I) (ha1 : (0 ≤ x1 ∧ x1 ≤ 23)) (ha2 : (0 ≤ x2 ∧ x2 ≤ 300)) (hp0 : sLd I x1 x2) : fC ρ base n F xTc vwCl xTys D dA la gJ (fbz bsJ znJ (fKc []) I) xm_469 [.inr (.inr (some 740)), .inl x1, .inl x2] I (fun _ r => ∃ z, r = some (.inl z) ∧ (0 ≤ z ∧ z ≤ 3) ∧ (hbv I x1 x2 z = I 756 (301 * x1 + x2).toNat) ∧ (∀ l : Int, 0 ≤ l → l < z → hbv I x1 x2 l ≠ I 756 (301 * x1 + x2).toNat)) := by
  have hW : fzs [] (fKc []) := fKc_ok _
  refine f_meth (rb := rbJ) (J := [(2, (jc_M_loadAt_deb31_2 x1 x2 I))]) 5 400 xG xin_469 x6_469 okJ (fB_self h0) ?_ ?_
  · refine List.forall_mem_cons.mpr ⟨?_, fun q h => absurd h List.not_mem_nil⟩
    · rintro m _ _ I1 hB1 ⟨y1, y2, y3, rfl, rfl, ⟨hb, hx0⟩, hm⟩
      have eI : I1 = I := fFr_nil (fFr_of hB1)
      have ey1 : y1 = x1 := by omega
      have ey2 : y2 = x2 := by omega
      obtain ⟨l0, hl0, he0⟩ := hp0
      refine Exists.intro xm_467 (And.intro mi_467 (And.intro ⟨rfl, rfl, rfl, rfl⟩ (And.intro rfl ?_)))
      refine fcallp hB1 (ct_M_harmBy_4eb55 (fBz h0 hB1) (by first | exact ⟨hb.1.1, hb.1.2⟩ | omega) (by first | exact ⟨hb.2.1.1, hb.2.1.2⟩ | omega) (by first | exact ⟨hb.2.2.1.1, hb.2.2.1.2⟩ | omega)) ?_
      rintro _ ⟨z1, rfl, hz1, g0z1⟩
      rw [eI, ey1, ey2] at g0z1
      refine And.intro ⟨rfl, by decide, by decide⟩ ?_
      intro z2 hz2 ez2 bz2
      clear ez2
      have bz2 := bz2 (by omega)
      refine fload rL_756_756_0_7524_1_0 h0 hB1 (by omega) ?_
      intro z3 lz3 uz3 qz3
      have wv := fld_at qz3 (301 * x1 + x2).toNat (by omega)
      rw [eI] at wv
      have wl : l0 = y3 → z1 = z3 := fun q => by rw [g0z1, wv, ← q]; exact he0
      have wm : ¬ l0 < y3 := fun q => hx0 l0 hl0.1 q he0
      refine And.intro (And.intro (by first | exact fi_ hz1.1.1 hz1.1.2 rfl | omega) (by first | exact fi_ lz3 uz3 rfl | omega)) (And.intro ?_ ?_)
      · intro c4
        refine And.intro (True.intro) ?_
        exact ⟨_, rfl, (by first | exact ⟨hb.2.2.1.1, hb.2.2.1.2⟩ | omega), (by rw [← g0z1, ← wv]; omega), (fun l h1 h2 => hx0 l h1 h2)⟩
      · intro c5
        intro z6 hz6 bz6
        have bz6 := bz6 (by omega)
        exact fcutJ (I := I1) (j := (jc_M_loadAt_deb31_2 x1 x2 I)) (lv' := [(0, .inr (.inr (some 740))), (1, .inl _), (2, .inl _), (3, .inl _)]) (And.intro rfl (And.intro rfl (And.intro rfl (And.intro rfl True.intro)))) ⟨_, _, _, rfl, rfl, ⟨by omega, (fun l h1 h2 => if el : l = y3 then (by rw [el, ← g0z1, ← wv]; omega) else hx0 l h1 (by omega))⟩, rfl⟩ (by omega)
  · have hB0 := fB_self (zn := znJ) (K := fKc []) h0
    exact fcutJ (I := I) (j := (jc_M_loadAt_deb31_2 x1 x2 I)) (lv' := [(0, .inr (.inr (some 740))), (1, .inl _), (2, .inl _), (3, .inl _)]) (And.intro rfl (And.intro rfl (And.intro rfl (And.intro rfl True.intro)))) ⟨_, _, _, rfl, rfl, ⟨by omega, (fun l h1 h2 => absurd h2 (by omega))⟩, rfl⟩ (by omega)
abbrev jc_M_load_94669_45 (x1 : Int) (x2 : Int) (x3 : Int) : Nat → fL → List fV → fH → Prop := fun m lv st I => ∃ (y3 : Int) (y4 : Int) (y5 : Int), lv = [(0, .inr (.inr (some 740))), (3, .inl y3), (4, .inl y4), (5, .inl y5)] ∧ st = [] ∧ (((0 ≤ y3 ∧ y3 ≤ 23) ∧ (0 ≤ y4 ∧ y4 ≤ 300) ∧ (0 ≤ y5 ∧ y5 ≤ 23) ∧ (y4 ≤ x2) ∧ (y5 ≤ y3) ∧ (y3 < x1) ∧ (y3 = x3) ∧ (1 ≤ x1) ∧ (x1 ≤ 24) ∧ (0 ≤ x2) ∧ (x2 ≤ 300) ∧ (I 756 x2.toNat ≠ 1000000)) ∧ (∀ i b : Int, 0 ≤ i → i < x1 → 0 ≤ b → b ≤ x2 → sLd I i b) ∧ (I 756 (301 * y5 + y4).toNat ≠ 1000000) ∧ (dTb I x1 x2) ∧ ((dkP (rTk I) (rHm I) x1.toNat x1.toNat x2.toNat).2 / 4 ^ y5.toNat = (dkP (rTk I) (rHm I) x1.toNat (x1 - y5).toNat y4.toNat).2)) ∧ m = (1 + 1 * (23 - y5) : Int).toNat
set_option maxRecDepth 8000 in
theorem ct_M_load_94669 {I : fH} {x1 : Int} {x2 : Int} {x3 : Int} (h0 : fB bsJ I) (ha1 : ((-2147483648) ≤ x1 ∧ x1 ≤ 2147483647)) (ha2 : ((-2147483648) ≤ x2 ∧ x2 ≤ 2147483647)) (ha3 : ((-2147483648) ≤ x3 ∧ x3 ≤ 2147483647)) : fC ρ base n F xTc vwCl xTys D dA la gJ (fbz bsJ znJ (fKc wz_ce28c) I) xm_468 [.inr (.inr (some 740)), .inl x1, .inl x2, .inl x3] I (fun I' r => ∃ z, r = some (.inl z) ∧ ((0 ≤ z ∧ z ≤ 3) ∨ z = (-1000000005) ∨ z = (-1000000001)) ∧ ((((1 ≤ x1 ∧ x1 ≤ 24 ∧ 0 ≤ x2 ∧ x2 ≤ 300) ∧ 0 ≤ x3 ∧ x3 < x1) ∧ dTb I' x1 x2 ∧ ((I' 756 x2.toNat = 1000000 ∧ z = -1000000005) ∨ (I' 756 x2.toNat ≠ 1000000 ∧ z = (dkP (rTk I') (rHm I') x1.toNat x1.toNat x2.toNat).2 / 4 ^ x3.toNat % 4))) ∨ (¬ ((1 ≤ x1 ∧ x1 ≤ 24 ∧ 0 ≤ x2 ∧ x2 ≤ 300) ∧ 0 ≤ x3 ∧ x3 < x1) ∧ z = (-1000000001)))) := by
  have hW : fzs wz_ce28c (fKc wz_ce28c) := fKc_ok _
  refine f_meth (rb := rbJ) (J := [(45, (jc_M_load_94669_45 x1 x2 x3))]) 25 400 xG xin_468 x6_468 okJ (fB_self h0) ?_ ?_
  · refine List.forall_mem_cons.mpr ⟨?_, fun q h => absurd h List.not_mem_nil⟩
    · rintro m _ _ I1 hB1 ⟨y3, y4, y5, rfl, rfl, ⟨hb, hx0, hx1, hx2, hx3⟩, hm⟩
      refine And.intro (And.intro (by first | exact fi_ hb.2.2.1.1 hb.2.2.1.2 rfl | omega) (by first | exact fi_ hb.1.1 hb.1.2 rfl | omega)) (And.intro ?_ ?_)
      · intro c1
        refine Exists.intro xm_469 (And.intro mi_469 (And.intro ⟨rfl, rfl, rfl, rfl⟩ (And.intro rfl ?_)))
        refine fcallp hB1 (ct_M_loadAt_deb31 (fBz h0 hB1) (by first | exact ⟨hb.1.1, hb.1.2⟩ | omega) (by first | exact ⟨hb.2.1.1, hb.2.1.2⟩ | omega) (hx0 _ _ (by omega) (by omega) (by omega) (by omega))) ?_
        rintro _ ⟨z2, rfl, hz2, g0z2, g1z2⟩
        refine And.intro (True.intro) ?_
        exact ⟨_, rfl, by omega, (Or.inl ⟨by omega, hx2, Or.inr ⟨by omega, by have wd := walk_step (i := y3) (b := y4) (l := z2) (by omega) hx2 (fun l hl => by have q := (frL_at rL_741_741_4560_4563_1_0 (fBz h0 hB1) (a := 741) (i := ((4560 + l : Nat) : Int)) (by omega)).2.1; rw [Int.toNat_natCast] at q; exact q) (fun i l hi hl => by have q := (frL_at rL_741_741_4570_4665_1_0 (fBz h0 hB1) (a := 741) (i := ((4570 + 4 * i + l : Nat) : Int)) (by omega)).2; rw [Int.toNat_natCast] at q; exact q) (by omega) (by omega) (ne_to hx1 (by rw [show y3 = y5 by omega])) (by omega) g0z2 g1z2; rw [show x3.toNat = y5.toNat by omega, hx3, show (x1 - y5).toNat = (x1 - y3).toNat by omega, wd]; omega⟩⟩)⟩
      · intro c3
        refine And.intro ⟨rfl, by decide, by decide⟩ ?_
        refine Exists.intro xm_469 (And.intro mi_469 (And.intro ⟨rfl, rfl, rfl, rfl⟩ (And.intro rfl ?_)))
        refine fcallp hB1 (ct_M_loadAt_deb31 (fBz h0 hB1) (by first | exact ⟨hb.2.2.1.1, Int.le_trans (Int.le_sub_one_of_lt (Int.lt_of_lt_of_le c3 hb.1.2)) (by decide)⟩ | omega) (by first | exact ⟨hb.2.1.1, hb.2.1.2⟩ | omega) (hx0 _ _ (by omega) (by omega) (by omega) (by omega))) ?_
        rintro _ ⟨z4, rfl, hz4, g0z4, g1z4⟩
        intro z5 hz5 ez5 bz5
        clear ez5
        have bz5 := bz5 (by omega)
        refine fload rL_741_741_4560_4563_1_0 h0 hB1 (by omega) ?_
        intro z6 lz6 uz6 qz6
        have w69 := fld_at qz6 (4560 + z4).toNat (by omega)
        have wg := ld_go (I := I1) (i := y5) (b := y4) (l := z4) (by rw [g0z4]; exact hx1) ((frL_at rL_741_741_4570_4665_1_0 (fBz h0 hB1) (a := 741) (i := 4570 + 4 * y5 + z4) (by omega)).2.1)
        have wg1 := wg.1
        intro z7 hz7 ez7 bz7
        clear ez7
        have bz7 := bz7 (by omega)
        exact fcutJ (I := I1) (j := (jc_M_load_94669_45 x1 x2 x3)) (lv' := [(0, .inr (.inr (some 740))), (3, .inl _), (4, .inl _), (5, .inl _)]) (And.intro rfl (And.intro rfl (And.intro rfl (And.intro rfl True.intro)))) ⟨_, _, _, rfl, rfl, ⟨by omega, hx0, (ne_to wg.2 (by omega)), hx2, (by have wc := code_go hx3 (walk_step (i := y5) (b := y4) (l := z4) (by omega) hx2 (fun l hl => by have q := (frL_at rL_741_741_4560_4563_1_0 (fBz h0 hB1) (a := 741) (i := ((4560 + l : Nat) : Int)) (by omega)).2.1; rw [Int.toNat_natCast] at q; exact q) (fun i l hi hl => by have q := (frL_at rL_741_741_4570_4665_1_0 (fBz h0 hB1) (a := 741) (i := ((4570 + 4 * i + l : Nat) : Int)) (by omega)).2; rw [Int.toNat_natCast] at q; exact q) (by omega) (by omega) hx1 (by omega) g0z4 g1z4) (by omega); rw [show (x1 - y5 - 1).toNat = (x1 - (y5 + ((1 : Nat) : Int))).toNat by omega, show (y4 - I1 741 (4560 + z4).toNat).toNat = z7.toNat by omega] at wc; rw [show (y5 + ((1 : Nat) : Int)).toNat = y5.toNat + 1 by omega]; exact wc)⟩, rfl⟩ (by omega)
  · have hB0 := fB_self (zn := znJ) (K := fKc wz_ce28c) h0
    refine Exists.intro xm_465 (And.intro mi_465 (And.intro ⟨rfl, rfl, rfl, rfl⟩ (And.intro True.intro ?_)))
    refine fcallp hB0 (ct_M_isNight_38061 (fBz h0 hB0) (by first | exact ⟨ha1.1, ha1.2⟩ | omega) (by first | exact ⟨ha2.1, ha2.2⟩ | omega)) ?_
    rintro _ ⟨z8, rfl, hz8⟩
    refine And.intro (by omega) (And.intro ?_ ?_)
    · intro c9
      refine And.intro (True.intro) ?_
      exact ⟨_, rfl, by omega, (Or.inr ⟨by omega, by omega⟩)⟩
    · intro c10
      refine And.intro (by first | exact fi_ ha3.1 ha3.2 rfl | omega) ?_
      refine And.intro (by omega) ?_
      refine Exists.intro xm_238 (And.intro mi_238 (And.intro ⟨rfl, rfl, rfl, rfl⟩ (And.intro True.intro ?_)))
      refine fcallp hB0 (ct_M_isIn_27230 (fBz h0 hB0) (by first | exact ⟨ha3.1, ha3.2⟩ | omega) (by first | exact ⟨by decide, by decide⟩ | omega) (by omega)) ?_
      rintro _ ⟨z11, rfl, hz11⟩
      refine And.intro (by omega) (And.intro ?_ ?_)
      · intro c12
        refine Exists.intro xm_466 (And.intro mi_466 (And.intro ⟨rfl, rfl, rfl, rfl⟩ (And.intro rfl ?_)))
        refine fcall _ h0 (fzs_sub (by decide +kernel) hW) hB0 (ct_M_findLoads_1f96d (fBz h0 hB0) (by omega) (by omega)) ?_
        rintro IhB14 _ hB14 fhB14 ⟨z13, rfl, hz13, g0z13, g1z13, g2z13⟩
        refine And.intro (And.intro (by first | exact fi_ hz13.1 hz13.2 rfl | omega) (by first | exact ⟨by decide, by decide⟩ | omega)) (And.intro ?_ ?_)
        · intro c15
          exact fcutJ (I := IhB14) (j := (jc_M_load_94669_45 x1 x2 x3)) (lv' := [(0, .inr (.inr (some 740))), (3, .inl _), (4, .inl _), (5, .inl _)]) (And.intro rfl (And.intro rfl (And.intro rfl (And.intro rfl True.intro)))) ⟨_, _, _, rfl, rfl, ⟨by omega, g0z13, (ne_to (j := x2.toNat) (by omega) (by omega)), g2z13, (by rw [show (x1 - ((0 : Nat) : Int)).toNat = x1.toNat by omega]; exact code_0)⟩, rfl⟩ (by omega)
        · intro c16
          refine And.intro (True.intro) ?_
          exact ⟨_, rfl, by omega, (Or.inl ⟨by omega, g2z13, Or.inl ⟨by omega, by omega⟩⟩)⟩
      · intro c17
        refine And.intro (True.intro) ?_
        exact ⟨_, rfl, by omega, (Or.inr ⟨by omega, by omega⟩)⟩
set_option maxRecDepth 8000 in
theorem ct_X_known_5372c {I : fH} {x1 : Int} {x2 : Int} (h0 : fB bsJ I) (ha1 : ((-2147483648) ≤ x1 ∧ x1 ≤ 2147483647)) (ha2 : ((-2147483648) ≤ x2 ∧ x2 ≤ 2147483647)) : fC ρ base n F xTc vwCl xTys D dA la gJ (fbz bsJ znJ (fKc []) I) xm_193 [.inr (.inr (some 0)), .inl x1, .inl x2] I (fun _ r => ∃ z, r = some (.inl z) ∧ ((-2147483648) ≤ z ∧ z ≤ 2147483647) ∧ (okKn (cR 0 I) → z = oKnown (cR 0 I) x1 x2)) := by
  have hW : fzs [] (fKc []) := fKc_ok _
  refine f_meth (rb := rbJ) (J := []) 1 400 xG xin_193 x6_193 okJ (fB_self h0) ?_ ?_
  · exact fun q h => absurd h List.not_mem_nil
  · have hB0 := fB_self (zn := znJ) (K := fKc []) h0
    have w905 : I 2 5 = gt (cR 0 I) 5 := (cL_f (d := 0) (a := 2) (j := 5) (r := 5) (p := 5) (I := I) (z := I 2 5) (by decide +kernel) (by decide) rfl rfl)
    refine And.intro ⟨rfl, by decide, by decide⟩ ?_
    refine Exists.intro xm_17 (And.intro mi_17 (And.intro ⟨rfl, rfl, rfl, rfl⟩ (And.intro rfl ?_)))
    refine fcallp hB0 (ct_City_isCell_46f02 (fBz h0 hB0) (by first | exact ⟨ha1.1, ha1.2⟩ | omega)) ?_
    rintro _ ⟨z1, rfl, hz1⟩
    refine And.intro (by omega) (And.intro ?_ ?_)
    · intro c2
      refine And.intro (True.intro) ?_
      exact ⟨_, rfl, by omega, (fun hK => (if_n (fun q => by omega) rfl))⟩
    · intro c3
      refine Exists.intro xm_13 (And.intro mi_13 (And.intro ⟨rfl, rfl, rfl, rfl⟩ (And.intro True.intro ?_)))
      refine fcallp hB0 (ct_X_within_c27b1 (fBz h0 hB0) (by first | exact ⟨ha2.1, ha2.2⟩ | omega) (by first | exact ⟨by decide, by decide⟩ | omega) (by first | exact ⟨by decide, by decide⟩ | omega)) ?_
      rintro _ ⟨z4, rfl, hz4⟩
      refine And.intro (by omega) (And.intro ?_ ?_)
      · intro c5
        refine And.intro (True.intro) ?_
        exact ⟨_, rfl, by omega, (fun hK => (if_n (fun q => by omega) rfl))⟩
      · intro c6
        refine And.intro ⟨rfl, by decide, by decide⟩ ?_
        refine And.intro ⟨rfl, by decide, by decide⟩ ?_
        refine And.intro ⟨rfl, by decide, by decide⟩ ?_
        refine And.intro ⟨rfl, by decide⟩ (And.intro (by omega) ?_)
        refine fload rL_48_67_0_5_1_0 h0 hB0 (by omega) ?_
        intro z7 lz7 uz7 qz7
        refine And.intro (True.intro) ?_
        exact ⟨_, rfl, (by first | exact ⟨lz7, uz7⟩ | omega), (fun hK => (if_y (by omega) (kn_of (d := 0) qz7 (by omega) (by omega) hK)))⟩
set_option maxRecDepth 8000 in
theorem ct_M_known_05810 {I : fH} {x1 : Int} {x2 : Int} (h0 : fB bsJ I) (ha1 : ((-2147483648) ≤ x1 ∧ x1 ≤ 2147483647)) (ha2 : ((-2147483648) ≤ x2 ∧ x2 ≤ 2147483647)) : fC ρ base n F xTc vwCl xTys D dA la gJ (fbz bsJ znJ (fKc []) I) xm_470 [.inr (.inr (some 740)), .inl x1, .inl x2] I (fun _ r => ∃ z, r = some (.inl z) ∧ ((-2147483648) ≤ z ∧ z ≤ 2147483647) ∧ (z = oKnown (mR I) x1 x2)) := by
  have hW : fzs [] (fKc []) := fKc_ok _
  refine f_meth (rb := rbJ) (J := []) 1 400 xG xin_470 x6_470 okJ (fB_self h0) ?_ ?_
  · exact fun q h => absurd h List.not_mem_nil
  · have hB0 := fB_self (zn := znJ) (K := fKc []) h0
    have w905 : I 741 5 = gt (mR I) 5 := (show I 741 5 = gt (mR I) 5 from (mR_ld (I := I) (k := 5) (by decide +kernel)).symm)
    refine Exists.intro xm_241 (And.intro mi_241 (And.intro ⟨rfl, rfl, rfl, rfl⟩ (And.intro rfl ?_)))
    refine fcallp hB0 (ct_M_isCell_45859 (fBz h0 hB0) (by first | exact ⟨ha1.1, ha1.2⟩ | omega)) ?_
    rintro _ ⟨z1, rfl, hz1⟩
    refine And.intro (by omega) (And.intro ?_ ?_)
    · intro c2
      refine And.intro (True.intro) ?_
      exact ⟨_, rfl, (by first | exact ⟨by decide, by decide⟩ | omega), (if_n (fun q => by omega) rfl)⟩
    · intro c3
      refine And.intro (by first | exact fi_ ha2.1 ha2.2 rfl | omega) ?_
      refine Exists.intro xm_238 (And.intro mi_238 (And.intro ⟨rfl, rfl, rfl, rfl⟩ (And.intro True.intro ?_)))
      refine fcallp hB0 (ct_M_isIn_27230 (fBz h0 hB0) (by first | exact ⟨ha2.1, ha2.2⟩ | omega) (by first | exact ⟨by decide, by decide⟩ | omega) (by first | exact ⟨by decide, by decide⟩ | omega)) ?_
      rintro _ ⟨z4, rfl, hz4⟩
      refine And.intro (by omega) (And.intro ?_ ?_)
      · intro c5
        refine And.intro ⟨rfl, by decide, by decide⟩ ?_
        refine Exists.intro xm_239 (And.intro mi_239 (And.intro ⟨rfl, rfl, rfl, rfl⟩ (And.intro rfl ?_)))
        refine fcallp hB0 (ct_M_cellAt_c15f4 (fBz h0 hB0) (by omega)) ?_
        rintro _ ⟨_, rfl, rfl⟩
        refine fload rL_741_741_47_427_20_0 h0 hB0 (by omega) ?_
        intro z7 lz7 uz7 qz7
        have v35 := mL_r (i0 := 47) (i1 := 427) (m := 20) (q := 0) (by decide +kernel) qz7 (by omega) rfl
        refine And.intro (by first | exact fi_ lz7 uz7 rfl | omega) (And.intro ?_ ?_)
        · intro c8
          refine And.intro ⟨rfl, by decide, by decide⟩ ?_
          refine Exists.intro xm_239 (And.intro mi_239 (And.intro ⟨rfl, rfl, rfl, rfl⟩ (And.intro rfl ?_)))
          refine fcallp hB0 (ct_M_cellAt_c15f4 (fBz h0 hB0) (by omega)) ?_
          rintro _ ⟨_, rfl, rfl⟩
          refine fload rL_741_741_42_427_20_5 h0 hB0 (by omega) ?_
          intro z10 lz10 uz10 qz10
          have v58 := mL_r (i0 := 42) (i1 := 427) (m := 20) (q := 5) (by decide +kernel) qz10 (by omega) rfl
          refine And.intro (True.intro) ?_
          exact ⟨_, rfl, (by first | exact ⟨lz10, uz10⟩ | omega), (if_y (by omega) (if_n (by rw [← gt_at v35 (show _ = 47 + 20 * x1 by omega)]; omega) (gt_to v58 (by omega))))⟩
        · intro c11
          refine And.intro (True.intro) ?_
          exact ⟨_, rfl, (by first | exact ⟨by decide, by decide⟩ | omega), (if_y (by omega) (if_y (by rw [← gt_at v35 (show _ = 47 + 20 * x1 by omega)]; omega) rfl))⟩
      · intro c12
        refine And.intro (True.intro) ?_
        exact ⟨_, rfl, (by first | exact ⟨by decide, by decide⟩ | omega), (if_n (fun q => by omega) rfl)⟩
set_option maxRecDepth 8000 in
theorem ct_Desk_addShip_b0073 {I : fH} {x1 : Int} {x2 : Int} {x3 : Int} (h0 : fB bsJ I) (ha1 : (2 ≤ x1 ∧ x1 ≤ 9999)) (ha2 : (0 ≤ x2 ∧ x2 ≤ 9999)) (ha3 : (1 ≤ x3 ∧ x3 ≤ 999)) : fC ρ base n F xTc vwCl xTys D dA la gJ (fbz bsJ znJ (fKc wz_f0603) I) xm_195 [.inr (.inr (some 211)), .inl x1, .inl x2, .inl x3] I (fun I' r => ∃ z, r = some (.inl z) ∧ (((0 ≤ z ∧ z ≤ 5) ∨ z = (-1000000003)) ∧ ((I 211 8 < 6 → z = I 211 8 ∧ I' 211 8 = I 211 8 + 1) ∧ (6 ≤ I 211 8 → z = (-1000000003) ∧ I' 211 8 = I 211 8))) ∧ (∀ j : Nat, I' 249 j = if (j : Int) = z then x1 else I 249 j) ∧ (∀ j : Nat, I' 250 j = if (j : Int) = z then x2 else I 250 j) ∧ (∀ j : Nat, I' 251 j = if (j : Int) = z then x3 else I 251 j)) := by
  have hW : fzs wz_f0603 (fKc wz_f0603) := fKc_ok _
  refine f_meth (rb := rbJ) (J := []) 1 400 xG xin_195 x6_195 okJ (fB_self h0) ?_ ?_
  · exact fun q h => absurd h List.not_mem_nil
  · have hB0 := fB_self (zn := znJ) (K := fKc wz_f0603) h0
    refine And.intro ⟨rfl, by decide, by decide⟩ (fgetf fb_211_8 h0 hB0 ?_)
    intro z1 lz1 uz1 qz1
    refine And.intro (And.intro (by first | exact fi_ lz1 uz1 rfl | omega) (by first | exact ⟨by decide, by decide⟩ | omega)) (And.intro ?_ ?_)
    · intro c2
      refine And.intro ⟨rfl, by decide, by decide⟩ ?_
      refine fstore1 rS_249_249_0_5_1_0 (fzs_sub (by decide +kernel) hW) ⟨by decide, by decide⟩ (by first | exact ⟨lz1, Int.le_trans (Int.le_sub_one_of_lt (Int.lt_of_lt_of_le c2 (Int.le_refl _))) (by decide)⟩ | omega) (by first | exact ⟨Int.le_trans (by decide) ha1.1, ha1.2⟩ | omega) ?_
      intro IhB3 ehB3 hB3
      have t4 := fup_self ehB3
      have t5 : IhB3 211 8 = I 211 8 := (congrFun (congrFun ehB3 211) 8).trans (fup_ne (by first | exact Or.inl (by decide) | omega))
      refine And.intro ⟨rfl, by decide, by decide⟩ ?_
      refine fstore1 rS_250_250_0_5_1_0 (fzs_sub (by decide +kernel) hW) ⟨by decide, by decide⟩ (by first | exact ⟨lz1, Int.le_trans (Int.le_sub_one_of_lt (Int.lt_of_lt_of_le c2 (Int.le_refl _))) (by decide)⟩ | omega) (by first | exact ⟨ha2.1, ha2.2⟩ | omega) ?_
      intro IhB6 ehB6 hB6
      have t7 := fup_self ehB6
      have t8 : IhB6 211 8 = IhB3 211 8 := (congrFun (congrFun ehB6 211) 8).trans (fup_ne (by first | exact Or.inl (by decide) | omega))
      refine And.intro ⟨rfl, by decide, by decide⟩ ?_
      refine fstore1 rS_251_251_0_5_1_0 (fzs_sub (by decide +kernel) hW) ⟨by decide, by decide⟩ (by first | exact ⟨lz1, Int.le_trans (Int.le_sub_one_of_lt (Int.lt_of_lt_of_le c2 (Int.le_refl _))) (by decide)⟩ | omega) (by first | exact ⟨Int.le_trans (by decide) ha3.1, ha3.2⟩ | omega) ?_
      intro IhB9 ehB9 hB9
      have t10 := fup_self ehB9
      have t11 : IhB9 211 8 = IhB6 211 8 := (congrFun (congrFun ehB9 211) 8).trans (fup_ne (by first | exact Or.inl (by decide) | omega))
      refine And.intro ⟨rfl, by decide, by decide⟩ (And.intro rfl (And.intro (Or.inl rfl) (fputf fb_211_8 (by decide +kernel) hW (by omega) ?_)))
      intro IhB12 ehB12 hB12
      have t13 := fup_at ehB12 8 (by first | rfl | omega)
      refine And.intro (True.intro) ?_
      exact ⟨_, rfl, by omega, (fun j => ((fup_other ehB12 249 j (Or.inl (by decide))).trans ((fup_other ehB9 249 j (Or.inl (by decide))).trans (fup_other ehB6 249 j (Or.inl (by decide))))).trans ((fup_if ehB3 j).trans (if_go (by omega) rfl))), (fun j => ((fup_other ehB12 250 j (Or.inl (by decide))).trans (fup_other ehB9 250 j (Or.inl (by decide)))).trans ((fup_if ehB6 j).trans (if_go (by omega) (fup_other ehB3 250 j (Or.inl (by decide)))))), (fun j => (fup_other ehB12 251 j (Or.inl (by decide))).trans ((fup_if ehB9 j).trans (if_go (by omega) ((fup_other ehB6 251 j (Or.inl (by decide))).trans (fup_other ehB3 251 j (Or.inl (by decide)))))))⟩
    · intro c14
      refine And.intro (True.intro) ?_
      exact ⟨_, rfl, by omega, (fun j => if_no (by omega)), (fun j => if_no (by omega)), (fun j => if_no (by omega))⟩
set_option maxRecDepth 8000 in
theorem ct_X_ship_594a6 {I : fH} {x1 : Int} {x2 : Int} {x3 : Int} (h0 : fB bsJ I) (ha1 : ((-2147483648) ≤ x1 ∧ x1 ≤ 2147483647)) (ha2 : ((-2147483648) ≤ x2 ∧ x2 ≤ 2147483647)) (ha3 : ((-2147483648) ≤ x3 ∧ x3 ≤ 2147483647)) : fC ρ base n F xTc vwCl xTys D dA la gJ (fbz bsJ znJ (fKc wz_f0603) I) xm_194 [.inr (.inr (some 0)), .inl x1, .inl x2, .inl x3] I (fun I' r => ∃ z, r = some (.inl z) ∧ (((0 ≤ z ∧ z ≤ 5) ∨ z = (-1000000003) ∨ z = (-1000000001)) ∧ ((2 ≤ x1 ∧ x1 ≤ 9999 ∧ 0 ≤ x2 ∧ x2 ≤ 9999 ∧ 1 ≤ x3 ∧ x3 ≤ 999 ∧ I 211 8 < 6 → z = I 211 8 ∧ I' 211 8 = I 211 8 + 1) ∧ (2 ≤ x1 ∧ x1 ≤ 9999 ∧ 0 ≤ x2 ∧ x2 ≤ 9999 ∧ 1 ≤ x3 ∧ x3 ≤ 999 ∧ 6 ≤ I 211 8 → z = (-1000000003) ∧ I' 211 8 = I 211 8) ∧ (¬ (2 ≤ x1 ∧ x1 ≤ 9999 ∧ 0 ≤ x2 ∧ x2 ≤ 9999 ∧ 1 ≤ x3 ∧ x3 ≤ 999) → z = (-1000000001) ∧ I' 211 8 = I 211 8))) ∧ (∀ j : Nat, I' 249 j = if (j : Int) = z then x1 else I 249 j) ∧ (∀ j : Nat, I' 250 j = if (j : Int) = z then x2 else I 250 j) ∧ (∀ j : Nat, I' 251 j = if (j : Int) = z then x3 else I 251 j)) := by
  have hW : fzs wz_f0603 (fKc wz_f0603) := fKc_ok _
  refine f_meth (rb := rbJ) (J := []) 1 400 xG xin_194 x6_194 okJ (fB_self h0) ?_ ?_
  · exact fun q h => absurd h List.not_mem_nil
  · have hB0 := fB_self (zn := znJ) (K := fKc wz_f0603) h0
    have b1 := fBd fb_211_8 (fBz h0 hB0)
    refine Exists.intro xm_13 (And.intro mi_13 (And.intro ⟨rfl, rfl, rfl, rfl⟩ (And.intro True.intro ?_)))
    refine fcallp hB0 (ct_X_within_c27b1 (fBz h0 hB0) (by first | exact ⟨ha1.1, ha1.2⟩ | omega) (by first | exact ⟨by decide, by decide⟩ | omega) (by first | exact ⟨by decide, by decide⟩ | omega)) ?_
    rintro _ ⟨z2, rfl, hz2⟩
    refine And.intro (by omega) (And.intro ?_ ?_)
    · intro c3
      refine And.intro (True.intro) ?_
      exact ⟨_, rfl, by omega, (by first | exact g0nil0 | exact fun j => if_no (by omega)), (by first | exact g1nil0 | exact fun j => if_no (by omega)), (by first | exact g2nil0 | exact fun j => if_no (by omega))⟩
    · intro c4
      refine Exists.intro xm_13 (And.intro mi_13 (And.intro ⟨rfl, rfl, rfl, rfl⟩ (And.intro True.intro ?_)))
      refine fcallp hB0 (ct_X_within_c27b1 (fBz h0 hB0) (by first | exact ⟨ha2.1, ha2.2⟩ | omega) (by first | exact ⟨by decide, by decide⟩ | omega) (by first | exact ⟨by decide, by decide⟩ | omega)) ?_
      rintro _ ⟨z5, rfl, hz5⟩
      refine And.intro (by omega) (And.intro ?_ ?_)
      · intro c6
        refine And.intro (True.intro) ?_
        exact ⟨_, rfl, by omega, (by first | exact g0nil0 | exact fun j => if_no (by omega)), (by first | exact g1nil0 | exact fun j => if_no (by omega)), (by first | exact g2nil0 | exact fun j => if_no (by omega))⟩
      · intro c7
        refine Exists.intro xm_13 (And.intro mi_13 (And.intro ⟨rfl, rfl, rfl, rfl⟩ (And.intro True.intro ?_)))
        refine fcallp hB0 (ct_X_within_c27b1 (fBz h0 hB0) (by first | exact ⟨ha3.1, ha3.2⟩ | omega) (by first | exact ⟨by decide, by decide⟩ | omega) (by first | exact ⟨by decide, by decide⟩ | omega)) ?_
        rintro _ ⟨z8, rfl, hz8⟩
        refine And.intro (by omega) (And.intro ?_ ?_)
        · intro c9
          refine And.intro ⟨rfl, by decide, by decide⟩ ?_
          refine Exists.intro xm_195 (And.intro mi_195 (And.intro ⟨rfl, rfl, rfl, rfl⟩ (And.intro rfl ?_)))
          refine fcall _ h0 (fzs_sub (by decide +kernel) hW) hB0 (ct_Desk_addShip_b0073 (fBz h0 hB0) (by first | exact ⟨Int.le_trans (by decide) (Int.le_trans (Int.le_refl _) hz2.1), Int.le_trans (Int.le_trans hz2.2 (Int.le_refl _)) (by decide)⟩ | omega) (by first | exact ⟨Int.le_trans (by decide) (Int.le_trans (Int.le_refl _) hz5.1), Int.le_trans (Int.le_trans hz5.2 (Int.le_refl _)) (by decide)⟩ | omega) (by first | exact ⟨Int.le_trans (by decide) (Int.le_trans (Int.le_refl _) hz8.1), Int.le_trans (Int.le_trans hz8.2 (Int.le_refl _)) (by decide)⟩ | omega)) ?_
          rintro IhB11 _ hB11 fhB11 ⟨z10, rfl, hz10, g0z10, g1z10, g2z10⟩
          refine And.intro (True.intro) ?_
          exact ⟨_, rfl, by omega, (by first | exact g0z10 | exact fun j => if_no (by omega)), (by first | exact g1z10 | exact fun j => if_no (by omega)), (by first | exact g2z10 | exact fun j => if_no (by omega))⟩
        · intro c12
          refine And.intro (True.intro) ?_
          exact ⟨_, rfl, by omega, (by first | exact g0z10 | exact fun j => if_no (by omega)), (by first | exact g1z10 | exact fun j => if_no (by omega)), (by first | exact g2z10 | exact fun j => if_no (by omega))⟩
set_option maxRecDepth 8000 in
theorem ct_M_ship_fd85e {I : fH} {x1 : Int} {x2 : Int} {x3 : Int} (h0 : fB bsJ I) (ha1 : ((-2147483648) ≤ x1 ∧ x1 ≤ 2147483647)) (ha2 : ((-2147483648) ≤ x2 ∧ x2 ≤ 2147483647)) (ha3 : ((-2147483648) ≤ x3 ∧ x3 ≤ 2147483647)) (hp0 : sI I 741) : fC ρ base n F xTc vwCl xTys D dA la gJ (fbz bsJ znJ (fKc wz_ac3fb) I) xm_471 [.inr (.inr (some 740)), .inl x1, .inl x2, .inl x3] I (fun I' r => ∃ z, r = some (.inl z) ∧ (((0 ≤ z ∧ z ≤ 5) ∨ z = (-1000000003) ∨ z = (-1000000001)) ∧ ((2 ≤ x1 ∧ x1 ≤ 9999 ∧ 0 ≤ x2 ∧ x2 ≤ 9999 ∧ 1 ≤ x3 ∧ x3 ≤ 999 ∧ I 741 10 < 6 → z = I 741 10 ∧ I' 741 10 = I 741 10 + 1) ∧ (2 ≤ x1 ∧ x1 ≤ 9999 ∧ 0 ≤ x2 ∧ x2 ≤ 9999 ∧ 1 ≤ x3 ∧ x3 ≤ 999 ∧ 6 ≤ I 741 10 → z = (-1000000003) ∧ I' 741 10 = I 741 10) ∧ (¬ (2 ≤ x1 ∧ x1 ≤ 9999 ∧ 0 ≤ x2 ∧ x2 ≤ 9999 ∧ 1 ≤ x3 ∧ x3 ≤ 999) → z = (-1000000001) ∧ I' 741 10 = I 741 10))) ∧ (sI I' 741) ∧ (∀ j : Nat, j < 6 → I' 741 (4330 + 3 * j) = if (j : Int) = z then x1 else I 741 (4330 + 3 * j)) ∧ (∀ j : Nat, j < 6 → I' 741 (4331 + 3 * j) = if (j : Int) = z then x2 else I 741 (4331 + 3 * j)) ∧ (∀ j : Nat, j < 6 → I' 741 (4332 + 3 * j) = if (j : Int) = z then x3 else I 741 (4332 + 3 * j))) := by
  have hW : fzs wz_ac3fb (fKc wz_ac3fb) := fKc_ok _
  refine f_meth (rb := rbJ) (J := []) 1 400 xG xin_471 x6_471 okJ (fB_self h0) ?_ ?_
  · exact fun q h => absurd h List.not_mem_nil
  · have hB0 := fB_self (zn := znJ) (K := fKc wz_ac3fb) h0
    have b1 := fBd fb_741_10 (fBz h0 hB0)
    refine And.intro (by first | exact fi_ ha1.1 ha1.2 rfl | omega) ?_
    refine Exists.intro xm_238 (And.intro mi_238 (And.intro ⟨rfl, rfl, rfl, rfl⟩ (And.intro True.intro ?_)))
    refine fcallp hB0 (ct_M_isIn_27230 (fBz h0 hB0) (by first | exact ⟨ha1.1, ha1.2⟩ | omega) (by first | exact ⟨by decide, by decide⟩ | omega) (by first | exact ⟨by decide, by decide⟩ | omega)) ?_
    rintro _ ⟨z2, rfl, hz2⟩
    refine And.intro (by omega) (And.intro ?_ ?_)
    · intro c3
      refine And.intro (True.intro) ?_
      exact ⟨_, rfl, by omega, hp0, (fun j _ => if_no (by omega)), (fun j _ => if_no (by omega)), (fun j _ => if_no (by omega))⟩
    · intro c4
      refine And.intro (by first | exact fi_ ha2.1 ha2.2 rfl | omega) ?_
      refine Exists.intro xm_238 (And.intro mi_238 (And.intro ⟨rfl, rfl, rfl, rfl⟩ (And.intro True.intro ?_)))
      refine fcallp hB0 (ct_M_isIn_27230 (fBz h0 hB0) (by first | exact ⟨ha2.1, ha2.2⟩ | omega) (by first | exact ⟨by decide, by decide⟩ | omega) (by first | exact ⟨by decide, by decide⟩ | omega)) ?_
      rintro _ ⟨z5, rfl, hz5⟩
      refine And.intro (by omega) (And.intro ?_ ?_)
      · intro c6
        refine And.intro (True.intro) ?_
        exact ⟨_, rfl, by omega, hp0, (fun j _ => if_no (by omega)), (fun j _ => if_no (by omega)), (fun j _ => if_no (by omega))⟩
      · intro c7
        refine And.intro (by first | exact fi_ ha3.1 ha3.2 rfl | omega) ?_
        refine Exists.intro xm_238 (And.intro mi_238 (And.intro ⟨rfl, rfl, rfl, rfl⟩ (And.intro True.intro ?_)))
        refine fcallp hB0 (ct_M_isIn_27230 (fBz h0 hB0) (by first | exact ⟨ha3.1, ha3.2⟩ | omega) (by first | exact ⟨by decide, by decide⟩ | omega) (by first | exact ⟨by decide, by decide⟩ | omega)) ?_
        rintro _ ⟨z8, rfl, hz8⟩
        refine And.intro (by omega) (And.intro ?_ ?_)
        · intro c9
          refine And.intro ⟨rfl, by decide, by decide⟩ ?_
          refine fload1 rL_741_741_10_10_1_0 h0 hB0 ⟨by decide, by decide⟩ (by first | exact ⟨by decide, by decide⟩ | omega) ?_
          intro z10 lz10 uz10 qz10
          have pz10 := fld_at qz10 10 (by omega)
          refine And.intro (And.intro (by first | exact fi_ lz10 uz10 rfl | omega) (by first | exact ⟨by decide, by decide⟩ | omega)) (And.intro ?_ ?_)
          · intro c11
            refine And.intro ⟨rfl, by decide, by decide⟩ ?_
            refine fload1 rL_741_741_10_10_1_0 h0 hB0 ⟨by decide, by decide⟩ (by first | exact ⟨by decide, by decide⟩ | omega) ?_
            intro z12 lz12 uz12 qz12
            have pz12 := fld_at qz12 10 (by omega)
            refine And.intro ⟨rfl, by decide, by decide⟩ ?_
            refine fstore rS_741_741_4330_4345_3_0 (fzs_sub (by decide +kernel) hW) (by omega) (by first | exact ⟨Int.le_trans (by decide) (Int.le_trans (Int.le_refl _) hz2.1), Int.le_trans (Int.le_trans hz2.2 (Int.le_refl _)) (by decide)⟩ | omega) ?_
            intro IhB13 ehB13 hB13
            have t14 := fup_self ehB13
            have t15 : IhB13 741 10 = I 741 10 := (congrFun (congrFun ehB13 741) 10).trans (fup_ne (by first | exact Or.inl (by decide) | omega))
            refine And.intro ⟨rfl, by decide, by decide⟩ ?_
            refine fstore rS_741_741_4331_4346_3_0 (fzs_sub (by decide +kernel) hW) (by omega) (by first | exact ⟨Int.le_trans (by decide) (Int.le_trans (Int.le_refl _) hz5.1), Int.le_trans (Int.le_trans hz5.2 (Int.le_refl _)) (by decide)⟩ | omega) ?_
            intro IhB16 ehB16 hB16
            have t17 := fup_self ehB16
            have t18 : IhB16 741 10 = IhB13 741 10 := (congrFun (congrFun ehB16 741) 10).trans (fup_ne (by first | exact Or.inl (by decide) | omega))
            refine And.intro ⟨rfl, by decide, by decide⟩ ?_
            refine fstore rS_741_741_4332_4347_3_0 (fzs_sub (by decide +kernel) hW) (by omega) (by first | exact ⟨Int.le_trans (by decide) (Int.le_trans (Int.le_refl _) hz8.1), Int.le_trans (Int.le_trans hz8.2 (Int.le_refl _)) (by decide)⟩ | omega) ?_
            intro IhB19 ehB19 hB19
            have t20 := fup_self ehB19
            have t21 : IhB19 741 10 = IhB16 741 10 := (congrFun (congrFun ehB19 741) 10).trans (fup_ne (by first | exact Or.inl (by decide) | omega))
            refine And.intro ⟨rfl, by decide, by decide⟩ ?_
            refine fload1 rL_741_741_10_10_1_0 h0 hB19 ⟨by decide, by decide⟩ (by first | exact ⟨by decide, by decide⟩ | omega) ?_
            intro z22 lz22 uz22 qz22
            have pz22 := fld_at qz22 10 (by omega)
            refine fstore1 rS_741_741_10_10_1_0 (fzs_sub (by decide +kernel) hW) ⟨by decide, by decide⟩ (by first | exact ⟨by decide, by decide⟩ | omega) (by omega) ?_
            intro IhB23 ehB23 hB23
            have t24 := fup_self ehB23
            have t25 := fup_at ehB23 10 (by first | rfl | omega)
            refine And.intro ⟨rfl, by decide, by decide⟩ ?_
            refine fload1 rL_741_741_10_10_1_0 h0 hB23 ⟨by decide, by decide⟩ (by first | exact ⟨by decide, by decide⟩ | omega) ?_
            intro z26 lz26 uz26 qz26
            have pz26 := fld_at qz26 10 (by omega)
            refine And.intro (True.intro) ?_
            exact ⟨_, rfl, by omega, (sI_ship (sBd_of h0) (by omega) (fun j h hj => ((fup_other ehB23 741 j (Or.inr (by omega))).trans ((fup_other ehB19 741 j (Or.inr (by omega))).trans ((fup_other ehB16 741 j (Or.inr (by omega))).trans (fup_other ehB13 741 j (Or.inr (by omega))))))) (by rw [(fup_other ehB23 741 (4330 + 3 * I 741 10).toNat (Or.inr (by omega))), (fup_other ehB19 741 (4330 + 3 * I 741 10).toNat (Or.inr (by omega))), (fup_other ehB16 741 (4330 + 3 * I 741 10).toNat (Or.inr (by omega))), fup_at ehB13 (4330 + 3 * I 741 10).toNat (by omega)]; omega) (by omega) hp0), (fun j hj => ((fup_other ehB23 741 (4330 + 3 * j) (Or.inr (by omega))).trans ((fup_other ehB19 741 (4330 + 3 * j) (Or.inr (by omega))).trans (fup_other ehB16 741 (4330 + 3 * j) (Or.inr (by omega))))).trans ((fup_if ehB13 (4330 + 3 * j)).trans (if_go (by omega) rfl))), (fun j hj => ((fup_other ehB23 741 (4331 + 3 * j) (Or.inr (by omega))).trans (fup_other ehB19 741 (4331 + 3 * j) (Or.inr (by omega)))).trans ((fup_if ehB16 (4331 + 3 * j)).trans (if_go (by omega) (fup_other ehB13 741 (4331 + 3 * j) (Or.inr (by omega)))))), (fun j hj => (fup_other ehB23 741 (4332 + 3 * j) (Or.inr (by omega))).trans ((fup_if ehB19 (4332 + 3 * j)).trans (if_go (by omega) ((fup_other ehB16 741 (4332 + 3 * j) (Or.inr (by omega))).trans (fup_other ehB13 741 (4332 + 3 * j) (Or.inr (by omega)))))))⟩
          · intro c27
            refine And.intro (True.intro) ?_
            exact ⟨_, rfl, by omega, hp0, (fun j _ => if_no (by omega)), (fun j _ => if_no (by omega)), (fun j _ => if_no (by omega))⟩
        · intro c28
          refine And.intro (True.intro) ?_
          exact ⟨_, rfl, by omega, hp0, (fun j _ => if_no (by omega)), (fun j _ => if_no (by omega)), (fun j _ => if_no (by omega))⟩
set_option maxRecDepth 8000 in
theorem ct_Math_floorMod_805d8 {I : fH} {x0 : Int} {x1 : Int} (h0 : fB bsJ I) (ha0 : ((-2147483648) ≤ x0 ∧ x0 ≤ 2147483647)) (ha1 : (1 ≤ x1 ∧ x1 ≤ 9999)) : fC ρ base n F xTc vwCl xTys D dA la gJ (fbz bsJ znJ (fKc []) I) xm_500 [.inl x0, .inl x1] I (fun _ r => ∃ z, r = some (.inl z) ∧ ((-2147483648) ≤ z ∧ z ≤ 2147483647) ∧ (z = flo x0 x1)) := by
  have hW : fzs [] (fKc []) := fKc_ok _
  refine f_meth (rb := rbJ) (J := []) 1 400 xG xin_500 x6_500 okJ (fB_self h0) ?_ ?_
  · exact fun q h => absurd h List.not_mem_nil
  · have hB0 := fB_self (zn := znJ) (K := fKc []) h0
    refine And.intro (And.intro (by first | exact fi_ ha0.1 ha0.2 rfl | omega) (And.intro (by first | exact fi_ ha1.1 ha1.2 rfl | omega) (And.intro (by omega) rfl))) ?_
    intro z1 hz1 ez1 dz1
    intro z2 hz2 ez2
    refine And.intro (by omega) (And.intro ?_ ?_)
    · intro c3
      refine And.intro (True.intro) ?_
      exact ⟨_, rfl, by omega, (flo_j ez1 hz1 ez2 hz2 ⟨by omega, by omega⟩ ⟨by omega, by omega⟩ (Or.inr ⟨by omega, by omega⟩))⟩
    · intro c4
      refine And.intro (by omega) (And.intro ?_ ?_)
      · intro c5
        refine And.intro (True.intro) ?_
        exact ⟨_, rfl, by omega, (flo_j ez1 hz1 ez2 hz2 ⟨by omega, by omega⟩ ⟨by omega, by omega⟩ (Or.inr ⟨by omega, by omega⟩))⟩
      · intro c6
        intro z7 hz7 ez7 bz7
        try replace bz7 := bz7 (by omega)
        refine And.intro (True.intro) ?_
        exact ⟨_, rfl, by omega, (flo_j ez1 hz1 ez2 hz2 ⟨by omega, by omega⟩ ⟨by omega, by omega⟩ (Or.inl ⟨by omega, by omega, bz7⟩))⟩
abbrev jc_Desk_nextMeeting_028da_17 (x1 : Int) (I0 : fH) : Nat → fL → List fV → fH → Prop := fun m lv st I => ∃ (y1 : Int) (y3 : Int) (y4 : Int), lv = [(0, .inr (.inr (some 211))), (1, .inl y1), (2, .inr (.inr (some 1))), (3, .inl y3), (4, .inl y4)] ∧ st = [] ∧ (((0 ≤ y1 ∧ y1 ≤ 5) ∧ (1 ≤ y3 ∧ y3 ≤ 9999) ∧ (0 ≤ y4 ∧ y4 ≤ 12001) ∧ (y1 = x1)) ∧ (y3 = I0 249 x1.toNat) ∧ (∀ j : Nat, (j : Int) < y4 → ¬ wnP (I0 1 9) (I0 250 x1.toNat) (I0 249 x1.toNat) (I0 251 x1.toNat) (I0 1 6) (gt (cR 0 I0) 3) j)) ∧ m = (1 + 1 * (12001 - y4) : Int).toNat
set_option maxRecDepth 8000 in
theorem ct_Desk_nextMeeting_028da {I : fH} {x1 : Int} (h0 : fB bsJ I) (ha1 : (0 ≤ x1 ∧ x1 ≤ 5)) (hp0 : 0 ≤ I 1 9 ∧ I 1 9 ≤ 22000) : fC ρ base n F xTc vwCl xTys D dA la gJ (fbz bsJ znJ (fKc []) I) xm_197 [.inr (.inr (some 211)), .inl x1, .inr (.inr (some 1))] I (fun _ r => ∃ z, r = some (.inl z) ∧ ((-2147483648) ≤ z ∧ z ≤ 2147483647) ∧ (0 < I 249 x1.toNat → wnR (wnP (I 1 9) (I 250 x1.toNat) (I 249 x1.toNat) (I 251 x1.toNat) (I 1 6) (gt (cR 0 I) 3)) (I 1 9) z)) := by
  have hW : fzs [] (fKc []) := fKc_ok _
  refine f_meth (rb := rbJ) (J := [(17, (jc_Desk_nextMeeting_028da_17 x1 I))]) 12003 400 xG xin_197 x6_197 okJ (fB_self h0) ?_ ?_
  · refine List.forall_mem_cons.mpr ⟨?_, fun q h => absurd h List.not_mem_nil⟩
    · rintro m _ _ I1 hB1 ⟨y1, y3, y4, rfl, rfl, ⟨hb, hx0, hx1⟩, hm⟩
      have eJ : I1 = I := fFr_nil (fFr_of hB1)
      have e1 : y1 = x1 := by omega
      refine And.intro (And.intro (by first | exact fi_ hb.2.2.1.1 hb.2.2.1.2 rfl | omega) (by first | exact ⟨by decide, by decide⟩ | omega)) (And.intro ?_ ?_)
      · intro c1
        refine And.intro (True.intro) ?_
        exact ⟨_, rfl, (by first | exact ⟨by decide, by decide⟩ | omega), (fun _ => wn_n hx1 (by omega) (by omega))⟩
      · intro c2
        refine And.intro ⟨rfl, by decide, by decide⟩ (fgetf fb_1_9 h0 hB1 ?_)
        intro z3 lz3 uz3 qz3
        have v26 := cL_f (d := 0) (a := 1) (j := 9) (r := 0) (p := 0) (by decide +kernel) (by decide) qz3 rfl
        rw [eJ] at v26
        have s26 : z3 = I 1 9 := by rw [qz3, eJ]
        intro z4 hz4 ez4 bz4
        try replace bz4 := bz4 (by omega)
        refine And.intro ⟨rfl, by decide, by decide⟩ ?_
        refine fload1 rL_250_250_0_5_1_0 h0 hB1 ⟨by decide, by decide⟩ (by first | exact ⟨hb.1.1, hb.1.2⟩ | omega) ?_
        intro z5 lz5 uz5 qz5
        have s41 : z5 = I 250 x1.toNat := by rw [qz5, eJ, e1]
        intro z6 hz6 ez6 bz6
        try replace bz6 := bz6 (by omega)
        refine Exists.intro xm_500 (And.intro mi_500 (And.intro ⟨rfl, rfl, rfl, rfl⟩ (And.intro True.intro ?_)))
        refine fcallp hB1 (ct_Math_floorMod_805d8 (fBz h0 hB1) (by omega) (by first | exact ⟨hb.2.1.1, hb.2.1.2⟩ | omega)) ?_
        rintro _ ⟨z7, rfl, hz7, g0z7⟩
        have w44 : z7 = flo (I 1 9 + (y4.toNat : Int) - I 250 x1.toNat) (I 249 x1.toNat) := by rw [g0z7]; exact flo_cg (by omega) hx0
        refine And.intro ⟨rfl, by decide, by decide⟩ ?_
        refine fload1 rL_251_251_0_5_1_0 h0 hB1 ⟨by decide, by decide⟩ (by first | exact ⟨hb.1.1, hb.1.2⟩ | omega) ?_
        intro z8 lz8 uz8 qz8
        have s52 : z8 = I 251 x1.toNat := by rw [qz8, eJ, e1]
        refine And.intro (And.intro (by first | exact fi_ hz7.1 hz7.2 rfl | omega) (by first | exact fi_ lz8 uz8 rfl | omega)) (And.intro ?_ ?_)
        · intro c9
          exact fcutJ (I := I1) (j := (jc_Desk_nextMeeting_028da_17 x1 I)) (lv' := [(0, .inr (.inr (some 211))), (1, .inl _), (2, .inr (.inr (some 1))), (3, .inl _), (4, .inl _)]) (And.intro rfl (And.intro rfl (And.intro rfl (And.intro rfl (And.intro rfl True.intro))))) ⟨_, _, _, rfl, rfl, ⟨by omega, hx0, (wn_S hx1 (by omega) (by omega) (fun q => by have q1 := q.1; omega))⟩, rfl⟩ (by omega)
        · intro c10
          refine And.intro ⟨rfl, by decide, by decide⟩ (fgetf fb_1_6 h0 hB1 ?_)
          intro z11 lz11 uz11 qz11
          have v58 := cL_f (d := 0) (a := 1) (j := 6) (r := 2) (p := 2) (by decide +kernel) (by decide) qz11 rfl
          rw [eJ] at v58
          have s58 : z11 = I 1 6 := by rw [qz11, eJ]
          intro z12 hz12 ez12 bz12
          try replace bz12 := bz12 (by omega)
          refine Exists.intro xm_70 (And.intro mi_70 (And.intro ⟨rfl, rfl, rfl, rfl⟩ (And.intro rfl ?_)))
          refine fcallp hB1 (ct_City_isDayAt_bb9dd (fBz h0 hB1) (by omega)) ?_
          rintro _ ⟨z13, rfl, hz13, g0z13⟩
          try rw [eJ] at g0z13
          refine And.intro (by omega) (And.intro ?_ ?_)
          · intro c14
            exact fcutJ (I := I1) (j := (jc_Desk_nextMeeting_028da_17 x1 I)) (lv' := [(0, .inr (.inr (some 211))), (1, .inl _), (2, .inr (.inr (some 1))), (3, .inl _), (4, .inl _)]) (And.intro rfl (And.intro rfl (And.intro rfl (And.intro rfl (And.intro rfl True.intro))))) ⟨_, _, _, rfl, rfl, ⟨by omega, hx0, (wn_S hx1 (by omega) (by omega) (fun q => by have q2 := q.2; rw [(show wr (I 1 6 + (y4.toNat : Int)) = z12 from by rw [← s58]; exact wnr_add hz12 ez12 (by omega))] at q2; exact (g0z13.elim (fun q => absurd q.1 (by omega)) (fun q => q.2)) q2))⟩, rfl⟩ (by omega)
          · intro c15
            refine And.intro (True.intro) ?_
            exact ⟨_, rfl, by omega, (fun _ => wn_y hx1 ⟨by omega, by omega⟩ ⟨by omega, by rw [(show wr (I 1 6 + (y4.toNat : Int)) = z12 from by rw [← s58]; exact wnr_add hz12 ez12 (by omega))]; exact (g0z13.elim (fun q => q.2) (fun q => absurd q.1 (by omega)))⟩ (by omega))⟩
  · have hB0 := fB_self (zn := znJ) (K := fKc []) h0
    refine And.intro ⟨rfl, by decide, by decide⟩ ?_
    refine fload1 rL_249_249_0_5_1_0 h0 hB0 ⟨by decide, by decide⟩ (by first | exact ⟨ha1.1, ha1.2⟩ | omega) ?_
    intro z16 lz16 uz16 qz16
    refine And.intro (by first | exact fi_ lz16 uz16 rfl | omega) (And.intro ?_ ?_)
    · intro c17
      exact fcutJ (I := I) (j := (jc_Desk_nextMeeting_028da_17 x1 I)) (lv' := [(0, .inr (.inr (some 211))), (1, .inl _), (2, .inr (.inr (some 1))), (3, .inl _), (4, .inl _)]) (And.intro rfl (And.intro rfl (And.intro rfl (And.intro rfl (And.intro rfl True.intro))))) ⟨_, _, _, rfl, rfl, ⟨by omega, qz16, (fun j hj => absurd hj (by omega))⟩, rfl⟩ (by omega)
    · intro c18
      refine And.intro (True.intro) ?_
      exact ⟨_, rfl, (by first | exact ⟨by decide, by decide⟩ | omega), (fun q => by exfalso; have q5 := qz16; omega)⟩
set_option maxRecDepth 8000 in
theorem ct_X_window_54b3b {I : fH} {x1 : Int} (h0 : fB bsJ I) (ha1 : ((-2147483648) ≤ x1 ∧ x1 ≤ 2147483647)) (hp0 : 0 ≤ I 1 9 ∧ I 1 9 ≤ 22000) : fC ρ base n F xTc vwCl xTys D dA la gJ (fbz bsJ znJ (fKc []) I) xm_196 [.inr (.inr (some 0)), .inl x1] I (fun _ r => ∃ z, r = some (.inl z) ∧ ((-2147483648) ≤ z ∧ z ≤ 2147483647) ∧ ((0 ≤ x1 ∧ x1 < I 211 8 → 0 < I 249 x1.toNat → wnR (wnP (I 1 9) (I 250 x1.toNat) (I 249 x1.toNat) (I 251 x1.toNat) (I 1 6) (gt (cR 0 I) 3)) (I 1 9) z) ∧ (¬ (0 ≤ x1 ∧ x1 < I 211 8) → z = (-1000000001)))) := by
  have hW : fzs [] (fKc []) := fKc_ok _
  refine f_meth (rb := rbJ) (J := []) 1 400 xG xin_196 x6_196 okJ (fB_self h0) ?_ ?_
  · exact fun q h => absurd h List.not_mem_nil
  · have hB0 := fB_self (zn := znJ) (K := fKc []) h0
    have b1 := fBd fb_211_8 (fBz h0 hB0)
    refine And.intro ⟨rfl, by decide, by decide⟩ ?_
    refine And.intro ⟨rfl, by decide, by decide⟩ (fgetf fb_211_8 h0 hB0 ?_)
    intro z2 lz2 uz2 qz2
    refine Exists.intro xm_13 (And.intro mi_13 (And.intro ⟨rfl, rfl, rfl, rfl⟩ (And.intro True.intro ?_)))
    refine fcallp hB0 (ct_X_within_c27b1 (fBz h0 hB0) (by first | exact ⟨ha1.1, ha1.2⟩ | omega) (by first | exact ⟨by decide, by decide⟩ | omega) (by omega)) ?_
    rintro _ ⟨z3, rfl, hz3⟩
    refine And.intro (by omega) (And.intro ?_ ?_)
    · intro c4
      refine And.intro (True.intro) ?_
      exact ⟨_, rfl, by omega, ⟨fun q => by exfalso; omega, fun _ => by omega⟩⟩
    · intro c5
      refine And.intro ⟨rfl, by decide, by decide⟩ ?_
      refine And.intro ⟨rfl, by decide, by decide⟩ ?_
      refine Exists.intro xm_197 (And.intro mi_197 (And.intro ⟨rfl, rfl, rfl, rfl⟩ (And.intro rfl ?_)))
      refine fcallp hB0 (ct_Desk_nextMeeting_028da (fBz h0 hB0) (by omega) (by omega)) ?_
      rintro _ ⟨z6, rfl, hz6, g0z6⟩
      refine And.intro (True.intro) ?_
      exact ⟨_, rfl, (by first | exact ⟨hz6.1, hz6.2⟩ | omega), ⟨fun _ => g0z6, fun q => absurd ⟨by omega, by omega⟩ q⟩⟩
end CT

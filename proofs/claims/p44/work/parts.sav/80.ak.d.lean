set_option linter.all false
section CT
variable {ρ : Nat → Int32} {base n : Nat} {F : Nat → Prop} {D : va_G} {dA : Nat → ClassId} {la : Launch}
abbrev jc_M_ones_0fd6a_4 (x0 : Int) : Nat → fL → List fV → fH → Prop := fun m lv st I => ∃ (y0 : Int) (y1 : Int) (y2 : Int), lv = [(0, .inl y0), (1, .inl y1), (2, .inl y2)] ∧ st = [] ∧ ((((-2147483648) ≤ y0 ∧ y0 ≤ 2147483647) ∧ (0 ≤ y1 ∧ y1 ≤ 12) ∧ (0 ≤ y2 ∧ y2 ≤ 12) ∧ (y0 = x0) ∧ (y1 ≤ y2)) ∧ (y1 = onI y0 y2.toNat)) ∧ m = (1 + 1 * (12 - y2) : Int).toNat
set_option maxRecDepth 8000 in
theorem ct_M_ones_0fd6a {I : fH} {x0 : Int} (h0 : fB bsJ I) (ha0 : ((-2147483648) ≤ x0 ∧ x0 ≤ 2147483647)) : fC ρ base n F xTc vwCl xTys D dA la gJ (fbz bsJ znJ (fKc []) I) xm_450 [.inl x0] I (fun _ r => ∃ z, r = some (.inl z) ∧ (0 ≤ z ∧ z ≤ 12) ∧ (z = onI x0 12)) := by
  have hW : fzs [] (fKc []) := fKc_ok _
  refine f_meth (rb := rbJ) (J := [(4, (jc_M_ones_0fd6a_4 x0))]) 14 400 xG xin_450 x6_450 okJ (fB_self h0) ?_ ?_
  · refine List.forall_mem_cons.mpr ⟨?_, fun q h => absurd h List.not_mem_nil⟩
    · rintro m _ _ I1 hB1 ⟨y0, y1, y2, rfl, rfl, ⟨hb, hx0⟩, hm⟩
      refine And.intro (And.intro (by first | exact fi_ hb.2.2.1.1 hb.2.2.1.2 rfl | omega) (by first | exact ⟨by decide, by decide⟩ | omega)) (And.intro ?_ ?_)
      · intro c1
        refine And.intro (True.intro) ?_
        exact ⟨_, rfl, (by first | exact ⟨hb.2.1.1, hb.2.1.2⟩ | omega), (by have q := hx0; rw [show y0 = x0 by omega, show y2.toNat = 12 by omega] at q; exact q)⟩
      · intro c2
        intro z3 hz3 ez3
        intro z4 hz4 ez4 bz4
        have bz4 := bz4 (by omega)
        have wb := bt_of hz4 ez3 ez4 (by omega)
        intro z5 hz5 ez5 bz5
        have bz5 := bz5 (by omega)
        exact fcutJ (I := I1) (j := (jc_M_ones_0fd6a_4 x0)) (lv' := [(0, .inl _), (1, .inl _), (2, .inl _)]) (And.intro rfl (And.intro rfl (And.intro rfl True.intro))) ⟨_, _, _, rfl, rfl, ⟨by omega, (by refine Eq.trans ?_ (nf_step hx0 (m' := y2 + 1) (by omega) rfl); show _ = y1 + bt y0 y2.toNat; rw [← wb]; omega)⟩, rfl⟩ (by omega)
  · have hB0 := fB_self (zn := znJ) (K := fKc []) h0
    exact fcutJ (I := I) (j := (jc_M_ones_0fd6a_4 x0)) (lv' := [(0, .inl _), (1, .inl _), (2, .inl _)]) (And.intro rfl (And.intro rfl (And.intro rfl True.intro))) ⟨_, _, _, rfl, rfl, ⟨by omega, rfl⟩, rfl⟩ (by omega)
abbrev jc_M_left_2e19e_4 : Nat → fL → List fV → fH → Prop := fun m lv st I => ∃ (y1 : Int) (y2 : Int), lv = [(0, .inr (.inr (some 740))), (1, .inl y1), (2, .inl y2)] ∧ st = [] ∧ ((((-2147483648) ≤ y1 ∧ y1 ≤ 2147483647) ∧ (0 ≤ y2 ∧ y2 ≤ 12)) ∧ (iI y1 = lfF (fun t => I 741 (4500 + t)) (fun t f => I 741 (4400 + 12 * t + f)) y2.toNat)) ∧ m = (10 + 10 * (12 - y2) : Int).toNat
abbrev jc_M_left_2e19e_15 : Nat → fL → List fV → fH → Prop := fun m lv st I => ∃ (y1 : Int) (y2 : Int) (y3 : Int) (y4 : Int), lv = [(0, .inr (.inr (some 740))), (1, .inl y1), (2, .inl y2), (3, .inl y3), (4, .inl y4)] ∧ st = [] ∧ ((((-2147483648) ≤ y1 ∧ y1 ≤ 2147483647) ∧ (0 ≤ y2 ∧ y2 ≤ 11) ∧ (0 ≤ y3 ∧ y3 ≤ 1) ∧ (0 ≤ y4 ∧ y4 ≤ 8)) ∧ (iI y1 = lfF (fun t => I 741 (4500 + t)) (fun t f => I 741 (4400 + 12 * t + f)) y2.toNat) ∧ ((y3 = 1 ∧ agP (fun t => I 741 (4500 + t)) (fun t f => I 741 (4400 + 12 * t + f)) y2.toNat y4.toNat) ∨ (y3 = 0 ∧ ¬ agP (fun t => I 741 (4500 + t)) (fun t f => I 741 (4400 + 12 * t + f)) y2.toNat y4.toNat))) ∧ m = (1 + 10 * (12 - y2) + 1 * (8 - y4) : Int).toNat
set_option maxRecDepth 8000 in
theorem ct_M_left_2e19e {I : fH}  (h0 : fB bsJ I)  : fC ρ base n F xTc vwCl xTys D dA la gJ (fbz bsJ znJ (fKc []) I) xm_449 [.inr (.inr (some 740))] I (fun _ r => ∃ z, r = some (.inl z) ∧ ((-2147483648) ≤ z ∧ z ≤ 2147483647) ∧ (iI z = lfF (fun t => I 741 (4500 + t)) (fun t f => I 741 (4400 + 12 * t + f)) 12)) := by
  have hW : fzs [] (fKc []) := fKc_ok _
  refine f_meth (rb := rbJ) (J := [(4, jc_M_left_2e19e_4), (15, jc_M_left_2e19e_15)]) 131 400 xG xin_449 x6_449 okJ (fB_self h0) ?_ ?_
  · refine List.forall_mem_cons.mpr ⟨?_, List.forall_mem_cons.mpr ⟨?_, fun q h => absurd h List.not_mem_nil⟩⟩
    · rintro m _ _ I1 hB1 ⟨y1, y2, rfl, rfl, ⟨hb, hx0⟩, hm⟩
      have eI : I1 = I := fFr_nil (fFr_of hB1)
      refine And.intro (And.intro (by first | exact fi_ hb.2.1 hb.2.2 rfl | omega) (by first | exact ⟨by decide, by decide⟩ | omega)) (And.intro ?_ ?_)
      · intro c1
        refine And.intro (True.intro) ?_
        exact ⟨_, rfl, (by first | exact ⟨hb.1.1, hb.1.2⟩ | omega), (by have q := hx0; rw [eI, show y2.toNat = 12 by omega] at q; exact q)⟩
      · intro c2
        exact fcutJ (I := I1) (j := jc_M_left_2e19e_15) (lv' := [(0, .inr (.inr (some 740))), (1, .inl _), (2, .inl _), (3, .inl _), (4, .inl _)]) (And.intro rfl (And.intro rfl (And.intro rfl (And.intro rfl (And.intro rfl True.intro))))) ⟨_, _, _, _, rfl, rfl, ⟨by omega, hx0, (Or.inl ⟨by omega, fun t ht => absurd ht (Nat.not_lt_zero _)⟩)⟩, rfl⟩ (by omega)
    · rintro m _ _ I1 hB1 ⟨y1, y2, y3, y4, rfl, rfl, ⟨hb, hx0, hx1⟩, hm⟩
      have eI : I1 = I := fFr_nil (fFr_of hB1)
      refine And.intro (And.intro (by first | exact fi_ hb.2.2.2.1 hb.2.2.2.2 rfl | omega) (by first | exact ⟨by decide, by decide⟩ | omega)) (And.intro ?_ ?_)
      · intro c3
        have w4 : y4.toNat = 8 := by omega
        rw [w4] at hx1
        refine And.intro (by first | exact fi_ hb.2.2.1.1 hb.2.2.1.2 rfl | omega) (And.intro ?_ ?_)
        · intro c4
          intro z5 hz5 ez5
          exact fcutJ (I := I1) (j := jc_M_left_2e19e_4) (lv' := [(0, .inr (.inr (some 740))), (1, .inl _), (2, .inl _)]) (And.intro rfl (And.intro rfl (And.intro rfl True.intro))) ⟨_, _, rfl, rfl, ⟨by omega, (by rcases hx1 with ⟨ga, gb⟩ | ⟨ga, gb⟩ <;> first | exact lf_yes hx0 (by omega) (by omega) gb enil0 ez5 | exact lf_no (lf_or0 hx0 ez5) (by omega) (by omega) gb | (exfalso; omega))⟩, rfl⟩ (by omega)
        · intro c6
          intro z7 hz7 ez7
          intro z8 hz8 ez8
          exact fcutJ (I := I1) (j := jc_M_left_2e19e_4) (lv' := [(0, .inr (.inr (some 740))), (1, .inl _), (2, .inl _)]) (And.intro rfl (And.intro rfl (And.intro rfl True.intro))) ⟨_, _, rfl, rfl, ⟨by omega, (by rcases hx1 with ⟨ga, gb⟩ | ⟨ga, gb⟩ <;> first | exact lf_yes hx0 (by omega) (by omega) gb ez7 ez8 | exact lf_no (lf_or0 hx0 ez8) (by omega) (by omega) gb | (exfalso; omega))⟩, rfl⟩ (by omega)
      · intro c9
        refine And.intro (by first | exact fi_ hb.2.2.1.1 hb.2.2.1.2 rfl | omega) (And.intro ?_ ?_)
        · intro c10
          exact fcutJ (I := I1) (j := jc_M_left_2e19e_15) (lv' := [(0, .inr (.inr (some 740))), (1, .inl _), (2, .inl _), (3, .inl _), (4, .inl _)]) (And.intro rfl (And.intro rfl (And.intro rfl (And.intro rfl (And.intro rfl True.intro))))) ⟨_, _, _, _, rfl, rfl, ⟨by omega, hx0, (by rcases hx1 with ⟨ga, gb⟩ | ⟨ga, gb⟩ <;> first | exact Or.inl ⟨by omega, agP_go gb (by omega) (by omega) (Or.inl (by have w := fld_at qnil0 (4500 + y4.toNat) (by omega); rw [← w]; omega))⟩ | exact Or.inl ⟨by omega, agP_go gb (by omega) (by omega) (Or.inr (by have w := fld_at qnil0 (4500 + y4.toNat) (by omega); have v := fld_at qnil0 (4400 + 12 * y4.toNat + y2.toNat) (by omega); rw [← w, ← v]; omega))⟩ | exact Or.inr ⟨by omega, agP_no (m := y4) (by omega) (by omega) (fun q => q.elim (fun q => by have w := fld_at qnil0 (4500 + y4.toNat) (by omega); rw [← w] at q; omega) (fun q => by have w := fld_at qnil0 (4500 + y4.toNat) (by omega); have v := fld_at qnil0 (4400 + 12 * y4.toNat + y2.toNat) (by omega); rw [← w, ← v] at q; omega))⟩ | exact Or.inr ⟨by omega, fun q => gb (fun t ht => q t (by omega))⟩ | (exfalso; omega))⟩, rfl⟩ (by omega)
        · intro c11
          refine And.intro ⟨rfl, by decide, by decide⟩ ?_
          refine fload rL_741_741_4500_4507_1_0 h0 hB1 (by omega) ?_
          intro z12 lz12 uz12 qz12
          refine And.intro (by first | exact fi_ lz12 uz12 rfl | omega) (And.intro ?_ ?_)
          · intro c13
            exact fcutJ (I := I1) (j := jc_M_left_2e19e_15) (lv' := [(0, .inr (.inr (some 740))), (1, .inl _), (2, .inl _), (3, .inl _), (4, .inl _)]) (And.intro rfl (And.intro rfl (And.intro rfl (And.intro rfl (And.intro rfl True.intro))))) ⟨_, _, _, _, rfl, rfl, ⟨by omega, hx0, (by rcases hx1 with ⟨ga, gb⟩ | ⟨ga, gb⟩ <;> first | exact Or.inl ⟨by omega, agP_go gb (by omega) (by omega) (Or.inl (by have w := fld_at qz12 (4500 + y4.toNat) (by omega); rw [← w]; omega))⟩ | exact Or.inl ⟨by omega, agP_go gb (by omega) (by omega) (Or.inr (by have w := fld_at qnil0 (4500 + y4.toNat) (by omega); have v := fld_at qnil0 (4400 + 12 * y4.toNat + y2.toNat) (by omega); rw [← w, ← v]; omega))⟩ | exact Or.inr ⟨by omega, agP_no (m := y4) (by omega) (by omega) (fun q => q.elim (fun q => by have w := fld_at qz12 (4500 + y4.toNat) (by omega); rw [← w] at q; omega) (fun q => by have w := fld_at qnil0 (4500 + y4.toNat) (by omega); have v := fld_at qnil0 (4400 + 12 * y4.toNat + y2.toNat) (by omega); rw [← w, ← v] at q; omega))⟩ | exact Or.inr ⟨by omega, fun q => gb (fun t ht => q t (by omega))⟩ | (exfalso; omega))⟩, rfl⟩ (by omega)
          · intro c14
            refine And.intro ⟨rfl, by decide, by decide⟩ ?_
            refine fload rL_741_741_4400_4495_12_11 h0 hB1 (by omega) ?_
            intro z15 lz15 uz15 qz15
            refine And.intro ⟨rfl, by decide, by decide⟩ ?_
            refine fload rL_741_741_4500_4507_1_0 h0 hB1 (by omega) ?_
            intro z16 lz16 uz16 qz16
            refine And.intro (And.intro (by first | exact fi_ lz15 uz15 rfl | omega) (by first | exact fi_ lz16 uz16 rfl | omega)) (And.intro ?_ ?_)
            · intro c17
              exact fcutJ (I := I1) (j := jc_M_left_2e19e_15) (lv' := [(0, .inr (.inr (some 740))), (1, .inl _), (2, .inl _), (3, .inl _), (4, .inl _)]) (And.intro rfl (And.intro rfl (And.intro rfl (And.intro rfl (And.intro rfl True.intro))))) ⟨_, _, _, _, rfl, rfl, ⟨by omega, hx0, (by rcases hx1 with ⟨ga, gb⟩ | ⟨ga, gb⟩ <;> first | exact Or.inl ⟨by omega, agP_go gb (by omega) (by omega) (Or.inl (by have w := fld_at qz12 (4500 + y4.toNat) (by omega); rw [← w]; omega))⟩ | exact Or.inl ⟨by omega, agP_go gb (by omega) (by omega) (Or.inr (by have w := fld_at qz16 (4500 + y4.toNat) (by omega); have v := fld_at qz15 (4400 + 12 * y4.toNat + y2.toNat) (by omega); rw [← w, ← v]; omega))⟩ | exact Or.inr ⟨by omega, agP_no (m := y4) (by omega) (by omega) (fun q => q.elim (fun q => by have w := fld_at qz12 (4500 + y4.toNat) (by omega); rw [← w] at q; omega) (fun q => by have w := fld_at qz16 (4500 + y4.toNat) (by omega); have v := fld_at qz15 (4400 + 12 * y4.toNat + y2.toNat) (by omega); rw [← w, ← v] at q; omega))⟩ | exact Or.inr ⟨by omega, fun q => gb (fun t ht => q t (by omega))⟩ | (exfalso; omega))⟩, rfl⟩ (by omega)
            · intro c18
              exact fcutJ (I := I1) (j := jc_M_left_2e19e_15) (lv' := [(0, .inr (.inr (some 740))), (1, .inl _), (2, .inl _), (3, .inl _), (4, .inl _)]) (And.intro rfl (And.intro rfl (And.intro rfl (And.intro rfl (And.intro rfl True.intro))))) ⟨_, _, _, _, rfl, rfl, ⟨by omega, hx0, (by rcases hx1 with ⟨ga, gb⟩ | ⟨ga, gb⟩ <;> first | exact Or.inl ⟨by omega, agP_go gb (by omega) (by omega) (Or.inl (by have w := fld_at qz12 (4500 + y4.toNat) (by omega); rw [← w]; omega))⟩ | exact Or.inl ⟨by omega, agP_go gb (by omega) (by omega) (Or.inr (by have w := fld_at qz16 (4500 + y4.toNat) (by omega); have v := fld_at qz15 (4400 + 12 * y4.toNat + y2.toNat) (by omega); rw [← w, ← v]; omega))⟩ | exact Or.inr ⟨by omega, agP_no (m := y4) (by omega) (by omega) (fun q => q.elim (fun q => by have w := fld_at qz12 (4500 + y4.toNat) (by omega); rw [← w] at q; omega) (fun q => by have w := fld_at qz16 (4500 + y4.toNat) (by omega); have v := fld_at qz15 (4400 + 12 * y4.toNat + y2.toNat) (by omega); rw [← w, ← v] at q; omega))⟩ | exact Or.inr ⟨by omega, fun q => gb (fun t ht => q t (by omega))⟩ | (exfalso; omega))⟩, rfl⟩ (by omega)
  · have hB0 := fB_self (zn := znJ) (K := fKc []) h0
    exact fcutJ (I := I) (j := jc_M_left_2e19e_4) (lv' := [(0, .inr (.inr (some 740))), (1, .inl _), (2, .inl _)]) (And.intro rfl (And.intro rfl (And.intro rfl True.intro))) ⟨_, _, rfl, rfl, ⟨by omega, iI_0⟩, rfl⟩ (by omega)
set_option maxRecDepth 8000 in
theorem ct_M_tested_bcdc3 {I : fH} {x1 : Int} {x2 : Int} (h0 : fB bsJ I) (ha1 : ((-2147483648) ≤ x1 ∧ x1 ≤ 2147483647)) (ha2 : ((-2147483648) ≤ x2 ∧ x2 ≤ 2147483647)) : fC ρ base n F xTc vwCl xTys D dA la gJ (fbz bsJ znJ (fKc wz_1ea73) I) xm_448 [.inr (.inr (some 740)), .inl x1, .inl x2] I (fun I' r => ∃ z, r = some (.inl z) ∧ ((0 ≤ z ∧ z ≤ 12) ∨ z = (-1000000001)) ∧ (((0 ≤ x1 ∧ x1 ≤ 7 ∧ (-1) ≤ x2 ∧ x2 ≤ 3) ∧ I' = fupd I 741 (4500 + x1).toNat x2) ∨ (¬ (0 ≤ x1 ∧ x1 ≤ 7 ∧ (-1) ≤ x2 ∧ x2 ≤ 3) ∧ I' = I ∧ z = (-1000000001))) ∧ (0 ≤ x1 ∧ x1 ≤ 7 ∧ (-1) ≤ x2 ∧ x2 ≤ 3 → lfM (fun t => I' 741 (4500 + t)) (fun t f => I' 741 (4400 + 12 * t + f)) z)) := by
  have hW : fzs wz_1ea73 (fKc wz_1ea73) := fKc_ok _
  refine f_meth (rb := rbJ) (J := []) 1 400 xG xin_448 x6_448 okJ (fB_self h0) ?_ ?_
  · exact fun q h => absurd h List.not_mem_nil
  · have hB0 := fB_self (zn := znJ) (K := fKc wz_1ea73) h0
    refine Exists.intro xm_446 (And.intro mi_446 (And.intro ⟨rfl, rfl, rfl, rfl⟩ (And.intro True.intro ?_)))
    refine fcallp hB0 (ct_M_isTest_9b7ec (fBz h0 hB0) (by first | exact ⟨ha1.1, ha1.2⟩ | omega)) ?_
    rintro _ ⟨z1, rfl, hz1⟩
    refine And.intro (by omega) (And.intro ?_ ?_)
    · intro c2
      refine And.intro (True.intro) ?_
      exact ⟨_, rfl, by omega, (by first | exact Or.inl ⟨by omega, enil0.trans (fupd_ix (by omega))⟩ | exact Or.inr ⟨by omega, rfl, by omega⟩), (fun q => absurd q (by omega))⟩
    · intro c3
      refine And.intro (by first | exact fi_ ha2.1 ha2.2 rfl | omega) ?_
      refine Exists.intro xm_238 (And.intro mi_238 (And.intro ⟨rfl, rfl, rfl, rfl⟩ (And.intro True.intro ?_)))
      refine fcallp hB0 (ct_M_isIn_27230 (fBz h0 hB0) (by first | exact ⟨ha2.1, ha2.2⟩ | omega) (by first | exact ⟨by decide, by decide⟩ | omega) (by first | exact ⟨by decide, by decide⟩ | omega)) ?_
      rintro _ ⟨z4, rfl, hz4⟩
      refine And.intro (by omega) (And.intro ?_ ?_)
      · intro c5
        refine And.intro ⟨rfl, by decide, by decide⟩ ?_
        refine fstore rS_741_741_4500_4507_1_0 (fzs_sub (by decide +kernel) hW) (by omega) (by first | exact ⟨Int.le_trans (by decide) (Int.le_trans (Int.le_refl _) hz4.1), Int.le_trans (Int.le_trans hz4.2 (Int.le_refl _)) (by decide)⟩ | omega) ?_
        intro IhB6 ehB6 hB6
        have t7 := fup_self ehB6
        refine Exists.intro xm_449 (And.intro mi_449 (And.intro ⟨rfl, rfl, rfl, rfl⟩ (And.intro rfl ?_)))
        refine fcallp hB6 (ct_M_left_2e19e (fBz h0 hB6)) ?_
        rintro _ ⟨z8, rfl, hz8, g0z8⟩
        refine Exists.intro xm_450 (And.intro mi_450 (And.intro ⟨rfl, rfl, rfl, rfl⟩ (And.intro True.intro ?_)))
        refine fcallp hB6 (ct_M_ones_0fd6a (fBz h0 hB6) (by first | exact ⟨hz8.1, hz8.2⟩ | omega)) ?_
        rintro _ ⟨z9, rfl, hz9, g0z9⟩
        refine And.intro (True.intro) ?_
        exact ⟨_, rfl, by omega, (by first | exact Or.inl ⟨by omega, ehB6.trans (fupd_ix (by omega))⟩ | exact Or.inr ⟨by omega, rfl, by omega⟩), (fun _ => lfM_mk (by omega) g0z8 g0z9)⟩
      · intro c10
        refine And.intro (True.intro) ?_
        exact ⟨_, rfl, by omega, (by first | exact Or.inl ⟨by omega, ehB6.trans (fupd_ix (by omega))⟩ | exact Or.inr ⟨by omega, rfl, by omega⟩), (fun q => absurd q (by omega))⟩
abbrev jc_Desk_mostAlike_488ee_5 (x1 : Int) (x2 : Int) : Nat → fL → List fV → fH → Prop := fun m lv st I => ∃ (y1 : Int) (y2 : Int) (y3 : Int) (y4 : Int), lv = [(0, .inr (.inr (some 211))), (1, .inl y1), (2, .inl y2), (3, .inl y3), (4, .inl y4)] ∧ st = [] ∧ (((0 ≤ y1 ∧ y1 ≤ 7) ∧ ((-2147483648) ≤ y2 ∧ y2 ≤ 2147483647) ∧ (0 ≤ y3 ∧ y3 ≤ 12) ∧ (0 ≤ y4 ∧ y4 ≤ 4) ∧ (y1 = x1) ∧ (y2 = x2)) ∧ (y3 = alF (I (213 + y1.toNat)) y2 y4.toNat)) ∧ m = (14 + 14 * (4 - y4) : Int).toNat
abbrev jc_Desk_mostAlike_488ee_17 (x1 : Int) (x2 : Int) : Nat → fL → List fV → fH → Prop := fun m lv st I => ∃ (y1 : Int) (y2 : Int) (y3 : Int) (y4 : Int) (y5 : Int) (y6 : Int), lv = [(0, .inr (.inr (some 211))), (1, .inl y1), (2, .inl y2), (3, .inl y3), (4, .inl y4), (5, .inl y5), (6, .inl y6)] ∧ st = [] ∧ (((0 ≤ y1 ∧ y1 ≤ 7) ∧ ((-2147483648) ≤ y2 ∧ y2 ≤ 2147483647) ∧ (0 ≤ y3 ∧ y3 ≤ 12) ∧ (0 ≤ y4 ∧ y4 ≤ 3) ∧ (0 ≤ y5 ∧ y5 ≤ 12) ∧ (0 ≤ y6 ∧ y6 ≤ 12) ∧ (y1 = x1) ∧ (y2 = x2) ∧ (y5 ≤ y6)) ∧ (y3 = alF (I (213 + y1.toNat)) y2 y4.toNat) ∧ (y5 = cnF (I (213 + y1.toNat)) y2 y4 y6.toNat)) ∧ m = (1 + 14 * (4 - y4) + 1 * (12 - y6) : Int).toNat
set_option maxRecDepth 8000 in
theorem ct_Desk_mostAlike_488ee {I : fH} {x1 : Int} {x2 : Int} (h0 : fB bsJ I) (ha1 : (0 ≤ x1 ∧ x1 ≤ 7)) (ha2 : ((-2147483648) ≤ x2 ∧ x2 ≤ 2147483647)) : fC ρ base n F xTc vwCl xTys D dA la gJ (fbz bsJ znJ (fKc []) I) xm_175 [.inr (.inr (some 211)), .inl x1, .inl x2] I (fun _ r => ∃ z, r = some (.inl z) ∧ (0 ≤ z ∧ z ≤ 12) ∧ (z = alF (I (213 + x1.toNat)) x2 4)) := by
  have hW : fzs [] (fKc []) := fKc_ok _
  refine f_meth (rb := rbJ) (J := [(5, (jc_Desk_mostAlike_488ee_5 x1 x2)), (17, (jc_Desk_mostAlike_488ee_17 x1 x2))]) 71 400 xG xin_175 x6_175 okJ (fB_self h0) ?_ ?_
  · refine List.forall_mem_cons.mpr ⟨?_, List.forall_mem_cons.mpr ⟨?_, fun q h => absurd h List.not_mem_nil⟩⟩
    · rintro m _ _ I1 hB1 ⟨y1, y2, y3, y4, rfl, rfl, ⟨hb, hx0⟩, hm⟩
      have eI : I1 = I := fFr_nil (fFr_of hB1)
      refine And.intro (And.intro (by first | exact fi_ hb.2.2.2.1.1 hb.2.2.2.1.2 rfl | omega) (by first | exact ⟨by decide, by decide⟩ | omega)) (And.intro ?_ ?_)
      · intro c1
        refine And.intro (True.intro) ?_
        exact ⟨_, rfl, (by first | exact ⟨hb.2.2.1.1, hb.2.2.1.2⟩ | omega), (by have q := hx0; rw [eI, show y1 = x1 by omega, show y2 = x2 by omega, show y4.toNat = 4 by omega] at q; exact q)⟩
      · intro c2
        exact fcutJ (I := I1) (j := (jc_Desk_mostAlike_488ee_17 x1 x2)) (lv' := [(0, .inr (.inr (some 211))), (1, .inl _), (2, .inl _), (3, .inl _), (4, .inl _), (5, .inl _), (6, .inl _)]) (And.intro rfl (And.intro rfl (And.intro rfl (And.intro rfl (And.intro rfl (And.intro rfl (And.intro rfl True.intro))))))) ⟨_, _, _, _, _, _, rfl, rfl, ⟨by omega, hx0, rfl⟩, rfl⟩ (by omega)
    · rintro m _ _ I1 hB1 ⟨y1, y2, y3, y4, y5, y6, rfl, rfl, ⟨hb, hx0, hx1⟩, hm⟩
      have eI : I1 = I := fFr_nil (fFr_of hB1)
      refine And.intro (And.intro (by first | exact fi_ hb.2.2.2.2.2.1.1 hb.2.2.2.2.2.1.2 rfl | omega) (by first | exact ⟨by decide, by decide⟩ | omega)) (And.intro ?_ ?_)
      · intro c3
        refine And.intro (And.intro (by first | exact fi_ hb.2.2.1.1 hb.2.2.1.2 rfl | omega) (And.intro (by first | exact fi_ hb.2.2.2.2.1.1 hb.2.2.2.2.1.2 rfl | omega) rfl)) ?_
        intro z4 hz4
        exact fcutJ (I := I1) (j := (jc_Desk_mostAlike_488ee_5 x1 x2)) (lv' := [(0, .inr (.inr (some 211))), (1, .inl _), (2, .inl _), (3, .inl _), (4, .inl _)]) (And.intro rfl (And.intro rfl (And.intro rfl (And.intro rfl (And.intro rfl True.intro))))) ⟨_, _, _, _, rfl, rfl, ⟨by omega, (al_go (c := y5) hx0 (by omega) (by omega) (by have q := hx1; rw [show y6.toNat = 12 by omega] at q; exact q) (by omega))⟩, rfl⟩ (by omega)
      · intro c5
        intro z6 hz6 ez6
        intro z7 hz7 ez7 bz7
        have bz7 := bz7 (by omega)
        have wb := bt_of hz7 ez6 ez7 (by omega)
        refine And.intro (And.intro (by first | exact fi_ bz7.1 bz7.2 rfl | omega) (by first | exact ⟨by decide, by decide⟩ | omega)) (And.intro ?_ ?_)
        · intro c8
          exact fcutJ (I := I1) (j := (jc_Desk_mostAlike_488ee_17 x1 x2)) (lv' := [(0, .inr (.inr (some 211))), (1, .inl _), (2, .inl _), (3, .inl _), (4, .inl _), (5, .inl _), (6, .inl _)]) (And.intro rfl (And.intro rfl (And.intro rfl (And.intro rfl (And.intro rfl (And.intro rfl (And.intro rfl True.intro))))))) ⟨_, _, _, _, _, _, rfl, rfl, ⟨by omega, hx0, (by first | exact cn_yes hx1 (by omega) (by omega) ⟨by omega, by rw [← qnil0]; omega⟩ (by omega) | exact cn_no hx1 (by omega) (by omega) (fun q => by have q1 := q.1; omega) | exact cn_no hx1 (by omega) (by omega) (fun q => by have q2 := q.2; rw [← qnil0] at q2; omega))⟩, rfl⟩ (by omega)
        · intro c9
          refine And.intro ⟨rfl, by decide, by decide⟩ ?_
          refine And.intro ⟨rfl, by decide⟩ (And.intro (by first | exact ⟨hb.1.1, Int.lt_of_le_of_lt hb.1.2 (by decide)⟩ | omega) ?_)
          refine fload rL_213_220_0_11_1_0 h0 hB1 (by omega) ?_
          intro z10 lz10 uz10 qz10
          refine And.intro (And.intro (by first | exact fi_ lz10 uz10 rfl | omega) (by first | exact fi_ hb.2.2.2.1.1 hb.2.2.2.1.2 rfl | omega)) (And.intro ?_ ?_)
          · intro c11
            exact fcutJ (I := I1) (j := (jc_Desk_mostAlike_488ee_17 x1 x2)) (lv' := [(0, .inr (.inr (some 211))), (1, .inl _), (2, .inl _), (3, .inl _), (4, .inl _), (5, .inl _), (6, .inl _)]) (And.intro rfl (And.intro rfl (And.intro rfl (And.intro rfl (And.intro rfl (And.intro rfl (And.intro rfl True.intro))))))) ⟨_, _, _, _, _, _, rfl, rfl, ⟨by omega, hx0, (by first | exact cn_yes hx1 (by omega) (by omega) ⟨by omega, by rw [← qz10]; omega⟩ (by omega) | exact cn_no hx1 (by omega) (by omega) (fun q => by have q1 := q.1; omega) | exact cn_no hx1 (by omega) (by omega) (fun q => by have q2 := q.2; rw [← qz10] at q2; omega))⟩, rfl⟩ (by omega)
          · intro c12
            intro z13 hz13 bz13
            have bz13 := bz13 (by omega)
            exact fcutJ (I := I1) (j := (jc_Desk_mostAlike_488ee_17 x1 x2)) (lv' := [(0, .inr (.inr (some 211))), (1, .inl _), (2, .inl _), (3, .inl _), (4, .inl _), (5, .inl _), (6, .inl _)]) (And.intro rfl (And.intro rfl (And.intro rfl (And.intro rfl (And.intro rfl (And.intro rfl (And.intro rfl True.intro))))))) ⟨_, _, _, _, _, _, rfl, rfl, ⟨by omega, hx0, (by first | exact cn_yes hx1 (by omega) (by omega) ⟨by omega, by rw [← qz10]; omega⟩ (by omega) | exact cn_no hx1 (by omega) (by omega) (fun q => by have q1 := q.1; omega) | exact cn_no hx1 (by omega) (by omega) (fun q => by have q2 := q.2; rw [← qz10] at q2; omega))⟩, rfl⟩ (by omega)
  · have hB0 := fB_self (zn := znJ) (K := fKc []) h0
    exact fcutJ (I := I) (j := (jc_Desk_mostAlike_488ee_5 x1 x2)) (lv' := [(0, .inr (.inr (some 211))), (1, .inl _), (2, .inl _), (3, .inl _), (4, .inl _)]) (And.intro rfl (And.intro rfl (And.intro rfl (And.intro rfl (And.intro rfl True.intro))))) ⟨_, _, _, _, rfl, rfl, ⟨by omega, rfl⟩, rfl⟩ (by omega)
abbrev jc_Desk_nextTest_2c9a4_16 : Nat → fL → List fV → fH → Prop := fun m lv st I => ∃ (y1 : Int) (y2 : Int) (y3 : Int) (y4 : Int), lv = [(0, .inr (.inr (some 211))), (1, .inl y1), (2, .inl y2), (3, .inl y3), (4, .inl y4)] ∧ st = [] ∧ ((((-2147483648) ≤ y1 ∧ y1 ≤ 2147483647) ∧ ((0 ≤ y2 ∧ y2 ≤ 7) ∨ y2 = (-1000000005)) ∧ (0 ≤ y3 ∧ y3 ≤ 63) ∧ (0 ≤ y4 ∧ y4 ≤ 8)) ∧ (iI y1 = lfF (I 221) (fun t => I (213 + t)) 12) ∧ ((y2, y3) = nf (ntF (I 221) (fun t => alF (I (213 + t)) y1 4)) (-1000000005, (bc32 (iI y1)).toInt) y4.toNat)) ∧ m = (1 + 1 * (8 - y4) : Int).toNat
set_option maxRecDepth 8000 in
theorem ct_Desk_nextTest_2c9a4 {I : fH}  (h0 : fB bsJ I)  : fC ρ base n F xTc vwCl xTys D dA la gJ (fbz bsJ znJ (fKc []) I) xm_174 [.inr (.inr (some 211))] I (fun _ r => ∃ z, r = some (.inl z) ∧ ((0 ≤ z ∧ z ≤ 7) ∨ z = (-1000000005)) ∧ (ntX (I 221) (fun t => I (213 + t)) z)) := by
  have hW : fzs [] (fKc []) := fKc_ok _
  refine f_meth (rb := rbJ) (J := [(16, jc_Desk_nextTest_2c9a4_16)]) 10 400 xG xin_174 x6_174 okJ (fB_self h0) ?_ ?_
  · refine List.forall_mem_cons.mpr ⟨?_, fun q h => absurd h List.not_mem_nil⟩
    · rintro m _ _ I1 hB1 ⟨y1, y2, y3, y4, rfl, rfl, ⟨hb, hx0, hx1⟩, hm⟩
      have eI : I1 = I := fFr_nil (fFr_of hB1)
      refine And.intro (And.intro (by first | exact fi_ hb.2.2.2.1 hb.2.2.2.2 rfl | omega) (by first | exact ⟨by decide, by decide⟩ | omega)) (And.intro ?_ ?_)
      · intro c1
        refine And.intro (True.intro) ?_
        exact ⟨_, rfl, by omega, (by have q := congrArg Prod.fst hx1; rw [eI, show y4.toNat = 8 by omega] at q; rw [eI] at hx0; exact ntX_mk (s := y1) (by omega) hx0 q)⟩
      · intro c2
        refine And.intro ⟨rfl, by decide, by decide⟩ ?_
        refine fload1 rL_221_221_0_7_1_0 h0 hB1 ⟨by decide, by decide⟩ (by first | exact ⟨hb.2.2.2.1, Int.le_trans (Int.le_sub_one_of_lt (Int.lt_of_lt_of_le c2 (Int.le_refl _))) (by decide)⟩ | omega) ?_
        intro z3 lz3 uz3 qz3
        refine And.intro (And.intro (by first | exact fi_ lz3 uz3 rfl | omega) (by first | exact ⟨by decide, by decide⟩ | omega)) (And.intro ?_ ?_)
        · intro c4
          refine And.intro (And.intro (by first | exact fi_ hb.2.2.1.1 hb.2.2.1.2 rfl | omega) (by first | exact fi_ hb.2.2.1.1 hb.2.2.1.2 rfl | omega)) (And.intro ?_ ?_)
          · intro c5
            exact fcutJ (I := I1) (j := jc_Desk_nextTest_2c9a4_16) (lv' := [(0, .inr (.inr (some 211))), (1, .inl _), (2, .inl _), (3, .inl _), (4, .inl _)]) (And.intro rfl (And.intro rfl (And.intro rfl (And.intro rfl (And.intro rfl True.intro))))) ⟨_, _, _, _, rfl, rfl, ⟨by omega, hx0, (by first | exact nt_yes hx1 (by omega) (by omega) g0nil0 ⟨by rw [← qz3]; omega, by omega⟩ | exact nt_no hx1 (by omega) (by omega) (fun q => by have q1 := q.1; rw [← qz3] at q1; omega) | exact nt_no hx1 (by omega) (by omega) (fun q => by have q2 := q.2; try simp only [] at q2; rw [← g0nil0] at q2; omega) | (exfalso; omega))⟩, rfl⟩ (by omega)
          · intro c6
            exact fcutJ (I := I1) (j := jc_Desk_nextTest_2c9a4_16) (lv' := [(0, .inr (.inr (some 211))), (1, .inl _), (2, .inl _), (3, .inl _), (4, .inl _)]) (And.intro rfl (And.intro rfl (And.intro rfl (And.intro rfl (And.intro rfl True.intro))))) ⟨_, _, _, _, rfl, rfl, ⟨by omega, hx0, (by first | exact nt_yes hx1 (by omega) (by omega) g0nil0 ⟨by rw [← qz3]; omega, by omega⟩ | exact nt_no hx1 (by omega) (by omega) (fun q => by have q1 := q.1; rw [← qz3] at q1; omega) | exact nt_no hx1 (by omega) (by omega) (fun q => by have q2 := q.2; try simp only [] at q2; rw [← g0nil0] at q2; omega) | (exfalso; omega))⟩, rfl⟩ (by omega)
        · intro c7
          refine Exists.intro xm_175 (And.intro mi_175 (And.intro ⟨rfl, rfl, rfl, rfl⟩ (And.intro rfl ?_)))
          refine fcallp hB1 (ct_Desk_mostAlike_488ee (fBz h0 hB1) (by first | exact ⟨hb.2.2.2.1, Int.le_trans (Int.le_sub_one_of_lt (Int.lt_of_lt_of_le c2 (Int.le_refl _))) (by decide)⟩ | omega) (by first | exact ⟨hb.1.1, hb.1.2⟩ | omega)) ?_
          rintro _ ⟨z8, rfl, hz8, g0z8⟩
          refine And.intro (And.intro (by first | exact fi_ hz8.1 hz8.2 rfl | omega) (by first | exact fi_ hb.2.2.1.1 hb.2.2.1.2 rfl | omega)) (And.intro ?_ ?_)
          · intro c9
            exact fcutJ (I := I1) (j := jc_Desk_nextTest_2c9a4_16) (lv' := [(0, .inr (.inr (some 211))), (1, .inl _), (2, .inl _), (3, .inl _), (4, .inl _)]) (And.intro rfl (And.intro rfl (And.intro rfl (And.intro rfl (And.intro rfl True.intro))))) ⟨_, _, _, _, rfl, rfl, ⟨by omega, hx0, (by first | exact nt_yes hx1 (by omega) (by omega) g0z8 ⟨by rw [← qz3]; omega, by omega⟩ | exact nt_no hx1 (by omega) (by omega) (fun q => by have q1 := q.1; rw [← qz3] at q1; omega) | exact nt_no hx1 (by omega) (by omega) (fun q => by have q2 := q.2; try simp only [] at q2; rw [← g0z8] at q2; omega) | (exfalso; omega))⟩, rfl⟩ (by omega)
          · intro c10
            exact fcutJ (I := I1) (j := jc_Desk_nextTest_2c9a4_16) (lv' := [(0, .inr (.inr (some 211))), (1, .inl _), (2, .inl _), (3, .inl _), (4, .inl _)]) (And.intro rfl (And.intro rfl (And.intro rfl (And.intro rfl (And.intro rfl True.intro))))) ⟨_, _, _, _, rfl, rfl, ⟨by omega, hx0, (by first | exact nt_yes hx1 (by omega) (by omega) g0z8 ⟨by rw [← qz3]; omega, by omega⟩ | exact nt_no hx1 (by omega) (by omega) (fun q => by have q1 := q.1; rw [← qz3] at q1; omega) | exact nt_no hx1 (by omega) (by omega) (fun q => by have q2 := q.2; try simp only [] at q2; rw [← g0z8] at q2; omega) | (exfalso; omega))⟩, rfl⟩ (by omega)
  · have hB0 := fB_self (zn := znJ) (K := fKc []) h0
    refine Exists.intro xm_171 (And.intro mi_171 (And.intro ⟨rfl, rfl, rfl, rfl⟩ (And.intro rfl ?_)))
    refine fcallp hB0 (ct_Desk_leftFaults_e8455 (fBz h0 hB0)) ?_
    rintro _ ⟨z11, rfl, hz11, g0z11⟩
    refine Exists.intro xm_499 (And.intro mi_499 (And.intro ⟨rfl, rfl, rfl, rfl⟩ (And.intro True.intro ?_)))
    refine fcallp hB0 (ct_Integer_bitCount_ccf26 (fBz h0 hB0) (by first | exact ⟨hz11.1, hz11.2⟩ | omega)) ?_
    rintro _ ⟨z12, rfl, hz12, g0z12⟩
    exact fcutJ (I := I) (j := jc_Desk_nextTest_2c9a4_16) (lv' := [(0, .inr (.inr (some 211))), (1, .inl _), (2, .inl _), (3, .inl _), (4, .inl _)]) (And.intro rfl (And.intro rfl (And.intro rfl (And.intro rfl (And.intro rfl True.intro))))) ⟨_, _, _, _, rfl, rfl, ⟨by omega, g0z11, (by rw [← of_iI (by omega) g0z12]; rfl)⟩, rfl⟩ (by omega)
set_option maxRecDepth 8000 in
theorem ct_X_find_eec3a {I : fH} {x1 : Int} (h0 : fB bsJ I) (ha1 : ((-2147483648) ≤ x1 ∧ x1 ≤ 2147483647)) : fC ρ base n F xTc vwCl xTys D dA la gJ (fbz bsJ znJ (fKc []) I) xm_173 [.inr (.inr (some 0)), .inl x1] I (fun _ r => ∃ z, r = some (.inl z) ∧ ((-2147483648) ≤ z ∧ z ≤ 2147483647) ∧ ((x1 = 0 ∧ iI z = lfF (I 221) (fun t => I (213 + t)) 12) ∨ (x1 = 1 ∧ ntX (I 221) (fun t => I (213 + t)) z) ∨ (¬ (0 ≤ x1 ∧ x1 ≤ 1) ∧ z = (-1000000001)))) := by
  have hW : fzs [] (fKc []) := fKc_ok _
  refine f_meth (rb := rbJ) (J := []) 1 400 xG xin_173 x6_173 okJ (fB_self h0) ?_ ?_
  · exact fun q h => absurd h List.not_mem_nil
  · have hB0 := fB_self (zn := znJ) (K := fKc []) h0
    refine Exists.intro xm_13 (And.intro mi_13 (And.intro ⟨rfl, rfl, rfl, rfl⟩ (And.intro True.intro ?_)))
    refine fcallp hB0 (ct_X_within_c27b1 (fBz h0 hB0) (by first | exact ⟨ha1.1, ha1.2⟩ | omega) (by first | exact ⟨by decide, by decide⟩ | omega) (by first | exact ⟨by decide, by decide⟩ | omega)) ?_
    rintro _ ⟨z1, rfl, hz1⟩
    refine And.intro (by omega) (And.intro ?_ ?_)
    · intro c2
      refine And.intro (by first | exact fi_ (Int.le_trans (Int.le_refl _) hz1.1) (Int.le_trans hz1.2 (Int.le_refl _)) rfl | omega) (And.intro ?_ ?_)
      · intro c3
        refine And.intro ⟨rfl, by decide, by decide⟩ ?_
        refine Exists.intro xm_174 (And.intro mi_174 (And.intro ⟨rfl, rfl, rfl, rfl⟩ (And.intro rfl ?_)))
        refine fcallp hB0 (ct_Desk_nextTest_2c9a4 (fBz h0 hB0)) ?_
        rintro _ ⟨z4, rfl, hz4, g0z4⟩
        refine And.intro (True.intro) ?_
        exact ⟨_, rfl, by omega, (by first | exact Or.inl ⟨by omega, g0nil0⟩ | exact Or.inr (Or.inl ⟨by omega, g0z4⟩) | exact Or.inr (Or.inr ⟨by omega, by omega⟩))⟩
      · intro c5
        refine And.intro ⟨rfl, by decide, by decide⟩ ?_
        refine Exists.intro xm_171 (And.intro mi_171 (And.intro ⟨rfl, rfl, rfl, rfl⟩ (And.intro rfl ?_)))
        refine fcallp hB0 (ct_Desk_leftFaults_e8455 (fBz h0 hB0)) ?_
        rintro _ ⟨z6, rfl, hz6, g0z6⟩
        refine And.intro (True.intro) ?_
        exact ⟨_, rfl, (by first | exact ⟨hz6.1, hz6.2⟩ | omega), (by first | exact Or.inl ⟨by omega, g0z6⟩ | exact Or.inr (Or.inl ⟨by omega, g0z4⟩) | exact Or.inr (Or.inr ⟨by omega, by omega⟩))⟩
    · intro c7
      refine And.intro (True.intro) ?_
      exact ⟨_, rfl, (by first | exact ⟨by decide, by decide⟩ | omega), (by first | exact Or.inl ⟨by omega, g0z6⟩ | exact Or.inr (Or.inl ⟨by omega, g0z4⟩) | exact Or.inr (Or.inr ⟨by omega, by omega⟩))⟩
abbrev jc_M_alike_aaf39_5 (x1 : Int) (x2 : Int) : Nat → fL → List fV → fH → Prop := fun m lv st I => ∃ (y1 : Int) (y2 : Int) (y3 : Int) (y4 : Int), lv = [(0, .inr (.inr (some 740))), (1, .inl y1), (2, .inl y2), (3, .inl y3), (4, .inl y4)] ∧ st = [] ∧ (((0 ≤ y1 ∧ y1 ≤ 7) ∧ ((-2147483648) ≤ y2 ∧ y2 ≤ 2147483647) ∧ (0 ≤ y3 ∧ y3 ≤ 12) ∧ (0 ≤ y4 ∧ y4 ≤ 4) ∧ (y1 = x1) ∧ (y2 = x2)) ∧ (y3 = alF (fun f => I 741 (4400 + 12 * y1.toNat + f)) y2 y4.toNat)) ∧ m = (14 + 14 * (4 - y4) : Int).toNat
abbrev jc_M_alike_aaf39_17 (x1 : Int) (x2 : Int) : Nat → fL → List fV → fH → Prop := fun m lv st I => ∃ (y1 : Int) (y2 : Int) (y3 : Int) (y4 : Int) (y5 : Int) (y6 : Int), lv = [(0, .inr (.inr (some 740))), (1, .inl y1), (2, .inl y2), (3, .inl y3), (4, .inl y4), (5, .inl y5), (6, .inl y6)] ∧ st = [] ∧ (((0 ≤ y1 ∧ y1 ≤ 7) ∧ ((-2147483648) ≤ y2 ∧ y2 ≤ 2147483647) ∧ (0 ≤ y3 ∧ y3 ≤ 12) ∧ (0 ≤ y4 ∧ y4 ≤ 3) ∧ (0 ≤ y5 ∧ y5 ≤ 12) ∧ (0 ≤ y6 ∧ y6 ≤ 12) ∧ (y1 = x1) ∧ (y2 = x2) ∧ (y5 ≤ y6)) ∧ (y3 = alF (fun f => I 741 (4400 + 12 * y1.toNat + f)) y2 y4.toNat) ∧ (y5 = cnF (fun f => I 741 (4400 + 12 * y1.toNat + f)) y2 y4 y6.toNat)) ∧ m = (1 + 14 * (4 - y4) + 1 * (12 - y6) : Int).toNat
set_option maxRecDepth 8000 in
theorem ct_M_alike_aaf39 {I : fH} {x1 : Int} {x2 : Int} (h0 : fB bsJ I) (ha1 : (0 ≤ x1 ∧ x1 ≤ 7)) (ha2 : ((-2147483648) ≤ x2 ∧ x2 ≤ 2147483647)) : fC ρ base n F xTc vwCl xTys D dA la gJ (fbz bsJ znJ (fKc []) I) xm_452 [.inr (.inr (some 740)), .inl x1, .inl x2] I (fun _ r => ∃ z, r = some (.inl z) ∧ (0 ≤ z ∧ z ≤ 12) ∧ (z = alF (fun f => I 741 (4400 + 12 * x1.toNat + f)) x2 4)) := by
  have hW : fzs [] (fKc []) := fKc_ok _
  refine f_meth (rb := rbJ) (J := [(5, (jc_M_alike_aaf39_5 x1 x2)), (17, (jc_M_alike_aaf39_17 x1 x2))]) 71 400 xG xin_452 x6_452 okJ (fB_self h0) ?_ ?_
  · refine List.forall_mem_cons.mpr ⟨?_, List.forall_mem_cons.mpr ⟨?_, fun q h => absurd h List.not_mem_nil⟩⟩
    · rintro m _ _ I1 hB1 ⟨y1, y2, y3, y4, rfl, rfl, ⟨hb, hx0⟩, hm⟩
      have eI : I1 = I := fFr_nil (fFr_of hB1)
      refine And.intro (And.intro (by first | exact fi_ hb.2.2.2.1.1 hb.2.2.2.1.2 rfl | omega) (by first | exact ⟨by decide, by decide⟩ | omega)) (And.intro ?_ ?_)
      · intro c1
        refine And.intro (True.intro) ?_
        exact ⟨_, rfl, (by first | exact ⟨hb.2.2.1.1, hb.2.2.1.2⟩ | omega), (by have q := hx0; rw [eI, show y1 = x1 by omega, show y2 = x2 by omega, show y4.toNat = 4 by omega] at q; exact q)⟩
      · intro c2
        exact fcutJ (I := I1) (j := (jc_M_alike_aaf39_17 x1 x2)) (lv' := [(0, .inr (.inr (some 740))), (1, .inl _), (2, .inl _), (3, .inl _), (4, .inl _), (5, .inl _), (6, .inl _)]) (And.intro rfl (And.intro rfl (And.intro rfl (And.intro rfl (And.intro rfl (And.intro rfl (And.intro rfl True.intro))))))) ⟨_, _, _, _, _, _, rfl, rfl, ⟨by omega, hx0, rfl⟩, rfl⟩ (by omega)
    · rintro m _ _ I1 hB1 ⟨y1, y2, y3, y4, y5, y6, rfl, rfl, ⟨hb, hx0, hx1⟩, hm⟩
      have eI : I1 = I := fFr_nil (fFr_of hB1)
      refine And.intro (And.intro (by first | exact fi_ hb.2.2.2.2.2.1.1 hb.2.2.2.2.2.1.2 rfl | omega) (by first | exact ⟨by decide, by decide⟩ | omega)) (And.intro ?_ ?_)
      · intro c3
        refine And.intro (And.intro (by first | exact fi_ hb.2.2.2.2.1.1 hb.2.2.2.2.1.2 rfl | omega) (by first | exact fi_ hb.2.2.1.1 hb.2.2.1.2 rfl | omega)) (And.intro ?_ ?_)
        · intro c4
          exact fcutJ (I := I1) (j := (jc_M_alike_aaf39_5 x1 x2)) (lv' := [(0, .inr (.inr (some 740))), (1, .inl _), (2, .inl _), (3, .inl _), (4, .inl _)]) (And.intro rfl (And.intro rfl (And.intro rfl (And.intro rfl (And.intro rfl True.intro))))) ⟨_, _, _, _, rfl, rfl, ⟨by omega, (al_go (c := y5) hx0 (by omega) (by omega) (by have q := hx1; rw [show y6.toNat = 12 by omega] at q; exact q) (by omega))⟩, rfl⟩ (by omega)
        · intro c5
          exact fcutJ (I := I1) (j := (jc_M_alike_aaf39_5 x1 x2)) (lv' := [(0, .inr (.inr (some 740))), (1, .inl _), (2, .inl _), (3, .inl _), (4, .inl _)]) (And.intro rfl (And.intro rfl (And.intro rfl (And.intro rfl (And.intro rfl True.intro))))) ⟨_, _, _, _, rfl, rfl, ⟨by omega, (al_go (c := y5) hx0 (by omega) (by omega) (by have q := hx1; rw [show y6.toNat = 12 by omega] at q; exact q) (by omega))⟩, rfl⟩ (by omega)
      · intro c6
        intro z7 hz7 ez7
        intro z8 hz8 ez8 bz8
        have bz8 := bz8 (by omega)
        have wb := bt_of hz8 ez7 ez8 (by omega)
        refine And.intro (And.intro (by first | exact fi_ bz8.1 bz8.2 rfl | omega) (by first | exact ⟨by decide, by decide⟩ | omega)) (And.intro ?_ ?_)
        · intro c9
          intro z10 hz10 ez10 bz10
          have bz10 := bz10 (by omega)
          exact fcutJ (I := I1) (j := (jc_M_alike_aaf39_17 x1 x2)) (lv' := [(0, .inr (.inr (some 740))), (1, .inl _), (2, .inl _), (3, .inl _), (4, .inl _), (5, .inl _), (6, .inl _)]) (And.intro rfl (And.intro rfl (And.intro rfl (And.intro rfl (And.intro rfl (And.intro rfl (And.intro rfl True.intro))))))) ⟨_, _, _, _, _, _, rfl, rfl, ⟨by omega, hx0, (by first | exact cn_yes hx1 (by omega) (by omega) ⟨by omega, by rw [← w51]; omega⟩ (by omega) | (rw [show z10 = y5 by omega]; exact cn_no hx1 (by omega) (by omega) (fun q => by have q1 := q.1; omega)) | (rw [show z10 = y5 by omega]; exact cn_no hx1 (by omega) (by omega) (fun q => by have q2 := q.2; rw [← w51] at q2; omega)))⟩, rfl⟩ (by omega)
        · intro c11
          refine And.intro ⟨rfl, by decide, by decide⟩ ?_
          refine fload rL_741_741_4400_4495_12_11 h0 hB1 (by omega) ?_
          intro z12 lz12 uz12 qz12
          have w51 := fld_at qz12 (4400 + 12 * y1.toNat + y6.toNat) (by omega)
          refine And.intro (And.intro (by first | exact fi_ lz12 uz12 rfl | omega) (by first | exact fi_ hb.2.2.2.1.1 hb.2.2.2.1.2 rfl | omega)) (And.intro ?_ ?_)
          · intro c13
            intro z14 hz14 ez14 bz14
            have bz14 := bz14 (by omega)
            exact fcutJ (I := I1) (j := (jc_M_alike_aaf39_17 x1 x2)) (lv' := [(0, .inr (.inr (some 740))), (1, .inl _), (2, .inl _), (3, .inl _), (4, .inl _), (5, .inl _), (6, .inl _)]) (And.intro rfl (And.intro rfl (And.intro rfl (And.intro rfl (And.intro rfl (And.intro rfl (And.intro rfl True.intro))))))) ⟨_, _, _, _, _, _, rfl, rfl, ⟨by omega, hx0, (by first | exact cn_yes hx1 (by omega) (by omega) ⟨by omega, by rw [← w51]; omega⟩ (by omega) | (rw [show z14 = y5 by omega]; exact cn_no hx1 (by omega) (by omega) (fun q => by have q1 := q.1; omega)) | (rw [show z14 = y5 by omega]; exact cn_no hx1 (by omega) (by omega) (fun q => by have q2 := q.2; rw [← w51] at q2; omega)))⟩, rfl⟩ (by omega)
          · intro c15
            intro z16 hz16 ez16 bz16
            have bz16 := bz16 (by omega)
            exact fcutJ (I := I1) (j := (jc_M_alike_aaf39_17 x1 x2)) (lv' := [(0, .inr (.inr (some 740))), (1, .inl _), (2, .inl _), (3, .inl _), (4, .inl _), (5, .inl _), (6, .inl _)]) (And.intro rfl (And.intro rfl (And.intro rfl (And.intro rfl (And.intro rfl (And.intro rfl (And.intro rfl True.intro))))))) ⟨_, _, _, _, _, _, rfl, rfl, ⟨by omega, hx0, (by first | exact cn_yes hx1 (by omega) (by omega) ⟨by omega, by rw [← w51]; omega⟩ (by omega) | (rw [show z16 = y5 by omega]; exact cn_no hx1 (by omega) (by omega) (fun q => by have q1 := q.1; omega)) | (rw [show z16 = y5 by omega]; exact cn_no hx1 (by omega) (by omega) (fun q => by have q2 := q.2; rw [← w51] at q2; omega)))⟩, rfl⟩ (by omega)
  · have hB0 := fB_self (zn := znJ) (K := fKc []) h0
    exact fcutJ (I := I) (j := (jc_M_alike_aaf39_5 x1 x2)) (lv' := [(0, .inr (.inr (some 740))), (1, .inl _), (2, .inl _), (3, .inl _), (4, .inl _)]) (And.intro rfl (And.intro rfl (And.intro rfl (And.intro rfl (And.intro rfl True.intro))))) ⟨_, _, _, _, rfl, rfl, ⟨by omega, rfl⟩, rfl⟩ (by omega)
abbrev jc_M_find_48382_36 (x1 : Int) : Nat → fL → List fV → fH → Prop := fun m lv st I => ∃ (y2 : Int) (y3 : Int) (y4 : Int) (y5 : Int), lv = [(0, .inr (.inr (some 740))), (2, .inl y2), (3, .inl y3), (4, .inl y4), (5, .inl y5)] ∧ st = [] ∧ ((((-2147483648) ≤ y2 ∧ y2 ≤ 2147483647) ∧ ((0 ≤ y3 ∧ y3 ≤ 7) ∨ y3 = (-1000000005)) ∧ (0 ≤ y4 ∧ y4 ≤ 12) ∧ (0 ≤ y5 ∧ y5 ≤ 8) ∧ (x1 = 1)) ∧ (iI y2 = lfF (fun t => I 741 (4500 + t)) (fun t f => I 741 (4400 + 12 * t + f)) 12) ∧ ((y3, y4) = nf (ntF (fun t => I 741 (4500 + t)) (fun t => alF (fun f => I 741 (4400 + 12 * t + f)) y2 4)) (-1000000005, onI y2 12) y5.toNat)) ∧ m = (1 + 1 * (8 - y5) : Int).toNat
set_option maxRecDepth 8000 in
theorem ct_M_find_48382 {I : fH} {x1 : Int} (h0 : fB bsJ I) (ha1 : ((-2147483648) ≤ x1 ∧ x1 ≤ 2147483647)) : fC ρ base n F xTc vwCl xTys D dA la gJ (fbz bsJ znJ (fKc []) I) xm_451 [.inr (.inr (some 740)), .inl x1] I (fun _ r => ∃ z, r = some (.inl z) ∧ ((-2147483648) ≤ z ∧ z ≤ 2147483647) ∧ ((x1 = 0 ∧ iI z = lfF (fun t => I 741 (4500 + t)) (fun t f => I 741 (4400 + 12 * t + f)) 12) ∨ (x1 = 1 ∧ ntM (fun t => I 741 (4500 + t)) (fun t f => I 741 (4400 + 12 * t + f)) z) ∨ (¬ (0 ≤ x1 ∧ x1 ≤ 1) ∧ z = (-1000000001)))) := by
  have hW : fzs [] (fKc []) := fKc_ok _
  refine f_meth (rb := rbJ) (J := [(36, (jc_M_find_48382_36 x1))]) 10 400 xG xin_451 x6_451 okJ (fB_self h0) ?_ ?_
  · refine List.forall_mem_cons.mpr ⟨?_, fun q h => absurd h List.not_mem_nil⟩
    · rintro m _ _ I1 hB1 ⟨y2, y3, y4, y5, rfl, rfl, ⟨hb, hx0, hx1⟩, hm⟩
      have eI : I1 = I := fFr_nil (fFr_of hB1)
      refine And.intro (And.intro (by first | exact fi_ hb.2.2.2.1.1 hb.2.2.2.1.2 rfl | omega) (by first | exact ⟨by decide, by decide⟩ | omega)) (And.intro ?_ ?_)
      · intro c1
        refine And.intro (True.intro) ?_
        exact ⟨_, rfl, by omega, (Or.inr (Or.inl ⟨by omega, by have q := congrArg Prod.fst hx1; rw [eI, show y5.toNat = 8 by omega] at q; rw [eI] at hx0; exact ntM_mk (s := y2) (by omega) hx0 q⟩))⟩
      · intro c2
        refine And.intro ⟨rfl, by decide, by decide⟩ ?_
        refine fload rL_741_741_4500_4507_1_0 h0 hB1 (by omega) ?_
        intro z3 lz3 uz3 qz3
        have w53 := fld_at qz3 (4500 + y5.toNat) (by omega)
        refine And.intro (by first | exact fi_ lz3 uz3 rfl | omega) (And.intro ?_ ?_)
        · intro c4
          exact fcutJ (I := I1) (j := (jc_M_find_48382_36 x1)) (lv' := [(0, .inr (.inr (some 740))), (2, .inl _), (3, .inl _), (4, .inl _), (5, .inl _)]) (And.intro rfl (And.intro rfl (And.intro rfl (And.intro rfl (And.intro rfl True.intro))))) ⟨_, _, _, _, rfl, rfl, ⟨by omega, hx0, (by first | exact nt_yes hx1 (by omega) (by omega) g0nil0 ⟨by rw [← w53]; omega, by rw [g0nil0, ← g0nil0]; omega⟩ | exact nt_no hx1 (by omega) (by omega) (fun q => by have q1 := q.1; rw [← w53] at q1; omega) | exact nt_no hx1 (by omega) (by omega) (fun q => by have q2 := q.2; try simp only [] at q2; rw [← g0nil0] at q2; omega) | (exfalso; omega))⟩, rfl⟩ (by omega)
        · intro c5
          refine Exists.intro xm_452 (And.intro mi_452 (And.intro ⟨rfl, rfl, rfl, rfl⟩ (And.intro rfl ?_)))
          refine fcallp hB1 (ct_M_alike_aaf39 (fBz h0 hB1) (by first | exact ⟨hb.2.2.2.1.1, Int.le_trans (Int.le_sub_one_of_lt (Int.lt_of_lt_of_le c2 (Int.le_refl _))) (by decide)⟩ | omega) (by first | exact ⟨hb.1.1, hb.1.2⟩ | omega)) ?_
          rintro _ ⟨z6, rfl, hz6, g0z6⟩
          refine And.intro (And.intro (by first | exact fi_ hz6.1 hz6.2 rfl | omega) (by first | exact fi_ hb.2.2.1.1 hb.2.2.1.2 rfl | omega)) (And.intro ?_ ?_)
          · intro c7
            exact fcutJ (I := I1) (j := (jc_M_find_48382_36 x1)) (lv' := [(0, .inr (.inr (some 740))), (2, .inl _), (3, .inl _), (4, .inl _), (5, .inl _)]) (And.intro rfl (And.intro rfl (And.intro rfl (And.intro rfl (And.intro rfl True.intro))))) ⟨_, _, _, _, rfl, rfl, ⟨by omega, hx0, (by first | exact nt_yes hx1 (by omega) (by omega) g0nil0 ⟨by rw [← w53]; omega, by rw [g0nil0, ← g0z6]; omega⟩ | exact nt_no hx1 (by omega) (by omega) (fun q => by have q1 := q.1; rw [← w53] at q1; omega) | exact nt_no hx1 (by omega) (by omega) (fun q => by have q2 := q.2; try simp only [] at q2; rw [← g0z6] at q2; omega) | (exfalso; omega))⟩, rfl⟩ (by omega)
          · intro c8
            refine Exists.intro xm_452 (And.intro mi_452 (And.intro ⟨rfl, rfl, rfl, rfl⟩ (And.intro rfl ?_)))
            refine fcallp hB1 (ct_M_alike_aaf39 (fBz h0 hB1) (by first | exact ⟨hb.2.2.2.1.1, Int.le_trans (Int.le_sub_one_of_lt (Int.lt_of_lt_of_le c2 (Int.le_refl _))) (by decide)⟩ | omega) (by first | exact ⟨hb.1.1, hb.1.2⟩ | omega)) ?_
            rintro _ ⟨z9, rfl, hz9, g0z9⟩
            exact fcutJ (I := I1) (j := (jc_M_find_48382_36 x1)) (lv' := [(0, .inr (.inr (some 740))), (2, .inl _), (3, .inl _), (4, .inl _), (5, .inl _)]) (And.intro rfl (And.intro rfl (And.intro rfl (And.intro rfl (And.intro rfl True.intro))))) ⟨_, _, _, _, rfl, rfl, ⟨by omega, hx0, (by first | exact nt_yes hx1 (by omega) (by omega) g0z9 ⟨by rw [← w53]; omega, by rw [g0z9, ← g0z6]; omega⟩ | exact nt_no hx1 (by omega) (by omega) (fun q => by have q1 := q.1; rw [← w53] at q1; omega) | exact nt_no hx1 (by omega) (by omega) (fun q => by have q2 := q.2; try simp only [] at q2; rw [← g0z6] at q2; omega) | (exfalso; omega))⟩, rfl⟩ (by omega)
  · have hB0 := fB_self (zn := znJ) (K := fKc []) h0
    refine And.intro (by first | exact fi_ ha1.1 ha1.2 rfl | omega) ?_
    refine Exists.intro xm_238 (And.intro mi_238 (And.intro ⟨rfl, rfl, rfl, rfl⟩ (And.intro True.intro ?_)))
    refine fcallp hB0 (ct_M_isIn_27230 (fBz h0 hB0) (by first | exact ⟨ha1.1, ha1.2⟩ | omega) (by first | exact ⟨by decide, by decide⟩ | omega) (by first | exact ⟨by decide, by decide⟩ | omega)) ?_
    rintro _ ⟨z10, rfl, hz10⟩
    refine And.intro (by omega) (And.intro ?_ ?_)
    · intro c11
      refine Exists.intro xm_449 (And.intro mi_449 (And.intro ⟨rfl, rfl, rfl, rfl⟩ (And.intro rfl ?_)))
      refine fcallp hB0 (ct_M_left_2e19e (fBz h0 hB0)) ?_
      rintro _ ⟨z12, rfl, hz12, g0z12⟩
      refine And.intro (by first | exact fi_ (Int.le_trans (Int.le_refl _) hz10.1) (Int.le_trans hz10.2 (Int.le_refl _)) rfl | omega) (And.intro ?_ ?_)
      · intro c13
        refine Exists.intro xm_450 (And.intro mi_450 (And.intro ⟨rfl, rfl, rfl, rfl⟩ (And.intro True.intro ?_)))
        refine fcallp hB0 (ct_M_ones_0fd6a (fBz h0 hB0) (by first | exact ⟨hz12.1, hz12.2⟩ | omega)) ?_
        rintro _ ⟨z14, rfl, hz14, g0z14⟩
        exact fcutJ (I := I) (j := (jc_M_find_48382_36 x1)) (lv' := [(0, .inr (.inr (some 740))), (2, .inl _), (3, .inl _), (4, .inl _), (5, .inl _)]) (And.intro rfl (And.intro rfl (And.intro rfl (And.intro rfl (And.intro rfl True.intro))))) ⟨_, _, _, _, rfl, rfl, ⟨by omega, g0z12, (by rw [← g0z14]; rfl)⟩, rfl⟩ (by omega)
      · intro c15
        refine And.intro (True.intro) ?_
        exact ⟨_, rfl, (by first | exact ⟨hz12.1, hz12.2⟩ | omega), (Or.inl ⟨by omega, g0z12⟩)⟩
    · intro c16
      refine And.intro (True.intro) ?_
      exact ⟨_, rfl, (by first | exact ⟨by decide, by decide⟩ | omega), (Or.inr (Or.inr ⟨by omega, by omega⟩))⟩
set_option maxRecDepth 8000 in
theorem ct_X_swap_821b4 {I : fH} {x1 : Int} {x2 : Int} (h0 : fB bsJ I) (ha1 : (0 ≤ x1 ∧ x1 ≤ 47)) (ha2 : (0 ≤ x2 ∧ x2 ≤ 999)) : fC ρ base n F xTc vwCl xTys D dA la gJ (fbz bsJ znJ (fKc wz_0e223) I) xm_18 [.inr (.inr (some 222)), .inl x1, .inl x2] I (fun I' r => ∃ z, r = some (.inl z) ∧ (0 ≤ z ∧ z ≤ 999) ∧ (I' = fupd I 222 x1.toNat x2) ∧ (z = I 222 x1.toNat)) := by
  have hW : fzs wz_0e223 (fKc wz_0e223) := fKc_ok _
  refine f_meth (rb := rbJ) (J := []) 1 400 xG xin_18 x6_18 okJ (fB_self h0) ?_ ?_
  · exact fun q h => absurd h List.not_mem_nil
  · have hB0 := fB_self (zn := znJ) (K := fKc wz_0e223) h0
    refine fload1 rL_222_222_0_47_1_0 h0 hB0 ⟨by decide, by decide⟩ (by first | exact ⟨ha1.1, ha1.2⟩ | omega) ?_
    intro z1 lz1 uz1 qz1
    refine fstore1 rS_222_222_0_47_1_0 (fzs_sub (by decide +kernel) hW) ⟨by decide, by decide⟩ (by first | exact ⟨ha1.1, ha1.2⟩ | omega) (by first | exact ⟨ha2.1, ha2.2⟩ | omega) ?_
    intro IhB2 ehB2 hB2
    have t3 := fup_self ehB2
    refine And.intro (True.intro) ?_
    exact ⟨_, rfl, (by first | exact ⟨lz1, uz1⟩ | omega), ehB2, qz1⟩
set_option maxRecDepth 8000 in
theorem ct_X_weather_d5811 {I : fH} {x1 : Int} {x2 : Int} (h0 : fB bsJ I) (ha1 : ((-2147483648) ≤ x1 ∧ x1 ≤ 2147483647)) (ha2 : ((-2147483648) ≤ x2 ∧ x2 ≤ 2147483647)) : fC ρ base n F xTc vwCl xTys D dA la gJ (fbz bsJ znJ (fKc wz_0e223) I) xm_176 [.inr (.inr (some 0)), .inl x1, .inl x2] I (fun I' r => ∃ z, r = some (.inl z) ∧ ((0 ≤ z ∧ z ≤ 999) ∨ z = (-1000000001)) ∧ (((0 ≤ x1 ∧ x1 ≤ 47 ∧ 0 ≤ x2 ∧ x2 ≤ 999) ∧ I' = fupd I 222 x1.toNat x2 ∧ z = I 222 x1.toNat) ∨ (¬ (0 ≤ x1 ∧ x1 ≤ 47 ∧ 0 ≤ x2 ∧ x2 ≤ 999) ∧ I' = I ∧ z = (-1000000001)))) := by
  have hW : fzs wz_0e223 (fKc wz_0e223) := fKc_ok _
  refine f_meth (rb := rbJ) (J := []) 1 400 xG xin_176 x6_176 okJ (fB_self h0) ?_ ?_
  · exact fun q h => absurd h List.not_mem_nil
  · have hB0 := fB_self (zn := znJ) (K := fKc wz_0e223) h0
    refine Exists.intro xm_13 (And.intro mi_13 (And.intro ⟨rfl, rfl, rfl, rfl⟩ (And.intro True.intro ?_)))
    refine fcallp hB0 (ct_X_within_c27b1 (fBz h0 hB0) (by first | exact ⟨ha1.1, ha1.2⟩ | omega) (by first | exact ⟨by decide, by decide⟩ | omega) (by first | exact ⟨by decide, by decide⟩ | omega)) ?_
    rintro _ ⟨z1, rfl, hz1⟩
    refine And.intro (by omega) (And.intro ?_ ?_)
    · intro c2
      refine And.intro (True.intro) ?_
      exact ⟨_, rfl, by omega, (by first | exact Or.inl ⟨by omega, g0nil0, g1nil0⟩ | exact Or.inr ⟨by omega, rfl, by omega⟩)⟩
    · intro c3
      refine Exists.intro xm_13 (And.intro mi_13 (And.intro ⟨rfl, rfl, rfl, rfl⟩ (And.intro True.intro ?_)))
      refine fcallp hB0 (ct_X_within_c27b1 (fBz h0 hB0) (by first | exact ⟨ha2.1, ha2.2⟩ | omega) (by first | exact ⟨by decide, by decide⟩ | omega) (by first | exact ⟨by decide, by decide⟩ | omega)) ?_
      rintro _ ⟨z4, rfl, hz4⟩
      refine And.intro (by omega) (And.intro ?_ ?_)
      · intro c5
        refine And.intro (True.intro) ?_
        exact ⟨_, rfl, by omega, (by first | exact Or.inl ⟨by omega, g0nil0, g1nil0⟩ | exact Or.inr ⟨by omega, rfl, by omega⟩)⟩
      · intro c6
        refine And.intro ⟨rfl, by decide, by decide⟩ ?_
        refine And.intro ⟨rfl, by decide, by decide⟩ ?_
        refine Exists.intro xm_18 (And.intro mi_18 (And.intro ⟨rfl, rfl, rfl, rfl⟩ (And.intro True.intro ?_)))
        refine fcall _ h0 (fzs_sub (by decide +kernel) hW) hB0 (ct_X_swap_821b4 (fBz h0 hB0) (by first | exact ⟨Int.le_trans (by decide) (Int.le_trans (Int.le_refl _) hz1.1), Int.le_trans (Int.le_trans hz1.2 (Int.le_refl _)) (by decide)⟩ | omega) (by first | exact ⟨Int.le_trans (by decide) (Int.le_trans (Int.le_refl _) hz4.1), Int.le_trans (Int.le_trans hz4.2 (Int.le_refl _)) (by decide)⟩ | omega)) ?_
        rintro IhB8 _ hB8 fhB8 ⟨z7, rfl, hz7, g0z7, g1z7⟩
        refine And.intro (True.intro) ?_
        exact ⟨_, rfl, by omega, (by first | exact Or.inl ⟨by omega, g0z7, g1z7⟩ | exact Or.inr ⟨by omega, rfl, by omega⟩)⟩
set_option maxRecDepth 8000 in
theorem ct_M_put_6db37 {I : fH} {x1 : Int} {x2 : Int} (h0 : fB bsJ I) (ha1 : (4510 ≤ x1 ∧ x1 ≤ 4557)) (ha2 : (0 ≤ x2 ∧ x2 ≤ 999)) : fC ρ base n F xTc vwCl xTys D dA la gJ (fbz bsJ znJ (fKc wz_c7e2d) I) xm_242 [.inr (.inr (some 740)), .inl x1, .inl x2] I (fun I' r => ∃ z, r = some (.inl z) ∧ (0 ≤ z ∧ z ≤ 999) ∧ (I' = fupd I 741 x1.toNat x2) ∧ (z = I 741 x1.toNat)) := by
  have hW : fzs wz_c7e2d (fKc wz_c7e2d) := fKc_ok _
  refine f_meth (rb := rbJ) (J := []) 1 400 xG xin_242 x6_242 okJ (fB_self h0) ?_ ?_
  · exact fun q h => absurd h List.not_mem_nil
  · have hB0 := fB_self (zn := znJ) (K := fKc wz_c7e2d) h0
    refine And.intro ⟨rfl, by decide, by decide⟩ ?_
    refine fload1 rL_741_741_4510_4557_1_0 h0 hB0 ⟨by decide, by decide⟩ (by first | exact ⟨ha1.1, ha1.2⟩ | omega) ?_
    intro z1 lz1 uz1 qz1
    refine And.intro ⟨rfl, by decide, by decide⟩ ?_
    refine fstore1 rS_741_741_4510_4557_1_0 (fzs_sub (by decide +kernel) hW) ⟨by decide, by decide⟩ (by first | exact ⟨ha1.1, ha1.2⟩ | omega) (by first | exact ⟨ha2.1, ha2.2⟩ | omega) ?_
    intro IhB2 ehB2 hB2
    have t3 := fup_self ehB2
    refine And.intro (True.intro) ?_
    exact ⟨_, rfl, (by first | exact ⟨lz1, uz1⟩ | omega), ehB2, qz1⟩
set_option maxRecDepth 8000 in
theorem ct_M_weather_26102 {I : fH} {x1 : Int} {x2 : Int} (h0 : fB bsJ I) (ha1 : ((-2147483648) ≤ x1 ∧ x1 ≤ 2147483647)) (ha2 : ((-2147483648) ≤ x2 ∧ x2 ≤ 2147483647)) : fC ρ base n F xTc vwCl xTys D dA la gJ (fbz bsJ znJ (fKc wz_c7e2d) I) xm_453 [.inr (.inr (some 740)), .inl x1, .inl x2] I (fun I' r => ∃ z, r = some (.inl z) ∧ ((0 ≤ z ∧ z ≤ 999) ∨ z = (-1000000001)) ∧ (((0 ≤ x1 ∧ x1 ≤ 47 ∧ 0 ≤ x2 ∧ x2 ≤ 999) ∧ I' = fupd I 741 (4510 + x1).toNat x2 ∧ z = I 741 (4510 + x1).toNat) ∨ (¬ (0 ≤ x1 ∧ x1 ≤ 47 ∧ 0 ≤ x2 ∧ x2 ≤ 999) ∧ I' = I ∧ z = (-1000000001)))) := by
  have hW : fzs wz_c7e2d (fKc wz_c7e2d) := fKc_ok _
  refine f_meth (rb := rbJ) (J := []) 1 400 xG xin_453 x6_453 okJ (fB_self h0) ?_ ?_
  · exact fun q h => absurd h List.not_mem_nil
  · have hB0 := fB_self (zn := znJ) (K := fKc wz_c7e2d) h0
    refine And.intro (by first | exact fi_ ha1.1 ha1.2 rfl | omega) ?_
    refine Exists.intro xm_238 (And.intro mi_238 (And.intro ⟨rfl, rfl, rfl, rfl⟩ (And.intro True.intro ?_)))
    refine fcallp hB0 (ct_M_isIn_27230 (fBz h0 hB0) (by first | exact ⟨ha1.1, ha1.2⟩ | omega) (by first | exact ⟨by decide, by decide⟩ | omega) (by first | exact ⟨by decide, by decide⟩ | omega)) ?_
    rintro _ ⟨z1, rfl, hz1⟩
    refine And.intro (by omega) (And.intro ?_ ?_)
    · intro c2
      refine And.intro (True.intro) ?_
      exact ⟨_, rfl, by omega, (by first | exact Or.inl ⟨by omega, g0nil0.trans (fupd_ix (by omega)), g1nil0.trans (fld_ix (by omega))⟩ | exact Or.inr ⟨by omega, rfl, by omega⟩)⟩
    · intro c3
      refine And.intro (by first | exact fi_ ha2.1 ha2.2 rfl | omega) ?_
      refine Exists.intro xm_238 (And.intro mi_238 (And.intro ⟨rfl, rfl, rfl, rfl⟩ (And.intro True.intro ?_)))
      refine fcallp hB0 (ct_M_isIn_27230 (fBz h0 hB0) (by first | exact ⟨ha2.1, ha2.2⟩ | omega) (by first | exact ⟨by decide, by decide⟩ | omega) (by first | exact ⟨by decide, by decide⟩ | omega)) ?_
      rintro _ ⟨z4, rfl, hz4⟩
      refine And.intro (by omega) (And.intro ?_ ?_)
      · intro c5
        refine And.intro (True.intro) ?_
        exact ⟨_, rfl, by omega, (by first | exact Or.inl ⟨by omega, g0nil0.trans (fupd_ix (by omega)), g1nil0.trans (fld_ix (by omega))⟩ | exact Or.inr ⟨by omega, rfl, by omega⟩)⟩
      · intro c6
        refine Exists.intro xm_242 (And.intro mi_242 (And.intro ⟨rfl, rfl, rfl, rfl⟩ (And.intro rfl ?_)))
        refine fcall _ h0 (fzs_sub (by decide +kernel) hW) hB0 (ct_M_put_6db37 (fBz h0 hB0) (by omega) (by first | exact ⟨Int.le_trans (by decide) (Int.le_trans (Int.le_refl _) hz4.1), Int.le_trans (Int.le_trans hz4.2 (Int.le_refl _)) (by decide)⟩ | omega)) ?_
        rintro IhB8 _ hB8 fhB8 ⟨z7, rfl, hz7, g0z7, g1z7⟩
        refine And.intro (True.intro) ?_
        exact ⟨_, rfl, by omega, (by first | exact Or.inl ⟨by omega, g0z7.trans (fupd_ix (by omega)), g1z7.trans (fld_ix (by omega))⟩ | exact Or.inr ⟨by omega, rfl, by omega⟩)⟩
abbrev jc_Rounds_fallOf_9b67d_2 (x1 : Int) (x2 : Int) (I0 : fH) : Nat → fL → List fV → fH → Prop := fun m lv st I => ∃ (y1 : Int) (y2 : Int) (y3 : Int), lv = [(0, .inr (.inr (some 727))), (1, .inl y1), (2, .inl y2), (3, .inl y3)] ∧ st = [] ∧ (((0 ≤ y1 ∧ y1 ≤ 23) ∧ (0 ≤ y2 ∧ y2 ≤ 47) ∧ (0 ≤ y3 ∧ y3 ≤ 48) ∧ (y1 = x1) ∧ (y2 = x2) ∧ (x2 ≤ y3) ∧ (y3 ≤ I0 727 6)) ∧ (∀ g : Nat, x2.toNat ≤ g → (g : Int) < y3 → rnG (rnW (I0 222)) (I0 728 x1.toNat) (I0 729 x1.toNat) x2.toNat (I0 727 7) g)) ∧ m = (1 + 1 * (48 - y3) : Int).toNat
set_option maxRecDepth 8000 in
theorem ct_Rounds_fallOf_9b67d {I : fH} {x1 : Int} {x2 : Int} (h0 : fB bsJ I) (ha1 : (0 ≤ x1 ∧ x1 ≤ 23)) (ha2 : (0 ≤ x2 ∧ x2 ≤ 47)) (hp0 : rnA (rnW (I 222)) (I 731) (I 727 6)) (hp1 : 0 ≤ I 729 x1.toNat ∧ I 729 x1.toNat ≤ 99) (hp2 : -90000 ≤ I 728 x1.toNat ∧ I 728 x1.toNat ≤ 190000) (hp3 : x2 ≤ I 727 6) : fC ρ base n F xTc vwCl xTys D dA la gJ (fbz bsJ znJ (fKc []) I) xm_182 [.inr (.inr (some 727)), .inl x1, .inl x2] I (fun _ r => ∃ z, r = some (.inl z) ∧ (0 ≤ z ∧ z ≤ 48) ∧ (z = rnf (rnW (I 222)) (I 728 x1.toNat) (I 729 x1.toNat) x2.toNat (I 727 7) (I 727 6).toNat)) := by
  have hW : fzs [] (fKc []) := fKc_ok _
  refine f_meth (rb := rbJ) (J := [(2, (jc_Rounds_fallOf_9b67d_2 x1 x2 I))]) 50 400 xG xin_182 x6_182 okJ (fB_self h0) ?_ ?_
  · refine List.forall_mem_cons.mpr ⟨?_, fun q h => absurd h List.not_mem_nil⟩
    · rintro m _ _ I1 hB1 ⟨y1, y2, y3, rfl, rfl, ⟨hb, hx0⟩, hm⟩
      have b1 := fBd fb_727_6 (fBz h0 hB1)
      have eI : I1 = I := fFr_nil (fFr_of hB1)
      have s6 : I1 727 6 = I 727 6 := by rw [eI]
      have ey1 : y1 = x1 := by omega
      have ey2 : y2 = x2 := by omega
      refine And.intro ⟨rfl, by decide, by decide⟩ (fgetf fb_727_6 h0 hB1 ?_)
      intro z2 lz2 uz2 qz2
      refine And.intro (And.intro (by first | exact fi_ hb.2.2.1.1 hb.2.2.1.2 rfl | omega) (by first | exact fi_ lz2 uz2 rfl | omega)) (And.intro ?_ ?_)
      · intro c3
        refine And.intro (True.intro) ?_
        exact ⟨_, rfl, (by first | exact ⟨hb.2.2.1.1, hb.2.2.1.2⟩ | omega), (rnf_of (by omega) (by omega) (by omega) (fun g q1 q2 => hx0 g q1 (by omega)) (fun q => absurd q (by omega)))⟩
      · intro c4
        refine And.intro ⟨rfl, by decide, by decide⟩ ?_
        refine fload1 rL_728_728_0_23_1_0 h0 hB1 ⟨by decide, by decide⟩ (by first | exact ⟨hb.1.1, hb.1.2⟩ | omega) ?_
        intro z5 lz5 uz5 qz5
        have w15 : z5 = I 728 x1.toNat := qz5.trans (by rw [eI, ey1])
        refine And.intro ⟨rfl, by decide, by decide⟩ ?_
        refine fload1 rL_729_729_0_23_1_0 h0 hB1 ⟨by decide, by decide⟩ (by first | exact ⟨hb.1.1, hb.1.2⟩ | omega) ?_
        intro z6 lz6 uz6 qz6
        have w21 : z6 = I 729 x1.toNat := qz6.trans (by rw [eI, ey1])
        refine And.intro ⟨rfl, by decide, by decide⟩ ?_
        refine fload rL_731_731_1_48_1_0 h0 hB1 (by omega) ?_
        intro z7 lz7 uz7 qz7
        have b29 := hp0 (y3.toNat + 1) (by omega)
        have w29 : z7 = I 731 (y3.toNat + 1) := (fld_at qz7 (y3.toNat + 1) (by omega)).trans (by rw [eI])
        intro z8 hz8 ez8 bz8
        clear ez8
        try replace bz8 := bz8 (by omega)
        refine And.intro ⟨rfl, by decide, by decide⟩ ?_
        refine fload1 rL_731_731_0_47_1_0 h0 hB1 ⟨by decide, by decide⟩ (by first | exact ⟨hb.2.1.1, hb.2.1.2⟩ | omega) ?_
        intro z9 lz9 uz9 qz9
        have b36 := hp0 x2.toNat (by omega)
        have m36 := b29.2.2.2 x2.toNat (by omega)
        have w36 : z9 = I 731 x2.toNat := qz9.trans (by rw [eI, ey2])
        have g36 : 0 ≤ I 729 x1.toNat + I 731 (y3.toNat + 1) - I 731 x2.toNat := by omega
        intro z10 hz10 ez10 bz10
        clear ez10
        try replace bz10 := bz10 (by omega)
        refine And.intro (And.intro (by omega) (And.intro (by first | exact ⟨by decide, by decide⟩ | omega) (And.intro (by first | exact by decide | omega) rfl))) ?_
        intro z11 hz11 ez11 dz11
        have dz11 := dz11 (by omega) (by omega)
        change _ = _ / _ at dz11
        intro z12 hz12 ez12 bz12
        clear ez12
        try replace bz12 := bz12 (by omega)
        refine And.intro ⟨rfl, by decide, by decide⟩ (fgetf fb_727_7 h0 hB1 ?_)
        intro z13 lz13 uz13 qz13
        have w43 : z13 = I 727 7 := qz13.trans (by rw [eI])
        have gg := (rnA_G (L := I 728 x1.toNat) (lo := I 727 7) (o := I 729 x1.toNat) rfl rfl hp0 (y := y3.toNat) (a := x2.toNat) (by omega) (by omega) (by omega) rfl).1
        refine And.intro (by omega) (And.intro ?_ ?_)
        · intro c14
          refine And.intro (True.intro) ?_
          exact ⟨_, rfl, (by first | exact ⟨hb.2.2.1.1, Int.le_trans (Int.le_sub_one_of_lt (Int.lt_of_lt_of_le c4 uz2)) (by decide)⟩ | omega), (rnf_of (by omega) (by omega) (by omega) (fun g q1 q2 => hx0 g q1 (by omega)) (fun q => fun g0 => absurd (gg.mp g0) (by omega)))⟩
        · intro c15
          exact fcutJ (I := I1) (j := (jc_Rounds_fallOf_9b67d_2 x1 x2 I)) (lv' := [(0, .inr (.inr (some 727))), (1, .inl _), (2, .inl _), (3, .inl _)]) (And.intro rfl (And.intro rfl (And.intro rfl (And.intro rfl True.intro)))) ⟨_, _, _, rfl, rfl, ⟨by omega, (fun g q1 q2 => if r : (g : Int) < y3 then hx0 g q1 r else by rw [show g = y3.toNat by omega]; exact gg.mpr (by omega))⟩, rfl⟩ (by omega)
  · have hB0 := fB_self (zn := znJ) (K := fKc []) h0
    have b16 := fBd fb_727_6 (fBz h0 hB0)
    exact fcutJ (I := I) (j := (jc_Rounds_fallOf_9b67d_2 x1 x2 I)) (lv' := [(0, .inr (.inr (some 727))), (1, .inl _), (2, .inl _), (3, .inl _)]) (And.intro rfl (And.intro rfl (And.intro rfl (And.intro rfl True.intro)))) ⟨_, _, _, rfl, rfl, ⟨by omega, (fun g q1 q2 => absurd q1 (by omega))⟩, rfl⟩ (by omega)
abbrev jc_Rounds_foretellAll_4ce3f_2 (x2 : Int) (I0 : fH) : Nat → fL → List fV → fH → Prop := fun m lv st I => ∃ (y2 : Int) (y3 : Int), lv = [(0, .inr (.inr (some 727))), (1, .inr (.inr (some 163))), (2, .inl y2), (3, .inl y3)] ∧ st = [] ∧ (((0 ≤ y2 ∧ y2 ≤ 47) ∧ (0 ≤ y3 ∧ y3 ≤ 24) ∧ (y2 = x2) ∧ (y3 ≤ I0 163 13)) ∧ (∀ w : Nat, (w : Int) < y3 → I 730 w = rnw (skW (cR 0 I0)) (rnW (I0 222)) (I0 728) (I0 729) x2.toNat (I0 727 7) (I0 727 6).toNat w)) ∧ m = (1 + 1 * (24 - y3) : Int).toNat
set_option maxRecDepth 8000 in
theorem ct_Rounds_foretellAll_4ce3f {I : fH} {x2 : Int} (h0 : fB bsJ I) (ha2 : (0 ≤ x2 ∧ x2 ≤ 47)) (hp0 : rnA (rnW (I 222)) (I 731) (I 727 6)) (hp1 : rnB 24 (I 728) (I 729) 90000 190000) (hp2 : x2 ≤ I 727 6) : fC ρ base n F xTc vwCl xTys D dA la gJ (fbz bsJ znJ (fKc wz_01654) I) xm_181 [.inr (.inr (some 727)), .inr (.inr (some 163)), .inl x2] I (fun I' r => r = none ∧ True ∧ (∀ w : Nat, (w : Int) < gt (cR 0 I) 7 → I' 730 w = rnw (skW (cR 0 I)) (rnW (I 222)) (I 728) (I 729) x2.toNat (I 727 7) (I 727 6).toNat w)) := by
  have hW : fzs wz_01654 (fKc wz_01654) := fKc_ok _
  refine f_meth (rb := rbJ) (J := [(2, (jc_Rounds_foretellAll_4ce3f_2 x2 I))]) 26 400 xG xin_181 x6_181 okJ (fB_self h0) ?_ ?_
  · refine List.forall_mem_cons.mpr ⟨?_, fun q h => absurd h List.not_mem_nil⟩
    · rintro m _ _ I1 hB1 ⟨y2, y3, rfl, rfl, ⟨hb, hx0⟩, hm⟩
      have k1 := fBz_eq hB1 (a := 163) (j := 13) (by decide +kernel)
      have k2 := fBz_eq hB1 (a := 727) (j := 6) (by decide +kernel)
      have b3 := fBd fb_163_13 (fBz h0 hB1)
      have b4 := fBd fb_727_6 (fBz h0 hB1)
      have e22 : I1 222 = I 222 := (funext (fFr_at (fFr_of hB1) 222 (by decide +kernel) rfl))
      have e28 : I1 728 = I 728 := (funext (fFr_at (fFr_of hB1) 728 (by decide +kernel) rfl))
      have e29 : I1 729 = I 729 := (funext (fFr_at (fFr_of hB1) 729 (by decide +kernel) rfl))
      have e31 : I1 731 = I 731 := (funext (fFr_at (fFr_of hB1) 731 (by decide +kernel) rfl))
      have cR1 : cR 0 I1 = cR 0 I := (cR_fr (d := 0) cZ0_ok (fFr_of hB1) (by decide +kernel))
      have s7 : I1 727 7 = I 727 7 := fBz_eq hB1 (by decide +kernel)
      have s6 : I1 727 6 = I 727 6 := fBz_eq hB1 (by decide +kernel)
      refine And.intro ⟨rfl, by decide, by decide⟩ (fgetf fb_163_13 h0 hB1 ?_)
      intro z5 lz5 uz5 qz5
      have v4 := cL_f (d := 0) (a := 163) (j := 13) (r := 7) (p := 7) (by decide +kernel) (by decide) qz5 rfl
      refine And.intro (And.intro (by first | exact fi_ hb.2.1.1 hb.2.1.2 rfl | omega) (by first | exact fi_ lz5 uz5 rfl | omega)) (And.intro ?_ ?_)
      · intro c6
        have w7 := (cL_f (d := 0) (a := 163) (j := 13) (r := 7) (p := 7) (I := I) (z := I 163 13) (by decide +kernel) (by decide) rfl rfl)
        exact ⟨rfl, True.intro, (fun w hw => hx0 w (by omega))⟩
      · intro c7
        refine And.intro ⟨rfl, by decide, by decide⟩ ?_
        refine Exists.intro xm_64 (And.intro mi_64 (And.intro ⟨rfl, rfl, rfl, rfl⟩ (And.intro rfl ?_)))
        refine fcallp hB1 (ct_Works_isSkin_801f8 (fBz h0 hB1) (by first | exact ⟨hb.2.1.1, Int.le_trans (Int.le_sub_one_of_lt (Int.lt_of_lt_of_le c7 uz5)) (by decide)⟩ | omega)) ?_
        rintro _ ⟨z8, rfl, hz8, g0z8⟩
        rw [cR1] at g0z8
        refine And.intro (by omega) (And.intro ?_ ?_)
        · intro c9
          refine And.intro ⟨rfl, by decide, by decide⟩ (fgetf fb_727_6 h0 hB1 ?_)
          intro z10 lz10 uz10 qz10
          refine fstore1 rS_730_730_0_23_1_0 (fzs_sub (by decide +kernel) hW) ⟨by decide, by decide⟩ (by first | exact ⟨hb.2.1.1, Int.le_trans (Int.le_sub_one_of_lt (Int.lt_of_lt_of_le c7 uz5)) (by decide)⟩ | omega) (by first | exact ⟨Int.le_trans (by decide) lz10, Int.le_trans uz10 (by decide)⟩ | omega) ?_
          intro IhB11 ehB11 hB11
          have t12 := fup_self ehB11
          have t13 : IhB11 163 13 = I1 163 13 := (congrFun (congrFun ehB11 163) 13).trans (fup_ne (by first | exact Or.inl (by decide) | omega))
          have k14 := fBz_eq hB11 (a := 163) (j := 13) (by decide +kernel)
          have k15 := fBz_eq hB11 (a := 727) (j := 6) (by decide +kernel)
          have r36 := cR_ot (d := 0) ehB11 (by decide)
          exact fcutJ (I := IhB11) (j := (jc_Rounds_foretellAll_4ce3f_2 x2 I)) (lv' := [(0, .inr (.inr (some 727))), (1, .inr (.inr (some 163))), (2, .inl _), (3, .inl _)]) (And.intro rfl (And.intro rfl (And.intro rfl (And.intro rfl True.intro)))) ⟨_, _, rfl, rfl, ⟨by omega, (fun w hw => if r : (w : Int) < y3 then (fup_other ehB11 730 w (Or.inr (by omega))).trans (hx0 w r) else by rw [show w = y3.toNat by omega]; exact (fup_at ehB11 y3.toNat (by omega)).trans (rnw_n (show ¬ skW (cR 0 I) y3.toNat from by have q := (g0z8.elim (fun q => absurd q.1 (by omega)) (fun q => q.2)); rw [show y3 = ((y3.toNat : Nat) : Int) by omega] at q; exact q) (by omega)))⟩, rfl⟩ (by omega)
        · intro c16
          refine Exists.intro xm_182 (And.intro mi_182 (And.intro ⟨rfl, rfl, rfl, rfl⟩ (And.intro rfl ?_)))
          refine fcallp hB1 (ct_Rounds_fallOf_9b67d (fBz h0 hB1) (by first | exact ⟨hb.2.1.1, Int.le_trans (Int.le_sub_one_of_lt (Int.lt_of_lt_of_le c7 uz5)) (by decide)⟩ | omega) (by first | exact ⟨hb.1.1, hb.1.2⟩ | omega) (by rw [e22, e31, s6]; exact hp0) (by rw [e29]; exact (hp1 y3.toNat (by omega)).1) (by rw [e28]; exact (hp1 y3.toNat (by omega)).2) (by omega)) ?_
          rintro _ ⟨z17, rfl, hz17, g0z17⟩
          rw [e22, e28, e29, s7, s6, (by omega : y2 = x2)] at g0z17
          refine fstore1 rS_730_730_0_23_1_0 (fzs_sub (by decide +kernel) hW) ⟨by decide, by decide⟩ (by first | exact ⟨hb.2.1.1, Int.le_trans (Int.le_sub_one_of_lt (Int.lt_of_lt_of_le c7 uz5)) (by decide)⟩ | omega) (by first | exact ⟨Int.le_trans (by decide) hz17.1, Int.le_trans hz17.2 (by decide)⟩ | omega) ?_
          intro IhB18 ehB18 hB18
          have t19 := fup_self ehB18
          have t20 : IhB18 163 13 = I1 163 13 := (congrFun (congrFun ehB18 163) 13).trans (fup_ne (by first | exact Or.inl (by decide) | omega))
          have k21 := fBz_eq hB18 (a := 163) (j := 13) (by decide +kernel)
          have k22 := fBz_eq hB18 (a := 727) (j := 6) (by decide +kernel)
          have r36 := cR_ot (d := 0) ehB18 (by decide)
          exact fcutJ (I := IhB18) (j := (jc_Rounds_foretellAll_4ce3f_2 x2 I)) (lv' := [(0, .inr (.inr (some 727))), (1, .inr (.inr (some 163))), (2, .inl _), (3, .inl _)]) (And.intro rfl (And.intro rfl (And.intro rfl (And.intro rfl True.intro)))) ⟨_, _, rfl, rfl, ⟨by omega, (fun w hw => if r : (w : Int) < y3 then (fup_other ehB18 730 w (Or.inr (by omega))).trans (hx0 w r) else by rw [show w = y3.toNat by omega]; exact (fup_at ehB18 y3.toNat (by omega)).trans (rnw_y (show skW (cR 0 I) y3.toNat from by have q := (g0z8.elim (fun q => q.2) (fun q => absurd q.1 (by omega))); rw [show y3 = ((y3.toNat : Nat) : Int) by omega] at q; exact q) g0z17))⟩, rfl⟩ (by omega)
  · have hB0 := fB_self (zn := znJ) (K := fKc wz_01654) h0
    have b23 := fBd fb_163_13 (fBz h0 hB0)
    have b24 := fBd fb_727_6 (fBz h0 hB0)
    exact fcutJ (I := I) (j := (jc_Rounds_foretellAll_4ce3f_2 x2 I)) (lv' := [(0, .inr (.inr (some 727))), (1, .inr (.inr (some 163))), (2, .inl _), (3, .inl _)]) (And.intro rfl (And.intro rfl (And.intro rfl (And.intro rfl True.intro)))) ⟨_, _, rfl, rfl, ⟨by omega, (fun w hw => absurd hw (by omega))⟩, rfl⟩ (by omega)
end CT

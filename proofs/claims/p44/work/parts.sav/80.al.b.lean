set_option linter.all false
section CT
variable {ρ : Nat → Int32} {base n : Nat} {F : Nat → Prop} {D : va_G} {dA : Nat → ClassId} {la : Launch}
abbrev jc_M_nextSkin_f6b67_9 (x1 : Int) (x2 : Int) (x3 : Int) (I0 : fH) : Nat → fL → List fV → fH → Prop := fun m lv st I => ∃ (y1 : Int) (y2 : Int) (y3 : Int) (y4 : Int) (y5 : Int) (y6 : Int), lv = [(0, .inr (.inr (some 740))), (1, .inl y1), (2, .inl y2), (3, .inl y3), (4, .inl y4), (5, .inl y5), (6, .inl y6)] ∧ st = [] ∧ (((0 ≤ y1 ∧ y1 ≤ 47) ∧ (1 ≤ y2 ∧ y2 ≤ 48) ∧ (0 ≤ y3 ∧ y3 ≤ 9) ∧ ((-1) ≤ y4 ∧ y4 ≤ 23) ∧ (0 ≤ y5 ∧ y5 ≤ 48) ∧ (0 ≤ y6 ∧ y6 ≤ 24) ∧ (y6 ≤ I0 741 7) ∧ (y1 = x1) ∧ (y2 = x2) ∧ (y3 = x3) ∧ (y5 ≤ x2) ∧ (y4 < y6)) ∧ ((y4, y5) = rnN (skW (mR I0)) (rnW (fun j : Nat => I0 741 (4510 + j))) (I0 754) (I0 755) x1.toNat x3 x2.toNat y6.toNat)) ∧ m = (1 + 1 * (24 - y6) : Int).toNat
set_option maxRecDepth 8000 in
theorem ct_M_nextSkin_f6b67 {I : fH} {x1 : Int} {x2 : Int} {x3 : Int} (h0 : fB bsJ I) (ha1 : (0 ≤ x1 ∧ x1 ≤ 47)) (ha2 : (1 ≤ x2 ∧ x2 ≤ 48)) (ha3 : (0 ≤ x3 ∧ x3 ≤ 9)) (hp0 : rnB (rn_m (mR I)) (I 754) (I 755) 90000 190000) (hp1 : x1 ≤ x2) : fC ρ base n F xTc vwCl xTys D dA la gJ (fbz bsJ znJ (fKc wz_69d61) I) xm_457 [.inr (.inr (some 740)), .inl x1, .inl x2, .inl x3] I (fun _ r => ∃ z, r = some (.inl z) ∧ ((-1) ≤ z ∧ z ≤ 23) ∧ (z = (rnN (skW (mR I)) (rnW (fun j : Nat => I 741 (4510 + j))) (I 754) (I 755) x1.toNat x3 x2.toNat (gt (mR I) 7).toNat).1)) := by
  have hW : fzs wz_69d61 (fKc wz_69d61) := fKc_ok _
  refine f_meth (rb := rbJ) (J := [(9, (jc_M_nextSkin_f6b67_9 x1 x2 x3 I))]) 26 400 xG xin_457 x6_457 okJ (fB_self h0) ?_ ?_
  · refine List.forall_mem_cons.mpr ⟨?_, fun q h => absurd h List.not_mem_nil⟩
    · rintro m _ _ I1 hB1 ⟨y1, y2, y3, y4, y5, y6, rfl, rfl, ⟨hb, hx0⟩, hm⟩
      have k1 := fBz_eq hB1 (a := 741) (j := 7) (by decide +kernel)
      have b2 := fBd fb_741_7 (fBz h0 hB1)
      have e41 : I1 741 = I 741 := (funext (fFr_S (fFr_of hB1) (by decide +kernel)))
      have e54 : I1 754 = I 754 := (funext (fFr_at (fFr_of hB1) 754 (by decide +kernel) rfl))
      have e55 : I1 755 = I 755 := (funext (fFr_at (fFr_of hB1) 755 (by decide +kernel) rfl))
      have mR1 : mR I1 = mR I := (mR_fr (fFr_of hB1) (by decide +kernel))
      have w7 := (show I 741 7 = gt (mR I) 7 from (mR_ld (I := I) (k := 7) (by decide +kernel)).symm)
      have m7 : (rn_m (mR I) : Int) = gt (mR I) 7 := by unfold rn_m; omega
      refine And.intro ⟨rfl, by decide, by decide⟩ ?_
      refine fload1 rL_741_741_7_7_1_0 h0 hB1 ⟨by decide, by decide⟩ (by first | exact ⟨by decide, by decide⟩ | omega) ?_
      intro z3 lz3 uz3 qz3
      have pz3 := fld_at qz3 7 (by omega)
      have v17 := mL_r (i0 := 7) (i1 := 7) (m := 1) (q := 0) (by decide +kernel) qz3 (by omega) rfl
      refine And.intro (And.intro (by first | exact fi_ hb.2.2.2.2.2.1.1 hb.2.2.2.2.2.1.2 rfl | omega) (by first | exact fi_ lz3 uz3 rfl | omega)) (And.intro ?_ ?_)
      · intro c4
        refine And.intro (True.intro) ?_
        have w7 := (show I 741 7 = gt (mR I) 7 from (mR_ld (I := I) (k := 7) (by decide +kernel)).symm)
        exact ⟨_, rfl, (by first | exact ⟨hb.2.2.2.1.1, hb.2.2.2.1.2⟩ | omega), (rnN_at hx0 (by omega))⟩
      · intro c5
        refine Exists.intro xm_458 (And.intro mi_458 (And.intro ⟨rfl, rfl, rfl, rfl⟩ (And.intro rfl ?_)))
        refine fcallp hB1 (ct_M_isSkin_da592 (fBz h0 hB1) (by first | exact ⟨hb.2.2.2.2.2.1.1, Int.le_trans (Int.le_sub_one_of_lt (Int.lt_of_lt_of_le c5 uz3)) (by decide)⟩ | omega)) ?_
        rintro _ ⟨z6, rfl, hz6, g0z6⟩
        rw [mR1] at g0z6
        refine And.intro (by omega) (And.intro ?_ ?_)
        · intro c7
          refine And.intro (And.intro (by first | exact fi_ hb.2.1.1 hb.2.1.2 rfl | omega) (by first | exact fi_ hb.2.2.2.2.1.1 hb.2.2.2.2.1.2 rfl | omega)) (And.intro ?_ ?_)
          · intro c8
            refine And.intro (And.intro (by first | exact fi_ hb.2.1.1 hb.2.1.2 rfl | omega) (by first | exact fi_ hb.2.2.2.2.1.1 hb.2.2.2.2.1.2 rfl | omega)) (And.intro ?_ ?_)
            · intro c9
              exact fcutJ (I := I1) (j := (jc_M_nextSkin_f6b67_9 x1 x2 x3 I)) (lv' := [(0, .inr (.inr (some 740))), (1, .inl _), (2, .inl _), (3, .inl _), (4, .inl _), (5, .inl _), (6, .inl _)]) (And.intro rfl (And.intro rfl (And.intro rfl (And.intro rfl (And.intro rfl (And.intro rfl (And.intro rfl True.intro))))))) ⟨_, _, _, _, _, _, rfl, rfl, ⟨by omega, (rnN_to (rnN_n hx0 (fun q => absurd q.1.1 (show ¬ skW (mR I) y6.toNat from by have q := (g0z6.elim (fun q => absurd q.1 (by omega)) (fun q => q.2)); rw [show y6 = ((y6.toNat : Nat) : Int) by omega] at q; exact q))) (by omega))⟩, rfl⟩ (by omega)
            · intro c10
              exact fcutJ (I := I1) (j := (jc_M_nextSkin_f6b67_9 x1 x2 x3 I)) (lv' := [(0, .inr (.inr (some 740))), (1, .inl _), (2, .inl _), (3, .inl _), (4, .inl _), (5, .inl _), (6, .inl _)]) (And.intro rfl (And.intro rfl (And.intro rfl (And.intro rfl (And.intro rfl (And.intro rfl (And.intro rfl True.intro))))))) ⟨_, _, _, _, _, _, rfl, rfl, ⟨by omega, (by exfalso; omega)⟩, rfl⟩ (by omega)
          · intro c11
            refine And.intro (And.intro (by first | exact fi_ hb.2.1.1 (Int.le_sub_one_of_lt (Int.lt_of_lt_of_le c11 hb.2.2.2.2.1.2)) rfl | omega) (by first | exact fi_ (Int.add_one_le_of_lt (Int.lt_of_le_of_lt hb.2.1.1 c11)) hb.2.2.2.2.1.2 rfl | omega)) (And.intro ?_ ?_)
            · intro c12
              exact fcutJ (I := I1) (j := (jc_M_nextSkin_f6b67_9 x1 x2 x3 I)) (lv' := [(0, .inr (.inr (some 740))), (1, .inl _), (2, .inl _), (3, .inl _), (4, .inl _), (5, .inl _), (6, .inl _)]) (And.intro rfl (And.intro rfl (And.intro rfl (And.intro rfl (And.intro rfl (And.intro rfl (And.intro rfl True.intro))))))) ⟨_, _, _, _, _, _, rfl, rfl, ⟨by omega, (by exfalso; omega)⟩, rfl⟩ (by omega)
            · intro c13
              exact fcutJ (I := I1) (j := (jc_M_nextSkin_f6b67_9 x1 x2 x3 I)) (lv' := [(0, .inr (.inr (some 740))), (1, .inl _), (2, .inl _), (3, .inl _), (4, .inl _), (5, .inl _), (6, .inl _)]) (And.intro rfl (And.intro rfl (And.intro rfl (And.intro rfl (And.intro rfl (And.intro rfl (And.intro rfl True.intro))))))) ⟨_, _, _, _, _, _, rfl, rfl, ⟨by omega, (by exfalso; omega)⟩, rfl⟩ (by omega)
        · intro c14
          refine And.intro ⟨rfl, by decide, by decide⟩ ?_
          refine fload1 rL_754_754_0_23_1_0 h0 hB1 ⟨by decide, by decide⟩ (by first | exact ⟨hb.2.2.2.2.2.1.1, Int.le_trans (Int.le_sub_one_of_lt (Int.lt_of_lt_of_le c5 uz3)) (by decide)⟩ | omega) ?_
          intro z15 lz15 uz15 qz15
          have w36 : z15 = I 754 y6.toNat := qz15.trans (by rw [e54])
          refine And.intro (And.intro (by first | exact fi_ lz15 uz15 rfl | omega) (by first | exact ⟨by decide, by decide⟩ | omega)) (And.intro ?_ ?_)
          · intro c16
            refine And.intro (And.intro (by first | exact fi_ hb.2.1.1 hb.2.1.2 rfl | omega) (by first | exact fi_ hb.2.2.2.2.1.1 hb.2.2.2.2.1.2 rfl | omega)) (And.intro ?_ ?_)
            · intro c17
              refine And.intro (And.intro (by first | exact fi_ hb.2.1.1 hb.2.1.2 rfl | omega) (by first | exact fi_ hb.2.2.2.2.1.1 hb.2.2.2.2.1.2 rfl | omega)) (And.intro ?_ ?_)
              · intro c18
                exact fcutJ (I := I1) (j := (jc_M_nextSkin_f6b67_9 x1 x2 x3 I)) (lv' := [(0, .inr (.inr (some 740))), (1, .inl _), (2, .inl _), (3, .inl _), (4, .inl _), (5, .inl _), (6, .inl _)]) (And.intro rfl (And.intro rfl (And.intro rfl (And.intro rfl (And.intro rfl (And.intro rfl (And.intro rfl True.intro))))))) ⟨_, _, _, _, _, _, rfl, rfl, ⟨by omega, (rnN_to (rnN_n hx0 (fun q => by have q2 := q.1.2; omega)) (by omega))⟩, rfl⟩ (by omega)
              · intro c19
                exact fcutJ (I := I1) (j := (jc_M_nextSkin_f6b67_9 x1 x2 x3 I)) (lv' := [(0, .inr (.inr (some 740))), (1, .inl _), (2, .inl _), (3, .inl _), (4, .inl _), (5, .inl _), (6, .inl _)]) (And.intro rfl (And.intro rfl (And.intro rfl (And.intro rfl (And.intro rfl (And.intro rfl (And.intro rfl True.intro))))))) ⟨_, _, _, _, _, _, rfl, rfl, ⟨by omega, (by exfalso; omega)⟩, rfl⟩ (by omega)
            · intro c20
              refine And.intro (And.intro (by first | exact fi_ hb.2.1.1 (Int.le_sub_one_of_lt (Int.lt_of_lt_of_le c20 hb.2.2.2.2.1.2)) rfl | omega) (by first | exact fi_ (Int.add_one_le_of_lt (Int.lt_of_le_of_lt hb.2.1.1 c20)) hb.2.2.2.2.1.2 rfl | omega)) (And.intro ?_ ?_)
              · intro c21
                exact fcutJ (I := I1) (j := (jc_M_nextSkin_f6b67_9 x1 x2 x3 I)) (lv' := [(0, .inr (.inr (some 740))), (1, .inl _), (2, .inl _), (3, .inl _), (4, .inl _), (5, .inl _), (6, .inl _)]) (And.intro rfl (And.intro rfl (And.intro rfl (And.intro rfl (And.intro rfl (And.intro rfl (And.intro rfl True.intro))))))) ⟨_, _, _, _, _, _, rfl, rfl, ⟨by omega, (by exfalso; omega)⟩, rfl⟩ (by omega)
              · intro c22
                exact fcutJ (I := I1) (j := (jc_M_nextSkin_f6b67_9 x1 x2 x3 I)) (lv' := [(0, .inr (.inr (some 740))), (1, .inl _), (2, .inl _), (3, .inl _), (4, .inl _), (5, .inl _), (6, .inl _)]) (And.intro rfl (And.intro rfl (And.intro rfl (And.intro rfl (And.intro rfl (And.intro rfl (And.intro rfl True.intro))))))) ⟨_, _, _, _, _, _, rfl, rfl, ⟨by omega, (by exfalso; omega)⟩, rfl⟩ (by omega)
          · intro c23
            refine Exists.intro xm_459 (And.intro mi_459 (And.intro ⟨rfl, rfl, rfl, rfl⟩ (And.intro rfl ?_)))
            refine fcall _ h0 (fzs_sub (by decide +kernel) hW) hB1 (ct_M_fallsIn_0827b (fBz h0 hB1) (by first | exact ⟨hb.2.2.2.2.2.1.1, Int.le_trans (Int.le_sub_one_of_lt (Int.lt_of_lt_of_le c5 uz3)) (by decide)⟩ | omega) (by first | exact ⟨hb.1.1, hb.1.2⟩ | omega) (by first | exact ⟨hb.2.1.1, hb.2.1.2⟩ | omega) (by first | exact ⟨hb.2.2.1.1, hb.2.2.1.2⟩ | omega) (by rw [e55]; exact (hp0 y6.toNat (by omega)).1) (by rw [e54]; exact (hp0 y6.toNat (by omega)).2) (by omega)) ?_
            rintro IhB25 _ hB25 fhB25 ⟨z24, rfl, hz24, g0z24⟩
            have t26 := fhB25 741 7 (by decide +kernel)
            have k27 := fBz_eq hB25 (a := 741) (j := 7) (by decide +kernel)
            have r48 := mR_fr fhB25 (by decide +kernel)
            rw [e41, e54, e55, (by omega : y1 = x1), (by omega : y2 = x2), (by omega : y3 = x3)] at g0z24
            refine And.intro (And.intro (by first | exact fi_ hz24.1 hz24.2 rfl | omega) (by first | exact fi_ hb.2.2.2.2.1.1 hb.2.2.2.2.1.2 rfl | omega)) (And.intro ?_ ?_)
            · intro c28
              refine And.intro (And.intro (by first | exact fi_ hz24.1 hz24.2 rfl | omega) (by first | exact fi_ hb.2.2.2.2.1.1 hb.2.2.2.2.1.2 rfl | omega)) (And.intro ?_ ?_)
              · intro c29
                exact fcutJ (I := IhB25) (j := (jc_M_nextSkin_f6b67_9 x1 x2 x3 I)) (lv' := [(0, .inr (.inr (some 740))), (1, .inl _), (2, .inl _), (3, .inl _), (4, .inl _), (5, .inl _), (6, .inl _)]) (And.intro rfl (And.intro rfl (And.intro rfl (And.intro rfl (And.intro rfl (And.intro rfl (And.intro rfl True.intro))))))) ⟨_, _, _, _, _, _, rfl, rfl, ⟨by omega, (rnN_to (rnN_n hx0 (fun q => by have q2 := q.2; rw [← g0z24] at q2; omega)) (by omega))⟩, rfl⟩ (by omega)
              · intro c30
                exact fcutJ (I := IhB25) (j := (jc_M_nextSkin_f6b67_9 x1 x2 x3 I)) (lv' := [(0, .inr (.inr (some 740))), (1, .inl _), (2, .inl _), (3, .inl _), (4, .inl _), (5, .inl _), (6, .inl _)]) (And.intro rfl (And.intro rfl (And.intro rfl (And.intro rfl (And.intro rfl (And.intro rfl (And.intro rfl True.intro))))))) ⟨_, _, _, _, _, _, rfl, rfl, ⟨by omega, (by exfalso; omega)⟩, rfl⟩ (by omega)
            · intro c31
              refine And.intro (And.intro (by first | exact fi_ hz24.1 (Int.le_sub_one_of_lt (Int.lt_of_lt_of_le c31 hb.2.2.2.2.1.2)) rfl | omega) (by first | exact fi_ (Int.add_one_le_of_lt (Int.lt_of_le_of_lt hz24.1 c31)) hb.2.2.2.2.1.2 rfl | omega)) (And.intro ?_ ?_)
              · intro c32
                exact fcutJ (I := IhB25) (j := (jc_M_nextSkin_f6b67_9 x1 x2 x3 I)) (lv' := [(0, .inr (.inr (some 740))), (1, .inl _), (2, .inl _), (3, .inl _), (4, .inl _), (5, .inl _), (6, .inl _)]) (And.intro rfl (And.intro rfl (And.intro rfl (And.intro rfl (And.intro rfl (And.intro rfl (And.intro rfl True.intro))))))) ⟨_, _, _, _, _, _, rfl, rfl, ⟨by omega, (by exfalso; omega)⟩, rfl⟩ (by omega)
              · intro c33
                exact fcutJ (I := IhB25) (j := (jc_M_nextSkin_f6b67_9 x1 x2 x3 I)) (lv' := [(0, .inr (.inr (some 740))), (1, .inl _), (2, .inl _), (3, .inl _), (4, .inl _), (5, .inl _), (6, .inl _)]) (And.intro rfl (And.intro rfl (And.intro rfl (And.intro rfl (And.intro rfl (And.intro rfl (And.intro rfl True.intro))))))) ⟨_, _, _, _, _, _, rfl, rfl, ⟨by omega, (rnN_to (rnN_y hx0 (show skW (mR I) y6.toNat from by have q := (g0z6.elim (fun q => q.2) (fun q => absurd q.1 (by omega))); rw [show y6 = ((y6.toNat : Nat) : Int) by omega] at q; exact q) (by omega) (by rw [← g0z24]; omega) (by omega) (by rw [← g0z24])) (by omega))⟩, rfl⟩ (by omega)
  · have hB0 := fB_self (zn := znJ) (K := fKc wz_69d61) h0
    have b34 := fBd fb_741_7 (fBz h0 hB0)
    exact fcutJ (I := I) (j := (jc_M_nextSkin_f6b67_9 x1 x2 x3 I)) (lv' := [(0, .inr (.inr (some 740))), (1, .inl _), (2, .inl _), (3, .inl _), (4, .inl _), (5, .inl _), (6, .inl _)]) (And.intro rfl (And.intro rfl (And.intro rfl (And.intro rfl (And.intro rfl (And.intro rfl (And.intro rfl True.intro))))))) ⟨_, _, _, _, _, _, rfl, rfl, ⟨by omega, (Prod.ext rfl (show _ = (x2.toNat : Int) by omega))⟩, rfl⟩ (by omega)
abbrev jc_M_fitters_2c584_4 (I0 : fH) : Nat → fL → List fV → fH → Prop := fun m lv st I => ∃ (y1 : Int) (y2 : Int), lv = [(0, .inr (.inr (some 740))), (1, .inl y1), (2, .inl y2)] ∧ st = [] ∧ (((0 ≤ y1 ∧ y1 ≤ 24) ∧ (0 ≤ y2 ∧ y2 ≤ 24) ∧ (y2 ≤ I0 741 8) ∧ (0 ≤ y1) ∧ (y1 ≤ y2)) ∧ (y1 = sm (sFi (mR I0)) y2.toNat)) ∧ m = (1 + 1 * (24 - y2) : Int).toNat
set_option maxRecDepth 8000 in
theorem ct_M_fitters_2c584 {I : fH}  (h0 : fB bsJ I)  : fC ρ base n F xTc vwCl xTys D dA la gJ (fbz bsJ znJ (fKc []) I) xm_456 [.inr (.inr (some 740))] I (fun _ r => ∃ z, r = some (.inl z) ∧ (0 ≤ z ∧ z ≤ 24) ∧ (z = sm (sFi (mR I)) (gt (mR I) 8).toNat)) := by
  have hW : fzs [] (fKc []) := fKc_ok _
  refine f_meth (rb := rbJ) (J := [(4, (jc_M_fitters_2c584_4 I))]) 26 400 xG xin_456 x6_456 okJ (fB_self h0) ?_ ?_
  · refine List.forall_mem_cons.mpr ⟨?_, fun q h => absurd h List.not_mem_nil⟩
    · rintro m _ _ I1 hB1 ⟨y1, y2, rfl, rfl, ⟨hb, hx0⟩, hm⟩
      have eJ : I1 = I := fFr_nil (fFr_of hB1)
      have k1 := fBz_eq hB1 (a := 741) (j := 8) (by decide +kernel)
      have b2 := fBd fb_741_8 (fBz h0 hB1)
      refine And.intro ⟨rfl, by decide, by decide⟩ ?_
      refine fload1 rL_741_741_8_8_1_0 h0 hB1 ⟨by decide, by decide⟩ (by first | exact ⟨by decide, by decide⟩ | omega) ?_
      intro z3 lz3 uz3 qz3
      have pz3 := fld_at qz3 8 (by omega)
      have v11 := mL_r (i0 := 8) (i1 := 8) (m := 1) (q := 0) (by decide +kernel) qz3 (by omega) rfl
      rw [eJ] at v11
      refine And.intro (And.intro (by first | exact fi_ hb.2.1.1 hb.2.1.2 rfl | omega) (by first | exact fi_ lz3 uz3 rfl | omega)) (And.intro ?_ ?_)
      · intro c4
        refine And.intro (True.intro) ?_
        have w8 := (show I 741 8 = gt (mR I) 8 from (mR_ld (I := I) (k := 8) (by decide +kernel)).symm)
        exact ⟨_, rfl, (by first | exact ⟨hb.1.1, hb.1.2⟩ | omega), (sm_fin hx0 (by omega))⟩
      · intro c5
        refine And.intro ⟨rfl, by decide, by decide⟩ ?_
        refine Exists.intro xm_247 (And.intro mi_247 (And.intro ⟨rfl, rfl, rfl, rfl⟩ (And.intro rfl ?_)))
        refine fcallp hB1 (ct_M_personAt_9b331 (fBz h0 hB1) (by first | exact ⟨hb.2.1.1, Int.le_trans (Int.le_sub_one_of_lt (Int.lt_of_lt_of_le c5 uz3)) (by decide)⟩ | omega)) ?_
        rintro _ ⟨_, rfl, rfl⟩
        refine fload rL_741_741_871_1009_6_0 h0 hB1 (by omega) ?_
        intro z7 lz7 uz7 qz7
        have v27 := mL_r (i0 := 871) (i1 := 1009) (m := 6) (q := 0) (by decide +kernel) qz7 (by omega) rfl
        rw [eJ] at v27
        refine And.intro (And.intro (by first | exact fi_ lz7 uz7 rfl | omega) (by first | exact ⟨by decide, by decide⟩ | omega)) (And.intro ?_ ?_)
        · intro c8
          intro z9 hz9 ez9 bz9
          clear ez9
          have bz9 := bz9 (by omega)
          exact fcutJ (I := I1) (j := (jc_M_fitters_2c584_4 I)) (lv' := [(0, .inr (.inr (some 740))), (1, .inl _), (2, .inl _)]) (And.intro rfl (And.intro rfl (And.intro rfl True.intro))) ⟨_, _, rfl, rfl, ⟨by omega, (sm_at (v := 0) hx0 (by omega) (by omega) (sFi_n (w := y2) (by omega) v27 (by omega) (by omega) rfl) (by omega))⟩, rfl⟩ (by omega)
        · intro c10
          refine And.intro ⟨rfl, by decide, by decide⟩ ?_
          refine Exists.intro xm_247 (And.intro mi_247 (And.intro ⟨rfl, rfl, rfl, rfl⟩ (And.intro rfl ?_)))
          refine fcallp hB1 (ct_M_personAt_9b331 (fBz h0 hB1) (by first | exact ⟨hb.2.1.1, Int.le_trans (Int.le_sub_one_of_lt (Int.lt_of_lt_of_le c5 uz3)) (by decide)⟩ | omega)) ?_
          rintro _ ⟨_, rfl, rfl⟩
          refine fload rL_741_741_873_1011_6_0 h0 hB1 (by omega) ?_
          intro z12 lz12 uz12 qz12
          have v43 := mL_r (i0 := 873) (i1 := 1011) (m := 6) (q := 0) (by decide +kernel) qz12 (by omega) rfl
          rw [eJ] at v43
          refine And.intro (And.intro (by first | exact fi_ lz12 uz12 rfl | omega) (by first | exact ⟨by decide, by decide⟩ | omega)) (And.intro ?_ ?_)
          · intro c13
            intro z14 hz14 ez14 bz14
            clear ez14
            have bz14 := bz14 (by omega)
            exact fcutJ (I := I1) (j := (jc_M_fitters_2c584_4 I)) (lv' := [(0, .inr (.inr (some 740))), (1, .inl _), (2, .inl _)]) (And.intro rfl (And.intro rfl (And.intro rfl True.intro))) ⟨_, _, rfl, rfl, ⟨by omega, (sm_at (v := 0) hx0 (by omega) (by omega) (sFi_s (w := y2) (by omega) v43 (by omega) (by omega) rfl) (by omega))⟩, rfl⟩ (by omega)
          · intro c15
            intro z16 hz16 ez16 bz16
            clear ez16
            have bz16 := bz16 (by omega)
            exact fcutJ (I := I1) (j := (jc_M_fitters_2c584_4 I)) (lv' := [(0, .inr (.inr (some 740))), (1, .inl _), (2, .inl _)]) (And.intro rfl (And.intro rfl (And.intro rfl True.intro))) ⟨_, _, rfl, rfl, ⟨by omega, (sm_at (v := 1) hx0 (by omega) (by omega) (sFi_y (w := y2) (by omega) v27 (by omega) (by omega) v43 (by omega) (by omega) rfl) (by omega))⟩, rfl⟩ (by omega)
  · have hB0 := fB_self (zn := znJ) (K := fKc []) h0
    have b17 := fBd fb_741_8 (fBz h0 hB0)
    exact fcutJ (I := I) (j := (jc_M_fitters_2c584_4 I)) (lv' := [(0, .inr (.inr (some 740))), (1, .inl _), (2, .inl _)]) (And.intro rfl (And.intro rfl (And.intro rfl True.intro))) ⟨_, _, rfl, rfl, ⟨by omega, rfl⟩, rfl⟩ (by omega)
abbrev jc_M_rounds_3e399_3 (x1 : Int) (x2 : Int) (x3 : Int) (x4 : Int) (I0 : fH) : Nat → fL → List fV → fH → Prop := fun m lv st I => ∃ (y1 : Int) (y2 : Int) (y3 : Int) (y4 : Int) (y5 : Int), lv = [(0, .inr (.inr (some 740))), (1, .inl y1), (2, .inl y2), (3, .inl y3), (4, .inl y4), (5, .inl y5)] ∧ st = [] ∧ (((1 ≤ y1 ∧ y1 ≤ 48) ∧ (0 ≤ y2 ∧ y2 ≤ 9) ∧ ((-1) ≤ y3 ∧ y3 ≤ 23) ∧ (0 ≤ y4 ∧ y4 ≤ 47) ∧ (0 ≤ y5 ∧ y5 ≤ 24) ∧ (y5 ≤ I0 741 7) ∧ (y1 = x1) ∧ (y2 = x2) ∧ (y3 = x3) ∧ (y4 = x4)) ∧ (∀ j : Nat, (j : Int) < y5 → I 754 j = gt (mR I0) (535 + 14 * (j : Int)) ∧ I 755 j = gt (mR I0) (537 + 14 * (j : Int)))) ∧ m = (2500 + 1 * (24 - y5) : Int).toNat
abbrev jc_M_rounds_3e399_73 (x1 : Int) (x2 : Int) (x3 : Int) (x4 : Int) (I0 : fH) : Nat → fL → List fV → fH → Prop := fun m lv st I => ∃ (y1 : Int) (y2 : Int) (y3 : Int) (y4 : Int) (y5 : Int) (y6 : Int), lv = [(0, .inr (.inr (some 740))), (1, .inl y1), (2, .inl y2), (3, .inl y3), (4, .inl y4), (5, .inl y5), (6, .inl y6)] ∧ st = [] ∧ (((1 ≤ y1 ∧ y1 ≤ 48) ∧ (0 ≤ y2 ∧ y2 ≤ 9) ∧ ((-1) ≤ y3 ∧ y3 ≤ 23) ∧ (0 ≤ y4 ∧ y4 ≤ 47) ∧ ((-1) ≤ y5 ∧ y5 ≤ 47) ∧ (0 ≤ y6 ∧ y6 ≤ 48) ∧ (y1 = x1) ∧ (y2 = x2) ∧ (y3 = x3) ∧ (y4 = x4) ∧ (y6 ≤ x1) ∧ (0 ≤ I 740 29) ∧ (I 740 29 ≤ 24 * y6)) ∧ (rHh (mR I0) (rnW (fun j : Nat => I0 741 (4510 + j))) x2 x1.toNat y6 (I 754) (I 755)) ∧ (rnB (rn_m (mR I0)) (I 754) (I 755) (7 * y6) (100000 + 24 * y6)) ∧ (y5 = rXc (mR I0) (rnW (fun j : Nat => I0 741 (4510 + j))) x2 x1.toNat y6.toNat) ∧ (0 ≤ x3 → x4 < y6 → I 740 29 = rKc (mR I0) (rnW (fun j : Nat => I0 741 (4510 + j))) x2 x1.toNat x3 x4.toNat (rn_f (mR I0))) ∧ (0 ≤ x3 → y6 ≤ x4 → I 740 29 = 0)) ∧ m = (51 + 51 * (48 - y6) : Int).toNat
abbrev jc_M_rounds_3e399_85 (x1 : Int) (x2 : Int) (x3 : Int) (x4 : Int) (I0 : fH) : Nat → fL → List fV → fH → Prop := fun m lv st I => ∃ (y1 : Int) (y2 : Int) (y3 : Int) (y4 : Int) (y5 : Int) (y6 : Int) (y7 : Int), lv = [(0, .inr (.inr (some 740))), (1, .inl y1), (2, .inl y2), (3, .inl y3), (4, .inl y4), (5, .inl y5), (6, .inl y6), (7, .inl y7)] ∧ st = [] ∧ (((1 ≤ y1 ∧ y1 ≤ 48) ∧ (0 ≤ y2 ∧ y2 ≤ 9) ∧ ((-1) ≤ y3 ∧ y3 ≤ 23) ∧ (0 ≤ y4 ∧ y4 ≤ 47) ∧ ((-1) ≤ y5 ∧ y5 ≤ 47) ∧ (0 ≤ y6 ∧ y6 ≤ 47) ∧ (0 ≤ y7 ∧ y7 ≤ 24) ∧ (y1 = x1) ∧ (y2 = x2) ∧ (y3 = x3) ∧ (y4 = x4) ∧ (y6 < x1) ∧ (0 ≤ y7) ∧ (y7 ≤ 24) ∧ (0 ≤ I 740 29) ∧ (I 740 29 ≤ 24 * y6 + (24 - y7))) ∧ (rPh (mR I0) (rnW (fun j : Nat => I0 741 (4510 + j))) x2 x1.toNat y6 ((rn_f (mR I0) : Int) - y7) (I 754) (I 755)) ∧ (rnB (rn_m (mR I0)) (I 754) (I 755) (7 * y6) (100000 + 24 * y6 + ((rn_f (mR I0) : Int) - y7))) ∧ (y5 = rXc (mR I0) (rnW (fun j : Nat => I0 741 (4510 + j))) x2 x1.toNat y6.toNat) ∧ (0 ≤ x3 → x4 < y6 → I 740 29 = rKc (mR I0) (rnW (fun j : Nat => I0 741 (4510 + j))) x2 x1.toNat x3 x4.toNat (rn_f (mR I0))) ∧ (0 ≤ x3 → y6 < x4 → I 740 29 = 0) ∧ (0 ≤ x3 → x4 = y6 → I 740 29 = rKc (mR I0) (rnW (fun j : Nat => I0 741 (4510 + j))) x2 x1.toNat x3 y6.toNat ((rn_f (mR I0) : Int) - y7).toNat) ∧ (y7 ≤ (rn_f (mR I0) : Int) ∧ (rn_f (mR I0) : Int) ≤ 24)) ∧ m = (26 + 51 * (48 - y6) + 1 * (y7 - 0) : Int).toNat
abbrev jc_M_rounds_3e399_152 (x1 : Int) (x2 : Int) (x3 : Int) (x4 : Int) (I0 : fH) : Nat → fL → List fV → fH → Prop := fun m lv st I => ∃ (y1 : Int) (y2 : Int) (y3 : Int) (y4 : Int) (y5 : Int) (y6 : Int) (y7 : Int), lv = [(0, .inr (.inr (some 740))), (1, .inl y1), (2, .inl y2), (3, .inl y3), (4, .inl y4), (5, .inl y5), (6, .inl y6), (7, .inl y7)] ∧ st = [] ∧ (((1 ≤ y1 ∧ y1 ≤ 48) ∧ (0 ≤ y2 ∧ y2 ≤ 9) ∧ ((-1) ≤ y3 ∧ y3 ≤ 23) ∧ (0 ≤ y4 ∧ y4 ≤ 47) ∧ ((-1) ≤ y5 ∧ y5 ≤ 47) ∧ (0 ≤ y6 ∧ y6 ≤ 47) ∧ (0 ≤ y7 ∧ y7 ≤ 24) ∧ (y1 = x1) ∧ (y2 = x2) ∧ (y3 = x3) ∧ (y4 = x4) ∧ (y6 < x1) ∧ (y7 ≤ I0 741 7) ∧ (0 ≤ I 740 29) ∧ (I 740 29 ≤ 24 * y6 + 24)) ∧ (rnM (rn_m (mR I0)) (skW (mR I0)) (6 * rnW (fun j : Nat => I0 741 (4510 + j)) y6.toNat / 10) (rPc (mR I0) (rnW (fun j : Nat => I0 741 (4510 + j))) x2 x1.toNat y6.toNat (rn_f (mR I0))) (rHc (mR I0) (rnW (fun j : Nat => I0 741 (4510 + j))) x2 x1.toNat y6.toNat).2 (I 754) (I 755) y7) ∧ (rnB (rn_m (mR I0)) (rPc (mR I0) (rnW (fun j : Nat => I0 741 (4510 + j))) x2 x1.toNat y6.toNat (rn_f (mR I0))) (rHc (mR I0) (rnW (fun j : Nat => I0 741 (4510 + j))) x2 x1.toNat y6.toNat).2 (7 * y6) (100000 + 24 * y6 + 24)) ∧ (y5 = cI (rXc (mR I0) (rnW (fun j : Nat => I0 741 (4510 + j))) x2 x1.toNat y6.toNat = -1 ∧ rnY (skW (mR I0)) (rnL (skW (mR I0)) (6 * rnW (fun j : Nat => I0 741 (4510 + j)) y6.toNat / 10) (rPc (mR I0) (rnW (fun j : Nat => I0 741 (4510 + j))) x2 x1.toNat y6.toNat (rn_f (mR I0))) (rHc (mR I0) (rnW (fun j : Nat => I0 741 (4510 + j))) x2 x1.toNat y6.toNat).2) x2 y7.toNat) y6 (rXc (mR I0) (rnW (fun j : Nat => I0 741 (4510 + j))) x2 x1.toNat y6.toNat)) ∧ (0 ≤ x3 → x4 < y6 + 1 → I 740 29 = rKc (mR I0) (rnW (fun j : Nat => I0 741 (4510 + j))) x2 x1.toNat x3 x4.toNat (rn_f (mR I0))) ∧ (0 ≤ x3 → y6 < x4 → I 740 29 = 0)) ∧ m = (1 + 51 * (48 - y6) + 1 * (24 - y7) : Int).toNat
set_option maxRecDepth 8000 in
theorem ct_M_rounds_3e399 {I : fH} {x1 : Int} {x2 : Int} {x3 : Int} {x4 : Int} (h0 : fB bsJ I) (ha1 : (1 ≤ x1 ∧ x1 ≤ 48)) (ha2 : (0 ≤ x2 ∧ x2 ≤ 9)) (ha3 : ((-1) ≤ x3 ∧ x3 ≤ 23)) (ha4 : (0 ≤ x4 ∧ x4 ≤ 47)) (hp0 : rnOK (mR I)) : fC ρ base n F xTc vwCl xTys D dA la gJ (fbz bsJ znJ (fKc wz_e4773) I) xm_455 [.inr (.inr (some 740)), .inl x1, .inl x2, .inl x3, .inl x4] I (fun I' r => ∃ z, r = some (.inl z) ∧ ((-1) ≤ z ∧ z ≤ 47) ∧ (z = rXc (mR I) (rnW (fun j : Nat => I 741 (4510 + j))) x2 x1.toNat x1.toNat) ∧ (0 ≤ x3 → x4 < x1 → I' 740 29 = rKc (mR I) (rnW (fun j : Nat => I 741 (4510 + j))) x2 x1.toNat x3 x4.toNat (rn_f (mR I)))) := by
  have hW : fzs wz_e4773 (fKc wz_e4773) := fKc_ok _
  refine f_meth (rb := rbJ) (J := [(3, (jc_M_rounds_3e399_3 x1 x2 x3 x4 I)), (73, (jc_M_rounds_3e399_73 x1 x2 x3 x4 I)), (85, (jc_M_rounds_3e399_85 x1 x2 x3 x4 I)), (152, (jc_M_rounds_3e399_152 x1 x2 x3 x4 I))]) 2525 400 xG xin_455 x6_455 okJ (fB_self h0) ?_ ?_
  · refine List.forall_mem_cons.mpr ⟨?_, List.forall_mem_cons.mpr ⟨?_, List.forall_mem_cons.mpr ⟨?_, List.forall_mem_cons.mpr ⟨?_, fun q h => absurd h List.not_mem_nil⟩⟩⟩⟩
    · rintro m _ _ I1 hB1 ⟨y1, y2, y3, y4, y5, rfl, rfl, ⟨hb, hx0⟩, hm⟩
      have k1 := fBz_eq hB1 (a := 741) (j := 7) (by decide +kernel)
      have b2 := fBd fb_741_7 (fBz h0 hB1)
      have e41 : I1 741 = I 741 := (funext (fFr_S (fFr_of hB1) (by decide +kernel)))
      have mR1 : mR I1 = mR I := (mR_fr (fFr_of hB1) (by decide +kernel))
      have w7 := (show I 741 7 = gt (mR I) 7 from (mR_ld (I := I) (k := 7) (by decide +kernel)).symm)
      have b7 := fBd (show bsJ 741 7 = (0, 24) by decide +kernel) h0
      have m7 : (rn_m (mR I) : Int) = gt (mR I) 7 := by unfold rn_m; omega
      refine And.intro ⟨rfl, by decide, by decide⟩ ?_
      refine fload1 rL_741_741_7_7_1_0 h0 hB1 ⟨by decide, by decide⟩ (by first | exact ⟨by decide, by decide⟩ | omega) ?_
      intro z3 lz3 uz3 qz3
      have pz3 := fld_at qz3 7 (by omega)
      have v11 := mL_r (i0 := 7) (i1 := 7) (m := 1) (q := 0) (by decide +kernel) qz3 (by omega) rfl
      refine And.intro (And.intro (by first | exact fi_ hb.2.2.2.2.1.1 hb.2.2.2.2.1.2 rfl | omega) (by first | exact fi_ lz3 uz3 rfl | omega)) (And.intro ?_ ?_)
      · intro c4
        refine And.intro ⟨rfl, by decide, by decide⟩ (And.intro rfl (And.intro (Or.inl rfl) (fputf fb_740_29 (by decide +kernel) hW (by first | exact ⟨by decide, by decide⟩ | omega) ?_)))
        intro IhB5 ehB5 hB5
        have t6 : IhB5 740 27 = I1 740 27 := (congrFun (congrFun ehB5 740) 27).trans (fup_ne (by first | decide | omega))
        have t7 : IhB5 740 28 = I1 740 28 := (congrFun (congrFun ehB5 740) 28).trans (fup_ne (by first | decide | omega))
        have t8 := fup_at ehB5 29 (by first | rfl | omega)
        have t9 : IhB5 741 7 = I1 741 7 := (congrFun (congrFun ehB5 741) 7).trans (fup_ne (by first | decide | omega))
        have k10 := fBz_eq hB5 (a := 741) (j := 7) (by decide +kernel)
        have r64 := mR_ot ehB5 (by decide)
        exact fcutJ (I := IhB5) (j := (jc_M_rounds_3e399_73 x1 x2 x3 x4 I)) (lv' := [(0, .inr (.inr (some 740))), (1, .inl _), (2, .inl _), (3, .inl _), (4, .inl _), (5, .inl _), (6, .inl _)]) (And.intro rfl (And.intro rfl (And.intro rfl (And.intro rfl (And.intro rfl (And.intro rfl (And.intro rfl True.intro))))))) ⟨_, _, _, _, _, _, rfl, rfl, ⟨by omega, (by rw [(show IhB5 754 = I1 754 from funext (fun j => fup_other ehB5 754 j (Or.inl (by decide)))), (show IhB5 755 = I1 755 from funext (fun j => fup_other ehB5 755 j (Or.inl (by decide))))]; exact rHh_0 (by omega) (fun j hj => (hx0 j (by omega)).1) (fun j hj => (hx0 j (by omega)).2)), (by rw [(show IhB5 754 = I1 754 from funext (fun j => fup_other ehB5 754 j (Or.inl (by decide)))), (show IhB5 755 = I1 755 from funext (fun j => fup_other ehB5 755 j (Or.inl (by decide))))]; exact fun j hj => by rw [(hx0 j (by omega)).1, (hx0 j (by omega)).2, ← mL_535 (I := I) (j := j) (by omega) rfl, ← mL_537 (I := I) (j := j) (by omega) rfl]; have q1 := (frL_at rL_741_741_535_857_14_0 h0 (a := 741) (i := 535 + 14 * (j : Int)) (by omega)).2; have q2 := hp0 j (by omega); rw [← mL_537 (I := I) (j := j) (by omega) rfl] at q2; omega), (by rw [show (((0 : Nat) : Int) : Int).toNat = 0 from rfl, rXc_0]; omega), (fun _ q => absurd q (by omega)), (fun _ _ => by omega)⟩, rfl⟩ (by omega)
      · intro c11
        refine And.intro ⟨rfl, by decide, by decide⟩ ?_
        refine And.intro ⟨rfl, by decide, by decide⟩ ?_
        refine Exists.intro xm_244 (And.intro mi_244 (And.intro ⟨rfl, rfl, rfl, rfl⟩ (And.intro rfl ?_)))
        refine fcallp hB1 (ct_M_workAt_83d38 (fBz h0 hB1) (by first | exact ⟨hb.2.2.2.2.1.1, Int.le_trans (Int.le_sub_one_of_lt (Int.lt_of_lt_of_le c11 uz3)) (by decide)⟩ | omega)) ?_
        rintro _ ⟨_, rfl, rfl⟩
        refine fload rL_741_741_535_857_14_0 h0 hB1 (by omega) ?_
        intro z13 lz13 uz13 qz13
        have v33 := mL_r (i0 := 535) (i1 := 857) (m := 14) (q := 0) (by decide +kernel) qz13 (by omega) rfl
        refine fstore1 rS_754_754_0_23_1_0 (fzs_sub (by decide +kernel) hW) ⟨by decide, by decide⟩ (by first | exact ⟨hb.2.2.2.2.1.1, Int.le_trans (Int.le_sub_one_of_lt (Int.lt_of_lt_of_le c11 uz3)) (by decide)⟩ | omega) (by first | exact ⟨Int.le_trans (by decide) lz13, Int.le_trans uz13 (by decide)⟩ | omega) ?_
        intro IhB14 ehB14 hB14
        have t15 := fup_self ehB14
        have t16 : IhB14 740 27 = I1 740 27 := (congrFun (congrFun ehB14 740) 27).trans (fup_ne (by first | exact Or.inl (by decide) | omega))
        have t17 : IhB14 740 28 = I1 740 28 := (congrFun (congrFun ehB14 740) 28).trans (fup_ne (by first | exact Or.inl (by decide) | omega))
        have t18 : IhB14 740 29 = I1 740 29 := (congrFun (congrFun ehB14 740) 29).trans (fup_ne (by first | exact Or.inl (by decide) | omega))
        have t19 : IhB14 741 7 = I1 741 7 := (congrFun (congrFun ehB14 741) 7).trans (fup_ne (by first | exact Or.inl (by decide) | omega))
        have k20 := fBz_eq hB14 (a := 741) (j := 7) (by decide +kernel)
        have r34 := mR_ot ehB14 (by decide)
        refine And.intro ⟨rfl, by decide, by decide⟩ ?_
        refine And.intro ⟨rfl, by decide, by decide⟩ ?_
        refine Exists.intro xm_244 (And.intro mi_244 (And.intro ⟨rfl, rfl, rfl, rfl⟩ (And.intro rfl ?_)))
        refine fcallp hB14 (ct_M_workAt_83d38 (fBz h0 hB14) (by first | exact ⟨hb.2.2.2.2.1.1, Int.le_trans (Int.le_sub_one_of_lt (Int.lt_of_lt_of_le c11 uz3)) (by decide)⟩ | omega)) ?_
        rintro _ ⟨_, rfl, rfl⟩
        refine fload rL_741_741_537_859_14_0 h0 hB14 (by omega) ?_
        intro z22 lz22 uz22 qz22
        have v54 := mL_r (i0 := 537) (i1 := 859) (m := 14) (q := 0) (by decide +kernel) qz22 (by omega) rfl
        rw [r34] at v54
        refine fstore1 rS_755_755_0_23_1_0 (fzs_sub (by decide +kernel) hW) ⟨by decide, by decide⟩ (by first | exact ⟨hb.2.2.2.2.1.1, Int.le_trans (Int.le_sub_one_of_lt (Int.lt_of_lt_of_le c11 uz3)) (by decide)⟩ | omega) (by first | exact ⟨lz22, uz22⟩ | omega) ?_
        intro IhB23 ehB23 hB23
        have t24 := fup_self ehB23
        have t25 : IhB23 740 27 = IhB14 740 27 := (congrFun (congrFun ehB23 740) 27).trans (fup_ne (by first | exact Or.inl (by decide) | omega))
        have t26 : IhB23 740 28 = IhB14 740 28 := (congrFun (congrFun ehB23 740) 28).trans (fup_ne (by first | exact Or.inl (by decide) | omega))
        have t27 : IhB23 740 29 = IhB14 740 29 := (congrFun (congrFun ehB23 740) 29).trans (fup_ne (by first | exact Or.inl (by decide) | omega))
        have t28 : IhB23 741 7 = IhB14 741 7 := (congrFun (congrFun ehB23 741) 7).trans (fup_ne (by first | exact Or.inl (by decide) | omega))
        have k29 := fBz_eq hB23 (a := 741) (j := 7) (by decide +kernel)
        have r55 := mR_ot ehB23 (by decide)
        exact fcutJ (I := IhB23) (j := (jc_M_rounds_3e399_3 x1 x2 x3 x4 I)) (lv' := [(0, .inr (.inr (some 740))), (1, .inl _), (2, .inl _), (3, .inl _), (4, .inl _), (5, .inl _)]) (And.intro rfl (And.intro rfl (And.intro rfl (And.intro rfl (And.intro rfl (And.intro rfl True.intro)))))) ⟨_, _, _, _, _, rfl, rfl, ⟨by omega, (fun j hj => if r : (j : Int) < y5 then ⟨(fup_other ehB23 754 j (Or.inl (by decide))).trans ((fup_other ehB14 754 j (Or.inr (by omega))).trans (hx0 j r).1), (fup_other ehB23 755 j (Or.inr (by omega))).trans ((fup_other ehB14 755 j (Or.inl (by decide))).trans (hx0 j r).2)⟩ else by rw [show j = y5.toNat by omega]; exact ⟨((fup_other ehB23 754 _ (Or.inl (by decide))).trans (fup_at ehB14 y5.toNat (by omega))).trans (show gt (mR I) (535 + 14 * ((y5.toNat : Nat) : Int)) = z13 from by have q := fld_at qz13 (535 + 14 * y5.toNat) (by omega); rw [← mL_535 (I := I) (j := y5.toNat) (by omega) rfl, show (535 + 14 * ((y5.toNat : Nat) : Int)).toNat = 535 + 14 * y5.toNat by omega, ← e41]; exact q.symm).symm, (fup_at ehB23 y5.toNat (by omega)).trans (show gt (mR I) (537 + 14 * ((y5.toNat : Nat) : Int)) = z22 from by have q := fld_at qz22 (537 + 14 * y5.toNat) (by omega); rw [← mL_537 (I := I) (j := y5.toNat) (by omega) rfl, show (537 + 14 * ((y5.toNat : Nat) : Int)).toNat = 537 + 14 * y5.toNat by omega]; rw [fup_other ehB14 741 _ (Or.inl (by decide)), e41] at q; exact q.symm).symm⟩)⟩, rfl⟩ (by omega)
    · rintro m _ _ I1 hB1 ⟨y1, y2, y3, y4, y5, y6, rfl, rfl, ⟨hb, hx0, hx1, hx2, hx3, hx4⟩, hm⟩
      have k30 := fBz_eq hB1 (a := 741) (j := 7) (by decide +kernel)
      have b31 := fBd fb_741_7 (fBz h0 hB1)
      have e41 : I1 741 = I 741 := (funext (fFr_S (fFr_of hB1) (by decide +kernel)))
      have mR1 : mR I1 = mR I := (mR_fr (fFr_of hB1) (by decide +kernel))
      have w7 := (show I 741 7 = gt (mR I) 7 from (mR_ld (I := I) (k := 7) (by decide +kernel)).symm)
      have b7 := fBd (show bsJ 741 7 = (0, 24) by decide +kernel) h0
      have m7 : (rn_m (mR I) : Int) = gt (mR I) 7 := by unfold rn_m; omega
      refine And.intro (And.intro (by first | exact fi_ hb.2.2.2.2.2.1.1 hb.2.2.2.2.2.1.2 rfl | omega) (by first | exact fi_ hb.1.1 hb.1.2 rfl | omega)) (And.intro ?_ ?_)
      · intro c32
        refine And.intro (True.intro) ?_
        exact ⟨_, rfl, (by first | exact ⟨hb.2.2.2.2.1.1, hb.2.2.2.2.1.2⟩ | omega), (by have q := hx2; rw [show y6 = x1 by omega] at q; exact q), (fun q1 q2 => hx3 q1 (by omega))⟩
      · intro c33
        refine Exists.intro xm_456 (And.intro mi_456 (And.intro ⟨rfl, rfl, rfl, rfl⟩ (And.intro rfl ?_)))
        refine fcallp hB1 (ct_M_fitters_2c584 (fBz h0 hB1)) ?_
        rintro _ ⟨z34, rfl, hz34, g0z34⟩
        try rw [mR1] at g0z34
        have nf7 : z34 = (rn_f (mR I) : Int) := by unfold rn_f; rw [← g0z34]; omega
        exact fcutJ (I := I1) (j := (jc_M_rounds_3e399_85 x1 x2 x3 x4 I)) (lv' := [(0, .inr (.inr (some 740))), (1, .inl _), (2, .inl _), (3, .inl _), (4, .inl _), (5, .inl _), (6, .inl _), (7, .inl _)]) (And.intro rfl (And.intro rfl (And.intro rfl (And.intro rfl (And.intro rfl (And.intro rfl (And.intro rfl (And.intro rfl True.intro)))))))) ⟨_, _, _, _, _, _, _, rfl, rfl, ⟨by omega, (rPh_0 (by omega) hx0), (rnB_w hx1 (by omega) (by omega)), hx2, hx3, (fun q1 q2 => hx4 q1 (by omega)), (fun q1 q2 => by rw [show ((rn_f (mR I) : Int) - z34).toNat = 0 by omega, rKc_0]; exact hx4 q1 (by omega)), (by omega)⟩, rfl⟩ (by omega)
    · rintro m _ _ I1 hB1 ⟨y1, y2, y3, y4, y5, y6, y7, rfl, rfl, ⟨hb, hx0, hx1, hx2, hx3, hx4, hx5, hx6⟩, hm⟩
      have k35 := fBz_eq hB1 (a := 741) (j := 7) (by decide +kernel)
      have b36 := fBd fb_741_7 (fBz h0 hB1)
      have e41 : I1 741 = I 741 := (funext (fFr_S (fFr_of hB1) (by decide +kernel)))
      have mR1 : mR I1 = mR I := (mR_fr (fFr_of hB1) (by decide +kernel))
      have w7 := (show I 741 7 = gt (mR I) 7 from (mR_ld (I := I) (k := 7) (by decide +kernel)).symm)
      have b7 := fBd (show bsJ 741 7 = (0, 24) by decide +kernel) h0
      have m7 : (rn_m (mR I) : Int) = gt (mR I) 7 := by unfold rn_m; omega
      refine And.intro (by first | exact fi_ hb.2.2.2.2.2.2.1.1 hb.2.2.2.2.2.2.1.2 rfl | omega) (And.intro ?_ ?_)
      · intro c37
        have ff : ((rn_f (mR I) : Int) - y7).toNat = rn_f (mR I) := by omega
        have at0 := rPh_at hx0 ff
        exact fcutJ (I := I1) (j := (jc_M_rounds_3e399_152 x1 x2 x3 x4 I)) (lv' := [(0, .inr (.inr (some 740))), (1, .inl _), (2, .inl _), (3, .inl _), (4, .inl _), (5, .inl _), (6, .inl _), (7, .inl _)]) (And.intro rfl (And.intro rfl (And.intro rfl (And.intro rfl (And.intro rfl (And.intro rfl (And.intro rfl (And.intro rfl True.intro)))))))) ⟨_, _, _, _, _, _, _, rfl, rfl, ⟨by omega, (rnM_0 (by omega) (fun j hj => (at0 j hj).1) (fun j hj => (at0 j hj).2)), (rnB_w (rnB_cg hx1 (fun j hj => (at0 j hj).1.symm) (fun j hj => (at0 j hj).2.symm)) (by omega) (by omega)), (rnY_z (by omega) hx2), (fun q1 q2 => if r : x4 < y6 then hx3 q1 r else by rw [show x4 = y6 by omega, ← ff]; exact hx5 q1 (by omega)), hx4⟩, rfl⟩ (by omega)
      · intro c38
        refine Exists.intro xm_457 (And.intro mi_457 (And.intro ⟨rfl, rfl, rfl, rfl⟩ (And.intro rfl ?_)))
        refine fcall _ h0 (fzs_sub (by decide +kernel) hW) hB1 (ct_M_nextSkin_f6b67 (fBz h0 hB1) (by first | exact ⟨hb.2.2.2.2.2.1.1, hb.2.2.2.2.2.1.2⟩ | omega) (by first | exact ⟨hb.1.1, hb.1.2⟩ | omega) (by first | exact ⟨hb.2.1.1, hb.2.1.2⟩ | omega) (by rw [mR1]; exact rnB_w hx1 (by omega) (by omega)) (by omega)) ?_
        rintro IhB40 _ hB40 fhB40 ⟨z39, rfl, hz39, g0z39⟩
        have t41 := fhB40 740 29 (by decide +kernel)
        have k42 := fBz_eq hB40 (a := 741) (j := 7) (by decide +kernel)
        have f54 : IhB40 754 = I1 754 := (funext (fFr_at fhB40 754 (by decide +kernel) rfl))
        have f55 : IhB40 755 = I1 755 := (funext (fFr_at fhB40 755 (by decide +kernel) rfl))
        try rw [mR1] at g0z39
        rw [e41, (by omega : y2 = x2), (by omega : y1 = x1)] at g0z39
        have s9 : z39 < ((gt (mR I) 7).toNat : Int) := by rw [g0z39]; exact rnN_sk.2.1
        have g9 := rPh_N hx0 rfl g0z39
        have FF : (rn_f (mR I) : Int) - (y7 - 1) = (rn_f (mR I) : Int) - y7 + 1 := by omega
        refine And.intro (by first | exact fi_ hz39.1 hz39.2 rfl | omega) (And.intro ?_ ?_)
        · intro c43
          exact fcutJ (I := IhB40) (j := (jc_M_rounds_3e399_85 x1 x2 x3 x4 I)) (lv' := [(0, .inr (.inr (some 740))), (1, .inl _), (2, .inl _), (3, .inl _), (4, .inl _), (5, .inl _), (6, .inl _), (7, .inl _)]) (And.intro rfl (And.intro rfl (And.intro rfl (And.intro rfl (And.intro rfl (And.intro rfl (And.intro rfl (And.intro rfl True.intro)))))))) ⟨_, _, _, _, _, _, _, rfl, rfl, ⟨by omega, (by rw [f54, f55]; exact rPh_s hx0 rfl g0z39 (by omega) (by omega) (fun j => (rnU_no (by omega) j).symm) (fun j => rfl)), (by rw [f54, f55]; exact rnB_w (rnB_cg (rnB_U hx1 rfl (b := z39)) (fun j _ => (fun j => (rnU_no (by omega) j).symm) j) (fun j _ => rfl)) (by omega) (by omega)), hx2, (fun q1 q2 => (show IhB40 740 29 = I1 740 29 from by omega).trans (hx3 q1 q2)), (fun q1 q2 => (show IhB40 740 29 = I1 740 29 from by omega).trans (hx4 q1 q2)), (fun q1 q2 => rKc_s g9 (by omega) (by omega) (hx5 q1 q2) (Or.inr ⟨by omega, by omega⟩)), (by omega)⟩, rfl⟩ (by omega)
        · intro c44
          have b33 := hx1 z39.toNat (by omega)
          refine And.intro ⟨rfl, by decide, by decide⟩ ?_
          refine fload1 rL_754_754_0_23_1_0 h0 hB40 ⟨by decide, by decide⟩ (by first | exact ⟨Int.le_trans (by decide) (Int.le_trans (Int.le_refl _) c44), hz39.2⟩ | omega) ?_
          intro z45 lz45 uz45 qz45
          have w112 : z45 = I1 754 z39.toNat := qz45.trans (congrFun f54 _)
          intro z46 hz46 ez46 bz46
          clear ez46
          try replace bz46 := bz46 (by omega)
          refine fstore1 rS_754_754_0_23_1_0 (fzs_sub (by decide +kernel) hW) ⟨by decide, by decide⟩ (by first | exact ⟨Int.le_trans (by decide) (Int.le_trans (Int.le_refl _) c44), hz39.2⟩ | omega) (by omega) ?_
          intro IhB47 ehB47 hB47
          have t48 := fup_self ehB47
          have t49 : IhB47 740 27 = IhB40 740 27 := (congrFun (congrFun ehB47 740) 27).trans (fup_ne (by first | exact Or.inl (by decide) | omega))
          have t50 : IhB47 740 28 = IhB40 740 28 := (congrFun (congrFun ehB47 740) 28).trans (fup_ne (by first | exact Or.inl (by decide) | omega))
          have t51 : IhB47 740 29 = IhB40 740 29 := (congrFun (congrFun ehB47 740) 29).trans (fup_ne (by first | exact Or.inl (by decide) | omega))
          have k52 := fBz_eq hB47 (a := 741) (j := 7) (by decide +kernel)
          have r115 := mR_ot ehB47 (by decide)
          refine And.intro ⟨rfl, by decide, by decide⟩ (fgetf fb_740_29 h0 hB47 ?_)
          intro z53 lz53 uz53 qz53
          refine And.intro (And.intro (by first | exact fi_ (Int.le_trans (Int.le_refl _) c44) hz39.2 rfl | omega) (by first | exact fi_ hb.2.2.1.1 hb.2.2.1.2 rfl | omega)) (And.intro ?_ ?_)
          · intro c54
            intro z55 hz55 ez55 bz55
            clear ez55
            try replace bz55 := bz55 (by omega)
            refine And.intro ⟨rfl, by decide, by decide⟩ (And.intro rfl (And.intro (Or.inl rfl) (fputf fb_740_29 (by decide +kernel) hW (by omega) ?_)))
            intro IhB56 ehB56 hB56
            have t57 : IhB56 740 27 = IhB47 740 27 := (congrFun (congrFun ehB56 740) 27).trans (fup_ne (by first | decide | omega))
            have t58 : IhB56 740 28 = IhB47 740 28 := (congrFun (congrFun ehB56 740) 28).trans (fup_ne (by first | decide | omega))
            have t59 := fup_at ehB56 29 (by first | rfl | omega)
            have k60 := fBz_eq hB56 (a := 741) (j := 7) (by decide +kernel)
            have r140 := mR_ot ehB56 (by decide)
            exact fcutJ (I := IhB56) (j := (jc_M_rounds_3e399_85 x1 x2 x3 x4 I)) (lv' := [(0, .inr (.inr (some 740))), (1, .inl _), (2, .inl _), (3, .inl _), (4, .inl _), (5, .inl _), (6, .inl _), (7, .inl _)]) (And.intro rfl (And.intro rfl (And.intro rfl (And.intro rfl (And.intro rfl (And.intro rfl (And.intro rfl (And.intro rfl True.intro)))))))) ⟨_, _, _, _, _, _, _, rfl, rfl, ⟨by omega, (by rw [show IhB56 754 = IhB47 754 from (funext (fun j => fup_other ehB56 754 j (Or.inl (by decide)))), show IhB56 755 = I1 755 from funext (fun j => (fup_other ehB56 755 j (Or.inl (by decide))).trans ((fup_other ehB47 755 j (Or.inl (by decide))).trans (congrFun f55 j)))]; exact rPh_s hx0 rfl g0z39 (by omega) (by omega) (rnU_put (by omega) (fun j q => (fup_other ehB47 754 j (Or.inr (by omega))).trans (congrFun f54 j)) (fup_at ehB47 z39.toNat (by omega)) (by have q := qz45; have q2 := congrFun f54 z39.toNat; omega)) (fun j => rfl)), (by rw [show IhB56 754 = IhB47 754 from (funext (fun j => fup_other ehB56 754 j (Or.inl (by decide)))), show IhB56 755 = I1 755 from funext (fun j => (fup_other ehB56 755 j (Or.inl (by decide))).trans ((fup_other ehB47 755 j (Or.inl (by decide))).trans (congrFun f55 j)))]; exact rnB_w (rnB_cg (rnB_U hx1 rfl (b := z39)) (fun j _ => (rnU_put (by omega) (fun j q => (fup_other ehB47 754 j (Or.inr (by omega))).trans (congrFun f54 j)) (fup_at ehB47 z39.toNat (by omega)) (by have q := qz45; have q2 := congrFun f54 z39.toNat; omega)) j) (fun j _ => rfl)) (by omega) (by omega)), hx2, (fun q1 q2 => (show IhB56 740 29 = I1 740 29 from by omega).trans (hx3 q1 q2)), (fun q1 q2 => (show IhB56 740 29 = I1 740 29 from by omega).trans (hx4 q1 q2)), (fun q1 q2 => rKc_s g9 (by omega) (by omega) (hx5 q1 q2) (Or.inr ⟨by omega, by omega⟩)), (by omega)⟩, rfl⟩ (by omega)
          · intro c61
            refine And.intro (And.intro (by first | exact fi_ hb.2.2.2.2.2.1.1 hb.2.2.2.2.2.1.2 rfl | omega) (by first | exact fi_ hb.2.2.2.1.1 hb.2.2.2.1.2 rfl | omega)) (And.intro ?_ ?_)
            · intro c62
              intro z63 hz63 ez63 bz63
              clear ez63
              try replace bz63 := bz63 (by omega)
              refine And.intro ⟨rfl, by decide, by decide⟩ (And.intro rfl (And.intro (Or.inl rfl) (fputf fb_740_29 (by decide +kernel) hW (by omega) ?_)))
              intro IhB64 ehB64 hB64
              have t65 : IhB64 740 27 = IhB47 740 27 := (congrFun (congrFun ehB64 740) 27).trans (fup_ne (by first | decide | omega))
              have t66 : IhB64 740 28 = IhB47 740 28 := (congrFun (congrFun ehB64 740) 28).trans (fup_ne (by first | decide | omega))
              have t67 := fup_at ehB64 29 (by first | rfl | omega)
              have k68 := fBz_eq hB64 (a := 741) (j := 7) (by decide +kernel)
              have r140 := mR_ot ehB64 (by decide)
              exact fcutJ (I := IhB64) (j := (jc_M_rounds_3e399_85 x1 x2 x3 x4 I)) (lv' := [(0, .inr (.inr (some 740))), (1, .inl _), (2, .inl _), (3, .inl _), (4, .inl _), (5, .inl _), (6, .inl _), (7, .inl _)]) (And.intro rfl (And.intro rfl (And.intro rfl (And.intro rfl (And.intro rfl (And.intro rfl (And.intro rfl (And.intro rfl True.intro)))))))) ⟨_, _, _, _, _, _, _, rfl, rfl, ⟨by omega, (by rw [show IhB64 754 = IhB47 754 from (funext (fun j => fup_other ehB64 754 j (Or.inl (by decide)))), show IhB64 755 = I1 755 from funext (fun j => (fup_other ehB64 755 j (Or.inl (by decide))).trans ((fup_other ehB47 755 j (Or.inl (by decide))).trans (congrFun f55 j)))]; exact rPh_s hx0 rfl g0z39 (by omega) (by omega) (rnU_put (by omega) (fun j q => (fup_other ehB47 754 j (Or.inr (by omega))).trans (congrFun f54 j)) (fup_at ehB47 z39.toNat (by omega)) (by have q := qz45; have q2 := congrFun f54 z39.toNat; omega)) (fun j => rfl)), (by rw [show IhB64 754 = IhB47 754 from (funext (fun j => fup_other ehB64 754 j (Or.inl (by decide)))), show IhB64 755 = I1 755 from funext (fun j => (fup_other ehB64 755 j (Or.inl (by decide))).trans ((fup_other ehB47 755 j (Or.inl (by decide))).trans (congrFun f55 j)))]; exact rnB_w (rnB_cg (rnB_U hx1 rfl (b := z39)) (fun j _ => (rnU_put (by omega) (fun j q => (fup_other ehB47 754 j (Or.inr (by omega))).trans (congrFun f54 j)) (fup_at ehB47 z39.toNat (by omega)) (by have q := qz45; have q2 := congrFun f54 z39.toNat; omega)) j) (fun j _ => rfl)) (by omega) (by omega)), hx2, (fun q1 q2 => (show IhB64 740 29 = I1 740 29 from by omega).trans (hx3 q1 q2)), (fun q1 q2 => (show IhB64 740 29 = I1 740 29 from by omega).trans (hx4 q1 q2)), (fun q1 q2 => absurd q2 (by omega)), (by omega)⟩, rfl⟩ (by omega)
            · intro c69
              intro z70 hz70 ez70 bz70
              clear ez70
              try replace bz70 := bz70 (by omega)
              refine And.intro ⟨rfl, by decide, by decide⟩ (And.intro rfl (And.intro (Or.inl rfl) (fputf fb_740_29 (by decide +kernel) hW (by omega) ?_)))
              intro IhB71 ehB71 hB71
              have t72 : IhB71 740 27 = IhB47 740 27 := (congrFun (congrFun ehB71 740) 27).trans (fup_ne (by first | decide | omega))
              have t73 : IhB71 740 28 = IhB47 740 28 := (congrFun (congrFun ehB71 740) 28).trans (fup_ne (by first | decide | omega))
              have t74 := fup_at ehB71 29 (by first | rfl | omega)
              have k75 := fBz_eq hB71 (a := 741) (j := 7) (by decide +kernel)
              have r140 := mR_ot ehB71 (by decide)
              exact fcutJ (I := IhB71) (j := (jc_M_rounds_3e399_85 x1 x2 x3 x4 I)) (lv' := [(0, .inr (.inr (some 740))), (1, .inl _), (2, .inl _), (3, .inl _), (4, .inl _), (5, .inl _), (6, .inl _), (7, .inl _)]) (And.intro rfl (And.intro rfl (And.intro rfl (And.intro rfl (And.intro rfl (And.intro rfl (And.intro rfl (And.intro rfl True.intro)))))))) ⟨_, _, _, _, _, _, _, rfl, rfl, ⟨by omega, (by rw [show IhB71 754 = IhB47 754 from (funext (fun j => fup_other ehB71 754 j (Or.inl (by decide)))), show IhB71 755 = I1 755 from funext (fun j => (fup_other ehB71 755 j (Or.inl (by decide))).trans ((fup_other ehB47 755 j (Or.inl (by decide))).trans (congrFun f55 j)))]; exact rPh_s hx0 rfl g0z39 (by omega) (by omega) (rnU_put (by omega) (fun j q => (fup_other ehB47 754 j (Or.inr (by omega))).trans (congrFun f54 j)) (fup_at ehB47 z39.toNat (by omega)) (by have q := qz45; have q2 := congrFun f54 z39.toNat; omega)) (fun j => rfl)), (by rw [show IhB71 754 = IhB47 754 from (funext (fun j => fup_other ehB71 754 j (Or.inl (by decide)))), show IhB71 755 = I1 755 from funext (fun j => (fup_other ehB71 755 j (Or.inl (by decide))).trans ((fup_other ehB47 755 j (Or.inl (by decide))).trans (congrFun f55 j)))]; exact rnB_w (rnB_cg (rnB_U hx1 rfl (b := z39)) (fun j _ => (rnU_put (by omega) (fun j q => (fup_other ehB47 754 j (Or.inr (by omega))).trans (congrFun f54 j)) (fup_at ehB47 z39.toNat (by omega)) (by have q := qz45; have q2 := congrFun f54 z39.toNat; omega)) j) (fun j _ => rfl)) (by omega) (by omega)), hx2, (fun q1 q2 => absurd q2 (by omega)), (fun q1 q2 => absurd q2 (by omega)), (fun q1 q2 => rKc_s g9 (by omega) (by omega) (hx5 q1 q2) (Or.inl ⟨by omega, by omega⟩)), (by omega)⟩, rfl⟩ (by omega)
    · rintro m _ _ I1 hB1 ⟨y1, y2, y3, y4, y5, y6, y7, rfl, rfl, ⟨hb, hx0, hx1, hx2, hx3, hx4⟩, hm⟩
      have k76 := fBz_eq hB1 (a := 741) (j := 7) (by decide +kernel)
      have b77 := fBd fb_741_7 (fBz h0 hB1)
      have e41 : I1 741 = I 741 := (funext (fFr_S (fFr_of hB1) (by decide +kernel)))
      have mR1 : mR I1 = mR I := (mR_fr (fFr_of hB1) (by decide +kernel))
      have w7 := (show I 741 7 = gt (mR I) 7 from (mR_ld (I := I) (k := 7) (by decide +kernel)).symm)
      have b7 := fBd (show bsJ 741 7 = (0, 24) by decide +kernel) h0
      have m7 : (rn_m (mR I) : Int) = gt (mR I) 7 := by unfold rn_m; omega
      refine And.intro ⟨rfl, by decide, by decide⟩ ?_
      refine fload1 rL_741_741_7_7_1_0 h0 hB1 ⟨by decide, by decide⟩ (by first | exact ⟨by decide, by decide⟩ | omega) ?_
      intro z78 lz78 uz78 qz78
      have pz78 := fld_at qz78 7 (by omega)
      have v160 := mL_r (i0 := 7) (i1 := 7) (m := 1) (q := 0) (by decide +kernel) qz78 (by omega) rfl
      refine And.intro (And.intro (by first | exact fi_ hb.2.2.2.2.2.2.1.1 hb.2.2.2.2.2.2.1.2 rfl | omega) (by first | exact fi_ lz78 uz78 rfl | omega)) (And.intro ?_ ?_)
      · intro c79
        have c22 : 0 ≤ rnW (fun j : Nat => I 741 (4510 + j)) y6.toNat ∧ rnW (fun j : Nat => I 741 (4510 + j)) y6.toNat ≤ 999 := by rw [rnW_at (by omega)]; have q := (frL_at rL_741_741_4510_4557_1_0 h0 (a := 741) (i := 4510 + y6) (by omega)).2; rw [show (4510 + y6).toNat = 4510 + y6.toNat by omega] at q; exact q
        have ym : y7.toNat = rn_m (mR I) := by omega
        exact fcutJ (I := I1) (j := (jc_M_rounds_3e399_73 x1 x2 x3 x4 I)) (lv' := [(0, .inr (.inr (some 740))), (1, .inl _), (2, .inl _), (3, .inl _), (4, .inl _), (5, .inl _), (6, .inl _)]) (And.intro rfl (And.intro rfl (And.intro rfl (And.intro rfl (And.intro rfl (And.intro rfl (And.intro rfl True.intro))))))) ⟨_, _, _, _, _, _, rfl, rfl, ⟨by omega, (rHh_e (by omega) (by omega) ym rfl hx0), (rnB_w (rnB_M hx1 (by omega) hx0 rfl) (by omega) (by omega)), (rXc_n ym (by omega) (by omega) rfl hx2), (fun q1 q2 => hx3 q1 (by omega)), (fun q1 q2 => hx4 q1 (by omega))⟩, rfl⟩ (by omega)
      · intro c80
        refine Exists.intro xm_458 (And.intro mi_458 (And.intro ⟨rfl, rfl, rfl, rfl⟩ (And.intro rfl ?_)))
        refine fcallp hB1 (ct_M_isSkin_da592 (fBz h0 hB1) (by first | exact ⟨hb.2.2.2.2.2.2.1.1, Int.le_trans (Int.le_sub_one_of_lt (Int.lt_of_lt_of_le c80 uz78)) (by decide)⟩ | omega)) ?_
        rintro _ ⟨z81, rfl, hz81, g0z81⟩
        try rw [mR1] at g0z81
        refine And.intro (by omega) (And.intro ?_ ?_)
        · intro c82
          exact fcutJ (I := I1) (j := (jc_M_rounds_3e399_152 x1 x2 x3 x4 I)) (lv' := [(0, .inr (.inr (some 740))), (1, .inl _), (2, .inl _), (3, .inl _), (4, .inl _), (5, .inl _), (6, .inl _), (7, .inl _)]) (And.intro rfl (And.intro rfl (And.intro rfl (And.intro rfl (And.intro rfl (And.intro rfl (And.intro rfl (And.intro rfl True.intro)))))))) ⟨_, _, _, _, _, _, _, rfl, rfl, ⟨by omega, (rnM_no hx0 (by omega) (show ¬ skW (mR I) y7.toNat from by have q := (g0z81.elim (fun q => absurd q.1 (by omega)) (fun q => q.2)); rw [show y7 = ((y7.toNat : Nat) : Int) by omega] at q; exact q) (by omega)), hx1, (rnY_f (by omega) hx2 (Or.inl (fun q => absurd q.1 (show ¬ skW (mR I) y7.toNat from by have q := (g0z81.elim (fun q => absurd q.1 (by omega)) (fun q => q.2)); rw [show y7 = ((y7.toNat : Nat) : Int) by omega] at q; exact q))) (by omega) (by omega)), (fun q1 q2 => (show I1 740 29 = I1 740 29 from by omega).trans (hx3 q1 q2)), (fun q1 q2 => (show I1 740 29 = I1 740 29 from by omega).trans (hx4 q1 q2))⟩, rfl⟩ (by omega)
        · intro c83
          have hs := (show skW (mR I) y7.toNat from by have q := (g0z81.elim (fun q => q.2) (fun q => absurd q.1 (by omega))); rw [show y7 = ((y7.toNat : Nat) : Int) by omega] at q; exact q)
          have o0 := (hx0 y7.toNat (by omega)).2 (by omega)
          have b0 := hx1 y7.toNat (by omega)
          rw [← o0.1, ← o0.2] at b0
          refine And.intro ⟨rfl, by decide, by decide⟩ ?_
          refine fload1 rL_754_754_0_23_1_0 h0 hB1 ⟨by decide, by decide⟩ (by first | exact ⟨hb.2.2.2.2.2.2.1.1, Int.le_trans (Int.le_sub_one_of_lt (Int.lt_of_lt_of_le c80 uz78)) (by decide)⟩ | omega) ?_
          intro z84 lz84 uz84 qz84
          refine And.intro ⟨rfl, by decide, by decide⟩ (And.intro rfl (And.intro (Or.inl rfl) (fputf fb_740_27 (by decide +kernel) hW (by first | exact ⟨lz84, uz84⟩ | omega) ?_)))
          intro IhB85 ehB85 hB85
          have t86 := fup_at ehB85 27 (by first | rfl | omega)
          have t87 : IhB85 740 28 = I1 740 28 := (congrFun (congrFun ehB85 740) 28).trans (fup_ne (by first | decide | omega))
          have t88 : IhB85 740 29 = I1 740 29 := (congrFun (congrFun ehB85 740) 29).trans (fup_ne (by first | decide | omega))
          have t89 : IhB85 741 7 = I1 741 7 := (congrFun (congrFun ehB85 741) 7).trans (fup_ne (by first | decide | omega))
          have k90 := fBz_eq hB85 (a := 741) (j := 7) (by decide +kernel)
          have r181 := mR_ot ehB85 (by decide)
          refine And.intro ⟨rfl, by decide, by decide⟩ ?_
          refine fload1 rL_755_755_0_23_1_0 h0 hB85 ⟨by decide, by decide⟩ (by first | exact ⟨hb.2.2.2.2.2.2.1.1, Int.le_trans (Int.le_sub_one_of_lt (Int.lt_of_lt_of_le c80 uz78)) (by decide)⟩ | omega) ?_
          intro z91 lz91 uz91 qz91
          have w191 : z91 = I1 755 y7.toNat := qz91.trans (fup_other ehB85 755 _ (Or.inl (by decide)))
          refine And.intro ⟨rfl, by decide, by decide⟩ (And.intro rfl (And.intro (Or.inl rfl) (fputf fb_740_28 (by decide +kernel) hW (by first | exact ⟨lz91, uz91⟩ | omega) ?_)))
          intro IhB92 ehB92 hB92
          have t93 : IhB92 740 27 = IhB85 740 27 := (congrFun (congrFun ehB92 740) 27).trans (fup_ne (by first | decide | omega))
          have t94 := fup_at ehB92 28 (by first | rfl | omega)
          have t95 : IhB92 740 29 = IhB85 740 29 := (congrFun (congrFun ehB92 740) 29).trans (fup_ne (by first | decide | omega))
          have t96 : IhB92 741 7 = IhB85 741 7 := (congrFun (congrFun ehB92 741) 7).trans (fup_ne (by first | decide | omega))
          have k97 := fBz_eq hB92 (a := 741) (j := 7) (by decide +kernel)
          have r192 := mR_ot ehB92 (by decide)
          refine Exists.intro xm_460 (And.intro mi_460 (And.intro ⟨rfl, rfl, rfl, rfl⟩ (And.intro rfl ?_)))
          refine fcall _ h0 (fzs_sub (by decide +kernel) hW) hB92 (ct_M_weathers_325ea (fBz h0 hB92) (by first | exact ⟨hb.2.2.2.2.2.1.1, hb.2.2.2.2.2.1.2⟩ | omega) (by omega) (by omega)) ?_
          rintro IhB99 _ hB99 fhB99 ⟨rfl, hz98⟩
          have t100 := fhB99 740 29 (by decide +kernel)
          have t101 := fhB99 741 7 (by decide +kernel)
          have k102 := fBz_eq hB99 (a := 741) (j := 7) (by decide +kernel)
          have r198 := mR_fr fhB99 (by decide +kernel)
          have w41 : IhB92 741 = I 741 := (funext (fun j => (fup_other ehB92 741 j (Or.inl (by decide))).trans (fup_other ehB85 741 j (Or.inl (by decide))))).trans e41
          rw [w41] at hz98
          have wA : rnW (fun j : Nat => I 741 (4510 + j)) y6.toNat = I 741 (4510 + y6.toNat) := rnW_at (by omega)
          have f54 : IhB99 754 = IhB92 754 := (funext (fFr_at fhB99 754 (by decide +kernel) rfl))
          have f55 : IhB99 755 = IhB92 755 := (funext (fFr_at fhB99 755 (by decide +kernel) rfl))
          refine And.intro ⟨rfl, by decide, by decide⟩ ?_
          refine And.intro ⟨rfl, by decide, by decide⟩ (fgetf fb_740_27 h0 hB99 ?_)
          intro z103 lz103 uz103 qz103
          refine fstore1 rS_754_754_0_23_1_0 (fzs_sub (by decide +kernel) hW) ⟨by decide, by decide⟩ (by first | exact ⟨hb.2.2.2.2.2.2.1.1, Int.le_trans (Int.le_sub_one_of_lt (Int.lt_of_lt_of_le c80 uz78)) (by decide)⟩ | omega) (by first | exact ⟨lz103, uz103⟩ | omega) ?_
          intro IhB104 ehB104 hB104
          have t105 := fup_self ehB104
          have t106 : IhB104 740 27 = IhB99 740 27 := (congrFun (congrFun ehB104 740) 27).trans (fup_ne (by first | exact Or.inl (by decide) | omega))
          have t107 : IhB104 740 28 = IhB99 740 28 := (congrFun (congrFun ehB104 740) 28).trans (fup_ne (by first | exact Or.inl (by decide) | omega))
          have t108 : IhB104 740 29 = IhB99 740 29 := (congrFun (congrFun ehB104 740) 29).trans (fup_ne (by first | exact Or.inl (by decide) | omega))
          have t109 : IhB104 741 7 = IhB99 741 7 := (congrFun (congrFun ehB104 741) 7).trans (fup_ne (by first | exact Or.inl (by decide) | omega))
          have k110 := fBz_eq hB104 (a := 741) (j := 7) (by decide +kernel)
          have r211 := mR_ot ehB104 (by decide)
          refine And.intro ⟨rfl, by decide, by decide⟩ ?_
          refine And.intro ⟨rfl, by decide, by decide⟩ (fgetf fb_740_28 h0 hB104 ?_)
          intro z111 lz111 uz111 qz111
          refine fstore1 rS_755_755_0_23_1_0 (fzs_sub (by decide +kernel) hW) ⟨by decide, by decide⟩ (by first | exact ⟨hb.2.2.2.2.2.2.1.1, Int.le_trans (Int.le_sub_one_of_lt (Int.lt_of_lt_of_le c80 uz78)) (by decide)⟩ | omega) (by first | exact ⟨lz111, uz111⟩ | omega) ?_
          intro IhB112 ehB112 hB112
          have t113 := fup_self ehB112
          have t114 : IhB112 740 27 = IhB104 740 27 := (congrFun (congrFun ehB112 740) 27).trans (fup_ne (by first | exact Or.inl (by decide) | omega))
          have t115 : IhB112 740 28 = IhB104 740 28 := (congrFun (congrFun ehB112 740) 28).trans (fup_ne (by first | exact Or.inl (by decide) | omega))
          have t116 : IhB112 740 29 = IhB104 740 29 := (congrFun (congrFun ehB112 740) 29).trans (fup_ne (by first | exact Or.inl (by decide) | omega))
          have t117 : IhB112 741 7 = IhB104 741 7 := (congrFun (congrFun ehB112 741) 7).trans (fup_ne (by first | exact Or.inl (by decide) | omega))
          have k118 := fBz_eq hB112 (a := 741) (j := 7) (by decide +kernel)
          have r222 := mR_ot ehB112 (by decide)
          refine And.intro (by first | exact fi_ hb.2.2.2.2.1.1 hb.2.2.2.2.1.2 rfl | omega) (And.intro ?_ ?_)
          · intro c119
            exact fcutJ (I := IhB112) (j := (jc_M_rounds_3e399_152 x1 x2 x3 x4 I)) (lv' := [(0, .inr (.inr (some 740))), (1, .inl _), (2, .inl _), (3, .inl _), (4, .inl _), (5, .inl _), (6, .inl _), (7, .inl _)]) (And.intro rfl (And.intro rfl (And.intro rfl (And.intro rfl (And.intro rfl (And.intro rfl (And.intro rfl (And.intro rfl True.intro)))))))) ⟨_, _, _, _, _, _, _, rfl, rfl, ⟨by omega, (rnM_y hx0 (by omega) hs (by omega) (fun j q => (fup_other ehB112 754 j (Or.inl (by decide))).trans ((fup_other ehB104 754 j (Or.inr (by omega))).trans ((congrFun f54 j).trans ((fup_other ehB92 754 j (Or.inl (by decide))).trans (fup_other ehB85 754 j (Or.inl (by decide))))))) (fun j q => (fup_other ehB112 755 j (Or.inr (by omega))).trans ((fup_other ehB104 755 j (Or.inl (by decide))).trans ((congrFun f55 j).trans ((fup_other ehB92 755 j (Or.inl (by decide))).trans (fup_other ehB85 755 j (Or.inl (by decide))))))) (((fup_other ehB112 754 _ (Or.inl (by decide))).trans (fup_at ehB104 y7.toNat (by omega))).trans (by rw [wA]; omega)) ((fup_at ehB112 y7.toNat (by omega)).trans (by rw [wA]; omega))), hx1, (rnY_f (by omega) hx2 (Or.inr (by omega)) (by omega) (by omega)), (fun q1 q2 => (show IhB112 740 29 = I1 740 29 from by omega).trans (hx3 q1 q2)), (fun q1 q2 => (show IhB112 740 29 = I1 740 29 from by omega).trans (hx4 q1 q2))⟩, rfl⟩ (by omega)
          · intro c120
            refine And.intro ⟨rfl, by decide, by decide⟩ ?_
            refine fload1 rL_754_754_0_23_1_0 h0 hB112 ⟨by decide, by decide⟩ (by first | exact ⟨hb.2.2.2.2.2.2.1.1, Int.le_trans (Int.le_sub_one_of_lt (Int.lt_of_lt_of_le c80 uz78)) (by decide)⟩ | omega) ?_
            intro z121 lz121 uz121 qz121
            refine And.intro (And.intro (by first | exact fi_ lz121 uz121 rfl | omega) (by first | exact fi_ hb.2.1.1 hb.2.1.2 rfl | omega)) (And.intro ?_ ?_)
            · intro c122
              exact fcutJ (I := IhB112) (j := (jc_M_rounds_3e399_152 x1 x2 x3 x4 I)) (lv' := [(0, .inr (.inr (some 740))), (1, .inl _), (2, .inl _), (3, .inl _), (4, .inl _), (5, .inl _), (6, .inl _), (7, .inl _)]) (And.intro rfl (And.intro rfl (And.intro rfl (And.intro rfl (And.intro rfl (And.intro rfl (And.intro rfl (And.intro rfl True.intro)))))))) ⟨_, _, _, _, _, _, _, rfl, rfl, ⟨by omega, (rnM_y hx0 (by omega) hs (by omega) (fun j q => (fup_other ehB112 754 j (Or.inl (by decide))).trans ((fup_other ehB104 754 j (Or.inr (by omega))).trans ((congrFun f54 j).trans ((fup_other ehB92 754 j (Or.inl (by decide))).trans (fup_other ehB85 754 j (Or.inl (by decide))))))) (fun j q => (fup_other ehB112 755 j (Or.inr (by omega))).trans ((fup_other ehB104 755 j (Or.inl (by decide))).trans ((congrFun f55 j).trans ((fup_other ehB92 755 j (Or.inl (by decide))).trans (fup_other ehB85 755 j (Or.inl (by decide))))))) (((fup_other ehB112 754 _ (Or.inl (by decide))).trans (fup_at ehB104 y7.toNat (by omega))).trans (by rw [wA]; omega)) ((fup_at ehB112 y7.toNat (by omega)).trans (by rw [wA]; omega))), hx1, (rnY_f (by omega) hx2 (Or.inl (fun q => by have q2 := q.2; rw [(rnL_at hs).1, ← o0.1, ← o0.2, wA] at q2; have s := (fup_other ehB112 754 y7.toNat (Or.inl (by decide))).trans (fup_at ehB104 y7.toNat (by omega)); have s2 := qz121; omega)) (by omega) (by omega)), (fun q1 q2 => (show IhB112 740 29 = I1 740 29 from by omega).trans (hx3 q1 q2)), (fun q1 q2 => (show IhB112 740 29 = I1 740 29 from by omega).trans (hx4 q1 q2))⟩, rfl⟩ (by omega)
            · intro c123
              exact fcutJ (I := IhB112) (j := (jc_M_rounds_3e399_152 x1 x2 x3 x4 I)) (lv' := [(0, .inr (.inr (some 740))), (1, .inl _), (2, .inl _), (3, .inl _), (4, .inl _), (5, .inl _), (6, .inl _), (7, .inl _)]) (And.intro rfl (And.intro rfl (And.intro rfl (And.intro rfl (And.intro rfl (And.intro rfl (And.intro rfl (And.intro rfl True.intro)))))))) ⟨_, _, _, _, _, _, _, rfl, rfl, ⟨by omega, (rnM_y hx0 (by omega) hs (by omega) (fun j q => (fup_other ehB112 754 j (Or.inl (by decide))).trans ((fup_other ehB104 754 j (Or.inr (by omega))).trans ((congrFun f54 j).trans ((fup_other ehB92 754 j (Or.inl (by decide))).trans (fup_other ehB85 754 j (Or.inl (by decide))))))) (fun j q => (fup_other ehB112 755 j (Or.inr (by omega))).trans ((fup_other ehB104 755 j (Or.inl (by decide))).trans ((congrFun f55 j).trans ((fup_other ehB92 755 j (Or.inl (by decide))).trans (fup_other ehB85 755 j (Or.inl (by decide))))))) (((fup_other ehB112 754 _ (Or.inl (by decide))).trans (fup_at ehB104 y7.toNat (by omega))).trans (by rw [wA]; omega)) ((fup_at ehB112 y7.toNat (by omega)).trans (by rw [wA]; omega))), hx1, (rnY_t (by omega) hx2 hs (by rw [(rnL_at hs).1, ← o0.1, ← o0.2, wA]; have s := (fup_other ehB112 754 y7.toNat (Or.inl (by decide))).trans (fup_at ehB104 y7.toNat (by omega)); have s2 := qz121; omega) (by omega) (by omega) (by omega) (by omega)), (fun q1 q2 => (show IhB112 740 29 = I1 740 29 from by omega).trans (hx3 q1 q2)), (fun q1 q2 => (show IhB112 740 29 = I1 740 29 from by omega).trans (hx4 q1 q2))⟩, rfl⟩ (by omega)
  · have hB0 := fB_self (zn := znJ) (K := fKc wz_e4773) h0
    have b124 := fBd fb_741_7 (fBz h0 hB0)
    exact fcutJ (I := I) (j := (jc_M_rounds_3e399_3 x1 x2 x3 x4 I)) (lv' := [(0, .inr (.inr (some 740))), (1, .inl _), (2, .inl _), (3, .inl _), (4, .inl _), (5, .inl _)]) (And.intro rfl (And.intro rfl (And.intro rfl (And.intro rfl (And.intro rfl (And.intro rfl True.intro)))))) ⟨_, _, _, _, _, rfl, rfl, ⟨by omega, (fun j hj => absurd hj (by omega))⟩, rfl⟩ (by omega)
set_option maxRecDepth 8000 in
theorem ct_M_lack_9f82b {I : fH} {x1 : Int} {x2 : Int} (h0 : fB bsJ I) (ha1 : ((-2147483648) ≤ x1 ∧ x1 ≤ 2147483647)) (ha2 : ((-2147483648) ≤ x2 ∧ x2 ≤ 2147483647)) (hp0 : rnOK (mR I)) : fC ρ base n F xTc vwCl xTys D dA la gJ (fbz bsJ znJ (fKc wz_e4773) I) xm_454 [.inr (.inr (some 740)), .inl x1, .inl x2] I (fun _ r => ∃ z, r = some (.inl z) ∧ ((0 ≤ z ∧ z ≤ 2147483647) ∨ z = (-1000000005) ∨ z = (-1000000001)) ∧ ((((1 ≤ x1 ∧ x1 ≤ 48) ∧ (0 ≤ x2 ∧ x2 ≤ 9)) → z = rnV (rXc (mR I) (rnW (fun j : Nat => I 741 (4510 + j))) x2 x1.toNat x1.toNat)) ∧ (¬ ((1 ≤ x1 ∧ x1 ≤ 48) ∧ (0 ≤ x2 ∧ x2 ≤ 9)) → z = (-1000000001)))) := by
  have hW : fzs wz_e4773 (fKc wz_e4773) := fKc_ok _
  refine f_meth (rb := rbJ) (J := []) 1 400 xG xin_454 x6_454 okJ (fB_self h0) ?_ ?_
  · exact fun q h => absurd h List.not_mem_nil
  · have hB0 := fB_self (zn := znJ) (K := fKc wz_e4773) h0
    refine And.intro (by first | exact fi_ ha1.1 ha1.2 rfl | omega) ?_
    refine Exists.intro xm_238 (And.intro mi_238 (And.intro ⟨rfl, rfl, rfl, rfl⟩ (And.intro True.intro ?_)))
    refine fcallp hB0 (ct_M_isIn_27230 (fBz h0 hB0) (by first | exact ⟨ha1.1, ha1.2⟩ | omega) (by first | exact ⟨by decide, by decide⟩ | omega) (by first | exact ⟨by decide, by decide⟩ | omega)) ?_
    rintro _ ⟨z1, rfl, hz1⟩
    refine And.intro (by omega) (And.intro ?_ ?_)
    · intro c2
      refine And.intro (True.intro) ?_
      exact ⟨_, rfl, by omega, ⟨fun q => by exfalso; omega, fun _ => by omega⟩⟩
    · intro c3
      refine And.intro (by first | exact fi_ ha2.1 ha2.2 rfl | omega) ?_
      refine Exists.intro xm_238 (And.intro mi_238 (And.intro ⟨rfl, rfl, rfl, rfl⟩ (And.intro True.intro ?_)))
      refine fcallp hB0 (ct_M_isIn_27230 (fBz h0 hB0) (by first | exact ⟨ha2.1, ha2.2⟩ | omega) (by first | exact ⟨by decide, by decide⟩ | omega) (by first | exact ⟨by decide, by decide⟩ | omega)) ?_
      rintro _ ⟨z4, rfl, hz4⟩
      refine And.intro (by omega) (And.intro ?_ ?_)
      · intro c5
        refine And.intro (True.intro) ?_
        exact ⟨_, rfl, by omega, ⟨fun q => by exfalso; omega, fun _ => by omega⟩⟩
      · intro c6
        refine Exists.intro xm_455 (And.intro mi_455 (And.intro ⟨rfl, rfl, rfl, rfl⟩ (And.intro rfl ?_)))
        refine fcall _ h0 (fzs_sub (by decide +kernel) hW) hB0 (ct_M_rounds_3e399 (fBz h0 hB0) (by first | exact ⟨Int.le_trans (by decide) (Int.le_trans (Int.le_refl _) hz1.1), Int.le_trans (Int.le_trans hz1.2 (Int.le_refl _)) (by decide)⟩ | omega) (by first | exact ⟨Int.le_trans (by decide) (Int.le_trans (Int.le_refl _) hz4.1), Int.le_trans (Int.le_trans hz4.2 (Int.le_refl _)) (by decide)⟩ | omega) (by first | exact ⟨by decide, by decide⟩ | omega) (by first | exact ⟨by decide, by decide⟩ | omega) hp0) ?_
        rintro IhB8 _ hB8 fhB8 ⟨z7, rfl, hz7, g0z7, g1z7⟩
        refine Exists.intro xm_269 (And.intro mi_269 (And.intro ⟨rfl, rfl, rfl, rfl⟩ (And.intro True.intro ?_)))
        refine fcallp hB8 (ct_M_orNone_a2a87 (fBz h0 hB8) (by first | exact ⟨Int.le_trans (by decide) hz7.1, Int.le_trans hz7.2 (by decide)⟩ | omega)) ?_
        rintro _ ⟨z9, rfl, hz9, g0z9⟩
        refine And.intro (True.intro) ?_
        exact ⟨_, rfl, by omega, ⟨fun _ => g0z9.trans (by rw [g0z7]; rfl), fun q => absurd ⟨⟨by omega, by omega⟩, by omega, by omega⟩ q⟩⟩
set_option maxRecDepth 8000 in
theorem ct_X_sewn_05190 {I : fH} {x1 : Int} {x2 : Int} {x3 : Int} {x4 : Int} (h0 : fB bsJ I) (ha1 : ((-2147483648) ≤ x1 ∧ x1 ≤ 2147483647)) (ha2 : ((-2147483648) ≤ x2 ∧ x2 ≤ 2147483647)) (ha3 : ((-2147483648) ≤ x3 ∧ x3 ≤ 2147483647)) (ha4 : ((-2147483648) ≤ x4 ∧ x4 ≤ 2147483647)) : fC ρ base n F xTc vwCl xTys D dA la gJ (fbz bsJ znJ (fKc wz_81562) I) xm_185 [.inr (.inr (some 0)), .inl x1, .inl x2, .inl x3, .inl x4] I (fun _ r => ∃ z, r = some (.inl z) ∧ ((-2147483648) ≤ z ∧ z ≤ 2147483647) ∧ ((((1 ≤ x1 ∧ x1 ≤ 48) ∧ (0 ≤ x2 ∧ x2 ≤ 9) ∧ (0 ≤ x3 ∧ x3 < I 163 13) ∧ (0 ≤ x4 ∧ x4 < x1)) → z = rKc (cR 0 I) (rnW (I 222)) x2 x1.toNat x3 x4.toNat (rn_f (cR 0 I))) ∧ (¬ ((1 ≤ x1 ∧ x1 ≤ 48) ∧ (0 ≤ x2 ∧ x2 ≤ 9) ∧ (0 ≤ x3 ∧ x3 < I 163 13) ∧ (0 ≤ x4 ∧ x4 < x1)) → z = (-1000000001)))) := by
  have hW : fzs wz_81562 (fKc wz_81562) := fKc_ok _
  refine f_meth (rb := rbJ) (J := []) 1 400 xG xin_185 x6_185 okJ (fB_self h0) ?_ ?_
  · exact fun q h => absurd h List.not_mem_nil
  · have hB0 := fB_self (zn := znJ) (K := fKc wz_81562) h0
    have b1 := fBd fb_163_13 (fBz h0 hB0)
    refine Exists.intro xm_13 (And.intro mi_13 (And.intro ⟨rfl, rfl, rfl, rfl⟩ (And.intro True.intro ?_)))
    refine fcallp hB0 (ct_X_within_c27b1 (fBz h0 hB0) (by first | exact ⟨ha1.1, ha1.2⟩ | omega) (by first | exact ⟨by decide, by decide⟩ | omega) (by first | exact ⟨by decide, by decide⟩ | omega)) ?_
    rintro _ ⟨z2, rfl, hz2⟩
    refine And.intro (by omega) (And.intro ?_ ?_)
    · intro c3
      refine And.intro (True.intro) ?_
      exact ⟨_, rfl, (by first | exact ⟨by decide, by decide⟩ | omega), ⟨fun q => by exfalso; omega, fun _ => by omega⟩⟩
    · intro c4
      refine Exists.intro xm_13 (And.intro mi_13 (And.intro ⟨rfl, rfl, rfl, rfl⟩ (And.intro True.intro ?_)))
      refine fcallp hB0 (ct_X_within_c27b1 (fBz h0 hB0) (by first | exact ⟨ha2.1, ha2.2⟩ | omega) (by first | exact ⟨by decide, by decide⟩ | omega) (by first | exact ⟨by decide, by decide⟩ | omega)) ?_
      rintro _ ⟨z5, rfl, hz5⟩
      refine And.intro (by omega) (And.intro ?_ ?_)
      · intro c6
        refine And.intro (True.intro) ?_
        exact ⟨_, rfl, (by first | exact ⟨by decide, by decide⟩ | omega), ⟨fun q => by exfalso; omega, fun _ => by omega⟩⟩
      · intro c7
        refine And.intro ⟨rfl, by decide, by decide⟩ ?_
        refine Exists.intro xm_45 (And.intro mi_45 (And.intro ⟨rfl, rfl, rfl, rfl⟩ (And.intro rfl ?_)))
        refine fcallp hB0 (ct_City_isWork_11526 (fBz h0 hB0) (by first | exact ⟨ha3.1, ha3.2⟩ | omega)) ?_
        rintro _ ⟨z8, rfl, hz8⟩
        refine And.intro (by omega) (And.intro ?_ ?_)
        · intro c9
          refine And.intro (True.intro) ?_
          exact ⟨_, rfl, (by first | exact ⟨by decide, by decide⟩ | omega), ⟨fun q => by exfalso; omega, fun _ => by omega⟩⟩
        · intro c10
          refine Exists.intro xm_13 (And.intro mi_13 (And.intro ⟨rfl, rfl, rfl, rfl⟩ (And.intro True.intro ?_)))
          refine fcallp hB0 (ct_X_within_c27b1 (fBz h0 hB0) (by first | exact ⟨ha4.1, ha4.2⟩ | omega) (by first | exact ⟨by decide, by decide⟩ | omega) (by omega)) ?_
          rintro _ ⟨z11, rfl, hz11⟩
          refine And.intro (by omega) (And.intro ?_ ?_)
          · intro c12
            refine And.intro ⟨rfl, by decide, by decide⟩ ?_
            refine And.intro ⟨rfl, by decide, by decide⟩ ?_
            refine And.intro ⟨rfl, by decide, by decide⟩ ?_
            refine Exists.intro xm_178 (And.intro mi_178 (And.intro ⟨rfl, rfl, rfl, rfl⟩ (And.intro rfl ?_)))
            refine fcall _ h0 (fzs_sub (by decide +kernel) hW) hB0 (ct_Rounds_goRound_589d9 (fBz h0 hB0) (by first | exact ⟨Int.le_trans (by decide) (Int.le_trans (Int.le_refl _) hz2.1), Int.le_trans (Int.le_trans hz2.2 (Int.le_refl _)) (by decide)⟩ | omega) (by first | exact ⟨Int.le_trans (by decide) (Int.le_trans (Int.le_refl _) hz5.1), Int.le_trans (Int.le_trans hz5.2 (Int.le_refl _)) (by decide)⟩ | omega) (by omega) (by omega)) ?_
            rintro IhB14 _ hB14 fhB14 ⟨rfl, hz13, g0z13, g1z13⟩
            refine And.intro ⟨rfl, by decide, by decide⟩ ?_
            refine And.intro ⟨rfl, by decide, by decide⟩ (fgetf fb_727_1 h0 hB14 ?_)
            intro z15 lz15 uz15 qz15
            refine And.intro (True.intro) ?_
            exact ⟨_, rfl, (by first | exact ⟨lz15, uz15⟩ | omega), ⟨fun _ => qz15.trans (g1z13 (by omega) (by omega)), fun q => absurd ⟨⟨by omega, by omega⟩, ⟨by omega, by omega⟩, ⟨by omega, by omega⟩, by omega, by omega⟩ q⟩⟩
          · intro c16
            refine And.intro (True.intro) ?_
            exact ⟨_, rfl, (by first | exact ⟨by decide, by decide⟩ | omega), ⟨fun q => by exfalso; omega, fun _ => by omega⟩⟩
end CT

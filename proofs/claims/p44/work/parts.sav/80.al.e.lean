set_option linter.all false
section CT
variable {ρ : Nat → Int32} {base n : Nat} {F : Nat → Prop} {D : va_G} {dA : Nat → ClassId} {la : Launch}
abbrev jc_M_window_94a7b_37 (x1 : Int) (I0 : fH) : Nat → fL → List fV → fH → Prop := fun m lv st I => ∃ (y1 : Int) (y2 : Int) (y3 : Int), lv = [(0, .inr (.inr (some 740))), (1, .inl y1), (2, .inl y2), (3, .inl y3)] ∧ st = [] ∧ (((0 ≤ y1 ∧ y1 ≤ 5) ∧ (2 ≤ y2 ∧ y2 ≤ 9999) ∧ (0 ≤ y3 ∧ y3 ≤ 12001) ∧ (y1 = x1) ∧ (0 ≤ x1) ∧ (x1 < I0 741 10)) ∧ (y2 = I0 741 (4330 + 3 * x1.toNat)) ∧ (∀ j : Nat, (j : Int) < y3 → ¬ wnP (I0 741 0) (I0 741 (4331 + 3 * x1.toNat)) (I0 741 (4330 + 3 * x1.toNat)) (I0 741 (4332 + 3 * x1.toNat)) (I0 741 2) (gt (mR I0) 3) j)) ∧ m = (1 + 1 * (12001 - y3) : Int).toNat
set_option maxRecDepth 8000 in
theorem ct_M_window_94a7b {I : fH} {x1 : Int} (h0 : fB bsJ I) (ha1 : ((-2147483648) ≤ x1 ∧ x1 ≤ 2147483647)) (hp0 : sI I 741) : fC ρ base n F xTc vwCl xTys D dA la gJ (fbz bsJ znJ (fKc []) I) xm_472 [.inr (.inr (some 740)), .inl x1] I (fun _ r => ∃ z, r = some (.inl z) ∧ ((0 ≤ z ∧ z ≤ 34000) ∨ z = (-1000000005) ∨ z = (-1000000001)) ∧ ((0 ≤ x1 ∧ x1 < I 741 10 → wnR (wnP (I 741 0) (I 741 (4331 + 3 * x1.toNat)) (I 741 (4330 + 3 * x1.toNat)) (I 741 (4332 + 3 * x1.toNat)) (I 741 2) (gt (mR I) 3)) (I 741 0) z) ∧ (¬ (0 ≤ x1 ∧ x1 < I 741 10) → z = (-1000000001)))) := by
  have hW : fzs [] (fKc []) := fKc_ok _
  refine f_meth (rb := rbJ) (J := [(37, (jc_M_window_94a7b_37 x1 I))]) 12003 400 xG xin_472 x6_472 okJ (fB_self h0) ?_ ?_
  · refine List.forall_mem_cons.mpr ⟨?_, fun q h => absurd h List.not_mem_nil⟩
    · rintro m _ _ I1 hB1 ⟨y1, y2, y3, rfl, rfl, ⟨hb, hx0, hx1⟩, hm⟩
      have eJ : I1 = I := fFr_nil (fFr_of hB1)
      have b1 := fBd fb_741_10 (fBz h0 hB1)
      refine And.intro (And.intro (by first | exact fi_ hb.2.2.1.1 hb.2.2.1.2 rfl | omega) (by first | exact ⟨by decide, by decide⟩ | omega)) (And.intro ?_ ?_)
      · intro c2
        refine And.intro (True.intro) ?_
        exact ⟨_, rfl, by omega, ⟨fun _ => wn_n hx1 (by omega) (by omega), fun q => absurd ⟨by omega, by omega⟩ q⟩⟩
      · intro c3
        refine And.intro ⟨rfl, by decide, by decide⟩ ?_
        refine fload1 rL_741_741_0_0_1_0 h0 hB1 ⟨by decide, by decide⟩ (by first | exact ⟨by decide, by decide⟩ | omega) ?_
        intro z4 lz4 uz4 qz4
        have pz4 := fld_at qz4 0 (by omega)
        have v49 := mL_r (i0 := 0) (i1 := 0) (m := 1) (q := 0) (by decide +kernel) qz4 (by omega) rfl
        rw [eJ] at v49
        have s49 : z4 = I 741 (0) := (fld_at qz4 (0) (by omega)).trans (by rw [eJ])
        refine And.intro ⟨rfl, by decide, by decide⟩ ?_
        refine fload rL_741_741_4331_4346_3_0 h0 hB1 (by omega) ?_
        intro z5 lz5 uz5 qz5
        have s65 : z5 = I 741 (4331 + 3 * x1.toNat) := (fld_at qz5 (4331 + 3 * x1.toNat) (by omega)).trans (by rw [eJ])
        intro z6 hz6 ez6 bz6
        have bz6 := bz6 (by omega)
        refine And.intro (And.intro (by omega) (And.intro (by first | exact fi_ hb.2.1.1 hb.2.1.2 rfl | omega) (And.intro (by omega) rfl))) ?_
        intro z7 hz7 ez7 dz7
        refine And.intro (by omega) (And.intro ?_ ?_)
        · intro c8
          intro z9 hz9 ez9 bz9
          try replace bz9 := bz9 (by omega)
          refine And.intro ⟨rfl, by decide, by decide⟩ ?_
          refine fload rL_741_741_4332_4347_3_0 h0 hB1 (by omega) ?_
          intro z10 lz10 uz10 qz10
          have s101 : z10 = I 741 (4332 + 3 * x1.toNat) := (fld_at qz10 (4332 + 3 * x1.toNat) (by omega)).trans (by rw [eJ])
          refine And.intro (by omega) (And.intro ?_ ?_)
          · intro c11
            exact fcutJ (I := I1) (j := (jc_M_window_94a7b_37 x1 I)) (lv' := [(0, .inr (.inr (some 740))), (1, .inl _), (2, .inl _), (3, .inl _)]) (And.intro rfl (And.intro rfl (And.intro rfl (And.intro rfl True.intro)))) ⟨_, _, _, rfl, rfl, ⟨by omega, hx0, (wn_S hx1 (by omega) (by omega) (fun q => by have q1 := q.1; have w := (flo_m ez7 hz7 (by omega) : z9 = flo _ _).trans (flo_cg (a' := I 741 0 + (y3.toNat : Int) - I 741 (4331 + 3 * x1.toNat)) (by omega) hx0); omega))⟩, rfl⟩ (by omega)
          · intro c12
            refine And.intro ⟨rfl, by decide, by decide⟩ ?_
            refine fload1 rL_741_741_2_2_1_0 h0 hB1 ⟨by decide, by decide⟩ (by first | exact ⟨by decide, by decide⟩ | omega) ?_
            intro z13 lz13 uz13 qz13
            have pz13 := fld_at qz13 2 (by omega)
            have v111 := mL_r (i0 := 2) (i1 := 2) (m := 1) (q := 0) (by decide +kernel) qz13 (by omega) rfl
            rw [eJ] at v111
            have s111 : z13 = I 741 (2) := (fld_at qz13 (2) (by omega)).trans (by rw [eJ])
            intro z14 hz14 ez14 bz14
            try replace bz14 := bz14 (by omega)
            refine Exists.intro xm_283 (And.intro mi_283 (And.intro ⟨rfl, rfl, rfl, rfl⟩ (And.intro rfl ?_)))
            refine fcallp hB1 (ct_M_isDay_57f71 (fBz h0 hB1) (by omega)) ?_
            rintro _ ⟨z15, rfl, hz15, g0z15⟩
            try rw [eJ] at g0z15
            refine And.intro (by omega) (And.intro ?_ ?_)
            · intro c16
              exact fcutJ (I := I1) (j := (jc_M_window_94a7b_37 x1 I)) (lv' := [(0, .inr (.inr (some 740))), (1, .inl _), (2, .inl _), (3, .inl _)]) (And.intro rfl (And.intro rfl (And.intro rfl (And.intro rfl True.intro)))) ⟨_, _, _, rfl, rfl, ⟨by omega, hx0, (wn_S hx1 (by omega) (by omega) (fun q => by have q2 := q.2; rw [(show wr (I 741 2 + (y3.toNat : Int)) = z14 from by rw [← s111]; exact wnr_add hz14 ez14 (by omega))] at q2; exact (g0z15.elim (fun q => absurd q.1 (by omega)) (fun q => q.2)) q2))⟩, rfl⟩ (by omega)
            · intro c17
              refine And.intro ⟨rfl, by decide, by decide⟩ ?_
              refine fload1 rL_741_741_0_0_1_0 h0 hB1 ⟨by decide, by decide⟩ (by first | exact ⟨by decide, by decide⟩ | omega) ?_
              intro z18 lz18 uz18 qz18
              have pz18 := fld_at qz18 0 (by omega)
              have v125 := mL_r (i0 := 0) (i1 := 0) (m := 1) (q := 0) (by decide +kernel) qz18 (by omega) rfl
              rw [eJ] at v125
              have s125 : z18 = I 741 (0) := (fld_at qz18 (0) (by omega)).trans (by rw [eJ])
              refine And.intro (True.intro) ?_
              exact ⟨_, rfl, by omega, ⟨fun _ => wn_y hx1 ⟨by omega, by omega⟩ ⟨by have w := (flo_m ez7 hz7 (by omega) : z9 = flo _ _).trans (flo_cg (a' := I 741 0 + (y3.toNat : Int) - I 741 (4331 + 3 * x1.toNat)) (by omega) hx0); omega, by rw [(show wr (I 741 2 + (y3.toNat : Int)) = z14 from by rw [← s111]; exact wnr_add hz14 ez14 (by omega))]; exact (g0z15.elim (fun q => q.2) (fun q => absurd q.1 (by omega)))⟩ (by omega), fun q => absurd ⟨by omega, by omega⟩ q⟩⟩
        · intro c19
          intro z20 hz20 ez20 bz20
          try replace bz20 := bz20 (by omega)
          refine And.intro ⟨rfl, by decide, by decide⟩ ?_
          refine fload rL_741_741_4332_4347_3_0 h0 hB1 (by omega) ?_
          intro z21 lz21 uz21 qz21
          have s101 : z21 = I 741 (4332 + 3 * x1.toNat) := (fld_at qz21 (4332 + 3 * x1.toNat) (by omega)).trans (by rw [eJ])
          refine And.intro (by omega) (And.intro ?_ ?_)
          · intro c22
            exact fcutJ (I := I1) (j := (jc_M_window_94a7b_37 x1 I)) (lv' := [(0, .inr (.inr (some 740))), (1, .inl _), (2, .inl _), (3, .inl _)]) (And.intro rfl (And.intro rfl (And.intro rfl (And.intro rfl True.intro)))) ⟨_, _, _, rfl, rfl, ⟨by omega, hx0, (wn_S hx1 (by omega) (by omega) (fun q => by have q1 := q.1; have w := (flo_m ez7 hz7 (by omega) : z20 = flo _ _).trans (flo_cg (a' := I 741 0 + (y3.toNat : Int) - I 741 (4331 + 3 * x1.toNat)) (by omega) hx0); omega))⟩, rfl⟩ (by omega)
          · intro c23
            refine And.intro ⟨rfl, by decide, by decide⟩ ?_
            refine fload1 rL_741_741_2_2_1_0 h0 hB1 ⟨by decide, by decide⟩ (by first | exact ⟨by decide, by decide⟩ | omega) ?_
            intro z24 lz24 uz24 qz24
            have pz24 := fld_at qz24 2 (by omega)
            have v111 := mL_r (i0 := 2) (i1 := 2) (m := 1) (q := 0) (by decide +kernel) qz24 (by omega) rfl
            rw [eJ] at v111
            have s111 : z24 = I 741 (2) := (fld_at qz24 (2) (by omega)).trans (by rw [eJ])
            intro z25 hz25 ez25 bz25
            try replace bz25 := bz25 (by omega)
            refine Exists.intro xm_283 (And.intro mi_283 (And.intro ⟨rfl, rfl, rfl, rfl⟩ (And.intro rfl ?_)))
            refine fcallp hB1 (ct_M_isDay_57f71 (fBz h0 hB1) (by omega)) ?_
            rintro _ ⟨z26, rfl, hz26, g0z26⟩
            try rw [eJ] at g0z26
            refine And.intro (by omega) (And.intro ?_ ?_)
            · intro c27
              exact fcutJ (I := I1) (j := (jc_M_window_94a7b_37 x1 I)) (lv' := [(0, .inr (.inr (some 740))), (1, .inl _), (2, .inl _), (3, .inl _)]) (And.intro rfl (And.intro rfl (And.intro rfl (And.intro rfl True.intro)))) ⟨_, _, _, rfl, rfl, ⟨by omega, hx0, (wn_S hx1 (by omega) (by omega) (fun q => by have q2 := q.2; rw [(show wr (I 741 2 + (y3.toNat : Int)) = z25 from by rw [← s111]; exact wnr_add hz25 ez25 (by omega))] at q2; exact (g0z26.elim (fun q => absurd q.1 (by omega)) (fun q => q.2)) q2))⟩, rfl⟩ (by omega)
            · intro c28
              refine And.intro ⟨rfl, by decide, by decide⟩ ?_
              refine fload1 rL_741_741_0_0_1_0 h0 hB1 ⟨by decide, by decide⟩ (by first | exact ⟨by decide, by decide⟩ | omega) ?_
              intro z29 lz29 uz29 qz29
              have pz29 := fld_at qz29 0 (by omega)
              have v125 := mL_r (i0 := 0) (i1 := 0) (m := 1) (q := 0) (by decide +kernel) qz29 (by omega) rfl
              rw [eJ] at v125
              have s125 : z29 = I 741 (0) := (fld_at qz29 (0) (by omega)).trans (by rw [eJ])
              refine And.intro (True.intro) ?_
              exact ⟨_, rfl, by omega, ⟨fun _ => wn_y hx1 ⟨by omega, by omega⟩ ⟨by have w := (flo_m ez7 hz7 (by omega) : z20 = flo _ _).trans (flo_cg (a' := I 741 0 + (y3.toNat : Int) - I 741 (4331 + 3 * x1.toNat)) (by omega) hx0); omega, by rw [(show wr (I 741 2 + (y3.toNat : Int)) = z25 from by rw [← s111]; exact wnr_add hz25 ez25 (by omega))]; exact (g0z26.elim (fun q => q.2) (fun q => absurd q.1 (by omega)))⟩ (by omega), fun q => absurd ⟨by omega, by omega⟩ q⟩⟩
  · have hB0 := fB_self (zn := znJ) (K := fKc []) h0
    have b30 := fBd fb_741_10 (fBz h0 hB0)
    refine And.intro (by first | exact fi_ ha1.1 ha1.2 rfl | omega) ?_
    refine And.intro ⟨rfl, by decide, by decide⟩ ?_
    refine fload1 rL_741_741_10_10_1_0 h0 hB0 ⟨by decide, by decide⟩ (by first | exact ⟨by decide, by decide⟩ | omega) ?_
    intro z31 lz31 uz31 qz31
    have pz31 := fld_at qz31 10 (by omega)
    refine And.intro (by omega) ?_
    refine Exists.intro xm_238 (And.intro mi_238 (And.intro ⟨rfl, rfl, rfl, rfl⟩ (And.intro True.intro ?_)))
    refine fcallp hB0 (ct_M_isIn_27230 (fBz h0 hB0) (by first | exact ⟨ha1.1, ha1.2⟩ | omega) (by first | exact ⟨by decide, by decide⟩ | omega) (by omega)) ?_
    rintro _ ⟨z32, rfl, hz32⟩
    refine And.intro (by omega) (And.intro ?_ ?_)
    · intro c33
      refine And.intro ⟨rfl, by decide, by decide⟩ ?_
      refine fload rL_741_741_4330_4345_3_0 h0 hB0 (by omega) ?_
      intro z34 lz34 uz34 qz34
      have w33 := fld_at qz34 (4330 + 3 * x1.toNat) (by omega)
      have v33 := hp0.2.2.1 x1.toNat (by omega)
      exact fcutJ (I := I) (j := (jc_M_window_94a7b_37 x1 I)) (lv' := [(0, .inr (.inr (some 740))), (1, .inl _), (2, .inl _), (3, .inl _)]) (And.intro rfl (And.intro rfl (And.intro rfl (And.intro rfl True.intro)))) ⟨_, _, _, rfl, rfl, ⟨by omega, (fld_at qz34 (4330 + 3 * x1.toNat) (by omega)), (fun j hj => absurd hj (by omega))⟩, rfl⟩ (by omega)
    · intro c35
      refine And.intro (True.intro) ?_
      exact ⟨_, rfl, by omega, ⟨fun q => by exfalso; omega, fun _ => by omega⟩⟩
set_option maxRecDepth 8000 in
theorem ct_Desk_addLot_b50ff {I : fH} {x1 : Int} {x2 : Int} (h0 : fB bsJ I) (ha1 : (1 ≤ x1 ∧ x1 ≤ 9999)) (ha2 : (0 ≤ x2 ∧ x2 ≤ 999)) : fC ρ base n F xTc vwCl xTys D dA la gJ (fbz bsJ znJ (fKc wz_8f79a) I) xm_199 [.inr (.inr (some 211)), .inl x1, .inl x2] I (fun I' r => ∃ z, r = some (.inl z) ∧ (((0 ≤ z ∧ z ≤ 9) ∨ z = (-1000000003)) ∧ ((I 211 11 < 10 → z = I 211 11 ∧ I' 211 11 = I 211 11 + 1) ∧ (10 ≤ I 211 11 → z = (-1000000003) ∧ I' 211 11 = I 211 11))) ∧ (∀ j : Nat, I' 252 j = if (j : Int) = z then x1 else I 252 j) ∧ (∀ j : Nat, I' 253 j = if (j : Int) = z then x2 else I 253 j)) := by
  have hW : fzs wz_8f79a (fKc wz_8f79a) := fKc_ok _
  refine f_meth (rb := rbJ) (J := []) 1 400 xG xin_199 x6_199 okJ (fB_self h0) ?_ ?_
  · exact fun q h => absurd h List.not_mem_nil
  · have hB0 := fB_self (zn := znJ) (K := fKc wz_8f79a) h0
    refine And.intro ⟨rfl, by decide, by decide⟩ (fgetf fb_211_11 h0 hB0 ?_)
    intro z1 lz1 uz1 qz1
    refine And.intro (And.intro (by first | exact fi_ lz1 uz1 rfl | omega) (by first | exact ⟨by decide, by decide⟩ | omega)) (And.intro ?_ ?_)
    · intro c2
      refine And.intro ⟨rfl, by decide, by decide⟩ ?_
      refine fstore1 rS_252_252_0_9_1_0 (fzs_sub (by decide +kernel) hW) ⟨by decide, by decide⟩ (by first | exact ⟨lz1, Int.le_trans (Int.le_sub_one_of_lt (Int.lt_of_lt_of_le c2 (Int.le_refl _))) (by decide)⟩ | omega) (by first | exact ⟨Int.le_trans (by decide) ha1.1, ha1.2⟩ | omega) ?_
      intro IhB3 ehB3 hB3
      have t4 := fup_self ehB3
      have t5 : IhB3 211 11 = I 211 11 := (congrFun (congrFun ehB3 211) 11).trans (fup_ne (by first | exact Or.inl (by decide) | omega))
      refine And.intro ⟨rfl, by decide, by decide⟩ ?_
      refine fstore1 rS_253_253_0_9_1_0 (fzs_sub (by decide +kernel) hW) ⟨by decide, by decide⟩ (by first | exact ⟨lz1, Int.le_trans (Int.le_sub_one_of_lt (Int.lt_of_lt_of_le c2 (Int.le_refl _))) (by decide)⟩ | omega) (by first | exact ⟨ha2.1, ha2.2⟩ | omega) ?_
      intro IhB6 ehB6 hB6
      have t7 := fup_self ehB6
      have t8 : IhB6 211 11 = IhB3 211 11 := (congrFun (congrFun ehB6 211) 11).trans (fup_ne (by first | exact Or.inl (by decide) | omega))
      refine And.intro ⟨rfl, by decide, by decide⟩ (And.intro rfl (And.intro (Or.inl rfl) (fputf fb_211_11 (by decide +kernel) hW (by omega) ?_)))
      intro IhB9 ehB9 hB9
      have t10 := fup_at ehB9 11 (by first | rfl | omega)
      refine And.intro (True.intro) ?_
      exact ⟨_, rfl, by omega, (fun j => ((fup_other ehB9 252 j (Or.inl (by decide))).trans (fup_other ehB6 252 j (Or.inl (by decide)))).trans ((fup_if ehB3 j).trans (if_go (by omega) rfl))), (fun j => (fup_other ehB9 253 j (Or.inl (by decide))).trans ((fup_if ehB6 j).trans (if_go (by omega) (fup_other ehB3 253 j (Or.inl (by decide))))))⟩
    · intro c11
      refine And.intro (True.intro) ?_
      exact ⟨_, rfl, by omega, (fun j => if_no (by omega)), (fun j => if_no (by omega))⟩
set_option maxRecDepth 8000 in
theorem ct_X_lot_2a88d {I : fH} {x1 : Int} {x2 : Int} (h0 : fB bsJ I) (ha1 : ((-2147483648) ≤ x1 ∧ x1 ≤ 2147483647)) (ha2 : ((-2147483648) ≤ x2 ∧ x2 ≤ 2147483647)) : fC ρ base n F xTc vwCl xTys D dA la gJ (fbz bsJ znJ (fKc wz_8f79a) I) xm_198 [.inr (.inr (some 0)), .inl x1, .inl x2] I (fun I' r => ∃ z, r = some (.inl z) ∧ (((0 ≤ z ∧ z ≤ 9) ∨ z = (-1000000003) ∨ z = (-1000000001)) ∧ ((1 ≤ x1 ∧ x1 ≤ 9999 ∧ 0 ≤ x2 ∧ x2 ≤ 999 ∧ I 211 11 < 10 → z = I 211 11 ∧ I' 211 11 = I 211 11 + 1) ∧ (1 ≤ x1 ∧ x1 ≤ 9999 ∧ 0 ≤ x2 ∧ x2 ≤ 999 ∧ 10 ≤ I 211 11 → z = (-1000000003) ∧ I' 211 11 = I 211 11) ∧ (¬ (1 ≤ x1 ∧ x1 ≤ 9999 ∧ 0 ≤ x2 ∧ x2 ≤ 999) → z = (-1000000001) ∧ I' 211 11 = I 211 11))) ∧ (∀ j : Nat, I' 252 j = if (j : Int) = z then x1 else I 252 j) ∧ (∀ j : Nat, I' 253 j = if (j : Int) = z then x2 else I 253 j)) := by
  have hW : fzs wz_8f79a (fKc wz_8f79a) := fKc_ok _
  refine f_meth (rb := rbJ) (J := []) 1 400 xG xin_198 x6_198 okJ (fB_self h0) ?_ ?_
  · exact fun q h => absurd h List.not_mem_nil
  · have hB0 := fB_self (zn := znJ) (K := fKc wz_8f79a) h0
    have b1 := fBd fb_211_11 (fBz h0 hB0)
    refine Exists.intro xm_13 (And.intro mi_13 (And.intro ⟨rfl, rfl, rfl, rfl⟩ (And.intro True.intro ?_)))
    refine fcallp hB0 (ct_X_within_c27b1 (fBz h0 hB0) (by first | exact ⟨ha1.1, ha1.2⟩ | omega) (by first | exact ⟨by decide, by decide⟩ | omega) (by first | exact ⟨by decide, by decide⟩ | omega)) ?_
    rintro _ ⟨z2, rfl, hz2⟩
    refine And.intro (by omega) (And.intro ?_ ?_)
    · intro c3
      refine And.intro (True.intro) ?_
      exact ⟨_, rfl, by omega, (by first | exact g0nil0 | exact fun j => if_no (by omega)), (by first | exact g1nil0 | exact fun j => if_no (by omega))⟩
    · intro c4
      refine Exists.intro xm_13 (And.intro mi_13 (And.intro ⟨rfl, rfl, rfl, rfl⟩ (And.intro True.intro ?_)))
      refine fcallp hB0 (ct_X_within_c27b1 (fBz h0 hB0) (by first | exact ⟨ha2.1, ha2.2⟩ | omega) (by first | exact ⟨by decide, by decide⟩ | omega) (by first | exact ⟨by decide, by decide⟩ | omega)) ?_
      rintro _ ⟨z5, rfl, hz5⟩
      refine And.intro (by omega) (And.intro ?_ ?_)
      · intro c6
        refine And.intro (True.intro) ?_
        exact ⟨_, rfl, by omega, (by first | exact g0nil0 | exact fun j => if_no (by omega)), (by first | exact g1nil0 | exact fun j => if_no (by omega))⟩
      · intro c7
        refine And.intro ⟨rfl, by decide, by decide⟩ ?_
        refine Exists.intro xm_199 (And.intro mi_199 (And.intro ⟨rfl, rfl, rfl, rfl⟩ (And.intro rfl ?_)))
        refine fcall _ h0 (fzs_sub (by decide +kernel) hW) hB0 (ct_Desk_addLot_b50ff (fBz h0 hB0) (by first | exact ⟨Int.le_trans (by decide) (Int.le_trans (Int.le_refl _) hz2.1), Int.le_trans (Int.le_trans hz2.2 (Int.le_refl _)) (by decide)⟩ | omega) (by first | exact ⟨Int.le_trans (by decide) (Int.le_trans (Int.le_refl _) hz5.1), Int.le_trans (Int.le_trans hz5.2 (Int.le_refl _)) (by decide)⟩ | omega)) ?_
        rintro IhB9 _ hB9 fhB9 ⟨z8, rfl, hz8, g0z8, g1z8⟩
        refine And.intro (True.intro) ?_
        exact ⟨_, rfl, by omega, (by first | exact g0z8 | exact fun j => if_no (by omega)), (by first | exact g1z8 | exact fun j => if_no (by omega))⟩
end CT

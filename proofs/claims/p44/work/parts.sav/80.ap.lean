set_option linter.all false
/-! contracts (written by gen95.py) -/
theorem x6_497 : f60c xTc xTys xm_497 = true := by decide +kernel
section CT
variable {ρ : Nat → Int32} {base n : Nat} {F : Nat → Prop} {D : va_G} {dA : Nat → ClassId} {la : Launch}
abbrev jc_M_count_f52dd_101 (x1 : Int) (I0 : fH) : Nat → fL → List fV → fH → Prop := fun m lv st I => ∃ (y2 : Int) (y3 : Int), lv = [(0, .inr (.inr (some 740))), (2, .inl y2), (3, .inl y3)] ∧ st = [] ∧ ((((-2147483648) ≤ y2 ∧ y2 ≤ 2147483647) ∧ (0 ≤ y3 ∧ y3 ≤ 24) ∧ (x1 = 3) ∧ (y3 ≤ I0 741 7) ∧ (y2 ≤ y3) ∧ (0 ≤ y2)) ∧ (y2 = sm (sGn (mR I0)) y3.toNat)) ∧ m = (1 + 1 * (24 - y3) : Int).toNat
abbrev jc_M_count_f52dd_146 (x1 : Int) (I0 : fH) : Nat → fL → List fV → fH → Prop := fun m lv st I => ∃ (y2 : Int) (y3 : Int), lv = [(0, .inr (.inr (some 740))), (2, .inl y2), (3, .inl y3)] ∧ st = [] ∧ ((((-2147483648) ≤ y2 ∧ y2 ≤ 2147483647) ∧ (0 ≤ y3 ∧ y3 ≤ 24) ∧ (x1 = 5) ∧ (y3 ≤ I0 741 8) ∧ (y2 ≤ y3) ∧ (0 ≤ y2)) ∧ (y2 = sm (sDe (mR I0)) y3.toNat)) ∧ m = (26 + 1 * (24 - y3) : Int).toNat
abbrev jc_M_count_f52dd_191 (x1 : Int) (I0 : fH) : Nat → fL → List fV → fH → Prop := fun m lv st I => ∃ (y2 : Int) (y3 : Int), lv = [(0, .inr (.inr (some 740))), (2, .inl y2), (3, .inl y3)] ∧ st = [] ∧ ((((-2147483648) ≤ y2 ∧ y2 ≤ 2147483647) ∧ (0 ≤ y3 ∧ y3 ≤ 12) ∧ (x1 = 7) ∧ (y3 ≤ I0 741 9) ∧ (y2 ≤ y3) ∧ (0 ≤ y2)) ∧ (y2 = sm (sIf (mLw 741 I0) (sHr (mR I0))) y3.toNat)) ∧ m = (51 + 1 * (12 - y3) : Int).toNat
set_option maxRecDepth 8000 in
theorem ct_M_count_f52dd {I : fH} {x1 : Int} (h0 : fB bsJ I) (ha1 : ((-2147483648) ≤ x1 ∧ x1 ≤ 2147483647)) : fC ρ base n F xTc vwCl xTys D dA la gJ (fbz bsJ znJ (fKc []) I) xm_497 [.inr (.inr (some 740)), .inl x1] I (fun _ r => ∃ z, r = some (.inl z) ∧ ((-2147483648) ≤ z ∧ z ≤ 2147483647) ∧ (qnR (mR I) (mLw 741 I) x1 z) ∧ ((x1 = 8 → z = I 741 10) ∧ (x1 = 9 → z = I 741 11) ∧ (x1 = 10 → z = I 741 12) ∧ (x1 = 12 → z = I 740 37) ∧ (x1 = 13 → z = I 740 8) ∧ (¬ (0 ≤ x1 ∧ x1 ≤ 14) → z = (-1000000001)))) := by
  have hW : fzs [] (fKc []) := fKc_ok _
  refine f_meth (rb := rbJ) (J := [(101, (jc_M_count_f52dd_101 x1 I)), (146, (jc_M_count_f52dd_146 x1 I)), (191, (jc_M_count_f52dd_191 x1 I))]) 64 400 xG xin_497 x6_497 okJ (fB_self h0) ?_ ?_
  · refine List.forall_mem_cons.mpr ⟨?_, List.forall_mem_cons.mpr ⟨?_, List.forall_mem_cons.mpr ⟨?_, fun q h => absurd h List.not_mem_nil⟩⟩⟩
    · rintro m _ _ I1 hB1 ⟨y2, y3, rfl, rfl, ⟨hb, hx0⟩, hm⟩
      have eJ : I1 = I := fFr_nil (fFr_of hB1)
      have k1 := fBz_eq hB1 (a := 741) (j := 7) (by decide +kernel)
      have k2 := fBz_eq hB1 (a := 741) (j := 8) (by decide +kernel)
      have k3 := fBz_eq hB1 (a := 741) (j := 9) (by decide +kernel)
      have b4 := fBd fb_741_7 (fBz h0 hB1)
      have b5 := fBd fb_741_8 (fBz h0 hB1)
      have b6 := fBd fb_741_9 (fBz h0 hB1)
      have w7 := (show I 741 7 = gt (mR I) 7 from (mR_ld (I := I) (k := 7) (by decide +kernel)).symm)
      have w8 := (show I 741 8 = gt (mR I) 8 from (mR_ld (I := I) (k := 8) (by decide +kernel)).symm)
      refine And.intro ⟨rfl, by decide, by decide⟩ ?_
      refine fload1 rL_741_741_7_7_1_0 h0 hB1 ⟨by decide, by decide⟩ (by first | exact ⟨by decide, by decide⟩ | omega) ?_
      intro z7 lz7 uz7 qz7
      have pz7 := fld_at qz7 7 (by omega)
      have v108 := mL_r (i0 := 7) (i1 := 7) (m := 1) (q := 0) (by decide +kernel) qz7 (by omega) rfl
      rw [eJ] at v108
      refine And.intro (And.intro (by first | exact fi_ hb.2.1.1 hb.2.1.2 rfl | omega) (by first | exact fi_ lz7 uz7 rfl | omega)) (And.intro ?_ ?_)
      · intro c8
        refine And.intro (True.intro) ?_
        exact ⟨_, rfl, (by first | exact ⟨hb.1.1, hb.1.2⟩ | omega), (qnR_k (K := 3) (by omega) (show _ = sm (sGn (mR I)) (gt (mR I) 7).toNat from sm_fin hx0 (by omega))), ⟨by intro q; omega, by intro q; omega, by intro q; omega, by intro q; omega, by intro q; omega, by intro q; omega⟩⟩
      · intro c9
        refine Exists.intro xm_245 (And.intro mi_245 (And.intro ⟨rfl, rfl, rfl, rfl⟩ (And.intro rfl ?_)))
        refine fcallp hB1 (ct_M_isGone_0de37 (fBz h0 hB1) (by first | exact ⟨hb.2.1.1, Int.le_trans (Int.le_sub_one_of_lt (Int.lt_of_lt_of_le c9 uz7)) (by decide)⟩ | omega)) ?_
        rintro _ ⟨z10, rfl, hz10, g0z10⟩
        try rw [eJ] at g0z10
        refine And.intro (by omega) (And.intro ?_ ?_)
        · intro c11
          intro z12 hz12 ez12 bz12
          clear ez12
          try replace bz12 := bz12 (by omega)
          exact fcutJ (I := I1) (j := (jc_M_count_f52dd_101 x1 I)) (lv' := [(0, .inr (.inr (some 740))), (2, .inl _), (3, .inl _)]) (And.intro rfl (And.intro rfl (And.intro rfl True.intro))) ⟨_, _, rfl, rfl, ⟨by omega, (sm_at (v := 0) hx0 (by omega) (by omega) (sGn_0 (g0z10.elim (fun q => absurd q.1 (by omega)) (fun q => q.2)) (by omega) rfl) (by omega))⟩, rfl⟩ (by omega)
        · intro c13
          intro z14 hz14 ez14 bz14
          clear ez14
          try replace bz14 := bz14 (by omega)
          exact fcutJ (I := I1) (j := (jc_M_count_f52dd_101 x1 I)) (lv' := [(0, .inr (.inr (some 740))), (2, .inl _), (3, .inl _)]) (And.intro rfl (And.intro rfl (And.intro rfl True.intro))) ⟨_, _, rfl, rfl, ⟨by omega, (sm_at (v := 1) hx0 (by omega) (by omega) (sGn_1 (g0z10.elim (fun q => q.2) (fun q => absurd q.1 (by omega))) (by omega) rfl) (by omega))⟩, rfl⟩ (by omega)
    · rintro m _ _ I1 hB1 ⟨y2, y3, rfl, rfl, ⟨hb, hx0⟩, hm⟩
      have eJ : I1 = I := fFr_nil (fFr_of hB1)
      have k15 := fBz_eq hB1 (a := 741) (j := 7) (by decide +kernel)
      have k16 := fBz_eq hB1 (a := 741) (j := 8) (by decide +kernel)
      have k17 := fBz_eq hB1 (a := 741) (j := 9) (by decide +kernel)
      have b18 := fBd fb_741_7 (fBz h0 hB1)
      have b19 := fBd fb_741_8 (fBz h0 hB1)
      have b20 := fBd fb_741_9 (fBz h0 hB1)
      have w7 := (show I 741 7 = gt (mR I) 7 from (mR_ld (I := I) (k := 7) (by decide +kernel)).symm)
      have w8 := (show I 741 8 = gt (mR I) 8 from (mR_ld (I := I) (k := 8) (by decide +kernel)).symm)
      refine And.intro ⟨rfl, by decide, by decide⟩ ?_
      refine fload1 rL_741_741_8_8_1_0 h0 hB1 ⟨by decide, by decide⟩ (by first | exact ⟨by decide, by decide⟩ | omega) ?_
      intro z21 lz21 uz21 qz21
      have pz21 := fld_at qz21 8 (by omega)
      have v153 := mL_r (i0 := 8) (i1 := 8) (m := 1) (q := 0) (by decide +kernel) qz21 (by omega) rfl
      rw [eJ] at v153
      refine And.intro (And.intro (by first | exact fi_ hb.2.1.1 hb.2.1.2 rfl | omega) (by first | exact fi_ lz21 uz21 rfl | omega)) (And.intro ?_ ?_)
      · intro c22
        refine And.intro (True.intro) ?_
        exact ⟨_, rfl, (by first | exact ⟨hb.1.1, hb.1.2⟩ | omega), (qnR_k (K := 5) (by omega) (show _ = sm (sDe (mR I)) (gt (mR I) 8).toNat from sm_fin hx0 (by omega))), ⟨by intro q; omega, by intro q; omega, by intro q; omega, by intro q; omega, by intro q; omega, by intro q; omega⟩⟩
      · intro c23
        refine Exists.intro xm_248 (And.intro mi_248 (And.intro ⟨rfl, rfl, rfl, rfl⟩ (And.intro rfl ?_)))
        refine fcallp hB1 (ct_M_isDead_21e1a (fBz h0 hB1) (by first | exact ⟨hb.2.1.1, Int.le_trans (Int.le_sub_one_of_lt (Int.lt_of_lt_of_le c23 uz21)) (by decide)⟩ | omega)) ?_
        rintro _ ⟨z24, rfl, hz24, g0z24⟩
        try rw [eJ] at g0z24
        refine And.intro (by omega) (And.intro ?_ ?_)
        · intro c25
          intro z26 hz26 ez26 bz26
          clear ez26
          try replace bz26 := bz26 (by omega)
          exact fcutJ (I := I1) (j := (jc_M_count_f52dd_146 x1 I)) (lv' := [(0, .inr (.inr (some 740))), (2, .inl _), (3, .inl _)]) (And.intro rfl (And.intro rfl (And.intro rfl True.intro))) ⟨_, _, rfl, rfl, ⟨by omega, (sm_at (v := 0) hx0 (by omega) (by omega) (sDe_0 (g0z24.elim (fun q => absurd q.1 (by omega)) (fun q => q.2)) (by omega) rfl) (by omega))⟩, rfl⟩ (by omega)
        · intro c27
          intro z28 hz28 ez28 bz28
          clear ez28
          try replace bz28 := bz28 (by omega)
          exact fcutJ (I := I1) (j := (jc_M_count_f52dd_146 x1 I)) (lv' := [(0, .inr (.inr (some 740))), (2, .inl _), (3, .inl _)]) (And.intro rfl (And.intro rfl (And.intro rfl True.intro))) ⟨_, _, rfl, rfl, ⟨by omega, (sm_at (v := 1) hx0 (by omega) (by omega) (sDe_1 (g0z24.elim (fun q => q.2) (fun q => absurd q.1 (by omega))) (by omega) rfl) (by omega))⟩, rfl⟩ (by omega)
    · rintro m _ _ I1 hB1 ⟨y2, y3, rfl, rfl, ⟨hb, hx0⟩, hm⟩
      have eJ : I1 = I := fFr_nil (fFr_of hB1)
      have k29 := fBz_eq hB1 (a := 741) (j := 7) (by decide +kernel)
      have k30 := fBz_eq hB1 (a := 741) (j := 8) (by decide +kernel)
      have k31 := fBz_eq hB1 (a := 741) (j := 9) (by decide +kernel)
      have b32 := fBd fb_741_7 (fBz h0 hB1)
      have b33 := fBd fb_741_8 (fBz h0 hB1)
      have b34 := fBd fb_741_9 (fBz h0 hB1)
      have w7 := (show I 741 7 = gt (mR I) 7 from (mR_ld (I := I) (k := 7) (by decide +kernel)).symm)
      have w8 := (show I 741 8 = gt (mR I) 8 from (mR_ld (I := I) (k := 8) (by decide +kernel)).symm)
      refine And.intro ⟨rfl, by decide, by decide⟩ ?_
      refine fload1 rL_741_741_9_9_1_0 h0 hB1 ⟨by decide, by decide⟩ (by first | exact ⟨by decide, by decide⟩ | omega) ?_
      intro z35 lz35 uz35 qz35
      have pz35 := fld_at qz35 9 (by omega)
      refine And.intro (And.intro (by first | exact fi_ hb.2.1.1 hb.2.1.2 rfl | omega) (by first | exact fi_ lz35 uz35 rfl | omega)) (And.intro ?_ ?_)
      · intro c36
        refine And.intro (True.intro) ?_
        exact ⟨_, rfl, (by first | exact ⟨hb.1.1, hb.1.2⟩ | omega), (qnR_k (K := 7) (by omega) (show _ = sm (sIf (mLw 741 I) (sHr (mR I))) (mLw 741 I).n.toNat from sm_fin hx0 (by show y3 = I 741 9; omega))), ⟨by intro q; omega, by intro q; omega, by intro q; omega, by intro q; omega, by intro q; omega, by intro q; omega⟩⟩
      · intro c37
        refine Exists.intro xm_256 (And.intro mi_256 (And.intro ⟨rfl, rfl, rfl, rfl⟩ (And.intro rfl ?_)))
        refine fcallp hB1 (ct_M_isInForce_508bf (fBz h0 hB1) (by first | exact ⟨hb.2.1.1, Int.le_trans (Int.le_sub_one_of_lt (Int.lt_of_lt_of_le c37 uz35)) (by decide)⟩ | omega) (by show y3 < I1 741 9; omega)) ?_
        rintro _ ⟨z38, rfl, hz38, g0z38⟩
        try rw [eJ] at g0z38
        refine And.intro (by omega) (And.intro ?_ ?_)
        · intro c39
          intro z40 hz40 ez40 bz40
          clear ez40
          try replace bz40 := bz40 (by omega)
          exact fcutJ (I := I1) (j := (jc_M_count_f52dd_191 x1 I)) (lv' := [(0, .inr (.inr (some 740))), (2, .inl _), (3, .inl _)]) (And.intro rfl (And.intro rfl (And.intro rfl True.intro))) ⟨_, _, rfl, rfl, ⟨by omega, (sm_at (v := 0) hx0 (by omega) (by omega) (sIf_0 (g0z38.elim (fun q => absurd q.1 (by omega)) (fun q => q.2)) rfl) (by omega))⟩, rfl⟩ (by omega)
        · intro c41
          intro z42 hz42 ez42 bz42
          clear ez42
          try replace bz42 := bz42 (by omega)
          exact fcutJ (I := I1) (j := (jc_M_count_f52dd_191 x1 I)) (lv' := [(0, .inr (.inr (some 740))), (2, .inl _), (3, .inl _)]) (And.intro rfl (And.intro rfl (And.intro rfl True.intro))) ⟨_, _, rfl, rfl, ⟨by omega, (sm_at (v := 1) hx0 (by omega) (by omega) (sIf_1 (g0z38.elim (fun q => q.2) (fun q => absurd q.1 (by omega))) rfl) (by omega))⟩, rfl⟩ (by omega)
  · have hB0 := fB_self (zn := znJ) (K := fKc []) h0
    have b43 := fBd fb_741_7 (fBz h0 hB0)
    have b44 := fBd fb_741_8 (fBz h0 hB0)
    have b45 := fBd fb_741_9 (fBz h0 hB0)
    have w905 : I 741 5 = gt (mR I) 5 := (show I 741 5 = gt (mR I) 5 from (mR_ld (I := I) (k := 5) (by decide +kernel)).symm)
    have w906 : I 741 6 = gt (mR I) 6 := (show I 741 6 = gt (mR I) 6 from (mR_ld (I := I) (k := 6) (by decide +kernel)).symm)
    have w907 : I 741 7 = gt (mR I) 7 := (show I 741 7 = gt (mR I) 7 from (mR_ld (I := I) (k := 7) (by decide +kernel)).symm)
    have w908 : I 741 8 = gt (mR I) 8 := (show I 741 8 = gt (mR I) 8 from (mR_ld (I := I) (k := 8) (by decide +kernel)).symm)
    have w913 : I 741 13 = gt (mR I) 13 := (show I 741 13 = gt (mR I) 13 from (mR_ld (I := I) (k := 13) (by decide +kernel)).symm)
    refine And.intro (by first | exact fi_ ha1.1 ha1.2 rfl | omega) (And.intro ?_ ?_)
    · refine And.intro (fun ex => ?_) (And.intro (fun ex => ?_) (And.intro (fun ex => ?_) (And.intro (fun ex => ?_) (And.intro (fun ex => ?_) (And.intro (fun ex => ?_) (And.intro (fun ex => ?_) (And.intro (fun ex => ?_) (And.intro (fun ex => ?_) (And.intro (fun ex => ?_) (And.intro (fun ex => ?_) (And.intro (fun ex => ?_) (And.intro (fun ex => ?_) (And.intro (fun ex => ?_) (And.intro (fun ex => ?_) (True.intro)))))))))))))))
      · skip
        refine And.intro ⟨rfl, by decide, by decide⟩ ?_
        refine fload1 rL_741_741_5_5_1_0 h0 hB0 ⟨by decide, by decide⟩ (by first | exact ⟨by decide, by decide⟩ | omega) ?_
        intro z46 lz46 uz46 qz46
        have pz46 := fld_at qz46 5 (by omega)
        have v81 := mL_r (i0 := 5) (i1 := 5) (m := 1) (q := 0) (by decide +kernel) qz46 (by omega) rfl
        refine And.intro (True.intro) ?_
        exact ⟨_, rfl, (by first | exact ⟨Int.le_trans (by decide) lz46, Int.le_trans uz46 (by decide)⟩ | omega), (qnR_k (K := 0) (by omega) (by show _ = gt (mR I) 5; omega)), ⟨by intro q; omega, by intro q; omega, by intro q; omega, by intro q; omega, by intro q; omega, by intro q; omega⟩⟩
      · skip
        refine And.intro ⟨rfl, by decide, by decide⟩ ?_
        refine fload1 rL_741_741_6_6_1_0 h0 hB0 ⟨by decide, by decide⟩ (by first | exact ⟨by decide, by decide⟩ | omega) ?_
        intro z47 lz47 uz47 qz47
        have pz47 := fld_at qz47 6 (by omega)
        have v89 := mL_r (i0 := 6) (i1 := 6) (m := 1) (q := 0) (by decide +kernel) qz47 (by omega) rfl
        refine And.intro (True.intro) ?_
        exact ⟨_, rfl, (by first | exact ⟨Int.le_trans (by decide) lz47, Int.le_trans uz47 (by decide)⟩ | omega), (qnR_k (K := 1) (by omega) (by show _ = gt (mR I) 6; omega)), ⟨by intro q; omega, by intro q; omega, by intro q; omega, by intro q; omega, by intro q; omega, by intro q; omega⟩⟩
      · skip
        refine And.intro ⟨rfl, by decide, by decide⟩ ?_
        refine fload1 rL_741_741_7_7_1_0 h0 hB0 ⟨by decide, by decide⟩ (by first | exact ⟨by decide, by decide⟩ | omega) ?_
        intro z48 lz48 uz48 qz48
        have pz48 := fld_at qz48 7 (by omega)
        have v97 := mL_r (i0 := 7) (i1 := 7) (m := 1) (q := 0) (by decide +kernel) qz48 (by omega) rfl
        refine And.intro (True.intro) ?_
        exact ⟨_, rfl, (by first | exact ⟨Int.le_trans (by decide) lz48, Int.le_trans uz48 (by decide)⟩ | omega), (qnR_k (K := 2) (by omega) (by show _ = gt (mR I) 7; omega)), ⟨by intro q; omega, by intro q; omega, by intro q; omega, by intro q; omega, by intro q; omega, by intro q; omega⟩⟩
      · skip
        exact fcutJ (I := I) (j := (jc_M_count_f52dd_101 x1 I)) (lv' := [(0, .inr (.inr (some 740))), (2, .inl _), (3, .inl _)]) (And.intro rfl (And.intro rfl (And.intro rfl True.intro))) ⟨_, _, rfl, rfl, ⟨by omega, rfl⟩, rfl⟩ (by omega)
      · skip
        refine And.intro ⟨rfl, by decide, by decide⟩ ?_
        refine fload1 rL_741_741_8_8_1_0 h0 hB0 ⟨by decide, by decide⟩ (by first | exact ⟨by decide, by decide⟩ | omega) ?_
        intro z49 lz49 uz49 qz49
        have pz49 := fld_at qz49 8 (by omega)
        have v142 := mL_r (i0 := 8) (i1 := 8) (m := 1) (q := 0) (by decide +kernel) qz49 (by omega) rfl
        refine And.intro (True.intro) ?_
        exact ⟨_, rfl, (by first | exact ⟨Int.le_trans (by decide) lz49, Int.le_trans uz49 (by decide)⟩ | omega), (qnR_k (K := 4) (by omega) (by show _ = gt (mR I) 8; omega)), ⟨by intro q; omega, by intro q; omega, by intro q; omega, by intro q; omega, by intro q; omega, by intro q; omega⟩⟩
      · skip
        exact fcutJ (I := I) (j := (jc_M_count_f52dd_146 x1 I)) (lv' := [(0, .inr (.inr (some 740))), (2, .inl _), (3, .inl _)]) (And.intro rfl (And.intro rfl (And.intro rfl True.intro))) ⟨_, _, rfl, rfl, ⟨by omega, rfl⟩, rfl⟩ (by omega)
      · skip
        refine And.intro ⟨rfl, by decide, by decide⟩ ?_
        refine fload1 rL_741_741_9_9_1_0 h0 hB0 ⟨by decide, by decide⟩ (by first | exact ⟨by decide, by decide⟩ | omega) ?_
        intro z50 lz50 uz50 qz50
        have pz50 := fld_at qz50 9 (by omega)
        refine And.intro (True.intro) ?_
        exact ⟨_, rfl, (by first | exact ⟨Int.le_trans (by decide) lz50, Int.le_trans uz50 (by decide)⟩ | omega), (qnR_k (K := 6) (by omega) (by show _ = I 741 9; omega)), ⟨by intro q; omega, by intro q; omega, by intro q; omega, by intro q; omega, by intro q; omega, by intro q; omega⟩⟩
      · skip
        exact fcutJ (I := I) (j := (jc_M_count_f52dd_191 x1 I)) (lv' := [(0, .inr (.inr (some 740))), (2, .inl _), (3, .inl _)]) (And.intro rfl (And.intro rfl (And.intro rfl True.intro))) ⟨_, _, rfl, rfl, ⟨by omega, rfl⟩, rfl⟩ (by omega)
      · skip
        refine And.intro ⟨rfl, by decide, by decide⟩ ?_
        refine fload1 rL_741_741_10_10_1_0 h0 hB0 ⟨by decide, by decide⟩ (by first | exact ⟨by decide, by decide⟩ | omega) ?_
        intro z51 lz51 uz51 qz51
        have pz51 := fld_at qz51 10 (by omega)
        refine And.intro (True.intro) ?_
        exact ⟨_, rfl, (by first | exact ⟨Int.le_trans (by decide) lz51, Int.le_trans uz51 (by decide)⟩ | omega), (qnR_k (K := 8) (by omega) True.intro), ⟨by intro q; omega, by intro q; omega, by intro q; omega, by intro q; omega, by intro q; omega, by intro q; omega⟩⟩
      · skip
        refine And.intro ⟨rfl, by decide, by decide⟩ ?_
        refine fload1 rL_741_741_11_11_1_0 h0 hB0 ⟨by decide, by decide⟩ (by first | exact ⟨by decide, by decide⟩ | omega) ?_
        intro z52 lz52 uz52 qz52
        have pz52 := fld_at qz52 11 (by omega)
        refine And.intro (True.intro) ?_
        exact ⟨_, rfl, (by first | exact ⟨Int.le_trans (by decide) lz52, Int.le_trans uz52 (by decide)⟩ | omega), (qnR_k (K := 9) (by omega) True.intro), ⟨by intro q; omega, by intro q; omega, by intro q; omega, by intro q; omega, by intro q; omega, by intro q; omega⟩⟩
      · skip
        refine And.intro ⟨rfl, by decide, by decide⟩ ?_
        refine fload1 rL_741_741_12_12_1_0 h0 hB0 ⟨by decide, by decide⟩ (by first | exact ⟨by decide, by decide⟩ | omega) ?_
        intro z53 lz53 uz53 qz53
        have pz53 := fld_at qz53 12 (by omega)
        refine And.intro (True.intro) ?_
        exact ⟨_, rfl, (by first | exact ⟨Int.le_trans (by decide) lz53, Int.le_trans uz53 (by decide)⟩ | omega), (qnR_k (K := 10) (by omega) True.intro), ⟨by intro q; omega, by intro q; omega, by intro q; omega, by intro q; omega, by intro q; omega, by intro q; omega⟩⟩
      · skip
        refine And.intro ⟨rfl, by decide, by decide⟩ ?_
        refine fload1 rL_741_741_13_13_1_0 h0 hB0 ⟨by decide, by decide⟩ (by first | exact ⟨by decide, by decide⟩ | omega) ?_
        intro z54 lz54 uz54 qz54
        have pz54 := fld_at qz54 13 (by omega)
        have v256 := mL_r (i0 := 13) (i1 := 13) (m := 1) (q := 0) (by decide +kernel) qz54 (by omega) rfl
        refine And.intro (True.intro) ?_
        exact ⟨_, rfl, (by first | exact ⟨Int.le_trans (by decide) lz54, Int.le_trans uz54 (by decide)⟩ | omega), (qnR_k (K := 11) (by omega) (by show _ = gt (mR I) 13; omega)), ⟨by intro q; omega, by intro q; omega, by intro q; omega, by intro q; omega, by intro q; omega, by intro q; omega⟩⟩
      · skip
        refine And.intro ⟨rfl, by decide, by decide⟩ (fgetf fb_740_37 h0 hB0 ?_)
        intro z55 lz55 uz55 qz55
        refine And.intro (True.intro) ?_
        exact ⟨_, rfl, (by first | exact ⟨Int.le_trans (by decide) lz55, Int.le_trans uz55 (by decide)⟩ | omega), (qnR_k (K := 12) (by omega) True.intro), ⟨by intro q; omega, by intro q; omega, by intro q; omega, by intro q; omega, by intro q; omega, by intro q; omega⟩⟩
      · skip
        refine And.intro ⟨rfl, by decide, by decide⟩ (fgetf fb_740_8 h0 hB0 ?_)
        intro z56 lz56 uz56 qz56
        refine And.intro (True.intro) ?_
        exact ⟨_, rfl, (by first | exact ⟨Int.le_trans (by decide) lz56, Int.le_trans uz56 (by decide)⟩ | omega), (qnR_k (K := 13) (by omega) True.intro), ⟨by intro q; omega, by intro q; omega, by intro q; omega, by intro q; omega, by intro q; omega, by intro q; omega⟩⟩
      · skip
        refine And.intro ⟨rfl, by decide, by decide⟩ ?_
        refine fload1 rL_741_741_14_14_1_0 h0 hB0 ⟨by decide, by decide⟩ (by first | exact ⟨by decide, by decide⟩ | omega) ?_
        intro z57 lz57 uz57 qz57
        have pz57 := fld_at qz57 14 (by omega)
        refine And.intro (by first | exact fi_ lz57 uz57 rfl | omega) (And.intro ?_ ?_)
        · intro c58
          refine And.intro (True.intro) ?_
          exact ⟨_, rfl, by omega, (qnR_k (K := 14) (by omega) (show _ = (if I 741 14 < 0 then (0 : Int) else 1) from (if_neg (by omega)).symm)), ⟨by intro q; omega, by intro q; omega, by intro q; omega, by intro q; omega, by intro q; omega, by intro q; omega⟩⟩
        · intro c59
          refine And.intro (True.intro) ?_
          exact ⟨_, rfl, (by first | exact ⟨by decide, by decide⟩ | omega), (qnR_k (K := 14) (by omega) (show _ = (if I 741 14 < 0 then (0 : Int) else 1) from (if_pos (by omega)).symm)), ⟨by intro q; omega, by intro q; omega, by intro q; omega, by intro q; omega, by intro q; omega, by intro q; omega⟩⟩
    · intro c60
      simp only [List.length_cons, List.length_nil] at c60
      refine And.intro (True.intro) ?_
      exact ⟨_, rfl, (by first | exact ⟨by decide, by decide⟩ | omega), (qnR_o (by omega)), ⟨by intro q; omega, by intro q; omega, by intro q; omega, by intro q; omega, by intro q; omega, by intro q; omega⟩⟩
end CT

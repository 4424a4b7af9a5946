set_option linter.all false
section CT
variable {ρ : Nat → Int32} {base n : Nat} {F : Nat → Prop} {D : va_G} {dA : Nat → ClassId} {la : Launch}
abbrev jc_M_seek_c83ec_29 (x2 : Int) (x5 : Int) (I0 : fH) : Nat → fL → List fV → fH → Prop := fun m lv st I => ∃ (y2 : Int) (y6 : Int), lv = [(0, .inr (.inr (some 740))), (2, .inl y2), (6, .inl y6)] ∧ st = [] ∧ (((7 ≤ y2 ∧ y2 ≤ 7) ∧ (0 ≤ y6 ∧ y6 ≤ 7) ∧ ((-2147483647) ≤ I 740 33 ∧ I 740 33 ≤ 2147483647) ∧ (7 ≤ I 741 12 ∧ I 741 12 ≤ 7) ∧ (y2 = x2) ∧ (x2 = I0 741 12) ∧ (I 740 33 = x5) ∧ (I0 740 33 < x5) ∧ (I 740 34 = I0 740 34) ∧ (I 740 35 = I0 740 35) ∧ (y6 ≤ x2)) ∧ (∀ i : Nat, (i : Int) < y6 → I 758 i = I0 757 i) ∧ (∀ i : Nat, I 757 i = I0 757 i)) ∧ m = (8 + 1 * (7 - y6) : Int).toNat
abbrev jc_M_seek_c83ec_59 (x1 : Int) (x2 : Int) (x3 : Int) (x4 : Int) (x5 : Int) (I0 : fH) : Nat → fL → List fV → fH → Prop := fun m lv st I => ∃ (y1 : Int) (y2 : Int) (y3 : Int) (y4 : Int) (y5 : Int) (y6 : Int), lv = [(0, .inr (.inr (some 740))), (1, .inl y1), (2, .inl y2), (3, .inl y3), (4, .inl y4), (5, .inl y5), (6, .inl y6)] ∧ st = [] ∧ (((1 ≤ y1 ∧ y1 ≤ 60) ∧ (7 ≤ y2 ∧ y2 ≤ 7) ∧ ((-2147483648) ≤ y3 ∧ y3 ≤ 2147483647) ∧ (0 ≤ y4 ∧ y4 ≤ 63) ∧ ((-2147483648) ≤ y5 ∧ y5 ≤ 2147483647) ∧ (0 ≤ y6 ∧ y6 ≤ 6) ∧ (0 ≤ I 741 12 ∧ I 741 12 ≤ 6) ∧ (y2 < I 741 12) ∧ (y1 = x1) ∧ (y2 = x2) ∧ (y3 = x3) ∧ (y4 = x4) ∧ (y5 = x5) ∧ (x2 < I0 741 12) ∧ (y6 ≤ I0 741 12)) ∧ (∀ (p : Nat → Int) (s : sSt), (∀ i : Nat, (i : Int) < x2 → I0 757 i = p i) → skQ (I0 741 12).toNat s I0 → skQ (I0 741 12).toNat (nf (sGo (fun b => I0 741 (4370 + 3 * b)) (fun b => I0 741 (4371 + 3 * b)) (fun b => I0 741 (4372 + 3 * b)) x1 (sSk (I0 741 12).toNat (fun b => I0 741 (4370 + 3 * b)) (fun b => I0 741 (4371 + 3 * b)) (fun b => I0 741 (4372 + 3 * b)) x1 0) x2.toNat x3 x4 x5 p) s y6.toNat) I) ∧ (∀ i : Nat, (i : Int) < x2 → I 757 i = I0 757 i)) ∧ m = (1 + 1 * (6 - y6) : Int).toNat
set_option maxRecDepth 8000 in
theorem ct_M_seek_c83ec {I : fH} {x1 : Int} {x2 : Int} {x3 : Int} {x4 : Int} {x5 : Int} (h0 : fB bsJ I) (ha1 : (1 ≤ x1 ∧ x1 ≤ 60)) (ha2 : (7 ≤ x2 ∧ x2 ≤ 7)) (ha3 : ((-2147483648) ≤ x3 ∧ x3 ≤ 2147483647)) (ha4 : (0 ≤ x4 ∧ x4 ≤ 63)) (ha5 : ((-2147483648) ≤ x5 ∧ x5 ≤ 2147483647)) (hp0 : x2 = 7) (hp1 : x2 ≤ I 741 12) (hp2 : 0 ≤ x5 ∧ x5 ≤ 5940 * x2) : fC ρ base n F xTc vwCl xTys D dA la gJ (fbz bsJ znJ (fKc wz_4d25e) I) xm_479 [.inr (.inr (some 740)), .inl x1, .inl x2, .inl x3, .inl x4, .inl x5] I (fun I' r => r = none ∧ True ∧ (∀ (p : Nat → Int) (s : sSt), (∀ i : Nat, (i : Int) < x2 → I 757 i = p i) → skQ (I 741 12).toNat s I → skQ (I 741 12).toNat (sSk (I 741 12).toNat (fun b => I 741 (4370 + 3 * b)) (fun b => I 741 (4371 + 3 * b)) (fun b => I 741 (4372 + 3 * b)) x1 0 x2.toNat x3 x4 x5 p s) I') ∧ (∀ i : Nat, (i : Int) < x2 → I' 757 i = I 757 i)) := by
  have hW : fzs wz_4d25e (fKc wz_4d25e) := fKc_ok _
  refine f_meth (rb := rbJ) (J := [(29, (jc_M_seek_c83ec_29 x2 x5 I)), (59, (jc_M_seek_c83ec_59 x1 x2 x3 x4 x5 I))]) 16 400 xG xin_479 x6_479 okJ (fB_self h0) ?_ ?_
  · refine List.forall_mem_cons.mpr ⟨?_, List.forall_mem_cons.mpr ⟨?_, fun q h => absurd h List.not_mem_nil⟩⟩
    · rintro m _ _ I1 hB1 ⟨y2, y6, rfl, rfl, ⟨hb, hx0, hx1⟩, hm⟩
      have k1 := fBz_eq hB1 (a := 741) (j := 12) (by decide +kernel)
      have b2 := fBd fb_741_12 (fBz h0 hB1)
      have b3 := fBd fb_740_35 (fBz h0 hB1)
      refine And.intro (And.intro (by first | exact fi_ hb.2.1.1 hb.2.1.2 rfl | omega) (by first | exact fi_ hb.1.1 hb.1.2 rfl | omega)) (And.intro ?_ ?_)
      · intro c4
        exact ⟨rfl, True.intro, (fun p s hp hs => by rw [sk_tk (by omega)]; first | exact tq_yes hs (by omega) (by omega) (fun i hi => hp i (by omega)) (by omega) (by omega) (by omega) (fun i hi => hx0 i (by omega)) | exact tq_yes hs (by omega) (by omega) (fun i hi => hp i (by omega)) (by omega) (by omega) (by omega) (fun i hi => absurd hi (by omega)) | exact tq_no hs (by omega) (by omega)), (by first | exact (fun i _ => hx1 i) | exact (fun i _ => rfl) | exact (fun i _ => fup_other enil0 757 i (Or.inl (by decide))))⟩
      · intro c5
        refine And.intro ⟨rfl, by decide, by decide⟩ ?_
        refine And.intro ⟨rfl, by decide, by decide⟩ ?_
        refine fload1 rL_757_757_0_6_1_0 h0 hB1 ⟨by decide, by decide⟩ (by first | exact ⟨hb.2.1.1, Int.le_trans (Int.le_sub_one_of_lt (Int.lt_of_lt_of_le c5 hb.1.2)) (by decide)⟩ | omega) ?_
        intro z6 lz6 uz6 qz6
        refine fstore1 rS_758_758_0_6_1_0 (fzs_sub (by decide +kernel) hW) ⟨by decide, by decide⟩ (by first | exact ⟨hb.2.1.1, Int.le_trans (Int.le_sub_one_of_lt (Int.lt_of_lt_of_le c5 hb.1.2)) (by decide)⟩ | omega) (by first | exact ⟨lz6, uz6⟩ | omega) ?_
        intro IhB7 ehB7 hB7
        have t8 := fup_self ehB7
        have t9 : IhB7 740 33 = I1 740 33 := (congrFun (congrFun ehB7 740) 33).trans (fup_ne (by first | exact Or.inl (by decide) | omega))
        have t10 : IhB7 740 34 = I1 740 34 := (congrFun (congrFun ehB7 740) 34).trans (fup_ne (by first | exact Or.inl (by decide) | omega))
        have t11 : IhB7 740 35 = I1 740 35 := (congrFun (congrFun ehB7 740) 35).trans (fup_ne (by first | exact Or.inl (by decide) | omega))
        have t12 : IhB7 741 12 = I1 741 12 := (congrFun (congrFun ehB7 741) 12).trans (fup_ne (by first | exact Or.inl (by decide) | omega))
        have k13 := fBz_eq hB7 (a := 741) (j := 12) (by decide +kernel)
        exact fcutJ (I := IhB7) (j := (jc_M_seek_c83ec_29 x2 x5 I)) (lv' := [(0, .inr (.inr (some 740))), (2, .inl _), (6, .inl _)]) (And.intro rfl (And.intro rfl (And.intro rfl True.intro))) ⟨_, _, rfl, rfl, ⟨by omega, (fun i h => if ei : i = y6.toNat then (by rw [ei]; exact (fup_self ehB7).trans (qz6.trans (hx1 _))) else (fup_other ehB7 758 i (Or.inr ei)).trans (hx0 i (by omega))), (fun i => (fup_other ehB7 757 i (Or.inl (by decide))).trans (hx1 i))⟩, rfl⟩ (by omega)
    · rintro m _ _ I1 hB1 ⟨y1, y2, y3, y4, y5, y6, rfl, rfl, ⟨hb, hx0, hx1⟩, hm⟩
      have k14 := fBz_eq hB1 (a := 741) (j := 12) (by decide +kernel)
      have b15 := fBd fb_741_12 (fBz h0 hB1)
      have b16 := fBd fb_740_35 (fBz h0 hB1)
      have ey1 : x1 = y1 := by omega
      subst ey1
      have ey2 : x2 = y2 := by omega
      subst ey2
      have ey3 : x3 = y3 := by omega
      subst ey3
      have ey4 : x4 = y4 := by omega
      subst ey4
      have ey5 : x5 = y5 := by omega
      subst ey5
      have sS := fFr_S (fFr_of hB1) (by decide +kernel)
      refine And.intro ⟨rfl, by decide, by decide⟩ ?_
      refine fload1 rL_741_741_12_12_1_0 h0 hB1 ⟨by decide, by decide⟩ (by first | exact ⟨by decide, by decide⟩ | omega) ?_
      intro z17 lz17 uz17 qz17
      have pz17 := fld_at qz17 12 (by omega)
      refine And.intro (And.intro (by first | exact fi_ hb.2.2.2.2.2.1.1 hb.2.2.2.2.2.1.2 rfl | omega) (by first | exact fi_ lz17 uz17 rfl | omega)) (And.intro ?_ ?_)
      · intro c18
        exact ⟨rfl, True.intro, (fun p s hp hs => by first | (exfalso; omega) | (rw [sk_go (by omega)]; exact sq_end (hx0 p s hp hs) (by omega) (by omega))), hx1⟩
      · intro c19
        refine And.intro ⟨rfl, by decide, by decide⟩ (fgetf fb_740_35 h0 hB1 ?_)
        intro z20 lz20 uz20 qz20
        refine And.intro (by first | exact fi_ lz20 uz20 rfl | omega) (And.intro ?_ ?_)
        · intro c21
          exact ⟨rfl, True.intro, (fun p s hp hs => by first | (exfalso; omega) | (rw [sk_go (by omega)]; exact sq_end (hx0 p s hp hs) (by omega) (by omega))), hx1⟩
        · intro c22
          intro z23 hz23 ez23
          intro z24 hz24 ez24 bz24
          have bz24 := bz24 (by omega)
          have wb := bt_of hz24 ez23 ez24 (by omega)
          refine And.intro (And.intro (by first | exact fi_ bz24.1 bz24.2 rfl | omega) (by first | exact ⟨by decide, by decide⟩ | omega)) (And.intro ?_ ?_)
          · intro c25
            exact fcutJ (I := I1) (j := (jc_M_seek_c83ec_59 x1 x2 x3 x4 x5 I)) (lv' := [(0, .inr (.inr (some 740))), (1, .inl _), (2, .inl _), (3, .inl _), (4, .inl _), (5, .inl _), (6, .inl _)]) (And.intro rfl (And.intro rfl (And.intro rfl (And.intro rfl (And.intro rfl (And.intro rfl (And.intro rfl True.intro))))))) ⟨_, _, _, _, _, _, rfl, rfl, ⟨by omega, (fun p s hp hs => by have hq := (hx0 p s hp hs).1; first | exact nf_skQ (qo_no (hx0 p s hp hs) (fun q => by have q1 := q.1; omega)) (by omega) (by omega) | exact nf_skQ (qo_no (hx0 p s hp hs) (fun q => by have q2 := q.2; omega)) (by omega) (by omega) | exact nf_skQ (qo_spent (hx0 p s hp hs) (by omega) (by omega) ⟨by omega, by omega⟩ rfl enil0) (by omega) (by omega) | exact nf_skQ (qo_rec (hx0 p s hp hs) (by omega) (by omega) ⟨by omega, by omega⟩ (g0nil0 (sUp p x2.toNat ((y6.toNat : Nat) : Int)) _ (path_uq enil0 enil0 enil0 (fun i hi => (hx1 i hi).trans (hp i hi)) (by omega) rfl (by omega)) (qo_in (hx0 p s hp hs) (by omega) (by omega) rfl (by omega) enil0 enil0 enil0))) (by omega) (by omega) | (exfalso; omega)), (fun i hi => by first | exact (g1nil0 i (by omega)).trans ((fup_other enil0 757 i (Or.inr (by omega))).trans ((fup_other enil0 757 i (Or.inl (by decide))).trans ((fup_other enil0 757 i (Or.inl (by decide))).trans (hx1 i hi)))) | exact ((fup_other enil0 757 i (Or.inl (by decide))).trans (hx1 i hi)) | exact hx1 i hi | (exfalso; omega))⟩, rfl⟩ (by omega)
          · intro c26
            refine And.intro ⟨rfl, by decide, by decide⟩ ?_
            refine fload rL_741_741_4372_4390_3_0 h0 hB1 (by omega) ?_
            intro z27 lz27 uz27 qz27
            intro z28 hz28 ez28
            intro z29 hz29 ez29 bz29
            clear bz29
            have wa := sAh_of hz29 ez28 ez29
            rw [fld_at qz27 (4372 + 3 * y6.toNat) (by omega), sS] at wa
            refine And.intro (by omega) (And.intro ?_ ?_)
            · intro c30
              refine And.intro ⟨rfl, by decide, by decide⟩ (fgetf fb_740_34 h0 hB1 ?_)
              intro z31 lz31 uz31 qz31
              refine And.intro (by first | exact fi_ lz31 uz31 rfl | omega) (And.intro ?_ ?_)
              · intro c32
                refine And.intro ⟨rfl, by decide, by decide⟩ (And.intro rfl (And.intro (Or.inr ⟨rfl, by omega⟩) (fputf fb_740_35 (by decide +kernel) hW (by omega) ?_)))
                intro IhB33 ehB33 hB33
                have t34 : IhB33 740 33 = I1 740 33 := (congrFun (congrFun ehB33 740) 33).trans (fup_ne (by first | decide | omega))
                have t35 : IhB33 740 34 = I1 740 34 := (congrFun (congrFun ehB33 740) 34).trans (fup_ne (by first | decide | omega))
                have t36 := fup_at ehB33 35 (by first | rfl | omega)
                have t37 : IhB33 741 12 = I1 741 12 := (congrFun (congrFun ehB33 741) 12).trans (fup_ne (by first | decide | omega))
                have k38 := fBz_eq hB33 (a := 741) (j := 12) (by decide +kernel)
                refine And.intro ⟨rfl, by decide, by decide⟩ (fgetf fb_740_35 h0 hB33 ?_)
                intro z39 lz39 uz39 qz39
                refine And.intro (by first | exact fi_ lz39 uz39 rfl | omega) (And.intro ?_ ?_)
                · intro c40
                  exact fcutJ (I := IhB33) (j := (jc_M_seek_c83ec_59 x1 x2 x3 x4 x5 I)) (lv' := [(0, .inr (.inr (some 740))), (1, .inl _), (2, .inl _), (3, .inl _), (4, .inl _), (5, .inl _), (6, .inl _)]) (And.intro rfl (And.intro rfl (And.intro rfl (And.intro rfl (And.intro rfl (And.intro rfl (And.intro rfl True.intro))))))) ⟨_, _, _, _, _, _, rfl, rfl, ⟨by omega, (fun p s hp hs => by have hq := (hx0 p s hp hs).1; first | exact nf_skQ (qo_no (hx0 p s hp hs) (fun q => by have q1 := q.1; omega)) (by omega) (by omega) | exact nf_skQ (qo_no (hx0 p s hp hs) (fun q => by have q2 := q.2; omega)) (by omega) (by omega) | exact nf_skQ (qo_spent (hx0 p s hp hs) (by omega) (by omega) ⟨by omega, by omega⟩ rfl ehB33) (by omega) (by omega) | exact nf_skQ (qo_rec (hx0 p s hp hs) (by omega) (by omega) ⟨by omega, by omega⟩ (g0nil0 (sUp p x2.toNat ((y6.toNat : Nat) : Int)) _ (path_uq ehB33 enil0 enil0 (fun i hi => (hx1 i hi).trans (hp i hi)) (by omega) rfl (by omega)) (qo_in (hx0 p s hp hs) (by omega) (by omega) rfl (by omega) ehB33 enil0 enil0))) (by omega) (by omega) | (exfalso; omega)), (fun i hi => by first | exact (g1nil0 i (by omega)).trans ((fup_other enil0 757 i (Or.inr (by omega))).trans ((fup_other enil0 757 i (Or.inl (by decide))).trans ((fup_other ehB33 757 i (Or.inl (by decide))).trans (hx1 i hi)))) | exact ((fup_other ehB33 757 i (Or.inl (by decide))).trans (hx1 i hi)) | exact hx1 i hi | (exfalso; omega))⟩, rfl⟩ (by omega)
                · intro c41
                  refine And.intro ⟨rfl, by decide, by decide⟩ (fgetf fb_740_34 h0 hB33 ?_)
                  intro z42 lz42 uz42 qz42
                  intro z43 hz43 ez43 bz43
                  try replace bz43 := bz43 (by omega)
                  refine And.intro ⟨rfl, by decide, by decide⟩ (And.intro rfl (And.intro (Or.inl rfl) (fputf fb_740_34 (by decide +kernel) hW (by omega) ?_)))
                  intro IhB44 ehB44 hB44
                  have t45 : IhB44 740 33 = IhB33 740 33 := (congrFun (congrFun ehB44 740) 33).trans (fup_ne (by first | decide | omega))
                  have t46 := fup_at ehB44 34 (by first | rfl | omega)
                  have t47 : IhB44 740 35 = IhB33 740 35 := (congrFun (congrFun ehB44 740) 35).trans (fup_ne (by first | decide | omega))
                  have t48 : IhB44 741 12 = IhB33 741 12 := (congrFun (congrFun ehB44 741) 12).trans (fup_ne (by first | decide | omega))
                  have k49 := fBz_eq hB44 (a := 741) (j := 12) (by decide +kernel)
                  refine And.intro ⟨rfl, by decide, by decide⟩ ?_
                  refine fstore rS_757_757_0_6_1_0 (fzs_sub (by decide +kernel) hW) (by omega) (by first | exact ⟨hb.2.2.2.2.2.1.1, hb.2.2.2.2.2.1.2⟩ | omega) ?_
                  intro IhB50 ehB50 hB50
                  have t51 := fup_self ehB50
                  have t52 : IhB50 740 33 = IhB44 740 33 := (congrFun (congrFun ehB50 740) 33).trans (fup_ne (by first | exact Or.inl (by decide) | omega))
                  have t53 : IhB50 740 34 = IhB44 740 34 := (congrFun (congrFun ehB50 740) 34).trans (fup_ne (by first | exact Or.inl (by decide) | omega))
                  have t54 : IhB50 740 35 = IhB44 740 35 := (congrFun (congrFun ehB50 740) 35).trans (fup_ne (by first | exact Or.inl (by decide) | omega))
                  have t55 : IhB50 741 12 = IhB44 741 12 := (congrFun (congrFun ehB50 741) 12).trans (fup_ne (by first | exact Or.inl (by decide) | omega))
                  have k56 := fBz_eq hB50 (a := 741) (j := 12) (by decide +kernel)
                  refine And.intro ⟨rfl, by decide, by decide⟩ ?_
                  refine fload rL_741_741_4370_4388_3_0 h0 hB50 (by omega) ?_
                  intro z57 lz57 uz57 qz57
                  have s4 : ∀ j, IhB50 741 j = I 741 j := fun j => (fup_other ehB50 741 j (Or.inl (by decide))).trans ((fup_other ehB44 741 j (Or.inl (by decide))).trans ((fup_other ehB33 741 j (Or.inl (by decide))).trans (sS j)))
                  have w166 := (fld_at qz57 (4370 + 3 * y6.toNat) (by omega)).trans (s4 _)
                  intro z58 hz58 ez58 bz58
                  have bz58 := bz58 (by omega)
                  intro z59 hz59 ez59
                  intro z60 hz60 ez60
                  refine And.intro (by omega) (And.intro ?_ ?_)
                  · intro c61
                    intro z62 hz62 ez62 bz62
                    try replace bz62 := bz62 (by omega)
                    exfalso
                    omega
                  · intro c63
                    refine And.intro ⟨rfl, by decide, by decide⟩ ?_
                    refine fload rL_741_741_4371_4389_3_0 h0 hB50 (by omega) ?_
                    intro z64 lz64 uz64 qz64
                    have w199 := (fld_at qz64 (4371 + 3 * y6.toNat) (by omega)).trans (s4 _)
                    intro z65 hz65 ez65 bz65
                    have bz65 := bz65 (by omega)
                    intro z66 hz66 ez66 bz66
                    try replace bz66 := bz66 (by omega)
                    have w203 := mul_bd (a := z64) (b := z65) (by omega) (by omega)
                    have w204 : z66 = z64 * z65 := by first | exact bz66 (by omega) | exact bz66
                    intro z67 hz67 ez67 bz67
                    try replace bz67 := bz67 (by omega)
                    exfalso
                    omega
              · intro c68
                refine And.intro ⟨rfl, by decide, by decide⟩ (And.intro rfl (And.intro (Or.inr ⟨rfl, by decide, by decide⟩) (fputf fb_740_35 (by decide +kernel) hW (by first | exact ⟨by decide, by decide⟩ | omega) ?_)))
                intro IhB69 ehB69 hB69
                have t70 : IhB69 740 33 = I1 740 33 := (congrFun (congrFun ehB69 740) 33).trans (fup_ne (by first | decide | omega))
                have t71 : IhB69 740 34 = I1 740 34 := (congrFun (congrFun ehB69 740) 34).trans (fup_ne (by first | decide | omega))
                have t72 := fup_at ehB69 35 (by first | rfl | omega)
                have t73 : IhB69 741 12 = I1 741 12 := (congrFun (congrFun ehB69 741) 12).trans (fup_ne (by first | decide | omega))
                have k74 := fBz_eq hB69 (a := 741) (j := 12) (by decide +kernel)
                refine And.intro ⟨rfl, by decide, by decide⟩ (fgetf fb_740_35 h0 hB69 ?_)
                intro z75 lz75 uz75 qz75
                refine And.intro (by first | exact fi_ lz75 uz75 rfl | omega) (And.intro ?_ ?_)
                · intro c76
                  exact fcutJ (I := IhB69) (j := (jc_M_seek_c83ec_59 x1 x2 x3 x4 x5 I)) (lv' := [(0, .inr (.inr (some 740))), (1, .inl _), (2, .inl _), (3, .inl _), (4, .inl _), (5, .inl _), (6, .inl _)]) (And.intro rfl (And.intro rfl (And.intro rfl (And.intro rfl (And.intro rfl (And.intro rfl (And.intro rfl True.intro))))))) ⟨_, _, _, _, _, _, rfl, rfl, ⟨by omega, (fun p s hp hs => by have hq := (hx0 p s hp hs).1; first | exact nf_skQ (qo_no (hx0 p s hp hs) (fun q => by have q1 := q.1; omega)) (by omega) (by omega) | exact nf_skQ (qo_no (hx0 p s hp hs) (fun q => by have q2 := q.2; omega)) (by omega) (by omega) | exact nf_skQ (qo_spent (hx0 p s hp hs) (by omega) (by omega) ⟨by omega, by omega⟩ rfl ehB69) (by omega) (by omega) | exact nf_skQ (qo_rec (hx0 p s hp hs) (by omega) (by omega) ⟨by omega, by omega⟩ (g0nil0 (sUp p x2.toNat ((y6.toNat : Nat) : Int)) _ (path_uq ehB69 ehB44 ehB50 (fun i hi => (hx1 i hi).trans (hp i hi)) (by omega) rfl (by omega)) (qo_in (hx0 p s hp hs) (by omega) (by omega) rfl (by omega) ehB69 ehB44 ehB50))) (by omega) (by omega) | (exfalso; omega)), (fun i hi => by first | exact (g1nil0 i (by omega)).trans ((fup_other ehB50 757 i (Or.inr (by omega))).trans ((fup_other ehB44 757 i (Or.inl (by decide))).trans ((fup_other ehB69 757 i (Or.inl (by decide))).trans (hx1 i hi)))) | exact ((fup_other ehB69 757 i (Or.inl (by decide))).trans (hx1 i hi)) | exact hx1 i hi | (exfalso; omega))⟩, rfl⟩ (by omega)
                · intro c77
                  refine And.intro ⟨rfl, by decide, by decide⟩ (fgetf fb_740_34 h0 hB69 ?_)
                  intro z78 lz78 uz78 qz78
                  intro z79 hz79 ez79 bz79
                  try replace bz79 := bz79 (by omega)
                  refine And.intro ⟨rfl, by decide, by decide⟩ (And.intro rfl (And.intro (Or.inl rfl) (fputf fb_740_34 (by decide +kernel) hW (by omega) ?_)))
                  intro IhB80 ehB80 hB80
                  have t81 : IhB80 740 33 = IhB69 740 33 := (congrFun (congrFun ehB80 740) 33).trans (fup_ne (by first | decide | omega))
                  have t82 := fup_at ehB80 34 (by first | rfl | omega)
                  have t83 : IhB80 740 35 = IhB69 740 35 := (congrFun (congrFun ehB80 740) 35).trans (fup_ne (by first | decide | omega))
                  have t84 : IhB80 741 12 = IhB69 741 12 := (congrFun (congrFun ehB80 741) 12).trans (fup_ne (by first | decide | omega))
                  have k85 := fBz_eq hB80 (a := 741) (j := 12) (by decide +kernel)
                  refine And.intro ⟨rfl, by decide, by decide⟩ ?_
                  refine fstore rS_757_757_0_6_1_0 (fzs_sub (by decide +kernel) hW) (by omega) (by first | exact ⟨hb.2.2.2.2.2.1.1, hb.2.2.2.2.2.1.2⟩ | omega) ?_
                  intro IhB86 ehB86 hB86
                  have t87 := fup_self ehB86
                  have t88 : IhB86 740 33 = IhB80 740 33 := (congrFun (congrFun ehB86 740) 33).trans (fup_ne (by first | exact Or.inl (by decide) | omega))
                  have t89 : IhB86 740 34 = IhB80 740 34 := (congrFun (congrFun ehB86 740) 34).trans (fup_ne (by first | exact Or.inl (by decide) | omega))
                  have t90 : IhB86 740 35 = IhB80 740 35 := (congrFun (congrFun ehB86 740) 35).trans (fup_ne (by first | exact Or.inl (by decide) | omega))
                  have t91 : IhB86 741 12 = IhB80 741 12 := (congrFun (congrFun ehB86 741) 12).trans (fup_ne (by first | exact Or.inl (by decide) | omega))
                  have k92 := fBz_eq hB86 (a := 741) (j := 12) (by decide +kernel)
                  refine And.intro ⟨rfl, by decide, by decide⟩ ?_
                  refine fload rL_741_741_4370_4388_3_0 h0 hB86 (by omega) ?_
                  intro z93 lz93 uz93 qz93
                  have s4 : ∀ j, IhB86 741 j = I 741 j := fun j => (fup_other ehB86 741 j (Or.inl (by decide))).trans ((fup_other ehB80 741 j (Or.inl (by decide))).trans ((fup_other ehB69 741 j (Or.inl (by decide))).trans (sS j)))
                  have w166 := (fld_at qz93 (4370 + 3 * y6.toNat) (by omega)).trans (s4 _)
                  intro z94 hz94 ez94 bz94
                  have bz94 := bz94 (by omega)
                  intro z95 hz95 ez95
                  intro z96 hz96 ez96
                  refine And.intro (by omega) (And.intro ?_ ?_)
                  · intro c97
                    intro z98 hz98 ez98 bz98
                    try replace bz98 := bz98 (by omega)
                    exfalso
                    omega
                  · intro c99
                    refine And.intro ⟨rfl, by decide, by decide⟩ ?_
                    refine fload rL_741_741_4371_4389_3_0 h0 hB86 (by omega) ?_
                    intro z100 lz100 uz100 qz100
                    have w199 := (fld_at qz100 (4371 + 3 * y6.toNat) (by omega)).trans (s4 _)
                    intro z101 hz101 ez101 bz101
                    have bz101 := bz101 (by omega)
                    intro z102 hz102 ez102 bz102
                    try replace bz102 := bz102 (by omega)
                    have w203 := mul_bd (a := z100) (b := z101) (by omega) (by omega)
                    have w204 : z102 = z100 * z101 := by first | exact bz102 (by omega) | exact bz102
                    intro z103 hz103 ez103 bz103
                    try replace bz103 := bz103 (by omega)
                    exfalso
                    omega
            · intro c104
              exact fcutJ (I := I1) (j := (jc_M_seek_c83ec_59 x1 x2 x3 x4 x5 I)) (lv' := [(0, .inr (.inr (some 740))), (1, .inl _), (2, .inl _), (3, .inl _), (4, .inl _), (5, .inl _), (6, .inl _)]) (And.intro rfl (And.intro rfl (And.intro rfl (And.intro rfl (And.intro rfl (And.intro rfl (And.intro rfl True.intro))))))) ⟨_, _, _, _, _, _, rfl, rfl, ⟨by omega, (fun p s hp hs => by have hq := (hx0 p s hp hs).1; first | exact nf_skQ (qo_no (hx0 p s hp hs) (fun q => by have q1 := q.1; omega)) (by omega) (by omega) | exact nf_skQ (qo_no (hx0 p s hp hs) (fun q => by have q2 := q.2; omega)) (by omega) (by omega) | exact nf_skQ (qo_spent (hx0 p s hp hs) (by omega) (by omega) ⟨by omega, by omega⟩ rfl ehB69) (by omega) (by omega) | exact nf_skQ (qo_rec (hx0 p s hp hs) (by omega) (by omega) ⟨by omega, by omega⟩ (g0nil0 (sUp p x2.toNat ((y6.toNat : Nat) : Int)) _ (path_uq ehB69 ehB80 ehB86 (fun i hi => (hx1 i hi).trans (hp i hi)) (by omega) rfl (by omega)) (qo_in (hx0 p s hp hs) (by omega) (by omega) rfl (by omega) ehB69 ehB80 ehB86))) (by omega) (by omega) | (exfalso; omega)), (fun i hi => by first | exact (g1nil0 i (by omega)).trans ((fup_other ehB86 757 i (Or.inr (by omega))).trans ((fup_other ehB80 757 i (Or.inl (by decide))).trans ((fup_other ehB69 757 i (Or.inl (by decide))).trans (hx1 i hi)))) | exact ((fup_other ehB69 757 i (Or.inl (by decide))).trans (hx1 i hi)) | exact hx1 i hi | (exfalso; omega))⟩, rfl⟩ (by omega)
  · have hB0 := fB_self (zn := znJ) (K := fKc wz_4d25e) h0
    have b105 := fBd fb_741_12 (fBz h0 hB0)
    have b106 := fBd fb_740_35 (fBz h0 hB0)
    refine And.intro ⟨rfl, by decide, by decide⟩ ?_
    refine fload1 rL_741_741_12_12_1_0 h0 hB0 ⟨by decide, by decide⟩ (by first | exact ⟨by decide, by decide⟩ | omega) ?_
    intro z107 lz107 uz107 qz107
    have pz107 := fld_at qz107 12 (by omega)
    refine And.intro (And.intro (by first | exact fi_ ha2.1 ha2.2 rfl | omega) (by first | exact fi_ lz107 uz107 rfl | omega)) (And.intro ?_ ?_)
    · intro c108
      exact fcutJ (I := I) (j := (jc_M_seek_c83ec_59 x1 x2 x3 x4 x5 I)) (lv' := [(0, .inr (.inr (some 740))), (1, .inl _), (2, .inl _), (3, .inl _), (4, .inl _), (5, .inl _), (6, .inl _)]) (And.intro rfl (And.intro rfl (And.intro rfl (And.intro rfl (And.intro rfl (And.intro rfl (And.intro rfl True.intro))))))) ⟨_, _, _, _, _, _, rfl, rfl, ⟨by omega, (fun p s hp hs => hs), (fun i _ => rfl)⟩, rfl⟩ (by omega)
    · intro c109
      refine And.intro ⟨rfl, by decide, by decide⟩ (fgetf fb_740_33 h0 hB0 ?_)
      intro z110 lz110 uz110 qz110
      refine And.intro (And.intro (by first | exact fi_ ha5.1 ha5.2 rfl | omega) (by first | exact fi_ lz110 uz110 rfl | omega)) (And.intro ?_ ?_)
      · intro c111
        exact ⟨rfl, True.intro, (fun p s hp hs => by rw [sk_tk (by omega)]; first | exact tq_yes hs (by omega) (by omega) (fun i hi => hp i (by omega)) (by omega) (by omega) (by omega) (fun i hi => hx0 i (by omega)) | exact tq_yes hs (by omega) (by omega) (fun i hi => hp i (by omega)) (by omega) (by omega) (by omega) (fun i hi => absurd hi (by omega)) | exact tq_no hs (by omega) (by omega)), (by first | exact (fun i _ => hx1 i) | exact (fun i _ => rfl) | exact (fun i _ => fup_other enil0 757 i (Or.inl (by decide))))⟩
      · intro c112
        refine And.intro ⟨rfl, by decide, by decide⟩ (And.intro rfl (And.intro (Or.inl rfl) (fputf fb_740_33 (by decide +kernel) hW (by first | exact ⟨Int.le_trans (by decide) (Int.add_one_le_of_lt (Int.lt_of_le_of_lt lz110 c112)), ha5.2⟩ | omega) ?_)))
        intro IhB113 ehB113 hB113
        have t114 := fup_at ehB113 33 (by first | rfl | omega)
        have t115 : IhB113 740 34 = I 740 34 := (congrFun (congrFun ehB113 740) 34).trans (fup_ne (by first | decide | omega))
        have t116 : IhB113 740 35 = I 740 35 := (congrFun (congrFun ehB113 740) 35).trans (fup_ne (by first | decide | omega))
        have t117 : IhB113 741 12 = I 741 12 := (congrFun (congrFun ehB113 741) 12).trans (fup_ne (by first | decide | omega))
        have k118 := fBz_eq hB113 (a := 741) (j := 12) (by decide +kernel)
        exact fcutJ (I := IhB113) (j := (jc_M_seek_c83ec_29 x2 x5 I)) (lv' := [(0, .inr (.inr (some 740))), (2, .inl _), (6, .inl _)]) (And.intro rfl (And.intro rfl (And.intro rfl True.intro))) ⟨_, _, rfl, rfl, ⟨by omega, (fun i h => absurd h (by omega)), (fun i => fup_other ehB113 757 i (Or.inl (by decide)))⟩, rfl⟩ (by omega)
abbrev jg_seek_29 (d : Int) (kk : Nat) (x2 : Int) (x5 : Int) (I0 : fH) : Nat → fL → List fV → fH → Prop := fun m lv st I => ∃ (y2 : Int) (y6 : Int), lv = [(0, .inr (.inr (some 740))), (2, .inl y2), (6, .inl y6)] ∧ st = [] ∧ (((d ≤ y2 ∧ y2 ≤ d) ∧ (0 ≤ y6 ∧ y6 ≤ d) ∧ ((-2147483647) ≤ I 740 33 ∧ I 740 33 ≤ 2147483647) ∧ (d ≤ I 741 12 ∧ I 741 12 ≤ d) ∧ (y2 = x2) ∧ (x2 = I0 741 12) ∧ (I 740 33 = x5) ∧ (I0 740 33 < x5) ∧ (I 740 34 = I0 740 34) ∧ (I 740 35 = I0 740 35) ∧ (y6 ≤ x2)) ∧ (∀ i : Nat, (i : Int) < y6 → I 758 i = I0 757 i) ∧ (∀ i : Nat, I 757 i = I0 757 i)) ∧ m = (9 + 1 * (d - y6) : Int).toNat
abbrev jg_seek_59 (d : Int) (kk : Nat) (x1 : Int) (x2 : Int) (x3 : Int) (x4 : Int) (x5 : Int) (I0 : fH) : Nat → fL → List fV → fH → Prop := fun m lv st I => ∃ (y1 : Int) (y2 : Int) (y3 : Int) (y4 : Int) (y5 : Int) (y6 : Int), lv = [(0, .inr (.inr (some 740))), (1, .inl y1), (2, .inl y2), (3, .inl y3), (4, .inl y4), (5, .inl y5), (6, .inl y6)] ∧ st = [] ∧ (((1 ≤ y1 ∧ y1 ≤ 60) ∧ (d ≤ y2 ∧ y2 ≤ d) ∧ ((-2147483648) ≤ y3 ∧ y3 ≤ 2147483647) ∧ (0 ≤ y4 ∧ y4 ≤ 9 * d) ∧ ((-2147483648) ≤ y5 ∧ y5 ≤ 2147483647) ∧ (0 ≤ y6 ∧ y6 ≤ 7) ∧ (y2 < I 741 12) ∧ (y1 = x1) ∧ (y2 = x2) ∧ (y3 = x3) ∧ (y4 = x4) ∧ (y5 = x5) ∧ (x2 < I0 741 12) ∧ (y6 ≤ I0 741 12)) ∧ (∀ (p : Nat → Int) (s : sSt), (∀ i : Nat, (i : Int) < x2 → I0 757 i = p i) → skQ (I0 741 12).toNat s I0 → skQ (I0 741 12).toNat (nf (sGo (fun b => I0 741 (4370 + 3 * b)) (fun b => I0 741 (4371 + 3 * b)) (fun b => I0 741 (4372 + 3 * b)) x1 (sSk (I0 741 12).toNat (fun b => I0 741 (4370 + 3 * b)) (fun b => I0 741 (4371 + 3 * b)) (fun b => I0 741 (4372 + 3 * b)) x1 kk) x2.toNat x3 x4 x5 p) s y6.toNat) I) ∧ (∀ i : Nat, (i : Int) < x2 → I 757 i = I0 757 i)) ∧ m = (1 + 1 * (7 - y6) : Int).toNat
noncomputable abbrev gM_seek (gn0 : Nat) (rm : Room) : xM := (⟨"AcidCityModel", "seek", "(IIIII)V"⟩, prog_14_method_145_code, 9, (none : Option FieldType), [(0, 3, 2, 0, []), (1, 3, 0, 1, []), (2, 25, 12, 0, [15576]), (5, 0, 12, 0, []), (7, 31, 100, 0, []), (8, 21, 1, 56, []), (11, 3, 5, 0, []), (13, 3, 0, 1, []), (14, 25, 12, 33, [16393]), (17, 21, 5, 55, []), (20, 3, 0, 1, []), (21, 3, 5, 0, []), (23, 26, 12, 33, [0, 16393]), (26, 0, 0, 0, []), (27, 4, 6, 0, []), (29, 3, 6, 0, []), (31, 3, 2, 0, []), (32, 21, 3, 55, []), (35, 3, 0, 1, []), (36, 25, 12, 32, [16392]), (39, 3, 6, 0, []), (41, 3, 0, 1, []), (42, 25, 12, 31, [16391]), (45, 3, 6, 0, []), (47, 31, 100, 0, []), (48, 32, 100, 0, []), (49, 5, 6, 1, []), (52, 22, 0, 29, []), (55, 36, 0, 0, []), (56, 0, 0, 0, []), (57, 4, 6, 0, []), (59, 3, 6, 0, []), (61, 3, 0, 1, []), (62, 25, 12, 0, [15576]), (65, 0, 12, 0, []), (67, 31, 100, 0, []), (68, 21, 3, 219, []), (71, 3, 0, 1, []), (72, 25, 12, 35, [16395]), (75, 20, 1, 219, []), (78, 0, 4370, 0, []), (81, 0, 3, 0, []), (82, 3, 6, 0, []), (84, 6, 2, 0, []), (85, 6, 0, 0, []), (86, 4, 7, 0, []), (88, 3, 3, 0, []), (89, 3, 6, 0, []), (91, 6, 7, 0, []), (92, 0, 1, 0, []), (93, 6, 3, 0, []), (94, 0, 1, 0, []), (95, 21, 0, 213, []), (98, 3, 0, 1, []), (99, 25, 12, 0, [15576]), (102, 3, 7, 0, []), (104, 0, 2, 0, []), (105, 6, 0, 0, []), (106, 31, 100, 0, []), (107, 3, 3, 0, []), (108, 0, 4294967295, 0, []), (109, 6, 5, 0, []), (110, 6, 3, 0, []), (111, 20, 0, 117, []), (114, 22, 0, 213, []), (117, 3, 0, 1, []), (118, 3, 0, 1, []), (119, 25, 12, 34, [16394]), (122, 20, 1, 129, []), (125, 0, 1, 0, []), (126, 22, 0, 130, []), (129, 0, 0, 0, []), (130, 26, 12, 35, [3, 16395]), (133, 3, 0, 1, []), (134, 25, 12, 35, [16395]), (137, 20, 1, 213, []), (140, 3, 0, 1, []), (141, 15, 0, 0, []), (142, 25, 12, 34, [16394]), (145, 0, 1, 0, []), (146, 6, 1, 1, []), (147, 26, 12, 34, [0, 16394]), (150, 3, 0, 1, []), (151, 25, 12, 31, [16391]), (154, 3, 2, 0, []), (155, 3, 6, 0, []), (157, 32, 100, 0, []), (158, 3, 4, 0, []), (160, 3, 0, 1, []), (161, 25, 12, 0, [15576]), (164, 3, 7, 0, []), (166, 31, 100, 0, []), (167, 6, 0, 1, []), (168, 4, 8, 0, []), (170, 3, 0, 1, []), (171, 3, 1, 0, []), (172, 3, 2, 0, []), (173, 0, 1, 0, []), (174, 6, 0, 0, []), (175, 3, 3, 0, []), (176, 0, 1, 0, []), (177, 3, 6, 0, []), (179, 6, 6, 0, []), (180, 6, 4, 0, []), (181, 3, 8, 0, []), (183, 3, 5, 0, []), (185, 3, 8, 0, []), (187, 3, 1, 0, []), (188, 21, 3, 208, []), (191, 3, 0, 1, []), (192, 25, 12, 0, [15576]), (195, 3, 7, 0, []), (197, 0, 1, 0, []), (198, 6, 0, 0, []), (199, 31, 100, 0, []), (200, 3, 1, 0, []), (201, 3, 8, 0, []), (203, 6, 1, 1, []), (204, 6, 2, 1, []), (205, 22, 0, 209, []), (208, 0, 0, 0, []), (209, 6, 0, 1, []), (210, 33, 6, gn0, [13, 1, 18671, 0, 19457, 8195, 19458, 9230]), (213, 5, 6, 1, []), (216, 22, 0, 59, []), (219, 36, 0, 0, [])], rm)
set_option maxRecDepth 8000 in
theorem cg_seek {d : Int} {kk : Nat} {rm : Room} (hd1 : 1 ≤ d) (hd2 : d ≤ 6) {gm0 : xM} {gn0 : Nat} (ge0 : xMs[gn0]? = some gm0) (gk0 : Nat.ble 6 gm0.2.2.1 = true ∧ (xR gm0).cells = 0 ∧ (xR gm0).slots = 0) (gc0 : ∀ {I : fH} {x1 : Int} {x2 : Int} {x3 : Int} {x4 : Int} {x5 : Int} (h0 : fB bsJ I) (ha1 : (1 ≤ x1 ∧ x1 ≤ 60)) (ha2 : ((d + 1) ≤ x2 ∧ x2 ≤ (d + 1))) (ha3 : ((-2147483648) ≤ x3 ∧ x3 ≤ 2147483647)) (ha4 : (0 ≤ x4 ∧ x4 ≤ 9 * (d + 1))) (ha5 : ((-2147483648) ≤ x5 ∧ x5 ≤ 2147483647)) (hp0 : x2 = (d + 1)) (hp1 : x2 ≤ I 741 12) (hp2 : 0 ≤ x5 ∧ x5 ≤ 5940 * x2), fC ρ base n F xTc vwCl xTys D dA la gJ (fbz bsJ znJ (fKc wz_4d25e) I) gm0 [.inr (.inr (some 740)), .inl x1, .inl x2, .inl x3, .inl x4, .inl x5] I (fun I' r => r = none ∧ True ∧ (∀ (p : Nat → Int) (s : sSt), (∀ i : Nat, (i : Int) < x2 → I 757 i = p i) → skQ (I 741 12).toNat s I → skQ (I 741 12).toNat (sSk (I 741 12).toNat (fun b => I 741 (4370 + 3 * b)) (fun b => I 741 (4371 + 3 * b)) (fun b => I 741 (4372 + 3 * b)) x1 kk x2.toNat x3 x4 x5 p s) I') ∧ (∀ i : Nat, (i : Int) < x2 → I' 757 i = I 757 i))) (hin : (gM_seek gn0 rm) ∈ xMs) (hx6 : f60c xTc xTys (gM_seek gn0 rm) = true) {I : fH} {x1 : Int} {x2 : Int} {x3 : Int} {x4 : Int} {x5 : Int} (h0 : fB bsJ I) (ha1 : (1 ≤ x1 ∧ x1 ≤ 60)) (ha2 : (d ≤ x2 ∧ x2 ≤ d)) (ha3 : ((-2147483648) ≤ x3 ∧ x3 ≤ 2147483647)) (ha4 : (0 ≤ x4 ∧ x4 ≤ 9 * d)) (ha5 : ((-2147483648) ≤ x5 ∧ x5 ≤ 2147483647)) (hp0 : x2 = d) (hp1 : x2 ≤ I 741 12) (hp2 : 0 ≤ x5 ∧ x5 ≤ 5940 * x2) : fC ρ base n F xTc vwCl xTys D dA la gJ (fbz bsJ znJ (fKc wz_4d25e) I) (gM_seek gn0 rm) [.inr (.inr (some 740)), .inl x1, .inl x2, .inl x3, .inl x4, .inl x5] I (fun I' r => r = none ∧ True ∧ (∀ (p : Nat → Int) (s : sSt), (∀ i : Nat, (i : Int) < x2 → I 757 i = p i) → skQ (I 741 12).toNat s I → skQ (I 741 12).toNat (sSk (I 741 12).toNat (fun b => I 741 (4370 + 3 * b)) (fun b => I 741 (4371 + 3 * b)) (fun b => I 741 (4372 + 3 * b)) x1 (kk + 1) x2.toNat x3 x4 x5 p s) I') ∧ (∀ i : Nat, (i : Int) < x2 → I' 757 i = I 757 i)) := by
  have hW : fzs wz_4d25e (fKc wz_4d25e) := fKc_ok _
  refine f_meth (rb := rbJ) (J := [(29, (jg_seek_29 d kk x2 x5 I)), (59, (jg_seek_59 d kk x1 x2 x3 x4 x5 I))]) 16 400 xG hin hx6 okJ (fB_self h0) ?_ ?_
  · refine List.forall_mem_cons.mpr ⟨?_, List.forall_mem_cons.mpr ⟨?_, fun q h => absurd h List.not_mem_nil⟩⟩
    · rintro m _ _ I1 hB1 ⟨y2, y6, rfl, rfl, ⟨hb, hx0, hx1⟩, hm⟩
      have k1 := fBz_eq hB1 (a := 741) (j := 12) (by decide +kernel)
      have b2 := fBd fb_741_12 (fBz h0 hB1)
      have b3 := fBd fb_740_35 (fBz h0 hB1)
      refine And.intro (And.intro (by first | exact fi_ hb.2.1.1 hb.2.1.2 rfl | omega) (by first | exact fi_ hb.1.1 hb.1.2 rfl | omega)) (And.intro ?_ ?_)
      · intro c4
        exact ⟨rfl, True.intro, (fun p s hp hs => by rw [sk_tk (by omega)]; first | exact tq_yes hs (by omega) (by omega) (fun i hi => hp i (by omega)) (by omega) (by omega) (by omega) (fun i hi => hx0 i (by omega)) | exact tq_yes hs (by omega) (by omega) (fun i hi => hp i (by omega)) (by omega) (by omega) (by omega) (fun i hi => absurd hi (by omega)) | exact tq_no hs (by omega) (by omega)), (by first | exact (fun i _ => hx1 i) | exact (fun i _ => rfl) | exact (fun i _ => fup_other enil0 757 i (Or.inl (by decide))))⟩
      · intro c5
        refine And.intro ⟨rfl, by decide, by decide⟩ ?_
        refine And.intro ⟨rfl, by decide, by decide⟩ ?_
        refine fload1 rL_757_757_0_6_1_0 h0 hB1 ⟨by decide, by decide⟩ (by first | exact ⟨hb.2.1.1, Int.le_trans (Int.le_sub_one_of_lt (Int.lt_of_lt_of_le c5 hb.1.2)) (by decide)⟩ | omega) ?_
        intro z6 lz6 uz6 qz6
        refine fstore1 rS_758_758_0_6_1_0 (fzs_sub (by decide +kernel) hW) ⟨by decide, by decide⟩ (by first | exact ⟨hb.2.1.1, Int.le_trans (Int.le_sub_one_of_lt (Int.lt_of_lt_of_le c5 hb.1.2)) (by decide)⟩ | omega) (by first | exact ⟨lz6, uz6⟩ | omega) ?_
        intro IhB7 ehB7 hB7
        have t8 := fup_self ehB7
        have t9 : IhB7 740 33 = I1 740 33 := (congrFun (congrFun ehB7 740) 33).trans (fup_ne (by first | exact Or.inl (by decide) | omega))
        have t10 : IhB7 740 34 = I1 740 34 := (congrFun (congrFun ehB7 740) 34).trans (fup_ne (by first | exact Or.inl (by decide) | omega))
        have t11 : IhB7 740 35 = I1 740 35 := (congrFun (congrFun ehB7 740) 35).trans (fup_ne (by first | exact Or.inl (by decide) | omega))
        have t12 : IhB7 741 12 = I1 741 12 := (congrFun (congrFun ehB7 741) 12).trans (fup_ne (by first | exact Or.inl (by decide) | omega))
        have k13 := fBz_eq hB7 (a := 741) (j := 12) (by decide +kernel)
        exact fcutJ (I := IhB7) (j := (jg_seek_29 d kk x2 x5 I)) (lv' := [(0, .inr (.inr (some 740))), (2, .inl _), (6, .inl _)]) (And.intro rfl (And.intro rfl (And.intro rfl True.intro))) ⟨_, _, rfl, rfl, ⟨by omega, (fun i h => if ei : i = y6.toNat then (by rw [ei]; exact (fup_self ehB7).trans (qz6.trans (hx1 _))) else (fup_other ehB7 758 i (Or.inr ei)).trans (hx0 i (by omega))), (fun i => (fup_other ehB7 757 i (Or.inl (by decide))).trans (hx1 i))⟩, rfl⟩ (by omega)
    · rintro m _ _ I1 hB1 ⟨y1, y2, y3, y4, y5, y6, rfl, rfl, ⟨hb, hx0, hx1⟩, hm⟩
      have k14 := fBz_eq hB1 (a := 741) (j := 12) (by decide +kernel)
      have b15 := fBd fb_741_12 (fBz h0 hB1)
      have b16 := fBd fb_740_35 (fBz h0 hB1)
      have ey1 : x1 = y1 := by omega
      subst ey1
      have ey2 : x2 = y2 := by omega
      subst ey2
      have ey3 : x3 = y3 := by omega
      subst ey3
      have ey4 : x4 = y4 := by omega
      subst ey4
      have ey5 : x5 = y5 := by omega
      subst ey5
      have sS := fFr_S (fFr_of hB1) (by decide +kernel)
      refine And.intro ⟨rfl, by decide, by decide⟩ ?_
      refine fload1 rL_741_741_12_12_1_0 h0 hB1 ⟨by decide, by decide⟩ (by first | exact ⟨by decide, by decide⟩ | omega) ?_
      intro z17 lz17 uz17 qz17
      have pz17 := fld_at qz17 12 (by omega)
      refine And.intro (And.intro (by first | exact fi_ hb.2.2.2.2.2.1.1 hb.2.2.2.2.2.1.2 rfl | omega) (by first | exact fi_ lz17 uz17 rfl | omega)) (And.intro ?_ ?_)
      · intro c18
        exact ⟨rfl, True.intro, (fun p s hp hs => by first | (exfalso; omega) | (rw [sk_go (by omega)]; exact sq_end (hx0 p s hp hs) (by omega) (by omega))), hx1⟩
      · intro c19
        refine And.intro ⟨rfl, by decide, by decide⟩ (fgetf fb_740_35 h0 hB1 ?_)
        intro z20 lz20 uz20 qz20
        refine And.intro (by first | exact fi_ lz20 uz20 rfl | omega) (And.intro ?_ ?_)
        · intro c21
          exact ⟨rfl, True.intro, (fun p s hp hs => by first | (exfalso; omega) | (rw [sk_go (by omega)]; exact sq_end (hx0 p s hp hs) (by omega) (by omega))), hx1⟩
        · intro c22
          intro z23 hz23 ez23
          intro z24 hz24 ez24 bz24
          have bz24 := bz24 (by omega)
          have wb := bt_of hz24 ez23 ez24 (by omega)
          refine And.intro (And.intro (by first | exact fi_ bz24.1 bz24.2 rfl | omega) (by first | exact ⟨by decide, by decide⟩ | omega)) (And.intro ?_ ?_)
          · intro c25
            exact fcutJ (I := I1) (j := (jg_seek_59 d kk x1 x2 x3 x4 x5 I)) (lv' := [(0, .inr (.inr (some 740))), (1, .inl _), (2, .inl _), (3, .inl _), (4, .inl _), (5, .inl _), (6, .inl _)]) (And.intro rfl (And.intro rfl (And.intro rfl (And.intro rfl (And.intro rfl (And.intro rfl (And.intro rfl True.intro))))))) ⟨_, _, _, _, _, _, rfl, rfl, ⟨by omega, (fun p s hp hs => by have hq := (hx0 p s hp hs).1; first | exact nf_skQ (qo_no (hx0 p s hp hs) (fun q => by have q1 := q.1; omega)) (by omega) (by omega) | exact nf_skQ (qo_no (hx0 p s hp hs) (fun q => by have q2 := q.2; omega)) (by omega) (by omega) | exact nf_skQ (qo_spent (hx0 p s hp hs) (by omega) (by omega) ⟨by omega, by omega⟩ rfl enil0) (by omega) (by omega) | exact nf_skQ (qo_rec (hx0 p s hp hs) (by omega) (by omega) ⟨by omega, by omega⟩ (g0nil0 (sUp p x2.toNat ((y6.toNat : Nat) : Int)) _ (path_uq enil0 enil0 enil0 (fun i hi => (hx1 i hi).trans (hp i hi)) (by omega) rfl (by omega)) (qo_in (hx0 p s hp hs) (by omega) (by omega) rfl (by omega) enil0 enil0 enil0))) (by omega) (by omega) | (exfalso; omega)), (fun i hi => by first | exact (g1nil0 i (by omega)).trans ((fup_other enil0 757 i (Or.inr (by omega))).trans ((fup_other enil0 757 i (Or.inl (by decide))).trans ((fup_other enil0 757 i (Or.inl (by decide))).trans (hx1 i hi)))) | exact ((fup_other enil0 757 i (Or.inl (by decide))).trans (hx1 i hi)) | exact hx1 i hi | (exfalso; omega))⟩, rfl⟩ (by omega)
          · intro c26
            refine And.intro ⟨rfl, by decide, by decide⟩ ?_
            refine fload rL_741_741_4372_4390_3_0 h0 hB1 (by omega) ?_
            intro z27 lz27 uz27 qz27
            intro z28 hz28 ez28
            intro z29 hz29 ez29 bz29
            clear bz29
            have wa := sAh_of hz29 ez28 ez29
            rw [fld_at qz27 (4372 + 3 * y6.toNat) (by omega), sS] at wa
            refine And.intro (by omega) (And.intro ?_ ?_)
            · intro c30
              refine And.intro ⟨rfl, by decide, by decide⟩ (fgetf fb_740_34 h0 hB1 ?_)
              intro z31 lz31 uz31 qz31
              refine And.intro (by first | exact fi_ lz31 uz31 rfl | omega) (And.intro ?_ ?_)
              · intro c32
                refine And.intro ⟨rfl, by decide, by decide⟩ (And.intro rfl (And.intro (Or.inr ⟨rfl, by omega⟩) (fputf fb_740_35 (by decide +kernel) hW (by omega) ?_)))
                intro IhB33 ehB33 hB33
                have t34 : IhB33 740 33 = I1 740 33 := (congrFun (congrFun ehB33 740) 33).trans (fup_ne (by first | decide | omega))
                have t35 : IhB33 740 34 = I1 740 34 := (congrFun (congrFun ehB33 740) 34).trans (fup_ne (by first | decide | omega))
                have t36 := fup_at ehB33 35 (by first | rfl | omega)
                have t37 : IhB33 741 12 = I1 741 12 := (congrFun (congrFun ehB33 741) 12).trans (fup_ne (by first | decide | omega))
                have k38 := fBz_eq hB33 (a := 741) (j := 12) (by decide +kernel)
                refine And.intro ⟨rfl, by decide, by decide⟩ (fgetf fb_740_35 h0 hB33 ?_)
                intro z39 lz39 uz39 qz39
                refine And.intro (by first | exact fi_ lz39 uz39 rfl | omega) (And.intro ?_ ?_)
                · intro c40
                  exact fcutJ (I := IhB33) (j := (jg_seek_59 d kk x1 x2 x3 x4 x5 I)) (lv' := [(0, .inr (.inr (some 740))), (1, .inl _), (2, .inl _), (3, .inl _), (4, .inl _), (5, .inl _), (6, .inl _)]) (And.intro rfl (And.intro rfl (And.intro rfl (And.intro rfl (And.intro rfl (And.intro rfl (And.intro rfl True.intro))))))) ⟨_, _, _, _, _, _, rfl, rfl, ⟨by omega, (fun p s hp hs => by have hq := (hx0 p s hp hs).1; first | exact nf_skQ (qo_no (hx0 p s hp hs) (fun q => by have q1 := q.1; omega)) (by omega) (by omega) | exact nf_skQ (qo_no (hx0 p s hp hs) (fun q => by have q2 := q.2; omega)) (by omega) (by omega) | exact nf_skQ (qo_spent (hx0 p s hp hs) (by omega) (by omega) ⟨by omega, by omega⟩ rfl ehB33) (by omega) (by omega) | exact nf_skQ (qo_rec (hx0 p s hp hs) (by omega) (by omega) ⟨by omega, by omega⟩ (g0nil0 (sUp p x2.toNat ((y6.toNat : Nat) : Int)) _ (path_uq ehB33 enil0 enil0 (fun i hi => (hx1 i hi).trans (hp i hi)) (by omega) rfl (by omega)) (qo_in (hx0 p s hp hs) (by omega) (by omega) rfl (by omega) ehB33 enil0 enil0))) (by omega) (by omega) | (exfalso; omega)), (fun i hi => by first | exact (g1nil0 i (by omega)).trans ((fup_other enil0 757 i (Or.inr (by omega))).trans ((fup_other enil0 757 i (Or.inl (by decide))).trans ((fup_other ehB33 757 i (Or.inl (by decide))).trans (hx1 i hi)))) | exact ((fup_other ehB33 757 i (Or.inl (by decide))).trans (hx1 i hi)) | exact hx1 i hi | (exfalso; omega))⟩, rfl⟩ (by omega)
                · intro c41
                  refine And.intro ⟨rfl, by decide, by decide⟩ (fgetf fb_740_34 h0 hB33 ?_)
                  intro z42 lz42 uz42 qz42
                  intro z43 hz43 ez43 bz43
                  try replace bz43 := bz43 (by omega)
                  refine And.intro ⟨rfl, by decide, by decide⟩ (And.intro rfl (And.intro (Or.inl rfl) (fputf fb_740_34 (by decide +kernel) hW (by omega) ?_)))
                  intro IhB44 ehB44 hB44
                  have t45 : IhB44 740 33 = IhB33 740 33 := (congrFun (congrFun ehB44 740) 33).trans (fup_ne (by first | decide | omega))
                  have t46 := fup_at ehB44 34 (by first | rfl | omega)
                  have t47 : IhB44 740 35 = IhB33 740 35 := (congrFun (congrFun ehB44 740) 35).trans (fup_ne (by first | decide | omega))
                  have t48 : IhB44 741 12 = IhB33 741 12 := (congrFun (congrFun ehB44 741) 12).trans (fup_ne (by first | decide | omega))
                  have k49 := fBz_eq hB44 (a := 741) (j := 12) (by decide +kernel)
                  refine And.intro ⟨rfl, by decide, by decide⟩ ?_
                  refine fstore1 rS_757_757_0_6_1_0 (fzs_sub (by decide +kernel) hW) ⟨by decide, by decide⟩ (by first | exact ⟨Int.le_trans (by decide) hb.2.1.1, Int.le_trans hb.2.1.2 (by decide)⟩ | omega) (by first | exact ⟨hb.2.2.2.2.2.1.1, Int.le_trans (Int.le_sub_one_of_lt (Int.lt_of_lt_of_le c19 uz17)) (by decide)⟩ | omega) ?_
                  intro IhB50 ehB50 hB50
                  have t51 := fup_self ehB50
                  have t52 : IhB50 740 33 = IhB44 740 33 := (congrFun (congrFun ehB50 740) 33).trans (fup_ne (by first | exact Or.inl (by decide) | omega))
                  have t53 : IhB50 740 34 = IhB44 740 34 := (congrFun (congrFun ehB50 740) 34).trans (fup_ne (by first | exact Or.inl (by decide) | omega))
                  have t54 : IhB50 740 35 = IhB44 740 35 := (congrFun (congrFun ehB50 740) 35).trans (fup_ne (by first | exact Or.inl (by decide) | omega))
                  have t55 : IhB50 741 12 = IhB44 741 12 := (congrFun (congrFun ehB50 741) 12).trans (fup_ne (by first | exact Or.inl (by decide) | omega))
                  have k56 := fBz_eq hB50 (a := 741) (j := 12) (by decide +kernel)
                  refine And.intro ⟨rfl, by decide, by decide⟩ ?_
                  refine fload rL_741_741_4370_4388_3_0 h0 hB50 (by omega) ?_
                  intro z57 lz57 uz57 qz57
                  have s4 : ∀ j, IhB50 741 j = I 741 j := fun j => (fup_other ehB50 741 j (Or.inl (by decide))).trans ((fup_other ehB44 741 j (Or.inl (by decide))).trans ((fup_other ehB33 741 j (Or.inl (by decide))).trans (sS j)))
                  have w166 := (fld_at qz57 (4370 + 3 * y6.toNat) (by omega)).trans (s4 _)
                  intro z58 hz58 ez58 bz58
                  have bz58 := bz58 (by omega)
                  intro z59 hz59 ez59
                  intro z60 hz60 ez60
                  refine And.intro (by omega) (And.intro ?_ ?_)
                  · intro c61
                    intro z62 hz62 ez62 bz62
                    try replace bz62 := bz62 (by omega)
                    refine Exists.intro gm0 (And.intro ge0 (And.intro ⟨rfl, gk0.1, gk0.2.1, gk0.2.2⟩ (And.intro rfl ?_)))
                    refine fcall _ h0 (fzs_sub (by decide +kernel) hW) hB50 (gc0 (fBz h0 hB50) (by first | exact ⟨hb.1.1, hb.1.2⟩ | omega) (by omega) (by omega) (by omega) (by omega) (by omega) (by omega) (by omega)) ?_
                    rintro IhB64 _ hB64 fhB64 ⟨rfl, hz63, g0z63, g1z63⟩
                    have t65 := fhB64 741 12 (by decide +kernel)
                    have k66 := fBz_eq hB64 (a := 741) (j := 12) (by decide +kernel)
                    have wd := sDn_of hz60 (by omega) ez59 ez60
                    have we : z58 = x4 + I 741 (4370 + 3 * y6.toNat) := by omega
                    have ws : z62 = x5 + sMo x1 (x4 + I 741 (4370 + 3 * y6.toNat)) (I 741 (4371 + 3 * y6.toNat)) := by first | (have q := mo_of (span := x1) (e := x4 + I 741 (4370 + 3 * y6.toNat)) w204 (by omega); rw [w199] at q; omega) | (have q : sMo x1 (x4 + I 741 (4370 + 3 * y6.toNat)) (I 741 (4371 + 3 * y6.toNat)) = 0 := if_pos (by omega); omega)
                    simp only [s4] at g0z63
                    rw [wd, we, ws, show (x2 + ((1 : Nat) : Int)).toNat = x2.toNat + 1 by omega] at g0z63
                    exact fcutJ (I := IhB64) (j := (jg_seek_59 d kk x1 x2 x3 x4 x5 I)) (lv' := [(0, .inr (.inr (some 740))), (1, .inl _), (2, .inl _), (3, .inl _), (4, .inl _), (5, .inl _), (6, .inl _)]) (And.intro rfl (And.intro rfl (And.intro rfl (And.intro rfl (And.intro rfl (And.intro rfl (And.intro rfl True.intro))))))) ⟨_, _, _, _, _, _, rfl, rfl, ⟨by omega, (fun p s hp hs => by have hq := (hx0 p s hp hs).1; first | exact nf_skQ (qo_no (hx0 p s hp hs) (fun q => by have q1 := q.1; omega)) (by omega) (by omega) | exact nf_skQ (qo_no (hx0 p s hp hs) (fun q => by have q2 := q.2; omega)) (by omega) (by omega) | exact nf_skQ (qo_spent (hx0 p s hp hs) (by omega) (by omega) ⟨by omega, by omega⟩ rfl ehB33) (by omega) (by omega) | exact nf_skQ (qo_rec (hx0 p s hp hs) (by omega) (by omega) ⟨by omega, by omega⟩ (g0z63 (sUp p x2.toNat ((y6.toNat : Nat) : Int)) _ (path_uq ehB33 ehB44 ehB50 (fun i hi => (hx1 i hi).trans (hp i hi)) (by omega) rfl (by omega)) (qo_in (hx0 p s hp hs) (by omega) (by omega) rfl (by omega) ehB33 ehB44 ehB50))) (by omega) (by omega) | (exfalso; omega)), (fun i hi => by first | exact (g1z63 i (by omega)).trans ((fup_other ehB50 757 i (Or.inr (by omega))).trans ((fup_other ehB44 757 i (Or.inl (by decide))).trans ((fup_other ehB33 757 i (Or.inl (by decide))).trans (hx1 i hi)))) | exact ((fup_other ehB33 757 i (Or.inl (by decide))).trans (hx1 i hi)) | exact hx1 i hi | (exfalso; omega))⟩, rfl⟩ (by omega)
                  · intro c67
                    refine And.intro ⟨rfl, by decide, by decide⟩ ?_
                    refine fload rL_741_741_4371_4389_3_0 h0 hB50 (by omega) ?_
                    intro z68 lz68 uz68 qz68
                    have w199 := (fld_at qz68 (4371 + 3 * y6.toNat) (by omega)).trans (s4 _)
                    intro z69 hz69 ez69 bz69
                    have bz69 := bz69 (by omega)
                    intro z70 hz70 ez70 bz70
                    try replace bz70 := bz70 (by omega)
                    have w203 := mul_bd (a := z68) (b := z69) (by omega) (by omega)
                    have w204 : z70 = z68 * z69 := by first | exact bz70 (by omega) | exact bz70
                    intro z71 hz71 ez71 bz71
                    try replace bz71 := bz71 (by omega)
                    refine Exists.intro gm0 (And.intro ge0 (And.intro ⟨rfl, gk0.1, gk0.2.1, gk0.2.2⟩ (And.intro rfl ?_)))
                    refine fcall _ h0 (fzs_sub (by decide +kernel) hW) hB50 (gc0 (fBz h0 hB50) (by first | exact ⟨hb.1.1, hb.1.2⟩ | omega) (by omega) (by omega) (by omega) (by omega) (by omega) (by omega) (by omega)) ?_
                    rintro IhB73 _ hB73 fhB73 ⟨rfl, hz72, g0z72, g1z72⟩
                    have t74 := fhB73 741 12 (by decide +kernel)
                    have k75 := fBz_eq hB73 (a := 741) (j := 12) (by decide +kernel)
                    have wd := sDn_of hz60 (by omega) ez59 ez60
                    have we : z58 = x4 + I 741 (4370 + 3 * y6.toNat) := by omega
                    have ws : z71 = x5 + sMo x1 (x4 + I 741 (4370 + 3 * y6.toNat)) (I 741 (4371 + 3 * y6.toNat)) := by first | (have q := mo_of (span := x1) (e := x4 + I 741 (4370 + 3 * y6.toNat)) w204 (by omega); rw [w199] at q; omega) | (have q : sMo x1 (x4 + I 741 (4370 + 3 * y6.toNat)) (I 741 (4371 + 3 * y6.toNat)) = 0 := if_pos (by omega); omega)
                    simp only [s4] at g0z72
                    rw [wd, we, ws, show (x2 + ((1 : Nat) : Int)).toNat = x2.toNat + 1 by omega] at g0z72
                    exact fcutJ (I := IhB73) (j := (jg_seek_59 d kk x1 x2 x3 x4 x5 I)) (lv' := [(0, .inr (.inr (some 740))), (1, .inl _), (2, .inl _), (3, .inl _), (4, .inl _), (5, .inl _), (6, .inl _)]) (And.intro rfl (And.intro rfl (And.intro rfl (And.intro rfl (And.intro rfl (And.intro rfl (And.intro rfl True.intro))))))) ⟨_, _, _, _, _, _, rfl, rfl, ⟨by omega, (fun p s hp hs => by have hq := (hx0 p s hp hs).1; first | exact nf_skQ (qo_no (hx0 p s hp hs) (fun q => by have q1 := q.1; omega)) (by omega) (by omega) | exact nf_skQ (qo_no (hx0 p s hp hs) (fun q => by have q2 := q.2; omega)) (by omega) (by omega) | exact nf_skQ (qo_spent (hx0 p s hp hs) (by omega) (by omega) ⟨by omega, by omega⟩ rfl ehB33) (by omega) (by omega) | exact nf_skQ (qo_rec (hx0 p s hp hs) (by omega) (by omega) ⟨by omega, by omega⟩ (g0z72 (sUp p x2.toNat ((y6.toNat : Nat) : Int)) _ (path_uq ehB33 ehB44 ehB50 (fun i hi => (hx1 i hi).trans (hp i hi)) (by omega) rfl (by omega)) (qo_in (hx0 p s hp hs) (by omega) (by omega) rfl (by omega) ehB33 ehB44 ehB50))) (by omega) (by omega) | (exfalso; omega)), (fun i hi => by first | exact (g1z72 i (by omega)).trans ((fup_other ehB50 757 i (Or.inr (by omega))).trans ((fup_other ehB44 757 i (Or.inl (by decide))).trans ((fup_other ehB33 757 i (Or.inl (by decide))).trans (hx1 i hi)))) | exact ((fup_other ehB33 757 i (Or.inl (by decide))).trans (hx1 i hi)) | exact hx1 i hi | (exfalso; omega))⟩, rfl⟩ (by omega)
              · intro c76
                refine And.intro ⟨rfl, by decide, by decide⟩ (And.intro rfl (And.intro (Or.inr ⟨rfl, by decide, by decide⟩) (fputf fb_740_35 (by decide +kernel) hW (by first | exact ⟨by decide, by decide⟩ | omega) ?_)))
                intro IhB77 ehB77 hB77
                have t78 : IhB77 740 33 = I1 740 33 := (congrFun (congrFun ehB77 740) 33).trans (fup_ne (by first | decide | omega))
                have t79 : IhB77 740 34 = I1 740 34 := (congrFun (congrFun ehB77 740) 34).trans (fup_ne (by first | decide | omega))
                have t80 := fup_at ehB77 35 (by first | rfl | omega)
                have t81 : IhB77 741 12 = I1 741 12 := (congrFun (congrFun ehB77 741) 12).trans (fup_ne (by first | decide | omega))
                have k82 := fBz_eq hB77 (a := 741) (j := 12) (by decide +kernel)
                refine And.intro ⟨rfl, by decide, by decide⟩ (fgetf fb_740_35 h0 hB77 ?_)
                intro z83 lz83 uz83 qz83
                refine And.intro (by first | exact fi_ lz83 uz83 rfl | omega) (And.intro ?_ ?_)
                · intro c84
                  exact fcutJ (I := IhB77) (j := (jg_seek_59 d kk x1 x2 x3 x4 x5 I)) (lv' := [(0, .inr (.inr (some 740))), (1, .inl _), (2, .inl _), (3, .inl _), (4, .inl _), (5, .inl _), (6, .inl _)]) (And.intro rfl (And.intro rfl (And.intro rfl (And.intro rfl (And.intro rfl (And.intro rfl (And.intro rfl True.intro))))))) ⟨_, _, _, _, _, _, rfl, rfl, ⟨by omega, (fun p s hp hs => by have hq := (hx0 p s hp hs).1; first | exact nf_skQ (qo_no (hx0 p s hp hs) (fun q => by have q1 := q.1; omega)) (by omega) (by omega) | exact nf_skQ (qo_no (hx0 p s hp hs) (fun q => by have q2 := q.2; omega)) (by omega) (by omega) | exact nf_skQ (qo_spent (hx0 p s hp hs) (by omega) (by omega) ⟨by omega, by omega⟩ rfl ehB77) (by omega) (by omega) | exact nf_skQ (qo_rec (hx0 p s hp hs) (by omega) (by omega) ⟨by omega, by omega⟩ (g0z72 (sUp p x2.toNat ((y6.toNat : Nat) : Int)) _ (path_uq ehB77 ehB44 ehB50 (fun i hi => (hx1 i hi).trans (hp i hi)) (by omega) rfl (by omega)) (qo_in (hx0 p s hp hs) (by omega) (by omega) rfl (by omega) ehB77 ehB44 ehB50))) (by omega) (by omega) | (exfalso; omega)), (fun i hi => by first | exact (g1z72 i (by omega)).trans ((fup_other ehB50 757 i (Or.inr (by omega))).trans ((fup_other ehB44 757 i (Or.inl (by decide))).trans ((fup_other ehB77 757 i (Or.inl (by decide))).trans (hx1 i hi)))) | exact ((fup_other ehB77 757 i (Or.inl (by decide))).trans (hx1 i hi)) | exact hx1 i hi | (exfalso; omega))⟩, rfl⟩ (by omega)
                · intro c85
                  refine And.intro ⟨rfl, by decide, by decide⟩ (fgetf fb_740_34 h0 hB77 ?_)
                  intro z86 lz86 uz86 qz86
                  intro z87 hz87 ez87 bz87
                  try replace bz87 := bz87 (by omega)
                  refine And.intro ⟨rfl, by decide, by decide⟩ (And.intro rfl (And.intro (Or.inl rfl) (fputf fb_740_34 (by decide +kernel) hW (by omega) ?_)))
                  intro IhB88 ehB88 hB88
                  have t89 : IhB88 740 33 = IhB77 740 33 := (congrFun (congrFun ehB88 740) 33).trans (fup_ne (by first | decide | omega))
                  have t90 := fup_at ehB88 34 (by first | rfl | omega)
                  have t91 : IhB88 740 35 = IhB77 740 35 := (congrFun (congrFun ehB88 740) 35).trans (fup_ne (by first | decide | omega))
                  have t92 : IhB88 741 12 = IhB77 741 12 := (congrFun (congrFun ehB88 741) 12).trans (fup_ne (by first | decide | omega))
                  have k93 := fBz_eq hB88 (a := 741) (j := 12) (by decide +kernel)
                  refine And.intro ⟨rfl, by decide, by decide⟩ ?_
                  refine fstore1 rS_757_757_0_6_1_0 (fzs_sub (by decide +kernel) hW) ⟨by decide, by decide⟩ (by first | exact ⟨Int.le_trans (by decide) hb.2.1.1, Int.le_trans hb.2.1.2 (by decide)⟩ | omega) (by first | exact ⟨hb.2.2.2.2.2.1.1, Int.le_trans (Int.le_sub_one_of_lt (Int.lt_of_lt_of_le c19 uz17)) (by decide)⟩ | omega) ?_
                  intro IhB94 ehB94 hB94
                  have t95 := fup_self ehB94
                  have t96 : IhB94 740 33 = IhB88 740 33 := (congrFun (congrFun ehB94 740) 33).trans (fup_ne (by first | exact Or.inl (by decide) | omega))
                  have t97 : IhB94 740 34 = IhB88 740 34 := (congrFun (congrFun ehB94 740) 34).trans (fup_ne (by first | exact Or.inl (by decide) | omega))
                  have t98 : IhB94 740 35 = IhB88 740 35 := (congrFun (congrFun ehB94 740) 35).trans (fup_ne (by first | exact Or.inl (by decide) | omega))
                  have t99 : IhB94 741 12 = IhB88 741 12 := (congrFun (congrFun ehB94 741) 12).trans (fup_ne (by first | exact Or.inl (by decide) | omega))
                  have k100 := fBz_eq hB94 (a := 741) (j := 12) (by decide +kernel)
                  refine And.intro ⟨rfl, by decide, by decide⟩ ?_
                  refine fload rL_741_741_4370_4388_3_0 h0 hB94 (by omega) ?_
                  intro z101 lz101 uz101 qz101
                  have s4 : ∀ j, IhB94 741 j = I 741 j := fun j => (fup_other ehB94 741 j (Or.inl (by decide))).trans ((fup_other ehB88 741 j (Or.inl (by decide))).trans ((fup_other ehB77 741 j (Or.inl (by decide))).trans (sS j)))
                  have w166 := (fld_at qz101 (4370 + 3 * y6.toNat) (by omega)).trans (s4 _)
                  intro z102 hz102 ez102 bz102
                  have bz102 := bz102 (by omega)
                  intro z103 hz103 ez103
                  intro z104 hz104 ez104
                  refine And.intro (by omega) (And.intro ?_ ?_)
                  · intro c105
                    intro z106 hz106 ez106 bz106
                    try replace bz106 := bz106 (by omega)
                    refine Exists.intro gm0 (And.intro ge0 (And.intro ⟨rfl, gk0.1, gk0.2.1, gk0.2.2⟩ (And.intro rfl ?_)))
                    refine fcall _ h0 (fzs_sub (by decide +kernel) hW) hB94 (gc0 (fBz h0 hB94) (by first | exact ⟨hb.1.1, hb.1.2⟩ | omega) (by omega) (by omega) (by omega) (by omega) (by omega) (by omega) (by omega)) ?_
                    rintro IhB108 _ hB108 fhB108 ⟨rfl, hz107, g0z107, g1z107⟩
                    have t109 := fhB108 741 12 (by decide +kernel)
                    have k110 := fBz_eq hB108 (a := 741) (j := 12) (by decide +kernel)
                    have wd := sDn_of hz104 (by omega) ez103 ez104
                    have we : z102 = x4 + I 741 (4370 + 3 * y6.toNat) := by omega
                    have ws : z106 = x5 + sMo x1 (x4 + I 741 (4370 + 3 * y6.toNat)) (I 741 (4371 + 3 * y6.toNat)) := by first | (have q := mo_of (span := x1) (e := x4 + I 741 (4370 + 3 * y6.toNat)) w204 (by omega); rw [w199] at q; omega) | (have q : sMo x1 (x4 + I 741 (4370 + 3 * y6.toNat)) (I 741 (4371 + 3 * y6.toNat)) = 0 := if_pos (by omega); omega)
                    simp only [s4] at g0z107
                    rw [wd, we, ws, show (x2 + ((1 : Nat) : Int)).toNat = x2.toNat + 1 by omega] at g0z107
                    exact fcutJ (I := IhB108) (j := (jg_seek_59 d kk x1 x2 x3 x4 x5 I)) (lv' := [(0, .inr (.inr (some 740))), (1, .inl _), (2, .inl _), (3, .inl _), (4, .inl _), (5, .inl _), (6, .inl _)]) (And.intro rfl (And.intro rfl (And.intro rfl (And.intro rfl (And.intro rfl (And.intro rfl (And.intro rfl True.intro))))))) ⟨_, _, _, _, _, _, rfl, rfl, ⟨by omega, (fun p s hp hs => by have hq := (hx0 p s hp hs).1; first | exact nf_skQ (qo_no (hx0 p s hp hs) (fun q => by have q1 := q.1; omega)) (by omega) (by omega) | exact nf_skQ (qo_no (hx0 p s hp hs) (fun q => by have q2 := q.2; omega)) (by omega) (by omega) | exact nf_skQ (qo_spent (hx0 p s hp hs) (by omega) (by omega) ⟨by omega, by omega⟩ rfl ehB77) (by omega) (by omega) | exact nf_skQ (qo_rec (hx0 p s hp hs) (by omega) (by omega) ⟨by omega, by omega⟩ (g0z107 (sUp p x2.toNat ((y6.toNat : Nat) : Int)) _ (path_uq ehB77 ehB88 ehB94 (fun i hi => (hx1 i hi).trans (hp i hi)) (by omega) rfl (by omega)) (qo_in (hx0 p s hp hs) (by omega) (by omega) rfl (by omega) ehB77 ehB88 ehB94))) (by omega) (by omega) | (exfalso; omega)), (fun i hi => by first | exact (g1z107 i (by omega)).trans ((fup_other ehB94 757 i (Or.inr (by omega))).trans ((fup_other ehB88 757 i (Or.inl (by decide))).trans ((fup_other ehB77 757 i (Or.inl (by decide))).trans (hx1 i hi)))) | exact ((fup_other ehB77 757 i (Or.inl (by decide))).trans (hx1 i hi)) | exact hx1 i hi | (exfalso; omega))⟩, rfl⟩ (by omega)
                  · intro c111
                    refine And.intro ⟨rfl, by decide, by decide⟩ ?_
                    refine fload rL_741_741_4371_4389_3_0 h0 hB94 (by omega) ?_
                    intro z112 lz112 uz112 qz112
                    have w199 := (fld_at qz112 (4371 + 3 * y6.toNat) (by omega)).trans (s4 _)
                    intro z113 hz113 ez113 bz113
                    have bz113 := bz113 (by omega)
                    intro z114 hz114 ez114 bz114
                    try replace bz114 := bz114 (by omega)
                    have w203 := mul_bd (a := z112) (b := z113) (by omega) (by omega)
                    have w204 : z114 = z112 * z113 := by first | exact bz114 (by omega) | exact bz114
                    intro z115 hz115 ez115 bz115
                    try replace bz115 := bz115 (by omega)
                    refine Exists.intro gm0 (And.intro ge0 (And.intro ⟨rfl, gk0.1, gk0.2.1, gk0.2.2⟩ (And.intro rfl ?_)))
                    refine fcall _ h0 (fzs_sub (by decide +kernel) hW) hB94 (gc0 (fBz h0 hB94) (by first | exact ⟨hb.1.1, hb.1.2⟩ | omega) (by omega) (by omega) (by omega) (by omega) (by omega) (by omega) (by omega)) ?_
                    rintro IhB117 _ hB117 fhB117 ⟨rfl, hz116, g0z116, g1z116⟩
                    have t118 := fhB117 741 12 (by decide +kernel)
                    have k119 := fBz_eq hB117 (a := 741) (j := 12) (by decide +kernel)
                    have wd := sDn_of hz104 (by omega) ez103 ez104
                    have we : z102 = x4 + I 741 (4370 + 3 * y6.toNat) := by omega
                    have ws : z115 = x5 + sMo x1 (x4 + I 741 (4370 + 3 * y6.toNat)) (I 741 (4371 + 3 * y6.toNat)) := by first | (have q := mo_of (span := x1) (e := x4 + I 741 (4370 + 3 * y6.toNat)) w204 (by omega); rw [w199] at q; omega) | (have q : sMo x1 (x4 + I 741 (4370 + 3 * y6.toNat)) (I 741 (4371 + 3 * y6.toNat)) = 0 := if_pos (by omega); omega)
                    simp only [s4] at g0z116
                    rw [wd, we, ws, show (x2 + ((1 : Nat) : Int)).toNat = x2.toNat + 1 by omega] at g0z116
                    exact fcutJ (I := IhB117) (j := (jg_seek_59 d kk x1 x2 x3 x4 x5 I)) (lv' := [(0, .inr (.inr (some 740))), (1, .inl _), (2, .inl _), (3, .inl _), (4, .inl _), (5, .inl _), (6, .inl _)]) (And.intro rfl (And.intro rfl (And.intro rfl (And.intro rfl (And.intro rfl (And.intro rfl (And.intro rfl True.intro))))))) ⟨_, _, _, _, _, _, rfl, rfl, ⟨by omega, (fun p s hp hs => by have hq := (hx0 p s hp hs).1; first | exact nf_skQ (qo_no (hx0 p s hp hs) (fun q => by have q1 := q.1; omega)) (by omega) (by omega) | exact nf_skQ (qo_no (hx0 p s hp hs) (fun q => by have q2 := q.2; omega)) (by omega) (by omega) | exact nf_skQ (qo_spent (hx0 p s hp hs) (by omega) (by omega) ⟨by omega, by omega⟩ rfl ehB77) (by omega) (by omega) | exact nf_skQ (qo_rec (hx0 p s hp hs) (by omega) (by omega) ⟨by omega, by omega⟩ (g0z116 (sUp p x2.toNat ((y6.toNat : Nat) : Int)) _ (path_uq ehB77 ehB88 ehB94 (fun i hi => (hx1 i hi).trans (hp i hi)) (by omega) rfl (by omega)) (qo_in (hx0 p s hp hs) (by omega) (by omega) rfl (by omega) ehB77 ehB88 ehB94))) (by omega) (by omega) | (exfalso; omega)), (fun i hi => by first | exact (g1z116 i (by omega)).trans ((fup_other ehB94 757 i (Or.inr (by omega))).trans ((fup_other ehB88 757 i (Or.inl (by decide))).trans ((fup_other ehB77 757 i (Or.inl (by decide))).trans (hx1 i hi)))) | exact ((fup_other ehB77 757 i (Or.inl (by decide))).trans (hx1 i hi)) | exact hx1 i hi | (exfalso; omega))⟩, rfl⟩ (by omega)
            · intro c120
              exact fcutJ (I := I1) (j := (jg_seek_59 d kk x1 x2 x3 x4 x5 I)) (lv' := [(0, .inr (.inr (some 740))), (1, .inl _), (2, .inl _), (3, .inl _), (4, .inl _), (5, .inl _), (6, .inl _)]) (And.intro rfl (And.intro rfl (And.intro rfl (And.intro rfl (And.intro rfl (And.intro rfl (And.intro rfl True.intro))))))) ⟨_, _, _, _, _, _, rfl, rfl, ⟨by omega, (fun p s hp hs => by have hq := (hx0 p s hp hs).1; first | exact nf_skQ (qo_no (hx0 p s hp hs) (fun q => by have q1 := q.1; omega)) (by omega) (by omega) | exact nf_skQ (qo_no (hx0 p s hp hs) (fun q => by have q2 := q.2; omega)) (by omega) (by omega) | exact nf_skQ (qo_spent (hx0 p s hp hs) (by omega) (by omega) ⟨by omega, by omega⟩ rfl ehB77) (by omega) (by omega) | exact nf_skQ (qo_rec (hx0 p s hp hs) (by omega) (by omega) ⟨by omega, by omega⟩ (g0z116 (sUp p x2.toNat ((y6.toNat : Nat) : Int)) _ (path_uq ehB77 ehB88 ehB94 (fun i hi => (hx1 i hi).trans (hp i hi)) (by omega) rfl (by omega)) (qo_in (hx0 p s hp hs) (by omega) (by omega) rfl (by omega) ehB77 ehB88 ehB94))) (by omega) (by omega) | (exfalso; omega)), (fun i hi => by first | exact (g1z116 i (by omega)).trans ((fup_other ehB94 757 i (Or.inr (by omega))).trans ((fup_other ehB88 757 i (Or.inl (by decide))).trans ((fup_other ehB77 757 i (Or.inl (by decide))).trans (hx1 i hi)))) | exact ((fup_other ehB77 757 i (Or.inl (by decide))).trans (hx1 i hi)) | exact hx1 i hi | (exfalso; omega))⟩, rfl⟩ (by omega)
  · have hB0 := fB_self (zn := znJ) (K := fKc wz_4d25e) h0
    have b121 := fBd fb_741_12 (fBz h0 hB0)
    have b122 := fBd fb_740_35 (fBz h0 hB0)
    refine And.intro ⟨rfl, by decide, by decide⟩ ?_
    refine fload1 rL_741_741_12_12_1_0 h0 hB0 ⟨by decide, by decide⟩ (by first | exact ⟨by decide, by decide⟩ | omega) ?_
    intro z123 lz123 uz123 qz123
    have pz123 := fld_at qz123 12 (by omega)
    refine And.intro (And.intro (by first | exact fi_ ha2.1 ha2.2 rfl | omega) (by first | exact fi_ lz123 uz123 rfl | omega)) (And.intro ?_ ?_)
    · intro c124
      exact fcutJ (I := I) (j := (jg_seek_59 d kk x1 x2 x3 x4 x5 I)) (lv' := [(0, .inr (.inr (some 740))), (1, .inl _), (2, .inl _), (3, .inl _), (4, .inl _), (5, .inl _), (6, .inl _)]) (And.intro rfl (And.intro rfl (And.intro rfl (And.intro rfl (And.intro rfl (And.intro rfl (And.intro rfl True.intro))))))) ⟨_, _, _, _, _, _, rfl, rfl, ⟨by omega, (fun p s hp hs => hs), (fun i _ => rfl)⟩, rfl⟩ (by omega)
    · intro c125
      refine And.intro ⟨rfl, by decide, by decide⟩ (fgetf fb_740_33 h0 hB0 ?_)
      intro z126 lz126 uz126 qz126
      refine And.intro (And.intro (by first | exact fi_ ha5.1 ha5.2 rfl | omega) (by first | exact fi_ lz126 uz126 rfl | omega)) (And.intro ?_ ?_)
      · intro c127
        exact ⟨rfl, True.intro, (fun p s hp hs => by rw [sk_tk (by omega)]; first | exact tq_yes hs (by omega) (by omega) (fun i hi => hp i (by omega)) (by omega) (by omega) (by omega) (fun i hi => hx0 i (by omega)) | exact tq_yes hs (by omega) (by omega) (fun i hi => hp i (by omega)) (by omega) (by omega) (by omega) (fun i hi => absurd hi (by omega)) | exact tq_no hs (by omega) (by omega)), (by first | exact (fun i _ => hx1 i) | exact (fun i _ => rfl) | exact (fun i _ => fup_other enil0 757 i (Or.inl (by decide))))⟩
      · intro c128
        refine And.intro ⟨rfl, by decide, by decide⟩ (And.intro rfl (And.intro (Or.inl rfl) (fputf fb_740_33 (by decide +kernel) hW (by first | exact ⟨Int.le_trans (by decide) (Int.add_one_le_of_lt (Int.lt_of_le_of_lt lz126 c128)), ha5.2⟩ | omega) ?_)))
        intro IhB129 ehB129 hB129
        have t130 := fup_at ehB129 33 (by first | rfl | omega)
        have t131 : IhB129 740 34 = I 740 34 := (congrFun (congrFun ehB129 740) 34).trans (fup_ne (by first | decide | omega))
        have t132 : IhB129 740 35 = I 740 35 := (congrFun (congrFun ehB129 740) 35).trans (fup_ne (by first | decide | omega))
        have t133 : IhB129 741 12 = I 741 12 := (congrFun (congrFun ehB129 741) 12).trans (fup_ne (by first | decide | omega))
        have k134 := fBz_eq hB129 (a := 741) (j := 12) (by decide +kernel)
        exact fcutJ (I := IhB129) (j := (jg_seek_29 d kk x2 x5 I)) (lv' := [(0, .inr (.inr (some 740))), (2, .inl _), (6, .inl _)]) (And.intro rfl (And.intro rfl (And.intro rfl True.intro))) ⟨_, _, rfl, rfl, ⟨by omega, (fun i h => absurd h (by omega)), (fun i => fup_other ehB129 757 i (Or.inl (by decide)))⟩, rfl⟩ (by omega)
end CT

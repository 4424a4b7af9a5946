set_option linter.all false
section CT
variable {ρ : Nat → Int32} {base n : Nat} {F : Nat → Prop} {D : va_G} {dA : Nat → ClassId} {la : Launch}
theorem ct_M_seek_ae1ea {I : fH} {x1 : Int} {x2 : Int} {x3 : Int} {x4 : Int} {x5 : Int} (h0 : fB bsJ I) (ha1 : (1 ≤ x1 ∧ x1 ≤ 60)) (ha2 : (6 ≤ x2 ∧ x2 ≤ 6)) (ha3 : ((-2147483648) ≤ x3 ∧ x3 ≤ 2147483647)) (ha4 : (0 ≤ x4 ∧ x4 ≤ 54)) (ha5 : ((-2147483648) ≤ x5 ∧ x5 ≤ 2147483647)) (hp0 : x2 = 6) (hp1 : x2 ≤ I 741 12) (hp2 : 0 ≤ x5 ∧ x5 ≤ 5940 * x2) : fC ρ base n F xTc vwCl xTys D dA la gJ (fbz bsJ znJ (fKc wz_4d25e) I) xm_480 [.inr (.inr (some 740)), .inl x1, .inl x2, .inl x3, .inl x4, .inl x5] I (fun I' r => r = none ∧ True ∧ (∀ (p : Nat → Int) (s : sSt), (∀ i : Nat, (i : Int) < x2 → I 757 i = p i) → skQ (I 741 12).toNat s I → skQ (I 741 12).toNat (sSk (I 741 12).toNat (fun b => I 741 (4370 + 3 * b)) (fun b => I 741 (4371 + 3 * b)) (fun b => I 741 (4372 + 3 * b)) x1 1 x2.toNat x3 x4 x5 p s) I') ∧ (∀ i : Nat, (i : Int) < x2 → I' 757 i = I 757 i)) := cg_seek (d := 6) (kk := 0) (by decide) (by decide) mi_479 ⟨rfl, rfl, rfl⟩ (fun h0 ha1 ha2 ha3 ha4 ha5 hp0 hp1 hp2 => ct_M_seek_c83ec h0 ha1 (by omega) ha3 (by omega) ha5 (by omega) hp1 hp2) xin_480 x6_480 h0 ha1 ha2 ha3 (by omega) ha5 hp0 hp1 hp2
theorem ct_M_seek_5a34b {I : fH} {x1 : Int} {x2 : Int} {x3 : Int} {x4 : Int} {x5 : Int} (h0 : fB bsJ I) (ha1 : (1 ≤ x1 ∧ x1 ≤ 60)) (ha2 : (5 ≤ x2 ∧ x2 ≤ 5)) (ha3 : ((-2147483648) ≤ x3 ∧ x3 ≤ 2147483647)) (ha4 : (0 ≤ x4 ∧ x4 ≤ 45)) (ha5 : ((-2147483648) ≤ x5 ∧ x5 ≤ 2147483647)) (hp0 : x2 = 5) (hp1 : x2 ≤ I 741 12) (hp2 : 0 ≤ x5 ∧ x5 ≤ 5940 * x2) : fC ρ base n F xTc vwCl xTys D dA la gJ (fbz bsJ znJ (fKc wz_4d25e) I) xm_481 [.inr (.inr (some 740)), .inl x1, .inl x2, .inl x3, .inl x4, .inl x5] I (fun I' r => r = none ∧ True ∧ (∀ (p : Nat → Int) (s : sSt), (∀ i : Nat, (i : Int) < x2 → I 757 i = p i) → skQ (I 741 12).toNat s I → skQ (I 741 12).toNat (sSk (I 741 12).toNat (fun b => I 741 (4370 + 3 * b)) (fun b => I 741 (4371 + 3 * b)) (fun b => I 741 (4372 + 3 * b)) x1 2 x2.toNat x3 x4 x5 p s) I') ∧ (∀ i : Nat, (i : Int) < x2 → I' 757 i = I 757 i)) := cg_seek (d := 5) (kk := 1) (by decide) (by decide) mi_480 ⟨rfl, rfl, rfl⟩ (fun h0 ha1 ha2 ha3 ha4 ha5 hp0 hp1 hp2 => ct_M_seek_ae1ea h0 ha1 (by omega) ha3 (by omega) ha5 (by omega) hp1 hp2) xin_481 x6_481 h0 ha1 ha2 ha3 (by omega) ha5 hp0 hp1 hp2
theorem ct_M_seek_2af86 {I : fH} {x1 : Int} {x2 : Int} {x3 : Int} {x4 : Int} {x5 : Int} (h0 : fB bsJ I) (ha1 : (1 ≤ x1 ∧ x1 ≤ 60)) (ha2 : (4 ≤ x2 ∧ x2 ≤ 4)) (ha3 : ((-2147483648) ≤ x3 ∧ x3 ≤ 2147483647)) (ha4 : (0 ≤ x4 ∧ x4 ≤ 36)) (ha5 : ((-2147483648) ≤ x5 ∧ x5 ≤ 2147483647)) (hp0 : x2 = 4) (hp1 : x2 ≤ I 741 12) (hp2 : 0 ≤ x5 ∧ x5 ≤ 5940 * x2) : fC ρ base n F xTc vwCl xTys D dA la gJ (fbz bsJ znJ (fKc wz_4d25e) I) xm_482 [.inr (.inr (some 740)), .inl x1, .inl x2, .inl x3, .inl x4, .inl x5] I (fun I' r => r = none ∧ True ∧ (∀ (p : Nat → Int) (s : sSt), (∀ i : Nat, (i : Int) < x2 → I 757 i = p i) → skQ (I 741 12).toNat s I → skQ (I 741 12).toNat (sSk (I 741 12).toNat (fun b => I 741 (4370 + 3 * b)) (fun b => I 741 (4371 + 3 * b)) (fun b => I 741 (4372 + 3 * b)) x1 3 x2.toNat x3 x4 x5 p s) I') ∧ (∀ i : Nat, (i : Int) < x2 → I' 757 i = I 757 i)) := cg_seek (d := 4) (kk := 2) (by decide) (by decide) mi_481 ⟨rfl, rfl, rfl⟩ (fun h0 ha1 ha2 ha3 ha4 ha5 hp0 hp1 hp2 => ct_M_seek_5a34b h0 ha1 (by omega) ha3 (by omega) ha5 (by omega) hp1 hp2) xin_482 x6_482 h0 ha1 ha2 ha3 (by omega) ha5 hp0 hp1 hp2
theorem ct_M_seek_6e4c8 {I : fH} {x1 : Int} {x2 : Int} {x3 : Int} {x4 : Int} {x5 : Int} (h0 : fB bsJ I) (ha1 : (1 ≤ x1 ∧ x1 ≤ 60)) (ha2 : (3 ≤ x2 ∧ x2 ≤ 3)) (ha3 : ((-2147483648) ≤ x3 ∧ x3 ≤ 2147483647)) (ha4 : (0 ≤ x4 ∧ x4 ≤ 27)) (ha5 : ((-2147483648) ≤ x5 ∧ x5 ≤ 2147483647)) (hp0 : x2 = 3) (hp1 : x2 ≤ I 741 12) (hp2 : 0 ≤ x5 ∧ x5 ≤ 5940 * x2) : fC ρ base n F xTc vwCl xTys D dA la gJ (fbz bsJ znJ (fKc wz_4d25e) I) xm_483 [.inr (.inr (some 740)), .inl x1, .inl x2, .inl x3, .inl x4, .inl x5] I (fun I' r => r = none ∧ True ∧ (∀ (p : Nat → Int) (s : sSt), (∀ i : Nat, (i : Int) < x2 → I 757 i = p i) → skQ (I 741 12).toNat s I → skQ (I 741 12).toNat (sSk (I 741 12).toNat (fun b => I 741 (4370 + 3 * b)) (fun b => I 741 (4371 + 3 * b)) (fun b => I 741 (4372 + 3 * b)) x1 4 x2.toNat x3 x4 x5 p s) I') ∧ (∀ i : Nat, (i : Int) < x2 → I' 757 i = I 757 i)) := cg_seek (d := 3) (kk := 3) (by decide) (by decide) mi_482 ⟨rfl, rfl, rfl⟩ (fun h0 ha1 ha2 ha3 ha4 ha5 hp0 hp1 hp2 => ct_M_seek_2af86 h0 ha1 (by omega) ha3 (by omega) ha5 (by omega) hp1 hp2) xin_483 x6_483 h0 ha1 ha2 ha3 (by omega) ha5 hp0 hp1 hp2
theorem ct_M_seek_92ac3 {I : fH} {x1 : Int} {x2 : Int} {x3 : Int} {x4 : Int} {x5 : Int} (h0 : fB bsJ I) (ha1 : (1 ≤ x1 ∧ x1 ≤ 60)) (ha2 : (2 ≤ x2 ∧ x2 ≤ 2)) (ha3 : ((-2147483648) ≤ x3 ∧ x3 ≤ 2147483647)) (ha4 : (0 ≤ x4 ∧ x4 ≤ 18)) (ha5 : ((-2147483648) ≤ x5 ∧ x5 ≤ 2147483647)) (hp0 : x2 = 2) (hp1 : x2 ≤ I 741 12) (hp2 : 0 ≤ x5 ∧ x5 ≤ 5940 * x2) : fC ρ base n F xTc vwCl xTys D dA la gJ (fbz bsJ znJ (fKc wz_4d25e) I) xm_484 [.inr (.inr (some 740)), .inl x1, .inl x2, .inl x3, .inl x4, .inl x5] I (fun I' r => r = none ∧ True ∧ (∀ (p : Nat → Int) (s : sSt), (∀ i : Nat, (i : Int) < x2 → I 757 i = p i) → skQ (I 741 12).toNat s I → skQ (I 741 12).toNat (sSk (I 741 12).toNat (fun b => I 741 (4370 + 3 * b)) (fun b => I 741 (4371 + 3 * b)) (fun b => I 741 (4372 + 3 * b)) x1 5 x2.toNat x3 x4 x5 p s) I') ∧ (∀ i : Nat, (i : Int) < x2 → I' 757 i = I 757 i)) := cg_seek (d := 2) (kk := 4) (by decide) (by decide) mi_483 ⟨rfl, rfl, rfl⟩ (fun h0 ha1 ha2 ha3 ha4 ha5 hp0 hp1 hp2 => ct_M_seek_6e4c8 h0 ha1 (by omega) ha3 (by omega) ha5 (by omega) hp1 hp2) xin_484 x6_484 h0 ha1 ha2 ha3 (by omega) ha5 hp0 hp1 hp2
abbrev jc_M_seek_58809_29 (x2 : Int) (x5 : Int) (I0 : fH) : Nat → fL → List fV → fH → Prop := fun m lv st I => ∃ (y2 : Int) (y6 : Int), lv = [(0, .inr (.inr (some 740))), (2, .inl y2), (6, .inl y6)] ∧ st = [] ∧ (((1 ≤ y2 ∧ y2 ≤ 1) ∧ (0 ≤ y6 ∧ y6 ≤ 1) ∧ ((-2147483647) ≤ I 740 33 ∧ I 740 33 ≤ 2147483647) ∧ (1 ≤ I 741 12 ∧ I 741 12 ≤ 1) ∧ (y2 = x2) ∧ (x2 = I0 741 12) ∧ (I 740 33 = x5) ∧ (I0 740 33 < x5) ∧ (I 740 34 = I0 740 34) ∧ (I 740 35 = I0 740 35) ∧ (y6 ≤ x2)) ∧ (∀ i : Nat, (i : Int) < y6 → I 758 i = I0 757 i) ∧ (∀ i : Nat, I 757 i = I0 757 i)) ∧ m = (9 + 1 * (1 - y6) : Int).toNat
abbrev jc_M_seek_58809_59 (x1 : Int) (x2 : Int) (x3 : Int) (x4 : Int) (x5 : Int) (I0 : fH) : Nat → fL → List fV → fH → Prop := fun m lv st I => ∃ (y1 : Int) (y2 : Int) (y3 : Int) (y4 : Int) (y5 : Int) (y6 : Int), lv = [(0, .inr (.inr (some 740))), (1, .inl y1), (2, .inl y2), (3, .inl y3), (4, .inl y4), (5, .inl y5), (6, .inl y6)] ∧ st = [] ∧ (((1 ≤ y1 ∧ y1 ≤ 60) ∧ (1 ≤ y2 ∧ y2 ≤ 1) ∧ ((-2147483648) ≤ y3 ∧ y3 ≤ 2147483647) ∧ (0 ≤ y4 ∧ y4 ≤ 9) ∧ ((-2147483648) ≤ y5 ∧ y5 ≤ 2147483647) ∧ (0 ≤ y6 ∧ y6 ≤ 7) ∧ (y2 < I 741 12) ∧ (y1 = x1) ∧ (y2 = x2) ∧ (y3 = x3) ∧ (y4 = x4) ∧ (y5 = x5) ∧ (x2 < I0 741 12) ∧ (y6 ≤ I0 741 12)) ∧ (∀ (p : Nat → Int) (s : sSt), (∀ i : Nat, (i : Int) < x2 → I0 757 i = p i) → skQ (I0 741 12).toNat s I0 → skQ (I0 741 12).toNat (nf (sGo (fun b => I0 741 (4370 + 3 * b)) (fun b => I0 741 (4371 + 3 * b)) (fun b => I0 741 (4372 + 3 * b)) x1 (sSk (I0 741 12).toNat (fun b => I0 741 (4370 + 3 * b)) (fun b => I0 741 (4371 + 3 * b)) (fun b => I0 741 (4372 + 3 * b)) x1 5) x2.toNat x3 x4 x5 p) s y6.toNat) I) ∧ (∀ i : Nat, (i : Int) < x2 → I 757 i = I0 757 i)) ∧ m = (1 + 1 * (7 - y6) : Int).toNat
set_option maxRecDepth 8000 in
theorem ct_M_seek_58809 {I : fH} {x1 : Int} {x2 : Int} {x3 : Int} {x4 : Int} {x5 : Int} (h0 : fB bsJ I) (ha1 : (1 ≤ x1 ∧ x1 ≤ 60)) (ha2 : (1 ≤ x2 ∧ x2 ≤ 1)) (ha3 : ((-2147483648) ≤ x3 ∧ x3 ≤ 2147483647)) (ha4 : (0 ≤ x4 ∧ x4 ≤ 9)) (ha5 : ((-2147483648) ≤ x5 ∧ x5 ≤ 2147483647)) (hp0 : x2 = 1) (hp1 : x2 ≤ I 741 12) (hp2 : 0 ≤ x5 ∧ x5 ≤ 5940 * x2) : fC ρ base n F xTc vwCl xTys D dA la gJ (fbz bsJ znJ (fKc wz_4d25e) I) xm_485 [.inr (.inr (some 740)), .inl x1, .inl x2, .inl x3, .inl x4, .inl x5] I (fun I' r => r = none ∧ True ∧ (∀ (p : Nat → Int) (s : sSt), (∀ i : Nat, (i : Int) < x2 → I 757 i = p i) → skQ (I 741 12).toNat s I → skQ (I 741 12).toNat (sSk (I 741 12).toNat (fun b => I 741 (4370 + 3 * b)) (fun b => I 741 (4371 + 3 * b)) (fun b => I 741 (4372 + 3 * b)) x1 6 x2.toNat x3 x4 x5 p s) I') ∧ (∀ i : Nat, (i : Int) < x2 → I' 757 i = I 757 i)) := by
  have hW : fzs wz_4d25e (fKc wz_4d25e) := fKc_ok _
  refine f_meth (rb := rbJ) (J := [(29, (jc_M_seek_58809_29 x2 x5 I)), (59, (jc_M_seek_58809_59 x1 x2 x3 x4 x5 I))]) 11 400 xG xin_485 x6_485 okJ (fB_self h0) ?_ ?_
  · refine List.forall_mem_cons.mpr ⟨?_, List.forall_mem_cons.mpr ⟨?_, fun q h => absurd h List.not_mem_nil⟩⟩
    · rintro m _ _ I1 hB1 ⟨y2, y6, rfl, rfl, ⟨hb, hx0, hx1⟩, hm⟩
      have k1 := fBz_eq hB1 (a := 741) (j := 12) (by decide +kernel)
      have b2 := fBd fb_741_12 (fBz h0 hB1)
      have b3 := fBd fb_740_35 (fBz h0 hB1)
      refine And.intro (And.intro (by first | exact fi_ hb.2.1.1 hb.2.1.2 rfl | omega) (by first | exact fi_ hb.1.1 hb.1.2 rfl | omega)) (And.intro ?_ ?_)
      · intro c4
        exact ⟨rfl, True.intro, (fun p s hp hs => by rw [sk_tk (by omega)]; first | exact tq_yes hs (by omega) (by omega) (fun i hi => hp i (by omega)) (by omega) (by omega) (by omega) (fun i hi => hx0 i (by omega)) | exact tq_yes hs (by omega) (by omega) (fun i hi => hp i (by omega)) (by omega) (by omega) (by omega) (fun i hi => absurd hi (by omega)) | exact tq_no hs (by omega) (by omega)), (by first | exact (fun i _ => hx1 i) | exact (fun i _ => rfl) | exact (fun i _ => fup_other enil0 757 i (Or.inl (by decide))))⟩
      · intro c5
        refine And.intro ⟨rfl, by decide, by decide⟩ ?_
        refine And.intro ⟨rfl, by decide, by decide⟩ ?_
        refine fload1 rL_757_757_0_6_1_0 h0 hB1 ⟨by decide, by decide⟩ (by first | exact ⟨hb.2.1.1, Int.le_trans (Int.le_sub_one_of_lt (Int.lt_of_lt_of_le c5 hb.1.2)) (by decide)⟩ | omega) ?_
        intro z6 lz6 uz6 qz6
        have pz6 := fld_at qz6 0 (by omega)
        refine fstore1 rS_758_758_0_6_1_0 (fzs_sub (by decide +kernel) hW) ⟨by decide, by decide⟩ (by first | exact ⟨hb.2.1.1, Int.le_trans (Int.le_sub_one_of_lt (Int.lt_of_lt_of_le c5 hb.1.2)) (by decide)⟩ | omega) (by first | exact ⟨lz6, uz6⟩ | omega) ?_
        intro IhB7 ehB7 hB7
        have t8 := fup_self ehB7
        have t9 : IhB7 740 33 = I1 740 33 := (congrFun (congrFun ehB7 740) 33).trans (fup_ne (by first | decide | omega))
        have t10 : IhB7 740 34 = I1 740 34 := (congrFun (congrFun ehB7 740) 34).trans (fup_ne (by first | decide | omega))
        have t11 : IhB7 740 35 = I1 740 35 := (congrFun (congrFun ehB7 740) 35).trans (fup_ne (by first | decide | omega))
        have t12 : IhB7 741 12 = I1 741 12 := (congrFun (congrFun ehB7 741) 12).trans (fup_ne (by first | decide | omega))
        have t13 : IhB7 757 0 = I1 757 0 := (congrFun (congrFun ehB7 757) 0).trans (fup_ne (by first | decide | omega))
        have t14 := fup_at ehB7 0 (by first | rfl | omega)
        have k15 := fBz_eq hB7 (a := 741) (j := 12) (by decide +kernel)
        exact fcutJ (I := IhB7) (j := (jc_M_seek_58809_29 x2 x5 I)) (lv' := [(0, .inr (.inr (some 740))), (2, .inl _), (6, .inl _)]) (And.intro rfl (And.intro rfl (And.intro rfl True.intro))) ⟨_, _, rfl, rfl, ⟨by omega, (fun i h => if ei : i = y6.toNat then (by rw [ei]; exact (fup_self ehB7).trans (qz6.trans (hx1 _))) else (fup_other ehB7 758 i (Or.inr ei)).trans (hx0 i (by omega))), (fun i => (fup_other ehB7 757 i (Or.inl (by decide))).trans (hx1 i))⟩, rfl⟩ (by omega)
    · rintro m _ _ I1 hB1 ⟨y1, y2, y3, y4, y5, y6, rfl, rfl, ⟨hb, hx0, hx1⟩, hm⟩
      have k16 := fBz_eq hB1 (a := 741) (j := 12) (by decide +kernel)
      have b17 := fBd fb_741_12 (fBz h0 hB1)
      have b18 := fBd fb_740_35 (fBz h0 hB1)
      have ey1 : x1 = y1 := by omega
      subst ey1
      have ey2 : x2 = y2 := by omega
      subst ey2
      have ey3 : x3 = y3 := by omega
      subst ey3
      have ey4 : x4 = y4 := by omega
      subst ey4
      have ey5 : x5 = y5 := by omega
      subst ey5
      have sS := fFr_S (fFr_of hB1) (by decide +kernel)
      refine And.intro ⟨rfl, by decide, by decide⟩ ?_
      refine fload1 rL_741_741_12_12_1_0 h0 hB1 ⟨by decide, by decide⟩ (by first | exact ⟨by decide, by decide⟩ | omega) ?_
      intro z19 lz19 uz19 qz19
      have pz19 := fld_at qz19 12 (by omega)
      refine And.intro (And.intro (by first | exact fi_ hb.2.2.2.2.2.1.1 hb.2.2.2.2.2.1.2 rfl | omega) (by first | exact fi_ lz19 uz19 rfl | omega)) (And.intro ?_ ?_)
      · intro c20
        exact ⟨rfl, True.intro, (fun p s hp hs => by first | (exfalso; omega) | (rw [sk_go (by omega)]; exact sq_end (hx0 p s hp hs) (by omega) (by omega))), hx1⟩
      · intro c21
        refine And.intro ⟨rfl, by decide, by decide⟩ (fgetf fb_740_35 h0 hB1 ?_)
        intro z22 lz22 uz22 qz22
        refine And.intro (by first | exact fi_ lz22 uz22 rfl | omega) (And.intro ?_ ?_)
        · intro c23
          exact ⟨rfl, True.intro, (fun p s hp hs => by first | (exfalso; omega) | (rw [sk_go (by omega)]; exact sq_end (hx0 p s hp hs) (by omega) (by omega))), hx1⟩
        · intro c24
          intro z25 hz25 ez25
          intro z26 hz26 ez26 bz26
          have bz26 := bz26 (by omega)
          have wb := bt_of hz26 ez25 ez26 (by omega)
          refine And.intro (And.intro (by first | exact fi_ bz26.1 bz26.2 rfl | omega) (by first | exact ⟨by decide, by decide⟩ | omega)) (And.intro ?_ ?_)
          · intro c27
            exact fcutJ (I := I1) (j := (jc_M_seek_58809_59 x1 x2 x3 x4 x5 I)) (lv' := [(0, .inr (.inr (some 740))), (1, .inl _), (2, .inl _), (3, .inl _), (4, .inl _), (5, .inl _), (6, .inl _)]) (And.intro rfl (And.intro rfl (And.intro rfl (And.intro rfl (And.intro rfl (And.intro rfl (And.intro rfl True.intro))))))) ⟨_, _, _, _, _, _, rfl, rfl, ⟨by omega, (fun p s hp hs => by have hq := (hx0 p s hp hs).1; first | exact nf_skQ (qo_no (hx0 p s hp hs) (fun q => by have q1 := q.1; omega)) (by omega) (by omega) | exact nf_skQ (qo_no (hx0 p s hp hs) (fun q => by have q2 := q.2; omega)) (by omega) (by omega) | exact nf_skQ (qo_spent (hx0 p s hp hs) (by omega) (by omega) ⟨by omega, by omega⟩ rfl enil0) (by omega) (by omega) | exact nf_skQ (qo_rec (hx0 p s hp hs) (by omega) (by omega) ⟨by omega, by omega⟩ (g0nil0 (sUp p x2.toNat ((y6.toNat : Nat) : Int)) _ (path_uq enil0 enil0 enil0 (fun i hi => (hx1 i hi).trans (hp i hi)) (by omega) rfl (by omega)) (qo_in (hx0 p s hp hs) (by omega) (by omega) rfl (by omega) enil0 enil0 enil0))) (by omega) (by omega) | (exfalso; omega)), (fun i hi => by first | exact (g1nil0 i (by omega)).trans ((fup_other enil0 757 i (Or.inr (by omega))).trans ((fup_other enil0 757 i (Or.inl (by decide))).trans ((fup_other enil0 757 i (Or.inl (by decide))).trans (hx1 i hi)))) | exact ((fup_other enil0 757 i (Or.inl (by decide))).trans (hx1 i hi)) | exact hx1 i hi | (exfalso; omega))⟩, rfl⟩ (by omega)
          · intro c28
            refine And.intro ⟨rfl, by decide, by decide⟩ ?_
            refine fload rL_741_741_4372_4390_3_0 h0 hB1 (by omega) ?_
            intro z29 lz29 uz29 qz29
            intro z30 hz30 ez30
            intro z31 hz31 ez31 bz31
            clear bz31
            have wa := sAh_of hz31 ez30 ez31
            rw [fld_at qz29 (4372 + 3 * y6.toNat) (by omega), sS] at wa
            refine And.intro (by omega) (And.intro ?_ ?_)
            · intro c32
              refine And.intro ⟨rfl, by decide, by decide⟩ (fgetf fb_740_34 h0 hB1 ?_)
              intro z33 lz33 uz33 qz33
              refine And.intro (by first | exact fi_ lz33 uz33 rfl | omega) (And.intro ?_ ?_)
              · intro c34
                refine And.intro ⟨rfl, by decide, by decide⟩ (And.intro rfl (And.intro (Or.inr ⟨rfl, by omega⟩) (fputf fb_740_35 (by decide +kernel) hW (by omega) ?_)))
                intro IhB35 ehB35 hB35
                have t36 : IhB35 740 33 = I1 740 33 := (congrFun (congrFun ehB35 740) 33).trans (fup_ne (by first | decide | omega))
                have t37 : IhB35 740 34 = I1 740 34 := (congrFun (congrFun ehB35 740) 34).trans (fup_ne (by first | decide | omega))
                have t38 := fup_at ehB35 35 (by first | rfl | omega)
                have t39 : IhB35 741 12 = I1 741 12 := (congrFun (congrFun ehB35 741) 12).trans (fup_ne (by first | decide | omega))
                have k40 := fBz_eq hB35 (a := 741) (j := 12) (by decide +kernel)
                refine And.intro ⟨rfl, by decide, by decide⟩ (fgetf fb_740_35 h0 hB35 ?_)
                intro z41 lz41 uz41 qz41
                refine And.intro (by first | exact fi_ lz41 uz41 rfl | omega) (And.intro ?_ ?_)
                · intro c42
                  exact fcutJ (I := IhB35) (j := (jc_M_seek_58809_59 x1 x2 x3 x4 x5 I)) (lv' := [(0, .inr (.inr (some 740))), (1, .inl _), (2, .inl _), (3, .inl _), (4, .inl _), (5, .inl _), (6, .inl _)]) (And.intro rfl (And.intro rfl (And.intro rfl (And.intro rfl (And.intro rfl (And.intro rfl (And.intro rfl True.intro))))))) ⟨_, _, _, _, _, _, rfl, rfl, ⟨by omega, (fun p s hp hs => by have hq := (hx0 p s hp hs).1; first | exact nf_skQ (qo_no (hx0 p s hp hs) (fun q => by have q1 := q.1; omega)) (by omega) (by omega) | exact nf_skQ (qo_no (hx0 p s hp hs) (fun q => by have q2 := q.2; omega)) (by omega) (by omega) | exact nf_skQ (qo_spent (hx0 p s hp hs) (by omega) (by omega) ⟨by omega, by omega⟩ rfl ehB35) (by omega) (by omega) | exact nf_skQ (qo_rec (hx0 p s hp hs) (by omega) (by omega) ⟨by omega, by omega⟩ (g0nil0 (sUp p x2.toNat ((y6.toNat : Nat) : Int)) _ (path_uq ehB35 enil0 enil0 (fun i hi => (hx1 i hi).trans (hp i hi)) (by omega) rfl (by omega)) (qo_in (hx0 p s hp hs) (by omega) (by omega) rfl (by omega) ehB35 enil0 enil0))) (by omega) (by omega) | (exfalso; omega)), (fun i hi => by first | exact (g1nil0 i (by omega)).trans ((fup_other enil0 757 i (Or.inr (by omega))).trans ((fup_other enil0 757 i (Or.inl (by decide))).trans ((fup_other ehB35 757 i (Or.inl (by decide))).trans (hx1 i hi)))) | exact ((fup_other ehB35 757 i (Or.inl (by decide))).trans (hx1 i hi)) | exact hx1 i hi | (exfalso; omega))⟩, rfl⟩ (by omega)
                · intro c43
                  refine And.intro ⟨rfl, by decide, by decide⟩ (fgetf fb_740_34 h0 hB35 ?_)
                  intro z44 lz44 uz44 qz44
                  intro z45 hz45 ez45 bz45
                  try replace bz45 := bz45 (by omega)
                  refine And.intro ⟨rfl, by decide, by decide⟩ (And.intro rfl (And.intro (Or.inl rfl) (fputf fb_740_34 (by decide +kernel) hW (by omega) ?_)))
                  intro IhB46 ehB46 hB46
                  have t47 : IhB46 740 33 = IhB35 740 33 := (congrFun (congrFun ehB46 740) 33).trans (fup_ne (by first | decide | omega))
                  have t48 := fup_at ehB46 34 (by first | rfl | omega)
                  have t49 : IhB46 740 35 = IhB35 740 35 := (congrFun (congrFun ehB46 740) 35).trans (fup_ne (by first | decide | omega))
                  have t50 : IhB46 741 12 = IhB35 741 12 := (congrFun (congrFun ehB46 741) 12).trans (fup_ne (by first | decide | omega))
                  have k51 := fBz_eq hB46 (a := 741) (j := 12) (by decide +kernel)
                  refine And.intro ⟨rfl, by decide, by decide⟩ ?_
                  refine fstore1 rS_757_757_0_6_1_0 (fzs_sub (by decide +kernel) hW) ⟨by decide, by decide⟩ (by first | exact ⟨Int.le_trans (by decide) hb.2.1.1, Int.le_trans hb.2.1.2 (by decide)⟩ | omega) (by first | exact ⟨hb.2.2.2.2.2.1.1, Int.le_trans (Int.le_sub_one_of_lt (Int.lt_of_lt_of_le c21 uz19)) (by decide)⟩ | omega) ?_
                  intro IhB52 ehB52 hB52
                  have t53 := fup_self ehB52
                  have t54 : IhB52 740 33 = IhB46 740 33 := (congrFun (congrFun ehB52 740) 33).trans (fup_ne (by first | exact Or.inl (by decide) | omega))
                  have t55 : IhB52 740 34 = IhB46 740 34 := (congrFun (congrFun ehB52 740) 34).trans (fup_ne (by first | exact Or.inl (by decide) | omega))
                  have t56 : IhB52 740 35 = IhB46 740 35 := (congrFun (congrFun ehB52 740) 35).trans (fup_ne (by first | exact Or.inl (by decide) | omega))
                  have t57 : IhB52 741 12 = IhB46 741 12 := (congrFun (congrFun ehB52 741) 12).trans (fup_ne (by first | exact Or.inl (by decide) | omega))
                  have k58 := fBz_eq hB52 (a := 741) (j := 12) (by decide +kernel)
                  refine And.intro ⟨rfl, by decide, by decide⟩ ?_
                  refine fload rL_741_741_4370_4388_3_0 h0 hB52 (by omega) ?_
                  intro z59 lz59 uz59 qz59
                  have s4 : ∀ j, IhB52 741 j = I 741 j := fun j => (fup_other ehB52 741 j (Or.inl (by decide))).trans ((fup_other ehB46 741 j (Or.inl (by decide))).trans ((fup_other ehB35 741 j (Or.inl (by decide))).trans (sS j)))
                  have w166 := (fld_at qz59 (4370 + 3 * y6.toNat) (by omega)).trans (s4 _)
                  intro z60 hz60 ez60 bz60
                  have bz60 := bz60 (by omega)
                  intro z61 hz61 ez61
                  intro z62 hz62 ez62
                  refine And.intro (by omega) (And.intro ?_ ?_)
                  · intro c63
                    intro z64 hz64 ez64 bz64
                    try replace bz64 := bz64 (by omega)
                    refine Exists.intro xm_484 (And.intro mi_484 (And.intro ⟨rfl, rfl, rfl, rfl⟩ (And.intro rfl ?_)))
                    refine fcall _ h0 (fzs_sub (by decide +kernel) hW) hB52 (ct_M_seek_92ac3 (fBz h0 hB52) (by first | exact ⟨hb.1.1, hb.1.2⟩ | omega) (by omega) (by omega) (by omega) (by omega) (by omega) (by omega) (by omega)) ?_
                    rintro IhB66 _ hB66 fhB66 ⟨rfl, hz65, g0z65, g1z65⟩
                    have t67 := fhB66 741 12 (by decide +kernel)
                    have k68 := fBz_eq hB66 (a := 741) (j := 12) (by decide +kernel)
                    have wd := sDn_of hz62 (by omega) ez61 ez62
                    have we : z60 = x4 + I 741 (4370 + 3 * y6.toNat) := by omega
                    have ws : z64 = x5 + sMo x1 (x4 + I 741 (4370 + 3 * y6.toNat)) (I 741 (4371 + 3 * y6.toNat)) := by first | (have q := mo_of (span := x1) (e := x4 + I 741 (4370 + 3 * y6.toNat)) w204 (by omega); rw [w199] at q; omega) | (have q : sMo x1 (x4 + I 741 (4370 + 3 * y6.toNat)) (I 741 (4371 + 3 * y6.toNat)) = 0 := if_pos (by omega); omega)
                    simp only [s4] at g0z65
                    rw [wd, we, ws, show (x2 + ((1 : Nat) : Int)).toNat = x2.toNat + 1 by omega] at g0z65
                    exact fcutJ (I := IhB66) (j := (jc_M_seek_58809_59 x1 x2 x3 x4 x5 I)) (lv' := [(0, .inr (.inr (some 740))), (1, .inl _), (2, .inl _), (3, .inl _), (4, .inl _), (5, .inl _), (6, .inl _)]) (And.intro rfl (And.intro rfl (And.intro rfl (And.intro rfl (And.intro rfl (And.intro rfl (And.intro rfl True.intro))))))) ⟨_, _, _, _, _, _, rfl, rfl, ⟨by omega, (fun p s hp hs => by have hq := (hx0 p s hp hs).1; first | exact nf_skQ (qo_no (hx0 p s hp hs) (fun q => by have q1 := q.1; omega)) (by omega) (by omega) | exact nf_skQ (qo_no (hx0 p s hp hs) (fun q => by have q2 := q.2; omega)) (by omega) (by omega) | exact nf_skQ (qo_spent (hx0 p s hp hs) (by omega) (by omega) ⟨by omega, by omega⟩ rfl ehB35) (by omega) (by omega) | exact nf_skQ (qo_rec (hx0 p s hp hs) (by omega) (by omega) ⟨by omega, by omega⟩ (g0z65 (sUp p x2.toNat ((y6.toNat : Nat) : Int)) _ (path_uq ehB35 ehB46 ehB52 (fun i hi => (hx1 i hi).trans (hp i hi)) (by omega) rfl (by omega)) (qo_in (hx0 p s hp hs) (by omega) (by omega) rfl (by omega) ehB35 ehB46 ehB52))) (by omega) (by omega) | (exfalso; omega)), (fun i hi => by first | exact (g1z65 i (by omega)).trans ((fup_other ehB52 757 i (Or.inr (by omega))).trans ((fup_other ehB46 757 i (Or.inl (by decide))).trans ((fup_other ehB35 757 i (Or.inl (by decide))).trans (hx1 i hi)))) | exact ((fup_other ehB35 757 i (Or.inl (by decide))).trans (hx1 i hi)) | exact hx1 i hi | (exfalso; omega))⟩, rfl⟩ (by omega)
                  · intro c69
                    refine And.intro ⟨rfl, by decide, by decide⟩ ?_
                    refine fload rL_741_741_4371_4389_3_0 h0 hB52 (by omega) ?_
                    intro z70 lz70 uz70 qz70
                    have w199 := (fld_at qz70 (4371 + 3 * y6.toNat) (by omega)).trans (s4 _)
                    intro z71 hz71 ez71 bz71
                    have bz71 := bz71 (by omega)
                    intro z72 hz72 ez72 bz72
                    try replace bz72 := bz72 (by omega)
                    have w203 := mul_bd (a := z70) (b := z71) (by omega) (by omega)
                    have w204 : z72 = z70 * z71 := by first | exact bz72 (by omega) | exact bz72
                    intro z73 hz73 ez73 bz73
                    try replace bz73 := bz73 (by omega)
                    refine Exists.intro xm_484 (And.intro mi_484 (And.intro ⟨rfl, rfl, rfl, rfl⟩ (And.intro rfl ?_)))
                    refine fcall _ h0 (fzs_sub (by decide +kernel) hW) hB52 (ct_M_seek_92ac3 (fBz h0 hB52) (by first | exact ⟨hb.1.1, hb.1.2⟩ | omega) (by omega) (by omega) (by omega) (by omega) (by omega) (by omega) (by omega)) ?_
                    rintro IhB75 _ hB75 fhB75 ⟨rfl, hz74, g0z74, g1z74⟩
                    have t76 := fhB75 741 12 (by decide +kernel)
                    have k77 := fBz_eq hB75 (a := 741) (j := 12) (by decide +kernel)
                    have wd := sDn_of hz62 (by omega) ez61 ez62
                    have we : z60 = x4 + I 741 (4370 + 3 * y6.toNat) := by omega
                    have ws : z73 = x5 + sMo x1 (x4 + I 741 (4370 + 3 * y6.toNat)) (I 741 (4371 + 3 * y6.toNat)) := by first | (have q := mo_of (span := x1) (e := x4 + I 741 (4370 + 3 * y6.toNat)) w204 (by omega); rw [w199] at q; omega) | (have q : sMo x1 (x4 + I 741 (4370 + 3 * y6.toNat)) (I 741 (4371 + 3 * y6.toNat)) = 0 := if_pos (by omega); omega)
                    simp only [s4] at g0z74
                    rw [wd, we, ws, show (x2 + ((1 : Nat) : Int)).toNat = x2.toNat + 1 by omega] at g0z74
                    exact fcutJ (I := IhB75) (j := (jc_M_seek_58809_59 x1 x2 x3 x4 x5 I)) (lv' := [(0, .inr (.inr (some 740))), (1, .inl _), (2, .inl _), (3, .inl _), (4, .inl _), (5, .inl _), (6, .inl _)]) (And.intro rfl (And.intro rfl (And.intro rfl (And.intro rfl (And.intro rfl (And.intro rfl (And.intro rfl True.intro))))))) ⟨_, _, _, _, _, _, rfl, rfl, ⟨by omega, (fun p s hp hs => by have hq := (hx0 p s hp hs).1; first | exact nf_skQ (qo_no (hx0 p s hp hs) (fun q => by have q1 := q.1; omega)) (by omega) (by omega) | exact nf_skQ (qo_no (hx0 p s hp hs) (fun q => by have q2 := q.2; omega)) (by omega) (by omega) | exact nf_skQ (qo_spent (hx0 p s hp hs) (by omega) (by omega) ⟨by omega, by omega⟩ rfl ehB35) (by omega) (by omega) | exact nf_skQ (qo_rec (hx0 p s hp hs) (by omega) (by omega) ⟨by omega, by omega⟩ (g0z74 (sUp p x2.toNat ((y6.toNat : Nat) : Int)) _ (path_uq ehB35 ehB46 ehB52 (fun i hi => (hx1 i hi).trans (hp i hi)) (by omega) rfl (by omega)) (qo_in (hx0 p s hp hs) (by omega) (by omega) rfl (by omega) ehB35 ehB46 ehB52))) (by omega) (by omega) | (exfalso; omega)), (fun i hi => by first | exact (g1z74 i (by omega)).trans ((fup_other ehB52 757 i (Or.inr (by omega))).trans ((fup_other ehB46 757 i (Or.inl (by decide))).trans ((fup_other ehB35 757 i (Or.inl (by decide))).trans (hx1 i hi)))) | exact ((fup_other ehB35 757 i (Or.inl (by decide))).trans (hx1 i hi)) | exact hx1 i hi | (exfalso; omega))⟩, rfl⟩ (by omega)
              · intro c78
                refine And.intro ⟨rfl, by decide, by decide⟩ (And.intro rfl (And.intro (Or.inr ⟨rfl, by decide, by decide⟩) (fputf fb_740_35 (by decide +kernel) hW (by first | exact ⟨by decide, by decide⟩ | omega) ?_)))
                intro IhB79 ehB79 hB79
                have t80 : IhB79 740 33 = I1 740 33 := (congrFun (congrFun ehB79 740) 33).trans (fup_ne (by first | decide | omega))
                have t81 : IhB79 740 34 = I1 740 34 := (congrFun (congrFun ehB79 740) 34).trans (fup_ne (by first | decide | omega))
                have t82 := fup_at ehB79 35 (by first | rfl | omega)
                have t83 : IhB79 741 12 = I1 741 12 := (congrFun (congrFun ehB79 741) 12).trans (fup_ne (by first | decide | omega))
                have k84 := fBz_eq hB79 (a := 741) (j := 12) (by decide +kernel)
                refine And.intro ⟨rfl, by decide, by decide⟩ (fgetf fb_740_35 h0 hB79 ?_)
                intro z85 lz85 uz85 qz85
                refine And.intro (by first | exact fi_ lz85 uz85 rfl | omega) (And.intro ?_ ?_)
                · intro c86
                  exact fcutJ (I := IhB79) (j := (jc_M_seek_58809_59 x1 x2 x3 x4 x5 I)) (lv' := [(0, .inr (.inr (some 740))), (1, .inl _), (2, .inl _), (3, .inl _), (4, .inl _), (5, .inl _), (6, .inl _)]) (And.intro rfl (And.intro rfl (And.intro rfl (And.intro rfl (And.intro rfl (And.intro rfl (And.intro rfl True.intro))))))) ⟨_, _, _, _, _, _, rfl, rfl, ⟨by omega, (fun p s hp hs => by have hq := (hx0 p s hp hs).1; first | exact nf_skQ (qo_no (hx0 p s hp hs) (fun q => by have q1 := q.1; omega)) (by omega) (by omega) | exact nf_skQ (qo_no (hx0 p s hp hs) (fun q => by have q2 := q.2; omega)) (by omega) (by omega) | exact nf_skQ (qo_spent (hx0 p s hp hs) (by omega) (by omega) ⟨by omega, by omega⟩ rfl ehB79) (by omega) (by omega) | exact nf_skQ (qo_rec (hx0 p s hp hs) (by omega) (by omega) ⟨by omega, by omega⟩ (g0z74 (sUp p x2.toNat ((y6.toNat : Nat) : Int)) _ (path_uq ehB79 ehB46 ehB52 (fun i hi => (hx1 i hi).trans (hp i hi)) (by omega) rfl (by omega)) (qo_in (hx0 p s hp hs) (by omega) (by omega) rfl (by omega) ehB79 ehB46 ehB52))) (by omega) (by omega) | (exfalso; omega)), (fun i hi => by first | exact (g1z74 i (by omega)).trans ((fup_other ehB52 757 i (Or.inr (by omega))).trans ((fup_other ehB46 757 i (Or.inl (by decide))).trans ((fup_other ehB79 757 i (Or.inl (by decide))).trans (hx1 i hi)))) | exact ((fup_other ehB79 757 i (Or.inl (by decide))).trans (hx1 i hi)) | exact hx1 i hi | (exfalso; omega))⟩, rfl⟩ (by omega)
                · intro c87
                  refine And.intro ⟨rfl, by decide, by decide⟩ (fgetf fb_740_34 h0 hB79 ?_)
                  intro z88 lz88 uz88 qz88
                  intro z89 hz89 ez89 bz89
                  try replace bz89 := bz89 (by omega)
                  refine And.intro ⟨rfl, by decide, by decide⟩ (And.intro rfl (And.intro (Or.inl rfl) (fputf fb_740_34 (by decide +kernel) hW (by omega) ?_)))
                  intro IhB90 ehB90 hB90
                  have t91 : IhB90 740 33 = IhB79 740 33 := (congrFun (congrFun ehB90 740) 33).trans (fup_ne (by first | decide | omega))
                  have t92 := fup_at ehB90 34 (by first | rfl | omega)
                  have t93 : IhB90 740 35 = IhB79 740 35 := (congrFun (congrFun ehB90 740) 35).trans (fup_ne (by first | decide | omega))
                  have t94 : IhB90 741 12 = IhB79 741 12 := (congrFun (congrFun ehB90 741) 12).trans (fup_ne (by first | decide | omega))
                  have k95 := fBz_eq hB90 (a := 741) (j := 12) (by decide +kernel)
                  refine And.intro ⟨rfl, by decide, by decide⟩ ?_
                  refine fstore1 rS_757_757_0_6_1_0 (fzs_sub (by decide +kernel) hW) ⟨by decide, by decide⟩ (by first | exact ⟨Int.le_trans (by decide) hb.2.1.1, Int.le_trans hb.2.1.2 (by decide)⟩ | omega) (by first | exact ⟨hb.2.2.2.2.2.1.1, Int.le_trans (Int.le_sub_one_of_lt (Int.lt_of_lt_of_le c21 uz19)) (by decide)⟩ | omega) ?_
                  intro IhB96 ehB96 hB96
                  have t97 := fup_self ehB96
                  have t98 : IhB96 740 33 = IhB90 740 33 := (congrFun (congrFun ehB96 740) 33).trans (fup_ne (by first | exact Or.inl (by decide) | omega))
                  have t99 : IhB96 740 34 = IhB90 740 34 := (congrFun (congrFun ehB96 740) 34).trans (fup_ne (by first | exact Or.inl (by decide) | omega))
                  have t100 : IhB96 740 35 = IhB90 740 35 := (congrFun (congrFun ehB96 740) 35).trans (fup_ne (by first | exact Or.inl (by decide) | omega))
                  have t101 : IhB96 741 12 = IhB90 741 12 := (congrFun (congrFun ehB96 741) 12).trans (fup_ne (by first | exact Or.inl (by decide) | omega))
                  have k102 := fBz_eq hB96 (a := 741) (j := 12) (by decide +kernel)
                  refine And.intro ⟨rfl, by decide, by decide⟩ ?_
                  refine fload rL_741_741_4370_4388_3_0 h0 hB96 (by omega) ?_
                  intro z103 lz103 uz103 qz103
                  have s4 : ∀ j, IhB96 741 j = I 741 j := fun j => (fup_other ehB96 741 j (Or.inl (by decide))).trans ((fup_other ehB90 741 j (Or.inl (by decide))).trans ((fup_other ehB79 741 j (Or.inl (by decide))).trans (sS j)))
                  have w166 := (fld_at qz103 (4370 + 3 * y6.toNat) (by omega)).trans (s4 _)
                  intro z104 hz104 ez104 bz104
                  have bz104 := bz104 (by omega)
                  intro z105 hz105 ez105
                  intro z106 hz106 ez106
                  refine And.intro (by omega) (And.intro ?_ ?_)
                  · intro c107
                    intro z108 hz108 ez108 bz108
                    try replace bz108 := bz108 (by omega)
                    refine Exists.intro xm_484 (And.intro mi_484 (And.intro ⟨rfl, rfl, rfl, rfl⟩ (And.intro rfl ?_)))
                    refine fcall _ h0 (fzs_sub (by decide +kernel) hW) hB96 (ct_M_seek_92ac3 (fBz h0 hB96) (by first | exact ⟨hb.1.1, hb.1.2⟩ | omega) (by omega) (by omega) (by omega) (by omega) (by omega) (by omega) (by omega)) ?_
                    rintro IhB110 _ hB110 fhB110 ⟨rfl, hz109, g0z109, g1z109⟩
                    have t111 := fhB110 741 12 (by decide +kernel)
                    have k112 := fBz_eq hB110 (a := 741) (j := 12) (by decide +kernel)
                    have wd := sDn_of hz106 (by omega) ez105 ez106
                    have we : z104 = x4 + I 741 (4370 + 3 * y6.toNat) := by omega
                    have ws : z108 = x5 + sMo x1 (x4 + I 741 (4370 + 3 * y6.toNat)) (I 741 (4371 + 3 * y6.toNat)) := by first | (have q := mo_of (span := x1) (e := x4 + I 741 (4370 + 3 * y6.toNat)) w204 (by omega); rw [w199] at q; omega) | (have q : sMo x1 (x4 + I 741 (4370 + 3 * y6.toNat)) (I 741 (4371 + 3 * y6.toNat)) = 0 := if_pos (by omega); omega)
                    simp only [s4] at g0z109
                    rw [wd, we, ws, show (x2 + ((1 : Nat) : Int)).toNat = x2.toNat + 1 by omega] at g0z109
                    exact fcutJ (I := IhB110) (j := (jc_M_seek_58809_59 x1 x2 x3 x4 x5 I)) (lv' := [(0, .inr (.inr (some 740))), (1, .inl _), (2, .inl _), (3, .inl _), (4, .inl _), (5, .inl _), (6, .inl _)]) (And.intro rfl (And.intro rfl (And.intro rfl (And.intro rfl (And.intro rfl (And.intro rfl (And.intro rfl True.intro))))))) ⟨_, _, _, _, _, _, rfl, rfl, ⟨by omega, (fun p s hp hs => by have hq := (hx0 p s hp hs).1; first | exact nf_skQ (qo_no (hx0 p s hp hs) (fun q => by have q1 := q.1; omega)) (by omega) (by omega) | exact nf_skQ (qo_no (hx0 p s hp hs) (fun q => by have q2 := q.2; omega)) (by omega) (by omega) | exact nf_skQ (qo_spent (hx0 p s hp hs) (by omega) (by omega) ⟨by omega, by omega⟩ rfl ehB79) (by omega) (by omega) | exact nf_skQ (qo_rec (hx0 p s hp hs) (by omega) (by omega) ⟨by omega, by omega⟩ (g0z109 (sUp p x2.toNat ((y6.toNat : Nat) : Int)) _ (path_uq ehB79 ehB90 ehB96 (fun i hi => (hx1 i hi).trans (hp i hi)) (by omega) rfl (by omega)) (qo_in (hx0 p s hp hs) (by omega) (by omega) rfl (by omega) ehB79 ehB90 ehB96))) (by omega) (by omega) | (exfalso; omega)), (fun i hi => by first | exact (g1z109 i (by omega)).trans ((fup_other ehB96 757 i (Or.inr (by omega))).trans ((fup_other ehB90 757 i (Or.inl (by decide))).trans ((fup_other ehB79 757 i (Or.inl (by decide))).trans (hx1 i hi)))) | exact ((fup_other ehB79 757 i (Or.inl (by decide))).trans (hx1 i hi)) | exact hx1 i hi | (exfalso; omega))⟩, rfl⟩ (by omega)
                  · intro c113
                    refine And.intro ⟨rfl, by decide, by decide⟩ ?_
                    refine fload rL_741_741_4371_4389_3_0 h0 hB96 (by omega) ?_
                    intro z114 lz114 uz114 qz114
                    have w199 := (fld_at qz114 (4371 + 3 * y6.toNat) (by omega)).trans (s4 _)
                    intro z115 hz115 ez115 bz115
                    have bz115 := bz115 (by omega)
                    intro z116 hz116 ez116 bz116
                    try replace bz116 := bz116 (by omega)
                    have w203 := mul_bd (a := z114) (b := z115) (by omega) (by omega)
                    have w204 : z116 = z114 * z115 := by first | exact bz116 (by omega) | exact bz116
                    intro z117 hz117 ez117 bz117
                    try replace bz117 := bz117 (by omega)
                    refine Exists.intro xm_484 (And.intro mi_484 (And.intro ⟨rfl, rfl, rfl, rfl⟩ (And.intro rfl ?_)))
                    refine fcall _ h0 (fzs_sub (by decide +kernel) hW) hB96 (ct_M_seek_92ac3 (fBz h0 hB96) (by first | exact ⟨hb.1.1, hb.1.2⟩ | omega) (by omega) (by omega) (by omega) (by omega) (by omega) (by omega) (by omega)) ?_
                    rintro IhB119 _ hB119 fhB119 ⟨rfl, hz118, g0z118, g1z118⟩
                    have t120 := fhB119 741 12 (by decide +kernel)
                    have k121 := fBz_eq hB119 (a := 741) (j := 12) (by decide +kernel)
                    have wd := sDn_of hz106 (by omega) ez105 ez106
                    have we : z104 = x4 + I 741 (4370 + 3 * y6.toNat) := by omega
                    have ws : z117 = x5 + sMo x1 (x4 + I 741 (4370 + 3 * y6.toNat)) (I 741 (4371 + 3 * y6.toNat)) := by first | (have q := mo_of (span := x1) (e := x4 + I 741 (4370 + 3 * y6.toNat)) w204 (by omega); rw [w199] at q; omega) | (have q : sMo x1 (x4 + I 741 (4370 + 3 * y6.toNat)) (I 741 (4371 + 3 * y6.toNat)) = 0 := if_pos (by omega); omega)
                    simp only [s4] at g0z118
                    rw [wd, we, ws, show (x2 + ((1 : Nat) : Int)).toNat = x2.toNat + 1 by omega] at g0z118
                    exact fcutJ (I := IhB119) (j := (jc_M_seek_58809_59 x1 x2 x3 x4 x5 I)) (lv' := [(0, .inr (.inr (some 740))), (1, .inl _), (2, .inl _), (3, .inl _), (4, .inl _), (5, .inl _), (6, .inl _)]) (And.intro rfl (And.intro rfl (And.intro rfl (And.intro rfl (And.intro rfl (And.intro rfl (And.intro rfl True.intro))))))) ⟨_, _, _, _, _, _, rfl, rfl, ⟨by omega, (fun p s hp hs => by have hq := (hx0 p s hp hs).1; first | exact nf_skQ (qo_no (hx0 p s hp hs) (fun q => by have q1 := q.1; omega)) (by omega) (by omega) | exact nf_skQ (qo_no (hx0 p s hp hs) (fun q => by have q2 := q.2; omega)) (by omega) (by omega) | exact nf_skQ (qo_spent (hx0 p s hp hs) (by omega) (by omega) ⟨by omega, by omega⟩ rfl ehB79) (by omega) (by omega) | exact nf_skQ (qo_rec (hx0 p s hp hs) (by omega) (by omega) ⟨by omega, by omega⟩ (g0z118 (sUp p x2.toNat ((y6.toNat : Nat) : Int)) _ (path_uq ehB79 ehB90 ehB96 (fun i hi => (hx1 i hi).trans (hp i hi)) (by omega) rfl (by omega)) (qo_in (hx0 p s hp hs) (by omega) (by omega) rfl (by omega) ehB79 ehB90 ehB96))) (by omega) (by omega) | (exfalso; omega)), (fun i hi => by first | exact (g1z118 i (by omega)).trans ((fup_other ehB96 757 i (Or.inr (by omega))).trans ((fup_other ehB90 757 i (Or.inl (by decide))).trans ((fup_other ehB79 757 i (Or.inl (by decide))).trans (hx1 i hi)))) | exact ((fup_other ehB79 757 i (Or.inl (by decide))).trans (hx1 i hi)) | exact hx1 i hi | (exfalso; omega))⟩, rfl⟩ (by omega)
            · intro c122
              exact fcutJ (I := I1) (j := (jc_M_seek_58809_59 x1 x2 x3 x4 x5 I)) (lv' := [(0, .inr (.inr (some 740))), (1, .inl _), (2, .inl _), (3, .inl _), (4, .inl _), (5, .inl _), (6, .inl _)]) (And.intro rfl (And.intro rfl (And.intro rfl (And.intro rfl (And.intro rfl (And.intro rfl (And.intro rfl True.intro))))))) ⟨_, _, _, _, _, _, rfl, rfl, ⟨by omega, (fun p s hp hs => by have hq := (hx0 p s hp hs).1; first | exact nf_skQ (qo_no (hx0 p s hp hs) (fun q => by have q1 := q.1; omega)) (by omega) (by omega) | exact nf_skQ (qo_no (hx0 p s hp hs) (fun q => by have q2 := q.2; omega)) (by omega) (by omega) | exact nf_skQ (qo_spent (hx0 p s hp hs) (by omega) (by omega) ⟨by omega, by omega⟩ rfl ehB79) (by omega) (by omega) | exact nf_skQ (qo_rec (hx0 p s hp hs) (by omega) (by omega) ⟨by omega, by omega⟩ (g0z118 (sUp p x2.toNat ((y6.toNat : Nat) : Int)) _ (path_uq ehB79 ehB90 ehB96 (fun i hi => (hx1 i hi).trans (hp i hi)) (by omega) rfl (by omega)) (qo_in (hx0 p s hp hs) (by omega) (by omega) rfl (by omega) ehB79 ehB90 ehB96))) (by omega) (by omega) | (exfalso; omega)), (fun i hi => by first | exact (g1z118 i (by omega)).trans ((fup_other ehB96 757 i (Or.inr (by omega))).trans ((fup_other ehB90 757 i (Or.inl (by decide))).trans ((fup_other ehB79 757 i (Or.inl (by decide))).trans (hx1 i hi)))) | exact ((fup_other ehB79 757 i (Or.inl (by decide))).trans (hx1 i hi)) | exact hx1 i hi | (exfalso; omega))⟩, rfl⟩ (by omega)
  · have hB0 := fB_self (zn := znJ) (K := fKc wz_4d25e) h0
    have b123 := fBd fb_741_12 (fBz h0 hB0)
    have b124 := fBd fb_740_35 (fBz h0 hB0)
    refine And.intro ⟨rfl, by decide, by decide⟩ ?_
    refine fload1 rL_741_741_12_12_1_0 h0 hB0 ⟨by decide, by decide⟩ (by first | exact ⟨by decide, by decide⟩ | omega) ?_
    intro z125 lz125 uz125 qz125
    have pz125 := fld_at qz125 12 (by omega)
    refine And.intro (And.intro (by first | exact fi_ ha2.1 ha2.2 rfl | omega) (by first | exact fi_ lz125 uz125 rfl | omega)) (And.intro ?_ ?_)
    · intro c126
      exact fcutJ (I := I) (j := (jc_M_seek_58809_59 x1 x2 x3 x4 x5 I)) (lv' := [(0, .inr (.inr (some 740))), (1, .inl _), (2, .inl _), (3, .inl _), (4, .inl _), (5, .inl _), (6, .inl _)]) (And.intro rfl (And.intro rfl (And.intro rfl (And.intro rfl (And.intro rfl (And.intro rfl (And.intro rfl True.intro))))))) ⟨_, _, _, _, _, _, rfl, rfl, ⟨by omega, (fun p s hp hs => hs), (fun i _ => rfl)⟩, rfl⟩ (by omega)
    · intro c127
      refine And.intro ⟨rfl, by decide, by decide⟩ (fgetf fb_740_33 h0 hB0 ?_)
      intro z128 lz128 uz128 qz128
      refine And.intro (And.intro (by first | exact fi_ ha5.1 ha5.2 rfl | omega) (by first | exact fi_ lz128 uz128 rfl | omega)) (And.intro ?_ ?_)
      · intro c129
        exact ⟨rfl, True.intro, (fun p s hp hs => by rw [sk_tk (by omega)]; first | exact tq_yes hs (by omega) (by omega) (fun i hi => hp i (by omega)) (by omega) (by omega) (by omega) (fun i hi => hx0 i (by omega)) | exact tq_yes hs (by omega) (by omega) (fun i hi => hp i (by omega)) (by omega) (by omega) (by omega) (fun i hi => absurd hi (by omega)) | exact tq_no hs (by omega) (by omega)), (by first | exact (fun i _ => hx1 i) | exact (fun i _ => rfl) | exact (fun i _ => fup_other enil0 757 i (Or.inl (by decide))))⟩
      · intro c130
        refine And.intro ⟨rfl, by decide, by decide⟩ (And.intro rfl (And.intro (Or.inl rfl) (fputf fb_740_33 (by decide +kernel) hW (by first | exact ⟨Int.le_trans (by decide) (Int.add_one_le_of_lt (Int.lt_of_le_of_lt lz128 c130)), ha5.2⟩ | omega) ?_)))
        intro IhB131 ehB131 hB131
        have t132 := fup_at ehB131 33 (by first | rfl | omega)
        have t133 : IhB131 740 34 = I 740 34 := (congrFun (congrFun ehB131 740) 34).trans (fup_ne (by first | decide | omega))
        have t134 : IhB131 740 35 = I 740 35 := (congrFun (congrFun ehB131 740) 35).trans (fup_ne (by first | decide | omega))
        have t135 : IhB131 741 12 = I 741 12 := (congrFun (congrFun ehB131 741) 12).trans (fup_ne (by first | decide | omega))
        have k136 := fBz_eq hB131 (a := 741) (j := 12) (by decide +kernel)
        exact fcutJ (I := IhB131) (j := (jc_M_seek_58809_29 x2 x5 I)) (lv' := [(0, .inr (.inr (some 740))), (2, .inl _), (6, .inl _)]) (And.intro rfl (And.intro rfl (And.intro rfl True.intro))) ⟨_, _, rfl, rfl, ⟨by omega, (fun i h => absurd h (by omega)), (fun i => fup_other ehB131 757 i (Or.inl (by decide)))⟩, rfl⟩ (by omega)
abbrev jc_M_seek_71684_59 (x1 : Int) (x2 : Int) (x3 : Int) (x4 : Int) (x5 : Int) (I0 : fH) : Nat → fL → List fV → fH → Prop := fun m lv st I => ∃ (y1 : Int) (y2 : Int) (y3 : Int) (y4 : Int) (y5 : Int) (y6 : Int), lv = [(0, .inr (.inr (some 740))), (1, .inl y1), (2, .inl y2), (3, .inl y3), (4, .inl y4), (5, .inl y5), (6, .inl y6)] ∧ st = [] ∧ (((1 ≤ y1 ∧ y1 ≤ 60) ∧ (0 ≤ y2 ∧ y2 ≤ 0) ∧ (0 ≤ y3 ∧ y3 ≤ 0) ∧ (0 ≤ y4 ∧ y4 ≤ 0) ∧ (0 ≤ y5 ∧ y5 ≤ 0) ∧ (0 ≤ y6 ∧ y6 ≤ 7) ∧ (1 ≤ I 741 12 ∧ I 741 12 ≤ 7) ∧ (y2 < I 741 12) ∧ (y1 = x1) ∧ (y2 = x2) ∧ (y3 = x3) ∧ (y4 = x4) ∧ (y5 = x5) ∧ (x2 < I0 741 12) ∧ (y6 ≤ I0 741 12)) ∧ (∀ (p : Nat → Int) (s : sSt), (∀ i : Nat, (i : Int) < x2 → I0 757 i = p i) → skQ (I0 741 12).toNat s I0 → skQ (I0 741 12).toNat (nf (sGo (fun b => I0 741 (4370 + 3 * b)) (fun b => I0 741 (4371 + 3 * b)) (fun b => I0 741 (4372 + 3 * b)) x1 (sSk (I0 741 12).toNat (fun b => I0 741 (4370 + 3 * b)) (fun b => I0 741 (4371 + 3 * b)) (fun b => I0 741 (4372 + 3 * b)) x1 6) x2.toNat x3 x4 x5 p) s y6.toNat) I) ∧ (∀ i : Nat, (i : Int) < x2 → I 757 i = I0 757 i)) ∧ m = (1 + 1 * (7 - y6) : Int).toNat
set_option maxRecDepth 8000 in
theorem ct_M_seek_71684 {I : fH} {x1 : Int} {x2 : Int} {x3 : Int} {x4 : Int} {x5 : Int} (h0 : fB bsJ I) (ha1 : (1 ≤ x1 ∧ x1 ≤ 60)) (ha2 : (0 ≤ x2 ∧ x2 ≤ 0)) (ha3 : (0 ≤ x3 ∧ x3 ≤ 0)) (ha4 : (0 ≤ x4 ∧ x4 ≤ 0)) (ha5 : (0 ≤ x5 ∧ x5 ≤ 0)) (hp0 : x2 = 0) (hp1 : x2 ≤ I 741 12) (hp2 : 0 ≤ x5 ∧ x5 ≤ 5940 * x2) : fC ρ base n F xTc vwCl xTys D dA la gJ (fbz bsJ znJ (fKc wz_4d25e) I) xm_486 [.inr (.inr (some 740)), .inl x1, .inl x2, .inl x3, .inl x4, .inl x5] I (fun I' r => r = none ∧ True ∧ (∀ (p : Nat → Int) (s : sSt), (∀ i : Nat, (i : Int) < x2 → I 757 i = p i) → skQ (I 741 12).toNat s I → skQ (I 741 12).toNat (sSk (I 741 12).toNat (fun b => I 741 (4370 + 3 * b)) (fun b => I 741 (4371 + 3 * b)) (fun b => I 741 (4372 + 3 * b)) x1 7 x2.toNat x3 x4 x5 p s) I') ∧ (∀ i : Nat, (i : Int) < x2 → I' 757 i = I 757 i)) := by
  have hW : fzs wz_4d25e (fKc wz_4d25e) := fKc_ok _
  refine f_meth (rb := rbJ) (J := [(59, (jc_M_seek_71684_59 x1 x2 x3 x4 x5 I))]) 9 400 xG xin_486 x6_486 okJ (fB_self h0) ?_ ?_
  · refine List.forall_mem_cons.mpr ⟨?_, fun q h => absurd h List.not_mem_nil⟩
    · rintro m _ _ I1 hB1 ⟨y1, y2, y3, y4, y5, y6, rfl, rfl, ⟨hb, hx0, hx1⟩, hm⟩
      have k1 := fBz_eq hB1 (a := 741) (j := 12) (by decide +kernel)
      have b2 := fBd fb_741_12 (fBz h0 hB1)
      have b3 := fBd fb_740_35 (fBz h0 hB1)
      have ey1 : x1 = y1 := by omega
      subst ey1
      have ey2 : x2 = y2 := by omega
      subst ey2
      have ey3 : x3 = y3 := by omega
      subst ey3
      have ey4 : x4 = y4 := by omega
      subst ey4
      have ey5 : x5 = y5 := by omega
      subst ey5
      have sS := fFr_S (fFr_of hB1) (by decide +kernel)
      refine And.intro ⟨rfl, by decide, by decide⟩ ?_
      refine fload1 rL_741_741_12_12_1_0 h0 hB1 ⟨by decide, by decide⟩ (by first | exact ⟨by decide, by decide⟩ | omega) ?_
      intro z4 lz4 uz4 qz4
      have pz4 := fld_at qz4 12 (by omega)
      refine And.intro (And.intro (by first | exact fi_ hb.2.2.2.2.2.1.1 hb.2.2.2.2.2.1.2 rfl | omega) (by first | exact fi_ lz4 uz4 rfl | omega)) (And.intro ?_ ?_)
      · intro c5
        exact ⟨rfl, True.intro, (fun p s hp hs => by first | (exfalso; omega) | (rw [sk_go (by omega)]; exact sq_end (hx0 p s hp hs) (by omega) (by omega))), hx1⟩
      · intro c6
        refine And.intro ⟨rfl, by decide, by decide⟩ (fgetf fb_740_35 h0 hB1 ?_)
        intro z7 lz7 uz7 qz7
        refine And.intro (by first | exact fi_ lz7 uz7 rfl | omega) (And.intro ?_ ?_)
        · intro c8
          exact ⟨rfl, True.intro, (fun p s hp hs => by first | (exfalso; omega) | (rw [sk_go (by omega)]; exact sq_end (hx0 p s hp hs) (by omega) (by omega))), hx1⟩
        · intro c9
          intro z10 hz10 ez10
          intro z11 hz11 ez11 bz11
          have bz11 := bz11 (by omega)
          have wb := bt_of hz11 ez10 ez11 (by omega)
          refine And.intro (And.intro (by first | exact fi_ bz11.1 bz11.2 rfl | omega) (by first | exact ⟨by decide, by decide⟩ | omega)) (And.intro ?_ ?_)
          · intro c12
            exact fcutJ (I := I1) (j := (jc_M_seek_71684_59 x1 x2 x3 x4 x5 I)) (lv' := [(0, .inr (.inr (some 740))), (1, .inl _), (2, .inl _), (3, .inl _), (4, .inl _), (5, .inl _), (6, .inl _)]) (And.intro rfl (And.intro rfl (And.intro rfl (And.intro rfl (And.intro rfl (And.intro rfl (And.intro rfl True.intro))))))) ⟨_, _, _, _, _, _, rfl, rfl, ⟨by omega, (fun p s hp hs => by have hq := (hx0 p s hp hs).1; first | exact nf_skQ (qo_no (hx0 p s hp hs) (fun q => by have q1 := q.1; omega)) (by omega) (by omega) | exact nf_skQ (qo_no (hx0 p s hp hs) (fun q => by have q2 := q.2; omega)) (by omega) (by omega) | exact nf_skQ (qo_spent (hx0 p s hp hs) (by omega) (by omega) ⟨by omega, by omega⟩ rfl enil0) (by omega) (by omega) | exact nf_skQ (qo_rec (hx0 p s hp hs) (by omega) (by omega) ⟨by omega, by omega⟩ (g0nil0 (sUp p x2.toNat ((y6.toNat : Nat) : Int)) _ (path_uq enil0 enil0 enil0 (fun i hi => (hx1 i hi).trans (hp i hi)) (by omega) rfl (by omega)) (qo_in (hx0 p s hp hs) (by omega) (by omega) rfl (by omega) enil0 enil0 enil0))) (by omega) (by omega) | (exfalso; omega)), (fun i hi => by first | exact (g1nil0 i (by omega)).trans ((fup_other enil0 757 i (Or.inr (by omega))).trans ((fup_other enil0 757 i (Or.inl (by decide))).trans ((fup_other enil0 757 i (Or.inl (by decide))).trans (hx1 i hi)))) | exact ((fup_other enil0 757 i (Or.inl (by decide))).trans (hx1 i hi)) | exact hx1 i hi | (exfalso; omega))⟩, rfl⟩ (by omega)
          · intro c13
            refine And.intro ⟨rfl, by decide, by decide⟩ ?_
            refine fload rL_741_741_4372_4390_3_0 h0 hB1 (by omega) ?_
            intro z14 lz14 uz14 qz14
            intro z15 hz15 ez15
            intro z16 hz16 ez16 bz16
            clear bz16
            have wa := sAh_of hz16 ez15 ez16
            rw [fld_at qz14 (4372 + 3 * y6.toNat) (by omega), sS] at wa
            refine And.intro (by omega) (And.intro ?_ ?_)
            · intro c17
              refine And.intro ⟨rfl, by decide, by decide⟩ (fgetf fb_740_34 h0 hB1 ?_)
              intro z18 lz18 uz18 qz18
              refine And.intro (by first | exact fi_ lz18 uz18 rfl | omega) (And.intro ?_ ?_)
              · intro c19
                refine And.intro ⟨rfl, by decide, by decide⟩ (And.intro rfl (And.intro (Or.inr ⟨rfl, by omega⟩) (fputf fb_740_35 (by decide +kernel) hW (by omega) ?_)))
                intro IhB20 ehB20 hB20
                have t21 : IhB20 740 33 = I1 740 33 := (congrFun (congrFun ehB20 740) 33).trans (fup_ne (by first | decide | omega))
                have t22 : IhB20 740 34 = I1 740 34 := (congrFun (congrFun ehB20 740) 34).trans (fup_ne (by first | decide | omega))
                have t23 := fup_at ehB20 35 (by first | rfl | omega)
                have t24 : IhB20 741 12 = I1 741 12 := (congrFun (congrFun ehB20 741) 12).trans (fup_ne (by first | decide | omega))
                have k25 := fBz_eq hB20 (a := 741) (j := 12) (by decide +kernel)
                refine And.intro ⟨rfl, by decide, by decide⟩ (fgetf fb_740_35 h0 hB20 ?_)
                intro z26 lz26 uz26 qz26
                refine And.intro (by first | exact fi_ lz26 uz26 rfl | omega) (And.intro ?_ ?_)
                · intro c27
                  exact fcutJ (I := IhB20) (j := (jc_M_seek_71684_59 x1 x2 x3 x4 x5 I)) (lv' := [(0, .inr (.inr (some 740))), (1, .inl _), (2, .inl _), (3, .inl _), (4, .inl _), (5, .inl _), (6, .inl _)]) (And.intro rfl (And.intro rfl (And.intro rfl (And.intro rfl (And.intro rfl (And.intro rfl (And.intro rfl True.intro))))))) ⟨_, _, _, _, _, _, rfl, rfl, ⟨by omega, (fun p s hp hs => by have hq := (hx0 p s hp hs).1; first | exact nf_skQ (qo_no (hx0 p s hp hs) (fun q => by have q1 := q.1; omega)) (by omega) (by omega) | exact nf_skQ (qo_no (hx0 p s hp hs) (fun q => by have q2 := q.2; omega)) (by omega) (by omega) | exact nf_skQ (qo_spent (hx0 p s hp hs) (by omega) (by omega) ⟨by omega, by omega⟩ rfl ehB20) (by omega) (by omega) | exact nf_skQ (qo_rec (hx0 p s hp hs) (by omega) (by omega) ⟨by omega, by omega⟩ (g0nil0 (sUp p x2.toNat ((y6.toNat : Nat) : Int)) _ (path_uq ehB20 enil0 enil0 (fun i hi => (hx1 i hi).trans (hp i hi)) (by omega) rfl (by omega)) (qo_in (hx0 p s hp hs) (by omega) (by omega) rfl (by omega) ehB20 enil0 enil0))) (by omega) (by omega) | (exfalso; omega)), (fun i hi => by first | exact (g1nil0 i (by omega)).trans ((fup_other enil0 757 i (Or.inr (by omega))).trans ((fup_other enil0 757 i (Or.inl (by decide))).trans ((fup_other ehB20 757 i (Or.inl (by decide))).trans (hx1 i hi)))) | exact ((fup_other ehB20 757 i (Or.inl (by decide))).trans (hx1 i hi)) | exact hx1 i hi | (exfalso; omega))⟩, rfl⟩ (by omega)
                · intro c28
                  refine And.intro ⟨rfl, by decide, by decide⟩ (fgetf fb_740_34 h0 hB20 ?_)
                  intro z29 lz29 uz29 qz29
                  intro z30 hz30 ez30 bz30
                  try replace bz30 := bz30 (by omega)
                  refine And.intro ⟨rfl, by decide, by decide⟩ (And.intro rfl (And.intro (Or.inl rfl) (fputf fb_740_34 (by decide +kernel) hW (by omega) ?_)))
                  intro IhB31 ehB31 hB31
                  have t32 : IhB31 740 33 = IhB20 740 33 := (congrFun (congrFun ehB31 740) 33).trans (fup_ne (by first | decide | omega))
                  have t33 := fup_at ehB31 34 (by first | rfl | omega)
                  have t34 : IhB31 740 35 = IhB20 740 35 := (congrFun (congrFun ehB31 740) 35).trans (fup_ne (by first | decide | omega))
                  have t35 : IhB31 741 12 = IhB20 741 12 := (congrFun (congrFun ehB31 741) 12).trans (fup_ne (by first | decide | omega))
                  have k36 := fBz_eq hB31 (a := 741) (j := 12) (by decide +kernel)
                  refine And.intro ⟨rfl, by decide, by decide⟩ ?_
                  refine fstore1 rS_757_757_0_6_1_0 (fzs_sub (by decide +kernel) hW) ⟨by decide, by decide⟩ (by first | exact ⟨hb.2.1.1, Int.le_trans hb.2.1.2 (by decide)⟩ | omega) (by first | exact ⟨hb.2.2.2.2.2.1.1, Int.le_trans (Int.le_sub_one_of_lt (Int.lt_of_lt_of_le c6 uz4)) (by decide)⟩ | omega) ?_
                  intro IhB37 ehB37 hB37
                  have t38 := fup_self ehB37
                  have t39 : IhB37 740 33 = IhB31 740 33 := (congrFun (congrFun ehB37 740) 33).trans (fup_ne (by first | exact Or.inl (by decide) | omega))
                  have t40 : IhB37 740 34 = IhB31 740 34 := (congrFun (congrFun ehB37 740) 34).trans (fup_ne (by first | exact Or.inl (by decide) | omega))
                  have t41 : IhB37 740 35 = IhB31 740 35 := (congrFun (congrFun ehB37 740) 35).trans (fup_ne (by first | exact Or.inl (by decide) | omega))
                  have t42 : IhB37 741 12 = IhB31 741 12 := (congrFun (congrFun ehB37 741) 12).trans (fup_ne (by first | exact Or.inl (by decide) | omega))
                  have k43 := fBz_eq hB37 (a := 741) (j := 12) (by decide +kernel)
                  refine And.intro ⟨rfl, by decide, by decide⟩ ?_
                  refine fload rL_741_741_4370_4388_3_0 h0 hB37 (by omega) ?_
                  intro z44 lz44 uz44 qz44
                  have s4 : ∀ j, IhB37 741 j = I 741 j := fun j => (fup_other ehB37 741 j (Or.inl (by decide))).trans ((fup_other ehB31 741 j (Or.inl (by decide))).trans ((fup_other ehB20 741 j (Or.inl (by decide))).trans (sS j)))
                  have w166 := (fld_at qz44 (4370 + 3 * y6.toNat) (by omega)).trans (s4 _)
                  intro z45 hz45 ez45 bz45
                  have bz45 := bz45 (by omega)
                  intro z46 hz46 ez46
                  intro z47 hz47 ez47
                  refine And.intro (by omega) (And.intro ?_ ?_)
                  · intro c48
                    intro z49 hz49 ez49 bz49
                    try replace bz49 := bz49 (by omega)
                    refine Exists.intro xm_485 (And.intro mi_485 (And.intro ⟨rfl, rfl, rfl, rfl⟩ (And.intro rfl ?_)))
                    refine fcall _ h0 (fzs_sub (by decide +kernel) hW) hB37 (ct_M_seek_58809 (fBz h0 hB37) (by first | exact ⟨hb.1.1, hb.1.2⟩ | omega) (by omega) (by omega) (by omega) (by omega) (by omega) (by omega) (by omega)) ?_
                    rintro IhB51 _ hB51 fhB51 ⟨rfl, hz50, g0z50, g1z50⟩
                    have t52 := fhB51 741 12 (by decide +kernel)
                    have k53 := fBz_eq hB51 (a := 741) (j := 12) (by decide +kernel)
                    have wd := sDn_of hz47 (by omega) ez46 ez47
                    have we : z45 = x4 + I 741 (4370 + 3 * y6.toNat) := by omega
                    have ws : z49 = x5 + sMo x1 (x4 + I 741 (4370 + 3 * y6.toNat)) (I 741 (4371 + 3 * y6.toNat)) := by first | (have q := mo_of (span := x1) (e := x4 + I 741 (4370 + 3 * y6.toNat)) w204 (by omega); rw [w199] at q; omega) | (have q : sMo x1 (x4 + I 741 (4370 + 3 * y6.toNat)) (I 741 (4371 + 3 * y6.toNat)) = 0 := if_pos (by omega); omega)
                    simp only [s4] at g0z50
                    rw [wd, we, ws, show (x2 + ((1 : Nat) : Int)).toNat = x2.toNat + 1 by omega] at g0z50
                    exact fcutJ (I := IhB51) (j := (jc_M_seek_71684_59 x1 x2 x3 x4 x5 I)) (lv' := [(0, .inr (.inr (some 740))), (1, .inl _), (2, .inl _), (3, .inl _), (4, .inl _), (5, .inl _), (6, .inl _)]) (And.intro rfl (And.intro rfl (And.intro rfl (And.intro rfl (And.intro rfl (And.intro rfl (And.intro rfl True.intro))))))) ⟨_, _, _, _, _, _, rfl, rfl, ⟨by omega, (fun p s hp hs => by have hq := (hx0 p s hp hs).1; first | exact nf_skQ (qo_no (hx0 p s hp hs) (fun q => by have q1 := q.1; omega)) (by omega) (by omega) | exact nf_skQ (qo_no (hx0 p s hp hs) (fun q => by have q2 := q.2; omega)) (by omega) (by omega) | exact nf_skQ (qo_spent (hx0 p s hp hs) (by omega) (by omega) ⟨by omega, by omega⟩ rfl ehB20) (by omega) (by omega) | exact nf_skQ (qo_rec (hx0 p s hp hs) (by omega) (by omega) ⟨by omega, by omega⟩ (g0z50 (sUp p x2.toNat ((y6.toNat : Nat) : Int)) _ (path_uq ehB20 ehB31 ehB37 (fun i hi => (hx1 i hi).trans (hp i hi)) (by omega) rfl (by omega)) (qo_in (hx0 p s hp hs) (by omega) (by omega) rfl (by omega) ehB20 ehB31 ehB37))) (by omega) (by omega) | (exfalso; omega)), (fun i hi => by first | exact (g1z50 i (by omega)).trans ((fup_other ehB37 757 i (Or.inr (by omega))).trans ((fup_other ehB31 757 i (Or.inl (by decide))).trans ((fup_other ehB20 757 i (Or.inl (by decide))).trans (hx1 i hi)))) | exact ((fup_other ehB20 757 i (Or.inl (by decide))).trans (hx1 i hi)) | exact hx1 i hi | (exfalso; omega))⟩, rfl⟩ (by omega)
                  · intro c54
                    refine And.intro ⟨rfl, by decide, by decide⟩ ?_
                    refine fload rL_741_741_4371_4389_3_0 h0 hB37 (by omega) ?_
                    intro z55 lz55 uz55 qz55
                    have w199 := (fld_at qz55 (4371 + 3 * y6.toNat) (by omega)).trans (s4 _)
                    intro z56 hz56 ez56 bz56
                    have bz56 := bz56 (by omega)
                    intro z57 hz57 ez57 bz57
                    try replace bz57 := bz57 (by omega)
                    have w203 := mul_bd (a := z55) (b := z56) (by omega) (by omega)
                    have w204 : z57 = z55 * z56 := by first | exact bz57 (by omega) | exact bz57
                    intro z58 hz58 ez58 bz58
                    try replace bz58 := bz58 (by omega)
                    refine Exists.intro xm_485 (And.intro mi_485 (And.intro ⟨rfl, rfl, rfl, rfl⟩ (And.intro rfl ?_)))
                    refine fcall _ h0 (fzs_sub (by decide +kernel) hW) hB37 (ct_M_seek_58809 (fBz h0 hB37) (by first | exact ⟨hb.1.1, hb.1.2⟩ | omega) (by omega) (by omega) (by omega) (by omega) (by omega) (by omega) (by omega)) ?_
                    rintro IhB60 _ hB60 fhB60 ⟨rfl, hz59, g0z59, g1z59⟩
                    have t61 := fhB60 741 12 (by decide +kernel)
                    have k62 := fBz_eq hB60 (a := 741) (j := 12) (by decide +kernel)
                    have wd := sDn_of hz47 (by omega) ez46 ez47
                    have we : z45 = x4 + I 741 (4370 + 3 * y6.toNat) := by omega
                    have ws : z58 = x5 + sMo x1 (x4 + I 741 (4370 + 3 * y6.toNat)) (I 741 (4371 + 3 * y6.toNat)) := by first | (have q := mo_of (span := x1) (e := x4 + I 741 (4370 + 3 * y6.toNat)) w204 (by omega); rw [w199] at q; omega) | (have q : sMo x1 (x4 + I 741 (4370 + 3 * y6.toNat)) (I 741 (4371 + 3 * y6.toNat)) = 0 := if_pos (by omega); omega)
                    simp only [s4] at g0z59
                    rw [wd, we, ws, show (x2 + ((1 : Nat) : Int)).toNat = x2.toNat + 1 by omega] at g0z59
                    exact fcutJ (I := IhB60) (j := (jc_M_seek_71684_59 x1 x2 x3 x4 x5 I)) (lv' := [(0, .inr (.inr (some 740))), (1, .inl _), (2, .inl _), (3, .inl _), (4, .inl _), (5, .inl _), (6, .inl _)]) (And.intro rfl (And.intro rfl (And.intro rfl (And.intro rfl (And.intro rfl (And.intro rfl (And.intro rfl True.intro))))))) ⟨_, _, _, _, _, _, rfl, rfl, ⟨by omega, (fun p s hp hs => by have hq := (hx0 p s hp hs).1; first | exact nf_skQ (qo_no (hx0 p s hp hs) (fun q => by have q1 := q.1; omega)) (by omega) (by omega) | exact nf_skQ (qo_no (hx0 p s hp hs) (fun q => by have q2 := q.2; omega)) (by omega) (by omega) | exact nf_skQ (qo_spent (hx0 p s hp hs) (by omega) (by omega) ⟨by omega, by omega⟩ rfl ehB20) (by omega) (by omega) | exact nf_skQ (qo_rec (hx0 p s hp hs) (by omega) (by omega) ⟨by omega, by omega⟩ (g0z59 (sUp p x2.toNat ((y6.toNat : Nat) : Int)) _ (path_uq ehB20 ehB31 ehB37 (fun i hi => (hx1 i hi).trans (hp i hi)) (by omega) rfl (by omega)) (qo_in (hx0 p s hp hs) (by omega) (by omega) rfl (by omega) ehB20 ehB31 ehB37))) (by omega) (by omega) | (exfalso; omega)), (fun i hi => by first | exact (g1z59 i (by omega)).trans ((fup_other ehB37 757 i (Or.inr (by omega))).trans ((fup_other ehB31 757 i (Or.inl (by decide))).trans ((fup_other ehB20 757 i (Or.inl (by decide))).trans (hx1 i hi)))) | exact ((fup_other ehB20 757 i (Or.inl (by decide))).trans (hx1 i hi)) | exact hx1 i hi | (exfalso; omega))⟩, rfl⟩ (by omega)
              · intro c63
                refine And.intro ⟨rfl, by decide, by decide⟩ (And.intro rfl (And.intro (Or.inr ⟨rfl, by decide, by decide⟩) (fputf fb_740_35 (by decide +kernel) hW (by first | exact ⟨by decide, by decide⟩ | omega) ?_)))
                intro IhB64 ehB64 hB64
                have t65 : IhB64 740 33 = I1 740 33 := (congrFun (congrFun ehB64 740) 33).trans (fup_ne (by first | decide | omega))
                have t66 : IhB64 740 34 = I1 740 34 := (congrFun (congrFun ehB64 740) 34).trans (fup_ne (by first | decide | omega))
                have t67 := fup_at ehB64 35 (by first | rfl | omega)
                have t68 : IhB64 741 12 = I1 741 12 := (congrFun (congrFun ehB64 741) 12).trans (fup_ne (by first | decide | omega))
                have k69 := fBz_eq hB64 (a := 741) (j := 12) (by decide +kernel)
                refine And.intro ⟨rfl, by decide, by decide⟩ (fgetf fb_740_35 h0 hB64 ?_)
                intro z70 lz70 uz70 qz70
                refine And.intro (by first | exact fi_ lz70 uz70 rfl | omega) (And.intro ?_ ?_)
                · intro c71
                  exact fcutJ (I := IhB64) (j := (jc_M_seek_71684_59 x1 x2 x3 x4 x5 I)) (lv' := [(0, .inr (.inr (some 740))), (1, .inl _), (2, .inl _), (3, .inl _), (4, .inl _), (5, .inl _), (6, .inl _)]) (And.intro rfl (And.intro rfl (And.intro rfl (And.intro rfl (And.intro rfl (And.intro rfl (And.intro rfl True.intro))))))) ⟨_, _, _, _, _, _, rfl, rfl, ⟨by omega, (fun p s hp hs => by have hq := (hx0 p s hp hs).1; first | exact nf_skQ (qo_no (hx0 p s hp hs) (fun q => by have q1 := q.1; omega)) (by omega) (by omega) | exact nf_skQ (qo_no (hx0 p s hp hs) (fun q => by have q2 := q.2; omega)) (by omega) (by omega) | exact nf_skQ (qo_spent (hx0 p s hp hs) (by omega) (by omega) ⟨by omega, by omega⟩ rfl ehB64) (by omega) (by omega) | exact nf_skQ (qo_rec (hx0 p s hp hs) (by omega) (by omega) ⟨by omega, by omega⟩ (g0z59 (sUp p x2.toNat ((y6.toNat : Nat) : Int)) _ (path_uq ehB64 ehB31 ehB37 (fun i hi => (hx1 i hi).trans (hp i hi)) (by omega) rfl (by omega)) (qo_in (hx0 p s hp hs) (by omega) (by omega) rfl (by omega) ehB64 ehB31 ehB37))) (by omega) (by omega) | (exfalso; omega)), (fun i hi => by first | exact (g1z59 i (by omega)).trans ((fup_other ehB37 757 i (Or.inr (by omega))).trans ((fup_other ehB31 757 i (Or.inl (by decide))).trans ((fup_other ehB64 757 i (Or.inl (by decide))).trans (hx1 i hi)))) | exact ((fup_other ehB64 757 i (Or.inl (by decide))).trans (hx1 i hi)) | exact hx1 i hi | (exfalso; omega))⟩, rfl⟩ (by omega)
                · intro c72
                  refine And.intro ⟨rfl, by decide, by decide⟩ (fgetf fb_740_34 h0 hB64 ?_)
                  intro z73 lz73 uz73 qz73
                  intro z74 hz74 ez74 bz74
                  try replace bz74 := bz74 (by omega)
                  refine And.intro ⟨rfl, by decide, by decide⟩ (And.intro rfl (And.intro (Or.inl rfl) (fputf fb_740_34 (by decide +kernel) hW (by omega) ?_)))
                  intro IhB75 ehB75 hB75
                  have t76 : IhB75 740 33 = IhB64 740 33 := (congrFun (congrFun ehB75 740) 33).trans (fup_ne (by first | decide | omega))
                  have t77 := fup_at ehB75 34 (by first | rfl | omega)
                  have t78 : IhB75 740 35 = IhB64 740 35 := (congrFun (congrFun ehB75 740) 35).trans (fup_ne (by first | decide | omega))
                  have t79 : IhB75 741 12 = IhB64 741 12 := (congrFun (congrFun ehB75 741) 12).trans (fup_ne (by first | decide | omega))
                  have k80 := fBz_eq hB75 (a := 741) (j := 12) (by decide +kernel)
                  refine And.intro ⟨rfl, by decide, by decide⟩ ?_
                  refine fstore1 rS_757_757_0_6_1_0 (fzs_sub (by decide +kernel) hW) ⟨by decide, by decide⟩ (by first | exact ⟨hb.2.1.1, Int.le_trans hb.2.1.2 (by decide)⟩ | omega) (by first | exact ⟨hb.2.2.2.2.2.1.1, Int.le_trans (Int.le_sub_one_of_lt (Int.lt_of_lt_of_le c6 uz4)) (by decide)⟩ | omega) ?_
                  intro IhB81 ehB81 hB81
                  have t82 := fup_self ehB81
                  have t83 : IhB81 740 33 = IhB75 740 33 := (congrFun (congrFun ehB81 740) 33).trans (fup_ne (by first | exact Or.inl (by decide) | omega))
                  have t84 : IhB81 740 34 = IhB75 740 34 := (congrFun (congrFun ehB81 740) 34).trans (fup_ne (by first | exact Or.inl (by decide) | omega))
                  have t85 : IhB81 740 35 = IhB75 740 35 := (congrFun (congrFun ehB81 740) 35).trans (fup_ne (by first | exact Or.inl (by decide) | omega))
                  have t86 : IhB81 741 12 = IhB75 741 12 := (congrFun (congrFun ehB81 741) 12).trans (fup_ne (by first | exact Or.inl (by decide) | omega))
                  have k87 := fBz_eq hB81 (a := 741) (j := 12) (by decide +kernel)
                  refine And.intro ⟨rfl, by decide, by decide⟩ ?_
                  refine fload rL_741_741_4370_4388_3_0 h0 hB81 (by omega) ?_
                  intro z88 lz88 uz88 qz88
                  have s4 : ∀ j, IhB81 741 j = I 741 j := fun j => (fup_other ehB81 741 j (Or.inl (by decide))).trans ((fup_other ehB75 741 j (Or.inl (by decide))).trans ((fup_other ehB64 741 j (Or.inl (by decide))).trans (sS j)))
                  have w166 := (fld_at qz88 (4370 + 3 * y6.toNat) (by omega)).trans (s4 _)
                  intro z89 hz89 ez89 bz89
                  have bz89 := bz89 (by omega)
                  intro z90 hz90 ez90
                  intro z91 hz91 ez91
                  refine And.intro (by omega) (And.intro ?_ ?_)
                  · intro c92
                    intro z93 hz93 ez93 bz93
                    try replace bz93 := bz93 (by omega)
                    refine Exists.intro xm_485 (And.intro mi_485 (And.intro ⟨rfl, rfl, rfl, rfl⟩ (And.intro rfl ?_)))
                    refine fcall _ h0 (fzs_sub (by decide +kernel) hW) hB81 (ct_M_seek_58809 (fBz h0 hB81) (by first | exact ⟨hb.1.1, hb.1.2⟩ | omega) (by omega) (by omega) (by omega) (by omega) (by omega) (by omega) (by omega)) ?_
                    rintro IhB95 _ hB95 fhB95 ⟨rfl, hz94, g0z94, g1z94⟩
                    have t96 := fhB95 741 12 (by decide +kernel)
                    have k97 := fBz_eq hB95 (a := 741) (j := 12) (by decide +kernel)
                    have wd := sDn_of hz91 (by omega) ez90 ez91
                    have we : z89 = x4 + I 741 (4370 + 3 * y6.toNat) := by omega
                    have ws : z93 = x5 + sMo x1 (x4 + I 741 (4370 + 3 * y6.toNat)) (I 741 (4371 + 3 * y6.toNat)) := by first | (have q := mo_of (span := x1) (e := x4 + I 741 (4370 + 3 * y6.toNat)) w204 (by omega); rw [w199] at q; omega) | (have q : sMo x1 (x4 + I 741 (4370 + 3 * y6.toNat)) (I 741 (4371 + 3 * y6.toNat)) = 0 := if_pos (by omega); omega)
                    simp only [s4] at g0z94
                    rw [wd, we, ws, show (x2 + ((1 : Nat) : Int)).toNat = x2.toNat + 1 by omega] at g0z94
                    exact fcutJ (I := IhB95) (j := (jc_M_seek_71684_59 x1 x2 x3 x4 x5 I)) (lv' := [(0, .inr (.inr (some 740))), (1, .inl _), (2, .inl _), (3, .inl _), (4, .inl _), (5, .inl _), (6, .inl _)]) (And.intro rfl (And.intro rfl (And.intro rfl (And.intro rfl (And.intro rfl (And.intro rfl (And.intro rfl True.intro))))))) ⟨_, _, _, _, _, _, rfl, rfl, ⟨by omega, (fun p s hp hs => by have hq := (hx0 p s hp hs).1; first | exact nf_skQ (qo_no (hx0 p s hp hs) (fun q => by have q1 := q.1; omega)) (by omega) (by omega) | exact nf_skQ (qo_no (hx0 p s hp hs) (fun q => by have q2 := q.2; omega)) (by omega) (by omega) | exact nf_skQ (qo_spent (hx0 p s hp hs) (by omega) (by omega) ⟨by omega, by omega⟩ rfl ehB64) (by omega) (by omega) | exact nf_skQ (qo_rec (hx0 p s hp hs) (by omega) (by omega) ⟨by omega, by omega⟩ (g0z94 (sUp p x2.toNat ((y6.toNat : Nat) : Int)) _ (path_uq ehB64 ehB75 ehB81 (fun i hi => (hx1 i hi).trans (hp i hi)) (by omega) rfl (by omega)) (qo_in (hx0 p s hp hs) (by omega) (by omega) rfl (by omega) ehB64 ehB75 ehB81))) (by omega) (by omega) | (exfalso; omega)), (fun i hi => by first | exact (g1z94 i (by omega)).trans ((fup_other ehB81 757 i (Or.inr (by omega))).trans ((fup_other ehB75 757 i (Or.inl (by decide))).trans ((fup_other ehB64 757 i (Or.inl (by decide))).trans (hx1 i hi)))) | exact ((fup_other ehB64 757 i (Or.inl (by decide))).trans (hx1 i hi)) | exact hx1 i hi | (exfalso; omega))⟩, rfl⟩ (by omega)
                  · intro c98
                    refine And.intro ⟨rfl, by decide, by decide⟩ ?_
                    refine fload rL_741_741_4371_4389_3_0 h0 hB81 (by omega) ?_
                    intro z99 lz99 uz99 qz99
                    have w199 := (fld_at qz99 (4371 + 3 * y6.toNat) (by omega)).trans (s4 _)
                    intro z100 hz100 ez100 bz100
                    have bz100 := bz100 (by omega)
                    intro z101 hz101 ez101 bz101
                    try replace bz101 := bz101 (by omega)
                    have w203 := mul_bd (a := z99) (b := z100) (by omega) (by omega)
                    have w204 : z101 = z99 * z100 := by first | exact bz101 (by omega) | exact bz101
                    intro z102 hz102 ez102 bz102
                    try replace bz102 := bz102 (by omega)
                    refine Exists.intro xm_485 (And.intro mi_485 (And.intro ⟨rfl, rfl, rfl, rfl⟩ (And.intro rfl ?_)))
                    refine fcall _ h0 (fzs_sub (by decide +kernel) hW) hB81 (ct_M_seek_58809 (fBz h0 hB81) (by first | exact ⟨hb.1.1, hb.1.2⟩ | omega) (by omega) (by omega) (by omega) (by omega) (by omega) (by omega) (by omega)) ?_
                    rintro IhB104 _ hB104 fhB104 ⟨rfl, hz103, g0z103, g1z103⟩
                    have t105 := fhB104 741 12 (by decide +kernel)
                    have k106 := fBz_eq hB104 (a := 741) (j := 12) (by decide +kernel)
                    have wd := sDn_of hz91 (by omega) ez90 ez91
                    have we : z89 = x4 + I 741 (4370 + 3 * y6.toNat) := by omega
                    have ws : z102 = x5 + sMo x1 (x4 + I 741 (4370 + 3 * y6.toNat)) (I 741 (4371 + 3 * y6.toNat)) := by first | (have q := mo_of (span := x1) (e := x4 + I 741 (4370 + 3 * y6.toNat)) w204 (by omega); rw [w199] at q; omega) | (have q : sMo x1 (x4 + I 741 (4370 + 3 * y6.toNat)) (I 741 (4371 + 3 * y6.toNat)) = 0 := if_pos (by omega); omega)
                    simp only [s4] at g0z103
                    rw [wd, we, ws, show (x2 + ((1 : Nat) : Int)).toNat = x2.toNat + 1 by omega] at g0z103
                    exact fcutJ (I := IhB104) (j := (jc_M_seek_71684_59 x1 x2 x3 x4 x5 I)) (lv' := [(0, .inr (.inr (some 740))), (1, .inl _), (2, .inl _), (3, .inl _), (4, .inl _), (5, .inl _), (6, .inl _)]) (And.intro rfl (And.intro rfl (And.intro rfl (And.intro rfl (And.intro rfl (And.intro rfl (And.intro rfl True.intro))))))) ⟨_, _, _, _, _, _, rfl, rfl, ⟨by omega, (fun p s hp hs => by have hq := (hx0 p s hp hs).1; first | exact nf_skQ (qo_no (hx0 p s hp hs) (fun q => by have q1 := q.1; omega)) (by omega) (by omega) | exact nf_skQ (qo_no (hx0 p s hp hs) (fun q => by have q2 := q.2; omega)) (by omega) (by omega) | exact nf_skQ (qo_spent (hx0 p s hp hs) (by omega) (by omega) ⟨by omega, by omega⟩ rfl ehB64) (by omega) (by omega) | exact nf_skQ (qo_rec (hx0 p s hp hs) (by omega) (by omega) ⟨by omega, by omega⟩ (g0z103 (sUp p x2.toNat ((y6.toNat : Nat) : Int)) _ (path_uq ehB64 ehB75 ehB81 (fun i hi => (hx1 i hi).trans (hp i hi)) (by omega) rfl (by omega)) (qo_in (hx0 p s hp hs) (by omega) (by omega) rfl (by omega) ehB64 ehB75 ehB81))) (by omega) (by omega) | (exfalso; omega)), (fun i hi => by first | exact (g1z103 i (by omega)).trans ((fup_other ehB81 757 i (Or.inr (by omega))).trans ((fup_other ehB75 757 i (Or.inl (by decide))).trans ((fup_other ehB64 757 i (Or.inl (by decide))).trans (hx1 i hi)))) | exact ((fup_other ehB64 757 i (Or.inl (by decide))).trans (hx1 i hi)) | exact hx1 i hi | (exfalso; omega))⟩, rfl⟩ (by omega)
            · intro c107
              exact fcutJ (I := I1) (j := (jc_M_seek_71684_59 x1 x2 x3 x4 x5 I)) (lv' := [(0, .inr (.inr (some 740))), (1, .inl _), (2, .inl _), (3, .inl _), (4, .inl _), (5, .inl _), (6, .inl _)]) (And.intro rfl (And.intro rfl (And.intro rfl (And.intro rfl (And.intro rfl (And.intro rfl (And.intro rfl True.intro))))))) ⟨_, _, _, _, _, _, rfl, rfl, ⟨by omega, (fun p s hp hs => by have hq := (hx0 p s hp hs).1; first | exact nf_skQ (qo_no (hx0 p s hp hs) (fun q => by have q1 := q.1; omega)) (by omega) (by omega) | exact nf_skQ (qo_no (hx0 p s hp hs) (fun q => by have q2 := q.2; omega)) (by omega) (by omega) | exact nf_skQ (qo_spent (hx0 p s hp hs) (by omega) (by omega) ⟨by omega, by omega⟩ rfl ehB64) (by omega) (by omega) | exact nf_skQ (qo_rec (hx0 p s hp hs) (by omega) (by omega) ⟨by omega, by omega⟩ (g0z103 (sUp p x2.toNat ((y6.toNat : Nat) : Int)) _ (path_uq ehB64 ehB75 ehB81 (fun i hi => (hx1 i hi).trans (hp i hi)) (by omega) rfl (by omega)) (qo_in (hx0 p s hp hs) (by omega) (by omega) rfl (by omega) ehB64 ehB75 ehB81))) (by omega) (by omega) | (exfalso; omega)), (fun i hi => by first | exact (g1z103 i (by omega)).trans ((fup_other ehB81 757 i (Or.inr (by omega))).trans ((fup_other ehB75 757 i (Or.inl (by decide))).trans ((fup_other ehB64 757 i (Or.inl (by decide))).trans (hx1 i hi)))) | exact ((fup_other ehB64 757 i (Or.inl (by decide))).trans (hx1 i hi)) | exact hx1 i hi | (exfalso; omega))⟩, rfl⟩ (by omega)
  · have hB0 := fB_self (zn := znJ) (K := fKc wz_4d25e) h0
    have b108 := fBd fb_741_12 (fBz h0 hB0)
    have b109 := fBd fb_740_35 (fBz h0 hB0)
    refine And.intro ⟨rfl, by decide, by decide⟩ ?_
    refine fload1 rL_741_741_12_12_1_0 h0 hB0 ⟨by decide, by decide⟩ (by first | exact ⟨by decide, by decide⟩ | omega) ?_
    intro z110 lz110 uz110 qz110
    have pz110 := fld_at qz110 12 (by omega)
    refine And.intro (And.intro (by first | exact fi_ ha2.1 ha2.2 rfl | omega) (by first | exact fi_ lz110 uz110 rfl | omega)) (And.intro ?_ ?_)
    · intro c111
      exact fcutJ (I := I) (j := (jc_M_seek_71684_59 x1 x2 x3 x4 x5 I)) (lv' := [(0, .inr (.inr (some 740))), (1, .inl _), (2, .inl _), (3, .inl _), (4, .inl _), (5, .inl _), (6, .inl _)]) (And.intro rfl (And.intro rfl (And.intro rfl (And.intro rfl (And.intro rfl (And.intro rfl (And.intro rfl True.intro))))))) ⟨_, _, _, _, _, _, rfl, rfl, ⟨by omega, (fun p s hp hs => hs), (fun i _ => rfl)⟩, rfl⟩ (by omega)
    · intro c112
      refine And.intro ⟨rfl, by decide, by decide⟩ (fgetf fb_740_33 h0 hB0 ?_)
      intro z113 lz113 uz113 qz113
      refine And.intro (And.intro (by first | exact fi_ ha5.1 ha5.2 rfl | omega) (by first | exact fi_ lz113 uz113 rfl | omega)) (And.intro ?_ ?_)
      · intro c114
        exact ⟨rfl, True.intro, (fun p s hp hs => by rw [sk_tk (by omega)]; first | exact tq_yes hs (by omega) (by omega) (fun i hi => hp i (by omega)) (by omega) (by omega) (by omega) (fun i hi => hx0 i (by omega)) | exact tq_yes hs (by omega) (by omega) (fun i hi => hp i (by omega)) (by omega) (by omega) (by omega) (fun i hi => absurd hi (by omega)) | exact tq_no hs (by omega) (by omega)), (by first | exact (fun i _ => hx1 i) | exact (fun i _ => rfl) | exact (fun i _ => fup_other enil0 757 i (Or.inl (by decide))))⟩
      · intro c115
        refine And.intro ⟨rfl, by decide, by decide⟩ (And.intro rfl (And.intro (Or.inl rfl) (fputf fb_740_33 (by decide +kernel) hW (by first | exact ⟨Int.le_trans (by decide) ha5.1, Int.le_trans ha5.2 (by decide)⟩ | omega) ?_)))
        intro IhB116 ehB116 hB116
        have t117 := fup_at ehB116 33 (by first | rfl | omega)
        have t118 : IhB116 740 34 = I 740 34 := (congrFun (congrFun ehB116 740) 34).trans (fup_ne (by first | decide | omega))
        have t119 : IhB116 740 35 = I 740 35 := (congrFun (congrFun ehB116 740) 35).trans (fup_ne (by first | decide | omega))
        have t120 : IhB116 741 12 = I 741 12 := (congrFun (congrFun ehB116 741) 12).trans (fup_ne (by first | decide | omega))
        have k121 := fBz_eq hB116 (a := 741) (j := 12) (by decide +kernel)
        refine And.intro (And.intro (by first | exact ⟨by decide, by decide⟩ | omega) (by first | exact fi_ ha2.1 ha2.2 rfl | omega)) (And.intro ?_ ?_)
        · intro c122
          exact ⟨rfl, True.intro, (fun p s hp hs => by rw [sk_tk (by omega)]; first | exact tq_yes hs (by omega) (by omega) (fun i hi => hp i (by omega)) (by omega) (by omega) (by omega) (fun i hi => hx0 i (by omega)) | exact tq_yes hs (by omega) (by omega) (fun i hi => hp i (by omega)) (by omega) (by omega) (by omega) (fun i hi => absurd hi (by omega)) | exact tq_no hs (by omega) (by omega)), (by first | exact (fun i _ => hx1 i) | exact (fun i _ => rfl) | exact (fun i _ => fup_other ehB116 757 i (Or.inl (by decide))))⟩
        · intro c123
          exfalso
          omega
end CT

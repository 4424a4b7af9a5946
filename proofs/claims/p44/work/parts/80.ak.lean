set_option linter.all false
/-! contracts (written by gen95.py) -/
abbrev wz_7628e : List Nat := [736, 737, 12103, 12104]
theorem x6_208 : f60c xTc xTys xm_208 = true := by decide +kernel
theorem fb_735_3 : bsJ 735 3 = ((-2147483648), 2147483647) := by decide +kernel
theorem rL_256_256_0_6_1_0 : frL gJ bsJ 100 ((256, 256), (0, 6), (1, 0), (0, 127)) := frL_of (by decide +kernel)
theorem rS_737_737_0_6_1_0 : frS gJ bsJ znJ [737] 100 ((737, 737), (0, 6), (1, 0), (0, 6)) := frS_of (by decide +kernel)
theorem rL_254_254_0_6_1_0 : frL gJ bsJ 100 ((254, 254), (0, 6), (1, 0), (0, 9)) := frL_of (by decide +kernel)
theorem rL_255_255_0_6_1_0 : frL gJ bsJ 100 ((255, 255), (0, 6), (1, 0), (0, 99)) := frL_of (by decide +kernel)
theorem fb_735_2 : bsJ 735 2 = ((-2147483648), 2147483647) := by decide +kernel
theorem x6_209 : f60c xTc xTys xm_209 = true := by decide +kernel
theorem x6_210 : f60c xTc xTys xm_210 = true := by decide +kernel
theorem x6_211 : f60c xTc xTys xm_211 = true := by decide +kernel
theorem x6_212 : f60c xTc xTys xm_212 = true := by decide +kernel
theorem x6_213 : f60c xTc xTys xm_213 = true := by decide +kernel
theorem x6_214 : f60c xTc xTys xm_214 = true := by decide +kernel
abbrev wz_79e74 : List Nat := [736, 737, 12102, 12103, 12104]
theorem x6_206 : f60c xTc xTys xm_206 = true := by decide +kernel
theorem x6_205 : f60c xTc xTys xm_205 = true := by decide +kernel
abbrev wz_4d25e : List Nat := [757, 758, 12233, 12234, 12235]
theorem x6_479 : f60c xTc xTys xm_479 = true := by decide +kernel
theorem fb_740_35 : bsJ 740 35 = (0, 1) := by decide +kernel
theorem rL_757_757_0_6_1_0 : frL gJ bsJ 100 ((757, 757), (0, 6), (1, 0), (0, 6)) := frL_of (by decide +kernel)
theorem rS_758_758_0_6_1_0 : frS gJ bsJ znJ [758] 100 ((758, 758), (0, 6), (1, 0), (0, 6)) := frS_of (by decide +kernel)
theorem rL_741_741_4372_4390_3_0 : frL gJ bsJ 100 ((741, 741), (4372, 4390), (3, 0), (0, 127)) := frL_of (by decide +kernel)
theorem fb_740_34 : bsJ 740 34 = ((-2147483648), 2147483647) := by decide +kernel
theorem rS_757_757_0_6_1_0 : frS gJ bsJ znJ [757] 100 ((757, 757), (0, 6), (1, 0), (0, 6)) := frS_of (by decide +kernel)
theorem rL_741_741_4370_4388_3_0 : frL gJ bsJ 100 ((741, 741), (4370, 4388), (3, 0), (0, 9)) := frL_of (by decide +kernel)
theorem rL_741_741_4371_4389_3_0 : frL gJ bsJ 100 ((741, 741), (4371, 4389), (3, 0), (0, 99)) := frL_of (by decide +kernel)
theorem fb_740_33 : bsJ 740 33 = ((-2147483648), 2147483647) := by decide +kernel
theorem x6_480 : f60c xTc xTys xm_480 = true := by decide +kernel
theorem x6_481 : f60c xTc xTys xm_481 = true := by decide +kernel
theorem x6_482 : f60c xTc xTys xm_482 = true := by decide +kernel
section CT
variable {ρ : Nat → Int32} {base n : Nat} {F : Nat → Prop} {D : va_G} {dA : Nat → ClassId} {la : Launch}
abbrev jc_Order_goOn_0ff97_24 (x2 : Int) (x3 : Int) (x4 : Int) (x5 : Int) (I0 : fH) : Nat → fL → List fV → fH → Prop := fun m lv st I => ∃ (y2 : Int) (y3 : Int) (y4 : Int) (y5 : Int) (y6 : Int), lv = [(0, .inr (.inr (some 735))), (1, .inr (.inr (some 211))), (2, .inl y2), (3, .inl y3), (4, .inl y4), (5, .inl y5), (6, .inl y6)] ∧ st = [] ∧ (((6 ≤ y2 ∧ y2 ≤ 6) ∧ ((-2147483648) ≤ y3 ∧ y3 ≤ 2147483647) ∧ (0 ≤ y4 ∧ y4 ≤ 54) ∧ ((-2147483648) ≤ y5 ∧ y5 ≤ 2147483647) ∧ (0 ≤ y6 ∧ y6 ≤ 7) ∧ (7 ≤ I 211 15 ∧ I 211 15 ≤ 7) ∧ (y2 = x2) ∧ (y3 = x3) ∧ (y4 = x4) ∧ (y5 = x5) ∧ (x2 < I0 211 15) ∧ (y6 ≤ I0 211 15)) ∧ (∀ (p : Nat → Int) (s : sSt), (∀ i : Nat, (i : Int) < x2 → I0 737 i = p i) → skR (I0 211 15).toNat s I0 → skR (I0 211 15).toNat (nf (sGo (I0 254) (I0 255) (I0 256) (I0 735 2) (sSk (I0 211 15).toNat (I0 254) (I0 255) (I0 256) (I0 735 2) 0) x2.toNat x3 x4 x5 p) s y6.toNat) I) ∧ (∀ i : Nat, (i : Int) < x2 → I 737 i = I0 737 i)) ∧ m = (1 + 1 * (7 - y6) : Int).toNat
set_option maxRecDepth 8000 in
theorem ct_Order_goOn_0ff97 {I : fH} {x2 : Int} {x3 : Int} {x4 : Int} {x5 : Int} (h0 : fB bsJ I) (ha2 : (6 ≤ x2 ∧ x2 ≤ 6)) (ha3 : ((-2147483648) ≤ x3 ∧ x3 ≤ 2147483647)) (ha4 : (0 ≤ x4 ∧ x4 ≤ 54)) (ha5 : ((-2147483648) ≤ x5 ∧ x5 ≤ 2147483647)) (hp0 : 0 ≤ x5 ∧ x5 ≤ 5940 * x2) (hp1 : 0 ≤ I 735 2 ∧ I 735 2 ≤ 60) : fC ρ base n F xTc vwCl xTys D dA la gJ (fbz bsJ znJ (fKc wz_7628e) I) xm_208 [.inr (.inr (some 735)), .inr (.inr (some 211)), .inl x2, .inl x3, .inl x4, .inl x5] I (fun I' r => r = none ∧ True ∧ (∀ (p : Nat → Int) (s : sSt), (∀ i : Nat, (i : Int) < x2 → I 737 i = p i) → skR (I 211 15).toNat s I → skR (I 211 15).toNat (sSk (I 211 15).toNat (I 254) (I 255) (I 256) (I 735 2) 1 x2.toNat x3 x4 x5 p s) I') ∧ (∀ i : Nat, (i : Int) < x2 → I' 737 i = I 737 i)) := by
  have hW : fzs wz_7628e (fKc wz_7628e) := fKc_ok _
  refine f_meth (rb := rbJ) (J := [(24, (jc_Order_goOn_0ff97_24 x2 x3 x4 x5 I))]) 9 400 xG xin_208 x6_208 okJ (fB_self h0) ?_ ?_
  · refine List.forall_mem_cons.mpr ⟨?_, fun q h => absurd h List.not_mem_nil⟩
    · rintro m _ _ I1 hB1 ⟨y2, y3, y4, y5, y6, rfl, rfl, ⟨hb, hx0, hx1⟩, hm⟩
      have k1 := fBz_eq hB1 (a := 211) (j := 15) (by decide +kernel)
      have k2 := fBz_eq hB1 (a := 735) (j := 2) (by decide +kernel)
      have b3 := fBd fb_211_15 (fBz h0 hB1)
      have ey2 : x2 = y2 := by omega
      subst ey2
      have ey3 : x3 = y3 := by omega
      subst ey3
      have ey4 : x4 = y4 := by omega
      subst ey4
      have ey5 : x5 = y5 := by omega
      subst ey5
      refine And.intro ⟨rfl, by decide, by decide⟩ (fgetf fb_211_15 h0 hB1 ?_)
      intro z4 lz4 uz4 qz4
      refine And.intro (And.intro (by first | exact fi_ hb.2.2.2.2.1.1 hb.2.2.2.2.1.2 rfl | omega) (by first | exact fi_ lz4 uz4 rfl | omega)) (And.intro ?_ ?_)
      · intro c5
        exact ⟨rfl, True.intro, (fun p s hp hs => by rw [sk_go (by omega)]; exact sk_end (hx0 p s hp hs) (by omega) (by omega)), hx1⟩
      · intro c6
        refine And.intro ⟨rfl, by decide, by decide⟩ (fgetf fb_735_3 h0 hB1 ?_)
        intro z7 lz7 uz7 qz7
        refine And.intro (by first | exact fi_ lz7 uz7 rfl | omega) (And.intro ?_ ?_)
        · intro c8
          exact ⟨rfl, True.intro, (fun p s hp hs => by rw [sk_go (by omega)]; exact sk_end (hx0 p s hp hs) (by omega) (by omega)), hx1⟩
        · intro c9
          intro z10 hz10 ez10
          intro z11 hz11 ez11 bz11
          have bz11 := bz11 (by omega)
          have wb := bt_of hz11 ez10 ez11 (by omega)
          refine And.intro (by first | exact fi_ bz11.1 bz11.2 rfl | omega) (And.intro ?_ ?_)
          · intro c12
            exact fcutJ (I := I1) (j := (jc_Order_goOn_0ff97_24 x2 x3 x4 x5 I)) (lv' := [(0, .inr (.inr (some 735))), (1, .inr (.inr (some 211))), (2, .inl _), (3, .inl _), (4, .inl _), (5, .inl _), (6, .inl _)]) (And.intro rfl (And.intro rfl (And.intro rfl (And.intro rfl (And.intro rfl (And.intro rfl (And.intro rfl True.intro))))))) ⟨_, _, _, _, _, rfl, rfl, ⟨by omega, (fun p s hp hs => by first | exact nf_skR (go_no (hx0 p s hp hs) (fun q => by have q1 := q.1; omega)) (by omega) (by omega) | exact nf_skR (go_no (hx0 p s hp hs) (fun q => by have q2 := q.2; omega)) (by omega) (by omega) | exact nf_skR (go_spent (hx0 p s hp hs) (by omega) ⟨by omega, by omega⟩ (by omega) (by omega) enil0 enil0) (by omega) (by omega) | exact nf_skR (go_rec (hx0 p s hp hs) (by omega) ⟨by omega, by omega⟩ (g0nil0 (sUp p x2.toNat ((y6.toNat : Nat) : Int)) _ (path_up enil0 enil0 (fun i hi => (hx1 i hi).trans (hp i hi)) (by omega) rfl (by omega)) (go_in (hx0 p s hp hs) (by omega) enil0 enil0))) (by omega) (by omega)), (fun i hi => by first | exact (g1nil0 i (by omega)).trans ((fup_other enil0 737 i (Or.inr (by omega))).trans ((fup_other enil0 737 i (Or.inl (by decide))).trans (hx1 i hi))) | exact ((fup_other enil0 737 i (Or.inr (by omega))).trans ((fup_other enil0 737 i (Or.inl (by decide))).trans (hx1 i hi))) | exact hx1 i hi)⟩, rfl⟩ (by omega)
          · intro c13
            refine And.intro ⟨rfl, by decide, by decide⟩ ?_
            refine fload1 rL_256_256_0_6_1_0 h0 hB1 ⟨by decide, by decide⟩ (by first | exact ⟨hb.2.2.2.2.1.1, Int.le_trans (Int.le_sub_one_of_lt (Int.lt_of_lt_of_le c6 uz4)) (by decide)⟩ | omega) ?_
            intro z14 lz14 uz14 qz14
            intro z15 hz15 ez15
            intro z16 hz16 ez16 bz16
            clear bz16
            have wa := sAh_of hz16 ez15 ez16
            rw [qz14, fFr_at (fFr_of hB1) 256 (by decide +kernel) rfl] at wa
            refine And.intro (by omega) (And.intro ?_ ?_)
            · intro c17
              exact fcutJ (I := I1) (j := (jc_Order_goOn_0ff97_24 x2 x3 x4 x5 I)) (lv' := [(0, .inr (.inr (some 735))), (1, .inr (.inr (some 211))), (2, .inl _), (3, .inl _), (4, .inl _), (5, .inl _), (6, .inl _)]) (And.intro rfl (And.intro rfl (And.intro rfl (And.intro rfl (And.intro rfl (And.intro rfl (And.intro rfl True.intro))))))) ⟨_, _, _, _, _, rfl, rfl, ⟨by omega, (fun p s hp hs => by first | exact nf_skR (go_no (hx0 p s hp hs) (fun q => by have q1 := q.1; omega)) (by omega) (by omega) | exact nf_skR (go_no (hx0 p s hp hs) (fun q => by have q2 := q.2; omega)) (by omega) (by omega) | exact nf_skR (go_spent (hx0 p s hp hs) (by omega) ⟨by omega, by omega⟩ (by omega) (by omega) enil0 enil0) (by omega) (by omega) | exact nf_skR (go_rec (hx0 p s hp hs) (by omega) ⟨by omega, by omega⟩ (g0nil0 (sUp p x2.toNat ((y6.toNat : Nat) : Int)) _ (path_up enil0 enil0 (fun i hi => (hx1 i hi).trans (hp i hi)) (by omega) rfl (by omega)) (go_in (hx0 p s hp hs) (by omega) enil0 enil0))) (by omega) (by omega)), (fun i hi => by first | exact (g1nil0 i (by omega)).trans ((fup_other enil0 737 i (Or.inr (by omega))).trans ((fup_other enil0 737 i (Or.inl (by decide))).trans (hx1 i hi))) | exact ((fup_other enil0 737 i (Or.inr (by omega))).trans ((fup_other enil0 737 i (Or.inl (by decide))).trans (hx1 i hi))) | exact hx1 i hi)⟩, rfl⟩ (by omega)
            · intro c18
              refine And.intro ⟨rfl, by decide, by decide⟩ (fgetf fb_735_3 h0 hB1 ?_)
              intro z19 lz19 uz19 qz19
              refine And.intro ⟨rfl, by decide, by decide⟩ (And.intro rfl (And.intro (Or.inl rfl) (fputf fb_735_3 (by decide +kernel) hW (by omega) ?_)))
              intro IhB20 ehB20 hB20
              have t21 : IhB20 211 15 = I1 211 15 := (congrFun (congrFun ehB20 211) 15).trans (fup_ne (by first | decide | omega))
              have t22 := fup_at ehB20 3 (by first | rfl | omega)
              have k23 := fBz_eq hB20 (a := 211) (j := 15) (by decide +kernel)
              have k24 := fBz_eq hB20 (a := 735) (j := 2) (by decide +kernel)
              refine And.intro ⟨rfl, by decide, by decide⟩ ?_
              refine fstore1 rS_737_737_0_6_1_0 (fzs_sub (by decide +kernel) hW) ⟨by decide, by decide⟩ (by first | exact ⟨Int.le_trans (by decide) hb.1.1, hb.1.2⟩ | omega) (by first | exact ⟨hb.2.2.2.2.1.1, Int.le_trans (Int.le_sub_one_of_lt (Int.lt_of_lt_of_le c6 uz4)) (by decide)⟩ | omega) ?_
              intro IhB25 ehB25 hB25
              have t26 := fup_self ehB25
              have t27 : IhB25 211 15 = IhB20 211 15 := (congrFun (congrFun ehB25 211) 15).trans (fup_ne (by first | decide | omega))
              have t28 : IhB25 735 3 = IhB20 735 3 := (congrFun (congrFun ehB25 735) 3).trans (fup_ne (by first | decide | omega))
              have t29 := fup_at ehB25 6 (by first | rfl | omega)
              have k30 := fBz_eq hB25 (a := 211) (j := 15) (by decide +kernel)
              have k31 := fBz_eq hB25 (a := 735) (j := 2) (by decide +kernel)
              refine And.intro ⟨rfl, by decide, by decide⟩ ?_
              refine fload1 rL_254_254_0_6_1_0 h0 hB25 ⟨by decide, by decide⟩ (by first | exact ⟨hb.2.2.2.2.1.1, Int.le_trans (Int.le_sub_one_of_lt (Int.lt_of_lt_of_le c6 uz4)) (by decide)⟩ | omega) ?_
              intro z32 lz32 uz32 qz32
              have w89 := qz32.trans ((fun j => (fup_other ehB25 254 j (Or.inl (by decide))).trans ((fup_other ehB20 254 j (Or.inl (by decide))).trans (fFr_at (fFr_of hB1) 254 (by decide +kernel) rfl j))) _)
              intro z33 hz33 ez33 bz33
              have bz33 := bz33 (by omega)
              refine And.intro ⟨rfl, by decide, by decide⟩ ?_
              refine fload1 rL_255_255_0_6_1_0 h0 hB25 ⟨by decide, by decide⟩ (by first | exact ⟨hb.2.2.2.2.1.1, Int.le_trans (Int.le_sub_one_of_lt (Int.lt_of_lt_of_le c6 uz4)) (by decide)⟩ | omega) ?_
              intro z34 lz34 uz34 qz34
              have w99 := qz34.trans ((fun j => (fup_other ehB25 255 j (Or.inl (by decide))).trans ((fup_other ehB20 255 j (Or.inl (by decide))).trans (fFr_at (fFr_of hB1) 255 (by decide +kernel) rfl j))) _)
              refine And.intro ⟨rfl, by decide, by decide⟩ (fgetf fb_735_2 h0 hB25 ?_)
              intro z35 lz35 uz35 qz35
              intro z36 hz36 ez36 bz36
              try replace bz36 := bz36 (by omega)
              refine And.intro (And.intro (by first | exact ⟨by decide, by decide⟩ | omega) (And.intro (by omega) rfl)) ?_
              intro z37 hz37
              intro z38 hz38 ez38 bz38
              try replace bz38 := bz38 (by omega)
              have w110 := mul_bd (a := z34) (b := z37) (by omega) (by omega)
              have w111 := bz38 (by omega)
              refine And.intro ⟨rfl, by decide, by decide⟩ (fgetf fb_735_3 h0 hB25 ?_)
              intro z39 lz39 uz39 qz39
              refine And.intro (by first | exact fi_ lz39 uz39 rfl | omega) (And.intro ?_ ?_)
              · intro c40
                exact fcutJ (I := IhB25) (j := (jc_Order_goOn_0ff97_24 x2 x3 x4 x5 I)) (lv' := [(0, .inr (.inr (some 735))), (1, .inr (.inr (some 211))), (2, .inl _), (3, .inl _), (4, .inl _), (5, .inl _), (6, .inl _)]) (And.intro rfl (And.intro rfl (And.intro rfl (And.intro rfl (And.intro rfl (And.intro rfl (And.intro rfl True.intro))))))) ⟨_, _, _, _, _, rfl, rfl, ⟨by omega, (fun p s hp hs => by first | exact nf_skR (go_no (hx0 p s hp hs) (fun q => by have q1 := q.1; omega)) (by omega) (by omega) | exact nf_skR (go_no (hx0 p s hp hs) (fun q => by have q2 := q.2; omega)) (by omega) (by omega) | exact nf_skR (go_spent (hx0 p s hp hs) (by omega) ⟨by omega, by omega⟩ (by omega) (by omega) ehB20 ehB25) (by omega) (by omega) | exact nf_skR (go_rec (hx0 p s hp hs) (by omega) ⟨by omega, by omega⟩ (g0nil0 (sUp p x2.toNat ((y6.toNat : Nat) : Int)) _ (path_up ehB20 ehB25 (fun i hi => (hx1 i hi).trans (hp i hi)) (by omega) rfl (by omega)) (go_in (hx0 p s hp hs) (by omega) ehB20 ehB25))) (by omega) (by omega)), (fun i hi => by first | exact (g1nil0 i (by omega)).trans ((fup_other ehB25 737 i (Or.inr (by omega))).trans ((fup_other ehB20 737 i (Or.inl (by decide))).trans (hx1 i hi))) | exact ((fup_other ehB25 737 i (Or.inr (by omega))).trans ((fup_other ehB20 737 i (Or.inl (by decide))).trans (hx1 i hi))) | exact hx1 i hi)⟩, rfl⟩ (by omega)
              · intro c41
                intro z42 hz42 ez42
                intro z43 hz43 ez43
                intro z44 hz44 ez44 bz44
                try replace bz44 := bz44 (by omega)
                refine Exists.intro xm_207 (And.intro mi_207 (And.intro ⟨rfl, rfl, rfl, rfl⟩ (And.intro rfl ?_)))
                refine fcall _ h0 (fzs_sub (by decide +kernel) hW) hB25 (ct_Order_goOn_992d9 (fBz h0 hB25) (by omega) (by omega) (by omega) (by omega) (by omega) (by omega)) ?_
                rintro IhB46 _ hB46 fhB46 ⟨rfl, hz45, g0z45, g1z45⟩
                have t47 := fhB46 211 15 (by decide +kernel)
                have t48 := fhB46 735 3 (by decide +kernel)
                have k49 := fBz_eq hB46 (a := 211) (j := 15) (by decide +kernel)
                have k50 := fBz_eq hB46 (a := 735) (j := 2) (by decide +kernel)
                have w254 : IhB25 254 = I 254 := funext (fun j => (fup_other ehB25 254 j (Or.inl (by decide))).trans ((fup_other ehB20 254 j (Or.inl (by decide))).trans (fFr_at (fFr_of hB1) 254 (by decide +kernel) rfl j)))
                have w255 : IhB25 255 = I 255 := funext (fun j => (fup_other ehB25 255 j (Or.inl (by decide))).trans ((fup_other ehB20 255 j (Or.inl (by decide))).trans (fFr_at (fFr_of hB1) 255 (by decide +kernel) rfl j)))
                have w256 : IhB25 256 = I 256 := funext (fun j => (fup_other ehB25 256 j (Or.inl (by decide))).trans ((fup_other ehB20 256 j (Or.inl (by decide))).trans (fFr_at (fFr_of hB1) 256 (by decide +kernel) rfl j)))
                have wN : IhB25 211 15 = I 211 15 := fBz_eq hB25 (by decide +kernel)
                have wS : IhB25 735 2 = I 735 2 := fBz_eq hB25 (by decide +kernel)
                have wd := sDn_of hz43 (by omega) ez42 ez43
                have we : z33 = x4 + I 254 y6.toNat := by omega
                have ws : z44 = x5 + sMo (I 735 2) (x4 + I 254 y6.toNat) (I 255 y6.toNat) := by have q := mo_of (span := I 735 2) (e := x4 + I 254 y6.toNat) w111 (by omega); rw [w99] at q; omega
                rw [w254, w255, w256, wN, wS, wd, we, ws, show (x2 + ((1 : Nat) : Int)).toNat = x2.toNat + 1 by omega] at g0z45
                exact fcutJ (I := IhB46) (j := (jc_Order_goOn_0ff97_24 x2 x3 x4 x5 I)) (lv' := [(0, .inr (.inr (some 735))), (1, .inr (.inr (some 211))), (2, .inl _), (3, .inl _), (4, .inl _), (5, .inl _), (6, .inl _)]) (And.intro rfl (And.intro rfl (And.intro rfl (And.intro rfl (And.intro rfl (And.intro rfl (And.intro rfl True.intro))))))) ⟨_, _, _, _, _, rfl, rfl, ⟨by omega, (fun p s hp hs => by first | exact nf_skR (go_no (hx0 p s hp hs) (fun q => by have q1 := q.1; omega)) (by omega) (by omega) | exact nf_skR (go_no (hx0 p s hp hs) (fun q => by have q2 := q.2; omega)) (by omega) (by omega) | exact nf_skR (go_spent (hx0 p s hp hs) (by omega) ⟨by omega, by omega⟩ (by omega) (by omega) ehB20 ehB25) (by omega) (by omega) | exact nf_skR (go_rec (hx0 p s hp hs) (by omega) ⟨by omega, by omega⟩ (g0z45 (sUp p x2.toNat ((y6.toNat : Nat) : Int)) _ (path_up ehB20 ehB25 (fun i hi => (hx1 i hi).trans (hp i hi)) (by omega) rfl (by omega)) (go_in (hx0 p s hp hs) (by omega) ehB20 ehB25))) (by omega) (by omega)), (fun i hi => by first | exact (g1z45 i (by omega)).trans ((fup_other ehB25 737 i (Or.inr (by omega))).trans ((fup_other ehB20 737 i (Or.inl (by decide))).trans (hx1 i hi))) | exact ((fup_other ehB25 737 i (Or.inr (by omega))).trans ((fup_other ehB20 737 i (Or.inl (by decide))).trans (hx1 i hi))) | exact hx1 i hi)⟩, rfl⟩ (by omega)
  · have hB0 := fB_self (zn := znJ) (K := fKc wz_7628e) h0
    have b51 := fBd fb_211_15 (fBz h0 hB0)
    refine And.intro ⟨rfl, by decide, by decide⟩ (fgetf fb_211_15 h0 hB0 ?_)
    intro z52 lz52 uz52 qz52
    refine And.intro (And.intro (by first | exact fi_ ha2.1 ha2.2 rfl | omega) (by first | exact fi_ lz52 uz52 rfl | omega)) (And.intro ?_ ?_)
    · intro c53
      refine Exists.intro xm_215 (And.intro mi_215 (And.intro ⟨rfl, rfl, rfl, rfl⟩ (And.intro rfl ?_)))
      refine fcall _ h0 (fzs_sub (by decide +kernel) hW) hB0 (ct_Order_take_e8cff (fBz h0 hB0) (by first | exact ⟨ha5.1, ha5.2⟩ | omega)) ?_
      rintro IhB55 _ hB55 fhB55 ⟨rfl, hz54, g0z54⟩
      have t56 := fhB55 211 15 (by decide +kernel)
      have k57 := fBz_eq hB55 (a := 211) (j := 15) (by decide +kernel)
      have k58 := fBz_eq hB55 (a := 735) (j := 2) (by decide +kernel)
      exact ⟨rfl, True.intro, (fun p s hp hs => by rw [sk_tk (by omega)]; exact g0z54 p s (fun i hi => hp i (by omega)) hs), (fun i _ => fFr_at fhB55 737 (by decide +kernel) rfl i)⟩
    · intro c59
      refine And.intro (And.intro (by first | exact fi_ ha2.1 ha2.2 rfl | omega) (by first | exact ⟨by decide, by decide⟩ | omega)) (And.intro ?_ ?_)
      · intro c60
        exact fcutJ (I := I) (j := (jc_Order_goOn_0ff97_24 x2 x3 x4 x5 I)) (lv' := [(0, .inr (.inr (some 735))), (1, .inr (.inr (some 211))), (2, .inl _), (3, .inl _), (4, .inl _), (5, .inl _), (6, .inl _)]) (And.intro rfl (And.intro rfl (And.intro rfl (And.intro rfl (And.intro rfl (And.intro rfl (And.intro rfl True.intro))))))) ⟨_, _, _, _, _, rfl, rfl, ⟨by omega, (fun p s hp hs => hs), (fun i _ => rfl)⟩, rfl⟩ (by omega)
      · intro c61
        refine Exists.intro xm_215 (And.intro mi_215 (And.intro ⟨rfl, rfl, rfl, rfl⟩ (And.intro rfl ?_)))
        refine fcall _ h0 (fzs_sub (by decide +kernel) hW) hB0 (ct_Order_take_e8cff (fBz h0 hB0) (by first | exact ⟨ha5.1, ha5.2⟩ | omega)) ?_
        rintro IhB63 _ hB63 fhB63 ⟨rfl, hz62, g0z62⟩
        have t64 := fhB63 211 15 (by decide +kernel)
        have k65 := fBz_eq hB63 (a := 211) (j := 15) (by decide +kernel)
        have k66 := fBz_eq hB63 (a := 735) (j := 2) (by decide +kernel)
        exact ⟨rfl, True.intro, (fun p s hp hs => by rw [sk_tk (by omega)]; exact g0z62 p s (fun i hi => hp i (by omega)) hs), (fun i _ => fFr_at fhB63 737 (by decide +kernel) rfl i)⟩
abbrev jc_Order_goOn_341c6_24 (x2 : Int) (x3 : Int) (x4 : Int) (x5 : Int) (I0 : fH) : Nat → fL → List fV → fH → Prop := fun m lv st I => ∃ (y2 : Int) (y3 : Int) (y4 : Int) (y5 : Int) (y6 : Int), lv = [(0, .inr (.inr (some 735))), (1, .inr (.inr (some 211))), (2, .inl y2), (3, .inl y3), (4, .inl y4), (5, .inl y5), (6, .inl y6)] ∧ st = [] ∧ (((5 ≤ y2 ∧ y2 ≤ 5) ∧ ((-2147483648) ≤ y3 ∧ y3 ≤ 2147483647) ∧ (0 ≤ y4 ∧ y4 ≤ 45) ∧ ((-2147483648) ≤ y5 ∧ y5 ≤ 2147483647) ∧ (0 ≤ y6 ∧ y6 ≤ 7) ∧ (6 ≤ I 211 15 ∧ I 211 15 ≤ 7) ∧ (y2 = x2) ∧ (y3 = x3) ∧ (y4 = x4) ∧ (y5 = x5) ∧ (x2 < I0 211 15) ∧ (y6 ≤ I0 211 15)) ∧ (∀ (p : Nat → Int) (s : sSt), (∀ i : Nat, (i : Int) < x2 → I0 737 i = p i) → skR (I0 211 15).toNat s I0 → skR (I0 211 15).toNat (nf (sGo (I0 254) (I0 255) (I0 256) (I0 735 2) (sSk (I0 211 15).toNat (I0 254) (I0 255) (I0 256) (I0 735 2) 1) x2.toNat x3 x4 x5 p) s y6.toNat) I) ∧ (∀ i : Nat, (i : Int) < x2 → I 737 i = I0 737 i)) ∧ m = (1 + 1 * (7 - y6) : Int).toNat
set_option maxRecDepth 8000 in
theorem ct_Order_goOn_341c6 {I : fH} {x2 : Int} {x3 : Int} {x4 : Int} {x5 : Int} (h0 : fB bsJ I) (ha2 : (5 ≤ x2 ∧ x2 ≤ 5)) (ha3 : ((-2147483648) ≤ x3 ∧ x3 ≤ 2147483647)) (ha4 : (0 ≤ x4 ∧ x4 ≤ 45)) (ha5 : ((-2147483648) ≤ x5 ∧ x5 ≤ 2147483647)) (hp0 : 0 ≤ x5 ∧ x5 ≤ 5940 * x2) (hp1 : 0 ≤ I 735 2 ∧ I 735 2 ≤ 60) : fC ρ base n F xTc vwCl xTys D dA la gJ (fbz bsJ znJ (fKc wz_7628e) I) xm_209 [.inr (.inr (some 735)), .inr (.inr (some 211)), .inl x2, .inl x3, .inl x4, .inl x5] I (fun I' r => r = none ∧ True ∧ (∀ (p : Nat → Int) (s : sSt), (∀ i : Nat, (i : Int) < x2 → I 737 i = p i) → skR (I 211 15).toNat s I → skR (I 211 15).toNat (sSk (I 211 15).toNat (I 254) (I 255) (I 256) (I 735 2) 2 x2.toNat x3 x4 x5 p s) I') ∧ (∀ i : Nat, (i : Int) < x2 → I' 737 i = I 737 i)) := by
  have hW : fzs wz_7628e (fKc wz_7628e) := fKc_ok _
  refine f_meth (rb := rbJ) (J := [(24, (jc_Order_goOn_341c6_24 x2 x3 x4 x5 I))]) 9 400 xG xin_209 x6_209 okJ (fB_self h0) ?_ ?_
  · refine List.forall_mem_cons.mpr ⟨?_, fun q h => absurd h List.not_mem_nil⟩
    · rintro m _ _ I1 hB1 ⟨y2, y3, y4, y5, y6, rfl, rfl, ⟨hb, hx0, hx1⟩, hm⟩
      have k1 := fBz_eq hB1 (a := 211) (j := 15) (by decide +kernel)
      have k2 := fBz_eq hB1 (a := 735) (j := 2) (by decide +kernel)
      have b3 := fBd fb_211_15 (fBz h0 hB1)
      have ey2 : x2 = y2 := by omega
      subst ey2
      have ey3 : x3 = y3 := by omega
      subst ey3
      have ey4 : x4 = y4 := by omega
      subst ey4
      have ey5 : x5 = y5 := by omega
      subst ey5
      refine And.intro ⟨rfl, by decide, by decide⟩ (fgetf fb_211_15 h0 hB1 ?_)
      intro z4 lz4 uz4 qz4
      refine And.intro (And.intro (by first | exact fi_ hb.2.2.2.2.1.1 hb.2.2.2.2.1.2 rfl | omega) (by first | exact fi_ lz4 uz4 rfl | omega)) (And.intro ?_ ?_)
      · intro c5
        exact ⟨rfl, True.intro, (fun p s hp hs => by rw [sk_go (by omega)]; exact sk_end (hx0 p s hp hs) (by omega) (by omega)), hx1⟩
      · intro c6
        refine And.intro ⟨rfl, by decide, by decide⟩ (fgetf fb_735_3 h0 hB1 ?_)
        intro z7 lz7 uz7 qz7
        refine And.intro (by first | exact fi_ lz7 uz7 rfl | omega) (And.intro ?_ ?_)
        · intro c8
          exact ⟨rfl, True.intro, (fun p s hp hs => by rw [sk_go (by omega)]; exact sk_end (hx0 p s hp hs) (by omega) (by omega)), hx1⟩
        · intro c9
          intro z10 hz10 ez10
          intro z11 hz11 ez11 bz11
          have bz11 := bz11 (by omega)
          have wb := bt_of hz11 ez10 ez11 (by omega)
          refine And.intro (by first | exact fi_ bz11.1 bz11.2 rfl | omega) (And.intro ?_ ?_)
          · intro c12
            exact fcutJ (I := I1) (j := (jc_Order_goOn_341c6_24 x2 x3 x4 x5 I)) (lv' := [(0, .inr (.inr (some 735))), (1, .inr (.inr (some 211))), (2, .inl _), (3, .inl _), (4, .inl _), (5, .inl _), (6, .inl _)]) (And.intro rfl (And.intro rfl (And.intro rfl (And.intro rfl (And.intro rfl (And.intro rfl (And.intro rfl True.intro))))))) ⟨_, _, _, _, _, rfl, rfl, ⟨by omega, (fun p s hp hs => by first | exact nf_skR (go_no (hx0 p s hp hs) (fun q => by have q1 := q.1; omega)) (by omega) (by omega) | exact nf_skR (go_no (hx0 p s hp hs) (fun q => by have q2 := q.2; omega)) (by omega) (by omega) | exact nf_skR (go_spent (hx0 p s hp hs) (by omega) ⟨by omega, by omega⟩ (by omega) (by omega) enil0 enil0) (by omega) (by omega) | exact nf_skR (go_rec (hx0 p s hp hs) (by omega) ⟨by omega, by omega⟩ (g0nil0 (sUp p x2.toNat ((y6.toNat : Nat) : Int)) _ (path_up enil0 enil0 (fun i hi => (hx1 i hi).trans (hp i hi)) (by omega) rfl (by omega)) (go_in (hx0 p s hp hs) (by omega) enil0 enil0))) (by omega) (by omega)), (fun i hi => by first | exact (g1nil0 i (by omega)).trans ((fup_other enil0 737 i (Or.inr (by omega))).trans ((fup_other enil0 737 i (Or.inl (by decide))).trans (hx1 i hi))) | exact ((fup_other enil0 737 i (Or.inr (by omega))).trans ((fup_other enil0 737 i (Or.inl (by decide))).trans (hx1 i hi))) | exact hx1 i hi)⟩, rfl⟩ (by omega)
          · intro c13
            refine And.intro ⟨rfl, by decide, by decide⟩ ?_
            refine fload1 rL_256_256_0_6_1_0 h0 hB1 ⟨by decide, by decide⟩ (by first | exact ⟨hb.2.2.2.2.1.1, Int.le_trans (Int.le_sub_one_of_lt (Int.lt_of_lt_of_le c6 uz4)) (by decide)⟩ | omega) ?_
            intro z14 lz14 uz14 qz14
            intro z15 hz15 ez15
            intro z16 hz16 ez16 bz16
            clear bz16
            have wa := sAh_of hz16 ez15 ez16
            rw [qz14, fFr_at (fFr_of hB1) 256 (by decide +kernel) rfl] at wa
            refine And.intro (by omega) (And.intro ?_ ?_)
            · intro c17
              exact fcutJ (I := I1) (j := (jc_Order_goOn_341c6_24 x2 x3 x4 x5 I)) (lv' := [(0, .inr (.inr (some 735))), (1, .inr (.inr (some 211))), (2, .inl _), (3, .inl _), (4, .inl _), (5, .inl _), (6, .inl _)]) (And.intro rfl (And.intro rfl (And.intro rfl (And.intro rfl (And.intro rfl (And.intro rfl (And.intro rfl True.intro))))))) ⟨_, _, _, _, _, rfl, rfl, ⟨by omega, (fun p s hp hs => by first | exact nf_skR (go_no (hx0 p s hp hs) (fun q => by have q1 := q.1; omega)) (by omega) (by omega) | exact nf_skR (go_no (hx0 p s hp hs) (fun q => by have q2 := q.2; omega)) (by omega) (by omega) | exact nf_skR (go_spent (hx0 p s hp hs) (by omega) ⟨by omega, by omega⟩ (by omega) (by omega) enil0 enil0) (by omega) (by omega) | exact nf_skR (go_rec (hx0 p s hp hs) (by omega) ⟨by omega, by omega⟩ (g0nil0 (sUp p x2.toNat ((y6.toNat : Nat) : Int)) _ (path_up enil0 enil0 (fun i hi => (hx1 i hi).trans (hp i hi)) (by omega) rfl (by omega)) (go_in (hx0 p s hp hs) (by omega) enil0 enil0))) (by omega) (by omega)), (fun i hi => by first | exact (g1nil0 i (by omega)).trans ((fup_other enil0 737 i (Or.inr (by omega))).trans ((fup_other enil0 737 i (Or.inl (by decide))).trans (hx1 i hi))) | exact ((fup_other enil0 737 i (Or.inr (by omega))).trans ((fup_other enil0 737 i (Or.inl (by decide))).trans (hx1 i hi))) | exact hx1 i hi)⟩, rfl⟩ (by omega)
            · intro c18
              refine And.intro ⟨rfl, by decide, by decide⟩ (fgetf fb_735_3 h0 hB1 ?_)
              intro z19 lz19 uz19 qz19
              refine And.intro ⟨rfl, by decide, by decide⟩ (And.intro rfl (And.intro (Or.inl rfl) (fputf fb_735_3 (by decide +kernel) hW (by omega) ?_)))
              intro IhB20 ehB20 hB20
              have t21 : IhB20 211 15 = I1 211 15 := (congrFun (congrFun ehB20 211) 15).trans (fup_ne (by first | decide | omega))
              have t22 := fup_at ehB20 3 (by first | rfl | omega)
              have k23 := fBz_eq hB20 (a := 211) (j := 15) (by decide +kernel)
              have k24 := fBz_eq hB20 (a := 735) (j := 2) (by decide +kernel)
              refine And.intro ⟨rfl, by decide, by decide⟩ ?_
              refine fstore1 rS_737_737_0_6_1_0 (fzs_sub (by decide +kernel) hW) ⟨by decide, by decide⟩ (by first | exact ⟨Int.le_trans (by decide) hb.1.1, Int.le_trans hb.1.2 (by decide)⟩ | omega) (by first | exact ⟨hb.2.2.2.2.1.1, Int.le_trans (Int.le_sub_one_of_lt (Int.lt_of_lt_of_le c6 uz4)) (by decide)⟩ | omega) ?_
              intro IhB25 ehB25 hB25
              have t26 := fup_self ehB25
              have t27 : IhB25 211 15 = IhB20 211 15 := (congrFun (congrFun ehB25 211) 15).trans (fup_ne (by first | decide | omega))
              have t28 : IhB25 735 3 = IhB20 735 3 := (congrFun (congrFun ehB25 735) 3).trans (fup_ne (by first | decide | omega))
              have t29 := fup_at ehB25 5 (by first | rfl | omega)
              have k30 := fBz_eq hB25 (a := 211) (j := 15) (by decide +kernel)
              have k31 := fBz_eq hB25 (a := 735) (j := 2) (by decide +kernel)
              refine And.intro ⟨rfl, by decide, by decide⟩ ?_
              refine fload1 rL_254_254_0_6_1_0 h0 hB25 ⟨by decide, by decide⟩ (by first | exact ⟨hb.2.2.2.2.1.1, Int.le_trans (Int.le_sub_one_of_lt (Int.lt_of_lt_of_le c6 uz4)) (by decide)⟩ | omega) ?_
              intro z32 lz32 uz32 qz32
              have w89 := qz32.trans ((fun j => (fup_other ehB25 254 j (Or.inl (by decide))).trans ((fup_other ehB20 254 j (Or.inl (by decide))).trans (fFr_at (fFr_of hB1) 254 (by decide +kernel) rfl j))) _)
              intro z33 hz33 ez33 bz33
              have bz33 := bz33 (by omega)
              refine And.intro ⟨rfl, by decide, by decide⟩ ?_
              refine fload1 rL_255_255_0_6_1_0 h0 hB25 ⟨by decide, by decide⟩ (by first | exact ⟨hb.2.2.2.2.1.1, Int.le_trans (Int.le_sub_one_of_lt (Int.lt_of_lt_of_le c6 uz4)) (by decide)⟩ | omega) ?_
              intro z34 lz34 uz34 qz34
              have w99 := qz34.trans ((fun j => (fup_other ehB25 255 j (Or.inl (by decide))).trans ((fup_other ehB20 255 j (Or.inl (by decide))).trans (fFr_at (fFr_of hB1) 255 (by decide +kernel) rfl j))) _)
              refine And.intro ⟨rfl, by decide, by decide⟩ (fgetf fb_735_2 h0 hB25 ?_)
              intro z35 lz35 uz35 qz35
              intro z36 hz36 ez36 bz36
              try replace bz36 := bz36 (by omega)
              refine And.intro (And.intro (by first | exact ⟨by decide, by decide⟩ | omega) (And.intro (by omega) rfl)) ?_
              intro z37 hz37
              intro z38 hz38 ez38 bz38
              try replace bz38 := bz38 (by omega)
              have w110 := mul_bd (a := z34) (b := z37) (by omega) (by omega)
              have w111 := bz38 (by omega)
              refine And.intro ⟨rfl, by decide, by decide⟩ (fgetf fb_735_3 h0 hB25 ?_)
              intro z39 lz39 uz39 qz39
              refine And.intro (by first | exact fi_ lz39 uz39 rfl | omega) (And.intro ?_ ?_)
              · intro c40
                exact fcutJ (I := IhB25) (j := (jc_Order_goOn_341c6_24 x2 x3 x4 x5 I)) (lv' := [(0, .inr (.inr (some 735))), (1, .inr (.inr (some 211))), (2, .inl _), (3, .inl _), (4, .inl _), (5, .inl _), (6, .inl _)]) (And.intro rfl (And.intro rfl (And.intro rfl (And.intro rfl (And.intro rfl (And.intro rfl (And.intro rfl True.intro))))))) ⟨_, _, _, _, _, rfl, rfl, ⟨by omega, (fun p s hp hs => by first | exact nf_skR (go_no (hx0 p s hp hs) (fun q => by have q1 := q.1; omega)) (by omega) (by omega) | exact nf_skR (go_no (hx0 p s hp hs) (fun q => by have q2 := q.2; omega)) (by omega) (by omega) | exact nf_skR (go_spent (hx0 p s hp hs) (by omega) ⟨by omega, by omega⟩ (by omega) (by omega) ehB20 ehB25) (by omega) (by omega) | exact nf_skR (go_rec (hx0 p s hp hs) (by omega) ⟨by omega, by omega⟩ (g0nil0 (sUp p x2.toNat ((y6.toNat : Nat) : Int)) _ (path_up ehB20 ehB25 (fun i hi => (hx1 i hi).trans (hp i hi)) (by omega) rfl (by omega)) (go_in (hx0 p s hp hs) (by omega) ehB20 ehB25))) (by omega) (by omega)), (fun i hi => by first | exact (g1nil0 i (by omega)).trans ((fup_other ehB25 737 i (Or.inr (by omega))).trans ((fup_other ehB20 737 i (Or.inl (by decide))).trans (hx1 i hi))) | exact ((fup_other ehB25 737 i (Or.inr (by omega))).trans ((fup_other ehB20 737 i (Or.inl (by decide))).trans (hx1 i hi))) | exact hx1 i hi)⟩, rfl⟩ (by omega)
              · intro c41
                intro z42 hz42 ez42
                intro z43 hz43 ez43
                intro z44 hz44 ez44 bz44
                try replace bz44 := bz44 (by omega)
                refine Exists.intro xm_208 (And.intro mi_208 (And.intro ⟨rfl, rfl, rfl, rfl⟩ (And.intro rfl ?_)))
                refine fcall _ h0 (fzs_sub (by decide +kernel) hW) hB25 (ct_Order_goOn_0ff97 (fBz h0 hB25) (by omega) (by omega) (by omega) (by omega) (by omega) (by omega)) ?_
                rintro IhB46 _ hB46 fhB46 ⟨rfl, hz45, g0z45, g1z45⟩
                have t47 := fhB46 211 15 (by decide +kernel)
                have k48 := fBz_eq hB46 (a := 211) (j := 15) (by decide +kernel)
                have k49 := fBz_eq hB46 (a := 735) (j := 2) (by decide +kernel)
                have w254 : IhB25 254 = I 254 := funext (fun j => (fup_other ehB25 254 j (Or.inl (by decide))).trans ((fup_other ehB20 254 j (Or.inl (by decide))).trans (fFr_at (fFr_of hB1) 254 (by decide +kernel) rfl j)))
                have w255 : IhB25 255 = I 255 := funext (fun j => (fup_other ehB25 255 j (Or.inl (by decide))).trans ((fup_other ehB20 255 j (Or.inl (by decide))).trans (fFr_at (fFr_of hB1) 255 (by decide +kernel) rfl j)))
                have w256 : IhB25 256 = I 256 := funext (fun j => (fup_other ehB25 256 j (Or.inl (by decide))).trans ((fup_other ehB20 256 j (Or.inl (by decide))).trans (fFr_at (fFr_of hB1) 256 (by decide +kernel) rfl j)))
                have wN : IhB25 211 15 = I 211 15 := fBz_eq hB25 (by decide +kernel)
                have wS : IhB25 735 2 = I 735 2 := fBz_eq hB25 (by decide +kernel)
                have wd := sDn_of hz43 (by omega) ez42 ez43
                have we : z33 = x4 + I 254 y6.toNat := by omega
                have ws : z44 = x5 + sMo (I 735 2) (x4 + I 254 y6.toNat) (I 255 y6.toNat) := by have q := mo_of (span := I 735 2) (e := x4 + I 254 y6.toNat) w111 (by omega); rw [w99] at q; omega
                rw [w254, w255, w256, wN, wS, wd, we, ws, show (x2 + ((1 : Nat) : Int)).toNat = x2.toNat + 1 by omega] at g0z45
                exact fcutJ (I := IhB46) (j := (jc_Order_goOn_341c6_24 x2 x3 x4 x5 I)) (lv' := [(0, .inr (.inr (some 735))), (1, .inr (.inr (some 211))), (2, .inl _), (3, .inl _), (4, .inl _), (5, .inl _), (6, .inl _)]) (And.intro rfl (And.intro rfl (And.intro rfl (And.intro rfl (And.intro rfl (And.intro rfl (And.intro rfl True.intro))))))) ⟨_, _, _, _, _, rfl, rfl, ⟨by omega, (fun p s hp hs => by first | exact nf_skR (go_no (hx0 p s hp hs) (fun q => by have q1 := q.1; omega)) (by omega) (by omega) | exact nf_skR (go_no (hx0 p s hp hs) (fun q => by have q2 := q.2; omega)) (by omega) (by omega) | exact nf_skR (go_spent (hx0 p s hp hs) (by omega) ⟨by omega, by omega⟩ (by omega) (by omega) ehB20 ehB25) (by omega) (by omega) | exact nf_skR (go_rec (hx0 p s hp hs) (by omega) ⟨by omega, by omega⟩ (g0z45 (sUp p x2.toNat ((y6.toNat : Nat) : Int)) _ (path_up ehB20 ehB25 (fun i hi => (hx1 i hi).trans (hp i hi)) (by omega) rfl (by omega)) (go_in (hx0 p s hp hs) (by omega) ehB20 ehB25))) (by omega) (by omega)), (fun i hi => by first | exact (g1z45 i (by omega)).trans ((fup_other ehB25 737 i (Or.inr (by omega))).trans ((fup_other ehB20 737 i (Or.inl (by decide))).trans (hx1 i hi))) | exact ((fup_other ehB25 737 i (Or.inr (by omega))).trans ((fup_other ehB20 737 i (Or.inl (by decide))).trans (hx1 i hi))) | exact hx1 i hi)⟩, rfl⟩ (by omega)
  · have hB0 := fB_self (zn := znJ) (K := fKc wz_7628e) h0
    have b50 := fBd fb_211_15 (fBz h0 hB0)
    refine And.intro ⟨rfl, by decide, by decide⟩ (fgetf fb_211_15 h0 hB0 ?_)
    intro z51 lz51 uz51 qz51
    refine And.intro (And.intro (by first | exact fi_ ha2.1 ha2.2 rfl | omega) (by first | exact fi_ lz51 uz51 rfl | omega)) (And.intro ?_ ?_)
    · intro c52
      refine Exists.intro xm_215 (And.intro mi_215 (And.intro ⟨rfl, rfl, rfl, rfl⟩ (And.intro rfl ?_)))
      refine fcall _ h0 (fzs_sub (by decide +kernel) hW) hB0 (ct_Order_take_e8cff (fBz h0 hB0) (by first | exact ⟨ha5.1, ha5.2⟩ | omega)) ?_
      rintro IhB54 _ hB54 fhB54 ⟨rfl, hz53, g0z53⟩
      have t55 := fhB54 211 15 (by decide +kernel)
      have k56 := fBz_eq hB54 (a := 211) (j := 15) (by decide +kernel)
      have k57 := fBz_eq hB54 (a := 735) (j := 2) (by decide +kernel)
      exact ⟨rfl, True.intro, (fun p s hp hs => by rw [sk_tk (by omega)]; exact g0z53 p s (fun i hi => hp i (by omega)) hs), (fun i _ => fFr_at fhB54 737 (by decide +kernel) rfl i)⟩
    · intro c58
      refine And.intro (And.intro (by first | exact fi_ ha2.1 ha2.2 rfl | omega) (by first | exact ⟨by decide, by decide⟩ | omega)) (And.intro ?_ ?_)
      · intro c59
        exact fcutJ (I := I) (j := (jc_Order_goOn_341c6_24 x2 x3 x4 x5 I)) (lv' := [(0, .inr (.inr (some 735))), (1, .inr (.inr (some 211))), (2, .inl _), (3, .inl _), (4, .inl _), (5, .inl _), (6, .inl _)]) (And.intro rfl (And.intro rfl (And.intro rfl (And.intro rfl (And.intro rfl (And.intro rfl (And.intro rfl True.intro))))))) ⟨_, _, _, _, _, rfl, rfl, ⟨by omega, (fun p s hp hs => hs), (fun i _ => rfl)⟩, rfl⟩ (by omega)
      · intro c60
        refine Exists.intro xm_215 (And.intro mi_215 (And.intro ⟨rfl, rfl, rfl, rfl⟩ (And.intro rfl ?_)))
        refine fcall _ h0 (fzs_sub (by decide +kernel) hW) hB0 (ct_Order_take_e8cff (fBz h0 hB0) (by first | exact ⟨ha5.1, ha5.2⟩ | omega)) ?_
        rintro IhB62 _ hB62 fhB62 ⟨rfl, hz61, g0z61⟩
        have t63 := fhB62 211 15 (by decide +kernel)
        have k64 := fBz_eq hB62 (a := 211) (j := 15) (by decide +kernel)
        have k65 := fBz_eq hB62 (a := 735) (j := 2) (by decide +kernel)
        exact ⟨rfl, True.intro, (fun p s hp hs => by rw [sk_tk (by omega)]; exact g0z61 p s (fun i hi => hp i (by omega)) hs), (fun i _ => fFr_at fhB62 737 (by decide +kernel) rfl i)⟩
abbrev jc_Order_goOn_2e9e0_24 (x2 : Int) (x3 : Int) (x4 : Int) (x5 : Int) (I0 : fH) : Nat → fL → List fV → fH → Prop := fun m lv st I => ∃ (y2 : Int) (y3 : Int) (y4 : Int) (y5 : Int) (y6 : Int), lv = [(0, .inr (.inr (some 735))), (1, .inr (.inr (some 211))), (2, .inl y2), (3, .inl y3), (4, .inl y4), (5, .inl y5), (6, .inl y6)] ∧ st = [] ∧ (((4 ≤ y2 ∧ y2 ≤ 4) ∧ ((-2147483648) ≤ y3 ∧ y3 ≤ 2147483647) ∧ (0 ≤ y4 ∧ y4 ≤ 36) ∧ ((-2147483648) ≤ y5 ∧ y5 ≤ 2147483647) ∧ (0 ≤ y6 ∧ y6 ≤ 7) ∧ (5 ≤ I 211 15 ∧ I 211 15 ≤ 7) ∧ (y2 = x2) ∧ (y3 = x3) ∧ (y4 = x4) ∧ (y5 = x5) ∧ (x2 < I0 211 15) ∧ (y6 ≤ I0 211 15)) ∧ (∀ (p : Nat → Int) (s : sSt), (∀ i : Nat, (i : Int) < x2 → I0 737 i = p i) → skR (I0 211 15).toNat s I0 → skR (I0 211 15).toNat (nf (sGo (I0 254) (I0 255) (I0 256) (I0 735 2) (sSk (I0 211 15).toNat (I0 254) (I0 255) (I0 256) (I0 735 2) 2) x2.toNat x3 x4 x5 p) s y6.toNat) I) ∧ (∀ i : Nat, (i : Int) < x2 → I 737 i = I0 737 i)) ∧ m = (1 + 1 * (7 - y6) : Int).toNat
set_option maxRecDepth 8000 in
theorem ct_Order_goOn_2e9e0 {I : fH} {x2 : Int} {x3 : Int} {x4 : Int} {x5 : Int} (h0 : fB bsJ I) (ha2 : (4 ≤ x2 ∧ x2 ≤ 4)) (ha3 : ((-2147483648) ≤ x3 ∧ x3 ≤ 2147483647)) (ha4 : (0 ≤ x4 ∧ x4 ≤ 36)) (ha5 : ((-2147483648) ≤ x5 ∧ x5 ≤ 2147483647)) (hp0 : 0 ≤ x5 ∧ x5 ≤ 5940 * x2) (hp1 : 0 ≤ I 735 2 ∧ I 735 2 ≤ 60) : fC ρ base n F xTc vwCl xTys D dA la gJ (fbz bsJ znJ (fKc wz_7628e) I) xm_210 [.inr (.inr (some 735)), .inr (.inr (some 211)), .inl x2, .inl x3, .inl x4, .inl x5] I (fun I' r => r = none ∧ True ∧ (∀ (p : Nat → Int) (s : sSt), (∀ i : Nat, (i : Int) < x2 → I 737 i = p i) → skR (I 211 15).toNat s I → skR (I 211 15).toNat (sSk (I 211 15).toNat (I 254) (I 255) (I 256) (I 735 2) 3 x2.toNat x3 x4 x5 p s) I') ∧ (∀ i : Nat, (i : Int) < x2 → I' 737 i = I 737 i)) := by
  have hW : fzs wz_7628e (fKc wz_7628e) := fKc_ok _
  refine f_meth (rb := rbJ) (J := [(24, (jc_Order_goOn_2e9e0_24 x2 x3 x4 x5 I))]) 9 400 xG xin_210 x6_210 okJ (fB_self h0) ?_ ?_
  · refine List.forall_mem_cons.mpr ⟨?_, fun q h => absurd h List.not_mem_nil⟩
    · rintro m _ _ I1 hB1 ⟨y2, y3, y4, y5, y6, rfl, rfl, ⟨hb, hx0, hx1⟩, hm⟩
      have k1 := fBz_eq hB1 (a := 211) (j := 15) (by decide +kernel)
      have k2 := fBz_eq hB1 (a := 735) (j := 2) (by decide +kernel)
      have b3 := fBd fb_211_15 (fBz h0 hB1)
      have ey2 : x2 = y2 := by omega
      subst ey2
      have ey3 : x3 = y3 := by omega
      subst ey3
      have ey4 : x4 = y4 := by omega
      subst ey4
      have ey5 : x5 = y5 := by omega
      subst ey5
      refine And.intro ⟨rfl, by decide, by decide⟩ (fgetf fb_211_15 h0 hB1 ?_)
      intro z4 lz4 uz4 qz4
      refine And.intro (And.intro (by first | exact fi_ hb.2.2.2.2.1.1 hb.2.2.2.2.1.2 rfl | omega) (by first | exact fi_ lz4 uz4 rfl | omega)) (And.intro ?_ ?_)
      · intro c5
        exact ⟨rfl, True.intro, (fun p s hp hs => by rw [sk_go (by omega)]; exact sk_end (hx0 p s hp hs) (by omega) (by omega)), hx1⟩
      · intro c6
        refine And.intro ⟨rfl, by decide, by decide⟩ (fgetf fb_735_3 h0 hB1 ?_)
        intro z7 lz7 uz7 qz7
        refine And.intro (by first | exact fi_ lz7 uz7 rfl | omega) (And.intro ?_ ?_)
        · intro c8
          exact ⟨rfl, True.intro, (fun p s hp hs => by rw [sk_go (by omega)]; exact sk_end (hx0 p s hp hs) (by omega) (by omega)), hx1⟩
        · intro c9
          intro z10 hz10 ez10
          intro z11 hz11 ez11 bz11
          have bz11 := bz11 (by omega)
          have wb := bt_of hz11 ez10 ez11 (by omega)
          refine And.intro (by first | exact fi_ bz11.1 bz11.2 rfl | omega) (And.intro ?_ ?_)
          · intro c12
            exact fcutJ (I := I1) (j := (jc_Order_goOn_2e9e0_24 x2 x3 x4 x5 I)) (lv' := [(0, .inr (.inr (some 735))), (1, .inr (.inr (some 211))), (2, .inl _), (3, .inl _), (4, .inl _), (5, .inl _), (6, .inl _)]) (And.intro rfl (And.intro rfl (And.intro rfl (And.intro rfl (And.intro rfl (And.intro rfl (And.intro rfl True.intro))))))) ⟨_, _, _, _, _, rfl, rfl, ⟨by omega, (fun p s hp hs => by first | exact nf_skR (go_no (hx0 p s hp hs) (fun q => by have q1 := q.1; omega)) (by omega) (by omega) | exact nf_skR (go_no (hx0 p s hp hs) (fun q => by have q2 := q.2; omega)) (by omega) (by omega) | exact nf_skR (go_spent (hx0 p s hp hs) (by omega) ⟨by omega, by omega⟩ (by omega) (by omega) enil0 enil0) (by omega) (by omega) | exact nf_skR (go_rec (hx0 p s hp hs) (by omega) ⟨by omega, by omega⟩ (g0nil0 (sUp p x2.toNat ((y6.toNat : Nat) : Int)) _ (path_up enil0 enil0 (fun i hi => (hx1 i hi).trans (hp i hi)) (by omega) rfl (by omega)) (go_in (hx0 p s hp hs) (by omega) enil0 enil0))) (by omega) (by omega)), (fun i hi => by first | exact (g1nil0 i (by omega)).trans ((fup_other enil0 737 i (Or.inr (by omega))).trans ((fup_other enil0 737 i (Or.inl (by decide))).trans (hx1 i hi))) | exact ((fup_other enil0 737 i (Or.inr (by omega))).trans ((fup_other enil0 737 i (Or.inl (by decide))).trans (hx1 i hi))) | exact hx1 i hi)⟩, rfl⟩ (by omega)
          · intro c13
            refine And.intro ⟨rfl, by decide, by decide⟩ ?_
            refine fload1 rL_256_256_0_6_1_0 h0 hB1 ⟨by decide, by decide⟩ (by first | exact ⟨hb.2.2.2.2.1.1, Int.le_trans (Int.le_sub_one_of_lt (Int.lt_of_lt_of_le c6 uz4)) (by decide)⟩ | omega) ?_
            intro z14 lz14 uz14 qz14
            intro z15 hz15 ez15
            intro z16 hz16 ez16 bz16
            clear bz16
            have wa := sAh_of hz16 ez15 ez16
            rw [qz14, fFr_at (fFr_of hB1) 256 (by decide +kernel) rfl] at wa
            refine And.intro (by omega) (And.intro ?_ ?_)
            · intro c17
              exact fcutJ (I := I1) (j := (jc_Order_goOn_2e9e0_24 x2 x3 x4 x5 I)) (lv' := [(0, .inr (.inr (some 735))), (1, .inr (.inr (some 211))), (2, .inl _), (3, .inl _), (4, .inl _), (5, .inl _), (6, .inl _)]) (And.intro rfl (And.intro rfl (And.intro rfl (And.intro rfl (And.intro rfl (And.intro rfl (And.intro rfl True.intro))))))) ⟨_, _, _, _, _, rfl, rfl, ⟨by omega, (fun p s hp hs => by first | exact nf_skR (go_no (hx0 p s hp hs) (fun q => by have q1 := q.1; omega)) (by omega) (by omega) | exact nf_skR (go_no (hx0 p s hp hs) (fun q => by have q2 := q.2; omega)) (by omega) (by omega) | exact nf_skR (go_spent (hx0 p s hp hs) (by omega) ⟨by omega, by omega⟩ (by omega) (by omega) enil0 enil0) (by omega) (by omega) | exact nf_skR (go_rec (hx0 p s hp hs) (by omega) ⟨by omega, by omega⟩ (g0nil0 (sUp p x2.toNat ((y6.toNat : Nat) : Int)) _ (path_up enil0 enil0 (fun i hi => (hx1 i hi).trans (hp i hi)) (by omega) rfl (by omega)) (go_in (hx0 p s hp hs) (by omega) enil0 enil0))) (by omega) (by omega)), (fun i hi => by first | exact (g1nil0 i (by omega)).trans ((fup_other enil0 737 i (Or.inr (by omega))).trans ((fup_other enil0 737 i (Or.inl (by decide))).trans (hx1 i hi))) | exact ((fup_other enil0 737 i (Or.inr (by omega))).trans ((fup_other enil0 737 i (Or.inl (by decide))).trans (hx1 i hi))) | exact hx1 i hi)⟩, rfl⟩ (by omega)
            · intro c18
              refine And.intro ⟨rfl, by decide, by decide⟩ (fgetf fb_735_3 h0 hB1 ?_)
              intro z19 lz19 uz19 qz19
              refine And.intro ⟨rfl, by decide, by decide⟩ (And.intro rfl (And.intro (Or.inl rfl) (fputf fb_735_3 (by decide +kernel) hW (by omega) ?_)))
              intro IhB20 ehB20 hB20
              have t21 : IhB20 211 15 = I1 211 15 := (congrFun (congrFun ehB20 211) 15).trans (fup_ne (by first | decide | omega))
              have t22 := fup_at ehB20 3 (by first | rfl | omega)
              have k23 := fBz_eq hB20 (a := 211) (j := 15) (by decide +kernel)
              have k24 := fBz_eq hB20 (a := 735) (j := 2) (by decide +kernel)
              refine And.intro ⟨rfl, by decide, by decide⟩ ?_
              refine fstore1 rS_737_737_0_6_1_0 (fzs_sub (by decide +kernel) hW) ⟨by decide, by decide⟩ (by first | exact ⟨Int.le_trans (by decide) hb.1.1, Int.le_trans hb.1.2 (by decide)⟩ | omega) (by first | exact ⟨hb.2.2.2.2.1.1, Int.le_trans (Int.le_sub_one_of_lt (Int.lt_of_lt_of_le c6 uz4)) (by decide)⟩ | omega) ?_
              intro IhB25 ehB25 hB25
              have t26 := fup_self ehB25
              have t27 : IhB25 211 15 = IhB20 211 15 := (congrFun (congrFun ehB25 211) 15).trans (fup_ne (by first | decide | omega))
              have t28 : IhB25 735 3 = IhB20 735 3 := (congrFun (congrFun ehB25 735) 3).trans (fup_ne (by first | decide | omega))
              have t29 := fup_at ehB25 4 (by first | rfl | omega)
              have k30 := fBz_eq hB25 (a := 211) (j := 15) (by decide +kernel)
              have k31 := fBz_eq hB25 (a := 735) (j := 2) (by decide +kernel)
              refine And.intro ⟨rfl, by decide, by decide⟩ ?_
              refine fload1 rL_254_254_0_6_1_0 h0 hB25 ⟨by decide, by decide⟩ (by first | exact ⟨hb.2.2.2.2.1.1, Int.le_trans (Int.le_sub_one_of_lt (Int.lt_of_lt_of_le c6 uz4)) (by decide)⟩ | omega) ?_
              intro z32 lz32 uz32 qz32
              have w89 := qz32.trans ((fun j => (fup_other ehB25 254 j (Or.inl (by decide))).trans ((fup_other ehB20 254 j (Or.inl (by decide))).trans (fFr_at (fFr_of hB1) 254 (by decide +kernel) rfl j))) _)
              intro z33 hz33 ez33 bz33
              have bz33 := bz33 (by omega)
              refine And.intro ⟨rfl, by decide, by decide⟩ ?_
              refine fload1 rL_255_255_0_6_1_0 h0 hB25 ⟨by decide, by decide⟩ (by first | exact ⟨hb.2.2.2.2.1.1, Int.le_trans (Int.le_sub_one_of_lt (Int.lt_of_lt_of_le c6 uz4)) (by decide)⟩ | omega) ?_
              intro z34 lz34 uz34 qz34
              have w99 := qz34.trans ((fun j => (fup_other ehB25 255 j (Or.inl (by decide))).trans ((fup_other ehB20 255 j (Or.inl (by decide))).trans (fFr_at (fFr_of hB1) 255 (by decide +kernel) rfl j))) _)
              refine And.intro ⟨rfl, by decide, by decide⟩ (fgetf fb_735_2 h0 hB25 ?_)
              intro z35 lz35 uz35 qz35
              intro z36 hz36 ez36 bz36
              try replace bz36 := bz36 (by omega)
              refine And.intro (And.intro (by first | exact ⟨by decide, by decide⟩ | omega) (And.intro (by omega) rfl)) ?_
              intro z37 hz37
              intro z38 hz38 ez38 bz38
              try replace bz38 := bz38 (by omega)
              have w110 := mul_bd (a := z34) (b := z37) (by omega) (by omega)
              have w111 := bz38 (by omega)
              refine And.intro ⟨rfl, by decide, by decide⟩ (fgetf fb_735_3 h0 hB25 ?_)
              intro z39 lz39 uz39 qz39
              refine And.intro (by first | exact fi_ lz39 uz39 rfl | omega) (And.intro ?_ ?_)
              · intro c40
                exact fcutJ (I := IhB25) (j := (jc_Order_goOn_2e9e0_24 x2 x3 x4 x5 I)) (lv' := [(0, .inr (.inr (some 735))), (1, .inr (.inr (some 211))), (2, .inl _), (3, .inl _), (4, .inl _), (5, .inl _), (6, .inl _)]) (And.intro rfl (And.intro rfl (And.intro rfl (And.intro rfl (And.intro rfl (And.intro rfl (And.intro rfl True.intro))))))) ⟨_, _, _, _, _, rfl, rfl, ⟨by omega, (fun p s hp hs => by first | exact nf_skR (go_no (hx0 p s hp hs) (fun q => by have q1 := q.1; omega)) (by omega) (by omega) | exact nf_skR (go_no (hx0 p s hp hs) (fun q => by have q2 := q.2; omega)) (by omega) (by omega) | exact nf_skR (go_spent (hx0 p s hp hs) (by omega) ⟨by omega, by omega⟩ (by omega) (by omega) ehB20 ehB25) (by omega) (by omega) | exact nf_skR (go_rec (hx0 p s hp hs) (by omega) ⟨by omega, by omega⟩ (g0nil0 (sUp p x2.toNat ((y6.toNat : Nat) : Int)) _ (path_up ehB20 ehB25 (fun i hi => (hx1 i hi).trans (hp i hi)) (by omega) rfl (by omega)) (go_in (hx0 p s hp hs) (by omega) ehB20 ehB25))) (by omega) (by omega)), (fun i hi => by first | exact (g1nil0 i (by omega)).trans ((fup_other ehB25 737 i (Or.inr (by omega))).trans ((fup_other ehB20 737 i (Or.inl (by decide))).trans (hx1 i hi))) | exact ((fup_other ehB25 737 i (Or.inr (by omega))).trans ((fup_other ehB20 737 i (Or.inl (by decide))).trans (hx1 i hi))) | exact hx1 i hi)⟩, rfl⟩ (by omega)
              · intro c41
                intro z42 hz42 ez42
                intro z43 hz43 ez43
                intro z44 hz44 ez44 bz44
                try replace bz44 := bz44 (by omega)
                refine Exists.intro xm_209 (And.intro mi_209 (And.intro ⟨rfl, rfl, rfl, rfl⟩ (And.intro rfl ?_)))
                refine fcall _ h0 (fzs_sub (by decide +kernel) hW) hB25 (ct_Order_goOn_341c6 (fBz h0 hB25) (by omega) (by omega) (by omega) (by omega) (by omega) (by omega)) ?_
                rintro IhB46 _ hB46 fhB46 ⟨rfl, hz45, g0z45, g1z45⟩
                have t47 := fhB46 211 15 (by decide +kernel)
                have k48 := fBz_eq hB46 (a := 211) (j := 15) (by decide +kernel)
                have k49 := fBz_eq hB46 (a := 735) (j := 2) (by decide +kernel)
                have w254 : IhB25 254 = I 254 := funext (fun j => (fup_other ehB25 254 j (Or.inl (by decide))).trans ((fup_other ehB20 254 j (Or.inl (by decide))).trans (fFr_at (fFr_of hB1) 254 (by decide +kernel) rfl j)))
                have w255 : IhB25 255 = I 255 := funext (fun j => (fup_other ehB25 255 j (Or.inl (by decide))).trans ((fup_other ehB20 255 j (Or.inl (by decide))).trans (fFr_at (fFr_of hB1) 255 (by decide +kernel) rfl j)))
                have w256 : IhB25 256 = I 256 := funext (fun j => (fup_other ehB25 256 j (Or.inl (by decide))).trans ((fup_other ehB20 256 j (Or.inl (by decide))).trans (fFr_at (fFr_of hB1) 256 (by decide +kernel) rfl j)))
                have wN : IhB25 211 15 = I 211 15 := fBz_eq hB25 (by decide +kernel)
                have wS : IhB25 735 2 = I 735 2 := fBz_eq hB25 (by decide +kernel)
                have wd := sDn_of hz43 (by omega) ez42 ez43
                have we : z33 = x4 + I 254 y6.toNat := by omega
                have ws : z44 = x5 + sMo (I 735 2) (x4 + I 254 y6.toNat) (I 255 y6.toNat) := by have q := mo_of (span := I 735 2) (e := x4 + I 254 y6.toNat) w111 (by omega); rw [w99] at q; omega
                rw [w254, w255, w256, wN, wS, wd, we, ws, show (x2 + ((1 : Nat) : Int)).toNat = x2.toNat + 1 by omega] at g0z45
                exact fcutJ (I := IhB46) (j := (jc_Order_goOn_2e9e0_24 x2 x3 x4 x5 I)) (lv' := [(0, .inr (.inr (some 735))), (1, .inr (.inr (some 211))), (2, .inl _), (3, .inl _), (4, .inl _), (5, .inl _), (6, .inl _)]) (And.intro rfl (And.intro rfl (And.intro rfl (And.intro rfl (And.intro rfl (And.intro rfl (And.intro rfl True.intro))))))) ⟨_, _, _, _, _, rfl, rfl, ⟨by omega, (fun p s hp hs => by first | exact nf_skR (go_no (hx0 p s hp hs) (fun q => by have q1 := q.1; omega)) (by omega) (by omega) | exact nf_skR (go_no (hx0 p s hp hs) (fun q => by have q2 := q.2; omega)) (by omega) (by omega) | exact nf_skR (go_spent (hx0 p s hp hs) (by omega) ⟨by omega, by omega⟩ (by omega) (by omega) ehB20 ehB25) (by omega) (by omega) | exact nf_skR (go_rec (hx0 p s hp hs) (by omega) ⟨by omega, by omega⟩ (g0z45 (sUp p x2.toNat ((y6.toNat : Nat) : Int)) _ (path_up ehB20 ehB25 (fun i hi => (hx1 i hi).trans (hp i hi)) (by omega) rfl (by omega)) (go_in (hx0 p s hp hs) (by omega) ehB20 ehB25))) (by omega) (by omega)), (fun i hi => by first | exact (g1z45 i (by omega)).trans ((fup_other ehB25 737 i (Or.inr (by omega))).trans ((fup_other ehB20 737 i (Or.inl (by decide))).trans (hx1 i hi))) | exact ((fup_other ehB25 737 i (Or.inr (by omega))).trans ((fup_other ehB20 737 i (Or.inl (by decide))).trans (hx1 i hi))) | exact hx1 i hi)⟩, rfl⟩ (by omega)
  · have hB0 := fB_self (zn := znJ) (K := fKc wz_7628e) h0
    have b50 := fBd fb_211_15 (fBz h0 hB0)
    refine And.intro ⟨rfl, by decide, by decide⟩ (fgetf fb_211_15 h0 hB0 ?_)
    intro z51 lz51 uz51 qz51
    refine And.intro (And.intro (by first | exact fi_ ha2.1 ha2.2 rfl | omega) (by first | exact fi_ lz51 uz51 rfl | omega)) (And.intro ?_ ?_)
    · intro c52
      refine Exists.intro xm_215 (And.intro mi_215 (And.intro ⟨rfl, rfl, rfl, rfl⟩ (And.intro rfl ?_)))
      refine fcall _ h0 (fzs_sub (by decide +kernel) hW) hB0 (ct_Order_take_e8cff (fBz h0 hB0) (by first | exact ⟨ha5.1, ha5.2⟩ | omega)) ?_
      rintro IhB54 _ hB54 fhB54 ⟨rfl, hz53, g0z53⟩
      have t55 := fhB54 211 15 (by decide +kernel)
      have k56 := fBz_eq hB54 (a := 211) (j := 15) (by decide +kernel)
      have k57 := fBz_eq hB54 (a := 735) (j := 2) (by decide +kernel)
      exact ⟨rfl, True.intro, (fun p s hp hs => by rw [sk_tk (by omega)]; exact g0z53 p s (fun i hi => hp i (by omega)) hs), (fun i _ => fFr_at fhB54 737 (by decide +kernel) rfl i)⟩
    · intro c58
      refine And.intro (And.intro (by first | exact fi_ ha2.1 ha2.2 rfl | omega) (by first | exact ⟨by decide, by decide⟩ | omega)) (And.intro ?_ ?_)
      · intro c59
        exact fcutJ (I := I) (j := (jc_Order_goOn_2e9e0_24 x2 x3 x4 x5 I)) (lv' := [(0, .inr (.inr (some 735))), (1, .inr (.inr (some 211))), (2, .inl _), (3, .inl _), (4, .inl _), (5, .inl _), (6, .inl _)]) (And.intro rfl (And.intro rfl (And.intro rfl (And.intro rfl (And.intro rfl (And.intro rfl (And.intro rfl True.intro))))))) ⟨_, _, _, _, _, rfl, rfl, ⟨by omega, (fun p s hp hs => hs), (fun i _ => rfl)⟩, rfl⟩ (by omega)
      · intro c60
        refine Exists.intro xm_215 (And.intro mi_215 (And.intro ⟨rfl, rfl, rfl, rfl⟩ (And.intro rfl ?_)))
        refine fcall _ h0 (fzs_sub (by decide +kernel) hW) hB0 (ct_Order_take_e8cff (fBz h0 hB0) (by first | exact ⟨ha5.1, ha5.2⟩ | omega)) ?_
        rintro IhB62 _ hB62 fhB62 ⟨rfl, hz61, g0z61⟩
        have t63 := fhB62 211 15 (by decide +kernel)
        have k64 := fBz_eq hB62 (a := 211) (j := 15) (by decide +kernel)
        have k65 := fBz_eq hB62 (a := 735) (j := 2) (by decide +kernel)
        exact ⟨rfl, True.intro, (fun p s hp hs => by rw [sk_tk (by omega)]; exact g0z61 p s (fun i hi => hp i (by omega)) hs), (fun i _ => fFr_at fhB62 737 (by decide +kernel) rfl i)⟩
abbrev jc_Order_goOn_6df0d_24 (x2 : Int) (x3 : Int) (x4 : Int) (x5 : Int) (I0 : fH) : Nat → fL → List fV → fH → Prop := fun m lv st I => ∃ (y2 : Int) (y3 : Int) (y4 : Int) (y5 : Int) (y6 : Int), lv = [(0, .inr (.inr (some 735))), (1, .inr (.inr (some 211))), (2, .inl y2), (3, .inl y3), (4, .inl y4), (5, .inl y5), (6, .inl y6)] ∧ st = [] ∧ (((3 ≤ y2 ∧ y2 ≤ 3) ∧ ((-2147483648) ≤ y3 ∧ y3 ≤ 2147483647) ∧ (0 ≤ y4 ∧ y4 ≤ 27) ∧ ((-2147483648) ≤ y5 ∧ y5 ≤ 2147483647) ∧ (0 ≤ y6 ∧ y6 ≤ 7) ∧ (4 ≤ I 211 15 ∧ I 211 15 ≤ 7) ∧ (y2 = x2) ∧ (y3 = x3) ∧ (y4 = x4) ∧ (y5 = x5) ∧ (x2 < I0 211 15) ∧ (y6 ≤ I0 211 15)) ∧ (∀ (p : Nat → Int) (s : sSt), (∀ i : Nat, (i : Int) < x2 → I0 737 i = p i) → skR (I0 211 15).toNat s I0 → skR (I0 211 15).toNat (nf (sGo (I0 254) (I0 255) (I0 256) (I0 735 2) (sSk (I0 211 15).toNat (I0 254) (I0 255) (I0 256) (I0 735 2) 3) x2.toNat x3 x4 x5 p) s y6.toNat) I) ∧ (∀ i : Nat, (i : Int) < x2 → I 737 i = I0 737 i)) ∧ m = (1 + 1 * (7 - y6) : Int).toNat
set_option maxRecDepth 8000 in
theorem ct_Order_goOn_6df0d {I : fH} {x2 : Int} {x3 : Int} {x4 : Int} {x5 : Int} (h0 : fB bsJ I) (ha2 : (3 ≤ x2 ∧ x2 ≤ 3)) (ha3 : ((-2147483648) ≤ x3 ∧ x3 ≤ 2147483647)) (ha4 : (0 ≤ x4 ∧ x4 ≤ 27)) (ha5 : ((-2147483648) ≤ x5 ∧ x5 ≤ 2147483647)) (hp0 : 0 ≤ x5 ∧ x5 ≤ 5940 * x2) (hp1 : 0 ≤ I 735 2 ∧ I 735 2 ≤ 60) : fC ρ base n F xTc vwCl xTys D dA la gJ (fbz bsJ znJ (fKc wz_7628e) I) xm_211 [.inr (.inr (some 735)), .inr (.inr (some 211)), .inl x2, .inl x3, .inl x4, .inl x5] I (fun I' r => r = none ∧ True ∧ (∀ (p : Nat → Int) (s : sSt), (∀ i : Nat, (i : Int) < x2 → I 737 i = p i) → skR (I 211 15).toNat s I → skR (I 211 15).toNat (sSk (I 211 15).toNat (I 254) (I 255) (I 256) (I 735 2) 4 x2.toNat x3 x4 x5 p s) I') ∧ (∀ i : Nat, (i : Int) < x2 → I' 737 i = I 737 i)) := by
  have hW : fzs wz_7628e (fKc wz_7628e) := fKc_ok _
  refine f_meth (rb := rbJ) (J := [(24, (jc_Order_goOn_6df0d_24 x2 x3 x4 x5 I))]) 9 400 xG xin_211 x6_211 okJ (fB_self h0) ?_ ?_
  · refine List.forall_mem_cons.mpr ⟨?_, fun q h => absurd h List.not_mem_nil⟩
    · rintro m _ _ I1 hB1 ⟨y2, y3, y4, y5, y6, rfl, rfl, ⟨hb, hx0, hx1⟩, hm⟩
      have k1 := fBz_eq hB1 (a := 211) (j := 15) (by decide +kernel)
      have k2 := fBz_eq hB1 (a := 735) (j := 2) (by decide +kernel)
      have b3 := fBd fb_211_15 (fBz h0 hB1)
      have ey2 : x2 = y2 := by omega
      subst ey2
      have ey3 : x3 = y3 := by omega
      subst ey3
      have ey4 : x4 = y4 := by omega
      subst ey4
      have ey5 : x5 = y5 := by omega
      subst ey5
      refine And.intro ⟨rfl, by decide, by decide⟩ (fgetf fb_211_15 h0 hB1 ?_)
      intro z4 lz4 uz4 qz4
      refine And.intro (And.intro (by first | exact fi_ hb.2.2.2.2.1.1 hb.2.2.2.2.1.2 rfl | omega) (by first | exact fi_ lz4 uz4 rfl | omega)) (And.intro ?_ ?_)
      · intro c5
        exact ⟨rfl, True.intro, (fun p s hp hs => by rw [sk_go (by omega)]; exact sk_end (hx0 p s hp hs) (by omega) (by omega)), hx1⟩
      · intro c6
        refine And.intro ⟨rfl, by decide, by decide⟩ (fgetf fb_735_3 h0 hB1 ?_)
        intro z7 lz7 uz7 qz7
        refine And.intro (by first | exact fi_ lz7 uz7 rfl | omega) (And.intro ?_ ?_)
        · intro c8
          exact ⟨rfl, True.intro, (fun p s hp hs => by rw [sk_go (by omega)]; exact sk_end (hx0 p s hp hs) (by omega) (by omega)), hx1⟩
        · intro c9
          intro z10 hz10 ez10
          intro z11 hz11 ez11 bz11
          have bz11 := bz11 (by omega)
          have wb := bt_of hz11 ez10 ez11 (by omega)
          refine And.intro (by first | exact fi_ bz11.1 bz11.2 rfl | omega) (And.intro ?_ ?_)
          · intro c12
            exact fcutJ (I := I1) (j := (jc_Order_goOn_6df0d_24 x2 x3 x4 x5 I)) (lv' := [(0, .inr (.inr (some 735))), (1, .inr (.inr (some 211))), (2, .inl _), (3, .inl _), (4, .inl _), (5, .inl _), (6, .inl _)]) (And.intro rfl (And.intro rfl (And.intro rfl (And.intro rfl (And.intro rfl (And.intro rfl (And.intro rfl True.intro))))))) ⟨_, _, _, _, _, rfl, rfl, ⟨by omega, (fun p s hp hs => by first | exact nf_skR (go_no (hx0 p s hp hs) (fun q => by have q1 := q.1; omega)) (by omega) (by omega) | exact nf_skR (go_no (hx0 p s hp hs) (fun q => by have q2 := q.2; omega)) (by omega) (by omega) | exact nf_skR (go_spent (hx0 p s hp hs) (by omega) ⟨by omega, by omega⟩ (by omega) (by omega) enil0 enil0) (by omega) (by omega) | exact nf_skR (go_rec (hx0 p s hp hs) (by omega) ⟨by omega, by omega⟩ (g0nil0 (sUp p x2.toNat ((y6.toNat : Nat) : Int)) _ (path_up enil0 enil0 (fun i hi => (hx1 i hi).trans (hp i hi)) (by omega) rfl (by omega)) (go_in (hx0 p s hp hs) (by omega) enil0 enil0))) (by omega) (by omega)), (fun i hi => by first | exact (g1nil0 i (by omega)).trans ((fup_other enil0 737 i (Or.inr (by omega))).trans ((fup_other enil0 737 i (Or.inl (by decide))).trans (hx1 i hi))) | exact ((fup_other enil0 737 i (Or.inr (by omega))).trans ((fup_other enil0 737 i (Or.inl (by decide))).trans (hx1 i hi))) | exact hx1 i hi)⟩, rfl⟩ (by omega)
          · intro c13
            refine And.intro ⟨rfl, by decide, by decide⟩ ?_
            refine fload1 rL_256_256_0_6_1_0 h0 hB1 ⟨by decide, by decide⟩ (by first | exact ⟨hb.2.2.2.2.1.1, Int.le_trans (Int.le_sub_one_of_lt (Int.lt_of_lt_of_le c6 uz4)) (by decide)⟩ | omega) ?_
            intro z14 lz14 uz14 qz14
            intro z15 hz15 ez15
            intro z16 hz16 ez16 bz16
            clear bz16
            have wa := sAh_of hz16 ez15 ez16
            rw [qz14, fFr_at (fFr_of hB1) 256 (by decide +kernel) rfl] at wa
            refine And.intro (by omega) (And.intro ?_ ?_)
            · intro c17
              exact fcutJ (I := I1) (j := (jc_Order_goOn_6df0d_24 x2 x3 x4 x5 I)) (lv' := [(0, .inr (.inr (some 735))), (1, .inr (.inr (some 211))), (2, .inl _), (3, .inl _), (4, .inl _), (5, .inl _), (6, .inl _)]) (And.intro rfl (And.intro rfl (And.intro rfl (And.intro rfl (And.intro rfl (And.intro rfl (And.intro rfl True.intro))))))) ⟨_, _, _, _, _, rfl, rfl, ⟨by omega, (fun p s hp hs => by first | exact nf_skR (go_no (hx0 p s hp hs) (fun q => by have q1 := q.1; omega)) (by omega) (by omega) | exact nf_skR (go_no (hx0 p s hp hs) (fun q => by have q2 := q.2; omega)) (by omega) (by omega) | exact nf_skR (go_spent (hx0 p s hp hs) (by omega) ⟨by omega, by omega⟩ (by omega) (by omega) enil0 enil0) (by omega) (by omega) | exact nf_skR (go_rec (hx0 p s hp hs) (by omega) ⟨by omega, by omega⟩ (g0nil0 (sUp p x2.toNat ((y6.toNat : Nat) : Int)) _ (path_up enil0 enil0 (fun i hi => (hx1 i hi).trans (hp i hi)) (by omega) rfl (by omega)) (go_in (hx0 p s hp hs) (by omega) enil0 enil0))) (by omega) (by omega)), (fun i hi => by first | exact (g1nil0 i (by omega)).trans ((fup_other enil0 737 i (Or.inr (by omega))).trans ((fup_other enil0 737 i (Or.inl (by decide))).trans (hx1 i hi))) | exact ((fup_other enil0 737 i (Or.inr (by omega))).trans ((fup_other enil0 737 i (Or.inl (by decide))).trans (hx1 i hi))) | exact hx1 i hi)⟩, rfl⟩ (by omega)
            · intro c18
              refine And.intro ⟨rfl, by decide, by decide⟩ (fgetf fb_735_3 h0 hB1 ?_)
              intro z19 lz19 uz19 qz19
              refine And.intro ⟨rfl, by decide, by decide⟩ (And.intro rfl (And.intro (Or.inl rfl) (fputf fb_735_3 (by decide +kernel) hW (by omega) ?_)))
              intro IhB20 ehB20 hB20
              have t21 : IhB20 211 15 = I1 211 15 := (congrFun (congrFun ehB20 211) 15).trans (fup_ne (by first | decide | omega))
              have t22 := fup_at ehB20 3 (by first | rfl | omega)
              have k23 := fBz_eq hB20 (a := 211) (j := 15) (by decide +kernel)
              have k24 := fBz_eq hB20 (a := 735) (j := 2) (by decide +kernel)
              refine And.intro ⟨rfl, by decide, by decide⟩ ?_
              refine fstore1 rS_737_737_0_6_1_0 (fzs_sub (by decide +kernel) hW) ⟨by decide, by decide⟩ (by first | exact ⟨Int.le_trans (by decide) hb.1.1, Int.le_trans hb.1.2 (by decide)⟩ | omega) (by first | exact ⟨hb.2.2.2.2.1.1, Int.le_trans (Int.le_sub_one_of_lt (Int.lt_of_lt_of_le c6 uz4)) (by decide)⟩ | omega) ?_
              intro IhB25 ehB25 hB25
              have t26 := fup_self ehB25
              have t27 : IhB25 211 15 = IhB20 211 15 := (congrFun (congrFun ehB25 211) 15).trans (fup_ne (by first | decide | omega))
              have t28 : IhB25 735 3 = IhB20 735 3 := (congrFun (congrFun ehB25 735) 3).trans (fup_ne (by first | decide | omega))
              have t29 := fup_at ehB25 3 (by first | rfl | omega)
              have k30 := fBz_eq hB25 (a := 211) (j := 15) (by decide +kernel)
              have k31 := fBz_eq hB25 (a := 735) (j := 2) (by decide +kernel)
              refine And.intro ⟨rfl, by decide, by decide⟩ ?_
              refine fload1 rL_254_254_0_6_1_0 h0 hB25 ⟨by decide, by decide⟩ (by first | exact ⟨hb.2.2.2.2.1.1, Int.le_trans (Int.le_sub_one_of_lt (Int.lt_of_lt_of_le c6 uz4)) (by decide)⟩ | omega) ?_
              intro z32 lz32 uz32 qz32
              have w89 := qz32.trans ((fun j => (fup_other ehB25 254 j (Or.inl (by decide))).trans ((fup_other ehB20 254 j (Or.inl (by decide))).trans (fFr_at (fFr_of hB1) 254 (by decide +kernel) rfl j))) _)
              intro z33 hz33 ez33 bz33
              have bz33 := bz33 (by omega)
              refine And.intro ⟨rfl, by decide, by decide⟩ ?_
              refine fload1 rL_255_255_0_6_1_0 h0 hB25 ⟨by decide, by decide⟩ (by first | exact ⟨hb.2.2.2.2.1.1, Int.le_trans (Int.le_sub_one_of_lt (Int.lt_of_lt_of_le c6 uz4)) (by decide)⟩ | omega) ?_
              intro z34 lz34 uz34 qz34
              have w99 := qz34.trans ((fun j => (fup_other ehB25 255 j (Or.inl (by decide))).trans ((fup_other ehB20 255 j (Or.inl (by decide))).trans (fFr_at (fFr_of hB1) 255 (by decide +kernel) rfl j))) _)
              refine And.intro ⟨rfl, by decide, by decide⟩ (fgetf fb_735_2 h0 hB25 ?_)
              intro z35 lz35 uz35 qz35
              intro z36 hz36 ez36 bz36
              try replace bz36 := bz36 (by omega)
              refine And.intro (And.intro (by first | exact ⟨by decide, by decide⟩ | omega) (And.intro (by omega) rfl)) ?_
              intro z37 hz37
              intro z38 hz38 ez38 bz38
              try replace bz38 := bz38 (by omega)
              have w110 := mul_bd (a := z34) (b := z37) (by omega) (by omega)
              have w111 := bz38 (by omega)
              refine And.intro ⟨rfl, by decide, by decide⟩ (fgetf fb_735_3 h0 hB25 ?_)
              intro z39 lz39 uz39 qz39
              refine And.intro (by first | exact fi_ lz39 uz39 rfl | omega) (And.intro ?_ ?_)
              · intro c40
                exact fcutJ (I := IhB25) (j := (jc_Order_goOn_6df0d_24 x2 x3 x4 x5 I)) (lv' := [(0, .inr (.inr (some 735))), (1, .inr (.inr (some 211))), (2, .inl _), (3, .inl _), (4, .inl _), (5, .inl _), (6, .inl _)]) (And.intro rfl (And.intro rfl (And.intro rfl (And.intro rfl (And.intro rfl (And.intro rfl (And.intro rfl True.intro))))))) ⟨_, _, _, _, _, rfl, rfl, ⟨by omega, (fun p s hp hs => by first | exact nf_skR (go_no (hx0 p s hp hs) (fun q => by have q1 := q.1; omega)) (by omega) (by omega) | exact nf_skR (go_no (hx0 p s hp hs) (fun q => by have q2 := q.2; omega)) (by omega) (by omega) | exact nf_skR (go_spent (hx0 p s hp hs) (by omega) ⟨by omega, by omega⟩ (by omega) (by omega) ehB20 ehB25) (by omega) (by omega) | exact nf_skR (go_rec (hx0 p s hp hs) (by omega) ⟨by omega, by omega⟩ (g0nil0 (sUp p x2.toNat ((y6.toNat : Nat) : Int)) _ (path_up ehB20 ehB25 (fun i hi => (hx1 i hi).trans (hp i hi)) (by omega) rfl (by omega)) (go_in (hx0 p s hp hs) (by omega) ehB20 ehB25))) (by omega) (by omega)), (fun i hi => by first | exact (g1nil0 i (by omega)).trans ((fup_other ehB25 737 i (Or.inr (by omega))).trans ((fup_other ehB20 737 i (Or.inl (by decide))).trans (hx1 i hi))) | exact ((fup_other ehB25 737 i (Or.inr (by omega))).trans ((fup_other ehB20 737 i (Or.inl (by decide))).trans (hx1 i hi))) | exact hx1 i hi)⟩, rfl⟩ (by omega)
              · intro c41
                intro z42 hz42 ez42
                intro z43 hz43 ez43
                intro z44 hz44 ez44 bz44
                try replace bz44 := bz44 (by omega)
                refine Exists.intro xm_210 (And.intro mi_210 (And.intro ⟨rfl, rfl, rfl, rfl⟩ (And.intro rfl ?_)))
                refine fcall _ h0 (fzs_sub (by decide +kernel) hW) hB25 (ct_Order_goOn_2e9e0 (fBz h0 hB25) (by omega) (by omega) (by omega) (by omega) (by omega) (by omega)) ?_
                rintro IhB46 _ hB46 fhB46 ⟨rfl, hz45, g0z45, g1z45⟩
                have t47 := fhB46 211 15 (by decide +kernel)
                have k48 := fBz_eq hB46 (a := 211) (j := 15) (by decide +kernel)
                have k49 := fBz_eq hB46 (a := 735) (j := 2) (by decide +kernel)
                have w254 : IhB25 254 = I 254 := funext (fun j => (fup_other ehB25 254 j (Or.inl (by decide))).trans ((fup_other ehB20 254 j (Or.inl (by decide))).trans (fFr_at (fFr_of hB1) 254 (by decide +kernel) rfl j)))
                have w255 : IhB25 255 = I 255 := funext (fun j => (fup_other ehB25 255 j (Or.inl (by decide))).trans ((fup_other ehB20 255 j (Or.inl (by decide))).trans (fFr_at (fFr_of hB1) 255 (by decide +kernel) rfl j)))
                have w256 : IhB25 256 = I 256 := funext (fun j => (fup_other ehB25 256 j (Or.inl (by decide))).trans ((fup_other ehB20 256 j (Or.inl (by decide))).trans (fFr_at (fFr_of hB1) 256 (by decide +kernel) rfl j)))
                have wN : IhB25 211 15 = I 211 15 := fBz_eq hB25 (by decide +kernel)
                have wS : IhB25 735 2 = I 735 2 := fBz_eq hB25 (by decide +kernel)
                have wd := sDn_of hz43 (by omega) ez42 ez43
                have we : z33 = x4 + I 254 y6.toNat := by omega
                have ws : z44 = x5 + sMo (I 735 2) (x4 + I 254 y6.toNat) (I 255 y6.toNat) := by have q := mo_of (span := I 735 2) (e := x4 + I 254 y6.toNat) w111 (by omega); rw [w99] at q; omega
                rw [w254, w255, w256, wN, wS, wd, we, ws, show (x2 + ((1 : Nat) : Int)).toNat = x2.toNat + 1 by omega] at g0z45
                exact fcutJ (I := IhB46) (j := (jc_Order_goOn_6df0d_24 x2 x3 x4 x5 I)) (lv' := [(0, .inr (.inr (some 735))), (1, .inr (.inr (some 211))), (2, .inl _), (3, .inl _), (4, .inl _), (5, .inl _), (6, .inl _)]) (And.intro rfl (And.intro rfl (And.intro rfl (And.intro rfl (And.intro rfl (And.intro rfl (And.intro rfl True.intro))))))) ⟨_, _, _, _, _, rfl, rfl, ⟨by omega, (fun p s hp hs => by first | exact nf_skR (go_no (hx0 p s hp hs) (fun q => by have q1 := q.1; omega)) (by omega) (by omega) | exact nf_skR (go_no (hx0 p s hp hs) (fun q => by have q2 := q.2; omega)) (by omega) (by omega) | exact nf_skR (go_spent (hx0 p s hp hs) (by omega) ⟨by omega, by omega⟩ (by omega) (by omega) ehB20 ehB25) (by omega) (by omega) | exact nf_skR (go_rec (hx0 p s hp hs) (by omega) ⟨by omega, by omega⟩ (g0z45 (sUp p x2.toNat ((y6.toNat : Nat) : Int)) _ (path_up ehB20 ehB25 (fun i hi => (hx1 i hi).trans (hp i hi)) (by omega) rfl (by omega)) (go_in (hx0 p s hp hs) (by omega) ehB20 ehB25))) (by omega) (by omega)), (fun i hi => by first | exact (g1z45 i (by omega)).trans ((fup_other ehB25 737 i (Or.inr (by omega))).trans ((fup_other ehB20 737 i (Or.inl (by decide))).trans (hx1 i hi))) | exact ((fup_other ehB25 737 i (Or.inr (by omega))).trans ((fup_other ehB20 737 i (Or.inl (by decide))).trans (hx1 i hi))) | exact hx1 i hi)⟩, rfl⟩ (by omega)
  · have hB0 := fB_self (zn := znJ) (K := fKc wz_7628e) h0
    have b50 := fBd fb_211_15 (fBz h0 hB0)
    refine And.intro ⟨rfl, by decide, by decide⟩ (fgetf fb_211_15 h0 hB0 ?_)
    intro z51 lz51 uz51 qz51
    refine And.intro (And.intro (by first | exact fi_ ha2.1 ha2.2 rfl | omega) (by first | exact fi_ lz51 uz51 rfl | omega)) (And.intro ?_ ?_)
    · intro c52
      refine Exists.intro xm_215 (And.intro mi_215 (And.intro ⟨rfl, rfl, rfl, rfl⟩ (And.intro rfl ?_)))
      refine fcall _ h0 (fzs_sub (by decide +kernel) hW) hB0 (ct_Order_take_e8cff (fBz h0 hB0) (by first | exact ⟨ha5.1, ha5.2⟩ | omega)) ?_
      rintro IhB54 _ hB54 fhB54 ⟨rfl, hz53, g0z53⟩
      have t55 := fhB54 211 15 (by decide +kernel)
      have k56 := fBz_eq hB54 (a := 211) (j := 15) (by decide +kernel)
      have k57 := fBz_eq hB54 (a := 735) (j := 2) (by decide +kernel)
      exact ⟨rfl, True.intro, (fun p s hp hs => by rw [sk_tk (by omega)]; exact g0z53 p s (fun i hi => hp i (by omega)) hs), (fun i _ => fFr_at fhB54 737 (by decide +kernel) rfl i)⟩
    · intro c58
      refine And.intro (And.intro (by first | exact fi_ ha2.1 ha2.2 rfl | omega) (by first | exact ⟨by decide, by decide⟩ | omega)) (And.intro ?_ ?_)
      · intro c59
        exact fcutJ (I := I) (j := (jc_Order_goOn_6df0d_24 x2 x3 x4 x5 I)) (lv' := [(0, .inr (.inr (some 735))), (1, .inr (.inr (some 211))), (2, .inl _), (3, .inl _), (4, .inl _), (5, .inl _), (6, .inl _)]) (And.intro rfl (And.intro rfl (And.intro rfl (And.intro rfl (And.intro rfl (And.intro rfl (And.intro rfl True.intro))))))) ⟨_, _, _, _, _, rfl, rfl, ⟨by omega, (fun p s hp hs => hs), (fun i _ => rfl)⟩, rfl⟩ (by omega)
      · intro c60
        refine Exists.intro xm_215 (And.intro mi_215 (And.intro ⟨rfl, rfl, rfl, rfl⟩ (And.intro rfl ?_)))
        refine fcall _ h0 (fzs_sub (by decide +kernel) hW) hB0 (ct_Order_take_e8cff (fBz h0 hB0) (by first | exact ⟨ha5.1, ha5.2⟩ | omega)) ?_
        rintro IhB62 _ hB62 fhB62 ⟨rfl, hz61, g0z61⟩
        have t63 := fhB62 211 15 (by decide +kernel)
        have k64 := fBz_eq hB62 (a := 211) (j := 15) (by decide +kernel)
        have k65 := fBz_eq hB62 (a := 735) (j := 2) (by decide +kernel)
        exact ⟨rfl, True.intro, (fun p s hp hs => by rw [sk_tk (by omega)]; exact g0z61 p s (fun i hi => hp i (by omega)) hs), (fun i _ => fFr_at fhB62 737 (by decide +kernel) rfl i)⟩
abbrev jc_Order_goOn_0f9c9_24 (x2 : Int) (x3 : Int) (x4 : Int) (x5 : Int) (I0 : fH) : Nat → fL → List fV → fH → Prop := fun m lv st I => ∃ (y2 : Int) (y3 : Int) (y4 : Int) (y5 : Int) (y6 : Int), lv = [(0, .inr (.inr (some 735))), (1, .inr (.inr (some 211))), (2, .inl y2), (3, .inl y3), (4, .inl y4), (5, .inl y5), (6, .inl y6)] ∧ st = [] ∧ (((2 ≤ y2 ∧ y2 ≤ 2) ∧ ((-2147483648) ≤ y3 ∧ y3 ≤ 2147483647) ∧ (0 ≤ y4 ∧ y4 ≤ 18) ∧ ((-2147483648) ≤ y5 ∧ y5 ≤ 2147483647) ∧ (0 ≤ y6 ∧ y6 ≤ 7) ∧ (3 ≤ I 211 15 ∧ I 211 15 ≤ 7) ∧ (y2 = x2) ∧ (y3 = x3) ∧ (y4 = x4) ∧ (y5 = x5) ∧ (x2 < I0 211 15) ∧ (y6 ≤ I0 211 15)) ∧ (∀ (p : Nat → Int) (s : sSt), (∀ i : Nat, (i : Int) < x2 → I0 737 i = p i) → skR (I0 211 15).toNat s I0 → skR (I0 211 15).toNat (nf (sGo (I0 254) (I0 255) (I0 256) (I0 735 2) (sSk (I0 211 15).toNat (I0 254) (I0 255) (I0 256) (I0 735 2) 4) x2.toNat x3 x4 x5 p) s y6.toNat) I) ∧ (∀ i : Nat, (i : Int) < x2 → I 737 i = I0 737 i)) ∧ m = (1 + 1 * (7 - y6) : Int).toNat
set_option maxRecDepth 8000 in
theorem ct_Order_goOn_0f9c9 {I : fH} {x2 : Int} {x3 : Int} {x4 : Int} {x5 : Int} (h0 : fB bsJ I) (ha2 : (2 ≤ x2 ∧ x2 ≤ 2)) (ha3 : ((-2147483648) ≤ x3 ∧ x3 ≤ 2147483647)) (ha4 : (0 ≤ x4 ∧ x4 ≤ 18)) (ha5 : ((-2147483648) ≤ x5 ∧ x5 ≤ 2147483647)) (hp0 : 0 ≤ x5 ∧ x5 ≤ 5940 * x2) (hp1 : 0 ≤ I 735 2 ∧ I 735 2 ≤ 60) : fC ρ base n F xTc vwCl xTys D dA la gJ (fbz bsJ znJ (fKc wz_7628e) I) xm_212 [.inr (.inr (some 735)), .inr (.inr (some 211)), .inl x2, .inl x3, .inl x4, .inl x5] I (fun I' r => r = none ∧ True ∧ (∀ (p : Nat → Int) (s : sSt), (∀ i : Nat, (i : Int) < x2 → I 737 i = p i) → skR (I 211 15).toNat s I → skR (I 211 15).toNat (sSk (I 211 15).toNat (I 254) (I 255) (I 256) (I 735 2) 5 x2.toNat x3 x4 x5 p s) I') ∧ (∀ i : Nat, (i : Int) < x2 → I' 737 i = I 737 i)) := by
  have hW : fzs wz_7628e (fKc wz_7628e) := fKc_ok _
  refine f_meth (rb := rbJ) (J := [(24, (jc_Order_goOn_0f9c9_24 x2 x3 x4 x5 I))]) 9 400 xG xin_212 x6_212 okJ (fB_self h0) ?_ ?_
  · refine List.forall_mem_cons.mpr ⟨?_, fun q h => absurd h List.not_mem_nil⟩
    · rintro m _ _ I1 hB1 ⟨y2, y3, y4, y5, y6, rfl, rfl, ⟨hb, hx0, hx1⟩, hm⟩
      have k1 := fBz_eq hB1 (a := 211) (j := 15) (by decide +kernel)
      have k2 := fBz_eq hB1 (a := 735) (j := 2) (by decide +kernel)
      have b3 := fBd fb_211_15 (fBz h0 hB1)
      have ey2 : x2 = y2 := by omega
      subst ey2
      have ey3 : x3 = y3 := by omega
      subst ey3
      have ey4 : x4 = y4 := by omega
      subst ey4
      have ey5 : x5 = y5 := by omega
      subst ey5
      refine And.intro ⟨rfl, by decide, by decide⟩ (fgetf fb_211_15 h0 hB1 ?_)
      intro z4 lz4 uz4 qz4
      refine And.intro (And.intro (by first | exact fi_ hb.2.2.2.2.1.1 hb.2.2.2.2.1.2 rfl | omega) (by first | exact fi_ lz4 uz4 rfl | omega)) (And.intro ?_ ?_)
      · intro c5
        exact ⟨rfl, True.intro, (fun p s hp hs => by rw [sk_go (by omega)]; exact sk_end (hx0 p s hp hs) (by omega) (by omega)), hx1⟩
      · intro c6
        refine And.intro ⟨rfl, by decide, by decide⟩ (fgetf fb_735_3 h0 hB1 ?_)
        intro z7 lz7 uz7 qz7
        refine And.intro (by first | exact fi_ lz7 uz7 rfl | omega) (And.intro ?_ ?_)
        · intro c8
          exact ⟨rfl, True.intro, (fun p s hp hs => by rw [sk_go (by omega)]; exact sk_end (hx0 p s hp hs) (by omega) (by omega)), hx1⟩
        · intro c9
          intro z10 hz10 ez10
          intro z11 hz11 ez11 bz11
          have bz11 := bz11 (by omega)
          have wb := bt_of hz11 ez10 ez11 (by omega)
          refine And.intro (by first | exact fi_ bz11.1 bz11.2 rfl | omega) (And.intro ?_ ?_)
          · intro c12
            exact fcutJ (I := I1) (j := (jc_Order_goOn_0f9c9_24 x2 x3 x4 x5 I)) (lv' := [(0, .inr (.inr (some 735))), (1, .inr (.inr (some 211))), (2, .inl _), (3, .inl _), (4, .inl _), (5, .inl _), (6, .inl _)]) (And.intro rfl (And.intro rfl (And.intro rfl (And.intro rfl (And.intro rfl (And.intro rfl (And.intro rfl True.intro))))))) ⟨_, _, _, _, _, rfl, rfl, ⟨by omega, (fun p s hp hs => by first | exact nf_skR (go_no (hx0 p s hp hs) (fun q => by have q1 := q.1; omega)) (by omega) (by omega) | exact nf_skR (go_no (hx0 p s hp hs) (fun q => by have q2 := q.2; omega)) (by omega) (by omega) | exact nf_skR (go_spent (hx0 p s hp hs) (by omega) ⟨by omega, by omega⟩ (by omega) (by omega) enil0 enil0) (by omega) (by omega) | exact nf_skR (go_rec (hx0 p s hp hs) (by omega) ⟨by omega, by omega⟩ (g0nil0 (sUp p x2.toNat ((y6.toNat : Nat) : Int)) _ (path_up enil0 enil0 (fun i hi => (hx1 i hi).trans (hp i hi)) (by omega) rfl (by omega)) (go_in (hx0 p s hp hs) (by omega) enil0 enil0))) (by omega) (by omega)), (fun i hi => by first | exact (g1nil0 i (by omega)).trans ((fup_other enil0 737 i (Or.inr (by omega))).trans ((fup_other enil0 737 i (Or.inl (by decide))).trans (hx1 i hi))) | exact ((fup_other enil0 737 i (Or.inr (by omega))).trans ((fup_other enil0 737 i (Or.inl (by decide))).trans (hx1 i hi))) | exact hx1 i hi)⟩, rfl⟩ (by omega)
          · intro c13
            refine And.intro ⟨rfl, by decide, by decide⟩ ?_
            refine fload1 rL_256_256_0_6_1_0 h0 hB1 ⟨by decide, by decide⟩ (by first | exact ⟨hb.2.2.2.2.1.1, Int.le_trans (Int.le_sub_one_of_lt (Int.lt_of_lt_of_le c6 uz4)) (by decide)⟩ | omega) ?_
            intro z14 lz14 uz14 qz14
            intro z15 hz15 ez15
            intro z16 hz16 ez16 bz16
            clear bz16
            have wa := sAh_of hz16 ez15 ez16
            rw [qz14, fFr_at (fFr_of hB1) 256 (by decide +kernel) rfl] at wa
            refine And.intro (by omega) (And.intro ?_ ?_)
            · intro c17
              exact fcutJ (I := I1) (j := (jc_Order_goOn_0f9c9_24 x2 x3 x4 x5 I)) (lv' := [(0, .inr (.inr (some 735))), (1, .inr (.inr (some 211))), (2, .inl _), (3, .inl _), (4, .inl _), (5, .inl _), (6, .inl _)]) (And.intro rfl (And.intro rfl (And.intro rfl (And.intro rfl (And.intro rfl (And.intro rfl (And.intro rfl True.intro))))))) ⟨_, _, _, _, _, rfl, rfl, ⟨by omega, (fun p s hp hs => by first | exact nf_skR (go_no (hx0 p s hp hs) (fun q => by have q1 := q.1; omega)) (by omega) (by omega) | exact nf_skR (go_no (hx0 p s hp hs) (fun q => by have q2 := q.2; omega)) (by omega) (by omega) | exact nf_skR (go_spent (hx0 p s hp hs) (by omega) ⟨by omega, by omega⟩ (by omega) (by omega) enil0 enil0) (by omega) (by omega) | exact nf_skR (go_rec (hx0 p s hp hs) (by omega) ⟨by omega, by omega⟩ (g0nil0 (sUp p x2.toNat ((y6.toNat : Nat) : Int)) _ (path_up enil0 enil0 (fun i hi => (hx1 i hi).trans (hp i hi)) (by omega) rfl (by omega)) (go_in (hx0 p s hp hs) (by omega) enil0 enil0))) (by omega) (by omega)), (fun i hi => by first | exact (g1nil0 i (by omega)).trans ((fup_other enil0 737 i (Or.inr (by omega))).trans ((fup_other enil0 737 i (Or.inl (by decide))).trans (hx1 i hi))) | exact ((fup_other enil0 737 i (Or.inr (by omega))).trans ((fup_other enil0 737 i (Or.inl (by decide))).trans (hx1 i hi))) | exact hx1 i hi)⟩, rfl⟩ (by omega)
            · intro c18
              refine And.intro ⟨rfl, by decide, by decide⟩ (fgetf fb_735_3 h0 hB1 ?_)
              intro z19 lz19 uz19 qz19
              refine And.intro ⟨rfl, by decide, by decide⟩ (And.intro rfl (And.intro (Or.inl rfl) (fputf fb_735_3 (by decide +kernel) hW (by omega) ?_)))
              intro IhB20 ehB20 hB20
              have t21 : IhB20 211 15 = I1 211 15 := (congrFun (congrFun ehB20 211) 15).trans (fup_ne (by first | decide | omega))
              have t22 := fup_at ehB20 3 (by first | rfl | omega)
              have k23 := fBz_eq hB20 (a := 211) (j := 15) (by decide +kernel)
              have k24 := fBz_eq hB20 (a := 735) (j := 2) (by decide +kernel)
              refine And.intro ⟨rfl, by decide, by decide⟩ ?_
              refine fstore1 rS_737_737_0_6_1_0 (fzs_sub (by decide +kernel) hW) ⟨by decide, by decide⟩ (by first | exact ⟨Int.le_trans (by decide) hb.1.1, Int.le_trans hb.1.2 (by decide)⟩ | omega) (by first | exact ⟨hb.2.2.2.2.1.1, Int.le_trans (Int.le_sub_one_of_lt (Int.lt_of_lt_of_le c6 uz4)) (by decide)⟩ | omega) ?_
              intro IhB25 ehB25 hB25
              have t26 := fup_self ehB25
              have t27 : IhB25 211 15 = IhB20 211 15 := (congrFun (congrFun ehB25 211) 15).trans (fup_ne (by first | decide | omega))
              have t28 : IhB25 735 3 = IhB20 735 3 := (congrFun (congrFun ehB25 735) 3).trans (fup_ne (by first | decide | omega))
              have t29 := fup_at ehB25 2 (by first | rfl | omega)
              have k30 := fBz_eq hB25 (a := 211) (j := 15) (by decide +kernel)
              have k31 := fBz_eq hB25 (a := 735) (j := 2) (by decide +kernel)
              refine And.intro ⟨rfl, by decide, by decide⟩ ?_
              refine fload1 rL_254_254_0_6_1_0 h0 hB25 ⟨by decide, by decide⟩ (by first | exact ⟨hb.2.2.2.2.1.1, Int.le_trans (Int.le_sub_one_of_lt (Int.lt_of_lt_of_le c6 uz4)) (by decide)⟩ | omega) ?_
              intro z32 lz32 uz32 qz32
              have w89 := qz32.trans ((fun j => (fup_other ehB25 254 j (Or.inl (by decide))).trans ((fup_other ehB20 254 j (Or.inl (by decide))).trans (fFr_at (fFr_of hB1) 254 (by decide +kernel) rfl j))) _)
              intro z33 hz33 ez33 bz33
              have bz33 := bz33 (by omega)
              refine And.intro ⟨rfl, by decide, by decide⟩ ?_
              refine fload1 rL_255_255_0_6_1_0 h0 hB25 ⟨by decide, by decide⟩ (by first | exact ⟨hb.2.2.2.2.1.1, Int.le_trans (Int.le_sub_one_of_lt (Int.lt_of_lt_of_le c6 uz4)) (by decide)⟩ | omega) ?_
              intro z34 lz34 uz34 qz34
              have w99 := qz34.trans ((fun j => (fup_other ehB25 255 j (Or.inl (by decide))).trans ((fup_other ehB20 255 j (Or.inl (by decide))).trans (fFr_at (fFr_of hB1) 255 (by decide +kernel) rfl j))) _)
              refine And.intro ⟨rfl, by decide, by decide⟩ (fgetf fb_735_2 h0 hB25 ?_)
              intro z35 lz35 uz35 qz35
              intro z36 hz36 ez36 bz36
              try replace bz36 := bz36 (by omega)
              refine And.intro (And.intro (by first | exact ⟨by decide, by decide⟩ | omega) (And.intro (by omega) rfl)) ?_
              intro z37 hz37
              intro z38 hz38 ez38 bz38
              try replace bz38 := bz38 (by omega)
              have w110 := mul_bd (a := z34) (b := z37) (by omega) (by omega)
              have w111 := bz38 (by omega)
              refine And.intro ⟨rfl, by decide, by decide⟩ (fgetf fb_735_3 h0 hB25 ?_)
              intro z39 lz39 uz39 qz39
              refine And.intro (by first | exact fi_ lz39 uz39 rfl | omega) (And.intro ?_ ?_)
              · intro c40
                exact fcutJ (I := IhB25) (j := (jc_Order_goOn_0f9c9_24 x2 x3 x4 x5 I)) (lv' := [(0, .inr (.inr (some 735))), (1, .inr (.inr (some 211))), (2, .inl _), (3, .inl _), (4, .inl _), (5, .inl _), (6, .inl _)]) (And.intro rfl (And.intro rfl (And.intro rfl (And.intro rfl (And.intro rfl (And.intro rfl (And.intro rfl True.intro))))))) ⟨_, _, _, _, _, rfl, rfl, ⟨by omega, (fun p s hp hs => by first | exact nf_skR (go_no (hx0 p s hp hs) (fun q => by have q1 := q.1; omega)) (by omega) (by omega) | exact nf_skR (go_no (hx0 p s hp hs) (fun q => by have q2 := q.2; omega)) (by omega) (by omega) | exact nf_skR (go_spent (hx0 p s hp hs) (by omega) ⟨by omega, by omega⟩ (by omega) (by omega) ehB20 ehB25) (by omega) (by omega) | exact nf_skR (go_rec (hx0 p s hp hs) (by omega) ⟨by omega, by omega⟩ (g0nil0 (sUp p x2.toNat ((y6.toNat : Nat) : Int)) _ (path_up ehB20 ehB25 (fun i hi => (hx1 i hi).trans (hp i hi)) (by omega) rfl (by omega)) (go_in (hx0 p s hp hs) (by omega) ehB20 ehB25))) (by omega) (by omega)), (fun i hi => by first | exact (g1nil0 i (by omega)).trans ((fup_other ehB25 737 i (Or.inr (by omega))).trans ((fup_other ehB20 737 i (Or.inl (by decide))).trans (hx1 i hi))) | exact ((fup_other ehB25 737 i (Or.inr (by omega))).trans ((fup_other ehB20 737 i (Or.inl (by decide))).trans (hx1 i hi))) | exact hx1 i hi)⟩, rfl⟩ (by omega)
              · intro c41
                intro z42 hz42 ez42
                intro z43 hz43 ez43
                intro z44 hz44 ez44 bz44
                try replace bz44 := bz44 (by omega)
                refine Exists.intro xm_211 (And.intro mi_211 (And.intro ⟨rfl, rfl, rfl, rfl⟩ (And.intro rfl ?_)))
                refine fcall _ h0 (fzs_sub (by decide +kernel) hW) hB25 (ct_Order_goOn_6df0d (fBz h0 hB25) (by omega) (by omega) (by omega) (by omega) (by omega) (by omega)) ?_
                rintro IhB46 _ hB46 fhB46 ⟨rfl, hz45, g0z45, g1z45⟩
                have t47 := fhB46 211 15 (by decide +kernel)
                have k48 := fBz_eq hB46 (a := 211) (j := 15) (by decide +kernel)
                have k49 := fBz_eq hB46 (a := 735) (j := 2) (by decide +kernel)
                have w254 : IhB25 254 = I 254 := funext (fun j => (fup_other ehB25 254 j (Or.inl (by decide))).trans ((fup_other ehB20 254 j (Or.inl (by decide))).trans (fFr_at (fFr_of hB1) 254 (by decide +kernel) rfl j)))
                have w255 : IhB25 255 = I 255 := funext (fun j => (fup_other ehB25 255 j (Or.inl (by decide))).trans ((fup_other ehB20 255 j (Or.inl (by decide))).trans (fFr_at (fFr_of hB1) 255 (by decide +kernel) rfl j)))
                have w256 : IhB25 256 = I 256 := funext (fun j => (fup_other ehB25 256 j (Or.inl (by decide))).trans ((fup_other ehB20 256 j (Or.inl (by decide))).trans (fFr_at (fFr_of hB1) 256 (by decide +kernel) rfl j)))
                have wN : IhB25 211 15 = I 211 15 := fBz_eq hB25 (by decide +kernel)
                have wS : IhB25 735 2 = I 735 2 := fBz_eq hB25 (by decide +kernel)
                have wd := sDn_of hz43 (by omega) ez42 ez43
                have we : z33 = x4 + I 254 y6.toNat := by omega
                have ws : z44 = x5 + sMo (I 735 2) (x4 + I 254 y6.toNat) (I 255 y6.toNat) := by have q := mo_of (span := I 735 2) (e := x4 + I 254 y6.toNat) w111 (by omega); rw [w99] at q; omega
                rw [w254, w255, w256, wN, wS, wd, we, ws, show (x2 + ((1 : Nat) : Int)).toNat = x2.toNat + 1 by omega] at g0z45
                exact fcutJ (I := IhB46) (j := (jc_Order_goOn_0f9c9_24 x2 x3 x4 x5 I)) (lv' := [(0, .inr (.inr (some 735))), (1, .inr (.inr (some 211))), (2, .inl _), (3, .inl _), (4, .inl _), (5, .inl _), (6, .inl _)]) (And.intro rfl (And.intro rfl (And.intro rfl (And.intro rfl (And.intro rfl (And.intro rfl (And.intro rfl True.intro))))))) ⟨_, _, _, _, _, rfl, rfl, ⟨by omega, (fun p s hp hs => by first | exact nf_skR (go_no (hx0 p s hp hs) (fun q => by have q1 := q.1; omega)) (by omega) (by omega) | exact nf_skR (go_no (hx0 p s hp hs) (fun q => by have q2 := q.2; omega)) (by omega) (by omega) | exact nf_skR (go_spent (hx0 p s hp hs) (by omega) ⟨by omega, by omega⟩ (by omega) (by omega) ehB20 ehB25) (by omega) (by omega) | exact nf_skR (go_rec (hx0 p s hp hs) (by omega) ⟨by omega, by omega⟩ (g0z45 (sUp p x2.toNat ((y6.toNat : Nat) : Int)) _ (path_up ehB20 ehB25 (fun i hi => (hx1 i hi).trans (hp i hi)) (by omega) rfl (by omega)) (go_in (hx0 p s hp hs) (by omega) ehB20 ehB25))) (by omega) (by omega)), (fun i hi => by first | exact (g1z45 i (by omega)).trans ((fup_other ehB25 737 i (Or.inr (by omega))).trans ((fup_other ehB20 737 i (Or.inl (by decide))).trans (hx1 i hi))) | exact ((fup_other ehB25 737 i (Or.inr (by omega))).trans ((fup_other ehB20 737 i (Or.inl (by decide))).trans (hx1 i hi))) | exact hx1 i hi)⟩, rfl⟩ (by omega)
  · have hB0 := fB_self (zn := znJ) (K := fKc wz_7628e) h0
    have b50 := fBd fb_211_15 (fBz h0 hB0)
    refine And.intro ⟨rfl, by decide, by decide⟩ (fgetf fb_211_15 h0 hB0 ?_)
    intro z51 lz51 uz51 qz51
    refine And.intro (And.intro (by first | exact fi_ ha2.1 ha2.2 rfl | omega) (by first | exact fi_ lz51 uz51 rfl | omega)) (And.intro ?_ ?_)
    · intro c52
      refine Exists.intro xm_215 (And.intro mi_215 (And.intro ⟨rfl, rfl, rfl, rfl⟩ (And.intro rfl ?_)))
      refine fcall _ h0 (fzs_sub (by decide +kernel) hW) hB0 (ct_Order_take_e8cff (fBz h0 hB0) (by first | exact ⟨ha5.1, ha5.2⟩ | omega)) ?_
      rintro IhB54 _ hB54 fhB54 ⟨rfl, hz53, g0z53⟩
      have t55 := fhB54 211 15 (by decide +kernel)
      have k56 := fBz_eq hB54 (a := 211) (j := 15) (by decide +kernel)
      have k57 := fBz_eq hB54 (a := 735) (j := 2) (by decide +kernel)
      exact ⟨rfl, True.intro, (fun p s hp hs => by rw [sk_tk (by omega)]; exact g0z53 p s (fun i hi => hp i (by omega)) hs), (fun i _ => fFr_at fhB54 737 (by decide +kernel) rfl i)⟩
    · intro c58
      refine And.intro (And.intro (by first | exact fi_ ha2.1 ha2.2 rfl | omega) (by first | exact ⟨by decide, by decide⟩ | omega)) (And.intro ?_ ?_)
      · intro c59
        exact fcutJ (I := I) (j := (jc_Order_goOn_0f9c9_24 x2 x3 x4 x5 I)) (lv' := [(0, .inr (.inr (some 735))), (1, .inr (.inr (some 211))), (2, .inl _), (3, .inl _), (4, .inl _), (5, .inl _), (6, .inl _)]) (And.intro rfl (And.intro rfl (And.intro rfl (And.intro rfl (And.intro rfl (And.intro rfl (And.intro rfl True.intro))))))) ⟨_, _, _, _, _, rfl, rfl, ⟨by omega, (fun p s hp hs => hs), (fun i _ => rfl)⟩, rfl⟩ (by omega)
      · intro c60
        refine Exists.intro xm_215 (And.intro mi_215 (And.intro ⟨rfl, rfl, rfl, rfl⟩ (And.intro rfl ?_)))
        refine fcall _ h0 (fzs_sub (by decide +kernel) hW) hB0 (ct_Order_take_e8cff (fBz h0 hB0) (by first | exact ⟨ha5.1, ha5.2⟩ | omega)) ?_
        rintro IhB62 _ hB62 fhB62 ⟨rfl, hz61, g0z61⟩
        have t63 := fhB62 211 15 (by decide +kernel)
        have k64 := fBz_eq hB62 (a := 211) (j := 15) (by decide +kernel)
        have k65 := fBz_eq hB62 (a := 735) (j := 2) (by decide +kernel)
        exact ⟨rfl, True.intro, (fun p s hp hs => by rw [sk_tk (by omega)]; exact g0z61 p s (fun i hi => hp i (by omega)) hs), (fun i _ => fFr_at fhB62 737 (by decide +kernel) rfl i)⟩
abbrev jc_Order_goOn_e7135_24 (x2 : Int) (x3 : Int) (x4 : Int) (x5 : Int) (I0 : fH) : Nat → fL → List fV → fH → Prop := fun m lv st I => ∃ (y2 : Int) (y3 : Int) (y4 : Int) (y5 : Int) (y6 : Int), lv = [(0, .inr (.inr (some 735))), (1, .inr (.inr (some 211))), (2, .inl y2), (3, .inl y3), (4, .inl y4), (5, .inl y5), (6, .inl y6)] ∧ st = [] ∧ (((1 ≤ y2 ∧ y2 ≤ 1) ∧ ((-2147483648) ≤ y3 ∧ y3 ≤ 2147483647) ∧ (0 ≤ y4 ∧ y4 ≤ 9) ∧ ((-2147483648) ≤ y5 ∧ y5 ≤ 2147483647) ∧ (0 ≤ y6 ∧ y6 ≤ 7) ∧ (2 ≤ I 211 15 ∧ I 211 15 ≤ 7) ∧ (y2 = x2) ∧ (y3 = x3) ∧ (y4 = x4) ∧ (y5 = x5) ∧ (x2 < I0 211 15) ∧ (y6 ≤ I0 211 15)) ∧ (∀ (p : Nat → Int) (s : sSt), (∀ i : Nat, (i : Int) < x2 → I0 737 i = p i) → skR (I0 211 15).toNat s I0 → skR (I0 211 15).toNat (nf (sGo (I0 254) (I0 255) (I0 256) (I0 735 2) (sSk (I0 211 15).toNat (I0 254) (I0 255) (I0 256) (I0 735 2) 5) x2.toNat x3 x4 x5 p) s y6.toNat) I) ∧ (∀ i : Nat, (i : Int) < x2 → I 737 i = I0 737 i)) ∧ m = (1 + 1 * (7 - y6) : Int).toNat
set_option maxRecDepth 8000 in
theorem ct_Order_goOn_e7135 {I : fH} {x2 : Int} {x3 : Int} {x4 : Int} {x5 : Int} (h0 : fB bsJ I) (ha2 : (1 ≤ x2 ∧ x2 ≤ 1)) (ha3 : ((-2147483648) ≤ x3 ∧ x3 ≤ 2147483647)) (ha4 : (0 ≤ x4 ∧ x4 ≤ 9)) (ha5 : ((-2147483648) ≤ x5 ∧ x5 ≤ 2147483647)) (hp0 : 0 ≤ x5 ∧ x5 ≤ 5940 * x2) (hp1 : 0 ≤ I 735 2 ∧ I 735 2 ≤ 60) : fC ρ base n F xTc vwCl xTys D dA la gJ (fbz bsJ znJ (fKc wz_7628e) I) xm_213 [.inr (.inr (some 735)), .inr (.inr (some 211)), .inl x2, .inl x3, .inl x4, .inl x5] I (fun I' r => r = none ∧ True ∧ (∀ (p : Nat → Int) (s : sSt), (∀ i : Nat, (i : Int) < x2 → I 737 i = p i) → skR (I 211 15).toNat s I → skR (I 211 15).toNat (sSk (I 211 15).toNat (I 254) (I 255) (I 256) (I 735 2) 6 x2.toNat x3 x4 x5 p s) I') ∧ (∀ i : Nat, (i : Int) < x2 → I' 737 i = I 737 i)) := by
  have hW : fzs wz_7628e (fKc wz_7628e) := fKc_ok _
  refine f_meth (rb := rbJ) (J := [(24, (jc_Order_goOn_e7135_24 x2 x3 x4 x5 I))]) 9 400 xG xin_213 x6_213 okJ (fB_self h0) ?_ ?_
  · refine List.forall_mem_cons.mpr ⟨?_, fun q h => absurd h List.not_mem_nil⟩
    · rintro m _ _ I1 hB1 ⟨y2, y3, y4, y5, y6, rfl, rfl, ⟨hb, hx0, hx1⟩, hm⟩
      have k1 := fBz_eq hB1 (a := 211) (j := 15) (by decide +kernel)
      have k2 := fBz_eq hB1 (a := 735) (j := 2) (by decide +kernel)
      have b3 := fBd fb_211_15 (fBz h0 hB1)
      have ey2 : x2 = y2 := by omega
      subst ey2
      have ey3 : x3 = y3 := by omega
      subst ey3
      have ey4 : x4 = y4 := by omega
      subst ey4
      have ey5 : x5 = y5 := by omega
      subst ey5
      refine And.intro ⟨rfl, by decide, by decide⟩ (fgetf fb_211_15 h0 hB1 ?_)
      intro z4 lz4 uz4 qz4
      refine And.intro (And.intro (by first | exact fi_ hb.2.2.2.2.1.1 hb.2.2.2.2.1.2 rfl | omega) (by first | exact fi_ lz4 uz4 rfl | omega)) (And.intro ?_ ?_)
      · intro c5
        exact ⟨rfl, True.intro, (fun p s hp hs => by rw [sk_go (by omega)]; exact sk_end (hx0 p s hp hs) (by omega) (by omega)), hx1⟩
      · intro c6
        refine And.intro ⟨rfl, by decide, by decide⟩ (fgetf fb_735_3 h0 hB1 ?_)
        intro z7 lz7 uz7 qz7
        refine And.intro (by first | exact fi_ lz7 uz7 rfl | omega) (And.intro ?_ ?_)
        · intro c8
          exact ⟨rfl, True.intro, (fun p s hp hs => by rw [sk_go (by omega)]; exact sk_end (hx0 p s hp hs) (by omega) (by omega)), hx1⟩
        · intro c9
          intro z10 hz10 ez10
          intro z11 hz11 ez11 bz11
          have bz11 := bz11 (by omega)
          have wb := bt_of hz11 ez10 ez11 (by omega)
          refine And.intro (by first | exact fi_ bz11.1 bz11.2 rfl | omega) (And.intro ?_ ?_)
          · intro c12
            exact fcutJ (I := I1) (j := (jc_Order_goOn_e7135_24 x2 x3 x4 x5 I)) (lv' := [(0, .inr (.inr (some 735))), (1, .inr (.inr (some 211))), (2, .inl _), (3, .inl _), (4, .inl _), (5, .inl _), (6, .inl _)]) (And.intro rfl (And.intro rfl (And.intro rfl (And.intro rfl (And.intro rfl (And.intro rfl (And.intro rfl True.intro))))))) ⟨_, _, _, _, _, rfl, rfl, ⟨by omega, (fun p s hp hs => by first | exact nf_skR (go_no (hx0 p s hp hs) (fun q => by have q1 := q.1; omega)) (by omega) (by omega) | exact nf_skR (go_no (hx0 p s hp hs) (fun q => by have q2 := q.2; omega)) (by omega) (by omega) | exact nf_skR (go_spent (hx0 p s hp hs) (by omega) ⟨by omega, by omega⟩ (by omega) (by omega) enil0 enil0) (by omega) (by omega) | exact nf_skR (go_rec (hx0 p s hp hs) (by omega) ⟨by omega, by omega⟩ (g0nil0 (sUp p x2.toNat ((y6.toNat : Nat) : Int)) _ (path_up enil0 enil0 (fun i hi => (hx1 i hi).trans (hp i hi)) (by omega) rfl (by omega)) (go_in (hx0 p s hp hs) (by omega) enil0 enil0))) (by omega) (by omega)), (fun i hi => by first | exact (g1nil0 i (by omega)).trans ((fup_other enil0 737 i (Or.inr (by omega))).trans ((fup_other enil0 737 i (Or.inl (by decide))).trans (hx1 i hi))) | exact ((fup_other enil0 737 i (Or.inr (by omega))).trans ((fup_other enil0 737 i (Or.inl (by decide))).trans (hx1 i hi))) | exact hx1 i hi)⟩, rfl⟩ (by omega)
          · intro c13
            refine And.intro ⟨rfl, by decide, by decide⟩ ?_
            refine fload1 rL_256_256_0_6_1_0 h0 hB1 ⟨by decide, by decide⟩ (by first | exact ⟨hb.2.2.2.2.1.1, Int.le_trans (Int.le_sub_one_of_lt (Int.lt_of_lt_of_le c6 uz4)) (by decide)⟩ | omega) ?_
            intro z14 lz14 uz14 qz14
            intro z15 hz15 ez15
            intro z16 hz16 ez16 bz16
            clear bz16
            have wa := sAh_of hz16 ez15 ez16
            rw [qz14, fFr_at (fFr_of hB1) 256 (by decide +kernel) rfl] at wa
            refine And.intro (by omega) (And.intro ?_ ?_)
            · intro c17
              exact fcutJ (I := I1) (j := (jc_Order_goOn_e7135_24 x2 x3 x4 x5 I)) (lv' := [(0, .inr (.inr (some 735))), (1, .inr (.inr (some 211))), (2, .inl _), (3, .inl _), (4, .inl _), (5, .inl _), (6, .inl _)]) (And.intro rfl (And.intro rfl (And.intro rfl (And.intro rfl (And.intro rfl (And.intro rfl (And.intro rfl True.intro))))))) ⟨_, _, _, _, _, rfl, rfl, ⟨by omega, (fun p s hp hs => by first | exact nf_skR (go_no (hx0 p s hp hs) (fun q => by have q1 := q.1; omega)) (by omega) (by omega) | exact nf_skR (go_no (hx0 p s hp hs) (fun q => by have q2 := q.2; omega)) (by omega) (by omega) | exact nf_skR (go_spent (hx0 p s hp hs) (by omega) ⟨by omega, by omega⟩ (by omega) (by omega) enil0 enil0) (by omega) (by omega) | exact nf_skR (go_rec (hx0 p s hp hs) (by omega) ⟨by omega, by omega⟩ (g0nil0 (sUp p x2.toNat ((y6.toNat : Nat) : Int)) _ (path_up enil0 enil0 (fun i hi => (hx1 i hi).trans (hp i hi)) (by omega) rfl (by omega)) (go_in (hx0 p s hp hs) (by omega) enil0 enil0))) (by omega) (by omega)), (fun i hi => by first | exact (g1nil0 i (by omega)).trans ((fup_other enil0 737 i (Or.inr (by omega))).trans ((fup_other enil0 737 i (Or.inl (by decide))).trans (hx1 i hi))) | exact ((fup_other enil0 737 i (Or.inr (by omega))).trans ((fup_other enil0 737 i (Or.inl (by decide))).trans (hx1 i hi))) | exact hx1 i hi)⟩, rfl⟩ (by omega)
            · intro c18
              refine And.intro ⟨rfl, by decide, by decide⟩ (fgetf fb_735_3 h0 hB1 ?_)
              intro z19 lz19 uz19 qz19
              refine And.intro ⟨rfl, by decide, by decide⟩ (And.intro rfl (And.intro (Or.inl rfl) (fputf fb_735_3 (by decide +kernel) hW (by omega) ?_)))
              intro IhB20 ehB20 hB20
              have t21 : IhB20 211 15 = I1 211 15 := (congrFun (congrFun ehB20 211) 15).trans (fup_ne (by first | decide | omega))
              have t22 := fup_at ehB20 3 (by first | rfl | omega)
              have k23 := fBz_eq hB20 (a := 211) (j := 15) (by decide +kernel)
              have k24 := fBz_eq hB20 (a := 735) (j := 2) (by decide +kernel)
              refine And.intro ⟨rfl, by decide, by decide⟩ ?_
              refine fstore1 rS_737_737_0_6_1_0 (fzs_sub (by decide +kernel) hW) ⟨by decide, by decide⟩ (by first | exact ⟨Int.le_trans (by decide) hb.1.1, Int.le_trans hb.1.2 (by decide)⟩ | omega) (by first | exact ⟨hb.2.2.2.2.1.1, Int.le_trans (Int.le_sub_one_of_lt (Int.lt_of_lt_of_le c6 uz4)) (by decide)⟩ | omega) ?_
              intro IhB25 ehB25 hB25
              have t26 := fup_self ehB25
              have t27 : IhB25 211 15 = IhB20 211 15 := (congrFun (congrFun ehB25 211) 15).trans (fup_ne (by first | decide | omega))
              have t28 : IhB25 735 3 = IhB20 735 3 := (congrFun (congrFun ehB25 735) 3).trans (fup_ne (by first | decide | omega))
              have t29 := fup_at ehB25 1 (by first | rfl | omega)
              have k30 := fBz_eq hB25 (a := 211) (j := 15) (by decide +kernel)
              have k31 := fBz_eq hB25 (a := 735) (j := 2) (by decide +kernel)
              refine And.intro ⟨rfl, by decide, by decide⟩ ?_
              refine fload1 rL_254_254_0_6_1_0 h0 hB25 ⟨by decide, by decide⟩ (by first | exact ⟨hb.2.2.2.2.1.1, Int.le_trans (Int.le_sub_one_of_lt (Int.lt_of_lt_of_le c6 uz4)) (by decide)⟩ | omega) ?_
              intro z32 lz32 uz32 qz32
              have w89 := qz32.trans ((fun j => (fup_other ehB25 254 j (Or.inl (by decide))).trans ((fup_other ehB20 254 j (Or.inl (by decide))).trans (fFr_at (fFr_of hB1) 254 (by decide +kernel) rfl j))) _)
              intro z33 hz33 ez33 bz33
              have bz33 := bz33 (by omega)
              refine And.intro ⟨rfl, by decide, by decide⟩ ?_
              refine fload1 rL_255_255_0_6_1_0 h0 hB25 ⟨by decide, by decide⟩ (by first | exact ⟨hb.2.2.2.2.1.1, Int.le_trans (Int.le_sub_one_of_lt (Int.lt_of_lt_of_le c6 uz4)) (by decide)⟩ | omega) ?_
              intro z34 lz34 uz34 qz34
              have w99 := qz34.trans ((fun j => (fup_other ehB25 255 j (Or.inl (by decide))).trans ((fup_other ehB20 255 j (Or.inl (by decide))).trans (fFr_at (fFr_of hB1) 255 (by decide +kernel) rfl j))) _)
              refine And.intro ⟨rfl, by decide, by decide⟩ (fgetf fb_735_2 h0 hB25 ?_)
              intro z35 lz35 uz35 qz35
              intro z36 hz36 ez36 bz36
              try replace bz36 := bz36 (by omega)
              refine And.intro (And.intro (by first | exact ⟨by decide, by decide⟩ | omega) (And.intro (by omega) rfl)) ?_
              intro z37 hz37
              intro z38 hz38 ez38 bz38
              try replace bz38 := bz38 (by omega)
              have w110 := mul_bd (a := z34) (b := z37) (by omega) (by omega)
              have w111 := bz38 (by omega)
              refine And.intro ⟨rfl, by decide, by decide⟩ (fgetf fb_735_3 h0 hB25 ?_)
              intro z39 lz39 uz39 qz39
              refine And.intro (by first | exact fi_ lz39 uz39 rfl | omega) (And.intro ?_ ?_)
              · intro c40
                exact fcutJ (I := IhB25) (j := (jc_Order_goOn_e7135_24 x2 x3 x4 x5 I)) (lv' := [(0, .inr (.inr (some 735))), (1, .inr (.inr (some 211))), (2, .inl _), (3, .inl _), (4, .inl _), (5, .inl _), (6, .inl _)]) (And.intro rfl (And.intro rfl (And.intro rfl (And.intro rfl (And.intro rfl (And.intro rfl (And.intro rfl True.intro))))))) ⟨_, _, _, _, _, rfl, rfl, ⟨by omega, (fun p s hp hs => by first | exact nf_skR (go_no (hx0 p s hp hs) (fun q => by have q1 := q.1; omega)) (by omega) (by omega) | exact nf_skR (go_no (hx0 p s hp hs) (fun q => by have q2 := q.2; omega)) (by omega) (by omega) | exact nf_skR (go_spent (hx0 p s hp hs) (by omega) ⟨by omega, by omega⟩ (by omega) (by omega) ehB20 ehB25) (by omega) (by omega) | exact nf_skR (go_rec (hx0 p s hp hs) (by omega) ⟨by omega, by omega⟩ (g0nil0 (sUp p x2.toNat ((y6.toNat : Nat) : Int)) _ (path_up ehB20 ehB25 (fun i hi => (hx1 i hi).trans (hp i hi)) (by omega) rfl (by omega)) (go_in (hx0 p s hp hs) (by omega) ehB20 ehB25))) (by omega) (by omega)), (fun i hi => by first | exact (g1nil0 i (by omega)).trans ((fup_other ehB25 737 i (Or.inr (by omega))).trans ((fup_other ehB20 737 i (Or.inl (by decide))).trans (hx1 i hi))) | exact ((fup_other ehB25 737 i (Or.inr (by omega))).trans ((fup_other ehB20 737 i (Or.inl (by decide))).trans (hx1 i hi))) | exact hx1 i hi)⟩, rfl⟩ (by omega)
              · intro c41
                intro z42 hz42 ez42
                intro z43 hz43 ez43
                intro z44 hz44 ez44 bz44
                try replace bz44 := bz44 (by omega)
                refine Exists.intro xm_212 (And.intro mi_212 (And.intro ⟨rfl, rfl, rfl, rfl⟩ (And.intro rfl ?_)))
                refine fcall _ h0 (fzs_sub (by decide +kernel) hW) hB25 (ct_Order_goOn_0f9c9 (fBz h0 hB25) (by omega) (by omega) (by omega) (by omega) (by omega) (by omega)) ?_
                rintro IhB46 _ hB46 fhB46 ⟨rfl, hz45, g0z45, g1z45⟩
                have t47 := fhB46 211 15 (by decide +kernel)
                have k48 := fBz_eq hB46 (a := 211) (j := 15) (by decide +kernel)
                have k49 := fBz_eq hB46 (a := 735) (j := 2) (by decide +kernel)
                have w254 : IhB25 254 = I 254 := funext (fun j => (fup_other ehB25 254 j (Or.inl (by decide))).trans ((fup_other ehB20 254 j (Or.inl (by decide))).trans (fFr_at (fFr_of hB1) 254 (by decide +kernel) rfl j)))
                have w255 : IhB25 255 = I 255 := funext (fun j => (fup_other ehB25 255 j (Or.inl (by decide))).trans ((fup_other ehB20 255 j (Or.inl (by decide))).trans (fFr_at (fFr_of hB1) 255 (by decide +kernel) rfl j)))
                have w256 : IhB25 256 = I 256 := funext (fun j => (fup_other ehB25 256 j (Or.inl (by decide))).trans ((fup_other ehB20 256 j (Or.inl (by decide))).trans (fFr_at (fFr_of hB1) 256 (by decide +kernel) rfl j)))
                have wN : IhB25 211 15 = I 211 15 := fBz_eq hB25 (by decide +kernel)
                have wS : IhB25 735 2 = I 735 2 := fBz_eq hB25 (by decide +kernel)
                have wd := sDn_of hz43 (by omega) ez42 ez43
                have we : z33 = x4 + I 254 y6.toNat := by omega
                have ws : z44 = x5 + sMo (I 735 2) (x4 + I 254 y6.toNat) (I 255 y6.toNat) := by have q := mo_of (span := I 735 2) (e := x4 + I 254 y6.toNat) w111 (by omega); rw [w99] at q; omega
                rw [w254, w255, w256, wN, wS, wd, we, ws, show (x2 + ((1 : Nat) : Int)).toNat = x2.toNat + 1 by omega] at g0z45
                exact fcutJ (I := IhB46) (j := (jc_Order_goOn_e7135_24 x2 x3 x4 x5 I)) (lv' := [(0, .inr (.inr (some 735))), (1, .inr (.inr (some 211))), (2, .inl _), (3, .inl _), (4, .inl _), (5, .inl _), (6, .inl _)]) (And.intro rfl (And.intro rfl (And.intro rfl (And.intro rfl (And.intro rfl (And.intro rfl (And.intro rfl True.intro))))))) ⟨_, _, _, _, _, rfl, rfl, ⟨by omega, (fun p s hp hs => by first | exact nf_skR (go_no (hx0 p s hp hs) (fun q => by have q1 := q.1; omega)) (by omega) (by omega) | exact nf_skR (go_no (hx0 p s hp hs) (fun q => by have q2 := q.2; omega)) (by omega) (by omega) | exact nf_skR (go_spent (hx0 p s hp hs) (by omega) ⟨by omega, by omega⟩ (by omega) (by omega) ehB20 ehB25) (by omega) (by omega) | exact nf_skR (go_rec (hx0 p s hp hs) (by omega) ⟨by omega, by omega⟩ (g0z45 (sUp p x2.toNat ((y6.toNat : Nat) : Int)) _ (path_up ehB20 ehB25 (fun i hi => (hx1 i hi).trans (hp i hi)) (by omega) rfl (by omega)) (go_in (hx0 p s hp hs) (by omega) ehB20 ehB25))) (by omega) (by omega)), (fun i hi => by first | exact (g1z45 i (by omega)).trans ((fup_other ehB25 737 i (Or.inr (by omega))).trans ((fup_other ehB20 737 i (Or.inl (by decide))).trans (hx1 i hi))) | exact ((fup_other ehB25 737 i (Or.inr (by omega))).trans ((fup_other ehB20 737 i (Or.inl (by decide))).trans (hx1 i hi))) | exact hx1 i hi)⟩, rfl⟩ (by omega)
  · have hB0 := fB_self (zn := znJ) (K := fKc wz_7628e) h0
    have b50 := fBd fb_211_15 (fBz h0 hB0)
    refine And.intro ⟨rfl, by decide, by decide⟩ (fgetf fb_211_15 h0 hB0 ?_)
    intro z51 lz51 uz51 qz51
    refine And.intro (And.intro (by first | exact fi_ ha2.1 ha2.2 rfl | omega) (by first | exact fi_ lz51 uz51 rfl | omega)) (And.intro ?_ ?_)
    · intro c52
      refine Exists.intro xm_215 (And.intro mi_215 (And.intro ⟨rfl, rfl, rfl, rfl⟩ (And.intro rfl ?_)))
      refine fcall _ h0 (fzs_sub (by decide +kernel) hW) hB0 (ct_Order_take_e8cff (fBz h0 hB0) (by first | exact ⟨ha5.1, ha5.2⟩ | omega)) ?_
      rintro IhB54 _ hB54 fhB54 ⟨rfl, hz53, g0z53⟩
      have t55 := fhB54 211 15 (by decide +kernel)
      have k56 := fBz_eq hB54 (a := 211) (j := 15) (by decide +kernel)
      have k57 := fBz_eq hB54 (a := 735) (j := 2) (by decide +kernel)
      exact ⟨rfl, True.intro, (fun p s hp hs => by rw [sk_tk (by omega)]; exact g0z53 p s (fun i hi => hp i (by omega)) hs), (fun i _ => fFr_at fhB54 737 (by decide +kernel) rfl i)⟩
    · intro c58
      refine And.intro (And.intro (by first | exact fi_ ha2.1 ha2.2 rfl | omega) (by first | exact ⟨by decide, by decide⟩ | omega)) (And.intro ?_ ?_)
      · intro c59
        exact fcutJ (I := I) (j := (jc_Order_goOn_e7135_24 x2 x3 x4 x5 I)) (lv' := [(0, .inr (.inr (some 735))), (1, .inr (.inr (some 211))), (2, .inl _), (3, .inl _), (4, .inl _), (5, .inl _), (6, .inl _)]) (And.intro rfl (And.intro rfl (And.intro rfl (And.intro rfl (And.intro rfl (And.intro rfl (And.intro rfl True.intro))))))) ⟨_, _, _, _, _, rfl, rfl, ⟨by omega, (fun p s hp hs => hs), (fun i _ => rfl)⟩, rfl⟩ (by omega)
      · intro c60
        refine Exists.intro xm_215 (And.intro mi_215 (And.intro ⟨rfl, rfl, rfl, rfl⟩ (And.intro rfl ?_)))
        refine fcall _ h0 (fzs_sub (by decide +kernel) hW) hB0 (ct_Order_take_e8cff (fBz h0 hB0) (by first | exact ⟨ha5.1, ha5.2⟩ | omega)) ?_
        rintro IhB62 _ hB62 fhB62 ⟨rfl, hz61, g0z61⟩
        have t63 := fhB62 211 15 (by decide +kernel)
        have k64 := fBz_eq hB62 (a := 211) (j := 15) (by decide +kernel)
        have k65 := fBz_eq hB62 (a := 735) (j := 2) (by decide +kernel)
        exact ⟨rfl, True.intro, (fun p s hp hs => by rw [sk_tk (by omega)]; exact g0z61 p s (fun i hi => hp i (by omega)) hs), (fun i _ => fFr_at fhB62 737 (by decide +kernel) rfl i)⟩
abbrev jc_Order_goOn_1b23c_24 (x2 : Int) (x3 : Int) (x4 : Int) (x5 : Int) (I0 : fH) : Nat → fL → List fV → fH → Prop := fun m lv st I => ∃ (y2 : Int) (y3 : Int) (y4 : Int) (y5 : Int) (y6 : Int), lv = [(0, .inr (.inr (some 735))), (1, .inr (.inr (some 211))), (2, .inl y2), (3, .inl y3), (4, .inl y4), (5, .inl y5), (6, .inl y6)] ∧ st = [] ∧ (((0 ≤ y2 ∧ y2 ≤ 0) ∧ (0 ≤ y3 ∧ y3 ≤ 0) ∧ (0 ≤ y4 ∧ y4 ≤ 0) ∧ (0 ≤ y5 ∧ y5 ≤ 0) ∧ (0 ≤ y6 ∧ y6 ≤ 7) ∧ (1 ≤ I 211 15 ∧ I 211 15 ≤ 7) ∧ (y2 = x2) ∧ (y3 = x3) ∧ (y4 = x4) ∧ (y5 = x5) ∧ (x2 < I0 211 15) ∧ (y6 ≤ I0 211 15)) ∧ (∀ (p : Nat → Int) (s : sSt), (∀ i : Nat, (i : Int) < x2 → I0 737 i = p i) → skR (I0 211 15).toNat s I0 → skR (I0 211 15).toNat (nf (sGo (I0 254) (I0 255) (I0 256) (I0 735 2) (sSk (I0 211 15).toNat (I0 254) (I0 255) (I0 256) (I0 735 2) 6) x2.toNat x3 x4 x5 p) s y6.toNat) I) ∧ (∀ i : Nat, (i : Int) < x2 → I 737 i = I0 737 i)) ∧ m = (1 + 1 * (7 - y6) : Int).toNat
set_option maxRecDepth 8000 in
theorem ct_Order_goOn_1b23c {I : fH} {x2 : Int} {x3 : Int} {x4 : Int} {x5 : Int} (h0 : fB bsJ I) (ha2 : (0 ≤ x2 ∧ x2 ≤ 0)) (ha3 : (0 ≤ x3 ∧ x3 ≤ 0)) (ha4 : (0 ≤ x4 ∧ x4 ≤ 0)) (ha5 : (0 ≤ x5 ∧ x5 ≤ 0)) (hp0 : 0 ≤ x5 ∧ x5 ≤ 5940 * x2) (hp1 : 0 ≤ I 735 2 ∧ I 735 2 ≤ 60) : fC ρ base n F xTc vwCl xTys D dA la gJ (fbz bsJ znJ (fKc wz_7628e) I) xm_214 [.inr (.inr (some 735)), .inr (.inr (some 211)), .inl x2, .inl x3, .inl x4, .inl x5] I (fun I' r => r = none ∧ True ∧ (∀ (p : Nat → Int) (s : sSt), (∀ i : Nat, (i : Int) < x2 → I 737 i = p i) → skR (I 211 15).toNat s I → skR (I 211 15).toNat (sSk (I 211 15).toNat (I 254) (I 255) (I 256) (I 735 2) 7 x2.toNat x3 x4 x5 p s) I') ∧ (∀ i : Nat, (i : Int) < x2 → I' 737 i = I 737 i)) := by
  have hW : fzs wz_7628e (fKc wz_7628e) := fKc_ok _
  refine f_meth (rb := rbJ) (J := [(24, (jc_Order_goOn_1b23c_24 x2 x3 x4 x5 I))]) 9 400 xG xin_214 x6_214 okJ (fB_self h0) ?_ ?_
  · refine List.forall_mem_cons.mpr ⟨?_, fun q h => absurd h List.not_mem_nil⟩
    · rintro m _ _ I1 hB1 ⟨y2, y3, y4, y5, y6, rfl, rfl, ⟨hb, hx0, hx1⟩, hm⟩
      have k1 := fBz_eq hB1 (a := 211) (j := 15) (by decide +kernel)
      have k2 := fBz_eq hB1 (a := 735) (j := 2) (by decide +kernel)
      have b3 := fBd fb_211_15 (fBz h0 hB1)
      have ey2 : x2 = y2 := by omega
      subst ey2
      have ey3 : x3 = y3 := by omega
      subst ey3
      have ey4 : x4 = y4 := by omega
      subst ey4
      have ey5 : x5 = y5 := by omega
      subst ey5
      refine And.intro ⟨rfl, by decide, by decide⟩ (fgetf fb_211_15 h0 hB1 ?_)
      intro z4 lz4 uz4 qz4
      refine And.intro (And.intro (by first | exact fi_ hb.2.2.2.2.1.1 hb.2.2.2.2.1.2 rfl | omega) (by first | exact fi_ lz4 uz4 rfl | omega)) (And.intro ?_ ?_)
      · intro c5
        exact ⟨rfl, True.intro, (fun p s hp hs => by rw [sk_go (by omega)]; exact sk_end (hx0 p s hp hs) (by omega) (by omega)), hx1⟩
      · intro c6
        refine And.intro ⟨rfl, by decide, by decide⟩ (fgetf fb_735_3 h0 hB1 ?_)
        intro z7 lz7 uz7 qz7
        refine And.intro (by first | exact fi_ lz7 uz7 rfl | omega) (And.intro ?_ ?_)
        · intro c8
          exact ⟨rfl, True.intro, (fun p s hp hs => by rw [sk_go (by omega)]; exact sk_end (hx0 p s hp hs) (by omega) (by omega)), hx1⟩
        · intro c9
          intro z10 hz10 ez10
          intro z11 hz11 ez11 bz11
          have bz11 := bz11 (by omega)
          have wb := bt_of hz11 ez10 ez11 (by omega)
          refine And.intro (by first | exact fi_ bz11.1 bz11.2 rfl | omega) (And.intro ?_ ?_)
          · intro c12
            exact fcutJ (I := I1) (j := (jc_Order_goOn_1b23c_24 x2 x3 x4 x5 I)) (lv' := [(0, .inr (.inr (some 735))), (1, .inr (.inr (some 211))), (2, .inl _), (3, .inl _), (4, .inl _), (5, .inl _), (6, .inl _)]) (And.intro rfl (And.intro rfl (And.intro rfl (And.intro rfl (And.intro rfl (And.intro rfl (And.intro rfl True.intro))))))) ⟨_, _, _, _, _, rfl, rfl, ⟨by omega, (fun p s hp hs => by first | exact nf_skR (go_no (hx0 p s hp hs) (fun q => by have q1 := q.1; omega)) (by omega) (by omega) | exact nf_skR (go_no (hx0 p s hp hs) (fun q => by have q2 := q.2; omega)) (by omega) (by omega) | exact nf_skR (go_spent (hx0 p s hp hs) (by omega) ⟨by omega, by omega⟩ (by omega) (by omega) enil0 enil0) (by omega) (by omega) | exact nf_skR (go_rec (hx0 p s hp hs) (by omega) ⟨by omega, by omega⟩ (g0nil0 (sUp p x2.toNat ((y6.toNat : Nat) : Int)) _ (path_up enil0 enil0 (fun i hi => (hx1 i hi).trans (hp i hi)) (by omega) rfl (by omega)) (go_in (hx0 p s hp hs) (by omega) enil0 enil0))) (by omega) (by omega)), (fun i hi => by first | exact (g1nil0 i (by omega)).trans ((fup_other enil0 737 i (Or.inr (by omega))).trans ((fup_other enil0 737 i (Or.inl (by decide))).trans (hx1 i hi))) | exact ((fup_other enil0 737 i (Or.inr (by omega))).trans ((fup_other enil0 737 i (Or.inl (by decide))).trans (hx1 i hi))) | exact hx1 i hi)⟩, rfl⟩ (by omega)
          · intro c13
            refine And.intro ⟨rfl, by decide, by decide⟩ ?_
            refine fload1 rL_256_256_0_6_1_0 h0 hB1 ⟨by decide, by decide⟩ (by first | exact ⟨hb.2.2.2.2.1.1, Int.le_trans (Int.le_sub_one_of_lt (Int.lt_of_lt_of_le c6 uz4)) (by decide)⟩ | omega) ?_
            intro z14 lz14 uz14 qz14
            intro z15 hz15 ez15
            intro z16 hz16 ez16 bz16
            clear bz16
            have wa := sAh_of hz16 ez15 ez16
            rw [qz14, fFr_at (fFr_of hB1) 256 (by decide +kernel) rfl] at wa
            refine And.intro (by omega) (And.intro ?_ ?_)
            · intro c17
              exact fcutJ (I := I1) (j := (jc_Order_goOn_1b23c_24 x2 x3 x4 x5 I)) (lv' := [(0, .inr (.inr (some 735))), (1, .inr (.inr (some 211))), (2, .inl _), (3, .inl _), (4, .inl _), (5, .inl _), (6, .inl _)]) (And.intro rfl (And.intro rfl (And.intro rfl (And.intro rfl (And.intro rfl (And.intro rfl (And.intro rfl True.intro))))))) ⟨_, _, _, _, _, rfl, rfl, ⟨by omega, (fun p s hp hs => by first | exact nf_skR (go_no (hx0 p s hp hs) (fun q => by have q1 := q.1; omega)) (by omega) (by omega) | exact nf_skR (go_no (hx0 p s hp hs) (fun q => by have q2 := q.2; omega)) (by omega) (by omega) | exact nf_skR (go_spent (hx0 p s hp hs) (by omega) ⟨by omega, by omega⟩ (by omega) (by omega) enil0 enil0) (by omega) (by omega) | exact nf_skR (go_rec (hx0 p s hp hs) (by omega) ⟨by omega, by omega⟩ (g0nil0 (sUp p x2.toNat ((y6.toNat : Nat) : Int)) _ (path_up enil0 enil0 (fun i hi => (hx1 i hi).trans (hp i hi)) (by omega) rfl (by omega)) (go_in (hx0 p s hp hs) (by omega) enil0 enil0))) (by omega) (by omega)), (fun i hi => by first | exact (g1nil0 i (by omega)).trans ((fup_other enil0 737 i (Or.inr (by omega))).trans ((fup_other enil0 737 i (Or.inl (by decide))).trans (hx1 i hi))) | exact ((fup_other enil0 737 i (Or.inr (by omega))).trans ((fup_other enil0 737 i (Or.inl (by decide))).trans (hx1 i hi))) | exact hx1 i hi)⟩, rfl⟩ (by omega)
            · intro c18
              refine And.intro ⟨rfl, by decide, by decide⟩ (fgetf fb_735_3 h0 hB1 ?_)
              intro z19 lz19 uz19 qz19
              refine And.intro ⟨rfl, by decide, by decide⟩ (And.intro rfl (And.intro (Or.inl rfl) (fputf fb_735_3 (by decide +kernel) hW (by omega) ?_)))
              intro IhB20 ehB20 hB20
              have t21 : IhB20 211 15 = I1 211 15 := (congrFun (congrFun ehB20 211) 15).trans (fup_ne (by first | decide | omega))
              have t22 := fup_at ehB20 3 (by first | rfl | omega)
              have k23 := fBz_eq hB20 (a := 211) (j := 15) (by decide +kernel)
              have k24 := fBz_eq hB20 (a := 735) (j := 2) (by decide +kernel)
              refine And.intro ⟨rfl, by decide, by decide⟩ ?_
              refine fstore1 rS_737_737_0_6_1_0 (fzs_sub (by decide +kernel) hW) ⟨by decide, by decide⟩ (by first | exact ⟨hb.1.1, Int.le_trans hb.1.2 (by decide)⟩ | omega) (by first | exact ⟨hb.2.2.2.2.1.1, Int.le_trans (Int.le_sub_one_of_lt (Int.lt_of_lt_of_le c6 uz4)) (by decide)⟩ | omega) ?_
              intro IhB25 ehB25 hB25
              have t26 := fup_self ehB25
              have t27 : IhB25 211 15 = IhB20 211 15 := (congrFun (congrFun ehB25 211) 15).trans (fup_ne (by first | decide | omega))
              have t28 : IhB25 735 3 = IhB20 735 3 := (congrFun (congrFun ehB25 735) 3).trans (fup_ne (by first | decide | omega))
              have t29 := fup_at ehB25 0 (by first | rfl | omega)
              have k30 := fBz_eq hB25 (a := 211) (j := 15) (by decide +kernel)
              have k31 := fBz_eq hB25 (a := 735) (j := 2) (by decide +kernel)
              refine And.intro ⟨rfl, by decide, by decide⟩ ?_
              refine fload1 rL_254_254_0_6_1_0 h0 hB25 ⟨by decide, by decide⟩ (by first | exact ⟨hb.2.2.2.2.1.1, Int.le_trans (Int.le_sub_one_of_lt (Int.lt_of_lt_of_le c6 uz4)) (by decide)⟩ | omega) ?_
              intro z32 lz32 uz32 qz32
              have w89 := qz32.trans ((fun j => (fup_other ehB25 254 j (Or.inl (by decide))).trans ((fup_other ehB20 254 j (Or.inl (by decide))).trans (fFr_at (fFr_of hB1) 254 (by decide +kernel) rfl j))) _)
              intro z33 hz33 ez33 bz33
              have bz33 := bz33 (by omega)
              refine And.intro ⟨rfl, by decide, by decide⟩ ?_
              refine fload1 rL_255_255_0_6_1_0 h0 hB25 ⟨by decide, by decide⟩ (by first | exact ⟨hb.2.2.2.2.1.1, Int.le_trans (Int.le_sub_one_of_lt (Int.lt_of_lt_of_le c6 uz4)) (by decide)⟩ | omega) ?_
              intro z34 lz34 uz34 qz34
              have w99 := qz34.trans ((fun j => (fup_other ehB25 255 j (Or.inl (by decide))).trans ((fup_other ehB20 255 j (Or.inl (by decide))).trans (fFr_at (fFr_of hB1) 255 (by decide +kernel) rfl j))) _)
              refine And.intro ⟨rfl, by decide, by decide⟩ (fgetf fb_735_2 h0 hB25 ?_)
              intro z35 lz35 uz35 qz35
              intro z36 hz36 ez36 bz36
              try replace bz36 := bz36 (by omega)
              refine And.intro (And.intro (by first | exact ⟨by decide, by decide⟩ | omega) (And.intro (by omega) rfl)) ?_
              intro z37 hz37
              intro z38 hz38 ez38 bz38
              try replace bz38 := bz38 (by omega)
              have w110 := mul_bd (a := z34) (b := z37) (by omega) (by omega)
              have w111 := bz38 (by omega)
              refine And.intro ⟨rfl, by decide, by decide⟩ (fgetf fb_735_3 h0 hB25 ?_)
              intro z39 lz39 uz39 qz39
              refine And.intro (by first | exact fi_ lz39 uz39 rfl | omega) (And.intro ?_ ?_)
              · intro c40
                exact fcutJ (I := IhB25) (j := (jc_Order_goOn_1b23c_24 x2 x3 x4 x5 I)) (lv' := [(0, .inr (.inr (some 735))), (1, .inr (.inr (some 211))), (2, .inl _), (3, .inl _), (4, .inl _), (5, .inl _), (6, .inl _)]) (And.intro rfl (And.intro rfl (And.intro rfl (And.intro rfl (And.intro rfl (And.intro rfl (And.intro rfl True.intro))))))) ⟨_, _, _, _, _, rfl, rfl, ⟨by omega, (fun p s hp hs => by first | exact nf_skR (go_no (hx0 p s hp hs) (fun q => by have q1 := q.1; omega)) (by omega) (by omega) | exact nf_skR (go_no (hx0 p s hp hs) (fun q => by have q2 := q.2; omega)) (by omega) (by omega) | exact nf_skR (go_spent (hx0 p s hp hs) (by omega) ⟨by omega, by omega⟩ (by omega) (by omega) ehB20 ehB25) (by omega) (by omega) | exact nf_skR (go_rec (hx0 p s hp hs) (by omega) ⟨by omega, by omega⟩ (g0nil0 (sUp p x2.toNat ((y6.toNat : Nat) : Int)) _ (path_up ehB20 ehB25 (fun i hi => (hx1 i hi).trans (hp i hi)) (by omega) rfl (by omega)) (go_in (hx0 p s hp hs) (by omega) ehB20 ehB25))) (by omega) (by omega)), (fun i hi => by first | exact (g1nil0 i (by omega)).trans ((fup_other ehB25 737 i (Or.inr (by omega))).trans ((fup_other ehB20 737 i (Or.inl (by decide))).trans (hx1 i hi))) | exact ((fup_other ehB25 737 i (Or.inr (by omega))).trans ((fup_other ehB20 737 i (Or.inl (by decide))).trans (hx1 i hi))) | exact hx1 i hi)⟩, rfl⟩ (by omega)
              · intro c41
                intro z42 hz42 ez42
                intro z43 hz43 ez43
                intro z44 hz44 ez44 bz44
                try replace bz44 := bz44 (by omega)
                refine Exists.intro xm_213 (And.intro mi_213 (And.intro ⟨rfl, rfl, rfl, rfl⟩ (And.intro rfl ?_)))
                refine fcall _ h0 (fzs_sub (by decide +kernel) hW) hB25 (ct_Order_goOn_e7135 (fBz h0 hB25) (by omega) (by omega) (by omega) (by omega) (by omega) (by omega)) ?_
                rintro IhB46 _ hB46 fhB46 ⟨rfl, hz45, g0z45, g1z45⟩
                have t47 := fhB46 211 15 (by decide +kernel)
                have k48 := fBz_eq hB46 (a := 211) (j := 15) (by decide +kernel)
                have k49 := fBz_eq hB46 (a := 735) (j := 2) (by decide +kernel)
                have w254 : IhB25 254 = I 254 := funext (fun j => (fup_other ehB25 254 j (Or.inl (by decide))).trans ((fup_other ehB20 254 j (Or.inl (by decide))).trans (fFr_at (fFr_of hB1) 254 (by decide +kernel) rfl j)))
                have w255 : IhB25 255 = I 255 := funext (fun j => (fup_other ehB25 255 j (Or.inl (by decide))).trans ((fup_other ehB20 255 j (Or.inl (by decide))).trans (fFr_at (fFr_of hB1) 255 (by decide +kernel) rfl j)))
                have w256 : IhB25 256 = I 256 := funext (fun j => (fup_other ehB25 256 j (Or.inl (by decide))).trans ((fup_other ehB20 256 j (Or.inl (by decide))).trans (fFr_at (fFr_of hB1) 256 (by decide +kernel) rfl j)))
                have wN : IhB25 211 15 = I 211 15 := fBz_eq hB25 (by decide +kernel)
                have wS : IhB25 735 2 = I 735 2 := fBz_eq hB25 (by decide +kernel)
                have wd := sDn_of hz43 (by omega) ez42 ez43
                have we : z33 = x4 + I 254 y6.toNat := by omega
                have ws : z44 = x5 + sMo (I 735 2) (x4 + I 254 y6.toNat) (I 255 y6.toNat) := by have q := mo_of (span := I 735 2) (e := x4 + I 254 y6.toNat) w111 (by omega); rw [w99] at q; omega
                rw [w254, w255, w256, wN, wS, wd, we, ws, show (x2 + ((1 : Nat) : Int)).toNat = x2.toNat + 1 by omega] at g0z45
                exact fcutJ (I := IhB46) (j := (jc_Order_goOn_1b23c_24 x2 x3 x4 x5 I)) (lv' := [(0, .inr (.inr (some 735))), (1, .inr (.inr (some 211))), (2, .inl _), (3, .inl _), (4, .inl _), (5, .inl _), (6, .inl _)]) (And.intro rfl (And.intro rfl (And.intro rfl (And.intro rfl (And.intro rfl (And.intro rfl (And.intro rfl True.intro))))))) ⟨_, _, _, _, _, rfl, rfl, ⟨by omega, (fun p s hp hs => by first | exact nf_skR (go_no (hx0 p s hp hs) (fun q => by have q1 := q.1; omega)) (by omega) (by omega) | exact nf_skR (go_no (hx0 p s hp hs) (fun q => by have q2 := q.2; omega)) (by omega) (by omega) | exact nf_skR (go_spent (hx0 p s hp hs) (by omega) ⟨by omega, by omega⟩ (by omega) (by omega) ehB20 ehB25) (by omega) (by omega) | exact nf_skR (go_rec (hx0 p s hp hs) (by omega) ⟨by omega, by omega⟩ (g0z45 (sUp p x2.toNat ((y6.toNat : Nat) : Int)) _ (path_up ehB20 ehB25 (fun i hi => (hx1 i hi).trans (hp i hi)) (by omega) rfl (by omega)) (go_in (hx0 p s hp hs) (by omega) ehB20 ehB25))) (by omega) (by omega)), (fun i hi => by first | exact (g1z45 i (by omega)).trans ((fup_other ehB25 737 i (Or.inr (by omega))).trans ((fup_other ehB20 737 i (Or.inl (by decide))).trans (hx1 i hi))) | exact ((fup_other ehB25 737 i (Or.inr (by omega))).trans ((fup_other ehB20 737 i (Or.inl (by decide))).trans (hx1 i hi))) | exact hx1 i hi)⟩, rfl⟩ (by omega)
  · have hB0 := fB_self (zn := znJ) (K := fKc wz_7628e) h0
    have b50 := fBd fb_211_15 (fBz h0 hB0)
    refine And.intro ⟨rfl, by decide, by decide⟩ (fgetf fb_211_15 h0 hB0 ?_)
    intro z51 lz51 uz51 qz51
    refine And.intro (And.intro (by first | exact fi_ ha2.1 ha2.2 rfl | omega) (by first | exact fi_ lz51 uz51 rfl | omega)) (And.intro ?_ ?_)
    · intro c52
      refine Exists.intro xm_215 (And.intro mi_215 (And.intro ⟨rfl, rfl, rfl, rfl⟩ (And.intro rfl ?_)))
      refine fcall _ h0 (fzs_sub (by decide +kernel) hW) hB0 (ct_Order_take_e8cff (fBz h0 hB0) (by first | exact ⟨Int.le_trans (by decide) ha5.1, Int.le_trans ha5.2 (by decide)⟩ | omega)) ?_
      rintro IhB54 _ hB54 fhB54 ⟨rfl, hz53, g0z53⟩
      have t55 := fhB54 211 15 (by decide +kernel)
      have k56 := fBz_eq hB54 (a := 211) (j := 15) (by decide +kernel)
      have k57 := fBz_eq hB54 (a := 735) (j := 2) (by decide +kernel)
      exact ⟨rfl, True.intro, (fun p s hp hs => by rw [sk_tk (by omega)]; exact g0z53 p s (fun i hi => hp i (by omega)) hs), (fun i _ => fFr_at fhB54 737 (by decide +kernel) rfl i)⟩
    · intro c58
      refine And.intro (And.intro (by first | exact fi_ ha2.1 ha2.2 rfl | omega) (by first | exact ⟨by decide, by decide⟩ | omega)) (And.intro ?_ ?_)
      · intro c59
        exact fcutJ (I := I) (j := (jc_Order_goOn_1b23c_24 x2 x3 x4 x5 I)) (lv' := [(0, .inr (.inr (some 735))), (1, .inr (.inr (some 211))), (2, .inl _), (3, .inl _), (4, .inl _), (5, .inl _), (6, .inl _)]) (And.intro rfl (And.intro rfl (And.intro rfl (And.intro rfl (And.intro rfl (And.intro rfl (And.intro rfl True.intro))))))) ⟨_, _, _, _, _, rfl, rfl, ⟨by omega, (fun p s hp hs => hs), (fun i _ => rfl)⟩, rfl⟩ (by omega)
      · intro c60
        refine Exists.intro xm_215 (And.intro mi_215 (And.intro ⟨rfl, rfl, rfl, rfl⟩ (And.intro rfl ?_)))
        refine fcall _ h0 (fzs_sub (by decide +kernel) hW) hB0 (ct_Order_take_e8cff (fBz h0 hB0) (by first | exact ⟨Int.le_trans (by decide) ha5.1, Int.le_trans ha5.2 (by decide)⟩ | omega)) ?_
        rintro IhB62 _ hB62 fhB62 ⟨rfl, hz61, g0z61⟩
        have t63 := fhB62 211 15 (by decide +kernel)
        have k64 := fBz_eq hB62 (a := 211) (j := 15) (by decide +kernel)
        have k65 := fBz_eq hB62 (a := 735) (j := 2) (by decide +kernel)
        exact ⟨rfl, True.intro, (fun p s hp hs => by rw [sk_tk (by omega)]; exact g0z61 p s (fun i hi => hp i (by omega)) hs), (fun i _ => fFr_at fhB62 737 (by decide +kernel) rfl i)⟩
set_option maxRecDepth 8000 in
theorem ct_Order_bestSum_ae03f {I : fH} {x2 : Int} {x3 : Int} (h0 : fB bsJ I) (ha2 : (1 ≤ x2 ∧ x2 ≤ 60)) (ha3 : (1 ≤ x3 ∧ x3 ≤ 20000)) : fC ρ base n F xTc vwCl xTys D dA la gJ (fbz bsJ znJ (fKc wz_79e74) I) xm_206 [.inr (.inr (some 735)), .inr (.inr (some 211)), .inl x2, .inl x3] I (fun I' r => ∃ z, r = some (.inl z) ∧ ((-2147483648) ≤ z ∧ z ≤ 2147483647) ∧ (z = bsZ (bsF (I 211 15).toNat (I 254) (I 255) (I 256) x2 x3)) ∧ ((bsF (I 211 15).toNat (I 254) (I 255) (I 256) x2 x3).2.1 ≠ -1000000002 → ∀ i : Nat, i < (I 211 15).toNat → I' 736 i = (bsF (I 211 15).toNat (I 254) (I 255) (I 256) x2 x3).2.2 i)) := by
  have hW : fzs wz_79e74 (fKc wz_79e74) := fKc_ok _
  refine f_meth (rb := rbJ) (J := []) 1 400 xG xin_206 x6_206 okJ (fB_self h0) ?_ ?_
  · exact fun q h => absurd h List.not_mem_nil
  · have hB0 := fB_self (zn := znJ) (K := fKc wz_79e74) h0
    have b1 := fBd fb_211_15 (fBz h0 hB0)
    refine And.intro ⟨rfl, by decide, by decide⟩ (And.intro rfl (And.intro (Or.inl rfl) (fputf fb_735_2 (by decide +kernel) hW (by first | exact ⟨Int.le_trans (by decide) ha2.1, Int.le_trans ha2.2 (by decide)⟩ | omega) ?_)))
    intro IhB2 ehB2 hB2
    have t3 := fup_at ehB2 2 (by first | rfl | omega)
    have t4 : IhB2 735 3 = I 735 3 := (congrFun (congrFun ehB2 735) 3).trans (fup_ne (by first | decide | omega))
    have t5 : IhB2 735 4 = I 735 4 := (congrFun (congrFun ehB2 735) 4).trans (fup_ne (by first | decide | omega))
    refine And.intro ⟨rfl, by decide, by decide⟩ (And.intro rfl (And.intro (Or.inl rfl) (fputf fb_735_3 (by decide +kernel) hW (by first | exact ⟨Int.le_trans (by decide) ha3.1, Int.le_trans ha3.2 (by decide)⟩ | omega) ?_)))
    intro IhB6 ehB6 hB6
    have t7 : IhB6 735 2 = IhB2 735 2 := (congrFun (congrFun ehB6 735) 2).trans (fup_ne (by first | decide | omega))
    have t8 := fup_at ehB6 3 (by first | rfl | omega)
    have t9 : IhB6 735 4 = IhB2 735 4 := (congrFun (congrFun ehB6 735) 4).trans (fup_ne (by first | decide | omega))
    refine And.intro ⟨rfl, by decide, by decide⟩ (And.intro rfl (And.intro (Or.inl rfl) (fputf fb_735_4 (by decide +kernel) hW (by first | exact ⟨by decide, by decide⟩ | omega) ?_)))
    intro IhB10 ehB10 hB10
    have t11 : IhB10 735 2 = IhB6 735 2 := (congrFun (congrFun ehB10 735) 2).trans (fup_ne (by first | decide | omega))
    have t12 : IhB10 735 3 = IhB6 735 3 := (congrFun (congrFun ehB10 735) 3).trans (fup_ne (by first | decide | omega))
    have t13 := fup_at ehB10 4 (by first | rfl | omega)
    refine Exists.intro xm_214 (And.intro mi_214 (And.intro ⟨rfl, rfl, rfl, rfl⟩ (And.intro rfl ?_)))
    refine fcall _ h0 (fzs_sub (by decide +kernel) hW) hB10 (ct_Order_goOn_1b23c (fBz h0 hB10) (by first | exact ⟨by decide, by decide⟩ | omega) (by first | exact ⟨by decide, by decide⟩ | omega) (by first | exact ⟨by decide, by decide⟩ | omega) (by first | exact ⟨by decide, by decide⟩ | omega) (by omega) (by omega)) ?_
    rintro IhB15 _ hB15 fhB15 ⟨rfl, hz14, g0z14, g1z14⟩
    have t16 := fhB15 735 2 (by decide +kernel)
    have w254 : IhB10 254 = I 254 := funext (fun j => (fup_other ehB10 254 j (Or.inl (by decide))).trans ((fup_other ehB6 254 j (Or.inl (by decide))).trans (fup_other ehB2 254 j (Or.inl (by decide)))))
    have w255 : IhB10 255 = I 255 := funext (fun j => (fup_other ehB10 255 j (Or.inl (by decide))).trans ((fup_other ehB6 255 j (Or.inl (by decide))).trans (fup_other ehB2 255 j (Or.inl (by decide)))))
    have w256 : IhB10 256 = I 256 := funext (fun j => (fup_other ehB10 256 j (Or.inl (by decide))).trans ((fup_other ehB6 256 j (Or.inl (by decide))).trans (fup_other ehB2 256 j (Or.inl (by decide)))))
    have wN : IhB10 211 15 = I 211 15 := (fun j => (fup_other ehB10 211 j (Or.inl (by decide))).trans ((fup_other ehB6 211 j (Or.inl (by decide))).trans (fup_other ehB2 211 j (Or.inl (by decide))))) 15
    have wS : IhB10 735 2 = x2 := by omega
    have w22 := g0z14 (fun _ => 0) (x3, -1000000002, fun _ => 0) (fun i hi => absurd hi (by omega)) (bs_in (by omega) (by omega))
    rw [w254, w255, w256, wN, wS] at w22
    refine And.intro ⟨rfl, by decide, by decide⟩ (fgetf fb_735_3 h0 hB15 ?_)
    intro z17 lz17 uz17 qz17
    refine And.intro (by first | exact fi_ lz17 uz17 rfl | omega) (And.intro ?_ ?_)
    · intro c18
      refine And.intro ⟨rfl, by decide, by decide⟩ (fgetf fb_735_4 h0 hB15 ?_)
      intro z19 lz19 uz19 qz19
      refine And.intro (True.intro) ?_
      exact ⟨_, rfl, (by first | exact ⟨lz19, uz19⟩ | omega), (bs_z w22 (by omega)), w22.2.2⟩
    · intro c20
      refine And.intro (True.intro) ?_
      exact ⟨_, rfl, (by first | exact ⟨by decide, by decide⟩ | omega), (bs_z w22 (by omega)), w22.2.2⟩
set_option maxRecDepth 8000 in
theorem ct_X_plan_77562 {I : fH} {x1 : Int} {x2 : Int} (h0 : fB bsJ I) (ha1 : ((-2147483648) ≤ x1 ∧ x1 ≤ 2147483647)) (ha2 : ((-2147483648) ≤ x2 ∧ x2 ≤ 2147483647)) : fC ρ base n F xTc vwCl xTys D dA la gJ (fbz bsJ znJ (fKc wz_79e74) I) xm_205 [.inr (.inr (some 0)), .inl x1, .inl x2] I (fun _ r => ∃ z, r = some (.inl z) ∧ ((-2147483648) ≤ z ∧ z ≤ 2147483647) ∧ (((1 ≤ x1 ∧ x1 ≤ 60 ∧ 1 ≤ x2 ∧ x2 ≤ 20000) ∧ z = bsZ (bsF (I 211 15).toNat (I 254) (I 255) (I 256) x1 x2)) ∨ (¬ (1 ≤ x1 ∧ x1 ≤ 60 ∧ 1 ≤ x2 ∧ x2 ≤ 20000) ∧ z = (-1000000001)))) := by
  have hW : fzs wz_79e74 (fKc wz_79e74) := fKc_ok _
  refine f_meth (rb := rbJ) (J := []) 1 400 xG xin_205 x6_205 okJ (fB_self h0) ?_ ?_
  · exact fun q h => absurd h List.not_mem_nil
  · have hB0 := fB_self (zn := znJ) (K := fKc wz_79e74) h0
    refine Exists.intro xm_13 (And.intro mi_13 (And.intro ⟨rfl, rfl, rfl, rfl⟩ (And.intro True.intro ?_)))
    refine fcallp hB0 (ct_X_within_c27b1 (fBz h0 hB0) (by first | exact ⟨ha1.1, ha1.2⟩ | omega) (by first | exact ⟨by decide, by decide⟩ | omega) (by first | exact ⟨by decide, by decide⟩ | omega)) ?_
    rintro _ ⟨z1, rfl, hz1⟩
    refine And.intro (by omega) (And.intro ?_ ?_)
    · intro c2
      refine And.intro (True.intro) ?_
      exact ⟨_, rfl, (by first | exact ⟨by decide, by decide⟩ | omega), (by first | exact Or.inl ⟨by omega, g0nil0⟩ | exact Or.inr ⟨by omega, by omega⟩)⟩
    · intro c3
      refine Exists.intro xm_13 (And.intro mi_13 (And.intro ⟨rfl, rfl, rfl, rfl⟩ (And.intro True.intro ?_)))
      refine fcallp hB0 (ct_X_within_c27b1 (fBz h0 hB0) (by first | exact ⟨ha2.1, ha2.2⟩ | omega) (by first | exact ⟨by decide, by decide⟩ | omega) (by first | exact ⟨by decide, by decide⟩ | omega)) ?_
      rintro _ ⟨z4, rfl, hz4⟩
      refine And.intro (by omega) (And.intro ?_ ?_)
      · intro c5
        refine And.intro ⟨rfl, by decide, by decide⟩ ?_
        refine And.intro ⟨rfl, by decide, by decide⟩ ?_
        refine Exists.intro xm_206 (And.intro mi_206 (And.intro ⟨rfl, rfl, rfl, rfl⟩ (And.intro rfl ?_)))
        refine fcall _ h0 (fzs_sub (by decide +kernel) hW) hB0 (ct_Order_bestSum_ae03f (fBz h0 hB0) (by first | exact ⟨Int.le_trans (by decide) (Int.le_trans (Int.le_refl _) hz1.1), Int.le_trans (Int.le_trans hz1.2 (Int.le_refl _)) (by decide)⟩ | omega) (by first | exact ⟨Int.le_trans (by decide) (Int.le_trans (Int.le_refl _) hz4.1), Int.le_trans (Int.le_trans hz4.2 (Int.le_refl _)) (by decide)⟩ | omega)) ?_
        rintro IhB7 _ hB7 fhB7 ⟨z6, rfl, hz6, g0z6, g1z6⟩
        refine And.intro (True.intro) ?_
        exact ⟨_, rfl, (by first | exact ⟨hz6.1, hz6.2⟩ | omega), (by first | exact Or.inl ⟨by omega, g0z6⟩ | exact Or.inr ⟨by omega, by omega⟩)⟩
      · intro c8
        refine And.intro (True.intro) ?_
        exact ⟨_, rfl, (by first | exact ⟨by decide, by decide⟩ | omega), (by first | exact Or.inl ⟨by omega, g0z6⟩ | exact Or.inr ⟨by omega, by omega⟩)⟩
abbrev jc_M_seek_c83ec_29 (x2 : Int) (x5 : Int) (I0 : fH) : Nat → fL → List fV → fH → Prop := fun m lv st I => ∃ (y2 : Int) (y6 : Int), lv = [(0, .inr (.inr (some 740))), (2, .inl y2), (6, .inl y6)] ∧ st = [] ∧ (((7 ≤ y2 ∧ y2 ≤ 7) ∧ (0 ≤ y6 ∧ y6 ≤ 7) ∧ ((-2147483647) ≤ I 740 33 ∧ I 740 33 ≤ 2147483647) ∧ (7 ≤ I 741 12 ∧ I 741 12 ≤ 7) ∧ (y2 = x2) ∧ (x2 = I0 741 12) ∧ (I 740 33 = x5) ∧ (I0 740 33 < x5) ∧ (I 740 34 = I0 740 34) ∧ (I 740 35 = I0 740 35) ∧ (y6 ≤ x2)) ∧ (∀ i : Nat, (i : Int) < y6 → I 758 i = I0 757 i) ∧ (∀ i : Nat, I 757 i = I0 757 i)) ∧ m = (8 + 1 * (7 - y6) : Int).toNat
abbrev jc_M_seek_c83ec_59 (x1 : Int) (x2 : Int) (x3 : Int) (x4 : Int) (x5 : Int) (I0 : fH) : Nat → fL → List fV → fH → Prop := fun m lv st I => ∃ (y1 : Int) (y2 : Int) (y3 : Int) (y4 : Int) (y5 : Int) (y6 : Int), lv = [(0, .inr (.inr (some 740))), (1, .inl y1), (2, .inl y2), (3, .inl y3), (4, .inl y4), (5, .inl y5), (6, .inl y6)] ∧ st = [] ∧ (((1 ≤ y1 ∧ y1 ≤ 60) ∧ (7 ≤ y2 ∧ y2 ≤ 7) ∧ ((-2147483648) ≤ y3 ∧ y3 ≤ 2147483647) ∧ (0 ≤ y4 ∧ y4 ≤ 63) ∧ ((-2147483648) ≤ y5 ∧ y5 ≤ 2147483647) ∧ (0 ≤ y6 ∧ y6 ≤ 6) ∧ (0 ≤ I 741 12 ∧ I 741 12 ≤ 6) ∧ (y2 < I 741 12) ∧ (y1 = x1) ∧ (y2 = x2) ∧ (y3 = x3) ∧ (y4 = x4) ∧ (y5 = x5) ∧ (x2 < I0 741 12) ∧ (y6 ≤ I0 741 12)) ∧ (∀ (p : Nat → Int) (s : sSt), (∀ i : Nat, (i : Int) < x2 → I0 757 i = p i) → skQ (I0 741 12).toNat s I0 → skQ (I0 741 12).toNat (nf (sGo (fun b => I0 741 (4370 + 3 * b)) (fun b => I0 741 (4371 + 3 * b)) (fun b => I0 741 (4372 + 3 * b)) x1 (sSk (I0 741 12).toNat (fun b => I0 741 (4370 + 3 * b)) (fun b => I0 741 (4371 + 3 * b)) (fun b => I0 741 (4372 + 3 * b)) x1 0) x2.toNat x3 x4 x5 p) s y6.toNat) I) ∧ (∀ i : Nat, (i : Int) < x2 → I 757 i = I0 757 i)) ∧ m = (1 + 1 * (6 - y6) : Int).toNat
set_option maxRecDepth 8000 in
theorem ct_M_seek_c83ec {I : fH} {x1 : Int} {x2 : Int} {x3 : Int} {x4 : Int} {x5 : Int} (h0 : fB bsJ I) (ha1 : (1 ≤ x1 ∧ x1 ≤ 60)) (ha2 : (7 ≤ x2 ∧ x2 ≤ 7)) (ha3 : ((-2147483648) ≤ x3 ∧ x3 ≤ 2147483647)) (ha4 : (0 ≤ x4 ∧ x4 ≤ 63)) (ha5 : ((-2147483648) ≤ x5 ∧ x5 ≤ 2147483647)) (hp0 : x2 = 7) (hp1 : x2 ≤ I 741 12) (hp2 : 0 ≤ x5 ∧ x5 ≤ 5940 * x2) : fC ρ base n F xTc vwCl xTys D dA la gJ (fbz bsJ znJ (fKc wz_4d25e) I) xm_479 [.inr (.inr (some 740)), .inl x1, .inl x2, .inl x3, .inl x4, .inl x5] I (fun I' r => r = none ∧ True ∧ (∀ (p : Nat → Int) (s : sSt), (∀ i : Nat, (i : Int) < x2 → I 757 i = p i) → skQ (I 741 12).toNat s I → skQ (I 741 12).toNat (sSk (I 741 12).toNat (fun b => I 741 (4370 + 3 * b)) (fun b => I 741 (4371 + 3 * b)) (fun b => I 741 (4372 + 3 * b)) x1 0 x2.toNat x3 x4 x5 p s) I') ∧ (∀ i : Nat, (i : Int) < x2 → I' 757 i = I 757 i)) := by
  have hW : fzs wz_4d25e (fKc wz_4d25e) := fKc_ok _
  refine f_meth (rb := rbJ) (J := [(29, (jc_M_seek_c83ec_29 x2 x5 I)), (59, (jc_M_seek_c83ec_59 x1 x2 x3 x4 x5 I))]) 16 400 xG xin_479 x6_479 okJ (fB_self h0) ?_ ?_
  · refine List.forall_mem_cons.mpr ⟨?_, List.forall_mem_cons.mpr ⟨?_, fun q h => absurd h List.not_mem_nil⟩⟩
    · rintro m _ _ I1 hB1 ⟨y2, y6, rfl, rfl, ⟨hb, hx0, hx1⟩, hm⟩
      have k1 := fBz_eq hB1 (a := 741) (j := 12) (by decide +kernel)
      have b2 := fBd fb_741_12 (fBz h0 hB1)
      have b3 := fBd fb_740_35 (fBz h0 hB1)
      refine And.intro (And.intro (by first | exact fi_ hb.2.1.1 hb.2.1.2 rfl | omega) (by first | exact fi_ hb.1.1 hb.1.2 rfl | omega)) (And.intro ?_ ?_)
      · intro c4
        exact ⟨rfl, True.intro, (fun p s hp hs => by rw [sk_tk (by omega)]; first | exact tq_yes hs (by omega) (by omega) (fun i hi => hp i (by omega)) (by omega) (by omega) (by omega) (fun i hi => hx0 i (by omega)) | exact tq_yes hs (by omega) (by omega) (fun i hi => hp i (by omega)) (by omega) (by omega) (by omega) (fun i hi => absurd hi (by omega)) | exact tq_no hs (by omega) (by omega)), (by first | exact (fun i _ => hx1 i) | exact (fun i _ => rfl) | exact (fun i _ => fup_other enil0 757 i (Or.inl (by decide))))⟩
      · intro c5
        refine And.intro ⟨rfl, by decide, by decide⟩ ?_
        refine And.intro ⟨rfl, by decide, by decide⟩ ?_
        refine fload1 rL_757_757_0_6_1_0 h0 hB1 ⟨by decide, by decide⟩ (by first | exact ⟨hb.2.1.1, Int.le_trans (Int.le_sub_one_of_lt (Int.lt_of_lt_of_le c5 hb.1.2)) (by decide)⟩ | omega) ?_
        intro z6 lz6 uz6 qz6
        refine fstore1 rS_758_758_0_6_1_0 (fzs_sub (by decide +kernel) hW) ⟨by decide, by decide⟩ (by first | exact ⟨hb.2.1.1, Int.le_trans (Int.le_sub_one_of_lt (Int.lt_of_lt_of_le c5 hb.1.2)) (by decide)⟩ | omega) (by first | exact ⟨lz6, uz6⟩ | omega) ?_
        intro IhB7 ehB7 hB7
        have t8 := fup_self ehB7
        have t9 : IhB7 740 33 = I1 740 33 := (congrFun (congrFun ehB7 740) 33).trans (fup_ne (by first | exact Or.inl (by decide) | omega))
        have t10 : IhB7 740 34 = I1 740 34 := (congrFun (congrFun ehB7 740) 34).trans (fup_ne (by first | exact Or.inl (by decide) | omega))
        have t11 : IhB7 740 35 = I1 740 35 := (congrFun (congrFun ehB7 740) 35).trans (fup_ne (by first | exact Or.inl (by decide) | omega))
        have t12 : IhB7 741 12 = I1 741 12 := (congrFun (congrFun ehB7 741) 12).trans (fup_ne (by first | exact Or.inl (by decide) | omega))
        have k13 := fBz_eq hB7 (a := 741) (j := 12) (by decide +kernel)
        exact fcutJ (I := IhB7) (j := (jc_M_seek_c83ec_29 x2 x5 I)) (lv' := [(0, .inr (.inr (some 740))), (2, .inl _), (6, .inl _)]) (And.intro rfl (And.intro rfl (And.intro rfl True.intro))) ⟨_, _, rfl, rfl, ⟨by omega, (fun i h => if ei : i = y6.toNat then (by rw [ei]; exact (fup_self ehB7).trans (qz6.trans (hx1 _))) else (fup_other ehB7 758 i (Or.inr ei)).trans (hx0 i (by omega))), (fun i => (fup_other ehB7 757 i (Or.inl (by decide))).trans (hx1 i))⟩, rfl⟩ (by omega)
    · rintro m _ _ I1 hB1 ⟨y1, y2, y3, y4, y5, y6, rfl, rfl, ⟨hb, hx0, hx1⟩, hm⟩
      have k14 := fBz_eq hB1 (a := 741) (j := 12) (by decide +kernel)
      have b15 := fBd fb_741_12 (fBz h0 hB1)
      have b16 := fBd fb_740_35 (fBz h0 hB1)
      have ey1 : x1 = y1 := by omega
      subst ey1
      have ey2 : x2 = y2 := by omega
      subst ey2
      have ey3 : x3 = y3 := by omega
      subst ey3
      have ey4 : x4 = y4 := by omega
      subst ey4
      have ey5 : x5 = y5 := by omega
      subst ey5
      have sS := fFr_S (fFr_of hB1) (by decide +kernel)
      refine And.intro ⟨rfl, by decide, by decide⟩ ?_
      refine fload1 rL_741_741_12_12_1_0 h0 hB1 ⟨by decide, by decide⟩ (by first | exact ⟨by decide, by decide⟩ | omega) ?_
      intro z17 lz17 uz17 qz17
      have pz17 := fld_at qz17 12 (by omega)
      refine And.intro (And.intro (by first | exact fi_ hb.2.2.2.2.2.1.1 hb.2.2.2.2.2.1.2 rfl | omega) (by first | exact fi_ lz17 uz17 rfl | omega)) (And.intro ?_ ?_)
      · intro c18
        exact ⟨rfl, True.intro, (fun p s hp hs => by first | (exfalso; omega) | (rw [sk_go (by omega)]; exact sq_end (hx0 p s hp hs) (by omega) (by omega))), hx1⟩
      · intro c19
        refine And.intro ⟨rfl, by decide, by decide⟩ (fgetf fb_740_35 h0 hB1 ?_)
        intro z20 lz20 uz20 qz20
        refine And.intro (by first | exact fi_ lz20 uz20 rfl | omega) (And.intro ?_ ?_)
        · intro c21
          exact ⟨rfl, True.intro, (fun p s hp hs => by first | (exfalso; omega) | (rw [sk_go (by omega)]; exact sq_end (hx0 p s hp hs) (by omega) (by omega))), hx1⟩
        · intro c22
          intro z23 hz23 ez23
          intro z24 hz24 ez24 bz24
          have bz24 := bz24 (by omega)
          have wb := bt_of hz24 ez23 ez24 (by omega)
          refine And.intro (And.intro (by first | exact fi_ bz24.1 bz24.2 rfl | omega) (by first | exact ⟨by decide, by decide⟩ | omega)) (And.intro ?_ ?_)
          · intro c25
            exact fcutJ (I := I1) (j := (jc_M_seek_c83ec_59 x1 x2 x3 x4 x5 I)) (lv' := [(0, .inr (.inr (some 740))), (1, .inl _), (2, .inl _), (3, .inl _), (4, .inl _), (5, .inl _), (6, .inl _)]) (And.intro rfl (And.intro rfl (And.intro rfl (And.intro rfl (And.intro rfl (And.intro rfl (And.intro rfl True.intro))))))) ⟨_, _, _, _, _, _, rfl, rfl, ⟨by omega, (fun p s hp hs => by have hq := (hx0 p s hp hs).1; first | exact nf_skQ (qo_no (hx0 p s hp hs) (fun q => by have q1 := q.1; omega)) (by omega) (by omega) | exact nf_skQ (qo_no (hx0 p s hp hs) (fun q => by have q2 := q.2; omega)) (by omega) (by omega) | exact nf_skQ (qo_spent (hx0 p s hp hs) (by omega) (by omega) ⟨by omega, by omega⟩ rfl enil0) (by omega) (by omega) | exact nf_skQ (qo_rec (hx0 p s hp hs) (by omega) (by omega) ⟨by omega, by omega⟩ (g0nil0 (sUp p x2.toNat ((y6.toNat : Nat) : Int)) _ (path_uq enil0 enil0 enil0 (fun i hi => (hx1 i hi).trans (hp i hi)) (by omega) rfl (by omega)) (qo_in (hx0 p s hp hs) (by omega) (by omega) rfl (by omega) enil0 enil0 enil0))) (by omega) (by omega) | (exfalso; omega)), (fun i hi => by first | exact (g1nil0 i (by omega)).trans ((fup_other enil0 757 i (Or.inr (by omega))).trans ((fup_other enil0 757 i (Or.inl (by decide))).trans ((fup_other enil0 757 i (Or.inl (by decide))).trans (hx1 i hi)))) | exact ((fup_other enil0 757 i (Or.inl (by decide))).trans (hx1 i hi)) | exact hx1 i hi | (exfalso; omega))⟩, rfl⟩ (by omega)
          · intro c26
            refine And.intro ⟨rfl, by decide, by decide⟩ ?_
            refine fload rL_741_741_4372_4390_3_0 h0 hB1 (by omega) ?_
            intro z27 lz27 uz27 qz27
            intro z28 hz28 ez28
            intro z29 hz29 ez29 bz29
            clear bz29
            have wa := sAh_of hz29 ez28 ez29
            rw [fld_at qz27 (4372 + 3 * y6.toNat) (by omega), sS] at wa
            refine And.intro (by omega) (And.intro ?_ ?_)
            · intro c30
              refine And.intro ⟨rfl, by decide, by decide⟩ (fgetf fb_740_34 h0 hB1 ?_)
              intro z31 lz31 uz31 qz31
              refine And.intro (by first | exact fi_ lz31 uz31 rfl | omega) (And.intro ?_ ?_)
              · intro c32
                refine And.intro ⟨rfl, by decide, by decide⟩ (And.intro rfl (And.intro (Or.inr ⟨rfl, by omega⟩) (fputf fb_740_35 (by decide +kernel) hW (by omega) ?_)))
                intro IhB33 ehB33 hB33
                have t34 : IhB33 740 33 = I1 740 33 := (congrFun (congrFun ehB33 740) 33).trans (fup_ne (by first | decide | omega))
                have t35 : IhB33 740 34 = I1 740 34 := (congrFun (congrFun ehB33 740) 34).trans (fup_ne (by first | decide | omega))
                have t36 := fup_at ehB33 35 (by first | rfl | omega)
                have t37 : IhB33 741 12 = I1 741 12 := (congrFun (congrFun ehB33 741) 12).trans (fup_ne (by first | decide | omega))
                have k38 := fBz_eq hB33 (a := 741) (j := 12) (by decide +kernel)
                refine And.intro ⟨rfl, by decide, by decide⟩ (fgetf fb_740_35 h0 hB33 ?_)
                intro z39 lz39 uz39 qz39
                refine And.intro (by first | exact fi_ lz39 uz39 rfl | omega) (And.intro ?_ ?_)
                · intro c40
                  exact fcutJ (I := IhB33) (j := (jc_M_seek_c83ec_59 x1 x2 x3 x4 x5 I)) (lv' := [(0, .inr (.inr (some 740))), (1, .inl _), (2, .inl _), (3, .inl _), (4, .inl _), (5, .inl _), (6, .inl _)]) (And.intro rfl (And.intro rfl (And.intro rfl (And.intro rfl (And.intro rfl (And.intro rfl (And.intro rfl True.intro))))))) ⟨_, _, _, _, _, _, rfl, rfl, ⟨by omega, (fun p s hp hs => by have hq := (hx0 p s hp hs).1; first | exact nf_skQ (qo_no (hx0 p s hp hs) (fun q => by have q1 := q.1; omega)) (by omega) (by omega) | exact nf_skQ (qo_no (hx0 p s hp hs) (fun q => by have q2 := q.2; omega)) (by omega) (by omega) | exact nf_skQ (qo_spent (hx0 p s hp hs) (by omega) (by omega) ⟨by omega, by omega⟩ rfl ehB33) (by omega) (by omega) | exact nf_skQ (qo_rec (hx0 p s hp hs) (by omega) (by omega) ⟨by omega, by omega⟩ (g0nil0 (sUp p x2.toNat ((y6.toNat : Nat) : Int)) _ (path_uq ehB33 enil0 enil0 (fun i hi => (hx1 i hi).trans (hp i hi)) (by omega) rfl (by omega)) (qo_in (hx0 p s hp hs) (by omega) (by omega) rfl (by omega) ehB33 enil0 enil0))) (by omega) (by omega) | (exfalso; omega)), (fun i hi => by first | exact (g1nil0 i (by omega)).trans ((fup_other enil0 757 i (Or.inr (by omega))).trans ((fup_other enil0 757 i (Or.inl (by decide))).trans ((fup_other ehB33 757 i (Or.inl (by decide))).trans (hx1 i hi)))) | exact ((fup_other ehB33 757 i (Or.inl (by decide))).trans (hx1 i hi)) | exact hx1 i hi | (exfalso; omega))⟩, rfl⟩ (by omega)
                · intro c41
                  refine And.intro ⟨rfl, by decide, by decide⟩ (fgetf fb_740_34 h0 hB33 ?_)
                  intro z42 lz42 uz42 qz42
                  intro z43 hz43 ez43 bz43
                  try replace bz43 := bz43 (by omega)
                  refine And.intro ⟨rfl, by decide, by decide⟩ (And.intro rfl (And.intro (Or.inl rfl) (fputf fb_740_34 (by decide +kernel) hW (by omega) ?_)))
                  intro IhB44 ehB44 hB44
                  have t45 : IhB44 740 33 = IhB33 740 33 := (congrFun (congrFun ehB44 740) 33).trans (fup_ne (by first | decide | omega))
                  have t46 := fup_at ehB44 34 (by first | rfl | omega)
                  have t47 : IhB44 740 35 = IhB33 740 35 := (congrFun (congrFun ehB44 740) 35).trans (fup_ne (by first | decide | omega))
                  have t48 : IhB44 741 12 = IhB33 741 12 := (congrFun (congrFun ehB44 741) 12).trans (fup_ne (by first | decide | omega))
                  have k49 := fBz_eq hB44 (a := 741) (j := 12) (by decide +kernel)
                  refine And.intro ⟨rfl, by decide, by decide⟩ ?_
                  refine fstore rS_757_757_0_6_1_0 (fzs_sub (by decide +kernel) hW) (by omega) (by first | exact ⟨hb.2.2.2.2.2.1.1, hb.2.2.2.2.2.1.2⟩ | omega) ?_
                  intro IhB50 ehB50 hB50
                  have t51 := fup_self ehB50
                  have t52 : IhB50 740 33 = IhB44 740 33 := (congrFun (congrFun ehB50 740) 33).trans (fup_ne (by first | exact Or.inl (by decide) | omega))
                  have t53 : IhB50 740 34 = IhB44 740 34 := (congrFun (congrFun ehB50 740) 34).trans (fup_ne (by first | exact Or.inl (by decide) | omega))
                  have t54 : IhB50 740 35 = IhB44 740 35 := (congrFun (congrFun ehB50 740) 35).trans (fup_ne (by first | exact Or.inl (by decide) | omega))
                  have t55 : IhB50 741 12 = IhB44 741 12 := (congrFun (congrFun ehB50 741) 12).trans (fup_ne (by first | exact Or.inl (by decide) | omega))
                  have k56 := fBz_eq hB50 (a := 741) (j := 12) (by decide +kernel)
                  refine And.intro ⟨rfl, by decide, by decide⟩ ?_
                  refine fload rL_741_741_4370_4388_3_0 h0 hB50 (by omega) ?_
                  intro z57 lz57 uz57 qz57
                  have s4 : ∀ j, IhB50 741 j = I 741 j := fun j => (fup_other ehB50 741 j (Or.inl (by decide))).trans ((fup_other ehB44 741 j (Or.inl (by decide))).trans ((fup_other ehB33 741 j (Or.inl (by decide))).trans (sS j)))
                  have w166 := (fld_at qz57 (4370 + 3 * y6.toNat) (by omega)).trans (s4 _)
                  intro z58 hz58 ez58 bz58
                  have bz58 := bz58 (by omega)
                  intro z59 hz59 ez59
                  intro z60 hz60 ez60
                  refine And.intro (by omega) (And.intro ?_ ?_)
                  · intro c61
                    intro z62 hz62 ez62 bz62
                    try replace bz62 := bz62 (by omega)
                    exfalso
                    omega
                  · intro c63
                    refine And.intro ⟨rfl, by decide, by decide⟩ ?_
                    refine fload rL_741_741_4371_4389_3_0 h0 hB50 (by omega) ?_
                    intro z64 lz64 uz64 qz64
                    have w199 := (fld_at qz64 (4371 + 3 * y6.toNat) (by omega)).trans (s4 _)
                    intro z65 hz65 ez65 bz65
                    have bz65 := bz65 (by omega)
                    intro z66 hz66 ez66 bz66
                    try replace bz66 := bz66 (by omega)
                    have w203 := mul_bd (a := z64) (b := z65) (by omega) (by omega)
                    have w204 : z66 = z64 * z65 := by first | exact bz66 (by omega) | exact bz66
                    intro z67 hz67 ez67 bz67
                    try replace bz67 := bz67 (by omega)
                    exfalso
                    omega
              · intro c68
                refine And.intro ⟨rfl, by decide, by decide⟩ (And.intro rfl (And.intro (Or.inr ⟨rfl, by decide, by decide⟩) (fputf fb_740_35 (by decide +kernel) hW (by first | exact ⟨by decide, by decide⟩ | omega) ?_)))
                intro IhB69 ehB69 hB69
                have t70 : IhB69 740 33 = I1 740 33 := (congrFun (congrFun ehB69 740) 33).trans (fup_ne (by first | decide | omega))
                have t71 : IhB69 740 34 = I1 740 34 := (congrFun (congrFun ehB69 740) 34).trans (fup_ne (by first | decide | omega))
                have t72 := fup_at ehB69 35 (by first | rfl | omega)
                have t73 : IhB69 741 12 = I1 741 12 := (congrFun (congrFun ehB69 741) 12).trans (fup_ne (by first | decide | omega))
                have k74 := fBz_eq hB69 (a := 741) (j := 12) (by decide +kernel)
                refine And.intro ⟨rfl, by decide, by decide⟩ (fgetf fb_740_35 h0 hB69 ?_)
                intro z75 lz75 uz75 qz75
                refine And.intro (by first | exact fi_ lz75 uz75 rfl | omega) (And.intro ?_ ?_)
                · intro c76
                  exact fcutJ (I := IhB69) (j := (jc_M_seek_c83ec_59 x1 x2 x3 x4 x5 I)) (lv' := [(0, .inr (.inr (some 740))), (1, .inl _), (2, .inl _), (3, .inl _), (4, .inl _), (5, .inl _), (6, .inl _)]) (And.intro rfl (And.intro rfl (And.intro rfl (And.intro rfl (And.intro rfl (And.intro rfl (And.intro rfl True.intro))))))) ⟨_, _, _, _, _, _, rfl, rfl, ⟨by omega, (fun p s hp hs => by have hq := (hx0 p s hp hs).1; first | exact nf_skQ (qo_no (hx0 p s hp hs) (fun q => by have q1 := q.1; omega)) (by omega) (by omega) | exact nf_skQ (qo_no (hx0 p s hp hs) (fun q => by have q2 := q.2; omega)) (by omega) (by omega) | exact nf_skQ (qo_spent (hx0 p s hp hs) (by omega) (by omega) ⟨by omega, by omega⟩ rfl ehB69) (by omega) (by omega) | exact nf_skQ (qo_rec (hx0 p s hp hs) (by omega) (by omega) ⟨by omega, by omega⟩ (g0nil0 (sUp p x2.toNat ((y6.toNat : Nat) : Int)) _ (path_uq ehB69 ehB44 ehB50 (fun i hi => (hx1 i hi).trans (hp i hi)) (by omega) rfl (by omega)) (qo_in (hx0 p s hp hs) (by omega) (by omega) rfl (by omega) ehB69 ehB44 ehB50))) (by omega) (by omega) | (exfalso; omega)), (fun i hi => by first | exact (g1nil0 i (by omega)).trans ((fup_other ehB50 757 i (Or.inr (by omega))).trans ((fup_other ehB44 757 i (Or.inl (by decide))).trans ((fup_other ehB69 757 i (Or.inl (by decide))).trans (hx1 i hi)))) | exact ((fup_other ehB69 757 i (Or.inl (by decide))).trans (hx1 i hi)) | exact hx1 i hi | (exfalso; omega))⟩, rfl⟩ (by omega)
                · intro c77
                  refine And.intro ⟨rfl, by decide, by decide⟩ (fgetf fb_740_34 h0 hB69 ?_)
                  intro z78 lz78 uz78 qz78
                  intro z79 hz79 ez79 bz79
                  try replace bz79 := bz79 (by omega)
                  refine And.intro ⟨rfl, by decide, by decide⟩ (And.intro rfl (And.intro (Or.inl rfl) (fputf fb_740_34 (by decide +kernel) hW (by omega) ?_)))
                  intro IhB80 ehB80 hB80
                  have t81 : IhB80 740 33 = IhB69 740 33 := (congrFun (congrFun ehB80 740) 33).trans (fup_ne (by first | decide | omega))
                  have t82 := fup_at ehB80 34 (by first | rfl | omega)
                  have t83 : IhB80 740 35 = IhB69 740 35 := (congrFun (congrFun ehB80 740) 35).trans (fup_ne (by first | decide | omega))
                  have t84 : IhB80 741 12 = IhB69 741 12 := (congrFun (congrFun ehB80 741) 12).trans (fup_ne (by first | decide | omega))
                  have k85 := fBz_eq hB80 (a := 741) (j := 12) (by decide +kernel)
                  refine And.intro ⟨rfl, by decide, by decide⟩ ?_
                  refine fstore rS_757_757_0_6_1_0 (fzs_sub (by decide +kernel) hW) (by omega) (by first | exact ⟨hb.2.2.2.2.2.1.1, hb.2.2.2.2.2.1.2⟩ | omega) ?_
                  intro IhB86 ehB86 hB86
                  have t87 := fup_self ehB86
                  have t88 : IhB86 740 33 = IhB80 740 33 := (congrFun (congrFun ehB86 740) 33).trans (fup_ne (by first | exact Or.inl (by decide) | omega))
                  have t89 : IhB86 740 34 = IhB80 740 34 := (congrFun (congrFun ehB86 740) 34).trans (fup_ne (by first | exact Or.inl (by decide) | omega))
                  have t90 : IhB86 740 35 = IhB80 740 35 := (congrFun (congrFun ehB86 740) 35).trans (fup_ne (by first | exact Or.inl (by decide) | omega))
                  have t91 : IhB86 741 12 = IhB80 741 12 := (congrFun (congrFun ehB86 741) 12).trans (fup_ne (by first | exact Or.inl (by decide) | omega))
                  have k92 := fBz_eq hB86 (a := 741) (j := 12) (by decide +kernel)
                  refine And.intro ⟨rfl, by decide, by decide⟩ ?_
                  refine fload rL_741_741_4370_4388_3_0 h0 hB86 (by omega) ?_
                  intro z93 lz93 uz93 qz93
                  have s4 : ∀ j, IhB86 741 j = I 741 j := fun j => (fup_other ehB86 741 j (Or.inl (by decide))).trans ((fup_other ehB80 741 j (Or.inl (by decide))).trans ((fup_other ehB69 741 j (Or.inl (by decide))).trans (sS j)))
                  have w166 := (fld_at qz93 (4370 + 3 * y6.toNat) (by omega)).trans (s4 _)
                  intro z94 hz94 ez94 bz94
                  have bz94 := bz94 (by omega)
                  intro z95 hz95 ez95
                  intro z96 hz96 ez96
                  refine And.intro (by omega) (And.intro ?_ ?_)
                  · intro c97
                    intro z98 hz98 ez98 bz98
                    try replace bz98 := bz98 (by omega)
                    exfalso
                    omega
                  · intro c99
                    refine And.intro ⟨rfl, by decide, by decide⟩ ?_
                    refine fload rL_741_741_4371_4389_3_0 h0 hB86 (by omega) ?_
                    intro z100 lz100 uz100 qz100
                    have w199 := (fld_at qz100 (4371 + 3 * y6.toNat) (by omega)).trans (s4 _)
                    intro z101 hz101 ez101 bz101
                    have bz101 := bz101 (by omega)
                    intro z102 hz102 ez102 bz102
                    try replace bz102 := bz102 (by omega)
                    have w203 := mul_bd (a := z100) (b := z101) (by omega) (by omega)
                    have w204 : z102 = z100 * z101 := by first | exact bz102 (by omega) | exact bz102
                    intro z103 hz103 ez103 bz103
                    try replace bz103 := bz103 (by omega)
                    exfalso
                    omega
            · intro c104
              exact fcutJ (I := I1) (j := (jc_M_seek_c83ec_59 x1 x2 x3 x4 x5 I)) (lv' := [(0, .inr (.inr (some 740))), (1, .inl _), (2, .inl _), (3, .inl _), (4, .inl _), (5, .inl _), (6, .inl _)]) (And.intro rfl (And.intro rfl (And.intro rfl (And.intro rfl (And.intro rfl (And.intro rfl (And.intro rfl True.intro))))))) ⟨_, _, _, _, _, _, rfl, rfl, ⟨by omega, (fun p s hp hs => by have hq := (hx0 p s hp hs).1; first | exact nf_skQ (qo_no (hx0 p s hp hs) (fun q => by have q1 := q.1; omega)) (by omega) (by omega) | exact nf_skQ (qo_no (hx0 p s hp hs) (fun q => by have q2 := q.2; omega)) (by omega) (by omega) | exact nf_skQ (qo_spent (hx0 p s hp hs) (by omega) (by omega) ⟨by omega, by omega⟩ rfl ehB69) (by omega) (by omega) | exact nf_skQ (qo_rec (hx0 p s hp hs) (by omega) (by omega) ⟨by omega, by omega⟩ (g0nil0 (sUp p x2.toNat ((y6.toNat : Nat) : Int)) _ (path_uq ehB69 ehB80 ehB86 (fun i hi => (hx1 i hi).trans (hp i hi)) (by omega) rfl (by omega)) (qo_in (hx0 p s hp hs) (by omega) (by omega) rfl (by omega) ehB69 ehB80 ehB86))) (by omega) (by omega) | (exfalso; omega)), (fun i hi => by first | exact (g1nil0 i (by omega)).trans ((fup_other ehB86 757 i (Or.inr (by omega))).trans ((fup_other ehB80 757 i (Or.inl (by decide))).trans ((fup_other ehB69 757 i (Or.inl (by decide))).trans (hx1 i hi)))) | exact ((fup_other ehB69 757 i (Or.inl (by decide))).trans (hx1 i hi)) | exact hx1 i hi | (exfalso; omega))⟩, rfl⟩ (by omega)
  · have hB0 := fB_self (zn := znJ) (K := fKc wz_4d25e) h0
    have b105 := fBd fb_741_12 (fBz h0 hB0)
    have b106 := fBd fb_740_35 (fBz h0 hB0)
    refine And.intro ⟨rfl, by decide, by decide⟩ ?_
    refine fload1 rL_741_741_12_12_1_0 h0 hB0 ⟨by decide, by decide⟩ (by first | exact ⟨by decide, by decide⟩ | omega) ?_
    intro z107 lz107 uz107 qz107
    have pz107 := fld_at qz107 12 (by omega)
    refine And.intro (And.intro (by first | exact fi_ ha2.1 ha2.2 rfl | omega) (by first | exact fi_ lz107 uz107 rfl | omega)) (And.intro ?_ ?_)
    · intro c108
      exact fcutJ (I := I) (j := (jc_M_seek_c83ec_59 x1 x2 x3 x4 x5 I)) (lv' := [(0, .inr (.inr (some 740))), (1, .inl _), (2, .inl _), (3, .inl _), (4, .inl _), (5, .inl _), (6, .inl _)]) (And.intro rfl (And.intro rfl (And.intro rfl (And.intro rfl (And.intro rfl (And.intro rfl (And.intro rfl True.intro))))))) ⟨_, _, _, _, _, _, rfl, rfl, ⟨by omega, (fun p s hp hs => hs), (fun i _ => rfl)⟩, rfl⟩ (by omega)
    · intro c109
      refine And.intro ⟨rfl, by decide, by decide⟩ (fgetf fb_740_33 h0 hB0 ?_)
      intro z110 lz110 uz110 qz110
      refine And.intro (And.intro (by first | exact fi_ ha5.1 ha5.2 rfl | omega) (by first | exact fi_ lz110 uz110 rfl | omega)) (And.intro ?_ ?_)
      · intro c111
        exact ⟨rfl, True.intro, (fun p s hp hs => by rw [sk_tk (by omega)]; first | exact tq_yes hs (by omega) (by omega) (fun i hi => hp i (by omega)) (by omega) (by omega) (by omega) (fun i hi => hx0 i (by omega)) | exact tq_yes hs (by omega) (by omega) (fun i hi => hp i (by omega)) (by omega) (by omega) (by omega) (fun i hi => absurd hi (by omega)) | exact tq_no hs (by omega) (by omega)), (by first | exact (fun i _ => hx1 i) | exact (fun i _ => rfl) | exact (fun i _ => fup_other enil0 757 i (Or.inl (by decide))))⟩
      · intro c112
        refine And.intro ⟨rfl, by decide, by decide⟩ (And.intro rfl (And.intro (Or.inl rfl) (fputf fb_740_33 (by decide +kernel) hW (by first | exact ⟨Int.le_trans (by decide) (Int.add_one_le_of_lt (Int.lt_of_le_of_lt lz110 c112)), ha5.2⟩ | omega) ?_)))
        intro IhB113 ehB113 hB113
        have t114 := fup_at ehB113 33 (by first | rfl | omega)
        have t115 : IhB113 740 34 = I 740 34 := (congrFun (congrFun ehB113 740) 34).trans (fup_ne (by first | decide | omega))
        have t116 : IhB113 740 35 = I 740 35 := (congrFun (congrFun ehB113 740) 35).trans (fup_ne (by first | decide | omega))
        have t117 : IhB113 741 12 = I 741 12 := (congrFun (congrFun ehB113 741) 12).trans (fup_ne (by first | decide | omega))
        have k118 := fBz_eq hB113 (a := 741) (j := 12) (by decide +kernel)
        exact fcutJ (I := IhB113) (j := (jc_M_seek_c83ec_29 x2 x5 I)) (lv' := [(0, .inr (.inr (some 740))), (2, .inl _), (6, .inl _)]) (And.intro rfl (And.intro rfl (And.intro rfl True.intro))) ⟨_, _, rfl, rfl, ⟨by omega, (fun i h => absurd h (by omega)), (fun i => fup_other ehB113 757 i (Or.inl (by decide)))⟩, rfl⟩ (by omega)
abbrev jc_M_seek_ae1ea_29 (x2 : Int) (x5 : Int) (I0 : fH) : Nat → fL → List fV → fH → Prop := fun m lv st I => ∃ (y2 : Int) (y6 : Int), lv = [(0, .inr (.inr (some 740))), (2, .inl y2), (6, .inl y6)] ∧ st = [] ∧ (((6 ≤ y2 ∧ y2 ≤ 6) ∧ (0 ≤ y6 ∧ y6 ≤ 6) ∧ ((-2147483647) ≤ I 740 33 ∧ I 740 33 ≤ 2147483647) ∧ (6 ≤ I 741 12 ∧ I 741 12 ≤ 6) ∧ (y2 = x2) ∧ (x2 = I0 741 12) ∧ (I 740 33 = x5) ∧ (I0 740 33 < x5) ∧ (I 740 34 = I0 740 34) ∧ (I 740 35 = I0 740 35) ∧ (y6 ≤ x2)) ∧ (∀ i : Nat, (i : Int) < y6 → I 758 i = I0 757 i) ∧ (∀ i : Nat, I 757 i = I0 757 i)) ∧ m = (9 + 1 * (6 - y6) : Int).toNat
abbrev jc_M_seek_ae1ea_59 (x1 : Int) (x2 : Int) (x3 : Int) (x4 : Int) (x5 : Int) (I0 : fH) : Nat → fL → List fV → fH → Prop := fun m lv st I => ∃ (y1 : Int) (y2 : Int) (y3 : Int) (y4 : Int) (y5 : Int) (y6 : Int), lv = [(0, .inr (.inr (some 740))), (1, .inl y1), (2, .inl y2), (3, .inl y3), (4, .inl y4), (5, .inl y5), (6, .inl y6)] ∧ st = [] ∧ (((1 ≤ y1 ∧ y1 ≤ 60) ∧ (6 ≤ y2 ∧ y2 ≤ 6) ∧ ((-2147483648) ≤ y3 ∧ y3 ≤ 2147483647) ∧ (0 ≤ y4 ∧ y4 ≤ 54) ∧ ((-2147483648) ≤ y5 ∧ y5 ≤ 2147483647) ∧ (0 ≤ y6 ∧ y6 ≤ 7) ∧ (y2 < I 741 12) ∧ (y1 = x1) ∧ (y2 = x2) ∧ (y3 = x3) ∧ (y4 = x4) ∧ (y5 = x5) ∧ (x2 < I0 741 12) ∧ (y6 ≤ I0 741 12)) ∧ (∀ (p : Nat → Int) (s : sSt), (∀ i : Nat, (i : Int) < x2 → I0 757 i = p i) → skQ (I0 741 12).toNat s I0 → skQ (I0 741 12).toNat (nf (sGo (fun b => I0 741 (4370 + 3 * b)) (fun b => I0 741 (4371 + 3 * b)) (fun b => I0 741 (4372 + 3 * b)) x1 (sSk (I0 741 12).toNat (fun b => I0 741 (4370 + 3 * b)) (fun b => I0 741 (4371 + 3 * b)) (fun b => I0 741 (4372 + 3 * b)) x1 0) x2.toNat x3 x4 x5 p) s y6.toNat) I) ∧ (∀ i : Nat, (i : Int) < x2 → I 757 i = I0 757 i)) ∧ m = (1 + 1 * (7 - y6) : Int).toNat
set_option maxRecDepth 8000 in
theorem ct_M_seek_ae1ea {I : fH} {x1 : Int} {x2 : Int} {x3 : Int} {x4 : Int} {x5 : Int} (h0 : fB bsJ I) (ha1 : (1 ≤ x1 ∧ x1 ≤ 60)) (ha2 : (6 ≤ x2 ∧ x2 ≤ 6)) (ha3 : ((-2147483648) ≤ x3 ∧ x3 ≤ 2147483647)) (ha4 : (0 ≤ x4 ∧ x4 ≤ 54)) (ha5 : ((-2147483648) ≤ x5 ∧ x5 ≤ 2147483647)) (hp0 : x2 = 6) (hp1 : x2 ≤ I 741 12) (hp2 : 0 ≤ x5 ∧ x5 ≤ 5940 * x2) : fC ρ base n F xTc vwCl xTys D dA la gJ (fbz bsJ znJ (fKc wz_4d25e) I) xm_480 [.inr (.inr (some 740)), .inl x1, .inl x2, .inl x3, .inl x4, .inl x5] I (fun I' r => r = none ∧ True ∧ (∀ (p : Nat → Int) (s : sSt), (∀ i : Nat, (i : Int) < x2 → I 757 i = p i) → skQ (I 741 12).toNat s I → skQ (I 741 12).toNat (sSk (I 741 12).toNat (fun b => I 741 (4370 + 3 * b)) (fun b => I 741 (4371 + 3 * b)) (fun b => I 741 (4372 + 3 * b)) x1 1 x2.toNat x3 x4 x5 p s) I') ∧ (∀ i : Nat, (i : Int) < x2 → I' 757 i = I 757 i)) := by
  have hW : fzs wz_4d25e (fKc wz_4d25e) := fKc_ok _
  refine f_meth (rb := rbJ) (J := [(29, (jc_M_seek_ae1ea_29 x2 x5 I)), (59, (jc_M_seek_ae1ea_59 x1 x2 x3 x4 x5 I))]) 16 400 xG xin_480 x6_480 okJ (fB_self h0) ?_ ?_
  · refine List.forall_mem_cons.mpr ⟨?_, List.forall_mem_cons.mpr ⟨?_, fun q h => absurd h List.not_mem_nil⟩⟩
    · rintro m _ _ I1 hB1 ⟨y2, y6, rfl, rfl, ⟨hb, hx0, hx1⟩, hm⟩
      have k1 := fBz_eq hB1 (a := 741) (j := 12) (by decide +kernel)
      have b2 := fBd fb_741_12 (fBz h0 hB1)
      have b3 := fBd fb_740_35 (fBz h0 hB1)
      refine And.intro (And.intro (by first | exact fi_ hb.2.1.1 hb.2.1.2 rfl | omega) (by first | exact fi_ hb.1.1 hb.1.2 rfl | omega)) (And.intro ?_ ?_)
      · intro c4
        exact ⟨rfl, True.intro, (fun p s hp hs => by rw [sk_tk (by omega)]; first | exact tq_yes hs (by omega) (by omega) (fun i hi => hp i (by omega)) (by omega) (by omega) (by omega) (fun i hi => hx0 i (by omega)) | exact tq_yes hs (by omega) (by omega) (fun i hi => hp i (by omega)) (by omega) (by omega) (by omega) (fun i hi => absurd hi (by omega)) | exact tq_no hs (by omega) (by omega)), (by first | exact (fun i _ => hx1 i) | exact (fun i _ => rfl) | exact (fun i _ => fup_other enil0 757 i (Or.inl (by decide))))⟩
      · intro c5
        refine And.intro ⟨rfl, by decide, by decide⟩ ?_
        refine And.intro ⟨rfl, by decide, by decide⟩ ?_
        refine fload1 rL_757_757_0_6_1_0 h0 hB1 ⟨by decide, by decide⟩ (by first | exact ⟨hb.2.1.1, Int.le_trans (Int.le_sub_one_of_lt (Int.lt_of_lt_of_le c5 hb.1.2)) (by decide)⟩ | omega) ?_
        intro z6 lz6 uz6 qz6
        refine fstore1 rS_758_758_0_6_1_0 (fzs_sub (by decide +kernel) hW) ⟨by decide, by decide⟩ (by first | exact ⟨hb.2.1.1, Int.le_trans (Int.le_sub_one_of_lt (Int.lt_of_lt_of_le c5 hb.1.2)) (by decide)⟩ | omega) (by first | exact ⟨lz6, uz6⟩ | omega) ?_
        intro IhB7 ehB7 hB7
        have t8 := fup_self ehB7
        have t9 : IhB7 740 33 = I1 740 33 := (congrFun (congrFun ehB7 740) 33).trans (fup_ne (by first | exact Or.inl (by decide) | omega))
        have t10 : IhB7 740 34 = I1 740 34 := (congrFun (congrFun ehB7 740) 34).trans (fup_ne (by first | exact Or.inl (by decide) | omega))
        have t11 : IhB7 740 35 = I1 740 35 := (congrFun (congrFun ehB7 740) 35).trans (fup_ne (by first | exact Or.inl (by decide) | omega))
        have t12 : IhB7 741 12 = I1 741 12 := (congrFun (congrFun ehB7 741) 12).trans (fup_ne (by first | exact Or.inl (by decide) | omega))
        have k13 := fBz_eq hB7 (a := 741) (j := 12) (by decide +kernel)
        exact fcutJ (I := IhB7) (j := (jc_M_seek_ae1ea_29 x2 x5 I)) (lv' := [(0, .inr (.inr (some 740))), (2, .inl _), (6, .inl _)]) (And.intro rfl (And.intro rfl (And.intro rfl True.intro))) ⟨_, _, rfl, rfl, ⟨by omega, (fun i h => if ei : i = y6.toNat then (by rw [ei]; exact (fup_self ehB7).trans (qz6.trans (hx1 _))) else (fup_other ehB7 758 i (Or.inr ei)).trans (hx0 i (by omega))), (fun i => (fup_other ehB7 757 i (Or.inl (by decide))).trans (hx1 i))⟩, rfl⟩ (by omega)
    · rintro m _ _ I1 hB1 ⟨y1, y2, y3, y4, y5, y6, rfl, rfl, ⟨hb, hx0, hx1⟩, hm⟩
      have k14 := fBz_eq hB1 (a := 741) (j := 12) (by decide +kernel)
      have b15 := fBd fb_741_12 (fBz h0 hB1)
      have b16 := fBd fb_740_35 (fBz h0 hB1)
      have ey1 : x1 = y1 := by omega
      subst ey1
      have ey2 : x2 = y2 := by omega
      subst ey2
      have ey3 : x3 = y3 := by omega
      subst ey3
      have ey4 : x4 = y4 := by omega
      subst ey4
      have ey5 : x5 = y5 := by omega
      subst ey5
      have sS := fFr_S (fFr_of hB1) (by decide +kernel)
      refine And.intro ⟨rfl, by decide, by decide⟩ ?_
      refine fload1 rL_741_741_12_12_1_0 h0 hB1 ⟨by decide, by decide⟩ (by first | exact ⟨by decide, by decide⟩ | omega) ?_
      intro z17 lz17 uz17 qz17
      have pz17 := fld_at qz17 12 (by omega)
      refine And.intro (And.intro (by first | exact fi_ hb.2.2.2.2.2.1.1 hb.2.2.2.2.2.1.2 rfl | omega) (by first | exact fi_ lz17 uz17 rfl | omega)) (And.intro ?_ ?_)
      · intro c18
        exact ⟨rfl, True.intro, (fun p s hp hs => by first | (exfalso; omega) | (rw [sk_go (by omega)]; exact sq_end (hx0 p s hp hs) (by omega) (by omega))), hx1⟩
      · intro c19
        refine And.intro ⟨rfl, by decide, by decide⟩ (fgetf fb_740_35 h0 hB1 ?_)
        intro z20 lz20 uz20 qz20
        refine And.intro (by first | exact fi_ lz20 uz20 rfl | omega) (And.intro ?_ ?_)
        · intro c21
          exact ⟨rfl, True.intro, (fun p s hp hs => by first | (exfalso; omega) | (rw [sk_go (by omega)]; exact sq_end (hx0 p s hp hs) (by omega) (by omega))), hx1⟩
        · intro c22
          intro z23 hz23 ez23
          intro z24 hz24 ez24 bz24
          have bz24 := bz24 (by omega)
          have wb := bt_of hz24 ez23 ez24 (by omega)
          refine And.intro (And.intro (by first | exact fi_ bz24.1 bz24.2 rfl | omega) (by first | exact ⟨by decide, by decide⟩ | omega)) (And.intro ?_ ?_)
          · intro c25
            exact fcutJ (I := I1) (j := (jc_M_seek_ae1ea_59 x1 x2 x3 x4 x5 I)) (lv' := [(0, .inr (.inr (some 740))), (1, .inl _), (2, .inl _), (3, .inl _), (4, .inl _), (5, .inl _), (6, .inl _)]) (And.intro rfl (And.intro rfl (And.intro rfl (And.intro rfl (And.intro rfl (And.intro rfl (And.intro rfl True.intro))))))) ⟨_, _, _, _, _, _, rfl, rfl, ⟨by omega, (fun p s hp hs => by have hq := (hx0 p s hp hs).1; first | exact nf_skQ (qo_no (hx0 p s hp hs) (fun q => by have q1 := q.1; omega)) (by omega) (by omega) | exact nf_skQ (qo_no (hx0 p s hp hs) (fun q => by have q2 := q.2; omega)) (by omega) (by omega) | exact nf_skQ (qo_spent (hx0 p s hp hs) (by omega) (by omega) ⟨by omega, by omega⟩ rfl enil0) (by omega) (by omega) | exact nf_skQ (qo_rec (hx0 p s hp hs) (by omega) (by omega) ⟨by omega, by omega⟩ (g0nil0 (sUp p x2.toNat ((y6.toNat : Nat) : Int)) _ (path_uq enil0 enil0 enil0 (fun i hi => (hx1 i hi).trans (hp i hi)) (by omega) rfl (by omega)) (qo_in (hx0 p s hp hs) (by omega) (by omega) rfl (by omega) enil0 enil0 enil0))) (by omega) (by omega) | (exfalso; omega)), (fun i hi => by first | exact (g1nil0 i (by omega)).trans ((fup_other enil0 757 i (Or.inr (by omega))).trans ((fup_other enil0 757 i (Or.inl (by decide))).trans ((fup_other enil0 757 i (Or.inl (by decide))).trans (hx1 i hi)))) | exact ((fup_other enil0 757 i (Or.inl (by decide))).trans (hx1 i hi)) | exact hx1 i hi | (exfalso; omega))⟩, rfl⟩ (by omega)
          · intro c26
            refine And.intro ⟨rfl, by decide, by decide⟩ ?_
            refine fload rL_741_741_4372_4390_3_0 h0 hB1 (by omega) ?_
            intro z27 lz27 uz27 qz27
            intro z28 hz28 ez28
            intro z29 hz29 ez29 bz29
            clear bz29
            have wa := sAh_of hz29 ez28 ez29
            rw [fld_at qz27 (4372 + 3 * y6.toNat) (by omega), sS] at wa
            refine And.intro (by omega) (And.intro ?_ ?_)
            · intro c30
              refine And.intro ⟨rfl, by decide, by decide⟩ (fgetf fb_740_34 h0 hB1 ?_)
              intro z31 lz31 uz31 qz31
              refine And.intro (by first | exact fi_ lz31 uz31 rfl | omega) (And.intro ?_ ?_)
              · intro c32
                refine And.intro ⟨rfl, by decide, by decide⟩ (And.intro rfl (And.intro (Or.inr ⟨rfl, by omega⟩) (fputf fb_740_35 (by decide +kernel) hW (by omega) ?_)))
                intro IhB33 ehB33 hB33
                have t34 : IhB33 740 33 = I1 740 33 := (congrFun (congrFun ehB33 740) 33).trans (fup_ne (by first | decide | omega))
                have t35 : IhB33 740 34 = I1 740 34 := (congrFun (congrFun ehB33 740) 34).trans (fup_ne (by first | decide | omega))
                have t36 := fup_at ehB33 35 (by first | rfl | omega)
                have t37 : IhB33 741 12 = I1 741 12 := (congrFun (congrFun ehB33 741) 12).trans (fup_ne (by first | decide | omega))
                have k38 := fBz_eq hB33 (a := 741) (j := 12) (by decide +kernel)
                refine And.intro ⟨rfl, by decide, by decide⟩ (fgetf fb_740_35 h0 hB33 ?_)
                intro z39 lz39 uz39 qz39
                refine And.intro (by first | exact fi_ lz39 uz39 rfl | omega) (And.intro ?_ ?_)
                · intro c40
                  exact fcutJ (I := IhB33) (j := (jc_M_seek_ae1ea_59 x1 x2 x3 x4 x5 I)) (lv' := [(0, .inr (.inr (some 740))), (1, .inl _), (2, .inl _), (3, .inl _), (4, .inl _), (5, .inl _), (6, .inl _)]) (And.intro rfl (And.intro rfl (And.intro rfl (And.intro rfl (And.intro rfl (And.intro rfl (And.intro rfl True.intro))))))) ⟨_, _, _, _, _, _, rfl, rfl, ⟨by omega, (fun p s hp hs => by have hq := (hx0 p s hp hs).1; first | exact nf_skQ (qo_no (hx0 p s hp hs) (fun q => by have q1 := q.1; omega)) (by omega) (by omega) | exact nf_skQ (qo_no (hx0 p s hp hs) (fun q => by have q2 := q.2; omega)) (by omega) (by omega) | exact nf_skQ (qo_spent (hx0 p s hp hs) (by omega) (by omega) ⟨by omega, by omega⟩ rfl ehB33) (by omega) (by omega) | exact nf_skQ (qo_rec (hx0 p s hp hs) (by omega) (by omega) ⟨by omega, by omega⟩ (g0nil0 (sUp p x2.toNat ((y6.toNat : Nat) : Int)) _ (path_uq ehB33 enil0 enil0 (fun i hi => (hx1 i hi).trans (hp i hi)) (by omega) rfl (by omega)) (qo_in (hx0 p s hp hs) (by omega) (by omega) rfl (by omega) ehB33 enil0 enil0))) (by omega) (by omega) | (exfalso; omega)), (fun i hi => by first | exact (g1nil0 i (by omega)).trans ((fup_other enil0 757 i (Or.inr (by omega))).trans ((fup_other enil0 757 i (Or.inl (by decide))).trans ((fup_other ehB33 757 i (Or.inl (by decide))).trans (hx1 i hi)))) | exact ((fup_other ehB33 757 i (Or.inl (by decide))).trans (hx1 i hi)) | exact hx1 i hi | (exfalso; omega))⟩, rfl⟩ (by omega)
                · intro c41
                  refine And.intro ⟨rfl, by decide, by decide⟩ (fgetf fb_740_34 h0 hB33 ?_)
                  intro z42 lz42 uz42 qz42
                  intro z43 hz43 ez43 bz43
                  try replace bz43 := bz43 (by omega)
                  refine And.intro ⟨rfl, by decide, by decide⟩ (And.intro rfl (And.intro (Or.inl rfl) (fputf fb_740_34 (by decide +kernel) hW (by omega) ?_)))
                  intro IhB44 ehB44 hB44
                  have t45 : IhB44 740 33 = IhB33 740 33 := (congrFun (congrFun ehB44 740) 33).trans (fup_ne (by first | decide | omega))
                  have t46 := fup_at ehB44 34 (by first | rfl | omega)
                  have t47 : IhB44 740 35 = IhB33 740 35 := (congrFun (congrFun ehB44 740) 35).trans (fup_ne (by first | decide | omega))
                  have t48 : IhB44 741 12 = IhB33 741 12 := (congrFun (congrFun ehB44 741) 12).trans (fup_ne (by first | decide | omega))
                  have k49 := fBz_eq hB44 (a := 741) (j := 12) (by decide +kernel)
                  refine And.intro ⟨rfl, by decide, by decide⟩ ?_
                  refine fstore1 rS_757_757_0_6_1_0 (fzs_sub (by decide +kernel) hW) ⟨by decide, by decide⟩ (by first | exact ⟨Int.le_trans (by decide) hb.2.1.1, hb.2.1.2⟩ | omega) (by first | exact ⟨hb.2.2.2.2.2.1.1, Int.le_trans (Int.le_sub_one_of_lt (Int.lt_of_lt_of_le c19 uz17)) (by decide)⟩ | omega) ?_
                  intro IhB50 ehB50 hB50
                  have t51 := fup_self ehB50
                  have t52 : IhB50 740 33 = IhB44 740 33 := (congrFun (congrFun ehB50 740) 33).trans (fup_ne (by first | exact Or.inl (by decide) | omega))
                  have t53 : IhB50 740 34 = IhB44 740 34 := (congrFun (congrFun ehB50 740) 34).trans (fup_ne (by first | exact Or.inl (by decide) | omega))
                  have t54 : IhB50 740 35 = IhB44 740 35 := (congrFun (congrFun ehB50 740) 35).trans (fup_ne (by first | exact Or.inl (by decide) | omega))
                  have t55 : IhB50 741 12 = IhB44 741 12 := (congrFun (congrFun ehB50 741) 12).trans (fup_ne (by first | exact Or.inl (by decide) | omega))
                  have k56 := fBz_eq hB50 (a := 741) (j := 12) (by decide +kernel)
                  refine And.intro ⟨rfl, by decide, by decide⟩ ?_
                  refine fload rL_741_741_4370_4388_3_0 h0 hB50 (by omega) ?_
                  intro z57 lz57 uz57 qz57
                  have s4 : ∀ j, IhB50 741 j = I 741 j := fun j => (fup_other ehB50 741 j (Or.inl (by decide))).trans ((fup_other ehB44 741 j (Or.inl (by decide))).trans ((fup_other ehB33 741 j (Or.inl (by decide))).trans (sS j)))
                  have w166 := (fld_at qz57 (4370 + 3 * y6.toNat) (by omega)).trans (s4 _)
                  intro z58 hz58 ez58 bz58
                  have bz58 := bz58 (by omega)
                  intro z59 hz59 ez59
                  intro z60 hz60 ez60
                  refine And.intro (by omega) (And.intro ?_ ?_)
                  · intro c61
                    intro z62 hz62 ez62 bz62
                    try replace bz62 := bz62 (by omega)
                    refine Exists.intro xm_479 (And.intro mi_479 (And.intro ⟨rfl, rfl, rfl, rfl⟩ (And.intro rfl ?_)))
                    refine fcall _ h0 (fzs_sub (by decide +kernel) hW) hB50 (ct_M_seek_c83ec (fBz h0 hB50) (by first | exact ⟨hb.1.1, hb.1.2⟩ | omega) (by omega) (by omega) (by omega) (by omega) (by omega) (by omega) (by omega)) ?_
                    rintro IhB64 _ hB64 fhB64 ⟨rfl, hz63, g0z63, g1z63⟩
                    have t65 := fhB64 741 12 (by decide +kernel)
                    have k66 := fBz_eq hB64 (a := 741) (j := 12) (by decide +kernel)
                    have wd := sDn_of hz60 (by omega) ez59 ez60
                    have we : z58 = x4 + I 741 (4370 + 3 * y6.toNat) := by omega
                    have ws : z62 = x5 + sMo x1 (x4 + I 741 (4370 + 3 * y6.toNat)) (I 741 (4371 + 3 * y6.toNat)) := by first | (have q := mo_of (span := x1) (e := x4 + I 741 (4370 + 3 * y6.toNat)) w204 (by omega); rw [w199] at q; omega) | (have q : sMo x1 (x4 + I 741 (4370 + 3 * y6.toNat)) (I 741 (4371 + 3 * y6.toNat)) = 0 := if_pos (by omega); omega)
                    simp only [s4] at g0z63
                    rw [wd, we, ws, show (x2 + ((1 : Nat) : Int)).toNat = x2.toNat + 1 by omega] at g0z63
                    exact fcutJ (I := IhB64) (j := (jc_M_seek_ae1ea_59 x1 x2 x3 x4 x5 I)) (lv' := [(0, .inr (.inr (some 740))), (1, .inl _), (2, .inl _), (3, .inl _), (4, .inl _), (5, .inl _), (6, .inl _)]) (And.intro rfl (And.intro rfl (And.intro rfl (And.intro rfl (And.intro rfl (And.intro rfl (And.intro rfl True.intro))))))) ⟨_, _, _, _, _, _, rfl, rfl, ⟨by omega, (fun p s hp hs => by have hq := (hx0 p s hp hs).1; first | exact nf_skQ (qo_no (hx0 p s hp hs) (fun q => by have q1 := q.1; omega)) (by omega) (by omega) | exact nf_skQ (qo_no (hx0 p s hp hs) (fun q => by have q2 := q.2; omega)) (by omega) (by omega) | exact nf_skQ (qo_spent (hx0 p s hp hs) (by omega) (by omega) ⟨by omega, by omega⟩ rfl ehB33) (by omega) (by omega) | exact nf_skQ (qo_rec (hx0 p s hp hs) (by omega) (by omega) ⟨by omega, by omega⟩ (g0z63 (sUp p x2.toNat ((y6.toNat : Nat) : Int)) _ (path_uq ehB33 ehB44 ehB50 (fun i hi => (hx1 i hi).trans (hp i hi)) (by omega) rfl (by omega)) (qo_in (hx0 p s hp hs) (by omega) (by omega) rfl (by omega) ehB33 ehB44 ehB50))) (by omega) (by omega) | (exfalso; omega)), (fun i hi => by first | exact (g1z63 i (by omega)).trans ((fup_other ehB50 757 i (Or.inr (by omega))).trans ((fup_other ehB44 757 i (Or.inl (by decide))).trans ((fup_other ehB33 757 i (Or.inl (by decide))).trans (hx1 i hi)))) | exact ((fup_other ehB33 757 i (Or.inl (by decide))).trans (hx1 i hi)) | exact hx1 i hi | (exfalso; omega))⟩, rfl⟩ (by omega)
                  · intro c67
                    refine And.intro ⟨rfl, by decide, by decide⟩ ?_
                    refine fload rL_741_741_4371_4389_3_0 h0 hB50 (by omega) ?_
                    intro z68 lz68 uz68 qz68
                    have w199 := (fld_at qz68 (4371 + 3 * y6.toNat) (by omega)).trans (s4 _)
                    intro z69 hz69 ez69 bz69
                    have bz69 := bz69 (by omega)
                    intro z70 hz70 ez70 bz70
                    try replace bz70 := bz70 (by omega)
                    have w203 := mul_bd (a := z68) (b := z69) (by omega) (by omega)
                    have w204 : z70 = z68 * z69 := by first | exact bz70 (by omega) | exact bz70
                    intro z71 hz71 ez71 bz71
                    try replace bz71 := bz71 (by omega)
                    refine Exists.intro xm_479 (And.intro mi_479 (And.intro ⟨rfl, rfl, rfl, rfl⟩ (And.intro rfl ?_)))
                    refine fcall _ h0 (fzs_sub (by decide +kernel) hW) hB50 (ct_M_seek_c83ec (fBz h0 hB50) (by first | exact ⟨hb.1.1, hb.1.2⟩ | omega) (by omega) (by omega) (by omega) (by omega) (by omega) (by omega) (by omega)) ?_
                    rintro IhB73 _ hB73 fhB73 ⟨rfl, hz72, g0z72, g1z72⟩
                    have t74 := fhB73 741 12 (by decide +kernel)
                    have k75 := fBz_eq hB73 (a := 741) (j := 12) (by decide +kernel)
                    have wd := sDn_of hz60 (by omega) ez59 ez60
                    have we : z58 = x4 + I 741 (4370 + 3 * y6.toNat) := by omega
                    have ws : z71 = x5 + sMo x1 (x4 + I 741 (4370 + 3 * y6.toNat)) (I 741 (4371 + 3 * y6.toNat)) := by first | (have q := mo_of (span := x1) (e := x4 + I 741 (4370 + 3 * y6.toNat)) w204 (by omega); rw [w199] at q; omega) | (have q : sMo x1 (x4 + I 741 (4370 + 3 * y6.toNat)) (I 741 (4371 + 3 * y6.toNat)) = 0 := if_pos (by omega); omega)
                    simp only [s4] at g0z72
                    rw [wd, we, ws, show (x2 + ((1 : Nat) : Int)).toNat = x2.toNat + 1 by omega] at g0z72
                    exact fcutJ (I := IhB73) (j := (jc_M_seek_ae1ea_59 x1 x2 x3 x4 x5 I)) (lv' := [(0, .inr (.inr (some 740))), (1, .inl _), (2, .inl _), (3, .inl _), (4, .inl _), (5, .inl _), (6, .inl _)]) (And.intro rfl (And.intro rfl (And.intro rfl (And.intro rfl (And.intro rfl (And.intro rfl (And.intro rfl True.intro))))))) ⟨_, _, _, _, _, _, rfl, rfl, ⟨by omega, (fun p s hp hs => by have hq := (hx0 p s hp hs).1; first | exact nf_skQ (qo_no (hx0 p s hp hs) (fun q => by have q1 := q.1; omega)) (by omega) (by omega) | exact nf_skQ (qo_no (hx0 p s hp hs) (fun q => by have q2 := q.2; omega)) (by omega) (by omega) | exact nf_skQ (qo_spent (hx0 p s hp hs) (by omega) (by omega) ⟨by omega, by omega⟩ rfl ehB33) (by omega) (by omega) | exact nf_skQ (qo_rec (hx0 p s hp hs) (by omega) (by omega) ⟨by omega, by omega⟩ (g0z72 (sUp p x2.toNat ((y6.toNat : Nat) : Int)) _ (path_uq ehB33 ehB44 ehB50 (fun i hi => (hx1 i hi).trans (hp i hi)) (by omega) rfl (by omega)) (qo_in (hx0 p s hp hs) (by omega) (by omega) rfl (by omega) ehB33 ehB44 ehB50))) (by omega) (by omega) | (exfalso; omega)), (fun i hi => by first | exact (g1z72 i (by omega)).trans ((fup_other ehB50 757 i (Or.inr (by omega))).trans ((fup_other ehB44 757 i (Or.inl (by decide))).trans ((fup_other ehB33 757 i (Or.inl (by decide))).trans (hx1 i hi)))) | exact ((fup_other ehB33 757 i (Or.inl (by decide))).trans (hx1 i hi)) | exact hx1 i hi | (exfalso; omega))⟩, rfl⟩ (by omega)
              · intro c76
                refine And.intro ⟨rfl, by decide, by decide⟩ (And.intro rfl (And.intro (Or.inr ⟨rfl, by decide, by decide⟩) (fputf fb_740_35 (by decide +kernel) hW (by first | exact ⟨by decide, by decide⟩ | omega) ?_)))
                intro IhB77 ehB77 hB77
                have t78 : IhB77 740 33 = I1 740 33 := (congrFun (congrFun ehB77 740) 33).trans (fup_ne (by first | decide | omega))
                have t79 : IhB77 740 34 = I1 740 34 := (congrFun (congrFun ehB77 740) 34).trans (fup_ne (by first | decide | omega))
                have t80 := fup_at ehB77 35 (by first | rfl | omega)
                have t81 : IhB77 741 12 = I1 741 12 := (congrFun (congrFun ehB77 741) 12).trans (fup_ne (by first | decide | omega))
                have k82 := fBz_eq hB77 (a := 741) (j := 12) (by decide +kernel)
                refine And.intro ⟨rfl, by decide, by decide⟩ (fgetf fb_740_35 h0 hB77 ?_)
                intro z83 lz83 uz83 qz83
                refine And.intro (by first | exact fi_ lz83 uz83 rfl | omega) (And.intro ?_ ?_)
                · intro c84
                  exact fcutJ (I := IhB77) (j := (jc_M_seek_ae1ea_59 x1 x2 x3 x4 x5 I)) (lv' := [(0, .inr (.inr (some 740))), (1, .inl _), (2, .inl _), (3, .inl _), (4, .inl _), (5, .inl _), (6, .inl _)]) (And.intro rfl (And.intro rfl (And.intro rfl (And.intro rfl (And.intro rfl (And.intro rfl (And.intro rfl True.intro))))))) ⟨_, _, _, _, _, _, rfl, rfl, ⟨by omega, (fun p s hp hs => by have hq := (hx0 p s hp hs).1; first | exact nf_skQ (qo_no (hx0 p s hp hs) (fun q => by have q1 := q.1; omega)) (by omega) (by omega) | exact nf_skQ (qo_no (hx0 p s hp hs) (fun q => by have q2 := q.2; omega)) (by omega) (by omega) | exact nf_skQ (qo_spent (hx0 p s hp hs) (by omega) (by omega) ⟨by omega, by omega⟩ rfl ehB77) (by omega) (by omega) | exact nf_skQ (qo_rec (hx0 p s hp hs) (by omega) (by omega) ⟨by omega, by omega⟩ (g0z72 (sUp p x2.toNat ((y6.toNat : Nat) : Int)) _ (path_uq ehB77 ehB44 ehB50 (fun i hi => (hx1 i hi).trans (hp i hi)) (by omega) rfl (by omega)) (qo_in (hx0 p s hp hs) (by omega) (by omega) rfl (by omega) ehB77 ehB44 ehB50))) (by omega) (by omega) | (exfalso; omega)), (fun i hi => by first | exact (g1z72 i (by omega)).trans ((fup_other ehB50 757 i (Or.inr (by omega))).trans ((fup_other ehB44 757 i (Or.inl (by decide))).trans ((fup_other ehB77 757 i (Or.inl (by decide))).trans (hx1 i hi)))) | exact ((fup_other ehB77 757 i (Or.inl (by decide))).trans (hx1 i hi)) | exact hx1 i hi | (exfalso; omega))⟩, rfl⟩ (by omega)
                · intro c85
                  refine And.intro ⟨rfl, by decide, by decide⟩ (fgetf fb_740_34 h0 hB77 ?_)
                  intro z86 lz86 uz86 qz86
                  intro z87 hz87 ez87 bz87
                  try replace bz87 := bz87 (by omega)
                  refine And.intro ⟨rfl, by decide, by decide⟩ (And.intro rfl (And.intro (Or.inl rfl) (fputf fb_740_34 (by decide +kernel) hW (by omega) ?_)))
                  intro IhB88 ehB88 hB88
                  have t89 : IhB88 740 33 = IhB77 740 33 := (congrFun (congrFun ehB88 740) 33).trans (fup_ne (by first | decide | omega))
                  have t90 := fup_at ehB88 34 (by first | rfl | omega)
                  have t91 : IhB88 740 35 = IhB77 740 35 := (congrFun (congrFun ehB88 740) 35).trans (fup_ne (by first | decide | omega))
                  have t92 : IhB88 741 12 = IhB77 741 12 := (congrFun (congrFun ehB88 741) 12).trans (fup_ne (by first | decide | omega))
                  have k93 := fBz_eq hB88 (a := 741) (j := 12) (by decide +kernel)
                  refine And.intro ⟨rfl, by decide, by decide⟩ ?_
                  refine fstore1 rS_757_757_0_6_1_0 (fzs_sub (by decide +kernel) hW) ⟨by decide, by decide⟩ (by first | exact ⟨Int.le_trans (by decide) hb.2.1.1, hb.2.1.2⟩ | omega) (by first | exact ⟨hb.2.2.2.2.2.1.1, Int.le_trans (Int.le_sub_one_of_lt (Int.lt_of_lt_of_le c19 uz17)) (by decide)⟩ | omega) ?_
                  intro IhB94 ehB94 hB94
                  have t95 := fup_self ehB94
                  have t96 : IhB94 740 33 = IhB88 740 33 := (congrFun (congrFun ehB94 740) 33).trans (fup_ne (by first | exact Or.inl (by decide) | omega))
                  have t97 : IhB94 740 34 = IhB88 740 34 := (congrFun (congrFun ehB94 740) 34).trans (fup_ne (by first | exact Or.inl (by decide) | omega))
                  have t98 : IhB94 740 35 = IhB88 740 35 := (congrFun (congrFun ehB94 740) 35).trans (fup_ne (by first | exact Or.inl (by decide) | omega))
                  have t99 : IhB94 741 12 = IhB88 741 12 := (congrFun (congrFun ehB94 741) 12).trans (fup_ne (by first | exact Or.inl (by decide) | omega))
                  have k100 := fBz_eq hB94 (a := 741) (j := 12) (by decide +kernel)
                  refine And.intro ⟨rfl, by decide, by decide⟩ ?_
                  refine fload rL_741_741_4370_4388_3_0 h0 hB94 (by omega) ?_
                  intro z101 lz101 uz101 qz101
                  have s4 : ∀ j, IhB94 741 j = I 741 j := fun j => (fup_other ehB94 741 j (Or.inl (by decide))).trans ((fup_other ehB88 741 j (Or.inl (by decide))).trans ((fup_other ehB77 741 j (Or.inl (by decide))).trans (sS j)))
                  have w166 := (fld_at qz101 (4370 + 3 * y6.toNat) (by omega)).trans (s4 _)
                  intro z102 hz102 ez102 bz102
                  have bz102 := bz102 (by omega)
                  intro z103 hz103 ez103
                  intro z104 hz104 ez104
                  refine And.intro (by omega) (And.intro ?_ ?_)
                  · intro c105
                    intro z106 hz106 ez106 bz106
                    try replace bz106 := bz106 (by omega)
                    refine Exists.intro xm_479 (And.intro mi_479 (And.intro ⟨rfl, rfl, rfl, rfl⟩ (And.intro rfl ?_)))
                    refine fcall _ h0 (fzs_sub (by decide +kernel) hW) hB94 (ct_M_seek_c83ec (fBz h0 hB94) (by first | exact ⟨hb.1.1, hb.1.2⟩ | omega) (by omega) (by omega) (by omega) (by omega) (by omega) (by omega) (by omega)) ?_
                    rintro IhB108 _ hB108 fhB108 ⟨rfl, hz107, g0z107, g1z107⟩
                    have t109 := fhB108 741 12 (by decide +kernel)
                    have k110 := fBz_eq hB108 (a := 741) (j := 12) (by decide +kernel)
                    have wd := sDn_of hz104 (by omega) ez103 ez104
                    have we : z102 = x4 + I 741 (4370 + 3 * y6.toNat) := by omega
                    have ws : z106 = x5 + sMo x1 (x4 + I 741 (4370 + 3 * y6.toNat)) (I 741 (4371 + 3 * y6.toNat)) := by first | (have q := mo_of (span := x1) (e := x4 + I 741 (4370 + 3 * y6.toNat)) w204 (by omega); rw [w199] at q; omega) | (have q : sMo x1 (x4 + I 741 (4370 + 3 * y6.toNat)) (I 741 (4371 + 3 * y6.toNat)) = 0 := if_pos (by omega); omega)
                    simp only [s4] at g0z107
                    rw [wd, we, ws, show (x2 + ((1 : Nat) : Int)).toNat = x2.toNat + 1 by omega] at g0z107
                    exact fcutJ (I := IhB108) (j := (jc_M_seek_ae1ea_59 x1 x2 x3 x4 x5 I)) (lv' := [(0, .inr (.inr (some 740))), (1, .inl _), (2, .inl _), (3, .inl _), (4, .inl _), (5, .inl _), (6, .inl _)]) (And.intro rfl (And.intro rfl (And.intro rfl (And.intro rfl (And.intro rfl (And.intro rfl (And.intro rfl True.intro))))))) ⟨_, _, _, _, _, _, rfl, rfl, ⟨by omega, (fun p s hp hs => by have hq := (hx0 p s hp hs).1; first | exact nf_skQ (qo_no (hx0 p s hp hs) (fun q => by have q1 := q.1; omega)) (by omega) (by omega) | exact nf_skQ (qo_no (hx0 p s hp hs) (fun q => by have q2 := q.2; omega)) (by omega) (by omega) | exact nf_skQ (qo_spent (hx0 p s hp hs) (by omega) (by omega) ⟨by omega, by omega⟩ rfl ehB77) (by omega) (by omega) | exact nf_skQ (qo_rec (hx0 p s hp hs) (by omega) (by omega) ⟨by omega, by omega⟩ (g0z107 (sUp p x2.toNat ((y6.toNat : Nat) : Int)) _ (path_uq ehB77 ehB88 ehB94 (fun i hi => (hx1 i hi).trans (hp i hi)) (by omega) rfl (by omega)) (qo_in (hx0 p s hp hs) (by omega) (by omega) rfl (by omega) ehB77 ehB88 ehB94))) (by omega) (by omega) | (exfalso; omega)), (fun i hi => by first | exact (g1z107 i (by omega)).trans ((fup_other ehB94 757 i (Or.inr (by omega))).trans ((fup_other ehB88 757 i (Or.inl (by decide))).trans ((fup_other ehB77 757 i (Or.inl (by decide))).trans (hx1 i hi)))) | exact ((fup_other ehB77 757 i (Or.inl (by decide))).trans (hx1 i hi)) | exact hx1 i hi | (exfalso; omega))⟩, rfl⟩ (by omega)
                  · intro c111
                    refine And.intro ⟨rfl, by decide, by decide⟩ ?_
                    refine fload rL_741_741_4371_4389_3_0 h0 hB94 (by omega) ?_
                    intro z112 lz112 uz112 qz112
                    have w199 := (fld_at qz112 (4371 + 3 * y6.toNat) (by omega)).trans (s4 _)
                    intro z113 hz113 ez113 bz113
                    have bz113 := bz113 (by omega)
                    intro z114 hz114 ez114 bz114
                    try replace bz114 := bz114 (by omega)
                    have w203 := mul_bd (a := z112) (b := z113) (by omega) (by omega)
                    have w204 : z114 = z112 * z113 := by first | exact bz114 (by omega) | exact bz114
                    intro z115 hz115 ez115 bz115
                    try replace bz115 := bz115 (by omega)
                    refine Exists.intro xm_479 (And.intro mi_479 (And.intro ⟨rfl, rfl, rfl, rfl⟩ (And.intro rfl ?_)))
                    refine fcall _ h0 (fzs_sub (by decide +kernel) hW) hB94 (ct_M_seek_c83ec (fBz h0 hB94) (by first | exact ⟨hb.1.1, hb.1.2⟩ | omega) (by omega) (by omega) (by omega) (by omega) (by omega) (by omega) (by omega)) ?_
                    rintro IhB117 _ hB117 fhB117 ⟨rfl, hz116, g0z116, g1z116⟩
                    have t118 := fhB117 741 12 (by decide +kernel)
                    have k119 := fBz_eq hB117 (a := 741) (j := 12) (by decide +kernel)
                    have wd := sDn_of hz104 (by omega) ez103 ez104
                    have we : z102 = x4 + I 741 (4370 + 3 * y6.toNat) := by omega
                    have ws : z115 = x5 + sMo x1 (x4 + I 741 (4370 + 3 * y6.toNat)) (I 741 (4371 + 3 * y6.toNat)) := by first | (have q := mo_of (span := x1) (e := x4 + I 741 (4370 + 3 * y6.toNat)) w204 (by omega); rw [w199] at q; omega) | (have q : sMo x1 (x4 + I 741 (4370 + 3 * y6.toNat)) (I 741 (4371 + 3 * y6.toNat)) = 0 := if_pos (by omega); omega)
                    simp only [s4] at g0z116
                    rw [wd, we, ws, show (x2 + ((1 : Nat) : Int)).toNat = x2.toNat + 1 by omega] at g0z116
                    exact fcutJ (I := IhB117) (j := (jc_M_seek_ae1ea_59 x1 x2 x3 x4 x5 I)) (lv' := [(0, .inr (.inr (some 740))), (1, .inl _), (2, .inl _), (3, .inl _), (4, .inl _), (5, .inl _), (6, .inl _)]) (And.intro rfl (And.intro rfl (And.intro rfl (And.intro rfl (And.intro rfl (And.intro rfl (And.intro rfl True.intro))))))) ⟨_, _, _, _, _, _, rfl, rfl, ⟨by omega, (fun p s hp hs => by have hq := (hx0 p s hp hs).1; first | exact nf_skQ (qo_no (hx0 p s hp hs) (fun q => by have q1 := q.1; omega)) (by omega) (by omega) | exact nf_skQ (qo_no (hx0 p s hp hs) (fun q => by have q2 := q.2; omega)) (by omega) (by omega) | exact nf_skQ (qo_spent (hx0 p s hp hs) (by omega) (by omega) ⟨by omega, by omega⟩ rfl ehB77) (by omega) (by omega) | exact nf_skQ (qo_rec (hx0 p s hp hs) (by omega) (by omega) ⟨by omega, by omega⟩ (g0z116 (sUp p x2.toNat ((y6.toNat : Nat) : Int)) _ (path_uq ehB77 ehB88 ehB94 (fun i hi => (hx1 i hi).trans (hp i hi)) (by omega) rfl (by omega)) (qo_in (hx0 p s hp hs) (by omega) (by omega) rfl (by omega) ehB77 ehB88 ehB94))) (by omega) (by omega) | (exfalso; omega)), (fun i hi => by first | exact (g1z116 i (by omega)).trans ((fup_other ehB94 757 i (Or.inr (by omega))).trans ((fup_other ehB88 757 i (Or.inl (by decide))).trans ((fup_other ehB77 757 i (Or.inl (by decide))).trans (hx1 i hi)))) | exact ((fup_other ehB77 757 i (Or.inl (by decide))).trans (hx1 i hi)) | exact hx1 i hi | (exfalso; omega))⟩, rfl⟩ (by omega)
            · intro c120
              exact fcutJ (I := I1) (j := (jc_M_seek_ae1ea_59 x1 x2 x3 x4 x5 I)) (lv' := [(0, .inr (.inr (some 740))), (1, .inl _), (2, .inl _), (3, .inl _), (4, .inl _), (5, .inl _), (6, .inl _)]) (And.intro rfl (And.intro rfl (And.intro rfl (And.intro rfl (And.intro rfl (And.intro rfl (And.intro rfl True.intro))))))) ⟨_, _, _, _, _, _, rfl, rfl, ⟨by omega, (fun p s hp hs => by have hq := (hx0 p s hp hs).1; first | exact nf_skQ (qo_no (hx0 p s hp hs) (fun q => by have q1 := q.1; omega)) (by omega) (by omega) | exact nf_skQ (qo_no (hx0 p s hp hs) (fun q => by have q2 := q.2; omega)) (by omega) (by omega) | exact nf_skQ (qo_spent (hx0 p s hp hs) (by omega) (by omega) ⟨by omega, by omega⟩ rfl ehB77) (by omega) (by omega) | exact nf_skQ (qo_rec (hx0 p s hp hs) (by omega) (by omega) ⟨by omega, by omega⟩ (g0z116 (sUp p x2.toNat ((y6.toNat : Nat) : Int)) _ (path_uq ehB77 ehB88 ehB94 (fun i hi => (hx1 i hi).trans (hp i hi)) (by omega) rfl (by omega)) (qo_in (hx0 p s hp hs) (by omega) (by omega) rfl (by omega) ehB77 ehB88 ehB94))) (by omega) (by omega) | (exfalso; omega)), (fun i hi => by first | exact (g1z116 i (by omega)).trans ((fup_other ehB94 757 i (Or.inr (by omega))).trans ((fup_other ehB88 757 i (Or.inl (by decide))).trans ((fup_other ehB77 757 i (Or.inl (by decide))).trans (hx1 i hi)))) | exact ((fup_other ehB77 757 i (Or.inl (by decide))).trans (hx1 i hi)) | exact hx1 i hi | (exfalso; omega))⟩, rfl⟩ (by omega)
  · have hB0 := fB_self (zn := znJ) (K := fKc wz_4d25e) h0
    have b121 := fBd fb_741_12 (fBz h0 hB0)
    have b122 := fBd fb_740_35 (fBz h0 hB0)
    refine And.intro ⟨rfl, by decide, by decide⟩ ?_
    refine fload1 rL_741_741_12_12_1_0 h0 hB0 ⟨by decide, by decide⟩ (by first | exact ⟨by decide, by decide⟩ | omega) ?_
    intro z123 lz123 uz123 qz123
    have pz123 := fld_at qz123 12 (by omega)
    refine And.intro (And.intro (by first | exact fi_ ha2.1 ha2.2 rfl | omega) (by first | exact fi_ lz123 uz123 rfl | omega)) (And.intro ?_ ?_)
    · intro c124
      exact fcutJ (I := I) (j := (jc_M_seek_ae1ea_59 x1 x2 x3 x4 x5 I)) (lv' := [(0, .inr (.inr (some 740))), (1, .inl _), (2, .inl _), (3, .inl _), (4, .inl _), (5, .inl _), (6, .inl _)]) (And.intro rfl (And.intro rfl (And.intro rfl (And.intro rfl (And.intro rfl (And.intro rfl (And.intro rfl True.intro))))))) ⟨_, _, _, _, _, _, rfl, rfl, ⟨by omega, (fun p s hp hs => hs), (fun i _ => rfl)⟩, rfl⟩ (by omega)
    · intro c125
      refine And.intro ⟨rfl, by decide, by decide⟩ (fgetf fb_740_33 h0 hB0 ?_)
      intro z126 lz126 uz126 qz126
      refine And.intro (And.intro (by first | exact fi_ ha5.1 ha5.2 rfl | omega) (by first | exact fi_ lz126 uz126 rfl | omega)) (And.intro ?_ ?_)
      · intro c127
        exact ⟨rfl, True.intro, (fun p s hp hs => by rw [sk_tk (by omega)]; first | exact tq_yes hs (by omega) (by omega) (fun i hi => hp i (by omega)) (by omega) (by omega) (by omega) (fun i hi => hx0 i (by omega)) | exact tq_yes hs (by omega) (by omega) (fun i hi => hp i (by omega)) (by omega) (by omega) (by omega) (fun i hi => absurd hi (by omega)) | exact tq_no hs (by omega) (by omega)), (by first | exact (fun i _ => hx1 i) | exact (fun i _ => rfl) | exact (fun i _ => fup_other enil0 757 i (Or.inl (by decide))))⟩
      · intro c128
        refine And.intro ⟨rfl, by decide, by decide⟩ (And.intro rfl (And.intro (Or.inl rfl) (fputf fb_740_33 (by decide +kernel) hW (by first | exact ⟨Int.le_trans (by decide) (Int.add_one_le_of_lt (Int.lt_of_le_of_lt lz126 c128)), ha5.2⟩ | omega) ?_)))
        intro IhB129 ehB129 hB129
        have t130 := fup_at ehB129 33 (by first | rfl | omega)
        have t131 : IhB129 740 34 = I 740 34 := (congrFun (congrFun ehB129 740) 34).trans (fup_ne (by first | decide | omega))
        have t132 : IhB129 740 35 = I 740 35 := (congrFun (congrFun ehB129 740) 35).trans (fup_ne (by first | decide | omega))
        have t133 : IhB129 741 12 = I 741 12 := (congrFun (congrFun ehB129 741) 12).trans (fup_ne (by first | decide | omega))
        have k134 := fBz_eq hB129 (a := 741) (j := 12) (by decide +kernel)
        exact fcutJ (I := IhB129) (j := (jc_M_seek_ae1ea_29 x2 x5 I)) (lv' := [(0, .inr (.inr (some 740))), (2, .inl _), (6, .inl _)]) (And.intro rfl (And.intro rfl (And.intro rfl True.intro))) ⟨_, _, rfl, rfl, ⟨by omega, (fun i h => absurd h (by omega)), (fun i => fup_other ehB129 757 i (Or.inl (by decide)))⟩, rfl⟩ (by omega)
abbrev jc_M_seek_5a34b_29 (x2 : Int) (x5 : Int) (I0 : fH) : Nat → fL → List fV → fH → Prop := fun m lv st I => ∃ (y2 : Int) (y6 : Int), lv = [(0, .inr (.inr (some 740))), (2, .inl y2), (6, .inl y6)] ∧ st = [] ∧ (((5 ≤ y2 ∧ y2 ≤ 5) ∧ (0 ≤ y6 ∧ y6 ≤ 5) ∧ ((-2147483647) ≤ I 740 33 ∧ I 740 33 ≤ 2147483647) ∧ (5 ≤ I 741 12 ∧ I 741 12 ≤ 5) ∧ (y2 = x2) ∧ (x2 = I0 741 12) ∧ (I 740 33 = x5) ∧ (I0 740 33 < x5) ∧ (I 740 34 = I0 740 34) ∧ (I 740 35 = I0 740 35) ∧ (y6 ≤ x2)) ∧ (∀ i : Nat, (i : Int) < y6 → I 758 i = I0 757 i) ∧ (∀ i : Nat, I 757 i = I0 757 i)) ∧ m = (9 + 1 * (5 - y6) : Int).toNat
abbrev jc_M_seek_5a34b_59 (x1 : Int) (x2 : Int) (x3 : Int) (x4 : Int) (x5 : Int) (I0 : fH) : Nat → fL → List fV → fH → Prop := fun m lv st I => ∃ (y1 : Int) (y2 : Int) (y3 : Int) (y4 : Int) (y5 : Int) (y6 : Int), lv = [(0, .inr (.inr (some 740))), (1, .inl y1), (2, .inl y2), (3, .inl y3), (4, .inl y4), (5, .inl y5), (6, .inl y6)] ∧ st = [] ∧ (((1 ≤ y1 ∧ y1 ≤ 60) ∧ (5 ≤ y2 ∧ y2 ≤ 5) ∧ ((-2147483648) ≤ y3 ∧ y3 ≤ 2147483647) ∧ (0 ≤ y4 ∧ y4 ≤ 45) ∧ ((-2147483648) ≤ y5 ∧ y5 ≤ 2147483647) ∧ (0 ≤ y6 ∧ y6 ≤ 7) ∧ (y2 < I 741 12) ∧ (y1 = x1) ∧ (y2 = x2) ∧ (y3 = x3) ∧ (y4 = x4) ∧ (y5 = x5) ∧ (x2 < I0 741 12) ∧ (y6 ≤ I0 741 12)) ∧ (∀ (p : Nat → Int) (s : sSt), (∀ i : Nat, (i : Int) < x2 → I0 757 i = p i) → skQ (I0 741 12).toNat s I0 → skQ (I0 741 12).toNat (nf (sGo (fun b => I0 741 (4370 + 3 * b)) (fun b => I0 741 (4371 + 3 * b)) (fun b => I0 741 (4372 + 3 * b)) x1 (sSk (I0 741 12).toNat (fun b => I0 741 (4370 + 3 * b)) (fun b => I0 741 (4371 + 3 * b)) (fun b => I0 741 (4372 + 3 * b)) x1 1) x2.toNat x3 x4 x5 p) s y6.toNat) I) ∧ (∀ i : Nat, (i : Int) < x2 → I 757 i = I0 757 i)) ∧ m = (1 + 1 * (7 - y6) : Int).toNat
set_option maxRecDepth 8000 in
theorem ct_M_seek_5a34b {I : fH} {x1 : Int} {x2 : Int} {x3 : Int} {x4 : Int} {x5 : Int} (h0 : fB bsJ I) (ha1 : (1 ≤ x1 ∧ x1 ≤ 60)) (ha2 : (5 ≤ x2 ∧ x2 ≤ 5)) (ha3 : ((-2147483648) ≤ x3 ∧ x3 ≤ 2147483647)) (ha4 : (0 ≤ x4 ∧ x4 ≤ 45)) (ha5 : ((-2147483648) ≤ x5 ∧ x5 ≤ 2147483647)) (hp0 : x2 = 5) (hp1 : x2 ≤ I 741 12) (hp2 : 0 ≤ x5 ∧ x5 ≤ 5940 * x2) : fC ρ base n F xTc vwCl xTys D dA la gJ (fbz bsJ znJ (fKc wz_4d25e) I) xm_481 [.inr (.inr (some 740)), .inl x1, .inl x2, .inl x3, .inl x4, .inl x5] I (fun I' r => r = none ∧ True ∧ (∀ (p : Nat → Int) (s : sSt), (∀ i : Nat, (i : Int) < x2 → I 757 i = p i) → skQ (I 741 12).toNat s I → skQ (I 741 12).toNat (sSk (I 741 12).toNat (fun b => I 741 (4370 + 3 * b)) (fun b => I 741 (4371 + 3 * b)) (fun b => I 741 (4372 + 3 * b)) x1 2 x2.toNat x3 x4 x5 p s) I') ∧ (∀ i : Nat, (i : Int) < x2 → I' 757 i = I 757 i)) := by
  have hW : fzs wz_4d25e (fKc wz_4d25e) := fKc_ok _
  refine f_meth (rb := rbJ) (J := [(29, (jc_M_seek_5a34b_29 x2 x5 I)), (59, (jc_M_seek_5a34b_59 x1 x2 x3 x4 x5 I))]) 15 400 xG xin_481 x6_481 okJ (fB_self h0) ?_ ?_
  · refine List.forall_mem_cons.mpr ⟨?_, List.forall_mem_cons.mpr ⟨?_, fun q h => absurd h List.not_mem_nil⟩⟩
    · rintro m _ _ I1 hB1 ⟨y2, y6, rfl, rfl, ⟨hb, hx0, hx1⟩, hm⟩
      have k1 := fBz_eq hB1 (a := 741) (j := 12) (by decide +kernel)
      have b2 := fBd fb_741_12 (fBz h0 hB1)
      have b3 := fBd fb_740_35 (fBz h0 hB1)
      refine And.intro (And.intro (by first | exact fi_ hb.2.1.1 hb.2.1.2 rfl | omega) (by first | exact fi_ hb.1.1 hb.1.2 rfl | omega)) (And.intro ?_ ?_)
      · intro c4
        exact ⟨rfl, True.intro, (fun p s hp hs => by rw [sk_tk (by omega)]; first | exact tq_yes hs (by omega) (by omega) (fun i hi => hp i (by omega)) (by omega) (by omega) (by omega) (fun i hi => hx0 i (by omega)) | exact tq_yes hs (by omega) (by omega) (fun i hi => hp i (by omega)) (by omega) (by omega) (by omega) (fun i hi => absurd hi (by omega)) | exact tq_no hs (by omega) (by omega)), (by first | exact (fun i _ => hx1 i) | exact (fun i _ => rfl) | exact (fun i _ => fup_other enil0 757 i (Or.inl (by decide))))⟩
      · intro c5
        refine And.intro ⟨rfl, by decide, by decide⟩ ?_
        refine And.intro ⟨rfl, by decide, by decide⟩ ?_
        refine fload1 rL_757_757_0_6_1_0 h0 hB1 ⟨by decide, by decide⟩ (by first | exact ⟨hb.2.1.1, Int.le_trans (Int.le_sub_one_of_lt (Int.lt_of_lt_of_le c5 hb.1.2)) (by decide)⟩ | omega) ?_
        intro z6 lz6 uz6 qz6
        refine fstore1 rS_758_758_0_6_1_0 (fzs_sub (by decide +kernel) hW) ⟨by decide, by decide⟩ (by first | exact ⟨hb.2.1.1, Int.le_trans (Int.le_sub_one_of_lt (Int.lt_of_lt_of_le c5 hb.1.2)) (by decide)⟩ | omega) (by first | exact ⟨lz6, uz6⟩ | omega) ?_
        intro IhB7 ehB7 hB7
        have t8 := fup_self ehB7
        have t9 : IhB7 740 33 = I1 740 33 := (congrFun (congrFun ehB7 740) 33).trans (fup_ne (by first | exact Or.inl (by decide) | omega))
        have t10 : IhB7 740 34 = I1 740 34 := (congrFun (congrFun ehB7 740) 34).trans (fup_ne (by first | exact Or.inl (by decide) | omega))
        have t11 : IhB7 740 35 = I1 740 35 := (congrFun (congrFun ehB7 740) 35).trans (fup_ne (by first | exact Or.inl (by decide) | omega))
        have t12 : IhB7 741 12 = I1 741 12 := (congrFun (congrFun ehB7 741) 12).trans (fup_ne (by first | exact Or.inl (by decide) | omega))
        have k13 := fBz_eq hB7 (a := 741) (j := 12) (by decide +kernel)
        exact fcutJ (I := IhB7) (j := (jc_M_seek_5a34b_29 x2 x5 I)) (lv' := [(0, .inr (.inr (some 740))), (2, .inl _), (6, .inl _)]) (And.intro rfl (And.intro rfl (And.intro rfl True.intro))) ⟨_, _, rfl, rfl, ⟨by omega, (fun i h => if ei : i = y6.toNat then (by rw [ei]; exact (fup_self ehB7).trans (qz6.trans (hx1 _))) else (fup_other ehB7 758 i (Or.inr ei)).trans (hx0 i (by omega))), (fun i => (fup_other ehB7 757 i (Or.inl (by decide))).trans (hx1 i))⟩, rfl⟩ (by omega)
    · rintro m _ _ I1 hB1 ⟨y1, y2, y3, y4, y5, y6, rfl, rfl, ⟨hb, hx0, hx1⟩, hm⟩
      have k14 := fBz_eq hB1 (a := 741) (j := 12) (by decide +kernel)
      have b15 := fBd fb_741_12 (fBz h0 hB1)
      have b16 := fBd fb_740_35 (fBz h0 hB1)
      have ey1 : x1 = y1 := by omega
      subst ey1
      have ey2 : x2 = y2 := by omega
      subst ey2
      have ey3 : x3 = y3 := by omega
      subst ey3
      have ey4 : x4 = y4 := by omega
      subst ey4
      have ey5 : x5 = y5 := by omega
      subst ey5
      have sS := fFr_S (fFr_of hB1) (by decide +kernel)
      refine And.intro ⟨rfl, by decide, by decide⟩ ?_
      refine fload1 rL_741_741_12_12_1_0 h0 hB1 ⟨by decide, by decide⟩ (by first | exact ⟨by decide, by decide⟩ | omega) ?_
      intro z17 lz17 uz17 qz17
      have pz17 := fld_at qz17 12 (by omega)
      refine And.intro (And.intro (by first | exact fi_ hb.2.2.2.2.2.1.1 hb.2.2.2.2.2.1.2 rfl | omega) (by first | exact fi_ lz17 uz17 rfl | omega)) (And.intro ?_ ?_)
      · intro c18
        exact ⟨rfl, True.intro, (fun p s hp hs => by first | (exfalso; omega) | (rw [sk_go (by omega)]; exact sq_end (hx0 p s hp hs) (by omega) (by omega))), hx1⟩
      · intro c19
        refine And.intro ⟨rfl, by decide, by decide⟩ (fgetf fb_740_35 h0 hB1 ?_)
        intro z20 lz20 uz20 qz20
        refine And.intro (by first | exact fi_ lz20 uz20 rfl | omega) (And.intro ?_ ?_)
        · intro c21
          exact ⟨rfl, True.intro, (fun p s hp hs => by first | (exfalso; omega) | (rw [sk_go (by omega)]; exact sq_end (hx0 p s hp hs) (by omega) (by omega))), hx1⟩
        · intro c22
          intro z23 hz23 ez23
          intro z24 hz24 ez24 bz24
          have bz24 := bz24 (by omega)
          have wb := bt_of hz24 ez23 ez24 (by omega)
          refine And.intro (And.intro (by first | exact fi_ bz24.1 bz24.2 rfl | omega) (by first | exact ⟨by decide, by decide⟩ | omega)) (And.intro ?_ ?_)
          · intro c25
            exact fcutJ (I := I1) (j := (jc_M_seek_5a34b_59 x1 x2 x3 x4 x5 I)) (lv' := [(0, .inr (.inr (some 740))), (1, .inl _), (2, .inl _), (3, .inl _), (4, .inl _), (5, .inl _), (6, .inl _)]) (And.intro rfl (And.intro rfl (And.intro rfl (And.intro rfl (And.intro rfl (And.intro rfl (And.intro rfl True.intro))))))) ⟨_, _, _, _, _, _, rfl, rfl, ⟨by omega, (fun p s hp hs => by have hq := (hx0 p s hp hs).1; first | exact nf_skQ (qo_no (hx0 p s hp hs) (fun q => by have q1 := q.1; omega)) (by omega) (by omega) | exact nf_skQ (qo_no (hx0 p s hp hs) (fun q => by have q2 := q.2; omega)) (by omega) (by omega) | exact nf_skQ (qo_spent (hx0 p s hp hs) (by omega) (by omega) ⟨by omega, by omega⟩ rfl enil0) (by omega) (by omega) | exact nf_skQ (qo_rec (hx0 p s hp hs) (by omega) (by omega) ⟨by omega, by omega⟩ (g0nil0 (sUp p x2.toNat ((y6.toNat : Nat) : Int)) _ (path_uq enil0 enil0 enil0 (fun i hi => (hx1 i hi).trans (hp i hi)) (by omega) rfl (by omega)) (qo_in (hx0 p s hp hs) (by omega) (by omega) rfl (by omega) enil0 enil0 enil0))) (by omega) (by omega) | (exfalso; omega)), (fun i hi => by first | exact (g1nil0 i (by omega)).trans ((fup_other enil0 757 i (Or.inr (by omega))).trans ((fup_other enil0 757 i (Or.inl (by decide))).trans ((fup_other enil0 757 i (Or.inl (by decide))).trans (hx1 i hi)))) | exact ((fup_other enil0 757 i (Or.inl (by decide))).trans (hx1 i hi)) | exact hx1 i hi | (exfalso; omega))⟩, rfl⟩ (by omega)
          · intro c26
            refine And.intro ⟨rfl, by decide, by decide⟩ ?_
            refine fload rL_741_741_4372_4390_3_0 h0 hB1 (by omega) ?_
            intro z27 lz27 uz27 qz27
            intro z28 hz28 ez28
            intro z29 hz29 ez29 bz29
            clear bz29
            have wa := sAh_of hz29 ez28 ez29
            rw [fld_at qz27 (4372 + 3 * y6.toNat) (by omega), sS] at wa
            refine And.intro (by omega) (And.intro ?_ ?_)
            · intro c30
              refine And.intro ⟨rfl, by decide, by decide⟩ (fgetf fb_740_34 h0 hB1 ?_)
              intro z31 lz31 uz31 qz31
              refine And.intro (by first | exact fi_ lz31 uz31 rfl | omega) (And.intro ?_ ?_)
              · intro c32
                refine And.intro ⟨rfl, by decide, by decide⟩ (And.intro rfl (And.intro (Or.inr ⟨rfl, by omega⟩) (fputf fb_740_35 (by decide +kernel) hW (by omega) ?_)))
                intro IhB33 ehB33 hB33
                have t34 : IhB33 740 33 = I1 740 33 := (congrFun (congrFun ehB33 740) 33).trans (fup_ne (by first | decide | omega))
                have t35 : IhB33 740 34 = I1 740 34 := (congrFun (congrFun ehB33 740) 34).trans (fup_ne (by first | decide | omega))
                have t36 := fup_at ehB33 35 (by first | rfl | omega)
                have t37 : IhB33 741 12 = I1 741 12 := (congrFun (congrFun ehB33 741) 12).trans (fup_ne (by first | decide | omega))
                have k38 := fBz_eq hB33 (a := 741) (j := 12) (by decide +kernel)
                refine And.intro ⟨rfl, by decide, by decide⟩ (fgetf fb_740_35 h0 hB33 ?_)
                intro z39 lz39 uz39 qz39
                refine And.intro (by first | exact fi_ lz39 uz39 rfl | omega) (And.intro ?_ ?_)
                · intro c40
                  exact fcutJ (I := IhB33) (j := (jc_M_seek_5a34b_59 x1 x2 x3 x4 x5 I)) (lv' := [(0, .inr (.inr (some 740))), (1, .inl _), (2, .inl _), (3, .inl _), (4, .inl _), (5, .inl _), (6, .inl _)]) (And.intro rfl (And.intro rfl (And.intro rfl (And.intro rfl (And.intro rfl (And.intro rfl (And.intro rfl True.intro))))))) ⟨_, _, _, _, _, _, rfl, rfl, ⟨by omega, (fun p s hp hs => by have hq := (hx0 p s hp hs).1; first | exact nf_skQ (qo_no (hx0 p s hp hs) (fun q => by have q1 := q.1; omega)) (by omega) (by omega) | exact nf_skQ (qo_no (hx0 p s hp hs) (fun q => by have q2 := q.2; omega)) (by omega) (by omega) | exact nf_skQ (qo_spent (hx0 p s hp hs) (by omega) (by omega) ⟨by omega, by omega⟩ rfl ehB33) (by omega) (by omega) | exact nf_skQ (qo_rec (hx0 p s hp hs) (by omega) (by omega) ⟨by omega, by omega⟩ (g0nil0 (sUp p x2.toNat ((y6.toNat : Nat) : Int)) _ (path_uq ehB33 enil0 enil0 (fun i hi => (hx1 i hi).trans (hp i hi)) (by omega) rfl (by omega)) (qo_in (hx0 p s hp hs) (by omega) (by omega) rfl (by omega) ehB33 enil0 enil0))) (by omega) (by omega) | (exfalso; omega)), (fun i hi => by first | exact (g1nil0 i (by omega)).trans ((fup_other enil0 757 i (Or.inr (by omega))).trans ((fup_other enil0 757 i (Or.inl (by decide))).trans ((fup_other ehB33 757 i (Or.inl (by decide))).trans (hx1 i hi)))) | exact ((fup_other ehB33 757 i (Or.inl (by decide))).trans (hx1 i hi)) | exact hx1 i hi | (exfalso; omega))⟩, rfl⟩ (by omega)
                · intro c41
                  refine And.intro ⟨rfl, by decide, by decide⟩ (fgetf fb_740_34 h0 hB33 ?_)
                  intro z42 lz42 uz42 qz42
                  intro z43 hz43 ez43 bz43
                  try replace bz43 := bz43 (by omega)
                  refine And.intro ⟨rfl, by decide, by decide⟩ (And.intro rfl (And.intro (Or.inl rfl) (fputf fb_740_34 (by decide +kernel) hW (by omega) ?_)))
                  intro IhB44 ehB44 hB44
                  have t45 : IhB44 740 33 = IhB33 740 33 := (congrFun (congrFun ehB44 740) 33).trans (fup_ne (by first | decide | omega))
                  have t46 := fup_at ehB44 34 (by first | rfl | omega)
                  have t47 : IhB44 740 35 = IhB33 740 35 := (congrFun (congrFun ehB44 740) 35).trans (fup_ne (by first | decide | omega))
                  have t48 : IhB44 741 12 = IhB33 741 12 := (congrFun (congrFun ehB44 741) 12).trans (fup_ne (by first | decide | omega))
                  have k49 := fBz_eq hB44 (a := 741) (j := 12) (by decide +kernel)
                  refine And.intro ⟨rfl, by decide, by decide⟩ ?_
                  refine fstore1 rS_757_757_0_6_1_0 (fzs_sub (by decide +kernel) hW) ⟨by decide, by decide⟩ (by first | exact ⟨Int.le_trans (by decide) hb.2.1.1, Int.le_trans hb.2.1.2 (by decide)⟩ | omega) (by first | exact ⟨hb.2.2.2.2.2.1.1, Int.le_trans (Int.le_sub_one_of_lt (Int.lt_of_lt_of_le c19 uz17)) (by decide)⟩ | omega) ?_
                  intro IhB50 ehB50 hB50
                  have t51 := fup_self ehB50
                  have t52 : IhB50 740 33 = IhB44 740 33 := (congrFun (congrFun ehB50 740) 33).trans (fup_ne (by first | exact Or.inl (by decide) | omega))
                  have t53 : IhB50 740 34 = IhB44 740 34 := (congrFun (congrFun ehB50 740) 34).trans (fup_ne (by first | exact Or.inl (by decide) | omega))
                  have t54 : IhB50 740 35 = IhB44 740 35 := (congrFun (congrFun ehB50 740) 35).trans (fup_ne (by first | exact Or.inl (by decide) | omega))
                  have t55 : IhB50 741 12 = IhB44 741 12 := (congrFun (congrFun ehB50 741) 12).trans (fup_ne (by first | exact Or.inl (by decide) | omega))
                  have k56 := fBz_eq hB50 (a := 741) (j := 12) (by decide +kernel)
                  refine And.intro ⟨rfl, by decide, by decide⟩ ?_
                  refine fload rL_741_741_4370_4388_3_0 h0 hB50 (by omega) ?_
                  intro z57 lz57 uz57 qz57
                  have s4 : ∀ j, IhB50 741 j = I 741 j := fun j => (fup_other ehB50 741 j (Or.inl (by decide))).trans ((fup_other ehB44 741 j (Or.inl (by decide))).trans ((fup_other ehB33 741 j (Or.inl (by decide))).trans (sS j)))
                  have w166 := (fld_at qz57 (4370 + 3 * y6.toNat) (by omega)).trans (s4 _)
                  intro z58 hz58 ez58 bz58
                  have bz58 := bz58 (by omega)
                  intro z59 hz59 ez59
                  intro z60 hz60 ez60
                  refine And.intro (by omega) (And.intro ?_ ?_)
                  · intro c61
                    intro z62 hz62 ez62 bz62
                    try replace bz62 := bz62 (by omega)
                    refine Exists.intro xm_480 (And.intro mi_480 (And.intro ⟨rfl, rfl, rfl, rfl⟩ (And.intro rfl ?_)))
                    refine fcall _ h0 (fzs_sub (by decide +kernel) hW) hB50 (ct_M_seek_ae1ea (fBz h0 hB50) (by first | exact ⟨hb.1.1, hb.1.2⟩ | omega) (by omega) (by omega) (by omega) (by omega) (by omega) (by omega) (by omega)) ?_
                    rintro IhB64 _ hB64 fhB64 ⟨rfl, hz63, g0z63, g1z63⟩
                    have t65 := fhB64 741 12 (by decide +kernel)
                    have k66 := fBz_eq hB64 (a := 741) (j := 12) (by decide +kernel)
                    have wd := sDn_of hz60 (by omega) ez59 ez60
                    have we : z58 = x4 + I 741 (4370 + 3 * y6.toNat) := by omega
                    have ws : z62 = x5 + sMo x1 (x4 + I 741 (4370 + 3 * y6.toNat)) (I 741 (4371 + 3 * y6.toNat)) := by first | (have q := mo_of (span := x1) (e := x4 + I 741 (4370 + 3 * y6.toNat)) w204 (by omega); rw [w199] at q; omega) | (have q : sMo x1 (x4 + I 741 (4370 + 3 * y6.toNat)) (I 741 (4371 + 3 * y6.toNat)) = 0 := if_pos (by omega); omega)
                    simp only [s4] at g0z63
                    rw [wd, we, ws, show (x2 + ((1 : Nat) : Int)).toNat = x2.toNat + 1 by omega] at g0z63
                    exact fcutJ (I := IhB64) (j := (jc_M_seek_5a34b_59 x1 x2 x3 x4 x5 I)) (lv' := [(0, .inr (.inr (some 740))), (1, .inl _), (2, .inl _), (3, .inl _), (4, .inl _), (5, .inl _), (6, .inl _)]) (And.intro rfl (And.intro rfl (And.intro rfl (And.intro rfl (And.intro rfl (And.intro rfl (And.intro rfl True.intro))))))) ⟨_, _, _, _, _, _, rfl, rfl, ⟨by omega, (fun p s hp hs => by have hq := (hx0 p s hp hs).1; first | exact nf_skQ (qo_no (hx0 p s hp hs) (fun q => by have q1 := q.1; omega)) (by omega) (by omega) | exact nf_skQ (qo_no (hx0 p s hp hs) (fun q => by have q2 := q.2; omega)) (by omega) (by omega) | exact nf_skQ (qo_spent (hx0 p s hp hs) (by omega) (by omega) ⟨by omega, by omega⟩ rfl ehB33) (by omega) (by omega) | exact nf_skQ (qo_rec (hx0 p s hp hs) (by omega) (by omega) ⟨by omega, by omega⟩ (g0z63 (sUp p x2.toNat ((y6.toNat : Nat) : Int)) _ (path_uq ehB33 ehB44 ehB50 (fun i hi => (hx1 i hi).trans (hp i hi)) (by omega) rfl (by omega)) (qo_in (hx0 p s hp hs) (by omega) (by omega) rfl (by omega) ehB33 ehB44 ehB50))) (by omega) (by omega) | (exfalso; omega)), (fun i hi => by first | exact (g1z63 i (by omega)).trans ((fup_other ehB50 757 i (Or.inr (by omega))).trans ((fup_other ehB44 757 i (Or.inl (by decide))).trans ((fup_other ehB33 757 i (Or.inl (by decide))).trans (hx1 i hi)))) | exact ((fup_other ehB33 757 i (Or.inl (by decide))).trans (hx1 i hi)) | exact hx1 i hi | (exfalso; omega))⟩, rfl⟩ (by omega)
                  · intro c67
                    refine And.intro ⟨rfl, by decide, by decide⟩ ?_
                    refine fload rL_741_741_4371_4389_3_0 h0 hB50 (by omega) ?_
                    intro z68 lz68 uz68 qz68
                    have w199 := (fld_at qz68 (4371 + 3 * y6.toNat) (by omega)).trans (s4 _)
                    intro z69 hz69 ez69 bz69
                    have bz69 := bz69 (by omega)
                    intro z70 hz70 ez70 bz70
                    try replace bz70 := bz70 (by omega)
                    have w203 := mul_bd (a := z68) (b := z69) (by omega) (by omega)
                    have w204 : z70 = z68 * z69 := by first | exact bz70 (by omega) | exact bz70
                    intro z71 hz71 ez71 bz71
                    try replace bz71 := bz71 (by omega)
                    refine Exists.intro xm_480 (And.intro mi_480 (And.intro ⟨rfl, rfl, rfl, rfl⟩ (And.intro rfl ?_)))
                    refine fcall _ h0 (fzs_sub (by decide +kernel) hW) hB50 (ct_M_seek_ae1ea (fBz h0 hB50) (by first | exact ⟨hb.1.1, hb.1.2⟩ | omega) (by omega) (by omega) (by omega) (by omega) (by omega) (by omega) (by omega)) ?_
                    rintro IhB73 _ hB73 fhB73 ⟨rfl, hz72, g0z72, g1z72⟩
                    have t74 := fhB73 741 12 (by decide +kernel)
                    have k75 := fBz_eq hB73 (a := 741) (j := 12) (by decide +kernel)
                    have wd := sDn_of hz60 (by omega) ez59 ez60
                    have we : z58 = x4 + I 741 (4370 + 3 * y6.toNat) := by omega
                    have ws : z71 = x5 + sMo x1 (x4 + I 741 (4370 + 3 * y6.toNat)) (I 741 (4371 + 3 * y6.toNat)) := by first | (have q := mo_of (span := x1) (e := x4 + I 741 (4370 + 3 * y6.toNat)) w204 (by omega); rw [w199] at q; omega) | (have q : sMo x1 (x4 + I 741 (4370 + 3 * y6.toNat)) (I 741 (4371 + 3 * y6.toNat)) = 0 := if_pos (by omega); omega)
                    simp only [s4] at g0z72
                    rw [wd, we, ws, show (x2 + ((1 : Nat) : Int)).toNat = x2.toNat + 1 by omega] at g0z72
                    exact fcutJ (I := IhB73) (j := (jc_M_seek_5a34b_59 x1 x2 x3 x4 x5 I)) (lv' := [(0, .inr (.inr (some 740))), (1, .inl _), (2, .inl _), (3, .inl _), (4, .inl _), (5, .inl _), (6, .inl _)]) (And.intro rfl (And.intro rfl (And.intro rfl (And.intro rfl (And.intro rfl (And.intro rfl (And.intro rfl True.intro))))))) ⟨_, _, _, _, _, _, rfl, rfl, ⟨by omega, (fun p s hp hs => by have hq := (hx0 p s hp hs).1; first | exact nf_skQ (qo_no (hx0 p s hp hs) (fun q => by have q1 := q.1; omega)) (by omega) (by omega) | exact nf_skQ (qo_no (hx0 p s hp hs) (fun q => by have q2 := q.2; omega)) (by omega) (by omega) | exact nf_skQ (qo_spent (hx0 p s hp hs) (by omega) (by omega) ⟨by omega, by omega⟩ rfl ehB33) (by omega) (by omega) | exact nf_skQ (qo_rec (hx0 p s hp hs) (by omega) (by omega) ⟨by omega, by omega⟩ (g0z72 (sUp p x2.toNat ((y6.toNat : Nat) : Int)) _ (path_uq ehB33 ehB44 ehB50 (fun i hi => (hx1 i hi).trans (hp i hi)) (by omega) rfl (by omega)) (qo_in (hx0 p s hp hs) (by omega) (by omega) rfl (by omega) ehB33 ehB44 ehB50))) (by omega) (by omega) | (exfalso; omega)), (fun i hi => by first | exact (g1z72 i (by omega)).trans ((fup_other ehB50 757 i (Or.inr (by omega))).trans ((fup_other ehB44 757 i (Or.inl (by decide))).trans ((fup_other ehB33 757 i (Or.inl (by decide))).trans (hx1 i hi)))) | exact ((fup_other ehB33 757 i (Or.inl (by decide))).trans (hx1 i hi)) | exact hx1 i hi | (exfalso; omega))⟩, rfl⟩ (by omega)
              · intro c76
                refine And.intro ⟨rfl, by decide, by decide⟩ (And.intro rfl (And.intro (Or.inr ⟨rfl, by decide, by decide⟩) (fputf fb_740_35 (by decide +kernel) hW (by first | exact ⟨by decide, by decide⟩ | omega) ?_)))
                intro IhB77 ehB77 hB77
                have t78 : IhB77 740 33 = I1 740 33 := (congrFun (congrFun ehB77 740) 33).trans (fup_ne (by first | decide | omega))
                have t79 : IhB77 740 34 = I1 740 34 := (congrFun (congrFun ehB77 740) 34).trans (fup_ne (by first | decide | omega))
                have t80 := fup_at ehB77 35 (by first | rfl | omega)
                have t81 : IhB77 741 12 = I1 741 12 := (congrFun (congrFun ehB77 741) 12).trans (fup_ne (by first | decide | omega))
                have k82 := fBz_eq hB77 (a := 741) (j := 12) (by decide +kernel)
                refine And.intro ⟨rfl, by decide, by decide⟩ (fgetf fb_740_35 h0 hB77 ?_)
                intro z83 lz83 uz83 qz83
                refine And.intro (by first | exact fi_ lz83 uz83 rfl | omega) (And.intro ?_ ?_)
                · intro c84
                  exact fcutJ (I := IhB77) (j := (jc_M_seek_5a34b_59 x1 x2 x3 x4 x5 I)) (lv' := [(0, .inr (.inr (some 740))), (1, .inl _), (2, .inl _), (3, .inl _), (4, .inl _), (5, .inl _), (6, .inl _)]) (And.intro rfl (And.intro rfl (And.intro rfl (And.intro rfl (And.intro rfl (And.intro rfl (And.intro rfl True.intro))))))) ⟨_, _, _, _, _, _, rfl, rfl, ⟨by omega, (fun p s hp hs => by have hq := (hx0 p s hp hs).1; first | exact nf_skQ (qo_no (hx0 p s hp hs) (fun q => by have q1 := q.1; omega)) (by omega) (by omega) | exact nf_skQ (qo_no (hx0 p s hp hs) (fun q => by have q2 := q.2; omega)) (by omega) (by omega) | exact nf_skQ (qo_spent (hx0 p s hp hs) (by omega) (by omega) ⟨by omega, by omega⟩ rfl ehB77) (by omega) (by omega) | exact nf_skQ (qo_rec (hx0 p s hp hs) (by omega) (by omega) ⟨by omega, by omega⟩ (g0z72 (sUp p x2.toNat ((y6.toNat : Nat) : Int)) _ (path_uq ehB77 ehB44 ehB50 (fun i hi => (hx1 i hi).trans (hp i hi)) (by omega) rfl (by omega)) (qo_in (hx0 p s hp hs) (by omega) (by omega) rfl (by omega) ehB77 ehB44 ehB50))) (by omega) (by omega) | (exfalso; omega)), (fun i hi => by first | exact (g1z72 i (by omega)).trans ((fup_other ehB50 757 i (Or.inr (by omega))).trans ((fup_other ehB44 757 i (Or.inl (by decide))).trans ((fup_other ehB77 757 i (Or.inl (by decide))).trans (hx1 i hi)))) | exact ((fup_other ehB77 757 i (Or.inl (by decide))).trans (hx1 i hi)) | exact hx1 i hi | (exfalso; omega))⟩, rfl⟩ (by omega)
                · intro c85
                  refine And.intro ⟨rfl, by decide, by decide⟩ (fgetf fb_740_34 h0 hB77 ?_)
                  intro z86 lz86 uz86 qz86
                  intro z87 hz87 ez87 bz87
                  try replace bz87 := bz87 (by omega)
                  refine And.intro ⟨rfl, by decide, by decide⟩ (And.intro rfl (And.intro (Or.inl rfl) (fputf fb_740_34 (by decide +kernel) hW (by omega) ?_)))
                  intro IhB88 ehB88 hB88
                  have t89 : IhB88 740 33 = IhB77 740 33 := (congrFun (congrFun ehB88 740) 33).trans (fup_ne (by first | decide | omega))
                  have t90 := fup_at ehB88 34 (by first | rfl | omega)
                  have t91 : IhB88 740 35 = IhB77 740 35 := (congrFun (congrFun ehB88 740) 35).trans (fup_ne (by first | decide | omega))
                  have t92 : IhB88 741 12 = IhB77 741 12 := (congrFun (congrFun ehB88 741) 12).trans (fup_ne (by first | decide | omega))
                  have k93 := fBz_eq hB88 (a := 741) (j := 12) (by decide +kernel)
                  refine And.intro ⟨rfl, by decide, by decide⟩ ?_
                  refine fstore1 rS_757_757_0_6_1_0 (fzs_sub (by decide +kernel) hW) ⟨by decide, by decide⟩ (by first | exact ⟨Int.le_trans (by decide) hb.2.1.1, Int.le_trans hb.2.1.2 (by decide)⟩ | omega) (by first | exact ⟨hb.2.2.2.2.2.1.1, Int.le_trans (Int.le_sub_one_of_lt (Int.lt_of_lt_of_le c19 uz17)) (by decide)⟩ | omega) ?_
                  intro IhB94 ehB94 hB94
                  have t95 := fup_self ehB94
                  have t96 : IhB94 740 33 = IhB88 740 33 := (congrFun (congrFun ehB94 740) 33).trans (fup_ne (by first | exact Or.inl (by decide) | omega))
                  have t97 : IhB94 740 34 = IhB88 740 34 := (congrFun (congrFun ehB94 740) 34).trans (fup_ne (by first | exact Or.inl (by decide) | omega))
                  have t98 : IhB94 740 35 = IhB88 740 35 := (congrFun (congrFun ehB94 740) 35).trans (fup_ne (by first | exact Or.inl (by decide) | omega))
                  have t99 : IhB94 741 12 = IhB88 741 12 := (congrFun (congrFun ehB94 741) 12).trans (fup_ne (by first | exact Or.inl (by decide) | omega))
                  have k100 := fBz_eq hB94 (a := 741) (j := 12) (by decide +kernel)
                  refine And.intro ⟨rfl, by decide, by decide⟩ ?_
                  refine fload rL_741_741_4370_4388_3_0 h0 hB94 (by omega) ?_
                  intro z101 lz101 uz101 qz101
                  have s4 : ∀ j, IhB94 741 j = I 741 j := fun j => (fup_other ehB94 741 j (Or.inl (by decide))).trans ((fup_other ehB88 741 j (Or.inl (by decide))).trans ((fup_other ehB77 741 j (Or.inl (by decide))).trans (sS j)))
                  have w166 := (fld_at qz101 (4370 + 3 * y6.toNat) (by omega)).trans (s4 _)
                  intro z102 hz102 ez102 bz102
                  have bz102 := bz102 (by omega)
                  intro z103 hz103 ez103
                  intro z104 hz104 ez104
                  refine And.intro (by omega) (And.intro ?_ ?_)
                  · intro c105
                    intro z106 hz106 ez106 bz106
                    try replace bz106 := bz106 (by omega)
                    refine Exists.intro xm_480 (And.intro mi_480 (And.intro ⟨rfl, rfl, rfl, rfl⟩ (And.intro rfl ?_)))
                    refine fcall _ h0 (fzs_sub (by decide +kernel) hW) hB94 (ct_M_seek_ae1ea (fBz h0 hB94) (by first | exact ⟨hb.1.1, hb.1.2⟩ | omega) (by omega) (by omega) (by omega) (by omega) (by omega) (by omega) (by omega)) ?_
                    rintro IhB108 _ hB108 fhB108 ⟨rfl, hz107, g0z107, g1z107⟩
                    have t109 := fhB108 741 12 (by decide +kernel)
                    have k110 := fBz_eq hB108 (a := 741) (j := 12) (by decide +kernel)
                    have wd := sDn_of hz104 (by omega) ez103 ez104
                    have we : z102 = x4 + I 741 (4370 + 3 * y6.toNat) := by omega
                    have ws : z106 = x5 + sMo x1 (x4 + I 741 (4370 + 3 * y6.toNat)) (I 741 (4371 + 3 * y6.toNat)) := by first | (have q := mo_of (span := x1) (e := x4 + I 741 (4370 + 3 * y6.toNat)) w204 (by omega); rw [w199] at q; omega) | (have q : sMo x1 (x4 + I 741 (4370 + 3 * y6.toNat)) (I 741 (4371 + 3 * y6.toNat)) = 0 := if_pos (by omega); omega)
                    simp only [s4] at g0z107
                    rw [wd, we, ws, show (x2 + ((1 : Nat) : Int)).toNat = x2.toNat + 1 by omega] at g0z107
                    exact fcutJ (I := IhB108) (j := (jc_M_seek_5a34b_59 x1 x2 x3 x4 x5 I)) (lv' := [(0, .inr (.inr (some 740))), (1, .inl _), (2, .inl _), (3, .inl _), (4, .inl _), (5, .inl _), (6, .inl _)]) (And.intro rfl (And.intro rfl (And.intro rfl (And.intro rfl (And.intro rfl (And.intro rfl (And.intro rfl True.intro))))))) ⟨_, _, _, _, _, _, rfl, rfl, ⟨by omega, (fun p s hp hs => by have hq := (hx0 p s hp hs).1; first | exact nf_skQ (qo_no (hx0 p s hp hs) (fun q => by have q1 := q.1; omega)) (by omega) (by omega) | exact nf_skQ (qo_no (hx0 p s hp hs) (fun q => by have q2 := q.2; omega)) (by omega) (by omega) | exact nf_skQ (qo_spent (hx0 p s hp hs) (by omega) (by omega) ⟨by omega, by omega⟩ rfl ehB77) (by omega) (by omega) | exact nf_skQ (qo_rec (hx0 p s hp hs) (by omega) (by omega) ⟨by omega, by omega⟩ (g0z107 (sUp p x2.toNat ((y6.toNat : Nat) : Int)) _ (path_uq ehB77 ehB88 ehB94 (fun i hi => (hx1 i hi).trans (hp i hi)) (by omega) rfl (by omega)) (qo_in (hx0 p s hp hs) (by omega) (by omega) rfl (by omega) ehB77 ehB88 ehB94))) (by omega) (by omega) | (exfalso; omega)), (fun i hi => by first | exact (g1z107 i (by omega)).trans ((fup_other ehB94 757 i (Or.inr (by omega))).trans ((fup_other ehB88 757 i (Or.inl (by decide))).trans ((fup_other ehB77 757 i (Or.inl (by decide))).trans (hx1 i hi)))) | exact ((fup_other ehB77 757 i (Or.inl (by decide))).trans (hx1 i hi)) | exact hx1 i hi | (exfalso; omega))⟩, rfl⟩ (by omega)
                  · intro c111
                    refine And.intro ⟨rfl, by decide, by decide⟩ ?_
                    refine fload rL_741_741_4371_4389_3_0 h0 hB94 (by omega) ?_
                    intro z112 lz112 uz112 qz112
                    have w199 := (fld_at qz112 (4371 + 3 * y6.toNat) (by omega)).trans (s4 _)
                    intro z113 hz113 ez113 bz113
                    have bz113 := bz113 (by omega)
                    intro z114 hz114 ez114 bz114
                    try replace bz114 := bz114 (by omega)
                    have w203 := mul_bd (a := z112) (b := z113) (by omega) (by omega)
                    have w204 : z114 = z112 * z113 := by first | exact bz114 (by omega) | exact bz114
                    intro z115 hz115 ez115 bz115
                    try replace bz115 := bz115 (by omega)
                    refine Exists.intro xm_480 (And.intro mi_480 (And.intro ⟨rfl, rfl, rfl, rfl⟩ (And.intro rfl ?_)))
                    refine fcall _ h0 (fzs_sub (by decide +kernel) hW) hB94 (ct_M_seek_ae1ea (fBz h0 hB94) (by first | exact ⟨hb.1.1, hb.1.2⟩ | omega) (by omega) (by omega) (by omega) (by omega) (by omega) (by omega) (by omega)) ?_
                    rintro IhB117 _ hB117 fhB117 ⟨rfl, hz116, g0z116, g1z116⟩
                    have t118 := fhB117 741 12 (by decide +kernel)
                    have k119 := fBz_eq hB117 (a := 741) (j := 12) (by decide +kernel)
                    have wd := sDn_of hz104 (by omega) ez103 ez104
                    have we : z102 = x4 + I 741 (4370 + 3 * y6.toNat) := by omega
                    have ws : z115 = x5 + sMo x1 (x4 + I 741 (4370 + 3 * y6.toNat)) (I 741 (4371 + 3 * y6.toNat)) := by first | (have q := mo_of (span := x1) (e := x4 + I 741 (4370 + 3 * y6.toNat)) w204 (by omega); rw [w199] at q; omega) | (have q : sMo x1 (x4 + I 741 (4370 + 3 * y6.toNat)) (I 741 (4371 + 3 * y6.toNat)) = 0 := if_pos (by omega); omega)
                    simp only [s4] at g0z116
                    rw [wd, we, ws, show (x2 + ((1 : Nat) : Int)).toNat = x2.toNat + 1 by omega] at g0z116
                    exact fcutJ (I := IhB117) (j := (jc_M_seek_5a34b_59 x1 x2 x3 x4 x5 I)) (lv' := [(0, .inr (.inr (some 740))), (1, .inl _), (2, .inl _), (3, .inl _), (4, .inl _), (5, .inl _), (6, .inl _)]) (And.intro rfl (And.intro rfl (And.intro rfl (And.intro rfl (And.intro rfl (And.intro rfl (And.intro rfl True.intro))))))) ⟨_, _, _, _, _, _, rfl, rfl, ⟨by omega, (fun p s hp hs => by have hq := (hx0 p s hp hs).1; first | exact nf_skQ (qo_no (hx0 p s hp hs) (fun q => by have q1 := q.1; omega)) (by omega) (by omega) | exact nf_skQ (qo_no (hx0 p s hp hs) (fun q => by have q2 := q.2; omega)) (by omega) (by omega) | exact nf_skQ (qo_spent (hx0 p s hp hs) (by omega) (by omega) ⟨by omega, by omega⟩ rfl ehB77) (by omega) (by omega) | exact nf_skQ (qo_rec (hx0 p s hp hs) (by omega) (by omega) ⟨by omega, by omega⟩ (g0z116 (sUp p x2.toNat ((y6.toNat : Nat) : Int)) _ (path_uq ehB77 ehB88 ehB94 (fun i hi => (hx1 i hi).trans (hp i hi)) (by omega) rfl (by omega)) (qo_in (hx0 p s hp hs) (by omega) (by omega) rfl (by omega) ehB77 ehB88 ehB94))) (by omega) (by omega) | (exfalso; omega)), (fun i hi => by first | exact (g1z116 i (by omega)).trans ((fup_other ehB94 757 i (Or.inr (by omega))).trans ((fup_other ehB88 757 i (Or.inl (by decide))).trans ((fup_other ehB77 757 i (Or.inl (by decide))).trans (hx1 i hi)))) | exact ((fup_other ehB77 757 i (Or.inl (by decide))).trans (hx1 i hi)) | exact hx1 i hi | (exfalso; omega))⟩, rfl⟩ (by omega)
            · intro c120
              exact fcutJ (I := I1) (j := (jc_M_seek_5a34b_59 x1 x2 x3 x4 x5 I)) (lv' := [(0, .inr (.inr (some 740))), (1, .inl _), (2, .inl _), (3, .inl _), (4, .inl _), (5, .inl _), (6, .inl _)]) (And.intro rfl (And.intro rfl (And.intro rfl (And.intro rfl (And.intro rfl (And.intro rfl (And.intro rfl True.intro))))))) ⟨_, _, _, _, _, _, rfl, rfl, ⟨by omega, (fun p s hp hs => by have hq := (hx0 p s hp hs).1; first | exact nf_skQ (qo_no (hx0 p s hp hs) (fun q => by have q1 := q.1; omega)) (by omega) (by omega) | exact nf_skQ (qo_no (hx0 p s hp hs) (fun q => by have q2 := q.2; omega)) (by omega) (by omega) | exact nf_skQ (qo_spent (hx0 p s hp hs) (by omega) (by omega) ⟨by omega, by omega⟩ rfl ehB77) (by omega) (by omega) | exact nf_skQ (qo_rec (hx0 p s hp hs) (by omega) (by omega) ⟨by omega, by omega⟩ (g0z116 (sUp p x2.toNat ((y6.toNat : Nat) : Int)) _ (path_uq ehB77 ehB88 ehB94 (fun i hi => (hx1 i hi).trans (hp i hi)) (by omega) rfl (by omega)) (qo_in (hx0 p s hp hs) (by omega) (by omega) rfl (by omega) ehB77 ehB88 ehB94))) (by omega) (by omega) | (exfalso; omega)), (fun i hi => by first | exact (g1z116 i (by omega)).trans ((fup_other ehB94 757 i (Or.inr (by omega))).trans ((fup_other ehB88 757 i (Or.inl (by decide))).trans ((fup_other ehB77 757 i (Or.inl (by decide))).trans (hx1 i hi)))) | exact ((fup_other ehB77 757 i (Or.inl (by decide))).trans (hx1 i hi)) | exact hx1 i hi | (exfalso; omega))⟩, rfl⟩ (by omega)
  · have hB0 := fB_self (zn := znJ) (K := fKc wz_4d25e) h0
    have b121 := fBd fb_741_12 (fBz h0 hB0)
    have b122 := fBd fb_740_35 (fBz h0 hB0)
    refine And.intro ⟨rfl, by decide, by decide⟩ ?_
    refine fload1 rL_741_741_12_12_1_0 h0 hB0 ⟨by decide, by decide⟩ (by first | exact ⟨by decide, by decide⟩ | omega) ?_
    intro z123 lz123 uz123 qz123
    have pz123 := fld_at qz123 12 (by omega)
    refine And.intro (And.intro (by first | exact fi_ ha2.1 ha2.2 rfl | omega) (by first | exact fi_ lz123 uz123 rfl | omega)) (And.intro ?_ ?_)
    · intro c124
      exact fcutJ (I := I) (j := (jc_M_seek_5a34b_59 x1 x2 x3 x4 x5 I)) (lv' := [(0, .inr (.inr (some 740))), (1, .inl _), (2, .inl _), (3, .inl _), (4, .inl _), (5, .inl _), (6, .inl _)]) (And.intro rfl (And.intro rfl (And.intro rfl (And.intro rfl (And.intro rfl (And.intro rfl (And.intro rfl True.intro))))))) ⟨_, _, _, _, _, _, rfl, rfl, ⟨by omega, (fun p s hp hs => hs), (fun i _ => rfl)⟩, rfl⟩ (by omega)
    · intro c125
      refine And.intro ⟨rfl, by decide, by decide⟩ (fgetf fb_740_33 h0 hB0 ?_)
      intro z126 lz126 uz126 qz126
      refine And.intro (And.intro (by first | exact fi_ ha5.1 ha5.2 rfl | omega) (by first | exact fi_ lz126 uz126 rfl | omega)) (And.intro ?_ ?_)
      · intro c127
        exact ⟨rfl, True.intro, (fun p s hp hs => by rw [sk_tk (by omega)]; first | exact tq_yes hs (by omega) (by omega) (fun i hi => hp i (by omega)) (by omega) (by omega) (by omega) (fun i hi => hx0 i (by omega)) | exact tq_yes hs (by omega) (by omega) (fun i hi => hp i (by omega)) (by omega) (by omega) (by omega) (fun i hi => absurd hi (by omega)) | exact tq_no hs (by omega) (by omega)), (by first | exact (fun i _ => hx1 i) | exact (fun i _ => rfl) | exact (fun i _ => fup_other enil0 757 i (Or.inl (by decide))))⟩
      · intro c128
        refine And.intro ⟨rfl, by decide, by decide⟩ (And.intro rfl (And.intro (Or.inl rfl) (fputf fb_740_33 (by decide +kernel) hW (by first | exact ⟨Int.le_trans (by decide) (Int.add_one_le_of_lt (Int.lt_of_le_of_lt lz126 c128)), ha5.2⟩ | omega) ?_)))
        intro IhB129 ehB129 hB129
        have t130 := fup_at ehB129 33 (by first | rfl | omega)
        have t131 : IhB129 740 34 = I 740 34 := (congrFun (congrFun ehB129 740) 34).trans (fup_ne (by first | decide | omega))
        have t132 : IhB129 740 35 = I 740 35 := (congrFun (congrFun ehB129 740) 35).trans (fup_ne (by first | decide | omega))
        have t133 : IhB129 741 12 = I 741 12 := (congrFun (congrFun ehB129 741) 12).trans (fup_ne (by first | decide | omega))
        have k134 := fBz_eq hB129 (a := 741) (j := 12) (by decide +kernel)
        exact fcutJ (I := IhB129) (j := (jc_M_seek_5a34b_29 x2 x5 I)) (lv' := [(0, .inr (.inr (some 740))), (2, .inl _), (6, .inl _)]) (And.intro rfl (And.intro rfl (And.intro rfl True.intro))) ⟨_, _, rfl, rfl, ⟨by omega, (fun i h => absurd h (by omega)), (fun i => fup_other ehB129 757 i (Or.inl (by decide)))⟩, rfl⟩ (by omega)
abbrev jc_M_seek_2af86_29 (x2 : Int) (x5 : Int) (I0 : fH) : Nat → fL → List fV → fH → Prop := fun m lv st I => ∃ (y2 : Int) (y6 : Int), lv = [(0, .inr (.inr (some 740))), (2, .inl y2), (6, .inl y6)] ∧ st = [] ∧ (((4 ≤ y2 ∧ y2 ≤ 4) ∧ (0 ≤ y6 ∧ y6 ≤ 4) ∧ ((-2147483647) ≤ I 740 33 ∧ I 740 33 ≤ 2147483647) ∧ (4 ≤ I 741 12 ∧ I 741 12 ≤ 4) ∧ (y2 = x2) ∧ (x2 = I0 741 12) ∧ (I 740 33 = x5) ∧ (I0 740 33 < x5) ∧ (I 740 34 = I0 740 34) ∧ (I 740 35 = I0 740 35) ∧ (y6 ≤ x2)) ∧ (∀ i : Nat, (i : Int) < y6 → I 758 i = I0 757 i) ∧ (∀ i : Nat, I 757 i = I0 757 i)) ∧ m = (9 + 1 * (4 - y6) : Int).toNat
abbrev jc_M_seek_2af86_59 (x1 : Int) (x2 : Int) (x3 : Int) (x4 : Int) (x5 : Int) (I0 : fH) : Nat → fL → List fV → fH → Prop := fun m lv st I => ∃ (y1 : Int) (y2 : Int) (y3 : Int) (y4 : Int) (y5 : Int) (y6 : Int), lv = [(0, .inr (.inr (some 740))), (1, .inl y1), (2, .inl y2), (3, .inl y3), (4, .inl y4), (5, .inl y5), (6, .inl y6)] ∧ st = [] ∧ (((1 ≤ y1 ∧ y1 ≤ 60) ∧ (4 ≤ y2 ∧ y2 ≤ 4) ∧ ((-2147483648) ≤ y3 ∧ y3 ≤ 2147483647) ∧ (0 ≤ y4 ∧ y4 ≤ 36) ∧ ((-2147483648) ≤ y5 ∧ y5 ≤ 2147483647) ∧ (0 ≤ y6 ∧ y6 ≤ 7) ∧ (y2 < I 741 12) ∧ (y1 = x1) ∧ (y2 = x2) ∧ (y3 = x3) ∧ (y4 = x4) ∧ (y5 = x5) ∧ (x2 < I0 741 12) ∧ (y6 ≤ I0 741 12)) ∧ (∀ (p : Nat → Int) (s : sSt), (∀ i : Nat, (i : Int) < x2 → I0 757 i = p i) → skQ (I0 741 12).toNat s I0 → skQ (I0 741 12).toNat (nf (sGo (fun b => I0 741 (4370 + 3 * b)) (fun b => I0 741 (4371 + 3 * b)) (fun b => I0 741 (4372 + 3 * b)) x1 (sSk (I0 741 12).toNat (fun b => I0 741 (4370 + 3 * b)) (fun b => I0 741 (4371 + 3 * b)) (fun b => I0 741 (4372 + 3 * b)) x1 2) x2.toNat x3 x4 x5 p) s y6.toNat) I) ∧ (∀ i : Nat, (i : Int) < x2 → I 757 i = I0 757 i)) ∧ m = (1 + 1 * (7 - y6) : Int).toNat
set_option maxRecDepth 8000 in
theorem ct_M_seek_2af86 {I : fH} {x1 : Int} {x2 : Int} {x3 : Int} {x4 : Int} {x5 : Int} (h0 : fB bsJ I) (ha1 : (1 ≤ x1 ∧ x1 ≤ 60)) (ha2 : (4 ≤ x2 ∧ x2 ≤ 4)) (ha3 : ((-2147483648) ≤ x3 ∧ x3 ≤ 2147483647)) (ha4 : (0 ≤ x4 ∧ x4 ≤ 36)) (ha5 : ((-2147483648) ≤ x5 ∧ x5 ≤ 2147483647)) (hp0 : x2 = 4) (hp1 : x2 ≤ I 741 12) (hp2 : 0 ≤ x5 ∧ x5 ≤ 5940 * x2) : fC ρ base n F xTc vwCl xTys D dA la gJ (fbz bsJ znJ (fKc wz_4d25e) I) xm_482 [.inr (.inr (some 740)), .inl x1, .inl x2, .inl x3, .inl x4, .inl x5] I (fun I' r => r = none ∧ True ∧ (∀ (p : Nat → Int) (s : sSt), (∀ i : Nat, (i : Int) < x2 → I 757 i = p i) → skQ (I 741 12).toNat s I → skQ (I 741 12).toNat (sSk (I 741 12).toNat (fun b => I 741 (4370 + 3 * b)) (fun b => I 741 (4371 + 3 * b)) (fun b => I 741 (4372 + 3 * b)) x1 3 x2.toNat x3 x4 x5 p s) I') ∧ (∀ i : Nat, (i : Int) < x2 → I' 757 i = I 757 i)) := by
  have hW : fzs wz_4d25e (fKc wz_4d25e) := fKc_ok _
  refine f_meth (rb := rbJ) (J := [(29, (jc_M_seek_2af86_29 x2 x5 I)), (59, (jc_M_seek_2af86_59 x1 x2 x3 x4 x5 I))]) 14 400 xG xin_482 x6_482 okJ (fB_self h0) ?_ ?_
  · refine List.forall_mem_cons.mpr ⟨?_, List.forall_mem_cons.mpr ⟨?_, fun q h => absurd h List.not_mem_nil⟩⟩
    · rintro m _ _ I1 hB1 ⟨y2, y6, rfl, rfl, ⟨hb, hx0, hx1⟩, hm⟩
      have k1 := fBz_eq hB1 (a := 741) (j := 12) (by decide +kernel)
      have b2 := fBd fb_741_12 (fBz h0 hB1)
      have b3 := fBd fb_740_35 (fBz h0 hB1)
      refine And.intro (And.intro (by first | exact fi_ hb.2.1.1 hb.2.1.2 rfl | omega) (by first | exact fi_ hb.1.1 hb.1.2 rfl | omega)) (And.intro ?_ ?_)
      · intro c4
        exact ⟨rfl, True.intro, (fun p s hp hs => by rw [sk_tk (by omega)]; first | exact tq_yes hs (by omega) (by omega) (fun i hi => hp i (by omega)) (by omega) (by omega) (by omega) (fun i hi => hx0 i (by omega)) | exact tq_yes hs (by omega) (by omega) (fun i hi => hp i (by omega)) (by omega) (by omega) (by omega) (fun i hi => absurd hi (by omega)) | exact tq_no hs (by omega) (by omega)), (by first | exact (fun i _ => hx1 i) | exact (fun i _ => rfl) | exact (fun i _ => fup_other enil0 757 i (Or.inl (by decide))))⟩
      · intro c5
        refine And.intro ⟨rfl, by decide, by decide⟩ ?_
        refine And.intro ⟨rfl, by decide, by decide⟩ ?_
        refine fload1 rL_757_757_0_6_1_0 h0 hB1 ⟨by decide, by decide⟩ (by first | exact ⟨hb.2.1.1, Int.le_trans (Int.le_sub_one_of_lt (Int.lt_of_lt_of_le c5 hb.1.2)) (by decide)⟩ | omega) ?_
        intro z6 lz6 uz6 qz6
        refine fstore1 rS_758_758_0_6_1_0 (fzs_sub (by decide +kernel) hW) ⟨by decide, by decide⟩ (by first | exact ⟨hb.2.1.1, Int.le_trans (Int.le_sub_one_of_lt (Int.lt_of_lt_of_le c5 hb.1.2)) (by decide)⟩ | omega) (by first | exact ⟨lz6, uz6⟩ | omega) ?_
        intro IhB7 ehB7 hB7
        have t8 := fup_self ehB7
        have t9 : IhB7 740 33 = I1 740 33 := (congrFun (congrFun ehB7 740) 33).trans (fup_ne (by first | exact Or.inl (by decide) | omega))
        have t10 : IhB7 740 34 = I1 740 34 := (congrFun (congrFun ehB7 740) 34).trans (fup_ne (by first | exact Or.inl (by decide) | omega))
        have t11 : IhB7 740 35 = I1 740 35 := (congrFun (congrFun ehB7 740) 35).trans (fup_ne (by first | exact Or.inl (by decide) | omega))
        have t12 : IhB7 741 12 = I1 741 12 := (congrFun (congrFun ehB7 741) 12).trans (fup_ne (by first | exact Or.inl (by decide) | omega))
        have k13 := fBz_eq hB7 (a := 741) (j := 12) (by decide +kernel)
        exact fcutJ (I := IhB7) (j := (jc_M_seek_2af86_29 x2 x5 I)) (lv' := [(0, .inr (.inr (some 740))), (2, .inl _), (6, .inl _)]) (And.intro rfl (And.intro rfl (And.intro rfl True.intro))) ⟨_, _, rfl, rfl, ⟨by omega, (fun i h => if ei : i = y6.toNat then (by rw [ei]; exact (fup_self ehB7).trans (qz6.trans (hx1 _))) else (fup_other ehB7 758 i (Or.inr ei)).trans (hx0 i (by omega))), (fun i => (fup_other ehB7 757 i (Or.inl (by decide))).trans (hx1 i))⟩, rfl⟩ (by omega)
    · rintro m _ _ I1 hB1 ⟨y1, y2, y3, y4, y5, y6, rfl, rfl, ⟨hb, hx0, hx1⟩, hm⟩
      have k14 := fBz_eq hB1 (a := 741) (j := 12) (by decide +kernel)
      have b15 := fBd fb_741_12 (fBz h0 hB1)
      have b16 := fBd fb_740_35 (fBz h0 hB1)
      have ey1 : x1 = y1 := by omega
      subst ey1
      have ey2 : x2 = y2 := by omega
      subst ey2
      have ey3 : x3 = y3 := by omega
      subst ey3
      have ey4 : x4 = y4 := by omega
      subst ey4
      have ey5 : x5 = y5 := by omega
      subst ey5
      have sS := fFr_S (fFr_of hB1) (by decide +kernel)
      refine And.intro ⟨rfl, by decide, by decide⟩ ?_
      refine fload1 rL_741_741_12_12_1_0 h0 hB1 ⟨by decide, by decide⟩ (by first | exact ⟨by decide, by decide⟩ | omega) ?_
      intro z17 lz17 uz17 qz17
      have pz17 := fld_at qz17 12 (by omega)
      refine And.intro (And.intro (by first | exact fi_ hb.2.2.2.2.2.1.1 hb.2.2.2.2.2.1.2 rfl | omega) (by first | exact fi_ lz17 uz17 rfl | omega)) (And.intro ?_ ?_)
      · intro c18
        exact ⟨rfl, True.intro, (fun p s hp hs => by first | (exfalso; omega) | (rw [sk_go (by omega)]; exact sq_end (hx0 p s hp hs) (by omega) (by omega))), hx1⟩
      · intro c19
        refine And.intro ⟨rfl, by decide, by decide⟩ (fgetf fb_740_35 h0 hB1 ?_)
        intro z20 lz20 uz20 qz20
        refine And.intro (by first | exact fi_ lz20 uz20 rfl | omega) (And.intro ?_ ?_)
        · intro c21
          exact ⟨rfl, True.intro, (fun p s hp hs => by first | (exfalso; omega) | (rw [sk_go (by omega)]; exact sq_end (hx0 p s hp hs) (by omega) (by omega))), hx1⟩
        · intro c22
          intro z23 hz23 ez23
          intro z24 hz24 ez24 bz24
          have bz24 := bz24 (by omega)
          have wb := bt_of hz24 ez23 ez24 (by omega)
          refine And.intro (And.intro (by first | exact fi_ bz24.1 bz24.2 rfl | omega) (by first | exact ⟨by decide, by decide⟩ | omega)) (And.intro ?_ ?_)
          · intro c25
            exact fcutJ (I := I1) (j := (jc_M_seek_2af86_59 x1 x2 x3 x4 x5 I)) (lv' := [(0, .inr (.inr (some 740))), (1, .inl _), (2, .inl _), (3, .inl _), (4, .inl _), (5, .inl _), (6, .inl _)]) (And.intro rfl (And.intro rfl (And.intro rfl (And.intro rfl (And.intro rfl (And.intro rfl (And.intro rfl True.intro))))))) ⟨_, _, _, _, _, _, rfl, rfl, ⟨by omega, (fun p s hp hs => by have hq := (hx0 p s hp hs).1; first | exact nf_skQ (qo_no (hx0 p s hp hs) (fun q => by have q1 := q.1; omega)) (by omega) (by omega) | exact nf_skQ (qo_no (hx0 p s hp hs) (fun q => by have q2 := q.2; omega)) (by omega) (by omega) | exact nf_skQ (qo_spent (hx0 p s hp hs) (by omega) (by omega) ⟨by omega, by omega⟩ rfl enil0) (by omega) (by omega) | exact nf_skQ (qo_rec (hx0 p s hp hs) (by omega) (by omega) ⟨by omega, by omega⟩ (g0nil0 (sUp p x2.toNat ((y6.toNat : Nat) : Int)) _ (path_uq enil0 enil0 enil0 (fun i hi => (hx1 i hi).trans (hp i hi)) (by omega) rfl (by omega)) (qo_in (hx0 p s hp hs) (by omega) (by omega) rfl (by omega) enil0 enil0 enil0))) (by omega) (by omega) | (exfalso; omega)), (fun i hi => by first | exact (g1nil0 i (by omega)).trans ((fup_other enil0 757 i (Or.inr (by omega))).trans ((fup_other enil0 757 i (Or.inl (by decide))).trans ((fup_other enil0 757 i (Or.inl (by decide))).trans (hx1 i hi)))) | exact ((fup_other enil0 757 i (Or.inl (by decide))).trans (hx1 i hi)) | exact hx1 i hi | (exfalso; omega))⟩, rfl⟩ (by omega)
          · intro c26
            refine And.intro ⟨rfl, by decide, by decide⟩ ?_
            refine fload rL_741_741_4372_4390_3_0 h0 hB1 (by omega) ?_
            intro z27 lz27 uz27 qz27
            intro z28 hz28 ez28
            intro z29 hz29 ez29 bz29
            clear bz29
            have wa := sAh_of hz29 ez28 ez29
            rw [fld_at qz27 (4372 + 3 * y6.toNat) (by omega), sS] at wa
            refine And.intro (by omega) (And.intro ?_ ?_)
            · intro c30
              refine And.intro ⟨rfl, by decide, by decide⟩ (fgetf fb_740_34 h0 hB1 ?_)
              intro z31 lz31 uz31 qz31
              refine And.intro (by first | exact fi_ lz31 uz31 rfl | omega) (And.intro ?_ ?_)
              · intro c32
                refine And.intro ⟨rfl, by decide, by decide⟩ (And.intro rfl (And.intro (Or.inr ⟨rfl, by omega⟩) (fputf fb_740_35 (by decide +kernel) hW (by omega) ?_)))
                intro IhB33 ehB33 hB33
                have t34 : IhB33 740 33 = I1 740 33 := (congrFun (congrFun ehB33 740) 33).trans (fup_ne (by first | decide | omega))
                have t35 : IhB33 740 34 = I1 740 34 := (congrFun (congrFun ehB33 740) 34).trans (fup_ne (by first | decide | omega))
                have t36 := fup_at ehB33 35 (by first | rfl | omega)
                have t37 : IhB33 741 12 = I1 741 12 := (congrFun (congrFun ehB33 741) 12).trans (fup_ne (by first | decide | omega))
                have k38 := fBz_eq hB33 (a := 741) (j := 12) (by decide +kernel)
                refine And.intro ⟨rfl, by decide, by decide⟩ (fgetf fb_740_35 h0 hB33 ?_)
                intro z39 lz39 uz39 qz39
                refine And.intro (by first | exact fi_ lz39 uz39 rfl | omega) (And.intro ?_ ?_)
                · intro c40
                  exact fcutJ (I := IhB33) (j := (jc_M_seek_2af86_59 x1 x2 x3 x4 x5 I)) (lv' := [(0, .inr (.inr (some 740))), (1, .inl _), (2, .inl _), (3, .inl _), (4, .inl _), (5, .inl _), (6, .inl _)]) (And.intro rfl (And.intro rfl (And.intro rfl (And.intro rfl (And.intro rfl (And.intro rfl (And.intro rfl True.intro))))))) ⟨_, _, _, _, _, _, rfl, rfl, ⟨by omega, (fun p s hp hs => by have hq := (hx0 p s hp hs).1; first | exact nf_skQ (qo_no (hx0 p s hp hs) (fun q => by have q1 := q.1; omega)) (by omega) (by omega) | exact nf_skQ (qo_no (hx0 p s hp hs) (fun q => by have q2 := q.2; omega)) (by omega) (by omega) | exact nf_skQ (qo_spent (hx0 p s hp hs) (by omega) (by omega) ⟨by omega, by omega⟩ rfl ehB33) (by omega) (by omega) | exact nf_skQ (qo_rec (hx0 p s hp hs) (by omega) (by omega) ⟨by omega, by omega⟩ (g0nil0 (sUp p x2.toNat ((y6.toNat : Nat) : Int)) _ (path_uq ehB33 enil0 enil0 (fun i hi => (hx1 i hi).trans (hp i hi)) (by omega) rfl (by omega)) (qo_in (hx0 p s hp hs) (by omega) (by omega) rfl (by omega) ehB33 enil0 enil0))) (by omega) (by omega) | (exfalso; omega)), (fun i hi => by first | exact (g1nil0 i (by omega)).trans ((fup_other enil0 757 i (Or.inr (by omega))).trans ((fup_other enil0 757 i (Or.inl (by decide))).trans ((fup_other ehB33 757 i (Or.inl (by decide))).trans (hx1 i hi)))) | exact ((fup_other ehB33 757 i (Or.inl (by decide))).trans (hx1 i hi)) | exact hx1 i hi | (exfalso; omega))⟩, rfl⟩ (by omega)
                · intro c41
                  refine And.intro ⟨rfl, by decide, by decide⟩ (fgetf fb_740_34 h0 hB33 ?_)
                  intro z42 lz42 uz42 qz42
                  intro z43 hz43 ez43 bz43
                  try replace bz43 := bz43 (by omega)
                  refine And.intro ⟨rfl, by decide, by decide⟩ (And.intro rfl (And.intro (Or.inl rfl) (fputf fb_740_34 (by decide +kernel) hW (by omega) ?_)))
                  intro IhB44 ehB44 hB44
                  have t45 : IhB44 740 33 = IhB33 740 33 := (congrFun (congrFun ehB44 740) 33).trans (fup_ne (by first | decide | omega))
                  have t46 := fup_at ehB44 34 (by first | rfl | omega)
                  have t47 : IhB44 740 35 = IhB33 740 35 := (congrFun (congrFun ehB44 740) 35).trans (fup_ne (by first | decide | omega))
                  have t48 : IhB44 741 12 = IhB33 741 12 := (congrFun (congrFun ehB44 741) 12).trans (fup_ne (by first | decide | omega))
                  have k49 := fBz_eq hB44 (a := 741) (j := 12) (by decide +kernel)
                  refine And.intro ⟨rfl, by decide, by decide⟩ ?_
                  refine fstore1 rS_757_757_0_6_1_0 (fzs_sub (by decide +kernel) hW) ⟨by decide, by decide⟩ (by first | exact ⟨Int.le_trans (by decide) hb.2.1.1, Int.le_trans hb.2.1.2 (by decide)⟩ | omega) (by first | exact ⟨hb.2.2.2.2.2.1.1, Int.le_trans (Int.le_sub_one_of_lt (Int.lt_of_lt_of_le c19 uz17)) (by decide)⟩ | omega) ?_
                  intro IhB50 ehB50 hB50
                  have t51 := fup_self ehB50
                  have t52 : IhB50 740 33 = IhB44 740 33 := (congrFun (congrFun ehB50 740) 33).trans (fup_ne (by first | exact Or.inl (by decide) | omega))
                  have t53 : IhB50 740 34 = IhB44 740 34 := (congrFun (congrFun ehB50 740) 34).trans (fup_ne (by first | exact Or.inl (by decide) | omega))
                  have t54 : IhB50 740 35 = IhB44 740 35 := (congrFun (congrFun ehB50 740) 35).trans (fup_ne (by first | exact Or.inl (by decide) | omega))
                  have t55 : IhB50 741 12 = IhB44 741 12 := (congrFun (congrFun ehB50 741) 12).trans (fup_ne (by first | exact Or.inl (by decide) | omega))
                  have k56 := fBz_eq hB50 (a := 741) (j := 12) (by decide +kernel)
                  refine And.intro ⟨rfl, by decide, by decide⟩ ?_
                  refine fload rL_741_741_4370_4388_3_0 h0 hB50 (by omega) ?_
                  intro z57 lz57 uz57 qz57
                  have s4 : ∀ j, IhB50 741 j = I 741 j := fun j => (fup_other ehB50 741 j (Or.inl (by decide))).trans ((fup_other ehB44 741 j (Or.inl (by decide))).trans ((fup_other ehB33 741 j (Or.inl (by decide))).trans (sS j)))
                  have w166 := (fld_at qz57 (4370 + 3 * y6.toNat) (by omega)).trans (s4 _)
                  intro z58 hz58 ez58 bz58
                  have bz58 := bz58 (by omega)
                  intro z59 hz59 ez59
                  intro z60 hz60 ez60
                  refine And.intro (by omega) (And.intro ?_ ?_)
                  · intro c61
                    intro z62 hz62 ez62 bz62
                    try replace bz62 := bz62 (by omega)
                    refine Exists.intro xm_481 (And.intro mi_481 (And.intro ⟨rfl, rfl, rfl, rfl⟩ (And.intro rfl ?_)))
                    refine fcall _ h0 (fzs_sub (by decide +kernel) hW) hB50 (ct_M_seek_5a34b (fBz h0 hB50) (by first | exact ⟨hb.1.1, hb.1.2⟩ | omega) (by omega) (by omega) (by omega) (by omega) (by omega) (by omega) (by omega)) ?_
                    rintro IhB64 _ hB64 fhB64 ⟨rfl, hz63, g0z63, g1z63⟩
                    have t65 := fhB64 741 12 (by decide +kernel)
                    have k66 := fBz_eq hB64 (a := 741) (j := 12) (by decide +kernel)
                    have wd := sDn_of hz60 (by omega) ez59 ez60
                    have we : z58 = x4 + I 741 (4370 + 3 * y6.toNat) := by omega
                    have ws : z62 = x5 + sMo x1 (x4 + I 741 (4370 + 3 * y6.toNat)) (I 741 (4371 + 3 * y6.toNat)) := by first | (have q := mo_of (span := x1) (e := x4 + I 741 (4370 + 3 * y6.toNat)) w204 (by omega); rw [w199] at q; omega) | (have q : sMo x1 (x4 + I 741 (4370 + 3 * y6.toNat)) (I 741 (4371 + 3 * y6.toNat)) = 0 := if_pos (by omega); omega)
                    simp only [s4] at g0z63
                    rw [wd, we, ws, show (x2 + ((1 : Nat) : Int)).toNat = x2.toNat + 1 by omega] at g0z63
                    exact fcutJ (I := IhB64) (j := (jc_M_seek_2af86_59 x1 x2 x3 x4 x5 I)) (lv' := [(0, .inr (.inr (some 740))), (1, .inl _), (2, .inl _), (3, .inl _), (4, .inl _), (5, .inl _), (6, .inl _)]) (And.intro rfl (And.intro rfl (And.intro rfl (And.intro rfl (And.intro rfl (And.intro rfl (And.intro rfl True.intro))))))) ⟨_, _, _, _, _, _, rfl, rfl, ⟨by omega, (fun p s hp hs => by have hq := (hx0 p s hp hs).1; first | exact nf_skQ (qo_no (hx0 p s hp hs) (fun q => by have q1 := q.1; omega)) (by omega) (by omega) | exact nf_skQ (qo_no (hx0 p s hp hs) (fun q => by have q2 := q.2; omega)) (by omega) (by omega) | exact nf_skQ (qo_spent (hx0 p s hp hs) (by omega) (by omega) ⟨by omega, by omega⟩ rfl ehB33) (by omega) (by omega) | exact nf_skQ (qo_rec (hx0 p s hp hs) (by omega) (by omega) ⟨by omega, by omega⟩ (g0z63 (sUp p x2.toNat ((y6.toNat : Nat) : Int)) _ (path_uq ehB33 ehB44 ehB50 (fun i hi => (hx1 i hi).trans (hp i hi)) (by omega) rfl (by omega)) (qo_in (hx0 p s hp hs) (by omega) (by omega) rfl (by omega) ehB33 ehB44 ehB50))) (by omega) (by omega) | (exfalso; omega)), (fun i hi => by first | exact (g1z63 i (by omega)).trans ((fup_other ehB50 757 i (Or.inr (by omega))).trans ((fup_other ehB44 757 i (Or.inl (by decide))).trans ((fup_other ehB33 757 i (Or.inl (by decide))).trans (hx1 i hi)))) | exact ((fup_other ehB33 757 i (Or.inl (by decide))).trans (hx1 i hi)) | exact hx1 i hi | (exfalso; omega))⟩, rfl⟩ (by omega)
                  · intro c67
                    refine And.intro ⟨rfl, by decide, by decide⟩ ?_
                    refine fload rL_741_741_4371_4389_3_0 h0 hB50 (by omega) ?_
                    intro z68 lz68 uz68 qz68
                    have w199 := (fld_at qz68 (4371 + 3 * y6.toNat) (by omega)).trans (s4 _)
                    intro z69 hz69 ez69 bz69
                    have bz69 := bz69 (by omega)
                    intro z70 hz70 ez70 bz70
                    try replace bz70 := bz70 (by omega)
                    have w203 := mul_bd (a := z68) (b := z69) (by omega) (by omega)
                    have w204 : z70 = z68 * z69 := by first | exact bz70 (by omega) | exact bz70
                    intro z71 hz71 ez71 bz71
                    try replace bz71 := bz71 (by omega)
                    refine Exists.intro xm_481 (And.intro mi_481 (And.intro ⟨rfl, rfl, rfl, rfl⟩ (And.intro rfl ?_)))
                    refine fcall _ h0 (fzs_sub (by decide +kernel) hW) hB50 (ct_M_seek_5a34b (fBz h0 hB50) (by first | exact ⟨hb.1.1, hb.1.2⟩ | omega) (by omega) (by omega) (by omega) (by omega) (by omega) (by omega) (by omega)) ?_
                    rintro IhB73 _ hB73 fhB73 ⟨rfl, hz72, g0z72, g1z72⟩
                    have t74 := fhB73 741 12 (by decide +kernel)
                    have k75 := fBz_eq hB73 (a := 741) (j := 12) (by decide +kernel)
                    have wd := sDn_of hz60 (by omega) ez59 ez60
                    have we : z58 = x4 + I 741 (4370 + 3 * y6.toNat) := by omega
                    have ws : z71 = x5 + sMo x1 (x4 + I 741 (4370 + 3 * y6.toNat)) (I 741 (4371 + 3 * y6.toNat)) := by first | (have q := mo_of (span := x1) (e := x4 + I 741 (4370 + 3 * y6.toNat)) w204 (by omega); rw [w199] at q; omega) | (have q : sMo x1 (x4 + I 741 (4370 + 3 * y6.toNat)) (I 741 (4371 + 3 * y6.toNat)) = 0 := if_pos (by omega); omega)
                    simp only [s4] at g0z72
                    rw [wd, we, ws, show (x2 + ((1 : Nat) : Int)).toNat = x2.toNat + 1 by omega] at g0z72
                    exact fcutJ (I := IhB73) (j := (jc_M_seek_2af86_59 x1 x2 x3 x4 x5 I)) (lv' := [(0, .inr (.inr (some 740))), (1, .inl _), (2, .inl _), (3, .inl _), (4, .inl _), (5, .inl _), (6, .inl _)]) (And.intro rfl (And.intro rfl (And.intro rfl (And.intro rfl (And.intro rfl (And.intro rfl (And.intro rfl True.intro))))))) ⟨_, _, _, _, _, _, rfl, rfl, ⟨by omega, (fun p s hp hs => by have hq := (hx0 p s hp hs).1; first | exact nf_skQ (qo_no (hx0 p s hp hs) (fun q => by have q1 := q.1; omega)) (by omega) (by omega) | exact nf_skQ (qo_no (hx0 p s hp hs) (fun q => by have q2 := q.2; omega)) (by omega) (by omega) | exact nf_skQ (qo_spent (hx0 p s hp hs) (by omega) (by omega) ⟨by omega, by omega⟩ rfl ehB33) (by omega) (by omega) | exact nf_skQ (qo_rec (hx0 p s hp hs) (by omega) (by omega) ⟨by omega, by omega⟩ (g0z72 (sUp p x2.toNat ((y6.toNat : Nat) : Int)) _ (path_uq ehB33 ehB44 ehB50 (fun i hi => (hx1 i hi).trans (hp i hi)) (by omega) rfl (by omega)) (qo_in (hx0 p s hp hs) (by omega) (by omega) rfl (by omega) ehB33 ehB44 ehB50))) (by omega) (by omega) | (exfalso; omega)), (fun i hi => by first | exact (g1z72 i (by omega)).trans ((fup_other ehB50 757 i (Or.inr (by omega))).trans ((fup_other ehB44 757 i (Or.inl (by decide))).trans ((fup_other ehB33 757 i (Or.inl (by decide))).trans (hx1 i hi)))) | exact ((fup_other ehB33 757 i (Or.inl (by decide))).trans (hx1 i hi)) | exact hx1 i hi | (exfalso; omega))⟩, rfl⟩ (by omega)
              · intro c76
                refine And.intro ⟨rfl, by decide, by decide⟩ (And.intro rfl (And.intro (Or.inr ⟨rfl, by decide, by decide⟩) (fputf fb_740_35 (by decide +kernel) hW (by first | exact ⟨by decide, by decide⟩ | omega) ?_)))
                intro IhB77 ehB77 hB77
                have t78 : IhB77 740 33 = I1 740 33 := (congrFun (congrFun ehB77 740) 33).trans (fup_ne (by first | decide | omega))
                have t79 : IhB77 740 34 = I1 740 34 := (congrFun (congrFun ehB77 740) 34).trans (fup_ne (by first | decide | omega))
                have t80 := fup_at ehB77 35 (by first | rfl | omega)
                have t81 : IhB77 741 12 = I1 741 12 := (congrFun (congrFun ehB77 741) 12).trans (fup_ne (by first | decide | omega))
                have k82 := fBz_eq hB77 (a := 741) (j := 12) (by decide +kernel)
                refine And.intro ⟨rfl, by decide, by decide⟩ (fgetf fb_740_35 h0 hB77 ?_)
                intro z83 lz83 uz83 qz83
                refine And.intro (by first | exact fi_ lz83 uz83 rfl | omega) (And.intro ?_ ?_)
                · intro c84
                  exact fcutJ (I := IhB77) (j := (jc_M_seek_2af86_59 x1 x2 x3 x4 x5 I)) (lv' := [(0, .inr (.inr (some 740))), (1, .inl _), (2, .inl _), (3, .inl _), (4, .inl _), (5, .inl _), (6, .inl _)]) (And.intro rfl (And.intro rfl (And.intro rfl (And.intro rfl (And.intro rfl (And.intro rfl (And.intro rfl True.intro))))))) ⟨_, _, _, _, _, _, rfl, rfl, ⟨by omega, (fun p s hp hs => by have hq := (hx0 p s hp hs).1; first | exact nf_skQ (qo_no (hx0 p s hp hs) (fun q => by have q1 := q.1; omega)) (by omega) (by omega) | exact nf_skQ (qo_no (hx0 p s hp hs) (fun q => by have q2 := q.2; omega)) (by omega) (by omega) | exact nf_skQ (qo_spent (hx0 p s hp hs) (by omega) (by omega) ⟨by omega, by omega⟩ rfl ehB77) (by omega) (by omega) | exact nf_skQ (qo_rec (hx0 p s hp hs) (by omega) (by omega) ⟨by omega, by omega⟩ (g0z72 (sUp p x2.toNat ((y6.toNat : Nat) : Int)) _ (path_uq ehB77 ehB44 ehB50 (fun i hi => (hx1 i hi).trans (hp i hi)) (by omega) rfl (by omega)) (qo_in (hx0 p s hp hs) (by omega) (by omega) rfl (by omega) ehB77 ehB44 ehB50))) (by omega) (by omega) | (exfalso; omega)), (fun i hi => by first | exact (g1z72 i (by omega)).trans ((fup_other ehB50 757 i (Or.inr (by omega))).trans ((fup_other ehB44 757 i (Or.inl (by decide))).trans ((fup_other ehB77 757 i (Or.inl (by decide))).trans (hx1 i hi)))) | exact ((fup_other ehB77 757 i (Or.inl (by decide))).trans (hx1 i hi)) | exact hx1 i hi | (exfalso; omega))⟩, rfl⟩ (by omega)
                · intro c85
                  refine And.intro ⟨rfl, by decide, by decide⟩ (fgetf fb_740_34 h0 hB77 ?_)
                  intro z86 lz86 uz86 qz86
                  intro z87 hz87 ez87 bz87
                  try replace bz87 := bz87 (by omega)
                  refine And.intro ⟨rfl, by decide, by decide⟩ (And.intro rfl (And.intro (Or.inl rfl) (fputf fb_740_34 (by decide +kernel) hW (by omega) ?_)))
                  intro IhB88 ehB88 hB88
                  have t89 : IhB88 740 33 = IhB77 740 33 := (congrFun (congrFun ehB88 740) 33).trans (fup_ne (by first | decide | omega))
                  have t90 := fup_at ehB88 34 (by first | rfl | omega)
                  have t91 : IhB88 740 35 = IhB77 740 35 := (congrFun (congrFun ehB88 740) 35).trans (fup_ne (by first | decide | omega))
                  have t92 : IhB88 741 12 = IhB77 741 12 := (congrFun (congrFun ehB88 741) 12).trans (fup_ne (by first | decide | omega))
                  have k93 := fBz_eq hB88 (a := 741) (j := 12) (by decide +kernel)
                  refine And.intro ⟨rfl, by decide, by decide⟩ ?_
                  refine fstore1 rS_757_757_0_6_1_0 (fzs_sub (by decide +kernel) hW) ⟨by decide, by decide⟩ (by first | exact ⟨Int.le_trans (by decide) hb.2.1.1, Int.le_trans hb.2.1.2 (by decide)⟩ | omega) (by first | exact ⟨hb.2.2.2.2.2.1.1, Int.le_trans (Int.le_sub_one_of_lt (Int.lt_of_lt_of_le c19 uz17)) (by decide)⟩ | omega) ?_
                  intro IhB94 ehB94 hB94
                  have t95 := fup_self ehB94
                  have t96 : IhB94 740 33 = IhB88 740 33 := (congrFun (congrFun ehB94 740) 33).trans (fup_ne (by first | exact Or.inl (by decide) | omega))
                  have t97 : IhB94 740 34 = IhB88 740 34 := (congrFun (congrFun ehB94 740) 34).trans (fup_ne (by first | exact Or.inl (by decide) | omega))
                  have t98 : IhB94 740 35 = IhB88 740 35 := (congrFun (congrFun ehB94 740) 35).trans (fup_ne (by first | exact Or.inl (by decide) | omega))
                  have t99 : IhB94 741 12 = IhB88 741 12 := (congrFun (congrFun ehB94 741) 12).trans (fup_ne (by first | exact Or.inl (by decide) | omega))
                  have k100 := fBz_eq hB94 (a := 741) (j := 12) (by decide +kernel)
                  refine And.intro ⟨rfl, by decide, by decide⟩ ?_
                  refine fload rL_741_741_4370_4388_3_0 h0 hB94 (by omega) ?_
                  intro z101 lz101 uz101 qz101
                  have s4 : ∀ j, IhB94 741 j = I 741 j := fun j => (fup_other ehB94 741 j (Or.inl (by decide))).trans ((fup_other ehB88 741 j (Or.inl (by decide))).trans ((fup_other ehB77 741 j (Or.inl (by decide))).trans (sS j)))
                  have w166 := (fld_at qz101 (4370 + 3 * y6.toNat) (by omega)).trans (s4 _)
                  intro z102 hz102 ez102 bz102
                  have bz102 := bz102 (by omega)
                  intro z103 hz103 ez103
                  intro z104 hz104 ez104
                  refine And.intro (by omega) (And.intro ?_ ?_)
                  · intro c105
                    intro z106 hz106 ez106 bz106
                    try replace bz106 := bz106 (by omega)
                    refine Exists.intro xm_481 (And.intro mi_481 (And.intro ⟨rfl, rfl, rfl, rfl⟩ (And.intro rfl ?_)))
                    refine fcall _ h0 (fzs_sub (by decide +kernel) hW) hB94 (ct_M_seek_5a34b (fBz h0 hB94) (by first | exact ⟨hb.1.1, hb.1.2⟩ | omega) (by omega) (by omega) (by omega) (by omega) (by omega) (by omega) (by omega)) ?_
                    rintro IhB108 _ hB108 fhB108 ⟨rfl, hz107, g0z107, g1z107⟩
                    have t109 := fhB108 741 12 (by decide +kernel)
                    have k110 := fBz_eq hB108 (a := 741) (j := 12) (by decide +kernel)
                    have wd := sDn_of hz104 (by omega) ez103 ez104
                    have we : z102 = x4 + I 741 (4370 + 3 * y6.toNat) := by omega
                    have ws : z106 = x5 + sMo x1 (x4 + I 741 (4370 + 3 * y6.toNat)) (I 741 (4371 + 3 * y6.toNat)) := by first | (have q := mo_of (span := x1) (e := x4 + I 741 (4370 + 3 * y6.toNat)) w204 (by omega); rw [w199] at q; omega) | (have q : sMo x1 (x4 + I 741 (4370 + 3 * y6.toNat)) (I 741 (4371 + 3 * y6.toNat)) = 0 := if_pos (by omega); omega)
                    simp only [s4] at g0z107
                    rw [wd, we, ws, show (x2 + ((1 : Nat) : Int)).toNat = x2.toNat + 1 by omega] at g0z107
                    exact fcutJ (I := IhB108) (j := (jc_M_seek_2af86_59 x1 x2 x3 x4 x5 I)) (lv' := [(0, .inr (.inr (some 740))), (1, .inl _), (2, .inl _), (3, .inl _), (4, .inl _), (5, .inl _), (6, .inl _)]) (And.intro rfl (And.intro rfl (And.intro rfl (And.intro rfl (And.intro rfl (And.intro rfl (And.intro rfl True.intro))))))) ⟨_, _, _, _, _, _, rfl, rfl, ⟨by omega, (fun p s hp hs => by have hq := (hx0 p s hp hs).1; first | exact nf_skQ (qo_no (hx0 p s hp hs) (fun q => by have q1 := q.1; omega)) (by omega) (by omega) | exact nf_skQ (qo_no (hx0 p s hp hs) (fun q => by have q2 := q.2; omega)) (by omega) (by omega) | exact nf_skQ (qo_spent (hx0 p s hp hs) (by omega) (by omega) ⟨by omega, by omega⟩ rfl ehB77) (by omega) (by omega) | exact nf_skQ (qo_rec (hx0 p s hp hs) (by omega) (by omega) ⟨by omega, by omega⟩ (g0z107 (sUp p x2.toNat ((y6.toNat : Nat) : Int)) _ (path_uq ehB77 ehB88 ehB94 (fun i hi => (hx1 i hi).trans (hp i hi)) (by omega) rfl (by omega)) (qo_in (hx0 p s hp hs) (by omega) (by omega) rfl (by omega) ehB77 ehB88 ehB94))) (by omega) (by omega) | (exfalso; omega)), (fun i hi => by first | exact (g1z107 i (by omega)).trans ((fup_other ehB94 757 i (Or.inr (by omega))).trans ((fup_other ehB88 757 i (Or.inl (by decide))).trans ((fup_other ehB77 757 i (Or.inl (by decide))).trans (hx1 i hi)))) | exact ((fup_other ehB77 757 i (Or.inl (by decide))).trans (hx1 i hi)) | exact hx1 i hi | (exfalso; omega))⟩, rfl⟩ (by omega)
                  · intro c111
                    refine And.intro ⟨rfl, by decide, by decide⟩ ?_
                    refine fload rL_741_741_4371_4389_3_0 h0 hB94 (by omega) ?_
                    intro z112 lz112 uz112 qz112
                    have w199 := (fld_at qz112 (4371 + 3 * y6.toNat) (by omega)).trans (s4 _)
                    intro z113 hz113 ez113 bz113
                    have bz113 := bz113 (by omega)
                    intro z114 hz114 ez114 bz114
                    try replace bz114 := bz114 (by omega)
                    have w203 := mul_bd (a := z112) (b := z113) (by omega) (by omega)
                    have w204 : z114 = z112 * z113 := by first | exact bz114 (by omega) | exact bz114
                    intro z115 hz115 ez115 bz115
                    try replace bz115 := bz115 (by omega)
                    refine Exists.intro xm_481 (And.intro mi_481 (And.intro ⟨rfl, rfl, rfl, rfl⟩ (And.intro rfl ?_)))
                    refine fcall _ h0 (fzs_sub (by decide +kernel) hW) hB94 (ct_M_seek_5a34b (fBz h0 hB94) (by first | exact ⟨hb.1.1, hb.1.2⟩ | omega) (by omega) (by omega) (by omega) (by omega) (by omega) (by omega) (by omega)) ?_
                    rintro IhB117 _ hB117 fhB117 ⟨rfl, hz116, g0z116, g1z116⟩
                    have t118 := fhB117 741 12 (by decide +kernel)
                    have k119 := fBz_eq hB117 (a := 741) (j := 12) (by decide +kernel)
                    have wd := sDn_of hz104 (by omega) ez103 ez104
                    have we : z102 = x4 + I 741 (4370 + 3 * y6.toNat) := by omega
                    have ws : z115 = x5 + sMo x1 (x4 + I 741 (4370 + 3 * y6.toNat)) (I 741 (4371 + 3 * y6.toNat)) := by first | (have q := mo_of (span := x1) (e := x4 + I 741 (4370 + 3 * y6.toNat)) w204 (by omega); rw [w199] at q; omega) | (have q : sMo x1 (x4 + I 741 (4370 + 3 * y6.toNat)) (I 741 (4371 + 3 * y6.toNat)) = 0 := if_pos (by omega); omega)
                    simp only [s4] at g0z116
                    rw [wd, we, ws, show (x2 + ((1 : Nat) : Int)).toNat = x2.toNat + 1 by omega] at g0z116
                    exact fcutJ (I := IhB117) (j := (jc_M_seek_2af86_59 x1 x2 x3 x4 x5 I)) (lv' := [(0, .inr (.inr (some 740))), (1, .inl _), (2, .inl _), (3, .inl _), (4, .inl _), (5, .inl _), (6, .inl _)]) (And.intro rfl (And.intro rfl (And.intro rfl (And.intro rfl (And.intro rfl (And.intro rfl (And.intro rfl True.intro))))))) ⟨_, _, _, _, _, _, rfl, rfl, ⟨by omega, (fun p s hp hs => by have hq := (hx0 p s hp hs).1; first | exact nf_skQ (qo_no (hx0 p s hp hs) (fun q => by have q1 := q.1; omega)) (by omega) (by omega) | exact nf_skQ (qo_no (hx0 p s hp hs) (fun q => by have q2 := q.2; omega)) (by omega) (by omega) | exact nf_skQ (qo_spent (hx0 p s hp hs) (by omega) (by omega) ⟨by omega, by omega⟩ rfl ehB77) (by omega) (by omega) | exact nf_skQ (qo_rec (hx0 p s hp hs) (by omega) (by omega) ⟨by omega, by omega⟩ (g0z116 (sUp p x2.toNat ((y6.toNat : Nat) : Int)) _ (path_uq ehB77 ehB88 ehB94 (fun i hi => (hx1 i hi).trans (hp i hi)) (by omega) rfl (by omega)) (qo_in (hx0 p s hp hs) (by omega) (by omega) rfl (by omega) ehB77 ehB88 ehB94))) (by omega) (by omega) | (exfalso; omega)), (fun i hi => by first | exact (g1z116 i (by omega)).trans ((fup_other ehB94 757 i (Or.inr (by omega))).trans ((fup_other ehB88 757 i (Or.inl (by decide))).trans ((fup_other ehB77 757 i (Or.inl (by decide))).trans (hx1 i hi)))) | exact ((fup_other ehB77 757 i (Or.inl (by decide))).trans (hx1 i hi)) | exact hx1 i hi | (exfalso; omega))⟩, rfl⟩ (by omega)
            · intro c120
              exact fcutJ (I := I1) (j := (jc_M_seek_2af86_59 x1 x2 x3 x4 x5 I)) (lv' := [(0, .inr (.inr (some 740))), (1, .inl _), (2, .inl _), (3, .inl _), (4, .inl _), (5, .inl _), (6, .inl _)]) (And.intro rfl (And.intro rfl (And.intro rfl (And.intro rfl (And.intro rfl (And.intro rfl (And.intro rfl True.intro))))))) ⟨_, _, _, _, _, _, rfl, rfl, ⟨by omega, (fun p s hp hs => by have hq := (hx0 p s hp hs).1; first | exact nf_skQ (qo_no (hx0 p s hp hs) (fun q => by have q1 := q.1; omega)) (by omega) (by omega) | exact nf_skQ (qo_no (hx0 p s hp hs) (fun q => by have q2 := q.2; omega)) (by omega) (by omega) | exact nf_skQ (qo_spent (hx0 p s hp hs) (by omega) (by omega) ⟨by omega, by omega⟩ rfl ehB77) (by omega) (by omega) | exact nf_skQ (qo_rec (hx0 p s hp hs) (by omega) (by omega) ⟨by omega, by omega⟩ (g0z116 (sUp p x2.toNat ((y6.toNat : Nat) : Int)) _ (path_uq ehB77 ehB88 ehB94 (fun i hi => (hx1 i hi).trans (hp i hi)) (by omega) rfl (by omega)) (qo_in (hx0 p s hp hs) (by omega) (by omega) rfl (by omega) ehB77 ehB88 ehB94))) (by omega) (by omega) | (exfalso; omega)), (fun i hi => by first | exact (g1z116 i (by omega)).trans ((fup_other ehB94 757 i (Or.inr (by omega))).trans ((fup_other ehB88 757 i (Or.inl (by decide))).trans ((fup_other ehB77 757 i (Or.inl (by decide))).trans (hx1 i hi)))) | exact ((fup_other ehB77 757 i (Or.inl (by decide))).trans (hx1 i hi)) | exact hx1 i hi | (exfalso; omega))⟩, rfl⟩ (by omega)
  · have hB0 := fB_self (zn := znJ) (K := fKc wz_4d25e) h0
    have b121 := fBd fb_741_12 (fBz h0 hB0)
    have b122 := fBd fb_740_35 (fBz h0 hB0)
    refine And.intro ⟨rfl, by decide, by decide⟩ ?_
    refine fload1 rL_741_741_12_12_1_0 h0 hB0 ⟨by decide, by decide⟩ (by first | exact ⟨by decide, by decide⟩ | omega) ?_
    intro z123 lz123 uz123 qz123
    have pz123 := fld_at qz123 12 (by omega)
    refine And.intro (And.intro (by first | exact fi_ ha2.1 ha2.2 rfl | omega) (by first | exact fi_ lz123 uz123 rfl | omega)) (And.intro ?_ ?_)
    · intro c124
      exact fcutJ (I := I) (j := (jc_M_seek_2af86_59 x1 x2 x3 x4 x5 I)) (lv' := [(0, .inr (.inr (some 740))), (1, .inl _), (2, .inl _), (3, .inl _), (4, .inl _), (5, .inl _), (6, .inl _)]) (And.intro rfl (And.intro rfl (And.intro rfl (And.intro rfl (And.intro rfl (And.intro rfl (And.intro rfl True.intro))))))) ⟨_, _, _, _, _, _, rfl, rfl, ⟨by omega, (fun p s hp hs => hs), (fun i _ => rfl)⟩, rfl⟩ (by omega)
    · intro c125
      refine And.intro ⟨rfl, by decide, by decide⟩ (fgetf fb_740_33 h0 hB0 ?_)
      intro z126 lz126 uz126 qz126
      refine And.intro (And.intro (by first | exact fi_ ha5.1 ha5.2 rfl | omega) (by first | exact fi_ lz126 uz126 rfl | omega)) (And.intro ?_ ?_)
      · intro c127
        exact ⟨rfl, True.intro, (fun p s hp hs => by rw [sk_tk (by omega)]; first | exact tq_yes hs (by omega) (by omega) (fun i hi => hp i (by omega)) (by omega) (by omega) (by omega) (fun i hi => hx0 i (by omega)) | exact tq_yes hs (by omega) (by omega) (fun i hi => hp i (by omega)) (by omega) (by omega) (by omega) (fun i hi => absurd hi (by omega)) | exact tq_no hs (by omega) (by omega)), (by first | exact (fun i _ => hx1 i) | exact (fun i _ => rfl) | exact (fun i _ => fup_other enil0 757 i (Or.inl (by decide))))⟩
      · intro c128
        refine And.intro ⟨rfl, by decide, by decide⟩ (And.intro rfl (And.intro (Or.inl rfl) (fputf fb_740_33 (by decide +kernel) hW (by first | exact ⟨Int.le_trans (by decide) (Int.add_one_le_of_lt (Int.lt_of_le_of_lt lz126 c128)), ha5.2⟩ | omega) ?_)))
        intro IhB129 ehB129 hB129
        have t130 := fup_at ehB129 33 (by first | rfl | omega)
        have t131 : IhB129 740 34 = I 740 34 := (congrFun (congrFun ehB129 740) 34).trans (fup_ne (by first | decide | omega))
        have t132 : IhB129 740 35 = I 740 35 := (congrFun (congrFun ehB129 740) 35).trans (fup_ne (by first | decide | omega))
        have t133 : IhB129 741 12 = I 741 12 := (congrFun (congrFun ehB129 741) 12).trans (fup_ne (by first | decide | omega))
        have k134 := fBz_eq hB129 (a := 741) (j := 12) (by decide +kernel)
        exact fcutJ (I := IhB129) (j := (jc_M_seek_2af86_29 x2 x5 I)) (lv' := [(0, .inr (.inr (some 740))), (2, .inl _), (6, .inl _)]) (And.intro rfl (And.intro rfl (And.intro rfl True.intro))) ⟨_, _, rfl, rfl, ⟨by omega, (fun i h => absurd h (by omega)), (fun i => fup_other ehB129 757 i (Or.inl (by decide)))⟩, rfl⟩ (by omega)
end CT

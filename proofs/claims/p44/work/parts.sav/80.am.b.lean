set_option linter.all false
section CT
variable {ρ : Nat → Int32} {base n : Nat} {F : Nat → Prop} {D : va_G} {dA : Nat → ClassId} {la : Launch}
set_option maxRecDepth 8000 in
theorem ct_Order_goOn_992d9 {I : fH} {x2 : Int} {x3 : Int} {x4 : Int} {x5 : Int} (h0 : fB bsJ I) (ha2 : (7 ≤ x2 ∧ x2 ≤ 7)) (ha3 : ((-2147483648) ≤ x3 ∧ x3 ≤ 2147483647)) (ha4 : (0 ≤ x4 ∧ x4 ≤ 63)) (ha5 : ((-2147483648) ≤ x5 ∧ x5 ≤ 2147483647)) (hp0 : 0 ≤ x5 ∧ x5 ≤ 5940 * x2) (hp1 : 0 ≤ I 735 2 ∧ I 735 2 ≤ 60) : fC ρ base n F xTc vwCl xTys D dA la gJ (fbz bsJ znJ (fKc wz_c325e) I) xm_207 [.inr (.inr (some 735)), .inr (.inr (some 211)), .inl x2, .inl x3, .inl x4, .inl x5] I (fun I' r => r = none ∧ True ∧ (∀ (p : Nat → Int) (s : sSt), (∀ i : Nat, (i : Int) < x2 → I 737 i = p i) → skR (I 211 15).toNat s I → skR (I 211 15).toNat (sSk (I 211 15).toNat (I 254) (I 255) (I 256) (I 735 2) 0 x2.toNat x3 x4 x5 p s) I') ∧ (∀ i : Nat, (i : Int) < x2 → I' 737 i = I 737 i)) := by
  have hW : fzs wz_c325e (fKc wz_c325e) := fKc_ok _
  refine f_meth (rb := rbJ) (J := []) 1 400 xG xin_207 x6_207 okJ (fB_self h0) ?_ ?_
  · exact fun q h => absurd h List.not_mem_nil
  · have hB0 := fB_self (zn := znJ) (K := fKc wz_c325e) h0
    have b1 := fBd fb_211_15 (fBz h0 hB0)
    refine And.intro ⟨rfl, by decide, by decide⟩ (fgetf fb_211_15 h0 hB0 ?_)
    intro z2 lz2 uz2 qz2
    refine And.intro (And.intro (by first | exact fi_ ha2.1 ha2.2 rfl | omega) (by first | exact fi_ lz2 uz2 rfl | omega)) (And.intro ?_ ?_)
    · intro c3
      refine Exists.intro xm_215 (And.intro mi_215 (And.intro ⟨rfl, rfl, rfl, rfl⟩ (And.intro rfl ?_)))
      refine fcall _ h0 (fzs_sub (by decide +kernel) hW) hB0 (ct_Order_take_e8cff (fBz h0 hB0) (by first | exact ⟨ha5.1, ha5.2⟩ | omega)) ?_
      rintro IhB5 _ hB5 fhB5 ⟨rfl, hz4, g0z4⟩
      have t6 := fhB5 211 15 (by decide +kernel)
      have k7 := fBz_eq hB5 (a := 211) (j := 15) (by decide +kernel)
      have k8 := fBz_eq hB5 (a := 735) (j := 2) (by decide +kernel)
      exact ⟨rfl, True.intro, (fun p s hp hs => by rw [sk_tk (by omega)]; exact g0z4 p s (fun i hi => hp i (by omega)) hs), (fun i _ => fFr_at fhB5 737 (by decide +kernel) rfl i)⟩
    · intro c9
      exfalso
      omega
abbrev jc_Order_goOn_0ff97_24 (x2 : Int) (x3 : Int) (x4 : Int) (x5 : Int) (I0 : fH) : Nat → fL → List fV → fH → Prop := fun m lv st I => ∃ (y2 : Int) (y3 : Int) (y4 : Int) (y5 : Int) (y6 : Int), lv = [(0, .inr (.inr (some 735))), (1, .inr (.inr (some 211))), (2, .inl y2), (3, .inl y3), (4, .inl y4), (5, .inl y5), (6, .inl y6)] ∧ st = [] ∧ (((6 ≤ y2 ∧ y2 ≤ 6) ∧ ((-2147483648) ≤ y3 ∧ y3 ≤ 2147483647) ∧ (0 ≤ y4 ∧ y4 ≤ 54) ∧ ((-2147483648) ≤ y5 ∧ y5 ≤ 2147483647) ∧ (0 ≤ y6 ∧ y6 ≤ 7) ∧ (7 ≤ I 211 15 ∧ I 211 15 ≤ 7) ∧ (y2 = x2) ∧ (y3 = x3) ∧ (y4 = x4) ∧ (y5 = x5) ∧ (x2 < I0 211 15) ∧ (y6 ≤ I0 211 15)) ∧ (∀ (p : Nat → Int) (s : sSt), (∀ i : Nat, (i : Int) < x2 → I0 737 i = p i) → skR (I0 211 15).toNat s I0 → skR (I0 211 15).toNat (nf (sGo (I0 254) (I0 255) (I0 256) (I0 735 2) (sSk (I0 211 15).toNat (I0 254) (I0 255) (I0 256) (I0 735 2) 0) x2.toNat x3 x4 x5 p) s y6.toNat) I) ∧ (∀ i : Nat, (i : Int) < x2 → I 737 i = I0 737 i)) ∧ m = (1 + 1 * (7 - y6) : Int).toNat
set_option maxRecDepth 8000 in
theorem ct_Order_goOn_0ff97 {I : fH} {x2 : Int} {x3 : Int} {x4 : Int} {x5 : Int} (h0 : fB bsJ I) (ha2 : (6 ≤ x2 ∧ x2 ≤ 6)) (ha3 : ((-2147483648) ≤ x3 ∧ x3 ≤ 2147483647)) (ha4 : (0 ≤ x4 ∧ x4 ≤ 54)) (ha5 : ((-2147483648) ≤ x5 ∧ x5 ≤ 2147483647)) (hp0 : 0 ≤ x5 ∧ x5 ≤ 5940 * x2) (hp1 : 0 ≤ I 735 2 ∧ I 735 2 ≤ 60) : fC ρ base n F xTc vwCl xTys D dA la gJ (fbz bsJ znJ (fKc wz_7628e) I) xm_208 [.inr (.inr (some 735)), .inr (.inr (some 211)), .inl x2, .inl x3, .inl x4, .inl x5] I (fun I' r => r = none ∧ True ∧ (∀ (p : Nat → Int) (s : sSt), (∀ i : Nat, (i : Int) < x2 → I 737 i = p i) → skR (I 211 15).toNat s I → skR (I 211 15).toNat (sSk (I 211 15).toNat (I 254) (I 255) (I 256) (I 735 2) 1 x2.toNat x3 x4 x5 p s) I') ∧ (∀ i : Nat, (i : Int) < x2 → I' 737 i = I 737 i)) := by
  have hW : fzs wz_7628e (fKc wz_7628e) := fKc_ok _
  refine f_meth (rb := rbJ) (J := [(24, (jc_Order_goOn_0ff97_24 x2 x3 x4 x5 I))]) 9 400 xG xin_208 x6_208 okJ (fB_self h0) ?_ ?_
  · refine List.forall_mem_cons.mpr ⟨?_, fun q h => absurd h List.not_mem_nil⟩
    · rintro m _ _ I1 hB1 ⟨y2, y3, y4, y5, y6, rfl, rfl, ⟨hb, hx0, hx1⟩, hm⟩
      have k1 := fBz_eq hB1 (a := 211) (j := 15) (by decide +kernel)
      have k2 := fBz_eq hB1 (a := 735) (j := 2) (by decide +kernel)
      have b3 := fBd fb_211_15 (fBz h0 hB1)
      have ey2 : x2 = y2 := by omega
      subst ey2
      have ey3 : x3 = y3 := by omega
      subst ey3
      have ey4 : x4 = y4 := by omega
      subst ey4
      have ey5 : x5 = y5 := by omega
      subst ey5
      refine And.intro ⟨rfl, by decide, by decide⟩ (fgetf fb_211_15 h0 hB1 ?_)
      intro z4 lz4 uz4 qz4
      refine And.intro (And.intro (by first | exact fi_ hb.2.2.2.2.1.1 hb.2.2.2.2.1.2 rfl | omega) (by first | exact fi_ lz4 uz4 rfl | omega)) (And.intro ?_ ?_)
      · intro c5
        exact ⟨rfl, True.intro, (fun p s hp hs => by rw [sk_go (by omega)]; exact sk_end (hx0 p s hp hs) (by omega) (by omega)), hx1⟩
      · intro c6
        refine And.intro ⟨rfl, by decide, by decide⟩ (fgetf fb_735_3 h0 hB1 ?_)
        intro z7 lz7 uz7 qz7
        refine And.intro (by first | exact fi_ lz7 uz7 rfl | omega) (And.intro ?_ ?_)
        · intro c8
          exact ⟨rfl, True.intro, (fun p s hp hs => by rw [sk_go (by omega)]; exact sk_end (hx0 p s hp hs) (by omega) (by omega)), hx1⟩
        · intro c9
          intro z10 hz10 ez10
          intro z11 hz11 ez11 bz11
          have bz11 := bz11 (by omega)
          have wb := bt_of hz11 ez10 ez11 (by omega)
          refine And.intro (by first | exact fi_ bz11.1 bz11.2 rfl | omega) (And.intro ?_ ?_)
          · intro c12
            exact fcutJ (I := I1) (j := (jc_Order_goOn_0ff97_24 x2 x3 x4 x5 I)) (lv' := [(0, .inr (.inr (some 735))), (1, .inr (.inr (some 211))), (2, .inl _), (3, .inl _), (4, .inl _), (5, .inl _), (6, .inl _)]) (And.intro rfl (And.intro rfl (And.intro rfl (And.intro rfl (And.intro rfl (And.intro rfl (And.intro rfl True.intro))))))) ⟨_, _, _, _, _, rfl, rfl, ⟨by omega, (fun p s hp hs => by first | exact nf_skR (go_no (hx0 p s hp hs) (fun q => by have q1 := q.1; omega)) (by omega) (by omega) | exact nf_skR (go_no (hx0 p s hp hs) (fun q => by have q2 := q.2; omega)) (by omega) (by omega) | exact nf_skR (go_spent (hx0 p s hp hs) (by omega) ⟨by omega, by omega⟩ (by omega) (by omega) enil0 enil0) (by omega) (by omega) | exact nf_skR (go_rec (hx0 p s hp hs) (by omega) ⟨by omega, by omega⟩ (g0nil0 (sUp p x2.toNat ((y6.toNat : Nat) : Int)) _ (path_up enil0 enil0 (fun i hi => (hx1 i hi).trans (hp i hi)) (by omega) rfl (by omega)) (go_in (hx0 p s hp hs) (by omega) enil0 enil0))) (by omega) (by omega)), (fun i hi => by first | exact (g1nil0 i (by omega)).trans ((fup_other enil0 737 i (Or.inr (by omega))).trans ((fup_other enil0 737 i (Or.inl (by decide))).trans (hx1 i hi))) | exact ((fup_other enil0 737 i (Or.inr (by omega))).trans ((fup_other enil0 737 i (Or.inl (by decide))).trans (hx1 i hi))) | exact hx1 i hi)⟩, rfl⟩ (by omega)
          · intro c13
            refine And.intro ⟨rfl, by decide, by decide⟩ ?_
            refine fload1 rL_256_256_0_6_1_0 h0 hB1 ⟨by decide, by decide⟩ (by first | exact ⟨hb.2.2.2.2.1.1, Int.le_trans (Int.le_sub_one_of_lt (Int.lt_of_lt_of_le c6 uz4)) (by decide)⟩ | omega) ?_
            intro z14 lz14 uz14 qz14
            intro z15 hz15 ez15
            intro z16 hz16 ez16 bz16
            clear bz16
            have wa := sAh_of hz16 ez15 ez16
            rw [qz14, fFr_at (fFr_of hB1) 256 (by decide +kernel) rfl] at wa
            refine And.intro (by omega) (And.intro ?_ ?_)
            · intro c17
              exact fcutJ (I := I1) (j := (jc_Order_goOn_0ff97_24 x2 x3 x4 x5 I)) (lv' := [(0, .inr (.inr (some 735))), (1, .inr (.inr (some 211))), (2, .inl _), (3, .inl _), (4, .inl _), (5, .inl _), (6, .inl _)]) (And.intro rfl (And.intro rfl (And.intro rfl (And.intro rfl (And.intro rfl (And.intro rfl (And.intro rfl True.intro))))))) ⟨_, _, _, _, _, rfl, rfl, ⟨by omega, (fun p s hp hs => by first | exact nf_skR (go_no (hx0 p s hp hs) (fun q => by have q1 := q.1; omega)) (by omega) (by omega) | exact nf_skR (go_no (hx0 p s hp hs) (fun q => by have q2 := q.2; omega)) (by omega) (by omega) | exact nf_skR (go_spent (hx0 p s hp hs) (by omega) ⟨by omega, by omega⟩ (by omega) (by omega) enil0 enil0) (by omega) (by omega) | exact nf_skR (go_rec (hx0 p s hp hs) (by omega) ⟨by omega, by omega⟩ (g0nil0 (sUp p x2.toNat ((y6.toNat : Nat) : Int)) _ (path_up enil0 enil0 (fun i hi => (hx1 i hi).trans (hp i hi)) (by omega) rfl (by omega)) (go_in (hx0 p s hp hs) (by omega) enil0 enil0))) (by omega) (by omega)), (fun i hi => by first | exact (g1nil0 i (by omega)).trans ((fup_other enil0 737 i (Or.inr (by omega))).trans ((fup_other enil0 737 i (Or.inl (by decide))).trans (hx1 i hi))) | exact ((fup_other enil0 737 i (Or.inr (by omega))).trans ((fup_other enil0 737 i (Or.inl (by decide))).trans (hx1 i hi))) | exact hx1 i hi)⟩, rfl⟩ (by omega)
            · intro c18
              refine And.intro ⟨rfl, by decide, by decide⟩ (fgetf fb_735_3 h0 hB1 ?_)
              intro z19 lz19 uz19 qz19
              refine And.intro ⟨rfl, by decide, by decide⟩ (And.intro rfl (And.intro (Or.inl rfl) (fputf fb_735_3 (by decide +kernel) hW (by omega) ?_)))
              intro IhB20 ehB20 hB20
              have t21 : IhB20 211 15 = I1 211 15 := (congrFun (congrFun ehB20 211) 15).trans (fup_ne (by first | decide | omega))
              have t22 := fup_at ehB20 3 (by first | rfl | omega)
              have k23 := fBz_eq hB20 (a := 211) (j := 15) (by decide +kernel)
              have k24 := fBz_eq hB20 (a := 735) (j := 2) (by decide +kernel)
              refine And.intro ⟨rfl, by decide, by decide⟩ ?_
              refine fstore1 rS_737_737_0_6_1_0 (fzs_sub (by decide +kernel) hW) ⟨by decide, by decide⟩ (by first | exact ⟨Int.le_trans (by decide) hb.1.1, hb.1.2⟩ | omega) (by first | exact ⟨hb.2.2.2.2.1.1, Int.le_trans (Int.le_sub_one_of_lt (Int.lt_of_lt_of_le c6 uz4)) (by decide)⟩ | omega) ?_
              intro IhB25 ehB25 hB25
              have t26 := fup_self ehB25
              have t27 : IhB25 211 15 = IhB20 211 15 := (congrFun (congrFun ehB25 211) 15).trans (fup_ne (by first | decide | omega))
              have t28 : IhB25 735 3 = IhB20 735 3 := (congrFun (congrFun ehB25 735) 3).trans (fup_ne (by first | decide | omega))
              have t29 := fup_at ehB25 6 (by first | rfl | omega)
              have k30 := fBz_eq hB25 (a := 211) (j := 15) (by decide +kernel)
              have k31 := fBz_eq hB25 (a := 735) (j := 2) (by decide +kernel)
              refine And.intro ⟨rfl, by decide, by decide⟩ ?_
              refine fload1 rL_254_254_0_6_1_0 h0 hB25 ⟨by decide, by decide⟩ (by first | exact ⟨hb.2.2.2.2.1.1, Int.le_trans (Int.le_sub_one_of_lt (Int.lt_of_lt_of_le c6 uz4)) (by decide)⟩ | omega) ?_
              intro z32 lz32 uz32 qz32
              have w89 := qz32.trans ((fun j => (fup_other ehB25 254 j (Or.inl (by decide))).trans ((fup_other ehB20 254 j (Or.inl (by decide))).trans (fFr_at (fFr_of hB1) 254 (by decide +kernel) rfl j))) _)
              intro z33 hz33 ez33 bz33
              have bz33 := bz33 (by omega)
              refine And.intro ⟨rfl, by decide, by decide⟩ ?_
              refine fload1 rL_255_255_0_6_1_0 h0 hB25 ⟨by decide, by decide⟩ (by first | exact ⟨hb.2.2.2.2.1.1, Int.le_trans (Int.le_sub_one_of_lt (Int.lt_of_lt_of_le c6 uz4)) (by decide)⟩ | omega) ?_
              intro z34 lz34 uz34 qz34
              have w99 := qz34.trans ((fun j => (fup_other ehB25 255 j (Or.inl (by decide))).trans ((fup_other ehB20 255 j (Or.inl (by decide))).trans (fFr_at (fFr_of hB1) 255 (by decide +kernel) rfl j))) _)
              refine And.intro ⟨rfl, by decide, by decide⟩ (fgetf fb_735_2 h0 hB25 ?_)
              intro z35 lz35 uz35 qz35
              intro z36 hz36 ez36 bz36
              try replace bz36 := bz36 (by omega)
              refine And.intro (And.intro (by first | exact ⟨by decide, by decide⟩ | omega) (And.intro (by omega) rfl)) ?_
              intro z37 hz37
              intro z38 hz38 ez38 bz38
              try replace bz38 := bz38 (by omega)
              have w110 := mul_bd (a := z34) (b := z37) (by omega) (by omega)
              have w111 := bz38 (by omega)
              refine And.intro ⟨rfl, by decide, by decide⟩ (fgetf fb_735_3 h0 hB25 ?_)
              intro z39 lz39 uz39 qz39
              refine And.intro (by first | exact fi_ lz39 uz39 rfl | omega) (And.intro ?_ ?_)
              · intro c40
                exact fcutJ (I := IhB25) (j := (jc_Order_goOn_0ff97_24 x2 x3 x4 x5 I)) (lv' := [(0, .inr (.inr (some 735))), (1, .inr (.inr (some 211))), (2, .inl _), (3, .inl _), (4, .inl _), (5, .inl _), (6, .inl _)]) (And.intro rfl (And.intro rfl (And.intro rfl (And.intro rfl (And.intro rfl (And.intro rfl (And.intro rfl True.intro))))))) ⟨_, _, _, _, _, rfl, rfl, ⟨by omega, (fun p s hp hs => by first | exact nf_skR (go_no (hx0 p s hp hs) (fun q => by have q1 := q.1; omega)) (by omega) (by omega) | exact nf_skR (go_no (hx0 p s hp hs) (fun q => by have q2 := q.2; omega)) (by omega) (by omega) | exact nf_skR (go_spent (hx0 p s hp hs) (by omega) ⟨by omega, by omega⟩ (by omega) (by omega) ehB20 ehB25) (by omega) (by omega) | exact nf_skR (go_rec (hx0 p s hp hs) (by omega) ⟨by omega, by omega⟩ (g0nil0 (sUp p x2.toNat ((y6.toNat : Nat) : Int)) _ (path_up ehB20 ehB25 (fun i hi => (hx1 i hi).trans (hp i hi)) (by omega) rfl (by omega)) (go_in (hx0 p s hp hs) (by omega) ehB20 ehB25))) (by omega) (by omega)), (fun i hi => by first | exact (g1nil0 i (by omega)).trans ((fup_other ehB25 737 i (Or.inr (by omega))).trans ((fup_other ehB20 737 i (Or.inl (by decide))).trans (hx1 i hi))) | exact ((fup_other ehB25 737 i (Or.inr (by omega))).trans ((fup_other ehB20 737 i (Or.inl (by decide))).trans (hx1 i hi))) | exact hx1 i hi)⟩, rfl⟩ (by omega)
              · intro c41
                intro z42 hz42 ez42
                intro z43 hz43 ez43
                intro z44 hz44 ez44 bz44
                try replace bz44 := bz44 (by omega)
                refine Exists.intro xm_207 (And.intro mi_207 (And.intro ⟨rfl, rfl, rfl, rfl⟩ (And.intro rfl ?_)))
                refine fcall _ h0 (fzs_sub (by decide +kernel) hW) hB25 (ct_Order_goOn_992d9 (fBz h0 hB25) (by omega) (by omega) (by omega) (by omega) (by omega) (by omega)) ?_
                rintro IhB46 _ hB46 fhB46 ⟨rfl, hz45, g0z45, g1z45⟩
                have t47 := fhB46 211 15 (by decide +kernel)
                have t48 := fhB46 735 3 (by decide +kernel)
                have k49 := fBz_eq hB46 (a := 211) (j := 15) (by decide +kernel)
                have k50 := fBz_eq hB46 (a := 735) (j := 2) (by decide +kernel)
                have w254 : IhB25 254 = I 254 := funext (fun j => (fup_other ehB25 254 j (Or.inl (by decide))).trans ((fup_other ehB20 254 j (Or.inl (by decide))).trans (fFr_at (fFr_of hB1) 254 (by decide +kernel) rfl j)))
                have w255 : IhB25 255 = I 255 := funext (fun j => (fup_other ehB25 255 j (Or.inl (by decide))).trans ((fup_other ehB20 255 j (Or.inl (by decide))).trans (fFr_at (fFr_of hB1) 255 (by decide +kernel) rfl j)))
                have w256 : IhB25 256 = I 256 := funext (fun j => (fup_other ehB25 256 j (Or.inl (by decide))).trans ((fup_other ehB20 256 j (Or.inl (by decide))).trans (fFr_at (fFr_of hB1) 256 (by decide +kernel) rfl j)))
                have wN : IhB25 211 15 = I 211 15 := fBz_eq hB25 (by decide +kernel)
                have wS : IhB25 735 2 = I 735 2 := fBz_eq hB25 (by decide +kernel)
                have wd := sDn_of hz43 (by omega) ez42 ez43
                have we : z33 = x4 + I 254 y6.toNat := by omega
                have ws : z44 = x5 + sMo (I 735 2) (x4 + I 254 y6.toNat) (I 255 y6.toNat) := by have q := mo_of (span := I 735 2) (e := x4 + I 254 y6.toNat) w111 (by omega); rw [w99] at q; omega
                rw [w254, w255, w256, wN, wS, wd, we, ws, show (x2 + ((1 : Nat) : Int)).toNat = x2.toNat + 1 by omega] at g0z45
                exact fcutJ (I := IhB46) (j := (jc_Order_goOn_0ff97_24 x2 x3 x4 x5 I)) (lv' := [(0, .inr (.inr (some 735))), (1, .inr (.inr (some 211))), (2, .inl _), (3, .inl _), (4, .inl _), (5, .inl _), (6, .inl _)]) (And.intro rfl (And.intro rfl (And.intro rfl (And.intro rfl (And.intro rfl (And.intro rfl (And.intro rfl True.intro))))))) ⟨_, _, _, _, _, rfl, rfl, ⟨by omega, (fun p s hp hs => by first | exact nf_skR (go_no (hx0 p s hp hs) (fun q => by have q1 := q.1; omega)) (by omega) (by omega) | exact nf_skR (go_no (hx0 p s hp hs) (fun q => by have q2 := q.2; omega)) (by omega) (by omega) | exact nf_skR (go_spent (hx0 p s hp hs) (by omega) ⟨by omega, by omega⟩ (by omega) (by omega) ehB20 ehB25) (by omega) (by omega) | exact nf_skR (go_rec (hx0 p s hp hs) (by omega) ⟨by omega, by omega⟩ (g0z45 (sUp p x2.toNat ((y6.toNat : Nat) : Int)) _ (path_up ehB20 ehB25 (fun i hi => (hx1 i hi).trans (hp i hi)) (by omega) rfl (by omega)) (go_in (hx0 p s hp hs) (by omega) ehB20 ehB25))) (by omega) (by omega)), (fun i hi => by first | exact (g1z45 i (by omega)).trans ((fup_other ehB25 737 i (Or.inr (by omega))).trans ((fup_other ehB20 737 i (Or.inl (by decide))).trans (hx1 i hi))) | exact ((fup_other ehB25 737 i (Or.inr (by omega))).trans ((fup_other ehB20 737 i (Or.inl (by decide))).trans (hx1 i hi))) | exact hx1 i hi)⟩, rfl⟩ (by omega)
  · have hB0 := fB_self (zn := znJ) (K := fKc wz_7628e) h0
    have b51 := fBd fb_211_15 (fBz h0 hB0)
    refine And.intro ⟨rfl, by decide, by decide⟩ (fgetf fb_211_15 h0 hB0 ?_)
    intro z52 lz52 uz52 qz52
    refine And.intro (And.intro (by first | exact fi_ ha2.1 ha2.2 rfl | omega) (by first | exact fi_ lz52 uz52 rfl | omega)) (And.intro ?_ ?_)
    · intro c53
      refine Exists.intro xm_215 (And.intro mi_215 (And.intro ⟨rfl, rfl, rfl, rfl⟩ (And.intro rfl ?_)))
      refine fcall _ h0 (fzs_sub (by decide +kernel) hW) hB0 (ct_Order_take_e8cff (fBz h0 hB0) (by first | exact ⟨ha5.1, ha5.2⟩ | omega)) ?_
      rintro IhB55 _ hB55 fhB55 ⟨rfl, hz54, g0z54⟩
      have t56 := fhB55 211 15 (by decide +kernel)
      have k57 := fBz_eq hB55 (a := 211) (j := 15) (by decide +kernel)
      have k58 := fBz_eq hB55 (a := 735) (j := 2) (by decide +kernel)
      exact ⟨rfl, True.intro, (fun p s hp hs => by rw [sk_tk (by omega)]; exact g0z54 p s (fun i hi => hp i (by omega)) hs), (fun i _ => fFr_at fhB55 737 (by decide +kernel) rfl i)⟩
    · intro c59
      refine And.intro (And.intro (by first | exact fi_ ha2.1 ha2.2 rfl | omega) (by first | exact ⟨by decide, by decide⟩ | omega)) (And.intro ?_ ?_)
      · intro c60
        exact fcutJ (I := I) (j := (jc_Order_goOn_0ff97_24 x2 x3 x4 x5 I)) (lv' := [(0, .inr (.inr (some 735))), (1, .inr (.inr (some 211))), (2, .inl _), (3, .inl _), (4, .inl _), (5, .inl _), (6, .inl _)]) (And.intro rfl (And.intro rfl (And.intro rfl (And.intro rfl (And.intro rfl (And.intro rfl (And.intro rfl True.intro))))))) ⟨_, _, _, _, _, rfl, rfl, ⟨by omega, (fun p s hp hs => hs), (fun i _ => rfl)⟩, rfl⟩ (by omega)
      · intro c61
        refine Exists.intro xm_215 (And.intro mi_215 (And.intro ⟨rfl, rfl, rfl, rfl⟩ (And.intro rfl ?_)))
        refine fcall _ h0 (fzs_sub (by decide +kernel) hW) hB0 (ct_Order_take_e8cff (fBz h0 hB0) (by first | exact ⟨ha5.1, ha5.2⟩ | omega)) ?_
        rintro IhB63 _ hB63 fhB63 ⟨rfl, hz62, g0z62⟩
        have t64 := fhB63 211 15 (by decide +kernel)
        have k65 := fBz_eq hB63 (a := 211) (j := 15) (by decide +kernel)
        have k66 := fBz_eq hB63 (a := 735) (j := 2) (by decide +kernel)
        exact ⟨rfl, True.intro, (fun p s hp hs => by rw [sk_tk (by omega)]; exact g0z62 p s (fun i hi => hp i (by omega)) hs), (fun i _ => fFr_at fhB63 737 (by decide +kernel) rfl i)⟩
abbrev jg_goOn_24 (d : Int) (kk : Nat) (x2 : Int) (x3 : Int) (x4 : Int) (x5 : Int) (I0 : fH) : Nat → fL → List fV → fH → Prop := fun m lv st I => ∃ (y2 : Int) (y3 : Int) (y4 : Int) (y5 : Int) (y6 : Int), lv = [(0, .inr (.inr (some 735))), (1, .inr (.inr (some 211))), (2, .inl y2), (3, .inl y3), (4, .inl y4), (5, .inl y5), (6, .inl y6)] ∧ st = [] ∧ (((d ≤ y2 ∧ y2 ≤ d) ∧ ((-2147483648) ≤ y3 ∧ y3 ≤ 2147483647) ∧ (0 ≤ y4 ∧ y4 ≤ 9 * d) ∧ ((-2147483648) ≤ y5 ∧ y5 ≤ 2147483647) ∧ (0 ≤ y6 ∧ y6 ≤ 7) ∧ (d + 1 ≤ I 211 15 ∧ I 211 15 ≤ 7) ∧ (y2 = x2) ∧ (y3 = x3) ∧ (y4 = x4) ∧ (y5 = x5) ∧ (x2 < I0 211 15) ∧ (y6 ≤ I0 211 15)) ∧ (∀ (p : Nat → Int) (s : sSt), (∀ i : Nat, (i : Int) < x2 → I0 737 i = p i) → skR (I0 211 15).toNat s I0 → skR (I0 211 15).toNat (nf (sGo (I0 254) (I0 255) (I0 256) (I0 735 2) (sSk (I0 211 15).toNat (I0 254) (I0 255) (I0 256) (I0 735 2) kk) x2.toNat x3 x4 x5 p) s y6.toNat) I) ∧ (∀ i : Nat, (i : Int) < x2 → I 737 i = I0 737 i)) ∧ m = (1 + 1 * (7 - y6) : Int).toNat
noncomputable abbrev gM_goOn (gn0 : Nat) (rm : Room) : xM := (⟨"AcidCity$Order", "goOn", "(LAcidCity$Desk;IIII)V"⟩, prog_8_method_3_code, 9, (none : Option FieldType), [(0, 3, 2, 0, []), (1, 3, 1, 1, []), (2, 25, 4, 15, [10351]), (5, 21, 3, 14, []), (8, 3, 2, 0, []), (9, 0, 7, 0, []), (11, 21, 2, 21, []), (14, 3, 0, 1, []), (15, 3, 5, 0, []), (17, 33, 2, 215, [7, 1, 15475, 0, 15477, 3072, 15478, 9229]), (20, 36, 0, 0, []), (21, 0, 0, 0, []), (22, 4, 6, 0, []), (24, 3, 6, 0, []), (26, 3, 1, 1, []), (27, 25, 4, 15, [10351]), (30, 21, 3, 148, []), (33, 3, 0, 1, []), (34, 25, 6, 3, [11290]), (37, 20, 2, 148, []), (40, 3, 3, 0, []), (41, 3, 6, 0, []), (43, 6, 7, 0, []), (44, 0, 1, 0, []), (45, 6, 3, 0, []), (46, 20, 1, 142, []), (49, 3, 1, 1, []), (50, 25, 4, 14, [10350]), (53, 3, 6, 0, []), (55, 31, 100, 0, []), (56, 3, 3, 0, []), (57, 0, 4294967295, 0, []), (58, 6, 5, 0, []), (59, 6, 3, 0, []), (60, 20, 1, 142, []), (63, 3, 0, 1, []), (64, 15, 0, 0, []), (65, 25, 6, 3, [11290]), (68, 0, 1, 0, []), (69, 6, 1, 0, []), (70, 26, 6, 3, [0, 11290]), (73, 3, 0, 1, []), (74, 25, 6, 1, [11288]), (77, 3, 2, 0, []), (78, 3, 6, 0, []), (80, 32, 100, 0, []), (81, 3, 4, 0, []), (83, 3, 1, 1, []), (84, 25, 4, 12, [10345]), (87, 3, 6, 0, []), (89, 31, 100, 0, []), (90, 6, 0, 1, []), (91, 4, 7, 0, []), (93, 3, 1, 1, []), (94, 25, 4, 13, [10348]), (97, 3, 6, 0, []), (99, 31, 100, 0, []), (100, 0, 0, 0, []), (101, 3, 0, 1, []), (102, 25, 6, 2, [11289]), (105, 3, 7, 0, []), (107, 6, 1, 1, []), (108, 37, 1, 0, [15480, 12334, 12335, 9231]), (111, 6, 2, 1, []), (112, 4, 8, 0, []), (114, 3, 0, 1, []), (115, 25, 6, 3, [11290]), (118, 20, 2, 142, []), (121, 3, 0, 1, []), (122, 3, 1, 1, []), (123, 3, 2, 0, []), (124, 0, 1, 0, []), (125, 6, 0, 0, []), (126, 3, 3, 0, []), (127, 0, 1, 0, []), (128, 3, 6, 0, []), (130, 6, 6, 0, []), (131, 6, 4, 0, []), (132, 3, 7, 0, []), (134, 3, 5, 0, []), (136, 3, 8, 0, []), (138, 6, 0, 1, []), (139, 33, 6, gn0, [7, 1, 15471, 0, 15473, 2063, 15474, 9229]), (142, 5, 6, 1, []), (145, 22, 0, 24, []), (148, 36, 0, 0, [])], rm)
set_option maxRecDepth 8000 in
theorem cg_goOn {d : Int} {kk : Nat} {rm : Room} (hl : Nat.ble 14 rm.locals = true) (hd1 : 1 ≤ d) (hd2 : d ≤ 6) {gm0 : xM} {gn0 : Nat} (ge0 : xMs[gn0]? = some gm0) (gk0 : Nat.ble 6 gm0.2.2.1 = true ∧ (xR gm0).cells = 0 ∧ (xR gm0).slots = 0) (gc0 : ∀ {I : fH} {x2 : Int} {x3 : Int} {x4 : Int} {x5 : Int} (h0 : fB bsJ I) (ha2 : ((d + 1) ≤ x2 ∧ x2 ≤ (d + 1))) (ha3 : ((-2147483648) ≤ x3 ∧ x3 ≤ 2147483647)) (ha4 : (0 ≤ x4 ∧ x4 ≤ 9 * (d + 1))) (ha5 : ((-2147483648) ≤ x5 ∧ x5 ≤ 2147483647)) (hp0 : 0 ≤ x5 ∧ x5 ≤ 5940 * x2) (hp1 : 0 ≤ I 735 2 ∧ I 735 2 ≤ 60), fC ρ base n F xTc vwCl xTys D dA la gJ (fbz bsJ znJ (fKc wz_7628e) I) gm0 [.inr (.inr (some 735)), .inr (.inr (some 211)), .inl x2, .inl x3, .inl x4, .inl x5] I (fun I' r => r = none ∧ True ∧ (∀ (p : Nat → Int) (s : sSt), (∀ i : Nat, (i : Int) < x2 → I 737 i = p i) → skR (I 211 15).toNat s I → skR (I 211 15).toNat (sSk (I 211 15).toNat (I 254) (I 255) (I 256) (I 735 2) kk x2.toNat x3 x4 x5 p s) I') ∧ (∀ i : Nat, (i : Int) < x2 → I' 737 i = I 737 i))) (hin : (gM_goOn gn0 rm) ∈ xMs) (hx6 : f60c xTc xTys (gM_goOn gn0 rm) = true) {I : fH} {x2 : Int} {x3 : Int} {x4 : Int} {x5 : Int} (h0 : fB bsJ I) (ha2 : (d ≤ x2 ∧ x2 ≤ d)) (ha3 : ((-2147483648) ≤ x3 ∧ x3 ≤ 2147483647)) (ha4 : (0 ≤ x4 ∧ x4 ≤ 9 * d)) (ha5 : ((-2147483648) ≤ x5 ∧ x5 ≤ 2147483647)) (hp0 : 0 ≤ x5 ∧ x5 ≤ 5940 * x2) (hp1 : 0 ≤ I 735 2 ∧ I 735 2 ≤ 60) : fC ρ base n F xTc vwCl xTys D dA la gJ (fbz bsJ znJ (fKc wz_7628e) I) (gM_goOn gn0 rm) [.inr (.inr (some 735)), .inr (.inr (some 211)), .inl x2, .inl x3, .inl x4, .inl x5] I (fun I' r => r = none ∧ True ∧ (∀ (p : Nat → Int) (s : sSt), (∀ i : Nat, (i : Int) < x2 → I 737 i = p i) → skR (I 211 15).toNat s I → skR (I 211 15).toNat (sSk (I 211 15).toNat (I 254) (I 255) (I 256) (I 735 2) (kk + 1) x2.toNat x3 x4 x5 p s) I') ∧ (∀ i : Nat, (i : Int) < x2 → I' 737 i = I 737 i)) := by
  have hW : fzs wz_7628e (fKc wz_7628e) := fKc_ok _
  refine f_meth (rb := rbJ) (J := [(24, (jg_goOn_24 d kk x2 x3 x4 x5 I))]) 16 400 xG hin hx6 okJ (fB_self h0) ?_ ?_
  · refine List.forall_mem_cons.mpr ⟨?_, fun q h => absurd h List.not_mem_nil⟩
    · rintro m _ _ I1 hB1 ⟨y2, y3, y4, y5, y6, rfl, rfl, ⟨hb, hx0, hx1⟩, hm⟩
      have k1 := fBz_eq hB1 (a := 211) (j := 15) (by decide +kernel)
      have k2 := fBz_eq hB1 (a := 735) (j := 2) (by decide +kernel)
      have b3 := fBd fb_211_15 (fBz h0 hB1)
      have ey2 : x2 = y2 := by omega
      subst ey2
      have ey3 : x3 = y3 := by omega
      subst ey3
      have ey4 : x4 = y4 := by omega
      subst ey4
      have ey5 : x5 = y5 := by omega
      subst ey5
      refine And.intro ⟨rfl, by decide, by decide⟩ (fgetf fb_211_15 h0 hB1 ?_)
      intro z4 lz4 uz4 qz4
      refine And.intro (And.intro (by first | exact fi_ hb.2.2.2.2.1.1 hb.2.2.2.2.1.2 rfl | omega) (by first | exact fi_ lz4 uz4 rfl | omega)) (And.intro ?_ ?_)
      · intro c5
        exact ⟨rfl, True.intro, (fun p s hp hs => by rw [sk_go (by omega)]; exact sk_end (hx0 p s hp hs) (by omega) (by omega)), hx1⟩
      · intro c6
        refine And.intro ⟨rfl, by decide, by decide⟩ (fgetf fb_735_3 h0 hB1 ?_)
        intro z7 lz7 uz7 qz7
        refine And.intro (by first | exact fi_ lz7 uz7 rfl | omega) (And.intro ?_ ?_)
        · intro c8
          exact ⟨rfl, True.intro, (fun p s hp hs => by rw [sk_go (by omega)]; exact sk_end (hx0 p s hp hs) (by omega) (by omega)), hx1⟩
        · intro c9
          intro z10 hz10 ez10
          intro z11 hz11 ez11 bz11
          have bz11 := bz11 (by omega)
          have wb := bt_of hz11 ez10 ez11 (by omega)
          refine And.intro (by first | exact fi_ bz11.1 bz11.2 rfl | omega) (And.intro ?_ ?_)
          · intro c12
            exact fcutJ (I := I1) (j := (jg_goOn_24 d kk x2 x3 x4 x5 I)) (lv' := [(0, .inr (.inr (some 735))), (1, .inr (.inr (some 211))), (2, .inl _), (3, .inl _), (4, .inl _), (5, .inl _), (6, .inl _)]) (And.intro rfl (And.intro rfl (And.intro rfl (And.intro rfl (And.intro rfl (And.intro rfl (And.intro rfl True.intro))))))) ⟨_, _, _, _, _, rfl, rfl, ⟨by omega, (fun p s hp hs => by first | exact nf_skR (go_no (hx0 p s hp hs) (fun q => by have q1 := q.1; omega)) (by omega) (by omega) | exact nf_skR (go_no (hx0 p s hp hs) (fun q => by have q2 := q.2; omega)) (by omega) (by omega) | exact nf_skR (go_spent (hx0 p s hp hs) (by omega) ⟨by omega, by omega⟩ (by omega) (by omega) enil0 enil0) (by omega) (by omega) | exact nf_skR (go_rec (hx0 p s hp hs) (by omega) ⟨by omega, by omega⟩ (g0nil0 (sUp p x2.toNat ((y6.toNat : Nat) : Int)) _ (path_up enil0 enil0 (fun i hi => (hx1 i hi).trans (hp i hi)) (by omega) rfl (by omega)) (go_in (hx0 p s hp hs) (by omega) enil0 enil0))) (by omega) (by omega)), (fun i hi => by first | exact (g1nil0 i (by omega)).trans ((fup_other enil0 737 i (Or.inr (by omega))).trans ((fup_other enil0 737 i (Or.inl (by decide))).trans (hx1 i hi))) | exact ((fup_other enil0 737 i (Or.inr (by omega))).trans ((fup_other enil0 737 i (Or.inl (by decide))).trans (hx1 i hi))) | exact hx1 i hi)⟩, rfl⟩ (by omega)
          · intro c13
            refine And.intro ⟨rfl, by decide, by decide⟩ ?_
            refine fload1 rL_256_256_0_6_1_0 h0 hB1 ⟨by decide, by decide⟩ (by first | exact ⟨hb.2.2.2.2.1.1, Int.le_trans (Int.le_sub_one_of_lt (Int.lt_of_lt_of_le c6 uz4)) (by decide)⟩ | omega) ?_
            intro z14 lz14 uz14 qz14
            intro z15 hz15 ez15
            intro z16 hz16 ez16 bz16
            clear bz16
            have wa := sAh_of hz16 ez15 ez16
            rw [qz14, fFr_at (fFr_of hB1) 256 (by decide +kernel) rfl] at wa
            refine And.intro (by omega) (And.intro ?_ ?_)
            · intro c17
              exact fcutJ (I := I1) (j := (jg_goOn_24 d kk x2 x3 x4 x5 I)) (lv' := [(0, .inr (.inr (some 735))), (1, .inr (.inr (some 211))), (2, .inl _), (3, .inl _), (4, .inl _), (5, .inl _), (6, .inl _)]) (And.intro rfl (And.intro rfl (And.intro rfl (And.intro rfl (And.intro rfl (And.intro rfl (And.intro rfl True.intro))))))) ⟨_, _, _, _, _, rfl, rfl, ⟨by omega, (fun p s hp hs => by first | exact nf_skR (go_no (hx0 p s hp hs) (fun q => by have q1 := q.1; omega)) (by omega) (by omega) | exact nf_skR (go_no (hx0 p s hp hs) (fun q => by have q2 := q.2; omega)) (by omega) (by omega) | exact nf_skR (go_spent (hx0 p s hp hs) (by omega) ⟨by omega, by omega⟩ (by omega) (by omega) enil0 enil0) (by omega) (by omega) | exact nf_skR (go_rec (hx0 p s hp hs) (by omega) ⟨by omega, by omega⟩ (g0nil0 (sUp p x2.toNat ((y6.toNat : Nat) : Int)) _ (path_up enil0 enil0 (fun i hi => (hx1 i hi).trans (hp i hi)) (by omega) rfl (by omega)) (go_in (hx0 p s hp hs) (by omega) enil0 enil0))) (by omega) (by omega)), (fun i hi => by first | exact (g1nil0 i (by omega)).trans ((fup_other enil0 737 i (Or.inr (by omega))).trans ((fup_other enil0 737 i (Or.inl (by decide))).trans (hx1 i hi))) | exact ((fup_other enil0 737 i (Or.inr (by omega))).trans ((fup_other enil0 737 i (Or.inl (by decide))).trans (hx1 i hi))) | exact hx1 i hi)⟩, rfl⟩ (by omega)
            · intro c18
              refine And.intro ⟨rfl, by decide, by decide⟩ (fgetf fb_735_3 h0 hB1 ?_)
              intro z19 lz19 uz19 qz19
              refine And.intro ⟨rfl, by decide, by decide⟩ (And.intro rfl (And.intro (Or.inl rfl) (fputf fb_735_3 (by decide +kernel) hW (by omega) ?_)))
              intro IhB20 ehB20 hB20
              have t21 : IhB20 211 15 = I1 211 15 := (congrFun (congrFun ehB20 211) 15).trans (fup_ne (by first | decide | omega))
              have t22 := fup_at ehB20 3 (by first | rfl | omega)
              have k23 := fBz_eq hB20 (a := 211) (j := 15) (by decide +kernel)
              have k24 := fBz_eq hB20 (a := 735) (j := 2) (by decide +kernel)
              refine And.intro ⟨rfl, by decide, by decide⟩ ?_
              refine fstore1 rS_737_737_0_6_1_0 (fzs_sub (by decide +kernel) hW) ⟨by decide, by decide⟩ (by first | exact ⟨Int.le_trans (by decide) hb.1.1, Int.le_trans hb.1.2 (by decide)⟩ | omega) (by first | exact ⟨hb.2.2.2.2.1.1, Int.le_trans (Int.le_sub_one_of_lt (Int.lt_of_lt_of_le c6 uz4)) (by decide)⟩ | omega) ?_
              intro IhB25 ehB25 hB25
              have t26 := fup_self ehB25
              have t27 : IhB25 211 15 = IhB20 211 15 := (congrFun (congrFun ehB25 211) 15).trans (fup_ne (by first | decide | omega))
              have t28 : IhB25 735 3 = IhB20 735 3 := (congrFun (congrFun ehB25 735) 3).trans (fup_ne (by first | decide | omega))
              have t29 := fup_at ehB25 d.toNat (by first | rfl | omega)
              have k30 := fBz_eq hB25 (a := 211) (j := 15) (by decide +kernel)
              have k31 := fBz_eq hB25 (a := 735) (j := 2) (by decide +kernel)
              refine And.intro ⟨rfl, by decide, by decide⟩ ?_
              refine fload1 rL_254_254_0_6_1_0 h0 hB25 ⟨by decide, by decide⟩ (by first | exact ⟨hb.2.2.2.2.1.1, Int.le_trans (Int.le_sub_one_of_lt (Int.lt_of_lt_of_le c6 uz4)) (by decide)⟩ | omega) ?_
              intro z32 lz32 uz32 qz32
              have w89 := qz32.trans ((fun j => (fup_other ehB25 254 j (Or.inl (by decide))).trans ((fup_other ehB20 254 j (Or.inl (by decide))).trans (fFr_at (fFr_of hB1) 254 (by decide +kernel) rfl j))) _)
              intro z33 hz33 ez33 bz33
              have bz33 := bz33 (by omega)
              refine And.intro ⟨rfl, by decide, by decide⟩ ?_
              refine fload1 rL_255_255_0_6_1_0 h0 hB25 ⟨by decide, by decide⟩ (by first | exact ⟨hb.2.2.2.2.1.1, Int.le_trans (Int.le_sub_one_of_lt (Int.lt_of_lt_of_le c6 uz4)) (by decide)⟩ | omega) ?_
              intro z34 lz34 uz34 qz34
              have w99 := qz34.trans ((fun j => (fup_other ehB25 255 j (Or.inl (by decide))).trans ((fup_other ehB20 255 j (Or.inl (by decide))).trans (fFr_at (fFr_of hB1) 255 (by decide +kernel) rfl j))) _)
              refine And.intro ⟨rfl, by decide, by decide⟩ (fgetf fb_735_2 h0 hB25 ?_)
              intro z35 lz35 uz35 qz35
              intro z36 hz36 ez36 bz36
              try replace bz36 := bz36 (by omega)
              refine And.intro (And.intro (by first | exact ⟨by decide, by decide⟩ | omega) (And.intro (by omega) hl)) ?_
              intro z37 hz37
              intro z38 hz38 ez38 bz38
              try replace bz38 := bz38 (by omega)
              have w110 := mul_bd (a := z34) (b := z37) (by omega) (by omega)
              have w111 := bz38 (by omega)
              refine And.intro ⟨rfl, by decide, by decide⟩ (fgetf fb_735_3 h0 hB25 ?_)
              intro z39 lz39 uz39 qz39
              refine And.intro (by first | exact fi_ lz39 uz39 rfl | omega) (And.intro ?_ ?_)
              · intro c40
                exact fcutJ (I := IhB25) (j := (jg_goOn_24 d kk x2 x3 x4 x5 I)) (lv' := [(0, .inr (.inr (some 735))), (1, .inr (.inr (some 211))), (2, .inl _), (3, .inl _), (4, .inl _), (5, .inl _), (6, .inl _)]) (And.intro rfl (And.intro rfl (And.intro rfl (And.intro rfl (And.intro rfl (And.intro rfl (And.intro rfl True.intro))))))) ⟨_, _, _, _, _, rfl, rfl, ⟨by omega, (fun p s hp hs => by first | exact nf_skR (go_no (hx0 p s hp hs) (fun q => by have q1 := q.1; omega)) (by omega) (by omega) | exact nf_skR (go_no (hx0 p s hp hs) (fun q => by have q2 := q.2; omega)) (by omega) (by omega) | exact nf_skR (go_spent (hx0 p s hp hs) (by omega) ⟨by omega, by omega⟩ (by omega) (by omega) ehB20 ehB25) (by omega) (by omega) | exact nf_skR (go_rec (hx0 p s hp hs) (by omega) ⟨by omega, by omega⟩ (g0nil0 (sUp p x2.toNat ((y6.toNat : Nat) : Int)) _ (path_up ehB20 ehB25 (fun i hi => (hx1 i hi).trans (hp i hi)) (by omega) rfl (by omega)) (go_in (hx0 p s hp hs) (by omega) ehB20 ehB25))) (by omega) (by omega)), (fun i hi => by first | exact (g1nil0 i (by omega)).trans ((fup_other ehB25 737 i (Or.inr (by omega))).trans ((fup_other ehB20 737 i (Or.inl (by decide))).trans (hx1 i hi))) | exact ((fup_other ehB25 737 i (Or.inr (by omega))).trans ((fup_other ehB20 737 i (Or.inl (by decide))).trans (hx1 i hi))) | exact hx1 i hi)⟩, rfl⟩ (by omega)
              · intro c41
                intro z42 hz42 ez42
                intro z43 hz43 ez43
                intro z44 hz44 ez44 bz44
                try replace bz44 := bz44 (by omega)
                refine Exists.intro gm0 (And.intro ge0 (And.intro ⟨rfl, gk0.1, gk0.2.1, gk0.2.2⟩ (And.intro rfl ?_)))
                refine fcall _ h0 (fzs_sub (by decide +kernel) hW) hB25 (gc0 (fBz h0 hB25) (by omega) (by omega) (by omega) (by omega) (by omega) (by omega)) ?_
                rintro IhB46 _ hB46 fhB46 ⟨rfl, hz45, g0z45, g1z45⟩
                have t47 := fhB46 211 15 (by decide +kernel)
                have k48 := fBz_eq hB46 (a := 211) (j := 15) (by decide +kernel)
                have k49 := fBz_eq hB46 (a := 735) (j := 2) (by decide +kernel)
                have w254 : IhB25 254 = I 254 := funext (fun j => (fup_other ehB25 254 j (Or.inl (by decide))).trans ((fup_other ehB20 254 j (Or.inl (by decide))).trans (fFr_at (fFr_of hB1) 254 (by decide +kernel) rfl j)))
                have w255 : IhB25 255 = I 255 := funext (fun j => (fup_other ehB25 255 j (Or.inl (by decide))).trans ((fup_other ehB20 255 j (Or.inl (by decide))).trans (fFr_at (fFr_of hB1) 255 (by decide +kernel) rfl j)))
                have w256 : IhB25 256 = I 256 := funext (fun j => (fup_other ehB25 256 j (Or.inl (by decide))).trans ((fup_other ehB20 256 j (Or.inl (by decide))).trans (fFr_at (fFr_of hB1) 256 (by decide +kernel) rfl j)))
                have wN : IhB25 211 15 = I 211 15 := fBz_eq hB25 (by decide +kernel)
                have wS : IhB25 735 2 = I 735 2 := fBz_eq hB25 (by decide +kernel)
                have wd := sDn_of hz43 (by omega) ez42 ez43
                have we : z33 = x4 + I 254 y6.toNat := by omega
                have ws : z44 = x5 + sMo (I 735 2) (x4 + I 254 y6.toNat) (I 255 y6.toNat) := by have q := mo_of (span := I 735 2) (e := x4 + I 254 y6.toNat) w111 (by omega); rw [w99] at q; omega
                rw [w254, w255, w256, wN, wS, wd, we, ws, show (x2 + ((1 : Nat) : Int)).toNat = x2.toNat + 1 by omega] at g0z45
                exact fcutJ (I := IhB46) (j := (jg_goOn_24 d kk x2 x3 x4 x5 I)) (lv' := [(0, .inr (.inr (some 735))), (1, .inr (.inr (some 211))), (2, .inl _), (3, .inl _), (4, .inl _), (5, .inl _), (6, .inl _)]) (And.intro rfl (And.intro rfl (And.intro rfl (And.intro rfl (And.intro rfl (And.intro rfl (And.intro rfl True.intro))))))) ⟨_, _, _, _, _, rfl, rfl, ⟨by omega, (fun p s hp hs => by first | exact nf_skR (go_no (hx0 p s hp hs) (fun q => by have q1 := q.1; omega)) (by omega) (by omega) | exact nf_skR (go_no (hx0 p s hp hs) (fun q => by have q2 := q.2; omega)) (by omega) (by omega) | exact nf_skR (go_spent (hx0 p s hp hs) (by omega) ⟨by omega, by omega⟩ (by omega) (by omega) ehB20 ehB25) (by omega) (by omega) | exact nf_skR (go_rec (hx0 p s hp hs) (by omega) ⟨by omega, by omega⟩ (g0z45 (sUp p x2.toNat ((y6.toNat : Nat) : Int)) _ (path_up ehB20 ehB25 (fun i hi => (hx1 i hi).trans (hp i hi)) (by omega) rfl (by omega)) (go_in (hx0 p s hp hs) (by omega) ehB20 ehB25))) (by omega) (by omega)), (fun i hi => by first | exact (g1z45 i (by omega)).trans ((fup_other ehB25 737 i (Or.inr (by omega))).trans ((fup_other ehB20 737 i (Or.inl (by decide))).trans (hx1 i hi))) | exact ((fup_other ehB25 737 i (Or.inr (by omega))).trans ((fup_other ehB20 737 i (Or.inl (by decide))).trans (hx1 i hi))) | exact hx1 i hi)⟩, rfl⟩ (by omega)
  · have hB0 := fB_self (zn := znJ) (K := fKc wz_7628e) h0
    have b50 := fBd fb_211_15 (fBz h0 hB0)
    refine And.intro ⟨rfl, by decide, by decide⟩ (fgetf fb_211_15 h0 hB0 ?_)
    intro z51 lz51 uz51 qz51
    refine And.intro (And.intro (by first | exact fi_ ha2.1 ha2.2 rfl | omega) (by first | exact fi_ lz51 uz51 rfl | omega)) (And.intro ?_ ?_)
    · intro c52
      refine Exists.intro xm_215 (And.intro mi_215 (And.intro ⟨rfl, rfl, rfl, rfl⟩ (And.intro rfl ?_)))
      refine fcall _ h0 (fzs_sub (by decide +kernel) hW) hB0 (ct_Order_take_e8cff (fBz h0 hB0) (by first | exact ⟨ha5.1, ha5.2⟩ | omega)) ?_
      rintro IhB54 _ hB54 fhB54 ⟨rfl, hz53, g0z53⟩
      have t55 := fhB54 211 15 (by decide +kernel)
      have k56 := fBz_eq hB54 (a := 211) (j := 15) (by decide +kernel)
      have k57 := fBz_eq hB54 (a := 735) (j := 2) (by decide +kernel)
      exact ⟨rfl, True.intro, (fun p s hp hs => by rw [sk_tk (by omega)]; exact g0z53 p s (fun i hi => hp i (by omega)) hs), (fun i _ => fFr_at fhB54 737 (by decide +kernel) rfl i)⟩
    · intro c58
      refine And.intro (And.intro (by first | exact fi_ ha2.1 ha2.2 rfl | omega) (by first | exact ⟨by decide, by decide⟩ | omega)) (And.intro ?_ ?_)
      · intro c59
        exact fcutJ (I := I) (j := (jg_goOn_24 d kk x2 x3 x4 x5 I)) (lv' := [(0, .inr (.inr (some 735))), (1, .inr (.inr (some 211))), (2, .inl _), (3, .inl _), (4, .inl _), (5, .inl _), (6, .inl _)]) (And.intro rfl (And.intro rfl (And.intro rfl (And.intro rfl (And.intro rfl (And.intro rfl (And.intro rfl True.intro))))))) ⟨_, _, _, _, _, rfl, rfl, ⟨by omega, (fun p s hp hs => hs), (fun i _ => rfl)⟩, rfl⟩ (by omega)
      · intro c60
        refine Exists.intro xm_215 (And.intro mi_215 (And.intro ⟨rfl, rfl, rfl, rfl⟩ (And.intro rfl ?_)))
        refine fcall _ h0 (fzs_sub (by decide +kernel) hW) hB0 (ct_Order_take_e8cff (fBz h0 hB0) (by first | exact ⟨ha5.1, ha5.2⟩ | omega)) ?_
        rintro IhB62 _ hB62 fhB62 ⟨rfl, hz61, g0z61⟩
        have t63 := fhB62 211 15 (by decide +kernel)
        have k64 := fBz_eq hB62 (a := 211) (j := 15) (by decide +kernel)
        have k65 := fBz_eq hB62 (a := 735) (j := 2) (by decide +kernel)
        exact ⟨rfl, True.intro, (fun p s hp hs => by rw [sk_tk (by omega)]; exact g0z61 p s (fun i hi => hp i (by omega)) hs), (fun i _ => fFr_at fhB62 737 (by decide +kernel) rfl i)⟩
theorem ct_Order_goOn_341c6 {I : fH} {x2 : Int} {x3 : Int} {x4 : Int} {x5 : Int} (h0 : fB bsJ I) (ha2 : (5 ≤ x2 ∧ x2 ≤ 5)) (ha3 : ((-2147483648) ≤ x3 ∧ x3 ≤ 2147483647)) (ha4 : (0 ≤ x4 ∧ x4 ≤ 45)) (ha5 : ((-2147483648) ≤ x5 ∧ x5 ≤ 2147483647)) (hp0 : 0 ≤ x5 ∧ x5 ≤ 5940 * x2) (hp1 : 0 ≤ I 735 2 ∧ I 735 2 ≤ 60) : fC ρ base n F xTc vwCl xTys D dA la gJ (fbz bsJ znJ (fKc wz_7628e) I) xm_209 [.inr (.inr (some 735)), .inr (.inr (some 211)), .inl x2, .inl x3, .inl x4, .inl x5] I (fun I' r => r = none ∧ True ∧ (∀ (p : Nat → Int) (s : sSt), (∀ i : Nat, (i : Int) < x2 → I 737 i = p i) → skR (I 211 15).toNat s I → skR (I 211 15).toNat (sSk (I 211 15).toNat (I 254) (I 255) (I 256) (I 735 2) 2 x2.toNat x3 x4 x5 p s) I') ∧ (∀ i : Nat, (i : Int) < x2 → I' 737 i = I 737 i)) := cg_goOn (d := 5) (kk := 1) rfl (by decide) (by decide) mi_208 ⟨rfl, rfl, rfl⟩ (fun h0 ha2 ha3 ha4 ha5 hp0 hp1 => ct_Order_goOn_0ff97 h0 (by omega) ha3 (by omega) ha5 (by omega) hp1) xin_209 x6_209 h0 ha2 ha3 (by omega) ha5 hp0 hp1
theorem ct_Order_goOn_2e9e0 {I : fH} {x2 : Int} {x3 : Int} {x4 : Int} {x5 : Int} (h0 : fB bsJ I) (ha2 : (4 ≤ x2 ∧ x2 ≤ 4)) (ha3 : ((-2147483648) ≤ x3 ∧ x3 ≤ 2147483647)) (ha4 : (0 ≤ x4 ∧ x4 ≤ 36)) (ha5 : ((-2147483648) ≤ x5 ∧ x5 ≤ 2147483647)) (hp0 : 0 ≤ x5 ∧ x5 ≤ 5940 * x2) (hp1 : 0 ≤ I 735 2 ∧ I 735 2 ≤ 60) : fC ρ base n F xTc vwCl xTys D dA la gJ (fbz bsJ znJ (fKc wz_7628e) I) xm_210 [.inr (.inr (some 735)), .inr (.inr (some 211)), .inl x2, .inl x3, .inl x4, .inl x5] I (fun I' r => r = none ∧ True ∧ (∀ (p : Nat → Int) (s : sSt), (∀ i : Nat, (i : Int) < x2 → I 737 i = p i) → skR (I 211 15).toNat s I → skR (I 211 15).toNat (sSk (I 211 15).toNat (I 254) (I 255) (I 256) (I 735 2) 3 x2.toNat x3 x4 x5 p s) I') ∧ (∀ i : Nat, (i : Int) < x2 → I' 737 i = I 737 i)) := cg_goOn (d := 4) (kk := 2) rfl (by decide) (by decide) mi_209 ⟨rfl, rfl, rfl⟩ (fun h0 ha2 ha3 ha4 ha5 hp0 hp1 => ct_Order_goOn_341c6 h0 (by omega) ha3 (by omega) ha5 (by omega) hp1) xin_210 x6_210 h0 ha2 ha3 (by omega) ha5 hp0 hp1
theorem ct_Order_goOn_6df0d {I : fH} {x2 : Int} {x3 : Int} {x4 : Int} {x5 : Int} (h0 : fB bsJ I) (ha2 : (3 ≤ x2 ∧ x2 ≤ 3)) (ha3 : ((-2147483648) ≤ x3 ∧ x3 ≤ 2147483647)) (ha4 : (0 ≤ x4 ∧ x4 ≤ 27)) (ha5 : ((-2147483648) ≤ x5 ∧ x5 ≤ 2147483647)) (hp0 : 0 ≤ x5 ∧ x5 ≤ 5940 * x2) (hp1 : 0 ≤ I 735 2 ∧ I 735 2 ≤ 60) : fC ρ base n F xTc vwCl xTys D dA la gJ (fbz bsJ znJ (fKc wz_7628e) I) xm_211 [.inr (.inr (some 735)), .inr (.inr (some 211)), .inl x2, .inl x3, .inl x4, .inl x5] I (fun I' r => r = none ∧ True ∧ (∀ (p : Nat → Int) (s : sSt), (∀ i : Nat, (i : Int) < x2 → I 737 i = p i) → skR (I 211 15).toNat s I → skR (I 211 15).toNat (sSk (I 211 15).toNat (I 254) (I 255) (I 256) (I 735 2) 4 x2.toNat x3 x4 x5 p s) I') ∧ (∀ i : Nat, (i : Int) < x2 → I' 737 i = I 737 i)) := cg_goOn (d := 3) (kk := 3) rfl (by decide) (by decide) mi_210 ⟨rfl, rfl, rfl⟩ (fun h0 ha2 ha3 ha4 ha5 hp0 hp1 => ct_Order_goOn_2e9e0 h0 (by omega) ha3 (by omega) ha5 (by omega) hp1) xin_211 x6_211 h0 ha2 ha3 (by omega) ha5 hp0 hp1
theorem ct_Order_goOn_0f9c9 {I : fH} {x2 : Int} {x3 : Int} {x4 : Int} {x5 : Int} (h0 : fB bsJ I) (ha2 : (2 ≤ x2 ∧ x2 ≤ 2)) (ha3 : ((-2147483648) ≤ x3 ∧ x3 ≤ 2147483647)) (ha4 : (0 ≤ x4 ∧ x4 ≤ 18)) (ha5 : ((-2147483648) ≤ x5 ∧ x5 ≤ 2147483647)) (hp0 : 0 ≤ x5 ∧ x5 ≤ 5940 * x2) (hp1 : 0 ≤ I 735 2 ∧ I 735 2 ≤ 60) : fC ρ base n F xTc vwCl xTys D dA la gJ (fbz bsJ znJ (fKc wz_7628e) I) xm_212 [.inr (.inr (some 735)), .inr (.inr (some 211)), .inl x2, .inl x3, .inl x4, .inl x5] I (fun I' r => r = none ∧ True ∧ (∀ (p : Nat → Int) (s : sSt), (∀ i : Nat, (i : Int) < x2 → I 737 i = p i) → skR (I 211 15).toNat s I → skR (I 211 15).toNat (sSk (I 211 15).toNat (I 254) (I 255) (I 256) (I 735 2) 5 x2.toNat x3 x4 x5 p s) I') ∧ (∀ i : Nat, (i : Int) < x2 → I' 737 i = I 737 i)) := cg_goOn (d := 2) (kk := 4) rfl (by decide) (by decide) mi_211 ⟨rfl, rfl, rfl⟩ (fun h0 ha2 ha3 ha4 ha5 hp0 hp1 => ct_Order_goOn_6df0d h0 (by omega) ha3 (by omega) ha5 (by omega) hp1) xin_212 x6_212 h0 ha2 ha3 (by omega) ha5 hp0 hp1
theorem ct_Order_goOn_e7135 {I : fH} {x2 : Int} {x3 : Int} {x4 : Int} {x5 : Int} (h0 : fB bsJ I) (ha2 : (1 ≤ x2 ∧ x2 ≤ 1)) (ha3 : ((-2147483648) ≤ x3 ∧ x3 ≤ 2147483647)) (ha4 : (0 ≤ x4 ∧ x4 ≤ 9)) (ha5 : ((-2147483648) ≤ x5 ∧ x5 ≤ 2147483647)) (hp0 : 0 ≤ x5 ∧ x5 ≤ 5940 * x2) (hp1 : 0 ≤ I 735 2 ∧ I 735 2 ≤ 60) : fC ρ base n F xTc vwCl xTys D dA la gJ (fbz bsJ znJ (fKc wz_7628e) I) xm_213 [.inr (.inr (some 735)), .inr (.inr (some 211)), .inl x2, .inl x3, .inl x4, .inl x5] I (fun I' r => r = none ∧ True ∧ (∀ (p : Nat → Int) (s : sSt), (∀ i : Nat, (i : Int) < x2 → I 737 i = p i) → skR (I 211 15).toNat s I → skR (I 211 15).toNat (sSk (I 211 15).toNat (I 254) (I 255) (I 256) (I 735 2) 6 x2.toNat x3 x4 x5 p s) I') ∧ (∀ i : Nat, (i : Int) < x2 → I' 737 i = I 737 i)) := cg_goOn (d := 1) (kk := 5) rfl (by decide) (by decide) mi_212 ⟨rfl, rfl, rfl⟩ (fun h0 ha2 ha3 ha4 ha5 hp0 hp1 => ct_Order_goOn_0f9c9 h0 (by omega) ha3 (by omega) ha5 (by omega) hp1) xin_213 x6_213 h0 ha2 ha3 (by omega) ha5 hp0 hp1
abbrev jc_Order_goOn_1b23c_24 (x2 : Int) (x3 : Int) (x4 : Int) (x5 : Int) (I0 : fH) : Nat → fL → List fV → fH → Prop := fun m lv st I => ∃ (y2 : Int) (y3 : Int) (y4 : Int) (y5 : Int) (y6 : Int), lv = [(0, .inr (.inr (some 735))), (1, .inr (.inr (some 211))), (2, .inl y2), (3, .inl y3), (4, .inl y4), (5, .inl y5), (6, .inl y6)] ∧ st = [] ∧ (((0 ≤ y2 ∧ y2 ≤ 0) ∧ (0 ≤ y3 ∧ y3 ≤ 0) ∧ (0 ≤ y4 ∧ y4 ≤ 0) ∧ (0 ≤ y5 ∧ y5 ≤ 0) ∧ (0 ≤ y6 ∧ y6 ≤ 7) ∧ (1 ≤ I 211 15 ∧ I 211 15 ≤ 7) ∧ (y2 = x2) ∧ (y3 = x3) ∧ (y4 = x4) ∧ (y5 = x5) ∧ (x2 < I0 211 15) ∧ (y6 ≤ I0 211 15)) ∧ (∀ (p : Nat → Int) (s : sSt), (∀ i : Nat, (i : Int) < x2 → I0 737 i = p i) → skR (I0 211 15).toNat s I0 → skR (I0 211 15).toNat (nf (sGo (I0 254) (I0 255) (I0 256) (I0 735 2) (sSk (I0 211 15).toNat (I0 254) (I0 255) (I0 256) (I0 735 2) 6) x2.toNat x3 x4 x5 p) s y6.toNat) I) ∧ (∀ i : Nat, (i : Int) < x2 → I 737 i = I0 737 i)) ∧ m = (1 + 1 * (7 - y6) : Int).toNat
set_option maxRecDepth 8000 in
theorem ct_Order_goOn_1b23c {I : fH} {x2 : Int} {x3 : Int} {x4 : Int} {x5 : Int} (h0 : fB bsJ I) (ha2 : (0 ≤ x2 ∧ x2 ≤ 0)) (ha3 : (0 ≤ x3 ∧ x3 ≤ 0)) (ha4 : (0 ≤ x4 ∧ x4 ≤ 0)) (ha5 : (0 ≤ x5 ∧ x5 ≤ 0)) (hp0 : 0 ≤ x5 ∧ x5 ≤ 5940 * x2) (hp1 : 0 ≤ I 735 2 ∧ I 735 2 ≤ 60) : fC ρ base n F xTc vwCl xTys D dA la gJ (fbz bsJ znJ (fKc wz_7628e) I) xm_214 [.inr (.inr (some 735)), .inr (.inr (some 211)), .inl x2, .inl x3, .inl x4, .inl x5] I (fun I' r => r = none ∧ True ∧ (∀ (p : Nat → Int) (s : sSt), (∀ i : Nat, (i : Int) < x2 → I 737 i = p i) → skR (I 211 15).toNat s I → skR (I 211 15).toNat (sSk (I 211 15).toNat (I 254) (I 255) (I 256) (I 735 2) 7 x2.toNat x3 x4 x5 p s) I') ∧ (∀ i : Nat, (i : Int) < x2 → I' 737 i = I 737 i)) := by
  have hW : fzs wz_7628e (fKc wz_7628e) := fKc_ok _
  refine f_meth (rb := rbJ) (J := [(24, (jc_Order_goOn_1b23c_24 x2 x3 x4 x5 I))]) 9 400 xG xin_214 x6_214 okJ (fB_self h0) ?_ ?_
  · refine List.forall_mem_cons.mpr ⟨?_, fun q h => absurd h List.not_mem_nil⟩
    · rintro m _ _ I1 hB1 ⟨y2, y3, y4, y5, y6, rfl, rfl, ⟨hb, hx0, hx1⟩, hm⟩
      have k1 := fBz_eq hB1 (a := 211) (j := 15) (by decide +kernel)
      have k2 := fBz_eq hB1 (a := 735) (j := 2) (by decide +kernel)
      have b3 := fBd fb_211_15 (fBz h0 hB1)
      have ey2 : x2 = y2 := by omega
      subst ey2
      have ey3 : x3 = y3 := by omega
      subst ey3
      have ey4 : x4 = y4 := by omega
      subst ey4
      have ey5 : x5 = y5 := by omega
      subst ey5
      refine And.intro ⟨rfl, by decide, by decide⟩ (fgetf fb_211_15 h0 hB1 ?_)
      intro z4 lz4 uz4 qz4
      refine And.intro (And.intro (by first | exact fi_ hb.2.2.2.2.1.1 hb.2.2.2.2.1.2 rfl | omega) (by first | exact fi_ lz4 uz4 rfl | omega)) (And.intro ?_ ?_)
      · intro c5
        exact ⟨rfl, True.intro, (fun p s hp hs => by rw [sk_go (by omega)]; exact sk_end (hx0 p s hp hs) (by omega) (by omega)), hx1⟩
      · intro c6
        refine And.intro ⟨rfl, by decide, by decide⟩ (fgetf fb_735_3 h0 hB1 ?_)
        intro z7 lz7 uz7 qz7
        refine And.intro (by first | exact fi_ lz7 uz7 rfl | omega) (And.intro ?_ ?_)
        · intro c8
          exact ⟨rfl, True.intro, (fun p s hp hs => by rw [sk_go (by omega)]; exact sk_end (hx0 p s hp hs) (by omega) (by omega)), hx1⟩
        · intro c9
          intro z10 hz10 ez10
          intro z11 hz11 ez11 bz11
          have bz11 := bz11 (by omega)
          have wb := bt_of hz11 ez10 ez11 (by omega)
          refine And.intro (by first | exact fi_ bz11.1 bz11.2 rfl | omega) (And.intro ?_ ?_)
          · intro c12
            exact fcutJ (I := I1) (j := (jc_Order_goOn_1b23c_24 x2 x3 x4 x5 I)) (lv' := [(0, .inr (.inr (some 735))), (1, .inr (.inr (some 211))), (2, .inl _), (3, .inl _), (4, .inl _), (5, .inl _), (6, .inl _)]) (And.intro rfl (And.intro rfl (And.intro rfl (And.intro rfl (And.intro rfl (And.intro rfl (And.intro rfl True.intro))))))) ⟨_, _, _, _, _, rfl, rfl, ⟨by omega, (fun p s hp hs => by first | exact nf_skR (go_no (hx0 p s hp hs) (fun q => by have q1 := q.1; omega)) (by omega) (by omega) | exact nf_skR (go_no (hx0 p s hp hs) (fun q => by have q2 := q.2; omega)) (by omega) (by omega) | exact nf_skR (go_spent (hx0 p s hp hs) (by omega) ⟨by omega, by omega⟩ (by omega) (by omega) enil0 enil0) (by omega) (by omega) | exact nf_skR (go_rec (hx0 p s hp hs) (by omega) ⟨by omega, by omega⟩ (g0nil0 (sUp p x2.toNat ((y6.toNat : Nat) : Int)) _ (path_up enil0 enil0 (fun i hi => (hx1 i hi).trans (hp i hi)) (by omega) rfl (by omega)) (go_in (hx0 p s hp hs) (by omega) enil0 enil0))) (by omega) (by omega)), (fun i hi => by first | exact (g1nil0 i (by omega)).trans ((fup_other enil0 737 i (Or.inr (by omega))).trans ((fup_other enil0 737 i (Or.inl (by decide))).trans (hx1 i hi))) | exact ((fup_other enil0 737 i (Or.inr (by omega))).trans ((fup_other enil0 737 i (Or.inl (by decide))).trans (hx1 i hi))) | exact hx1 i hi)⟩, rfl⟩ (by omega)
          · intro c13
            refine And.intro ⟨rfl, by decide, by decide⟩ ?_
            refine fload1 rL_256_256_0_6_1_0 h0 hB1 ⟨by decide, by decide⟩ (by first | exact ⟨hb.2.2.2.2.1.1, Int.le_trans (Int.le_sub_one_of_lt (Int.lt_of_lt_of_le c6 uz4)) (by decide)⟩ | omega) ?_
            intro z14 lz14 uz14 qz14
            intro z15 hz15 ez15
            intro z16 hz16 ez16 bz16
            clear bz16
            have wa := sAh_of hz16 ez15 ez16
            rw [qz14, fFr_at (fFr_of hB1) 256 (by decide +kernel) rfl] at wa
            refine And.intro (by omega) (And.intro ?_ ?_)
            · intro c17
              exact fcutJ (I := I1) (j := (jc_Order_goOn_1b23c_24 x2 x3 x4 x5 I)) (lv' := [(0, .inr (.inr (some 735))), (1, .inr (.inr (some 211))), (2, .inl _), (3, .inl _), (4, .inl _), (5, .inl _), (6, .inl _)]) (And.intro rfl (And.intro rfl (And.intro rfl (And.intro rfl (And.intro rfl (And.intro rfl (And.intro rfl True.intro))))))) ⟨_, _, _, _, _, rfl, rfl, ⟨by omega, (fun p s hp hs => by first | exact nf_skR (go_no (hx0 p s hp hs) (fun q => by have q1 := q.1; omega)) (by omega) (by omega) | exact nf_skR (go_no (hx0 p s hp hs) (fun q => by have q2 := q.2; omega)) (by omega) (by omega) | exact nf_skR (go_spent (hx0 p s hp hs) (by omega) ⟨by omega, by omega⟩ (by omega) (by omega) enil0 enil0) (by omega) (by omega) | exact nf_skR (go_rec (hx0 p s hp hs) (by omega) ⟨by omega, by omega⟩ (g0nil0 (sUp p x2.toNat ((y6.toNat : Nat) : Int)) _ (path_up enil0 enil0 (fun i hi => (hx1 i hi).trans (hp i hi)) (by omega) rfl (by omega)) (go_in (hx0 p s hp hs) (by omega) enil0 enil0))) (by omega) (by omega)), (fun i hi => by first | exact (g1nil0 i (by omega)).trans ((fup_other enil0 737 i (Or.inr (by omega))).trans ((fup_other enil0 737 i (Or.inl (by decide))).trans (hx1 i hi))) | exact ((fup_other enil0 737 i (Or.inr (by omega))).trans ((fup_other enil0 737 i (Or.inl (by decide))).trans (hx1 i hi))) | exact hx1 i hi)⟩, rfl⟩ (by omega)
            · intro c18
              refine And.intro ⟨rfl, by decide, by decide⟩ (fgetf fb_735_3 h0 hB1 ?_)
              intro z19 lz19 uz19 qz19
              refine And.intro ⟨rfl, by decide, by decide⟩ (And.intro rfl (And.intro (Or.inl rfl) (fputf fb_735_3 (by decide +kernel) hW (by omega) ?_)))
              intro IhB20 ehB20 hB20
              have t21 : IhB20 211 15 = I1 211 15 := (congrFun (congrFun ehB20 211) 15).trans (fup_ne (by first | decide | omega))
              have t22 := fup_at ehB20 3 (by first | rfl | omega)
              have k23 := fBz_eq hB20 (a := 211) (j := 15) (by decide +kernel)
              have k24 := fBz_eq hB20 (a := 735) (j := 2) (by decide +kernel)
              refine And.intro ⟨rfl, by decide, by decide⟩ ?_
              refine fstore1 rS_737_737_0_6_1_0 (fzs_sub (by decide +kernel) hW) ⟨by decide, by decide⟩ (by first | exact ⟨hb.1.1, Int.le_trans hb.1.2 (by decide)⟩ | omega) (by first | exact ⟨hb.2.2.2.2.1.1, Int.le_trans (Int.le_sub_one_of_lt (Int.lt_of_lt_of_le c6 uz4)) (by decide)⟩ | omega) ?_
              intro IhB25 ehB25 hB25
              have t26 := fup_self ehB25
              have t27 : IhB25 211 15 = IhB20 211 15 := (congrFun (congrFun ehB25 211) 15).trans (fup_ne (by first | decide | omega))
              have t28 : IhB25 735 3 = IhB20 735 3 := (congrFun (congrFun ehB25 735) 3).trans (fup_ne (by first | decide | omega))
              have t29 := fup_at ehB25 0 (by first | rfl | omega)
              have k30 := fBz_eq hB25 (a := 211) (j := 15) (by decide +kernel)
              have k31 := fBz_eq hB25 (a := 735) (j := 2) (by decide +kernel)
              refine And.intro ⟨rfl, by decide, by decide⟩ ?_
              refine fload1 rL_254_254_0_6_1_0 h0 hB25 ⟨by decide, by decide⟩ (by first | exact ⟨hb.2.2.2.2.1.1, Int.le_trans (Int.le_sub_one_of_lt (Int.lt_of_lt_of_le c6 uz4)) (by decide)⟩ | omega) ?_
              intro z32 lz32 uz32 qz32
              have w89 := qz32.trans ((fun j => (fup_other ehB25 254 j (Or.inl (by decide))).trans ((fup_other ehB20 254 j (Or.inl (by decide))).trans (fFr_at (fFr_of hB1) 254 (by decide +kernel) rfl j))) _)
              intro z33 hz33 ez33 bz33
              have bz33 := bz33 (by omega)
              refine And.intro ⟨rfl, by decide, by decide⟩ ?_
              refine fload1 rL_255_255_0_6_1_0 h0 hB25 ⟨by decide, by decide⟩ (by first | exact ⟨hb.2.2.2.2.1.1, Int.le_trans (Int.le_sub_one_of_lt (Int.lt_of_lt_of_le c6 uz4)) (by decide)⟩ | omega) ?_
              intro z34 lz34 uz34 qz34
              have w99 := qz34.trans ((fun j => (fup_other ehB25 255 j (Or.inl (by decide))).trans ((fup_other ehB20 255 j (Or.inl (by decide))).trans (fFr_at (fFr_of hB1) 255 (by decide +kernel) rfl j))) _)
              refine And.intro ⟨rfl, by decide, by decide⟩ (fgetf fb_735_2 h0 hB25 ?_)
              intro z35 lz35 uz35 qz35
              intro z36 hz36 ez36 bz36
              try replace bz36 := bz36 (by omega)
              refine And.intro (And.intro (by first | exact ⟨by decide, by decide⟩ | omega) (And.intro (by omega) rfl)) ?_
              intro z37 hz37
              intro z38 hz38 ez38 bz38
              try replace bz38 := bz38 (by omega)
              have w110 := mul_bd (a := z34) (b := z37) (by omega) (by omega)
              have w111 := bz38 (by omega)
              refine And.intro ⟨rfl, by decide, by decide⟩ (fgetf fb_735_3 h0 hB25 ?_)
              intro z39 lz39 uz39 qz39
              refine And.intro (by first | exact fi_ lz39 uz39 rfl | omega) (And.intro ?_ ?_)
              · intro c40
                exact fcutJ (I := IhB25) (j := (jc_Order_goOn_1b23c_24 x2 x3 x4 x5 I)) (lv' := [(0, .inr (.inr (some 735))), (1, .inr (.inr (some 211))), (2, .inl _), (3, .inl _), (4, .inl _), (5, .inl _), (6, .inl _)]) (And.intro rfl (And.intro rfl (And.intro rfl (And.intro rfl (And.intro rfl (And.intro rfl (And.intro rfl True.intro))))))) ⟨_, _, _, _, _, rfl, rfl, ⟨by omega, (fun p s hp hs => by first | exact nf_skR (go_no (hx0 p s hp hs) (fun q => by have q1 := q.1; omega)) (by omega) (by omega) | exact nf_skR (go_no (hx0 p s hp hs) (fun q => by have q2 := q.2; omega)) (by omega) (by omega) | exact nf_skR (go_spent (hx0 p s hp hs) (by omega) ⟨by omega, by omega⟩ (by omega) (by omega) ehB20 ehB25) (by omega) (by omega) | exact nf_skR (go_rec (hx0 p s hp hs) (by omega) ⟨by omega, by omega⟩ (g0nil0 (sUp p x2.toNat ((y6.toNat : Nat) : Int)) _ (path_up ehB20 ehB25 (fun i hi => (hx1 i hi).trans (hp i hi)) (by omega) rfl (by omega)) (go_in (hx0 p s hp hs) (by omega) ehB20 ehB25))) (by omega) (by omega)), (fun i hi => by first | exact (g1nil0 i (by omega)).trans ((fup_other ehB25 737 i (Or.inr (by omega))).trans ((fup_other ehB20 737 i (Or.inl (by decide))).trans (hx1 i hi))) | exact ((fup_other ehB25 737 i (Or.inr (by omega))).trans ((fup_other ehB20 737 i (Or.inl (by decide))).trans (hx1 i hi))) | exact hx1 i hi)⟩, rfl⟩ (by omega)
              · intro c41
                intro z42 hz42 ez42
                intro z43 hz43 ez43
                intro z44 hz44 ez44 bz44
                try replace bz44 := bz44 (by omega)
                refine Exists.intro xm_213 (And.intro mi_213 (And.intro ⟨rfl, rfl, rfl, rfl⟩ (And.intro rfl ?_)))
                refine fcall _ h0 (fzs_sub (by decide +kernel) hW) hB25 (ct_Order_goOn_e7135 (fBz h0 hB25) (by omega) (by omega) (by omega) (by omega) (by omega) (by omega)) ?_
                rintro IhB46 _ hB46 fhB46 ⟨rfl, hz45, g0z45, g1z45⟩
                have t47 := fhB46 211 15 (by decide +kernel)
                have k48 := fBz_eq hB46 (a := 211) (j := 15) (by decide +kernel)
                have k49 := fBz_eq hB46 (a := 735) (j := 2) (by decide +kernel)
                have w254 : IhB25 254 = I 254 := funext (fun j => (fup_other ehB25 254 j (Or.inl (by decide))).trans ((fup_other ehB20 254 j (Or.inl (by decide))).trans (fFr_at (fFr_of hB1) 254 (by decide +kernel) rfl j)))
                have w255 : IhB25 255 = I 255 := funext (fun j => (fup_other ehB25 255 j (Or.inl (by decide))).trans ((fup_other ehB20 255 j (Or.inl (by decide))).trans (fFr_at (fFr_of hB1) 255 (by decide +kernel) rfl j)))
                have w256 : IhB25 256 = I 256 := funext (fun j => (fup_other ehB25 256 j (Or.inl (by decide))).trans ((fup_other ehB20 256 j (Or.inl (by decide))).trans (fFr_at (fFr_of hB1) 256 (by decide +kernel) rfl j)))
                have wN : IhB25 211 15 = I 211 15 := fBz_eq hB25 (by decide +kernel)
                have wS : IhB25 735 2 = I 735 2 := fBz_eq hB25 (by decide +kernel)
                have wd := sDn_of hz43 (by omega) ez42 ez43
                have we : z33 = x4 + I 254 y6.toNat := by omega
                have ws : z44 = x5 + sMo (I 735 2) (x4 + I 254 y6.toNat) (I 255 y6.toNat) := by have q := mo_of (span := I 735 2) (e := x4 + I 254 y6.toNat) w111 (by omega); rw [w99] at q; omega
                rw [w254, w255, w256, wN, wS, wd, we, ws, show (x2 + ((1 : Nat) : Int)).toNat = x2.toNat + 1 by omega] at g0z45
                exact fcutJ (I := IhB46) (j := (jc_Order_goOn_1b23c_24 x2 x3 x4 x5 I)) (lv' := [(0, .inr (.inr (some 735))), (1, .inr (.inr (some 211))), (2, .inl _), (3, .inl _), (4, .inl _), (5, .inl _), (6, .inl _)]) (And.intro rfl (And.intro rfl (And.intro rfl (And.intro rfl (And.intro rfl (And.intro rfl (And.intro rfl True.intro))))))) ⟨_, _, _, _, _, rfl, rfl, ⟨by omega, (fun p s hp hs => by first | exact nf_skR (go_no (hx0 p s hp hs) (fun q => by have q1 := q.1; omega)) (by omega) (by omega) | exact nf_skR (go_no (hx0 p s hp hs) (fun q => by have q2 := q.2; omega)) (by omega) (by omega) | exact nf_skR (go_spent (hx0 p s hp hs) (by omega) ⟨by omega, by omega⟩ (by omega) (by omega) ehB20 ehB25) (by omega) (by omega) | exact nf_skR (go_rec (hx0 p s hp hs) (by omega) ⟨by omega, by omega⟩ (g0z45 (sUp p x2.toNat ((y6.toNat : Nat) : Int)) _ (path_up ehB20 ehB25 (fun i hi => (hx1 i hi).trans (hp i hi)) (by omega) rfl (by omega)) (go_in (hx0 p s hp hs) (by omega) ehB20 ehB25))) (by omega) (by omega)), (fun i hi => by first | exact (g1z45 i (by omega)).trans ((fup_other ehB25 737 i (Or.inr (by omega))).trans ((fup_other ehB20 737 i (Or.inl (by decide))).trans (hx1 i hi))) | exact ((fup_other ehB25 737 i (Or.inr (by omega))).trans ((fup_other ehB20 737 i (Or.inl (by decide))).trans (hx1 i hi))) | exact hx1 i hi)⟩, rfl⟩ (by omega)
  · have hB0 := fB_self (zn := znJ) (K := fKc wz_7628e) h0
    have b50 := fBd fb_211_15 (fBz h0 hB0)
    refine And.intro ⟨rfl, by decide, by decide⟩ (fgetf fb_211_15 h0 hB0 ?_)
    intro z51 lz51 uz51 qz51
    refine And.intro (And.intro (by first | exact fi_ ha2.1 ha2.2 rfl | omega) (by first | exact fi_ lz51 uz51 rfl | omega)) (And.intro ?_ ?_)
    · intro c52
      refine Exists.intro xm_215 (And.intro mi_215 (And.intro ⟨rfl, rfl, rfl, rfl⟩ (And.intro rfl ?_)))
      refine fcall _ h0 (fzs_sub (by decide +kernel) hW) hB0 (ct_Order_take_e8cff (fBz h0 hB0) (by first | exact ⟨Int.le_trans (by decide) ha5.1, Int.le_trans ha5.2 (by decide)⟩ | omega)) ?_
      rintro IhB54 _ hB54 fhB54 ⟨rfl, hz53, g0z53⟩
      have t55 := fhB54 211 15 (by decide +kernel)
      have k56 := fBz_eq hB54 (a := 211) (j := 15) (by decide +kernel)
      have k57 := fBz_eq hB54 (a := 735) (j := 2) (by decide +kernel)
      exact ⟨rfl, True.intro, (fun p s hp hs => by rw [sk_tk (by omega)]; exact g0z53 p s (fun i hi => hp i (by omega)) hs), (fun i _ => fFr_at fhB54 737 (by decide +kernel) rfl i)⟩
    · intro c58
      refine And.intro (And.intro (by first | exact fi_ ha2.1 ha2.2 rfl | omega) (by first | exact ⟨by decide, by decide⟩ | omega)) (And.intro ?_ ?_)
      · intro c59
        exact fcutJ (I := I) (j := (jc_Order_goOn_1b23c_24 x2 x3 x4 x5 I)) (lv' := [(0, .inr (.inr (some 735))), (1, .inr (.inr (some 211))), (2, .inl _), (3, .inl _), (4, .inl _), (5, .inl _), (6, .inl _)]) (And.intro rfl (And.intro rfl (And.intro rfl (And.intro rfl (And.intro rfl (And.intro rfl (And.intro rfl True.intro))))))) ⟨_, _, _, _, _, rfl, rfl, ⟨by omega, (fun p s hp hs => hs), (fun i _ => rfl)⟩, rfl⟩ (by omega)
      · intro c60
        refine Exists.intro xm_215 (And.intro mi_215 (And.intro ⟨rfl, rfl, rfl, rfl⟩ (And.intro rfl ?_)))
        refine fcall _ h0 (fzs_sub (by decide +kernel) hW) hB0 (ct_Order_take_e8cff (fBz h0 hB0) (by first | exact ⟨Int.le_trans (by decide) ha5.1, Int.le_trans ha5.2 (by decide)⟩ | omega)) ?_
        rintro IhB62 _ hB62 fhB62 ⟨rfl, hz61, g0z61⟩
        have t63 := fhB62 211 15 (by decide +kernel)
        have k64 := fBz_eq hB62 (a := 211) (j := 15) (by decide +kernel)
        have k65 := fBz_eq hB62 (a := 735) (j := 2) (by decide +kernel)
        exact ⟨rfl, True.intro, (fun p s hp hs => by rw [sk_tk (by omega)]; exact g0z61 p s (fun i hi => hp i (by omega)) hs), (fun i _ => fFr_at fhB62 737 (by decide +kernel) rfl i)⟩
set_option maxRecDepth 8000 in
theorem ct_Order_bestSum_ae03f {I : fH} {x2 : Int} {x3 : Int} (h0 : fB bsJ I) (ha2 : (1 ≤ x2 ∧ x2 ≤ 60)) (ha3 : (1 ≤ x3 ∧ x3 ≤ 20000)) : fC ρ base n F xTc vwCl xTys D dA la gJ (fbz bsJ znJ (fKc wz_79e74) I) xm_206 [.inr (.inr (some 735)), .inr (.inr (some 211)), .inl x2, .inl x3] I (fun I' r => ∃ z, r = some (.inl z) ∧ ((-2147483648) ≤ z ∧ z ≤ 2147483647) ∧ (z = bsZ (bsF (I 211 15).toNat (I 254) (I 255) (I 256) x2 x3)) ∧ ((bsF (I 211 15).toNat (I 254) (I 255) (I 256) x2 x3).2.1 ≠ -1000000002 → ∀ i : Nat, i < (I 211 15).toNat → I' 736 i = (bsF (I 211 15).toNat (I 254) (I 255) (I 256) x2 x3).2.2 i)) := by
  have hW : fzs wz_79e74 (fKc wz_79e74) := fKc_ok _
  refine f_meth (rb := rbJ) (J := []) 1 400 xG xin_206 x6_206 okJ (fB_self h0) ?_ ?_
  · exact fun q h => absurd h List.not_mem_nil
  · have hB0 := fB_self (zn := znJ) (K := fKc wz_79e74) h0
    have b1 := fBd fb_211_15 (fBz h0 hB0)
    refine And.intro ⟨rfl, by decide, by decide⟩ (And.intro rfl (And.intro (Or.inl rfl) (fputf fb_735_2 (by decide +kernel) hW (by first | exact ⟨Int.le_trans (by decide) ha2.1, Int.le_trans ha2.2 (by decide)⟩ | omega) ?_)))
    intro IhB2 ehB2 hB2
    have t3 := fup_at ehB2 2 (by first | rfl | omega)
    have t4 : IhB2 735 3 = I 735 3 := (congrFun (congrFun ehB2 735) 3).trans (fup_ne (by first | decide | omega))
    have t5 : IhB2 735 4 = I 735 4 := (congrFun (congrFun ehB2 735) 4).trans (fup_ne (by first | decide | omega))
    refine And.intro ⟨rfl, by decide, by decide⟩ (And.intro rfl (And.intro (Or.inl rfl) (fputf fb_735_3 (by decide +kernel) hW (by first | exact ⟨Int.le_trans (by decide) ha3.1, Int.le_trans ha3.2 (by decide)⟩ | omega) ?_)))
    intro IhB6 ehB6 hB6
    have t7 : IhB6 735 2 = IhB2 735 2 := (congrFun (congrFun ehB6 735) 2).trans (fup_ne (by first | decide | omega))
    have t8 := fup_at ehB6 3 (by first | rfl | omega)
    have t9 : IhB6 735 4 = IhB2 735 4 := (congrFun (congrFun ehB6 735) 4).trans (fup_ne (by first | decide | omega))
    refine And.intro ⟨rfl, by decide, by decide⟩ (And.intro rfl (And.intro (Or.inl rfl) (fputf fb_735_4 (by decide +kernel) hW (by first | exact ⟨by decide, by decide⟩ | omega) ?_)))
    intro IhB10 ehB10 hB10
    have t11 : IhB10 735 2 = IhB6 735 2 := (congrFun (congrFun ehB10 735) 2).trans (fup_ne (by first | decide | omega))
    have t12 : IhB10 735 3 = IhB6 735 3 := (congrFun (congrFun ehB10 735) 3).trans (fup_ne (by first | decide | omega))
    have t13 := fup_at ehB10 4 (by first | rfl | omega)
    refine Exists.intro xm_214 (And.intro mi_214 (And.intro ⟨rfl, rfl, rfl, rfl⟩ (And.intro rfl ?_)))
    refine fcall _ h0 (fzs_sub (by decide +kernel) hW) hB10 (ct_Order_goOn_1b23c (fBz h0 hB10) (by first | exact ⟨by decide, by decide⟩ | omega) (by first | exact ⟨by decide, by decide⟩ | omega) (by first | exact ⟨by decide, by decide⟩ | omega) (by first | exact ⟨by decide, by decide⟩ | omega) (by omega) (by omega)) ?_
    rintro IhB15 _ hB15 fhB15 ⟨rfl, hz14, g0z14, g1z14⟩
    have t16 := fhB15 735 2 (by decide +kernel)
    have w254 : IhB10 254 = I 254 := funext (fun j => (fup_other ehB10 254 j (Or.inl (by decide))).trans ((fup_other ehB6 254 j (Or.inl (by decide))).trans (fup_other ehB2 254 j (Or.inl (by decide)))))
    have w255 : IhB10 255 = I 255 := funext (fun j => (fup_other ehB10 255 j (Or.inl (by decide))).trans ((fup_other ehB6 255 j (Or.inl (by decide))).trans (fup_other ehB2 255 j (Or.inl (by decide)))))
    have w256 : IhB10 256 = I 256 := funext (fun j => (fup_other ehB10 256 j (Or.inl (by decide))).trans ((fup_other ehB6 256 j (Or.inl (by decide))).trans (fup_other ehB2 256 j (Or.inl (by decide)))))
    have wN : IhB10 211 15 = I 211 15 := (fun j => (fup_other ehB10 211 j (Or.inl (by decide))).trans ((fup_other ehB6 211 j (Or.inl (by decide))).trans (fup_other ehB2 211 j (Or.inl (by decide))))) 15
    have wS : IhB10 735 2 = x2 := by omega
    have w22 := g0z14 (fun _ => 0) (x3, -1000000002, fun _ => 0) (fun i hi => absurd hi (by omega)) (bs_in (by omega) (by omega))
    rw [w254, w255, w256, wN, wS] at w22
    refine And.intro ⟨rfl, by decide, by decide⟩ (fgetf fb_735_3 h0 hB15 ?_)
    intro z17 lz17 uz17 qz17
    refine And.intro (by first | exact fi_ lz17 uz17 rfl | omega) (And.intro ?_ ?_)
    · intro c18
      refine And.intro ⟨rfl, by decide, by decide⟩ (fgetf fb_735_4 h0 hB15 ?_)
      intro z19 lz19 uz19 qz19
      refine And.intro (True.intro) ?_
      exact ⟨_, rfl, (by first | exact ⟨lz19, uz19⟩ | omega), (bs_z w22 (by omega)), w22.2.2⟩
    · intro c20
      refine And.intro (True.intro) ?_
      exact ⟨_, rfl, (by first | exact ⟨by decide, by decide⟩ | omega), (bs_z w22 (by omega)), w22.2.2⟩
set_option maxRecDepth 8000 in
theorem ct_X_plan_77562 {I : fH} {x1 : Int} {x2 : Int} (h0 : fB bsJ I) (ha1 : ((-2147483648) ≤ x1 ∧ x1 ≤ 2147483647)) (ha2 : ((-2147483648) ≤ x2 ∧ x2 ≤ 2147483647)) : fC ρ base n F xTc vwCl xTys D dA la gJ (fbz bsJ znJ (fKc wz_79e74) I) xm_205 [.inr (.inr (some 0)), .inl x1, .inl x2] I (fun _ r => ∃ z, r = some (.inl z) ∧ ((-2147483648) ≤ z ∧ z ≤ 2147483647) ∧ (((1 ≤ x1 ∧ x1 ≤ 60 ∧ 1 ≤ x2 ∧ x2 ≤ 20000) ∧ z = bsZ (bsF (I 211 15).toNat (I 254) (I 255) (I 256) x1 x2)) ∨ (¬ (1 ≤ x1 ∧ x1 ≤ 60 ∧ 1 ≤ x2 ∧ x2 ≤ 20000) ∧ z = (-1000000001)))) := by
  have hW : fzs wz_79e74 (fKc wz_79e74) := fKc_ok _
  refine f_meth (rb := rbJ) (J := []) 1 400 xG xin_205 x6_205 okJ (fB_self h0) ?_ ?_
  · exact fun q h => absurd h List.not_mem_nil
  · have hB0 := fB_self (zn := znJ) (K := fKc wz_79e74) h0
    refine Exists.intro xm_13 (And.intro mi_13 (And.intro ⟨rfl, rfl, rfl, rfl⟩ (And.intro True.intro ?_)))
    refine fcallp hB0 (ct_X_within_c27b1 (fBz h0 hB0) (by first | exact ⟨ha1.1, ha1.2⟩ | omega) (by first | exact ⟨by decide, by decide⟩ | omega) (by first | exact ⟨by decide, by decide⟩ | omega)) ?_
    rintro _ ⟨z1, rfl, hz1⟩
    refine And.intro (by omega) (And.intro ?_ ?_)
    · intro c2
      refine And.intro (True.intro) ?_
      exact ⟨_, rfl, (by first | exact ⟨by decide, by decide⟩ | omega), (by first | exact Or.inl ⟨by omega, g0nil0⟩ | exact Or.inr ⟨by omega, by omega⟩)⟩
    · intro c3
      refine Exists.intro xm_13 (And.intro mi_13 (And.intro ⟨rfl, rfl, rfl, rfl⟩ (And.intro True.intro ?_)))
      refine fcallp hB0 (ct_X_within_c27b1 (fBz h0 hB0) (by first | exact ⟨ha2.1, ha2.2⟩ | omega) (by first | exact ⟨by decide, by decide⟩ | omega) (by first | exact ⟨by decide, by decide⟩ | omega)) ?_
      rintro _ ⟨z4, rfl, hz4⟩
      refine And.intro (by omega) (And.intro ?_ ?_)
      · intro c5
        refine And.intro ⟨rfl, by decide, by decide⟩ ?_
        refine And.intro ⟨rfl, by decide, by decide⟩ ?_
        refine Exists.intro xm_206 (And.intro mi_206 (And.intro ⟨rfl, rfl, rfl, rfl⟩ (And.intro rfl ?_)))
        refine fcall _ h0 (fzs_sub (by decide +kernel) hW) hB0 (ct_Order_bestSum_ae03f (fBz h0 hB0) (by first | exact ⟨Int.le_trans (by decide) (Int.le_trans (Int.le_refl _) hz1.1), Int.le_trans (Int.le_trans hz1.2 (Int.le_refl _)) (by decide)⟩ | omega) (by first | exact ⟨Int.le_trans (by decide) (Int.le_trans (Int.le_refl _) hz4.1), Int.le_trans (Int.le_trans hz4.2 (Int.le_refl _)) (by decide)⟩ | omega)) ?_
        rintro IhB7 _ hB7 fhB7 ⟨z6, rfl, hz6, g0z6, g1z6⟩
        refine And.intro (True.intro) ?_
        exact ⟨_, rfl, (by first | exact ⟨hz6.1, hz6.2⟩ | omega), (by first | exact Or.inl ⟨by omega, g0z6⟩ | exact Or.inr ⟨by omega, by omega⟩)⟩
      · intro c8
        refine And.intro (True.intro) ?_
        exact ⟨_, rfl, (by first | exact ⟨by decide, by decide⟩ | omega), (by first | exact Or.inl ⟨by omega, g0z6⟩ | exact Or.inr ⟨by omega, by omega⟩)⟩
end CT

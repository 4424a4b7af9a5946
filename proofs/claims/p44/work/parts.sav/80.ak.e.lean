set_option linter.all false
section CT
variable {ρ : Nat → Int32} {base n : Nat} {F : Nat → Prop} {D : va_G} {dA : Nat → ClassId} {la : Launch}
abbrev jc_Rounds_sewNext_d8bbe_11 (x2 : Int) (I0 : fH) : Nat → fL → List fV → fH → Prop := fun m lv st I => ∃ (y2 : Int) (y3 : Int) (y4 : Int) (y5 : Int), lv = [(0, .inr (.inr (some 727))), (1, .inr (.inr (some 163))), (2, .inl y2), (3, .inl y3), (4, .inl y4), (5, .inl y5)] ∧ st = [] ∧ (((0 ≤ y2 ∧ y2 ≤ 47) ∧ ((-1) ≤ y3 ∧ y3 ≤ 23) ∧ ((-2147483648) ≤ y4 ∧ y4 ≤ 2147483647) ∧ (0 ≤ y5 ∧ y5 ≤ 24) ∧ (y2 = x2) ∧ (y5 ≤ I0 163 13) ∧ (y4 ≤ I0 727 6) ∧ (y3 < y5)) ∧ ((y3, y4) = rnN (skW (cR 0 I0)) (rnW (I0 222)) (I0 728) (I0 729) x2.toNat (I0 727 7) (I0 727 6).toNat y5.toNat) ∧ (I 728 = I0 728) ∧ (I 730 = I0 730)) ∧ m = (1 + 1 * (24 - y5) : Int).toNat
set_option maxRecDepth 8000 in
theorem ct_Rounds_sewNext_d8bbe {I : fH} {x2 : Int} (h0 : fB bsJ I) (ha2 : (0 ≤ x2 ∧ x2 ≤ 47)) (hp0 : rnA (rnW (I 222)) (I 731) (I 727 6)) (hp1 : rnB 24 (I 728) (I 729) 90000 180000) (hp2 : x2 ≤ I 727 6) (hp3 : ∀ w : Nat, (w : Int) < gt (cR 0 I) 7 → I 730 w = rnw (skW (cR 0 I)) (rnW (I 222)) (I 728) (I 729) x2.toNat (I 727 7) (I 727 6).toNat w) : fC ρ base n F xTc vwCl xTys D dA la gJ (fbz bsJ znJ (fKc wz_f185d) I) xm_183 [.inr (.inr (some 727)), .inr (.inr (some 163)), .inl x2] I (fun I' r => ∃ z, r = some (.inl z) ∧ ((-1) ≤ z ∧ z ≤ 23) ∧ (z = (rnN (skW (cR 0 I)) (rnW (I 222)) (I 728) (I 729) x2.toNat (I 727 7) (I 727 6).toNat (gt (cR 0 I) 7).toNat).1) ∧ (∀ j : Nat, I' 728 j = rnU (I 728) z j) ∧ (∀ w : Nat, (w : Int) < gt (cR 0 I) 7 → I' 730 w = rnw (skW (cR 0 I)) (rnW (I 222)) (I' 728) (I 729) x2.toNat (I 727 7) (I 727 6).toNat w)) := by
  have hW : fzs wz_f185d (fKc wz_f185d) := fKc_ok _
  refine f_meth (rb := rbJ) (J := [(11, (jc_Rounds_sewNext_d8bbe_11 x2 I))]) 26 400 xG xin_183 x6_183 okJ (fB_self h0) ?_ ?_
  · refine List.forall_mem_cons.mpr ⟨?_, fun q h => absurd h List.not_mem_nil⟩
    · rintro m _ _ I1 hB1 ⟨y2, y3, y4, y5, rfl, rfl, ⟨hb, hx0, hx1, hx2⟩, hm⟩
      have k1 := fBz_eq hB1 (a := 163) (j := 13) (by decide +kernel)
      have k2 := fBz_eq hB1 (a := 727) (j := 6) (by decide +kernel)
      have b3 := fBd fb_163_13 (fBz h0 hB1)
      have b4 := fBd fb_727_6 (fBz h0 hB1)
      have e22 : I1 222 = I 222 := (funext (fFr_at (fFr_of hB1) 222 (by decide +kernel) rfl))
      have e29 : I1 729 = I 729 := (funext (fFr_at (fFr_of hB1) 729 (by decide +kernel) rfl))
      have e31 : I1 731 = I 731 := (funext (fFr_at (fFr_of hB1) 731 (by decide +kernel) rfl))
      have cR1 : cR 0 I1 = cR 0 I := (cR_fr (d := 0) cZ0_ok (fFr_of hB1) (by decide +kernel))
      have s7 : I1 727 7 = I 727 7 := fBz_eq hB1 (by decide +kernel)
      have s6 : I1 727 6 = I 727 6 := fBz_eq hB1 (by decide +kernel)
      have w7 := (cL_f (d := 0) (a := 163) (j := 13) (r := 7) (p := 7) (I := I) (z := I 163 13) (by decide +kernel) (by decide) rfl rfl)
      refine And.intro ⟨rfl, by decide, by decide⟩ (fgetf fb_163_13 h0 hB1 ?_)
      intro z5 lz5 uz5 qz5
      have v14 := cL_f (d := 0) (a := 163) (j := 13) (r := 7) (p := 7) (by decide +kernel) (by decide) qz5 rfl
      refine And.intro (And.intro (by first | exact fi_ hb.2.2.2.1.1 hb.2.2.2.1.2 rfl | omega) (by first | exact fi_ lz5 uz5 rfl | omega)) (And.intro ?_ ?_)
      · intro c6
        refine And.intro (by first | exact fi_ hb.2.1.1 hb.2.1.2 rfl | omega) (And.intro ?_ ?_)
        · intro c7
          refine And.intro (True.intro) ?_
          exact ⟨_, rfl, (by first | exact ⟨hb.2.1.1, Int.le_trans (Int.le_sub_one_of_lt (Int.lt_of_lt_of_le c7 (Int.le_refl _))) (by decide)⟩ | omega), (rnN_at hx0 (by omega)), (fun j => by rw [hx1]; exact (rnU_no (by omega) j).symm), (fun w hw => by rw [hx2, hx1]; exact hp3 w hw)⟩
        · intro c8
          refine And.intro ⟨rfl, by decide, by decide⟩ ?_
          refine fload1 rL_728_728_0_23_1_0 h0 hB1 ⟨by decide, by decide⟩ (by first | exact ⟨Int.le_trans (by decide) (Int.le_trans (Int.le_refl _) c8), hb.2.1.2⟩ | omega) ?_
          intro z9 lz9 uz9 qz9
          have w72 : z9 = I 728 y3.toNat := qz9.trans (by rw [hx1])
          intro z10 hz10 ez10 bz10
          clear ez10
          try replace bz10 := bz10 (by omega)
          refine fstore1 rS_728_728_0_23_1_0 (fzs_sub (by decide +kernel) hW) ⟨by decide, by decide⟩ (by first | exact ⟨Int.le_trans (by decide) (Int.le_trans (Int.le_refl _) c8), hb.2.1.2⟩ | omega) (by omega) ?_
          intro IhB11 ehB11 hB11
          have t12 := fup_self ehB11
          have t13 : IhB11 163 13 = I1 163 13 := (congrFun (congrFun ehB11 163) 13).trans (fup_ne (by first | exact Or.inl (by decide) | omega))
          have k14 := fBz_eq hB11 (a := 163) (j := 13) (by decide +kernel)
          have k15 := fBz_eq hB11 (a := 727) (j := 6) (by decide +kernel)
          have r75 := cR_ot (d := 0) ehB11 (by decide)
          have f22 : IhB11 222 = I 222 := (funext (fun j => fup_other ehB11 222 j (Or.inl (by decide)))).trans e22
          have f29 : IhB11 729 = I 729 := (funext (fun j => fup_other ehB11 729 j (Or.inl (by decide)))).trans e29
          have f31 : IhB11 731 = I 731 := (funext (fun j => fup_other ehB11 731 j (Or.inl (by decide)))).trans e31
          have f6 : IhB11 727 6 = I 727 6 := (fup_other ehB11 727 6 (Or.inl (by decide))).trans s6
          have f7 : IhB11 727 7 = I 727 7 := (fup_other ehB11 727 7 (Or.inl (by decide))).trans s7
          have f28 := fup_at ehB11 y3.toNat (by omega)
          have b28 := hp1 y3.toNat (by omega)
          refine And.intro ⟨rfl, by decide, by decide⟩ ?_
          refine Exists.intro xm_182 (And.intro mi_182 (And.intro ⟨rfl, rfl, rfl, rfl⟩ (And.intro rfl ?_)))
          refine fcallp hB11 (ct_Rounds_fallOf_9b67d (fBz h0 hB11) (by first | exact ⟨Int.le_trans (by decide) (Int.le_trans (Int.le_refl _) c8), hb.2.1.2⟩ | omega) (by first | exact ⟨hb.1.1, hb.1.2⟩ | omega) (by rw [f22, f31, f6]; exact hp0) (by rw [f29]; exact b28.1) (by omega) (by omega)) ?_
          rintro _ ⟨z16, rfl, hz16, g0z16⟩
          rw [f22, f29, f7, f6, (by omega : y2 = x2)] at g0z16
          refine fstore1 rS_730_730_0_23_1_0 (fzs_sub (by decide +kernel) hW) ⟨by decide, by decide⟩ (by first | exact ⟨Int.le_trans (by decide) (Int.le_trans (Int.le_refl _) c8), hb.2.1.2⟩ | omega) (by first | exact ⟨Int.le_trans (by decide) hz16.1, Int.le_trans hz16.2 (by decide)⟩ | omega) ?_
          intro IhB17 ehB17 hB17
          have t18 := fup_self ehB17
          have t19 : IhB17 163 13 = IhB11 163 13 := (congrFun (congrFun ehB17 163) 13).trans (fup_ne (by first | exact Or.inl (by decide) | omega))
          have k20 := fBz_eq hB17 (a := 163) (j := 13) (by decide +kernel)
          have k21 := fBz_eq hB17 (a := 727) (j := 6) (by decide +kernel)
          have r87 := cR_ot (d := 0) ehB17 (by decide)
          refine And.intro (True.intro) ?_
          exact ⟨_, rfl, (by first | exact ⟨Int.le_trans (by decide) (Int.le_trans (Int.le_refl _) c8), hb.2.1.2⟩ | omega), (rnN_at hx0 (by omega)), (rnU_put (by omega) (fun j q => (fup_other ehB17 728 j (Or.inl (by decide))).trans ((fup_other ehB11 728 j (Or.inr (by omega))).trans (congrFun hx1 j))) ((fup_other ehB17 728 _ (Or.inl (by decide))).trans (fup_at ehB11 y3.toNat (by omega))) (by omega)), (rnw_new (m := (gt (cR 0 I) 7).toNat) (b := y3) (rnN_at hx0 (by omega)) (by omega) hp3 (fun j q => (fup_other ehB17 728 j (Or.inl (by decide))).trans ((fup_other ehB11 728 j (Or.inr (by omega))).trans (congrFun hx1 j))) (fun j q => (fup_other ehB17 730 j (Or.inr (by omega))).trans ((fup_other ehB11 730 j (Or.inl (by decide))).trans (congrFun hx2 j))) (fup_at ehB17 y3.toNat (by omega)) (by rw [fup_other ehB17 728 _ (Or.inl (by decide))]; exact g0z16))⟩
      · intro c22
        refine And.intro ⟨rfl, by decide, by decide⟩ ?_
        refine fload1 rL_730_730_0_23_1_0 h0 hB1 ⟨by decide, by decide⟩ (by first | exact ⟨hb.2.2.2.1.1, Int.le_trans (Int.le_sub_one_of_lt (Int.lt_of_lt_of_le c22 uz5)) (by decide)⟩ | omega) ?_
        intro z23 lz23 uz23 qz23
        have w26 : z23 = I 730 y5.toNat := qz23.trans (by rw [hx2])
        have n26 := w26.trans (hp3 y5.toNat (by omega))
        refine And.intro (And.intro (by first | exact fi_ lz23 uz23 rfl | omega) (by first | exact fi_ hb.2.2.1.1 hb.2.2.1.2 rfl | omega)) (And.intro ?_ ?_)
        · intro c24
          exact fcutJ (I := I1) (j := (jc_Rounds_sewNext_d8bbe_11 x2 I)) (lv' := [(0, .inr (.inr (some 727))), (1, .inr (.inr (some 163))), (2, .inl _), (3, .inl _), (4, .inl _), (5, .inl _)]) (And.intro rfl (And.intro rfl (And.intro rfl (And.intro rfl (And.intro rfl (And.intro rfl True.intro)))))) ⟨_, _, _, _, rfl, rfl, ⟨by omega, (rnN_to (rnw_pass hx0 n26 (fun q => by have q1 := q.1; omega)) (by omega)), hx1, hx2⟩, rfl⟩ (by omega)
        · intro c25
          refine And.intro ⟨rfl, by decide, by decide⟩ ?_
          refine fload1 rL_728_728_0_23_1_0 h0 hB1 ⟨by decide, by decide⟩ (by first | exact ⟨hb.2.2.2.1.1, Int.le_trans (Int.le_sub_one_of_lt (Int.lt_of_lt_of_le c22 uz5)) (by decide)⟩ | omega) ?_
          intro z26 lz26 uz26 qz26
          have w38 : z26 = I 728 y5.toNat := qz26.trans (by rw [hx1])
          refine And.intro (And.intro (by first | exact fi_ lz26 uz26 rfl | omega) (by first | exact ⟨by decide, by decide⟩ | omega)) (And.intro ?_ ?_)
          · intro c27
            exact fcutJ (I := I1) (j := (jc_Rounds_sewNext_d8bbe_11 x2 I)) (lv' := [(0, .inr (.inr (some 727))), (1, .inr (.inr (some 163))), (2, .inl _), (3, .inl _), (4, .inl _), (5, .inl _)]) (And.intro rfl (And.intro rfl (And.intro rfl (And.intro rfl (And.intro rfl (And.intro rfl True.intro)))))) ⟨_, _, _, _, rfl, rfl, ⟨by omega, (rnN_to (rnw_pass hx0 n26 (fun q => by have q2 := q.2; omega)) (by omega)), hx1, hx2⟩, rfl⟩ (by omega)
          · intro c28
            refine And.intro ⟨rfl, by decide, by decide⟩ ?_
            refine fload1 rL_730_730_0_23_1_0 h0 hB1 ⟨by decide, by decide⟩ (by first | exact ⟨hb.2.2.2.1.1, Int.le_trans (Int.le_sub_one_of_lt (Int.lt_of_lt_of_le c22 uz5)) (by decide)⟩ | omega) ?_
            intro z29 lz29 uz29 qz29
            have w53 : z29 = I 730 y5.toNat := qz29.trans (by rw [hx2])
            exact fcutJ (I := I1) (j := (jc_Rounds_sewNext_d8bbe_11 x2 I)) (lv' := [(0, .inr (.inr (some 727))), (1, .inr (.inr (some 163))), (2, .inl _), (3, .inl _), (4, .inl _), (5, .inl _)]) (And.intro rfl (And.intro rfl (And.intro rfl (And.intro rfl (And.intro rfl (And.intro rfl True.intro)))))) ⟨_, _, _, _, rfl, rfl, ⟨by omega, (rnN_to (rnw_pick hx0 n26 (by omega) (by omega) (by omega) (by omega)) (by omega)), hx1, hx2⟩, rfl⟩ (by omega)
  · have hB0 := fB_self (zn := znJ) (K := fKc wz_f185d) h0
    have b30 := fBd fb_163_13 (fBz h0 hB0)
    have b31 := fBd fb_727_6 (fBz h0 hB0)
    refine And.intro ⟨rfl, by decide, by decide⟩ (fgetf fb_727_6 h0 hB0 ?_)
    intro z32 lz32 uz32 qz32
    exact fcutJ (I := I) (j := (jc_Rounds_sewNext_d8bbe_11 x2 I)) (lv' := [(0, .inr (.inr (some 727))), (1, .inr (.inr (some 163))), (2, .inl _), (3, .inl _), (4, .inl _), (5, .inl _)]) (And.intro rfl (And.intro rfl (And.intro rfl (And.intro rfl (And.intro rfl (And.intro rfl True.intro)))))) ⟨_, _, _, _, rfl, rfl, ⟨by omega, (Prod.ext rfl (show _ = ((I 727 6).toNat : Int) by omega)), rfl, rfl⟩, rfl⟩ (by omega)
end CT

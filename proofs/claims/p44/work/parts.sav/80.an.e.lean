set_option linter.all false
section CT
variable {ρ : Nat → Int32} {base n : Nat} {F : Nat → Prop} {D : va_G} {dA : Nat → ClassId} {la : Launch}
set_option maxRecDepth 8000 in
theorem ct_People_becomeAs_ae6e1 {I : fH}  (h0 : fB bsJ I)  : fC ρ base n F xTc vwCl xTys D dA la gJ (fbz bsJ znJ (fKc wz_5c8a7) I) xm_227 [.inr (.inr (some 689)), .inr (.inr (some 433))] I (fun I' r => r = none ∧ True ∧ (cop 512 256 cpP I I')) := by
  have hW : fzs wz_5c8a7 (fKc wz_5c8a7) := fKc_ok _
  refine f_meth (rb := rbJ) (J := []) 1 400 xG xin_227 x6_227 okJ (fB_self h0) ?_ ?_
  · exact fun q h => absurd h List.not_mem_nil
  · have hB0 := fB_self (zn := znJ) (K := fKc wz_5c8a7) h0
    refine And.intro ⟨rfl, by decide, by decide⟩ ?_
    refine And.intro ⟨rfl, by decide, by decide⟩ ?_
    refine Exists.intro xm_75 (And.intro mi_75 (And.intro ⟨rfl, rfl, rfl, rfl⟩ (And.intro True.intro ?_)))
    refine fcall _ h0 (fzs_sub (by decide +kernel) hW) hB0 (ct_copyRow (W := [690]) (len := 24) (fBz h0 hB0) (frC_of (by decide +kernel))) ?_
    rintro IhB1 _ hB1 fhB1 ⟨rfl, ehB1⟩
    have c8 := cop_row (d1 := 512) (d2 := 256) (a := 178) (n := 24) (cop_nil (d1 := 512) (d2 := 256) (K := I)) ehB1 rfl rfl rfl (fun j _ => rfl) (by decide +kernel)
    refine And.intro ⟨rfl, by decide, by decide⟩ ?_
    refine And.intro ⟨rfl, by decide, by decide⟩ ?_
    refine Exists.intro xm_75 (And.intro mi_75 (And.intro ⟨rfl, rfl, rfl, rfl⟩ (And.intro True.intro ?_)))
    refine fcall _ h0 (fzs_sub (by decide +kernel) hW) hB1 (ct_copyRow (W := [691]) (len := 24) (fBz h0 hB1) (frC_of (by decide +kernel))) ?_
    rintro IhB2 _ hB2 fhB2 ⟨rfl, ehB2⟩
    have c19 := cop_row (d1 := 512) (d2 := 256) (a := 179) (n := 24) c8 ehB2 rfl rfl rfl (fun j _ => fFr_at (fFr_of hB1) 435 (by decide +kernel) rfl j) (by decide +kernel)
    refine And.intro ⟨rfl, by decide, by decide⟩ ?_
    refine And.intro ⟨rfl, by decide, by decide⟩ ?_
    refine Exists.intro xm_75 (And.intro mi_75 (And.intro ⟨rfl, rfl, rfl, rfl⟩ (And.intro True.intro ?_)))
    refine fcall _ h0 (fzs_sub (by decide +kernel) hW) hB2 (ct_copyRow (W := [692]) (len := 24) (fBz h0 hB2) (frC_of (by decide +kernel))) ?_
    rintro IhB3 _ hB3 fhB3 ⟨rfl, ehB3⟩
    have c30 := cop_row (d1 := 512) (d2 := 256) (a := 180) (n := 24) c19 ehB3 rfl rfl rfl (fun j _ => fFr_at (fFr_of hB2) 436 (by decide +kernel) rfl j) (by decide +kernel)
    refine And.intro ⟨rfl, by decide, by decide⟩ ?_
    refine And.intro ⟨rfl, by decide, by decide⟩ ?_
    refine Exists.intro xm_75 (And.intro mi_75 (And.intro ⟨rfl, rfl, rfl, rfl⟩ (And.intro True.intro ?_)))
    refine fcall _ h0 (fzs_sub (by decide +kernel) hW) hB3 (ct_copyRow (W := [693]) (len := 24) (fBz h0 hB3) (frC_of (by decide +kernel))) ?_
    rintro IhB4 _ hB4 fhB4 ⟨rfl, ehB4⟩
    have c41 := cop_row (d1 := 512) (d2 := 256) (a := 181) (n := 24) c30 ehB4 rfl rfl rfl (fun j _ => fFr_at (fFr_of hB3) 437 (by decide +kernel) rfl j) (by decide +kernel)
    refine And.intro ⟨rfl, by decide, by decide⟩ (fgetf fb_433_4 h0 hB4 ?_)
    intro z5 lz5 uz5 qz5
    refine And.intro ⟨rfl, by decide, by decide⟩ (And.intro rfl (And.intro (Or.inl rfl) (fputf fb_689_4 (by decide +kernel) hW (by first | exact ⟨lz5, uz5⟩ | omega) ?_)))
    intro IhB6 ehB6 hB6
    have t7 := fup_at ehB6 4 (by first | rfl | omega)
    have c49 := cop_fld (d1 := 512) (d2 := 256) (a := 177) (j0 := 4) c41 ehB6 rfl (qz5.trans (fBz_eq hB4 (a := 433) (j := 4) (by decide +kernel))) (by decide +kernel)
    exact ⟨rfl, True.intro, c49⟩
set_option maxRecDepth 8000 in
theorem ct_Works_becomeAs_59e4c {I : fH}  (h0 : fB bsJ I)  : fC ρ base n F xTc vwCl xTys D dA la gJ (fbz bsJ znJ (fKc wz_1abc8) I) xm_226 [.inr (.inr (some 675)), .inr (.inr (some 419))] I (fun I' r => r = none ∧ (I' 675 13 = I 419 13) ∧ (∀ j : Nat, j < 24 → I' 676 j = I 420 j) ∧ (cop 512 256 cpW I I')) := by
  have hW : fzs wz_1abc8 (fKc wz_1abc8) := fKc_ok _
  refine f_meth (rb := rbJ) (J := []) 1 400 xG xin_226 x6_226 okJ (fB_self h0) ?_ ?_
  · exact fun q h => absurd h List.not_mem_nil
  · have hB0 := fB_self (zn := znJ) (K := fKc wz_1abc8) h0
    refine And.intro ⟨rfl, by decide, by decide⟩ ?_
    refine And.intro ⟨rfl, by decide, by decide⟩ ?_
    refine Exists.intro xm_75 (And.intro mi_75 (And.intro ⟨rfl, rfl, rfl, rfl⟩ (And.intro True.intro ?_)))
    refine fcall _ h0 (fzs_sub (by decide +kernel) hW) hB0 (ct_copyRow (W := [676]) (len := 24) (fBz h0 hB0) (frC_of (by decide +kernel))) ?_
    rintro IhB1 _ hB1 fhB1 ⟨rfl, ehB1⟩
    have c8 := cop_row (d1 := 512) (d2 := 256) (a := 164) (n := 24) (cop_nil (d1 := 512) (d2 := 256) (K := I)) ehB1 rfl rfl rfl (fun j _ => rfl) (by decide +kernel)
    refine And.intro ⟨rfl, by decide, by decide⟩ ?_
    refine And.intro ⟨rfl, by decide, by decide⟩ ?_
    refine Exists.intro xm_75 (And.intro mi_75 (And.intro ⟨rfl, rfl, rfl, rfl⟩ (And.intro True.intro ?_)))
    refine fcall _ h0 (fzs_sub (by decide +kernel) hW) hB1 (ct_copyRow (W := [677]) (len := 24) (fBz h0 hB1) (frC_of (by decide +kernel))) ?_
    rintro IhB2 _ hB2 fhB2 ⟨rfl, ehB2⟩
    have c19 := cop_row (d1 := 512) (d2 := 256) (a := 165) (n := 24) c8 ehB2 rfl rfl rfl (fun j _ => fFr_at (fFr_of hB1) 421 (by decide +kernel) rfl j) (by decide +kernel)
    refine And.intro ⟨rfl, by decide, by decide⟩ ?_
    refine And.intro ⟨rfl, by decide, by decide⟩ ?_
    refine Exists.intro xm_75 (And.intro mi_75 (And.intro ⟨rfl, rfl, rfl, rfl⟩ (And.intro True.intro ?_)))
    refine fcall _ h0 (fzs_sub (by decide +kernel) hW) hB2 (ct_copyRow (W := [678]) (len := 24) (fBz h0 hB2) (frC_of (by decide +kernel))) ?_
    rintro IhB3 _ hB3 fhB3 ⟨rfl, ehB3⟩
    have c30 := cop_row (d1 := 512) (d2 := 256) (a := 166) (n := 24) c19 ehB3 rfl rfl rfl (fun j _ => fFr_at (fFr_of hB2) 422 (by decide +kernel) rfl j) (by decide +kernel)
    refine And.intro ⟨rfl, by decide, by decide⟩ ?_
    refine And.intro ⟨rfl, by decide, by decide⟩ ?_
    refine Exists.intro xm_75 (And.intro mi_75 (And.intro ⟨rfl, rfl, rfl, rfl⟩ (And.intro True.intro ?_)))
    refine fcall _ h0 (fzs_sub (by decide +kernel) hW) hB3 (ct_copyRow (W := [679]) (len := 24) (fBz h0 hB3) (frC_of (by decide +kernel))) ?_
    rintro IhB4 _ hB4 fhB4 ⟨rfl, ehB4⟩
    have c41 := cop_row (d1 := 512) (d2 := 256) (a := 167) (n := 24) c30 ehB4 rfl rfl rfl (fun j _ => fFr_at (fFr_of hB3) 423 (by decide +kernel) rfl j) (by decide +kernel)
    refine And.intro ⟨rfl, by decide, by decide⟩ ?_
    refine And.intro ⟨rfl, by decide, by decide⟩ ?_
    refine Exists.intro xm_75 (And.intro mi_75 (And.intro ⟨rfl, rfl, rfl, rfl⟩ (And.intro True.intro ?_)))
    refine fcall _ h0 (fzs_sub (by decide +kernel) hW) hB4 (ct_copyRow (W := [680]) (len := 24) (fBz h0 hB4) (frC_of (by decide +kernel))) ?_
    rintro IhB5 _ hB5 fhB5 ⟨rfl, ehB5⟩
    have c52 := cop_row (d1 := 512) (d2 := 256) (a := 168) (n := 24) c41 ehB5 rfl rfl rfl (fun j _ => fFr_at (fFr_of hB4) 424 (by decide +kernel) rfl j) (by decide +kernel)
    refine And.intro ⟨rfl, by decide, by decide⟩ ?_
    refine And.intro ⟨rfl, by decide, by decide⟩ ?_
    refine Exists.intro xm_75 (And.intro mi_75 (And.intro ⟨rfl, rfl, rfl, rfl⟩ (And.intro True.intro ?_)))
    refine fcall _ h0 (fzs_sub (by decide +kernel) hW) hB5 (ct_copyRow (W := [681]) (len := 24) (fBz h0 hB5) (frC_of (by decide +kernel))) ?_
    rintro IhB6 _ hB6 fhB6 ⟨rfl, ehB6⟩
    have c63 := cop_row (d1 := 512) (d2 := 256) (a := 169) (n := 24) c52 ehB6 rfl rfl rfl (fun j _ => fFr_at (fFr_of hB5) 425 (by decide +kernel) rfl j) (by decide +kernel)
    refine And.intro ⟨rfl, by decide, by decide⟩ ?_
    refine And.intro ⟨rfl, by decide, by decide⟩ ?_
    refine Exists.intro xm_75 (And.intro mi_75 (And.intro ⟨rfl, rfl, rfl, rfl⟩ (And.intro True.intro ?_)))
    refine fcall _ h0 (fzs_sub (by decide +kernel) hW) hB6 (ct_copyRow (W := [682]) (len := 24) (fBz h0 hB6) (frC_of (by decide +kernel))) ?_
    rintro IhB7 _ hB7 fhB7 ⟨rfl, ehB7⟩
    have c74 := cop_row (d1 := 512) (d2 := 256) (a := 170) (n := 24) c63 ehB7 rfl rfl rfl (fun j _ => fFr_at (fFr_of hB6) 426 (by decide +kernel) rfl j) (by decide +kernel)
    refine And.intro ⟨rfl, by decide, by decide⟩ ?_
    refine And.intro ⟨rfl, by decide, by decide⟩ ?_
    refine Exists.intro xm_75 (And.intro mi_75 (And.intro ⟨rfl, rfl, rfl, rfl⟩ (And.intro True.intro ?_)))
    refine fcall _ h0 (fzs_sub (by decide +kernel) hW) hB7 (ct_copyRow (W := [683]) (len := 24) (fBz h0 hB7) (frC_of (by decide +kernel))) ?_
    rintro IhB8 _ hB8 fhB8 ⟨rfl, ehB8⟩
    have c85 := cop_row (d1 := 512) (d2 := 256) (a := 171) (n := 24) c74 ehB8 rfl rfl rfl (fun j _ => fFr_at (fFr_of hB7) 427 (by decide +kernel) rfl j) (by decide +kernel)
    refine And.intro ⟨rfl, by decide, by decide⟩ ?_
    refine And.intro ⟨rfl, by decide, by decide⟩ ?_
    refine Exists.intro xm_75 (And.intro mi_75 (And.intro ⟨rfl, rfl, rfl, rfl⟩ (And.intro True.intro ?_)))
    refine fcall _ h0 (fzs_sub (by decide +kernel) hW) hB8 (ct_copyRow (W := [684]) (len := 24) (fBz h0 hB8) (frC_of (by decide +kernel))) ?_
    rintro IhB9 _ hB9 fhB9 ⟨rfl, ehB9⟩
    have c96 := cop_row (d1 := 512) (d2 := 256) (a := 172) (n := 24) c85 ehB9 rfl rfl rfl (fun j _ => fFr_at (fFr_of hB8) 428 (by decide +kernel) rfl j) (by decide +kernel)
    refine And.intro ⟨rfl, by decide, by decide⟩ ?_
    refine And.intro ⟨rfl, by decide, by decide⟩ ?_
    refine Exists.intro xm_75 (And.intro mi_75 (And.intro ⟨rfl, rfl, rfl, rfl⟩ (And.intro True.intro ?_)))
    refine fcall _ h0 (fzs_sub (by decide +kernel) hW) hB9 (ct_copyRow (W := [685]) (len := 24) (fBz h0 hB9) (frC_of (by decide +kernel))) ?_
    rintro IhB10 _ hB10 fhB10 ⟨rfl, ehB10⟩
    have c107 := cop_row (d1 := 512) (d2 := 256) (a := 173) (n := 24) c96 ehB10 rfl rfl rfl (fun j _ => fFr_at (fFr_of hB9) 429 (by decide +kernel) rfl j) (by decide +kernel)
    refine And.intro ⟨rfl, by decide, by decide⟩ ?_
    refine And.intro ⟨rfl, by decide, by decide⟩ ?_
    refine Exists.intro xm_75 (And.intro mi_75 (And.intro ⟨rfl, rfl, rfl, rfl⟩ (And.intro True.intro ?_)))
    refine fcall _ h0 (fzs_sub (by decide +kernel) hW) hB10 (ct_copyRow (W := [686]) (len := 24) (fBz h0 hB10) (frC_of (by decide +kernel))) ?_
    rintro IhB11 _ hB11 fhB11 ⟨rfl, ehB11⟩
    have c118 := cop_row (d1 := 512) (d2 := 256) (a := 174) (n := 24) c107 ehB11 rfl rfl rfl (fun j _ => fFr_at (fFr_of hB10) 430 (by decide +kernel) rfl j) (by decide +kernel)
    refine And.intro ⟨rfl, by decide, by decide⟩ ?_
    refine And.intro ⟨rfl, by decide, by decide⟩ ?_
    refine Exists.intro xm_75 (And.intro mi_75 (And.intro ⟨rfl, rfl, rfl, rfl⟩ (And.intro True.intro ?_)))
    refine fcall _ h0 (fzs_sub (by decide +kernel) hW) hB11 (ct_copyRow (W := [687]) (len := 24) (fBz h0 hB11) (frC_of (by decide +kernel))) ?_
    rintro IhB12 _ hB12 fhB12 ⟨rfl, ehB12⟩
    have c129 := cop_row (d1 := 512) (d2 := 256) (a := 175) (n := 24) c118 ehB12 rfl rfl rfl (fun j _ => fFr_at (fFr_of hB11) 431 (by decide +kernel) rfl j) (by decide +kernel)
    refine And.intro ⟨rfl, by decide, by decide⟩ ?_
    refine And.intro ⟨rfl, by decide, by decide⟩ ?_
    refine Exists.intro xm_75 (And.intro mi_75 (And.intro ⟨rfl, rfl, rfl, rfl⟩ (And.intro True.intro ?_)))
    refine fcall _ h0 (fzs_sub (by decide +kernel) hW) hB12 (ct_copyRow (W := [688]) (len := 24) (fBz h0 hB12) (frC_of (by decide +kernel))) ?_
    rintro IhB13 _ hB13 fhB13 ⟨rfl, ehB13⟩
    have c140 := cop_row (d1 := 512) (d2 := 256) (a := 176) (n := 24) c129 ehB13 rfl rfl rfl (fun j _ => fFr_at (fFr_of hB12) 432 (by decide +kernel) rfl j) (by decide +kernel)
    refine And.intro ⟨rfl, by decide, by decide⟩ (fgetf fb_419_13 h0 hB13 ?_)
    intro z14 lz14 uz14 qz14
    have k15 := fBz_eq hB13 (a := 419) (j := 13) (by decide +kernel)
    refine And.intro ⟨rfl, by decide, by decide⟩ (And.intro rfl (And.intro (Or.inl rfl) (fputf fb_675_13 (by decide +kernel) hW (by first | exact ⟨lz14, uz14⟩ | omega) ?_)))
    intro IhB16 ehB16 hB16
    have t17 := fup_at ehB16 13 (by first | rfl | omega)
    have c148 := cop_fld (d1 := 512) (d2 := 256) (a := 163) (j0 := 13) c140 ehB16 rfl (qz14.trans (fBz_eq hB13 (a := 419) (j := 13) (by decide +kernel))) (by decide +kernel)
    exact ⟨rfl, by omega, (fun j hj => ((fup_other ehB16 676 j (Or.inl (by omega))).trans (((congrFun (congrFun ehB13 676) j).trans (fcpy_ne (by omega))).trans (((congrFun (congrFun ehB12 676) j).trans (fcpy_ne (by omega))).trans (((congrFun (congrFun ehB11 676) j).trans (fcpy_ne (by omega))).trans (((congrFun (congrFun ehB10 676) j).trans (fcpy_ne (by omega))).trans (((congrFun (congrFun ehB9 676) j).trans (fcpy_ne (by omega))).trans (((congrFun (congrFun ehB8 676) j).trans (fcpy_ne (by omega))).trans (((congrFun (congrFun ehB7 676) j).trans (fcpy_ne (by omega))).trans (((congrFun (congrFun ehB6 676) j).trans (fcpy_ne (by omega))).trans (((congrFun (congrFun ehB5 676) j).trans (fcpy_ne (by omega))).trans (((congrFun (congrFun ehB4 676) j).trans (fcpy_ne (by omega))).trans (((congrFun (congrFun ehB3 676) j).trans (fcpy_ne (by omega))).trans (((congrFun (congrFun ehB2 676) j).trans (fcpy_ne (by omega))).trans ((congrFun (congrFun ehB1 676) j).trans (fcpy_at hj)))))))))))))))), c148⟩
end CT

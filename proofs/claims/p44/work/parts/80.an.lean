set_option linter.all false
/-! contracts (written by gen95.py) -/
abbrev wz_e3fbc : List Nat := [3, 4, 5, 26, 47, 68, 69, 70, 71, 72, 164, 165, 166, 167, 168, 169, 170, 171, 172, 173, 174, 175, 176, 178, 179, 180, 181, 182, 183, 10105, 10106, 10107, 10108, 10109, 10205, 10210, 10212, 10313, 10404]
abbrev wz_2d260 : List Nat := [188, 189, 190, 191, 192, 193, 206, 10506, 10507, 10508]
abbrev wz_ba624 : List Nat := [212, 221, 222, 223, 224, 249, 250, 251, 252, 253, 254, 255, 256, 10608, 10611, 10615]
abbrev wz_0c714 : List Nat := [3, 4, 5, 26, 47, 68, 69, 70, 71, 72, 164, 165, 166, 167, 168, 169, 170, 171, 172, 173, 174, 175, 176, 178, 179, 180, 181, 182, 183, 188, 189, 190, 191, 192, 193, 206, 212, 221, 222, 223, 224, 249, 250, 251, 252, 253, 254, 255, 256, 10105, 10106, 10107, 10108, 10109, 10205, 10210, 10212, 10313, 10404, 10506, 10507, 10508, 10608, 10611, 10615]
theorem x6_232 : f60c xTc xTys xm_232 = true := by decide +kernel
abbrev wz_6f285 : List Nat := [20000, 20001, 20002, 20003, 20004, 20005, 20006, 20007, 20008, 20009, 20010, 20011, 20012, 20013, 20014, 20015, 20016, 20017, 20018, 20019, 20020, 20021, 20022, 20023, 20024, 20025, 20026, 20027, 20028, 20029, 20100, 20101, 20102, 20103, 20104, 20105, 20106, 20107, 20108, 20109, 20110, 20111, 20112, 20113, 20114, 20115, 20116, 20117, 20118, 20119, 20200, 20201, 20202, 20203, 20300, 20301, 20302, 20303, 20304, 20305, 20306, 20307, 20308, 20309, 20310, 20311, 20312, 20313, 20400, 20401, 20402, 20403, 20404, 20405, 20500, 20600, 20601, 20602, 20603, 20604, 20605, 20700, 20701, 20702, 20703, 20704, 20705, 20706, 20707, 20800, 20801, 20802, 20810, 20811, 20820, 20821, 20822, 20830, 20831, 20832, 20833, 20834, 20840, 20850]
theorem x6_496 : f60c xTc xTys xm_496 = true := by decide +kernel
theorem x6_234 : f60c xTc xTys xm_234 = true := by decide +kernel
theorem x6_235 : f60c xTc xTys xm_235 = true := by decide +kernel
theorem x6_233 : f60c xTc xTys xm_233 = true := by decide +kernel
theorem x6_497 : f60c xTc xTys xm_497 = true := by decide +kernel
section CT
variable {ρ : Nat → Int32} {base n : Nat} {F : Nat → Prop} {D : va_G} {dA : Nat → ClassId} {la : Launch}
set_option maxRecDepth 8000 in
theorem ct_Works_becomeAs_67631 {I : fH}  (h0 : fB bsJ I)  : fC ρ base n F xTc vwCl xTys D dA la gJ (fbz bsJ znJ (fKc wz_53189) I) xm_226 [.inr (.inr (some 163)), .inr (.inr (some 419))] I (fun I' r => r = none ∧ (I' 163 13 = I 419 13) ∧ (∀ j : Nat, j < 24 → I' 164 j = I 420 j)) := by
  have hW : fzs wz_53189 (fKc wz_53189) := fKc_ok _
  refine f_meth (rb := rbJ) (J := []) 1 400 xG xin_226 x6_226 okJ (fB_self h0) ?_ ?_
  · exact fun q h => absurd h List.not_mem_nil
  · have hB0 := fB_self (zn := znJ) (K := fKc wz_53189) h0
    refine And.intro ⟨rfl, by decide, by decide⟩ ?_
    refine And.intro ⟨rfl, by decide, by decide⟩ ?_
    refine Exists.intro xm_75 (And.intro mi_75 (And.intro ⟨rfl, rfl, rfl, rfl⟩ (And.intro True.intro ?_)))
    refine fcall _ h0 (fzs_sub (by decide +kernel) hW) hB0 (ct_copyRow (W := [164]) (len := 24) (fBz h0 hB0) (frC_of (by decide +kernel))) ?_
    rintro IhB1 _ hB1 fhB1 ⟨rfl, ehB1⟩
    refine And.intro ⟨rfl, by decide, by decide⟩ ?_
    refine And.intro ⟨rfl, by decide, by decide⟩ ?_
    refine Exists.intro xm_75 (And.intro mi_75 (And.intro ⟨rfl, rfl, rfl, rfl⟩ (And.intro True.intro ?_)))
    refine fcall _ h0 (fzs_sub (by decide +kernel) hW) hB1 (ct_copyRow (W := [165]) (len := 24) (fBz h0 hB1) (frC_of (by decide +kernel))) ?_
    rintro IhB2 _ hB2 fhB2 ⟨rfl, ehB2⟩
    refine And.intro ⟨rfl, by decide, by decide⟩ ?_
    refine And.intro ⟨rfl, by decide, by decide⟩ ?_
    refine Exists.intro xm_75 (And.intro mi_75 (And.intro ⟨rfl, rfl, rfl, rfl⟩ (And.intro True.intro ?_)))
    refine fcall _ h0 (fzs_sub (by decide +kernel) hW) hB2 (ct_copyRow (W := [166]) (len := 24) (fBz h0 hB2) (frC_of (by decide +kernel))) ?_
    rintro IhB3 _ hB3 fhB3 ⟨rfl, ehB3⟩
    refine And.intro ⟨rfl, by decide, by decide⟩ ?_
    refine And.intro ⟨rfl, by decide, by decide⟩ ?_
    refine Exists.intro xm_75 (And.intro mi_75 (And.intro ⟨rfl, rfl, rfl, rfl⟩ (And.intro True.intro ?_)))
    refine fcall _ h0 (fzs_sub (by decide +kernel) hW) hB3 (ct_copyRow (W := [167]) (len := 24) (fBz h0 hB3) (frC_of (by decide +kernel))) ?_
    rintro IhB4 _ hB4 fhB4 ⟨rfl, ehB4⟩
    refine And.intro ⟨rfl, by decide, by decide⟩ ?_
    refine And.intro ⟨rfl, by decide, by decide⟩ ?_
    refine Exists.intro xm_75 (And.intro mi_75 (And.intro ⟨rfl, rfl, rfl, rfl⟩ (And.intro True.intro ?_)))
    refine fcall _ h0 (fzs_sub (by decide +kernel) hW) hB4 (ct_copyRow (W := [168]) (len := 24) (fBz h0 hB4) (frC_of (by decide +kernel))) ?_
    rintro IhB5 _ hB5 fhB5 ⟨rfl, ehB5⟩
    refine And.intro ⟨rfl, by decide, by decide⟩ ?_
    refine And.intro ⟨rfl, by decide, by decide⟩ ?_
    refine Exists.intro xm_75 (And.intro mi_75 (And.intro ⟨rfl, rfl, rfl, rfl⟩ (And.intro True.intro ?_)))
    refine fcall _ h0 (fzs_sub (by decide +kernel) hW) hB5 (ct_copyRow (W := [169]) (len := 24) (fBz h0 hB5) (frC_of (by decide +kernel))) ?_
    rintro IhB6 _ hB6 fhB6 ⟨rfl, ehB6⟩
    refine And.intro ⟨rfl, by decide, by decide⟩ ?_
    refine And.intro ⟨rfl, by decide, by decide⟩ ?_
    refine Exists.intro xm_75 (And.intro mi_75 (And.intro ⟨rfl, rfl, rfl, rfl⟩ (And.intro True.intro ?_)))
    refine fcall _ h0 (fzs_sub (by decide +kernel) hW) hB6 (ct_copyRow (W := [170]) (len := 24) (fBz h0 hB6) (frC_of (by decide +kernel))) ?_
    rintro IhB7 _ hB7 fhB7 ⟨rfl, ehB7⟩
    refine And.intro ⟨rfl, by decide, by decide⟩ ?_
    refine And.intro ⟨rfl, by decide, by decide⟩ ?_
    refine Exists.intro xm_75 (And.intro mi_75 (And.intro ⟨rfl, rfl, rfl, rfl⟩ (And.intro True.intro ?_)))
    refine fcall _ h0 (fzs_sub (by decide +kernel) hW) hB7 (ct_copyRow (W := [171]) (len := 24) (fBz h0 hB7) (frC_of (by decide +kernel))) ?_
    rintro IhB8 _ hB8 fhB8 ⟨rfl, ehB8⟩
    refine And.intro ⟨rfl, by decide, by decide⟩ ?_
    refine And.intro ⟨rfl, by decide, by decide⟩ ?_
    refine Exists.intro xm_75 (And.intro mi_75 (And.intro ⟨rfl, rfl, rfl, rfl⟩ (And.intro True.intro ?_)))
    refine fcall _ h0 (fzs_sub (by decide +kernel) hW) hB8 (ct_copyRow (W := [172]) (len := 24) (fBz h0 hB8) (frC_of (by decide +kernel))) ?_
    rintro IhB9 _ hB9 fhB9 ⟨rfl, ehB9⟩
    refine And.intro ⟨rfl, by decide, by decide⟩ ?_
    refine And.intro ⟨rfl, by decide, by decide⟩ ?_
    refine Exists.intro xm_75 (And.intro mi_75 (And.intro ⟨rfl, rfl, rfl, rfl⟩ (And.intro True.intro ?_)))
    refine fcall _ h0 (fzs_sub (by decide +kernel) hW) hB9 (ct_copyRow (W := [173]) (len := 24) (fBz h0 hB9) (frC_of (by decide +kernel))) ?_
    rintro IhB10 _ hB10 fhB10 ⟨rfl, ehB10⟩
    refine And.intro ⟨rfl, by decide, by decide⟩ ?_
    refine And.intro ⟨rfl, by decide, by decide⟩ ?_
    refine Exists.intro xm_75 (And.intro mi_75 (And.intro ⟨rfl, rfl, rfl, rfl⟩ (And.intro True.intro ?_)))
    refine fcall _ h0 (fzs_sub (by decide +kernel) hW) hB10 (ct_copyRow (W := [174]) (len := 24) (fBz h0 hB10) (frC_of (by decide +kernel))) ?_
    rintro IhB11 _ hB11 fhB11 ⟨rfl, ehB11⟩
    refine And.intro ⟨rfl, by decide, by decide⟩ ?_
    refine And.intro ⟨rfl, by decide, by decide⟩ ?_
    refine Exists.intro xm_75 (And.intro mi_75 (And.intro ⟨rfl, rfl, rfl, rfl⟩ (And.intro True.intro ?_)))
    refine fcall _ h0 (fzs_sub (by decide +kernel) hW) hB11 (ct_copyRow (W := [175]) (len := 24) (fBz h0 hB11) (frC_of (by decide +kernel))) ?_
    rintro IhB12 _ hB12 fhB12 ⟨rfl, ehB12⟩
    refine And.intro ⟨rfl, by decide, by decide⟩ ?_
    refine And.intro ⟨rfl, by decide, by decide⟩ ?_
    refine Exists.intro xm_75 (And.intro mi_75 (And.intro ⟨rfl, rfl, rfl, rfl⟩ (And.intro True.intro ?_)))
    refine fcall _ h0 (fzs_sub (by decide +kernel) hW) hB12 (ct_copyRow (W := [176]) (len := 24) (fBz h0 hB12) (frC_of (by decide +kernel))) ?_
    rintro IhB13 _ hB13 fhB13 ⟨rfl, ehB13⟩
    refine And.intro ⟨rfl, by decide, by decide⟩ (fgetf fb_419_13 h0 hB13 ?_)
    intro z14 lz14 uz14 qz14
    have k15 := fBz_eq hB13 (a := 419) (j := 13) (by decide +kernel)
    refine And.intro ⟨rfl, by decide, by decide⟩ (And.intro rfl (And.intro (Or.inl rfl) (fputf fb_163_13 (by decide +kernel) hW (by first | exact ⟨lz14, uz14⟩ | omega) ?_)))
    intro IhB16 ehB16 hB16
    have t17 := fup_at ehB16 13 (by first | rfl | omega)
    exact ⟨rfl, by omega, (fun j hj => ((fup_other ehB16 164 j (Or.inl (by omega))).trans (((congrFun (congrFun ehB13 164) j).trans (fcpy_ne (by omega))).trans (((congrFun (congrFun ehB12 164) j).trans (fcpy_ne (by omega))).trans (((congrFun (congrFun ehB11 164) j).trans (fcpy_ne (by omega))).trans (((congrFun (congrFun ehB10 164) j).trans (fcpy_ne (by omega))).trans (((congrFun (congrFun ehB9 164) j).trans (fcpy_ne (by omega))).trans (((congrFun (congrFun ehB8 164) j).trans (fcpy_ne (by omega))).trans (((congrFun (congrFun ehB7 164) j).trans (fcpy_ne (by omega))).trans (((congrFun (congrFun ehB6 164) j).trans (fcpy_ne (by omega))).trans (((congrFun (congrFun ehB5 164) j).trans (fcpy_ne (by omega))).trans (((congrFun (congrFun ehB4 164) j).trans (fcpy_ne (by omega))).trans (((congrFun (congrFun ehB3 164) j).trans (fcpy_ne (by omega))).trans (((congrFun (congrFun ehB2 164) j).trans (fcpy_ne (by omega))).trans ((congrFun (congrFun ehB1 164) j).trans (fcpy_at hj))))))))))))))))⟩
set_option maxRecDepth 8000 in
theorem ct_City_becomeAs_a5ef7 {I : fH}  (h0 : fB bsJ I)  : fC ρ base n F xTc vwCl xTys D dA la gJ (fbz bsJ znJ (fKc wz_e3fbc) I) xm_223 [.inr (.inr (some 1)), .inr (.inr (some 257))] I (fun I' r => r = none ∧ ((I' 2 5 = I 258 5 ∧ I' 2 10 = I 258 10 ∧ I' 1 9 = I 257 9) ∧ I' 163 13 = I 419 13) ∧ (∀ j : Nat, j < 24 → I' 164 j = I 420 j) ∧ (∀ i j : Nat, i < 3 → j < 61 → I' (184 + i) j = I (440 + i) j)) := by
  have hW : fzs wz_e3fbc (fKc wz_e3fbc) := fKc_ok _
  refine f_meth (rb := rbJ) (J := []) 1 400 xG xin_223 x6_223 okJ (fB_self h0) ?_ ?_
  · exact fun q h => absurd h List.not_mem_nil
  · have hB0 := fB_self (zn := znJ) (K := fKc wz_e3fbc) h0
    refine And.intro ⟨rfl, by decide, by decide⟩ ?_
    refine And.intro ⟨rfl, by decide, by decide⟩ ?_
    refine Exists.intro xm_224 (And.intro mi_224 (And.intro ⟨rfl, rfl, rfl, rfl⟩ (And.intro rfl ?_)))
    refine fcall _ h0 (fzs_sub (by decide +kernel) hW) hB0 (ct_Cells_becomeAs_587fd (fBz h0 hB0)) ?_
    rintro IhB2 _ hB2 fhB2 ⟨rfl, hz1⟩
    refine And.intro ⟨rfl, by decide, by decide⟩ ?_
    refine And.intro ⟨rfl, by decide, by decide⟩ ?_
    refine Exists.intro xm_226 (And.intro mi_226 (And.intro ⟨rfl, rfl, rfl, rfl⟩ (And.intro rfl ?_)))
    refine fcall _ h0 (fzs_sub (by decide +kernel) hW) hB2 (ct_Works_becomeAs_67631 (fBz h0 hB2)) ?_
    rintro IhB4 _ hB4 fhB4 ⟨rfl, hz3, g0z3⟩
    have t5 := fhB4 2 5 (by decide +kernel)
    have t6 := fhB4 2 10 (by decide +kernel)
    have w19 := fBz_eq hB2 (a := 419) (j := 13) (by decide +kernel)
    refine And.intro ⟨rfl, by decide, by decide⟩ ?_
    refine And.intro ⟨rfl, by decide, by decide⟩ ?_
    refine Exists.intro xm_227 (And.intro mi_227 (And.intro ⟨rfl, rfl, rfl, rfl⟩ (And.intro rfl ?_)))
    refine fcall _ h0 (fzs_sub (by decide +kernel) hW) hB4 (ct_People_becomeAs_faf7e (fBz h0 hB4)) ?_
    rintro IhB8 _ hB8 fhB8 rfl
    have t9 := fhB8 2 5 (by decide +kernel)
    have t10 := fhB8 2 10 (by decide +kernel)
    have t11 := fhB8 163 13 (by decide +kernel)
    refine And.intro ⟨rfl, by decide, by decide⟩ ?_
    refine And.intro ⟨rfl, by decide, by decide⟩ ?_
    refine Exists.intro xm_75 (And.intro mi_75 (And.intro ⟨rfl, rfl, rfl, rfl⟩ (And.intro True.intro ?_)))
    refine fcall _ h0 (fzs_sub (by decide +kernel) hW) hB8 (ct_copyRow (W := [182]) (len := 6) (fBz h0 hB8) (frC_of (by decide +kernel))) ?_
    rintro IhB12 _ hB12 fhB12 ⟨rfl, ehB12⟩
    have t13 := fhB12 2 5 (by decide +kernel)
    have t14 := fhB12 2 10 (by decide +kernel)
    have t15 := fhB12 163 13 (by decide +kernel)
    refine And.intro ⟨rfl, by decide, by decide⟩ ?_
    refine And.intro ⟨rfl, by decide, by decide⟩ ?_
    refine Exists.intro xm_225 (And.intro mi_225 (And.intro ⟨rfl, rfl, rfl, rfl⟩ (And.intro True.intro ?_)))
    refine fcall _ h0 (fzs_sub (by decide +kernel) hW) hB12 (ct_copyRows (W := [183]) (m := 3) (len := 61) (ro := 440) (rd := 184) (fBz h0 hB12) (frCs_of ⟨rfl, rfl, rfl, rfl, by decide⟩ (by decide +kernel))) ?_
    rintro IhB16 _ hB16 fhB16 ⟨rfl, ehB16⟩
    have t17 := fhB16 2 5 (by decide +kernel)
    have t18 := fhB16 2 10 (by decide +kernel)
    have t19 := fhB16 163 13 (by decide +kernel)
    refine And.intro ⟨rfl, by decide, by decide⟩ (fgetf fb_257_5 h0 hB16 ?_)
    intro z20 lz20 uz20 qz20
    refine And.intro ⟨rfl, by decide, by decide⟩ (And.intro rfl (And.intro (Or.inl rfl) (fputf fb_1_5 (by decide +kernel) hW (by first | exact ⟨lz20, uz20⟩ | omega) ?_)))
    intro IhB21 ehB21 hB21
    have t22 := fup_at ehB21 5 (by first | rfl | omega)
    have t23 : IhB21 2 5 = IhB16 2 5 := (congrFun (congrFun ehB21 2) 5).trans (fup_ne (by first | decide | omega))
    have t24 : IhB21 2 10 = IhB16 2 10 := (congrFun (congrFun ehB21 2) 10).trans (fup_ne (by first | decide | omega))
    have t25 : IhB21 163 13 = IhB16 163 13 := (congrFun (congrFun ehB21 163) 13).trans (fup_ne (by first | decide | omega))
    refine And.intro ⟨rfl, by decide, by decide⟩ (fgetf fb_257_6 h0 hB21 ?_)
    intro z26 lz26 uz26 qz26
    refine And.intro ⟨rfl, by decide, by decide⟩ (And.intro rfl (And.intro (Or.inl rfl) (fputf fb_1_6 (by decide +kernel) hW (by first | exact ⟨lz26, uz26⟩ | omega) ?_)))
    intro IhB27 ehB27 hB27
    have t28 : IhB27 1 5 = IhB21 1 5 := (congrFun (congrFun ehB27 1) 5).trans (fup_ne (by first | decide | omega))
    have t29 := fup_at ehB27 6 (by first | rfl | omega)
    have t30 : IhB27 2 5 = IhB21 2 5 := (congrFun (congrFun ehB27 2) 5).trans (fup_ne (by first | decide | omega))
    have t31 : IhB27 2 10 = IhB21 2 10 := (congrFun (congrFun ehB27 2) 10).trans (fup_ne (by first | decide | omega))
    have t32 : IhB27 163 13 = IhB21 163 13 := (congrFun (congrFun ehB27 163) 13).trans (fup_ne (by first | decide | omega))
    refine And.intro ⟨rfl, by decide, by decide⟩ (fgetf fb_257_7 h0 hB27 ?_)
    intro z33 lz33 uz33 qz33
    refine And.intro ⟨rfl, by decide, by decide⟩ (And.intro rfl (And.intro (Or.inl rfl) (fputf fb_1_7 (by decide +kernel) hW (by first | exact ⟨lz33, uz33⟩ | omega) ?_)))
    intro IhB34 ehB34 hB34
    have t35 : IhB34 1 5 = IhB27 1 5 := (congrFun (congrFun ehB34 1) 5).trans (fup_ne (by first | decide | omega))
    have t36 : IhB34 1 6 = IhB27 1 6 := (congrFun (congrFun ehB34 1) 6).trans (fup_ne (by first | decide | omega))
    have t37 := fup_at ehB34 7 (by first | rfl | omega)
    have t38 : IhB34 2 5 = IhB27 2 5 := (congrFun (congrFun ehB34 2) 5).trans (fup_ne (by first | decide | omega))
    have t39 : IhB34 2 10 = IhB27 2 10 := (congrFun (congrFun ehB34 2) 10).trans (fup_ne (by first | decide | omega))
    have t40 : IhB34 163 13 = IhB27 163 13 := (congrFun (congrFun ehB34 163) 13).trans (fup_ne (by first | decide | omega))
    refine And.intro ⟨rfl, by decide, by decide⟩ (fgetf fb_257_8 h0 hB34 ?_)
    intro z41 lz41 uz41 qz41
    refine And.intro ⟨rfl, by decide, by decide⟩ (And.intro rfl (And.intro (Or.inl rfl) (fputf fb_1_8 (by decide +kernel) hW (by first | exact ⟨lz41, uz41⟩ | omega) ?_)))
    intro IhB42 ehB42 hB42
    have t43 : IhB42 1 5 = IhB34 1 5 := (congrFun (congrFun ehB42 1) 5).trans (fup_ne (by first | decide | omega))
    have t44 : IhB42 1 6 = IhB34 1 6 := (congrFun (congrFun ehB42 1) 6).trans (fup_ne (by first | decide | omega))
    have t45 : IhB42 1 7 = IhB34 1 7 := (congrFun (congrFun ehB42 1) 7).trans (fup_ne (by first | decide | omega))
    have t46 := fup_at ehB42 8 (by first | rfl | omega)
    have t47 : IhB42 2 5 = IhB34 2 5 := (congrFun (congrFun ehB42 2) 5).trans (fup_ne (by first | decide | omega))
    have t48 : IhB42 2 10 = IhB34 2 10 := (congrFun (congrFun ehB42 2) 10).trans (fup_ne (by first | decide | omega))
    have t49 : IhB42 163 13 = IhB34 163 13 := (congrFun (congrFun ehB42 163) 13).trans (fup_ne (by first | decide | omega))
    refine And.intro ⟨rfl, by decide, by decide⟩ (fgetf fb_257_9 h0 hB42 ?_)
    intro z50 lz50 uz50 qz50
    have k51 := fBz_eq hB42 (a := 257) (j := 9) (by decide +kernel)
    refine And.intro ⟨rfl, by decide, by decide⟩ (And.intro rfl (And.intro (Or.inl rfl) (fputf fb_1_9 (by decide +kernel) hW (by first | exact ⟨lz50, uz50⟩ | omega) ?_)))
    intro IhB52 ehB52 hB52
    have t53 : IhB52 1 5 = IhB42 1 5 := (congrFun (congrFun ehB52 1) 5).trans (fup_ne (by first | decide | omega))
    have t54 : IhB52 1 6 = IhB42 1 6 := (congrFun (congrFun ehB52 1) 6).trans (fup_ne (by first | decide | omega))
    have t55 : IhB52 1 7 = IhB42 1 7 := (congrFun (congrFun ehB52 1) 7).trans (fup_ne (by first | decide | omega))
    have t56 : IhB52 1 8 = IhB42 1 8 := (congrFun (congrFun ehB52 1) 8).trans (fup_ne (by first | decide | omega))
    have t57 := fup_at ehB52 9 (by first | rfl | omega)
    have t58 : IhB52 2 5 = IhB42 2 5 := (congrFun (congrFun ehB52 2) 5).trans (fup_ne (by first | decide | omega))
    have t59 : IhB52 2 10 = IhB42 2 10 := (congrFun (congrFun ehB52 2) 10).trans (fup_ne (by first | decide | omega))
    have t60 : IhB52 163 13 = IhB42 163 13 := (congrFun (congrFun ehB52 163) 13).trans (fup_ne (by first | decide | omega))
    exact ⟨rfl, by omega, (fun j hj => ((fup_other ehB52 164 j (Or.inl (by omega))).trans ((fup_other ehB42 164 j (Or.inl (by omega))).trans ((fup_other ehB34 164 j (Or.inl (by omega))).trans ((fup_other ehB27 164 j (Or.inl (by omega))).trans ((fup_other ehB21 164 j (Or.inl (by omega))).trans ((fFr_at fhB16 164 (by decide +kernel) rfl j).trans (((congrFun (congrFun ehB12 164) j).trans (fcpy_ne (by omega))).trans ((fFr_at fhB8 164 (by decide +kernel) rfl j).trans ((g0z3 j hj).trans (fFr_at (fFr_of hB2) 420 (by decide +kernel) rfl j))))))))))), (fun i j hi hj => ((fup_other ehB52 (184 + i) j (Or.inl (by omega))).trans ((fup_other ehB42 (184 + i) j (Or.inl (by omega))).trans ((fup_other ehB34 (184 + i) j (Or.inl (by omega))).trans ((fup_other ehB27 (184 + i) j (Or.inl (by omega))).trans ((fup_other ehB21 (184 + i) j (Or.inl (by omega))).trans ((ehB16 i hi j hj).trans (fFr_rows (fFr_of hB12) (r := 440) (m := 3) (len := 61) (by decide +kernel) i j hi hj))))))))⟩
set_option maxRecDepth 8000 in
theorem ct_Charter_becomeAs_58e13 {I : fH}  (h0 : fB bsJ I)  : fC ρ base n F xTc vwCl xTys D dA la gJ (fbz bsJ znJ (fKc wz_2d260) I) xm_230 [.inr (.inr (some 187)), .inr (.inr (some 443))] I (fun _ r => r = none) := by
  have hW : fzs wz_2d260 (fKc wz_2d260) := fKc_ok _
  refine f_meth (rb := rbJ) (J := []) 1 400 xG xin_230 x6_230 okJ (fB_self h0) ?_ ?_
  · exact fun q h => absurd h List.not_mem_nil
  · have hB0 := fB_self (zn := znJ) (K := fKc wz_2d260) h0
    refine And.intro ⟨rfl, by decide, by decide⟩ ?_
    refine And.intro ⟨rfl, by decide, by decide⟩ ?_
    refine Exists.intro xm_75 (And.intro mi_75 (And.intro ⟨rfl, rfl, rfl, rfl⟩ (And.intro True.intro ?_)))
    refine fcall _ h0 (fzs_sub (by decide +kernel) hW) hB0 (ct_copyRow (W := [188]) (len := 12) (fBz h0 hB0) (frC_of (by decide +kernel))) ?_
    rintro IhB1 _ hB1 fhB1 ⟨rfl, ehB1⟩
    refine And.intro ⟨rfl, by decide, by decide⟩ ?_
    refine And.intro ⟨rfl, by decide, by decide⟩ ?_
    refine Exists.intro xm_75 (And.intro mi_75 (And.intro ⟨rfl, rfl, rfl, rfl⟩ (And.intro True.intro ?_)))
    refine fcall _ h0 (fzs_sub (by decide +kernel) hW) hB1 (ct_copyRow (W := [189]) (len := 12) (fBz h0 hB1) (frC_of (by decide +kernel))) ?_
    rintro IhB2 _ hB2 fhB2 ⟨rfl, ehB2⟩
    refine And.intro ⟨rfl, by decide, by decide⟩ ?_
    refine And.intro ⟨rfl, by decide, by decide⟩ ?_
    refine Exists.intro xm_75 (And.intro mi_75 (And.intro ⟨rfl, rfl, rfl, rfl⟩ (And.intro True.intro ?_)))
    refine fcall _ h0 (fzs_sub (by decide +kernel) hW) hB2 (ct_copyRow (W := [190]) (len := 12) (fBz h0 hB2) (frC_of (by decide +kernel))) ?_
    rintro IhB3 _ hB3 fhB3 ⟨rfl, ehB3⟩
    refine And.intro ⟨rfl, by decide, by decide⟩ ?_
    refine And.intro ⟨rfl, by decide, by decide⟩ ?_
    refine Exists.intro xm_75 (And.intro mi_75 (And.intro ⟨rfl, rfl, rfl, rfl⟩ (And.intro True.intro ?_)))
    refine fcall _ h0 (fzs_sub (by decide +kernel) hW) hB3 (ct_copyRow (W := [191]) (len := 12) (fBz h0 hB3) (frC_of (by decide +kernel))) ?_
    rintro IhB4 _ hB4 fhB4 ⟨rfl, ehB4⟩
    refine And.intro ⟨rfl, by decide, by decide⟩ ?_
    refine And.intro ⟨rfl, by decide, by decide⟩ ?_
    refine Exists.intro xm_75 (And.intro mi_75 (And.intro ⟨rfl, rfl, rfl, rfl⟩ (And.intro True.intro ?_)))
    refine fcall _ h0 (fzs_sub (by decide +kernel) hW) hB4 (ct_copyRow (W := [192]) (len := 12) (fBz h0 hB4) (frC_of (by decide +kernel))) ?_
    rintro IhB5 _ hB5 fhB5 ⟨rfl, ehB5⟩
    refine And.intro ⟨rfl, by decide, by decide⟩ ?_
    refine And.intro ⟨rfl, by decide, by decide⟩ ?_
    refine Exists.intro xm_225 (And.intro mi_225 (And.intro ⟨rfl, rfl, rfl, rfl⟩ (And.intro True.intro ?_)))
    refine fcall _ h0 (fzs_sub (by decide +kernel) hW) hB5 (ct_copyRows (W := [193]) (m := 12) (len := 96) (ro := 450) (rd := 194) (fBz h0 hB5) (frCs_of ⟨rfl, rfl, rfl, rfl, by decide⟩ (by decide +kernel))) ?_
    rintro IhB6 _ hB6 fhB6 ⟨rfl, ehB6⟩
    refine And.intro ⟨rfl, by decide, by decide⟩ (fgetf fb_443_6 h0 hB6 ?_)
    intro z7 lz7 uz7 qz7
    refine And.intro ⟨rfl, by decide, by decide⟩ (And.intro rfl (And.intro (Or.inl rfl) (fputf fb_187_6 (by decide +kernel) hW (by first | exact ⟨lz7, uz7⟩ | omega) ?_)))
    intro IhB8 ehB8 hB8
    have t9 := fup_at ehB8 6 (by first | rfl | omega)
    have t10 : IhB8 443 6 = IhB6 443 6 := (congrFun (congrFun ehB8 443) 6).trans (fup_ne (by first | decide | omega))
    refine And.intro ⟨rfl, by decide, by decide⟩ (fgetf fb_443_7 h0 hB8 ?_)
    intro z11 lz11 uz11 qz11
    refine And.intro ⟨rfl, by decide, by decide⟩ (And.intro rfl (And.intro (Or.inl rfl) (fputf fb_187_7 (by decide +kernel) hW (by first | exact ⟨lz11, uz11⟩ | omega) ?_)))
    intro IhB12 ehB12 hB12
    have t13 : IhB12 187 6 = IhB8 187 6 := (congrFun (congrFun ehB12 187) 6).trans (fup_ne (by first | decide | omega))
    have t14 := fup_at ehB12 7 (by first | rfl | omega)
    have t15 : IhB12 443 6 = IhB8 443 6 := (congrFun (congrFun ehB12 443) 6).trans (fup_ne (by first | decide | omega))
    have t16 : IhB12 443 7 = IhB8 443 7 := (congrFun (congrFun ehB12 443) 7).trans (fup_ne (by first | decide | omega))
    refine And.intro ⟨rfl, by decide, by decide⟩ (fgetf fb_443_8 h0 hB12 ?_)
    intro z17 lz17 uz17 qz17
    refine And.intro ⟨rfl, by decide, by decide⟩ (And.intro rfl (And.intro (Or.inr ⟨rfl, by omega⟩) (fputf fb_187_8 (by decide +kernel) hW (by first | exact ⟨lz17, uz17⟩ | omega) ?_)))
    intro IhB18 ehB18 hB18
    have t19 : IhB18 187 6 = IhB12 187 6 := (congrFun (congrFun ehB18 187) 6).trans (fup_ne (by first | decide | omega))
    have t20 : IhB18 187 7 = IhB12 187 7 := (congrFun (congrFun ehB18 187) 7).trans (fup_ne (by first | decide | omega))
    have t21 := fup_at ehB18 8 (by first | rfl | omega)
    have t22 : IhB18 443 6 = IhB12 443 6 := (congrFun (congrFun ehB18 443) 6).trans (fup_ne (by first | decide | omega))
    have t23 : IhB18 443 7 = IhB12 443 7 := (congrFun (congrFun ehB18 443) 7).trans (fup_ne (by first | decide | omega))
    have t24 : IhB18 443 8 = IhB12 443 8 := (congrFun (congrFun ehB18 443) 8).trans (fup_ne (by first | decide | omega))
    refine And.intro ⟨rfl, by decide, by decide⟩ ?_
    refine And.intro ⟨rfl, by decide, by decide⟩ ?_
    refine Exists.intro xm_75 (And.intro mi_75 (And.intro ⟨rfl, rfl, rfl, rfl⟩ (And.intro True.intro ?_)))
    refine fcall _ h0 (fzs_sub (by decide +kernel) hW) hB18 (ct_copyRow (W := [206]) (len := 24) (fBz h0 hB18) (frC_of (by decide +kernel))) ?_
    rintro IhB25 _ hB25 fhB25 ⟨rfl, ehB25⟩
    have t26 := fhB25 187 6 (by decide +kernel)
    have t27 := fhB25 187 7 (by decide +kernel)
    have t28 := fhB25 187 8 (by decide +kernel)
    have t29 := fhB25 443 6 (by decide +kernel)
    have t30 := fhB25 443 7 (by decide +kernel)
    have t31 := fhB25 443 8 (by decide +kernel)
    exact rfl
set_option maxRecDepth 8000 in
theorem ct_Desk_becomeAs_db7c8 {I : fH}  (h0 : fB bsJ I)  : fC ρ base n F xTc vwCl xTys D dA la gJ (fbz bsJ znJ (fKc wz_ba624) I) xm_231 [.inr (.inr (some 211)), .inr (.inr (some 467))] I (fun I' r => r = none ∧ (I' 211 8 = I 467 8 ∧ I' 211 11 = I 467 11 ∧ I' 211 15 = I 467 15) ∧ (∀ i j : Nat, i < 8 → j < 12 → I' (213 + i) j = I (469 + i) j) ∧ (∀ j : Nat, j < 8 → I' 221 j = I 477 j) ∧ (∀ j : Nat, j < 48 → I' 222 j = I 478 j) ∧ (∀ j : Nat, j < 4 → I' 223 j = I 479 j) ∧ (∀ i j : Nat, i < 24 → j < 4 → I' (225 + i) j = I (481 + i) j) ∧ (∀ j : Nat, j < 6 → I' 249 j = I 505 j) ∧ (∀ j : Nat, j < 6 → I' 250 j = I 506 j) ∧ (∀ j : Nat, j < 6 → I' 251 j = I 507 j) ∧ (∀ j : Nat, j < 10 → I' 252 j = I 508 j) ∧ (∀ j : Nat, j < 10 → I' 253 j = I 509 j) ∧ (∀ j : Nat, j < 7 → I' 254 j = I 510 j) ∧ (∀ j : Nat, j < 7 → I' 255 j = I 511 j) ∧ (∀ j : Nat, j < 7 → I' 256 j = I 512 j)) := by
  have hW : fzs wz_ba624 (fKc wz_ba624) := fKc_ok _
  refine f_meth (rb := rbJ) (J := []) 1 400 xG xin_231 x6_231 okJ (fB_self h0) ?_ ?_
  · exact fun q h => absurd h List.not_mem_nil
  · have hB0 := fB_self (zn := znJ) (K := fKc wz_ba624) h0
    refine And.intro ⟨rfl, by decide, by decide⟩ ?_
    refine And.intro ⟨rfl, by decide, by decide⟩ ?_
    refine Exists.intro xm_225 (And.intro mi_225 (And.intro ⟨rfl, rfl, rfl, rfl⟩ (And.intro True.intro ?_)))
    refine fcall _ h0 (fzs_sub (by decide +kernel) hW) hB0 (ct_copyRows (W := [212]) (m := 8) (len := 12) (ro := 469) (rd := 213) (fBz h0 hB0) (frCs_of ⟨rfl, rfl, rfl, rfl, by decide⟩ (by decide +kernel))) ?_
    rintro IhB1 _ hB1 fhB1 ⟨rfl, ehB1⟩
    refine And.intro ⟨rfl, by decide, by decide⟩ ?_
    refine And.intro ⟨rfl, by decide, by decide⟩ ?_
    refine Exists.intro xm_75 (And.intro mi_75 (And.intro ⟨rfl, rfl, rfl, rfl⟩ (And.intro True.intro ?_)))
    refine fcall _ h0 (fzs_sub (by decide +kernel) hW) hB1 (ct_copyRow (W := [221]) (len := 8) (fBz h0 hB1) (frC_of (by decide +kernel))) ?_
    rintro IhB2 _ hB2 fhB2 ⟨rfl, ehB2⟩
    refine And.intro ⟨rfl, by decide, by decide⟩ ?_
    refine And.intro ⟨rfl, by decide, by decide⟩ ?_
    refine Exists.intro xm_75 (And.intro mi_75 (And.intro ⟨rfl, rfl, rfl, rfl⟩ (And.intro True.intro ?_)))
    refine fcall _ h0 (fzs_sub (by decide +kernel) hW) hB2 (ct_copyRow (W := [222]) (len := 48) (fBz h0 hB2) (frC_of (by decide +kernel))) ?_
    rintro IhB3 _ hB3 fhB3 ⟨rfl, ehB3⟩
    refine And.intro ⟨rfl, by decide, by decide⟩ ?_
    refine And.intro ⟨rfl, by decide, by decide⟩ ?_
    refine Exists.intro xm_75 (And.intro mi_75 (And.intro ⟨rfl, rfl, rfl, rfl⟩ (And.intro True.intro ?_)))
    refine fcall _ h0 (fzs_sub (by decide +kernel) hW) hB3 (ct_copyRow (W := [223]) (len := 4) (fBz h0 hB3) (frC_of (by decide +kernel))) ?_
    rintro IhB4 _ hB4 fhB4 ⟨rfl, ehB4⟩
    refine And.intro ⟨rfl, by decide, by decide⟩ ?_
    refine And.intro ⟨rfl, by decide, by decide⟩ ?_
    refine Exists.intro xm_225 (And.intro mi_225 (And.intro ⟨rfl, rfl, rfl, rfl⟩ (And.intro True.intro ?_)))
    refine fcall _ h0 (fzs_sub (by decide +kernel) hW) hB4 (ct_copyRows (W := [224]) (m := 24) (len := 4) (ro := 481) (rd := 225) (fBz h0 hB4) (frCs_of ⟨rfl, rfl, rfl, rfl, by decide⟩ (by decide +kernel))) ?_
    rintro IhB5 _ hB5 fhB5 ⟨rfl, ehB5⟩
    refine And.intro ⟨rfl, by decide, by decide⟩ ?_
    refine And.intro ⟨rfl, by decide, by decide⟩ ?_
    refine Exists.intro xm_75 (And.intro mi_75 (And.intro ⟨rfl, rfl, rfl, rfl⟩ (And.intro True.intro ?_)))
    refine fcall _ h0 (fzs_sub (by decide +kernel) hW) hB5 (ct_copyRow (W := [249]) (len := 6) (fBz h0 hB5) (frC_of (by decide +kernel))) ?_
    rintro IhB6 _ hB6 fhB6 ⟨rfl, ehB6⟩
    refine And.intro ⟨rfl, by decide, by decide⟩ ?_
    refine And.intro ⟨rfl, by decide, by decide⟩ ?_
    refine Exists.intro xm_75 (And.intro mi_75 (And.intro ⟨rfl, rfl, rfl, rfl⟩ (And.intro True.intro ?_)))
    refine fcall _ h0 (fzs_sub (by decide +kernel) hW) hB6 (ct_copyRow (W := [250]) (len := 6) (fBz h0 hB6) (frC_of (by decide +kernel))) ?_
    rintro IhB7 _ hB7 fhB7 ⟨rfl, ehB7⟩
    refine And.intro ⟨rfl, by decide, by decide⟩ ?_
    refine And.intro ⟨rfl, by decide, by decide⟩ ?_
    refine Exists.intro xm_75 (And.intro mi_75 (And.intro ⟨rfl, rfl, rfl, rfl⟩ (And.intro True.intro ?_)))
    refine fcall _ h0 (fzs_sub (by decide +kernel) hW) hB7 (ct_copyRow (W := [251]) (len := 6) (fBz h0 hB7) (frC_of (by decide +kernel))) ?_
    rintro IhB8 _ hB8 fhB8 ⟨rfl, ehB8⟩
    refine And.intro ⟨rfl, by decide, by decide⟩ (fgetf fb_467_8 h0 hB8 ?_)
    intro z9 lz9 uz9 qz9
    have k10 := fBz_eq hB8 (a := 467) (j := 8) (by decide +kernel)
    refine And.intro ⟨rfl, by decide, by decide⟩ (And.intro rfl (And.intro (Or.inl rfl) (fputf fb_211_8 (by decide +kernel) hW (by first | exact ⟨lz9, uz9⟩ | omega) ?_)))
    intro IhB11 ehB11 hB11
    have t12 := fup_at ehB11 8 (by first | rfl | omega)
    refine And.intro ⟨rfl, by decide, by decide⟩ ?_
    refine And.intro ⟨rfl, by decide, by decide⟩ ?_
    refine Exists.intro xm_75 (And.intro mi_75 (And.intro ⟨rfl, rfl, rfl, rfl⟩ (And.intro True.intro ?_)))
    refine fcall _ h0 (fzs_sub (by decide +kernel) hW) hB11 (ct_copyRow (W := [252]) (len := 10) (fBz h0 hB11) (frC_of (by decide +kernel))) ?_
    rintro IhB13 _ hB13 fhB13 ⟨rfl, ehB13⟩
    have t14 := fhB13 211 8 (by decide +kernel)
    refine And.intro ⟨rfl, by decide, by decide⟩ ?_
    refine And.intro ⟨rfl, by decide, by decide⟩ ?_
    refine Exists.intro xm_75 (And.intro mi_75 (And.intro ⟨rfl, rfl, rfl, rfl⟩ (And.intro True.intro ?_)))
    refine fcall _ h0 (fzs_sub (by decide +kernel) hW) hB13 (ct_copyRow (W := [253]) (len := 10) (fBz h0 hB13) (frC_of (by decide +kernel))) ?_
    rintro IhB15 _ hB15 fhB15 ⟨rfl, ehB15⟩
    have t16 := fhB15 211 8 (by decide +kernel)
    refine And.intro ⟨rfl, by decide, by decide⟩ (fgetf fb_467_11 h0 hB15 ?_)
    intro z17 lz17 uz17 qz17
    have k18 := fBz_eq hB15 (a := 467) (j := 11) (by decide +kernel)
    refine And.intro ⟨rfl, by decide, by decide⟩ (And.intro rfl (And.intro (Or.inl rfl) (fputf fb_211_11 (by decide +kernel) hW (by first | exact ⟨lz17, uz17⟩ | omega) ?_)))
    intro IhB19 ehB19 hB19
    have t20 : IhB19 211 8 = IhB15 211 8 := (congrFun (congrFun ehB19 211) 8).trans (fup_ne (by first | decide | omega))
    have t21 := fup_at ehB19 11 (by first | rfl | omega)
    refine And.intro ⟨rfl, by decide, by decide⟩ ?_
    refine And.intro ⟨rfl, by decide, by decide⟩ ?_
    refine Exists.intro xm_75 (And.intro mi_75 (And.intro ⟨rfl, rfl, rfl, rfl⟩ (And.intro True.intro ?_)))
    refine fcall _ h0 (fzs_sub (by decide +kernel) hW) hB19 (ct_copyRow (W := [254]) (len := 7) (fBz h0 hB19) (frC_of (by decide +kernel))) ?_
    rintro IhB22 _ hB22 fhB22 ⟨rfl, ehB22⟩
    have t23 := fhB22 211 8 (by decide +kernel)
    have t24 := fhB22 211 11 (by decide +kernel)
    refine And.intro ⟨rfl, by decide, by decide⟩ ?_
    refine And.intro ⟨rfl, by decide, by decide⟩ ?_
    refine Exists.intro xm_75 (And.intro mi_75 (And.intro ⟨rfl, rfl, rfl, rfl⟩ (And.intro True.intro ?_)))
    refine fcall _ h0 (fzs_sub (by decide +kernel) hW) hB22 (ct_copyRow (W := [255]) (len := 7) (fBz h0 hB22) (frC_of (by decide +kernel))) ?_
    rintro IhB25 _ hB25 fhB25 ⟨rfl, ehB25⟩
    have t26 := fhB25 211 8 (by decide +kernel)
    have t27 := fhB25 211 11 (by decide +kernel)
    refine And.intro ⟨rfl, by decide, by decide⟩ ?_
    refine And.intro ⟨rfl, by decide, by decide⟩ ?_
    refine Exists.intro xm_75 (And.intro mi_75 (And.intro ⟨rfl, rfl, rfl, rfl⟩ (And.intro True.intro ?_)))
    refine fcall _ h0 (fzs_sub (by decide +kernel) hW) hB25 (ct_copyRow (W := [256]) (len := 7) (fBz h0 hB25) (frC_of (by decide +kernel))) ?_
    rintro IhB28 _ hB28 fhB28 ⟨rfl, ehB28⟩
    have t29 := fhB28 211 8 (by decide +kernel)
    have t30 := fhB28 211 11 (by decide +kernel)
    refine And.intro ⟨rfl, by decide, by decide⟩ (fgetf fb_467_15 h0 hB28 ?_)
    intro z31 lz31 uz31 qz31
    have k32 := fBz_eq hB28 (a := 467) (j := 15) (by decide +kernel)
    refine And.intro ⟨rfl, by decide, by decide⟩ (And.intro rfl (And.intro (Or.inl rfl) (fputf fb_211_15 (by decide +kernel) hW (by first | exact ⟨lz31, uz31⟩ | omega) ?_)))
    intro IhB33 ehB33 hB33
    have t34 : IhB33 211 8 = IhB28 211 8 := (congrFun (congrFun ehB33 211) 8).trans (fup_ne (by first | decide | omega))
    have t35 : IhB33 211 11 = IhB28 211 11 := (congrFun (congrFun ehB33 211) 11).trans (fup_ne (by first | decide | omega))
    have t36 := fup_at ehB33 15 (by first | rfl | omega)
    exact ⟨rfl, by omega, (fun i j hi hj => ((fup_other ehB33 (213 + i) j (Or.inl (by omega))).trans (((congrFun (congrFun ehB28 (213 + i)) j).trans (fcpy_ne (by omega))).trans (((congrFun (congrFun ehB25 (213 + i)) j).trans (fcpy_ne (by omega))).trans (((congrFun (congrFun ehB22 (213 + i)) j).trans (fcpy_ne (by omega))).trans ((fup_other ehB19 (213 + i) j (Or.inl (by omega))).trans (((congrFun (congrFun ehB15 (213 + i)) j).trans (fcpy_ne (by omega))).trans (((congrFun (congrFun ehB13 (213 + i)) j).trans (fcpy_ne (by omega))).trans ((fup_other ehB11 (213 + i) j (Or.inl (by omega))).trans (((congrFun (congrFun ehB8 (213 + i)) j).trans (fcpy_ne (by omega))).trans (((congrFun (congrFun ehB7 (213 + i)) j).trans (fcpy_ne (by omega))).trans (((congrFun (congrFun ehB6 (213 + i)) j).trans (fcpy_ne (by omega))).trans ((fFr_rows fhB5 (r := 213) (m := 8) (len := 12) (by decide +kernel) i j hi hj).trans (((congrFun (congrFun ehB4 (213 + i)) j).trans (fcpy_ne (by omega))).trans (((congrFun (congrFun ehB3 (213 + i)) j).trans (fcpy_ne (by omega))).trans (((congrFun (congrFun ehB2 (213 + i)) j).trans (fcpy_ne (by omega))).trans (ehB1 i hi j hj))))))))))))))))), (fun j hj => ((fup_other ehB33 221 j (Or.inl (by omega))).trans (((congrFun (congrFun ehB28 221) j).trans (fcpy_ne (by omega))).trans (((congrFun (congrFun ehB25 221) j).trans (fcpy_ne (by omega))).trans (((congrFun (congrFun ehB22 221) j).trans (fcpy_ne (by omega))).trans ((fup_other ehB19 221 j (Or.inl (by omega))).trans (((congrFun (congrFun ehB15 221) j).trans (fcpy_ne (by omega))).trans (((congrFun (congrFun ehB13 221) j).trans (fcpy_ne (by omega))).trans ((fup_other ehB11 221 j (Or.inl (by omega))).trans (((congrFun (congrFun ehB8 221) j).trans (fcpy_ne (by omega))).trans (((congrFun (congrFun ehB7 221) j).trans (fcpy_ne (by omega))).trans (((congrFun (congrFun ehB6 221) j).trans (fcpy_ne (by omega))).trans ((fFr_at fhB5 221 (by decide +kernel) rfl j).trans (((congrFun (congrFun ehB4 221) j).trans (fcpy_ne (by omega))).trans (((congrFun (congrFun ehB3 221) j).trans (fcpy_ne (by omega))).trans (((congrFun (congrFun ehB2 221) j).trans (fcpy_at hj)).trans (fFr_at (fFr_of hB1) 477 (by decide +kernel) rfl j))))))))))))))))), (fun j hj => ((fup_other ehB33 222 j (Or.inl (by omega))).trans (((congrFun (congrFun ehB28 222) j).trans (fcpy_ne (by omega))).trans (((congrFun (congrFun ehB25 222) j).trans (fcpy_ne (by omega))).trans (((congrFun (congrFun ehB22 222) j).trans (fcpy_ne (by omega))).trans ((fup_other ehB19 222 j (Or.inl (by omega))).trans (((congrFun (congrFun ehB15 222) j).trans (fcpy_ne (by omega))).trans (((congrFun (congrFun ehB13 222) j).trans (fcpy_ne (by omega))).trans ((fup_other ehB11 222 j (Or.inl (by omega))).trans (((congrFun (congrFun ehB8 222) j).trans (fcpy_ne (by omega))).trans (((congrFun (congrFun ehB7 222) j).trans (fcpy_ne (by omega))).trans (((congrFun (congrFun ehB6 222) j).trans (fcpy_ne (by omega))).trans ((fFr_at fhB5 222 (by decide +kernel) rfl j).trans (((congrFun (congrFun ehB4 222) j).trans (fcpy_ne (by omega))).trans (((congrFun (congrFun ehB3 222) j).trans (fcpy_at hj)).trans (fFr_at (fFr_of hB2) 478 (by decide +kernel) rfl j)))))))))))))))), (fun j hj => ((fup_other ehB33 223 j (Or.inl (by omega))).trans (((congrFun (congrFun ehB28 223) j).trans (fcpy_ne (by omega))).trans (((congrFun (congrFun ehB25 223) j).trans (fcpy_ne (by omega))).trans (((congrFun (congrFun ehB22 223) j).trans (fcpy_ne (by omega))).trans ((fup_other ehB19 223 j (Or.inl (by omega))).trans (((congrFun (congrFun ehB15 223) j).trans (fcpy_ne (by omega))).trans (((congrFun (congrFun ehB13 223) j).trans (fcpy_ne (by omega))).trans ((fup_other ehB11 223 j (Or.inl (by omega))).trans (((congrFun (congrFun ehB8 223) j).trans (fcpy_ne (by omega))).trans (((congrFun (congrFun ehB7 223) j).trans (fcpy_ne (by omega))).trans (((congrFun (congrFun ehB6 223) j).trans (fcpy_ne (by omega))).trans ((fFr_at fhB5 223 (by decide +kernel) rfl j).trans (((congrFun (congrFun ehB4 223) j).trans (fcpy_at hj)).trans (fFr_at (fFr_of hB3) 479 (by decide +kernel) rfl j))))))))))))))), (fun i j hi hj => ((fup_other ehB33 (225 + i) j (Or.inl (by omega))).trans (((congrFun (congrFun ehB28 (225 + i)) j).trans (fcpy_ne (by omega))).trans (((congrFun (congrFun ehB25 (225 + i)) j).trans (fcpy_ne (by omega))).trans (((congrFun (congrFun ehB22 (225 + i)) j).trans (fcpy_ne (by omega))).trans ((fup_other ehB19 (225 + i) j (Or.inl (by omega))).trans (((congrFun (congrFun ehB15 (225 + i)) j).trans (fcpy_ne (by omega))).trans (((congrFun (congrFun ehB13 (225 + i)) j).trans (fcpy_ne (by omega))).trans ((fup_other ehB11 (225 + i) j (Or.inl (by omega))).trans (((congrFun (congrFun ehB8 (225 + i)) j).trans (fcpy_ne (by omega))).trans (((congrFun (congrFun ehB7 (225 + i)) j).trans (fcpy_ne (by omega))).trans (((congrFun (congrFun ehB6 (225 + i)) j).trans (fcpy_ne (by omega))).trans ((ehB5 i hi j hj).trans (fFr_rows (fFr_of hB4) (r := 481) (m := 24) (len := 4) (by decide +kernel) i j hi hj)))))))))))))), (fun j hj => ((fup_other ehB33 249 j (Or.inl (by omega))).trans (((congrFun (congrFun ehB28 249) j).trans (fcpy_ne (by omega))).trans (((congrFun (congrFun ehB25 249) j).trans (fcpy_ne (by omega))).trans (((congrFun (congrFun ehB22 249) j).trans (fcpy_ne (by omega))).trans ((fup_other ehB19 249 j (Or.inl (by omega))).trans (((congrFun (congrFun ehB15 249) j).trans (fcpy_ne (by omega))).trans (((congrFun (congrFun ehB13 249) j).trans (fcpy_ne (by omega))).trans ((fup_other ehB11 249 j (Or.inl (by omega))).trans (((congrFun (congrFun ehB8 249) j).trans (fcpy_ne (by omega))).trans (((congrFun (congrFun ehB7 249) j).trans (fcpy_ne (by omega))).trans (((congrFun (congrFun ehB6 249) j).trans (fcpy_at hj)).trans (fFr_at (fFr_of hB5) 505 (by decide +kernel) rfl j))))))))))))), (fun j hj => ((fup_other ehB33 250 j (Or.inl (by omega))).trans (((congrFun (congrFun ehB28 250) j).trans (fcpy_ne (by omega))).trans (((congrFun (congrFun ehB25 250) j).trans (fcpy_ne (by omega))).trans (((congrFun (congrFun ehB22 250) j).trans (fcpy_ne (by omega))).trans ((fup_other ehB19 250 j (Or.inl (by omega))).trans (((congrFun (congrFun ehB15 250) j).trans (fcpy_ne (by omega))).trans (((congrFun (congrFun ehB13 250) j).trans (fcpy_ne (by omega))).trans ((fup_other ehB11 250 j (Or.inl (by omega))).trans (((congrFun (congrFun ehB8 250) j).trans (fcpy_ne (by omega))).trans (((congrFun (congrFun ehB7 250) j).trans (fcpy_at hj)).trans (fFr_at (fFr_of hB6) 506 (by decide +kernel) rfl j)))))))))))), (fun j hj => ((fup_other ehB33 251 j (Or.inl (by omega))).trans (((congrFun (congrFun ehB28 251) j).trans (fcpy_ne (by omega))).trans (((congrFun (congrFun ehB25 251) j).trans (fcpy_ne (by omega))).trans (((congrFun (congrFun ehB22 251) j).trans (fcpy_ne (by omega))).trans ((fup_other ehB19 251 j (Or.inl (by omega))).trans (((congrFun (congrFun ehB15 251) j).trans (fcpy_ne (by omega))).trans (((congrFun (congrFun ehB13 251) j).trans (fcpy_ne (by omega))).trans ((fup_other ehB11 251 j (Or.inl (by omega))).trans (((congrFun (congrFun ehB8 251) j).trans (fcpy_at hj)).trans (fFr_at (fFr_of hB7) 507 (by decide +kernel) rfl j))))))))))), (fun j hj => ((fup_other ehB33 252 j (Or.inl (by omega))).trans (((congrFun (congrFun ehB28 252) j).trans (fcpy_ne (by omega))).trans (((congrFun (congrFun ehB25 252) j).trans (fcpy_ne (by omega))).trans (((congrFun (congrFun ehB22 252) j).trans (fcpy_ne (by omega))).trans ((fup_other ehB19 252 j (Or.inl (by omega))).trans (((congrFun (congrFun ehB15 252) j).trans (fcpy_ne (by omega))).trans (((congrFun (congrFun ehB13 252) j).trans (fcpy_at hj)).trans (fFr_at (fFr_of hB11) 508 (by decide +kernel) rfl j))))))))), (fun j hj => ((fup_other ehB33 253 j (Or.inl (by omega))).trans (((congrFun (congrFun ehB28 253) j).trans (fcpy_ne (by omega))).trans (((congrFun (congrFun ehB25 253) j).trans (fcpy_ne (by omega))).trans (((congrFun (congrFun ehB22 253) j).trans (fcpy_ne (by omega))).trans ((fup_other ehB19 253 j (Or.inl (by omega))).trans (((congrFun (congrFun ehB15 253) j).trans (fcpy_at hj)).trans (fFr_at (fFr_of hB13) 509 (by decide +kernel) rfl j)))))))), (fun j hj => ((fup_other ehB33 254 j (Or.inl (by omega))).trans (((congrFun (congrFun ehB28 254) j).trans (fcpy_ne (by omega))).trans (((congrFun (congrFun ehB25 254) j).trans (fcpy_ne (by omega))).trans (((congrFun (congrFun ehB22 254) j).trans (fcpy_at hj)).trans (fFr_at (fFr_of hB19) 510 (by decide +kernel) rfl j)))))), (fun j hj => ((fup_other ehB33 255 j (Or.inl (by omega))).trans (((congrFun (congrFun ehB28 255) j).trans (fcpy_ne (by omega))).trans (((congrFun (congrFun ehB25 255) j).trans (fcpy_at hj)).trans (fFr_at (fFr_of hB22) 511 (by decide +kernel) rfl j))))), (fun j hj => ((fup_other ehB33 256 j (Or.inl (by omega))).trans (((congrFun (congrFun ehB28 256) j).trans (fcpy_at hj)).trans (fFr_at (fFr_of hB25) 512 (by decide +kernel) rfl j))))⟩
set_option maxRecDepth 8000 in
theorem ct_X_back_43189 {I : fH}  (h0 : fB bsJ I)  : fC ρ base n F xTc vwCl xTys D dA la gJ (fbz bsJ znJ (fKc wz_0c714) I) xm_232 [.inr (.inr (some 0))] I (fun I' r => ∃ z, r = some (.inl z) ∧ (((-2147483648) ≤ z ∧ z ≤ 2147483647) ∧ (((I 0 6 = 1 → I' 1 9 = I 257 9 ∧ I' 2 5 = I 258 5 ∧ I' 2 10 = I 258 10 ∧ I' 211 8 = I 467 8 ∧ I' 211 11 = I 467 11 ∧ I' 211 15 = I 467 15 ∧ z = I 257 9) ∧ (I 0 6 ≠ 1 → I' 1 9 = I 1 9 ∧ I' 2 5 = I 2 5 ∧ I' 2 10 = I 2 10 ∧ I' 211 8 = I 211 8 ∧ I' 211 11 = I 211 11 ∧ I' 211 15 = I 211 15 ∧ z = (-1000000002))) ∧ (I 0 6 = 1 → I' 163 13 = I 419 13) ∧ (I 0 6 ≠ 1 → I' 163 13 = I 163 13))) ∧ (I 0 6 ≠ 1 → I' = I) ∧ (I 0 6 = 1 → ∀ j : Nat, j < 24 → I' 164 j = I 420 j) ∧ (I 0 6 = 1 → ∀ i j : Nat, i < 3 → j < 61 → I' (184 + i) j = I (440 + i) j) ∧ (I 0 6 = 1 → ∀ i j : Nat, i < 8 → j < 12 → I' (213 + i) j = I (469 + i) j) ∧ (I 0 6 = 1 → ∀ j : Nat, j < 8 → I' 221 j = I 477 j) ∧ (I 0 6 = 1 → ∀ j : Nat, j < 48 → I' 222 j = I 478 j) ∧ (I 0 6 = 1 → ∀ j : Nat, j < 4 → I' 223 j = I 479 j) ∧ (I 0 6 = 1 → ∀ i j : Nat, i < 24 → j < 4 → I' (225 + i) j = I (481 + i) j) ∧ (I 0 6 = 1 → ∀ j : Nat, j < 6 → I' 249 j = I 505 j) ∧ (I 0 6 = 1 → ∀ j : Nat, j < 6 → I' 250 j = I 506 j) ∧ (I 0 6 = 1 → ∀ j : Nat, j < 6 → I' 251 j = I 507 j) ∧ (I 0 6 = 1 → ∀ j : Nat, j < 10 → I' 252 j = I 508 j) ∧ (I 0 6 = 1 → ∀ j : Nat, j < 10 → I' 253 j = I 509 j) ∧ (I 0 6 = 1 → ∀ j : Nat, j < 7 → I' 254 j = I 510 j) ∧ (I 0 6 = 1 → ∀ j : Nat, j < 7 → I' 255 j = I 511 j) ∧ (I 0 6 = 1 → ∀ j : Nat, j < 7 → I' 256 j = I 512 j)) := by
  have hW : fzs wz_0c714 (fKc wz_0c714) := fKc_ok _
  refine f_meth (rb := rbJ) (J := []) 1 400 xG xin_232 x6_232 okJ (fB_self h0) ?_ ?_
  · exact fun q h => absurd h List.not_mem_nil
  · have hB0 := fB_self (zn := znJ) (K := fKc wz_0c714) h0
    refine And.intro ⟨rfl, by decide, by decide⟩ (fgetf fb_0_6 h0 hB0 ?_)
    intro z1 lz1 uz1 qz1
    refine And.intro (by first | exact fi_ lz1 uz1 rfl | omega) (And.intro ?_ ?_)
    · intro c2
      refine And.intro ⟨rfl, by decide, by decide⟩ ?_
      refine And.intro ⟨rfl, by decide, by decide⟩ ?_
      refine Exists.intro xm_223 (And.intro mi_223 (And.intro ⟨rfl, rfl, rfl, rfl⟩ (And.intro rfl ?_)))
      refine fcall _ h0 (fzs_sub (by decide +kernel) hW) hB0 (ct_City_becomeAs_a5ef7 (fBz h0 hB0)) ?_
      rintro IhB4 _ hB4 fhB4 ⟨rfl, hz3, g0z3, g1z3⟩
      have t5 := fhB4 0 6 (by decide +kernel)
      have t6 := fhB4 211 8 (by decide +kernel)
      have t7 := fhB4 211 11 (by decide +kernel)
      have t8 := fhB4 211 15 (by decide +kernel)
      have k9 := fBz_eq hB4 (a := 257) (j := 9) (by decide +kernel)
      have k10 := fBz_eq hB4 (a := 258) (j := 5) (by decide +kernel)
      have k11 := fBz_eq hB4 (a := 258) (j := 10) (by decide +kernel)
      have k12 := fBz_eq hB4 (a := 467) (j := 8) (by decide +kernel)
      have k13 := fBz_eq hB4 (a := 467) (j := 11) (by decide +kernel)
      have k14 := fBz_eq hB4 (a := 467) (j := 15) (by decide +kernel)
      have k15 := fBz_eq hB4 (a := 0) (j := 6) (by decide +kernel)
      have k16 := fBz_eq hB4 (a := 419) (j := 13) (by decide +kernel)
      refine And.intro ⟨rfl, by decide, by decide⟩ ?_
      refine And.intro ⟨rfl, by decide, by decide⟩ ?_
      refine Exists.intro xm_230 (And.intro mi_230 (And.intro ⟨rfl, rfl, rfl, rfl⟩ (And.intro rfl ?_)))
      refine fcall _ h0 (fzs_sub (by decide +kernel) hW) hB4 (ct_Charter_becomeAs_58e13 (fBz h0 hB4)) ?_
      rintro IhB18 _ hB18 fhB18 rfl
      have t19 := fhB18 0 6 (by decide +kernel)
      have t20 := fhB18 1 9 (by decide +kernel)
      have t21 := fhB18 2 5 (by decide +kernel)
      have t22 := fhB18 2 10 (by decide +kernel)
      have t23 := fhB18 163 13 (by decide +kernel)
      have t24 := fhB18 211 8 (by decide +kernel)
      have t25 := fhB18 211 11 (by decide +kernel)
      have t26 := fhB18 211 15 (by decide +kernel)
      have k27 := fBz_eq hB18 (a := 257) (j := 9) (by decide +kernel)
      have k28 := fBz_eq hB18 (a := 258) (j := 5) (by decide +kernel)
      have k29 := fBz_eq hB18 (a := 258) (j := 10) (by decide +kernel)
      have k30 := fBz_eq hB18 (a := 467) (j := 8) (by decide +kernel)
      have k31 := fBz_eq hB18 (a := 467) (j := 11) (by decide +kernel)
      have k32 := fBz_eq hB18 (a := 467) (j := 15) (by decide +kernel)
      have k33 := fBz_eq hB18 (a := 0) (j := 6) (by decide +kernel)
      have k34 := fBz_eq hB18 (a := 419) (j := 13) (by decide +kernel)
      refine And.intro ⟨rfl, by decide, by decide⟩ ?_
      refine And.intro ⟨rfl, by decide, by decide⟩ ?_
      refine Exists.intro xm_231 (And.intro mi_231 (And.intro ⟨rfl, rfl, rfl, rfl⟩ (And.intro rfl ?_)))
      refine fcall _ h0 (fzs_sub (by decide +kernel) hW) hB18 (ct_Desk_becomeAs_db7c8 (fBz h0 hB18)) ?_
      rintro IhB36 _ hB36 fhB36 ⟨rfl, hz35, g0z35, g1z35, g2z35, g3z35, g4z35, g5z35, g6z35, g7z35, g8z35, g9z35, g10z35, g11z35, g12z35⟩
      have t37 := fhB36 0 6 (by decide +kernel)
      have t38 := fhB36 1 9 (by decide +kernel)
      have t39 := fhB36 2 5 (by decide +kernel)
      have t40 := fhB36 2 10 (by decide +kernel)
      have t41 := fhB36 163 13 (by decide +kernel)
      have k42 := fBz_eq hB36 (a := 257) (j := 9) (by decide +kernel)
      have k43 := fBz_eq hB36 (a := 258) (j := 5) (by decide +kernel)
      have k44 := fBz_eq hB36 (a := 258) (j := 10) (by decide +kernel)
      have k45 := fBz_eq hB36 (a := 467) (j := 8) (by decide +kernel)
      have k46 := fBz_eq hB36 (a := 467) (j := 11) (by decide +kernel)
      have k47 := fBz_eq hB36 (a := 467) (j := 15) (by decide +kernel)
      have k48 := fBz_eq hB36 (a := 0) (j := 6) (by decide +kernel)
      have k49 := fBz_eq hB36 (a := 419) (j := 13) (by decide +kernel)
      refine And.intro ⟨rfl, by decide, by decide⟩ ?_
      refine And.intro ⟨rfl, by decide, by decide⟩ (fgetf fb_1_9 h0 hB36 ?_)
      intro z50 lz50 uz50 qz50
      refine And.intro (True.intro) ?_
      exact ⟨_, rfl, by omega, (fun q => absurd q (by omega)), (fun _ => (fun j hj => ((fFr_at fhB36 164 (by decide +kernel) rfl j).trans ((fFr_at fhB18 164 (by decide +kernel) rfl j).trans (g0z3 j hj))))), (fun _ => (fun i j hi hj => ((fFr_rows fhB36 (r := 184) (m := 3) (len := 61) (by decide +kernel) i j hi hj).trans ((fFr_rows fhB18 (r := 184) (m := 3) (len := 61) (by decide +kernel) i j hi hj).trans (g1z3 i j hi hj))))), (fun _ => (fun i j hi hj => ((g0z35 i j hi hj).trans (fFr_rows (fFr_of hB18) (r := 469) (m := 8) (len := 12) (by decide +kernel) i j hi hj)))), (fun _ => (fun j hj => ((g1z35 j hj).trans (fFr_at (fFr_of hB18) 477 (by decide +kernel) rfl j)))), (fun _ => (fun j hj => ((g2z35 j hj).trans (fFr_at (fFr_of hB18) 478 (by decide +kernel) rfl j)))), (fun _ => (fun j hj => ((g3z35 j hj).trans (fFr_at (fFr_of hB18) 479 (by decide +kernel) rfl j)))), (fun _ => (fun i j hi hj => ((g4z35 i j hi hj).trans (fFr_rows (fFr_of hB18) (r := 481) (m := 24) (len := 4) (by decide +kernel) i j hi hj)))), (fun _ => (fun j hj => ((g5z35 j hj).trans (fFr_at (fFr_of hB18) 505 (by decide +kernel) rfl j)))), (fun _ => (fun j hj => ((g6z35 j hj).trans (fFr_at (fFr_of hB18) 506 (by decide +kernel) rfl j)))), (fun _ => (fun j hj => ((g7z35 j hj).trans (fFr_at (fFr_of hB18) 507 (by decide +kernel) rfl j)))), (fun _ => (fun j hj => ((g8z35 j hj).trans (fFr_at (fFr_of hB18) 508 (by decide +kernel) rfl j)))), (fun _ => (fun j hj => ((g9z35 j hj).trans (fFr_at (fFr_of hB18) 509 (by decide +kernel) rfl j)))), (fun _ => (fun j hj => ((g10z35 j hj).trans (fFr_at (fFr_of hB18) 510 (by decide +kernel) rfl j)))), (fun _ => (fun j hj => ((g11z35 j hj).trans (fFr_at (fFr_of hB18) 511 (by decide +kernel) rfl j)))), (fun _ => (fun j hj => ((g12z35 j hj).trans (fFr_at (fFr_of hB18) 512 (by decide +kernel) rfl j))))⟩
    · intro c51
      refine And.intro (True.intro) ?_
      exact ⟨_, rfl, by omega, (fun _ => rfl), (fun q => absurd q (by omega)), (fun q => absurd q (by omega)), (fun q => absurd q (by omega)), (fun q => absurd q (by omega)), (fun q => absurd q (by omega)), (fun q => absurd q (by omega)), (fun q => absurd q (by omega)), (fun q => absurd q (by omega)), (fun q => absurd q (by omega)), (fun q => absurd q (by omega)), (fun q => absurd q (by omega)), (fun q => absurd q (by omega)), (fun q => absurd q (by omega)), (fun q => absurd q (by omega)), (fun q => absurd q (by omega))⟩
abbrev jc_M_back_d558f_12 (I0 : fH) : Nat → fL → List fV → fH → Prop := fun m lv st I => ∃ (y1 : Int), lv = [(0, .inr (.inr (some 740))), (1, .inl y1)] ∧ st = [] ∧ (((0 ≤ y1 ∧ y1 ≤ 4900) ∧ (1 ≤ I 740 3 ∧ I 740 3 ≤ 1) ∧ (I0 740 3 = 1)) ∧ (∀ j : Nat, (j : Int) < y1 → I 741 j = I0 742 j)) ∧ m = (1 + 1 * (4900 - y1) : Int).toNat
set_option maxRecDepth 8000 in
theorem ct_M_back_d558f {I : fH}  (h0 : fB bsJ I) (hp0 : I 740 3 = 1 → 2 ≤ I 742 3) : fC ρ base n F xTc vwCl xTys D dA la gJ (fbz bsJ znJ (fKc wz_6f285) I) xm_496 [.inr (.inr (some 740))] I (fun I' r => ∃ z, r = some (.inl z) ∧ (((0 ≤ z ∧ z ≤ 22000) ∨ z = (-1000000002)) ∧ ((I 740 3 = 1 → z = I 742 0) ∧ (I 740 3 ≠ 1 → z = (-1000000002)))) ∧ ((I 740 3 = 1 → ∀ j : Nat, j < 4900 → I' 741 j = I 742 j) ∧ (I 740 3 ≠ 1 → ∀ j, I' 741 j = I 741 j))) := by
  have hW : fzs wz_6f285 (fKc wz_6f285) := fKc_ok _
  refine f_meth (rb := rbJ) (J := [(12, (jc_M_back_d558f_12 I))]) 4902 400 xG xin_496 x6_496 okJ (fB_self h0) ?_ ?_
  · refine List.forall_mem_cons.mpr ⟨?_, fun q h => absurd h List.not_mem_nil⟩
    · rintro m _ _ I1 hB1 ⟨y1, rfl, rfl, ⟨hb, hx0⟩, hm⟩
      have k1 := fBz_eq hB1 (a := 740) (j := 3) (by decide +kernel)
      have k2 := fBz_eq hB1 (a := 742) (j := 3) (by decide +kernel)
      have k3 := fBz_eq hB1 (a := 742) (j := 0) (by decide +kernel)
      refine And.intro (And.intro (by first | exact fi_ hb.1.1 hb.1.2 rfl | omega) (by first | exact ⟨by decide, by decide⟩ | omega)) (And.intro ?_ ?_)
      · intro c4
        refine And.intro ⟨rfl, by decide, by decide⟩ ?_
        refine fload1 rL_741_741_0_0_1_0 h0 hB1 ⟨by decide, by decide⟩ (by first | exact ⟨by decide, by decide⟩ | omega) ?_
        intro z5 lz5 uz5 qz5
        have pz5 := fld_at qz5 0 (by omega)
        refine And.intro (True.intro) ?_
        have w0 := hx0 0 (by omega)
        exact ⟨_, rfl, by omega, ⟨fun _ j h => hx0 j (by omega), fun q => absurd q (by omega)⟩⟩
      · intro c6
        refine And.intro ⟨rfl, by decide, by decide⟩ ?_
        refine And.intro ⟨rfl, by decide, by decide⟩ ?_
        refine fload1 rL_742_742_0_4899_1_0 h0 hB1 ⟨by decide, by decide⟩ (by first | exact ⟨hb.1.1, Int.le_trans (Int.le_sub_one_of_lt (Int.lt_of_lt_of_le c6 (Int.le_refl _))) (by decide)⟩ | omega) ?_
        intro z7 lz7 uz7 qz7
        refine fstoreX (fzs_sub (by decide +kernel) hW) (img_bk (fBz h0 hB1) qz7 (by omega) (by omega)) ?_
        intro IhB8 ehB8 hB8
        have t9 := fup_self ehB8
        have t10 : IhB8 740 3 = I1 740 3 := (congrFun (congrFun ehB8 740) 3).trans (fup_ne (by first | exact Or.inl (by decide) | omega))
        have k11 := fBz_eq hB8 (a := 740) (j := 3) (by decide +kernel)
        have k12 := fBz_eq hB8 (a := 742) (j := 3) (by decide +kernel)
        have k13 := fBz_eq hB8 (a := 742) (j := 0) (by decide +kernel)
        exact fcutJ (I := IhB8) (j := (jc_M_back_d558f_12 I)) (lv' := [(0, .inr (.inr (some 740))), (1, .inl _)]) (And.intro rfl (And.intro rfl True.intro)) ⟨_, rfl, rfl, ⟨by omega, (fun j h => if ej : j = y1.toNat then (by rw [ej]; exact (fup_self ehB8).trans (qz7.trans (sM_keep hB1 (by decide +kernel) _))) else (fup_other ehB8 741 j (Or.inr ej)).trans (hx0 j (by omega)))⟩, rfl⟩ (by omega)
  · have hB0 := fB_self (zn := znJ) (K := fKc wz_6f285) h0
    refine And.intro ⟨rfl, by decide, by decide⟩ (fgetf fb_740_3 h0 hB0 ?_)
    intro z14 lz14 uz14 qz14
    refine And.intro (by first | exact fi_ lz14 uz14 rfl | omega) (And.intro ?_ ?_)
    · intro c15
      exact fcutJ (I := I) (j := (jc_M_back_d558f_12 I)) (lv' := [(0, .inr (.inr (some 740))), (1, .inl _)]) (And.intro rfl (And.intro rfl True.intro)) ⟨_, rfl, rfl, ⟨by omega, (fun j h => absurd h (by omega))⟩, rfl⟩ (by omega)
    · intro c16
      refine And.intro (True.intro) ?_
      exact ⟨_, rfl, by omega, ⟨fun q => absurd q (by omega), fun _ _ => rfl⟩⟩
abbrev jc_Works_goneOnes_af75c_4 : Nat → fL → List fV → fH → Prop := fun m lv st I => ∃ (y1 : Int) (y2 : Int), lv = [(0, .inr (.inr (some 163))), (1, .inl y1), (2, .inl y2)] ∧ st = [] ∧ ((((-2147483648) ≤ y1 ∧ y1 ≤ 2147483647) ∧ (0 ≤ y2 ∧ y2 ≤ 24))) ∧ m = (1 + 1 * (24 - y2) : Int).toNat
set_option maxRecDepth 8000 in
theorem ct_Works_goneOnes_af75c {I : fH}  (h0 : fB bsJ I)  : fC ρ base n F xTc vwCl xTys D dA la gJ (fbz bsJ znJ (fKc []) I) xm_234 [.inr (.inr (some 163))] I (fun _ r => ∃ z, r = some (.inl z) ∧ ((-2147483648) ≤ z ∧ z ≤ 2147483647)) := by
  have hW : fzs [] (fKc []) := fKc_ok _
  refine f_meth (rb := rbJ) (J := [(4, jc_Works_goneOnes_af75c_4)]) 26 400 xG xin_234 x6_234 okJ (fB_self h0) ?_ ?_
  · refine List.forall_mem_cons.mpr ⟨?_, fun q h => absurd h List.not_mem_nil⟩
    · rintro m _ _ I1 hB1 ⟨y1, y2, rfl, rfl, hb, hm⟩
      refine And.intro ⟨rfl, by decide, by decide⟩ (fgetf fb_163_13 h0 hB1 ?_)
      intro z1 lz1 uz1 qz1
      refine And.intro (And.intro (by first | exact fi_ hb.2.1 hb.2.2 rfl | omega) (by first | exact fi_ lz1 uz1 rfl | omega)) (And.intro ?_ ?_)
      · intro c2
        refine And.intro (True.intro) ?_
        exact ⟨_, rfl, (by first | exact ⟨hb.1.1, hb.1.2⟩ | omega)⟩
      · intro c3
        refine And.intro ⟨rfl, by decide, by decide⟩ ?_
        refine fload1 rL_174_174_0_23_1_0 h0 hB1 ⟨by decide, by decide⟩ (by first | exact ⟨hb.2.1, Int.le_trans (Int.le_sub_one_of_lt (Int.lt_of_lt_of_le c3 uz1)) (by decide)⟩ | omega) ?_
        intro z4 lz4 uz4 qz4
        intro z5 hz5 ez5 bz5
        clear ez5
        clear bz5
        exact fcutJ (I := I1) (j := jc_Works_goneOnes_af75c_4) (lv' := [(0, .inr (.inr (some 163))), (1, .inl _), (2, .inl _)]) (And.intro rfl (And.intro rfl (And.intro rfl True.intro))) ⟨_, _, rfl, rfl, by omega, rfl⟩ (by omega)
  · have hB0 := fB_self (zn := znJ) (K := fKc []) h0
    exact fcutJ (I := I) (j := jc_Works_goneOnes_af75c_4) (lv' := [(0, .inr (.inr (some 163))), (1, .inl _), (2, .inl _)]) (And.intro rfl (And.intro rfl (And.intro rfl True.intro))) ⟨_, _, rfl, rfl, by omega, rfl⟩ (by omega)
abbrev jc_Charter_inForceAt_64286_4 : Nat → fL → List fV → fH → Prop := fun m lv st I => ∃ (y1 : Int) (y2 : Int) (y3 : Int), lv = [(0, .inr (.inr (some 187))), (1, .inl y1), (2, .inl y2), (3, .inl y3)] ∧ st = [] ∧ ((((-2147483648) ≤ y1 ∧ y1 ≤ 2147483647) ∧ ((-2147483648) ≤ y2 ∧ y2 ≤ 2147483647) ∧ (0 ≤ y3 ∧ y3 ≤ 12))) ∧ m = (1 + 1 * (12 - y3) : Int).toNat
set_option maxRecDepth 8000 in
theorem ct_Charter_inForceAt_64286 {I : fH} {x1 : Int} (h0 : fB bsJ I) (ha1 : ((-2147483648) ≤ x1 ∧ x1 ≤ 2147483647)) : fC ρ base n F xTc vwCl xTys D dA la gJ (fbz bsJ znJ (fKc []) I) xm_235 [.inr (.inr (some 187)), .inl x1] I (fun _ r => ∃ z, r = some (.inl z) ∧ ((-2147483648) ≤ z ∧ z ≤ 2147483647)) := by
  have hW : fzs [] (fKc []) := fKc_ok _
  refine f_meth (rb := rbJ) (J := [(4, jc_Charter_inForceAt_64286_4)]) 14 400 xG xin_235 x6_235 okJ (fB_self h0) ?_ ?_
  · refine List.forall_mem_cons.mpr ⟨?_, fun q h => absurd h List.not_mem_nil⟩
    · rintro m _ _ I1 hB1 ⟨y1, y2, y3, rfl, rfl, hb, hm⟩
      refine And.intro ⟨rfl, by decide, by decide⟩ (fgetf fb_187_6 h0 hB1 ?_)
      intro z1 lz1 uz1 qz1
      refine And.intro (And.intro (by first | exact fi_ hb.2.2.1 hb.2.2.2 rfl | omega) (by first | exact fi_ lz1 uz1 rfl | omega)) (And.intro ?_ ?_)
      · intro c2
        refine And.intro (True.intro) ?_
        exact ⟨_, rfl, (by first | exact ⟨hb.2.1.1, hb.2.1.2⟩ | omega)⟩
      · intro c3
        refine Exists.intro xm_35 (And.intro mi_35 (And.intro ⟨rfl, rfl, rfl, rfl⟩ (And.intro rfl ?_)))
        refine fcallp hB1 (ct_Charter_isInForce_ea4ee (fBz h0 hB1) (by first | exact ⟨hb.2.2.1, Int.le_trans (Int.le_sub_one_of_lt (Int.lt_of_lt_of_le c3 uz1)) (by decide)⟩ | omega) (by first | exact ⟨hb.1.1, hb.1.2⟩ | omega)) ?_
        rintro _ ⟨z4, rfl, hz4⟩
        refine And.intro (by omega) (And.intro ?_ ?_)
        · intro c5
          exact fcutJ (I := I1) (j := jc_Charter_inForceAt_64286_4) (lv' := [(0, .inr (.inr (some 187))), (1, .inl _), (2, .inl _), (3, .inl _)]) (And.intro rfl (And.intro rfl (And.intro rfl (And.intro rfl True.intro)))) ⟨_, _, _, rfl, rfl, by omega, rfl⟩ (by omega)
        · intro c6
          intro z7 hz7 bz7
          clear bz7
          exact fcutJ (I := I1) (j := jc_Charter_inForceAt_64286_4) (lv' := [(0, .inr (.inr (some 187))), (1, .inl _), (2, .inl _), (3, .inl _)]) (And.intro rfl (And.intro rfl (And.intro rfl (And.intro rfl True.intro)))) ⟨_, _, _, rfl, rfl, by omega, rfl⟩ (by omega)
  · have hB0 := fB_self (zn := znJ) (K := fKc []) h0
    exact fcutJ (I := I) (j := jc_Charter_inForceAt_64286_4) (lv' := [(0, .inr (.inr (some 187))), (1, .inl _), (2, .inl _), (3, .inl _)]) (And.intro rfl (And.intro rfl (And.intro rfl (And.intro rfl True.intro)))) ⟨_, _, _, rfl, rfl, by omega, rfl⟩ (by omega)
set_option maxRecDepth 8000 in
theorem ct_X_count_87bea {I : fH} {x1 : Int} (h0 : fB bsJ I) (ha1 : ((-2147483648) ≤ x1 ∧ x1 ≤ 2147483647)) : fC ρ base n F xTc vwCl xTys D dA la gJ (fbz bsJ znJ (fKc []) I) xm_233 [.inr (.inr (some 0)), .inl x1] I (fun _ r => ∃ z, r = some (.inl z) ∧ ((-2147483648) ≤ z ∧ z ≤ 2147483647)) := by
  have hW : fzs [] (fKc []) := fKc_ok _
  refine f_meth (rb := rbJ) (J := []) 1 400 xG xin_233 x6_233 okJ (fB_self h0) ?_ ?_
  · exact fun q h => absurd h List.not_mem_nil
  · have hB0 := fB_self (zn := znJ) (K := fKc []) h0
    refine And.intro (by first | exact fi_ ha1.1 ha1.2 rfl | omega) (And.intro ?_ ?_)
    · refine And.intro (fun ex => ?_) (And.intro (fun ex => ?_) (And.intro (fun ex => ?_) (And.intro (fun ex => ?_) (And.intro (fun ex => ?_) (And.intro (fun ex => ?_) (And.intro (fun ex => ?_) (And.intro (fun ex => ?_) (And.intro (fun ex => ?_) (And.intro (fun ex => ?_) (And.intro (fun ex => ?_) (And.intro (fun ex => ?_) (And.intro (fun ex => ?_) (And.intro (fun ex => ?_) (And.intro (fun ex => ?_) (True.intro)))))))))))))))
      · skip
        refine And.intro ⟨rfl, by decide, by decide⟩ ?_
        refine And.intro ⟨rfl, by decide, by decide⟩ ?_
        refine And.intro ⟨rfl, by decide, by decide⟩ (fgetf fb_2_5 h0 hB0 ?_)
        intro z1 lz1 uz1 qz1
        refine And.intro (True.intro) ?_
        exact ⟨_, rfl, (by first | exact ⟨Int.le_trans (by decide) lz1, Int.le_trans uz1 (by decide)⟩ | omega)⟩
      · skip
        refine And.intro ⟨rfl, by decide, by decide⟩ ?_
        refine And.intro ⟨rfl, by decide, by decide⟩ ?_
        refine And.intro ⟨rfl, by decide, by decide⟩ (fgetf fb_2_10 h0 hB0 ?_)
        intro z2 lz2 uz2 qz2
        refine And.intro (True.intro) ?_
        exact ⟨_, rfl, (by first | exact ⟨Int.le_trans (by decide) lz2, Int.le_trans uz2 (by decide)⟩ | omega)⟩
      · skip
        refine And.intro ⟨rfl, by decide, by decide⟩ ?_
        refine And.intro ⟨rfl, by decide, by decide⟩ ?_
        refine And.intro ⟨rfl, by decide, by decide⟩ (fgetf fb_163_13 h0 hB0 ?_)
        intro z3 lz3 uz3 qz3
        refine And.intro (True.intro) ?_
        exact ⟨_, rfl, (by first | exact ⟨Int.le_trans (by decide) lz3, Int.le_trans uz3 (by decide)⟩ | omega)⟩
      · skip
        refine And.intro ⟨rfl, by decide, by decide⟩ ?_
        refine And.intro ⟨rfl, by decide, by decide⟩ ?_
        refine Exists.intro xm_234 (And.intro mi_234 (And.intro ⟨rfl, rfl, rfl, rfl⟩ (And.intro rfl ?_)))
        refine fcallp hB0 (ct_Works_goneOnes_af75c (fBz h0 hB0)) ?_
        rintro _ ⟨z4, rfl, hz4⟩
        refine And.intro (True.intro) ?_
        exact ⟨_, rfl, (by first | exact ⟨hz4.1, hz4.2⟩ | omega)⟩
      · skip
        refine And.intro ⟨rfl, by decide, by decide⟩ ?_
        refine And.intro ⟨rfl, by decide, by decide⟩ ?_
        refine And.intro ⟨rfl, by decide, by decide⟩ (fgetf fb_177_4 h0 hB0 ?_)
        intro z5 lz5 uz5 qz5
        refine And.intro (True.intro) ?_
        exact ⟨_, rfl, (by first | exact ⟨Int.le_trans (by decide) lz5, Int.le_trans uz5 (by decide)⟩ | omega)⟩
      · skip
        refine And.intro ⟨rfl, by decide, by decide⟩ ?_
        refine And.intro ⟨rfl, by decide, by decide⟩ ?_
        refine And.intro ⟨rfl, by decide, by decide⟩ (fgetf fb_177_4 h0 hB0 ?_)
        intro z6 lz6 uz6 qz6
        refine And.intro ⟨rfl, by decide, by decide⟩ ?_
        refine And.intro ⟨rfl, by decide, by decide⟩ ?_
        refine Exists.intro xm_67 (And.intro mi_67 (And.intro ⟨rfl, rfl, rfl, rfl⟩ (And.intro rfl ?_)))
        refine fcallp hB0 (ct_People_living_beea0 (fBz h0 hB0)) ?_
        rintro _ ⟨z7, rfl, hz7⟩
        intro z8 hz8 ez8 bz8
        clear ez8
        clear bz8
        refine And.intro (True.intro) ?_
        exact ⟨_, rfl, by omega⟩
      · skip
        refine And.intro ⟨rfl, by decide, by decide⟩ ?_
        refine And.intro ⟨rfl, by decide, by decide⟩ (fgetf fb_187_6 h0 hB0 ?_)
        intro z9 lz9 uz9 qz9
        refine And.intro (True.intro) ?_
        exact ⟨_, rfl, (by first | exact ⟨Int.le_trans (by decide) lz9, Int.le_trans uz9 (by decide)⟩ | omega)⟩
      · skip
        refine And.intro ⟨rfl, by decide, by decide⟩ ?_
        refine And.intro ⟨rfl, by decide, by decide⟩ ?_
        refine Exists.intro xm_32 (And.intro mi_32 (And.intro ⟨rfl, rfl, rfl, rfl⟩ (And.intro rfl ?_)))
        refine fcallp hB0 (ct_City_hour_b7a7b (fBz h0 hB0)) ?_
        rintro _ ⟨z10, rfl, hz10⟩
        refine Exists.intro xm_235 (And.intro mi_235 (And.intro ⟨rfl, rfl, rfl, rfl⟩ (And.intro rfl ?_)))
        refine fcallp hB0 (ct_Charter_inForceAt_64286 (fBz h0 hB0) (by first | exact ⟨hz10.1, hz10.2⟩ | omega)) ?_
        rintro _ ⟨z11, rfl, hz11⟩
        refine And.intro (True.intro) ?_
        exact ⟨_, rfl, (by first | exact ⟨hz11.1, hz11.2⟩ | omega)⟩
      · skip
        refine And.intro ⟨rfl, by decide, by decide⟩ ?_
        refine And.intro ⟨rfl, by decide, by decide⟩ (fgetf fb_211_8 h0 hB0 ?_)
        intro z12 lz12 uz12 qz12
        refine And.intro (True.intro) ?_
        exact ⟨_, rfl, (by first | exact ⟨Int.le_trans (by decide) lz12, Int.le_trans uz12 (by decide)⟩ | omega)⟩
      · skip
        refine And.intro ⟨rfl, by decide, by decide⟩ ?_
        refine And.intro ⟨rfl, by decide, by decide⟩ (fgetf fb_211_11 h0 hB0 ?_)
        intro z13 lz13 uz13 qz13
        refine And.intro (True.intro) ?_
        exact ⟨_, rfl, (by first | exact ⟨Int.le_trans (by decide) lz13, Int.le_trans uz13 (by decide)⟩ | omega)⟩
      · skip
        refine And.intro ⟨rfl, by decide, by decide⟩ ?_
        refine And.intro ⟨rfl, by decide, by decide⟩ (fgetf fb_211_15 h0 hB0 ?_)
        intro z14 lz14 uz14 qz14
        refine And.intro (True.intro) ?_
        exact ⟨_, rfl, (by first | exact ⟨Int.le_trans (by decide) lz14, Int.le_trans uz14 (by decide)⟩ | omega)⟩
      · skip
        refine And.intro ⟨rfl, by decide, by decide⟩ ?_
        refine And.intro ⟨rfl, by decide, by decide⟩ ?_
        refine And.intro ⟨rfl, by decide, by decide⟩ (fgetf fb_2_12 h0 hB0 ?_)
        intro z15 lz15 uz15 qz15
        refine And.intro (True.intro) ?_
        exact ⟨_, rfl, (by first | exact ⟨Int.le_trans (by decide) lz15, Int.le_trans uz15 (by decide)⟩ | omega)⟩
      · skip
        refine And.intro ⟨rfl, by decide, by decide⟩ (fgetf fb_0_14 h0 hB0 ?_)
        intro z16 lz16 uz16 qz16
        refine And.intro (True.intro) ?_
        exact ⟨_, rfl, (by first | exact ⟨Int.le_trans (by decide) lz16, Int.le_trans uz16 (by decide)⟩ | omega)⟩
      · skip
        refine And.intro ⟨rfl, by decide, by decide⟩ ?_
        refine And.intro ⟨rfl, by decide, by decide⟩ (fgetf fb_699_1 h0 hB0 ?_)
        intro z17 lz17 uz17 qz17
        refine And.intro (True.intro) ?_
        exact ⟨_, rfl, (by first | exact ⟨Int.le_trans (by decide) lz17, Int.le_trans uz17 (by decide)⟩ | omega)⟩
      · skip
        refine And.intro ⟨rfl, by decide, by decide⟩ ?_
        refine And.intro ⟨rfl, by decide, by decide⟩ (fgetf fb_187_7 h0 hB0 ?_)
        intro z18 lz18 uz18 qz18
        refine And.intro (And.intro (by first | exact fi_ lz18 uz18 rfl | omega) (by first | exact ⟨by decide, by decide⟩ | omega)) (And.intro ?_ ?_)
        · intro c19
          refine And.intro (True.intro) ?_
          exact ⟨_, rfl, by omega⟩
        · intro c20
          refine And.intro (True.intro) ?_
          exact ⟨_, rfl, (by first | exact ⟨by decide, by decide⟩ | omega)⟩
    · intro c21
      refine And.intro (True.intro) ?_
      exact ⟨_, rfl, (by first | exact ⟨by decide, by decide⟩ | omega)⟩
abbrev jc_M_count_f52dd_101 : Nat → fL → List fV → fH → Prop := fun m lv st I => ∃ (y2 : Int) (y3 : Int), lv = [(0, .inr (.inr (some 740))), (2, .inl y2), (3, .inl y3)] ∧ st = [] ∧ ((((-2147483648) ≤ y2 ∧ y2 ≤ 2147483647) ∧ (0 ≤ y3 ∧ y3 ≤ 24))) ∧ m = (1 + 1 * (24 - y3) : Int).toNat
abbrev jc_M_count_f52dd_146 : Nat → fL → List fV → fH → Prop := fun m lv st I => ∃ (y2 : Int) (y3 : Int), lv = [(0, .inr (.inr (some 740))), (2, .inl y2), (3, .inl y3)] ∧ st = [] ∧ ((((-2147483648) ≤ y2 ∧ y2 ≤ 2147483647) ∧ (0 ≤ y3 ∧ y3 ≤ 24))) ∧ m = (26 + 1 * (24 - y3) : Int).toNat
abbrev jc_M_count_f52dd_191 : Nat → fL → List fV → fH → Prop := fun m lv st I => ∃ (y2 : Int) (y3 : Int), lv = [(0, .inr (.inr (some 740))), (2, .inl y2), (3, .inl y3)] ∧ st = [] ∧ ((((-2147483648) ≤ y2 ∧ y2 ≤ 2147483647) ∧ (0 ≤ y3 ∧ y3 ≤ 12))) ∧ m = (51 + 1 * (12 - y3) : Int).toNat
set_option maxRecDepth 8000 in
theorem ct_M_count_f52dd {I : fH} {x1 : Int} (h0 : fB bsJ I) (ha1 : ((-2147483648) ≤ x1 ∧ x1 ≤ 2147483647)) : fC ρ base n F xTc vwCl xTys D dA la gJ (fbz bsJ znJ (fKc []) I) xm_497 [.inr (.inr (some 740)), .inl x1] I (fun _ r => ∃ z, r = some (.inl z) ∧ ((-2147483648) ≤ z ∧ z ≤ 2147483647)) := by
  have hW : fzs [] (fKc []) := fKc_ok _
  refine f_meth (rb := rbJ) (J := [(101, jc_M_count_f52dd_101), (146, jc_M_count_f52dd_146), (191, jc_M_count_f52dd_191)]) 64 400 xG xin_497 x6_497 okJ (fB_self h0) ?_ ?_
  · refine List.forall_mem_cons.mpr ⟨?_, List.forall_mem_cons.mpr ⟨?_, List.forall_mem_cons.mpr ⟨?_, fun q h => absurd h List.not_mem_nil⟩⟩⟩
    · rintro m _ _ I1 hB1 ⟨y2, y3, rfl, rfl, hb, hm⟩
      refine And.intro ⟨rfl, by decide, by decide⟩ ?_
      refine fload1 rL_741_741_7_7_1_0 h0 hB1 ⟨by decide, by decide⟩ (by first | exact ⟨by decide, by decide⟩ | omega) ?_
      intro z1 lz1 uz1 qz1
      have pz1 := fld_at qz1 7 (by omega)
      refine And.intro (And.intro (by first | exact fi_ hb.2.1 hb.2.2 rfl | omega) (by first | exact fi_ lz1 uz1 rfl | omega)) (And.intro ?_ ?_)
      · intro c2
        refine And.intro (True.intro) ?_
        exact ⟨_, rfl, (by first | exact ⟨hb.1.1, hb.1.2⟩ | omega)⟩
      · intro c3
        refine Exists.intro xm_245 (And.intro mi_245 (And.intro ⟨rfl, rfl, rfl, rfl⟩ (And.intro rfl ?_)))
        refine fcallp hB1 (ct_M_isGone_0de37 (fBz h0 hB1) (by first | exact ⟨hb.2.1, Int.le_trans (Int.le_sub_one_of_lt (Int.lt_of_lt_of_le c3 uz1)) (by decide)⟩ | omega)) ?_
        rintro _ ⟨z4, rfl, hz4⟩
        refine And.intro (by omega) (And.intro ?_ ?_)
        · intro c5
          intro z6 hz6 ez6 bz6
          clear ez6
          clear bz6
          exact fcutJ (I := I1) (j := jc_M_count_f52dd_101) (lv' := [(0, .inr (.inr (some 740))), (2, .inl _), (3, .inl _)]) (And.intro rfl (And.intro rfl (And.intro rfl True.intro))) ⟨_, _, rfl, rfl, by omega, rfl⟩ (by omega)
        · intro c7
          intro z8 hz8 ez8 bz8
          clear ez8
          clear bz8
          exact fcutJ (I := I1) (j := jc_M_count_f52dd_101) (lv' := [(0, .inr (.inr (some 740))), (2, .inl _), (3, .inl _)]) (And.intro rfl (And.intro rfl (And.intro rfl True.intro))) ⟨_, _, rfl, rfl, by omega, rfl⟩ (by omega)
    · rintro m _ _ I1 hB1 ⟨y2, y3, rfl, rfl, hb, hm⟩
      refine And.intro ⟨rfl, by decide, by decide⟩ ?_
      refine fload1 rL_741_741_8_8_1_0 h0 hB1 ⟨by decide, by decide⟩ (by first | exact ⟨by decide, by decide⟩ | omega) ?_
      intro z9 lz9 uz9 qz9
      have pz9 := fld_at qz9 8 (by omega)
      refine And.intro (And.intro (by first | exact fi_ hb.2.1 hb.2.2 rfl | omega) (by first | exact fi_ lz9 uz9 rfl | omega)) (And.intro ?_ ?_)
      · intro c10
        refine And.intro (True.intro) ?_
        exact ⟨_, rfl, (by first | exact ⟨hb.1.1, hb.1.2⟩ | omega)⟩
      · intro c11
        refine Exists.intro xm_248 (And.intro mi_248 (And.intro ⟨rfl, rfl, rfl, rfl⟩ (And.intro rfl ?_)))
        refine fcallp hB1 (ct_M_isDead_21e1a (fBz h0 hB1) (by first | exact ⟨hb.2.1, Int.le_trans (Int.le_sub_one_of_lt (Int.lt_of_lt_of_le c11 uz9)) (by decide)⟩ | omega)) ?_
        rintro _ ⟨z12, rfl, hz12⟩
        refine And.intro (by omega) (And.intro ?_ ?_)
        · intro c13
          intro z14 hz14 ez14 bz14
          clear ez14
          clear bz14
          exact fcutJ (I := I1) (j := jc_M_count_f52dd_146) (lv' := [(0, .inr (.inr (some 740))), (2, .inl _), (3, .inl _)]) (And.intro rfl (And.intro rfl (And.intro rfl True.intro))) ⟨_, _, rfl, rfl, by omega, rfl⟩ (by omega)
        · intro c15
          intro z16 hz16 ez16 bz16
          clear ez16
          clear bz16
          exact fcutJ (I := I1) (j := jc_M_count_f52dd_146) (lv' := [(0, .inr (.inr (some 740))), (2, .inl _), (3, .inl _)]) (And.intro rfl (And.intro rfl (And.intro rfl True.intro))) ⟨_, _, rfl, rfl, by omega, rfl⟩ (by omega)
    · rintro m _ _ I1 hB1 ⟨y2, y3, rfl, rfl, hb, hm⟩
      refine And.intro ⟨rfl, by decide, by decide⟩ ?_
      refine fload1 rL_741_741_9_9_1_0 h0 hB1 ⟨by decide, by decide⟩ (by first | exact ⟨by decide, by decide⟩ | omega) ?_
      intro z17 lz17 uz17 qz17
      have pz17 := fld_at qz17 9 (by omega)
      refine And.intro (And.intro (by first | exact fi_ hb.2.1 hb.2.2 rfl | omega) (by first | exact fi_ lz17 uz17 rfl | omega)) (And.intro ?_ ?_)
      · intro c18
        refine And.intro (True.intro) ?_
        exact ⟨_, rfl, (by first | exact ⟨hb.1.1, hb.1.2⟩ | omega)⟩
      · intro c19
        refine Exists.intro xm_256 (And.intro mi_256 (And.intro ⟨rfl, rfl, rfl, rfl⟩ (And.intro rfl ?_)))
        refine fcallp hB1 (ct_M_isInForce_508bf (fBz h0 hB1) (by first | exact ⟨hb.2.1, Int.le_trans (Int.le_sub_one_of_lt (Int.lt_of_lt_of_le c19 uz17)) (by decide)⟩ | omega)) ?_
        rintro _ ⟨z20, rfl, hz20⟩
        refine And.intro (by omega) (And.intro ?_ ?_)
        · intro c21
          intro z22 hz22 ez22 bz22
          clear ez22
          clear bz22
          exact fcutJ (I := I1) (j := jc_M_count_f52dd_191) (lv' := [(0, .inr (.inr (some 740))), (2, .inl _), (3, .inl _)]) (And.intro rfl (And.intro rfl (And.intro rfl True.intro))) ⟨_, _, rfl, rfl, by omega, rfl⟩ (by omega)
        · intro c23
          intro z24 hz24 ez24 bz24
          clear ez24
          clear bz24
          exact fcutJ (I := I1) (j := jc_M_count_f52dd_191) (lv' := [(0, .inr (.inr (some 740))), (2, .inl _), (3, .inl _)]) (And.intro rfl (And.intro rfl (And.intro rfl True.intro))) ⟨_, _, rfl, rfl, by omega, rfl⟩ (by omega)
  · have hB0 := fB_self (zn := znJ) (K := fKc []) h0
    refine And.intro (by first | exact fi_ ha1.1 ha1.2 rfl | omega) (And.intro ?_ ?_)
    · refine And.intro (fun ex => ?_) (And.intro (fun ex => ?_) (And.intro (fun ex => ?_) (And.intro (fun ex => ?_) (And.intro (fun ex => ?_) (And.intro (fun ex => ?_) (And.intro (fun ex => ?_) (And.intro (fun ex => ?_) (And.intro (fun ex => ?_) (And.intro (fun ex => ?_) (And.intro (fun ex => ?_) (And.intro (fun ex => ?_) (And.intro (fun ex => ?_) (And.intro (fun ex => ?_) (And.intro (fun ex => ?_) (True.intro)))))))))))))))
      · skip
        refine And.intro ⟨rfl, by decide, by decide⟩ ?_
        refine fload1 rL_741_741_5_5_1_0 h0 hB0 ⟨by decide, by decide⟩ (by first | exact ⟨by decide, by decide⟩ | omega) ?_
        intro z25 lz25 uz25 qz25
        have pz25 := fld_at qz25 5 (by omega)
        refine And.intro (True.intro) ?_
        exact ⟨_, rfl, (by first | exact ⟨Int.le_trans (by decide) lz25, Int.le_trans uz25 (by decide)⟩ | omega)⟩
      · skip
        refine And.intro ⟨rfl, by decide, by decide⟩ ?_
        refine fload1 rL_741_741_6_6_1_0 h0 hB0 ⟨by decide, by decide⟩ (by first | exact ⟨by decide, by decide⟩ | omega) ?_
        intro z26 lz26 uz26 qz26
        have pz26 := fld_at qz26 6 (by omega)
        refine And.intro (True.intro) ?_
        exact ⟨_, rfl, (by first | exact ⟨Int.le_trans (by decide) lz26, Int.le_trans uz26 (by decide)⟩ | omega)⟩
      · skip
        refine And.intro ⟨rfl, by decide, by decide⟩ ?_
        refine fload1 rL_741_741_7_7_1_0 h0 hB0 ⟨by decide, by decide⟩ (by first | exact ⟨by decide, by decide⟩ | omega) ?_
        intro z27 lz27 uz27 qz27
        have pz27 := fld_at qz27 7 (by omega)
        refine And.intro (True.intro) ?_
        exact ⟨_, rfl, (by first | exact ⟨Int.le_trans (by decide) lz27, Int.le_trans uz27 (by decide)⟩ | omega)⟩
      · skip
        exact fcutJ (I := I) (j := jc_M_count_f52dd_101) (lv' := [(0, .inr (.inr (some 740))), (2, .inl _), (3, .inl _)]) (And.intro rfl (And.intro rfl (And.intro rfl True.intro))) ⟨_, _, rfl, rfl, by omega, rfl⟩ (by omega)
      · skip
        refine And.intro ⟨rfl, by decide, by decide⟩ ?_
        refine fload1 rL_741_741_8_8_1_0 h0 hB0 ⟨by decide, by decide⟩ (by first | exact ⟨by decide, by decide⟩ | omega) ?_
        intro z28 lz28 uz28 qz28
        have pz28 := fld_at qz28 8 (by omega)
        refine And.intro (True.intro) ?_
        exact ⟨_, rfl, (by first | exact ⟨Int.le_trans (by decide) lz28, Int.le_trans uz28 (by decide)⟩ | omega)⟩
      · skip
        exact fcutJ (I := I) (j := jc_M_count_f52dd_146) (lv' := [(0, .inr (.inr (some 740))), (2, .inl _), (3, .inl _)]) (And.intro rfl (And.intro rfl (And.intro rfl True.intro))) ⟨_, _, rfl, rfl, by omega, rfl⟩ (by omega)
      · skip
        refine And.intro ⟨rfl, by decide, by decide⟩ ?_
        refine fload1 rL_741_741_9_9_1_0 h0 hB0 ⟨by decide, by decide⟩ (by first | exact ⟨by decide, by decide⟩ | omega) ?_
        intro z29 lz29 uz29 qz29
        have pz29 := fld_at qz29 9 (by omega)
        refine And.intro (True.intro) ?_
        exact ⟨_, rfl, (by first | exact ⟨Int.le_trans (by decide) lz29, Int.le_trans uz29 (by decide)⟩ | omega)⟩
      · skip
        exact fcutJ (I := I) (j := jc_M_count_f52dd_191) (lv' := [(0, .inr (.inr (some 740))), (2, .inl _), (3, .inl _)]) (And.intro rfl (And.intro rfl (And.intro rfl True.intro))) ⟨_, _, rfl, rfl, by omega, rfl⟩ (by omega)
      · skip
        refine And.intro ⟨rfl, by decide, by decide⟩ ?_
        refine fload1 rL_741_741_10_10_1_0 h0 hB0 ⟨by decide, by decide⟩ (by first | exact ⟨by decide, by decide⟩ | omega) ?_
        intro z30 lz30 uz30 qz30
        have pz30 := fld_at qz30 10 (by omega)
        refine And.intro (True.intro) ?_
        exact ⟨_, rfl, (by first | exact ⟨Int.le_trans (by decide) lz30, Int.le_trans uz30 (by decide)⟩ | omega)⟩
      · skip
        refine And.intro ⟨rfl, by decide, by decide⟩ ?_
        refine fload1 rL_741_741_11_11_1_0 h0 hB0 ⟨by decide, by decide⟩ (by first | exact ⟨by decide, by decide⟩ | omega) ?_
        intro z31 lz31 uz31 qz31
        have pz31 := fld_at qz31 11 (by omega)
        refine And.intro (True.intro) ?_
        exact ⟨_, rfl, (by first | exact ⟨Int.le_trans (by decide) lz31, Int.le_trans uz31 (by decide)⟩ | omega)⟩
      · skip
        refine And.intro ⟨rfl, by decide, by decide⟩ ?_
        refine fload1 rL_741_741_12_12_1_0 h0 hB0 ⟨by decide, by decide⟩ (by first | exact ⟨by decide, by decide⟩ | omega) ?_
        intro z32 lz32 uz32 qz32
        have pz32 := fld_at qz32 12 (by omega)
        refine And.intro (True.intro) ?_
        exact ⟨_, rfl, (by first | exact ⟨Int.le_trans (by decide) lz32, Int.le_trans uz32 (by decide)⟩ | omega)⟩
      · skip
        refine And.intro ⟨rfl, by decide, by decide⟩ ?_
        refine fload1 rL_741_741_13_13_1_0 h0 hB0 ⟨by decide, by decide⟩ (by first | exact ⟨by decide, by decide⟩ | omega) ?_
        intro z33 lz33 uz33 qz33
        have pz33 := fld_at qz33 13 (by omega)
        refine And.intro (True.intro) ?_
        exact ⟨_, rfl, (by first | exact ⟨Int.le_trans (by decide) lz33, Int.le_trans uz33 (by decide)⟩ | omega)⟩
      · skip
        refine And.intro ⟨rfl, by decide, by decide⟩ (fgetf fb_740_37 h0 hB0 ?_)
        intro z34 lz34 uz34 qz34
        refine And.intro (True.intro) ?_
        exact ⟨_, rfl, (by first | exact ⟨Int.le_trans (by decide) lz34, Int.le_trans uz34 (by decide)⟩ | omega)⟩
      · skip
        refine And.intro ⟨rfl, by decide, by decide⟩ (fgetf fb_740_8 h0 hB0 ?_)
        intro z35 lz35 uz35 qz35
        refine And.intro (True.intro) ?_
        exact ⟨_, rfl, (by first | exact ⟨Int.le_trans (by decide) lz35, Int.le_trans uz35 (by decide)⟩ | omega)⟩
      · skip
        refine And.intro ⟨rfl, by decide, by decide⟩ ?_
        refine fload1 rL_741_741_14_14_1_0 h0 hB0 ⟨by decide, by decide⟩ (by first | exact ⟨by decide, by decide⟩ | omega) ?_
        intro z36 lz36 uz36 qz36
        have pz36 := fld_at qz36 14 (by omega)
        refine And.intro (by first | exact fi_ lz36 uz36 rfl | omega) (And.intro ?_ ?_)
        · intro c37
          refine And.intro (True.intro) ?_
          exact ⟨_, rfl, by omega⟩
        · intro c38
          refine And.intro (True.intro) ?_
          exact ⟨_, rfl, (by first | exact ⟨by decide, by decide⟩ | omega)⟩
    · intro c39
      refine And.intro (True.intro) ?_
      exact ⟨_, rfl, (by first | exact ⟨by decide, by decide⟩ | omega)⟩
end CT

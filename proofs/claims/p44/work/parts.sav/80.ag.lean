set_option linter.all false
/-! contracts (written by gen95.py) -/
abbrev wz_1c18d : List Nat := [12209, 12210, 12211, 12212, 12213]
theorem x6_314 : f60c xTc xTys xm_314 = true := by decide +kernel
theorem fb_740_10 : bsJ 740 10 = (0, 96) := by decide +kernel
theorem fb_740_9 : bsJ 740 9 = (0, 96) := by decide +kernel
theorem fb_740_11 : bsJ 740 11 = ((-2147483648), 2147483647) := by decide +kernel
theorem fb_740_13 : bsJ 740 13 = ((-2147483648), 2147483647) := by decide +kernel
theorem fb_740_12 : bsJ 740 12 = ((-2147483648), 2147483647) := by decide +kernel
theorem x6_423 : f60c xTc xTys xm_423 = true := by decide +kernel
abbrev wz_6dafe : List Nat := [12216, 20605, 20840]
theorem x6_421 : f60c xTc xTys xm_421 = true := by decide +kernel
theorem fb_740_17 : bsJ 740 17 = ((-2147483648), 2147483647) := by decide +kernel
theorem fb_740_16 : bsJ 740 16 = (0, 97) := by decide +kernel
theorem rS_741_741_1215_3609_200_194 : frS gJ bsJ znJ [20605] 100 ((741, 741), (1215, 3609), (200, 194), ((-2147483648), 2147483647)) := frS_of (by decide +kernel)
theorem rS_741_741_4700_4899_1_0 : frS gJ bsJ znJ [20840] 100 ((741, 741), (4700, 4899), (1, 0), ((-2147483648), 2147483647)) := frS_of (by decide +kernel)
theorem x6_422 : f60c xTc xTys xm_422 = true := by decide +kernel
abbrev wz_2212a : List Nat := [12209, 12210, 12211, 12212, 12213, 12214, 12215, 12216, 12218, 20605, 20840]
theorem x6_404 : f60c xTc xTys xm_404 = true := by decide +kernel
theorem fb_740_14 : bsJ 740 14 = (0, 8) := by decide +kernel
theorem fb_740_15 : bsJ 740 15 = (0, 8) := by decide +kernel
theorem fb_740_18 : bsJ 740 18 = ((-2147483648), 2147483647) := by decide +kernel
theorem x6_387 : f60c xTc xTys xm_387 = true := by decide +kernel
theorem x6_370 : f60c xTc xTys xm_370 = true := by decide +kernel
theorem x6_353 : f60c xTc xTys xm_353 = true := by decide +kernel
theorem x6_336 : f60c xTc xTys xm_336 = true := by decide +kernel
theorem x6_319 : f60c xTc xTys xm_319 = true := by decide +kernel
section CT
variable {ρ : Nat → Int32} {base n : Nat} {F : Nat → Prop} {D : va_G} {dA : Nat → ClassId} {la : Launch}
abbrev jc_M_next_c8003_34 (I0 : fH) : Nat → fL → List fV → fH → Prop := fun m lv st I => ∃ (y1 : Int) (y2 : Int), lv = [(0, .inr (.inr (some 740))), (1, .inl y1), (2, .inl y2)] ∧ st = [] ∧ (((0 ≤ y1 ∧ y1 ≤ 1) ∧ (0 ≤ y2 ∧ y2 ≤ 96) ∧ (I0 740 10 ≤ I 740 10) ∧ (I 740 10 ≤ I 740 8) ∧ (y2 = I0 740 10) ∧ ((y1 = 1 ∧ 0 < I0 740 10 ∧ (I0 740 11 = 1 ∨ I0 740 11 = 2)) ∨ (y1 = 0 ∧ ¬ (0 < I0 740 10 ∧ (I0 740 11 = 1 ∨ I0 740 11 = 2))))) ∧ (rdS rdB (I0 747) (I0 740 8) (I 740 10) = rdS rdB (I0 747) (I0 740 8) (I0 740 10))) ∧ m = (203 + 1 * (96 - I 740 10) : Int).toNat
abbrev jc_M_next_c8003_72 (I0 : fH) : Nat → fL → List fV → fH → Prop := fun m lv st I => ∃ (y1 : Int) (y2 : Int), lv = [(0, .inr (.inr (some 740))), (1, .inl y1), (2, .inl y2)] ∧ st = [] ∧ (((0 ≤ y1 ∧ y1 ≤ 1) ∧ (0 ≤ y2 ∧ y2 ≤ 96) ∧ (I0 740 10 ≤ I 740 10) ∧ (I 740 10 ≤ I 740 8) ∧ (y2 = I0 740 10) ∧ ((y1 = 1 ∧ 0 < I0 740 10 ∧ (I0 740 11 = 1 ∨ I0 740 11 = 2)) ∨ (y1 = 0 ∧ ¬ (0 < I0 740 10 ∧ (I0 740 11 = 1 ∨ I0 740 11 = 2))))) ∧ (I 740 10 = rdS rdB (I0 747) (I0 740 8) (I0 740 10))) ∧ m = (202 : Int).toNat
abbrev jc_M_next_c8003_90 (I0 : fH) : Nat → fL → List fV → fH → Prop := fun m lv st I => ∃ (y1 : Int), lv = [(0, .inr (.inr (some 740))), (1, .inl y1)] ∧ st = [] ∧ (((0 ≤ y1 ∧ y1 ≤ 1) ∧ (I0 740 10 ≤ I 740 10) ∧ (I 740 10 ≤ I 740 8) ∧ (nxG (I0 740 10) (I0 740 11) (I 740 10) y1)) ∧ (I 740 10 = rdS rdB (I0 747) (I0 740 8) (I0 740 10))) ∧ m = (201 : Int).toNat
abbrev jc_M_next_c8003_117 (I0 : fH) : Nat → fL → List fV → fH → Prop := fun m lv st I => ∃ (y1 : Int), lv = [(0, .inr (.inr (some 740))), (1, .inl y1)] ∧ st = [] ∧ (((0 ≤ y1 ∧ y1 ≤ 1) ∧ (I0 740 10 ≤ I 740 9) ∧ (I 740 9 = I 740 10) ∧ (I 740 9 < I 740 8) ∧ (nxG (I0 740 10) (I0 740 11) (I 740 9) y1)) ∧ (I 740 9 = rdS rdB (I0 747) (I0 740 8) (I0 740 10))) ∧ m = (200 : Int).toNat
abbrev jc_M_next_c8003_128 (I0 : fH) : Nat → fL → List fV → fH → Prop := fun m lv st I => ∃ (y1 : Int), lv = [(0, .inr (.inr (some 740))), (1, .inl y1)] ∧ st = [] ∧ (((0 ≤ y1 ∧ y1 ≤ 1) ∧ (I0 740 10 ≤ I 740 9) ∧ (I 740 9 ≤ I 740 10) ∧ (I 740 10 ≤ I 740 8) ∧ (I 740 9 < I 740 8) ∧ (I 740 10 = I 740 9 → 97 ≤ I 747 (I 740 9).toNat ∧ I 747 (I 740 9).toNat ≤ 122) ∧ (nxG (I0 740 10) (I0 740 11) (I 740 9) y1)) ∧ (I 740 9 = rdS rdB (I0 747) (I0 740 8) (I0 740 10)) ∧ (rdS rdL (I0 747) (I0 740 8) (I 740 10) = rdW (I0 747) (I0 740 8) (I 740 9)) ∧ (rdL (I0 747 (I 740 9).toNat) = true)) ∧ m = (103 + 1 * (96 - I 740 10) : Int).toNat
abbrev jc_M_next_c8003_152 (I0 : fH) : Nat → fL → List fV → fH → Prop := fun m lv st I => ∃ (y1 : Int), lv = [(0, .inr (.inr (some 740))), (1, .inl y1)] ∧ st = [] ∧ (((0 ≤ y1 ∧ y1 ≤ 1) ∧ (I0 740 10 ≤ I 740 9) ∧ (I 740 9 < I 740 10) ∧ (I 740 10 ≤ I 740 8) ∧ (nxG (I0 740 10) (I0 740 11) (I 740 9) y1)) ∧ (I 740 9 = rdS rdB (I0 747) (I0 740 8) (I0 740 10)) ∧ (I 740 10 = rdW (I0 747) (I0 740 8) (I 740 9)) ∧ (rdL (I0 747 (I 740 9).toNat) = true)) ∧ m = (102 : Int).toNat
abbrev jc_M_next_c8003_198 (I0 : fH) : Nat → fL → List fV → fH → Prop := fun m lv st I => ∃ (y1 : Int), lv = [(0, .inr (.inr (some 740))), (1, .inl y1)] ∧ st = [] ∧ (((0 ≤ y1 ∧ y1 ≤ 1) ∧ (I0 740 10 ≤ I 740 9) ∧ (I 740 9 = I 740 10) ∧ (I 740 9 < I 740 8) ∧ (nxG (I0 740 10) (I0 740 11) (I 740 9) y1)) ∧ (I 740 9 = rdS rdB (I0 747) (I0 740 8) (I0 740 10)) ∧ (¬ rdL (I0 747 (I 740 9).toNat) = true)) ∧ m = (101 : Int).toNat
abbrev jc_M_next_c8003_214 (I0 : fH) : Nat → fL → List fV → fH → Prop := fun m lv st I => ∃ (y1 : Int), lv = [(0, .inr (.inr (some 740))), (1, .inl y1)] ∧ st = [] ∧ (((0 ≤ y1 ∧ y1 ≤ 1) ∧ (I0 740 10 ≤ I 740 9) ∧ (I 740 9 ≤ I 740 10) ∧ (I 740 10 ≤ I 740 8) ∧ (I 740 9 < I 740 8) ∧ (I 740 10 = I 740 9 → 48 ≤ I 747 (I 740 9).toNat ∧ I 747 (I 740 9).toNat ≤ 57) ∧ (nxG (I0 740 10) (I0 740 11) (I 740 9) y1)) ∧ (I 740 9 = rdS rdB (I0 747) (I0 740 8) (I0 740 10)) ∧ (rdS rdD (I0 747) (I0 740 8) (I 740 10) = rdW (I0 747) (I0 740 8) (I 740 9)) ∧ (¬ rdL (I0 747 (I 740 9).toNat) = true) ∧ (rdD (I0 747 (I 740 9).toNat) = true) ∧ (I 740 10 - I 740 9 ≤ 4 → I 740 12 = rdV (I0 747) (I 740 9) (I 740 10 - I 740 9).toNat) ∧ (I 740 10 - I 740 9 ≤ 4 → nuB (I 740 10 - I 740 9) (I 740 12))) ∧ m = (4 + 1 * (96 - I 740 10) : Int).toNat
abbrev jc_M_next_c8003_282 (I0 : fH) : Nat → fL → List fV → fH → Prop := fun m lv st I => ∃ (y1 : Int), lv = [(0, .inr (.inr (some 740))), (1, .inl y1)] ∧ st = [] ∧ (((0 ≤ y1 ∧ y1 ≤ 1) ∧ (I0 740 10 ≤ I 740 9) ∧ (I 740 9 < I 740 10) ∧ (I 740 10 ≤ I 740 8) ∧ (nxG (I0 740 10) (I0 740 11) (I 740 9) y1)) ∧ (I 740 9 = rdS rdB (I0 747) (I0 740 8) (I0 740 10)) ∧ (I 740 10 = rdW (I0 747) (I0 740 8) (I 740 9)) ∧ (¬ rdL (I0 747 (I 740 9).toNat) = true) ∧ (rdD (I0 747 (I 740 9).toNat) = true) ∧ (I 740 10 - I 740 9 ≤ 4 → I 740 12 = rdV (I0 747) (I 740 9) (I 740 10 - I 740 9).toNat)) ∧ m = (3 : Int).toNat
abbrev jc_M_next_c8003_311 (I0 : fH) : Nat → fL → List fV → fH → Prop := fun m lv st I => lv = [(0, .inr (.inr (some 740)))] ∧ st = [] ∧ (((I0 740 10 ≤ I 740 9) ∧ (I 740 9 = I 740 10) ∧ (I 740 9 < I 740 8)) ∧ (I 740 9 = rdS rdB (I0 747) (I0 740 8) (I0 740 10)) ∧ (¬ rdL (I0 747 (I 740 9).toNat) = true) ∧ (¬ rdD (I0 747 (I 740 9).toNat) = true)) ∧ m = (2 : Int).toNat
abbrev jc_M_next_c8003_339 (I0 : fH) : Nat → fL → List fV → fH → Prop := fun m lv st I => lv = [] ∧ st = [] ∧ (((0 ≤ I 740 11 ∧ I 740 11 ≤ 4) ∧ (I0 740 10 ≤ I 740 9) ∧ (I 740 9 ≤ I 740 10) ∧ (I 740 10 ≤ I 740 8) ∧ (I 740 11 = 0 ∨ I 740 9 < I 740 10)) ∧ (nxP (I0 747) (I0 740 8) (I0 740 10) (I0 740 11) (I 740 9) (I 740 10) (I 740 11) (I 740 12) (I 740 13))) ∧ m = (1 : Int).toNat
set_option maxHeartbeats 6000000 in
set_option maxRecDepth 8000 in
theorem ct_M_next_c8003 {I : fH}  (h0 : fB bsJ I) (hp0 : I 740 10 ≤ I 740 8) : fC ρ base n F xTc vwCl xTys D dA la gJ (fbz bsJ znJ (fKc wz_1c18d) I) xm_314 [.inr (.inr (some 740))] I (fun I' r => r = none ∧ (I 740 10 ≤ I' 740 9 ∧ I' 740 9 ≤ I' 740 10 ∧ I' 740 10 ≤ I' 740 8) ∧ (nxH I I') ∧ (dkI I')) := by
  have hW : fzs wz_1c18d (fKc wz_1c18d) := fKc_ok _
  refine f_meth (rb := rbJ) (J := [(34, (jc_M_next_c8003_34 I)), (72, (jc_M_next_c8003_72 I)), (90, (jc_M_next_c8003_90 I)), (117, (jc_M_next_c8003_117 I)), (128, (jc_M_next_c8003_128 I)), (152, (jc_M_next_c8003_152 I)), (198, (jc_M_next_c8003_198 I)), (214, (jc_M_next_c8003_214 I)), (282, (jc_M_next_c8003_282 I)), (311, (jc_M_next_c8003_311 I)), (339, (jc_M_next_c8003_339 I))]) 300 400 xG xin_314 x6_314 okJ (fB_self h0) ?_ ?_
  · refine List.forall_mem_cons.mpr ⟨?_, List.forall_mem_cons.mpr ⟨?_, List.forall_mem_cons.mpr ⟨?_, List.forall_mem_cons.mpr ⟨?_, List.forall_mem_cons.mpr ⟨?_, List.forall_mem_cons.mpr ⟨?_, List.forall_mem_cons.mpr ⟨?_, List.forall_mem_cons.mpr ⟨?_, List.forall_mem_cons.mpr ⟨?_, List.forall_mem_cons.mpr ⟨?_, List.forall_mem_cons.mpr ⟨?_, fun q h => absurd h List.not_mem_nil⟩⟩⟩⟩⟩⟩⟩⟩⟩⟩⟩
    · rintro m _ _ I1 hB1 ⟨y1, y2, rfl, rfl, ⟨hb, hx0⟩, hm⟩
      have k1 := fBz_eq hB1 (a := 740) (j := 8) (by decide +kernel)
      have b2 := fBd fb_740_8 (fBz h0 hB1)
      have e7 : I1 747 = I 747 := funext (fFr_at (fFr_of hB1) 747 (by decide +kernel) rfl)
      refine And.intro ⟨rfl, by decide, by decide⟩ (fgetf fb_740_10 h0 hB1 ?_)
      intro z3 lz3 uz3 qz3
      refine And.intro ⟨rfl, by decide, by decide⟩ (fgetf fb_740_8 h0 hB1 ?_)
      intro z4 lz4 uz4 qz4
      refine And.intro (And.intro (by first | exact fi_ lz3 uz3 rfl | omega) (by first | exact fi_ lz4 uz4 rfl | omega)) (And.intro ?_ ?_)
      · intro c5
        exact fcutJ (I := I1) (j := (jc_M_next_c8003_72 I)) (lv' := [(0, .inr (.inr (some 740))), (1, .inl _), (2, .inl _)]) (And.intro rfl (And.intro rfl (And.intro rfl True.intro))) ⟨_, _, rfl, rfl, ⟨by omega, ((rdS_no (c := rdB) (tp := I 747) (n := I 740 8) (p := I1 740 10) (fun q => by have q1 := q.1; have q2 := rdB_iff.mp q.2; rw [← e7] at q2; omega)).symm.trans hx0)⟩, rfl⟩ (by omega)
      · intro c6
        refine And.intro ⟨rfl, by decide, by decide⟩ ?_
        refine And.intro ⟨rfl, by decide, by decide⟩ (fgetf fb_740_10 h0 hB1 ?_)
        intro z7 lz7 uz7 qz7
        refine fload rL_747_747_0_95_1_0 h0 hB1 (by omega) ?_
        intro z8 lz8 uz8 qz8
        have w53 := fld_at qz8 (I1 740 10).toNat (by omega)
        refine And.intro (And.intro (by first | exact fi_ lz8 uz8 rfl | omega) (by first | exact ⟨by decide, by decide⟩ | omega)) (And.intro ?_ ?_)
        · intro c9
          exact fcutJ (I := I1) (j := (jc_M_next_c8003_72 I)) (lv' := [(0, .inr (.inr (some 740))), (1, .inl _), (2, .inl _)]) (And.intro rfl (And.intro rfl (And.intro rfl True.intro))) ⟨_, _, rfl, rfl, ⟨by omega, ((rdS_no (c := rdB) (tp := I 747) (n := I 740 8) (p := I1 740 10) (fun q => by have q1 := q.1; have q2 := rdB_iff.mp q.2; rw [← e7] at q2; omega)).symm.trans hx0)⟩, rfl⟩ (by omega)
        · intro c10
          refine And.intro ⟨rfl, by decide, by decide⟩ (fgetf fb_740_10 h0 hB1 ?_)
          intro z11 lz11 uz11 qz11
          refine And.intro ⟨rfl, by decide, by decide⟩ (And.intro rfl (And.intro (Or.inl rfl) (fputf fb_740_10 (by decide +kernel) hW (by omega) ?_)))
          intro IhB12 ehB12 hB12
          have t13 : IhB12 740 8 = I1 740 8 := (congrFun (congrFun ehB12 740) 8).trans (fup_ne (by first | decide | omega))
          have t14 : IhB12 740 9 = I1 740 9 := (congrFun (congrFun ehB12 740) 9).trans (fup_ne (by first | decide | omega))
          have t15 := fup_at ehB12 10 (by first | rfl | omega)
          have t16 : IhB12 740 11 = I1 740 11 := (congrFun (congrFun ehB12 740) 11).trans (fup_ne (by first | decide | omega))
          have t17 : IhB12 740 12 = I1 740 12 := (congrFun (congrFun ehB12 740) 12).trans (fup_ne (by first | decide | omega))
          have t18 : IhB12 740 13 = I1 740 13 := (congrFun (congrFun ehB12 740) 13).trans (fup_ne (by first | decide | omega))
          have k19 := fBz_eq hB12 (a := 740) (j := 8) (by decide +kernel)
          exact fcutJ (I := IhB12) (j := (jc_M_next_c8003_34 I)) (lv' := [(0, .inr (.inr (some 740))), (1, .inl _), (2, .inl _)]) (And.intro rfl (And.intro rfl (And.intro rfl True.intro))) ⟨_, _, rfl, rfl, ⟨by omega, ((congrArg (rdS rdB (I 747) (I 740 8)) (by omega : IhB12 740 10 = I1 740 10 + 1)).trans ((rdS_go (by omega) (rdB_iff.mpr (by rw [← e7]; omega))).symm.trans hx0))⟩, rfl⟩ (by omega)
    · rintro m _ _ I1 hB1 ⟨y1, y2, rfl, rfl, ⟨hb, hx0⟩, hm⟩
      have k20 := fBz_eq hB1 (a := 740) (j := 8) (by decide +kernel)
      have b21 := fBd fb_740_8 (fBz h0 hB1)
      have e7 : I1 747 = I 747 := funext (fFr_at (fFr_of hB1) 747 (by decide +kernel) rfl)
      refine And.intro (by first | exact fi_ hb.1.1 hb.1.2 rfl | omega) (And.intro ?_ ?_)
      · intro c22
        exact fcutJ (I := I1) (j := (jc_M_next_c8003_90 I)) (lv' := [(0, .inr (.inr (some 740))), (1, .inl _)]) (And.intro rfl (And.intro rfl True.intro)) ⟨_, rfl, rfl, ⟨by omega, hx0⟩, rfl⟩ (by omega)
      · intro c23
        refine And.intro ⟨rfl, by decide, by decide⟩ (fgetf fb_740_10 h0 hB1 ?_)
        intro z24 lz24 uz24 qz24
        refine And.intro (And.intro (by first | exact fi_ hb.2.1.1 hb.2.1.2 rfl | omega) (by first | exact fi_ lz24 uz24 rfl | omega)) (And.intro ?_ ?_)
        · intro c25
          exact fcutJ (I := I1) (j := (jc_M_next_c8003_90 I)) (lv' := [(0, .inr (.inr (some 740))), (1, .inl _)]) (And.intro rfl (And.intro rfl True.intro)) ⟨_, rfl, rfl, ⟨by omega, hx0⟩, rfl⟩ (by omega)
        · intro c26
          exact fcutJ (I := I1) (j := (jc_M_next_c8003_90 I)) (lv' := [(0, .inr (.inr (some 740))), (1, .inl _)]) (And.intro rfl (And.intro rfl True.intro)) ⟨_, rfl, rfl, ⟨by omega, hx0⟩, rfl⟩ (by omega)
    · rintro m _ _ I1 hB1 ⟨y1, rfl, rfl, ⟨hb, hx0⟩, hm⟩
      have k27 := fBz_eq hB1 (a := 740) (j := 8) (by decide +kernel)
      have b28 := fBd fb_740_8 (fBz h0 hB1)
      have e7 : I1 747 = I 747 := funext (fFr_at (fFr_of hB1) 747 (by decide +kernel) rfl)
      refine And.intro ⟨rfl, by decide, by decide⟩ (fgetf fb_740_10 h0 hB1 ?_)
      intro z29 lz29 uz29 qz29
      refine And.intro ⟨rfl, by decide, by decide⟩ (And.intro rfl (And.intro (Or.inl rfl) (fputf fb_740_9 (by decide +kernel) hW (by first | exact ⟨lz29, uz29⟩ | omega) ?_)))
      intro IhB30 ehB30 hB30
      have t31 : IhB30 740 8 = I1 740 8 := (congrFun (congrFun ehB30 740) 8).trans (fup_ne (by first | decide | omega))
      have t32 := fup_at ehB30 9 (by first | rfl | omega)
      have t33 : IhB30 740 10 = I1 740 10 := (congrFun (congrFun ehB30 740) 10).trans (fup_ne (by first | decide | omega))
      have t34 : IhB30 740 11 = I1 740 11 := (congrFun (congrFun ehB30 740) 11).trans (fup_ne (by first | decide | omega))
      have t35 : IhB30 740 12 = I1 740 12 := (congrFun (congrFun ehB30 740) 12).trans (fup_ne (by first | decide | omega))
      have t36 : IhB30 740 13 = I1 740 13 := (congrFun (congrFun ehB30 740) 13).trans (fup_ne (by first | decide | omega))
      have k37 := fBz_eq hB30 (a := 740) (j := 8) (by decide +kernel)
      refine And.intro ⟨rfl, by decide, by decide⟩ (fgetf fb_740_9 h0 hB30 ?_)
      intro z38 lz38 uz38 qz38
      refine And.intro ⟨rfl, by decide, by decide⟩ (fgetf fb_740_8 h0 hB30 ?_)
      intro z39 lz39 uz39 qz39
      refine And.intro (And.intro (by first | exact fi_ lz38 uz38 rfl | omega) (by first | exact fi_ lz39 uz39 rfl | omega)) (And.intro ?_ ?_)
      · intro c40
        exact fcutJ (I := IhB30) (j := (jc_M_next_c8003_117 I)) (lv' := [(0, .inr (.inr (some 740))), (1, .inl _)]) (And.intro rfl (And.intro rfl True.intro)) ⟨_, rfl, rfl, ⟨by omega, ((by omega : IhB30 740 9 = I1 740 10).trans hx0)⟩, rfl⟩ (by omega)
      · intro c41
        refine And.intro ⟨rfl, by decide, by decide⟩ (And.intro rfl (And.intro (Or.inl rfl) (fputf fb_740_11 (by decide +kernel) hW (by first | exact ⟨by decide, by decide⟩ | omega) ?_)))
        intro IhB42 ehB42 hB42
        have t43 : IhB42 740 8 = IhB30 740 8 := (congrFun (congrFun ehB42 740) 8).trans (fup_ne (by first | decide | omega))
        have t44 : IhB42 740 9 = IhB30 740 9 := (congrFun (congrFun ehB42 740) 9).trans (fup_ne (by first | decide | omega))
        have t45 : IhB42 740 10 = IhB30 740 10 := (congrFun (congrFun ehB42 740) 10).trans (fup_ne (by first | decide | omega))
        have t46 := fup_at ehB42 11 (by first | rfl | omega)
        have t47 : IhB42 740 12 = IhB30 740 12 := (congrFun (congrFun ehB42 740) 12).trans (fup_ne (by first | decide | omega))
        have t48 : IhB42 740 13 = IhB30 740 13 := (congrFun (congrFun ehB42 740) 13).trans (fup_ne (by first | decide | omega))
        have k49 := fBz_eq hB42 (a := 740) (j := 8) (by decide +kernel)
        exact fcutJ (I := IhB42) (j := (jc_M_next_c8003_339 I)) (lv' := []) (True.intro) ⟨rfl, rfl, ⟨by omega, (nx_end (y := y1) (by omega) ((by omega : IhB42 740 9 = I1 740 10).trans hx0) (by omega) (by omega) (by omega))⟩, rfl⟩ (by omega)
    · rintro m _ _ I1 hB1 ⟨y1, rfl, rfl, ⟨hb, hx0⟩, hm⟩
      have k50 := fBz_eq hB1 (a := 740) (j := 8) (by decide +kernel)
      have b51 := fBd fb_740_8 (fBz h0 hB1)
      have e7 : I1 747 = I 747 := funext (fFr_at (fFr_of hB1) 747 (by decide +kernel) rfl)
      refine And.intro ⟨rfl, by decide, by decide⟩ (fgetf fb_740_9 h0 hB1 ?_)
      intro z52 lz52 uz52 qz52
      subst qz52
      refine Exists.intro xm_315 (And.intro mi_315 (And.intro ⟨rfl, rfl, rfl, rfl⟩ (And.intro rfl ?_)))
      refine fcallp hB1 (ct_M_isLetter_13ae5 (fBz h0 hB1) (by first | exact ⟨lz52, uz52⟩ | omega)) ?_
      rintro _ ⟨z53, rfl, hz53⟩
      have wd : I1 740 10 = I1 740 9 → I1 747 (I1 740 10).toNat = I1 747 (I1 740 9).toNat := fun q => by rw [q]
      refine And.intro (by omega) (And.intro ?_ ?_)
      · intro c54
        exact fcutJ (I := I1) (j := (jc_M_next_c8003_198 I)) (lv' := [(0, .inr (.inr (some 740))), (1, .inl _)]) (And.intro rfl (And.intro rfl True.intro)) ⟨_, rfl, rfl, ⟨by omega, hx0, (rdL_no (by rw [← e7]; omega))⟩, rfl⟩ (by omega)
      · intro c55
        exact fcutJ (I := I1) (j := (jc_M_next_c8003_128 I)) (lv' := [(0, .inr (.inr (some 740))), (1, .inl _)]) (And.intro rfl (And.intro rfl True.intro)) ⟨_, rfl, rfl, ⟨by omega, hx0, ((congrArg (rdS rdL (I 747) (I 740 8)) (by omega : I1 740 10 = I1 740 9)).trans (rdW_L (by omega) (rdL_iff.mpr (by rw [← e7]; omega))).symm), (rdL_iff.mpr (by rw [← e7]; omega))⟩, rfl⟩ (by omega)
    · rintro m _ _ I1 hB1 ⟨y1, rfl, rfl, ⟨hb, hx0, hx1, hx2⟩, hm⟩
      have k56 := fBz_eq hB1 (a := 740) (j := 8) (by decide +kernel)
      have b57 := fBd fb_740_8 (fBz h0 hB1)
      have e7 : I1 747 = I 747 := funext (fFr_at (fFr_of hB1) 747 (by decide +kernel) rfl)
      refine And.intro ⟨rfl, by decide, by decide⟩ (fgetf fb_740_10 h0 hB1 ?_)
      intro z58 lz58 uz58 qz58
      subst qz58
      refine Exists.intro xm_315 (And.intro mi_315 (And.intro ⟨rfl, rfl, rfl, rfl⟩ (And.intro rfl ?_)))
      refine fcallp hB1 (ct_M_isLetter_13ae5 (fBz h0 hB1) (by first | exact ⟨lz58, uz58⟩ | omega)) ?_
      rintro _ ⟨z59, rfl, hz59⟩
      have wc : I1 740 10 = I1 740 9 → I1 747 (I1 740 10).toNat = I1 747 (I1 740 9).toNat := fun q => by rw [q]
      refine And.intro (by omega) (And.intro ?_ ?_)
      · intro c60
        exact fcutJ (I := I1) (j := (jc_M_next_c8003_152 I)) (lv' := [(0, .inr (.inr (some 740))), (1, .inl _)]) (And.intro rfl (And.intro rfl True.intro)) ⟨_, rfl, rfl, ⟨by omega, hx0, ((rdS_no (c := rdL) (tp := I 747) (n := I 740 8) (p := I1 740 10) (fun q => by have q1 := q.1; have q2 := rdL_iff.mp q.2; rw [← e7] at q2; omega)).symm.trans hx1), hx2⟩, rfl⟩ (by omega)
      · intro c61
        refine And.intro ⟨rfl, by decide, by decide⟩ (fgetf fb_740_10 h0 hB1 ?_)
        intro z62 lz62 uz62 qz62
        refine And.intro ⟨rfl, by decide, by decide⟩ (And.intro rfl (And.intro (Or.inl rfl) (fputf fb_740_10 (by decide +kernel) hW (by omega) ?_)))
        intro IhB63 ehB63 hB63
        have t64 : IhB63 740 9 = I1 740 9 := (congrFun (congrFun ehB63 740) 9).trans (fup_ne (by first | decide | omega))
        have t65 := fup_at ehB63 10 (by first | rfl | omega)
        have t66 : IhB63 740 11 = I1 740 11 := (congrFun (congrFun ehB63 740) 11).trans (fup_ne (by first | decide | omega))
        have t67 : IhB63 740 12 = I1 740 12 := (congrFun (congrFun ehB63 740) 12).trans (fup_ne (by first | decide | omega))
        have t68 : IhB63 740 13 = I1 740 13 := (congrFun (congrFun ehB63 740) 13).trans (fup_ne (by first | decide | omega))
        have k69 := fBz_eq hB63 (a := 740) (j := 8) (by decide +kernel)
        exact fcutJ (I := IhB63) (j := (jc_M_next_c8003_128 I)) (lv' := [(0, .inr (.inr (some 740))), (1, .inl _)]) (And.intro rfl (And.intro rfl True.intro)) ⟨_, rfl, rfl, ⟨by omega, (by rw [(by omega : IhB63 740 9 = I1 740 9)]; exact hx0), ((congrArg (rdS rdL (I 747) (I 740 8)) (by omega : IhB63 740 10 = I1 740 10 + 1)).trans ((rdS_go (by omega) (rdL_iff.mpr (by rw [← e7]; omega))).symm.trans (hx1.trans (by rw [(by omega : IhB63 740 9 = I1 740 9)])))), (by rw [(by omega : IhB63 740 9 = I1 740 9)]; exact hx2)⟩, rfl⟩ (by omega)
    · rintro m _ _ I1 hB1 ⟨y1, rfl, rfl, ⟨hb, hx0, hx1, hx2⟩, hm⟩
      have k70 := fBz_eq hB1 (a := 740) (j := 8) (by decide +kernel)
      have b71 := fBd fb_740_8 (fBz h0 hB1)
      have e7 : I1 747 = I 747 := funext (fFr_at (fFr_of hB1) 747 (by decide +kernel) rfl)
      refine And.intro (by first | exact fi_ hb.1.1 hb.1.2 rfl | omega) (And.intro ?_ ?_)
      · intro c72
        refine And.intro ⟨rfl, by decide, by decide⟩ (And.intro rfl (And.intro (Or.inl rfl) (fputf fb_740_11 (by decide +kernel) hW (by omega) ?_)))
        intro IhB73 ehB73 hB73
        have t74 : IhB73 740 9 = I1 740 9 := (congrFun (congrFun ehB73 740) 9).trans (fup_ne (by first | decide | omega))
        have t75 : IhB73 740 10 = I1 740 10 := (congrFun (congrFun ehB73 740) 10).trans (fup_ne (by first | decide | omega))
        have t76 := fup_at ehB73 11 (by first | rfl | omega)
        have t77 : IhB73 740 12 = I1 740 12 := (congrFun (congrFun ehB73 740) 12).trans (fup_ne (by first | decide | omega))
        have t78 : IhB73 740 13 = I1 740 13 := (congrFun (congrFun ehB73 740) 13).trans (fup_ne (by first | decide | omega))
        have k79 := fBz_eq hB73 (a := 740) (j := 8) (by decide +kernel)
        refine And.intro ⟨rfl, by decide, by decide⟩ (fgetf fb_740_10 h0 hB73 ?_)
        intro z80 lz80 uz80 qz80
        refine And.intro ⟨rfl, by decide, by decide⟩ (fgetf fb_740_9 h0 hB73 ?_)
        intro z81 lz81 uz81 qz81
        refine And.intro (by omega) (And.intro ?_ ?_)
        · intro c82
          refine And.intro ⟨rfl, by decide, by decide⟩ (And.intro rfl (And.intro (Or.inl rfl) (fputf fb_740_13 (by decide +kernel) hW (by omega) ?_)))
          intro IhB83 ehB83 hB83
          have t84 : IhB83 740 9 = IhB73 740 9 := (congrFun (congrFun ehB83 740) 9).trans (fup_ne (by first | decide | omega))
          have t85 : IhB83 740 10 = IhB73 740 10 := (congrFun (congrFun ehB83 740) 10).trans (fup_ne (by first | decide | omega))
          have t86 : IhB83 740 11 = IhB73 740 11 := (congrFun (congrFun ehB83 740) 11).trans (fup_ne (by first | decide | omega))
          have t87 : IhB83 740 12 = IhB73 740 12 := (congrFun (congrFun ehB83 740) 12).trans (fup_ne (by first | decide | omega))
          have t88 := fup_at ehB83 13 (by first | rfl | omega)
          have k89 := fBz_eq hB83 (a := 740) (j := 8) (by decide +kernel)
          exact fcutJ (I := IhB83) (j := (jc_M_next_c8003_339 I)) (lv' := []) (True.intro) ⟨rfl, rfl, ⟨by omega, (nx_L (y := y1) (by omega) (by rw [(by omega : IhB83 740 9 = I1 740 9)]; exact hx0) (by omega) (by rw [(by omega : IhB83 740 9 = I1 740 9)]; exact hx2) (by rw [(by omega : IhB83 740 9 = I1 740 9), ← hx1]; omega) (by omega) (by rw [(by omega : IhB83 740 9 = I1 740 9)]; first | exact Or.inr ⟨by omega, by omega⟩ | exact Or.inl ⟨by omega, by rw [← e7]; have w := w187; rw [fup_other ehB73 747 _ (Or.inl (by decide)), (by omega : IhB73 740 9 = I1 740 9)] at w; omega⟩))⟩, rfl⟩ (by omega)
        · intro c90
          refine And.intro ⟨rfl, by decide, by decide⟩ ?_
          refine And.intro ⟨rfl, by decide, by decide⟩ (fgetf fb_740_9 h0 hB73 ?_)
          intro z91 lz91 uz91 qz91
          refine fload rL_747_747_0_95_1_0 h0 hB73 (by omega) ?_
          intro z92 lz92 uz92 qz92
          have w187 := fld_at qz92 (IhB73 740 9).toNat (by omega)
          refine And.intro ⟨rfl, by decide, by decide⟩ (And.intro rfl (And.intro (Or.inl rfl) (fputf fb_740_13 (by decide +kernel) hW (by first | exact ⟨lz92, uz92⟩ | omega) ?_)))
          intro IhB93 ehB93 hB93
          have t94 : IhB93 740 9 = IhB73 740 9 := (congrFun (congrFun ehB93 740) 9).trans (fup_ne (by first | decide | omega))
          have t95 : IhB93 740 10 = IhB73 740 10 := (congrFun (congrFun ehB93 740) 10).trans (fup_ne (by first | decide | omega))
          have t96 : IhB93 740 11 = IhB73 740 11 := (congrFun (congrFun ehB93 740) 11).trans (fup_ne (by first | decide | omega))
          have t97 : IhB93 740 12 = IhB73 740 12 := (congrFun (congrFun ehB93 740) 12).trans (fup_ne (by first | decide | omega))
          have t98 := fup_at ehB93 13 (by first | rfl | omega)
          have k99 := fBz_eq hB93 (a := 740) (j := 8) (by decide +kernel)
          exact fcutJ (I := IhB93) (j := (jc_M_next_c8003_339 I)) (lv' := []) (True.intro) ⟨rfl, rfl, ⟨by omega, (nx_L (y := y1) (by omega) (by rw [(by omega : IhB93 740 9 = I1 740 9)]; exact hx0) (by omega) (by rw [(by omega : IhB93 740 9 = I1 740 9)]; exact hx2) (by rw [(by omega : IhB93 740 9 = I1 740 9), ← hx1]; omega) (by omega) (by rw [(by omega : IhB93 740 9 = I1 740 9)]; first | exact Or.inr ⟨by omega, by omega⟩ | exact Or.inl ⟨by omega, by rw [← e7]; have w := w187; rw [fup_other ehB73 747 _ (Or.inl (by decide)), (by omega : IhB73 740 9 = I1 740 9)] at w; omega⟩))⟩, rfl⟩ (by omega)
      · intro c100
        refine And.intro ⟨rfl, by decide, by decide⟩ (And.intro rfl (And.intro (Or.inl rfl) (fputf fb_740_11 (by decide +kernel) hW (by first | exact ⟨by decide, by decide⟩ | omega) ?_)))
        intro IhB101 ehB101 hB101
        have t102 : IhB101 740 9 = I1 740 9 := (congrFun (congrFun ehB101 740) 9).trans (fup_ne (by first | decide | omega))
        have t103 : IhB101 740 10 = I1 740 10 := (congrFun (congrFun ehB101 740) 10).trans (fup_ne (by first | decide | omega))
        have t104 := fup_at ehB101 11 (by first | rfl | omega)
        have t105 : IhB101 740 12 = I1 740 12 := (congrFun (congrFun ehB101 740) 12).trans (fup_ne (by first | decide | omega))
        have t106 : IhB101 740 13 = I1 740 13 := (congrFun (congrFun ehB101 740) 13).trans (fup_ne (by first | decide | omega))
        have k107 := fBz_eq hB101 (a := 740) (j := 8) (by decide +kernel)
        refine And.intro ⟨rfl, by decide, by decide⟩ (fgetf fb_740_10 h0 hB101 ?_)
        intro z108 lz108 uz108 qz108
        refine And.intro ⟨rfl, by decide, by decide⟩ (fgetf fb_740_9 h0 hB101 ?_)
        intro z109 lz109 uz109 qz109
        refine And.intro (by omega) (And.intro ?_ ?_)
        · intro c110
          refine And.intro ⟨rfl, by decide, by decide⟩ (And.intro rfl (And.intro (Or.inl rfl) (fputf fb_740_13 (by decide +kernel) hW (by omega) ?_)))
          intro IhB111 ehB111 hB111
          have t112 : IhB111 740 9 = IhB101 740 9 := (congrFun (congrFun ehB111 740) 9).trans (fup_ne (by first | decide | omega))
          have t113 : IhB111 740 10 = IhB101 740 10 := (congrFun (congrFun ehB111 740) 10).trans (fup_ne (by first | decide | omega))
          have t114 : IhB111 740 11 = IhB101 740 11 := (congrFun (congrFun ehB111 740) 11).trans (fup_ne (by first | decide | omega))
          have t115 : IhB111 740 12 = IhB101 740 12 := (congrFun (congrFun ehB111 740) 12).trans (fup_ne (by first | decide | omega))
          have t116 := fup_at ehB111 13 (by first | rfl | omega)
          have k117 := fBz_eq hB111 (a := 740) (j := 8) (by decide +kernel)
          exact fcutJ (I := IhB111) (j := (jc_M_next_c8003_339 I)) (lv' := []) (True.intro) ⟨rfl, rfl, ⟨by omega, (nx_L (y := y1) (by omega) (by rw [(by omega : IhB111 740 9 = I1 740 9)]; exact hx0) (by omega) (by rw [(by omega : IhB111 740 9 = I1 740 9)]; exact hx2) (by rw [(by omega : IhB111 740 9 = I1 740 9), ← hx1]; omega) (by omega) (by rw [(by omega : IhB111 740 9 = I1 740 9)]; first | exact Or.inr ⟨by omega, by omega⟩ | exact Or.inl ⟨by omega, by rw [← e7]; have w := w187; rw [fup_other ehB101 747 _ (Or.inl (by decide)), (by omega : IhB101 740 9 = I1 740 9)] at w; omega⟩))⟩, rfl⟩ (by omega)
        · intro c118
          refine And.intro ⟨rfl, by decide, by decide⟩ ?_
          refine And.intro ⟨rfl, by decide, by decide⟩ (fgetf fb_740_9 h0 hB101 ?_)
          intro z119 lz119 uz119 qz119
          refine fload rL_747_747_0_95_1_0 h0 hB101 (by omega) ?_
          intro z120 lz120 uz120 qz120
          have w187 := fld_at qz120 (IhB101 740 9).toNat (by omega)
          refine And.intro ⟨rfl, by decide, by decide⟩ (And.intro rfl (And.intro (Or.inl rfl) (fputf fb_740_13 (by decide +kernel) hW (by first | exact ⟨lz120, uz120⟩ | omega) ?_)))
          intro IhB121 ehB121 hB121
          have t122 : IhB121 740 9 = IhB101 740 9 := (congrFun (congrFun ehB121 740) 9).trans (fup_ne (by first | decide | omega))
          have t123 : IhB121 740 10 = IhB101 740 10 := (congrFun (congrFun ehB121 740) 10).trans (fup_ne (by first | decide | omega))
          have t124 : IhB121 740 11 = IhB101 740 11 := (congrFun (congrFun ehB121 740) 11).trans (fup_ne (by first | decide | omega))
          have t125 : IhB121 740 12 = IhB101 740 12 := (congrFun (congrFun ehB121 740) 12).trans (fup_ne (by first | decide | omega))
          have t126 := fup_at ehB121 13 (by first | rfl | omega)
          have k127 := fBz_eq hB121 (a := 740) (j := 8) (by decide +kernel)
          exact fcutJ (I := IhB121) (j := (jc_M_next_c8003_339 I)) (lv' := []) (True.intro) ⟨rfl, rfl, ⟨by omega, (nx_L (y := y1) (by omega) (by rw [(by omega : IhB121 740 9 = I1 740 9)]; exact hx0) (by omega) (by rw [(by omega : IhB121 740 9 = I1 740 9)]; exact hx2) (by rw [(by omega : IhB121 740 9 = I1 740 9), ← hx1]; omega) (by omega) (by rw [(by omega : IhB121 740 9 = I1 740 9)]; first | exact Or.inr ⟨by omega, by omega⟩ | exact Or.inl ⟨by omega, by rw [← e7]; have w := w187; rw [fup_other ehB101 747 _ (Or.inl (by decide)), (by omega : IhB101 740 9 = I1 740 9)] at w; omega⟩))⟩, rfl⟩ (by omega)
    · rintro m _ _ I1 hB1 ⟨y1, rfl, rfl, ⟨hb, hx0, hx1⟩, hm⟩
      have k128 := fBz_eq hB1 (a := 740) (j := 8) (by decide +kernel)
      have b129 := fBd fb_740_8 (fBz h0 hB1)
      have e7 : I1 747 = I 747 := funext (fFr_at (fFr_of hB1) 747 (by decide +kernel) rfl)
      refine And.intro ⟨rfl, by decide, by decide⟩ (fgetf fb_740_9 h0 hB1 ?_)
      intro z130 lz130 uz130 qz130
      subst qz130
      refine Exists.intro xm_316 (And.intro mi_316 (And.intro ⟨rfl, rfl, rfl, rfl⟩ (And.intro rfl ?_)))
      refine fcallp hB1 (ct_M_isDigit_7604c (fBz h0 hB1) (by first | exact ⟨lz130, uz130⟩ | omega)) ?_
      rintro _ ⟨z131, rfl, hz131⟩
      have wd : I1 740 10 = I1 740 9 → I1 747 (I1 740 10).toNat = I1 747 (I1 740 9).toNat := fun q => by rw [q]
      refine And.intro (by omega) (And.intro ?_ ?_)
      · intro c132
        exact fcutJ (I := I1) (j := (jc_M_next_c8003_311 I)) (lv' := [(0, .inr (.inr (some 740)))]) (And.intro rfl True.intro) ⟨rfl, rfl, ⟨by omega, hx0, hx1, (rdD_no (by rw [← e7]; omega))⟩, rfl⟩ (by omega)
      · intro c133
        refine And.intro ⟨rfl, by decide, by decide⟩ (And.intro rfl (And.intro (Or.inl rfl) (fputf fb_740_12 (by decide +kernel) hW (by first | exact ⟨by decide, by decide⟩ | omega) ?_)))
        intro IhB134 ehB134 hB134
        have t135 : IhB134 740 9 = I1 740 9 := (congrFun (congrFun ehB134 740) 9).trans (fup_ne (by first | decide | omega))
        have t136 : IhB134 740 10 = I1 740 10 := (congrFun (congrFun ehB134 740) 10).trans (fup_ne (by first | decide | omega))
        have t137 : IhB134 740 11 = I1 740 11 := (congrFun (congrFun ehB134 740) 11).trans (fup_ne (by first | decide | omega))
        have t138 := fup_at ehB134 12 (by first | rfl | omega)
        have t139 : IhB134 740 13 = I1 740 13 := (congrFun (congrFun ehB134 740) 13).trans (fup_ne (by first | decide | omega))
        have k140 := fBz_eq hB134 (a := 740) (j := 8) (by decide +kernel)
        have w214 : IhB134 747 (IhB134 740 9).toNat = I1 747 (I1 740 9).toNat := by rw [fup_other ehB134 740 9 (Or.inr (by omega)), fup_other ehB134 747 _ (Or.inl (by decide))]
        exact fcutJ (I := IhB134) (j := (jc_M_next_c8003_214 I)) (lv' := [(0, .inr (.inr (some 740))), (1, .inl _)]) (And.intro rfl (And.intro rfl True.intro)) ⟨_, rfl, rfl, ⟨by omega, (by rw [(by omega : IhB134 740 9 = I1 740 9)]; exact hx0), ((congrArg (rdS rdD (I 747) (I 740 8)) (by omega : IhB134 740 10 = I1 740 9)).trans ((rdW_D (by omega) hx1 (rdD_iff.mpr (by rw [← e7]; omega))).symm.trans (by rw [(by omega : IhB134 740 9 = I1 740 9)]))), (by rw [(by omega : IhB134 740 9 = I1 740 9)]; exact hx1), (by rw [(by omega : IhB134 740 9 = I1 740 9)]; exact rdD_iff.mpr (by rw [← e7]; omega)), (fun _ => by rw [show (IhB134 740 10 - IhB134 740 9).toNat = 0 by omega]; show _ = (0 : Int); omega), (fun _ => nuB_0 (by omega) (by omega))⟩, rfl⟩ (by omega)
    · rintro m _ _ I1 hB1 ⟨y1, rfl, rfl, ⟨hb, hx0, hx1, hx2, hx3, hx4, hx5⟩, hm⟩
      have k141 := fBz_eq hB1 (a := 740) (j := 8) (by decide +kernel)
      have b142 := fBd fb_740_8 (fBz h0 hB1)
      have e7 : I1 747 = I 747 := funext (fFr_at (fFr_of hB1) 747 (by decide +kernel) rfl)
      refine And.intro ⟨rfl, by decide, by decide⟩ (fgetf fb_740_10 h0 hB1 ?_)
      intro z143 lz143 uz143 qz143
      subst qz143
      refine Exists.intro xm_316 (And.intro mi_316 (And.intro ⟨rfl, rfl, rfl, rfl⟩ (And.intro rfl ?_)))
      refine fcallp hB1 (ct_M_isDigit_7604c (fBz h0 hB1) (by first | exact ⟨lz143, uz143⟩ | omega)) ?_
      rintro _ ⟨z144, rfl, hz144⟩
      have wc : I1 740 10 = I1 740 9 → I1 747 (I1 740 10).toNat = I1 747 (I1 740 9).toNat := fun q => by rw [q]
      refine And.intro (by omega) (And.intro ?_ ?_)
      · intro c145
        exact fcutJ (I := I1) (j := (jc_M_next_c8003_282 I)) (lv' := [(0, .inr (.inr (some 740))), (1, .inl _)]) (And.intro rfl (And.intro rfl True.intro)) ⟨_, rfl, rfl, ⟨by omega, hx0, ((rdS_no (c := rdD) (tp := I 747) (n := I 740 8) (p := I1 740 10) (fun q => by have q1 := q.1; have q2 := rdD_iff.mp q.2; rw [← e7] at q2; omega)).symm.trans hx1), hx2, hx3, hx4⟩, rfl⟩ (by omega)
      · intro c146
        refine And.intro ⟨rfl, by decide, by decide⟩ (fgetf fb_740_10 h0 hB1 ?_)
        intro z147 lz147 uz147 qz147
        refine And.intro ⟨rfl, by decide, by decide⟩ (fgetf fb_740_9 h0 hB1 ?_)
        intro z148 lz148 uz148 qz148
        refine And.intro (by omega) (And.intro ?_ ?_)
        · intro c149
          refine And.intro ⟨rfl, by decide, by decide⟩ (fgetf fb_740_12 h0 hB1 ?_)
          intro z150 lz150 uz150 qz150
          refine And.intro ⟨rfl, by decide, by decide⟩ (And.intro rfl (And.intro (Or.inl rfl) (fputf fb_740_12 (by decide +kernel) hW (by first | exact ⟨lz150, uz150⟩ | omega) ?_)))
          intro IhB151 ehB151 hB151
          have t152 : IhB151 740 9 = I1 740 9 := (congrFun (congrFun ehB151 740) 9).trans (fup_ne (by first | decide | omega))
          have t153 : IhB151 740 10 = I1 740 10 := (congrFun (congrFun ehB151 740) 10).trans (fup_ne (by first | decide | omega))
          have t154 : IhB151 740 11 = I1 740 11 := (congrFun (congrFun ehB151 740) 11).trans (fup_ne (by first | decide | omega))
          have t155 := fup_at ehB151 12 (by first | rfl | omega)
          have t156 : IhB151 740 13 = I1 740 13 := (congrFun (congrFun ehB151 740) 13).trans (fup_ne (by first | decide | omega))
          have k157 := fBz_eq hB151 (a := 740) (j := 8) (by decide +kernel)
          refine And.intro ⟨rfl, by decide, by decide⟩ (fgetf fb_740_10 h0 hB151 ?_)
          intro z158 lz158 uz158 qz158
          refine And.intro ⟨rfl, by decide, by decide⟩ (And.intro rfl (And.intro (Or.inl rfl) (fputf fb_740_10 (by decide +kernel) hW (by omega) ?_)))
          intro IhB159 ehB159 hB159
          have t160 : IhB159 740 9 = IhB151 740 9 := (congrFun (congrFun ehB159 740) 9).trans (fup_ne (by first | decide | omega))
          have t161 := fup_at ehB159 10 (by first | rfl | omega)
          have t162 : IhB159 740 11 = IhB151 740 11 := (congrFun (congrFun ehB159 740) 11).trans (fup_ne (by first | decide | omega))
          have t163 : IhB159 740 12 = IhB151 740 12 := (congrFun (congrFun ehB159 740) 12).trans (fup_ne (by first | decide | omega))
          have t164 : IhB159 740 13 = IhB151 740 13 := (congrFun (congrFun ehB159 740) 13).trans (fup_ne (by first | decide | omega))
          have k165 := fBz_eq hB159 (a := 740) (j := 8) (by decide +kernel)
          exact fcutJ (I := IhB159) (j := (jc_M_next_c8003_214 I)) (lv' := [(0, .inr (.inr (some 740))), (1, .inl _)]) (And.intro rfl (And.intro rfl True.intro)) ⟨_, rfl, rfl, ⟨by omega, (by rw [(by omega : IhB159 740 9 = I1 740 9)]; exact hx0), ((congrArg (rdS rdD (I 747) (I 740 8)) (by omega : IhB159 740 10 = I1 740 10 + 1)).trans ((rdS_go (by omega) (rdD_iff.mpr (by rw [← e7]; omega))).symm.trans (hx1.trans (by rw [(by omega : IhB159 740 9 = I1 740 9)])))), (by rw [(by omega : IhB159 740 9 = I1 740 9)]; exact hx2), (by rw [(by omega : IhB159 740 9 = I1 740 9)]; exact hx3), (fun q => by first | exact (by omega : False).elim | (rw [(by omega : IhB159 740 9 = I1 740 9)]; exact rdV_go (hx4 (by omega)) (by omega) (by omega) w254 (by omega))), (fun q => by first | exact (by omega : False).elim | exact nuB_step (hx5 (by omega)) (by omega) (by omega) (show 0 ≤ nil0 - 48 ∧ nil0 - 48 ≤ 9 by omega) (by omega))⟩, rfl⟩ (by omega)
        · intro c166
          have nb2 := nuB_3 (hx5 (by omega)) (by omega) (by omega)
          refine And.intro ⟨rfl, by decide, by decide⟩ (fgetf fb_740_12 h0 hB1 ?_)
          intro z167 lz167 uz167 qz167
          intro z168 hz168 ez168 bz168
          clear ez168
          try replace bz168 := bz168 (by omega)
          refine And.intro ⟨rfl, by decide, by decide⟩ ?_
          refine And.intro ⟨rfl, by decide, by decide⟩ (fgetf fb_740_10 h0 hB1 ?_)
          intro z169 lz169 uz169 qz169
          refine fload rL_747_747_0_95_1_0 h0 hB1 (by omega) ?_
          intro z170 lz170 uz170 qz170
          have u254 := fld_at qz170 (I1 740 10).toNat (by omega)
          have w254 := fld_at qz170 (I1 740 9 + (I1 740 10 - I1 740 9)).toNat (by omega)
          rw [e7] at w254
          intro z171 hz171 ez171 bz171
          clear ez171
          try replace bz171 := bz171 (by omega)
          intro z172 hz172 ez172 bz172
          clear ez172
          try replace bz172 := bz172 (by omega)
          refine And.intro ⟨rfl, by decide, by decide⟩ (And.intro rfl (And.intro (Or.inl rfl) (fputf fb_740_12 (by decide +kernel) hW (by omega) ?_)))
          intro IhB173 ehB173 hB173
          have t174 : IhB173 740 9 = I1 740 9 := (congrFun (congrFun ehB173 740) 9).trans (fup_ne (by first | decide | omega))
          have t175 : IhB173 740 10 = I1 740 10 := (congrFun (congrFun ehB173 740) 10).trans (fup_ne (by first | decide | omega))
          have t176 : IhB173 740 11 = I1 740 11 := (congrFun (congrFun ehB173 740) 11).trans (fup_ne (by first | decide | omega))
          have t177 := fup_at ehB173 12 (by first | rfl | omega)
          have t178 : IhB173 740 13 = I1 740 13 := (congrFun (congrFun ehB173 740) 13).trans (fup_ne (by first | decide | omega))
          have k179 := fBz_eq hB173 (a := 740) (j := 8) (by decide +kernel)
          refine And.intro ⟨rfl, by decide, by decide⟩ (fgetf fb_740_10 h0 hB173 ?_)
          intro z180 lz180 uz180 qz180
          refine And.intro ⟨rfl, by decide, by decide⟩ (And.intro rfl (And.intro (Or.inl rfl) (fputf fb_740_10 (by decide +kernel) hW (by omega) ?_)))
          intro IhB181 ehB181 hB181
          have t182 : IhB181 740 9 = IhB173 740 9 := (congrFun (congrFun ehB181 740) 9).trans (fup_ne (by first | decide | omega))
          have t183 := fup_at ehB181 10 (by first | rfl | omega)
          have t184 : IhB181 740 11 = IhB173 740 11 := (congrFun (congrFun ehB181 740) 11).trans (fup_ne (by first | decide | omega))
          have t185 : IhB181 740 12 = IhB173 740 12 := (congrFun (congrFun ehB181 740) 12).trans (fup_ne (by first | decide | omega))
          have t186 : IhB181 740 13 = IhB173 740 13 := (congrFun (congrFun ehB181 740) 13).trans (fup_ne (by first | decide | omega))
          have k187 := fBz_eq hB181 (a := 740) (j := 8) (by decide +kernel)
          exact fcutJ (I := IhB181) (j := (jc_M_next_c8003_214 I)) (lv' := [(0, .inr (.inr (some 740))), (1, .inl _)]) (And.intro rfl (And.intro rfl True.intro)) ⟨_, rfl, rfl, ⟨by omega, (by rw [(by omega : IhB181 740 9 = I1 740 9)]; exact hx0), ((congrArg (rdS rdD (I 747) (I 740 8)) (by omega : IhB181 740 10 = I1 740 10 + 1)).trans ((rdS_go (by omega) (rdD_iff.mpr (by rw [← e7]; omega))).symm.trans (hx1.trans (by rw [(by omega : IhB181 740 9 = I1 740 9)])))), (by rw [(by omega : IhB181 740 9 = I1 740 9)]; exact hx2), (by rw [(by omega : IhB181 740 9 = I1 740 9)]; exact hx3), (fun q => by first | exact (by omega : False).elim | (rw [(by omega : IhB181 740 9 = I1 740 9)]; exact rdV_go (hx4 (by omega)) (by omega) (by omega) w254 (by omega))), (fun q => by first | exact (by omega : False).elim | exact nuB_step (hx5 (by omega)) (by omega) (by omega) (show 0 ≤ z170 - 48 ∧ z170 - 48 ≤ 9 by omega) (by omega))⟩, rfl⟩ (by omega)
    · rintro m _ _ I1 hB1 ⟨y1, rfl, rfl, ⟨hb, hx0, hx1, hx2, hx3, hx4⟩, hm⟩
      have k188 := fBz_eq hB1 (a := 740) (j := 8) (by decide +kernel)
      have b189 := fBd fb_740_8 (fBz h0 hB1)
      have e7 : I1 747 = I 747 := funext (fFr_at (fFr_of hB1) 747 (by decide +kernel) rfl)
      refine And.intro (by first | exact fi_ hb.1.1 hb.1.2 rfl | omega) (And.intro ?_ ?_)
      · intro c190
        refine And.intro ⟨rfl, by decide, by decide⟩ (And.intro rfl (And.intro (Or.inl rfl) (fputf fb_740_11 (by decide +kernel) hW (by first | exact ⟨by decide, by decide⟩ | omega) ?_)))
        intro IhB191 ehB191 hB191
        have t192 : IhB191 740 9 = I1 740 9 := (congrFun (congrFun ehB191 740) 9).trans (fup_ne (by first | decide | omega))
        have t193 : IhB191 740 10 = I1 740 10 := (congrFun (congrFun ehB191 740) 10).trans (fup_ne (by first | decide | omega))
        have t194 := fup_at ehB191 11 (by first | rfl | omega)
        have t195 : IhB191 740 12 = I1 740 12 := (congrFun (congrFun ehB191 740) 12).trans (fup_ne (by first | decide | omega))
        have t196 : IhB191 740 13 = I1 740 13 := (congrFun (congrFun ehB191 740) 13).trans (fup_ne (by first | decide | omega))
        have k197 := fBz_eq hB191 (a := 740) (j := 8) (by decide +kernel)
        exact fcutJ (I := IhB191) (j := (jc_M_next_c8003_339 I)) (lv' := []) (True.intro) ⟨rfl, rfl, ⟨by omega, (nx_D (y := y1) (by omega) (by rw [(by omega : IhB191 740 9 = I1 740 9)]; exact hx0) (by omega) (by rw [(by omega : IhB191 740 9 = I1 740 9)]; exact hx2) (by rw [(by omega : IhB191 740 9 = I1 740 9)]; exact hx3) (by rw [(by omega : IhB191 740 9 = I1 740 9), ← hx1]; omega) (by omega) (fun q => by rw [(by omega : IhB191 740 9 = I1 740 9), (by omega : IhB191 740 12 = I1 740 12), (by omega : IhB191 740 10 = I1 740 10)]; exact hx4 (by omega)))⟩, rfl⟩ (by omega)
      · intro c198
        refine And.intro ⟨rfl, by decide, by decide⟩ (fgetf fb_740_10 h0 hB1 ?_)
        intro z199 lz199 uz199 qz199
        refine And.intro ⟨rfl, by decide, by decide⟩ (fgetf fb_740_9 h0 hB1 ?_)
        intro z200 lz200 uz200 qz200
        refine And.intro (by omega) (And.intro ?_ ?_)
        · intro c201
          refine And.intro ⟨rfl, by decide, by decide⟩ (And.intro rfl (And.intro (Or.inl rfl) (fputf fb_740_11 (by decide +kernel) hW (by omega) ?_)))
          intro IhB202 ehB202 hB202
          have t203 : IhB202 740 9 = I1 740 9 := (congrFun (congrFun ehB202 740) 9).trans (fup_ne (by first | decide | omega))
          have t204 : IhB202 740 10 = I1 740 10 := (congrFun (congrFun ehB202 740) 10).trans (fup_ne (by first | decide | omega))
          have t205 := fup_at ehB202 11 (by first | rfl | omega)
          have t206 : IhB202 740 12 = I1 740 12 := (congrFun (congrFun ehB202 740) 12).trans (fup_ne (by first | decide | omega))
          have t207 : IhB202 740 13 = I1 740 13 := (congrFun (congrFun ehB202 740) 13).trans (fup_ne (by first | decide | omega))
          have k208 := fBz_eq hB202 (a := 740) (j := 8) (by decide +kernel)
          exact fcutJ (I := IhB202) (j := (jc_M_next_c8003_339 I)) (lv' := []) (True.intro) ⟨rfl, rfl, ⟨by omega, (nx_D (y := y1) (by omega) (by rw [(by omega : IhB202 740 9 = I1 740 9)]; exact hx0) (by omega) (by rw [(by omega : IhB202 740 9 = I1 740 9)]; exact hx2) (by rw [(by omega : IhB202 740 9 = I1 740 9)]; exact hx3) (by rw [(by omega : IhB202 740 9 = I1 740 9), ← hx1]; omega) (by omega) (fun q => by rw [(by omega : IhB202 740 9 = I1 740 9), (by omega : IhB202 740 12 = I1 740 12), (by omega : IhB202 740 10 = I1 740 10)]; exact hx4 (by omega)))⟩, rfl⟩ (by omega)
        · intro c209
          refine And.intro ⟨rfl, by decide, by decide⟩ (And.intro rfl (And.intro (Or.inl rfl) (fputf fb_740_11 (by decide +kernel) hW (by first | exact ⟨by decide, by decide⟩ | omega) ?_)))
          intro IhB210 ehB210 hB210
          have t211 : IhB210 740 9 = I1 740 9 := (congrFun (congrFun ehB210 740) 9).trans (fup_ne (by first | decide | omega))
          have t212 : IhB210 740 10 = I1 740 10 := (congrFun (congrFun ehB210 740) 10).trans (fup_ne (by first | decide | omega))
          have t213 := fup_at ehB210 11 (by first | rfl | omega)
          have t214 : IhB210 740 12 = I1 740 12 := (congrFun (congrFun ehB210 740) 12).trans (fup_ne (by first | decide | omega))
          have t215 : IhB210 740 13 = I1 740 13 := (congrFun (congrFun ehB210 740) 13).trans (fup_ne (by first | decide | omega))
          have k216 := fBz_eq hB210 (a := 740) (j := 8) (by decide +kernel)
          exact fcutJ (I := IhB210) (j := (jc_M_next_c8003_339 I)) (lv' := []) (True.intro) ⟨rfl, rfl, ⟨by omega, (nx_D (y := y1) (by omega) (by rw [(by omega : IhB210 740 9 = I1 740 9)]; exact hx0) (by omega) (by rw [(by omega : IhB210 740 9 = I1 740 9)]; exact hx2) (by rw [(by omega : IhB210 740 9 = I1 740 9)]; exact hx3) (by rw [(by omega : IhB210 740 9 = I1 740 9), ← hx1]; omega) (by omega) (fun q => by rw [(by omega : IhB210 740 9 = I1 740 9), (by omega : IhB210 740 12 = I1 740 12), (by omega : IhB210 740 10 = I1 740 10)]; exact hx4 (by omega)))⟩, rfl⟩ (by omega)
    · rintro m _ _ I1 hB1 ⟨rfl, rfl, ⟨hb, hx0, hx1, hx2⟩, hm⟩
      have k217 := fBz_eq hB1 (a := 740) (j := 8) (by decide +kernel)
      have b218 := fBd fb_740_8 (fBz h0 hB1)
      have e7 : I1 747 = I 747 := funext (fFr_at (fFr_of hB1) 747 (by decide +kernel) rfl)
      refine And.intro ⟨rfl, by decide, by decide⟩ (And.intro rfl (And.intro (Or.inl rfl) (fputf fb_740_11 (by decide +kernel) hW (by first | exact ⟨by decide, by decide⟩ | omega) ?_)))
      intro IhB219 ehB219 hB219
      have t220 : IhB219 740 8 = I1 740 8 := (congrFun (congrFun ehB219 740) 8).trans (fup_ne (by first | decide | omega))
      have t221 : IhB219 740 9 = I1 740 9 := (congrFun (congrFun ehB219 740) 9).trans (fup_ne (by first | decide | omega))
      have t222 : IhB219 740 10 = I1 740 10 := (congrFun (congrFun ehB219 740) 10).trans (fup_ne (by first | decide | omega))
      have t223 := fup_at ehB219 11 (by first | rfl | omega)
      have t224 : IhB219 740 12 = I1 740 12 := (congrFun (congrFun ehB219 740) 12).trans (fup_ne (by first | decide | omega))
      have t225 : IhB219 740 13 = I1 740 13 := (congrFun (congrFun ehB219 740) 13).trans (fup_ne (by first | decide | omega))
      have k226 := fBz_eq hB219 (a := 740) (j := 8) (by decide +kernel)
      refine And.intro ⟨rfl, by decide, by decide⟩ ?_
      refine And.intro ⟨rfl, by decide, by decide⟩ (fgetf fb_740_9 h0 hB219 ?_)
      intro z227 lz227 uz227 qz227
      refine fload rL_747_747_0_95_1_0 h0 hB219 (by omega) ?_
      intro z228 lz228 uz228 qz228
      have w325 := fld_at qz228 (I1 740 9).toNat (by omega)
      rw [fup_other ehB219 747 _ (Or.inl (by decide)), e7] at w325
      refine And.intro ⟨rfl, by decide, by decide⟩ (And.intro rfl (And.intro (Or.inl rfl) (fputf fb_740_13 (by decide +kernel) hW (by first | exact ⟨lz228, uz228⟩ | omega) ?_)))
      intro IhB229 ehB229 hB229
      have t230 : IhB229 740 8 = IhB219 740 8 := (congrFun (congrFun ehB229 740) 8).trans (fup_ne (by first | decide | omega))
      have t231 : IhB229 740 9 = IhB219 740 9 := (congrFun (congrFun ehB229 740) 9).trans (fup_ne (by first | decide | omega))
      have t232 : IhB229 740 10 = IhB219 740 10 := (congrFun (congrFun ehB229 740) 10).trans (fup_ne (by first | decide | omega))
      have t233 : IhB229 740 11 = IhB219 740 11 := (congrFun (congrFun ehB229 740) 11).trans (fup_ne (by first | decide | omega))
      have t234 : IhB229 740 12 = IhB219 740 12 := (congrFun (congrFun ehB229 740) 12).trans (fup_ne (by first | decide | omega))
      have t235 := fup_at ehB229 13 (by first | rfl | omega)
      have k236 := fBz_eq hB229 (a := 740) (j := 8) (by decide +kernel)
      refine And.intro ⟨rfl, by decide, by decide⟩ (fgetf fb_740_10 h0 hB229 ?_)
      intro z237 lz237 uz237 qz237
      refine And.intro ⟨rfl, by decide, by decide⟩ (And.intro rfl (And.intro (Or.inl rfl) (fputf fb_740_10 (by decide +kernel) hW (by omega) ?_)))
      intro IhB238 ehB238 hB238
      have t239 : IhB238 740 9 = IhB229 740 9 := (congrFun (congrFun ehB238 740) 9).trans (fup_ne (by first | decide | omega))
      have t240 := fup_at ehB238 10 (by first | rfl | omega)
      have t241 : IhB238 740 11 = IhB229 740 11 := (congrFun (congrFun ehB238 740) 11).trans (fup_ne (by first | decide | omega))
      have t242 : IhB238 740 12 = IhB229 740 12 := (congrFun (congrFun ehB238 740) 12).trans (fup_ne (by first | decide | omega))
      have t243 : IhB238 740 13 = IhB229 740 13 := (congrFun (congrFun ehB238 740) 13).trans (fup_ne (by first | decide | omega))
      have k244 := fBz_eq hB238 (a := 740) (j := 8) (by decide +kernel)
      exact fcutJ (I := IhB238) (j := (jc_M_next_c8003_339 I)) (lv' := []) (True.intro) ⟨rfl, rfl, ⟨by omega, (nx_s0 (by rw [(by omega : IhB238 740 9 = I1 740 9)]; exact hx0) (by omega) (by rw [(by omega : IhB238 740 9 = I1 740 9)]; exact hx1) (by rw [(by omega : IhB238 740 9 = I1 740 9)]; exact hx2) (by omega) (by omega) (by rw [(by omega : IhB238 740 9 = I1 740 9)]; omega))⟩, rfl⟩ (by omega)
    · rintro m _ _ I1 hB1 ⟨rfl, rfl, ⟨hb, hx0⟩, hm⟩
      have k245 := fBz_eq hB1 (a := 740) (j := 8) (by decide +kernel)
      have b246 := fBd fb_740_8 (fBz h0 hB1)
      exact ⟨rfl, by omega, hx0, (by unfold dkI; omega)⟩
  · have hB0 := fB_self (zn := znJ) (K := fKc wz_1c18d) h0
    have b247 := fBd fb_740_8 (fBz h0 hB0)
    refine And.intro ⟨rfl, by decide, by decide⟩ (fgetf fb_740_10 h0 hB0 ?_)
    intro z248 lz248 uz248 qz248
    refine And.intro (by first | exact fi_ lz248 uz248 rfl | omega) (And.intro ?_ ?_)
    · intro c249
      refine And.intro ⟨rfl, by decide, by decide⟩ (fgetf fb_740_10 h0 hB0 ?_)
      intro z250 lz250 uz250 qz250
      exact fcutJ (I := I) (j := (jc_M_next_c8003_34 I)) (lv' := [(0, .inr (.inr (some 740))), (1, .inl _), (2, .inl _)]) (And.intro rfl (And.intro rfl (And.intro rfl True.intro))) ⟨_, _, rfl, rfl, ⟨by omega, rfl⟩, rfl⟩ (by omega)
    · intro c251
      refine And.intro ⟨rfl, by decide, by decide⟩ (fgetf fb_740_11 h0 hB0 ?_)
      intro z252 lz252 uz252 qz252
      refine And.intro (And.intro (by first | exact fi_ lz252 uz252 rfl | omega) (by first | exact ⟨by decide, by decide⟩ | omega)) (And.intro ?_ ?_)
      · intro c253
        refine And.intro ⟨rfl, by decide, by decide⟩ (fgetf fb_740_10 h0 hB0 ?_)
        intro z254 lz254 uz254 qz254
        exact fcutJ (I := I) (j := (jc_M_next_c8003_34 I)) (lv' := [(0, .inr (.inr (some 740))), (1, .inl _), (2, .inl _)]) (And.intro rfl (And.intro rfl (And.intro rfl True.intro))) ⟨_, _, rfl, rfl, ⟨by omega, rfl⟩, rfl⟩ (by omega)
      · intro c255
        refine And.intro ⟨rfl, by decide, by decide⟩ (fgetf fb_740_11 h0 hB0 ?_)
        intro z256 lz256 uz256 qz256
        refine And.intro (And.intro (by first | exact fi_ lz256 uz256 rfl | omega) (by first | exact ⟨by decide, by decide⟩ | omega)) (And.intro ?_ ?_)
        · intro c257
          refine And.intro ⟨rfl, by decide, by decide⟩ (fgetf fb_740_10 h0 hB0 ?_)
          intro z258 lz258 uz258 qz258
          exact fcutJ (I := I) (j := (jc_M_next_c8003_34 I)) (lv' := [(0, .inr (.inr (some 740))), (1, .inl _), (2, .inl _)]) (And.intro rfl (And.intro rfl (And.intro rfl True.intro))) ⟨_, _, rfl, rfl, ⟨by omega, rfl⟩, rfl⟩ (by omega)
        · intro c259
          refine And.intro ⟨rfl, by decide, by decide⟩ (fgetf fb_740_10 h0 hB0 ?_)
          intro z260 lz260 uz260 qz260
          exact fcutJ (I := I) (j := (jc_M_next_c8003_34 I)) (lv' := [(0, .inr (.inr (some 740))), (1, .inl _), (2, .inl _)]) (And.intro rfl (And.intro rfl (And.intro rfl True.intro))) ⟨_, _, rfl, rfl, ⟨by omega, rfl⟩, rfl⟩ (by omega)
set_option maxRecDepth 8000 in
theorem ct_M_isSign_90da9 {I : fH} {x1 : Int} (h0 : fB bsJ I) (ha1 : (33 ≤ x1 ∧ x1 ≤ 124)) : fC ρ base n F xTc vwCl xTys D dA la gJ (fbz bsJ znJ (fKc []) I) xm_423 [.inr (.inr (some 740)), .inl x1] I (fun _ r => ∃ z, r = some (.inl z) ∧ (0 ≤ z ∧ z ≤ 1) ∧ (sgP I x1 z)) := by
  have hW : fzs [] (fKc []) := fKc_ok _
  refine f_meth (rb := rbJ) (J := []) 1 400 xG xin_423 x6_423 okJ (fB_self h0) ?_ ?_
  · exact fun q h => absurd h List.not_mem_nil
  · have hB0 := fB_self (zn := znJ) (K := fKc []) h0
    refine And.intro ⟨rfl, by decide, by decide⟩ (fgetf fb_740_11 h0 hB0 ?_)
    intro z1 lz1 uz1 qz1
    refine And.intro (And.intro (by first | exact fi_ lz1 uz1 rfl | omega) (by first | exact ⟨by decide, by decide⟩ | omega)) (And.intro ?_ ?_)
    · intro c2
      refine And.intro (⟨by omega, by omega⟩) ?_
      exact ⟨_, rfl, by omega, (by unfold sgP; first | exact Or.inl ⟨by omega, by omega, by omega⟩ | exact Or.inr ⟨by omega, by omega⟩)⟩
    · intro c3
      refine And.intro ⟨rfl, by decide, by decide⟩ (fgetf fb_740_13 h0 hB0 ?_)
      intro z4 lz4 uz4 qz4
      refine And.intro (And.intro (by first | exact fi_ lz4 uz4 rfl | omega) (by first | exact fi_ ha1.1 ha1.2 rfl | omega)) (And.intro ?_ ?_)
      · intro c5
        refine And.intro (⟨by omega, by omega⟩) ?_
        exact ⟨_, rfl, by omega, (by unfold sgP; first | exact Or.inl ⟨by omega, by omega, by omega⟩ | exact Or.inr ⟨by omega, by omega⟩)⟩
      · intro c6
        refine And.intro (⟨by decide, by decide⟩) ?_
        exact ⟨_, rfl, (by first | exact ⟨by decide, by decide⟩ | omega), (by unfold sgP; first | exact Or.inl ⟨by omega, by omega, by omega⟩ | exact Or.inr ⟨by omega, by omega⟩)⟩
set_option maxRecDepth 8000 in
theorem ct_M_step_2c704 {I : fH} {x1 : Int} {x2 : Int} (h0 : fB bsJ I) (ha1 : (0 ≤ x1 ∧ x1 ≤ 2)) (ha2 : ((-2147483648) ≤ x2 ∧ x2 ≤ 2147483647)) (hp0 : 0 ≤ I 740 16 ∧ I 740 16 ≤ 96) (hp1 : laP (I 740 17)) : fC ρ base n F xTc vwCl xTys D dA la gJ (fbz bsJ znJ (fKc wz_6dafe) I) xm_421 [.inr (.inr (some 740)), .inl x1, .inl x2] I (fun I' r => r = none ∧ (I' 740 16 = I 740 16 + 1) ∧ (sPut I I' (I 740 17) (I 740 16) x1 x2)) := by
  have hW : fzs wz_6dafe (fKc wz_6dafe) := fKc_ok _
  refine f_meth (rb := rbJ) (J := []) 1 400 xG xin_421 x6_421 okJ (fB_self h0) ?_ ?_
  · exact fun q h => absurd h List.not_mem_nil
  · have hB0 := fB_self (zn := znJ) (K := fKc wz_6dafe) h0
    have la0 := laP_bd hp1
    refine And.intro ⟨rfl, by decide, by decide⟩ ?_
    refine And.intro ⟨rfl, by decide, by decide⟩ (fgetf fb_740_17 h0 hB0 ?_)
    intro z1 lz1 uz1 qz1
    refine And.intro ⟨rfl, by decide, by decide⟩ (fgetf fb_740_16 h0 hB0 ?_)
    intro z2 lz2 uz2 qz2
    intro z3 hz3 ez3 bz3
    clear ez3
    try replace bz3 := bz3 (by omega)
    refine fstoreX (W := [20605, 20840]) (fzs_sub (by decide +kernel) hW) (by rcases hp1 with hA | hA <;> first | exact frS_at rS_741_741_1215_3609_200_194 (by decide +kernel) (by omega) (by omega) | exact frS_at rS_741_741_4700_4899_1_0 (by decide +kernel) (by omega) (by omega)) ?_
    intro IhB4 ehB4 hB4
    have t5 := fup_self ehB4
    have t6 : IhB4 740 16 = I 740 16 := (congrFun (congrFun ehB4 740) 16).trans (fup_ne (by first | exact Or.inl (by decide) | omega))
    have t7 : IhB4 740 17 = I 740 17 := (congrFun (congrFun ehB4 740) 17).trans (fup_ne (by first | exact Or.inl (by decide) | omega))
    refine And.intro ⟨rfl, by decide, by decide⟩ ?_
    refine And.intro ⟨rfl, by decide, by decide⟩ (fgetf fb_740_17 h0 hB4 ?_)
    intro z8 lz8 uz8 qz8
    refine And.intro ⟨rfl, by decide, by decide⟩ (fgetf fb_740_16 h0 hB4 ?_)
    intro z9 lz9 uz9 qz9
    intro z10 hz10 ez10 bz10
    clear ez10
    try replace bz10 := bz10 (by omega)
    intro z11 hz11 ez11 bz11
    clear ez11
    try replace bz11 := bz11 (by omega)
    refine fstoreX (W := [20605, 20840]) (fzs_sub (by decide +kernel) hW) (by rcases hp1 with hA | hA <;> first | exact frS_at rS_741_741_1215_3609_200_194 (by decide +kernel) (by omega) (by omega) | exact frS_at rS_741_741_4700_4899_1_0 (by decide +kernel) (by omega) (by omega)) ?_
    intro IhB12 ehB12 hB12
    have t13 := fup_self ehB12
    have t14 : IhB12 740 16 = IhB4 740 16 := (congrFun (congrFun ehB12 740) 16).trans (fup_ne (by first | exact Or.inl (by decide) | omega))
    have t15 : IhB12 740 17 = IhB4 740 17 := (congrFun (congrFun ehB12 740) 17).trans (fup_ne (by first | exact Or.inl (by decide) | omega))
    refine And.intro ⟨rfl, by decide, by decide⟩ (fgetf fb_740_16 h0 hB12 ?_)
    intro z16 lz16 uz16 qz16
    refine And.intro ⟨rfl, by decide, by decide⟩ (And.intro rfl (And.intro (Or.inl rfl) (fputf fb_740_16 (by decide +kernel) hW (by omega) ?_)))
    intro IhB17 ehB17 hB17
    have t18 := fup_at ehB17 16 (by first | rfl | omega)
    have t19 : IhB17 740 17 = IhB12 740 17 := (congrFun (congrFun ehB17 740) 17).trans (fup_ne (by first | decide | omega))
    exact ⟨rfl, by omega, ⟨fun j h1 h2 => (fup_other ehB17 741 j (Or.inl (by decide))).trans ((fup_other ehB12 741 j (Or.inr (by omega))).trans (fup_other ehB4 741 j (Or.inr (by omega)))), (fup_other ehB17 741 _ (Or.inl (by decide))).trans ((fup_other ehB12 741 _ (Or.inr (by omega))).trans (fup_at ehB4 _ (by omega))), (fup_other ehB17 741 _ (Or.inl (by decide))).trans (fup_at ehB12 _ (by omega))⟩⟩
set_option maxRecDepth 8000 in
theorem ct_M_isName_49450 {I : fH} {x0 : Int} {x1 : Int} (h0 : fB bsJ I) (ha0 : ((-1) ≤ x0 ∧ x0 ≤ 5)) (ha1 : ((-2147483648) ≤ x1 ∧ x1 ≤ 2147483647)) : fC ρ base n F xTc vwCl xTys D dA la gJ (fbz bsJ znJ (fKc []) I) xm_422 [.inl x0, .inl x1] I (fun _ r => ∃ z, r = some (.inl z) ∧ ((0 ≤ z ∧ z ≤ 1) ∧ (z = 1 → 97 ≤ x1 ∧ x1 ≤ 121)) ∧ (nmP z x0 x1)) := by
  have hW : fzs [] (fKc []) := fKc_ok _
  refine f_meth (rb := rbJ) (J := []) 1 400 xG xin_422 x6_422 okJ (fB_self h0) ?_ ?_
  · exact fun q h => absurd h List.not_mem_nil
  · have hB0 := fB_self (zn := znJ) (K := fKc []) h0
    refine And.intro (by first | exact fi_ ha1.1 ha1.2 rfl | omega) (And.intro ?_ ?_)
    · refine And.intro (fun ex => ?_) (And.intro (fun ex => ?_) (And.intro (fun ex => ?_) (And.intro (fun ex => ?_) (And.intro (fun ex => ?_) (And.intro (fun ex => ?_) (And.intro (fun ex => ?_) (And.intro (fun ex => ?_) (And.intro (fun ex => ?_) (And.intro (fun ex => ?_) (And.intro (fun ex => ?_) (And.intro (fun ex => ?_) (And.intro (fun ex => ?_) (And.intro (fun ex => ?_) (And.intro (fun ex => ?_) (And.intro (fun ex => ?_) (And.intro (fun ex => ?_) (And.intro (fun ex => ?_) (And.intro (fun ex => ?_) (And.intro (fun ex => ?_) (And.intro (fun ex => ?_) (And.intro (fun ex => ?_) (And.intro (fun ex => ?_) (And.intro (fun ex => ?_) (And.intro (fun ex => ?_) (True.intro)))))))))))))))))))))))))
      · skip
        refine And.intro (by first | exact fi_ ha0.1 ha0.2 rfl | omega) (And.intro ?_ ?_)
        · intro c1
          refine And.intro (⟨by decide, by decide⟩) ?_
          exact ⟨_, rfl, by omega, (by unfold nmP; first | exact Or.inl ⟨by omega, by omega⟩ | exact Or.inr ⟨by omega, by omega⟩)⟩
        · intro c2
          refine And.intro (And.intro (by first | exact fi_ ha0.1 ha0.2 rfl | omega) (by first | exact ⟨by decide, by decide⟩ | omega)) (And.intro ?_ ?_)
          · intro c3
            refine And.intro (⟨by decide, by decide⟩) ?_
            exact ⟨_, rfl, by omega, (by unfold nmP; first | exact Or.inl ⟨by omega, by omega⟩ | exact Or.inr ⟨by omega, by omega⟩)⟩
          · intro c4
            refine And.intro (And.intro (by first | exact fi_ ha0.1 ha0.2 rfl | omega) (by first | exact ⟨by decide, by decide⟩ | omega)) (And.intro ?_ ?_)
            · intro c5
              refine And.intro (⟨by omega, by omega⟩) ?_
              exact ⟨_, rfl, by omega, (by unfold nmP; first | exact Or.inl ⟨by omega, by omega⟩ | exact Or.inr ⟨by omega, by omega⟩)⟩
            · intro c6
              refine And.intro (⟨by decide, by decide⟩) ?_
              exact ⟨_, rfl, by omega, (by unfold nmP; first | exact Or.inl ⟨by omega, by omega⟩ | exact Or.inr ⟨by omega, by omega⟩)⟩
      · skip
        refine And.intro (⟨by decide, by decide⟩) ?_
        exact ⟨_, rfl, by omega, (by unfold nmP; first | exact Or.inl ⟨by omega, by omega⟩ | exact Or.inr ⟨by omega, by omega⟩)⟩
      · skip
        refine And.intro (by first | exact fi_ ha0.1 ha0.2 rfl | omega) (And.intro ?_ ?_)
        · intro c7
          refine And.intro (⟨by decide, by decide⟩) ?_
          exact ⟨_, rfl, by omega, (by unfold nmP; first | exact Or.inl ⟨by omega, by omega⟩ | exact Or.inr ⟨by omega, by omega⟩)⟩
        · intro c8
          refine And.intro (And.intro (by first | exact fi_ ha0.1 ha0.2 rfl | omega) (by first | exact ⟨by decide, by decide⟩ | omega)) (And.intro ?_ ?_)
          · intro c9
            refine And.intro (⟨by decide, by decide⟩) ?_
            exact ⟨_, rfl, by omega, (by unfold nmP; first | exact Or.inl ⟨by omega, by omega⟩ | exact Or.inr ⟨by omega, by omega⟩)⟩
          · intro c10
            refine And.intro (And.intro (by first | exact fi_ ha0.1 ha0.2 rfl | omega) (by first | exact ⟨by decide, by decide⟩ | omega)) (And.intro ?_ ?_)
            · intro c11
              refine And.intro (⟨by omega, by omega⟩) ?_
              exact ⟨_, rfl, by omega, (by unfold nmP; first | exact Or.inl ⟨by omega, by omega⟩ | exact Or.inr ⟨by omega, by omega⟩)⟩
            · intro c12
              refine And.intro (⟨by decide, by decide⟩) ?_
              exact ⟨_, rfl, by omega, (by unfold nmP; first | exact Or.inl ⟨by omega, by omega⟩ | exact Or.inr ⟨by omega, by omega⟩)⟩
      · skip
        refine And.intro (⟨by decide, by decide⟩) ?_
        exact ⟨_, rfl, by omega, (by unfold nmP; first | exact Or.inl ⟨by omega, by omega⟩ | exact Or.inr ⟨by omega, by omega⟩)⟩
      · skip
        refine And.intro (And.intro (by first | exact fi_ ha0.1 ha0.2 rfl | omega) (by first | exact ⟨by decide, by decide⟩ | omega)) (And.intro ?_ ?_)
        · intro c13
          refine And.intro (⟨by omega, by omega⟩) ?_
          exact ⟨_, rfl, by omega, (by unfold nmP; first | exact Or.inl ⟨by omega, by omega⟩ | exact Or.inr ⟨by omega, by omega⟩)⟩
        · intro c14
          refine And.intro (⟨by decide, by decide⟩) ?_
          exact ⟨_, rfl, by omega, (by unfold nmP; first | exact Or.inl ⟨by omega, by omega⟩ | exact Or.inr ⟨by omega, by omega⟩)⟩
      · skip
        refine And.intro (And.intro (by first | exact fi_ ha0.1 ha0.2 rfl | omega) (by first | exact ⟨by decide, by decide⟩ | omega)) (And.intro ?_ ?_)
        · intro c15
          refine And.intro (⟨by omega, by omega⟩) ?_
          exact ⟨_, rfl, by omega, (by unfold nmP; first | exact Or.inl ⟨by omega, by omega⟩ | exact Or.inr ⟨by omega, by omega⟩)⟩
        · intro c16
          refine And.intro (⟨by decide, by decide⟩) ?_
          exact ⟨_, rfl, by omega, (by unfold nmP; first | exact Or.inl ⟨by omega, by omega⟩ | exact Or.inr ⟨by omega, by omega⟩)⟩
      · skip
        refine And.intro (And.intro (by first | exact fi_ ha0.1 ha0.2 rfl | omega) (by first | exact ⟨by decide, by decide⟩ | omega)) (And.intro ?_ ?_)
        · intro c17
          refine And.intro (⟨by omega, by omega⟩) ?_
          exact ⟨_, rfl, by omega, (by unfold nmP; first | exact Or.inl ⟨by omega, by omega⟩ | exact Or.inr ⟨by omega, by omega⟩)⟩
        · intro c18
          refine And.intro (⟨by decide, by decide⟩) ?_
          exact ⟨_, rfl, by omega, (by unfold nmP; first | exact Or.inl ⟨by omega, by omega⟩ | exact Or.inr ⟨by omega, by omega⟩)⟩
      · skip
        refine And.intro (⟨by decide, by decide⟩) ?_
        exact ⟨_, rfl, by omega, (by unfold nmP; first | exact Or.inl ⟨by omega, by omega⟩ | exact Or.inr ⟨by omega, by omega⟩)⟩
      · skip
        refine And.intro (⟨by decide, by decide⟩) ?_
        exact ⟨_, rfl, by omega, (by unfold nmP; first | exact Or.inl ⟨by omega, by omega⟩ | exact Or.inr ⟨by omega, by omega⟩)⟩
      · skip
        refine And.intro (⟨by decide, by decide⟩) ?_
        exact ⟨_, rfl, by omega, (by unfold nmP; first | exact Or.inl ⟨by omega, by omega⟩ | exact Or.inr ⟨by omega, by omega⟩)⟩
      · skip
        refine And.intro (And.intro (by first | exact fi_ ha0.1 ha0.2 rfl | omega) (by first | exact ⟨by decide, by decide⟩ | omega)) (And.intro ?_ ?_)
        · intro c19
          refine And.intro (⟨by omega, by omega⟩) ?_
          exact ⟨_, rfl, by omega, (by unfold nmP; first | exact Or.inl ⟨by omega, by omega⟩ | exact Or.inr ⟨by omega, by omega⟩)⟩
        · intro c20
          refine And.intro (⟨by decide, by decide⟩) ?_
          exact ⟨_, rfl, by omega, (by unfold nmP; first | exact Or.inl ⟨by omega, by omega⟩ | exact Or.inr ⟨by omega, by omega⟩)⟩
      · skip
        refine And.intro (And.intro (by first | exact fi_ ha0.1 ha0.2 rfl | omega) (by first | exact ⟨by decide, by decide⟩ | omega)) (And.intro ?_ ?_)
        · intro c21
          refine And.intro (⟨by omega, by omega⟩) ?_
          exact ⟨_, rfl, by omega, (by unfold nmP; first | exact Or.inl ⟨by omega, by omega⟩ | exact Or.inr ⟨by omega, by omega⟩)⟩
        · intro c22
          refine And.intro (⟨by decide, by decide⟩) ?_
          exact ⟨_, rfl, by omega, (by unfold nmP; first | exact Or.inl ⟨by omega, by omega⟩ | exact Or.inr ⟨by omega, by omega⟩)⟩
      · skip
        refine And.intro (And.intro (by first | exact fi_ ha0.1 ha0.2 rfl | omega) (by first | exact ⟨by decide, by decide⟩ | omega)) (And.intro ?_ ?_)
        · intro c23
          refine And.intro (⟨by omega, by omega⟩) ?_
          exact ⟨_, rfl, by omega, (by unfold nmP; first | exact Or.inl ⟨by omega, by omega⟩ | exact Or.inr ⟨by omega, by omega⟩)⟩
        · intro c24
          refine And.intro (⟨by decide, by decide⟩) ?_
          exact ⟨_, rfl, by omega, (by unfold nmP; first | exact Or.inl ⟨by omega, by omega⟩ | exact Or.inr ⟨by omega, by omega⟩)⟩
      · skip
        refine And.intro (And.intro (by first | exact fi_ ha0.1 ha0.2 rfl | omega) (by first | exact ⟨by decide, by decide⟩ | omega)) (And.intro ?_ ?_)
        · intro c25
          refine And.intro (⟨by decide, by decide⟩) ?_
          exact ⟨_, rfl, by omega, (by unfold nmP; first | exact Or.inl ⟨by omega, by omega⟩ | exact Or.inr ⟨by omega, by omega⟩)⟩
        · intro c26
          refine And.intro (And.intro (by first | exact fi_ ha0.1 ha0.2 rfl | omega) (by first | exact ⟨by decide, by decide⟩ | omega)) (And.intro ?_ ?_)
          · intro c27
            refine And.intro (⟨by omega, by omega⟩) ?_
            exact ⟨_, rfl, by omega, (by unfold nmP; first | exact Or.inl ⟨by omega, by omega⟩ | exact Or.inr ⟨by omega, by omega⟩)⟩
          · intro c28
            refine And.intro (⟨by decide, by decide⟩) ?_
            exact ⟨_, rfl, by omega, (by unfold nmP; first | exact Or.inl ⟨by omega, by omega⟩ | exact Or.inr ⟨by omega, by omega⟩)⟩
      · skip
        refine And.intro (And.intro (by first | exact fi_ ha0.1 ha0.2 rfl | omega) (by first | exact ⟨by decide, by decide⟩ | omega)) (And.intro ?_ ?_)
        · intro c29
          refine And.intro (⟨by omega, by omega⟩) ?_
          exact ⟨_, rfl, by omega, (by unfold nmP; first | exact Or.inl ⟨by omega, by omega⟩ | exact Or.inr ⟨by omega, by omega⟩)⟩
        · intro c30
          refine And.intro (⟨by decide, by decide⟩) ?_
          exact ⟨_, rfl, by omega, (by unfold nmP; first | exact Or.inl ⟨by omega, by omega⟩ | exact Or.inr ⟨by omega, by omega⟩)⟩
      · skip
        refine And.intro (And.intro (by first | exact fi_ ha0.1 ha0.2 rfl | omega) (by first | exact ⟨by decide, by decide⟩ | omega)) (And.intro ?_ ?_)
        · intro c31
          refine And.intro (⟨by decide, by decide⟩) ?_
          exact ⟨_, rfl, by omega, (by unfold nmP; first | exact Or.inl ⟨by omega, by omega⟩ | exact Or.inr ⟨by omega, by omega⟩)⟩
        · intro c32
          refine And.intro (And.intro (by first | exact fi_ ha0.1 ha0.2 rfl | omega) (by first | exact ⟨by decide, by decide⟩ | omega)) (And.intro ?_ ?_)
          · intro c33
            refine And.intro (⟨by omega, by omega⟩) ?_
            exact ⟨_, rfl, by omega, (by unfold nmP; first | exact Or.inl ⟨by omega, by omega⟩ | exact Or.inr ⟨by omega, by omega⟩)⟩
          · intro c34
            refine And.intro (⟨by decide, by decide⟩) ?_
            exact ⟨_, rfl, by omega, (by unfold nmP; first | exact Or.inl ⟨by omega, by omega⟩ | exact Or.inr ⟨by omega, by omega⟩)⟩
      · skip
        refine And.intro (⟨by decide, by decide⟩) ?_
        exact ⟨_, rfl, by omega, (by unfold nmP; first | exact Or.inl ⟨by omega, by omega⟩ | exact Or.inr ⟨by omega, by omega⟩)⟩
      · skip
        refine And.intro (⟨by decide, by decide⟩) ?_
        exact ⟨_, rfl, by omega, (by unfold nmP; first | exact Or.inl ⟨by omega, by omega⟩ | exact Or.inr ⟨by omega, by omega⟩)⟩
      · skip
        refine And.intro (by first | exact fi_ ha0.1 ha0.2 rfl | omega) (And.intro ?_ ?_)
        · intro c35
          refine And.intro (⟨by decide, by decide⟩) ?_
          exact ⟨_, rfl, by omega, (by unfold nmP; first | exact Or.inl ⟨by omega, by omega⟩ | exact Or.inr ⟨by omega, by omega⟩)⟩
        · intro c36
          refine And.intro (And.intro (by first | exact fi_ ha0.1 ha0.2 rfl | omega) (by first | exact ⟨by decide, by decide⟩ | omega)) (And.intro ?_ ?_)
          · intro c37
            refine And.intro (⟨by decide, by decide⟩) ?_
            exact ⟨_, rfl, by omega, (by unfold nmP; first | exact Or.inl ⟨by omega, by omega⟩ | exact Or.inr ⟨by omega, by omega⟩)⟩
          · intro c38
            refine And.intro (And.intro (by first | exact fi_ ha0.1 ha0.2 rfl | omega) (by first | exact ⟨by decide, by decide⟩ | omega)) (And.intro ?_ ?_)
            · intro c39
              refine And.intro (⟨by omega, by omega⟩) ?_
              exact ⟨_, rfl, by omega, (by unfold nmP; first | exact Or.inl ⟨by omega, by omega⟩ | exact Or.inr ⟨by omega, by omega⟩)⟩
            · intro c40
              refine And.intro (⟨by decide, by decide⟩) ?_
              exact ⟨_, rfl, by omega, (by unfold nmP; first | exact Or.inl ⟨by omega, by omega⟩ | exact Or.inr ⟨by omega, by omega⟩)⟩
      · skip
        refine And.intro (⟨by decide, by decide⟩) ?_
        exact ⟨_, rfl, by omega, (by unfold nmP; first | exact Or.inl ⟨by omega, by omega⟩ | exact Or.inr ⟨by omega, by omega⟩)⟩
      · skip
        refine And.intro (And.intro (by first | exact fi_ ha0.1 ha0.2 rfl | omega) (by first | exact ⟨by decide, by decide⟩ | omega)) (And.intro ?_ ?_)
        · intro c41
          refine And.intro (⟨by omega, by omega⟩) ?_
          exact ⟨_, rfl, by omega, (by unfold nmP; first | exact Or.inl ⟨by omega, by omega⟩ | exact Or.inr ⟨by omega, by omega⟩)⟩
        · intro c42
          refine And.intro (⟨by decide, by decide⟩) ?_
          exact ⟨_, rfl, by omega, (by unfold nmP; first | exact Or.inl ⟨by omega, by omega⟩ | exact Or.inr ⟨by omega, by omega⟩)⟩
      · skip
        refine And.intro (⟨by decide, by decide⟩) ?_
        exact ⟨_, rfl, by omega, (by unfold nmP; first | exact Or.inl ⟨by omega, by omega⟩ | exact Or.inr ⟨by omega, by omega⟩)⟩
      · skip
        refine And.intro (⟨by decide, by decide⟩) ?_
        exact ⟨_, rfl, by omega, (by unfold nmP; first | exact Or.inl ⟨by omega, by omega⟩ | exact Or.inr ⟨by omega, by omega⟩)⟩
      · skip
        refine And.intro (⟨by decide, by decide⟩) ?_
        exact ⟨_, rfl, by omega, (by unfold nmP; first | exact Or.inl ⟨by omega, by omega⟩ | exact Or.inr ⟨by omega, by omega⟩)⟩
      · skip
        refine And.intro (And.intro (by first | exact fi_ ha0.1 ha0.2 rfl | omega) (by first | exact ⟨by decide, by decide⟩ | omega)) (And.intro ?_ ?_)
        · intro c43
          refine And.intro (⟨by omega, by omega⟩) ?_
          exact ⟨_, rfl, by omega, (by unfold nmP; first | exact Or.inl ⟨by omega, by omega⟩ | exact Or.inr ⟨by omega, by omega⟩)⟩
        · intro c44
          refine And.intro (⟨by decide, by decide⟩) ?_
          exact ⟨_, rfl, by omega, (by unfold nmP; first | exact Or.inl ⟨by omega, by omega⟩ | exact Or.inr ⟨by omega, by omega⟩)⟩
    · intro c45
      simp only [List.length_cons, List.length_nil] at c45
      refine And.intro (⟨by decide, by decide⟩) ?_
      exact ⟨_, rfl, by omega, (by unfold nmP; first | exact Or.inl ⟨by omega, by omega⟩ | exact Or.inr ⟨by omega, by omega⟩)⟩
set_option maxHeartbeats 6000000 in
set_option maxRecDepth 8000 in
theorem ct_M_part0_cc4b8 {I : fH} {x1 : Int} (h0 : fB bsJ I) (ha1 : ((-1) ≤ x1 ∧ x1 ≤ 5)) (hp0 : I 740 9 ≤ I 740 10 ∧ I 740 10 ≤ I 740 8) (hp1 : 0 ≤ I 740 16 ∧ I 740 16 ≤ I 740 9) (hp2 : 16 ≤ I 740 14 + I 740 15) (hp3 : laP (I 740 17)) (hp4 : 0 ≤ I 740 18 ∧ I 740 18 ≤ I 740 9) (hp5 : dkI I) : fC ρ base n F xTc vwCl xTys D dA la gJ (fbz bsJ znJ (fKc wz_2212a) I) xm_404 [.inr (.inr (some 740)), .inl x1] I (fun I' r => ∃ z, r = some (.inl z) ∧ ((0 ≤ z ∧ z ≤ 1) ∧ (I 740 9 ≤ I' 740 9 ∧ I' 740 9 ≤ I' 740 10 ∧ I' 740 10 ≤ I' 740 8)) ∧ (sBe I I' (I 740 17) (I 740 16)) ∧ (rd1 I I' z) ∧ (pP 6 7 x1 I I' z) ∧ (dkI I') ∧ (rdU I I' z)) := by
  have hW : fzs wz_2212a (fKc wz_2212a) := fKc_ok _
  refine f_meth (rb := rbJ) (J := []) 1 400 xG xin_404 x6_404 okJ (fB_self h0) ?_ ?_
  · exact fun q h => absurd h List.not_mem_nil
  · have hB0 := fB_self (zn := znJ) (K := fKc wz_2212a) h0
    have b1 := fBd fb_740_8 (fBz h0 hB0)
    have b2 := fBd fb_740_14 (fBz h0 hB0)
    have b3 := fBd fb_740_15 (fBz h0 hB0)
    have la0 := laP_bd hp3
    refine And.intro ⟨rfl, by decide, by decide⟩ (fgetf fb_740_11 h0 hB0 ?_)
    intro z4 lz4 uz4 qz4
    refine And.intro (And.intro (by first | exact fi_ lz4 uz4 rfl | omega) (by first | exact ⟨by decide, by decide⟩ | omega)) (And.intro ?_ ?_)
    · intro c5
      refine And.intro ⟨rfl, by decide, by decide⟩ (fgetf fb_740_11 h0 hB0 ?_)
      intro z6 lz6 uz6 qz6
      refine And.intro (And.intro (by first | exact fi_ lz6 uz6 rfl | omega) (by first | exact ⟨by decide, by decide⟩ | omega)) (And.intro ?_ ?_)
      · intro c7
        refine Exists.intro xm_423 (And.intro mi_423 (And.intro ⟨rfl, rfl, rfl, rfl⟩ (And.intro rfl ?_)))
        refine fcallp hB0 (ct_M_isSign_90da9 (fBz h0 hB0) (by first | exact ⟨by decide, by decide⟩ | omega)) ?_
        rintro _ ⟨z8, rfl, hz8, g0z8⟩
        refine And.intro (by omega) (And.intro ?_ ?_)
        · intro c9
          refine Exists.intro xm_423 (And.intro mi_423 (And.intro ⟨rfl, rfl, rfl, rfl⟩ (And.intro rfl ?_)))
          refine fcallp hB0 (ct_M_isSign_90da9 (fBz h0 hB0) (by first | exact ⟨by decide, by decide⟩ | omega)) ?_
          rintro _ ⟨z10, rfl, hz10, g0z10⟩
          refine And.intro (by omega) (And.intro ?_ ?_)
          · intro c11
            refine And.intro (⟨by decide, by decide⟩) ?_
            exact ⟨_, rfl, by omega, sBe_refl, (fun q => absurd q (by omega)), (p0_no (by omega) (by first | exact (fun q => nm_0 g0nil0 (by omega) (by rw [qnil0]; exact q.2.2)) | exact (fun q => by have q1 := q.1; clear q; omega) | exact (fun q => by have q1 := q.2.1; clear q; omega)) (by first | exact (fun q => sgP_0 g0z8 (by omega) q.1 q.2.1) | exact (fun q => by have q3 := q.2.2; omega)) (by first | exact (fun q => sgP_0 g0z10 (by omega) q.1 q.2.1) | exact (fun q => by have q3 := q.2.2; omega)) (by omega)), hp5, (fun q => absurd q (by omega))⟩
          · intro c12
            have sg2 := sgP_1 g0z10 (by omega)
            refine And.intro ⟨rfl, by decide, by decide⟩ (fgetf fb_740_14 h0 hB0 ?_)
            intro z13 lz13 uz13 qz13
            refine And.intro (And.intro (by first | exact fi_ lz13 uz13 rfl | omega) (by first | exact ⟨by decide, by decide⟩ | omega)) (And.intro ?_ ?_)
            · intro c14
              have d9 := dkI_3 hp5 (by omega)
              refine And.intro ⟨rfl, by decide, by decide⟩ (fgetf fb_740_14 h0 hB0 ?_)
              intro z15 lz15 uz15 qz15
              refine And.intro ⟨rfl, by decide, by decide⟩ (And.intro rfl (And.intro (Or.inl rfl) (fputf fb_740_14 (by decide +kernel) hW (by omega) ?_)))
              intro IhB16 ehB16 hB16
              have t17 : IhB16 740 9 = I 740 9 := (congrFun (congrFun ehB16 740) 9).trans (fup_ne (by first | decide | omega))
              have t18 : IhB16 740 10 = I 740 10 := (congrFun (congrFun ehB16 740) 10).trans (fup_ne (by first | decide | omega))
              have t19 : IhB16 740 11 = I 740 11 := (congrFun (congrFun ehB16 740) 11).trans (fup_ne (by first | decide | omega))
              have t20 : IhB16 740 12 = I 740 12 := (congrFun (congrFun ehB16 740) 12).trans (fup_ne (by first | decide | omega))
              have t21 : IhB16 740 13 = I 740 13 := (congrFun (congrFun ehB16 740) 13).trans (fup_ne (by first | decide | omega))
              have t22 := fup_at ehB16 14 (by first | rfl | omega)
              have t23 : IhB16 740 15 = I 740 15 := (congrFun (congrFun ehB16 740) 15).trans (fup_ne (by first | decide | omega))
              have t24 : IhB16 740 16 = I 740 16 := (congrFun (congrFun ehB16 740) 16).trans (fup_ne (by first | decide | omega))
              have t25 : IhB16 740 18 = I 740 18 := (congrFun (congrFun ehB16 740) 18).trans (fup_ne (by first | decide | omega))
              have k26 := fBz_eq hB16 (a := 740) (j := 8) (by decide +kernel)
              have k27 := fBz_eq hB16 (a := 740) (j := 17) (by decide +kernel)
              refine Exists.intro xm_314 (And.intro mi_314 (And.intro ⟨rfl, rfl, rfl, rfl⟩ (And.intro rfl ?_)))
              refine fcall _ h0 (fzs_sub (by decide +kernel) hW) hB16 (ct_M_next_c8003 (fBz h0 hB16) (by omega)) ?_
              rintro IhB29 _ hB29 fhB29 ⟨rfl, hz28, g0z28, g1z28⟩
              have t30 := fhB29 740 14 (by decide +kernel)
              have t31 := fhB29 740 15 (by decide +kernel)
              have t32 := fhB29 740 16 (by decide +kernel)
              have t33 := fhB29 740 18 (by decide +kernel)
              have k34 := fBz_eq hB29 (a := 740) (j := 8) (by decide +kernel)
              have k35 := fBz_eq hB29 (a := 740) (j := 17) (by decide +kernel)
              exfalso
              omega
            · intro c36
              refine And.intro (⟨by decide, by decide⟩) ?_
              exact ⟨_, rfl, by omega, sBe_refl, (fun q => absurd q (by omega)), (p0_no (by omega) (by first | exact (fun q => nm_0 g0nil0 (by omega) (by rw [qnil0]; exact q.2.2)) | exact (fun q => by have q1 := q.1; clear q; omega) | exact (fun q => by have q1 := q.2.1; clear q; omega)) (by first | exact (fun q => sgP_0 g0z8 (by omega) q.1 q.2.1) | exact (fun q => by have q3 := q.2.2; omega)) (by first | exact (fun q => sgP_0 g0z10 (by omega) q.1 q.2.1) | exact (fun q => by have q3 := q.2.2; omega)) (by omega)), hp5, (fun q => absurd q (by omega))⟩
        · intro c37
          have sg := sgP_1 g0z8 (by omega)
          refine And.intro ⟨rfl, by decide, by decide⟩ (fgetf fb_740_15 h0 hB0 ?_)
          intro z38 lz38 uz38 qz38
          refine And.intro (And.intro (by first | exact fi_ lz38 uz38 rfl | omega) (by first | exact ⟨by decide, by decide⟩ | omega)) (And.intro ?_ ?_)
          · intro c39
            refine Exists.intro xm_423 (And.intro mi_423 (And.intro ⟨rfl, rfl, rfl, rfl⟩ (And.intro rfl ?_)))
            refine fcallp hB0 (ct_M_isSign_90da9 (fBz h0 hB0) (by first | exact ⟨by decide, by decide⟩ | omega)) ?_
            rintro _ ⟨z40, rfl, hz40, g0z40⟩
            refine And.intro (by omega) (And.intro ?_ ?_)
            · intro c41
              refine And.intro (⟨by decide, by decide⟩) ?_
              exact ⟨_, rfl, by omega, sBe_refl, (fun q => absurd q (by omega)), (p0_no (by omega) (by first | exact (fun q => nm_0 g0nil0 (by omega) (by rw [qnil0]; exact q.2.2)) | exact (fun q => by have q1 := q.1; clear q; omega) | exact (fun q => by have q1 := q.2.1; clear q; omega)) (by first | exact (fun q => sgP_0 g0z8 (by omega) q.1 q.2.1) | exact (fun q => by have q3 := q.2.2; omega)) (by first | exact (fun q => sgP_0 g0z40 (by omega) q.1 q.2.1) | exact (fun q => by have q3 := q.2.2; omega)) (by omega)), hp5, (fun q => absurd q (by omega))⟩
            · intro c42
              have sg2 := sgP_1 g0z40 (by omega)
              refine And.intro ⟨rfl, by decide, by decide⟩ (fgetf fb_740_14 h0 hB0 ?_)
              intro z43 lz43 uz43 qz43
              refine And.intro (And.intro (by first | exact fi_ lz43 uz43 rfl | omega) (by first | exact ⟨by decide, by decide⟩ | omega)) (And.intro ?_ ?_)
              · intro c44
                have d9 := dkI_3 hp5 (by omega)
                refine And.intro ⟨rfl, by decide, by decide⟩ (fgetf fb_740_14 h0 hB0 ?_)
                intro z45 lz45 uz45 qz45
                refine And.intro ⟨rfl, by decide, by decide⟩ (And.intro rfl (And.intro (Or.inl rfl) (fputf fb_740_14 (by decide +kernel) hW (by omega) ?_)))
                intro IhB46 ehB46 hB46
                have t47 : IhB46 740 9 = I 740 9 := (congrFun (congrFun ehB46 740) 9).trans (fup_ne (by first | decide | omega))
                have t48 : IhB46 740 10 = I 740 10 := (congrFun (congrFun ehB46 740) 10).trans (fup_ne (by first | decide | omega))
                have t49 : IhB46 740 11 = I 740 11 := (congrFun (congrFun ehB46 740) 11).trans (fup_ne (by first | decide | omega))
                have t50 : IhB46 740 12 = I 740 12 := (congrFun (congrFun ehB46 740) 12).trans (fup_ne (by first | decide | omega))
                have t51 : IhB46 740 13 = I 740 13 := (congrFun (congrFun ehB46 740) 13).trans (fup_ne (by first | decide | omega))
                have t52 := fup_at ehB46 14 (by first | rfl | omega)
                have t53 : IhB46 740 15 = I 740 15 := (congrFun (congrFun ehB46 740) 15).trans (fup_ne (by first | decide | omega))
                have t54 : IhB46 740 16 = I 740 16 := (congrFun (congrFun ehB46 740) 16).trans (fup_ne (by first | decide | omega))
                have t55 : IhB46 740 18 = I 740 18 := (congrFun (congrFun ehB46 740) 18).trans (fup_ne (by first | decide | omega))
                have k56 := fBz_eq hB46 (a := 740) (j := 8) (by decide +kernel)
                have k57 := fBz_eq hB46 (a := 740) (j := 17) (by decide +kernel)
                refine Exists.intro xm_314 (And.intro mi_314 (And.intro ⟨rfl, rfl, rfl, rfl⟩ (And.intro rfl ?_)))
                refine fcall _ h0 (fzs_sub (by decide +kernel) hW) hB46 (ct_M_next_c8003 (fBz h0 hB46) (by omega)) ?_
                rintro IhB59 _ hB59 fhB59 ⟨rfl, hz58, g0z58, g1z58⟩
                have t60 := fhB59 740 14 (by decide +kernel)
                have t61 := fhB59 740 15 (by decide +kernel)
                have t62 := fhB59 740 16 (by decide +kernel)
                have t63 := fhB59 740 18 (by decide +kernel)
                have k64 := fBz_eq hB59 (a := 740) (j := 8) (by decide +kernel)
                have k65 := fBz_eq hB59 (a := 740) (j := 17) (by decide +kernel)
                exfalso
                omega
              · intro c66
                refine And.intro (⟨by decide, by decide⟩) ?_
                exact ⟨_, rfl, by omega, sBe_refl, (fun q => absurd q (by omega)), (p0_no (by omega) (by first | exact (fun q => nm_0 g0nil0 (by omega) (by rw [qnil0]; exact q.2.2)) | exact (fun q => by have q1 := q.1; clear q; omega) | exact (fun q => by have q1 := q.2.1; clear q; omega)) (by first | exact (fun q => sgP_0 g0z8 (by omega) q.1 q.2.1) | exact (fun q => by have q3 := q.2.2; omega)) (by first | exact (fun q => sgP_0 g0z40 (by omega) q.1 q.2.1) | exact (fun q => by have q3 := q.2.2; omega)) (by omega)), hp5, (fun q => absurd q (by omega))⟩
          · intro c67
            have d9 := dkI_3 hp5 (by omega)
            refine And.intro ⟨rfl, by decide, by decide⟩ (fgetf fb_740_15 h0 hB0 ?_)
            intro z68 lz68 uz68 qz68
            refine And.intro ⟨rfl, by decide, by decide⟩ (And.intro rfl (And.intro (Or.inl rfl) (fputf fb_740_15 (by decide +kernel) hW (by omega) ?_)))
            intro IhB69 ehB69 hB69
            have t70 : IhB69 740 9 = I 740 9 := (congrFun (congrFun ehB69 740) 9).trans (fup_ne (by first | decide | omega))
            have t71 : IhB69 740 10 = I 740 10 := (congrFun (congrFun ehB69 740) 10).trans (fup_ne (by first | decide | omega))
            have t72 : IhB69 740 11 = I 740 11 := (congrFun (congrFun ehB69 740) 11).trans (fup_ne (by first | decide | omega))
            have t73 : IhB69 740 12 = I 740 12 := (congrFun (congrFun ehB69 740) 12).trans (fup_ne (by first | decide | omega))
            have t74 : IhB69 740 13 = I 740 13 := (congrFun (congrFun ehB69 740) 13).trans (fup_ne (by first | decide | omega))
            have t75 : IhB69 740 14 = I 740 14 := (congrFun (congrFun ehB69 740) 14).trans (fup_ne (by first | decide | omega))
            have t76 := fup_at ehB69 15 (by first | rfl | omega)
            have t77 : IhB69 740 16 = I 740 16 := (congrFun (congrFun ehB69 740) 16).trans (fup_ne (by first | decide | omega))
            have t78 : IhB69 740 18 = I 740 18 := (congrFun (congrFun ehB69 740) 18).trans (fup_ne (by first | decide | omega))
            have k79 := fBz_eq hB69 (a := 740) (j := 8) (by decide +kernel)
            have k80 := fBz_eq hB69 (a := 740) (j := 17) (by decide +kernel)
            refine Exists.intro xm_314 (And.intro mi_314 (And.intro ⟨rfl, rfl, rfl, rfl⟩ (And.intro rfl ?_)))
            refine fcall _ h0 (fzs_sub (by decide +kernel) hW) hB69 (ct_M_next_c8003 (fBz h0 hB69) (by omega)) ?_
            rintro IhB82 _ hB82 fhB82 ⟨rfl, hz81, g0z81, g1z81⟩
            have t83 := fhB82 740 14 (by decide +kernel)
            have t84 := fhB82 740 15 (by decide +kernel)
            have t85 := fhB82 740 16 (by decide +kernel)
            have t86 := fhB82 740 18 (by decide +kernel)
            have k87 := fBz_eq hB82 (a := 740) (j := 8) (by decide +kernel)
            have k88 := fBz_eq hB82 (a := 740) (j := 17) (by decide +kernel)
            exfalso
            omega
      · intro c89
        have d9 := dkI_3 hp5 (by omega)
        refine And.intro ⟨rfl, by decide, by decide⟩ (fgetf fb_740_13 h0 hB0 ?_)
        intro z90 lz90 uz90 qz90
        refine And.intro (by first | exact fi_ lz90 uz90 rfl | omega) (And.intro ?_ ?_)
        · intro c91
          refine Exists.intro xm_423 (And.intro mi_423 (And.intro ⟨rfl, rfl, rfl, rfl⟩ (And.intro rfl ?_)))
          refine fcallp hB0 (ct_M_isSign_90da9 (fBz h0 hB0) (by first | exact ⟨by decide, by decide⟩ | omega)) ?_
          rintro _ ⟨z92, rfl, hz92, g0z92⟩
          refine And.intro (by omega) (And.intro ?_ ?_)
          · intro c93
            refine Exists.intro xm_423 (And.intro mi_423 (And.intro ⟨rfl, rfl, rfl, rfl⟩ (And.intro rfl ?_)))
            refine fcallp hB0 (ct_M_isSign_90da9 (fBz h0 hB0) (by first | exact ⟨by decide, by decide⟩ | omega)) ?_
            rintro _ ⟨z94, rfl, hz94, g0z94⟩
            refine And.intro (by omega) (And.intro ?_ ?_)
            · intro c95
              refine And.intro (⟨by decide, by decide⟩) ?_
              exact ⟨_, rfl, by omega, sBe_refl, (fun q => absurd q (by omega)), (p0_no (by omega) (by first | exact (fun q => nm_0 g0nil0 (by omega) (by rw [qnil0]; exact q.2.2)) | exact (fun q => by have q1 := q.1; clear q; omega) | exact (fun q => by have q1 := q.2.1; clear q; omega)) (by first | exact (fun q => sgP_0 g0z92 (by omega) q.1 q.2.1) | exact (fun q => by have q3 := q.2.2; omega)) (by first | exact (fun q => sgP_0 g0z94 (by omega) q.1 q.2.1) | exact (fun q => by have q3 := q.2.2; omega)) (by omega)), hp5, (fun q => absurd q (by omega))⟩
            · intro c96
              have sg2 := sgP_1 g0z94 (by omega)
              refine And.intro ⟨rfl, by decide, by decide⟩ (fgetf fb_740_14 h0 hB0 ?_)
              intro z97 lz97 uz97 qz97
              refine And.intro (And.intro (by first | exact fi_ lz97 uz97 rfl | omega) (by first | exact ⟨by decide, by decide⟩ | omega)) (And.intro ?_ ?_)
              · intro c98
                have d9 := dkI_3 hp5 (by omega)
                refine And.intro ⟨rfl, by decide, by decide⟩ (fgetf fb_740_14 h0 hB0 ?_)
                intro z99 lz99 uz99 qz99
                refine And.intro ⟨rfl, by decide, by decide⟩ (And.intro rfl (And.intro (Or.inl rfl) (fputf fb_740_14 (by decide +kernel) hW (by omega) ?_)))
                intro IhB100 ehB100 hB100
                have t101 : IhB100 740 9 = I 740 9 := (congrFun (congrFun ehB100 740) 9).trans (fup_ne (by first | decide | omega))
                have t102 : IhB100 740 10 = I 740 10 := (congrFun (congrFun ehB100 740) 10).trans (fup_ne (by first | decide | omega))
                have t103 : IhB100 740 11 = I 740 11 := (congrFun (congrFun ehB100 740) 11).trans (fup_ne (by first | decide | omega))
                have t104 : IhB100 740 12 = I 740 12 := (congrFun (congrFun ehB100 740) 12).trans (fup_ne (by first | decide | omega))
                have t105 : IhB100 740 13 = I 740 13 := (congrFun (congrFun ehB100 740) 13).trans (fup_ne (by first | decide | omega))
                have t106 := fup_at ehB100 14 (by first | rfl | omega)
                have t107 : IhB100 740 15 = I 740 15 := (congrFun (congrFun ehB100 740) 15).trans (fup_ne (by first | decide | omega))
                have t108 : IhB100 740 16 = I 740 16 := (congrFun (congrFun ehB100 740) 16).trans (fup_ne (by first | decide | omega))
                have t109 : IhB100 740 18 = I 740 18 := (congrFun (congrFun ehB100 740) 18).trans (fup_ne (by first | decide | omega))
                have k110 := fBz_eq hB100 (a := 740) (j := 8) (by decide +kernel)
                have k111 := fBz_eq hB100 (a := 740) (j := 17) (by decide +kernel)
                refine Exists.intro xm_314 (And.intro mi_314 (And.intro ⟨rfl, rfl, rfl, rfl⟩ (And.intro rfl ?_)))
                refine fcall _ h0 (fzs_sub (by decide +kernel) hW) hB100 (ct_M_next_c8003 (fBz h0 hB100) (by omega)) ?_
                rintro IhB113 _ hB113 fhB113 ⟨rfl, hz112, g0z112, g1z112⟩
                have t114 := fhB113 740 14 (by decide +kernel)
                have t115 := fhB113 740 15 (by decide +kernel)
                have t116 := fhB113 740 16 (by decide +kernel)
                have t117 := fhB113 740 18 (by decide +kernel)
                have k118 := fBz_eq hB113 (a := 740) (j := 8) (by decide +kernel)
                have k119 := fBz_eq hB113 (a := 740) (j := 17) (by decide +kernel)
                exfalso
                omega
              · intro c120
                refine And.intro (⟨by decide, by decide⟩) ?_
                exact ⟨_, rfl, by omega, sBe_refl, (fun q => absurd q (by omega)), (p0_no (by omega) (by first | exact (fun q => nm_0 g0nil0 (by omega) (by rw [qnil0]; exact q.2.2)) | exact (fun q => by have q1 := q.1; clear q; omega) | exact (fun q => by have q1 := q.2.1; clear q; omega)) (by first | exact (fun q => sgP_0 g0z92 (by omega) q.1 q.2.1) | exact (fun q => by have q3 := q.2.2; omega)) (by first | exact (fun q => sgP_0 g0z94 (by omega) q.1 q.2.1) | exact (fun q => by have q3 := q.2.2; omega)) (by omega)), hp5, (fun q => absurd q (by omega))⟩
          · intro c121
            have sg := sgP_1 g0z92 (by omega)
            refine And.intro ⟨rfl, by decide, by decide⟩ (fgetf fb_740_15 h0 hB0 ?_)
            intro z122 lz122 uz122 qz122
            refine And.intro (And.intro (by first | exact fi_ lz122 uz122 rfl | omega) (by first | exact ⟨by decide, by decide⟩ | omega)) (And.intro ?_ ?_)
            · intro c123
              refine Exists.intro xm_423 (And.intro mi_423 (And.intro ⟨rfl, rfl, rfl, rfl⟩ (And.intro rfl ?_)))
              refine fcallp hB0 (ct_M_isSign_90da9 (fBz h0 hB0) (by first | exact ⟨by decide, by decide⟩ | omega)) ?_
              rintro _ ⟨z124, rfl, hz124, g0z124⟩
              refine And.intro (by omega) (And.intro ?_ ?_)
              · intro c125
                refine And.intro (⟨by decide, by decide⟩) ?_
                exact ⟨_, rfl, by omega, sBe_refl, (fun q => absurd q (by omega)), (p0_no (by omega) (by first | exact (fun q => nm_0 g0nil0 (by omega) (by rw [qnil0]; exact q.2.2)) | exact (fun q => by have q1 := q.1; clear q; omega) | exact (fun q => by have q1 := q.2.1; clear q; omega)) (by first | exact (fun q => sgP_0 g0z92 (by omega) q.1 q.2.1) | exact (fun q => by have q3 := q.2.2; omega)) (by first | exact (fun q => sgP_0 g0z124 (by omega) q.1 q.2.1) | exact (fun q => by have q3 := q.2.2; omega)) (by omega)), hp5, (fun q => absurd q (by omega))⟩
              · intro c126
                have sg2 := sgP_1 g0z124 (by omega)
                refine And.intro ⟨rfl, by decide, by decide⟩ (fgetf fb_740_14 h0 hB0 ?_)
                intro z127 lz127 uz127 qz127
                refine And.intro (And.intro (by first | exact fi_ lz127 uz127 rfl | omega) (by first | exact ⟨by decide, by decide⟩ | omega)) (And.intro ?_ ?_)
                · intro c128
                  have d9 := dkI_3 hp5 (by omega)
                  refine And.intro ⟨rfl, by decide, by decide⟩ (fgetf fb_740_14 h0 hB0 ?_)
                  intro z129 lz129 uz129 qz129
                  refine And.intro ⟨rfl, by decide, by decide⟩ (And.intro rfl (And.intro (Or.inl rfl) (fputf fb_740_14 (by decide +kernel) hW (by omega) ?_)))
                  intro IhB130 ehB130 hB130
                  have t131 : IhB130 740 9 = I 740 9 := (congrFun (congrFun ehB130 740) 9).trans (fup_ne (by first | decide | omega))
                  have t132 : IhB130 740 10 = I 740 10 := (congrFun (congrFun ehB130 740) 10).trans (fup_ne (by first | decide | omega))
                  have t133 : IhB130 740 11 = I 740 11 := (congrFun (congrFun ehB130 740) 11).trans (fup_ne (by first | decide | omega))
                  have t134 : IhB130 740 12 = I 740 12 := (congrFun (congrFun ehB130 740) 12).trans (fup_ne (by first | decide | omega))
                  have t135 : IhB130 740 13 = I 740 13 := (congrFun (congrFun ehB130 740) 13).trans (fup_ne (by first | decide | omega))
                  have t136 := fup_at ehB130 14 (by first | rfl | omega)
                  have t137 : IhB130 740 15 = I 740 15 := (congrFun (congrFun ehB130 740) 15).trans (fup_ne (by first | decide | omega))
                  have t138 : IhB130 740 16 = I 740 16 := (congrFun (congrFun ehB130 740) 16).trans (fup_ne (by first | decide | omega))
                  have t139 : IhB130 740 18 = I 740 18 := (congrFun (congrFun ehB130 740) 18).trans (fup_ne (by first | decide | omega))
                  have k140 := fBz_eq hB130 (a := 740) (j := 8) (by decide +kernel)
                  have k141 := fBz_eq hB130 (a := 740) (j := 17) (by decide +kernel)
                  refine Exists.intro xm_314 (And.intro mi_314 (And.intro ⟨rfl, rfl, rfl, rfl⟩ (And.intro rfl ?_)))
                  refine fcall _ h0 (fzs_sub (by decide +kernel) hW) hB130 (ct_M_next_c8003 (fBz h0 hB130) (by omega)) ?_
                  rintro IhB143 _ hB143 fhB143 ⟨rfl, hz142, g0z142, g1z142⟩
                  have t144 := fhB143 740 14 (by decide +kernel)
                  have t145 := fhB143 740 15 (by decide +kernel)
                  have t146 := fhB143 740 16 (by decide +kernel)
                  have t147 := fhB143 740 18 (by decide +kernel)
                  have k148 := fBz_eq hB143 (a := 740) (j := 8) (by decide +kernel)
                  have k149 := fBz_eq hB143 (a := 740) (j := 17) (by decide +kernel)
                  exfalso
                  omega
                · intro c150
                  refine And.intro (⟨by decide, by decide⟩) ?_
                  exact ⟨_, rfl, by omega, sBe_refl, (fun q => absurd q (by omega)), (p0_no (by omega) (by first | exact (fun q => nm_0 g0nil0 (by omega) (by rw [qnil0]; exact q.2.2)) | exact (fun q => by have q1 := q.1; clear q; omega) | exact (fun q => by have q1 := q.2.1; clear q; omega)) (by first | exact (fun q => sgP_0 g0z92 (by omega) q.1 q.2.1) | exact (fun q => by have q3 := q.2.2; omega)) (by first | exact (fun q => sgP_0 g0z124 (by omega) q.1 q.2.1) | exact (fun q => by have q3 := q.2.2; omega)) (by omega)), hp5, (fun q => absurd q (by omega))⟩
            · intro c151
              have d9 := dkI_3 hp5 (by omega)
              refine And.intro ⟨rfl, by decide, by decide⟩ (fgetf fb_740_15 h0 hB0 ?_)
              intro z152 lz152 uz152 qz152
              refine And.intro ⟨rfl, by decide, by decide⟩ (And.intro rfl (And.intro (Or.inl rfl) (fputf fb_740_15 (by decide +kernel) hW (by omega) ?_)))
              intro IhB153 ehB153 hB153
              have t154 : IhB153 740 9 = I 740 9 := (congrFun (congrFun ehB153 740) 9).trans (fup_ne (by first | decide | omega))
              have t155 : IhB153 740 10 = I 740 10 := (congrFun (congrFun ehB153 740) 10).trans (fup_ne (by first | decide | omega))
              have t156 : IhB153 740 11 = I 740 11 := (congrFun (congrFun ehB153 740) 11).trans (fup_ne (by first | decide | omega))
              have t157 : IhB153 740 12 = I 740 12 := (congrFun (congrFun ehB153 740) 12).trans (fup_ne (by first | decide | omega))
              have t158 : IhB153 740 13 = I 740 13 := (congrFun (congrFun ehB153 740) 13).trans (fup_ne (by first | decide | omega))
              have t159 : IhB153 740 14 = I 740 14 := (congrFun (congrFun ehB153 740) 14).trans (fup_ne (by first | decide | omega))
              have t160 := fup_at ehB153 15 (by first | rfl | omega)
              have t161 : IhB153 740 16 = I 740 16 := (congrFun (congrFun ehB153 740) 16).trans (fup_ne (by first | decide | omega))
              have t162 : IhB153 740 18 = I 740 18 := (congrFun (congrFun ehB153 740) 18).trans (fup_ne (by first | decide | omega))
              have k163 := fBz_eq hB153 (a := 740) (j := 8) (by decide +kernel)
              have k164 := fBz_eq hB153 (a := 740) (j := 17) (by decide +kernel)
              refine Exists.intro xm_314 (And.intro mi_314 (And.intro ⟨rfl, rfl, rfl, rfl⟩ (And.intro rfl ?_)))
              refine fcall _ h0 (fzs_sub (by decide +kernel) hW) hB153 (ct_M_next_c8003 (fBz h0 hB153) (by omega)) ?_
              rintro IhB166 _ hB166 fhB166 ⟨rfl, hz165, g0z165, g1z165⟩
              have t167 := fhB166 740 14 (by decide +kernel)
              have t168 := fhB166 740 15 (by decide +kernel)
              have t169 := fhB166 740 16 (by decide +kernel)
              have t170 := fhB166 740 18 (by decide +kernel)
              have k171 := fBz_eq hB166 (a := 740) (j := 8) (by decide +kernel)
              have k172 := fBz_eq hB166 (a := 740) (j := 17) (by decide +kernel)
              exfalso
              omega
        · intro c173
          refine And.intro ⟨rfl, by decide, by decide⟩ (fgetf fb_740_13 h0 hB0 ?_)
          intro z174 lz174 uz174 qz174
          refine Exists.intro xm_422 (And.intro mi_422 (And.intro ⟨rfl, rfl, rfl, rfl⟩ (And.intro True.intro ?_)))
          refine fcallp hB0 (ct_M_isName_49450 (fBz h0 hB0) (by first | exact ⟨ha1.1, ha1.2⟩ | omega) (by first | exact ⟨lz174, uz174⟩ | omega)) ?_
          rintro _ ⟨z175, rfl, hz175, g0z175⟩
          refine And.intro (by omega) (And.intro ?_ ?_)
          · intro c176
            refine Exists.intro xm_423 (And.intro mi_423 (And.intro ⟨rfl, rfl, rfl, rfl⟩ (And.intro rfl ?_)))
            refine fcallp hB0 (ct_M_isSign_90da9 (fBz h0 hB0) (by first | exact ⟨by decide, by decide⟩ | omega)) ?_
            rintro _ ⟨z177, rfl, hz177, g0z177⟩
            refine And.intro (by omega) (And.intro ?_ ?_)
            · intro c178
              refine Exists.intro xm_423 (And.intro mi_423 (And.intro ⟨rfl, rfl, rfl, rfl⟩ (And.intro rfl ?_)))
              refine fcallp hB0 (ct_M_isSign_90da9 (fBz h0 hB0) (by first | exact ⟨by decide, by decide⟩ | omega)) ?_
              rintro _ ⟨z179, rfl, hz179, g0z179⟩
              refine And.intro (by omega) (And.intro ?_ ?_)
              · intro c180
                refine And.intro (⟨by decide, by decide⟩) ?_
                exact ⟨_, rfl, by omega, sBe_refl, (fun q => absurd q (by omega)), (p0_no (by omega) (by first | exact (fun q => nm_0 g0z175 (by omega) (by rw [qz174]; exact q.2.2)) | exact (fun q => by have q1 := q.1; clear q; omega) | exact (fun q => by have q1 := q.2.1; clear q; omega)) (by first | exact (fun q => sgP_0 g0z177 (by omega) q.1 q.2.1) | exact (fun q => by have q3 := q.2.2; omega)) (by first | exact (fun q => sgP_0 g0z179 (by omega) q.1 q.2.1) | exact (fun q => by have q3 := q.2.2; omega)) (by omega)), hp5, (fun q => absurd q (by omega))⟩
              · intro c181
                have sg2 := sgP_1 g0z179 (by omega)
                refine And.intro ⟨rfl, by decide, by decide⟩ (fgetf fb_740_14 h0 hB0 ?_)
                intro z182 lz182 uz182 qz182
                refine And.intro (And.intro (by first | exact fi_ lz182 uz182 rfl | omega) (by first | exact ⟨by decide, by decide⟩ | omega)) (And.intro ?_ ?_)
                · intro c183
                  have d9 := dkI_3 hp5 (by omega)
                  refine And.intro ⟨rfl, by decide, by decide⟩ (fgetf fb_740_14 h0 hB0 ?_)
                  intro z184 lz184 uz184 qz184
                  refine And.intro ⟨rfl, by decide, by decide⟩ (And.intro rfl (And.intro (Or.inl rfl) (fputf fb_740_14 (by decide +kernel) hW (by omega) ?_)))
                  intro IhB185 ehB185 hB185
                  have t186 : IhB185 740 9 = I 740 9 := (congrFun (congrFun ehB185 740) 9).trans (fup_ne (by first | decide | omega))
                  have t187 : IhB185 740 10 = I 740 10 := (congrFun (congrFun ehB185 740) 10).trans (fup_ne (by first | decide | omega))
                  have t188 : IhB185 740 11 = I 740 11 := (congrFun (congrFun ehB185 740) 11).trans (fup_ne (by first | decide | omega))
                  have t189 : IhB185 740 12 = I 740 12 := (congrFun (congrFun ehB185 740) 12).trans (fup_ne (by first | decide | omega))
                  have t190 : IhB185 740 13 = I 740 13 := (congrFun (congrFun ehB185 740) 13).trans (fup_ne (by first | decide | omega))
                  have t191 := fup_at ehB185 14 (by first | rfl | omega)
                  have t192 : IhB185 740 15 = I 740 15 := (congrFun (congrFun ehB185 740) 15).trans (fup_ne (by first | decide | omega))
                  have t193 : IhB185 740 16 = I 740 16 := (congrFun (congrFun ehB185 740) 16).trans (fup_ne (by first | decide | omega))
                  have t194 : IhB185 740 18 = I 740 18 := (congrFun (congrFun ehB185 740) 18).trans (fup_ne (by first | decide | omega))
                  have k195 := fBz_eq hB185 (a := 740) (j := 8) (by decide +kernel)
                  have k196 := fBz_eq hB185 (a := 740) (j := 17) (by decide +kernel)
                  refine Exists.intro xm_314 (And.intro mi_314 (And.intro ⟨rfl, rfl, rfl, rfl⟩ (And.intro rfl ?_)))
                  refine fcall _ h0 (fzs_sub (by decide +kernel) hW) hB185 (ct_M_next_c8003 (fBz h0 hB185) (by omega)) ?_
                  rintro IhB198 _ hB198 fhB198 ⟨rfl, hz197, g0z197, g1z197⟩
                  have t199 := fhB198 740 14 (by decide +kernel)
                  have t200 := fhB198 740 15 (by decide +kernel)
                  have t201 := fhB198 740 16 (by decide +kernel)
                  have t202 := fhB198 740 18 (by decide +kernel)
                  have k203 := fBz_eq hB198 (a := 740) (j := 8) (by decide +kernel)
                  have k204 := fBz_eq hB198 (a := 740) (j := 17) (by decide +kernel)
                  exfalso
                  omega
                · intro c205
                  refine And.intro (⟨by decide, by decide⟩) ?_
                  exact ⟨_, rfl, by omega, sBe_refl, (fun q => absurd q (by omega)), (p0_no (by omega) (by first | exact (fun q => nm_0 g0z175 (by omega) (by rw [qz174]; exact q.2.2)) | exact (fun q => by have q1 := q.1; clear q; omega) | exact (fun q => by have q1 := q.2.1; clear q; omega)) (by first | exact (fun q => sgP_0 g0z177 (by omega) q.1 q.2.1) | exact (fun q => by have q3 := q.2.2; omega)) (by first | exact (fun q => sgP_0 g0z179 (by omega) q.1 q.2.1) | exact (fun q => by have q3 := q.2.2; omega)) (by omega)), hp5, (fun q => absurd q (by omega))⟩
            · intro c206
              have sg := sgP_1 g0z177 (by omega)
              refine And.intro ⟨rfl, by decide, by decide⟩ (fgetf fb_740_15 h0 hB0 ?_)
              intro z207 lz207 uz207 qz207
              refine And.intro (And.intro (by first | exact fi_ lz207 uz207 rfl | omega) (by first | exact ⟨by decide, by decide⟩ | omega)) (And.intro ?_ ?_)
              · intro c208
                refine Exists.intro xm_423 (And.intro mi_423 (And.intro ⟨rfl, rfl, rfl, rfl⟩ (And.intro rfl ?_)))
                refine fcallp hB0 (ct_M_isSign_90da9 (fBz h0 hB0) (by first | exact ⟨by decide, by decide⟩ | omega)) ?_
                rintro _ ⟨z209, rfl, hz209, g0z209⟩
                refine And.intro (by omega) (And.intro ?_ ?_)
                · intro c210
                  refine And.intro (⟨by decide, by decide⟩) ?_
                  exact ⟨_, rfl, by omega, sBe_refl, (fun q => absurd q (by omega)), (p0_no (by omega) (by first | exact (fun q => nm_0 g0z175 (by omega) (by rw [qz174]; exact q.2.2)) | exact (fun q => by have q1 := q.1; clear q; omega) | exact (fun q => by have q1 := q.2.1; clear q; omega)) (by first | exact (fun q => sgP_0 g0z177 (by omega) q.1 q.2.1) | exact (fun q => by have q3 := q.2.2; omega)) (by first | exact (fun q => sgP_0 g0z209 (by omega) q.1 q.2.1) | exact (fun q => by have q3 := q.2.2; omega)) (by omega)), hp5, (fun q => absurd q (by omega))⟩
                · intro c211
                  have sg2 := sgP_1 g0z209 (by omega)
                  refine And.intro ⟨rfl, by decide, by decide⟩ (fgetf fb_740_14 h0 hB0 ?_)
                  intro z212 lz212 uz212 qz212
                  refine And.intro (And.intro (by first | exact fi_ lz212 uz212 rfl | omega) (by first | exact ⟨by decide, by decide⟩ | omega)) (And.intro ?_ ?_)
                  · intro c213
                    have d9 := dkI_3 hp5 (by omega)
                    refine And.intro ⟨rfl, by decide, by decide⟩ (fgetf fb_740_14 h0 hB0 ?_)
                    intro z214 lz214 uz214 qz214
                    refine And.intro ⟨rfl, by decide, by decide⟩ (And.intro rfl (And.intro (Or.inl rfl) (fputf fb_740_14 (by decide +kernel) hW (by omega) ?_)))
                    intro IhB215 ehB215 hB215
                    have t216 : IhB215 740 9 = I 740 9 := (congrFun (congrFun ehB215 740) 9).trans (fup_ne (by first | decide | omega))
                    have t217 : IhB215 740 10 = I 740 10 := (congrFun (congrFun ehB215 740) 10).trans (fup_ne (by first | decide | omega))
                    have t218 : IhB215 740 11 = I 740 11 := (congrFun (congrFun ehB215 740) 11).trans (fup_ne (by first | decide | omega))
                    have t219 : IhB215 740 12 = I 740 12 := (congrFun (congrFun ehB215 740) 12).trans (fup_ne (by first | decide | omega))
                    have t220 : IhB215 740 13 = I 740 13 := (congrFun (congrFun ehB215 740) 13).trans (fup_ne (by first | decide | omega))
                    have t221 := fup_at ehB215 14 (by first | rfl | omega)
                    have t222 : IhB215 740 15 = I 740 15 := (congrFun (congrFun ehB215 740) 15).trans (fup_ne (by first | decide | omega))
                    have t223 : IhB215 740 16 = I 740 16 := (congrFun (congrFun ehB215 740) 16).trans (fup_ne (by first | decide | omega))
                    have t224 : IhB215 740 18 = I 740 18 := (congrFun (congrFun ehB215 740) 18).trans (fup_ne (by first | decide | omega))
                    have k225 := fBz_eq hB215 (a := 740) (j := 8) (by decide +kernel)
                    have k226 := fBz_eq hB215 (a := 740) (j := 17) (by decide +kernel)
                    refine Exists.intro xm_314 (And.intro mi_314 (And.intro ⟨rfl, rfl, rfl, rfl⟩ (And.intro rfl ?_)))
                    refine fcall _ h0 (fzs_sub (by decide +kernel) hW) hB215 (ct_M_next_c8003 (fBz h0 hB215) (by omega)) ?_
                    rintro IhB228 _ hB228 fhB228 ⟨rfl, hz227, g0z227, g1z227⟩
                    have t229 := fhB228 740 14 (by decide +kernel)
                    have t230 := fhB228 740 15 (by decide +kernel)
                    have t231 := fhB228 740 16 (by decide +kernel)
                    have t232 := fhB228 740 18 (by decide +kernel)
                    have k233 := fBz_eq hB228 (a := 740) (j := 8) (by decide +kernel)
                    have k234 := fBz_eq hB228 (a := 740) (j := 17) (by decide +kernel)
                    exfalso
                    omega
                  · intro c235
                    refine And.intro (⟨by decide, by decide⟩) ?_
                    exact ⟨_, rfl, by omega, sBe_refl, (fun q => absurd q (by omega)), (p0_no (by omega) (by first | exact (fun q => nm_0 g0z175 (by omega) (by rw [qz174]; exact q.2.2)) | exact (fun q => by have q1 := q.1; clear q; omega) | exact (fun q => by have q1 := q.2.1; clear q; omega)) (by first | exact (fun q => sgP_0 g0z177 (by omega) q.1 q.2.1) | exact (fun q => by have q3 := q.2.2; omega)) (by first | exact (fun q => sgP_0 g0z209 (by omega) q.1 q.2.1) | exact (fun q => by have q3 := q.2.2; omega)) (by omega)), hp5, (fun q => absurd q (by omega))⟩
              · intro c236
                have d9 := dkI_3 hp5 (by omega)
                refine And.intro ⟨rfl, by decide, by decide⟩ (fgetf fb_740_15 h0 hB0 ?_)
                intro z237 lz237 uz237 qz237
                refine And.intro ⟨rfl, by decide, by decide⟩ (And.intro rfl (And.intro (Or.inl rfl) (fputf fb_740_15 (by decide +kernel) hW (by omega) ?_)))
                intro IhB238 ehB238 hB238
                have t239 : IhB238 740 9 = I 740 9 := (congrFun (congrFun ehB238 740) 9).trans (fup_ne (by first | decide | omega))
                have t240 : IhB238 740 10 = I 740 10 := (congrFun (congrFun ehB238 740) 10).trans (fup_ne (by first | decide | omega))
                have t241 : IhB238 740 11 = I 740 11 := (congrFun (congrFun ehB238 740) 11).trans (fup_ne (by first | decide | omega))
                have t242 : IhB238 740 12 = I 740 12 := (congrFun (congrFun ehB238 740) 12).trans (fup_ne (by first | decide | omega))
                have t243 : IhB238 740 13 = I 740 13 := (congrFun (congrFun ehB238 740) 13).trans (fup_ne (by first | decide | omega))
                have t244 : IhB238 740 14 = I 740 14 := (congrFun (congrFun ehB238 740) 14).trans (fup_ne (by first | decide | omega))
                have t245 := fup_at ehB238 15 (by first | rfl | omega)
                have t246 : IhB238 740 16 = I 740 16 := (congrFun (congrFun ehB238 740) 16).trans (fup_ne (by first | decide | omega))
                have t247 : IhB238 740 18 = I 740 18 := (congrFun (congrFun ehB238 740) 18).trans (fup_ne (by first | decide | omega))
                have k248 := fBz_eq hB238 (a := 740) (j := 8) (by decide +kernel)
                have k249 := fBz_eq hB238 (a := 740) (j := 17) (by decide +kernel)
                refine Exists.intro xm_314 (And.intro mi_314 (And.intro ⟨rfl, rfl, rfl, rfl⟩ (And.intro rfl ?_)))
                refine fcall _ h0 (fzs_sub (by decide +kernel) hW) hB238 (ct_M_next_c8003 (fBz h0 hB238) (by omega)) ?_
                rintro IhB251 _ hB251 fhB251 ⟨rfl, hz250, g0z250, g1z250⟩
                have t252 := fhB251 740 14 (by decide +kernel)
                have t253 := fhB251 740 15 (by decide +kernel)
                have t254 := fhB251 740 16 (by decide +kernel)
                have t255 := fhB251 740 18 (by decide +kernel)
                have k256 := fBz_eq hB251 (a := 740) (j := 8) (by decide +kernel)
                have k257 := fBz_eq hB251 (a := 740) (j := 17) (by decide +kernel)
                exfalso
                omega
          · intro c258
            refine And.intro ⟨rfl, by decide, by decide⟩ (fgetf fb_740_13 h0 hB0 ?_)
            intro z259 lz259 uz259 qz259
            refine Exists.intro xm_421 (And.intro mi_421 (And.intro ⟨rfl, rfl, rfl, rfl⟩ (And.intro rfl ?_)))
            refine fcall _ h0 (fzs_sub (by decide +kernel) hW) hB0 (ct_M_step_2c704 (fBz h0 hB0) (by first | exact ⟨by decide, by decide⟩ | omega) (by first | exact ⟨lz259, uz259⟩ | omega) (by omega) (laP_cg hp3 (by omega))) ?_
            rintro IhB261 _ hB261 fhB261 ⟨rfl, hz260, g0z260⟩
            have t262 := fhB261 740 9 (by decide +kernel)
            have t263 := fhB261 740 10 (by decide +kernel)
            have t264 := fhB261 740 11 (by decide +kernel)
            have t265 := fhB261 740 12 (by decide +kernel)
            have t266 := fhB261 740 13 (by decide +kernel)
            have t267 := fhB261 740 14 (by decide +kernel)
            have t268 := fhB261 740 15 (by decide +kernel)
            have t269 := fhB261 740 18 (by decide +kernel)
            have k270 := fBz_eq hB261 (a := 740) (j := 8) (by decide +kernel)
            have k271 := fBz_eq hB261 (a := 740) (j := 17) (by decide +kernel)
            refine And.intro ⟨rfl, by decide, by decide⟩ (fgetf fb_740_18 h0 hB261 ?_)
            intro z272 lz272 uz272 qz272
            intro z273 hz273 ez273 bz273
            clear ez273
            try replace bz273 := bz273 (by omega)
            refine And.intro ⟨rfl, by decide, by decide⟩ (And.intro rfl (And.intro (Or.inl rfl) (fputf fb_740_18 (by decide +kernel) hW (by omega) ?_)))
            intro IhB274 ehB274 hB274
            have t275 : IhB274 740 9 = IhB261 740 9 := (congrFun (congrFun ehB274 740) 9).trans (fup_ne (by first | decide | omega))
            have t276 : IhB274 740 10 = IhB261 740 10 := (congrFun (congrFun ehB274 740) 10).trans (fup_ne (by first | decide | omega))
            have t277 : IhB274 740 11 = IhB261 740 11 := (congrFun (congrFun ehB274 740) 11).trans (fup_ne (by first | decide | omega))
            have t278 : IhB274 740 12 = IhB261 740 12 := (congrFun (congrFun ehB274 740) 12).trans (fup_ne (by first | decide | omega))
            have t279 : IhB274 740 13 = IhB261 740 13 := (congrFun (congrFun ehB274 740) 13).trans (fup_ne (by first | decide | omega))
            have t280 : IhB274 740 14 = IhB261 740 14 := (congrFun (congrFun ehB274 740) 14).trans (fup_ne (by first | decide | omega))
            have t281 : IhB274 740 15 = IhB261 740 15 := (congrFun (congrFun ehB274 740) 15).trans (fup_ne (by first | decide | omega))
            have t282 : IhB274 740 16 = IhB261 740 16 := (congrFun (congrFun ehB274 740) 16).trans (fup_ne (by first | decide | omega))
            have t283 := fup_at ehB274 18 (by first | rfl | omega)
            have k284 := fBz_eq hB274 (a := 740) (j := 8) (by decide +kernel)
            have k285 := fBz_eq hB274 (a := 740) (j := 17) (by decide +kernel)
            refine Exists.intro xm_314 (And.intro mi_314 (And.intro ⟨rfl, rfl, rfl, rfl⟩ (And.intro rfl ?_)))
            refine fcall _ h0 (fzs_sub (by decide +kernel) hW) hB274 (ct_M_next_c8003 (fBz h0 hB274) (by omega)) ?_
            rintro IhB287 _ hB287 fhB287 ⟨rfl, hz286, g0z286, g1z286⟩
            have t288 := fhB287 740 14 (by decide +kernel)
            have t289 := fhB287 740 15 (by decide +kernel)
            have t290 := fhB287 740 16 (by decide +kernel)
            have t291 := fhB287 740 18 (by decide +kernel)
            have k292 := fBz_eq hB287 (a := 740) (j := 8) (by decide +kernel)
            have k293 := fBz_eq hB287 (a := 740) (j := 17) (by decide +kernel)
            refine And.intro (⟨by decide, by decide⟩) ?_
            exact ⟨_, rfl, by omega, (par_leaf (M := IhB287 740 16) (by omega) (by omega) g0z260 (fun j => (fFr_S fhB287 (by decide +kernel) j).trans (fup_other ehB274 741 j (Or.inl (by decide)))) (by omega) (by omega)).1, (fun _ => (par_leaf (M := IhB287 740 16) (by omega) (by omega) g0z260 (fun j => (fFr_S fhB287 (by decide +kernel) j).trans (fup_other ehB274 741 j (Or.inl (by decide)))) (by omega) (by omega)).2), (p0_leaf (Or.inr ⟨by omega, by omega, (by have w := nm_1 g0z175 (by omega); rw [← qz174]; exact w), by omega, by omega⟩) g0z260 (by omega) (by omega) (by omega) (by omega) (hT_mk (fun j => (fup_other ehB274 747 j (Or.inl (by decide))).trans (fFr_at fhB261 747 (by decide +kernel) rfl j)) (by omega)) (by omega) g0z286 (fun j => (fFr_S fhB287 (by decide +kernel) j).trans (fup_other ehB274 741 j (Or.inl (by decide)))) (by omega) (by omega) (hT_mk (fFr_at fhB287 747 (by decide +kernel) rfl) (by omega)) (by omega) (by omega)), g1z286, (fun _ => by omega)⟩
    · intro c294
      have d9 := dkI_3 hp5 (by omega)
      refine And.intro ⟨rfl, by decide, by decide⟩ (fgetf fb_740_12 h0 hB0 ?_)
      intro z295 lz295 uz295 qz295
      refine Exists.intro xm_421 (And.intro mi_421 (And.intro ⟨rfl, rfl, rfl, rfl⟩ (And.intro rfl ?_)))
      refine fcall _ h0 (fzs_sub (by decide +kernel) hW) hB0 (ct_M_step_2c704 (fBz h0 hB0) (by first | exact ⟨by decide, by decide⟩ | omega) (by first | exact ⟨lz295, uz295⟩ | omega) (by omega) (laP_cg hp3 (by omega))) ?_
      rintro IhB297 _ hB297 fhB297 ⟨rfl, hz296, g0z296⟩
      have t298 := fhB297 740 9 (by decide +kernel)
      have t299 := fhB297 740 10 (by decide +kernel)
      have t300 := fhB297 740 11 (by decide +kernel)
      have t301 := fhB297 740 12 (by decide +kernel)
      have t302 := fhB297 740 13 (by decide +kernel)
      have t303 := fhB297 740 14 (by decide +kernel)
      have t304 := fhB297 740 15 (by decide +kernel)
      have t305 := fhB297 740 18 (by decide +kernel)
      have k306 := fBz_eq hB297 (a := 740) (j := 8) (by decide +kernel)
      have k307 := fBz_eq hB297 (a := 740) (j := 17) (by decide +kernel)
      refine And.intro ⟨rfl, by decide, by decide⟩ (fgetf fb_740_18 h0 hB297 ?_)
      intro z308 lz308 uz308 qz308
      intro z309 hz309 ez309 bz309
      clear ez309
      try replace bz309 := bz309 (by omega)
      refine And.intro ⟨rfl, by decide, by decide⟩ (And.intro rfl (And.intro (Or.inl rfl) (fputf fb_740_18 (by decide +kernel) hW (by omega) ?_)))
      intro IhB310 ehB310 hB310
      have t311 : IhB310 740 9 = IhB297 740 9 := (congrFun (congrFun ehB310 740) 9).trans (fup_ne (by first | decide | omega))
      have t312 : IhB310 740 10 = IhB297 740 10 := (congrFun (congrFun ehB310 740) 10).trans (fup_ne (by first | decide | omega))
      have t313 : IhB310 740 11 = IhB297 740 11 := (congrFun (congrFun ehB310 740) 11).trans (fup_ne (by first | decide | omega))
      have t314 : IhB310 740 12 = IhB297 740 12 := (congrFun (congrFun ehB310 740) 12).trans (fup_ne (by first | decide | omega))
      have t315 : IhB310 740 13 = IhB297 740 13 := (congrFun (congrFun ehB310 740) 13).trans (fup_ne (by first | decide | omega))
      have t316 : IhB310 740 14 = IhB297 740 14 := (congrFun (congrFun ehB310 740) 14).trans (fup_ne (by first | decide | omega))
      have t317 : IhB310 740 15 = IhB297 740 15 := (congrFun (congrFun ehB310 740) 15).trans (fup_ne (by first | decide | omega))
      have t318 : IhB310 740 16 = IhB297 740 16 := (congrFun (congrFun ehB310 740) 16).trans (fup_ne (by first | decide | omega))
      have t319 := fup_at ehB310 18 (by first | rfl | omega)
      have k320 := fBz_eq hB310 (a := 740) (j := 8) (by decide +kernel)
      have k321 := fBz_eq hB310 (a := 740) (j := 17) (by decide +kernel)
      refine Exists.intro xm_314 (And.intro mi_314 (And.intro ⟨rfl, rfl, rfl, rfl⟩ (And.intro rfl ?_)))
      refine fcall _ h0 (fzs_sub (by decide +kernel) hW) hB310 (ct_M_next_c8003 (fBz h0 hB310) (by omega)) ?_
      rintro IhB323 _ hB323 fhB323 ⟨rfl, hz322, g0z322, g1z322⟩
      have t324 := fhB323 740 14 (by decide +kernel)
      have t325 := fhB323 740 15 (by decide +kernel)
      have t326 := fhB323 740 16 (by decide +kernel)
      have t327 := fhB323 740 18 (by decide +kernel)
      have k328 := fBz_eq hB323 (a := 740) (j := 8) (by decide +kernel)
      have k329 := fBz_eq hB323 (a := 740) (j := 17) (by decide +kernel)
      refine And.intro (⟨by decide, by decide⟩) ?_
      exact ⟨_, rfl, by omega, (par_leaf (M := IhB323 740 16) (by omega) (by omega) g0z296 (fun j => (fFr_S fhB323 (by decide +kernel) j).trans (fup_other ehB310 741 j (Or.inl (by decide)))) (by omega) (by omega)).1, (fun _ => (par_leaf (M := IhB323 740 16) (by omega) (by omega) g0z296 (fun j => (fFr_S fhB323 (by decide +kernel) j).trans (fup_other ehB310 741 j (Or.inl (by decide)))) (by omega) (by omega)).2), (p0_leaf (Or.inl ⟨by omega, by omega, by omega⟩) g0z296 (by omega) (by omega) (by omega) (by omega) (hT_mk (fun j => (fup_other ehB310 747 j (Or.inl (by decide))).trans (fFr_at fhB297 747 (by decide +kernel) rfl j)) (by omega)) (by omega) g0z322 (fun j => (fFr_S fhB323 (by decide +kernel) j).trans (fup_other ehB310 741 j (Or.inl (by decide)))) (by omega) (by omega) (hT_mk (fFr_at fhB323 747 (by decide +kernel) rfl) (by omega)) (by omega) (by omega)), g1z322, (fun _ => by omega)⟩
abbrev jc_M_term_10b42_10 (x1 : Int) (I0 : fH) : Nat → fL → List fV → fH → Prop := fun m lv st I => ∃ (y1 : Int), lv = [(0, .inr (.inr (some 740))), (1, .inl y1)] ∧ st = [] ∧ ((((-1) ≤ y1 ∧ y1 ≤ 5) ∧ (I0 740 9 ≤ I 740 9) ∧ (I 740 9 ≤ I 740 10) ∧ (I 740 10 ≤ I 740 8) ∧ (I0 740 16 ≤ I 740 16) ∧ (I 740 16 - I0 740 16 ≤ I 740 9 - I0 740 9) ∧ (I 740 14 = I0 740 14) ∧ (I 740 15 = I0 740 15) ∧ (I0 740 18 ≤ I 740 18) ∧ (I 740 18 - I0 740 18 ≤ I 740 9 - I0 740 9) ∧ (y1 = x1)) ∧ (sBe I0 I (I0 740 17) (I0 740 16)) ∧ (sOne I (I0 740 17) (I0 740 16) (I 740 16)) ∧ (pJ 5 6 x1 I0 I) ∧ (dkI I)) ∧ m = (1 + 1 * (96 - I 740 9) : Int).toNat
set_option maxHeartbeats 6000000 in
set_option maxRecDepth 8000 in
theorem ct_M_term_10b42 {I : fH} {x1 : Int} (h0 : fB bsJ I) (ha1 : ((-1) ≤ x1 ∧ x1 ≤ 5)) (hp0 : I 740 9 ≤ I 740 10 ∧ I 740 10 ≤ I 740 8) (hp1 : 0 ≤ I 740 16 ∧ I 740 16 ≤ I 740 9) (hp2 : 16 ≤ I 740 14 + I 740 15) (hp3 : laP (I 740 17)) (hp4 : 0 ≤ I 740 18 ∧ I 740 18 ≤ I 740 9) (hp5 : dkI I) : fC ρ base n F xTc vwCl xTys D dA la gJ (fbz bsJ znJ (fKc wz_2212a) I) xm_387 [.inr (.inr (some 740)), .inl x1] I (fun I' r => ∃ z, r = some (.inl z) ∧ ((0 ≤ z ∧ z ≤ 1) ∧ (I 740 9 ≤ I' 740 9 ∧ I' 740 9 ≤ I' 740 10 ∧ I' 740 10 ≤ I' 740 8)) ∧ (sBe I I' (I 740 17) (I 740 16)) ∧ (rd1 I I' z) ∧ (pP 5 5 x1 I I' z) ∧ (dkI I') ∧ (rdU I I' z)) := by
  have hW : fzs wz_2212a (fKc wz_2212a) := fKc_ok _
  refine f_meth (rb := rbJ) (J := [(10, (jc_M_term_10b42_10 x1 I))]) 98 400 xG xin_387 x6_387 okJ (fB_self h0) ?_ ?_
  · refine List.forall_mem_cons.mpr ⟨?_, fun q h => absurd h List.not_mem_nil⟩
    · rintro m _ _ I1 hB1 ⟨y1, rfl, rfl, ⟨hb, hx0, hx1, hx2, hx3⟩, hm⟩
      have k1 := fBz_eq hB1 (a := 740) (j := 8) (by decide +kernel)
      have k2 := fBz_eq hB1 (a := 740) (j := 17) (by decide +kernel)
      have b3 := fBd fb_740_8 (fBz h0 hB1)
      have b4 := fBd fb_740_14 (fBz h0 hB1)
      have b5 := fBd fb_740_15 (fBz h0 hB1)
      have ey1 : x1 = y1 := by omega
      subst ey1
      have la0 := laP_bd hp3
      refine Exists.intro xm_423 (And.intro mi_423 (And.intro ⟨rfl, rfl, rfl, rfl⟩ (And.intro rfl ?_)))
      refine fcallp hB1 (ct_M_isSign_90da9 (fBz h0 hB1) (by first | exact ⟨by decide, by decide⟩ | omega)) ?_
      rintro _ ⟨z6, rfl, hz6, g0z6⟩
      refine And.intro (by omega) (And.intro ?_ ?_)
      · intro c7
        have sg := sgP_1 g0z6 (by omega)
        have rg : rdG (I1 740 13) = 5 := by rw [sg.2]; decide
        have d9 := dkI_3 hx3 (by omega)
        refine And.intro ⟨rfl, by decide, by decide⟩ (fgetf fb_740_13 h0 hB1 ?_)
        intro z8 lz8 uz8 qz8
        refine Exists.intro xm_314 (And.intro mi_314 (And.intro ⟨rfl, rfl, rfl, rfl⟩ (And.intro rfl ?_)))
        refine fcall _ h0 (fzs_sub (by decide +kernel) hW) hB1 (ct_M_next_c8003 (fBz h0 hB1) (by omega)) ?_
        rintro IhB10 _ hB10 fhB10 ⟨rfl, hz9, g0z9, g1z9⟩
        have t11 := fhB10 740 14 (by decide +kernel)
        have t12 := fhB10 740 15 (by decide +kernel)
        have t13 := fhB10 740 16 (by decide +kernel)
        have t14 := fhB10 740 18 (by decide +kernel)
        have k15 := fBz_eq hB10 (a := 740) (j := 8) (by decide +kernel)
        have k16 := fBz_eq hB10 (a := 740) (j := 17) (by decide +kernel)
        refine Exists.intro xm_404 (And.intro mi_404 (And.intro ⟨rfl, rfl, rfl, rfl⟩ (And.intro rfl ?_)))
        refine fcall _ h0 (fzs_sub (by decide +kernel) hW) hB10 (ct_M_part0_cc4b8 (fBz h0 hB10) (by first | exact ⟨hb.1.1, hb.1.2⟩ | omega) (by omega) (by omega) (by omega) (laP_cg hp3 (by omega)) (by omega) g1z9) ?_
        rintro IhB18 _ hB18 fhB18 ⟨z17, rfl, hz17, g0z17, g1z17, g2z17, g3z17, g4z17⟩
        have k19 := fBz_eq hB18 (a := 740) (j := 8) (by decide +kernel)
        have k20 := fBz_eq hB18 (a := 740) (j := 17) (by decide +kernel)
        refine And.intro (by omega) (And.intro ?_ ?_)
        · intro c21
          have u2 := g4z17 (by omega)
          refine Exists.intro xm_421 (And.intro mi_421 (And.intro ⟨rfl, rfl, rfl, rfl⟩ (And.intro rfl ?_)))
          refine fcall _ h0 (fzs_sub (by decide +kernel) hW) hB18 (ct_M_step_2c704 (fBz h0 hB18) (by first | exact ⟨by decide, by decide⟩ | omega) (by first | exact ⟨lz8, uz8⟩ | omega) (by omega) (laP_cg hp3 (by omega))) ?_
          rintro IhB23 _ hB23 fhB23 ⟨rfl, hz22, g0z22⟩
          have t24 := fhB23 740 9 (by decide +kernel)
          have t25 := fhB23 740 10 (by decide +kernel)
          have t26 := fhB23 740 11 (by decide +kernel)
          have t27 := fhB23 740 12 (by decide +kernel)
          have t28 := fhB23 740 13 (by decide +kernel)
          have t29 := fhB23 740 14 (by decide +kernel)
          have t30 := fhB23 740 15 (by decide +kernel)
          have t31 := fhB23 740 18 (by decide +kernel)
          have k32 := fBz_eq hB23 (a := 740) (j := 8) (by decide +kernel)
          have k33 := fBz_eq hB23 (a := 740) (j := 17) (by decide +kernel)
          exact fcutJ (I := IhB23) (j := (jc_M_term_10b42_10 x1 I)) (lv' := [(0, .inr (.inr (some 740))), (1, .inl _)]) (And.intro rfl (And.intro rfl True.intro)) ⟨_, rfl, rfl, ⟨by omega, (par_be hx0 (fFr_S fhB10 (by decide +kernel)) g0z17 g0z22 (by omega) (by omega) (by omega) (by omega)), (par_one (by omega) hx1 (fFr_S fhB10 (by decide +kernel)) g0z17 (g1z17 (by omega)) g0z22 (by omega) (by omega) (by omega) (by omega) (by omega) (by omega)), (pj_op (by decide) (by decide) (by decide) (by decide) (hT_mk (fFr_at (fFr_of hB1) 747 (by decide +kernel) rfl) (fBz_eq hB1 (by decide +kernel))) hx2 (by omega) (by omega) (by rw [show z8 = I1 740 13 by omega]; exact rg) g0z9 (by omega) (by omega) (hT_mk (fFr_at fhB10 747 (by decide +kernel) rfl) (by omega)) (fFr_S fhB10 (by decide +kernel)) (by omega) (by omega) (by omega) g2z17 (by omega) g0z22 (by omega) (by omega) (by omega) (by omega) (by omega) (by omega) (by omega) (by omega) (by omega) (hT_mk (fFr_at fhB23 747 (by decide +kernel) rfl) (by omega))), (dkI_cg g3z17 (by omega) (by omega) (by omega))⟩, rfl⟩ (by omega)
        · intro c34
          refine And.intro (⟨by decide, by decide⟩) ?_
          exact ⟨_, rfl, by omega, (par_bel hx0 (fFr_S fhB10 (by decide +kernel)) g0z17 (by omega) (by omega)), (fun q => absurd q (by omega)), (pj_op0 (by decide) (by decide) (by decide) (hT_mk (fFr_at (fFr_of hB1) 747 (by decide +kernel) rfl) (fBz_eq hB1 (by decide +kernel))) hx2 (by omega) rfl rg g0z9 (by omega) (by omega) (hT_mk (fFr_at fhB10 747 (by decide +kernel) rfl) (by omega)) (fFr_S fhB10 (by decide +kernel)) (by omega) (by omega) (by omega) g2z17 (by omega) (by omega)), g3z17, (fun q => absurd q (by omega))⟩
      · intro c35
        refine Exists.intro xm_423 (And.intro mi_423 (And.intro ⟨rfl, rfl, rfl, rfl⟩ (And.intro rfl ?_)))
        refine fcallp hB1 (ct_M_isSign_90da9 (fBz h0 hB1) (by first | exact ⟨by decide, by decide⟩ | omega)) ?_
        rintro _ ⟨z36, rfl, hz36, g0z36⟩
        refine And.intro (by omega) (And.intro ?_ ?_)
        · intro c37
          refine And.intro (⟨by decide, by decide⟩) ?_
          exact ⟨_, rfl, by omega, hx0, (fun _ => hx1), (pj_end (by decide) (by decide) (hT_mk (fFr_at (fFr_of hB1) 747 (by decide +kernel) rfl) (fBz_eq hB1 (by decide +kernel))) hx2 (by omega) (fun q => by have q2 := rdG_of q.2 (by decide); have q1 := q.1; have n13 := sgP_0 g0z6 (by omega) q1; have n22 := sgP_0 g0z36 (by omega) q1; omega)), hx3, (fun _ => by omega)⟩
        · intro c38
          have sg := sgP_1 g0z36 (by omega)
          have rg : rdG (I1 740 13) = 5 := by rw [sg.2]; decide
          have d9 := dkI_3 hx3 (by omega)
          refine And.intro ⟨rfl, by decide, by decide⟩ (fgetf fb_740_13 h0 hB1 ?_)
          intro z39 lz39 uz39 qz39
          refine Exists.intro xm_314 (And.intro mi_314 (And.intro ⟨rfl, rfl, rfl, rfl⟩ (And.intro rfl ?_)))
          refine fcall _ h0 (fzs_sub (by decide +kernel) hW) hB1 (ct_M_next_c8003 (fBz h0 hB1) (by omega)) ?_
          rintro IhB41 _ hB41 fhB41 ⟨rfl, hz40, g0z40, g1z40⟩
          have t42 := fhB41 740 14 (by decide +kernel)
          have t43 := fhB41 740 15 (by decide +kernel)
          have t44 := fhB41 740 16 (by decide +kernel)
          have t45 := fhB41 740 18 (by decide +kernel)
          have k46 := fBz_eq hB41 (a := 740) (j := 8) (by decide +kernel)
          have k47 := fBz_eq hB41 (a := 740) (j := 17) (by decide +kernel)
          refine Exists.intro xm_404 (And.intro mi_404 (And.intro ⟨rfl, rfl, rfl, rfl⟩ (And.intro rfl ?_)))
          refine fcall _ h0 (fzs_sub (by decide +kernel) hW) hB41 (ct_M_part0_cc4b8 (fBz h0 hB41) (by first | exact ⟨hb.1.1, hb.1.2⟩ | omega) (by omega) (by omega) (by omega) (laP_cg hp3 (by omega)) (by omega) g1z40) ?_
          rintro IhB49 _ hB49 fhB49 ⟨z48, rfl, hz48, g0z48, g1z48, g2z48, g3z48, g4z48⟩
          have k50 := fBz_eq hB49 (a := 740) (j := 8) (by decide +kernel)
          have k51 := fBz_eq hB49 (a := 740) (j := 17) (by decide +kernel)
          refine And.intro (by omega) (And.intro ?_ ?_)
          · intro c52
            have u2 := g4z48 (by omega)
            refine Exists.intro xm_421 (And.intro mi_421 (And.intro ⟨rfl, rfl, rfl, rfl⟩ (And.intro rfl ?_)))
            refine fcall _ h0 (fzs_sub (by decide +kernel) hW) hB49 (ct_M_step_2c704 (fBz h0 hB49) (by first | exact ⟨by decide, by decide⟩ | omega) (by first | exact ⟨lz39, uz39⟩ | omega) (by omega) (laP_cg hp3 (by omega))) ?_
            rintro IhB54 _ hB54 fhB54 ⟨rfl, hz53, g0z53⟩
            have t55 := fhB54 740 9 (by decide +kernel)
            have t56 := fhB54 740 10 (by decide +kernel)
            have t57 := fhB54 740 11 (by decide +kernel)
            have t58 := fhB54 740 12 (by decide +kernel)
            have t59 := fhB54 740 13 (by decide +kernel)
            have t60 := fhB54 740 14 (by decide +kernel)
            have t61 := fhB54 740 15 (by decide +kernel)
            have t62 := fhB54 740 18 (by decide +kernel)
            have k63 := fBz_eq hB54 (a := 740) (j := 8) (by decide +kernel)
            have k64 := fBz_eq hB54 (a := 740) (j := 17) (by decide +kernel)
            exact fcutJ (I := IhB54) (j := (jc_M_term_10b42_10 x1 I)) (lv' := [(0, .inr (.inr (some 740))), (1, .inl _)]) (And.intro rfl (And.intro rfl True.intro)) ⟨_, rfl, rfl, ⟨by omega, (par_be hx0 (fFr_S fhB41 (by decide +kernel)) g0z48 g0z53 (by omega) (by omega) (by omega) (by omega)), (par_one (by omega) hx1 (fFr_S fhB41 (by decide +kernel)) g0z48 (g1z48 (by omega)) g0z53 (by omega) (by omega) (by omega) (by omega) (by omega) (by omega)), (pj_op (by decide) (by decide) (by decide) (by decide) (hT_mk (fFr_at (fFr_of hB1) 747 (by decide +kernel) rfl) (fBz_eq hB1 (by decide +kernel))) hx2 (by omega) (by omega) (by rw [show z39 = I1 740 13 by omega]; exact rg) g0z40 (by omega) (by omega) (hT_mk (fFr_at fhB41 747 (by decide +kernel) rfl) (by omega)) (fFr_S fhB41 (by decide +kernel)) (by omega) (by omega) (by omega) g2z48 (by omega) g0z53 (by omega) (by omega) (by omega) (by omega) (by omega) (by omega) (by omega) (by omega) (by omega) (hT_mk (fFr_at fhB54 747 (by decide +kernel) rfl) (by omega))), (dkI_cg g3z48 (by omega) (by omega) (by omega))⟩, rfl⟩ (by omega)
          · intro c65
            refine And.intro (⟨by decide, by decide⟩) ?_
            exact ⟨_, rfl, by omega, (par_bel hx0 (fFr_S fhB41 (by decide +kernel)) g0z48 (by omega) (by omega)), (fun q => absurd q (by omega)), (pj_op0 (by decide) (by decide) (by decide) (hT_mk (fFr_at (fFr_of hB1) 747 (by decide +kernel) rfl) (fBz_eq hB1 (by decide +kernel))) hx2 (by omega) rfl rg g0z40 (by omega) (by omega) (hT_mk (fFr_at fhB41 747 (by decide +kernel) rfl) (by omega)) (fFr_S fhB41 (by decide +kernel)) (by omega) (by omega) (by omega) g2z48 (by omega) (by omega)), g3z48, (fun q => absurd q (by omega))⟩
  · have hB0 := fB_self (zn := znJ) (K := fKc wz_2212a) h0
    have b66 := fBd fb_740_8 (fBz h0 hB0)
    have b67 := fBd fb_740_14 (fBz h0 hB0)
    have b68 := fBd fb_740_15 (fBz h0 hB0)
    have la0 := laP_bd hp3
    refine Exists.intro xm_404 (And.intro mi_404 (And.intro ⟨rfl, rfl, rfl, rfl⟩ (And.intro rfl ?_)))
    refine fcall _ h0 (fzs_sub (by decide +kernel) hW) hB0 (ct_M_part0_cc4b8 (fBz h0 hB0) (by first | exact ⟨ha1.1, ha1.2⟩ | omega) (by omega) (by omega) (by omega) hp3 (by omega) hp5) ?_
    rintro IhB70 _ hB70 fhB70 ⟨z69, rfl, hz69, g0z69, g1z69, g2z69, g3z69, g4z69⟩
    have k71 := fBz_eq hB70 (a := 740) (j := 8) (by decide +kernel)
    have k72 := fBz_eq hB70 (a := 740) (j := 17) (by decide +kernel)
    refine And.intro (by omega) (And.intro ?_ ?_)
    · intro c73
      have u := g4z69 (by omega)
      exact fcutJ (I := IhB70) (j := (jc_M_term_10b42_10 x1 I)) (lv' := [(0, .inr (.inr (some 740))), (1, .inl _)]) (And.intro rfl (And.intro rfl True.intro)) ⟨_, rfl, rfl, ⟨by omega, g0z69, (g1z69 (by omega)), (pj_0 (by decide) (by decide) g2z69 (by omega)), g3z69⟩, rfl⟩ (by omega)
    · intro c74
      refine And.intro (⟨by decide, by decide⟩) ?_
      exact ⟨_, rfl, by omega, g0z69, (fun q => absurd q (by omega)), (pp_0 (by decide) g2z69 (by omega) (by omega)), g3z69, (fun q => absurd q (by omega))⟩
abbrev jc_M_sum_87c34_10 (x1 : Int) (I0 : fH) : Nat → fL → List fV → fH → Prop := fun m lv st I => ∃ (y1 : Int), lv = [(0, .inr (.inr (some 740))), (1, .inl y1)] ∧ st = [] ∧ ((((-1) ≤ y1 ∧ y1 ≤ 5) ∧ (I0 740 9 ≤ I 740 9) ∧ (I 740 9 ≤ I 740 10) ∧ (I 740 10 ≤ I 740 8) ∧ (I0 740 16 ≤ I 740 16) ∧ (I 740 16 - I0 740 16 ≤ I 740 9 - I0 740 9) ∧ (I 740 14 = I0 740 14) ∧ (I 740 15 = I0 740 15) ∧ (I0 740 18 ≤ I 740 18) ∧ (I 740 18 - I0 740 18 ≤ I 740 9 - I0 740 9) ∧ (y1 = x1)) ∧ (sBe I0 I (I0 740 17) (I0 740 16)) ∧ (sOne I (I0 740 17) (I0 740 16) (I 740 16)) ∧ (pJ 4 5 x1 I0 I) ∧ (dkI I)) ∧ m = (1 + 1 * (96 - I 740 9) : Int).toNat
set_option maxHeartbeats 6000000 in
set_option maxRecDepth 8000 in
theorem ct_M_sum_87c34 {I : fH} {x1 : Int} (h0 : fB bsJ I) (ha1 : ((-1) ≤ x1 ∧ x1 ≤ 5)) (hp0 : I 740 9 ≤ I 740 10 ∧ I 740 10 ≤ I 740 8) (hp1 : 0 ≤ I 740 16 ∧ I 740 16 ≤ I 740 9) (hp2 : 16 ≤ I 740 14 + I 740 15) (hp3 : laP (I 740 17)) (hp4 : 0 ≤ I 740 18 ∧ I 740 18 ≤ I 740 9) (hp5 : dkI I) : fC ρ base n F xTc vwCl xTys D dA la gJ (fbz bsJ znJ (fKc wz_2212a) I) xm_370 [.inr (.inr (some 740)), .inl x1] I (fun I' r => ∃ z, r = some (.inl z) ∧ ((0 ≤ z ∧ z ≤ 1) ∧ (I 740 9 ≤ I' 740 9 ∧ I' 740 9 ≤ I' 740 10 ∧ I' 740 10 ≤ I' 740 8)) ∧ (sBe I I' (I 740 17) (I 740 16)) ∧ (rd1 I I' z) ∧ (pP 4 4 x1 I I' z) ∧ (dkI I') ∧ (rdU I I' z)) := by
  have hW : fzs wz_2212a (fKc wz_2212a) := fKc_ok _
  refine f_meth (rb := rbJ) (J := [(10, (jc_M_sum_87c34_10 x1 I))]) 98 400 xG xin_370 x6_370 okJ (fB_self h0) ?_ ?_
  · refine List.forall_mem_cons.mpr ⟨?_, fun q h => absurd h List.not_mem_nil⟩
    · rintro m _ _ I1 hB1 ⟨y1, rfl, rfl, ⟨hb, hx0, hx1, hx2, hx3⟩, hm⟩
      have k1 := fBz_eq hB1 (a := 740) (j := 8) (by decide +kernel)
      have k2 := fBz_eq hB1 (a := 740) (j := 17) (by decide +kernel)
      have b3 := fBd fb_740_8 (fBz h0 hB1)
      have b4 := fBd fb_740_14 (fBz h0 hB1)
      have b5 := fBd fb_740_15 (fBz h0 hB1)
      have ey1 : x1 = y1 := by omega
      subst ey1
      have la0 := laP_bd hp3
      refine Exists.intro xm_423 (And.intro mi_423 (And.intro ⟨rfl, rfl, rfl, rfl⟩ (And.intro rfl ?_)))
      refine fcallp hB1 (ct_M_isSign_90da9 (fBz h0 hB1) (by first | exact ⟨by decide, by decide⟩ | omega)) ?_
      rintro _ ⟨z6, rfl, hz6, g0z6⟩
      refine And.intro (by omega) (And.intro ?_ ?_)
      · intro c7
        have sg := sgP_1 g0z6 (by omega)
        have rg : rdG (I1 740 13) = 4 := by rw [sg.2]; decide
        have d9 := dkI_3 hx3 (by omega)
        refine And.intro ⟨rfl, by decide, by decide⟩ (fgetf fb_740_13 h0 hB1 ?_)
        intro z8 lz8 uz8 qz8
        refine Exists.intro xm_314 (And.intro mi_314 (And.intro ⟨rfl, rfl, rfl, rfl⟩ (And.intro rfl ?_)))
        refine fcall _ h0 (fzs_sub (by decide +kernel) hW) hB1 (ct_M_next_c8003 (fBz h0 hB1) (by omega)) ?_
        rintro IhB10 _ hB10 fhB10 ⟨rfl, hz9, g0z9, g1z9⟩
        have t11 := fhB10 740 14 (by decide +kernel)
        have t12 := fhB10 740 15 (by decide +kernel)
        have t13 := fhB10 740 16 (by decide +kernel)
        have t14 := fhB10 740 18 (by decide +kernel)
        have k15 := fBz_eq hB10 (a := 740) (j := 8) (by decide +kernel)
        have k16 := fBz_eq hB10 (a := 740) (j := 17) (by decide +kernel)
        refine Exists.intro xm_387 (And.intro mi_387 (And.intro ⟨rfl, rfl, rfl, rfl⟩ (And.intro rfl ?_)))
        refine fcall _ h0 (fzs_sub (by decide +kernel) hW) hB10 (ct_M_term_10b42 (fBz h0 hB10) (by first | exact ⟨hb.1.1, hb.1.2⟩ | omega) (by omega) (by omega) (by omega) (laP_cg hp3 (by omega)) (by omega) g1z9) ?_
        rintro IhB18 _ hB18 fhB18 ⟨z17, rfl, hz17, g0z17, g1z17, g2z17, g3z17, g4z17⟩
        have k19 := fBz_eq hB18 (a := 740) (j := 8) (by decide +kernel)
        have k20 := fBz_eq hB18 (a := 740) (j := 17) (by decide +kernel)
        refine And.intro (by omega) (And.intro ?_ ?_)
        · intro c21
          have u2 := g4z17 (by omega)
          refine Exists.intro xm_421 (And.intro mi_421 (And.intro ⟨rfl, rfl, rfl, rfl⟩ (And.intro rfl ?_)))
          refine fcall _ h0 (fzs_sub (by decide +kernel) hW) hB18 (ct_M_step_2c704 (fBz h0 hB18) (by first | exact ⟨by decide, by decide⟩ | omega) (by first | exact ⟨lz8, uz8⟩ | omega) (by omega) (laP_cg hp3 (by omega))) ?_
          rintro IhB23 _ hB23 fhB23 ⟨rfl, hz22, g0z22⟩
          have t24 := fhB23 740 9 (by decide +kernel)
          have t25 := fhB23 740 10 (by decide +kernel)
          have t26 := fhB23 740 11 (by decide +kernel)
          have t27 := fhB23 740 12 (by decide +kernel)
          have t28 := fhB23 740 13 (by decide +kernel)
          have t29 := fhB23 740 14 (by decide +kernel)
          have t30 := fhB23 740 15 (by decide +kernel)
          have t31 := fhB23 740 18 (by decide +kernel)
          have k32 := fBz_eq hB23 (a := 740) (j := 8) (by decide +kernel)
          have k33 := fBz_eq hB23 (a := 740) (j := 17) (by decide +kernel)
          exact fcutJ (I := IhB23) (j := (jc_M_sum_87c34_10 x1 I)) (lv' := [(0, .inr (.inr (some 740))), (1, .inl _)]) (And.intro rfl (And.intro rfl True.intro)) ⟨_, rfl, rfl, ⟨by omega, (par_be hx0 (fFr_S fhB10 (by decide +kernel)) g0z17 g0z22 (by omega) (by omega) (by omega) (by omega)), (par_one (by omega) hx1 (fFr_S fhB10 (by decide +kernel)) g0z17 (g1z17 (by omega)) g0z22 (by omega) (by omega) (by omega) (by omega) (by omega) (by omega)), (pj_op (by decide) (by decide) (by decide) (by decide) (hT_mk (fFr_at (fFr_of hB1) 747 (by decide +kernel) rfl) (fBz_eq hB1 (by decide +kernel))) hx2 (by omega) (by omega) (by rw [show z8 = I1 740 13 by omega]; exact rg) g0z9 (by omega) (by omega) (hT_mk (fFr_at fhB10 747 (by decide +kernel) rfl) (by omega)) (fFr_S fhB10 (by decide +kernel)) (by omega) (by omega) (by omega) g2z17 (by omega) g0z22 (by omega) (by omega) (by omega) (by omega) (by omega) (by omega) (by omega) (by omega) (by omega) (hT_mk (fFr_at fhB23 747 (by decide +kernel) rfl) (by omega))), (dkI_cg g3z17 (by omega) (by omega) (by omega))⟩, rfl⟩ (by omega)
        · intro c34
          refine And.intro (⟨by decide, by decide⟩) ?_
          exact ⟨_, rfl, by omega, (par_bel hx0 (fFr_S fhB10 (by decide +kernel)) g0z17 (by omega) (by omega)), (fun q => absurd q (by omega)), (pj_op0 (by decide) (by decide) (by decide) (hT_mk (fFr_at (fFr_of hB1) 747 (by decide +kernel) rfl) (fBz_eq hB1 (by decide +kernel))) hx2 (by omega) rfl rg g0z9 (by omega) (by omega) (hT_mk (fFr_at fhB10 747 (by decide +kernel) rfl) (by omega)) (fFr_S fhB10 (by decide +kernel)) (by omega) (by omega) (by omega) g2z17 (by omega) (by omega)), g3z17, (fun q => absurd q (by omega))⟩
      · intro c35
        refine Exists.intro xm_423 (And.intro mi_423 (And.intro ⟨rfl, rfl, rfl, rfl⟩ (And.intro rfl ?_)))
        refine fcallp hB1 (ct_M_isSign_90da9 (fBz h0 hB1) (by first | exact ⟨by decide, by decide⟩ | omega)) ?_
        rintro _ ⟨z36, rfl, hz36, g0z36⟩
        refine And.intro (by omega) (And.intro ?_ ?_)
        · intro c37
          refine And.intro (⟨by decide, by decide⟩) ?_
          exact ⟨_, rfl, by omega, hx0, (fun _ => hx1), (pj_end (by decide) (by decide) (hT_mk (fFr_at (fFr_of hB1) 747 (by decide +kernel) rfl) (fBz_eq hB1 (by decide +kernel))) hx2 (by omega) (fun q => by have q2 := rdG_of q.2 (by decide); have q1 := q.1; have n13 := sgP_0 g0z6 (by omega) q1; have n22 := sgP_0 g0z36 (by omega) q1; omega)), hx3, (fun _ => by omega)⟩
        · intro c38
          have sg := sgP_1 g0z36 (by omega)
          have rg : rdG (I1 740 13) = 4 := by rw [sg.2]; decide
          have d9 := dkI_3 hx3 (by omega)
          refine And.intro ⟨rfl, by decide, by decide⟩ (fgetf fb_740_13 h0 hB1 ?_)
          intro z39 lz39 uz39 qz39
          refine Exists.intro xm_314 (And.intro mi_314 (And.intro ⟨rfl, rfl, rfl, rfl⟩ (And.intro rfl ?_)))
          refine fcall _ h0 (fzs_sub (by decide +kernel) hW) hB1 (ct_M_next_c8003 (fBz h0 hB1) (by omega)) ?_
          rintro IhB41 _ hB41 fhB41 ⟨rfl, hz40, g0z40, g1z40⟩
          have t42 := fhB41 740 14 (by decide +kernel)
          have t43 := fhB41 740 15 (by decide +kernel)
          have t44 := fhB41 740 16 (by decide +kernel)
          have t45 := fhB41 740 18 (by decide +kernel)
          have k46 := fBz_eq hB41 (a := 740) (j := 8) (by decide +kernel)
          have k47 := fBz_eq hB41 (a := 740) (j := 17) (by decide +kernel)
          refine Exists.intro xm_387 (And.intro mi_387 (And.intro ⟨rfl, rfl, rfl, rfl⟩ (And.intro rfl ?_)))
          refine fcall _ h0 (fzs_sub (by decide +kernel) hW) hB41 (ct_M_term_10b42 (fBz h0 hB41) (by first | exact ⟨hb.1.1, hb.1.2⟩ | omega) (by omega) (by omega) (by omega) (laP_cg hp3 (by omega)) (by omega) g1z40) ?_
          rintro IhB49 _ hB49 fhB49 ⟨z48, rfl, hz48, g0z48, g1z48, g2z48, g3z48, g4z48⟩
          have k50 := fBz_eq hB49 (a := 740) (j := 8) (by decide +kernel)
          have k51 := fBz_eq hB49 (a := 740) (j := 17) (by decide +kernel)
          refine And.intro (by omega) (And.intro ?_ ?_)
          · intro c52
            have u2 := g4z48 (by omega)
            refine Exists.intro xm_421 (And.intro mi_421 (And.intro ⟨rfl, rfl, rfl, rfl⟩ (And.intro rfl ?_)))
            refine fcall _ h0 (fzs_sub (by decide +kernel) hW) hB49 (ct_M_step_2c704 (fBz h0 hB49) (by first | exact ⟨by decide, by decide⟩ | omega) (by first | exact ⟨lz39, uz39⟩ | omega) (by omega) (laP_cg hp3 (by omega))) ?_
            rintro IhB54 _ hB54 fhB54 ⟨rfl, hz53, g0z53⟩
            have t55 := fhB54 740 9 (by decide +kernel)
            have t56 := fhB54 740 10 (by decide +kernel)
            have t57 := fhB54 740 11 (by decide +kernel)
            have t58 := fhB54 740 12 (by decide +kernel)
            have t59 := fhB54 740 13 (by decide +kernel)
            have t60 := fhB54 740 14 (by decide +kernel)
            have t61 := fhB54 740 15 (by decide +kernel)
            have t62 := fhB54 740 18 (by decide +kernel)
            have k63 := fBz_eq hB54 (a := 740) (j := 8) (by decide +kernel)
            have k64 := fBz_eq hB54 (a := 740) (j := 17) (by decide +kernel)
            exact fcutJ (I := IhB54) (j := (jc_M_sum_87c34_10 x1 I)) (lv' := [(0, .inr (.inr (some 740))), (1, .inl _)]) (And.intro rfl (And.intro rfl True.intro)) ⟨_, rfl, rfl, ⟨by omega, (par_be hx0 (fFr_S fhB41 (by decide +kernel)) g0z48 g0z53 (by omega) (by omega) (by omega) (by omega)), (par_one (by omega) hx1 (fFr_S fhB41 (by decide +kernel)) g0z48 (g1z48 (by omega)) g0z53 (by omega) (by omega) (by omega) (by omega) (by omega) (by omega)), (pj_op (by decide) (by decide) (by decide) (by decide) (hT_mk (fFr_at (fFr_of hB1) 747 (by decide +kernel) rfl) (fBz_eq hB1 (by decide +kernel))) hx2 (by omega) (by omega) (by rw [show z39 = I1 740 13 by omega]; exact rg) g0z40 (by omega) (by omega) (hT_mk (fFr_at fhB41 747 (by decide +kernel) rfl) (by omega)) (fFr_S fhB41 (by decide +kernel)) (by omega) (by omega) (by omega) g2z48 (by omega) g0z53 (by omega) (by omega) (by omega) (by omega) (by omega) (by omega) (by omega) (by omega) (by omega) (hT_mk (fFr_at fhB54 747 (by decide +kernel) rfl) (by omega))), (dkI_cg g3z48 (by omega) (by omega) (by omega))⟩, rfl⟩ (by omega)
          · intro c65
            refine And.intro (⟨by decide, by decide⟩) ?_
            exact ⟨_, rfl, by omega, (par_bel hx0 (fFr_S fhB41 (by decide +kernel)) g0z48 (by omega) (by omega)), (fun q => absurd q (by omega)), (pj_op0 (by decide) (by decide) (by decide) (hT_mk (fFr_at (fFr_of hB1) 747 (by decide +kernel) rfl) (fBz_eq hB1 (by decide +kernel))) hx2 (by omega) rfl rg g0z40 (by omega) (by omega) (hT_mk (fFr_at fhB41 747 (by decide +kernel) rfl) (by omega)) (fFr_S fhB41 (by decide +kernel)) (by omega) (by omega) (by omega) g2z48 (by omega) (by omega)), g3z48, (fun q => absurd q (by omega))⟩
  · have hB0 := fB_self (zn := znJ) (K := fKc wz_2212a) h0
    have b66 := fBd fb_740_8 (fBz h0 hB0)
    have b67 := fBd fb_740_14 (fBz h0 hB0)
    have b68 := fBd fb_740_15 (fBz h0 hB0)
    have la0 := laP_bd hp3
    refine Exists.intro xm_387 (And.intro mi_387 (And.intro ⟨rfl, rfl, rfl, rfl⟩ (And.intro rfl ?_)))
    refine fcall _ h0 (fzs_sub (by decide +kernel) hW) hB0 (ct_M_term_10b42 (fBz h0 hB0) (by first | exact ⟨ha1.1, ha1.2⟩ | omega) (by omega) (by omega) (by omega) hp3 (by omega) hp5) ?_
    rintro IhB70 _ hB70 fhB70 ⟨z69, rfl, hz69, g0z69, g1z69, g2z69, g3z69, g4z69⟩
    have k71 := fBz_eq hB70 (a := 740) (j := 8) (by decide +kernel)
    have k72 := fBz_eq hB70 (a := 740) (j := 17) (by decide +kernel)
    refine And.intro (by omega) (And.intro ?_ ?_)
    · intro c73
      have u := g4z69 (by omega)
      exact fcutJ (I := IhB70) (j := (jc_M_sum_87c34_10 x1 I)) (lv' := [(0, .inr (.inr (some 740))), (1, .inl _)]) (And.intro rfl (And.intro rfl True.intro)) ⟨_, rfl, rfl, ⟨by omega, g0z69, (g1z69 (by omega)), (pj_0 (by decide) (by decide) g2z69 (by omega)), g3z69⟩, rfl⟩ (by omega)
    · intro c74
      refine And.intro (⟨by decide, by decide⟩) ?_
      exact ⟨_, rfl, by omega, g0z69, (fun q => absurd q (by omega)), (pp_0 (by decide) g2z69 (by omega) (by omega)), g3z69, (fun q => absurd q (by omega))⟩
abbrev jc_M_test_011bc_37 (x1 : Int) (I0 : fH) : Nat → fL → List fV → fH → Prop := fun m lv st I => ∃ (y1 : Int), lv = [(0, .inr (.inr (some 740))), (1, .inl y1)] ∧ st = [] ∧ ((((-1) ≤ y1 ∧ y1 ≤ 5) ∧ (I0 740 9 ≤ I 740 9) ∧ (I 740 9 ≤ I 740 10) ∧ (I 740 10 ≤ I 740 8) ∧ (I0 740 16 ≤ I 740 16) ∧ (I 740 16 - I0 740 16 ≤ I 740 9 - I0 740 9) ∧ (I 740 14 = I0 740 14) ∧ (I 740 15 = I0 740 15) ∧ (I0 740 18 ≤ I 740 18) ∧ (I 740 18 - I0 740 18 ≤ I 740 9 - I0 740 9) ∧ (y1 = x1) ∧ (I 740 11 = 3) ∧ (rdG (I 740 13) = 3) ∧ (60 ≤ I 740 13)) ∧ (sBe I0 I (I0 740 17) (I0 740 16)) ∧ (sOne I (I0 740 17) (I0 740 16) (I 740 16)) ∧ (pP 4 4 x1 I0 I 1) ∧ (dkI I)) ∧ m = (1 : Int).toNat
set_option maxHeartbeats 6000000 in
set_option maxRecDepth 8000 in
theorem ct_M_test_011bc {I : fH} {x1 : Int} (h0 : fB bsJ I) (ha1 : ((-1) ≤ x1 ∧ x1 ≤ 5)) (hp0 : I 740 9 ≤ I 740 10 ∧ I 740 10 ≤ I 740 8) (hp1 : 0 ≤ I 740 16 ∧ I 740 16 ≤ I 740 9) (hp2 : 16 ≤ I 740 14 + I 740 15) (hp3 : laP (I 740 17)) (hp4 : 0 ≤ I 740 18 ∧ I 740 18 ≤ I 740 9) (hp5 : dkI I) : fC ρ base n F xTc vwCl xTys D dA la gJ (fbz bsJ znJ (fKc wz_2212a) I) xm_353 [.inr (.inr (some 740)), .inl x1] I (fun I' r => ∃ z, r = some (.inl z) ∧ ((0 ≤ z ∧ z ≤ 1) ∧ (I 740 9 ≤ I' 740 9 ∧ I' 740 9 ≤ I' 740 10 ∧ I' 740 10 ≤ I' 740 8)) ∧ (sBe I I' (I 740 17) (I 740 16)) ∧ (rd1 I I' z) ∧ (pP 3 3 x1 I I' z) ∧ (dkI I') ∧ (rdU I I' z)) := by
  have hW : fzs wz_2212a (fKc wz_2212a) := fKc_ok _
  refine f_meth (rb := rbJ) (J := [(37, (jc_M_test_011bc_37 x1 I))]) 2 400 xG xin_353 x6_353 okJ (fB_self h0) ?_ ?_
  · refine List.forall_mem_cons.mpr ⟨?_, fun q h => absurd h List.not_mem_nil⟩
    · rintro m _ _ I1 hB1 ⟨y1, rfl, rfl, ⟨hb, hx0, hx1, hx2, hx3⟩, hm⟩
      have k1 := fBz_eq hB1 (a := 740) (j := 8) (by decide +kernel)
      have k2 := fBz_eq hB1 (a := 740) (j := 17) (by decide +kernel)
      have b3 := fBd fb_740_8 (fBz h0 hB1)
      have b4 := fBd fb_740_14 (fBz h0 hB1)
      have b5 := fBd fb_740_15 (fBz h0 hB1)
      have ey1 : x1 = y1 := by omega
      subst ey1
      have la0 := laP_bd hp3
      have rg : rdG (I1 740 13) = 3 := by omega
      have d9 := dkI_3 hx3 (by omega)
      refine And.intro ⟨rfl, by decide, by decide⟩ (fgetf fb_740_13 h0 hB1 ?_)
      intro z6 lz6 uz6 qz6
      refine Exists.intro xm_314 (And.intro mi_314 (And.intro ⟨rfl, rfl, rfl, rfl⟩ (And.intro rfl ?_)))
      refine fcall _ h0 (fzs_sub (by decide +kernel) hW) hB1 (ct_M_next_c8003 (fBz h0 hB1) (by omega)) ?_
      rintro IhB8 _ hB8 fhB8 ⟨rfl, hz7, g0z7, g1z7⟩
      have t9 := fhB8 740 14 (by decide +kernel)
      have t10 := fhB8 740 15 (by decide +kernel)
      have t11 := fhB8 740 16 (by decide +kernel)
      have t12 := fhB8 740 18 (by decide +kernel)
      have k13 := fBz_eq hB8 (a := 740) (j := 8) (by decide +kernel)
      have k14 := fBz_eq hB8 (a := 740) (j := 17) (by decide +kernel)
      refine Exists.intro xm_370 (And.intro mi_370 (And.intro ⟨rfl, rfl, rfl, rfl⟩ (And.intro rfl ?_)))
      refine fcall _ h0 (fzs_sub (by decide +kernel) hW) hB8 (ct_M_sum_87c34 (fBz h0 hB8) (by first | exact ⟨hb.1.1, hb.1.2⟩ | omega) (by omega) (by omega) (by omega) (laP_cg hp3 (by omega)) (by omega) g1z7) ?_
      rintro IhB16 _ hB16 fhB16 ⟨z15, rfl, hz15, g0z15, g1z15, g2z15, g3z15, g4z15⟩
      have k17 := fBz_eq hB16 (a := 740) (j := 8) (by decide +kernel)
      have k18 := fBz_eq hB16 (a := 740) (j := 17) (by decide +kernel)
      refine And.intro (by omega) (And.intro ?_ ?_)
      · intro c19
        have u2 := g4z15 (by omega)
        refine Exists.intro xm_421 (And.intro mi_421 (And.intro ⟨rfl, rfl, rfl, rfl⟩ (And.intro rfl ?_)))
        refine fcall _ h0 (fzs_sub (by decide +kernel) hW) hB16 (ct_M_step_2c704 (fBz h0 hB16) (by first | exact ⟨by decide, by decide⟩ | omega) (by first | exact ⟨lz6, uz6⟩ | omega) (by omega) (laP_cg hp3 (by omega))) ?_
        rintro IhB21 _ hB21 fhB21 ⟨rfl, hz20, g0z20⟩
        have t22 := fhB21 740 9 (by decide +kernel)
        have t23 := fhB21 740 10 (by decide +kernel)
        have t24 := fhB21 740 11 (by decide +kernel)
        have t25 := fhB21 740 12 (by decide +kernel)
        have t26 := fhB21 740 13 (by decide +kernel)
        have t27 := fhB21 740 14 (by decide +kernel)
        have t28 := fhB21 740 15 (by decide +kernel)
        have t29 := fhB21 740 18 (by decide +kernel)
        have k30 := fBz_eq hB21 (a := 740) (j := 8) (by decide +kernel)
        have k31 := fBz_eq hB21 (a := 740) (j := 17) (by decide +kernel)
        refine And.intro (⟨by decide, by decide⟩) ?_
        exact ⟨_, rfl, by omega, (par_be hx0 (fFr_S fhB8 (by decide +kernel)) g0z15 g0z20 (by omega) (by omega) (by omega) (by omega)), (fun _ => par_one (by omega) hx1 (fFr_S fhB8 (by decide +kernel)) g0z15 (g1z15 (by omega)) g0z20 (by omega) (by omega) (by omega) (by omega) (by omega) (by omega)), (pt_cmp (hT_mk (fFr_at (fFr_of hB1) 747 (by decide +kernel) rfl) (fBz_eq hB1 (by decide +kernel))) hx2 (by omega) (by omega) (by omega) (by rw [show z6 = I1 740 13 by omega]; exact rg) g0z7 (by omega) (by omega) (hT_mk (fFr_at fhB8 747 (by decide +kernel) rfl) (by omega)) (fFr_S fhB8 (by decide +kernel)) (by omega) (by omega) (by omega) g2z15 (by omega) g0z20 (by omega) (by omega) (by omega) (by omega) (by omega) (by omega) (by omega) (by omega) (by omega) (hT_mk (fFr_at fhB21 747 (by decide +kernel) rfl) (by omega)) (by omega)), (dkI_cg g3z15 (by omega) (by omega) (by omega)), (fun _ => by omega)⟩
      · intro c32
        refine And.intro (⟨by decide, by decide⟩) ?_
        exact ⟨_, rfl, by omega, (par_bel hx0 (fFr_S fhB8 (by decide +kernel)) g0z15 (by omega) (by omega)), (fun q => absurd q (by omega)), (pt_cmp0 (hT_mk (fFr_at (fFr_of hB1) 747 (by decide +kernel) rfl) (fBz_eq hB1 (by decide +kernel))) hx2 (by omega) (by omega) rfl rg g0z7 (by omega) (by omega) (hT_mk (fFr_at fhB8 747 (by decide +kernel) rfl) (by omega)) (fFr_S fhB8 (by decide +kernel)) (by omega) (by omega) (by omega) g2z15 (by omega) (by omega)), g3z15, (fun q => absurd q (by omega))⟩
  · have hB0 := fB_self (zn := znJ) (K := fKc wz_2212a) h0
    have b33 := fBd fb_740_8 (fBz h0 hB0)
    have b34 := fBd fb_740_14 (fBz h0 hB0)
    have b35 := fBd fb_740_15 (fBz h0 hB0)
    have la0 := laP_bd hp3
    refine Exists.intro xm_370 (And.intro mi_370 (And.intro ⟨rfl, rfl, rfl, rfl⟩ (And.intro rfl ?_)))
    refine fcall _ h0 (fzs_sub (by decide +kernel) hW) hB0 (ct_M_sum_87c34 (fBz h0 hB0) (by first | exact ⟨ha1.1, ha1.2⟩ | omega) (by omega) (by omega) (by omega) hp3 (by omega) hp5) ?_
    rintro IhB37 _ hB37 fhB37 ⟨z36, rfl, hz36, g0z36, g1z36, g2z36, g3z36, g4z36⟩
    have k38 := fBz_eq hB37 (a := 740) (j := 8) (by decide +kernel)
    have k39 := fBz_eq hB37 (a := 740) (j := 17) (by decide +kernel)
    refine And.intro (by omega) (And.intro ?_ ?_)
    · intro c40
      refine Exists.intro xm_423 (And.intro mi_423 (And.intro ⟨rfl, rfl, rfl, rfl⟩ (And.intro rfl ?_)))
      refine fcallp hB37 (ct_M_isSign_90da9 (fBz h0 hB37) (by first | exact ⟨by decide, by decide⟩ | omega)) ?_
      rintro _ ⟨z41, rfl, hz41, g0z41⟩
      refine And.intro (by omega) (And.intro ?_ ?_)
      · intro c42
        have sg := sgP_1 g0z41 (by omega)
        have rg : rdG (IhB37 740 13) = 3 := by rw [sg.2]; decide
        have u := g4z36 (by omega)
        exact fcutJ (I := IhB37) (j := (jc_M_test_011bc_37 x1 I)) (lv' := [(0, .inr (.inr (some 740))), (1, .inl _)]) (And.intro rfl (And.intro rfl True.intro)) ⟨_, rfl, rfl, ⟨by omega, g0z36, (g1z36 (by omega)), (by have q := g2z36; rw [show z36 = 1 by omega] at q; exact q), g3z36⟩, rfl⟩ (by omega)
      · intro c43
        refine Exists.intro xm_423 (And.intro mi_423 (And.intro ⟨rfl, rfl, rfl, rfl⟩ (And.intro rfl ?_)))
        refine fcallp hB37 (ct_M_isSign_90da9 (fBz h0 hB37) (by first | exact ⟨by decide, by decide⟩ | omega)) ?_
        rintro _ ⟨z44, rfl, hz44, g0z44⟩
        refine And.intro (by omega) (And.intro ?_ ?_)
        · intro c45
          have sg := sgP_1 g0z44 (by omega)
          have rg : rdG (IhB37 740 13) = 3 := by rw [sg.2]; decide
          have u := g4z36 (by omega)
          exact fcutJ (I := IhB37) (j := (jc_M_test_011bc_37 x1 I)) (lv' := [(0, .inr (.inr (some 740))), (1, .inl _)]) (And.intro rfl (And.intro rfl True.intro)) ⟨_, rfl, rfl, ⟨by omega, g0z36, (g1z36 (by omega)), (by have q := g2z36; rw [show z36 = 1 by omega] at q; exact q), g3z36⟩, rfl⟩ (by omega)
        · intro c46
          refine Exists.intro xm_423 (And.intro mi_423 (And.intro ⟨rfl, rfl, rfl, rfl⟩ (And.intro rfl ?_)))
          refine fcallp hB37 (ct_M_isSign_90da9 (fBz h0 hB37) (by first | exact ⟨by decide, by decide⟩ | omega)) ?_
          rintro _ ⟨z47, rfl, hz47, g0z47⟩
          refine And.intro (by omega) (And.intro ?_ ?_)
          · intro c48
            refine And.intro (⟨by decide, by decide⟩) ?_
            exact ⟨_, rfl, by omega, g0z36, (fun _ => g1z36 (by omega)), (pj_end (k := 3) (kq := 4) (by decide) (by decide) (hT_mk (fFr_at fhB37 747 (by decide +kernel) rfl) (by omega)) (pj_0 (by decide) (by decide) g2z36 (by omega)) (by omega) (fun q => by have q2 := rdG_of q.2 (by decide); have q1 := q.1; have n13 := sgP_0 g0z41 (by omega) q1; have n22 := sgP_0 g0z44 (by omega) q1; have n31 := sgP_0 g0z47 (by omega) q1; omega)), g3z36, (fun _ => g4z36 (by omega))⟩
          · intro c49
            have sg := sgP_1 g0z47 (by omega)
            have rg : rdG (IhB37 740 13) = 3 := by rw [sg.2]; decide
            have u := g4z36 (by omega)
            exact fcutJ (I := IhB37) (j := (jc_M_test_011bc_37 x1 I)) (lv' := [(0, .inr (.inr (some 740))), (1, .inl _)]) (And.intro rfl (And.intro rfl True.intro)) ⟨_, rfl, rfl, ⟨by omega, g0z36, (g1z36 (by omega)), (by have q := g2z36; rw [show z36 = 1 by omega] at q; exact q), g3z36⟩, rfl⟩ (by omega)
    · intro c50
      refine And.intro (⟨by decide, by decide⟩) ?_
      exact ⟨_, rfl, by omega, g0z36, (fun q => absurd q (by omega)), (pp_0 (by decide) g2z36 (by omega) (by omega)), g3z36, (fun q => absurd q (by omega))⟩
abbrev jc_M_both_747b2_10 (x1 : Int) (I0 : fH) : Nat → fL → List fV → fH → Prop := fun m lv st I => ∃ (y1 : Int), lv = [(0, .inr (.inr (some 740))), (1, .inl y1)] ∧ st = [] ∧ ((((-1) ≤ y1 ∧ y1 ≤ 5) ∧ (I0 740 9 ≤ I 740 9) ∧ (I 740 9 ≤ I 740 10) ∧ (I 740 10 ≤ I 740 8) ∧ (I0 740 16 ≤ I 740 16) ∧ (I 740 16 - I0 740 16 ≤ I 740 9 - I0 740 9) ∧ (I 740 14 = I0 740 14) ∧ (I 740 15 = I0 740 15) ∧ (I0 740 18 ≤ I 740 18) ∧ (I 740 18 - I0 740 18 ≤ I 740 9 - I0 740 9) ∧ (y1 = x1)) ∧ (sBe I0 I (I0 740 17) (I0 740 16)) ∧ (sOne I (I0 740 17) (I0 740 16) (I 740 16)) ∧ (pJ 2 3 x1 I0 I) ∧ (dkI I)) ∧ m = (1 + 1 * (96 - I 740 9) : Int).toNat
set_option maxHeartbeats 6000000 in
set_option maxRecDepth 8000 in
theorem ct_M_both_747b2 {I : fH} {x1 : Int} (h0 : fB bsJ I) (ha1 : ((-1) ≤ x1 ∧ x1 ≤ 5)) (hp0 : I 740 9 ≤ I 740 10 ∧ I 740 10 ≤ I 740 8) (hp1 : 0 ≤ I 740 16 ∧ I 740 16 ≤ I 740 9) (hp2 : 16 ≤ I 740 14 + I 740 15) (hp3 : laP (I 740 17)) (hp4 : 0 ≤ I 740 18 ∧ I 740 18 ≤ I 740 9) (hp5 : dkI I) : fC ρ base n F xTc vwCl xTys D dA la gJ (fbz bsJ znJ (fKc wz_2212a) I) xm_336 [.inr (.inr (some 740)), .inl x1] I (fun I' r => ∃ z, r = some (.inl z) ∧ ((0 ≤ z ∧ z ≤ 1) ∧ (I 740 9 ≤ I' 740 9 ∧ I' 740 9 ≤ I' 740 10 ∧ I' 740 10 ≤ I' 740 8)) ∧ (sBe I I' (I 740 17) (I 740 16)) ∧ (rd1 I I' z) ∧ (pP 2 2 x1 I I' z) ∧ (dkI I') ∧ (rdU I I' z)) := by
  have hW : fzs wz_2212a (fKc wz_2212a) := fKc_ok _
  refine f_meth (rb := rbJ) (J := [(10, (jc_M_both_747b2_10 x1 I))]) 98 400 xG xin_336 x6_336 okJ (fB_self h0) ?_ ?_
  · refine List.forall_mem_cons.mpr ⟨?_, fun q h => absurd h List.not_mem_nil⟩
    · rintro m _ _ I1 hB1 ⟨y1, rfl, rfl, ⟨hb, hx0, hx1, hx2, hx3⟩, hm⟩
      have k1 := fBz_eq hB1 (a := 740) (j := 8) (by decide +kernel)
      have k2 := fBz_eq hB1 (a := 740) (j := 17) (by decide +kernel)
      have b3 := fBd fb_740_8 (fBz h0 hB1)
      have b4 := fBd fb_740_14 (fBz h0 hB1)
      have b5 := fBd fb_740_15 (fBz h0 hB1)
      have ey1 : x1 = y1 := by omega
      subst ey1
      have la0 := laP_bd hp3
      refine Exists.intro xm_423 (And.intro mi_423 (And.intro ⟨rfl, rfl, rfl, rfl⟩ (And.intro rfl ?_)))
      refine fcallp hB1 (ct_M_isSign_90da9 (fBz h0 hB1) (by first | exact ⟨by decide, by decide⟩ | omega)) ?_
      rintro _ ⟨z6, rfl, hz6, g0z6⟩
      refine And.intro (by omega) (And.intro ?_ ?_)
      · intro c7
        refine And.intro (⟨by decide, by decide⟩) ?_
        exact ⟨_, rfl, by omega, hx0, (fun _ => hx1), (pj_end (by decide) (by decide) (hT_mk (fFr_at (fFr_of hB1) 747 (by decide +kernel) rfl) (fBz_eq hB1 (by decide +kernel))) hx2 (by omega) (fun q => by have q2 := rdG_of q.2 (by decide); have q1 := q.1; have n13 := sgP_0 g0z6 (by omega) q1; omega)), hx3, (fun _ => by omega)⟩
      · intro c8
        have sg := sgP_1 g0z6 (by omega)
        have rg : rdG (I1 740 13) = 2 := by rw [sg.2]; decide
        have d9 := dkI_3 hx3 (by omega)
        refine Exists.intro xm_314 (And.intro mi_314 (And.intro ⟨rfl, rfl, rfl, rfl⟩ (And.intro rfl ?_)))
        refine fcall _ h0 (fzs_sub (by decide +kernel) hW) hB1 (ct_M_next_c8003 (fBz h0 hB1) (by omega)) ?_
        rintro IhB10 _ hB10 fhB10 ⟨rfl, hz9, g0z9, g1z9⟩
        have t11 := fhB10 740 14 (by decide +kernel)
        have t12 := fhB10 740 15 (by decide +kernel)
        have t13 := fhB10 740 16 (by decide +kernel)
        have t14 := fhB10 740 18 (by decide +kernel)
        have k15 := fBz_eq hB10 (a := 740) (j := 8) (by decide +kernel)
        have k16 := fBz_eq hB10 (a := 740) (j := 17) (by decide +kernel)
        refine Exists.intro xm_353 (And.intro mi_353 (And.intro ⟨rfl, rfl, rfl, rfl⟩ (And.intro rfl ?_)))
        refine fcall _ h0 (fzs_sub (by decide +kernel) hW) hB10 (ct_M_test_011bc (fBz h0 hB10) (by first | exact ⟨hb.1.1, hb.1.2⟩ | omega) (by omega) (by omega) (by omega) (laP_cg hp3 (by omega)) (by omega) g1z9) ?_
        rintro IhB18 _ hB18 fhB18 ⟨z17, rfl, hz17, g0z17, g1z17, g2z17, g3z17, g4z17⟩
        have k19 := fBz_eq hB18 (a := 740) (j := 8) (by decide +kernel)
        have k20 := fBz_eq hB18 (a := 740) (j := 17) (by decide +kernel)
        refine And.intro (by omega) (And.intro ?_ ?_)
        · intro c21
          have u2 := g4z17 (by omega)
          refine Exists.intro xm_421 (And.intro mi_421 (And.intro ⟨rfl, rfl, rfl, rfl⟩ (And.intro rfl ?_)))
          refine fcall _ h0 (fzs_sub (by decide +kernel) hW) hB18 (ct_M_step_2c704 (fBz h0 hB18) (by first | exact ⟨by decide, by decide⟩ | omega) (by first | exact ⟨by decide, by decide⟩ | omega) (by omega) (laP_cg hp3 (by omega))) ?_
          rintro IhB23 _ hB23 fhB23 ⟨rfl, hz22, g0z22⟩
          have t24 := fhB23 740 9 (by decide +kernel)
          have t25 := fhB23 740 10 (by decide +kernel)
          have t26 := fhB23 740 11 (by decide +kernel)
          have t27 := fhB23 740 12 (by decide +kernel)
          have t28 := fhB23 740 13 (by decide +kernel)
          have t29 := fhB23 740 14 (by decide +kernel)
          have t30 := fhB23 740 15 (by decide +kernel)
          have t31 := fhB23 740 18 (by decide +kernel)
          have k32 := fBz_eq hB23 (a := 740) (j := 8) (by decide +kernel)
          have k33 := fBz_eq hB23 (a := 740) (j := 17) (by decide +kernel)
          exact fcutJ (I := IhB23) (j := (jc_M_both_747b2_10 x1 I)) (lv' := [(0, .inr (.inr (some 740))), (1, .inl _)]) (And.intro rfl (And.intro rfl True.intro)) ⟨_, rfl, rfl, ⟨by omega, (par_be hx0 (fFr_S fhB10 (by decide +kernel)) g0z17 g0z22 (by omega) (by omega) (by omega) (by omega)), (par_one (by omega) hx1 (fFr_S fhB10 (by decide +kernel)) g0z17 (g1z17 (by omega)) g0z22 (by omega) (by omega) (by omega) (by omega) (by omega) (by omega)), (pj_op (by decide) (by decide) (by decide) (by decide) (hT_mk (fFr_at (fFr_of hB1) 747 (by decide +kernel) rfl) (fBz_eq hB1 (by decide +kernel))) hx2 (by omega) (by omega) (by decide) g0z9 (by omega) (by omega) (hT_mk (fFr_at fhB10 747 (by decide +kernel) rfl) (by omega)) (fFr_S fhB10 (by decide +kernel)) (by omega) (by omega) (by omega) g2z17 (by omega) g0z22 (by omega) (by omega) (by omega) (by omega) (by omega) (by omega) (by omega) (by omega) (by omega) (hT_mk (fFr_at fhB23 747 (by decide +kernel) rfl) (by omega))), (dkI_cg g3z17 (by omega) (by omega) (by omega))⟩, rfl⟩ (by omega)
        · intro c34
          refine And.intro (⟨by decide, by decide⟩) ?_
          exact ⟨_, rfl, by omega, (par_bel hx0 (fFr_S fhB10 (by decide +kernel)) g0z17 (by omega) (by omega)), (fun q => absurd q (by omega)), (pj_op0 (by decide) (by decide) (by decide) (hT_mk (fFr_at (fFr_of hB1) 747 (by decide +kernel) rfl) (fBz_eq hB1 (by decide +kernel))) hx2 (by omega) rfl rg g0z9 (by omega) (by omega) (hT_mk (fFr_at fhB10 747 (by decide +kernel) rfl) (by omega)) (fFr_S fhB10 (by decide +kernel)) (by omega) (by omega) (by omega) g2z17 (by omega) (by omega)), g3z17, (fun q => absurd q (by omega))⟩
  · have hB0 := fB_self (zn := znJ) (K := fKc wz_2212a) h0
    have b35 := fBd fb_740_8 (fBz h0 hB0)
    have b36 := fBd fb_740_14 (fBz h0 hB0)
    have b37 := fBd fb_740_15 (fBz h0 hB0)
    have la0 := laP_bd hp3
    refine Exists.intro xm_353 (And.intro mi_353 (And.intro ⟨rfl, rfl, rfl, rfl⟩ (And.intro rfl ?_)))
    refine fcall _ h0 (fzs_sub (by decide +kernel) hW) hB0 (ct_M_test_011bc (fBz h0 hB0) (by first | exact ⟨ha1.1, ha1.2⟩ | omega) (by omega) (by omega) (by omega) hp3 (by omega) hp5) ?_
    rintro IhB39 _ hB39 fhB39 ⟨z38, rfl, hz38, g0z38, g1z38, g2z38, g3z38, g4z38⟩
    have k40 := fBz_eq hB39 (a := 740) (j := 8) (by decide +kernel)
    have k41 := fBz_eq hB39 (a := 740) (j := 17) (by decide +kernel)
    refine And.intro (by omega) (And.intro ?_ ?_)
    · intro c42
      have u := g4z38 (by omega)
      exact fcutJ (I := IhB39) (j := (jc_M_both_747b2_10 x1 I)) (lv' := [(0, .inr (.inr (some 740))), (1, .inl _)]) (And.intro rfl (And.intro rfl True.intro)) ⟨_, rfl, rfl, ⟨by omega, g0z38, (g1z38 (by omega)), (pj_0 (by decide) (by decide) g2z38 (by omega)), g3z38⟩, rfl⟩ (by omega)
    · intro c43
      refine And.intro (⟨by decide, by decide⟩) ?_
      exact ⟨_, rfl, by omega, g0z38, (fun q => absurd q (by omega)), (pp_0 (by decide) g2z38 (by omega) (by omega)), g3z38, (fun q => absurd q (by omega))⟩
abbrev jc_M_either_f12bf_10 (x1 : Int) (I0 : fH) : Nat → fL → List fV → fH → Prop := fun m lv st I => ∃ (y1 : Int), lv = [(0, .inr (.inr (some 740))), (1, .inl y1)] ∧ st = [] ∧ ((((-1) ≤ y1 ∧ y1 ≤ 5) ∧ (I0 740 9 ≤ I 740 9) ∧ (I 740 9 ≤ I 740 10) ∧ (I 740 10 ≤ I 740 8) ∧ (I0 740 16 ≤ I 740 16) ∧ (I 740 16 - I0 740 16 ≤ I 740 9 - I0 740 9) ∧ (I 740 14 = I0 740 14) ∧ (I 740 15 = I0 740 15) ∧ (I0 740 18 ≤ I 740 18) ∧ (I 740 18 - I0 740 18 ≤ I 740 9 - I0 740 9) ∧ (y1 = x1)) ∧ (sBe I0 I (I0 740 17) (I0 740 16)) ∧ (sOne I (I0 740 17) (I0 740 16) (I 740 16)) ∧ (pJ 1 2 x1 I0 I) ∧ (dkI I)) ∧ m = (1 + 1 * (96 - I 740 9) : Int).toNat
set_option maxHeartbeats 6000000 in
set_option maxRecDepth 8000 in
theorem ct_M_either_f12bf {I : fH} {x1 : Int} (h0 : fB bsJ I) (ha1 : ((-1) ≤ x1 ∧ x1 ≤ 5)) (hp0 : I 740 9 ≤ I 740 10 ∧ I 740 10 ≤ I 740 8) (hp1 : 0 ≤ I 740 16 ∧ I 740 16 ≤ I 740 9) (hp2 : 16 ≤ I 740 14 + I 740 15) (hp3 : laP (I 740 17)) (hp4 : 0 ≤ I 740 18 ∧ I 740 18 ≤ I 740 9) (hp5 : dkI I) : fC ρ base n F xTc vwCl xTys D dA la gJ (fbz bsJ znJ (fKc wz_2212a) I) xm_319 [.inr (.inr (some 740)), .inl x1] I (fun I' r => ∃ z, r = some (.inl z) ∧ ((0 ≤ z ∧ z ≤ 1) ∧ (I 740 9 ≤ I' 740 9 ∧ I' 740 9 ≤ I' 740 10 ∧ I' 740 10 ≤ I' 740 8)) ∧ (sBe I I' (I 740 17) (I 740 16)) ∧ (rd1 I I' z) ∧ (pP 1 1 x1 I I' z) ∧ (dkI I') ∧ (rdU I I' z)) := by
  have hW : fzs wz_2212a (fKc wz_2212a) := fKc_ok _
  refine f_meth (rb := rbJ) (J := [(10, (jc_M_either_f12bf_10 x1 I))]) 98 400 xG xin_319 x6_319 okJ (fB_self h0) ?_ ?_
  · refine List.forall_mem_cons.mpr ⟨?_, fun q h => absurd h List.not_mem_nil⟩
    · rintro m _ _ I1 hB1 ⟨y1, rfl, rfl, ⟨hb, hx0, hx1, hx2, hx3⟩, hm⟩
      have k1 := fBz_eq hB1 (a := 740) (j := 8) (by decide +kernel)
      have k2 := fBz_eq hB1 (a := 740) (j := 17) (by decide +kernel)
      have b3 := fBd fb_740_8 (fBz h0 hB1)
      have b4 := fBd fb_740_14 (fBz h0 hB1)
      have b5 := fBd fb_740_15 (fBz h0 hB1)
      have ey1 : x1 = y1 := by omega
      subst ey1
      have la0 := laP_bd hp3
      refine Exists.intro xm_423 (And.intro mi_423 (And.intro ⟨rfl, rfl, rfl, rfl⟩ (And.intro rfl ?_)))
      refine fcallp hB1 (ct_M_isSign_90da9 (fBz h0 hB1) (by first | exact ⟨by decide, by decide⟩ | omega)) ?_
      rintro _ ⟨z6, rfl, hz6, g0z6⟩
      refine And.intro (by omega) (And.intro ?_ ?_)
      · intro c7
        refine And.intro (⟨by decide, by decide⟩) ?_
        exact ⟨_, rfl, by omega, hx0, (fun _ => hx1), (pj_end (by decide) (by decide) (hT_mk (fFr_at (fFr_of hB1) 747 (by decide +kernel) rfl) (fBz_eq hB1 (by decide +kernel))) hx2 (by omega) (fun q => by have q2 := rdG_of q.2 (by decide); have q1 := q.1; have n13 := sgP_0 g0z6 (by omega) q1; omega)), hx3, (fun _ => by omega)⟩
      · intro c8
        have sg := sgP_1 g0z6 (by omega)
        have rg : rdG (I1 740 13) = 1 := by rw [sg.2]; decide
        have d9 := dkI_3 hx3 (by omega)
        refine Exists.intro xm_314 (And.intro mi_314 (And.intro ⟨rfl, rfl, rfl, rfl⟩ (And.intro rfl ?_)))
        refine fcall _ h0 (fzs_sub (by decide +kernel) hW) hB1 (ct_M_next_c8003 (fBz h0 hB1) (by omega)) ?_
        rintro IhB10 _ hB10 fhB10 ⟨rfl, hz9, g0z9, g1z9⟩
        have t11 := fhB10 740 14 (by decide +kernel)
        have t12 := fhB10 740 15 (by decide +kernel)
        have t13 := fhB10 740 16 (by decide +kernel)
        have t14 := fhB10 740 18 (by decide +kernel)
        have k15 := fBz_eq hB10 (a := 740) (j := 8) (by decide +kernel)
        have k16 := fBz_eq hB10 (a := 740) (j := 17) (by decide +kernel)
        refine Exists.intro xm_336 (And.intro mi_336 (And.intro ⟨rfl, rfl, rfl, rfl⟩ (And.intro rfl ?_)))
        refine fcall _ h0 (fzs_sub (by decide +kernel) hW) hB10 (ct_M_both_747b2 (fBz h0 hB10) (by first | exact ⟨hb.1.1, hb.1.2⟩ | omega) (by omega) (by omega) (by omega) (laP_cg hp3 (by omega)) (by omega) g1z9) ?_
        rintro IhB18 _ hB18 fhB18 ⟨z17, rfl, hz17, g0z17, g1z17, g2z17, g3z17, g4z17⟩
        have k19 := fBz_eq hB18 (a := 740) (j := 8) (by decide +kernel)
        have k20 := fBz_eq hB18 (a := 740) (j := 17) (by decide +kernel)
        refine And.intro (by omega) (And.intro ?_ ?_)
        · intro c21
          have u2 := g4z17 (by omega)
          refine Exists.intro xm_421 (And.intro mi_421 (And.intro ⟨rfl, rfl, rfl, rfl⟩ (And.intro rfl ?_)))
          refine fcall _ h0 (fzs_sub (by decide +kernel) hW) hB18 (ct_M_step_2c704 (fBz h0 hB18) (by first | exact ⟨by decide, by decide⟩ | omega) (by first | exact ⟨by decide, by decide⟩ | omega) (by omega) (laP_cg hp3 (by omega))) ?_
          rintro IhB23 _ hB23 fhB23 ⟨rfl, hz22, g0z22⟩
          have t24 := fhB23 740 9 (by decide +kernel)
          have t25 := fhB23 740 10 (by decide +kernel)
          have t26 := fhB23 740 11 (by decide +kernel)
          have t27 := fhB23 740 12 (by decide +kernel)
          have t28 := fhB23 740 13 (by decide +kernel)
          have t29 := fhB23 740 14 (by decide +kernel)
          have t30 := fhB23 740 15 (by decide +kernel)
          have t31 := fhB23 740 18 (by decide +kernel)
          have k32 := fBz_eq hB23 (a := 740) (j := 8) (by decide +kernel)
          have k33 := fBz_eq hB23 (a := 740) (j := 17) (by decide +kernel)
          exact fcutJ (I := IhB23) (j := (jc_M_either_f12bf_10 x1 I)) (lv' := [(0, .inr (.inr (some 740))), (1, .inl _)]) (And.intro rfl (And.intro rfl True.intro)) ⟨_, rfl, rfl, ⟨by omega, (par_be hx0 (fFr_S fhB10 (by decide +kernel)) g0z17 g0z22 (by omega) (by omega) (by omega) (by omega)), (par_one (by omega) hx1 (fFr_S fhB10 (by decide +kernel)) g0z17 (g1z17 (by omega)) g0z22 (by omega) (by omega) (by omega) (by omega) (by omega) (by omega)), (pj_op (by decide) (by decide) (by decide) (by decide) (hT_mk (fFr_at (fFr_of hB1) 747 (by decide +kernel) rfl) (fBz_eq hB1 (by decide +kernel))) hx2 (by omega) (by omega) (by decide) g0z9 (by omega) (by omega) (hT_mk (fFr_at fhB10 747 (by decide +kernel) rfl) (by omega)) (fFr_S fhB10 (by decide +kernel)) (by omega) (by omega) (by omega) g2z17 (by omega) g0z22 (by omega) (by omega) (by omega) (by omega) (by omega) (by omega) (by omega) (by omega) (by omega) (hT_mk (fFr_at fhB23 747 (by decide +kernel) rfl) (by omega))), (dkI_cg g3z17 (by omega) (by omega) (by omega))⟩, rfl⟩ (by omega)
        · intro c34
          refine And.intro (⟨by decide, by decide⟩) ?_
          exact ⟨_, rfl, by omega, (par_bel hx0 (fFr_S fhB10 (by decide +kernel)) g0z17 (by omega) (by omega)), (fun q => absurd q (by omega)), (pj_op0 (by decide) (by decide) (by decide) (hT_mk (fFr_at (fFr_of hB1) 747 (by decide +kernel) rfl) (fBz_eq hB1 (by decide +kernel))) hx2 (by omega) rfl rg g0z9 (by omega) (by omega) (hT_mk (fFr_at fhB10 747 (by decide +kernel) rfl) (by omega)) (fFr_S fhB10 (by decide +kernel)) (by omega) (by omega) (by omega) g2z17 (by omega) (by omega)), g3z17, (fun q => absurd q (by omega))⟩
  · have hB0 := fB_self (zn := znJ) (K := fKc wz_2212a) h0
    have b35 := fBd fb_740_8 (fBz h0 hB0)
    have b36 := fBd fb_740_14 (fBz h0 hB0)
    have b37 := fBd fb_740_15 (fBz h0 hB0)
    have la0 := laP_bd hp3
    refine Exists.intro xm_336 (And.intro mi_336 (And.intro ⟨rfl, rfl, rfl, rfl⟩ (And.intro rfl ?_)))
    refine fcall _ h0 (fzs_sub (by decide +kernel) hW) hB0 (ct_M_both_747b2 (fBz h0 hB0) (by first | exact ⟨ha1.1, ha1.2⟩ | omega) (by omega) (by omega) (by omega) hp3 (by omega) hp5) ?_
    rintro IhB39 _ hB39 fhB39 ⟨z38, rfl, hz38, g0z38, g1z38, g2z38, g3z38, g4z38⟩
    have k40 := fBz_eq hB39 (a := 740) (j := 8) (by decide +kernel)
    have k41 := fBz_eq hB39 (a := 740) (j := 17) (by decide +kernel)
    refine And.intro (by omega) (And.intro ?_ ?_)
    · intro c42
      have u := g4z38 (by omega)
      exact fcutJ (I := IhB39) (j := (jc_M_either_f12bf_10 x1 I)) (lv' := [(0, .inr (.inr (some 740))), (1, .inl _)]) (And.intro rfl (And.intro rfl True.intro)) ⟨_, rfl, rfl, ⟨by omega, g0z38, (g1z38 (by omega)), (pj_0 (by decide) (by decide) g2z38 (by omega)), g3z38⟩, rfl⟩ (by omega)
    · intro c43
      refine And.intro (⟨by decide, by decide⟩) ?_
      exact ⟨_, rfl, by omega, g0z38, (fun q => absurd q (by omega)), (pp_0 (by decide) g2z38 (by omega) (by omega)), g3z38, (fun q => absurd q (by omega))⟩
end CT

/-! contracts (written by gen95.py) -/
abbrev wz_dd461 : List Nat := [701, 702, 11704, 11707, 11708, 11709, 11710]
theorem x6_126 : f60c xTc xTys xm_126 = true := by decide +kernel
theorem fb_699_10 : bsJ 699 10 = (0, 1) := by decide +kernel
abbrev wz_84be8 : List Nat := [701, 702, 11704, 11705, 11707, 11708, 11709, 11710]
abbrev wz_4a62a : List Nat := [701, 702, 11702, 11704, 11705, 11707, 11708, 11709, 11710]
theorem x6_112 : f60c xTc xTys xm_112 = true := by decide +kernel
theorem fb_699_1 : bsJ 699 1 = (0, 96) := by decide +kernel
theorem rL_700_700_0_95_1_0 : frL gJ bsJ 100 ((700, 700), (0, 95), (1, 0), (0, 255)) := frL_of (by decide +kernel)
theorem fb_699_4 : bsJ 699 4 = (0, 96) := by decide +kernel
theorem fb_699_5 : bsJ 699 5 = ((-2147483648), 2147483647) := by decide +kernel
theorem fb_699_2 : bsJ 699 2 = ((-2147483648), 2147483647) := by decide +kernel
abbrev wz_5dd44 : List Nat := [188, 189, 190, 191, 192, 193, 10506]
abbrev wz_8696f : List Nat := [188, 189, 190, 191, 192, 193, 701, 702, 10506, 11701, 11702, 11704, 11705, 11707, 11708, 11709, 11710]
theorem x6_111 : f60c xTc xTys xm_111 = true := by decide +kernel
abbrev wz_1c18d : List Nat := [12209, 12210, 12211, 12212, 12213]
abbrev wz_6dafe : List Nat := [12216, 20605, 20840]
abbrev wz_2212a : List Nat := [12209, 12210, 12211, 12212, 12213, 12214, 12215, 12216, 12218, 20605, 20840]
section CT
variable {ρ : Nat → Int32} {base n : Nat} {F : Nat → Prop} {D : va_G} {dA : Nat → ClassId} {la : Launch}
abbrev jc_Tape_takeSign_f125c_24 : Nat → fL → List fV → fH → Prop := fun m lv st I => lv = [] ∧ st = [] ∧ ((((-2147483648) ≤ I 699 8 ∧ I 699 8 ≤ 0))) ∧ m = (2 : Int).toNat
abbrev jc_Tape_takeSign_f125c_98 : Nat → fL → List fV → fH → Prop := fun m lv st I => ∃ (y1 : Int), lv = [(0, .inr (.inr (some 699))), (1, .inl y1)] ∧ st = [] ∧ (((0 ≤ y1 ∧ y1 ≤ 255))) ∧ m = (1 : Int).toNat
set_option maxRecDepth 8000 in
theorem ct_Tape_takeSign_f125c {I : fH} {x1 : Int} (h0 : fB bsJ I) (ha1 : (0 ≤ x1 ∧ x1 ≤ 255)) : fC ρ base n F xTc vwCl xTys D dA la gJ (fbz bsJ znJ (fKc wz_dd461) I) xm_126 [.inr (.inr (some 699)), .inl x1] I (fun _ r => ∃ z, r = some (.inl z) ∧ (0 ≤ z ∧ z ≤ 1)) := by
  have hW : fzs wz_dd461 (fKc wz_dd461) := fKc_ok _
  refine f_meth (rb := rbJ) (J := [(24, jc_Tape_takeSign_f125c_24), (98, jc_Tape_takeSign_f125c_98)]) 3 400 xG xin_126 x6_126 okJ (fB_self h0) ?_ ?_
  · refine List.forall_mem_cons.mpr ⟨?_, List.forall_mem_cons.mpr ⟨?_, fun q h => absurd h List.not_mem_nil⟩⟩
    · rintro m _ _ I1 hB1 ⟨rfl, rfl, hb, hm⟩
      refine And.intro (⟨by omega, by omega⟩) ?_
      exact ⟨_, rfl, by omega⟩
    · rintro m _ _ I1 hB1 ⟨y1, rfl, rfl, hb, hm⟩
      refine And.intro ⟨rfl, by decide, by decide⟩ (And.intro rfl (And.intro (Or.inr ⟨rfl, by omega⟩) (fputf fb_699_10 (by decide +kernel) hW (by omega) ?_)))
      intro IhB1 ehB1 hB1
      have t2 := fup_at ehB1 10 (by omega)
      refine Exists.intro xm_125 (And.intro mi_125 (And.intro ⟨rfl, rfl, rfl, rfl⟩ (And.intro rfl ?_)))
      refine fcall _ h0 (fzs_sub (by decide +kernel) hW) hB1 (ct_Tape_push_d8da9 (fBz h0 hB1) (by omega)) ?_
      rintro IhB4 _ hB4 fhB4 ⟨z3, rfl, hz3⟩
      have t5 := fhB4 699 10 (by decide +kernel)
      refine And.intro (⟨by omega, by omega⟩) ?_
      exact ⟨_, rfl, by omega⟩
  · have hB0 := fB_self (zn := znJ) (K := fKc wz_dd461) h0
    refine And.intro (by omega) (And.intro ?_ ?_)
    · intro c6
      refine Exists.intro xm_130 (And.intro mi_130 (And.intro ⟨rfl, rfl, rfl, rfl⟩ (And.intro True.intro ?_)))
      refine fcallp hB0 (ct_Tape_strengthOf_dd2b6 (fBz h0 hB0) (by omega)) ?_
      rintro _ ⟨z7, rfl, hz7⟩
      refine And.intro (by omega) (And.intro ?_ ?_)
      · intro c8
        refine Exists.intro xm_130 (And.intro mi_130 (And.intro ⟨rfl, rfl, rfl, rfl⟩ (And.intro True.intro ?_)))
        refine fcallp hB0 (ct_Tape_strengthOf_dd2b6 (fBz h0 hB0) (by omega)) ?_
        rintro _ ⟨z9, rfl, hz9⟩
        refine And.intro (by omega) (And.intro ?_ ?_)
        · intro c10
          refine And.intro (by omega) (And.intro ?_ ?_)
          · intro c11
            refine Exists.intro xm_128 (And.intro mi_128 (And.intro ⟨rfl, rfl, rfl, rfl⟩ (And.intro rfl ?_)))
            refine fcall _ h0 (fzs_sub (by decide +kernel) hW) hB0 (ct_Tape_settle_fab00 (fBz h0 hB0) (by omega)) ?_
            rintro IhB13 _ hB13 fhB13 rfl
            refine And.intro (by omega) (And.intro ?_ ?_)
            · intro c14
              exact fcutJ (I := IhB13) (j := jc_Tape_takeSign_f125c_98) (lv' := [(0, .inr (.inr (some 699))), (1, .inl _)]) (And.intro rfl (And.intro rfl True.intro)) ⟨_, rfl, rfl, by omega, rfl⟩ (by omega)
            · intro c15
              refine And.intro ⟨rfl, by decide, by decide⟩ (fgetf fb_699_7 h0 hB13 ?_)
              intro z16 lz16 uz16 qz16
              refine And.intro (by omega) (And.intro ?_ ?_)
              · intro c17
                exact fcutJ (I := IhB13) (j := jc_Tape_takeSign_f125c_98) (lv' := [(0, .inr (.inr (some 699))), (1, .inl _)]) (And.intro rfl (And.intro rfl True.intro)) ⟨_, rfl, rfl, by omega, rfl⟩ (by omega)
              · intro c18
                refine And.intro ⟨rfl, by decide, by decide⟩ ?_
                refine And.intro ⟨rfl, by decide, by decide⟩ (fgetf fb_699_7 h0 hB13 ?_)
                intro z19 lz19 uz19 qz19
                refine fload rL_702_702_0_95_1_0 h0 hB13 (by omega) ?_
                intro z20 lz20 uz20 qz20
                refine Exists.intro xm_130 (And.intro mi_130 (And.intro ⟨rfl, rfl, rfl, rfl⟩ (And.intro True.intro ?_)))
                refine fcallp hB13 (ct_Tape_strengthOf_dd2b6 (fBz h0 hB13) (by omega)) ?_
                rintro _ ⟨z21, rfl, hz21⟩
                refine And.intro (by omega) (And.intro ?_ ?_)
                · intro c22
                  exact fcutJ (I := IhB13) (j := jc_Tape_takeSign_f125c_98) (lv' := [(0, .inr (.inr (some 699))), (1, .inl _)]) (And.intro rfl (And.intro rfl True.intro)) ⟨_, rfl, rfl, by omega, rfl⟩ (by omega)
                · intro c23
                  refine And.intro (⟨by omega, by omega⟩) ?_
                  exact ⟨_, rfl, by omega⟩
          · intro c24
            refine Exists.intro xm_128 (And.intro mi_128 (And.intro ⟨rfl, rfl, rfl, rfl⟩ (And.intro rfl ?_)))
            refine fcall _ h0 (fzs_sub (by decide +kernel) hW) hB0 (ct_Tape_settle_fab00 (fBz h0 hB0) (by omega)) ?_
            rintro IhB26 _ hB26 fhB26 rfl
            refine And.intro (by omega) (And.intro ?_ ?_)
            · intro c27
              exact fcutJ (I := IhB26) (j := jc_Tape_takeSign_f125c_98) (lv' := [(0, .inr (.inr (some 699))), (1, .inl _)]) (And.intro rfl (And.intro rfl True.intro)) ⟨_, rfl, rfl, by omega, rfl⟩ (by omega)
            · intro c28
              refine And.intro ⟨rfl, by decide, by decide⟩ (fgetf fb_699_7 h0 hB26 ?_)
              intro z29 lz29 uz29 qz29
              refine And.intro (by omega) (And.intro ?_ ?_)
              · intro c30
                exact fcutJ (I := IhB26) (j := jc_Tape_takeSign_f125c_98) (lv' := [(0, .inr (.inr (some 699))), (1, .inl _)]) (And.intro rfl (And.intro rfl True.intro)) ⟨_, rfl, rfl, by omega, rfl⟩ (by omega)
              · intro c31
                refine And.intro ⟨rfl, by decide, by decide⟩ ?_
                refine And.intro ⟨rfl, by decide, by decide⟩ (fgetf fb_699_7 h0 hB26 ?_)
                intro z32 lz32 uz32 qz32
                refine fload rL_702_702_0_95_1_0 h0 hB26 (by omega) ?_
                intro z33 lz33 uz33 qz33
                refine Exists.intro xm_130 (And.intro mi_130 (And.intro ⟨rfl, rfl, rfl, rfl⟩ (And.intro True.intro ?_)))
                refine fcallp hB26 (ct_Tape_strengthOf_dd2b6 (fBz h0 hB26) (by omega)) ?_
                rintro _ ⟨z34, rfl, hz34⟩
                refine And.intro (by omega) (And.intro ?_ ?_)
                · intro c35
                  exact fcutJ (I := IhB26) (j := jc_Tape_takeSign_f125c_98) (lv' := [(0, .inr (.inr (some 699))), (1, .inl _)]) (And.intro rfl (And.intro rfl True.intro)) ⟨_, rfl, rfl, by omega, rfl⟩ (by omega)
                · intro c36
                  refine And.intro (⟨by omega, by omega⟩) ?_
                  exact ⟨_, rfl, by omega⟩
        · intro c37
          refine And.intro (by omega) (And.intro ?_ ?_)
          · intro c38
            refine Exists.intro xm_128 (And.intro mi_128 (And.intro ⟨rfl, rfl, rfl, rfl⟩ (And.intro rfl ?_)))
            refine fcall _ h0 (fzs_sub (by decide +kernel) hW) hB0 (ct_Tape_settle_fab00 (fBz h0 hB0) (by omega)) ?_
            rintro IhB40 _ hB40 fhB40 rfl
            refine And.intro (by omega) (And.intro ?_ ?_)
            · intro c41
              exact fcutJ (I := IhB40) (j := jc_Tape_takeSign_f125c_98) (lv' := [(0, .inr (.inr (some 699))), (1, .inl _)]) (And.intro rfl (And.intro rfl True.intro)) ⟨_, rfl, rfl, by omega, rfl⟩ (by omega)
            · intro c42
              refine And.intro ⟨rfl, by decide, by decide⟩ (fgetf fb_699_7 h0 hB40 ?_)
              intro z43 lz43 uz43 qz43
              refine And.intro (by omega) (And.intro ?_ ?_)
              · intro c44
                exact fcutJ (I := IhB40) (j := jc_Tape_takeSign_f125c_98) (lv' := [(0, .inr (.inr (some 699))), (1, .inl _)]) (And.intro rfl (And.intro rfl True.intro)) ⟨_, rfl, rfl, by omega, rfl⟩ (by omega)
              · intro c45
                refine And.intro ⟨rfl, by decide, by decide⟩ ?_
                refine And.intro ⟨rfl, by decide, by decide⟩ (fgetf fb_699_7 h0 hB40 ?_)
                intro z46 lz46 uz46 qz46
                refine fload rL_702_702_0_95_1_0 h0 hB40 (by omega) ?_
                intro z47 lz47 uz47 qz47
                refine Exists.intro xm_130 (And.intro mi_130 (And.intro ⟨rfl, rfl, rfl, rfl⟩ (And.intro True.intro ?_)))
                refine fcallp hB40 (ct_Tape_strengthOf_dd2b6 (fBz h0 hB40) (by omega)) ?_
                rintro _ ⟨z48, rfl, hz48⟩
                refine And.intro (by omega) (And.intro ?_ ?_)
                · intro c49
                  exact fcutJ (I := IhB40) (j := jc_Tape_takeSign_f125c_98) (lv' := [(0, .inr (.inr (some 699))), (1, .inl _)]) (And.intro rfl (And.intro rfl True.intro)) ⟨_, rfl, rfl, by omega, rfl⟩ (by omega)
                · intro c50
                  refine And.intro (⟨by omega, by omega⟩) ?_
                  exact ⟨_, rfl, by omega⟩
          · intro c51
            refine Exists.intro xm_128 (And.intro mi_128 (And.intro ⟨rfl, rfl, rfl, rfl⟩ (And.intro rfl ?_)))
            refine fcall _ h0 (fzs_sub (by decide +kernel) hW) hB0 (ct_Tape_settle_fab00 (fBz h0 hB0) (by omega)) ?_
            rintro IhB53 _ hB53 fhB53 rfl
            refine And.intro (by omega) (And.intro ?_ ?_)
            · intro c54
              exact fcutJ (I := IhB53) (j := jc_Tape_takeSign_f125c_98) (lv' := [(0, .inr (.inr (some 699))), (1, .inl _)]) (And.intro rfl (And.intro rfl True.intro)) ⟨_, rfl, rfl, by omega, rfl⟩ (by omega)
            · intro c55
              refine And.intro ⟨rfl, by decide, by decide⟩ (fgetf fb_699_7 h0 hB53 ?_)
              intro z56 lz56 uz56 qz56
              refine And.intro (by omega) (And.intro ?_ ?_)
              · intro c57
                exact fcutJ (I := IhB53) (j := jc_Tape_takeSign_f125c_98) (lv' := [(0, .inr (.inr (some 699))), (1, .inl _)]) (And.intro rfl (And.intro rfl True.intro)) ⟨_, rfl, rfl, by omega, rfl⟩ (by omega)
              · intro c58
                refine And.intro ⟨rfl, by decide, by decide⟩ ?_
                refine And.intro ⟨rfl, by decide, by decide⟩ (fgetf fb_699_7 h0 hB53 ?_)
                intro z59 lz59 uz59 qz59
                refine fload rL_702_702_0_95_1_0 h0 hB53 (by omega) ?_
                intro z60 lz60 uz60 qz60
                refine Exists.intro xm_130 (And.intro mi_130 (And.intro ⟨rfl, rfl, rfl, rfl⟩ (And.intro True.intro ?_)))
                refine fcallp hB53 (ct_Tape_strengthOf_dd2b6 (fBz h0 hB53) (by omega)) ?_
                rintro _ ⟨z61, rfl, hz61⟩
                refine And.intro (by omega) (And.intro ?_ ?_)
                · intro c62
                  exact fcutJ (I := IhB53) (j := jc_Tape_takeSign_f125c_98) (lv' := [(0, .inr (.inr (some 699))), (1, .inl _)]) (And.intro rfl (And.intro rfl True.intro)) ⟨_, rfl, rfl, by omega, rfl⟩ (by omega)
                · intro c63
                  refine And.intro (⟨by omega, by omega⟩) ?_
                  exact ⟨_, rfl, by omega⟩
      · intro c64
        refine And.intro (⟨by omega, by omega⟩) ?_
        exact ⟨_, rfl, by omega⟩
    · intro c65
      refine And.intro ⟨rfl, by decide, by decide⟩ (fgetf fb_699_8 h0 hB0 ?_)
      intro z66 lz66 uz66 qz66
      refine And.intro (by omega) (And.intro ?_ ?_)
      · intro c67
        exact fcutJ (I := I) (j := jc_Tape_takeSign_f125c_24) (lv' := []) (True.intro) ⟨rfl, rfl, by omega, rfl⟩ (by omega)
      · intro c68
        refine Exists.intro xm_127 (And.intro mi_127 (And.intro ⟨rfl, rfl, rfl, rfl⟩ (And.intro rfl ?_)))
        refine fcall _ h0 (fzs_sub (by decide +kernel) hW) hB0 (ct_Tape_close_9696d (fBz h0 hB0)) ?_
        rintro IhB70 _ hB70 fhB70 ⟨z69, rfl, hz69⟩
        refine And.intro (by omega) (And.intro ?_ ?_)
        · intro c71
          exact fcutJ (I := IhB70) (j := jc_Tape_takeSign_f125c_24) (lv' := []) (True.intro) ⟨rfl, rfl, by omega, rfl⟩ (by omega)
        · intro c72
          refine And.intro (⟨by omega, by omega⟩) ?_
          exact ⟨_, rfl, by omega⟩
theorem ct_Tape_behindBlanks_aea90 {I : fH} {x1 : Int} (h0 : fB bsJ I) (ha1 : (0 ≤ x1 ∧ x1 ≤ 96)) : fC ρ base n F xTc vwCl xTys D dA la gJ (fbz bsJ znJ (fKc []) I) xm_113 [.inr (.inr (some 699)), .inl x1] I (fun _ r => ∃ z, r = some (.inl z) ∧ (0 ≤ z ∧ z ≤ 96)) := sorry
theorem ct_Tape_isLetter_45e0a {I : fH} {x0 : Int} (h0 : fB bsJ I) (ha0 : (0 ≤ x0 ∧ x0 ≤ 255)) : fC ρ base n F xTc vwCl xTys D dA la gJ (fbz bsJ znJ (fKc []) I) xm_115 [.inl x0] I (fun _ r => ∃ z, r = some (.inl z) ∧ ((z = 1 ∧ 97 ≤ x0 ∧ x0 ≤ 122) ∨ z = 0)) := sorry
theorem ct_Tape_behindWord_677ba {I : fH} {x1 : Int} (h0 : fB bsJ I) (ha1 : (0 ≤ x1 ∧ x1 ≤ 96)) : fC ρ base n F xTc vwCl xTys D dA la gJ (fbz bsJ znJ (fKc []) I) xm_114 [.inr (.inr (some 699)), .inl x1] I (fun _ r => ∃ z, r = some (.inl z) ∧ (0 ≤ z ∧ z ≤ 96)) := sorry
theorem ct_Tape_takePart_5edc5 {I : fH} {x1 : Int} {x2 : Int} (h0 : fB bsJ I) (ha1 : 0 ≤ x1 ∧ x1 ≤ 95) (ha2 : 0 ≤ x2 ∧ x2 ≤ 96) : fC ρ base n F xTc vwCl xTys D dA la gJ (fbz bsJ znJ (fKc wz_84be8) I) xm_120 [.inr (.inr (some 699)), .inl x1, .inl x2] I (fun _ r => ∃ z, r = some (.inl z) ∧ (0 ≤ z ∧ z ≤ 1)) := sorry
abbrev jc_Tape_compile_812f7_71 : Nat → fL → List fV → fH → Prop := fun m lv st I => ∃ (y1 : Int) (y2 : Int) (y3 : Int), lv = [(0, .inr (.inr (some 699))), (1, .inl y1), (2, .inl y2), (3, .inl y3)] ∧ st = [] ∧ (((0 ≤ y1 ∧ y1 ≤ 96) ∧ (0 ≤ y2 ∧ y2 ≤ 96) ∧ (0 ≤ y3 ∧ y3 ≤ 96) ∧ ((-1000000004) ≤ I 699 2 ∧ I 699 2 ≤ 5))) ∧ m = (6 + 3 * (96 - y3) : Int).toNat
abbrev jc_Tape_compile_812f7_106 : Nat → fL → List fV → fH → Prop := fun m lv st I => ∃ (y1 : Int) (y2 : Int) (y3 : Int), lv = [(0, .inr (.inr (some 699))), (1, .inl y1), (2, .inl y2), (3, .inl y3)] ∧ st = [] ∧ (((0 ≤ y1 ∧ y1 ≤ 95) ∧ (0 ≤ y2 ∧ y2 ≤ 96) ∧ (0 ≤ y3 ∧ y3 ≤ 95) ∧ (1 ≤ I 699 1 ∧ I 699 1 ≤ 96) ∧ ((-1000000004) ≤ I 699 2 ∧ I 699 2 ≤ 5))) ∧ m = (5 + 3 * (96 - y3) : Int).toNat
abbrev jc_Tape_compile_812f7_154 : Nat → fL → List fV → fH → Prop := fun m lv st I => ∃ (y1 : Int), lv = [(1, .inl y1)] ∧ st = [] ∧ (((0 ≤ y1 ∧ y1 ≤ 95) ∧ (1 ≤ I 699 1 ∧ I 699 1 ≤ 96) ∧ ((-1000000004) ≤ I 699 2 ∧ I 699 2 ≤ 5))) ∧ m = (3 : Int).toNat
abbrev jc_Tape_compile_812f7_156 : Nat → fL → List fV → fH → Prop := fun m lv st I => ∃ (y2 : Int) (y3 : Int) (y5 : Int), lv = [(0, .inr (.inr (some 699))), (2, .inl y2), (3, .inl y3), (5, .inl y5)] ∧ st = [] ∧ (((0 ≤ y2 ∧ y2 ≤ 96) ∧ (0 ≤ y3 ∧ y3 ≤ 95) ∧ (0 ≤ y5 ∧ y5 ≤ 96) ∧ (1 ≤ I 699 1 ∧ I 699 1 ≤ 96) ∧ ((-1000000004) ≤ I 699 2 ∧ I 699 2 ≤ 5))) ∧ m = (4 + 3 * (96 - y3) : Int).toNat
abbrev jc_Tape_compile_812f7_169 : Nat → fL → List fV → fH → Prop := fun m lv st I => lv = [(0, .inr (.inr (some 699)))] ∧ st = [] ∧ ((((-1000000004) ≤ I 699 2 ∧ I 699 2 ≤ 5))) ∧ m = (2 : Int).toNat
abbrev jc_Tape_compile_812f7_183 : Nat → fL → List fV → fH → Prop := fun m lv st I => lv = [(0, .inr (.inr (some 699)))] ∧ st = [] ∧ ((((-1000000004) ≤ I 699 2 ∧ I 699 2 ≤ 5))) ∧ m = (1 : Int).toNat
set_option maxRecDepth 8000 in
theorem ct_Tape_compile_812f7 {I : fH}  (h0 : fB bsJ I)  : fC ρ base n F xTc vwCl xTys D dA la gJ (fbz bsJ znJ (fKc wz_4a62a) I) xm_112 [.inr (.inr (some 699))] I (fun _ r => ∃ z, r = some (.inl z) ∧ ((0 ≤ z ∧ z ≤ 96) ∨ z = (-1000000005))) := by
  have hW : fzs wz_4a62a (fKc wz_4a62a) := fKc_ok _
  refine f_meth (rb := rbJ) (J := [(71, jc_Tape_compile_812f7_71), (106, jc_Tape_compile_812f7_106), (154, jc_Tape_compile_812f7_154), (156, jc_Tape_compile_812f7_156), (169, jc_Tape_compile_812f7_169), (183, jc_Tape_compile_812f7_183)]) 295 400 xG xin_112 x6_112 okJ (fB_self h0) ?_ ?_
  · refine List.forall_mem_cons.mpr ⟨?_, List.forall_mem_cons.mpr ⟨?_, List.forall_mem_cons.mpr ⟨?_, List.forall_mem_cons.mpr ⟨?_, List.forall_mem_cons.mpr ⟨?_, List.forall_mem_cons.mpr ⟨?_, fun q h => absurd h List.not_mem_nil⟩⟩⟩⟩⟩⟩
    · rintro m _ _ I1 hB1 ⟨y1, y2, y3, rfl, rfl, hb, hm⟩
      refine And.intro (by omega) (And.intro ?_ ?_)
      · intro c1
        exact fcutJ (I := I1) (j := jc_Tape_compile_812f7_169) (lv' := [(0, .inr (.inr (some 699)))]) (And.intro rfl True.intro) ⟨rfl, rfl, by omega, rfl⟩ (by omega)
      · intro c2
        refine And.intro ⟨rfl, by decide, by decide⟩ (fgetf fb_699_1 h0 hB1 ?_)
        intro z3 lz3 uz3 qz3
        refine And.intro (by omega) (And.intro ?_ ?_)
        · intro c4
          exact fcutJ (I := I1) (j := jc_Tape_compile_812f7_169) (lv' := [(0, .inr (.inr (some 699)))]) (And.intro rfl True.intro) ⟨rfl, rfl, by omega, rfl⟩ (by omega)
        · intro c5
          refine And.intro (by omega) (And.intro ?_ ?_)
          · intro c6
            exact fcutJ (I := I1) (j := jc_Tape_compile_812f7_106) (lv' := [(0, .inr (.inr (some 699))), (1, .inl _), (2, .inl _), (3, .inl _)]) (And.intro rfl (And.intro rfl (And.intro rfl (And.intro rfl True.intro)))) ⟨_, _, _, rfl, rfl, by omega, rfl⟩ (by omega)
          · intro c7
            refine And.intro ⟨rfl, by decide, by decide⟩ ?_
            refine fload rL_700_700_0_95_1_0 h0 hB1 (by omega) ?_
            intro z8 lz8 uz8 qz8
            refine Exists.intro xm_116 (And.intro mi_116 (And.intro ⟨rfl, rfl, rfl, rfl⟩ (And.intro True.intro ?_)))
            refine fcallp hB1 (ct_Tape_isDigit_a19bc (fBz h0 hB1) (by omega)) ?_
            rintro _ ⟨z9, rfl, hz9⟩
            refine And.intro (by omega) (And.intro ?_ ?_)
            · intro c10
              exact fcutJ (I := I1) (j := jc_Tape_compile_812f7_106) (lv' := [(0, .inr (.inr (some 699))), (1, .inl _), (2, .inl _), (3, .inl _)]) (And.intro rfl (And.intro rfl (And.intro rfl (And.intro rfl True.intro)))) ⟨_, _, _, rfl, rfl, by omega, rfl⟩ (by omega)
            · intro c11
              refine Exists.intro xm_114 (And.intro mi_114 (And.intro ⟨rfl, rfl, rfl, rfl⟩ (And.intro rfl ?_)))
              refine fcallp hB1 (ct_Tape_behindWord_677ba (fBz h0 hB1) (by omega)) ?_
              rintro _ ⟨z12, rfl, hz12⟩
              refine And.intro (by omega) (And.intro ?_ ?_)
              · intro c13
                exact fcutJ (I := I1) (j := jc_Tape_compile_812f7_154) (lv' := [(1, .inl _)]) (And.intro rfl True.intro) ⟨_, rfl, rfl, by omega, rfl⟩ (by omega)
              · intro c14
                refine And.intro ⟨rfl, by decide, by decide⟩ (fgetf fb_699_10 h0 hB1 ?_)
                intro z15 lz15 uz15 qz15
                refine And.intro (by omega) (And.intro ?_ ?_)
                · intro c16
                  refine And.intro ⟨rfl, by decide, by decide⟩ ?_
                  refine fload rL_700_700_0_95_1_0 h0 hB1 (by omega) ?_
                  intro z17 lz17 uz17 qz17
                  refine Exists.intro xm_126 (And.intro mi_126 (And.intro ⟨rfl, rfl, rfl, rfl⟩ (And.intro rfl ?_)))
                  refine fcall _ h0 (fzs_sub (by decide +kernel) hW) hB1 (ct_Tape_takeSign_f125c (fBz h0 hB1) (by omega)) ?_
                  rintro IhB19 _ hB19 fhB19 ⟨z18, rfl, hz18⟩
                  have t20 := fhB19 699 1 (by decide +kernel)
                  have t21 := fhB19 699 2 (by decide +kernel)
                  refine And.intro (by omega) (And.intro ?_ ?_)
                  · intro c22
                    exact fcutJ (I := IhB19) (j := jc_Tape_compile_812f7_156) (lv' := [(0, .inr (.inr (some 699))), (2, .inl _), (3, .inl _), (5, .inl _)]) (And.intro rfl (And.intro rfl (And.intro rfl (And.intro rfl True.intro)))) ⟨_, _, _, rfl, rfl, by omega, rfl⟩ (by omega)
                  · intro c23
                    exact fcutJ (I := IhB19) (j := jc_Tape_compile_812f7_154) (lv' := [(1, .inl _)]) (And.intro rfl True.intro) ⟨_, rfl, rfl, by omega, rfl⟩ (by omega)
                · intro c24
                  refine Exists.intro xm_120 (And.intro mi_120 (And.intro ⟨rfl, rfl, rfl, rfl⟩ (And.intro rfl ?_)))
                  refine fcall _ h0 (fzs_sub (by decide +kernel) hW) hB1 (ct_Tape_takePart_5edc5 (fBz h0 hB1) (by omega) (by omega)) ?_
                  rintro IhB26 _ hB26 fhB26 ⟨z25, rfl, hz25⟩
                  have t27 := fhB26 699 1 (by decide +kernel)
                  have t28 := fhB26 699 2 (by decide +kernel)
                  refine And.intro (by omega) (And.intro ?_ ?_)
                  · intro c29
                    exact fcutJ (I := IhB26) (j := jc_Tape_compile_812f7_154) (lv' := [(1, .inl _)]) (And.intro rfl True.intro) ⟨_, rfl, rfl, by omega, rfl⟩ (by omega)
                  · intro c30
                    exact fcutJ (I := IhB26) (j := jc_Tape_compile_812f7_156) (lv' := [(0, .inr (.inr (some 699))), (2, .inl _), (3, .inl _), (5, .inl _)]) (And.intro rfl (And.intro rfl (And.intro rfl (And.intro rfl True.intro)))) ⟨_, _, _, rfl, rfl, by omega, rfl⟩ (by omega)
    · rintro m _ _ I1 hB1 ⟨y1, y2, y3, rfl, rfl, hb, hm⟩
      refine Exists.intro xm_114 (And.intro mi_114 (And.intro ⟨rfl, rfl, rfl, rfl⟩ (And.intro rfl ?_)))
      refine fcallp hB1 (ct_Tape_behindWord_677ba (fBz h0 hB1) (by omega)) ?_
      rintro _ ⟨z31, rfl, hz31⟩
      refine And.intro (by omega) (And.intro ?_ ?_)
      · intro c32
        exact fcutJ (I := I1) (j := jc_Tape_compile_812f7_154) (lv' := [(1, .inl _)]) (And.intro rfl True.intro) ⟨_, rfl, rfl, by omega, rfl⟩ (by omega)
      · intro c33
        refine And.intro ⟨rfl, by decide, by decide⟩ (fgetf fb_699_10 h0 hB1 ?_)
        intro z34 lz34 uz34 qz34
        refine And.intro (by omega) (And.intro ?_ ?_)
        · intro c35
          refine And.intro ⟨rfl, by decide, by decide⟩ ?_
          refine fload rL_700_700_0_95_1_0 h0 hB1 (by omega) ?_
          intro z36 lz36 uz36 qz36
          refine Exists.intro xm_126 (And.intro mi_126 (And.intro ⟨rfl, rfl, rfl, rfl⟩ (And.intro rfl ?_)))
          refine fcall _ h0 (fzs_sub (by decide +kernel) hW) hB1 (ct_Tape_takeSign_f125c (fBz h0 hB1) (by omega)) ?_
          rintro IhB38 _ hB38 fhB38 ⟨z37, rfl, hz37⟩
          have t39 := fhB38 699 1 (by decide +kernel)
          have t40 := fhB38 699 2 (by decide +kernel)
          refine And.intro (by omega) (And.intro ?_ ?_)
          · intro c41
            exact fcutJ (I := IhB38) (j := jc_Tape_compile_812f7_156) (lv' := [(0, .inr (.inr (some 699))), (2, .inl _), (3, .inl _), (5, .inl _)]) (And.intro rfl (And.intro rfl (And.intro rfl (And.intro rfl True.intro)))) ⟨_, _, _, rfl, rfl, by omega, rfl⟩ (by omega)
          · intro c42
            exact fcutJ (I := IhB38) (j := jc_Tape_compile_812f7_154) (lv' := [(1, .inl _)]) (And.intro rfl True.intro) ⟨_, rfl, rfl, by omega, rfl⟩ (by omega)
        · intro c43
          refine Exists.intro xm_120 (And.intro mi_120 (And.intro ⟨rfl, rfl, rfl, rfl⟩ (And.intro rfl ?_)))
          refine fcall _ h0 (fzs_sub (by decide +kernel) hW) hB1 (ct_Tape_takePart_5edc5 (fBz h0 hB1) (by omega) (by omega)) ?_
          rintro IhB45 _ hB45 fhB45 ⟨z44, rfl, hz44⟩
          have t46 := fhB45 699 1 (by decide +kernel)
          have t47 := fhB45 699 2 (by decide +kernel)
          refine And.intro (by omega) (And.intro ?_ ?_)
          · intro c48
            exact fcutJ (I := IhB45) (j := jc_Tape_compile_812f7_154) (lv' := [(1, .inl _)]) (And.intro rfl True.intro) ⟨_, rfl, rfl, by omega, rfl⟩ (by omega)
          · intro c49
            exact fcutJ (I := IhB45) (j := jc_Tape_compile_812f7_156) (lv' := [(0, .inr (.inr (some 699))), (2, .inl _), (3, .inl _), (5, .inl _)]) (And.intro rfl (And.intro rfl (And.intro rfl (And.intro rfl True.intro)))) ⟨_, _, _, rfl, rfl, by omega, rfl⟩ (by omega)
    · rintro m _ _ I1 hB1 ⟨y1, rfl, rfl, hb, hm⟩
      refine And.intro (True.intro) ?_
      exact ⟨_, rfl, by omega⟩
    · rintro m _ _ I1 hB1 ⟨y2, y3, y5, rfl, rfl, hb, hm⟩
      refine Exists.intro xm_113 (And.intro mi_113 (And.intro ⟨rfl, rfl, rfl, rfl⟩ (And.intro rfl ?_)))
      refine fcallp hB1 (ct_Tape_behindBlanks_aea90 (fBz h0 hB1) (by omega)) ?_
      rintro _ ⟨z50, rfl, hz50⟩
      exact fcutJ (I := I1) (j := jc_Tape_compile_812f7_71) (lv' := [(0, .inr (.inr (some 699))), (1, .inl _), (2, .inl _), (3, .inl _)]) (And.intro rfl (And.intro rfl (And.intro rfl (And.intro rfl True.intro)))) ⟨_, _, _, rfl, rfl, by omega, rfl⟩ (by omega)
    · rintro m _ _ I1 hB1 ⟨rfl, rfl, hb, hm⟩
      refine And.intro ⟨rfl, by decide, by decide⟩ (fgetf fb_699_10 h0 hB1 ?_)
      intro z51 lz51 uz51 qz51
      refine And.intro (by omega) (And.intro ?_ ?_)
      · intro c52
        exact fcutJ (I := I1) (j := jc_Tape_compile_812f7_183) (lv' := [(0, .inr (.inr (some 699)))]) (And.intro rfl True.intro) ⟨rfl, rfl, by omega, rfl⟩ (by omega)
      · intro c53
        refine And.intro ⟨rfl, by decide, by decide⟩ (fgetf fb_699_8 h0 hB1 ?_)
        intro z54 lz54 uz54 qz54
        refine And.intro (by omega) (And.intro ?_ ?_)
        · intro c55
          refine Exists.intro xm_128 (And.intro mi_128 (And.intro ⟨rfl, rfl, rfl, rfl⟩ (And.intro rfl ?_)))
          refine fcall _ h0 (fzs_sub (by decide +kernel) hW) hB1 (ct_Tape_settle_fab00 (fBz h0 hB1) (by omega)) ?_
          rintro IhB57 _ hB57 fhB57 rfl
          have t58 := fhB57 699 2 (by decide +kernel)
          have t59 := fhB57 699 8 (by decide +kernel)
          have t60 := fhB57 699 10 (by decide +kernel)
          refine And.intro (True.intro) ?_
          exact ⟨_, rfl, by omega⟩
        · intro c61
          exact fcutJ (I := I1) (j := jc_Tape_compile_812f7_183) (lv' := [(0, .inr (.inr (some 699)))]) (And.intro rfl True.intro) ⟨rfl, rfl, by omega, rfl⟩ (by omega)
    · rintro m _ _ I1 hB1 ⟨rfl, rfl, hb, hm⟩
      refine And.intro ⟨rfl, by decide, by decide⟩ (fgetf fb_699_1 h0 hB1 ?_)
      intro z62 lz62 uz62 qz62
      refine And.intro (True.intro) ?_
      exact ⟨_, rfl, by omega⟩
  · have hB0 := fB_self (zn := znJ) (K := fKc wz_4a62a) h0
    refine And.intro ⟨rfl, by decide, by decide⟩ (And.intro rfl (And.intro (Or.inl rfl) (fputf fb_699_4 (by decide +kernel) hW (by omega) ?_)))
    intro IhB63 ehB63 hB63
    have t64 := fup_at ehB63 4 (by omega)
    refine And.intro ⟨rfl, by decide, by decide⟩ (And.intro rfl (And.intro (Or.inl rfl) (fputf fb_699_5 (by decide +kernel) hW (by omega) ?_)))
    intro IhB65 ehB65 hB65
    have t66 : IhB65 699 4 = IhB63 699 4 := (congrFun (congrFun ehB65 699) 4).trans (fup_ne (by omega))
    have t67 := fup_at ehB65 5 (by omega)
    refine And.intro ⟨rfl, by decide, by decide⟩ (And.intro rfl (And.intro (Or.inl rfl) (fputf fb_699_7 (by decide +kernel) hW (by omega) ?_)))
    intro IhB68 ehB68 hB68
    have t69 : IhB68 699 4 = IhB65 699 4 := (congrFun (congrFun ehB68 699) 4).trans (fup_ne (by omega))
    have t70 : IhB68 699 5 = IhB65 699 5 := (congrFun (congrFun ehB68 699) 5).trans (fup_ne (by omega))
    have t71 := fup_at ehB68 7 (by omega)
    refine And.intro ⟨rfl, by decide, by decide⟩ (And.intro rfl (And.intro (Or.inl rfl) (fputf fb_699_8 (by decide +kernel) hW (by omega) ?_)))
    intro IhB72 ehB72 hB72
    have t73 : IhB72 699 4 = IhB68 699 4 := (congrFun (congrFun ehB72 699) 4).trans (fup_ne (by omega))
    have t74 : IhB72 699 5 = IhB68 699 5 := (congrFun (congrFun ehB72 699) 5).trans (fup_ne (by omega))
    have t75 : IhB72 699 7 = IhB68 699 7 := (congrFun (congrFun ehB72 699) 7).trans (fup_ne (by omega))
    have t76 := fup_at ehB72 8 (by omega)
    refine And.intro ⟨rfl, by decide, by decide⟩ (And.intro rfl (And.intro (Or.inl rfl) (fputf fb_699_9 (by decide +kernel) hW (by omega) ?_)))
    intro IhB77 ehB77 hB77
    have t78 : IhB77 699 4 = IhB72 699 4 := (congrFun (congrFun ehB77 699) 4).trans (fup_ne (by omega))
    have t79 : IhB77 699 5 = IhB72 699 5 := (congrFun (congrFun ehB77 699) 5).trans (fup_ne (by omega))
    have t80 : IhB77 699 7 = IhB72 699 7 := (congrFun (congrFun ehB77 699) 7).trans (fup_ne (by omega))
    have t81 : IhB77 699 8 = IhB72 699 8 := (congrFun (congrFun ehB77 699) 8).trans (fup_ne (by omega))
    have t82 := fup_at ehB77 9 (by omega)
    refine And.intro ⟨rfl, by decide, by decide⟩ (And.intro rfl (And.intro (Or.inr ⟨rfl, by omega⟩) (fputf fb_699_10 (by decide +kernel) hW (by omega) ?_)))
    intro IhB83 ehB83 hB83
    have t84 : IhB83 699 4 = IhB77 699 4 := (congrFun (congrFun ehB83 699) 4).trans (fup_ne (by omega))
    have t85 : IhB83 699 5 = IhB77 699 5 := (congrFun (congrFun ehB83 699) 5).trans (fup_ne (by omega))
    have t86 : IhB83 699 7 = IhB77 699 7 := (congrFun (congrFun ehB83 699) 7).trans (fup_ne (by omega))
    have t87 : IhB83 699 8 = IhB77 699 8 := (congrFun (congrFun ehB83 699) 8).trans (fup_ne (by omega))
    have t88 : IhB83 699 9 = IhB77 699 9 := (congrFun (congrFun ehB83 699) 9).trans (fup_ne (by omega))
    have t89 := fup_at ehB83 10 (by omega)
    refine Exists.intro xm_113 (And.intro mi_113 (And.intro ⟨rfl, rfl, rfl, rfl⟩ (And.intro rfl ?_)))
    refine fcallp hB83 (ct_Tape_behindBlanks_aea90 (fBz h0 hB83) (by omega)) ?_
    rintro _ ⟨z90, rfl, hz90⟩
    refine Exists.intro xm_114 (And.intro mi_114 (And.intro ⟨rfl, rfl, rfl, rfl⟩ (And.intro rfl ?_)))
    refine fcallp hB83 (ct_Tape_behindWord_677ba (fBz h0 hB83) (by omega)) ?_
    rintro _ ⟨z91, rfl, hz91⟩
    refine Exists.intro xm_117 (And.intro mi_117 (And.intro ⟨rfl, rfl, rfl, rfl⟩ (And.intro rfl ?_)))
    refine fcallp hB83 (ct_Tape_keyBetween_0cd50 (fBz h0 hB83) (by omega) (by omega)) ?_
    rintro _ ⟨z92, rfl, hz92⟩
    refine And.intro ⟨rfl, by decide, by decide⟩ (And.intro rfl (And.intro (Or.inl rfl) (fputf fb_699_2 (by decide +kernel) hW (by omega) ?_)))
    intro IhB93 ehB93 hB93
    have t94 := fup_at ehB93 2 (by omega)
    have t95 : IhB93 699 4 = IhB83 699 4 := (congrFun (congrFun ehB93 699) 4).trans (fup_ne (by omega))
    have t96 : IhB93 699 5 = IhB83 699 5 := (congrFun (congrFun ehB93 699) 5).trans (fup_ne (by omega))
    have t97 : IhB93 699 7 = IhB83 699 7 := (congrFun (congrFun ehB93 699) 7).trans (fup_ne (by omega))
    have t98 : IhB93 699 8 = IhB83 699 8 := (congrFun (congrFun ehB93 699) 8).trans (fup_ne (by omega))
    have t99 : IhB93 699 9 = IhB83 699 9 := (congrFun (congrFun ehB93 699) 9).trans (fup_ne (by omega))
    have t100 : IhB93 699 10 = IhB83 699 10 := (congrFun (congrFun ehB93 699) 10).trans (fup_ne (by omega))
    refine And.intro ⟨rfl, by decide, by decide⟩ (fgetf fb_699_2 h0 hB93 ?_)
    intro z101 lz101 uz101 qz101
    refine And.intro (by omega) (And.intro ?_ ?_)
    · intro c102
      refine Exists.intro xm_113 (And.intro mi_113 (And.intro ⟨rfl, rfl, rfl, rfl⟩ (And.intro rfl ?_)))
      refine fcallp hB93 (ct_Tape_behindBlanks_aea90 (fBz h0 hB93) (by omega)) ?_
      rintro _ ⟨z103, rfl, hz103⟩
      exact fcutJ (I := IhB93) (j := jc_Tape_compile_812f7_71) (lv' := [(0, .inr (.inr (some 699))), (1, .inl _), (2, .inl _), (3, .inl _)]) (And.intro rfl (And.intro rfl (And.intro rfl (And.intro rfl True.intro)))) ⟨_, _, _, rfl, rfl, by omega, rfl⟩ (by omega)
    · intro c104
      refine And.intro (True.intro) ?_
      exact ⟨_, rfl, by omega⟩
theorem ct_Charter_addText_b135c {I : fH}  (h0 : fB bsJ I)  : fC ρ base n F xTc vwCl xTys D dA la gJ (fbz bsJ znJ (fKc wz_5dd44) I) xm_131 [.inr (.inr (some 187)), .inr (.inr (some 699))] I (fun _ r => ∃ z, r = some (.inl z) ∧ ((0 ≤ z ∧ z ≤ 11) ∨ z = (-1000000003))) := sorry
set_option maxRecDepth 8000 in
theorem ct_X_text_8a0ca {I : fH}  (h0 : fB bsJ I)  : fC ρ base n F xTc vwCl xTys D dA la gJ (fbz bsJ znJ (fKc wz_8696f) I) xm_111 [.inr (.inr (some 0))] I (fun _ r => ∃ z, r = some (.inl z) ∧ (((-196) ≤ z ∧ z ≤ 11) ∨ z = (-1000000003))) := by
  have hW : fzs wz_8696f (fKc wz_8696f) := fKc_ok _
  refine f_meth (rb := rbJ) (J := []) 1 400 xG xin_111 x6_111 okJ (fB_self h0) ?_ ?_
  · exact fun q h => absurd h List.not_mem_nil
  · have hB0 := fB_self (zn := znJ) (K := fKc wz_8696f) h0
    refine And.intro ⟨rfl, by decide, by decide⟩ ?_
    refine Exists.intro xm_112 (And.intro mi_112 (And.intro ⟨rfl, rfl, rfl, rfl⟩ (And.intro rfl ?_)))
    refine fcall _ h0 (fzs_sub (by decide +kernel) hW) hB0 (ct_Tape_compile_812f7 (fBz h0 hB0)) ?_
    rintro IhB2 _ hB2 fhB2 ⟨z1, rfl, hz1⟩
    refine And.intro ⟨rfl, by decide, by decide⟩ ?_
    refine And.intro ⟨rfl, by decide, by decide⟩ (And.intro rfl (And.intro (Or.inl rfl) (fputf fb_699_1 (by decide +kernel) hW (by omega) ?_)))
    intro IhB3 ehB3 hB3
    have t4 := fup_at ehB3 1 (by omega)
    refine And.intro (by omega) (And.intro ?_ ?_)
    · intro c5
      refine And.intro ⟨rfl, by decide, by decide⟩ ?_
      refine And.intro ⟨rfl, by decide, by decide⟩ ?_
      refine Exists.intro xm_131 (And.intro mi_131 (And.intro ⟨rfl, rfl, rfl, rfl⟩ (And.intro rfl ?_)))
      refine fcall _ h0 (fzs_sub (by decide +kernel) hW) hB3 (ct_Charter_addText_b135c (fBz h0 hB3)) ?_
      rintro IhB7 _ hB7 fhB7 ⟨z6, rfl, hz6⟩
      have t8 := fhB7 699 1 (by decide +kernel)
      refine And.intro (True.intro) ?_
      exact ⟨_, rfl, by omega⟩
    · intro c9
      refine And.intro (True.intro) ?_
      exact ⟨_, rfl, by omega⟩
theorem ct_M_isLetter_13ae5 {I : fH} {x1 : Int} (h0 : fB bsJ I) (ha1 : (0 ≤ x1 ∧ x1 ≤ 96)) : fC ρ base n F xTc vwCl xTys D dA la gJ (fbz bsJ znJ (fKc []) I) xm_315 [.inr (.inr (some 740)), .inl x1] I (fun _ r => ∃ z, r = some (.inl z) ∧ (((z = 1 ∧ (-2147483648) ≤ x1 ∧ x1 ≤ 95) ∨ z = 0) ∧ ((z = 1 → x1 < I 740 8 ∧ 97 ≤ I 747 x1.toNat ∧ I 747 x1.toNat ≤ 122) ∧ (z = 0 → ¬ (x1 < I 740 8 ∧ 97 ≤ I 747 x1.toNat ∧ I 747 x1.toNat ≤ 122))))) := sorry
theorem ct_M_isDigit_7604c {I : fH} {x1 : Int} (h0 : fB bsJ I) (ha1 : (0 ≤ x1 ∧ x1 ≤ 96)) : fC ρ base n F xTc vwCl xTys D dA la gJ (fbz bsJ znJ (fKc []) I) xm_316 [.inr (.inr (some 740)), .inl x1] I (fun _ r => ∃ z, r = some (.inl z) ∧ (((z = 1 ∧ (-2147483648) ≤ x1 ∧ x1 ≤ 95) ∨ z = 0) ∧ ((z = 1 → x1 < I 740 8 ∧ 48 ≤ I 747 x1.toNat ∧ I 747 x1.toNat ≤ 57) ∧ (z = 0 → ¬ (x1 < I 740 8 ∧ 48 ≤ I 747 x1.toNat ∧ I 747 x1.toNat ≤ 57))))) := sorry
theorem ct_M_next_c8003 {I : fH}  (h0 : fB bsJ I) (hp0 : I 740 10 ≤ I 740 8) : fC ρ base n F xTc vwCl xTys D dA la gJ (fbz bsJ znJ (fKc wz_1c18d) I) xm_314 [.inr (.inr (some 740))] I (fun I' r => r = none ∧ (I 740 10 ≤ I' 740 9 ∧ I' 740 9 ≤ I' 740 10 ∧ I' 740 10 ≤ I' 740 8 ∧ (I' 740 11 = 0 ∨ I' 740 9 < I' 740 10))) := sorry
theorem ct_M_isSign_90da9 {I : fH} {x1 : Int} (h0 : fB bsJ I) (ha1 : (33 ≤ x1 ∧ x1 ≤ 124)) : fC ρ base n F xTc vwCl xTys D dA la gJ (fbz bsJ znJ (fKc []) I) xm_423 [.inr (.inr (some 740)), .inl x1] I (fun _ r => ∃ z, r = some (.inl z) ∧ ((0 ≤ z ∧ z ≤ 1) ∧ (z = 1 → I 740 11 = 3 ∧ I 740 13 = x1))) := sorry
theorem ct_M_step_2c704 {I : fH} {x1 : Int} {x2 : Int} (h0 : fB bsJ I) (ha1 : (0 ≤ x1 ∧ x1 ≤ 2)) (ha2 : ((-2147483648) ≤ x2 ∧ x2 ≤ 2147483647)) (hp0 : 0 ≤ I 740 16 ∧ I 740 16 ≤ 96) (hp1 : (1215 ≤ I 740 17 ∧ I 740 17 ≤ 3415 ∧ (I 740 17 - 1215) % 200 = 0) ∨ I 740 17 = 4700) : fC ρ base n F xTc vwCl xTys D dA la gJ (fbz bsJ znJ (fKc wz_6dafe) I) xm_421 [.inr (.inr (some 740)), .inl x1, .inl x2] I (fun I' r => r = none ∧ (I' 740 16 = I 740 16 + 1) ∧ (sPut I I' (I 740 17) (I 740 16) x1 x2)) := sorry
theorem ct_M_isName_49450 {I : fH} {x0 : Int} {x1 : Int} (h0 : fB bsJ I) (ha0 : ((-1) ≤ x0 ∧ x0 ≤ 5)) (ha1 : ((-2147483648) ≤ x1 ∧ x1 ≤ 2147483647)) : fC ρ base n F xTc vwCl xTys D dA la gJ (fbz bsJ znJ (fKc []) I) xm_422 [.inl x0, .inl x1] I (fun _ r => ∃ z, r = some (.inl z) ∧ ((0 ≤ z ∧ z ≤ 1) ∧ (z = 1 → 97 ≤ x1 ∧ x1 ≤ 121))) := sorry
theorem ct_M_part0_cc4b8 {I : fH} {x1 : Int} (h0 : fB bsJ I) (ha1 : ((-1) ≤ x1 ∧ x1 ≤ 5)) (hp0 : I 740 9 ≤ I 740 10 ∧ I 740 10 ≤ I 740 8 ∧ (I 740 11 = 0 ∨ I 740 9 < I 740 10)) (hp1 : 0 ≤ I 740 16 ∧ I 740 16 ≤ I 740 9) (hp2 : 16 ≤ I 740 14 + I 740 15) (hp3 : (1215 ≤ I 740 17 ∧ I 740 17 ≤ 3415 ∧ (I 740 17 - 1215) % 200 = 0) ∨ I 740 17 = 4700) : fC ρ base n F xTc vwCl xTys D dA la gJ (fbz bsJ znJ (fKc wz_2212a) I) xm_404 [.inr (.inr (some 740)), .inl x1] I (fun I' r => ∃ z, r = some (.inl z) ∧ ((0 ≤ z ∧ z ≤ 1) ∧ (I 740 9 ≤ I' 740 9 ∧ I' 740 9 ≤ I' 740 10 ∧ I' 740 10 ≤ I' 740 8 ∧ (I' 740 11 = 0 ∨ I' 740 9 < I' 740 10) ∧ (z = 1 → I 740 16 ≤ I' 740 16 ∧ I' 740 16 - I 740 16 ≤ I' 740 9 - I 740 9 ∧ I' 740 14 = I 740 14 ∧ I' 740 15 = I 740 15))) ∧ (sBe I I' (I 740 17) (I 740 16)) ∧ (z = 1 → sOne I' (I 740 17) (I 740 16) (I' 740 16))) := sorry
theorem ct_M_term_10b42 {I : fH} {x1 : Int} (h0 : fB bsJ I) (ha1 : ((-1) ≤ x1 ∧ x1 ≤ 5)) (hp0 : I 740 9 ≤ I 740 10 ∧ I 740 10 ≤ I 740 8 ∧ (I 740 11 = 0 ∨ I 740 9 < I 740 10)) (hp1 : 0 ≤ I 740 16 ∧ I 740 16 ≤ I 740 9) (hp2 : 16 ≤ I 740 14 + I 740 15) (hp3 : (1215 ≤ I 740 17 ∧ I 740 17 ≤ 3415 ∧ (I 740 17 - 1215) % 200 = 0) ∨ I 740 17 = 4700) : fC ρ base n F xTc vwCl xTys D dA la gJ (fbz bsJ znJ (fKc wz_2212a) I) xm_387 [.inr (.inr (some 740)), .inl x1] I (fun I' r => ∃ z, r = some (.inl z) ∧ ((0 ≤ z ∧ z ≤ 1) ∧ (I 740 9 ≤ I' 740 9 ∧ I' 740 9 ≤ I' 740 10 ∧ I' 740 10 ≤ I' 740 8 ∧ (I' 740 11 = 0 ∨ I' 740 9 < I' 740 10) ∧ (z = 1 → I 740 16 ≤ I' 740 16 ∧ I' 740 16 - I 740 16 ≤ I' 740 9 - I 740 9 ∧ I' 740 14 = I 740 14 ∧ I' 740 15 = I 740 15))) ∧ (sBe I I' (I 740 17) (I 740 16)) ∧ (z = 1 → sOne I' (I 740 17) (I 740 16) (I' 740 16))) := sorry
theorem ct_M_sum_87c34 {I : fH} {x1 : Int} (h0 : fB bsJ I) (ha1 : ((-1) ≤ x1 ∧ x1 ≤ 5)) (hp0 : I 740 9 ≤ I 740 10 ∧ I 740 10 ≤ I 740 8 ∧ (I 740 11 = 0 ∨ I 740 9 < I 740 10)) (hp1 : 0 ≤ I 740 16 ∧ I 740 16 ≤ I 740 9) (hp2 : 16 ≤ I 740 14 + I 740 15) (hp3 : (1215 ≤ I 740 17 ∧ I 740 17 ≤ 3415 ∧ (I 740 17 - 1215) % 200 = 0) ∨ I 740 17 = 4700) : fC ρ base n F xTc vwCl xTys D dA la gJ (fbz bsJ znJ (fKc wz_2212a) I) xm_370 [.inr (.inr (some 740)), .inl x1] I (fun I' r => ∃ z, r = some (.inl z) ∧ ((0 ≤ z ∧ z ≤ 1) ∧ (I 740 9 ≤ I' 740 9 ∧ I' 740 9 ≤ I' 740 10 ∧ I' 740 10 ≤ I' 740 8 ∧ (I' 740 11 = 0 ∨ I' 740 9 < I' 740 10) ∧ (z = 1 → I 740 16 ≤ I' 740 16 ∧ I' 740 16 - I 740 16 ≤ I' 740 9 - I 740 9 ∧ I' 740 14 = I 740 14 ∧ I' 740 15 = I 740 15))) ∧ (sBe I I' (I 740 17) (I 740 16)) ∧ (z = 1 → sOne I' (I 740 17) (I 740 16) (I' 740 16))) := sorry
theorem ct_M_test_011bc {I : fH} {x1 : Int} (h0 : fB bsJ I) (ha1 : ((-1) ≤ x1 ∧ x1 ≤ 5)) (hp0 : I 740 9 ≤ I 740 10 ∧ I 740 10 ≤ I 740 8 ∧ (I 740 11 = 0 ∨ I 740 9 < I 740 10)) (hp1 : 0 ≤ I 740 16 ∧ I 740 16 ≤ I 740 9) (hp2 : 16 ≤ I 740 14 + I 740 15) (hp3 : (1215 ≤ I 740 17 ∧ I 740 17 ≤ 3415 ∧ (I 740 17 - 1215) % 200 = 0) ∨ I 740 17 = 4700) : fC ρ base n F xTc vwCl xTys D dA la gJ (fbz bsJ znJ (fKc wz_2212a) I) xm_353 [.inr (.inr (some 740)), .inl x1] I (fun I' r => ∃ z, r = some (.inl z) ∧ ((0 ≤ z ∧ z ≤ 1) ∧ (I 740 9 ≤ I' 740 9 ∧ I' 740 9 ≤ I' 740 10 ∧ I' 740 10 ≤ I' 740 8 ∧ (I' 740 11 = 0 ∨ I' 740 9 < I' 740 10) ∧ (z = 1 → I 740 16 ≤ I' 740 16 ∧ I' 740 16 - I 740 16 ≤ I' 740 9 - I 740 9 ∧ I' 740 14 = I 740 14 ∧ I' 740 15 = I 740 15))) ∧ (sBe I I' (I 740 17) (I 740 16)) ∧ (z = 1 → sOne I' (I 740 17) (I 740 16) (I' 740 16))) := sorry
theorem ct_M_both_747b2 {I : fH} {x1 : Int} (h0 : fB bsJ I) (ha1 : ((-1) ≤ x1 ∧ x1 ≤ 5)) (hp0 : I 740 9 ≤ I 740 10 ∧ I 740 10 ≤ I 740 8 ∧ (I 740 11 = 0 ∨ I 740 9 < I 740 10)) (hp1 : 0 ≤ I 740 16 ∧ I 740 16 ≤ I 740 9) (hp2 : 16 ≤ I 740 14 + I 740 15) (hp3 : (1215 ≤ I 740 17 ∧ I 740 17 ≤ 3415 ∧ (I 740 17 - 1215) % 200 = 0) ∨ I 740 17 = 4700) : fC ρ base n F xTc vwCl xTys D dA la gJ (fbz bsJ znJ (fKc wz_2212a) I) xm_336 [.inr (.inr (some 740)), .inl x1] I (fun I' r => ∃ z, r = some (.inl z) ∧ ((0 ≤ z ∧ z ≤ 1) ∧ (I 740 9 ≤ I' 740 9 ∧ I' 740 9 ≤ I' 740 10 ∧ I' 740 10 ≤ I' 740 8 ∧ (I' 740 11 = 0 ∨ I' 740 9 < I' 740 10) ∧ (z = 1 → I 740 16 ≤ I' 740 16 ∧ I' 740 16 - I 740 16 ≤ I' 740 9 - I 740 9 ∧ I' 740 14 = I 740 14 ∧ I' 740 15 = I 740 15))) ∧ (sBe I I' (I 740 17) (I 740 16)) ∧ (z = 1 → sOne I' (I 740 17) (I 740 16) (I' 740 16))) := sorry
theorem ct_M_either_f12bf {I : fH} {x1 : Int} (h0 : fB bsJ I) (ha1 : ((-1) ≤ x1 ∧ x1 ≤ 5)) (hp0 : I 740 9 ≤ I 740 10 ∧ I 740 10 ≤ I 740 8 ∧ (I 740 11 = 0 ∨ I 740 9 < I 740 10)) (hp1 : 0 ≤ I 740 16 ∧ I 740 16 ≤ I 740 9) (hp2 : 16 ≤ I 740 14 + I 740 15) (hp3 : (1215 ≤ I 740 17 ∧ I 740 17 ≤ 3415 ∧ (I 740 17 - 1215) % 200 = 0) ∨ I 740 17 = 4700) : fC ρ base n F xTc vwCl xTys D dA la gJ (fbz bsJ znJ (fKc wz_2212a) I) xm_319 [.inr (.inr (some 740)), .inl x1] I (fun I' r => ∃ z, r = some (.inl z) ∧ ((0 ≤ z ∧ z ≤ 1) ∧ (I 740 9 ≤ I' 740 9 ∧ I' 740 9 ≤ I' 740 10 ∧ I' 740 10 ≤ I' 740 8 ∧ (I' 740 11 = 0 ∨ I' 740 9 < I' 740 10) ∧ (z = 1 → I 740 16 ≤ I' 740 16 ∧ I' 740 16 - I 740 16 ≤ I' 740 9 - I 740 9 ∧ I' 740 14 = I 740 14 ∧ I' 740 15 = I 740 15))) ∧ (sBe I I' (I 740 17) (I 740 16)) ∧ (z = 1 → sOne I' (I 740 17) (I 740 16) (I' 740 16))) := sorry
end CT

/-! contracts (written by gen95.py) -/
theorem x6_233 : f60c xTc xTys xm_233 = true := by decide +kernel
theorem x6_497 : f60c xTc xTys xm_497 = true := by decide +kernel
section CT
variable {ρ : Nat → Int32} {base n : Nat} {F : Nat → Prop} {D : va_G} {dA : Nat → ClassId} {la : Launch}
set_option maxRecDepth 8000 in
theorem ct_X_count_87bea {I : fH} {x1 : Int} (h0 : fB bsJ I) (ha1 : ((-2147483648) ≤ x1 ∧ x1 ≤ 2147483647)) : fC ρ base n F xTc vwCl xTys D dA la gJ (fbz bsJ znJ (fKc []) I) xm_233 [.inr (.inr (some 0)), .inl x1] I (fun _ r => ∃ z, r = some (.inl z) ∧ ((-2147483648) ≤ z ∧ z ≤ 2147483647)) := by
  have hW : fzs [] (fKc []) := fKc_ok _
  refine f_meth (rb := rbJ) (J := []) 1 400 xG xin_233 x6_233 okJ (fB_self h0) ?_ ?_
  · exact fun q h => absurd h List.not_mem_nil
  · have hB0 := fB_self (zn := znJ) (K := fKc []) h0
    refine And.intro (by omega) (And.intro ?_ ?_)
    · refine And.intro (fun ex => ?_) (And.intro (fun ex => ?_) (And.intro (fun ex => ?_) (And.intro (fun ex => ?_) (And.intro (fun ex => ?_) (And.intro (fun ex => ?_) (And.intro (fun ex => ?_) (And.intro (fun ex => ?_) (And.intro (fun ex => ?_) (And.intro (fun ex => ?_) (And.intro (fun ex => ?_) (And.intro (fun ex => ?_) (And.intro (fun ex => ?_) (And.intro (fun ex => ?_) (And.intro (fun ex => ?_) (True.intro)))))))))))))))
      · skip
        refine And.intro ⟨rfl, by decide, by decide⟩ ?_
        refine And.intro ⟨rfl, by decide, by decide⟩ ?_
        refine And.intro ⟨rfl, by decide, by decide⟩ (fgetf fb_2_5 h0 hB0 ?_)
        intro z1 lz1 uz1 qz1
        refine And.intro (True.intro) ?_
        exact ⟨_, rfl, by omega⟩
      · skip
        refine And.intro ⟨rfl, by decide, by decide⟩ ?_
        refine And.intro ⟨rfl, by decide, by decide⟩ ?_
        refine And.intro ⟨rfl, by decide, by decide⟩ (fgetf fb_2_10 h0 hB0 ?_)
        intro z2 lz2 uz2 qz2
        refine And.intro (True.intro) ?_
        exact ⟨_, rfl, by omega⟩
      · skip
        refine And.intro ⟨rfl, by decide, by decide⟩ ?_
        refine And.intro ⟨rfl, by decide, by decide⟩ ?_
        refine And.intro ⟨rfl, by decide, by decide⟩ (fgetf fb_163_13 h0 hB0 ?_)
        intro z3 lz3 uz3 qz3
        refine And.intro (True.intro) ?_
        exact ⟨_, rfl, by omega⟩
      · skip
        refine And.intro ⟨rfl, by decide, by decide⟩ ?_
        refine And.intro ⟨rfl, by decide, by decide⟩ ?_
        refine Exists.intro xm_234 (And.intro mi_234 (And.intro ⟨rfl, rfl, rfl, rfl⟩ (And.intro rfl ?_)))
        refine fcallp hB0 (ct_Works_goneOnes_af75c (fBz h0 hB0)) ?_
        rintro _ ⟨z4, rfl, hz4⟩
        refine And.intro (True.intro) ?_
        exact ⟨_, rfl, by omega⟩
      · skip
        refine And.intro ⟨rfl, by decide, by decide⟩ ?_
        refine And.intro ⟨rfl, by decide, by decide⟩ ?_
        refine And.intro ⟨rfl, by decide, by decide⟩ (fgetf fb_177_4 h0 hB0 ?_)
        intro z5 lz5 uz5 qz5
        refine And.intro (True.intro) ?_
        exact ⟨_, rfl, by omega⟩
      · skip
        refine And.intro ⟨rfl, by decide, by decide⟩ ?_
        refine And.intro ⟨rfl, by decide, by decide⟩ ?_
        refine And.intro ⟨rfl, by decide, by decide⟩ (fgetf fb_177_4 h0 hB0 ?_)
        intro z6 lz6 uz6 qz6
        refine And.intro ⟨rfl, by decide, by decide⟩ ?_
        refine And.intro ⟨rfl, by decide, by decide⟩ ?_
        refine Exists.intro xm_67 (And.intro mi_67 (And.intro ⟨rfl, rfl, rfl, rfl⟩ (And.intro rfl ?_)))
        refine fcallp hB0 (ct_People_living_beea0 (fBz h0 hB0)) ?_
        rintro _ ⟨z7, rfl, hz7⟩
        intro z8 hz8 ez8 bz8
        clear ez8
        clear bz8
        refine And.intro (True.intro) ?_
        exact ⟨_, rfl, by omega⟩
      · skip
        refine And.intro ⟨rfl, by decide, by decide⟩ ?_
        refine And.intro ⟨rfl, by decide, by decide⟩ (fgetf fb_187_6 h0 hB0 ?_)
        intro z9 lz9 uz9 qz9
        refine And.intro (True.intro) ?_
        exact ⟨_, rfl, by omega⟩
      · skip
        refine And.intro ⟨rfl, by decide, by decide⟩ ?_
        refine And.intro ⟨rfl, by decide, by decide⟩ ?_
        refine Exists.intro xm_32 (And.intro mi_32 (And.intro ⟨rfl, rfl, rfl, rfl⟩ (And.intro rfl ?_)))
        refine fcallp hB0 (ct_City_hour_b7a7b (fBz h0 hB0)) ?_
        rintro _ ⟨z10, rfl, hz10⟩
        refine Exists.intro xm_235 (And.intro mi_235 (And.intro ⟨rfl, rfl, rfl, rfl⟩ (And.intro rfl ?_)))
        refine fcallp hB0 (ct_Charter_inForceAt_64286 (fBz h0 hB0) (by omega)) ?_
        rintro _ ⟨z11, rfl, hz11⟩
        refine And.intro (True.intro) ?_
        exact ⟨_, rfl, by omega⟩
      · skip
        refine And.intro ⟨rfl, by decide, by decide⟩ ?_
        refine And.intro ⟨rfl, by decide, by decide⟩ (fgetf fb_211_8 h0 hB0 ?_)
        intro z12 lz12 uz12 qz12
        refine And.intro (True.intro) ?_
        exact ⟨_, rfl, by omega⟩
      · skip
        refine And.intro ⟨rfl, by decide, by decide⟩ ?_
        refine And.intro ⟨rfl, by decide, by decide⟩ (fgetf fb_211_11 h0 hB0 ?_)
        intro z13 lz13 uz13 qz13
        refine And.intro (True.intro) ?_
        exact ⟨_, rfl, by omega⟩
      · skip
        refine And.intro ⟨rfl, by decide, by decide⟩ ?_
        refine And.intro ⟨rfl, by decide, by decide⟩ (fgetf fb_211_15 h0 hB0 ?_)
        intro z14 lz14 uz14 qz14
        refine And.intro (True.intro) ?_
        exact ⟨_, rfl, by omega⟩
      · skip
        refine And.intro ⟨rfl, by decide, by decide⟩ ?_
        refine And.intro ⟨rfl, by decide, by decide⟩ ?_
        refine And.intro ⟨rfl, by decide, by decide⟩ (fgetf fb_2_12 h0 hB0 ?_)
        intro z15 lz15 uz15 qz15
        refine And.intro (True.intro) ?_
        exact ⟨_, rfl, by omega⟩
      · skip
        refine And.intro ⟨rfl, by decide, by decide⟩ (fgetf fb_0_14 h0 hB0 ?_)
        intro z16 lz16 uz16 qz16
        refine And.intro (True.intro) ?_
        exact ⟨_, rfl, by omega⟩
      · skip
        refine And.intro ⟨rfl, by decide, by decide⟩ ?_
        refine And.intro ⟨rfl, by decide, by decide⟩ (fgetf fb_699_1 h0 hB0 ?_)
        intro z17 lz17 uz17 qz17
        refine And.intro (True.intro) ?_
        exact ⟨_, rfl, by omega⟩
      · skip
        refine And.intro ⟨rfl, by decide, by decide⟩ ?_
        refine And.intro ⟨rfl, by decide, by decide⟩ (fgetf fb_187_7 h0 hB0 ?_)
        intro z18 lz18 uz18 qz18
        refine And.intro (by omega) (And.intro ?_ ?_)
        · intro c19
          refine And.intro (True.intro) ?_
          exact ⟨_, rfl, by omega⟩
        · intro c20
          refine And.intro (True.intro) ?_
          exact ⟨_, rfl, by omega⟩
    · intro c21
      refine And.intro (True.intro) ?_
      exact ⟨_, rfl, by omega⟩
abbrev jc_M_count_f52dd_101 : Nat → fL → List fV → fH → Prop := fun m lv st I => ∃ (y2 : Int) (y3 : Int), lv = [(0, .inr (.inr (some 740))), (2, .inl y2), (3, .inl y3)] ∧ st = [] ∧ ((((-2147483648) ≤ y2 ∧ y2 ≤ 2147483647) ∧ (0 ≤ y3 ∧ y3 ≤ 24))) ∧ m = (1 + 1 * (24 - y3) : Int).toNat
abbrev jc_M_count_f52dd_146 : Nat → fL → List fV → fH → Prop := fun m lv st I => ∃ (y2 : Int) (y3 : Int), lv = [(0, .inr (.inr (some 740))), (2, .inl y2), (3, .inl y3)] ∧ st = [] ∧ ((((-2147483648) ≤ y2 ∧ y2 ≤ 2147483647) ∧ (0 ≤ y3 ∧ y3 ≤ 24))) ∧ m = (26 + 1 * (24 - y3) : Int).toNat
abbrev jc_M_count_f52dd_191 : Nat → fL → List fV → fH → Prop := fun m lv st I => ∃ (y2 : Int) (y3 : Int), lv = [(0, .inr (.inr (some 740))), (2, .inl y2), (3, .inl y3)] ∧ st = [] ∧ ((((-2147483648) ≤ y2 ∧ y2 ≤ 2147483647) ∧ (0 ≤ y3 ∧ y3 ≤ 12))) ∧ m = (51 + 1 * (12 - y3) : Int).toNat
set_option maxRecDepth 8000 in
theorem ct_M_count_f52dd {I : fH} {x1 : Int} (h0 : fB bsJ I) (ha1 : ((-2147483648) ≤ x1 ∧ x1 ≤ 2147483647)) : fC ρ base n F xTc vwCl xTys D dA la gJ (fbz bsJ znJ (fKc []) I) xm_497 [.inr (.inr (some 740)), .inl x1] I (fun _ r => ∃ z, r = some (.inl z) ∧ ((-2147483648) ≤ z ∧ z ≤ 2147483647)) := by
  have hW : fzs [] (fKc []) := fKc_ok _
  refine f_meth (rb := rbJ) (J := [(101, jc_M_count_f52dd_101), (146, jc_M_count_f52dd_146), (191, jc_M_count_f52dd_191)]) 64 400 xG xin_497 x6_497 okJ (fB_self h0) ?_ ?_
  · refine List.forall_mem_cons.mpr ⟨?_, List.forall_mem_cons.mpr ⟨?_, List.forall_mem_cons.mpr ⟨?_, fun q h => absurd h List.not_mem_nil⟩⟩⟩
    · rintro m _ _ I1 hB1 ⟨y2, y3, rfl, rfl, hb, hm⟩
      refine And.intro ⟨rfl, by decide, by decide⟩ ?_
      refine fload rL_741_741_7_7_1_0 h0 hB1 (by omega) ?_
      intro z1 lz1 uz1 qz1
      have pz1 := fld_at qz1 7 (by omega)
      refine And.intro (by omega) (And.intro ?_ ?_)
      · intro c2
        refine And.intro (True.intro) ?_
        exact ⟨_, rfl, by omega⟩
      · intro c3
        refine Exists.intro xm_245 (And.intro mi_245 (And.intro ⟨rfl, rfl, rfl, rfl⟩ (And.intro rfl ?_)))
        refine fcallp hB1 (ct_M_isGone_0de37 (fBz h0 hB1) (by omega)) ?_
        rintro _ ⟨z4, rfl, hz4⟩
        refine And.intro (by omega) (And.intro ?_ ?_)
        · intro c5
          intro z6 hz6 ez6 bz6
          clear ez6
          clear bz6
          exact fcutJ (I := I1) (j := jc_M_count_f52dd_101) (lv' := [(0, .inr (.inr (some 740))), (2, .inl _), (3, .inl _)]) (And.intro rfl (And.intro rfl (And.intro rfl True.intro))) ⟨_, _, rfl, rfl, by omega, rfl⟩ (by omega)
        · intro c7
          intro z8 hz8 ez8 bz8
          clear ez8
          clear bz8
          exact fcutJ (I := I1) (j := jc_M_count_f52dd_101) (lv' := [(0, .inr (.inr (some 740))), (2, .inl _), (3, .inl _)]) (And.intro rfl (And.intro rfl (And.intro rfl True.intro))) ⟨_, _, rfl, rfl, by omega, rfl⟩ (by omega)
    · rintro m _ _ I1 hB1 ⟨y2, y3, rfl, rfl, hb, hm⟩
      refine And.intro ⟨rfl, by decide, by decide⟩ ?_
      refine fload rL_741_741_8_8_1_0 h0 hB1 (by omega) ?_
      intro z9 lz9 uz9 qz9
      have pz9 := fld_at qz9 8 (by omega)
      refine And.intro (by omega) (And.intro ?_ ?_)
      · intro c10
        refine And.intro (True.intro) ?_
        exact ⟨_, rfl, by omega⟩
      · intro c11
        refine Exists.intro xm_248 (And.intro mi_248 (And.intro ⟨rfl, rfl, rfl, rfl⟩ (And.intro rfl ?_)))
        refine fcallp hB1 (ct_M_isDead_21e1a (fBz h0 hB1) (by omega)) ?_
        rintro _ ⟨z12, rfl, hz12⟩
        refine And.intro (by omega) (And.intro ?_ ?_)
        · intro c13
          intro z14 hz14 ez14 bz14
          clear ez14
          clear bz14
          exact fcutJ (I := I1) (j := jc_M_count_f52dd_146) (lv' := [(0, .inr (.inr (some 740))), (2, .inl _), (3, .inl _)]) (And.intro rfl (And.intro rfl (And.intro rfl True.intro))) ⟨_, _, rfl, rfl, by omega, rfl⟩ (by omega)
        · intro c15
          intro z16 hz16 ez16 bz16
          clear ez16
          clear bz16
          exact fcutJ (I := I1) (j := jc_M_count_f52dd_146) (lv' := [(0, .inr (.inr (some 740))), (2, .inl _), (3, .inl _)]) (And.intro rfl (And.intro rfl (And.intro rfl True.intro))) ⟨_, _, rfl, rfl, by omega, rfl⟩ (by omega)
    · rintro m _ _ I1 hB1 ⟨y2, y3, rfl, rfl, hb, hm⟩
      refine And.intro ⟨rfl, by decide, by decide⟩ ?_
      refine fload rL_741_741_9_9_1_0 h0 hB1 (by omega) ?_
      intro z17 lz17 uz17 qz17
      have pz17 := fld_at qz17 9 (by omega)
      refine And.intro (by omega) (And.intro ?_ ?_)
      · intro c18
        refine And.intro (True.intro) ?_
        exact ⟨_, rfl, by omega⟩
      · intro c19
        refine Exists.intro xm_256 (And.intro mi_256 (And.intro ⟨rfl, rfl, rfl, rfl⟩ (And.intro rfl ?_)))
        refine fcallp hB1 (ct_M_isInForce_508bf (fBz h0 hB1) (by omega)) ?_
        rintro _ ⟨z20, rfl, hz20⟩
        refine And.intro (by omega) (And.intro ?_ ?_)
        · intro c21
          intro z22 hz22 ez22 bz22
          clear ez22
          clear bz22
          exact fcutJ (I := I1) (j := jc_M_count_f52dd_191) (lv' := [(0, .inr (.inr (some 740))), (2, .inl _), (3, .inl _)]) (And.intro rfl (And.intro rfl (And.intro rfl True.intro))) ⟨_, _, rfl, rfl, by omega, rfl⟩ (by omega)
        · intro c23
          intro z24 hz24 ez24 bz24
          clear ez24
          clear bz24
          exact fcutJ (I := I1) (j := jc_M_count_f52dd_191) (lv' := [(0, .inr (.inr (some 740))), (2, .inl _), (3, .inl _)]) (And.intro rfl (And.intro rfl (And.intro rfl True.intro))) ⟨_, _, rfl, rfl, by omega, rfl⟩ (by omega)
  · have hB0 := fB_self (zn := znJ) (K := fKc []) h0
    refine And.intro (by omega) (And.intro ?_ ?_)
    · refine And.intro (fun ex => ?_) (And.intro (fun ex => ?_) (And.intro (fun ex => ?_) (And.intro (fun ex => ?_) (And.intro (fun ex => ?_) (And.intro (fun ex => ?_) (And.intro (fun ex => ?_) (And.intro (fun ex => ?_) (And.intro (fun ex => ?_) (And.intro (fun ex => ?_) (And.intro (fun ex => ?_) (And.intro (fun ex => ?_) (And.intro (fun ex => ?_) (And.intro (fun ex => ?_) (And.intro (fun ex => ?_) (True.intro)))))))))))))))
      · skip
        refine And.intro ⟨rfl, by decide, by decide⟩ ?_
        refine fload rL_741_741_5_5_1_0 h0 hB0 (by omega) ?_
        intro z25 lz25 uz25 qz25
        have pz25 := fld_at qz25 5 (by omega)
        refine And.intro (True.intro) ?_
        exact ⟨_, rfl, by omega⟩
      · skip
        refine And.intro ⟨rfl, by decide, by decide⟩ ?_
        refine fload rL_741_741_6_6_1_0 h0 hB0 (by omega) ?_
        intro z26 lz26 uz26 qz26
        have pz26 := fld_at qz26 6 (by omega)
        refine And.intro (True.intro) ?_
        exact ⟨_, rfl, by omega⟩
      · skip
        refine And.intro ⟨rfl, by decide, by decide⟩ ?_
        refine fload rL_741_741_7_7_1_0 h0 hB0 (by omega) ?_
        intro z27 lz27 uz27 qz27
        have pz27 := fld_at qz27 7 (by omega)
        refine And.intro (True.intro) ?_
        exact ⟨_, rfl, by omega⟩
      · skip
        exact fcutJ (I := I) (j := jc_M_count_f52dd_101) (lv' := [(0, .inr (.inr (some 740))), (2, .inl _), (3, .inl _)]) (And.intro rfl (And.intro rfl (And.intro rfl True.intro))) ⟨_, _, rfl, rfl, by omega, rfl⟩ (by omega)
      · skip
        refine And.intro ⟨rfl, by decide, by decide⟩ ?_
        refine fload rL_741_741_8_8_1_0 h0 hB0 (by omega) ?_
        intro z28 lz28 uz28 qz28
        have pz28 := fld_at qz28 8 (by omega)
        refine And.intro (True.intro) ?_
        exact ⟨_, rfl, by omega⟩
      · skip
        exact fcutJ (I := I) (j := jc_M_count_f52dd_146) (lv' := [(0, .inr (.inr (some 740))), (2, .inl _), (3, .inl _)]) (And.intro rfl (And.intro rfl (And.intro rfl True.intro))) ⟨_, _, rfl, rfl, by omega, rfl⟩ (by omega)
      · skip
        refine And.intro ⟨rfl, by decide, by decide⟩ ?_
        refine fload rL_741_741_9_9_1_0 h0 hB0 (by omega) ?_
        intro z29 lz29 uz29 qz29
        have pz29 := fld_at qz29 9 (by omega)
        refine And.intro (True.intro) ?_
        exact ⟨_, rfl, by omega⟩
      · skip
        exact fcutJ (I := I) (j := jc_M_count_f52dd_191) (lv' := [(0, .inr (.inr (some 740))), (2, .inl _), (3, .inl _)]) (And.intro rfl (And.intro rfl (And.intro rfl True.intro))) ⟨_, _, rfl, rfl, by omega, rfl⟩ (by omega)
      · skip
        refine And.intro ⟨rfl, by decide, by decide⟩ ?_
        refine fload rL_741_741_10_10_1_0 h0 hB0 (by omega) ?_
        intro z30 lz30 uz30 qz30
        have pz30 := fld_at qz30 10 (by omega)
        refine And.intro (True.intro) ?_
        exact ⟨_, rfl, by omega⟩
      · skip
        refine And.intro ⟨rfl, by decide, by decide⟩ ?_
        refine fload rL_741_741_11_11_1_0 h0 hB0 (by omega) ?_
        intro z31 lz31 uz31 qz31
        have pz31 := fld_at qz31 11 (by omega)
        refine And.intro (True.intro) ?_
        exact ⟨_, rfl, by omega⟩
      · skip
        refine And.intro ⟨rfl, by decide, by decide⟩ ?_
        refine fload rL_741_741_12_12_1_0 h0 hB0 (by omega) ?_
        intro z32 lz32 uz32 qz32
        have pz32 := fld_at qz32 12 (by omega)
        refine And.intro (True.intro) ?_
        exact ⟨_, rfl, by omega⟩
      · skip
        refine And.intro ⟨rfl, by decide, by decide⟩ ?_
        refine fload rL_741_741_13_13_1_0 h0 hB0 (by omega) ?_
        intro z33 lz33 uz33 qz33
        have pz33 := fld_at qz33 13 (by omega)
        refine And.intro (True.intro) ?_
        exact ⟨_, rfl, by omega⟩
      · skip
        refine And.intro ⟨rfl, by decide, by decide⟩ (fgetf fb_740_37 h0 hB0 ?_)
        intro z34 lz34 uz34 qz34
        refine And.intro (True.intro) ?_
        exact ⟨_, rfl, by omega⟩
      · skip
        refine And.intro ⟨rfl, by decide, by decide⟩ (fgetf fb_740_8 h0 hB0 ?_)
        intro z35 lz35 uz35 qz35
        refine And.intro (True.intro) ?_
        exact ⟨_, rfl, by omega⟩
      · skip
        refine And.intro ⟨rfl, by decide, by decide⟩ ?_
        refine fload rL_741_741_14_14_1_0 h0 hB0 (by omega) ?_
        intro z36 lz36 uz36 qz36
        have pz36 := fld_at qz36 14 (by omega)
        refine And.intro (by omega) (And.intro ?_ ?_)
        · intro c37
          refine And.intro (True.intro) ?_
          exact ⟨_, rfl, by omega⟩
        · intro c38
          refine And.intro (True.intro) ?_
          exact ⟨_, rfl, by omega⟩
    · intro c39
      refine And.intro (True.intro) ?_
      exact ⟨_, rfl, by omega⟩
end CT

set_option linter.all false
/-! the calls keep what holds between them (written by gen91.py) -/
section OP
variable {ρ : Nat → Int32} {base : Nat} {D : va_G} {dA : Nat → ClassId} {la : Launch}
theorem op_20 {I : fH} {x1 : Int} {x2 : Int} {x3 : Int} (h : oI I) (a1 : fin32 x1) (a2 : fin32 x2) (a3 : fin32 x3) : oTwo la ρ base D dA xm_101 xm_306 [.inl x1, .inl x2, .inl x3] I (fun _ _ => True) := by
  refine fC_bd (ct_X_be_4c6d8 h.1 (by omega) (by omega) (by omega)) (fun I1 r1 q1 p1 => ⟨fBz h.1 q1, ?_⟩)
  obtain ⟨z1, rfl, p1⟩ := p1
  refine ⟨z1, rfl, ?_⟩
  have g := oI_fr h q1 (by decide +kernel)
  refine fC_bd (ct_M_be_60845 g.1 (by omega) (by omega) (by omega)) (fun I2 r2 q2 p2 => ⟨fBz g.1 q2, ?_⟩)
  obtain ⟨z2, rfl, p2⟩ := p2
  exact ⟨z2, rfl, oI_fr g q2 (by decide +kernel), trivial⟩
theorem op_21 {I : fH} {x1 : Int} {x2 : Int} (h : oI I) (a1 : fin32 x1) (a2 : fin32 x2) : oTwo la ρ base D dA xm_102 xm_307 [.inl x1, .inl x2] I (fun _ _ => True) := by
  refine fC_bd (ct_X_is_3f9a5 h.1 (by omega) (by omega)) (fun I1 r1 q1 p1 => ⟨fBz h.1 q1, ?_⟩)
  obtain ⟨z1, rfl, p1⟩ := p1
  refine ⟨z1, rfl, ?_⟩
  have g := oI_fr h q1 (by decide +kernel)
  refine fC_bd (ct_M_is_815af g.1 (by omega) (by omega)) (fun I2 r2 q2 p2 => ⟨fBz g.1 q2, ?_⟩)
  obtain ⟨z2, rfl, p2⟩ := p2
  exact ⟨z2, rfl, oI_fr g q2 (by decide +kernel), trivial⟩
theorem op_22 {I : fH} {x1 : Int} (h : oI I) (a1 : fin32 x1) : oTwo la ρ base D dA xm_103 xm_308 [.inl x1] I (fun _ _ => True) := by
  refine fC_bd (ct_X_birth_faa88 h.1 (by omega)) (fun I1 r1 q1 p1 => ⟨fBz h.1 q1, ?_⟩)
  obtain ⟨z1, rfl, p1⟩ := p1
  refine ⟨z1, rfl, ?_⟩
  have g := oI_fr h q1 (by decide +kernel)
  refine fC_bd (ct_M_birth_69b9b g.1 (by omega) g.2.1) (fun I2 r2 q2 p2 => ⟨fBz g.1 q2, ?_⟩)
  obtain ⟨z2, rfl, p2⟩ := p2
  exact ⟨z2, rfl, oI_fr g q2 (by decide +kernel), trivial⟩
set_option maxRecDepth 8000 in
theorem op_23 {I : fH} {x1 : Int} {x2 : Int} {x3 : Int} (h : oI I) (a1 : fin32 x1) (a2 : fin32 x2) (a3 : fin32 x3) : oTwo la ρ base D dA xm_107 xm_310 [.inl x1, .inl x2, .inl x3] I (fun _ _ => True) := by
  have hP := h.2.2.2.1
  unfold oP at hP
  have b0 := fBd fb_m0 h.1
  have b1 := fBd fb_mk h.1
  have b2 := fBd fb_xk h.1
  refine fC_bd (ct_X_feed_51110 h.1 (by omega) (by omega) (by omega)) (fun I1 r1 q1 p1 => ⟨fBz h.1 q1, ?_⟩)
  obtain ⟨z1, rfl, p1⟩ := p1
  refine ⟨z1, rfl, ?_⟩
  have f1 := fFr_of q1
  have g : fB bsJ I1 ∧ sI I1 741 ∧ kI I1 := ⟨fBz h.1 q1, sI_fr h.2.1 h.1 f1 (by decide +kernel), kI_fr h.2.2.1 h.1 f1 (by decide +kernel) (by decide +kernel)⟩
  have s1 := f1 0 14 (by decide +kernel)
  have s2 := f1 0 6 (by decide +kernel)
  have s3 := f1 1 9 (by decide +kernel)
  have s4 := f1 2 5 (by decide +kernel)
  have s5 := f1 2 10 (by decide +kernel)
  have s6 := f1 211 8 (by decide +kernel)
  have s7 := f1 211 11 (by decide +kernel)
  have s8 := f1 211 15 (by decide +kernel)
  have s9 := f1 163 13 (by decide +kernel)
  have s10 := f1 257 9 (by decide +kernel)
  have s11 := f1 258 5 (by decide +kernel)
  have s12 := f1 258 10 (by decide +kernel)
  have s13 := f1 467 8 (by decide +kernel)
  have s14 := f1 467 11 (by decide +kernel)
  have s15 := f1 467 15 (by decide +kernel)
  have s16 := f1 419 13 (by decide +kernel)
  have s17 := f1 740 8 (by decide +kernel)
  have s18 := f1 740 37 (by decide +kernel)
  have s19 := f1 740 3 (by decide +kernel)
  have s20 := f1 741 0 (by decide +kernel)
  have s21 := f1 741 5 (by decide +kernel)
  have s22 := f1 741 6 (by decide +kernel)
  have s23 := f1 741 10 (by decide +kernel)
  have s24 := f1 741 11 (by decide +kernel)
  have s25 := f1 741 12 (by decide +kernel)
  have s26 := f1 741 7 (by decide +kernel)
  have s27 := f1 742 0 (by decide +kernel)
  have s28 := f1 742 5 (by decide +kernel)
  have s29 := f1 742 6 (by decide +kernel)
  have s30 := f1 742 10 (by decide +kernel)
  have s31 := f1 742 11 (by decide +kernel)
  have s32 := f1 742 12 (by decide +kernel)
  have s33 := f1 742 7 (by decide +kernel)
  refine fC_bd (ct_M_feed_07202 g.1 (by omega) (by omega) (by omega)) (fun I2 r2 q2 p2 => ⟨fBz g.1 q2, ?_⟩)
  obtain ⟨z2, rfl, p2⟩ := p2
  have f2 := fFr_of q2
  have t0 := f2 699 1 (by decide +kernel)
  have t1 := f2 0 14 (by decide +kernel)
  have t2 := f2 0 6 (by decide +kernel)
  have t3 := f2 1 9 (by decide +kernel)
  have t4 := f2 2 5 (by decide +kernel)
  have t5 := f2 2 10 (by decide +kernel)
  have t6 := f2 211 8 (by decide +kernel)
  have t7 := f2 211 11 (by decide +kernel)
  have t8 := f2 211 15 (by decide +kernel)
  have t9 := f2 163 13 (by decide +kernel)
  have t10 := f2 257 9 (by decide +kernel)
  have t11 := f2 258 5 (by decide +kernel)
  have t12 := f2 258 10 (by decide +kernel)
  have t13 := f2 467 8 (by decide +kernel)
  have t14 := f2 467 11 (by decide +kernel)
  have t15 := f2 467 15 (by decide +kernel)
  have t16 := f2 419 13 (by decide +kernel)
  have t18 := f2 740 37 (by decide +kernel)
  have t19 := f2 740 3 (by decide +kernel)
  have t20 := f2 741 0 (by decide +kernel)
  have t21 := f2 741 5 (by decide +kernel)
  have t22 := f2 741 6 (by decide +kernel)
  have t23 := f2 741 10 (by decide +kernel)
  have t24 := f2 741 11 (by decide +kernel)
  have t25 := f2 741 12 (by decide +kernel)
  have t26 := f2 741 7 (by decide +kernel)
  have t27 := f2 742 0 (by decide +kernel)
  have t28 := f2 742 5 (by decide +kernel)
  have t29 := f2 742 6 (by decide +kernel)
  have t30 := f2 742 10 (by decide +kernel)
  have t31 := f2 742 11 (by decide +kernel)
  have t32 := f2 742 12 (by decide +kernel)
  have t33 := f2 742 7 (by decide +kernel)
  exact ⟨z2, rfl, ⟨fBz g.1 q2, sI_fr g.2.1 g.1 f2 (by decide +kernel), kI_fr g.2.2 g.1 f2 (by decide +kernel) (by decide +kernel), by unfold oP; omega, oQ_z (oQ_z h.2.2.2.2 f1 (by decide +kernel)) f2 (by decide +kernel)⟩, trivial⟩
set_option maxRecDepth 8000 in
theorem op_24 {I : fH} {x1 : Int} (h : oI I) (a1 : fin32 x1) : oTwo la ρ base D dA xm_110 xm_311 [.inl x1] I (fun _ _ => True) := by
  have hP := h.2.2.2.1
  unfold oP at hP
  have b0 := fBd fb_m0 h.1
  have b1 := fBd fb_mk h.1
  have b2 := fBd fb_xk h.1
  refine fC_bd (ct_X_trim_032da h.1 (by omega)) (fun I1 r1 q1 p1 => ⟨fBz h.1 q1, ?_⟩)
  obtain ⟨z1, rfl, p1⟩ := p1
  refine ⟨z1, rfl, ?_⟩
  have f1 := fFr_of q1
  have g : fB bsJ I1 ∧ sI I1 741 ∧ kI I1 := ⟨fBz h.1 q1, sI_fr h.2.1 h.1 f1 (by decide +kernel), kI_fr h.2.2.1 h.1 f1 (by decide +kernel) (by decide +kernel)⟩
  have s1 := f1 0 14 (by decide +kernel)
  have s2 := f1 0 6 (by decide +kernel)
  have s3 := f1 1 9 (by decide +kernel)
  have s4 := f1 2 5 (by decide +kernel)
  have s5 := f1 2 10 (by decide +kernel)
  have s6 := f1 211 8 (by decide +kernel)
  have s7 := f1 211 11 (by decide +kernel)
  have s8 := f1 211 15 (by decide +kernel)
  have s9 := f1 163 13 (by decide +kernel)
  have s10 := f1 257 9 (by decide +kernel)
  have s11 := f1 258 5 (by decide +kernel)
  have s12 := f1 258 10 (by decide +kernel)
  have s13 := f1 467 8 (by decide +kernel)
  have s14 := f1 467 11 (by decide +kernel)
  have s15 := f1 467 15 (by decide +kernel)
  have s16 := f1 419 13 (by decide +kernel)
  have s17 := f1 740 8 (by decide +kernel)
  have s18 := f1 740 37 (by decide +kernel)
  have s19 := f1 740 3 (by decide +kernel)
  have s20 := f1 741 0 (by decide +kernel)
  have s21 := f1 741 5 (by decide +kernel)
  have s22 := f1 741 6 (by decide +kernel)
  have s23 := f1 741 10 (by decide +kernel)
  have s24 := f1 741 11 (by decide +kernel)
  have s25 := f1 741 12 (by decide +kernel)
  have s26 := f1 741 7 (by decide +kernel)
  have s27 := f1 742 0 (by decide +kernel)
  have s28 := f1 742 5 (by decide +kernel)
  have s29 := f1 742 6 (by decide +kernel)
  have s30 := f1 742 10 (by decide +kernel)
  have s31 := f1 742 11 (by decide +kernel)
  have s32 := f1 742 12 (by decide +kernel)
  have s33 := f1 742 7 (by decide +kernel)
  refine fC_bd (ct_M_trim_f395f g.1 (by omega)) (fun I2 r2 q2 p2 => ⟨fBz g.1 q2, ?_⟩)
  obtain ⟨z2, rfl, p2⟩ := p2
  have f2 := fFr_of q2
  have t0 := f2 699 1 (by decide +kernel)
  have t1 := f2 0 14 (by decide +kernel)
  have t2 := f2 0 6 (by decide +kernel)
  have t3 := f2 1 9 (by decide +kernel)
  have t4 := f2 2 5 (by decide +kernel)
  have t5 := f2 2 10 (by decide +kernel)
  have t6 := f2 211 8 (by decide +kernel)
  have t7 := f2 211 11 (by decide +kernel)
  have t8 := f2 211 15 (by decide +kernel)
  have t9 := f2 163 13 (by decide +kernel)
  have t10 := f2 257 9 (by decide +kernel)
  have t11 := f2 258 5 (by decide +kernel)
  have t12 := f2 258 10 (by decide +kernel)
  have t13 := f2 467 8 (by decide +kernel)
  have t14 := f2 467 11 (by decide +kernel)
  have t15 := f2 467 15 (by decide +kernel)
  have t16 := f2 419 13 (by decide +kernel)
  have t18 := f2 740 37 (by decide +kernel)
  have t19 := f2 740 3 (by decide +kernel)
  have t20 := f2 741 0 (by decide +kernel)
  have t21 := f2 741 5 (by decide +kernel)
  have t22 := f2 741 6 (by decide +kernel)
  have t23 := f2 741 10 (by decide +kernel)
  have t24 := f2 741 11 (by decide +kernel)
  have t25 := f2 741 12 (by decide +kernel)
  have t26 := f2 741 7 (by decide +kernel)
  have t27 := f2 742 0 (by decide +kernel)
  have t28 := f2 742 5 (by decide +kernel)
  have t29 := f2 742 6 (by decide +kernel)
  have t30 := f2 742 10 (by decide +kernel)
  have t31 := f2 742 11 (by decide +kernel)
  have t32 := f2 742 12 (by decide +kernel)
  have t33 := f2 742 7 (by decide +kernel)
  exact ⟨z2, rfl, ⟨fBz g.1 q2, sI_fr g.2.1 g.1 f2 (by decide +kernel), kI_fr g.2.2 g.1 f2 (by decide +kernel) (by decide +kernel), by unfold oP; omega, oQ_z (oQ_z h.2.2.2.2 f1 (by decide +kernel)) f2 (by decide +kernel)⟩, trivial⟩
set_option maxRecDepth 8000 in
theorem op_25 {I : fH} (h : oI I) : oTwo la ρ base D dA xm_111 xm_312 [] I (fun _ _ => True) := by
  have hP := h.2.2.2.1
  unfold oP at hP
  have b0 := fBd fb_m0 h.1
  have b1 := fBd fb_mk h.1
  have b2 := fBd fb_xk h.1
  refine fC_bd (ct_X_text_8a0ca h.1) (fun I1 r1 q1 p1 => ⟨fBz h.1 q1, ?_⟩)
  obtain ⟨z1, rfl, p1⟩ := p1
  refine ⟨z1, rfl, ?_⟩
  have f1 := fFr_of q1
  have g : fB bsJ I1 ∧ sI I1 741 ∧ kI I1 := ⟨fBz h.1 q1, sI_fr h.2.1 h.1 f1 (by decide +kernel), kI_fr h.2.2.1 h.1 f1 (by decide +kernel) (by decide +kernel)⟩
  have s1 := f1 0 14 (by decide +kernel)
  have s2 := f1 0 6 (by decide +kernel)
  have s3 := f1 1 9 (by decide +kernel)
  have s4 := f1 2 5 (by decide +kernel)
  have s5 := f1 2 10 (by decide +kernel)
  have s6 := f1 211 8 (by decide +kernel)
  have s7 := f1 211 11 (by decide +kernel)
  have s8 := f1 211 15 (by decide +kernel)
  have s9 := f1 163 13 (by decide +kernel)
  have s10 := f1 257 9 (by decide +kernel)
  have s11 := f1 258 5 (by decide +kernel)
  have s12 := f1 258 10 (by decide +kernel)
  have s13 := f1 467 8 (by decide +kernel)
  have s14 := f1 467 11 (by decide +kernel)
  have s15 := f1 467 15 (by decide +kernel)
  have s16 := f1 419 13 (by decide +kernel)
  have s17 := f1 740 8 (by decide +kernel)
  have s18 := f1 740 37 (by decide +kernel)
  have s19 := f1 740 3 (by decide +kernel)
  have s20 := f1 741 0 (by decide +kernel)
  have s21 := f1 741 5 (by decide +kernel)
  have s22 := f1 741 6 (by decide +kernel)
  have s23 := f1 741 10 (by decide +kernel)
  have s24 := f1 741 11 (by decide +kernel)
  have s25 := f1 741 12 (by decide +kernel)
  have s26 := f1 741 7 (by decide +kernel)
  have s27 := f1 742 0 (by decide +kernel)
  have s28 := f1 742 5 (by decide +kernel)
  have s29 := f1 742 6 (by decide +kernel)
  have s30 := f1 742 10 (by decide +kernel)
  have s31 := f1 742 11 (by decide +kernel)
  have s32 := f1 742 12 (by decide +kernel)
  have s33 := f1 742 7 (by decide +kernel)
  refine fC_bd (ct_M_text_560c5 g.1 g.2.1) (fun I2 r2 q2 p2 => ⟨fBz g.1 q2, ?_⟩)
  obtain ⟨z2, rfl, p2, v0⟩ := p2
  have f2 := fFr_of q2
  have t0 := f2 699 1 (by decide +kernel)
  have t1 := f2 0 14 (by decide +kernel)
  have t2 := f2 0 6 (by decide +kernel)
  have t3 := f2 1 9 (by decide +kernel)
  have t4 := f2 2 5 (by decide +kernel)
  have t5 := f2 2 10 (by decide +kernel)
  have t6 := f2 211 8 (by decide +kernel)
  have t7 := f2 211 11 (by decide +kernel)
  have t8 := f2 211 15 (by decide +kernel)
  have t9 := f2 163 13 (by decide +kernel)
  have t10 := f2 257 9 (by decide +kernel)
  have t11 := f2 258 5 (by decide +kernel)
  have t12 := f2 258 10 (by decide +kernel)
  have t13 := f2 467 8 (by decide +kernel)
  have t14 := f2 467 11 (by decide +kernel)
  have t15 := f2 467 15 (by decide +kernel)
  have t16 := f2 419 13 (by decide +kernel)
  have t18 := f2 740 37 (by decide +kernel)
  have t19 := f2 740 3 (by decide +kernel)
  have t20 := f2 741 0 (by decide +kernel)
  have t21 := f2 741 5 (by decide +kernel)
  have t22 := f2 741 6 (by decide +kernel)
  have t23 := f2 741 10 (by decide +kernel)
  have t24 := f2 741 11 (by decide +kernel)
  have t25 := f2 741 12 (by decide +kernel)
  have t26 := f2 741 7 (by decide +kernel)
  have t27 := f2 742 0 (by decide +kernel)
  have t28 := f2 742 5 (by decide +kernel)
  have t29 := f2 742 6 (by decide +kernel)
  have t30 := f2 742 10 (by decide +kernel)
  have t31 := f2 742 11 (by decide +kernel)
  have t32 := f2 742 12 (by decide +kernel)
  have t33 := f2 742 7 (by decide +kernel)
  exact ⟨z2, rfl, ⟨fBz g.1 q2, v0, kI_fr g.2.2 g.1 f2 (by decide +kernel) (by decide +kernel), by unfold oP; omega, oQ_z (oQ_z h.2.2.2.2 f1 (by decide +kernel)) f2 (by decide +kernel)⟩, trivial⟩
theorem op_26 {I : fH} {x1 : Int} {x2 : Int} (h : oI I) (a1 : fin32 x1) (a2 : fin32 x2) : oTwo la ρ base D dA xm_132 xm_424 [.inl x1, .inl x2] I (fun _ _ => True) := by
  refine fC_bd (ct_X_of_3d77a h.1 (by omega) (by omega)) (fun I1 r1 q1 p1 => ⟨fBz h.1 q1, ?_⟩)
  obtain ⟨z1, rfl, p1⟩ := p1
  refine ⟨z1, rfl, ?_⟩
  have g := oI_fr h q1 (by decide +kernel)
  refine fC_bd (ct_M_of_2ade1 g.1 (by omega) (by omega)) (fun I2 r2 q2 p2 => ⟨fBz g.1 q2, ?_⟩)
  obtain ⟨z2, rfl, p2⟩ := p2
  exact ⟨z2, rfl, oI_fr g q2 (by decide +kernel), trivial⟩
theorem op_27 {I : fH} {x1 : Int} (h : oI I) (a1 : fin32 x1) : oTwo la ρ base D dA xm_134 xm_426 [.inl x1] I (fun _ _ => True) := by
  refine fC_bd (ct_X_hold_bca71 h.1 (by omega)) (fun I1 r1 q1 p1 => ⟨fBz h.1 q1, ?_⟩)
  obtain ⟨z1, rfl, p1⟩ := p1
  refine ⟨z1, rfl, ?_⟩
  have g := oI_fr h q1 (by decide +kernel)
  refine fC_bd (ct_M_hold_d28d9 g.1 (by omega)) (fun I2 r2 q2 p2 => ⟨fBz g.1 q2, ?_⟩)
  obtain ⟨z2, rfl, p2⟩ := p2
  exact ⟨z2, rfl, oI_fr g q2 (by decide +kernel), trivial⟩
theorem op_28 {I : fH} {x1 : Int} {x2 : Int} (h : oI I) (a1 : fin32 x1) (a2 : fin32 x2) : oTwo la ρ base D dA xm_136 xm_427 [.inl x1, .inl x2] I (fun _ _ => True) := by
  refine fC_bd (ct_X_say_45bc8 h.1 (by omega) (by omega)) (fun I1 r1 q1 p1 => ⟨fBz h.1 q1, ?_⟩)
  obtain ⟨z1, rfl, p1⟩ := p1
  refine ⟨z1, rfl, ?_⟩
  have g := oI_fr h q1 (by decide +kernel)
  refine fC_bd (ct_M_say_fd1c8 g.1 (by omega) (by omega) g.2.1) (fun I2 r2 q2 p2 => ⟨fBz g.1 q2, ?_⟩)
  obtain ⟨z2, rfl, p2⟩ := p2
  exact ⟨z2, rfl, oI_fr g q2 (by decide +kernel), trivial⟩
theorem op_29 {I : fH} (h : oI I) : oTwo la ρ base D dA xm_139 xm_429 [] I (fun _ _ => True) := by
  refine fC_bd (ct_X_tally_70a62 h.1) (fun I1 r1 q1 p1 => ⟨fBz h.1 q1, ?_⟩)
  obtain ⟨z1, rfl, p1⟩ := p1
  refine ⟨z1, rfl, ?_⟩
  have g := oI_fr h q1 (by decide +kernel)
  refine fC_bd (ct_M_tally_f3255 g.1 g.2.1) (fun I2 r2 q2 p2 => ⟨fBz g.1 q2, ?_⟩)
  obtain ⟨z2, rfl, p2⟩ := p2
  exact ⟨z2, rfl, oI_fr g q2 (by decide +kernel), trivial⟩
theorem op_30 {I : fH} {x1 : Int} {x2 : Int} {x3 : Int} (h : oI I) (a1 : fin32 x1) (a2 : fin32 x2) (a3 : fin32 x3) : oTwo la ρ base D dA xm_143 xm_430 [.inl x1, .inl x2, .inl x3] I (fun _ _ => True) := by
  refine fC_bd (ct_X_may_176e4 h.1 (by omega) (by omega) (by omega)) (fun I1 r1 q1 p1 => ⟨fBz h.1 q1, ?_⟩)
  obtain ⟨z1, rfl, p1⟩ := p1
  refine ⟨z1, rfl, ?_⟩
  have g := oI_fr h q1 (by decide +kernel)
  refine fC_bd (ct_M_may_cbf6c g.1 (by omega) (by omega) (by omega) g.2.1) (fun I2 r2 q2 p2 => ⟨fBz g.1 q2, ?_⟩)
  obtain ⟨z2, rfl, p2⟩ := p2
  exact ⟨z2, rfl, oI_fr g q2 (by decide +kernel), trivial⟩
theorem op_31 {I : fH} {x1 : Int} (h : oI I) (a1 : fin32 x1) : oTwo la ρ base D dA xm_144 xm_431 [.inl x1] I (fun _ _ => True) := by
  refine fC_bd (ct_X_why_3ef58 h.1 (by omega)) (fun I1 r1 q1 p1 => ⟨fBz h.1 q1, ?_⟩)
  obtain ⟨z1, rfl, p1⟩ := p1
  refine ⟨z1, rfl, ?_⟩
  have g := oI_fr h q1 (by decide +kernel)
  refine fC_bd (ct_M_why_c5dd8 g.1 (by omega)) (fun I2 r2 q2 p2 => ⟨fBz g.1 q2, ?_⟩)
  obtain ⟨z2, rfl, p2⟩ := p2
  exact ⟨z2, rfl, oI_fr g q2 (by decide +kernel), trivial⟩
theorem op_32 {I : fH} {x1 : Int} {x2 : Int} (h : oI I) (a1 : fin32 x1) (a2 : fin32 x2) : oTwo la ρ base D dA xm_145 xm_432 [.inl x1, .inl x2] I (fun _ _ => True) := by
  refine fC_bd (ct_X_share_fd28f h.1 (by omega) (by omega)) (fun I1 r1 q1 p1 => ⟨fBz h.1 q1, ?_⟩)
  obtain ⟨z1, rfl, p1⟩ := p1
  refine ⟨z1, rfl, ?_⟩
  have g := oI_fr h q1 (by decide +kernel)
  refine fC_bd (ct_M_share_3f03c g.1 (by omega) (by omega) g.2.1) (fun I2 r2 q2 p2 => ⟨fBz g.1 q2, ?_⟩)
  obtain ⟨z2, rfl, p2⟩ := p2
  exact ⟨z2, rfl, oI_fr g q2 (by decide +kernel), trivial⟩
theorem op_33 {I : fH} {x1 : Int} (h : oI I) (a1 : fin32 x1) : oTwo la ρ base D dA xm_148 xm_433 [.inl x1] I (fun _ _ => True) := by
  refine fC_bd (ct_X_order_a16c4 h.1 (by omega)) (fun I1 r1 q1 p1 => ⟨fBz h.1 q1, ?_⟩)
  obtain ⟨z1, rfl, p1⟩ := p1
  refine ⟨z1, rfl, ?_⟩
  have g := oI_fr h q1 (by decide +kernel)
  refine fC_bd (ct_M_order_8f559 g.1 (by omega) g.2.1) (fun I2 r2 q2 p2 => ⟨fBz g.1 q2, ?_⟩)
  obtain ⟨z2, rfl, p2⟩ := p2
  exact ⟨z2, rfl, oI_fr g q2 (by decide +kernel), trivial⟩
theorem op_34 {I : fH} (h : oI I) : oTwo la ρ base D dA xm_153 xm_436 [] I (fun _ _ => True) := by
  refine fC_bd (ct_X_shed_66828 h.1) (fun I1 r1 q1 p1 => ⟨fBz h.1 q1, ?_⟩)
  obtain ⟨z1, rfl, p1⟩ := p1
  refine ⟨z1, rfl, ?_⟩
  have g := oI_fr h q1 (by decide +kernel)
  refine fC_bd (ct_M_shed_c99a1 g.1 g.2.1) (fun I2 r2 q2 p2 => ⟨fBz g.1 q2, ?_⟩)
  obtain ⟨z2, rfl, p2⟩ := p2
  exact ⟨z2, rfl, oI_fr g q2 (by decide +kernel), trivial⟩
theorem op_35 {I : fH} (h : oI I) : oTwo la ρ base D dA xm_155 xm_437 [] I (fun _ _ => True) := by
  refine fC_bd (ct_X_enough_1540b h.1) (fun I1 r1 q1 p1 => ⟨fBz h.1 q1, ?_⟩)
  obtain ⟨z1, rfl, p1⟩ := p1
  refine ⟨z1, rfl, ?_⟩
  have g := oI_fr h q1 (by decide +kernel)
  refine fC_bd (ct_M_enough_96175 g.1 g.2.1) (fun I2 r2 q2 p2 => ⟨fBz g.1 q2, ?_⟩)
  obtain ⟨z2, rfl, p2⟩ := p2
  exact ⟨z2, rfl, oI_fr g q2 (by decide +kernel), trivial⟩
theorem op_36 {I : fH} {x1 : Int} {x2 : Int} {x3 : Int} (h : oI I) (a1 : fin32 x1) (a2 : fin32 x2) (a3 : fin32 x3) : oTwo la ρ base D dA xm_156 xm_438 [.inl x1, .inl x2, .inl x3] I (fun _ _ => True) := by
  refine fC_bd (ct_X_gauge_a2643 h.1 (by omega) (by omega) (by omega)) (fun I1 r1 q1 p1 => ⟨fBz h.1 q1, ?_⟩)
  obtain ⟨z1, rfl, p1⟩ := p1
  refine ⟨z1, rfl, ?_⟩
  have g := oI_fr h q1 (by decide +kernel)
  refine fC_bd (ct_M_gauge_31c2d g.1 (by omega) (by omega) (by omega)) (fun I2 r2 q2 p2 => ⟨fBz g.1 q2, ?_⟩)
  obtain ⟨z2, rfl, p2⟩ := p2
  exact ⟨z2, rfl, oI_fr g q2 (by decide +kernel), trivial⟩
theorem op_37 {I : fH} {x1 : Int} {x2 : Int} {x3 : Int} (h : oI I) (a1 : fin32 x1) (a2 : fin32 x2) (a3 : fin32 x3) : oTwo la ρ base D dA xm_158 xm_439 [.inl x1, .inl x2, .inl x3] I (fun _ _ => True) := by
  refine fC_bd (ct_X_point_52a9b h.1 (by omega) (by omega) (by omega)) (fun I1 r1 q1 p1 => ⟨fBz h.1 q1, ?_⟩)
  obtain ⟨z1, rfl, p1⟩ := p1
  refine ⟨z1, rfl, ?_⟩
  have g := oI_fr h q1 (by decide +kernel)
  refine fC_bd (ct_M_point_4c325 g.1 (by omega) (by omega) (by omega)) (fun I2 r2 q2 p2 => ⟨fBz g.1 q2, ?_⟩)
  obtain ⟨z2, rfl, p2⟩ := p2
  exact ⟨z2, rfl, oI_fr g q2 (by decide +kernel), trivial⟩
theorem op_38 {I : fH} {x1 : Int} {x2 : Int} (h : oI I) (a1 : fin32 x1) (a2 : fin32 x2) : oTwo la ρ base D dA xm_161 xm_440 [.inl x1, .inl x2] I (fun _ _ => True) := by
  refine fC_bd (ct_X_read_09c2a h.1 (by omega) (by omega)) (fun I1 r1 q1 p1 => ⟨fBz h.1 q1, ?_⟩)
  obtain ⟨z1, rfl, p1⟩ := p1
  refine ⟨z1, rfl, ?_⟩
  have g := oI_fr h q1 (by decide +kernel)
  refine fC_bd (ct_M_read_fd62e g.1 (by omega) (by omega)) (fun I2 r2 q2 p2 => ⟨fBz g.1 q2, ?_⟩)
  obtain ⟨z2, rfl, p2⟩ := p2
  exact ⟨z2, rfl, oI_fr g q2 (by decide +kernel), trivial⟩
theorem op_39 {I : fH} {x1 : Int} {x2 : Int} (h : oI I) (a1 : fin32 x1) (a2 : fin32 x2) : oTwo la ρ base D dA xm_164 xm_443 [.inl x1, .inl x2] I (fun _ _ => True) := by
  refine fC_bd (ct_X_worst_10453 h.1 (by omega) (by omega)) (fun I1 r1 q1 p1 => ⟨fBz h.1 q1, ?_⟩)
  obtain ⟨z1, rfl, p1⟩ := p1
  refine ⟨z1, rfl, ?_⟩
  have g := oI_fr h q1 (by decide +kernel)
  refine fC_bd (ct_M_worst_21024 g.1 (by omega) (by omega)) (fun I2 r2 q2 p2 => ⟨fBz g.1 q2, ?_⟩)
  obtain ⟨z2, rfl, p2⟩ := p2
  exact ⟨z2, rfl, oI_fr g q2 (by decide +kernel), trivial⟩
end OP

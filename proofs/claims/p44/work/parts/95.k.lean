set_option linter.all false
/-! the calls keep what holds between them (written by gen91.py) -/
section OP
variable {ρ : Nat → Int32} {base : Nat} {D : va_G} {dA : Nat → ClassId} {la : Launch}
theorem op_57 {I : fH} {x1 : Int} {x2 : Int} (h : oI I) (a1 : fin32 x1) (a2 : fin32 x2) : oTwo la ρ base D dA xm_205 xm_476 [.inl x1, .inl x2] I (fun _ _ => True) := by
  refine fC_bd (ct_X_plan_77562 h.1 (by omega) (by omega)) (fun I1 r1 q1 p1 => ⟨fBz h.1 q1, ?_⟩)
  obtain ⟨z1, rfl, p1⟩ := p1
  refine ⟨z1, rfl, ?_⟩
  have g := oI_fr h q1 (by decide +kernel)
  refine fC_bd (ct_M_plan_47fe7 g.1 (by omega) (by omega)) (fun I2 r2 q2 p2 => ⟨fBz g.1 q2, ?_⟩)
  obtain ⟨z2, rfl, p2⟩ := p2
  exact ⟨z2, rfl, oI_fr g q2 (by decide +kernel), trivial⟩
theorem op_58 {I : fH} {x1 : Int} {x2 : Int} (h : oI I) (a1 : fin32 x1) (a2 : fin32 x2) : oTwo la ρ base D dA xm_216 xm_487 [.inl x1, .inl x2] I (fun _ _ => True) := by
  refine fC_bd (ct_X_planned_1f2a9 h.1 (by omega) (by omega)) (fun I1 r1 q1 p1 => ⟨fBz h.1 q1, ?_⟩)
  obtain ⟨z1, rfl, p1⟩ := p1
  refine ⟨z1, rfl, ?_⟩
  have g := oI_fr h q1 (by decide +kernel)
  refine fC_bd (ct_M_planned_1c024 g.1 (by omega) (by omega)) (fun I2 r2 q2 p2 => ⟨fBz g.1 q2, ?_⟩)
  obtain ⟨z2, rfl, p2⟩ := p2
  exact ⟨z2, rfl, oI_fr g q2 (by decide +kernel), trivial⟩
set_option maxRecDepth 8000 in
theorem op_59 {I : fH} {x1 : Int} (h : oI I) (a1 : fin32 x1) : oTwo la ρ base D dA xm_217 xm_488 [.inl x1] I (fun _ _ => True) := by
  have hP := h.2.2.2.1
  unfold oP at hP
  have b0 := fBd fb_m0 h.1
  have b1 := fBd fb_mk h.1
  have b2 := fBd fb_xk h.1
  refine fC_bd (ct_X_tell_f2ca8 h.1 (by omega)) (fun I1 r1 q1 p1 => ⟨fBz h.1 q1, ?_⟩)
  obtain ⟨z1, rfl, p1⟩ := p1
  refine ⟨z1, rfl, ?_⟩
  have f1 := fFr_of q1
  have g : fB bsJ I1 ∧ sI I1 741 ∧ kI I1 := ⟨fBz h.1 q1, sI_fr h.2.1 h.1 f1 (by decide +kernel), kI_fr h.2.2.1 h.1 f1 (by decide +kernel) (by decide +kernel)⟩
  have s0 := f1 699 1 (by decide +kernel)
  have s2 := f1 0 6 (by decide +kernel)
  have s3 := f1 1 9 (by decide +kernel)
  have s4 := f1 2 5 (by decide +kernel)
  have s5 := f1 2 10 (by decide +kernel)
  have s6 := f1 211 8 (by decide +kernel)
  have s7 := f1 211 11 (by decide +kernel)
  have s8 := f1 211 15 (by decide +kernel)
  have s9 := f1 163 13 (by decide +kernel)
  have s10 := f1 257 9 (by decide +kernel)
  have s11 := f1 258 5 (by decide +kernel)
  have s12 := f1 258 10 (by decide +kernel)
  have s13 := f1 467 8 (by decide +kernel)
  have s14 := f1 467 11 (by decide +kernel)
  have s15 := f1 467 15 (by decide +kernel)
  have s16 := f1 419 13 (by decide +kernel)
  have s17 := f1 740 8 (by decide +kernel)
  have s18 := f1 740 37 (by decide +kernel)
  have s19 := f1 740 3 (by decide +kernel)
  have s20 := f1 741 0 (by decide +kernel)
  have s21 := f1 741 5 (by decide +kernel)
  have s22 := f1 741 6 (by decide +kernel)
  have s23 := f1 741 10 (by decide +kernel)
  have s24 := f1 741 11 (by decide +kernel)
  have s25 := f1 741 12 (by decide +kernel)
  have s26 := f1 741 7 (by decide +kernel)
  have s27 := f1 742 0 (by decide +kernel)
  have s28 := f1 742 5 (by decide +kernel)
  have s29 := f1 742 6 (by decide +kernel)
  have s30 := f1 742 10 (by decide +kernel)
  have s31 := f1 742 11 (by decide +kernel)
  have s32 := f1 742 12 (by decide +kernel)
  have s33 := f1 742 7 (by decide +kernel)
  refine fC_bd (ct_M_tell_9320d g.1 (by omega)) (fun I2 r2 q2 p2 => ⟨fBz g.1 q2, ?_⟩)
  obtain ⟨z2, rfl, p2⟩ := p2
  have f2 := fFr_of q2
  have t0 := f2 699 1 (by decide +kernel)
  have t1 := f2 0 14 (by decide +kernel)
  have t2 := f2 0 6 (by decide +kernel)
  have t3 := f2 1 9 (by decide +kernel)
  have t4 := f2 2 5 (by decide +kernel)
  have t5 := f2 2 10 (by decide +kernel)
  have t6 := f2 211 8 (by decide +kernel)
  have t7 := f2 211 11 (by decide +kernel)
  have t8 := f2 211 15 (by decide +kernel)
  have t9 := f2 163 13 (by decide +kernel)
  have t10 := f2 257 9 (by decide +kernel)
  have t11 := f2 258 5 (by decide +kernel)
  have t12 := f2 258 10 (by decide +kernel)
  have t13 := f2 467 8 (by decide +kernel)
  have t14 := f2 467 11 (by decide +kernel)
  have t15 := f2 467 15 (by decide +kernel)
  have t16 := f2 419 13 (by decide +kernel)
  have t17 := f2 740 8 (by decide +kernel)
  have t19 := f2 740 3 (by decide +kernel)
  have t20 := f2 741 0 (by decide +kernel)
  have t21 := f2 741 5 (by decide +kernel)
  have t22 := f2 741 6 (by decide +kernel)
  have t23 := f2 741 10 (by decide +kernel)
  have t24 := f2 741 11 (by decide +kernel)
  have t25 := f2 741 12 (by decide +kernel)
  have t26 := f2 741 7 (by decide +kernel)
  have t27 := f2 742 0 (by decide +kernel)
  have t28 := f2 742 5 (by decide +kernel)
  have t29 := f2 742 6 (by decide +kernel)
  have t30 := f2 742 10 (by decide +kernel)
  have t31 := f2 742 11 (by decide +kernel)
  have t32 := f2 742 12 (by decide +kernel)
  have t33 := f2 742 7 (by decide +kernel)
  exact ⟨z2, rfl, ⟨fBz g.1 q2, sI_fr g.2.1 g.1 f2 (by decide +kernel), kI_fr g.2.2 g.1 f2 (by decide +kernel) (by decide +kernel), by unfold oP; omega, oQ_z (oQ_z h.2.2.2.2 f1 (by decide +kernel)) f2 (by decide +kernel)⟩, trivial⟩
end OP

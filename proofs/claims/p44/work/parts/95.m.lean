set_option linter.all false
/-! the calls keep what holds between them (written by gen91.py) -/
section OP
variable {ρ : Nat → Int32} {base : Nat} {D : va_G} {dA : Nat → ClassId} {la : Launch}
set_option maxRecDepth 8000 in
theorem op_61 {I : fH} (h : oI I) : oTwo la ρ base D dA xm_229 xm_495 [] I (fun _ _ => True) := by
  have hP := h.2.2.2.1
  unfold oP at hP
  have b0 := fBd fb_m0 h.1
  have b1 := fBd fb_mk h.1
  have b2 := fBd fb_xk h.1
  refine fC_bd (ct_X_keep_80613 h.1) (fun I1 r1 q1 p1 => ⟨fBz h.1 q1, ?_⟩)
  obtain ⟨z1, rfl, p1⟩ := p1
  refine ⟨z1, rfl, ?_⟩
  have f1 := fFr_of q1
  have g : fB bsJ I1 ∧ sI I1 741 ∧ kI I1 := ⟨fBz h.1 q1, sI_fr h.2.1 h.1 f1 (by decide +kernel), kI_fr h.2.2.1 h.1 f1 (by decide +kernel) (by decide +kernel)⟩
  have s0 := f1 699 1 (by decide +kernel)
  have s1 := f1 0 14 (by decide +kernel)
  have s3 := f1 1 9 (by decide +kernel)
  have s4 := f1 2 5 (by decide +kernel)
  have s5 := f1 2 10 (by decide +kernel)
  have s6 := f1 211 8 (by decide +kernel)
  have s7 := f1 211 11 (by decide +kernel)
  have s8 := f1 211 15 (by decide +kernel)
  have s9 := f1 163 13 (by decide +kernel)
  have s17 := f1 740 8 (by decide +kernel)
  have s18 := f1 740 37 (by decide +kernel)
  have s19 := f1 740 3 (by decide +kernel)
  have s20 := f1 741 0 (by decide +kernel)
  have s21 := f1 741 5 (by decide +kernel)
  have s22 := f1 741 6 (by decide +kernel)
  have s23 := f1 741 10 (by decide +kernel)
  have s24 := f1 741 11 (by decide +kernel)
  have s25 := f1 741 12 (by decide +kernel)
  have s26 := f1 741 7 (by decide +kernel)
  have s27 := f1 742 0 (by decide +kernel)
  have s28 := f1 742 5 (by decide +kernel)
  have s29 := f1 742 6 (by decide +kernel)
  have s30 := f1 742 10 (by decide +kernel)
  have s31 := f1 742 11 (by decide +kernel)
  have s32 := f1 742 12 (by decide +kernel)
  have s33 := f1 742 7 (by decide +kernel)
  obtain ⟨p1, u0, u1, u2, u3, u4, u5, u6, u7, u8, u9, u10, u11, u12, u13, u14⟩ := p1
  refine fC_bd (ct_M_keep_1913a g.1) (fun I2 r2 q2 p2 => ⟨fBz g.1 q2, ?_⟩)
  obtain ⟨z2, rfl, p2, v0⟩ := p2
  have f2 := fFr_of q2
  have t0 := f2 699 1 (by decide +kernel)
  have t1 := f2 0 14 (by decide +kernel)
  have t2 := f2 0 6 (by decide +kernel)
  have t3 := f2 1 9 (by decide +kernel)
  have t4 := f2 2 5 (by decide +kernel)
  have t5 := f2 2 10 (by decide +kernel)
  have t6 := f2 211 8 (by decide +kernel)
  have t7 := f2 211 11 (by decide +kernel)
  have t8 := f2 211 15 (by decide +kernel)
  have t9 := f2 163 13 (by decide +kernel)
  have t10 := f2 257 9 (by decide +kernel)
  have t11 := f2 258 5 (by decide +kernel)
  have t12 := f2 258 10 (by decide +kernel)
  have t13 := f2 467 8 (by decide +kernel)
  have t14 := f2 467 11 (by decide +kernel)
  have t15 := f2 467 15 (by decide +kernel)
  have t16 := f2 419 13 (by decide +kernel)
  have t17 := f2 740 8 (by decide +kernel)
  have t18 := f2 740 37 (by decide +kernel)
  have t20 := f2 741 0 (by decide +kernel)
  have t21 := f2 741 5 (by decide +kernel)
  have t22 := f2 741 6 (by decide +kernel)
  have t23 := f2 741 10 (by decide +kernel)
  have t24 := f2 741 11 (by decide +kernel)
  have t25 := f2 741 12 (by decide +kernel)
  have t26 := f2 741 7 (by decide +kernel)
  have k2 : kI I2 := fun _ => ⟨sI_congr (sBd_of g.1) (fun j hj => v0 j (relb_lt hj)) g.2.1, by rw [v0 3 (by decide)]; exact (fBd fb_m3 g.1).1, by rw [v0 0 (by decide)]; omega⟩
  have w0 := v0 0 (by decide)
  have w5 := v0 5 (by decide)
  have w6 := v0 6 (by decide)
  have w7 := v0 7 (by decide)
  have w10 := v0 10 (by decide)
  have w11 := v0 11 (by decide)
  have w12 := v0 12 (by decide)
  exact ⟨z2, rfl, ⟨fBz g.1 q2, sI_fr g.2.1 g.1 f2 (by decide +kernel), k2, by unfold oP; omega, ⟨⟨rT_fr (rT_fr h.2.2.2.2.1.1 f1 (by decide +kernel)) f2 (by decide +kernel), rT_fr (rT_fr h.2.2.2.2.1.2.1 f1 (by decide +kernel)) f2 (by decide +kernel), rT_fr (rT_fr h.2.2.2.2.1.2.2.1 f1 (by decide +kernel)) f2 (by decide +kernel), rT_fr (rT_fr h.2.2.2.2.1.2.2.2.1 f1 (by decide +kernel)) f2 (by decide +kernel), rT_fr (rT_fr h.2.2.2.2.1.2.2.2.2.1 f1 (by decide +kernel)) f2 (by decide +kernel), rT_fr (rT_fr h.2.2.2.2.1.2.2.2.2.2.1 f1 (by decide +kernel)) f2 (by decide +kernel), rT_fr (rT_fr h.2.2.2.2.1.2.2.2.2.2.2.1 f1 (by decide +kernel)) f2 (by decide +kernel), rT_fr (rT_fr h.2.2.2.2.1.2.2.2.2.2.2.2.1 f1 (by decide +kernel)) f2 (by decide +kernel), rT_fr (rT_fr h.2.2.2.2.1.2.2.2.2.2.2.2.2.1 f1 (by decide +kernel)) f2 (by decide +kernel), rT_fr (rT_fr h.2.2.2.2.1.2.2.2.2.2.2.2.2.2.1 f1 (by decide +kernel)) f2 (by decide +kernel), rT_fr (rT_fr h.2.2.2.2.1.2.2.2.2.2.2.2.2.2.2.1 f1 (by decide +kernel)) f2 (by decide +kernel), rT_fr (rT_fr h.2.2.2.2.1.2.2.2.2.2.2.2.2.2.2.2.1 f1 (by decide +kernel)) f2 (by decide +kernel), rT_fr (rT_fr h.2.2.2.2.1.2.2.2.2.2.2.2.2.2.2.2.2.1 f1 (by decide +kernel)) f2 (by decide +kernel), rT_fr (rT_fr h.2.2.2.2.1.2.2.2.2.2.2.2.2.2.2.2.2.2.1 f1 (by decide +kernel)) f2 (by decide +kernel), rT_fr (rT_fr h.2.2.2.2.1.2.2.2.2.2.2.2.2.2.2.2.2.2.2 f1 (by decide +kernel)) f2 (by decide +kernel)⟩, fun q => ⟨rT_keep h.2.2.2.2.1.1 f2 u1 f1 (by decide +kernel) (by decide +kernel) v0 (by decide), rT_keep h.2.2.2.2.1.2.1 f2 u2 f1 (by decide +kernel) (by decide +kernel) v0 (by decide), rT_keep h.2.2.2.2.1.2.2.1 f2 (one_row u3) f1 (by decide +kernel) (by decide +kernel) v0 (by decide), rT_keep h.2.2.2.2.1.2.2.2.1 f2 (one_row u4) f1 (by decide +kernel) (by decide +kernel) v0 (by decide), rT_keep h.2.2.2.2.1.2.2.2.2.1 f2 (one_row u5) f1 (by decide +kernel) (by decide +kernel) v0 (by decide), rT_keep h.2.2.2.2.1.2.2.2.2.2.1 f2 u6 f1 (by decide +kernel) (by decide +kernel) v0 (by decide), rT_keep h.2.2.2.2.1.2.2.2.2.2.2.1 f2 (one_row u7) f1 (by decide +kernel) (by decide +kernel) v0 (by decide), rT_keep h.2.2.2.2.1.2.2.2.2.2.2.2.1 f2 (one_row u8) f1 (by decide +kernel) (by decide +kernel) v0 (by decide), rT_keep h.2.2.2.2.1.2.2.2.2.2.2.2.2.1 f2 (one_row u9) f1 (by decide +kernel) (by decide +kernel) v0 (by decide), rT_keep h.2.2.2.2.1.2.2.2.2.2.2.2.2.2.1 f2 (one_row u10) f1 (by decide +kernel) (by decide +kernel) v0 (by decide), rT_keep h.2.2.2.2.1.2.2.2.2.2.2.2.2.2.2.1 f2 (one_row u11) f1 (by decide +kernel) (by decide +kernel) v0 (by decide), rT_keep h.2.2.2.2.1.2.2.2.2.2.2.2.2.2.2.2.1 f2 (one_row u12) f1 (by decide +kernel) (by decide +kernel) v0 (by decide), rT_keep h.2.2.2.2.1.2.2.2.2.2.2.2.2.2.2.2.2.1 f2 (one_row u13) f1 (by decide +kernel) (by decide +kernel) v0 (by decide), rT_keep h.2.2.2.2.1.2.2.2.2.2.2.2.2.2.2.2.2.2.1 f2 (one_row u14) f1 (by decide +kernel) (by decide +kernel) v0 (by decide), rT_keep h.2.2.2.2.1.2.2.2.2.2.2.2.2.2.2.2.2.2.2 f2 (one_row u0) f1 (by decide +kernel) (by decide +kernel) v0 (by decide)⟩⟩⟩, trivial⟩
end OP

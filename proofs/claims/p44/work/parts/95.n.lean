set_option linter.all false
/-! the calls keep what holds between them (written by gen91.py) -/
section OP
variable {ρ : Nat → Int32} {base : Nat} {D : va_G} {dA : Nat → ClassId} {la : Launch}
set_option maxRecDepth 8000 in
theorem op_62 {I : fH} (h : oI I) : oTwo la ρ base D dA xm_232 xm_496 [] I (fun _ _ => True) := by
  have hP := h.2.2.2.1
  unfold oP at hP
  have b0 := fBd fb_m0 h.1
  have b1 := fBd fb_mk h.1
  have b2 := fBd fb_xk h.1
  have e63 : I 740 3 = I 0 6 := by omega
  refine fC_bd (ct_X_back_43189 h.1) (fun I1 r1 q1 p1 => ⟨fBz h.1 q1, ?_⟩)
  obtain ⟨z1, rfl, p1⟩ := p1
  refine ⟨z1, rfl, ?_⟩
  have f1 := fFr_of q1
  have g : fB bsJ I1 ∧ sI I1 741 ∧ kI I1 := ⟨fBz h.1 q1, sI_fr h.2.1 h.1 f1 (by decide +kernel), kI_fr h.2.2.1 h.1 f1 (by decide +kernel) (by decide +kernel)⟩
  have s0 := f1 699 1 (by decide +kernel)
  have s1 := f1 0 14 (by decide +kernel)
  have s2 := f1 0 6 (by decide +kernel)
  have s10 := f1 257 9 (by decide +kernel)
  have s11 := f1 258 5 (by decide +kernel)
  have s12 := f1 258 10 (by decide +kernel)
  have s13 := f1 467 8 (by decide +kernel)
  have s14 := f1 467 11 (by decide +kernel)
  have s15 := f1 467 15 (by decide +kernel)
  have s16 := f1 419 13 (by decide +kernel)
  have s17 := f1 740 8 (by decide +kernel)
  have s18 := f1 740 37 (by decide +kernel)
  have s19 := f1 740 3 (by decide +kernel)
  have s20 := f1 741 0 (by decide +kernel)
  have s21 := f1 741 5 (by decide +kernel)
  have s22 := f1 741 6 (by decide +kernel)
  have s23 := f1 741 10 (by decide +kernel)
  have s24 := f1 741 11 (by decide +kernel)
  have s25 := f1 741 12 (by decide +kernel)
  have s26 := f1 741 7 (by decide +kernel)
  have s27 := f1 742 0 (by decide +kernel)
  have s28 := f1 742 5 (by decide +kernel)
  have s29 := f1 742 6 (by decide +kernel)
  have s30 := f1 742 10 (by decide +kernel)
  have s31 := f1 742 11 (by decide +kernel)
  have s32 := f1 742 12 (by decide +kernel)
  have s33 := f1 742 7 (by decide +kernel)
  obtain ⟨p1, u0, u1, u2, u3, u4, u5, u6, u7, u8, u9, u10, u11, u12, u13, u14, u15⟩ := p1
  refine fC_bd (ct_M_back_d558f g.1 (fun q => (g.2.2 q).2.1)) (fun I2 r2 q2 p2 => ⟨fBz g.1 q2, ?_⟩)
  obtain ⟨z2, rfl, p2, v0⟩ := p2
  have f2 := fFr_of q2
  have t0 := f2 699 1 (by decide +kernel)
  have t1 := f2 0 14 (by decide +kernel)
  have t2 := f2 0 6 (by decide +kernel)
  have t3 := f2 1 9 (by decide +kernel)
  have t4 := f2 2 5 (by decide +kernel)
  have t5 := f2 2 10 (by decide +kernel)
  have t6 := f2 211 8 (by decide +kernel)
  have t7 := f2 211 11 (by decide +kernel)
  have t8 := f2 211 15 (by decide +kernel)
  have t9 := f2 163 13 (by decide +kernel)
  have t10 := f2 257 9 (by decide +kernel)
  have t11 := f2 258 5 (by decide +kernel)
  have t12 := f2 258 10 (by decide +kernel)
  have t13 := f2 467 8 (by decide +kernel)
  have t14 := f2 467 11 (by decide +kernel)
  have t15 := f2 467 15 (by decide +kernel)
  have t16 := f2 419 13 (by decide +kernel)
  have t17 := f2 740 8 (by decide +kernel)
  have t18 := f2 740 37 (by decide +kernel)
  have t19 := f2 740 3 (by decide +kernel)
  have t27 := f2 742 0 (by decide +kernel)
  have t28 := f2 742 5 (by decide +kernel)
  have t29 := f2 742 6 (by decide +kernel)
  have t30 := f2 742 10 (by decide +kernel)
  have t31 := f2 742 11 (by decide +kernel)
  have t32 := f2 742 12 (by decide +kernel)
  have t33 := f2 742 7 (by decide +kernel)
  have ee : I1 740 3 = I 0 6 := s19.trans e63
  have ss2 : sI I2 741 ∧ I2 741 0 ≤ 20000 := by
    by_cases e : I1 740 3 = 1
    · have k := g.2.2 e
      exact ⟨sI_congr (sBd_of2 g.1) (fun j hj => v0.1 e j (relb_lt hj)) k.1, by rw [v0.1 e 0 (by decide)]; exact k.2.2⟩
    · exact ⟨sI_congr (sBd_of g.1) (fun j _ => v0.2 e j) g.2.1, by rw [v0.2 e 0, s20]; exact hP.1⟩
  have v := ss2.2
  have oz : oP I2 ∧ z1 = z2 := by
    by_cases e : I 0 6 = 1
    · have a1 := p1.2.1.1 e
      have a2 := p1.2.2.1 e
      have a3 := p2.2.1 (ee.trans e)
      have w0 := v0.1 (ee.trans e) 0 (by decide)
      have w5 := v0.1 (ee.trans e) 5 (by decide)
      have w6 := v0.1 (ee.trans e) 6 (by decide)
      have w7 := v0.1 (ee.trans e) 7 (by decide)
      have w10 := v0.1 (ee.trans e) 10 (by decide)
      have w11 := v0.1 (ee.trans e) 11 (by decide)
      have w12 := v0.1 (ee.trans e) 12 (by decide)
      clear p1 p2
      unfold oP
      omega
    · have a1 := p1.2.1.2 e
      have a2 := p1.2.2.2 e
      have a3 := p2.2.2 (fun q => e (ee.symm.trans q))
      have w0 := v0.2 (fun q => e (ee.symm.trans q)) 0
      have w5 := v0.2 (fun q => e (ee.symm.trans q)) 5
      have w6 := v0.2 (fun q => e (ee.symm.trans q)) 6
      have w7 := v0.2 (fun q => e (ee.symm.trans q)) 7
      have w10 := v0.2 (fun q => e (ee.symm.trans q)) 10
      have w11 := v0.2 (fun q => e (ee.symm.trans q)) 11
      have w12 := v0.2 (fun q => e (ee.symm.trans q)) 12
      clear p1 p2
      unfold oP
      omega
  have tq : oQ I2 := by
    by_cases e : I 0 6 = 1
    · have hi := h.2.2.2.2.2 e
      exact ⟨⟨rT_back hi.1 f2 (u2 e) f1 (by decide +kernel) (by decide +kernel) (v0.1 (ee.trans e)) (by decide), rT_back hi.2.1 f2 (u3 e) f1 (by decide +kernel) (by decide +kernel) (v0.1 (ee.trans e)) (by decide), rT_back hi.2.2.1 f2 (one_row (u4 e)) f1 (by decide +kernel) (by decide +kernel) (v0.1 (ee.trans e)) (by decide), rT_back hi.2.2.2.1 f2 (one_row (u5 e)) f1 (by decide +kernel) (by decide +kernel) (v0.1 (ee.trans e)) (by decide), rT_back hi.2.2.2.2.1 f2 (one_row (u6 e)) f1 (by decide +kernel) (by decide +kernel) (v0.1 (ee.trans e)) (by decide), rT_back hi.2.2.2.2.2.1 f2 (u7 e) f1 (by decide +kernel) (by decide +kernel) (v0.1 (ee.trans e)) (by decide), rT_back hi.2.2.2.2.2.2.1 f2 (one_row (u8 e)) f1 (by decide +kernel) (by decide +kernel) (v0.1 (ee.trans e)) (by decide), rT_back hi.2.2.2.2.2.2.2.1 f2 (one_row (u9 e)) f1 (by decide +kernel) (by decide +kernel) (v0.1 (ee.trans e)) (by decide), rT_back hi.2.2.2.2.2.2.2.2.1 f2 (one_row (u10 e)) f1 (by decide +kernel) (by decide +kernel) (v0.1 (ee.trans e)) (by decide), rT_back hi.2.2.2.2.2.2.2.2.2.1 f2 (one_row (u11 e)) f1 (by decide +kernel) (by decide +kernel) (v0.1 (ee.trans e)) (by decide), rT_back hi.2.2.2.2.2.2.2.2.2.2.1 f2 (one_row (u12 e)) f1 (by decide +kernel) (by decide +kernel) (v0.1 (ee.trans e)) (by decide), rT_back hi.2.2.2.2.2.2.2.2.2.2.2.1 f2 (one_row (u13 e)) f1 (by decide +kernel) (by decide +kernel) (v0.1 (ee.trans e)) (by decide), rT_back hi.2.2.2.2.2.2.2.2.2.2.2.2.1 f2 (one_row (u14 e)) f1 (by decide +kernel) (by decide +kernel) (v0.1 (ee.trans e)) (by decide), rT_back hi.2.2.2.2.2.2.2.2.2.2.2.2.2.1 f2 (one_row (u15 e)) f1 (by decide +kernel) (by decide +kernel) (v0.1 (ee.trans e)) (by decide), rT_back hi.2.2.2.2.2.2.2.2.2.2.2.2.2.2 f2 (one_row (u1 e)) f1 (by decide +kernel) (by decide +kernel) (v0.1 (ee.trans e)) (by decide)⟩, fun _ => ⟨rT_fr (rT_fr hi.1 f1 (by decide +kernel)) f2 (by decide +kernel), rT_fr (rT_fr hi.2.1 f1 (by decide +kernel)) f2 (by decide +kernel), rT_fr (rT_fr hi.2.2.1 f1 (by decide +kernel)) f2 (by decide +kernel), rT_fr (rT_fr hi.2.2.2.1 f1 (by decide +kernel)) f2 (by decide +kernel), rT_fr (rT_fr hi.2.2.2.2.1 f1 (by decide +kernel)) f2 (by decide +kernel), rT_fr (rT_fr hi.2.2.2.2.2.1 f1 (by decide +kernel)) f2 (by decide +kernel), rT_fr (rT_fr hi.2.2.2.2.2.2.1 f1 (by decide +kernel)) f2 (by decide +kernel), rT_fr (rT_fr hi.2.2.2.2.2.2.2.1 f1 (by decide +kernel)) f2 (by decide +kernel), rT_fr (rT_fr hi.2.2.2.2.2.2.2.2.1 f1 (by decide +kernel)) f2 (by decide +kernel), rT_fr (rT_fr hi.2.2.2.2.2.2.2.2.2.1 f1 (by decide +kernel)) f2 (by decide +kernel), rT_fr (rT_fr hi.2.2.2.2.2.2.2.2.2.2.1 f1 (by decide +kernel)) f2 (by decide +kernel), rT_fr (rT_fr hi.2.2.2.2.2.2.2.2.2.2.2.1 f1 (by decide +kernel)) f2 (by decide +kernel), rT_fr (rT_fr hi.2.2.2.2.2.2.2.2.2.2.2.2.1 f1 (by decide +kernel)) f2 (by decide +kernel), rT_fr (rT_fr hi.2.2.2.2.2.2.2.2.2.2.2.2.2.1 f1 (by decide +kernel)) f2 (by decide +kernel), rT_fr (rT_fr hi.2.2.2.2.2.2.2.2.2.2.2.2.2.2 f1 (by decide +kernel)) f2 (by decide +kernel)⟩⟩
    · have e1 := u0 e
      have ev := v0.2 (fun q => e (ee.symm.trans q))
      have e6 := t2.trans s2
      rw [e1] at f2 ev
      exact ⟨⟨rT_same h.2.2.2.2.1.1 f2 (by decide +kernel) ev, rT_same h.2.2.2.2.1.2.1 f2 (by decide +kernel) ev, rT_same h.2.2.2.2.1.2.2.1 f2 (by decide +kernel) ev, rT_same h.2.2.2.2.1.2.2.2.1 f2 (by decide +kernel) ev, rT_same h.2.2.2.2.1.2.2.2.2.1 f2 (by decide +kernel) ev, rT_same h.2.2.2.2.1.2.2.2.2.2.1 f2 (by decide +kernel) ev, rT_same h.2.2.2.2.1.2.2.2.2.2.2.1 f2 (by decide +kernel) ev, rT_same h.2.2.2.2.1.2.2.2.2.2.2.2.1 f2 (by decide +kernel) ev, rT_same h.2.2.2.2.1.2.2.2.2.2.2.2.2.1 f2 (by decide +kernel) ev, rT_same h.2.2.2.2.1.2.2.2.2.2.2.2.2.2.1 f2 (by decide +kernel) ev, rT_same h.2.2.2.2.1.2.2.2.2.2.2.2.2.2.2.1 f2 (by decide +kernel) ev, rT_same h.2.2.2.2.1.2.2.2.2.2.2.2.2.2.2.2.1 f2 (by decide +kernel) ev, rT_same h.2.2.2.2.1.2.2.2.2.2.2.2.2.2.2.2.2.1 f2 (by decide +kernel) ev, rT_same h.2.2.2.2.1.2.2.2.2.2.2.2.2.2.2.2.2.2.1 f2 (by decide +kernel) ev, rT_same h.2.2.2.2.1.2.2.2.2.2.2.2.2.2.2.2.2.2.2 f2 (by decide +kernel) ev⟩, fun q => absurd (e6.symm.trans q) e⟩
  exact ⟨z2, rfl, ⟨fBz g.1 q2, ss2.1, kI_fr g.2.2 g.1 f2 (by decide +kernel) (by decide +kernel), oz.1, tq⟩, trivial⟩
end OP

set_option linter.all false
/-! the calls keep what holds between them (written by gen91.py) -/
section OP
variable {ρ : Nat → Int32} {base : Nat} {D : va_G} {dA : Nat → ClassId} {la : Launch}
def oQZ : List Nat := [164, 183, 212, 221, 222, 223, 224, 249, 250, 251, 252, 253, 254, 255, 256, 420, 439, 468, 477, 478, 479, 480, 505, 506, 507, 508, 509, 510, 511, 512, 742, 10006, 20300, 20500, 20800, 20801, 20802, 20810, 20811, 20820, 20821, 20822, 20830, 20831, 20832, 20833, 20834]
theorem oQn_z {W : List Nat} {I I' : fH} (h : oQn I) (f : fFr znJ W I I') (w : oQZ.all (fun z => Bool.not (W.elem z)) = true) : oQn I' := ⟨rT_fr h.1 f (rTz_sub (by decide +kernel) w), rT_fr h.2.1 f (rTz_sub (by decide +kernel) w), rT_fr h.2.2.1 f (rTz_sub (by decide +kernel) w), rT_fr h.2.2.2.1 f (rTz_sub (by decide +kernel) w), rT_fr h.2.2.2.2.1 f (rTz_sub (by decide +kernel) w), rT_fr h.2.2.2.2.2.1 f (rTz_sub (by decide +kernel) w), rT_fr h.2.2.2.2.2.2.1 f (rTz_sub (by decide +kernel) w), rT_fr h.2.2.2.2.2.2.2.1 f (rTz_sub (by decide +kernel) w), rT_fr h.2.2.2.2.2.2.2.2.1 f (rTz_sub (by decide +kernel) w), rT_fr h.2.2.2.2.2.2.2.2.2.1 f (rTz_sub (by decide +kernel) w), rT_fr h.2.2.2.2.2.2.2.2.2.2.1 f (rTz_sub (by decide +kernel) w), rT_fr h.2.2.2.2.2.2.2.2.2.2.2.1 f (rTz_sub (by decide +kernel) w), rT_fr h.2.2.2.2.2.2.2.2.2.2.2.2.1 f (rTz_sub (by decide +kernel) w), rT_fr h.2.2.2.2.2.2.2.2.2.2.2.2.2.1 f (rTz_sub (by decide +kernel) w), rT_fr h.2.2.2.2.2.2.2.2.2.2.2.2.2.2 f (rTz_sub (by decide +kernel) w)⟩
theorem oQi_z {W : List Nat} {I I' : fH} (h : oQi I) (f : fFr znJ W I I') (w : oQZ.all (fun z => Bool.not (W.elem z)) = true) : oQi I' := ⟨rT_fr h.1 f (rTz_sub (by decide +kernel) w), rT_fr h.2.1 f (rTz_sub (by decide +kernel) w), rT_fr h.2.2.1 f (rTz_sub (by decide +kernel) w), rT_fr h.2.2.2.1 f (rTz_sub (by decide +kernel) w), rT_fr h.2.2.2.2.1 f (rTz_sub (by decide +kernel) w), rT_fr h.2.2.2.2.2.1 f (rTz_sub (by decide +kernel) w), rT_fr h.2.2.2.2.2.2.1 f (rTz_sub (by decide +kernel) w), rT_fr h.2.2.2.2.2.2.2.1 f (rTz_sub (by decide +kernel) w), rT_fr h.2.2.2.2.2.2.2.2.1 f (rTz_sub (by decide +kernel) w), rT_fr h.2.2.2.2.2.2.2.2.2.1 f (rTz_sub (by decide +kernel) w), rT_fr h.2.2.2.2.2.2.2.2.2.2.1 f (rTz_sub (by decide +kernel) w), rT_fr h.2.2.2.2.2.2.2.2.2.2.2.1 f (rTz_sub (by decide +kernel) w), rT_fr h.2.2.2.2.2.2.2.2.2.2.2.2.1 f (rTz_sub (by decide +kernel) w), rT_fr h.2.2.2.2.2.2.2.2.2.2.2.2.2.1 f (rTz_sub (by decide +kernel) w), rT_fr h.2.2.2.2.2.2.2.2.2.2.2.2.2.2 f (rTz_sub (by decide +kernel) w)⟩
theorem oQ_z {W : List Nat} {I I' : fH} (h : oQ I) (f : fFr znJ W I I') (w : oQZ.all (fun z => Bool.not (W.elem z)) = true) : oQ I' := ⟨oQn_z h.1 f w, fun q => oQi_z (h.2 ((f 0 6 (bnot_el (List.all_eq_true.mp w 10006 (by decide)))).symm.trans q)) f w⟩
def oZ : List Nat := [20005, 20006, 20009, 20010, 20100, 20200, 20201, 20604, 20605, 20800, 11701, 10014, 10006, 10109, 10205, 10210, 10608, 10611, 10615, 10313, 10709, 10805, 10810, 11208, 11211, 11215, 10913, 12208, 12237, 12203, 20000, 20011, 20012, 20007, 742, 164, 183, 212, 221, 222, 223, 224, 249, 250, 251, 252, 253, 254, 255, 256, 420, 439, 468, 477, 478, 479, 480, 505, 506, 507, 508, 509, 510, 511, 512, 20300, 20500, 20801, 20802, 20810, 20811, 20820, 20821, 20822, 20830, 20831, 20832, 20833, 20834]
theorem oZ_s {W : List Nat} (h : oZ.all (fun z => Bool.not (W.elem z)) = true) {z : Nat} (hz : z ∈ oZ) : W.elem z = false := bnot_el (List.all_eq_true.mp h z hz)
theorem oZ_sub : sZs.all (fun z => oZ.elem z) = true := by decide +kernel
theorem oZ_sub2 : oQZ.all (fun z => oZ.elem z) = true := by decide +kernel
theorem fb_m3 : bsJ 741 3 = (2, 9999) := by decide +kernel
theorem fb_m0 : bsJ 741 0 = (0, 22000) := by decide +kernel
theorem fb_mk : bsJ 740 3 = (0, 1) := by decide +kernel
theorem fb_xk : bsJ 0 6 = (0, 1) := by decide +kernel
theorem fb_m11 : bsJ 741 11 = (0, 10) := by decide +kernel
theorem fb_m12 : bsJ 741 12 = (0, 7) := by decide +kernel
theorem fb_m7 : bsJ 741 7 = (0, 24) := by decide +kernel
theorem oI_fr {W : List Nat} {I I' : fH} (h : oI I) (q : fB (fbz bsJ znJ (fKc W) I) I') (w : oZ.all (fun z => Bool.not (W.elem z)) = true) : oI I' := by
  have f := fFr_of q
  have hs : sZs.all (fun z => Bool.not (W.elem z)) = true := List.all_eq_true.mpr (fun z hz => by rw [oZ_s w (List.elem_iff.mp (List.all_eq_true.mp oZ_sub z hz))]; rfl)
  have hq : oQZ.all (fun z => Bool.not (W.elem z)) = true := List.all_eq_true.mpr (fun z hz => by rw [oZ_s w (List.elem_iff.mp (List.all_eq_true.mp oZ_sub2 z hz))]; rfl)
  have hP := h.2.2.2.1
  unfold oP at hP
  have e0 := f 699 1 (oZ_s w (by decide +kernel))
  have e1 := f 0 14 (oZ_s w (by decide +kernel))
  have e2 := f 0 6 (oZ_s w (by decide +kernel))
  have e3 := f 1 9 (oZ_s w (by decide +kernel))
  have e4 := f 2 5 (oZ_s w (by decide +kernel))
  have e5 := f 2 10 (oZ_s w (by decide +kernel))
  have e6 := f 211 8 (oZ_s w (by decide +kernel))
  have e7 := f 211 11 (oZ_s w (by decide +kernel))
  have e8 := f 211 15 (oZ_s w (by decide +kernel))
  have e9 := f 163 13 (oZ_s w (by decide +kernel))
  have e10 := f 257 9 (oZ_s w (by decide +kernel))
  have e11 := f 258 5 (oZ_s w (by decide +kernel))
  have e12 := f 258 10 (oZ_s w (by decide +kernel))
  have e13 := f 467 8 (oZ_s w (by decide +kernel))
  have e14 := f 467 11 (oZ_s w (by decide +kernel))
  have e15 := f 467 15 (oZ_s w (by decide +kernel))
  have e16 := f 419 13 (oZ_s w (by decide +kernel))
  have e17 := f 740 8 (oZ_s w (by decide +kernel))
  have e18 := f 740 37 (oZ_s w (by decide +kernel))
  have e19 := f 740 3 (oZ_s w (by decide +kernel))
  have e20 := f 741 0 (oZ_s w (by decide +kernel))
  have e21 := f 741 5 (oZ_s w (by decide +kernel))
  have e22 := f 741 6 (oZ_s w (by decide +kernel))
  have e23 := f 741 10 (oZ_s w (by decide +kernel))
  have e24 := f 741 11 (oZ_s w (by decide +kernel))
  have e25 := f 741 12 (oZ_s w (by decide +kernel))
  have e26 := f 741 7 (oZ_s w (by decide +kernel))
  have e27 := f 742 0 (oZ_s w (by decide +kernel))
  have e28 := f 742 5 (oZ_s w (by decide +kernel))
  have e29 := f 742 6 (oZ_s w (by decide +kernel))
  have e30 := f 742 10 (oZ_s w (by decide +kernel))
  have e31 := f 742 11 (oZ_s w (by decide +kernel))
  have e32 := f 742 12 (oZ_s w (by decide +kernel))
  have e33 := f 742 7 (oZ_s w (by decide +kernel))
  exact ⟨fBz h.1 q, sI_fr h.2.1 h.1 f hs, kI_fr h.2.2.1 h.1 f (oZ_s w (by decide +kernel)) (oZ_s w (by decide +kernel)), by unfold oP; omega, oQ_z h.2.2.2.2 f hq⟩
set_option maxRecDepth 8000 in
theorem op_0 {I : fH} {x1 : Int} (h : oI I) (a1 : fin32 x1) : oTwo la ρ base D dA xm_12 xm_237 [.inl x1] I (fun _ _ => True) := by
  have hP := h.2.2.2.1
  unfold oP at hP
  have b0 := fBd fb_m0 h.1
  have b1 := fBd fb_mk h.1
  have b2 := fBd fb_xk h.1
  refine fC_bd (ct_X_cell_2a5f0 h.1 (by omega)) (fun I1 r1 q1 p1 => ⟨fBz h.1 q1, ?_⟩)
  obtain ⟨z1, rfl, p1⟩ := p1
  refine ⟨z1, rfl, ?_⟩
  have f1 := fFr_of q1
  have g : fB bsJ I1 ∧ sI I1 741 ∧ kI I1 := ⟨fBz h.1 q1, sI_fr h.2.1 h.1 f1 (by decide +kernel), kI_fr h.2.2.1 h.1 f1 (by decide +kernel) (by decide +kernel)⟩
  have s0 := f1 699 1 (by decide +kernel)
  have s1 := f1 0 14 (by decide +kernel)
  have s2 := f1 0 6 (by decide +kernel)
  have s3 := f1 1 9 (by decide +kernel)
  have s5 := f1 2 10 (by decide +kernel)
  have s6 := f1 211 8 (by decide +kernel)
  have s7 := f1 211 11 (by decide +kernel)
  have s8 := f1 211 15 (by decide +kernel)
  have s9 := f1 163 13 (by decide +kernel)
  have s10 := f1 257 9 (by decide +kernel)
  have s11 := f1 258 5 (by decide +kernel)
  have s12 := f1 258 10 (by decide +kernel)
  have s13 := f1 467 8 (by decide +kernel)
  have s14 := f1 467 11 (by decide +kernel)
  have s15 := f1 467 15 (by decide +kernel)
  have s16 := f1 419 13 (by decide +kernel)
  have s17 := f1 740 8 (by decide +kernel)
  have s18 := f1 740 37 (by decide +kernel)
  have s19 := f1 740 3 (by decide +kernel)
  have s20 := f1 741 0 (by decide +kernel)
  have s21 := f1 741 5 (by decide +kernel)
  have s22 := f1 741 6 (by decide +kernel)
  have s23 := f1 741 10 (by decide +kernel)
  have s24 := f1 741 11 (by decide +kernel)
  have s25 := f1 741 12 (by decide +kernel)
  have s26 := f1 741 7 (by decide +kernel)
  have s27 := f1 742 0 (by decide +kernel)
  have s28 := f1 742 5 (by decide +kernel)
  have s29 := f1 742 6 (by decide +kernel)
  have s30 := f1 742 10 (by decide +kernel)
  have s31 := f1 742 11 (by decide +kernel)
  have s32 := f1 742 12 (by decide +kernel)
  have s33 := f1 742 7 (by decide +kernel)
  refine fC_bd (ct_M_cell_185e1 g.1 (by omega) g.2.1) (fun I2 r2 q2 p2 => ⟨fBz g.1 q2, ?_⟩)
  obtain ⟨z2, rfl, p2, v0⟩ := p2
  have f2 := fFr_of q2
  have t0 := f2 699 1 (by decide +kernel)
  have t1 := f2 0 14 (by decide +kernel)
  have t2 := f2 0 6 (by decide +kernel)
  have t3 := f2 1 9 (by decide +kernel)
  have t4 := f2 2 5 (by decide +kernel)
  have t5 := f2 2 10 (by decide +kernel)
  have t6 := f2 211 8 (by decide +kernel)
  have t7 := f2 211 11 (by decide +kernel)
  have t8 := f2 211 15 (by decide +kernel)
  have t9 := f2 163 13 (by decide +kernel)
  have t10 := f2 257 9 (by decide +kernel)
  have t11 := f2 258 5 (by decide +kernel)
  have t12 := f2 258 10 (by decide +kernel)
  have t13 := f2 467 8 (by decide +kernel)
  have t14 := f2 467 11 (by decide +kernel)
  have t15 := f2 467 15 (by decide +kernel)
  have t16 := f2 419 13 (by decide +kernel)
  have t17 := f2 740 8 (by decide +kernel)
  have t18 := f2 740 37 (by decide +kernel)
  have t19 := f2 740 3 (by decide +kernel)
  have t20 := f2 741 0 (by decide +kernel)
  have t22 := f2 741 6 (by decide +kernel)
  have t23 := f2 741 10 (by decide +kernel)
  have t24 := f2 741 11 (by decide +kernel)
  have t25 := f2 741 12 (by decide +kernel)
  have t26 := f2 741 7 (by decide +kernel)
  have t27 := f2 742 0 (by decide +kernel)
  have t28 := f2 742 5 (by decide +kernel)
  have t29 := f2 742 6 (by decide +kernel)
  have t30 := f2 742 10 (by decide +kernel)
  have t31 := f2 742 11 (by decide +kernel)
  have t32 := f2 742 12 (by decide +kernel)
  have t33 := f2 742 7 (by decide +kernel)
  exact ⟨z2, rfl, ⟨fBz g.1 q2, v0, kI_fr g.2.2 g.1 f2 (by decide +kernel) (by decide +kernel), by unfold oP; omega, oQ_z (oQ_z h.2.2.2.2 f1 (by decide +kernel)) f2 (by decide +kernel)⟩, trivial⟩
theorem op_1 {I : fH} {x1 : Int} {x2 : Int} {x3 : Int} (h : oI I) (a1 : fin32 x1) (a2 : fin32 x2) (a3 : fin32 x3) : oTwo la ρ base D dA xm_16 xm_240 [.inl x1, .inl x2, .inl x3] I (fun _ _ => True) := by
  refine fC_bd (ct_X_air_0ab97 h.1 (by omega) (by omega) (by omega)) (fun I1 r1 q1 p1 => ⟨fBz h.1 q1, ?_⟩)
  obtain ⟨z1, rfl, p1⟩ := p1
  refine ⟨z1, rfl, ?_⟩
  have g := oI_fr h q1 (by decide +kernel)
  refine fC_bd (ct_M_air_7df55 g.1 (by omega) (by omega) (by omega)) (fun I2 r2 q2 p2 => ⟨fBz g.1 q2, ?_⟩)
  obtain ⟨z2, rfl, p2⟩ := p2
  exact ⟨z2, rfl, oI_fr g q2 (by decide +kernel), trivial⟩
theorem op_2 {I : fH} {x1 : Int} {x2 : Int} (h : oI I) (a1 : fin32 x1) (a2 : fin32 x2) : oTwo la ρ base D dA xm_19 xm_243 [.inl x1, .inl x2] I (fun _ _ => True) := by
  refine fC_bd (ct_X_told_6cf86 h.1 (by omega) (by omega)) (fun I1 r1 q1 p1 => ⟨fBz h.1 q1, ?_⟩)
  obtain ⟨z1, rfl, p1⟩ := p1
  refine ⟨z1, rfl, ?_⟩
  have g := oI_fr h q1 (by decide +kernel)
  refine fC_bd (ct_M_told_3fceb g.1 (by omega) (by omega)) (fun I2 r2 q2 p2 => ⟨fBz g.1 q2, ?_⟩)
  obtain ⟨z2, rfl, p2⟩ := p2
  exact ⟨z2, rfl, oI_fr g q2 (by decide +kernel), trivial⟩
set_option maxRecDepth 8000 in
theorem op_3 {I : fH} {x1 : Int} {x2 : Int} {x3 : Int} (h : oI I) (a1 : fin32 x1) (a2 : fin32 x2) (a3 : fin32 x3) : oTwo la ρ base D dA xm_23 xm_249 [.inl x1, .inl x2, .inl x3] I (fun _ _ => True) := by
  have hP := h.2.2.2.1
  unfold oP at hP
  have b0 := fBd fb_m0 h.1
  have b1 := fBd fb_mk h.1
  have b2 := fBd fb_xk h.1
  refine fC_bd (ct_X_lock_50d55 h.1 (by omega) (by omega) (by omega)) (fun I1 r1 q1 p1 => ⟨fBz h.1 q1, ?_⟩)
  obtain ⟨z1, rfl, p1⟩ := p1
  refine ⟨z1, rfl, ?_⟩
  have f1 := fFr_of q1
  have g : fB bsJ I1 ∧ sI I1 741 ∧ kI I1 := ⟨fBz h.1 q1, sI_fr h.2.1 h.1 f1 (by decide +kernel), kI_fr h.2.2.1 h.1 f1 (by decide +kernel) (by decide +kernel)⟩
  have s0 := f1 699 1 (by decide +kernel)
  have s1 := f1 0 14 (by decide +kernel)
  have s2 := f1 0 6 (by decide +kernel)
  have s3 := f1 1 9 (by decide +kernel)
  have s4 := f1 2 5 (by decide +kernel)
  have s6 := f1 211 8 (by decide +kernel)
  have s7 := f1 211 11 (by decide +kernel)
  have s8 := f1 211 15 (by decide +kernel)
  have s9 := f1 163 13 (by decide +kernel)
  have s10 := f1 257 9 (by decide +kernel)
  have s11 := f1 258 5 (by decide +kernel)
  have s12 := f1 258 10 (by decide +kernel)
  have s13 := f1 467 8 (by decide +kernel)
  have s14 := f1 467 11 (by decide +kernel)
  have s15 := f1 467 15 (by decide +kernel)
  have s16 := f1 419 13 (by decide +kernel)
  have s17 := f1 740 8 (by decide +kernel)
  have s18 := f1 740 37 (by decide +kernel)
  have s19 := f1 740 3 (by decide +kernel)
  have s20 := f1 741 0 (by decide +kernel)
  have s21 := f1 741 5 (by decide +kernel)
  have s22 := f1 741 6 (by decide +kernel)
  have s23 := f1 741 10 (by decide +kernel)
  have s24 := f1 741 11 (by decide +kernel)
  have s25 := f1 741 12 (by decide +kernel)
  have s26 := f1 741 7 (by decide +kernel)
  have s27 := f1 742 0 (by decide +kernel)
  have s28 := f1 742 5 (by decide +kernel)
  have s29 := f1 742 6 (by decide +kernel)
  have s30 := f1 742 10 (by decide +kernel)
  have s31 := f1 742 11 (by decide +kernel)
  have s32 := f1 742 12 (by decide +kernel)
  have s33 := f1 742 7 (by decide +kernel)
  refine fC_bd (ct_M_lock_29b98 g.1 (by omega) (by omega) (by omega) g.2.1) (fun I2 r2 q2 p2 => ⟨fBz g.1 q2, ?_⟩)
  obtain ⟨z2, rfl, p2, v0⟩ := p2
  have f2 := fFr_of q2
  have t0 := f2 699 1 (by decide +kernel)
  have t1 := f2 0 14 (by decide +kernel)
  have t2 := f2 0 6 (by decide +kernel)
  have t3 := f2 1 9 (by decide +kernel)
  have t4 := f2 2 5 (by decide +kernel)
  have t5 := f2 2 10 (by decide +kernel)
  have t6 := f2 211 8 (by decide +kernel)
  have t7 := f2 211 11 (by decide +kernel)
  have t8 := f2 211 15 (by decide +kernel)
  have t9 := f2 163 13 (by decide +kernel)
  have t10 := f2 257 9 (by decide +kernel)
  have t11 := f2 258 5 (by decide +kernel)
  have t12 := f2 258 10 (by decide +kernel)
  have t13 := f2 467 8 (by decide +kernel)
  have t14 := f2 467 11 (by decide +kernel)
  have t15 := f2 467 15 (by decide +kernel)
  have t16 := f2 419 13 (by decide +kernel)
  have t17 := f2 740 8 (by decide +kernel)
  have t18 := f2 740 37 (by decide +kernel)
  have t19 := f2 740 3 (by decide +kernel)
  have t20 := f2 741 0 (by decide +kernel)
  have t21 := f2 741 5 (by decide +kernel)
  have t23 := f2 741 10 (by decide +kernel)
  have t24 := f2 741 11 (by decide +kernel)
  have t25 := f2 741 12 (by decide +kernel)
  have t26 := f2 741 7 (by decide +kernel)
  have t27 := f2 742 0 (by decide +kernel)
  have t28 := f2 742 5 (by decide +kernel)
  have t29 := f2 742 6 (by decide +kernel)
  have t30 := f2 742 10 (by decide +kernel)
  have t31 := f2 742 11 (by decide +kernel)
  have t32 := f2 742 12 (by decide +kernel)
  have t33 := f2 742 7 (by decide +kernel)
  exact ⟨z2, rfl, ⟨fBz g.1 q2, v0, kI_fr g.2.2 g.1 f2 (by decide +kernel) (by decide +kernel), by unfold oP; omega, oQ_z (oQ_z h.2.2.2.2 f1 (by decide +kernel)) f2 (by decide +kernel)⟩, trivial⟩
theorem op_4 {I : fH} {x1 : Int} {x2 : Int} {x3 : Int} (h : oI I) (a1 : fin32 x1) (a2 : fin32 x2) (a3 : fin32 x3) : oTwo la ρ base D dA xm_25 xm_250 [.inl x1, .inl x2, .inl x3] I (fun _ _ => True) := by
  refine fC_bd (ct_X_turn_bfb4a h.1 (by omega) (by omega) (by omega)) (fun I1 r1 q1 p1 => ⟨fBz h.1 q1, ?_⟩)
  obtain ⟨z1, rfl, p1⟩ := p1
  refine ⟨z1, rfl, ?_⟩
  have g := oI_fr h q1 (by decide +kernel)
  refine fC_bd (ct_M_turn_a8e81 g.1 (by omega) (by omega) (by omega) g.2.1) (fun I2 r2 q2 p2 => ⟨fBz g.1 q2, ?_⟩)
  obtain ⟨z2, rfl, p2⟩ := p2
  exact ⟨z2, rfl, oI_fr g q2 (by decide +kernel), trivial⟩
theorem op_5 {I : fH} {x1 : Int} {x2 : Int} (h : oI I) (a1 : fin32 x1) (a2 : fin32 x2) : oTwo la ρ base D dA xm_39 xm_262 [.inl x1, .inl x2] I (fun _ _ => True) := by
  refine fC_bd (ct_X_store_70ffd h.1 (by omega) (by omega)) (fun I1 r1 q1 p1 => ⟨fBz h.1 q1, ?_⟩)
  obtain ⟨z1, rfl, p1⟩ := p1
  refine ⟨z1, rfl, ?_⟩
  have g := oI_fr h q1 (by decide +kernel)
  refine fC_bd (ct_M_store_73882 g.1 (by omega) (by omega)) (fun I2 r2 q2 p2 => ⟨fBz g.1 q2, ?_⟩)
  obtain ⟨z2, rfl, p2⟩ := p2
  exact ⟨z2, rfl, oI_fr g q2 (by decide +kernel), trivial⟩
theorem op_6 {I : fH} {x1 : Int} {x2 : Int} {x3 : Int} (h : oI I) (a1 : fin32 x1) (a2 : fin32 x2) (a3 : fin32 x3) : oTwo la ρ base D dA xm_40 xm_263 [.inl x1, .inl x2, .inl x3] I (fun _ _ => True) := by
  refine fC_bd (ct_X_give_dfa8a h.1 (by omega) (by omega) (by omega)) (fun I1 r1 q1 p1 => ⟨fBz h.1 q1, ?_⟩)
  obtain ⟨z1, rfl, p1⟩ := p1
  refine ⟨z1, rfl, ?_⟩
  have g := oI_fr h q1 (by decide +kernel)
  refine fC_bd (ct_M_give_8f5c0 g.1 (by omega) (by omega) (by omega)) (fun I2 r2 q2 p2 => ⟨fBz g.1 q2, ?_⟩)
  obtain ⟨z2, rfl, p2⟩ := p2
  exact ⟨z2, rfl, oI_fr g q2 (by decide +kernel), trivial⟩
end OP

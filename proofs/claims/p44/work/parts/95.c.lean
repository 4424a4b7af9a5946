set_option linter.all false
/-! the calls keep what holds between them (written by gen91.py) -/
section OP
variable {ρ : Nat → Int32} {base : Nat} {D : va_G} {dA : Nat → ClassId} {la : Launch}
theorem op_8 {I : fH} {x1 : Int} {x2 : Int} (h : oI I) (a1 : fin32 x1) (a2 : fin32 x2) : oTwo la ρ base D dA xm_44 xm_268 [.inl x1, .inl x2] I (fun _ _ => True) := by
  refine fC_bd (ct_X_has_bd0f1 h.1 (by omega) (by omega)) (fun I1 r1 q1 p1 => ⟨fBz h.1 q1, ?_⟩)
  obtain ⟨z1, rfl, p1⟩ := p1
  refine ⟨z1, rfl, ?_⟩
  have g := oI_fr h q1 (by decide +kernel)
  refine fC_bd (ct_M_has_04f65 g.1 (by omega) (by omega)) (fun I2 r2 q2 p2 => ⟨fBz g.1 q2, ?_⟩)
  obtain ⟨z2, rfl, p2⟩ := p2
  exact ⟨z2, rfl, oI_fr g q2 (by decide +kernel), trivial⟩
theorem op_9 {I : fH} {x1 : Int} {x2 : Int} (h : oI I) (a1 : fin32 x1) (a2 : fin32 x2) : oTwo la ρ base D dA xm_47 xm_270 [.inl x1, .inl x2] I (fun _ _ => True) := by
  refine fC_bd (ct_X_as_22830 h.1 (by omega) (by omega)) (fun I1 r1 q1 p1 => ⟨fBz h.1 q1, ?_⟩)
  obtain ⟨z1, rfl, p1⟩ := p1
  refine ⟨z1, rfl, ?_⟩
  have g := oI_fr h q1 (by decide +kernel)
  refine fC_bd (ct_M_as_6573b g.1 (by omega) (by omega)) (fun I2 r2 q2 p2 => ⟨fBz g.1 q2, ?_⟩)
  obtain ⟨z2, rfl, p2⟩ := p2
  exact ⟨z2, rfl, oI_fr g q2 (by decide +kernel), trivial⟩
theorem op_10 {I : fH} {x1 : Int} {x2 : Int} {x3 : Int} (h : oI I) (a1 : fin32 x1) (a2 : fin32 x2) (a3 : fin32 x3) : oTwo la ρ base D dA xm_49 xm_271 [.inl x1, .inl x2, .inl x3] I (fun _ _ => True) := by
  refine fC_bd (ct_X_tune_a06cc h.1 (by omega) (by omega) (by omega)) (fun I1 r1 q1 p1 => ⟨fBz h.1 q1, ?_⟩)
  obtain ⟨z1, rfl, p1⟩ := p1
  refine ⟨z1, rfl, ?_⟩
  have g := oI_fr h q1 (by decide +kernel)
  refine fC_bd (ct_M_tune_14fd5 g.1 (by omega) (by omega) (by omega)) (fun I2 r2 q2 p2 => ⟨fBz g.1 q2, ?_⟩)
  obtain ⟨z2, rfl, p2⟩ := p2
  exact ⟨z2, rfl, oI_fr g q2 (by decide +kernel), trivial⟩
theorem op_11 {I : fH} {x1 : Int} (h : oI I) (a1 : fin32 x1) : oTwo la ρ base D dA xm_51 xm_272 [.inl x1] I (fun _ _ => True) := by
  refine fC_bd (ct_X_clean_d14e5 h.1 (by omega)) (fun I1 r1 q1 p1 => ⟨fBz h.1 q1, ?_⟩)
  obtain ⟨z1, rfl, p1⟩ := p1
  refine ⟨z1, rfl, ?_⟩
  have g := oI_fr h q1 (by decide +kernel)
  refine fC_bd (ct_M_clean_8ba19 g.1 (by omega)) (fun I2 r2 q2 p2 => ⟨fBz g.1 q2, ?_⟩)
  obtain ⟨z2, rfl, p2⟩ := p2
  exact ⟨z2, rfl, oI_fr g q2 (by decide +kernel), trivial⟩
theorem op_12 {I : fH} {x1 : Int} (h : oI I) (a1 : fin32 x1) : oTwo la ρ base D dA xm_52 xm_273 [.inl x1] I (fun _ _ => True) := by
  refine fC_bd (ct_X_sew_ca0d8 h.1 (by omega)) (fun I1 r1 q1 p1 => ⟨fBz h.1 q1, ?_⟩)
  obtain ⟨z1, rfl, p1⟩ := p1
  refine ⟨z1, rfl, ?_⟩
  have g := oI_fr h q1 (by decide +kernel)
  refine fC_bd (ct_M_sew_b534e g.1 (by omega)) (fun I2 r2 q2 p2 => ⟨fBz g.1 q2, ?_⟩)
  obtain ⟨z2, rfl, p2⟩ := p2
  exact ⟨z2, rfl, oI_fr g q2 (by decide +kernel), trivial⟩
theorem op_13 {I : fH} {x1 : Int} (h : oI I) (a1 : fin32 x1) : oTwo la ρ base D dA xm_53 xm_274 [.inl x1] I (fun _ _ => True) := by
  refine fC_bd (ct_X_drop_cdd18 h.1 (by omega)) (fun I1 r1 q1 p1 => ⟨fBz h.1 q1, ?_⟩)
  obtain ⟨z1, rfl, p1⟩ := p1
  refine ⟨z1, rfl, ?_⟩
  have g := oI_fr h q1 (by decide +kernel)
  refine fC_bd (ct_M_drop_6f2b6 g.1 (by omega)) (fun I2 r2 q2 p2 => ⟨fBz g.1 q2, ?_⟩)
  obtain ⟨z2, rfl, p2⟩ := p2
  exact ⟨z2, rfl, oI_fr g q2 (by decide +kernel), trivial⟩
theorem op_14 {I : fH} {x1 : Int} (h : oI I) (a1 : fin32 x1) : oTwo la ρ base D dA xm_56 xm_276 [.inl x1] I (fun _ _ => True) := by
  refine fC_bd (ct_X_depth_b4eb4 h.1 (by omega)) (fun I1 r1 q1 p1 => ⟨fBz h.1 q1, ?_⟩)
  obtain ⟨z1, rfl, p1⟩ := p1
  refine ⟨z1, rfl, ?_⟩
  have g := oI_fr h q1 (by decide +kernel)
  refine fC_bd (ct_M_depth_0e6f9 g.1 (by omega)) (fun I2 r2 q2 p2 => ⟨fBz g.1 q2, ?_⟩)
  obtain ⟨z2, rfl, p2⟩ := p2
  exact ⟨z2, rfl, oI_fr g q2 (by decide +kernel), trivial⟩
end OP

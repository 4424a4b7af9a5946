set_option linter.all false
/-! the calls keep what holds between them (written by gen91.py) -/
section OP
variable {ρ : Nat → Int32} {base : Nat} {D : va_G} {dA : Nat → ClassId} {la : Launch}
theorem op_40 {I : fH} {x1 : Int} {x2 : Int} {x3 : Int} {x4 : Int} {x5 : Int} (h : oI I) (a1 : fin32 x1) (a2 : fin32 x2) (a3 : fin32 x3) (a4 : fin32 x4) (a5 : fin32 x5) : oTwo la ρ base D dA xm_166 xm_444 [.inl x1, .inl x2, .inl x3, .inl x4, .inl x5] I (fun _ _ => True) := by
  refine fC_bd (ct_X_copy_f4558 h.1 (by omega) (by omega) (by omega) (by omega) (by omega)) (fun I1 r1 q1 p1 => ⟨fBz h.1 q1, ?_⟩)
  obtain ⟨z1, rfl, p1⟩ := p1
  refine ⟨z1, rfl, ?_⟩
  have g := oI_fr h q1 (by decide +kernel)
  refine fC_bd (ct_M_copy_adc00 g.1 (by omega) (by omega) (by omega) (by omega) (by omega)) (fun I2 r2 q2 p2 => ⟨fBz g.1 q2, ?_⟩)
  obtain ⟨z2, rfl, p2⟩ := p2
  exact ⟨z2, rfl, oI_fr g q2 (by decide +kernel), trivial⟩
end OP

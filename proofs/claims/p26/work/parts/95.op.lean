/-! the calls keep what holds between them (written by gen91.py) -/
section OP
variable {ρ : Nat → Int32} {base : Nat} {D : va_G} {dA : Nat → ClassId} {la : Launch}
def oZ : List Nat := [20005, 20006, 20009, 20010, 20100, 20200, 20201, 20604, 20605, 20800, 20000, 12203, 742, 11701, 12208]
theorem oZ_s {W : List Nat} (h : oZ.all (fun z => Bool.not (W.elem z)) = true) {z : Nat} (hz : z ∈ oZ) : W.elem z = false := by
  have q := List.all_eq_true.mp h z hz
  cases c : W.elem z with
  | false => rfl
  | true => rw [c] at q; cases q
theorem oZ_sub : sZs.all (fun z => oZ.elem z) = true := by decide
theorem oI_fr {W : List Nat} {I I' : fH} (h : oI I) (q : fB (fbz bsJ znJ (fKc W) I) I') (w : oZ.all (fun z => Bool.not (W.elem z)) = true) : oI I' := by
  have f := fFr_of q
  have hs : sZs.all (fun z => Bool.not (W.elem z)) = true := List.all_eq_true.mpr (fun z hz => by rw [oZ_s w (List.elem_iff.mp (List.all_eq_true.mp oZ_sub z hz))]; rfl)
  have e0 := f 741 0 (oZ_s w (by decide +kernel))
  have e1 := f 699 1 (oZ_s w (by decide +kernel))
  have e2 := f 740 8 (oZ_s w (by decide +kernel))
  exact ⟨fBz h.1 q, sI_fr h.2.1 h.1 f hs, by rw [e0]; exact h.2.2.1, kI_fr h.2.2.2.1 h.1 f (oZ_s w (by decide +kernel)) (oZ_s w (by decide +kernel)), by rw [e1, e2]; exact h.2.2.2.2⟩
theorem fb_m3 : bsJ 741 3 = (2, 9999) := by decide +kernel
theorem op_0 {I : fH} {x1 : Int} (h : oI I) (a1 : fin32 x1) : oTwo la ρ base D dA xm_12 xm_237 [.inl x1] I (fun _ _ => True) := by
  refine fC_bd (ct_X_cell_2a5f0 h.1 (by omega)) (fun I1 r1 q1 p1 => ⟨fBz h.1 q1, ?_⟩)
  obtain ⟨z1, rfl, p1⟩ := p1
  refine ⟨z1, rfl, ?_⟩
  have g := oI_fr h q1 (by decide +kernel)
  refine fC_bd (ct_M_cell_185e1 g.1 (by omega) g.2.1) (fun I2 r2 q2 p2 => ⟨fBz g.1 q2, ?_⟩)
  obtain ⟨z2, rfl, p2⟩ := p2
  have f2 := fFr_of q2
  have b2 := fBz g.1 q2
  have t2 := f2 699 1 (by decide +kernel)
  have t3 := f2 740 8 (by decide +kernel)
  exact ⟨z2, rfl, ⟨b2, p2.2, by rw [f2 741 0 (by decide +kernel)]; exact g.2.2.1, kI_fr g.2.2.2.1 g.1 f2 (by decide +kernel) (by decide +kernel), by rw [t2, t3]; exact g.2.2.2.2⟩, trivial⟩
theorem op_1 {I : fH} {x1 : Int} {x2 : Int} {x3 : Int} (h : oI I) (a1 : fin32 x1) (a2 : fin32 x2) (a3 : fin32 x3) : oTwo la ρ base D dA xm_16 xm_240 [.inl x1, .inl x2, .inl x3] I (fun _ _ => True) := by
  refine fC_bd (ct_X_air_0ab97 h.1 (by omega) (by omega) (by omega)) (fun I1 r1 q1 p1 => ⟨fBz h.1 q1, ?_⟩)
  obtain ⟨z1, rfl, p1⟩ := p1
  refine ⟨z1, rfl, ?_⟩
  have g := oI_fr h q1 (by decide +kernel)
  refine fC_bd (ct_M_air_7df55 g.1 (by omega) (by omega) (by omega)) (fun I2 r2 q2 p2 => ⟨fBz g.1 q2, ?_⟩)
  obtain ⟨z2, rfl, p2⟩ := p2
  exact ⟨z2, rfl, oI_fr g q2 (by decide +kernel), trivial⟩
theorem op_2 {I : fH} {x1 : Int} {x2 : Int} (h : oI I) (a1 : fin32 x1) (a2 : fin32 x2) : oTwo la ρ base D dA xm_19 xm_243 [.inl x1, .inl x2] I (fun _ _ => True) := by
  refine fC_bd (ct_X_told_6cf86 h.1 (by omega) (by omega)) (fun I1 r1 q1 p1 => ⟨fBz h.1 q1, ?_⟩)
  obtain ⟨z1, rfl, p1⟩ := p1
  refine ⟨z1, rfl, ?_⟩
  have g := oI_fr h q1 (by decide +kernel)
  refine fC_bd (ct_M_told_3fceb g.1 (by omega) (by omega)) (fun I2 r2 q2 p2 => ⟨fBz g.1 q2, ?_⟩)
  obtain ⟨z2, rfl, p2⟩ := p2
  exact ⟨z2, rfl, oI_fr g q2 (by decide +kernel), trivial⟩
theorem op_3 {I : fH} {x1 : Int} {x2 : Int} {x3 : Int} (h : oI I) (a1 : fin32 x1) (a2 : fin32 x2) (a3 : fin32 x3) : oTwo la ρ base D dA xm_23 xm_249 [.inl x1, .inl x2, .inl x3] I (fun _ _ => True) := by
  refine fC_bd (ct_X_lock_50d55 h.1 (by omega) (by omega) (by omega)) (fun I1 r1 q1 p1 => ⟨fBz h.1 q1, ?_⟩)
  obtain ⟨z1, rfl, p1⟩ := p1
  refine ⟨z1, rfl, ?_⟩
  have g := oI_fr h q1 (by decide +kernel)
  refine fC_bd (ct_M_lock_29b98 g.1 (by omega) (by omega) (by omega) g.2.1) (fun I2 r2 q2 p2 => ⟨fBz g.1 q2, ?_⟩)
  obtain ⟨z2, rfl, p2⟩ := p2
  have f2 := fFr_of q2
  have b2 := fBz g.1 q2
  have t2 := f2 699 1 (by decide +kernel)
  have t3 := f2 740 8 (by decide +kernel)
  exact ⟨z2, rfl, ⟨b2, p2.2, by rw [f2 741 0 (by decide +kernel)]; exact g.2.2.1, kI_fr g.2.2.2.1 g.1 f2 (by decide +kernel) (by decide +kernel), by rw [t2, t3]; exact g.2.2.2.2⟩, trivial⟩
theorem op_4 {I : fH} {x1 : Int} {x2 : Int} {x3 : Int} (h : oI I) (a1 : fin32 x1) (a2 : fin32 x2) (a3 : fin32 x3) : oTwo la ρ base D dA xm_25 xm_250 [.inl x1, .inl x2, .inl x3] I (fun _ _ => True) := by
  refine fC_bd (ct_X_turn_bfb4a h.1 (by omega) (by omega) (by omega)) (fun I1 r1 q1 p1 => ⟨fBz h.1 q1, ?_⟩)
  obtain ⟨z1, rfl, p1⟩ := p1
  refine ⟨z1, rfl, ?_⟩
  have g := oI_fr h q1 (by decide +kernel)
  refine fC_bd (ct_M_turn_a8e81 g.1 (by omega) (by omega) (by omega) g.2.1) (fun I2 r2 q2 p2 => ⟨fBz g.1 q2, ?_⟩)
  obtain ⟨z2, rfl, p2⟩ := p2
  exact ⟨z2, rfl, oI_fr g q2 (by decide +kernel), trivial⟩
theorem op_5 {I : fH} {x1 : Int} {x2 : Int} (h : oI I) (a1 : fin32 x1) (a2 : fin32 x2) : oTwo la ρ base D dA xm_39 xm_262 [.inl x1, .inl x2] I (fun _ _ => True) := by
  refine fC_bd (ct_X_store_70ffd h.1 (by omega) (by omega)) (fun I1 r1 q1 p1 => ⟨fBz h.1 q1, ?_⟩)
  obtain ⟨z1, rfl, p1⟩ := p1
  refine ⟨z1, rfl, ?_⟩
  have g := oI_fr h q1 (by decide +kernel)
  refine fC_bd (ct_M_store_73882 g.1 (by omega) (by omega)) (fun I2 r2 q2 p2 => ⟨fBz g.1 q2, ?_⟩)
  obtain ⟨z2, rfl, p2⟩ := p2
  exact ⟨z2, rfl, oI_fr g q2 (by decide +kernel), trivial⟩
theorem op_6 {I : fH} {x1 : Int} {x2 : Int} {x3 : Int} (h : oI I) (a1 : fin32 x1) (a2 : fin32 x2) (a3 : fin32 x3) : oTwo la ρ base D dA xm_40 xm_263 [.inl x1, .inl x2, .inl x3] I (fun _ _ => True) := by
  refine fC_bd (ct_X_give_dfa8a h.1 (by omega) (by omega) (by omega)) (fun I1 r1 q1 p1 => ⟨fBz h.1 q1, ?_⟩)
  obtain ⟨z1, rfl, p1⟩ := p1
  refine ⟨z1, rfl, ?_⟩
  have g := oI_fr h q1 (by decide +kernel)
  refine fC_bd (ct_M_give_8f5c0 g.1 (by omega) (by omega) (by omega)) (fun I2 r2 q2 p2 => ⟨fBz g.1 q2, ?_⟩)
  obtain ⟨z2, rfl, p2⟩ := p2
  exact ⟨z2, rfl, oI_fr g q2 (by decide +kernel), trivial⟩
theorem op_7 {I : fH} {x1 : Int} {x2 : Int} {x3 : Int} {x4 : Int} {x5 : Int} (h : oI I) (a1 : fin32 x1) (a2 : fin32 x2) (a3 : fin32 x3) (a4 : fin32 x4) (a5 : fin32 x5) : oTwo la ρ base D dA xm_41 xm_264 [.inl x1, .inl x2, .inl x3, .inl x4, .inl x5] I (fun _ _ => True) := by
  refine fC_bd (ct_X_work_2ffbc h.1 (by omega) (by omega) (by omega) (by omega) (by omega)) (fun I1 r1 q1 p1 => ⟨fBz h.1 q1, ?_⟩)
  obtain ⟨z1, rfl, p1⟩ := p1
  refine ⟨z1, rfl, ?_⟩
  have g := oI_fr h q1 (by decide +kernel)
  refine fC_bd (ct_M_work_37e82 g.1 (by omega) (by omega) (by omega) (by omega) (by omega)) (fun I2 r2 q2 p2 => ⟨fBz g.1 q2, ?_⟩)
  obtain ⟨z2, rfl, p2⟩ := p2
  exact ⟨z2, rfl, oI_fr g q2 (by decide +kernel), trivial⟩
theorem op_8 {I : fH} {x1 : Int} {x2 : Int} (h : oI I) (a1 : fin32 x1) (a2 : fin32 x2) : oTwo la ρ base D dA xm_44 xm_268 [.inl x1, .inl x2] I (fun _ _ => True) := by
  refine fC_bd (ct_X_has_bd0f1 h.1 (by omega) (by omega)) (fun I1 r1 q1 p1 => ⟨fBz h.1 q1, ?_⟩)
  obtain ⟨z1, rfl, p1⟩ := p1
  refine ⟨z1, rfl, ?_⟩
  have g := oI_fr h q1 (by decide +kernel)
  refine fC_bd (ct_M_has_04f65 g.1 (by omega) (by omega)) (fun I2 r2 q2 p2 => ⟨fBz g.1 q2, ?_⟩)
  obtain ⟨z2, rfl, p2⟩ := p2
  exact ⟨z2, rfl, oI_fr g q2 (by decide +kernel), trivial⟩
theorem op_9 {I : fH} {x1 : Int} {x2 : Int} (h : oI I) (a1 : fin32 x1) (a2 : fin32 x2) : oTwo la ρ base D dA xm_47 xm_270 [.inl x1, .inl x2] I (fun _ _ => True) := by
  refine fC_bd (ct_X_as_22830 h.1 (by omega) (by omega)) (fun I1 r1 q1 p1 => ⟨fBz h.1 q1, ?_⟩)
  obtain ⟨z1, rfl, p1⟩ := p1
  refine ⟨z1, rfl, ?_⟩
  have g := oI_fr h q1 (by decide +kernel)
  refine fC_bd (ct_M_as_6573b g.1 (by omega) (by omega)) (fun I2 r2 q2 p2 => ⟨fBz g.1 q2, ?_⟩)
  obtain ⟨z2, rfl, p2⟩ := p2
  exact ⟨z2, rfl, oI_fr g q2 (by decide +kernel), trivial⟩
theorem op_10 {I : fH} {x1 : Int} {x2 : Int} {x3 : Int} (h : oI I) (a1 : fin32 x1) (a2 : fin32 x2) (a3 : fin32 x3) : oTwo la ρ base D dA xm_49 xm_271 [.inl x1, .inl x2, .inl x3] I (fun _ _ => True) := by
  refine fC_bd (ct_X_tune_a06cc h.1 (by omega) (by omega) (by omega)) (fun I1 r1 q1 p1 => ⟨fBz h.1 q1, ?_⟩)
  obtain ⟨z1, rfl, p1⟩ := p1
  refine ⟨z1, rfl, ?_⟩
  have g := oI_fr h q1 (by decide +kernel)
  refine fC_bd (ct_M_tune_14fd5 g.1 (by omega) (by omega) (by omega)) (fun I2 r2 q2 p2 => ⟨fBz g.1 q2, ?_⟩)
  obtain ⟨z2, rfl, p2⟩ := p2
  exact ⟨z2, rfl, oI_fr g q2 (by decide +kernel), trivial⟩
theorem op_11 {I : fH} {x1 : Int} (h : oI I) (a1 : fin32 x1) : oTwo la ρ base D dA xm_51 xm_272 [.inl x1] I (fun _ _ => True) := by
  refine fC_bd (ct_X_clean_d14e5 h.1 (by omega)) (fun I1 r1 q1 p1 => ⟨fBz h.1 q1, ?_⟩)
  obtain ⟨z1, rfl, p1⟩ := p1
  refine ⟨z1, rfl, ?_⟩
  have g := oI_fr h q1 (by decide +kernel)
  refine fC_bd (ct_M_clean_8ba19 g.1 (by omega)) (fun I2 r2 q2 p2 => ⟨fBz g.1 q2, ?_⟩)
  obtain ⟨z2, rfl, p2⟩ := p2
  exact ⟨z2, rfl, oI_fr g q2 (by decide +kernel), trivial⟩
theorem op_12 {I : fH} {x1 : Int} (h : oI I) (a1 : fin32 x1) : oTwo la ρ base D dA xm_52 xm_273 [.inl x1] I (fun _ _ => True) := by
  refine fC_bd (ct_X_sew_ca0d8 h.1 (by omega)) (fun I1 r1 q1 p1 => ⟨fBz h.1 q1, ?_⟩)
  obtain ⟨z1, rfl, p1⟩ := p1
  refine ⟨z1, rfl, ?_⟩
  have g := oI_fr h q1 (by decide +kernel)
  refine fC_bd (ct_M_sew_b534e g.1 (by omega)) (fun I2 r2 q2 p2 => ⟨fBz g.1 q2, ?_⟩)
  obtain ⟨z2, rfl, p2⟩ := p2
  exact ⟨z2, rfl, oI_fr g q2 (by decide +kernel), trivial⟩
theorem op_13 {I : fH} {x1 : Int} (h : oI I) (a1 : fin32 x1) : oTwo la ρ base D dA xm_53 xm_274 [.inl x1] I (fun _ _ => True) := by
  refine fC_bd (ct_X_drop_cdd18 h.1 (by omega)) (fun I1 r1 q1 p1 => ⟨fBz h.1 q1, ?_⟩)
  obtain ⟨z1, rfl, p1⟩ := p1
  refine ⟨z1, rfl, ?_⟩
  have g := oI_fr h q1 (by decide +kernel)
  refine fC_bd (ct_M_drop_6f2b6 g.1 (by omega)) (fun I2 r2 q2 p2 => ⟨fBz g.1 q2, ?_⟩)
  obtain ⟨z2, rfl, p2⟩ := p2
  exact ⟨z2, rfl, oI_fr g q2 (by decide +kernel), trivial⟩
theorem op_14 {I : fH} {x1 : Int} (h : oI I) (a1 : fin32 x1) : oTwo la ρ base D dA xm_56 xm_276 [.inl x1] I (fun _ _ => True) := by
  refine fC_bd (ct_X_depth_b4eb4 h.1 (by omega)) (fun I1 r1 q1 p1 => ⟨fBz h.1 q1, ?_⟩)
  obtain ⟨z1, rfl, p1⟩ := p1
  refine ⟨z1, rfl, ?_⟩
  have g := oI_fr h q1 (by decide +kernel)
  refine fC_bd (ct_M_depth_0e6f9 g.1 (by omega)) (fun I2 r2 q2 p2 => ⟨fBz g.1 q2, ?_⟩)
  obtain ⟨z2, rfl, p2⟩ := p2
  exact ⟨z2, rfl, oI_fr g q2 (by decide +kernel), trivial⟩
theorem op_15 {I : fH} {x1 : Int} {x2 : Int} {x3 : Int} (h : oI I) (a1 : fin32 x1) (a2 : fin32 x2) (a3 : fin32 x3) : oTwo la ρ base D dA xm_58 xm_277 [.inl x1, .inl x2, .inl x3] I (fun _ _ => True) := by
  refine fC_bd (ct_X_table_655e5 h.1 (by omega) (by omega) (by omega)) (fun I1 r1 q1 p1 => ⟨fBz h.1 q1, ?_⟩)
  obtain ⟨z1, rfl, p1⟩ := p1
  refine ⟨z1, rfl, ?_⟩
  have g := oI_fr h q1 (by decide +kernel)
  refine fC_bd (ct_M_table_57a0f g.1 (by omega) (by omega) (by omega)) (fun I2 r2 q2 p2 => ⟨fBz g.1 q2, ?_⟩)
  obtain ⟨z2, rfl, p2⟩ := p2
  exact ⟨z2, rfl, oI_fr g q2 (by decide +kernel), trivial⟩
theorem op_16 {I : fH} {x1 : Int} {x2 : Int} (h : oI I) (a1 : fin32 x1) (a2 : fin32 x2) : oTwo la ρ base D dA xm_59 xm_278 [.inl x1, .inl x2] I (fun _ _ => True) := by
  refine fC_bd (ct_X_set_46fd7 h.1 (by omega) (by omega)) (fun I1 r1 q1 p1 => ⟨fBz h.1 q1, ?_⟩)
  obtain ⟨z1, rfl, p1⟩ := p1
  refine ⟨z1, rfl, ?_⟩
  have g := oI_fr h q1 (by decide +kernel)
  refine fC_bd (ct_M_set_d6f28 g.1 (by omega) (by omega)) (fun I2 r2 q2 p2 => ⟨fBz g.1 q2, ?_⟩)
  obtain ⟨z2, rfl, p2⟩ := p2
  exact ⟨z2, rfl, oI_fr g q2 (by decide +kernel), trivial⟩
theorem op_17 {I : fH} {x1 : Int} (h : oI I) (a1 : fin32 x1) : oTwo la ρ base D dA xm_61 xm_279 [.inl x1] I (fun _ _ => True) := by
  refine fC_bd (ct_X_city_22325 h.1 (by omega)) (fun I1 r1 q1 p1 => ⟨fBz h.1 q1, ?_⟩)
  obtain ⟨z1, rfl, p1⟩ := p1
  refine ⟨z1, rfl, ?_⟩
  have g := oI_fr h q1 (by decide +kernel)
  refine fC_bd (ct_M_city_467ce g.1 (by omega)) (fun I2 r2 q2 p2 => ⟨fBz g.1 q2, ?_⟩)
  obtain ⟨z2, rfl, p2⟩ := p2
  exact ⟨z2, rfl, oI_fr g q2 (by decide +kernel), trivial⟩
theorem op_18 {I : fH} {x1 : Int} (h : oI I) (a1 : fin32 x1) : oTwo la ρ base D dA xm_72 xm_284 [.inl x1] I (fun _ _ => True) := by
  refine fC_bd (ct_X_run_f9fd1 h.1 (by omega)) (fun I1 r1 q1 p1 => ⟨fBz h.1 q1, ?_⟩)
  obtain ⟨z1, rfl, p1⟩ := p1
  refine ⟨z1, rfl, ?_⟩
  have g := oI_fr h q1 (by decide +kernel)
  refine fC_bd (ct_M_run_ddfc8 g.1 (by omega) g.2.1 g.2.2.1) (fun I2 r2 q2 p2 => ⟨fBz g.1 q2, ?_⟩)
  obtain ⟨z2, rfl, p2⟩ := p2
  have f2 := fFr_of q2
  have b2 := fBz g.1 q2
  have t2 := f2 699 1 (by decide +kernel)
  have t3 := f2 740 8 (by decide +kernel)
  exact ⟨z2, rfl, ⟨b2, sI_fr g.2.1 g.1 f2 (by decide +kernel), p2.2, kI_fr g.2.2.2.1 g.1 f2 (by decide +kernel) (by decide +kernel), by rw [t2, t3]; exact g.2.2.2.2⟩, trivial⟩
theorem op_19 {I : fH} {x1 : Int} {x2 : Int} {x3 : Int} (h : oI I) (a1 : fin32 x1) (a2 : fin32 x2) (a3 : fin32 x3) : oTwo la ρ base D dA xm_99 xm_305 [.inl x1, .inl x2, .inl x3] I (fun _ _ => True) := by
  refine fC_bd (ct_X_person_26141 h.1 (by omega) (by omega) (by omega)) (fun I1 r1 q1 p1 => ⟨fBz h.1 q1, ?_⟩)
  obtain ⟨z1, rfl, p1⟩ := p1
  refine ⟨z1, rfl, ?_⟩
  have g := oI_fr h q1 (by decide +kernel)
  refine fC_bd (ct_M_person_81c92 g.1 (by omega) (by omega) (by omega)) (fun I2 r2 q2 p2 => ⟨fBz g.1 q2, ?_⟩)
  obtain ⟨z2, rfl, p2⟩ := p2
  exact ⟨z2, rfl, oI_fr g q2 (by decide +kernel), trivial⟩
theorem op_20 {I : fH} {x1 : Int} {x2 : Int} {x3 : Int} (h : oI I) (a1 : fin32 x1) (a2 : fin32 x2) (a3 : fin32 x3) : oTwo la ρ base D dA xm_101 xm_306 [.inl x1, .inl x2, .inl x3] I (fun _ _ => True) := by
  refine fC_bd (ct_X_be_4c6d8 h.1 (by omega) (by omega) (by omega)) (fun I1 r1 q1 p1 => ⟨fBz h.1 q1, ?_⟩)
  obtain ⟨z1, rfl, p1⟩ := p1
  refine ⟨z1, rfl, ?_⟩
  have g := oI_fr h q1 (by decide +kernel)
  refine fC_bd (ct_M_be_60845 g.1 (by omega) (by omega) (by omega)) (fun I2 r2 q2 p2 => ⟨fBz g.1 q2, ?_⟩)
  obtain ⟨z2, rfl, p2⟩ := p2
  exact ⟨z2, rfl, oI_fr g q2 (by decide +kernel), trivial⟩
theorem op_21 {I : fH} {x1 : Int} {x2 : Int} (h : oI I) (a1 : fin32 x1) (a2 : fin32 x2) : oTwo la ρ base D dA xm_102 xm_307 [.inl x1, .inl x2] I (fun _ _ => True) := by
  refine fC_bd (ct_X_is_3f9a5 h.1 (by omega) (by omega)) (fun I1 r1 q1 p1 => ⟨fBz h.1 q1, ?_⟩)
  obtain ⟨z1, rfl, p1⟩ := p1
  refine ⟨z1, rfl, ?_⟩
  have g := oI_fr h q1 (by decide +kernel)
  refine fC_bd (ct_M_is_815af g.1 (by omega) (by omega)) (fun I2 r2 q2 p2 => ⟨fBz g.1 q2, ?_⟩)
  obtain ⟨z2, rfl, p2⟩ := p2
  exact ⟨z2, rfl, oI_fr g q2 (by decide +kernel), trivial⟩
theorem op_22 {I : fH} {x1 : Int} (h : oI I) (a1 : fin32 x1) : oTwo la ρ base D dA xm_103 xm_308 [.inl x1] I (fun _ _ => True) := by
  refine fC_bd (ct_X_birth_faa88 h.1 (by omega)) (fun I1 r1 q1 p1 => ⟨fBz h.1 q1, ?_⟩)
  obtain ⟨z1, rfl, p1⟩ := p1
  refine ⟨z1, rfl, ?_⟩
  have g := oI_fr h q1 (by decide +kernel)
  refine fC_bd (ct_M_birth_69b9b g.1 (by omega) g.2.1) (fun I2 r2 q2 p2 => ⟨fBz g.1 q2, ?_⟩)
  obtain ⟨z2, rfl, p2⟩ := p2
  exact ⟨z2, rfl, oI_fr g q2 (by decide +kernel), trivial⟩
theorem op_23 {I : fH} {x1 : Int} {x2 : Int} {x3 : Int} (h : oI I) (a1 : fin32 x1) (a2 : fin32 x2) (a3 : fin32 x3) : oTwo la ρ base D dA xm_107 xm_310 [.inl x1, .inl x2, .inl x3] I (fun _ _ => True) := by
  refine fC_bd (ct_X_feed_51110 h.1 (by omega) (by omega) (by omega)) (fun I1 r1 q1 p1 => ⟨fBz h.1 q1, ?_⟩)
  obtain ⟨z1, rfl, p1⟩ := p1
  refine ⟨z1, rfl, ?_⟩
  have f1 := fFr_of q1
  have g1 : fB bsJ I1 ∧ sI I1 741 ∧ I1 741 0 ≤ 20000 ∧ kI I1 := ⟨fBz h.1 q1, sI_fr h.2.1 h.1 f1 (by decide +kernel), by rw [f1 741 0 (by decide +kernel)]; exact h.2.2.1, kI_fr h.2.2.2.1 h.1 f1 (by decide +kernel) (by decide +kernel)⟩
  have t1 := f1 740 8 (by decide +kernel)
  have h5 := h.2.2.2.2
  refine fC_bd (ct_M_feed_07202 g1.1 (by omega) (by omega) (by omega)) (fun I2 r2 q2 p2 => ⟨fBz g1.1 q2, ?_⟩)
  obtain ⟨z2, rfl, p2⟩ := p2
  have f2 := fFr_of q2
  have b2 := fBz g1.1 q2
  have t2 := f2 699 1 (by decide +kernel)
  exact ⟨z2, rfl, ⟨b2, sI_fr g1.2.1 g1.1 f2 (by decide +kernel), by rw [f2 741 0 (by decide +kernel)]; exact g1.2.2.1, kI_fr g1.2.2.2 g1.1 f2 (by decide +kernel) (by decide +kernel), by omega⟩, trivial⟩
theorem op_24 {I : fH} {x1 : Int} (h : oI I) (a1 : fin32 x1) : oTwo la ρ base D dA xm_110 xm_311 [.inl x1] I (fun z z' => z = z') := by
  refine fC_bd (ct_X_trim_032da h.1 (by omega)) (fun I1 r1 q1 p1 => ⟨fBz h.1 q1, ?_⟩)
  obtain ⟨z1, rfl, p1⟩ := p1
  refine ⟨z1, rfl, ?_⟩
  have f1 := fFr_of q1
  have g1 : fB bsJ I1 ∧ sI I1 741 ∧ I1 741 0 ≤ 20000 ∧ kI I1 := ⟨fBz h.1 q1, sI_fr h.2.1 h.1 f1 (by decide +kernel), by rw [f1 741 0 (by decide +kernel)]; exact h.2.2.1, kI_fr h.2.2.2.1 h.1 f1 (by decide +kernel) (by decide +kernel)⟩
  have t1 := f1 740 8 (by decide +kernel)
  have h5 := h.2.2.2.2
  refine fC_bd (ct_M_trim_f395f g1.1 (by omega)) (fun I2 r2 q2 p2 => ⟨fBz g1.1 q2, ?_⟩)
  obtain ⟨z2, rfl, p2⟩ := p2
  have f2 := fFr_of q2
  have b2 := fBz g1.1 q2
  have t2 := f2 699 1 (by decide +kernel)
  exact ⟨z2, rfl, ⟨b2, sI_fr g1.2.1 g1.1 f2 (by decide +kernel), by rw [f2 741 0 (by decide +kernel)]; exact g1.2.2.1, kI_fr g1.2.2.2 g1.1 f2 (by decide +kernel) (by decide +kernel), by omega⟩, by omega⟩
theorem op_25 {I : fH} (h : oI I) : oTwo la ρ base D dA xm_111 xm_312 [] I (fun _ _ => True) := by
  refine fC_bd (ct_X_text_8a0ca h.1) (fun I1 r1 q1 p1 => ⟨fBz h.1 q1, ?_⟩)
  obtain ⟨z1, rfl, p1⟩ := p1
  refine ⟨z1, rfl, ?_⟩
  have f1 := fFr_of q1
  have g1 : fB bsJ I1 ∧ sI I1 741 ∧ I1 741 0 ≤ 20000 ∧ kI I1 := ⟨fBz h.1 q1, sI_fr h.2.1 h.1 f1 (by decide +kernel), by rw [f1 741 0 (by decide +kernel)]; exact h.2.2.1, kI_fr h.2.2.2.1 h.1 f1 (by decide +kernel) (by decide +kernel)⟩
  have t1 := f1 740 8 (by decide +kernel)
  have h5 := h.2.2.2.2
  refine fC_bd (ct_M_text_560c5 g1.1 (show fB bsJ I1 ∧ sI I1 741 ∧ True from ⟨g1.1, g1.2.1, trivial⟩).2.1) (fun I2 r2 q2 p2 => ⟨fBz g1.1 q2, ?_⟩)
  obtain ⟨z2, rfl, p2⟩ := p2
  have f2 := fFr_of q2
  have b2 := fBz g1.1 q2
  have t2 := f2 699 1 (by decide +kernel)
  have p3 := p1.2
  have p4 := p2.1.2
  exact ⟨z2, rfl, ⟨b2, p2.2, by rw [f2 741 0 (by decide +kernel)]; exact g1.2.2.1, kI_fr g1.2.2.2 g1.1 f2 (by decide +kernel) (by decide +kernel), by omega⟩, trivial⟩
theorem op_26 {I : fH} {x1 : Int} {x2 : Int} (h : oI I) (a1 : fin32 x1) (a2 : fin32 x2) : oTwo la ρ base D dA xm_132 xm_424 [.inl x1, .inl x2] I (fun _ _ => True) := by
  refine fC_bd (ct_X_of_3d77a h.1 (by omega) (by omega)) (fun I1 r1 q1 p1 => ⟨fBz h.1 q1, ?_⟩)
  obtain ⟨z1, rfl, p1⟩ := p1
  refine ⟨z1, rfl, ?_⟩
  have g := oI_fr h q1 (by decide +kernel)
  refine fC_bd (ct_M_of_2ade1 g.1 (by omega) (by omega)) (fun I2 r2 q2 p2 => ⟨fBz g.1 q2, ?_⟩)
  obtain ⟨z2, rfl, p2⟩ := p2
  exact ⟨z2, rfl, oI_fr g q2 (by decide +kernel), trivial⟩
theorem op_27 {I : fH} {x1 : Int} (h : oI I) (a1 : fin32 x1) : oTwo la ρ base D dA xm_134 xm_426 [.inl x1] I (fun _ _ => True) := by
  refine fC_bd (ct_X_hold_bca71 h.1 (by omega)) (fun I1 r1 q1 p1 => ⟨fBz h.1 q1, ?_⟩)
  obtain ⟨z1, rfl, p1⟩ := p1
  refine ⟨z1, rfl, ?_⟩
  have g := oI_fr h q1 (by decide +kernel)
  refine fC_bd (ct_M_hold_d28d9 g.1 (by omega)) (fun I2 r2 q2 p2 => ⟨fBz g.1 q2, ?_⟩)
  obtain ⟨z2, rfl, p2⟩ := p2
  exact ⟨z2, rfl, oI_fr g q2 (by decide +kernel), trivial⟩
theorem op_28 {I : fH} {x1 : Int} {x2 : Int} (h : oI I) (a1 : fin32 x1) (a2 : fin32 x2) : oTwo la ρ base D dA xm_136 xm_427 [.inl x1, .inl x2] I (fun _ _ => True) := by
  refine fC_bd (ct_X_say_45bc8 h.1 (by omega) (by omega)) (fun I1 r1 q1 p1 => ⟨fBz h.1 q1, ?_⟩)
  obtain ⟨z1, rfl, p1⟩ := p1
  refine ⟨z1, rfl, ?_⟩
  have g := oI_fr h q1 (by decide +kernel)
  refine fC_bd (ct_M_say_fd1c8 g.1 (by omega) (by omega) g.2.1) (fun I2 r2 q2 p2 => ⟨fBz g.1 q2, ?_⟩)
  obtain ⟨z2, rfl, p2⟩ := p2
  exact ⟨z2, rfl, oI_fr g q2 (by decide +kernel), trivial⟩
theorem op_29 {I : fH} (h : oI I) : oTwo la ρ base D dA xm_139 xm_429 [] I (fun _ _ => True) := by
  refine fC_bd (ct_X_tally_70a62 h.1) (fun I1 r1 q1 p1 => ⟨fBz h.1 q1, ?_⟩)
  obtain ⟨z1, rfl, p1⟩ := p1
  refine ⟨z1, rfl, ?_⟩
  have g := oI_fr h q1 (by decide +kernel)
  refine fC_bd (ct_M_tally_f3255 g.1 g.2.1) (fun I2 r2 q2 p2 => ⟨fBz g.1 q2, ?_⟩)
  obtain ⟨z2, rfl, p2⟩ := p2
  exact ⟨z2, rfl, oI_fr g q2 (by decide +kernel), trivial⟩
theorem op_30 {I : fH} {x1 : Int} {x2 : Int} {x3 : Int} (h : oI I) (a1 : fin32 x1) (a2 : fin32 x2) (a3 : fin32 x3) : oTwo la ρ base D dA xm_143 xm_430 [.inl x1, .inl x2, .inl x3] I (fun _ _ => True) := by
  refine fC_bd (ct_X_may_176e4 h.1 (by omega) (by omega) (by omega)) (fun I1 r1 q1 p1 => ⟨fBz h.1 q1, ?_⟩)
  obtain ⟨z1, rfl, p1⟩ := p1
  refine ⟨z1, rfl, ?_⟩
  have g := oI_fr h q1 (by decide +kernel)
  refine fC_bd (ct_M_may_cbf6c g.1 (by omega) (by omega) (by omega) g.2.1) (fun I2 r2 q2 p2 => ⟨fBz g.1 q2, ?_⟩)
  obtain ⟨z2, rfl, p2⟩ := p2
  exact ⟨z2, rfl, oI_fr g q2 (by decide +kernel), trivial⟩
theorem op_31 {I : fH} {x1 : Int} (h : oI I) (a1 : fin32 x1) : oTwo la ρ base D dA xm_144 xm_431 [.inl x1] I (fun _ _ => True) := by
  refine fC_bd (ct_X_why_3ef58 h.1 (by omega)) (fun I1 r1 q1 p1 => ⟨fBz h.1 q1, ?_⟩)
  obtain ⟨z1, rfl, p1⟩ := p1
  refine ⟨z1, rfl, ?_⟩
  have g := oI_fr h q1 (by decide +kernel)
  refine fC_bd (ct_M_why_c5dd8 g.1 (by omega)) (fun I2 r2 q2 p2 => ⟨fBz g.1 q2, ?_⟩)
  obtain ⟨z2, rfl, p2⟩ := p2
  exact ⟨z2, rfl, oI_fr g q2 (by decide +kernel), trivial⟩
theorem op_32 {I : fH} {x1 : Int} {x2 : Int} (h : oI I) (a1 : fin32 x1) (a2 : fin32 x2) : oTwo la ρ base D dA xm_145 xm_432 [.inl x1, .inl x2] I (fun _ _ => True) := by
  refine fC_bd (ct_X_share_fd28f h.1 (by omega) (by omega)) (fun I1 r1 q1 p1 => ⟨fBz h.1 q1, ?_⟩)
  obtain ⟨z1, rfl, p1⟩ := p1
  refine ⟨z1, rfl, ?_⟩
  have g := oI_fr h q1 (by decide +kernel)
  refine fC_bd (ct_M_share_3f03c g.1 (by omega) (by omega) g.2.1) (fun I2 r2 q2 p2 => ⟨fBz g.1 q2, ?_⟩)
  obtain ⟨z2, rfl, p2⟩ := p2
  exact ⟨z2, rfl, oI_fr g q2 (by decide +kernel), trivial⟩
theorem op_33 {I : fH} {x1 : Int} (h : oI I) (a1 : fin32 x1) : oTwo la ρ base D dA xm_148 xm_433 [.inl x1] I (fun _ _ => True) := by
  refine fC_bd (ct_X_order_a16c4 h.1 (by omega)) (fun I1 r1 q1 p1 => ⟨fBz h.1 q1, ?_⟩)
  obtain ⟨z1, rfl, p1⟩ := p1
  refine ⟨z1, rfl, ?_⟩
  have g := oI_fr h q1 (by decide +kernel)
  refine fC_bd (ct_M_order_8f559 g.1 (by omega) g.2.1) (fun I2 r2 q2 p2 => ⟨fBz g.1 q2, ?_⟩)
  obtain ⟨z2, rfl, p2⟩ := p2
  exact ⟨z2, rfl, oI_fr g q2 (by decide +kernel), trivial⟩
theorem op_34 {I : fH} (h : oI I) : oTwo la ρ base D dA xm_153 xm_436 [] I (fun _ _ => True) := by
  refine fC_bd (ct_X_shed_66828 h.1) (fun I1 r1 q1 p1 => ⟨fBz h.1 q1, ?_⟩)
  obtain ⟨z1, rfl, p1⟩ := p1
  refine ⟨z1, rfl, ?_⟩
  have g := oI_fr h q1 (by decide +kernel)
  refine fC_bd (ct_M_shed_c99a1 g.1 g.2.1) (fun I2 r2 q2 p2 => ⟨fBz g.1 q2, ?_⟩)
  obtain ⟨z2, rfl, p2⟩ := p2
  exact ⟨z2, rfl, oI_fr g q2 (by decide +kernel), trivial⟩
theorem op_35 {I : fH} (h : oI I) : oTwo la ρ base D dA xm_155 xm_437 [] I (fun _ _ => True) := by
  refine fC_bd (ct_X_enough_1540b h.1) (fun I1 r1 q1 p1 => ⟨fBz h.1 q1, ?_⟩)
  obtain ⟨z1, rfl, p1⟩ := p1
  refine ⟨z1, rfl, ?_⟩
  have g := oI_fr h q1 (by decide +kernel)
  refine fC_bd (ct_M_enough_96175 g.1 g.2.1) (fun I2 r2 q2 p2 => ⟨fBz g.1 q2, ?_⟩)
  obtain ⟨z2, rfl, p2⟩ := p2
  exact ⟨z2, rfl, oI_fr g q2 (by decide +kernel), trivial⟩
theorem op_36 {I : fH} {x1 : Int} {x2 : Int} {x3 : Int} (h : oI I) (a1 : fin32 x1) (a2 : fin32 x2) (a3 : fin32 x3) : oTwo la ρ base D dA xm_156 xm_438 [.inl x1, .inl x2, .inl x3] I (fun _ _ => True) := by
  refine fC_bd (ct_X_gauge_a2643 h.1 (by omega) (by omega) (by omega)) (fun I1 r1 q1 p1 => ⟨fBz h.1 q1, ?_⟩)
  obtain ⟨z1, rfl, p1⟩ := p1
  refine ⟨z1, rfl, ?_⟩
  have g := oI_fr h q1 (by decide +kernel)
  refine fC_bd (ct_M_gauge_31c2d g.1 (by omega) (by omega) (by omega)) (fun I2 r2 q2 p2 => ⟨fBz g.1 q2, ?_⟩)
  obtain ⟨z2, rfl, p2⟩ := p2
  exact ⟨z2, rfl, oI_fr g q2 (by decide +kernel), trivial⟩
theorem op_37 {I : fH} {x1 : Int} {x2 : Int} {x3 : Int} (h : oI I) (a1 : fin32 x1) (a2 : fin32 x2) (a3 : fin32 x3) : oTwo la ρ base D dA xm_158 xm_439 [.inl x1, .inl x2, .inl x3] I (fun _ _ => True) := by
  refine fC_bd (ct_X_point_52a9b h.1 (by omega) (by omega) (by omega)) (fun I1 r1 q1 p1 => ⟨fBz h.1 q1, ?_⟩)
  obtain ⟨z1, rfl, p1⟩ := p1
  refine ⟨z1, rfl, ?_⟩
  have g := oI_fr h q1 (by decide +kernel)
  refine fC_bd (ct_M_point_4c325 g.1 (by omega) (by omega) (by omega)) (fun I2 r2 q2 p2 => ⟨fBz g.1 q2, ?_⟩)
  obtain ⟨z2, rfl, p2⟩ := p2
  exact ⟨z2, rfl, oI_fr g q2 (by decide +kernel), trivial⟩
theorem op_38 {I : fH} {x1 : Int} {x2 : Int} (h : oI I) (a1 : fin32 x1) (a2 : fin32 x2) : oTwo la ρ base D dA xm_161 xm_440 [.inl x1, .inl x2] I (fun _ _ => True) := by
  refine fC_bd (ct_X_read_09c2a h.1 (by omega) (by omega)) (fun I1 r1 q1 p1 => ⟨fBz h.1 q1, ?_⟩)
  obtain ⟨z1, rfl, p1⟩ := p1
  refine ⟨z1, rfl, ?_⟩
  have g := oI_fr h q1 (by decide +kernel)
  refine fC_bd (ct_M_read_fd62e g.1 (by omega) (by omega)) (fun I2 r2 q2 p2 => ⟨fBz g.1 q2, ?_⟩)
  obtain ⟨z2, rfl, p2⟩ := p2
  exact ⟨z2, rfl, oI_fr g q2 (by decide +kernel), trivial⟩
theorem op_39 {I : fH} {x1 : Int} {x2 : Int} (h : oI I) (a1 : fin32 x1) (a2 : fin32 x2) : oTwo la ρ base D dA xm_164 xm_443 [.inl x1, .inl x2] I (fun _ _ => True) := by
  refine fC_bd (ct_X_worst_10453 h.1 (by omega) (by omega)) (fun I1 r1 q1 p1 => ⟨fBz h.1 q1, ?_⟩)
  obtain ⟨z1, rfl, p1⟩ := p1
  refine ⟨z1, rfl, ?_⟩
  have g := oI_fr h q1 (by decide +kernel)
  refine fC_bd (ct_M_worst_21024 g.1 (by omega) (by omega)) (fun I2 r2 q2 p2 => ⟨fBz g.1 q2, ?_⟩)
  obtain ⟨z2, rfl, p2⟩ := p2
  exact ⟨z2, rfl, oI_fr g q2 (by decide +kernel), trivial⟩
theorem op_40 {I : fH} {x1 : Int} {x2 : Int} {x3 : Int} {x4 : Int} {x5 : Int} (h : oI I) (a1 : fin32 x1) (a2 : fin32 x2) (a3 : fin32 x3) (a4 : fin32 x4) (a5 : fin32 x5) : oTwo la ρ base D dA xm_166 xm_444 [.inl x1, .inl x2, .inl x3, .inl x4, .inl x5] I (fun _ _ => True) := by
  refine fC_bd (ct_X_copy_f4558 h.1 (by omega) (by omega) (by omega) (by omega) (by omega)) (fun I1 r1 q1 p1 => ⟨fBz h.1 q1, ?_⟩)
  obtain ⟨z1, rfl, p1⟩ := p1
  refine ⟨z1, rfl, ?_⟩
  have g := oI_fr h q1 (by decide +kernel)
  refine fC_bd (ct_M_copy_adc00 g.1 (by omega) (by omega) (by omega) (by omega) (by omega)) (fun I2 r2 q2 p2 => ⟨fBz g.1 q2, ?_⟩)
  obtain ⟨z2, rfl, p2⟩ := p2
  exact ⟨z2, rfl, oI_fr g q2 (by decide +kernel), trivial⟩
theorem op_41 {I : fH} {x1 : Int} {x2 : Int} {x3 : Int} (h : oI I) (a1 : fin32 x1) (a2 : fin32 x2) (a3 : fin32 x3) : oTwo la ρ base D dA xm_169 xm_445 [.inl x1, .inl x2, .inl x3] I (fun _ _ => True) := by
  refine fC_bd (ct_X_shows_90a17 h.1 (by omega) (by omega) (by omega)) (fun I1 r1 q1 p1 => ⟨fBz h.1 q1, ?_⟩)
  obtain ⟨z1, rfl, p1⟩ := p1
  refine ⟨z1, rfl, ?_⟩
  have g := oI_fr h q1 (by decide +kernel)
  refine fC_bd (ct_M_shows_19c07 g.1 (by omega) (by omega) (by omega)) (fun I2 r2 q2 p2 => ⟨fBz g.1 q2, ?_⟩)
  obtain ⟨z2, rfl, p2⟩ := p2
  exact ⟨z2, rfl, oI_fr g q2 (by decide +kernel), trivial⟩
theorem op_42 {I : fH} {x1 : Int} {x2 : Int} (h : oI I) (a1 : fin32 x1) (a2 : fin32 x2) : oTwo la ρ base D dA xm_170 xm_448 [.inl x1, .inl x2] I (fun _ _ => True) := by
  refine fC_bd (ct_X_tested_c945d h.1 (by omega) (by omega)) (fun I1 r1 q1 p1 => ⟨fBz h.1 q1, ?_⟩)
  obtain ⟨z1, rfl, p1⟩ := p1
  refine ⟨z1, rfl, ?_⟩
  have g := oI_fr h q1 (by decide +kernel)
  refine fC_bd (ct_M_tested_bcdc3 g.1 (by omega) (by omega)) (fun I2 r2 q2 p2 => ⟨fBz g.1 q2, ?_⟩)
  obtain ⟨z2, rfl, p2⟩ := p2
  exact ⟨z2, rfl, oI_fr g q2 (by decide +kernel), trivial⟩
theorem op_43 {I : fH} {x1 : Int} (h : oI I) (a1 : fin32 x1) : oTwo la ρ base D dA xm_173 xm_451 [.inl x1] I (fun _ _ => True) := by
  refine fC_bd (ct_X_find_eec3a h.1 (by omega)) (fun I1 r1 q1 p1 => ⟨fBz h.1 q1, ?_⟩)
  obtain ⟨z1, rfl, p1⟩ := p1
  refine ⟨z1, rfl, ?_⟩
  have g := oI_fr h q1 (by decide +kernel)
  refine fC_bd (ct_M_find_48382 g.1 (by omega)) (fun I2 r2 q2 p2 => ⟨fBz g.1 q2, ?_⟩)
  obtain ⟨z2, rfl, p2⟩ := p2
  exact ⟨z2, rfl, oI_fr g q2 (by decide +kernel), trivial⟩
theorem op_44 {I : fH} {x1 : Int} {x2 : Int} (h : oI I) (a1 : fin32 x1) (a2 : fin32 x2) : oTwo la ρ base D dA xm_176 xm_453 [.inl x1, .inl x2] I (fun _ _ => True) := by
  refine fC_bd (ct_X_weather_d5811 h.1 (by omega) (by omega)) (fun I1 r1 q1 p1 => ⟨fBz h.1 q1, ?_⟩)
  obtain ⟨z1, rfl, p1⟩ := p1
  refine ⟨z1, rfl, ?_⟩
  have g := oI_fr h q1 (by decide +kernel)
  refine fC_bd (ct_M_weather_26102 g.1 (by omega) (by omega)) (fun I2 r2 q2 p2 => ⟨fBz g.1 q2, ?_⟩)
  obtain ⟨z2, rfl, p2⟩ := p2
  exact ⟨z2, rfl, oI_fr g q2 (by decide +kernel), trivial⟩
theorem op_45 {I : fH} {x1 : Int} {x2 : Int} (h : oI I) (a1 : fin32 x1) (a2 : fin32 x2) : oTwo la ρ base D dA xm_177 xm_454 [.inl x1, .inl x2] I (fun _ _ => True) := by
  refine fC_bd (ct_X_lack_88d12 h.1 (by omega) (by omega)) (fun I1 r1 q1 p1 => ⟨fBz h.1 q1, ?_⟩)
  obtain ⟨z1, rfl, p1⟩ := p1
  refine ⟨z1, rfl, ?_⟩
  have g := oI_fr h q1 (by decide +kernel)
  refine fC_bd (ct_M_lack_9f82b g.1 (by omega) (by omega)) (fun I2 r2 q2 p2 => ⟨fBz g.1 q2, ?_⟩)
  obtain ⟨z2, rfl, p2⟩ := p2
  exact ⟨z2, rfl, oI_fr g q2 (by decide +kernel), trivial⟩
theorem op_46 {I : fH} {x1 : Int} {x2 : Int} {x3 : Int} {x4 : Int} (h : oI I) (a1 : fin32 x1) (a2 : fin32 x2) (a3 : fin32 x3) (a4 : fin32 x4) : oTwo la ρ base D dA xm_185 xm_461 [.inl x1, .inl x2, .inl x3, .inl x4] I (fun _ _ => True) := by
  refine fC_bd (ct_X_sewn_05190 h.1 (by omega) (by omega) (by omega) (by omega)) (fun I1 r1 q1 p1 => ⟨fBz h.1 q1, ?_⟩)
  obtain ⟨z1, rfl, p1⟩ := p1
  refine ⟨z1, rfl, ?_⟩
  have g := oI_fr h q1 (by decide +kernel)
  refine fC_bd (ct_M_sewn_6ebad g.1 (by omega) (by omega) (by omega) (by omega)) (fun I2 r2 q2 p2 => ⟨fBz g.1 q2, ?_⟩)
  obtain ⟨z2, rfl, p2⟩ := p2
  exact ⟨z2, rfl, oI_fr g q2 (by decide +kernel), trivial⟩
theorem op_47 {I : fH} {x1 : Int} {x2 : Int} (h : oI I) (a1 : fin32 x1) (a2 : fin32 x2) : oTwo la ρ base D dA xm_186 xm_462 [.inl x1, .inl x2] I (fun _ _ => True) := by
  refine fC_bd (ct_X_takes_78459 h.1 (by omega) (by omega)) (fun I1 r1 q1 p1 => ⟨fBz h.1 q1, ?_⟩)
  obtain ⟨z1, rfl, p1⟩ := p1
  refine ⟨z1, rfl, ?_⟩
  have g := oI_fr h q1 (by decide +kernel)
  refine fC_bd (ct_M_takes_3be66 g.1 (by omega) (by omega)) (fun I2 r2 q2 p2 => ⟨fBz g.1 q2, ?_⟩)
  obtain ⟨z2, rfl, p2⟩ := p2
  exact ⟨z2, rfl, oI_fr g q2 (by decide +kernel), trivial⟩
theorem op_48 {I : fH} {x1 : Int} {x2 : Int} {x3 : Int} (h : oI I) (a1 : fin32 x1) (a2 : fin32 x2) (a3 : fin32 x3) : oTwo la ρ base D dA xm_187 xm_463 [.inl x1, .inl x2, .inl x3] I (fun _ _ => True) := by
  refine fC_bd (ct_X_harm_aee5c h.1 (by omega) (by omega) (by omega)) (fun I1 r1 q1 p1 => ⟨fBz h.1 q1, ?_⟩)
  obtain ⟨z1, rfl, p1⟩ := p1
  refine ⟨z1, rfl, ?_⟩
  have g := oI_fr h q1 (by decide +kernel)
  refine fC_bd (ct_M_harm_249d0 g.1 (by omega) (by omega) (by omega)) (fun I2 r2 q2 p2 => ⟨fBz g.1 q2, ?_⟩)
  obtain ⟨z2, rfl, p2⟩ := p2
  exact ⟨z2, rfl, oI_fr g q2 (by decide +kernel), trivial⟩
theorem op_49 {I : fH} {x1 : Int} {x2 : Int} (h : oI I) (a1 : fin32 x1) (a2 : fin32 x2) : oTwo la ρ base D dA xm_188 xm_464 [.inl x1, .inl x2] I (fun _ _ => True) := by
  refine fC_bd (ct_X_dark_f8010 h.1 (by omega) (by omega)) (fun I1 r1 q1 p1 => ⟨fBz h.1 q1, ?_⟩)
  obtain ⟨z1, rfl, p1⟩ := p1
  refine ⟨z1, rfl, ?_⟩
  have g := oI_fr h q1 (by decide +kernel)
  refine fC_bd (ct_M_dark_295c2 g.1 (by omega) (by omega)) (fun I2 r2 q2 p2 => ⟨fBz g.1 q2, ?_⟩)
  obtain ⟨z2, rfl, p2⟩ := p2
  exact ⟨z2, rfl, oI_fr g q2 (by decide +kernel), trivial⟩
theorem op_50 {I : fH} {x1 : Int} {x2 : Int} {x3 : Int} (h : oI I) (a1 : fin32 x1) (a2 : fin32 x2) (a3 : fin32 x3) : oTwo la ρ base D dA xm_191 xm_468 [.inl x1, .inl x2, .inl x3] I (fun _ _ => True) := by
  refine fC_bd (ct_X_load_86bcf h.1 (by omega) (by omega) (by omega)) (fun I1 r1 q1 p1 => ⟨fBz h.1 q1, ?_⟩)
  obtain ⟨z1, rfl, p1⟩ := p1
  refine ⟨z1, rfl, ?_⟩
  have g := oI_fr h q1 (by decide +kernel)
  refine fC_bd (ct_M_load_94669 g.1 (by omega) (by omega) (by omega)) (fun I2 r2 q2 p2 => ⟨fBz g.1 q2, ?_⟩)
  obtain ⟨z2, rfl, p2⟩ := p2
  exact ⟨z2, rfl, oI_fr g q2 (by decide +kernel), trivial⟩
theorem op_51 {I : fH} {x1 : Int} {x2 : Int} (h : oI I) (a1 : fin32 x1) (a2 : fin32 x2) : oTwo la ρ base D dA xm_193 xm_470 [.inl x1, .inl x2] I (fun _ _ => True) := by
  refine fC_bd (ct_X_known_5372c h.1 (by omega) (by omega)) (fun I1 r1 q1 p1 => ⟨fBz h.1 q1, ?_⟩)
  obtain ⟨z1, rfl, p1⟩ := p1
  refine ⟨z1, rfl, ?_⟩
  have g := oI_fr h q1 (by decide +kernel)
  refine fC_bd (ct_M_known_05810 g.1 (by omega) (by omega)) (fun I2 r2 q2 p2 => ⟨fBz g.1 q2, ?_⟩)
  obtain ⟨z2, rfl, p2⟩ := p2
  exact ⟨z2, rfl, oI_fr g q2 (by decide +kernel), trivial⟩
theorem op_52 {I : fH} {x1 : Int} {x2 : Int} {x3 : Int} (h : oI I) (a1 : fin32 x1) (a2 : fin32 x2) (a3 : fin32 x3) : oTwo la ρ base D dA xm_194 xm_471 [.inl x1, .inl x2, .inl x3] I (fun _ _ => True) := by
  refine fC_bd (ct_X_ship_594a6 h.1 (by omega) (by omega) (by omega)) (fun I1 r1 q1 p1 => ⟨fBz h.1 q1, ?_⟩)
  obtain ⟨z1, rfl, p1⟩ := p1
  refine ⟨z1, rfl, ?_⟩
  have g := oI_fr h q1 (by decide +kernel)
  refine fC_bd (ct_M_ship_fd85e g.1 (by omega) (by omega) (by omega) g.2.1) (fun I2 r2 q2 p2 => ⟨fBz g.1 q2, ?_⟩)
  obtain ⟨z2, rfl, p2⟩ := p2
  have f2 := fFr_of q2
  have b2 := fBz g.1 q2
  have t2 := f2 699 1 (by decide +kernel)
  have t3 := f2 740 8 (by decide +kernel)
  exact ⟨z2, rfl, ⟨b2, p2.2, by rw [f2 741 0 (by decide +kernel)]; exact g.2.2.1, kI_fr g.2.2.2.1 g.1 f2 (by decide +kernel) (by decide +kernel), by rw [t2, t3]; exact g.2.2.2.2⟩, trivial⟩
theorem op_53 {I : fH} {x1 : Int} (h : oI I) (a1 : fin32 x1) : oTwo la ρ base D dA xm_196 xm_472 [.inl x1] I (fun _ _ => True) := by
  refine fC_bd (ct_X_window_54b3b h.1 (by omega)) (fun I1 r1 q1 p1 => ⟨fBz h.1 q1, ?_⟩)
  obtain ⟨z1, rfl, p1⟩ := p1
  refine ⟨z1, rfl, ?_⟩
  have g := oI_fr h q1 (by decide +kernel)
  refine fC_bd (ct_M_window_94a7b g.1 (by omega) g.2.1) (fun I2 r2 q2 p2 => ⟨fBz g.1 q2, ?_⟩)
  obtain ⟨z2, rfl, p2⟩ := p2
  exact ⟨z2, rfl, oI_fr g q2 (by decide +kernel), trivial⟩
theorem op_54 {I : fH} {x1 : Int} {x2 : Int} (h : oI I) (a1 : fin32 x1) (a2 : fin32 x2) : oTwo la ρ base D dA xm_198 xm_473 [.inl x1, .inl x2] I (fun _ _ => True) := by
  refine fC_bd (ct_X_lot_2a88d h.1 (by omega) (by omega)) (fun I1 r1 q1 p1 => ⟨fBz h.1 q1, ?_⟩)
  obtain ⟨z1, rfl, p1⟩ := p1
  refine ⟨z1, rfl, ?_⟩
  have g := oI_fr h q1 (by decide +kernel)
  refine fC_bd (ct_M_lot_a4778 g.1 (by omega) (by omega)) (fun I2 r2 q2 p2 => ⟨fBz g.1 q2, ?_⟩)
  obtain ⟨z2, rfl, p2⟩ := p2
  exact ⟨z2, rfl, oI_fr g q2 (by decide +kernel), trivial⟩
theorem op_55 {I : fH} {x1 : Int} (h : oI I) (a1 : fin32 x1) : oTwo la ρ base D dA xm_200 xm_474 [.inl x1] I (fun _ _ => True) := by
  refine fC_bd (ct_X_cargo_17ae9 h.1 (by omega)) (fun I1 r1 q1 p1 => ⟨fBz h.1 q1, ?_⟩)
  obtain ⟨z1, rfl, p1⟩ := p1
  refine ⟨z1, rfl, ?_⟩
  have g := oI_fr h q1 (by decide +kernel)
  refine fC_bd (ct_M_cargo_a46a8 g.1 (by omega)) (fun I2 r2 q2 p2 => ⟨fBz g.1 q2, ?_⟩)
  obtain ⟨z2, rfl, p2⟩ := p2
  exact ⟨z2, rfl, oI_fr g q2 (by decide +kernel), trivial⟩
theorem op_56 {I : fH} {x1 : Int} {x2 : Int} {x3 : Int} (h : oI I) (a1 : fin32 x1) (a2 : fin32 x2) (a3 : fin32 x3) : oTwo la ρ base D dA xm_203 xm_475 [.inl x1, .inl x2, .inl x3] I (fun _ _ => True) := by
  refine fC_bd (ct_X_build_aad8f h.1 (by omega) (by omega) (by omega)) (fun I1 r1 q1 p1 => ⟨fBz h.1 q1, ?_⟩)
  obtain ⟨z1, rfl, p1⟩ := p1
  refine ⟨z1, rfl, ?_⟩
  have g := oI_fr h q1 (by decide +kernel)
  refine fC_bd (ct_M_build_09a60 g.1 (by omega) (by omega) (by omega)) (fun I2 r2 q2 p2 => ⟨fBz g.1 q2, ?_⟩)
  obtain ⟨z2, rfl, p2⟩ := p2
  exact ⟨z2, rfl, oI_fr g q2 (by decide +kernel), trivial⟩
theorem op_57 {I : fH} {x1 : Int} {x2 : Int} (h : oI I) (a1 : fin32 x1) (a2 : fin32 x2) : oTwo la ρ base D dA xm_205 xm_476 [.inl x1, .inl x2] I (fun _ _ => True) := by
  refine fC_bd (ct_X_plan_77562 h.1 (by omega) (by omega)) (fun I1 r1 q1 p1 => ⟨fBz h.1 q1, ?_⟩)
  obtain ⟨z1, rfl, p1⟩ := p1
  refine ⟨z1, rfl, ?_⟩
  have g := oI_fr h q1 (by decide +kernel)
  refine fC_bd (ct_M_plan_47fe7 g.1 (by omega) (by omega)) (fun I2 r2 q2 p2 => ⟨fBz g.1 q2, ?_⟩)
  obtain ⟨z2, rfl, p2⟩ := p2
  exact ⟨z2, rfl, oI_fr g q2 (by decide +kernel), trivial⟩
theorem op_58 {I : fH} {x1 : Int} {x2 : Int} (h : oI I) (a1 : fin32 x1) (a2 : fin32 x2) : oTwo la ρ base D dA xm_216 xm_487 [.inl x1, .inl x2] I (fun _ _ => True) := by
  refine fC_bd (ct_X_planned_1f2a9 h.1 (by omega) (by omega)) (fun I1 r1 q1 p1 => ⟨fBz h.1 q1, ?_⟩)
  obtain ⟨z1, rfl, p1⟩ := p1
  refine ⟨z1, rfl, ?_⟩
  have g := oI_fr h q1 (by decide +kernel)
  refine fC_bd (ct_M_planned_1c024 g.1 (by omega) (by omega)) (fun I2 r2 q2 p2 => ⟨fBz g.1 q2, ?_⟩)
  obtain ⟨z2, rfl, p2⟩ := p2
  exact ⟨z2, rfl, oI_fr g q2 (by decide +kernel), trivial⟩
theorem op_59 {I : fH} {x1 : Int} (h : oI I) (a1 : fin32 x1) : oTwo la ρ base D dA xm_217 xm_488 [.inl x1] I (fun _ _ => True) := by
  refine fC_bd (ct_X_tell_f2ca8 h.1 (by omega)) (fun I1 r1 q1 p1 => ⟨fBz h.1 q1, ?_⟩)
  obtain ⟨z1, rfl, p1⟩ := p1
  refine ⟨z1, rfl, ?_⟩
  have g := oI_fr h q1 (by decide +kernel)
  refine fC_bd (ct_M_tell_9320d g.1 (by omega)) (fun I2 r2 q2 p2 => ⟨fBz g.1 q2, ?_⟩)
  obtain ⟨z2, rfl, p2⟩ := p2
  exact ⟨z2, rfl, oI_fr g q2 (by decide +kernel), trivial⟩
theorem op_60 {I : fH} {x1 : Int} {x2 : Int} {x3 : Int} (h : oI I) (a1 : fin32 x1) (a2 : fin32 x2) (a3 : fin32 x3) : oTwo la ρ base D dA xm_218 xm_489 [.inl x1, .inl x2, .inl x3] I (fun _ _ => True) := by
  refine fC_bd (ct_X_check_a63a8 h.1 (by omega) (by omega) (by omega)) (fun I1 r1 q1 p1 => ⟨fBz h.1 q1, ?_⟩)
  obtain ⟨z1, rfl, p1⟩ := p1
  refine ⟨z1, rfl, ?_⟩
  have g := oI_fr h q1 (by decide +kernel)
  refine fC_bd (ct_M_check_402b5 g.1 (by omega) (by omega) (by omega) g.2.2.2.1) (fun I2 r2 q2 p2 => ⟨fBz g.1 q2, ?_⟩)
  obtain ⟨z2, rfl, p2⟩ := p2
  have f2 := fFr_of q2
  have b2 := fBz g.1 q2
  have t2 := f2 699 1 (by decide +kernel)
  have t3 := f2 740 8 (by decide +kernel)
  exact ⟨z2, rfl, ⟨b2, sI_congr (sBd_of g.1) (fun j hj => p2.2 j (relb_lt hj)) g.2.1, by rw [p2.2 0 (by decide)]; exact g.2.2.1, kI_fr g.2.2.2.1 g.1 f2 (by decide +kernel) (by decide +kernel), by rw [t2, t3]; exact g.2.2.2.2⟩, trivial⟩
theorem op_61 {I : fH} (h : oI I) : oTwo la ρ base D dA xm_229 xm_495 [] I (fun _ _ => True) := by
  refine fC_bd (ct_X_keep_80613 h.1) (fun I1 r1 q1 p1 => ⟨fBz h.1 q1, ?_⟩)
  obtain ⟨z1, rfl, p1⟩ := p1
  refine ⟨z1, rfl, ?_⟩
  have g := oI_fr h q1 (by decide +kernel)
  refine fC_bd (ct_M_keep_1913a g.1) (fun I2 r2 q2 p2 => ⟨fBz g.1 q2, ?_⟩)
  obtain ⟨z2, rfl, p2⟩ := p2
  have f2 := fFr_of q2
  have b2 := fBz g.1 q2
  have k2 : kI I2 := fun _ => ⟨sI_congr (sBd_of g.1) (fun j hj => p2.2 j (relb_lt hj)) g.2.1, by rw [p2.2 3 (by decide)]; exact (fBd fb_m3 g.1).1, by rw [p2.2 0 (by decide)]; exact g.2.2.1⟩
  have t2 := f2 699 1 (by decide +kernel)
  have t3 := f2 740 8 (by decide +kernel)
  exact ⟨z2, rfl, ⟨b2, sI_fr g.2.1 g.1 f2 (by decide +kernel), by rw [f2 741 0 (by decide +kernel)]; exact g.2.2.1, k2, by rw [t2, t3]; exact g.2.2.2.2⟩, trivial⟩
theorem op_62 {I : fH} (h : oI I) : oTwo la ρ base D dA xm_232 xm_496 [] I (fun _ _ => True) := by
  refine fC_bd (ct_X_back_43189 h.1) (fun I1 r1 q1 p1 => ⟨fBz h.1 q1, ?_⟩)
  obtain ⟨z1, rfl, p1⟩ := p1
  refine ⟨z1, rfl, ?_⟩
  have g := oI_fr h q1 (by decide +kernel)
  refine fC_bd (ct_M_back_d558f g.1 (fun q => (g.2.2.2.1 q).2.1)) (fun I2 r2 q2 p2 => ⟨fBz g.1 q2, ?_⟩)
  obtain ⟨z2, rfl, p2⟩ := p2
  have f2 := fFr_of q2
  have b2 := fBz g.1 q2
  have s2 : sI I2 741 ∧ I2 741 0 ≤ 20000 := by
    by_cases e : I1 740 3 = 1
    · have k := g.2.2.2.1 e
      exact ⟨sI_congr (sBd_of2 g.1) (fun j hj => p2.2.1 e j (relb_lt hj)) k.1, by rw [p2.2.1 e 0 (by decide)]; exact k.2.2⟩
    · exact ⟨sI_congr (sBd_of g.1) (fun j _ => p2.2.2 e j) g.2.1, by rw [p2.2.2 e 0]; exact g.2.2.1⟩
  have t2 := f2 699 1 (by decide +kernel)
  have t3 := f2 740 8 (by decide +kernel)
  exact ⟨z2, rfl, ⟨b2, s2.1, s2.2, kI_fr g.2.2.2.1 g.1 f2 (by decide +kernel) (by decide +kernel), by rw [t2, t3]; exact g.2.2.2.2⟩, trivial⟩
theorem op_63 {I : fH} {x1 : Int} (h : oI I) (a1 : fin32 x1) : oTwo la ρ base D dA xm_233 xm_497 [.inl x1] I (fun _ _ => True) := by
  refine fC_bd (ct_X_count_87bea h.1 (by omega)) (fun I1 r1 q1 p1 => ⟨fBz h.1 q1, ?_⟩)
  obtain ⟨z1, rfl, p1⟩ := p1
  refine ⟨z1, rfl, ?_⟩
  have g := oI_fr h q1 (by decide +kernel)
  refine fC_bd (ct_M_count_f52dd g.1 (by omega)) (fun I2 r2 q2 p2 => ⟨fBz g.1 q2, ?_⟩)
  obtain ⟨z2, rfl, p2⟩ := p2
  exact ⟨z2, rfl, oI_fr g q2 (by decide +kernel), trivial⟩
end OP

/-! more of the functional layer: calls that write nothing, cuts, ranges of rows -/
theorem fcutJ {j : Nat → fL → List fV → fH → Prop} {N m : Nat} {lv lv' : fL} {st : List fV} {I : fH} (hs : fsub lv' lv) (h : j m lv' st I) (hm : m < N) : ∃ m, m < N ∧ ∃ lv', fsub lv' lv ∧ j m lv' st I := ⟨m, hm, lv', hs, h⟩
section FQ2
variable {g : fG} {bs : Nat → Nat → Int × Int} {zn : Nat → Nat → Nat} {K : Nat → Bool} {I0 I I' : fH} {ρ : Nat → Int32} {base n : Nat} {F : Nat → Prop} {Tc : List (List Jvm.Cond)} {cl : List vw_C} {tys : List FieldType} {D : va_G} {dA : Nat → ClassId} {la : Launch} {mc : xM} {vs : List fV}
theorem fFr_nil (h : fFr zn [] I I') : I' = I := funext fun a => funext fun j => h a j rfl
theorem fcallp {Q : fH → Option fV → Prop} {T : Option fV → Prop} (hB : fB (fbz bs zn K I0) I) (h : fC ρ base n F Tc cl tys D dA la g (fbz bs zn (fKc []) I) mc vs I (fun _ r => T r)) (hq : ∀ r, T r → Q I r) : fC ρ base n F Tc cl tys D dA la g (fbz bs zn K I0) mc vs I Q := fC_bd h (fun I' r q1 q2 => by
  have e : I' = I := fFr_nil (fFr_of q1)
  rw [e]
  exact ⟨hB, hq r q2⟩)
end FQ2
theorem frG_of {g : fG} {a0 a1 k len : Nat} (h : (List.range (a1 + 1 - a0)).all (fun x => Bool.and (match g.1 (a0 + x) with | some q => Bool.and (Nat.beq q.1 k) (Nat.beq q.2 len) | none => false) ((List.range len).all (fun j => match g.2 (a0 + x) j with | some _ => false | none => true))) = true) {o : Nat} (h1 : a0 ≤ o) (h2 : o ≤ a1) : g.1 o = some (k, len) ∧ ∀ j, j < len → g.2 o j = none := by
  have q := List.all_eq_true.mp h (o - a0) (List.mem_range.mpr (by omega))
  rw [show a0 + (o - a0) = o by omega] at q
  obtain ⟨q1, q2⟩ := fand q
  refine ⟨?_, fun j hj => ?_⟩
  · cases hg : g.1 o with
    | none => rw [hg] at q1; cases q1
    | some p =>
      rw [hg] at q1
      obtain ⟨z1, z2⟩ := fand q1
      rw [← Nat.eq_of_beq_eq_true z1, ← Nat.eq_of_beq_eq_true z2]
  · have q3 := List.all_eq_true.mp q2 j (List.mem_range.mpr hj)
    cases hg : g.2 o j with
    | none => rfl
    | some p => rw [hg] at q3; cases q3
theorem fup_self {I I' : fH} {a j : Nat} {v : Int} (e : I' = fupd I a j v) : I' a j = v := by rw [e]; exact fup_eq
theorem fup_other {I I' : fH} {a j : Nat} {v : Int} (e : I' = fupd I a j v) (b k : Nat) (h : b ≠ a ∨ k ≠ j) : I' b k = I b k := by rw [e]; exact fup_ne h
theorem fopt_mk {α : Type} {o : Option α} {x : α} {k : α → Prop} (e : o = some x) (h : k x) : fopt o k := by rw [e]; exact h

set_option linter.all false
/-! rows that change in one place -/
theorem fup_if {I I' : fH} {a j : Nat} {v : Int} (e : I' = fupd I a j v) (k : Nat) : I' a k = if k = j then v else I a k := by
  rw [e]
  unfold fupd
  by_cases h : k = j
  · rw [if_pos ⟨rfl, h⟩, if_pos h]
  · rw [if_neg (fun q => h q.2), if_neg h]
theorem fupd_ix {I : fH} {a j j' : Nat} {v : Int} (h : j = j') : fupd I a j v = fupd I a j' v := by rw [h]
theorem fld_ix {I : fH} {a j j' : Nat} (h : j = j') : I a j = I a j' := by rw [h]
theorem if_no {q : Prop} [Decidable q] {v w : Int} (h : ¬ q) : w = (if q then v else w) := (if_neg h).symm
theorem if_gx {p q : Prop} [Decidable p] [Decidable q] {v w w' : Int} (hm : p ↔ q) (hw : ¬ q → w' = w) : (if p then v else w') = (if q then v else w) := by
  by_cases h : q
  · rw [if_pos (hm.mpr h), if_pos h]
  · rw [if_neg (fun x => h (hm.mp x)), if_neg h]
    exact hw h
theorem if_go {p q : Prop} [Decidable p] [Decidable q] {v w w' : Int} (hm : p ↔ q) (hw : w' = w) : (if p then v else w') = (if q then v else w) := if_gx hm (fun _ => hw)
theorem fFr_rows {W : List Nat} {I I' : fH} (f : fFr znJ W I I') {r m len : Nat} (hz : (List.range m).all (fun k => (List.range len).all (fun j => Bool.not (W.elem (znJ (r + k) j)))) = true) (k j : Nat) (hk : k < m) (hj : j < len) : I' (r + k) j = I (r + k) j := by
  refine f _ _ ?_
  have q := List.all_eq_true.mp (List.all_eq_true.mp hz k (List.mem_range.mpr hk)) j (List.mem_range.mpr hj)
  cases c : W.elem (znJ (r + k) j) with
  | false => rfl
  | true => rw [c] at q; cases q

set_option linter.all false
/-! plain bounds, without omega -/
def fic (lo hi : Int) : Bool := decide (-2147483648 ≤ lo) && decide (hi < 2147483648)
theorem fi_ {lo hi z : Int} (h1 : lo ≤ z) (h2 : z ≤ hi) (c : fic lo hi = true) : fin32 z := by
  obtain ⟨c1, c2⟩ := Bool.and_eq_true_iff.mp c
  exact ⟨Int.le_trans (of_decide_eq_true c1) h1, Int.lt_of_le_of_lt h2 (of_decide_eq_true c2)⟩
def fid (lo hi : Int) : Bool := decide (-9223372036854775808 ≤ lo) && decide (hi < 9223372036854775808)
theorem fl_ {lo hi z : Int} (h1 : lo ≤ z) (h2 : z ≤ hi) (c : fid lo hi = true) : fin64 z := by
  obtain ⟨c1, c2⟩ := Bool.and_eq_true_iff.mp c
  exact ⟨Int.le_trans (of_decide_eq_true c1) h1, Int.lt_of_le_of_lt h2 (of_decide_eq_true c2)⟩
section FZ1
variable {g : fG} {bs : Nat → Nat → Int × Int} {zn : Nat → Nat → Nat} {K : Nat → Bool} {I0 I : fH} {W W' : List Nat} {k o b a0 a1 i0 i1 : Nat} {i lo hi v : Int}
theorem fload1 {G : Int → Prop} (hr : frL g bs k ((a0, a1), (i0, i1), (1, 0), (lo, hi))) (h0 : fB bs I0) (hB : fB (fbz bs zn K I0) I) (ho : a0 ≤ o ∧ o ≤ a1) (hj : (i0 : Int) ≤ i ∧ i ≤ (i1 : Int)) (h : ∀ z, lo ≤ z → z ≤ hi → z = I o i.toNat → G z) : fsh g k o i ∧ ∀ z, z = I o i.toNat → G z := fload hr h0 hB ⟨ho, hj, by omega⟩ h
theorem fstore1 {G : fH → Prop} (hr : frS g bs zn W k ((a0, a1), (i0, i1), (1, 0), (lo, hi))) (hW : fzs W K) (ho : a0 ≤ o ∧ o ≤ a1) (hj : (i0 : Int) ≤ i ∧ i ≤ (i1 : Int)) (hv : lo ≤ v ∧ v ≤ hi) (h : ∀ I', I' = fupd I o i.toNat v → fB (fbz bs zn K I0) I' → G I') : fsh g k o i ∧ ((fbz bs zn K I0 o i.toNat).1 ≤ v ∧ v ≤ (fbz bs zn K I0 o i.toNat).2) ∧ ∀ I', I' = fupd I o i.toNat v → fB (fbz bs zn K I0) I' → G I' := fstore hr hW ⟨ho, hj, by omega⟩ hv h
end FZ1
theorem wi_ {z : Int} {P Q : Prop} (h : (z = 1 ∧ P) ∨ (z = 0 ∧ Q)) (c : ¬ z = 0) : P := h.elim (fun q => q.2) (fun q => absurd q.1 c)
theorem wj_ {z : Int} {P Q : Prop} (h : (z = 1 ∧ P) ∨ (z = 0 ∧ Q)) (c : z = 0) : Q := h.elim (fun q => absurd q.1 (by omega)) (fun q => q.2)
theorem wk_ {z : Int} {P : Prop} (h : (z = 1 ∧ P) ∨ z = 0) (c : ¬ z = 0) : P := h.elim (fun q => q.2) (fun q => absurd q c)
theorem wl_ {z : Int} {P : Prop} (_ : (z = 1 ∧ P) ∨ z = 0) (c : z = 0) : z = 0 := c
theorem wm_ {z : Int} {P : Prop} (h : z = 1 → P) (b : 0 ≤ z ∧ z ≤ 1) (c : ¬ z = 0) : P := h (by omega)
theorem wn_ {z : Int} {P : Prop} (h : z = 0 → P) (c : z = 0) : P := h c

set_option linter.all false
/-! the reference's table of harms -/
def hbv (I : fH) (i b l : Int) : Int := if b - I 741 (4560 + l).toNat < 0 then 1000000 else (if 1000000 < I 741 (4570 + 4 * i + l).toNat + I 756 (301 * (i + 1) + (b - I 741 (4560 + l).toNat)).toNat then 1000000 else I 741 (4570 + 4 * i + l).toNat + I 756 (301 * (i + 1) + (b - I 741 (4560 + l).toNat)).toNat)
/-- some load gives what stands there -/
def sLd (I : fH) (i b : Int) : Prop := ∃ l : Int, (0 ≤ l ∧ l < 4) ∧ hbv I i b l = I 756 (301 * i + b).toNat
theorem ne_to {I : fH} {a j j' : Nat} {v : Int} (h : I a j ≠ v) (e : j' = j) : I a j' ≠ v := by rw [e]; exact h
theorem hbv_keep {I I' : fH} {i0 b0 v i b : Int} (e : I' = fupd I 756 (301 * i0 + b0).toNat v) (hr : 0 ≤ i0 ∧ 0 ≤ b0 ∧ b0 ≤ 300) (hi : i0 ≤ i) (l : Int) : hbv I' i b l = hbv I i b l := by
  have e1 : ∀ j, I' 741 j = I 741 j := fun j => fup_other e 741 j (Or.inl (by decide))
  unfold hbv
  rw [e1, e1]
  by_cases c : b - I 741 (4560 + l).toNat < 0
  · rw [if_pos c, if_pos c]
  · rw [if_neg c, if_neg c, fup_other e 756 _ (Or.inr (by omega))]
theorem ld_keep {I I' : fH} {i0 b0 v i b : Int} (e : I' = fupd I 756 (301 * i0 + b0).toNat v) (hr : 0 ≤ i0 ∧ 0 ≤ b0 ∧ b0 ≤ 300) (hi : i0 ≤ i) (hb : 0 ≤ b ∧ b ≤ 300) (hne : i ≠ i0 ∨ b ≠ b0) (h : sLd I i b) : sLd I' i b := by
  obtain ⟨l, h1, h2⟩ := h
  refine ⟨l, h1, ?_⟩
  rw [hbv_keep e hr hi, h2, fup_other e 756 _ (Or.inr (by omega))]
theorem ld_new {I I' : fH} {i b v : Int} (e : I' = fupd I 756 (301 * i + b).toNat v) (hr : 0 ≤ i ∧ 0 ≤ b ∧ b ≤ 300) (h : ∃ l : Int, (0 ≤ l ∧ l < 4) ∧ hbv I i b l = v) : sLd I' i b := by
  obtain ⟨l, h1, h2⟩ := h
  refine ⟨l, h1, ?_⟩
  rw [hbv_keep e hr (Int.le_refl _), h2, fup_self e]
theorem ld_eq {I I' : fH} (h1 : ∀ j, I' 741 j = I 741 j) (h2 : ∀ j, I' 756 j = I 756 j) {i b : Int} (h : sLd I i b) : sLd I' i b := by
  obtain ⟨l, q1, q2⟩ := h
  refine ⟨l, q1, ?_⟩
  unfold hbv at q2 ⊢
  simp only [h1, h2]
  exact q2
theorem ld_step {I : fH} {i b y5 y6 h z : Int} (hx : (y6 = 0 ∧ y5 = 1000000) ∨ ∃ l : Int, (0 ≤ l ∧ l < 4) ∧ hbv I i b l = y5) (hh : h = hbv I i b y6) (hle : h ≤ 1000000) (hy : 0 ≤ y6 ∧ y6 < 4) (hz : z ≤ y5 ∧ z ≤ h ∧ (z = y5 ∨ z = h)) : ∃ l : Int, (0 ≤ l ∧ l < 4) ∧ hbv I i b l = z := by
  by_cases c : z = h
  · exact ⟨y6, hy, by rw [← hh, c]⟩
  · rcases hx with hx | ⟨l, h1, h2⟩
    · omega
    · exact ⟨l, h1, by omega⟩
theorem ld_go {I : fH} {i b l : Int} (h : hbv I i b l ≠ 1000000) (h1 : 0 ≤ I 741 (4570 + 4 * i + l).toNat) : 0 ≤ b - I 741 (4560 + l).toNat ∧ I 756 (301 * (i + 1) + (b - I 741 (4560 + l).toNat)).toNat ≠ 1000000 := by
  unfold hbv at h
  split at h
  · exact absurd rfl h
  · refine ⟨by omega, fun q => ?_⟩
    rw [q] at h
    split at h
    · exact h rfl
    · omega
theorem fFr_at {W : List Nat} {I I' : fH} (f : fFr znJ W I I') (a : Nat) (hz : (W.all (fun z => Bool.not (Nat.beq z a))) = true) (hc : frg zvJ a = none) (j : Nat) : I' a j = I a j := f a j (by
  have e : znJ a j = a := by show fzt zvJ a j = a; unfold fzt; rw [hc]
  rw [e]
  cases c : W.elem a with
  | false => rfl
  | true =>
    have q := List.all_eq_true.mp hz _ (List.elem_iff.mp c)
    rw [Nat.beq_refl] at q
    cases q)
theorem fBd {bs : Nat → Nat → Int × Int} {I : fH} {a j : Nat} {lo hi : Int} (e : bs a j = (lo, hi)) (h : fB bs I) : lo ≤ I a j ∧ I a j ≤ hi := by
  have q := h a j
  rw [e] at q
  exact q
/-- the best so far is some load's, or none is looked at -/
def sBst (I : fH) (i b y5 y6 : Int) : Prop := (y6 = 0 ∧ y5 = 1000000) ∨ ∃ l : Int, (0 ≤ l ∧ l < 4) ∧ hbv I i b l = y5
theorem sBst_0 {I : fH} {i b y5 y6 : Int} (h5 : y5 = 1000000) (h6 : y6 = 0) : sBst I i b y5 y6 := Or.inl ⟨h6, h5⟩
theorem sBst_step {I : fH} {i b y5 y6 y7 h z : Int} (hx : sBst I i b y5 y6) (hh : h = hbv I i b y6) (hle : h ≤ 1000000) (hy : 0 ≤ y6 ∧ y6 < 4) (hz : z ≤ y5 ∧ z ≤ h ∧ (z = y5 ∨ z = h)) : sBst I i b z y7 := Or.inr (ld_step hx hh hle hy hz)
theorem sBst_get {I : fH} {i b y5 y6 : Int} (h : sBst I i b y5 y6) (h6 : y6 ≠ 0) : ∃ l : Int, (0 ≤ l ∧ l < 4) ∧ hbv I i b l = y5 := h.resolve_left (fun q => h6 q.1)

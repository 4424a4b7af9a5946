set_option linter.all false
/-! the charter: which text counts -/
theorem okL_f {L : Lw} {t : Int} (k : okL L) (hT : 0 ≤ t ∧ t < L.n) : -1 ≤ L.fld t.toNat 1 ∧ -1 ≤ L.fld t.toNat 2 := (k t.toNat (by omega)).1.2
theorem okL_len0 {L : Lw} {t y : Int} (k : okL L) (hT : 0 ≤ t ∧ t < L.n) (hy : y = 0) : y ≤ L.fld t.toNat 4 := by
  have h := (k t.toNat (by omega)).1.1
  omega
theorem cF_k {d : Nat} {I : fH} {t : Int} {k : Nat} (hT : 0 ≤ t ∧ t < 12) (hn : t < (cLw d I).n) : (cLw d I).fld t.toNat k = cFv d I t.toNat k :=
  if_pos (show ((t.toNat : Nat) : Int) < I (187 + d) 6 ∧ t.toNat < 12 from ⟨by show _ < (cLw d I).n; omega, by omega⟩)
theorem cF0 {d : Nat} {I : fH} {t z : Int} (q : z = I (188 + d) t.toNat) (hT : 0 ≤ t ∧ t < 12) (hn : t < (cLw d I).n) : (cLw d I).fld t.toNat 0 = z := (cF_k hT hn).trans q.symm
theorem nvc {f v : Int} (h : f = nv v) (h1 : -1 ≤ f) : (v = -1000000005 ∧ f = -1) ∨ (0 ≤ v ∧ f = v) := by
  by_cases e : v = -1000000005
  · exact Or.inl ⟨e, by rw [h, e, nv_no]⟩
  · rw [h] at h1
    have w := nv_ne e h1
    exact Or.inr ⟨by omega, by rw [h, w.2]⟩
theorem cF1 {d : Nat} {I : fH} {t z : Int} (q : z = I (189 + d) t.toNat) (k : okL (cLw d I)) (hT : 0 ≤ t ∧ t < 12) (hn : t < (cLw d I).n) : (z = -1000000005 ∧ (cLw d I).fld t.toNat 1 = -1) ∨ (0 ≤ z ∧ (cLw d I).fld t.toNat 1 = z) :=
  nvc ((cF_k hT hn).trans (congrArg nv q.symm)) (okL_f k ⟨hT.1, hn⟩).1
theorem cF2 {d : Nat} {I : fH} {t z : Int} (q : z = I (190 + d) t.toNat) (k : okL (cLw d I)) (hT : 0 ≤ t ∧ t < 12) (hn : t < (cLw d I).n) : (z = -1000000005 ∧ (cLw d I).fld t.toNat 2 = -1) ∨ (0 ≤ z ∧ (cLw d I).fld t.toNat 2 = z) :=
  nvc ((cF_k hT hn).trans (congrArg nv q.symm)) (okL_f k ⟨hT.1, hn⟩).2
theorem mF_k {s : Nat} {I : fH} {t z : Int} {k p : Nat} (q : z = I s p) (hp : p = 1210 + 200 * t.toNat + k) (hk : k ≤ 4) (hT : 0 ≤ t ∧ t < 12) (hn : t < (mLw s I).n) : (mLw s I).fld t.toNat k = z := by
  rw [q, hp]
  exact if_pos (show (((t.toNat : Nat) : Int) < I s 9 ∧ t.toNat < 12) ∧ k ≤ 4 from ⟨⟨by show _ < (mLw s I).n; omega, by omega⟩, hk⟩)
/-- the class's way to the text that counts: found, latest, so far -/
def cnR (L : Lw) (k h f l i : Int) : Prop := (f = -1000000005 ∧ l = -1000000005 ∧ cnL L k h i.toNat = -1) ∨ (0 ≤ f ∧ f < i ∧ cnL L k h i.toNat = f ∧ l = L.fld f.toNat 1 ∧ 0 ≤ l)
theorem cnR_0 {L : Lw} {k h f l i : Int} (hf : f = -1000000005) (hl : l = -1000000005) (hi : i = 0) : cnR L k h f l i := by
  subst hi
  exact Or.inl ⟨hf, hl, rfl⟩
theorem cnL_S {L : Lw} {k h i i' : Int} (hi : 0 ≤ i) (hi' : i' = i + 1) : cnL L k h i'.toNat = cnS L k h i.toNat (cnL L k h i.toNat) := by
  rw [show i'.toNat = i.toNat + 1 by omega]
  rfl
theorem cnR_n {L : Lw} {k h f l i i' : Int} (g : cnR L k h f l i) (hi : 0 ≤ i) (hi' : i' = i + 1) (no : ¬ (L.fld i.toNat 0 = k ∧ inF L h i.toNat ∧ l ≤ L.fld i.toNat 1)) : cnR L k h f l i' := by
  rcases g with ⟨a, b, c⟩ | ⟨a, b, c, e, x⟩
  · refine Or.inl ⟨a, b, ?_⟩
    rw [cnL_S hi hi', c]
    exact if_neg (fun q => no ⟨q.1, q.2.1, by have := q.2.1.1; omega⟩)
  · refine Or.inr ⟨a, by omega, ?_, e, x⟩
    rw [cnL_S hi hi', c]
    exact if_neg (fun q => no ⟨q.1, q.2.1, q.2.2.elim (fun w => absurd w (by omega)) (fun w => by rw [e]; exact w)⟩)
theorem cnR_y {L : Lw} {k h f l i i' f' l' : Int} (g : cnR L k h f l i) (hi : 0 ≤ i) (hi' : i' = i + 1) (h0 : L.fld i.toNat 0 = k) (h1 : inF L h i.toNat) (h2 : l ≤ L.fld i.toNat 1) (hf : f' = i) (hl : l' = L.fld i.toNat 1) : cnR L k h f' l' i' := by
  have ei : ((i.toNat : Nat) : Int) = i := Int.toNat_of_nonneg hi
  refine Or.inr ⟨by omega, by omega, ?_, by rw [hl, hf], by rw [hl]; exact h1.1⟩
  rw [cnL_S hi hi', hf]
  refine (if_pos ⟨h0, h1, ?_⟩).trans ei
  rcases g with ⟨a, b, c⟩ | ⟨a, b, c, e, x⟩
  · exact Or.inl (by rw [c]; decide)
  · refine Or.inr ?_
    rw [c, ← e]
    exact h2
/-- the answer: the text, or nothing -/
def cnZ (L : Lw) (k h z : Int) : Prop := (z = -1000000005 ∧ cnT L k h = -1) ∨ (0 ≤ z ∧ z < L.n ∧ cnT L k h = z)
theorem cnR_z {L : Lw} {k h f l i z : Int} (g : cnR L k h f l i) (hi : i = L.n) (hz : z = f) : cnZ L k h z := by
  subst hz
  subst hi
  exact g.elim (fun q => Or.inl ⟨q.1, q.2.2⟩) (fun q => Or.inr ⟨q.1, q.2.1, q.2.2.1⟩)
theorem cnL_lt {L : Lw} {k h : Int} : ∀ {n : Nat}, -1 ≤ cnL L k h n ∧ cnL L k h n < (n : Int)
  | 0 => ⟨by show (-1 : Int) ≤ -1; decide, by show (-1 : Int) < ((0 : Nat) : Int); decide⟩
  | n + 1 => by
    have g := cnL_lt (L := L) (k := k) (h := h) (n := n)
    show -1 ≤ (if L.fld n 0 = k ∧ inF L h n ∧ (cnL L k h n < 0 ∨ L.fld (cnL L k h n).toNat 1 ≤ L.fld n 1) then (n : Int) else cnL L k h n) ∧ (if L.fld n 0 = k ∧ inF L h n ∧ (cnL L k h n < 0 ∨ L.fld (cnL L k h n).toNat 1 ≤ L.fld n 1) then (n : Int) else cnL L k h n) < ((n + 1 : Nat) : Int)
    split
    · omega
    · omega
theorem cnL_y {L : Lw} {k h i i' f : Int} (g : f = cnL L k h i.toNat) (hi : 0 ≤ i) (hi' : i' = i + 1) (h0 : L.fld i.toNat 0 = k) (h1 : inF L h i.toNat) (h2 : f < 0 ∨ L.fld f.toNat 1 ≤ L.fld i.toNat 1) : i = cnL L k h i'.toNat := by
  rw [cnL_S hi hi', ← g]
  exact ((if_pos ⟨h0, h1, h2⟩).trans (Int.toNat_of_nonneg hi)).symm
theorem cnL_n {L : Lw} {k h i i' f : Int} (g : f = cnL L k h i.toNat) (hi : 0 ≤ i) (hi' : i' = i + 1) (no : ¬ (L.fld i.toNat 0 = k ∧ inF L h i.toNat ∧ (f < 0 ∨ L.fld f.toNat 1 ≤ L.fld i.toNat 1))) : f = cnL L k h i'.toNat := by
  rw [cnL_S hi hi', ← g]
  exact (if_neg no).symm

set_option linter.all false
/-! shapes, bounds and zones as tables -/
def frin (r : fR) (a j : Nat) : Bool := Bool.and (Bool.and (Nat.ble r.1.1 a) (Nat.ble a r.1.2)) (Bool.and (Bool.and (Nat.ble r.2.1.1 j) (Nat.ble j r.2.1.2)) (Nat.ble ((j - r.2.1.1) % r.2.2.1.1) r.2.2.1.2))
def fbs : List fR → Nat → Nat → Int × Int
  | [], _, _ => (-2147483648, 2147483647)
  | q :: r, a, j => match frin q a j with
    | true => q.2.2.2
    | false => fbs r a j
def fgs (sh : List (List (Nat × Nat))) (a : Nat) : Option (Nat × Nat) := match sh[a / 64]? with
  | some r => r[a % 64]?
  | none => none
def fgr (rf : List (Nat × List (Option Nat))) (rb : List (Nat × (Nat × Nat))) (a j : Nat) : Option Nat := match fcut rb a with
  | some (r0, n) => match Nat.blt j n with
    | true => some (r0 + j)
    | false => none
  | none => match fcut rf a with
    | some l => match l[j]? with
      | some o => o
      | none => none
    | none => none
def fgb (rb : List (Nat × (Nat × Nat))) (a : Nat) : Option Nat := match fcut rb a with
  | some (r0, _) => some r0
  | none => none
/-- zones: cells a0 .. a1, places i0 .. i1; the zone is z + the distance from i0 modulo m, at most c; else one for each cell -/
abbrev fZt : Type := (Nat × Nat) × ((Nat × Nat) × ((Nat × Nat) × Nat))
def fzn : List fZt → Nat → Nat → Nat
  | [], a, _ => a
  | q :: r, a, j => match Bool.and (Bool.and (Nat.ble q.1.1 a) (Nat.ble a q.1.2)) (Bool.and (Nat.ble q.2.1.1 j) (Nat.ble j q.2.1.2)) with
    | true => q.2.2.2 + min ((j - q.2.1.1) % q.2.2.1.1) q.2.2.1.2
    | false => fzn r a j
/-- what is kept as it is in I0: the zones of K -/
def fbz (bs : Nat → Nat → Int × Int) (zn : Nat → Nat → Nat) (K : Nat → Bool) (I0 : fH) (a j : Nat) : Int × Int := match K (zn a j) with
  | true => (I0 a j, I0 a j)
  | false => bs a j
def fzs (W : List Nat) (K : Nat → Bool) : Prop := ∀ z ∈ W, K z = false
def fallp (r : fR) (p : Nat → Nat → Bool) : Bool := (List.range (r.1.2 + 1 - r.1.1)).all (fun x => (List.range (r.2.1.2 + 1 - r.2.1.1)).all (fun y => Bool.or (Nat.blt r.2.2.1.2 (y % r.2.2.1.1)) (p (r.1.1 + x) (r.2.1.1 + y))))
theorem fallp_of {r : fR} {p : Nat → Nat → Bool} (h : fallp r p = true) {a : Nat} {i : Int} (hin : fin r a i) : 0 ≤ i ∧ p a i.toNat = true := by
  obtain ⟨⟨a0, a1⟩, ⟨i0, i1⟩, ⟨m, r1⟩, b⟩ := r
  obtain ⟨⟨h1, h2⟩, ⟨h3, h4⟩, h5⟩ := hin
  refine ⟨by omega, ?_⟩
  obtain ⟨j, rfl⟩ : ∃ j : Nat, i = (j : Int) := ⟨i.toNat, by omega⟩
  have h3 : i0 ≤ j := by omega
  have h4 : j ≤ i1 := by omega
  have q := List.all_eq_true.mp (List.all_eq_true.mp h (a - a0) (List.mem_range.mpr (by show a - a0 < a1 + 1 - a0; omega))) (j - i0) (List.mem_range.mpr (by show j - i0 < i1 + 1 - i0; omega))
  simp only [] at q
  rw [show a0 + (a - a0) = a by omega, show i0 + (j - i0) = j by omega] at q
  have h6 : ¬ r1 < (j - i0) % m := by
    have e : ((j : Int) - (i0 : Int)) = ((j - i0 : Nat) : Int) := by omega
    rw [e, ← Int.natCast_emod] at h5
    omega
  rw [show Nat.blt r1 ((j - i0) % m) = false from xnf (fun z => h6 (xblt.mp z))] at q
  exact q
def fshb (g : fG) (k a j : Nat) : Bool := Bool.and (match g.1 a with
  | some q => Bool.and (Nat.beq q.1 k) (Nat.blt j q.2)
  | none => false) (match g.2 a j with | some _ => false | none => true)
theorem fshb_of {g : fG} {k a : Nat} {i : Int} (h0 : 0 ≤ i) (h : fshb g k a i.toNat = true) : fsh g k a i := by
  obtain ⟨q1, q2⟩ := fand h
  refine ⟨h0, ?_, ?_⟩
  · cases hg : g.1 a with
    | none => rw [hg] at q1; cases q1
    | some p =>
      rw [hg] at q1
      obtain ⟨z1, z2⟩ := fand q1
      exact ⟨p.2, by rw [← Nat.eq_of_beq_eq_true z1], xblt.mp z2⟩
  · cases hg : g.2 a i.toNat with
    | none => rfl
    | some p => rw [hg] at q2; cases q2
/-- a region to load from, a region to store to -/
def frL (g : fG) (bs : Nat → Nat → Int × Int) (k : Nat) (r : fR) : Prop := ∀ a i, fin r a i → fsh g k a i ∧ r.2.2.2.1 ≤ (bs a i.toNat).1 ∧ (bs a i.toNat).2 ≤ r.2.2.2.2
def frS (g : fG) (bs : Nat → Nat → Int × Int) (zn : Nat → Nat → Nat) (W : List Nat) (k : Nat) (r : fR) : Prop := ∀ a i, fin r a i → fsh g k a i ∧ ((bs a i.toNat).1 ≤ r.2.2.2.1 ∧ r.2.2.2.2 ≤ (bs a i.toNat).2) ∧ zn a i.toNat ∈ W
theorem frL_of {g : fG} {bs : Nat → Nat → Int × Int} {k : Nat} {r : fR} (h : fallp r (fun a j => Bool.and (fshb g k a j) (Bool.and (decide (r.2.2.2.1 ≤ (bs a j).1)) (decide ((bs a j).2 ≤ r.2.2.2.2)))) = true) : frL g bs k r := by
  intro a i hin
  obtain ⟨h0, h⟩ := fallp_of h hin
  obtain ⟨h1, h⟩ := fand h
  obtain ⟨h2, h3⟩ := fand h
  exact ⟨fshb_of h0 h1, of_decide_eq_true h2, of_decide_eq_true h3⟩
theorem frS_of {g : fG} {bs : Nat → Nat → Int × Int} {zn : Nat → Nat → Nat} {W : List Nat} {k : Nat} {r : fR} (h : fallp r (fun a j => Bool.and (fshb g k a j) (Bool.and (Bool.and (decide ((bs a j).1 ≤ r.2.2.2.1)) (decide (r.2.2.2.2 ≤ (bs a j).2))) (decide (zn a j ∈ W)))) = true) : frS g bs zn W k r := by
  intro a i hin
  obtain ⟨h0, h⟩ := fallp_of h hin
  obtain ⟨h1, h⟩ := fand h
  obtain ⟨h2, h4⟩ := fand h
  obtain ⟨h2, h3⟩ := fand h2
  exact ⟨fshb_of h0 h1, ⟨of_decide_eq_true h2, of_decide_eq_true h3⟩, of_decide_eq_true h4⟩
section FZ
variable {g : fG} {bs : Nat → Nat → Int × Int} {zn : Nat → Nat → Nat} {K : Nat → Bool} {I0 I : fH} {W W' : List Nat} {k o b a0 a1 i0 i1 m r1 : Nat} {i lo hi v : Int}
theorem fBz (h0 : fB bs I0) (hB : fB (fbz bs zn K I0) I) : fB bs I := by
  intro a j
  have h := hB a j
  unfold fbz at h
  split at h
  · have e : I a j = I0 a j := by have h1 := h.1; have h2 := h.2; simp only [] at h1 h2; omega
    rw [e]
    exact h0 a j
  · exact h
theorem fBz_eq (hB : fB (fbz bs zn K I0) I) {a j : Nat} (h : K (zn a j) = true) : I a j = I0 a j := by
  have q := hB a j
  unfold fbz at q
  rw [h] at q
  have h1 := q.1
  have h2 := q.2
  simp only [] at h1 h2
  omega
theorem fzs_sub (h : W'.all (fun z => W.elem z) = true) (hW : fzs W K) : fzs W' K := fun z hz => hW z (List.elem_iff.mp (List.all_eq_true.mp h z hz))
theorem fload {G : Int → Prop} (hr : frL g bs k ((a0, a1), (i0, i1), (m, r1), (lo, hi))) (h0 : fB bs I0) (hB : fB (fbz bs zn K I0) I) (hin : (a0 ≤ o ∧ o ≤ a1) ∧ ((i0 : Int) ≤ i ∧ i ≤ (i1 : Int)) ∧ (i - (i0 : Int)) % (m : Int) ≤ (r1 : Int)) (h : ∀ z, lo ≤ z → z ≤ hi → z = I o i.toNat → G z) : fsh g k o i ∧ ∀ z, z = I o i.toNat → G z := by
  obtain ⟨h1, h2, h3⟩ := hr o i hin
  refine ⟨h1, fun z hz => h z ?_ ?_ hz⟩
  · have := (fBz h0 hB o i.toNat).1
    simp only [] at h2
    omega
  · have := (fBz h0 hB o i.toNat).2
    simp only [] at h3
    omega
theorem fstore {G : fH → Prop} (hr : frS g bs zn W k ((a0, a1), (i0, i1), (m, r1), (lo, hi))) (hW : fzs W K) (hin : (a0 ≤ o ∧ o ≤ a1) ∧ ((i0 : Int) ≤ i ∧ i ≤ (i1 : Int)) ∧ (i - (i0 : Int)) % (m : Int) ≤ (r1 : Int)) (hv : lo ≤ v ∧ v ≤ hi) (h : ∀ I', I' = fupd I o i.toNat v → fB (fbz bs zn K I0) I' → G I') : fsh g k o i ∧ ((fbz bs zn K I0 o i.toNat).1 ≤ v ∧ v ≤ (fbz bs zn K I0 o i.toNat).2) ∧ ∀ I', I' = fupd I o i.toNat v → fB (fbz bs zn K I0) I' → G I' := by
  obtain ⟨h1, ⟨h2, h3⟩, h4⟩ := hr o i hin
  refine ⟨h1, ?_, h⟩
  have e : fbz bs zn K I0 o i.toNat = bs o i.toNat := by unfold fbz; rw [hW _ h4]
  rw [e]
  simp only [] at h2 h3
  omega
theorem fgetf {G : Int → Prop} (e : bs o b = (lo, hi)) (h0 : fB bs I0) (hB : fB (fbz bs zn K I0) I) (h : ∀ z, lo ≤ z → z ≤ hi → z = I o b → G z) : ∀ z, z = I o b → G z := by
  intro z hz
  have q := fBz h0 hB o b
  rw [e, ← hz] at q
  exact h z q.1 q.2 hz
theorem fputf {G : fH → Prop} (e : bs o b = (lo, hi)) (ez : zn o b ∈ W) (hW : fzs W K) (hv : lo ≤ v ∧ v ≤ hi) (h : ∀ I', I' = fupd I o b v → fB (fbz bs zn K I0) I' → G I') : ((fbz bs zn K I0 o b).1 ≤ v ∧ v ≤ (fbz bs zn K I0 o b).2) ∧ ∀ I', I' = fupd I o b v → fB (fbz bs zn K I0) I' → G I' := by
  refine ⟨?_, h⟩
  have q : fbz bs zn K I0 o b = bs o b := by unfold fbz; rw [hW _ ez]
  rw [q, e]
  exact hv
theorem fup_ne {a j a' j' : Nat} (h : a' ≠ a ∨ j' ≠ j) : fupd I a j v a' j' = I a' j' := if_neg (fun q => h.elim (fun z => z q.1) (fun z => z q.2))
theorem fup_eq {a j : Nat} : fupd I a j v a j = v := if_pos ⟨rfl, rfl⟩
end FZ
/-- all but the zones of W is as it was -/
def fFr (zn : Nat → Nat → Nat) (W : List Nat) (I I' : fH) : Prop := ∀ a j, W.elem (zn a j) = false → I' a j = I a j
def fKc (W : List Nat) (z : Nat) : Bool := Bool.not (W.elem z)
theorem fKc_ok (W : List Nat) : fzs W (fKc W) := fun z hz => by unfold fKc; rw [List.elem_iff.mpr hz]; rfl
section FQ
variable {g : fG} {bs : Nat → Nat → Int × Int} {zn : Nat → Nat → Nat} {K : Nat → Bool} {I0 I I' I'' : fH} {W W' : List Nat}
theorem fB_self (h : fB bs I) : fB (fbz bs zn K I) I := by
  intro a j
  unfold fbz
  split
  · exact ⟨Int.le_refl _, Int.le_refl _⟩
  · exact h a j
theorem fFr_of (h : fB (fbz bs zn (fKc W) I) I') : fFr zn W I I' := fun a j q => fBz_eq h (by unfold fKc; rw [q]; rfl)
theorem fFr_back (hW : fzs W K) (h0 : fB bs I0) (hB : fB (fbz bs zn K I0) I) (h : fB (fbz bs zn (fKc W) I) I') : fB (fbz bs zn K I0) I' := by
  intro a j
  by_cases c : W.elem (zn a j) = true
  · have e1 : fbz bs zn K I0 a j = bs a j := by unfold fbz; rw [hW _ (List.elem_iff.mp c)]
    rw [e1]
    exact fBz (fBz h0 hB) h a j
  · rw [fFr_of h a j (xnf c)]
    exact hB a j
theorem fFr_trans (h : W'.all (fun z => W.elem z) = true) (h1 : fFr zn W I I') (h2 : fFr zn W' I' I'') : fFr zn W I I'' := fun a j q => by
  rw [h2 a j ?_, h1 a j q]
  cases c : W'.elem (zn a j) with
  | false => rfl
  | true =>
    have := List.all_eq_true.mp h _ (List.elem_iff.mp c)
    rw [q] at this
    exact this.symm
variable {ρ : Nat → Int32} {base n : Nat} {F : Nat → Prop} {Tc : List (List Jvm.Cond)} {cl : List vw_C} {tys : List FieldType} {D : va_G} {dA : Nat → ClassId} {la : Launch} {mc : xM} {vs : List fV}
theorem fC_bd {bd bd' : Nat → Nat → Int × Int} {Q Q' : fH → Option fV → Prop} (h : fC ρ base n F Tc cl tys D dA la g bd' mc vs I Q') (hq : ∀ I' r, fB bd' I' → Q' I' r → fB bd I' ∧ Q I' r) : fC ρ base n F Tc cl tys D dA la g bd mc vs I Q := by
  intro hp hh
  refine f_k (fun e h' n' r' q => ?_) (h hp hh)
  obtain ⟨q1, I', r, q2, q3, q4, q5⟩ := @of_decide_eq_true _ (Classical.propDecidable _) q
  exact @decide_eq_true _ (Classical.propDecidable _) ⟨q1, I', r, q2, q3, hq I' r q4 q5⟩
theorem fcall {Q : fH → Option fV → Prop} (T : fH → Option fV → Prop) (h0 : fB bs I0) (hW : fzs W K) (hB : fB (fbz bs zn K I0) I) (h : fC ρ base n F Tc cl tys D dA la g (fbz bs zn (fKc W) I) mc vs I T) (hq : ∀ I' r, fB (fbz bs zn K I0) I' → fFr zn W I I' → T I' r → Q I' r) : fC ρ base n F Tc cl tys D dA la g (fbz bs zn K I0) mc vs I Q := fC_bd h (fun I' r q1 q2 => ⟨fFr_back hW h0 hB q1, hq I' r (fFr_back hW h0 hB q1) (fFr_of q1) q2⟩)
end FQ
theorem fOk_of {sh : List (List (Nat × Nat))} {rf : List (Nat × List (Option Nat))} {rb : List (Nat × (Nat × Nat))} (hs : sh.all (fun r => r.all (fun q => Nat.ble q.2 100000)) = true) (hb : rb.all (fun q => match fgs sh q.1 with | some p => Nat.beq p.2 q.2.2 | none => true) = true) : fOkR (fgs sh, fgr rf rb) (fgb rb) := by
  refine ⟨fun o r0 len e1 e2 j hj => ?_, fun o k len e => ?_⟩
  · have e1 : fgb rb o = some r0 := e1
    have e2 : fgs sh o = some (102, len) := e2
    unfold fgb at e1
    show fgr rf rb o j = some (r0 + j)
    unfold fgr
    cases hc : fcut rb o with
    | none => rw [hc] at e1; cases e1
    | some q =>
      obtain ⟨q1, q2⟩ := q
      rw [hc] at e1
      cases e1
      have z := List.all_eq_true.mp hb (o, r0, q2) (fcut_mem hc)
      simp only [e2] at z
      have z := Nat.eq_of_beq_eq_true z
      show (match Nat.blt j q2 with
        | true => some (r0 + j)
        | false => none) = some (r0 + j)
      rw [show Nat.blt j q2 = true from xblt.mpr (by omega)]
  · have e : fgs sh o = some (k, len) := e
    unfold fgs at e
    cases hr : sh[o / 64]? with
    | none => rw [hr] at e; cases e
    | some r =>
      rw [hr] at e
      have z := List.all_eq_true.mp (List.all_eq_true.mp hs r (List.mem_of_getElem? hr)) (k, len) (List.mem_of_getElem? e)
      exact Nat.le_of_ble_eq_true z

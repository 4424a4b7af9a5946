set_option linter.all false
/-! more of the functional layer: calls that write nothing, cuts, ranges of rows -/
theorem fcutJ {j : Nat → fL → List fV → fH → Prop} {N m : Nat} {lv lv' : fL} {st : List fV} {I : fH} (hs : fsub lv' lv) (h : j m lv' st I) (hm : m < N) : ∃ m, m < N ∧ ∃ lv', fsub lv' lv ∧ j m lv' st I := ⟨m, hm, lv', hs, h⟩
section FQ2
variable {g : fG} {bs : Nat → Nat → Int × Int} {zn : Nat → Nat → Nat} {K : Nat → Bool} {I0 I I' : fH} {ρ : Nat → Int32} {base n : Nat} {F : Nat → Prop} {Tc : List (List Jvm.Cond)} {cl : List vw_C} {tys : List FieldType} {D : va_G} {dA : Nat → ClassId} {la : Launch} {mc : xM} {vs : List fV}
theorem fFr_nil (h : fFr zn [] I I') : I' = I := funext fun a => funext fun j => h a j rfl
theorem fcallp {Q : fH → Option fV → Prop} {T : Option fV → Prop} (hB : fB (fbz bs zn K I0) I) (h : fC ρ base n F Tc cl tys D dA la g (fbz bs zn (fKc []) I) mc vs I (fun _ r => T r)) (hq : ∀ r, T r → Q I r) : fC ρ base n F Tc cl tys D dA la g (fbz bs zn K I0) mc vs I Q := fC_bd h (fun I' r q1 q2 => by
  have e : I' = I := fFr_nil (fFr_of q1)
  rw [e]
  exact ⟨hB, hq r q2⟩)
end FQ2
theorem frG_of {g : fG} {a0 a1 k len : Nat} (h : (List.range (a1 + 1 - a0)).all (fun x => Bool.and (match g.1 (a0 + x) with | some q => Bool.and (Nat.beq q.1 k) (Nat.beq q.2 len) | none => false) ((List.range len).all (fun j => match g.2 (a0 + x) j with | some _ => false | none => true))) = true) {o : Nat} (h1 : a0 ≤ o) (h2 : o ≤ a1) : g.1 o = some (k, len) ∧ ∀ j, j < len → g.2 o j = none := by
  have q := List.all_eq_true.mp h (o - a0) (List.mem_range.mpr (by omega))
  rw [show a0 + (o - a0) = o by omega] at q
  obtain ⟨q1, q2⟩ := fand q
  refine ⟨?_, fun j hj => ?_⟩
  · cases hg : g.1 o with
    | none => rw [hg] at q1; cases q1
    | some p =>
      rw [hg] at q1
      obtain ⟨z1, z2⟩ := fand q1
      rw [← Nat.eq_of_beq_eq_true z1, ← Nat.eq_of_beq_eq_true z2]
  · have q3 := List.all_eq_true.mp q2 j (List.mem_range.mpr hj)
    cases hg : g.2 o j with
    | none => rfl
    | some p => rw [hg] at q3; cases q3
theorem fup_self {I I' : fH} {a j : Nat} {v : Int} (e : I' = fupd I a j v) : I' a j = v := by rw [e]; exact fup_eq
theorem fup_other {I I' : fH} {a j : Nat} {v : Int} (e : I' = fupd I a j v) (b k : Nat) (h : b ≠ a ∨ k ≠ j) : I' b k = I b k := by rw [e]; exact fup_ne h
theorem fopt_mk {α : Type} {o : Option α} {x : α} {k : α → Prop} (e : o = some x) (h : k x) : fopt o k := by rw [e]; exact h
/-! tables in two steps: a range of cells, then places -/
abbrev fBe : Type := (Nat × Nat) × ((Nat × Nat) × (Int × Int))
abbrev fZe : Type := (Nat × Nat) × ((Nat × Nat) × Nat)
def fbe : List fBe → Nat → Int × Int
  | [], _ => (-2147483648, 2147483647)
  | q :: r, j => match Bool.and (Bool.and (Nat.ble q.1.1 j) (Nat.ble j q.1.2)) (Nat.ble ((j - q.1.1) % q.2.1.1) q.2.1.2) with
    | true => q.2.2
    | false => fbe r j
def frg {α : Type} : List ((Nat × Nat) × α) → Nat → Option α
  | [], _ => none
  | q :: r, a => match Bool.and (Nat.ble q.1.1 a) (Nat.ble a q.1.2) with
    | true => some q.2
    | false => frg r a
def fbt (bt : List ((Nat × Nat) × List fBe)) (a j : Nat) : Int × Int := match frg bt a with
  | some l => fbe l j
  | none => (-2147483648, 2147483647)
def fze (z0 : Nat) : List fZe → Nat → Nat
  | [], _ => z0
  | q :: r, j => match Bool.and (Nat.ble q.1.1 j) (Nat.ble j q.1.2) with
    | true => q.2.2 + min ((j - q.1.1) % q.2.1.1) q.2.1.2
    | false => fze z0 r j
def fzt (zt : List ((Nat × Nat) × (Nat × List fZe))) (a j : Nat) : Nat := match frg zt a with
  | some q => fze q.1 q.2 j
  | none => a
theorem fbe_hull {lo hi : Int} (hd : lo ≤ -2147483648 ∧ 2147483647 ≤ hi) : ∀ {l : List fBe}, l.all (fun q => Bool.and (decide (lo ≤ q.2.2.1)) (decide (q.2.2.2 ≤ hi))) = true → ∀ j, lo ≤ (fbe l j).1 ∧ (fbe l j).2 ≤ hi := by
  intro l
  induction l with
  | nil => intro _ j; exact hd
  | cons q l ih =>
    intro h j
    have h1 := List.all_eq_true.mp h q List.mem_cons_self
    obtain ⟨z1, z2⟩ := fand h1
    unfold fbe
    split
    · exact ⟨of_decide_eq_true z1, of_decide_eq_true z2⟩
    · exact ih (List.all_eq_true.mpr (fun x hx => List.all_eq_true.mp h x (List.mem_cons_of_mem _ hx))) j
theorem fgr_none {rf : List (Nat × List (Option Nat))} {rt : List (Nat × (Nat × Nat))} {a : Nat} (h1 : fcut rt a = none) (h2 : fcut rf a = none) (j : Nat) : fgr rf rt a j = none := by unfold fgr; rw [h1, h2]
def fnr (rf : List (Nat × List (Option Nat))) (rt : List (Nat × (Nat × Nat))) (a : Nat) : Bool := Bool.and (match fcut rt a with | none => true | some _ => false) (match fcut rf a with | none => true | some _ => false)
theorem fnr_of {rf : List (Nat × List (Option Nat))} {rt : List (Nat × (Nat × Nat))} {a : Nat} (h : fnr rf rt a = true) (j : Nat) : fgr rf rt a j = none := by
  obtain ⟨z1, z2⟩ := fand h
  refine fgr_none ?_ ?_ j
  · cases hc : fcut rt a with
    | none => rfl
    | some _ => rw [hc] at z1; cases z1
  · cases hc : fcut rf a with
    | none => rfl
    | some _ => rw [hc] at z2; cases z2
def fcel (sh : List (List (Nat × Nat))) (k i1 a : Nat) : Bool := match fgs sh a with
  | some q => Bool.and (Nat.beq q.1 k) (Nat.blt i1 q.2)
  | none => false
theorem fcel_of {sh : List (List (Nat × Nat))} {rf : List (Nat × List (Option Nat))} {rt : List (Nat × (Nat × Nat))} {k i1 a : Nat} {i : Int} (h : fcel sh k i1 a = true) (hn : fnr rf rt a = true) (h0 : 0 ≤ i) (h1 : i ≤ (i1 : Int)) : fsh (fgs sh, fgr rf rt) k a i := by
  refine ⟨h0, ?_, fnr_of hn _⟩
  unfold fcel at h
  cases hg : fgs sh a with
  | none => rw [hg] at h; cases h
  | some q =>
    rw [hg] at h
    obtain ⟨z1, z2⟩ := fand h
    have z2 := xblt.mp z2
    exact ⟨q.2, by show fgs sh a = _; rw [hg, ← Nat.eq_of_beq_eq_true z1], by omega⟩
/-- any numbers of the table's width -/
theorem frL_hull {sh : List (List (Nat × Nat))} {rf : List (Nat × List (Option Nat))} {rt : List (Nat × (Nat × Nat))} {bt : List ((Nat × Nat) × List fBe)} {k a0 a1 i0 i1 m r1 : Nat} {lo hi : Int} (hd : lo ≤ -2147483648 ∧ 2147483647 ≤ hi) (h : (List.range (a1 + 1 - a0)).all (fun x => Bool.and (Bool.and (fcel sh k i1 (a0 + x)) (fnr rf rt (a0 + x))) (match frg bt (a0 + x) with | some l => l.all (fun q => Bool.and (decide (lo ≤ q.2.2.1)) (decide (q.2.2.2 ≤ hi))) | none => true)) = true) : frL (fgs sh, fgr rf rt) (fbt bt) k ((a0, a1), (i0, i1), (m, r1), (lo, hi)) := by
  rintro a i ⟨⟨h1, h2⟩, ⟨h3, h4⟩, -⟩
  have q := List.all_eq_true.mp h (a - a0) (List.mem_range.mpr (by omega))
  rw [show a0 + (a - a0) = a by omega] at q
  obtain ⟨q1, q2⟩ := fand q
  obtain ⟨q3, q4⟩ := fand q1
  refine ⟨fcel_of q3 q4 (by omega) h4, ?_⟩
  show lo ≤ (fbt bt a i.toNat).1 ∧ (fbt bt a i.toNat).2 ≤ hi
  unfold fbt
  cases hg : frg bt a with
  | none => exact hd
  | some l =>
    rw [hg] at q2
    exact fbe_hull hd q2 _
/-- places of cells without bounds of their own, one zone each -/
theorem frS_dflt {sh : List (List (Nat × Nat))} {rf : List (Nat × List (Option Nat))} {rt : List (Nat × (Nat × Nat))} {bt : List ((Nat × Nat) × List fBe)} {zt : List ((Nat × Nat) × (Nat × List fZe))} {W : List Nat} {k a0 a1 i0 i1 m r1 : Nat} {lo hi : Int} (hd : -2147483648 ≤ lo ∧ hi ≤ 2147483647) (h : (List.range (a1 + 1 - a0)).all (fun x => Bool.and (Bool.and (fcel sh k i1 (a0 + x)) (fnr rf rt (a0 + x))) (Bool.and (match frg bt (a0 + x) with | some _ => false | none => true) (match frg zt (a0 + x) with | some q => (match q.2 with | [] => W.elem q.1 | _ => false) | none => W.elem (a0 + x)))) = true) : frS (fgs sh, fgr rf rt) (fbt bt) (fzt zt) W k ((a0, a1), (i0, i1), (m, r1), (lo, hi)) := by
  rintro a i ⟨⟨h1, h2⟩, ⟨h3, h4⟩, -⟩
  have q := List.all_eq_true.mp h (a - a0) (List.mem_range.mpr (by omega))
  rw [show a0 + (a - a0) = a by omega] at q
  obtain ⟨q1, q2⟩ := fand q
  obtain ⟨q3, q4⟩ := fand q1
  obtain ⟨q5, q6⟩ := fand q2
  refine ⟨fcel_of q3 q4 (by omega) h4, ?_, ?_⟩
  · show (fbt bt a i.toNat).1 ≤ lo ∧ hi ≤ (fbt bt a i.toNat).2
    unfold fbt
    cases hg : frg bt a with
    | none => exact hd
    | some l => rw [hg] at q5; cases q5
  · show fzt zt a i.toNat ∈ W
    unfold fzt
    cases hg : frg zt a with
    | none => rw [hg] at q6; exact List.elem_iff.mp q6
    | some p =>
      rw [hg] at q6
      obtain ⟨z0, l⟩ := p
      cases l with
      | nil => exact List.elem_iff.mp q6
      | cons _ _ => cases q6
theorem fup_at {I I' : fH} {a j : Nat} {v : Int} (e : I' = fupd I a j v) (j' : Nat) (h : j' = j) : I' a j' = v := by rw [h]; exact fup_self e
theorem fld_at {I : fH} {a j : Nat} {z : Int} (q : z = I a j) (j' : Nat) (h : j' = j) : z = I a j' := by rw [h]; exact q
theorem fstoreX {g : fG} {bs : Nat → Nat → Int × Int} {zn : Nat → Nat → Nat} {K : Nat → Bool} {I0 I : fH} {W : List Nat} {k o : Nat} {i v : Int} {G : fH → Prop} (hW : fzs W K) (hs : fsh g k o i ∧ zn o i.toNat ∈ W ∧ (bs o i.toNat).1 ≤ v ∧ v ≤ (bs o i.toNat).2) (h : ∀ I', I' = fupd I o i.toNat v → fB (fbz bs zn K I0) I' → G I') : fsh g k o i ∧ ((fbz bs zn K I0 o i.toNat).1 ≤ v ∧ v ≤ (fbz bs zn K I0 o i.toNat).2) ∧ ∀ I', I' = fupd I o i.toNat v → fB (fbz bs zn K I0) I' → G I' := by
  refine ⟨hs.1, ?_, h⟩
  have e : fbz bs zn K I0 o i.toNat = bs o i.toNat := by unfold fbz; rw [hW _ hs.2.1]
  rw [e]
  exact hs.2.2

set_option linter.all false
/-! what the abstract state says of the machine's -/
def xSR (ρ : Nat → Int32) (base : Nat) : List xV → List Value → Prop
  | [], [] => True
  | a :: l, v :: r => xg ρ base a v ∧ xSR ρ base l r
  | _, _ => False
def xLR (ρ : Nat → Int32) (base : Nat) : xL → List (Nat × Value) → Prop
  | [], [] => True
  | a :: l, v :: r => (a.1 = v.1 ∧ xg ρ base a.2 v.2) ∧ xLR ρ base l r
  | _, _ => False
theorem xSR_nil {ρ : Nat → Int32} {base : Nat} {vs : List Value} (h : xSR ρ base [] vs) : vs = [] := by
  cases vs with
  | nil => rfl
  | cons v r => exact h.elim
theorem xSR_cons {ρ : Nat → Int32} {base : Nat} {a : xV} {l : List xV} {vs : List Value} (h : xSR ρ base (a :: l) vs) : ∃ v r, vs = v :: r ∧ xg ρ base a v ∧ xSR ρ base l r := by
  cases vs with
  | nil => exact h.elim
  | cons v r => exact ⟨v, r, rfl, h.1, h.2⟩
theorem xSR_len {ρ : Nat → Int32} {base : Nat} : ∀ {l : List xV} {vs : List Value}, xSR ρ base l vs → vs.length = l.length := by
  intro l
  induction l with
  | nil => intro vs h; rw [xSR_nil h]; rfl
  | cons a l ih =>
    intro vs h
    obtain ⟨v, r, rfl, -, h2⟩ := xSR_cons h
    simp [ih h2]
theorem xSR_get {ρ : Nat → Int32} {base : Nat} : ∀ {l : List xV} {vs : List Value}, xSR ρ base l vs → ∀ {i : Nat} {x : xV}, l[i]? = some x → ∃ v, vs[i]? = some v ∧ xg ρ base x v := by
  intro l
  induction l with
  | nil => intro vs _ i x hx; simp at hx
  | cons a l ih =>
    intro vs h i x hx
    obtain ⟨v, r, rfl, h1, h2⟩ := xSR_cons h
    cases i with
    | zero => simp at hx; subst hx; exact ⟨v, rfl, h1⟩
    | succ i => exact ih h2 (i := i) (by simpa using hx)
theorem xSR_set {ρ : Nat → Int32} {base : Nat} : ∀ {l : List xV} {vs : List Value}, xSR ρ base l vs → ∀ {i : Nat} {x : xV} {v : Value}, xg ρ base x v → xSR ρ base (l.set i x) (vs.set i v) := by
  intro l
  induction l with
  | nil => intro vs h i x v _; rw [xSR_nil h]; exact trivial
  | cons a l ih =>
    intro vs h i x v hv
    obtain ⟨w, r, rfl, h1, h2⟩ := xSR_cons h
    cases i with
    | zero => exact ⟨hv, h2⟩
    | succ i => exact ⟨h1, ih h2 hv⟩
theorem xSR_rep {ρ : Nat → Int32} {base : Nat} {x : xV} {v : Value} (h : xg ρ base x v) : ∀ n : Nat, xSR ρ base (List.replicate n x) (List.replicate n v) := by
  intro n
  induction n with
  | zero => exact trivial
  | succ n ih => exact ⟨h, ih⟩
theorem xSR_app {ρ : Nat → Int32} {base : Nat} : ∀ {l l2 : List xV} {vs v2 : List Value}, xSR ρ base l vs → xSR ρ base l2 v2 → xSR ρ base (l ++ l2) (vs ++ v2) := by
  intro l
  induction l with
  | nil => intro l2 vs v2 h h2; rw [xSR_nil h]; exact h2
  | cons a l ih =>
    intro l2 vs v2 h h2
    obtain ⟨w, r, rfl, h1, h3⟩ := xSR_cons h
    exact ⟨h1, ih h3 h2⟩
theorem xSR_rev {ρ : Nat → Int32} {base : Nat} : ∀ {l : List xV} {vs : List Value}, xSR ρ base l vs → xSR ρ base l.reverse vs.reverse := by
  intro l
  induction l with
  | nil => intro vs h; rw [xSR_nil h]; exact trivial
  | cons a l ih =>
    intro vs h
    obtain ⟨w, r, rfl, h1, h3⟩ := xSR_cons h
    rw [List.reverse_cons, List.reverse_cons]
    exact xSR_app (ih h3) ⟨h1, trivial⟩
theorem xLR_nil {ρ : Nat → Int32} {base : Nat} {vs : List (Nat × Value)} (h : xLR ρ base [] vs) : vs = [] := by
  cases vs with
  | nil => rfl
  | cons v r => exact h.elim
theorem xLR_cons {ρ : Nat → Int32} {base : Nat} {a : Nat × xV} {l : xL} {vs : List (Nat × Value)} (h : xLR ρ base (a :: l) vs) : ∃ v r, vs = v :: r ∧ a.1 = v.1 ∧ xg ρ base a.2 v.2 ∧ xLR ρ base l r := by
  cases vs with
  | nil => exact h.elim
  | cons v r => exact ⟨v, r, rfl, h.1.1, h.1.2, h.2⟩
theorem xLR_get {ρ : Nat → Int32} {base : Nat} : ∀ {l : xL} {vs : List (Nat × Value)}, xLR ρ base l vs → ∀ {j i : Nat} {x : xV}, l[j]? = some (i, x) → ∃ v, vs[j]? = some (i, v) ∧ xg ρ base x v := by
  intro l
  induction l with
  | nil => intro vs _ j i x hx; simp at hx
  | cons a l ih =>
    intro vs h j i x hx
    obtain ⟨v, r, rfl, h0, h1, h2⟩ := xLR_cons h
    cases j with
    | zero =>
      simp at hx
      subst hx
      exact ⟨v.2, by show some v = some (i, v.2); rw [show i = v.1 from h0], h1⟩
    | succ j => exact ih h2 (j := j) (by simpa using hx)
theorem xbq (a b : Nat) : Nat.beq a b = (a == b) := by rw [Bool.eq_iff_iff]; simp
theorem xcat2 {ρ : Nat → Int32} {base : Nat} {x : xV} {v : Value} (h : xg ρ base x v) : Nat.beq (xis x) 2 = (v.category == 2) := by
  rw [xg_cat h]
  by_cases e : xis x = 2
  · simp [e]
  · rw [xbq]
    simp [e]
theorem xLR_fil {ρ : Nat → Int32} {base i : Nat} : ∀ {l : xL} {vs : List (Nat × Value)}, xLR ρ base l vs → xLR ρ base (l.filter (fun q => !xdrop i 0 q)) (vs.filter (fun q => !(q.1 == i) && !(q.1 + 1 == i && q.2.category == 2))) := by
  intro l
  induction l with
  | nil => intro vs h; rw [xLR_nil h]; exact trivial
  | cons a l ih =>
    intro vs h
    obtain ⟨v, r, rfl, h0, h1, h2⟩ := xLR_cons h
    have e : (!xdrop i 0 a) = (!(v.1 == i) && !(v.1 + 1 == i && v.2.category == 2)) := by
      unfold xdrop
      rw [xcat2 h1, h0]
      simp only [xbq]
      show (!((v.1 == i) || ((v.1 + 1 == i) && (v.2.category == 2) || (false && (v.1 == i + 1))))) = _
      cases (v.1 == i) <;> cases (v.1 + 1 == i) <;> cases (v.2.category == 2) <;> rfl
    rw [List.filter_cons, List.filter_cons, ← e]
    by_cases c : (!xdrop i 0 a) = true
    · rw [if_pos c, if_pos c]
      exact ⟨⟨h0, h1⟩, ih h2⟩
    · rw [if_neg c, if_neg c]
      exact ih h2
theorem xLR_filR {ρ : Nat → Int32} {base i : Nat} : ∀ {l : xL} {vs : List (Nat × Value)}, xLR ρ base l vs → xLR ρ base (l.filter (fun q => !xdrop i 1 q)) (vs.filter (fun q => !(q.1 == i) && !(q.1 + 1 == i && q.2.category == 2))) := by
  intro l vs h
  have e : (fun q => !xdrop i 1 q) = (fun q => !xdrop i 0 q) := by
    funext q
    rfl
  rw [e]
  exact xLR_fil h
theorem xLR_filL {ρ : Nat → Int32} {base i : Nat} : ∀ {l : xL} {vs : List (Nat × Value)}, xLR ρ base l vs → xLR ρ base (l.filter (fun q => !xdrop i 2 q)) (vs.filter (fun q => !(q.1 == i) && (!(q.1 == i + 1) && !(q.1 + 1 == i && q.2.category == 2)))) := by
  intro l
  induction l with
  | nil => intro vs h; rw [xLR_nil h]; exact trivial
  | cons a l ih =>
    intro vs h
    obtain ⟨v, r, rfl, h0, h1, h2⟩ := xLR_cons h
    have e : (!xdrop i 2 a) = (!(v.1 == i) && (!(v.1 == i + 1) && !(v.1 + 1 == i && v.2.category == 2))) := by
      unfold xdrop
      rw [xcat2 h1, h0]
      simp only [xbq]
      show (!((v.1 == i) || ((v.1 + 1 == i) && (v.2.category == 2) || (true && (v.1 == i + 1))))) = _
      cases (v.1 == i) <;> cases (v.1 + 1 == i) <;> cases (v.2.category == 2) <;> cases (v.1 == i + 1) <;> rfl
    rw [List.filter_cons, List.filter_cons, ← e]
    by_cases c : (!xdrop i 2 a) = true
    · rw [if_pos c, if_pos c]
      exact ⟨⟨h0, h1⟩, ih h2⟩
    · rw [if_neg c, if_neg c]
      exact ih h2
/-- the places of a cell -/
def xFR (ρ : Nat → Int32) (base n : Nat) (rows : List (List xV)) (fs : List Value) : Prop := fs.length = n ∧ ∀ i x, xat rows i = some x → ∃ v, fs[i]? = some v ∧ xg ρ base x v
theorem xFR_set {ρ : Nat → Int32} {base n : Nat} {rows rows' : List (List xV)} {fs : List Value} (h : xFR ρ base n rows fs) {i : Nat} {x : xV} {v : Value} (h0 : ∃ c0, xat rows i = some c0) (h1 : xat rows' i = some x) (h2 : ∀ b, b ≠ i → xat rows' b = xat rows b) (hv : xg ρ base x v) : i < fs.length ∧ xFR ρ base n rows' (fs.set i v) := by
  obtain ⟨c0, hc0⟩ := h0
  obtain ⟨v0, hv0, -⟩ := h.2 i c0 hc0
  have hi : i < fs.length := (List.getElem?_eq_some_iff.mp hv0).1
  refine ⟨hi, by rw [List.length_set]; exact h.1, fun j y hy => ?_⟩
  by_cases e : j = i
  · subst e
    rw [h1] at hy
    cases hy
    exact ⟨v, by simp [hi], hv⟩
  · rw [h2 j e] at hy
    obtain ⟨w, hw, hg⟩ := h.2 j y hy
    exact ⟨w, by rw [List.getElem?_set, if_neg (fun q => e q.symm)]; exact hw, hg⟩
theorem xFR_rep {ρ : Nat → Int32} {base n : Nat} {rows : List (List xV)} {x : xV} {v : Value} (h : ∀ i y, xat rows i = some y → i < n ∧ y = x) (hv : xg ρ base x v) : xFR ρ base n rows (List.replicate n v) := by
  refine ⟨List.length_replicate, fun i y hy => ?_⟩
  obtain ⟨h1, rfl⟩ := h i y hy
  exact ⟨v, by rw [List.getElem?_replicate, if_pos h1], hv⟩
theorem xFR_one {ρ : Nat → Int32} {base : Nat} {r : List xV} {fs : List Value} (h : xSR ρ base r fs) (hr : r.length ≤ 64) : xFR ρ base r.length [r] fs := ⟨xSR_len h, fun i x hx => xSR_get h (xat_one hx hr)⟩
/-- a cell, the heap, the classes of arrays -/
def xCR (ρ : Nat → Int32) (base : Nat) (D : va_G) (dA : Nat → ClassId) (tys : List FieldType) (cl : List vw_C) (a : Nat) (c : xC) (H : Heap) : Prop :=
  ∃ fs : List Value, xFR ρ base c.2.1 c.2.2 fs ∧ ((c.1 < 100 ∧ va_at D cl (base + a, .inr (c.1, fs)) H) ∨ (100 ≤ c.1 ∧ H[base + a]? = some (arrV (dA (c.1 - 100)) fs.length (vp_V fs)) ∧ ∃ ty, tys[c.1 - 100]? = some ty ∧ ∀ v ∈ fs, fits ty v = true))
def xHR (ρ : Nat → Int32) (base : Nat) (F : Nat → Prop) (D : va_G) (dA : Nat → ClassId) (tys : List FieldType) (cl : List vw_C) (h : xH) (n : Nat) (H : Heap) : Prop := (H.size = base + n ∧ (∀ a c, xat h a = some c → F (base + a)) ∧ (∀ q, base + n ≤ q → F q) ∧ ∀ q, F q → dA 5000 ≤ q) ∧ ∀ a c, xat h a = some c → xCR ρ base D dA tys cl a c H
/-- int[][] is the class of arrays over int[] -/
def xAO (U : State) : Prop := (Jvm.Cond.arrayOver (.array .int)).before #[] U = true
theorem xAO.use {A : Array Value} {U : State} (h : xAO U) : (Jvm.Cond.arrayOver (.array .int)).before A U = true := h
theorem xAO.moved {u U : State} (hvm : u.vm.Alike U.vm) (h : xAO u) : xAO U := by
  obtain ⟨comp, c, k, h1, h2, h3, h4, h5⟩ := arrayOverA_spec h
  obtain ⟨k', hk', he⟩ := hvm.2.2 _ _ h3
  have hi : (U.vm.classes.findIdx? fun (x : Class) => match x.kind with | .array component _ => component == comp | _ => false) = some c := by
    rw [hvm.findIdx?_eq _ (fun _ => rfl)]
    exact h2
  have hkind : k'.kind = .array comp (.array .int) := by rw [he]; exact h4
  have f1 : U.vm.findClass (FieldType.array .int).toString = some comp := by rw [hvm.findClass]; exact h1
  have f2 : U.vm.findClass ("[" ++ (FieldType.array .int).toString) = some c := by rw [hvm.findClass]; exact h5
  unfold xAO Cond.before Cond.holds
  simp only [Cond.value]
  rw [f1, Option.bind_some]
  refine (congrArg (fun o : Option Nat => (o.bind (fun c => (U.vm.classes[c]?).map fun (k : Class) => match k.kind with | .array _ ty => decide (ty = FieldType.array .int) && decide (U.vm.findClass ("[" ++ (FieldType.array .int).toString) = some c) | _ => false) == some true)) hi).trans ?_
  simp [hk', hkind, f2]
/-- the String constants, where they lie (the table of the arrays' classes keeps it from 1000 on), all of them below dA 5000 -/
def xsl : List Nat := [5, 4, 4, 5, 4, 4, 5, 7, 4, 4, 4]
def xsb : List (List Int32) := [[115, 104, 97, 114, 101], [111, 112, 101, 110], [115, 104, 101, 100], [98, 105, 114, 116, 104], [118, 111, 116, 101], [112, 97, 115, 115], [97, 99, 115, 110, 104], [107, 109, 103, 108, 102, 112, 104], [112, 111, 117, 104], [121, 110, 101, 104], [97, 99, 115, 104]]
def xst : List String := ["share", "op" ++ "en", "shed", "birth", "vote", "pass", "acsnh", "kmglfph", "pouh", "yneh", "acsh"]
def xKS (dA : Nat → ClassId) (U : State) : Prop := vk_S 11 xsl xsb (fun i => dA (1000 + i)) (fun i => dA (2000 + i)) (fun q => dA 5000 ≤ q) U U.heap ∧ (∀ i, i < 11 → vk_R "AcidCity$Tape" (98 + 2 * i) (xst.getD i "") (dA (1000 + i)) U) ∧ va_Z "java/lang/String" "COMPACT_STRINGS" "Z" (.int 1) (fun q => dA 5000 ≤ q) U U.heap ∧ va_Zq "jdk/internal/util/Preconditions" "SIOOBE_FORMATTER" "Ljava/util/function/BiFunction;" (fun q => dA 5000 ≤ q) U U.heap
def xKA (dA : Nat → ClassId) (tys : List FieldType) (U : State) : Prop := (∀ i ty, tys[i]? = some ty → ArrOfT U (dA i) ty ∧ U.vm.findClass ("[" ++ ty.toString) = some (dA i)) ∧ xAO U ∧ xKS dA U
theorem xKA.warm {dA : Nat → ClassId} {tys : List FieldType} {u U : State} (hW : u.WarmedH U.vm) (hq : ∀ a : Nat, a < u.heap.size → ¬ dA 5000 ≤ a → U.heap[a]? = u.heap[a]?) (h : xKA dA tys u) : xKA dA tys U := ⟨fun i ty e => ⟨arrOfT_moved hW.alike (h.1 i ty e).1, by rw [hW.alike.findClass]; exact (h.1 i ty e).2⟩, h.2.1.moved hW.alike, (h.2.2.1.moved hW.alike).kept hq, fun i hi => (h.2.2.2.1 i hi).warm hW, (h.2.2.2.2.1.moved hW.alike).kept hq, (h.2.2.2.2.2.moved hW.alike).kept hq⟩
theorem xKA.same {dA : Nat → ClassId} {tys : List FieldType} {u U : State} (hv : U.vm = u.vm) (hq : U.heap = u.heap) (h : xKA dA tys u) : xKA dA tys U := by
  have ha : u.vm.Alike U.vm := by rw [hv]; exact Vm.Alike.refl _
  refine ⟨fun i ty e => ⟨arrOfT_moved ha (h.1 i ty e).1, by rw [ha.findClass]; exact (h.1 i ty e).2⟩, h.2.1.moved ha, ?_, fun i hi => (h.2.2.2.1 i hi).same hv, ?_, ?_⟩
  · rw [hq]; exact h.2.2.1.moved ha
  · rw [hq]; exact h.2.2.2.2.1.moved ha
  · rw [hq]; exact h.2.2.2.2.2.moved ha
theorem xCR.kept {ρ : Nat → Int32} {base : Nat} {D : va_G} {dA : Nat → ClassId} {tys : List FieldType} {cl : List vw_C} {a : Nat} {c : xC} {H H1 : Heap} (h : xCR ρ base D dA tys cl a c H) (e : H1[base + a]? = H[base + a]?) : xCR ρ base D dA tys cl a c H1 := by
  obtain ⟨fs, h1, h2⟩ := h
  refine ⟨fs, h1, ?_⟩
  rcases h2 with ⟨h3, h4⟩ | ⟨h3, h4⟩
  · exact Or.inl ⟨h3, h4.kept e⟩
  · exact Or.inr ⟨h3, e.trans h4.1, h4.2⟩
theorem xCR.lt {ρ : Nat → Int32} {base : Nat} {D : va_G} {dA : Nat → ClassId} {tys : List FieldType} {cl : List vw_C} {a : Nat} {c : xC} {H : Heap} (h : xCR ρ base D dA tys cl a c H) : base + a < H.size := by
  obtain ⟨fs, h1, h2⟩ := h
  rcases h2 with ⟨h3, h4⟩ | ⟨h3, h4⟩
  · exact h4.lt
  · exact (Array.getElem?_eq_some_iff.mp h4.1).1
theorem xHR.put {ρ : Nat → Int32} {base : Nat} {F : Nat → Prop} {D : va_G} {dA : Nat → ClassId} {tys : List FieldType} {cl : List vw_C} {h h' : xH} {n : Nat} {H H1 : Heap} {a : Nat} {c : xC} (hh : xHR ρ base F D dA tys cl h n H) (hF : F (base + a)) (hs : H1.size = H.size) (ho : ∀ q, q ≠ base + a → H1[q]? = H[q]?) (hc : xCR ρ base D dA tys cl a c H1) (e1 : xat h' a = some c) (e2 : ∀ b, b ≠ a → xat h' b = xat h b) : xHR ρ base F D dA tys cl h' n H1 := by
  refine ⟨⟨hs.trans hh.1.1, fun b d hb => ?_, hh.1.2.2⟩, fun b d hb => ?_⟩
  · by_cases e : b = a
    · subst e; exact hF
    · rw [e2 b e] at hb; exact hh.1.2.1 b d hb
  · by_cases e : b = a
    · subst e
      rw [e1] at hb
      cases hb
      exact hc
    · rw [e2 b e] at hb
      exact (hh.2 b d hb).kept (ho _ (by omega))
theorem xHR.push {ρ : Nat → Int32} {base : Nat} {F : Nat → Prop} {D : va_G} {dA : Nat → ClassId} {tys : List FieldType} {cl : List vw_C} {h h' : xH} {n : Nat} {H H1 : Heap} {c : xC} (hh : xHR ρ base F D dA tys cl h n H) (hs : H1.size = H.size + 1) (ho : ∀ q, q < H.size → H1[q]? = H[q]?) (hc : xCR ρ base D dA tys cl n c H1) (e1 : xat h' n = some c) (e2 : ∀ b, b ≠ n → xat h' b = xat h b) : xHR ρ base F D dA tys cl h' (n + 1) H1 := by
  refine ⟨⟨by rw [hs, hh.1.1]; omega, fun b d hb => ?_, fun q hq => hh.1.2.2.1 q (by omega), hh.1.2.2.2⟩, fun b d hb => ?_⟩
  · by_cases e : b = n
    · subst e; exact hh.1.2.2.1 _ (Nat.le_refl _)
    · rw [e2 b e] at hb; exact hh.1.2.1 b d hb
  · by_cases e : b = n
    · subst e
      rw [e1] at hb
      cases hb
      exact hc
    · rw [e2 b e] at hb
      have h3 := hh.2 b d hb
      exact h3.kept (ho _ h3.lt)
theorem xSpush {F : Nat → Prop} {H0 H H1 : Heap} {locs : List Loc} (h : va_S F H0 H locs) (hs : H.size ≤ H1.size) (ho : ∀ q, q < H.size → H1[q]? = H[q]?) : va_S F H0 H1 locs := ⟨Nat.le_trans h.1 hs, fun q h1 h2 => (ho q (Nat.lt_of_lt_of_le h1 h.1)).trans (h.2.1 q h1 h2), h.2.2⟩
theorem xSput {F : Nat → Prop} {H0 H H1 : Heap} {locs locs' : List Loc} {a : Nat} (h : va_S F H0 H locs) (hF : F a) (hs : H1.size = H.size) (ho : ∀ q, q ≠ a → H1[q]? = H[q]?) (hl : ∀ l ∈ locs', l.base = a) : va_S F H0 H1 (locs ++ locs') := ⟨by rw [hs]; exact h.1, fun q h1 h2 => (ho q (fun e => h2 (by rw [e]; exact hF))).trans (h.2.1 q h1 h2), fun l hm => (List.mem_append.mp hm).elim (h.2.2 l) (fun q => by rw [hl l q]; exact hF)⟩

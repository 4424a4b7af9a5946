set_option linter.all false
/-! A FUNCTIONAL HEAP OVER THE ABSTRACT MACHINE: ints are whole numbers, heaps are functions, goals are propositions -/
abbrev fV : Type := Int ⊕ (Int ⊕ Option Nat)
abbrev fL : Type := List (Nat × fV)
abbrev fH : Type := Nat → Nat → Int
/-- the shape: class or kind and length of a cell; which places hold which cell -/
abbrev fG : Type := (Nat → Option (Nat × Nat)) × (Nat → Nat → Option Nat)
def iI (z : Int) : Int32 := Int32.ofInt z
def iL (z : Int) : Int64 := Int64.ofInt z
def ic (z : Int) : Nat := (z % 4294967296).toNat
def lc (z : Int) : Nat := (z % 18446744073709551616).toNat
theorem ic_lt (z : Int) : ic z < 4294967296 := by unfold ic; omega
theorem nI_ic (z : Int) : nI (ic z) = iI z := by
  apply xn_inj
  rw [xn_tn, Nat.mod_eq_of_lt (ic_lt z)]
  show ic z = (BitVec.ofInt 32 z).toNat
  rw [BitVec.toNat_ofInt]
  rfl
theorem lN_lc (z : Int) : lN (lc z) = iL z := by
  apply xl_inj
  rw [xl_tn, Nat.mod_eq_of_lt (by unfold lc; omega)]
  show lc z = (BitVec.ofInt 64 z).toNat
  rw [BitVec.toNat_ofInt]
  rfl
theorem iI_add (a b : Int) : iI a + iI b = iI (a + b) := (Int32.ofInt_add a b).symm
theorem iI_sub (a b : Int) : iI a - iI b = iI (a - b) := (Int32.ofInt_sub a b).symm
theorem iI_mul (a b : Int) : iI a * iI b = iI (a * b) := (Int32.ofInt_mul a b).symm
theorem iI_neg (a : Int) : -iI a = iI (-a) := (Int32.ofInt_neg a).symm
theorem iL_add (a b : Int) : iL a + iL b = iL (a + b) := (Int64.ofInt_add a b).symm
theorem iL_sub (a b : Int) : iL a - iL b = iL (a - b) := (Int64.ofInt_sub a b).symm
theorem iL_mul (a b : Int) : iL a * iL b = iL (a * b) := (Int64.ofInt_mul a b).symm
/-- within an int, within a long -/
abbrev fin32 (z : Int) : Prop := -2147483648 ≤ z ∧ z < 2147483648
abbrev fin64 (z : Int) : Prop := -9223372036854775808 ≤ z ∧ z < 9223372036854775808
theorem iI_int {z : Int} (h : fin32 z) : (iI z).toInt = z := by
  obtain ⟨h1, h2⟩ := h
  exact Int32.toInt_ofInt_of_le h1 h2
theorem iL_int {z : Int} (h : fin64 z) : (iL z).toInt = z := by
  obtain ⟨h1, h2⟩ := h
  exact Int64.toInt_ofInt_of_le h1 h2
theorem fin_toInt (x : Int32) : fin32 x.toInt := ⟨Int32.le_toInt x, Int32.toInt_lt x⟩
theorem iI_toInt (x : Int32) : iI x.toInt = x := Int32.ofInt_toInt x
theorem fin_toIntL (x : Int64) : fin64 x.toInt := ⟨Int64.le_toInt x, Int64.toInt_lt x⟩
theorem iL_toInt (x : Int64) : iL x.toInt = x := Int64.ofInt_toInt x
theorem iI_lt {a b : Int} (ha : fin32 a) (hb : fin32 b) : iI a < iI b ↔ a < b := by rw [Int32.lt_iff_toInt_lt, iI_int ha, iI_int hb]
theorem iI_le {a b : Int} (ha : fin32 a) (hb : fin32 b) : iI a ≤ iI b ↔ a ≤ b := by rw [Int32.le_iff_toInt_le, iI_int ha, iI_int hb]
theorem iI_eq {a b : Int} (ha : fin32 a) (hb : fin32 b) : iI a = iI b ↔ a = b := by rw [← Int32.toInt_inj, iI_int ha, iI_int hb]
theorem ic_small {z : Int} (h0 : 0 ≤ z) (h1 : z < 4294967296) : ic z = z.toNat := by unfold ic; rw [Int.emod_eq_of_lt h0 h1]
/-- values of the machine -/
def fe : fV → xV
  | .inl z => .inl (ic z)
  | .inr (.inl z) => xLc (lc z)
  | .inr (.inr none) => .inr (.inr (.inl none))
  | .inr (.inr (some a)) => xRef a
def fis : fV → Nat
  | .inl _ => 0
  | .inr (.inl _) => 2
  | .inr (.inr _) => 1
theorem fe_is (v : fV) : xis (fe v) = fis v := by
  match v with
  | .inl _ => rfl
  | .inr (.inl _) => rfl
  | .inr (.inr none) => rfl
  | .inr (.inr (some _)) => rfl
def feL (lv : fL) : xL := lv.map (fun q => (q.1, fe q.2))
def feS (st : List fV) : List xV := st.map fe
def fcl (g : fG) (k : Nat) (I : fH) (a j : Nat) : fV := match g.2 a j with
  | some r => .inr (.inr (some r))
  | none => if k = 101 then .inr (.inl (I a j)) else .inl (I a j)
/-- the machine's heap is of this shape and holds this -/
def fhr (g : fG) (I : fH) (h : xH) : Prop := ∀ a k len, g.1 a = some (k, len) → ∃ rows, xat h a = some (k, len, rows) ∧ ∀ j, j < len → xat rows j = some (fe (fcl g k I a j))
def fupd (I : fH) (a j : Nat) (z : Int) : fH := fun a' j' => if a' = a ∧ j' = j then z else I a' j'
noncomputable def fk (g : fG) (n : Nat) (P : fH → Option fV → Prop) : xK := fun _ h n' r => @decide (n' = n ∧ ∃ I' r', fhr g I' h ∧ r = Option.map fe r' ∧ P I' r') (Classical.propDecidable _)
section FX
variable {ρ : Nat → Int32} {base n : Nat} {F : Nat → Prop} {Tc : List (List Jvm.Cond)} {cl : List vw_C} {tys : List FieldType} {D : va_G} {dA : Nat → ClassId} {la : Launch} {Ms : List xM} {me : xM} {cs : List xI} {g : fG} {lv : fL} {st : List fV} {I : fH} {P : fH → Option fV → Prop} {A : xA} {k : xK} {i : xI}
/-- what is to be shown of the rest of a code, as the machine's own answer -/
noncomputable def fih (ρ : Nat → Int32) (base : Nat) (F : Nat → Prop) (Tc : List (List Jvm.Cond)) (cl : List vw_C) (tys : List FieldType) (D : va_G) (dA : Nat → ClassId) (la : Launch) : xIh := fun me cs A k => @decide (∀ pc, xatp pc cs → xGd ρ base F (xTs Tc) (xNs Tc) cl tys D dA la me pc A k) (Classical.propDecidable _)
theorem fih_of (h : fih ρ base F Tc cl tys D dA la me cs A k = true) : ∀ pc, xatp pc cs → xGd ρ base F (xTs Tc) (xNs Tc) cl tys D dA la me pc A k := @of_decide_eq_true _ (Classical.propDecidable _) h
theorem fih_mk (h : ∀ pc, xatp pc cs → xGd ρ base F (xTs Tc) (xNs Tc) cl tys D dA la me pc A k) : fih ρ base F Tc cl tys D dA la me cs A k = true := @decide_eq_true _ (Classical.propDecidable _) h
theorem fih_ok : xIH ρ base F (xTs Tc) (xNs Tc) cl tys D dA la (xokc Tc Ms cl tys) Ms (fih ρ base F Tc cl tys D dA la) := fun _ _ _ _ pc _ h _ hat => fih_of h pc hat
/-- one instruction -/
theorem f_one (hG : xGl Tc Ms cl tys) (hme : me ∈ Ms) (hs : (i :: cs) <:+ xcd me) (h : xstep Ms (fih ρ base F Tc cl tys D dA la) me (i :: cs) A k = true) : ∀ pc, xatp pc (i :: cs) → xGd ρ base F (xTs Tc) (xNs Tc) cl tys D dA la me pc A k := fun pc hat => xstep_ok hG fih_ok me (i :: cs) A k pc hme h (xokc_suf (hG.2 me hme).2.1 hs) hat
/-- THE GOAL: from here the method ends, and its end meets P -/
def fW (ρ : Nat → Int32) (base n : Nat) (F : Nat → Prop) (Tc : List (List Jvm.Cond)) (cl : List vw_C) (tys : List FieldType) (D : va_G) (dA : Nat → ClassId) (la : Launch) (g : fG) (me : xM) (cs : List xI) (lv : fL) (st : List fV) (I : fH) (P : fH → Option fV → Prop) : Prop := ∀ h, fhr g I h → fih ρ base F Tc cl tys D dA la me cs (feL lv, feS st, [], h, n, 0, 0) (fk g n P) = true
/-- another number for the same int -/
theorem f_st {u u' : Nat} {l : xL} {s : List xV} {r : xE × (xH × (Nat × (Nat × Nat)))} (e : nI u = nI u') (h : fih ρ base F Tc cl tys D dA la me cs (l, .inl u' :: s, r) k = true) : fih ρ base F Tc cl tys D dA la me cs (l, .inl u :: s, r) k = true := by
  refine fih_mk (fun pc hat p e' s' m args below meth c C H locs ls stc hI hS => ?_)
  refine fih_of h pc hat p e' s' m args below meth c C H locs ls stc ⟨hI.1, hI.2.1, ?_, hI.2.2.2⟩ hS
  obtain ⟨v, stc, rfl, h1, h2⟩ := xSR_cons hI.2.2.1
  exact ⟨by rw [show v = Value.int (nI u) from h1, e]; rfl, h2⟩
theorem f_stL {u u' : Nat} {l : xL} {s : List xV} {r : xE × (xH × (Nat × (Nat × Nat)))} (e : lN u = lN u') (h : fih ρ base F Tc cl tys D dA la me cs (l, xLc u' :: s, r) k = true) : fih ρ base F Tc cl tys D dA la me cs (l, xLc u :: s, r) k = true := by
  refine fih_mk (fun pc hat p e' s' m args below meth c C H locs ls stc hI hS => ?_)
  refine fih_of h pc hat p e' s' m args below meth c C H locs ls stc ⟨hI.1, hI.2.1, ?_, hI.2.2.2⟩ hS
  obtain ⟨v, stc, rfl, h1, h2⟩ := xSR_cons hI.2.2.1
  exact ⟨by rw [show v = Value.long (lN u) from h1, e]; rfl, h2⟩
theorem f_lv {u u' j : Nat} {l : xL} {s : List xV} {r : xE × (xH × (Nat × (Nat × Nat)))} (e : nI u = nI u') (h : fih ρ base F Tc cl tys D dA la me cs ((j, .inl u') :: l, s, r) k = true) : fih ρ base F Tc cl tys D dA la me cs ((j, .inl u) :: l, s, r) k = true := by
  refine fih_mk (fun pc hat p e' s' m args below meth c C H locs ls stc hI hS => ?_)
  refine fih_of h pc hat p e' s' m args below meth c C H locs ls stc ⟨hI.1, ?_, hI.2.2⟩ hS
  obtain ⟨lvc, hl, hlr⟩ := hI.2.1
  obtain ⟨v, r, rfl, h0, h1, h2⟩ := xLR_cons hlr
  exact ⟨_, hl, ⟨h0, by rw [show v.2 = Value.int (nI u) from h1, e]; rfl⟩, h2⟩
theorem fxhget {α : Type} {h : List (List α)} {a : Nat} {c : α} {k : α → Bool} (e : xat h a = some c) : xhget h a k = k c := by
  have e : (h[a / 64]?).bind (fun r => r[a % 64]?) = some c := e
  obtain ⟨r, h1, h2⟩ := Option.bind_eq_some_iff.mp e
  unfold xhget
  have xn : ∀ {β : Type} (l : List β) (j : Nat) (b : β) (q : β → Bool), l[j]? = some b → xnth l q j = q b := by
    intro β l
    induction l with
    | nil => intro j b q hj; cases hj
    | cons x l ih =>
      intro j b q hj
      cases j with
      | zero => cases hj; rfl
      | succ j => exact ih j b q (by simpa using hj)
  rw [xn h (a.div 64) r _ h1, xn r (a.mod 64) c _ h2]
theorem fxnth {β : Type} {l : List β} {j : Nat} {b : β} {q : β → Bool} (h : l[j]? = some b) : xnth l q j = q b := by
  induction l generalizing j with
  | nil => cases h
  | cons x l ih =>
    cases j with
    | zero => cases h; rfl
    | succ j => exact ih (by simpa using h)
theorem fxset {β : Type} {l : List β} {j : Nat} {v : β} : ∀ {q : List β → Bool}, j < l.length → xset l v j q = q (l.set j v) := by
  induction l generalizing j with
  | nil => intro q h; exact absurd h (Nat.not_lt_zero _)
  | cons x l ih =>
    intro q h
    cases j with
    | zero => rfl
    | succ j => exact ih (q := fun l' => q (x :: l')) (by simpa using h)
theorem fxhset {α : Type} {h : List (List α)} {a : Nat} {c0 c : α} (e : xat h a = some c0) : ∃ h' : List (List α), (∀ k : List (List α) → Bool, xhset h a c k = k h') ∧ xat h' a = some c ∧ ∀ b, b ≠ a → xat h' b = xat h b := by
  have e' : (h[a / 64]?).bind (fun r => r[a % 64]?) = some c0 := e
  obtain ⟨r, h1, h2⟩ := Option.bind_eq_some_iff.mp e'
  have l1 : a / 64 < h.length := (List.getElem?_eq_some_iff.mp h1).1
  have l2 : a % 64 < r.length := (List.getElem?_eq_some_iff.mp h2).1
  have hk : ∀ k : List (List α) → Bool, xhset h a c k = k (h.set (a / 64) (r.set (a % 64) c)) := by
    intro k
    unfold xhset
    rw [fxnth (j := a.div 64) (b := r) h1]
    show xset r c (a % 64) _ = _
    rw [fxset l2]
    show xset h _ (a / 64) k = _
    rw [fxset l1]
  refine ⟨_, hk, ?_⟩
  obtain ⟨h', q1, -, q2, q3⟩ := xhset_of (h := h) (a := a) (c := c) (k := fun x => @decide (x = h.set (a / 64) (r.set (a % 64) c)) (Classical.propDecidable _)) (by rw [hk]; exact @decide_eq_true _ (Classical.propDecidable _) rfl)
  have q1 := @of_decide_eq_true _ (Classical.propDecidable _) q1
  rw [← q1]
  exact ⟨q2, q3⟩
end FX

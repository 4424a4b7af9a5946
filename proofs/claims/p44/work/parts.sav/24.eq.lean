set_option linter.all false
/-! equality of abstract heaps -/
noncomputable def xeqL {α : Type} (f : α → α → Bool) (l : List α) : List α → Bool := List.rec (motive := fun _ => List α → Bool) (fun m => match m with | [] => true | _ :: _ => false) (fun a _ ih m => match m with | [] => false | b :: m => cond (f a b) (ih m) false) l
theorem xeqL_of {α : Type} {f : α → α → Bool} (hf : ∀ a b, f a b = true → a = b) : ∀ {l m : List α}, xeqL f l m = true → l = m := by
  intro l
  induction l with
  | nil =>
    intro m h
    cases m with
    | nil => rfl
    | cons b m => exact absurd h (by change ¬ (false = true); decide)
  | cons a l ih =>
    intro m h
    cases m with
    | nil => exact absurd h (by change ¬ (false = true); decide)
    | cons b m =>
      obtain ⟨h1, h2⟩ := xcond (b := f a b) (x := xeqL f l m) h
      rw [hf a b h1, ih h2]
def xeqO : Option Nat → Option Nat → Bool
  | none, none => true
  | some a, some b => Nat.beq a b
  | _, _ => false
theorem xeqO_of : ∀ a b, xeqO a b = true → a = b
  | none, none, _ => rfl
  | some a, some b, h => by rw [Nat.eq_of_beq_eq_true (show Nat.beq a b = true from h)]
  | none, some _, h => by cases h
  | some _, none, h => by cases h
def xeqV : xV → xV → Bool
  | .inl a, .inl b => Nat.beq a b
  | .inr (.inl a), .inr (.inl b) => xeqO a b
  | .inr (.inr (.inl a)), .inr (.inr (.inl b)) => xeqO a b
  | .inr (.inr (.inr (.inl a))), .inr (.inr (.inr (.inl b))) => Nat.beq a b
  | .inr (.inr (.inr (.inr a))), .inr (.inr (.inr (.inr b))) => xeqO a b
  | _, _ => false
theorem xeqV_of (a b : xV) (h : xeqV a b = true) : a = b := by
  rcases a with a | a | a | a | a <;> rcases b with b | b | b | b | b <;> first | (rw [Nat.eq_of_beq_eq_true (show Nat.beq a b = true from h)]) | (rw [xeqO_of a b h]) | exact absurd h (by simp [xeqV])
noncomputable def xeqC (a b : xC) : Bool := cond (Bool.and (Nat.beq a.1 b.1) (Nat.beq a.2.1 b.2.1)) (xeqL (xeqL xeqV) a.2.2 b.2.2) false
theorem xeqC_of (a b : xC) (h : xeqC a b = true) : a = b := by
  obtain ⟨a1, a2, a3⟩ := a
  obtain ⟨b1, b2, b3⟩ := b
  obtain ⟨h1, h2⟩ := xcond h
  have e1 : a1 = b1 := Nat.eq_of_beq_eq_true (xand h1).1
  have e2 : a2 = b2 := Nat.eq_of_beq_eq_true (xand h1).2
  have e3 : a3 = b3 := xeqL_of (fun _ _ => xeqL_of xeqV_of) h2
  rw [e1, e2, e3]
noncomputable def xeqH (a b : xH) : Bool := xeqL (xeqL xeqC) a b
theorem xeqH_of {a b : xH} (h : xeqH a b = true) : a = b := xeqL_of (fun _ _ => xeqL_of xeqC_of) h

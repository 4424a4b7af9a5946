set_option linter.all false
/-! AN ABSTRACT MACHINE THAT THE KERNEL RUNS: values are known ints, unknown ints, or one of the law's own ints (a variable with bounds); the control flow forks where a variable decides it. 'xrun' explores all paths; it is true if every path ends, throws nothing, and its end meets 'k'. -/
/-- int: .inl u is nI u; .inr (.inl none) any; .inr (.inl (some k)) variable k. ref: .inr (.inr (.inl none)) null, (some a) cell a. long: .inr (.inr (.inr (.inl u))) is lN u, (.inr none) any, (.inr (some k)) variable k as a long -/
abbrev xV : Type := Nat ⊕ (Option Nat ⊕ (Option Nat ⊕ (Nat ⊕ Option Nat)))
/-- a cell: its class, its length, its places in rows of 64 -/
abbrev xC : Type := Nat × (Nat × List (List xV))
abbrev xH : Type := List (List xC)
abbrev xE : Type := List (Nat × Nat)
abbrev xL : Type := List (Nat × xV)
/-- pc, op, two operands, a list of operands -/
abbrev xI : Type := Nat × (Nat × (Nat × (Nat × List Nat)))
/-- name, bytes, maxLocals, answer, code, room -/
abbrev xM : Type := MethodName × (ByteArray × (Nat × (Option FieldType × (List xI × Room))))
abbrev xK : Type := xE → xH → Nat → Option xV → Bool
/-- locals, stack, bounds, heap, its size, cells made, slots made -/
abbrev xA : Type := xL × (List xV × (xE × (xH × (Nat × (Nat × Nat)))))
theorem xwide0 : @Jvm.Free.Multi.outerC = @Jvm.Free.Multi.outerC := rfl
noncomputable def xfN (n : Nat) (k : Nat → Bool) : Bool := Nat.rec (motive := fun _ => Bool) (k 0) (fun m _ => k (Nat.succ m)) n
theorem xnf {b : Bool} (h : ¬ b = true) : b = false := by cases b <;> simp_all
theorem xfN_eq (n : Nat) (k : Nat → Bool) : xfN n k = k n := by cases n <;> rfl
theorem xfN_of {n : Nat} {k : Nat → Bool} (h : xfN n k = true) : k n = true := by rw [xfN_eq] at h; exact h
noncomputable def xnth {α : Type} (l : List α) (k : α → Bool) : Nat → Bool := List.rec (motive := fun _ => Nat → Bool) (fun _ => false) (fun a _ ih n => Nat.rec (motive := fun _ => Bool) (k a) (fun m _ => ih m) n) l
theorem xnth_of {α : Type} {l : List α} {k : α → Bool} : ∀ {n : Nat}, xnth l k n = true → ∃ a, l[n]? = some a ∧ k a = true := by
  induction l with
  | nil => intro n h; exact absurd h (by change ¬ (false = true); decide)
  | cons a l ih =>
    intro n h
    cases n with
    | zero => exact ⟨a, rfl, h⟩
    | succ m =>
      obtain ⟨b, h1, h2⟩ := ih (n := m) h
      exact ⟨b, by simpa using h1, h2⟩
noncomputable def xset {α : Type} (l : List α) (v : α) : Nat → (List α → Bool) → Bool := List.rec (motive := fun _ => Nat → (List α → Bool) → Bool) (fun _ _ => false) (fun a l ih n k => Nat.rec (motive := fun _ => Bool) (k (v :: l)) (fun m _ => ih m (fun l' => k (a :: l'))) n) l
theorem xset_of {α : Type} {l : List α} {v : α} : ∀ {n : Nat} {k : List α → Bool}, xset l v n k = true → n < l.length ∧ k (l.set n v) = true := by
  induction l with
  | nil => intro n k h; exact absurd h (by change ¬ (false = true); decide)
  | cons a l ih =>
    intro n k h
    cases n with
    | zero => exact ⟨by simp, h⟩
    | succ m =>
      obtain ⟨h1, h2⟩ := ih (n := m) (k := fun l' => k (a :: l')) h
      exact ⟨by simpa using h1, by simpa using h2⟩
noncomputable def xapp {α : Type} (l : List α) (v : α) : (List α → Bool) → Bool := List.rec (motive := fun _ => (List α → Bool) → Bool) (fun k => k [v]) (fun a _ ih k => ih (fun l' => k (a :: l'))) l
theorem xapp_of {α : Type} {l : List α} {v : α} : ∀ {k : List α → Bool}, xapp l v k = true → k (l ++ [v]) = true := by
  induction l with
  | nil => intro k h; exact h
  | cons a l ih => intro k h; exact ih (k := fun l' => k (a :: l')) h
noncomputable def xlen {α : Type} (l : List α) : Nat := List.rec (motive := fun _ => Nat) 0 (fun _ _ ih => Nat.succ ih) l
theorem xlen_eq {α : Type} (l : List α) : xlen l = l.length := by
  induction l with
  | nil => rfl
  | cons a l ih => show Nat.succ (xlen l) = _; rw [ih]; rfl
noncomputable def xrep {α : Type} (v : α) (n : Nat) : (List α → Bool) → Bool := Nat.rec (motive := fun _ => (List α → Bool) → Bool) (fun k => k []) (fun _ ih k => ih (fun l => k (v :: l))) n
theorem xrep_of {α : Type} {v : α} : ∀ {n : Nat} {k : List α → Bool}, xrep v n k = true → k (List.replicate n v) = true := by
  intro n
  induction n with
  | zero => intro k h; exact h
  | succ n ih => intro k h; exact ih (k := fun l => k (v :: l)) h
/-- the heap: rows of 64 cells -/
def xat {α : Type} (h : List (List α)) (a : Nat) : Option α := (h[a / 64]?).bind (fun r => r[a % 64]?)
noncomputable def xhget {α : Type} (h : List (List α)) (a : Nat) (k : α → Bool) : Bool := xnth h (fun r => xnth r k (Nat.mod a 64)) (Nat.div a 64)
theorem xhget_of {α : Type} {h : List (List α)} {a : Nat} {k : α → Bool} (e : xhget h a k = true) : ∃ c, xat h a = some c ∧ k c = true := by
  obtain ⟨r, h1, h2⟩ := xnth_of e
  obtain ⟨c, h3, h4⟩ := xnth_of h2
  refine ⟨c, ?_, h4⟩
  have h1' : h[a / 64]? = some r := h1
  have h3' : r[a % 64]? = some c := h3
  simp [xat, h1', h3']
noncomputable def xhset {α : Type} (h : List (List α)) (a : Nat) (c : α) (k : List (List α) → Bool) : Bool := xnth h (fun r => xset r c (Nat.mod a 64) (fun r' => xset h r' (Nat.div a 64) k)) (Nat.div a 64)
theorem xdm (a : Nat) : a = 64 * (a / 64) + a % 64 := (Nat.div_add_mod a 64).symm
theorem xhset_of {α : Type} {h : List (List α)} {a : Nat} {c : α} {k : List (List α) → Bool} (e : xhset h a c k = true) : ∃ h' : List (List α), k h' = true ∧ (∃ c0, xat h a = some c0) ∧ xat h' a = some c ∧ ∀ b, b ≠ a → xat h' b = xat h b := by
  obtain ⟨r, h1, h2⟩ := xnth_of e
  obtain ⟨h3, h4⟩ := xset_of h2
  obtain ⟨h5, h6⟩ := xset_of h4
  have h1 : h[a / 64]? = some r := h1
  have h3 : a % 64 < r.length := h3
  have h5 : a / 64 < h.length := h5
  have h6 : k (h.set (a / 64) (r.set (a % 64) c)) = true := h6
  refine ⟨_, h6, ⟨r[a % 64], by simp [xat, h1, h3]⟩, ?_, fun b hb => ?_⟩
  · simp [xat, List.getElem?_set, h3, h5]
  · by_cases hq : b / 64 = a / 64
    · have hm : ¬ a % 64 = b % 64 := fun q => hb (by have e1 := xdm a; have e2 := xdm b; omega)
      have hr := (List.getElem?_eq_some_iff.mp h1).2
      simp [xat, List.getElem?_set, hq, h5, hr, hm]
    · have hq' : ¬ a / 64 = b / 64 := fun q => hq q.symm
      simp [xat, List.getElem?_set, hq']
noncomputable def xhpush (h : xH) (n : Nat) (c : xC) (k : xH → Bool) : Bool := xnth h (fun r => cond (Nat.beq (xlen r) (Nat.mod n 64)) (xapp r c (fun r' => xset h r' (Nat.div n 64) k)) false) (Nat.div n 64)
theorem xcond {b x : Bool} (h : cond b x false = true) : b = true ∧ x = true := by cases b <;> simp_all
theorem xcondn {b x : Bool} (h : cond b false x = true) : b = false ∧ x = true := by cases b <;> simp_all
theorem xhpush_of {h : xH} {n : Nat} {c : xC} {k : xH → Bool} (e : xhpush h n c k = true) : ∃ h' : xH, k h' = true ∧ xat h' n = some c ∧ ∀ b, b ≠ n → xat h' b = xat h b := by
  obtain ⟨r, h1, h2⟩ := xnth_of e
  obtain ⟨hl, h2⟩ := xcond h2
  have h4 := xapp_of h2
  obtain ⟨h5, h6⟩ := xset_of h4
  have hl := Nat.eq_of_beq_eq_true hl
  rw [xlen_eq] at hl
  have h1 : h[n / 64]? = some r := h1
  have hl : r.length = n % 64 := hl
  have h5 : n / 64 < h.length := h5
  have h6 : k (h.set (n / 64) (r ++ [c])) = true := h6
  refine ⟨_, h6, ?_, fun b hb => ?_⟩
  · simp [xat, List.getElem?_set, h5, ← hl]
  · by_cases hq : b / 64 = n / 64
    · have hm : ¬ b % 64 = n % 64 := fun q => hb (by have e1 := xdm n; have e2 := xdm b; omega)
      have h7 : (r ++ [c])[b % 64]? = r[b % 64]? := by
        rcases Nat.lt_or_ge (b % 64) r.length with q | q
        · rw [List.getElem?_append_left q]
        · rw [List.getElem?_eq_none (by simp; omega), List.getElem?_eq_none q]
      have hr := (List.getElem?_eq_some_iff.mp h1).2
      simp [xat, List.getElem?_set, hq, h5, hr, h7]
    · have hq' : ¬ n / 64 = b / 64 := fun q => hq q.symm
      simp [xat, List.getElem?_set, hq']
/-- n times the same, in rows -/
noncomputable def xrows {α : Type} (v : α) (n : Nat) (k : List (List α) → Bool) : Bool := xrep v 64 (fun r => xrep v (Nat.mod n 64) (fun q => xrep r (Nat.div n 64) (fun l => xapp l q k)))
theorem xrows_of {α : Type} {v : α} {n : Nat} {k : List (List α) → Bool} (h : xrows v n k = true) : ∃ l : List (List α), k l = true ∧ ∀ i x, xat l i = some x → i < n ∧ x = v := by
  have h := xapp_of (xrep_of (xrep_of (xrep_of h)))
  refine ⟨_, h, fun i x hx => ?_⟩
  have hx : ((List.replicate (n / 64) (List.replicate 64 v) ++ [List.replicate (n % 64) v])[i / 64]?).bind (fun r => r[i % 64]?) = some x := hx
  have e1 := xdm n
  have e2 := xdm i
  rcases Nat.lt_or_ge (i / 64) (n / 64) with q | q
  · rw [List.getElem?_append_left (by simpa using q), List.getElem?_replicate, if_pos q] at hx
    have hx : (List.replicate 64 v)[i % 64]? = some x := hx
    rw [List.getElem?_replicate, if_pos (Nat.mod_lt _ (by decide))] at hx
    have := Nat.mod_lt i (show 0 < 64 by decide)
    exact ⟨by omega, by cases hx; rfl⟩
  · rw [List.getElem?_append_right (by simpa using q)] at hx
    simp only [List.length_replicate] at hx
    rcases Nat.lt_or_ge (i / 64 - n / 64) 1 with q2 | q2
    · rw [show i / 64 - n / 64 = 0 by omega] at hx
      have hx : (List.replicate (n % 64) v)[i % 64]? = some x := hx
      rw [List.getElem?_replicate] at hx
      split at hx
      · next q3 => exact ⟨by omega, by cases hx; rfl⟩
      · cases hx
    · rw [List.getElem?_eq_none (by simpa using q2)] at hx
      cases hx
theorem xat_one {α : Type} {r : List α} {i : Nat} {x : α} (h : xat [r] i = some x) (hr : r.length ≤ 64) : r[i]? = some x := by
  have h : (([r] : List (List α))[i / 64]?).bind (fun q => q[i % 64]?) = some x := h
  rcases Nat.lt_or_ge (i / 64) 1 with q | q
  · rw [show i / 64 = 0 by omega] at h
    have h : r[i % 64]? = some x := h
    rw [show i % 64 = i by omega] at h
    exact h
  · rw [List.getElem?_eq_none (by simpa using q)] at h
    cases h

/-! what is asked of the end of a run: the heap has not grown; the answer is that of a table of boxes -/
noncomputable def xKn (Ms : List xM) (f : Nat) (mm : xM) (hm : xH) (nm na n0 : Nat) : xK := fun env h n r => cond (Nat.beq n n0) (xKx Ms f mm hm nm na env h n r) false
theorem xKn_of {Ms : List xM} {f : Nat} {mm : xM} {hm : xH} {nm na n0 : Nat} {env : xE} {h : xH} {n : Nat} {r : Option xV} (e : xKn Ms f mm hm nm na n0 env h n r = true) : n = n0 ∧ xKx Ms f mm hm nm na env h n r = true := ⟨Nat.eq_of_beq_eq_true (xcond e).1, (xcond e).2⟩
/-- a box: bounds of some variables, and the answer within -/
abbrev xBx : Type := List (Nat × (Nat × Nat)) × xV
noncomputable def xsub (env : xE) (b : List (Nat × (Nat × Nat))) : Bool := List.rec (motive := fun _ => Bool) true (fun q _ ih => cond (xnth env (fun e => Bool.and (Nat.ble q.2.1 e.1) (Nat.ble e.2 q.2.2)) q.1) ih false) b
noncomputable def xdis (env : xE) (b : List (Nat × (Nat × Nat))) : Bool := List.rec (motive := fun _ => Bool) false (fun q _ ih => cond (xnth env (fun e => Bool.or (Nat.blt e.2 q.2.1) (Nat.blt q.2.2 e.1)) q.1) true ih) b
def xinb (ρ : Nat → Int32) (b : List (Nat × (Nat × Nat))) : Prop := ∀ q ∈ b, q.2.1 ≤ xb (ρ q.1) ∧ xb (ρ q.1) ≤ q.2.2
theorem xand' {a b : Bool} (h : Bool.and a b = true) : a = true ∧ b = true := by cases a <;> cases b <;> simp_all
theorem xor' {a b : Bool} (h : Bool.or a b = true) : a = true ∨ b = true := by cases a <;> cases b <;> simp_all
theorem xsub_of {ρ : Nat → Int32} {env : xE} (hr : xρ ρ env) : ∀ {b : List (Nat × (Nat × Nat))}, xsub env b = true → xinb ρ b := by
  intro b
  induction b with
  | nil => intro _ q hq; cases hq
  | cons a b ih =>
    intro h q hq
    obtain ⟨h1, h2⟩ := xcond (b := xnth env (fun e => Bool.and (Nat.ble a.2.1 e.1) (Nat.ble e.2 a.2.2)) a.1) (x := xsub env b) h
    rcases List.mem_cons.mp hq with rfl | hq
    · obtain ⟨e, he, h3⟩ := xnth_of h1
      obtain ⟨h4, h5⟩ := xand' h3
      have h4 := Nat.le_of_ble_eq_true h4
      have h5 := Nat.le_of_ble_eq_true h5
      have := hr.2 _ e he
      omega
    · exact ih h2 q hq
theorem xdis_of {ρ : Nat → Int32} {env : xE} (hr : xρ ρ env) : ∀ {b : List (Nat × (Nat × Nat))}, xdis env b = true → ¬ xinb ρ b := by
  intro b
  induction b with
  | nil => intro h; exact absurd h (by change ¬ (false = true); decide)
  | cons a b ih =>
    intro h hb
    have h : cond (xnth env (fun e => Bool.or (Nat.blt e.2 a.2.1) (Nat.blt a.2.2 e.1)) a.1) true (xdis env b) = true := h
    by_cases c : xnth env (fun e => Bool.or (Nat.blt e.2 a.2.1) (Nat.blt a.2.2 e.1)) a.1 = true
    · obtain ⟨e, he, h3⟩ := xnth_of c
      have h4 := hr.2 _ e he
      have h5 := hb a List.mem_cons_self
      rcases xor' h3 with h6 | h6 <;> have h6 := xblt.mp h6 <;> omega
    · rw [xnf c] at h
      exact ih h (fun q hq => hb q (List.mem_cons_of_mem _ hq))
/-- the answer of the first box that holds the variables -/
noncomputable def xans (ρ : Nat → Int32) (x : xV) : Int32 := match x with
  | .inl u => nI u
  | .inr (.inl (some k)) => ρ k
  | _ => 0
noncomputable def xsp (ρ : Nat → Int32) (bs : List xBx) : Option Int32 := List.rec (motive := fun _ => Option Int32) none (fun b _ ih => @ite _ (xinb ρ b.1) (Classical.propDecidable _) (some (xans ρ b.2)) ih) bs
noncomputable def xbox (env : xE) (v : xV) (bs : List xBx) : Bool := List.rec (motive := fun _ => Bool) false (fun b _ ih => cond (xdis env b.1) ih (cond (xsub env b.1) (xres env (fun u => xres env (fun u' => Nat.beq (Nat.mod u 4294967296) (Nat.mod u' 4294967296)) b.2) v) false)) bs
noncomputable def xKs (bs : List xBx) (n0 : Nat) : xK := fun env _ n r => match r with
  | none => false
  | some v => cond (Nat.beq n n0) (xbox env v bs) false
theorem xres_int {ρ : Nat → Int32} {base : Nat} {env : xE} {k : Nat → Bool} {x : xV} (h : xres env k x = true) : xg ρ base x (.int (xans ρ x)) := by
  match x, h with
  | .inl u, h => exact rfl
  | .inr (.inl (some i)), h => exact rfl
  | .inr (.inl none), h => exact absurd h (by simp [xres])
  | .inr (.inr _), h => exact absurd h (by simp [xres])
theorem xbox_of {ρ : Nat → Int32} {base : Nat} {env : xE} (hr : xρ ρ env) {x : xV} {v : Value} (hg : xg ρ base x v) : ∀ {bs : List xBx}, xbox env x bs = true → ∃ z, v = .int z ∧ xsp ρ bs = some z := by
  intro bs
  induction bs with
  | nil => intro h; exact absurd h (by change ¬ (false = true); decide)
  | cons b bs ih =>
    intro h
    have h : cond (xdis env b.1) (xbox env x bs) (cond (xsub env b.1) (xres env (fun u => xres env (fun u' => Nat.beq (Nat.mod u 4294967296) (Nat.mod u' 4294967296)) b.2) x) false) = true := h
    by_cases c : xdis env b.1 = true
    · rw [c] at h
      obtain ⟨z, h1, h2⟩ := ih h
      refine ⟨z, h1, ?_⟩
      show (@ite _ (xinb ρ b.1) (Classical.propDecidable _) (some (xans ρ b.2)) (xsp ρ bs)) = some z
      rw [if_neg (xdis_of hr c)]
      exact h2
    · rw [xnf c] at h
      obtain ⟨h1, h2⟩ := xcond h
      obtain ⟨u, e1, h3⟩ := xres_of hr hg h2
      have hg' := xres_int (ρ := ρ) (base := base) h3
      obtain ⟨u', e2, h4⟩ := xres_of hr hg' h3
      have h4 : u % 4294967296 = u' % 4294967296 := Nat.eq_of_beq_eq_true h4
      refine ⟨nI u, e1, ?_⟩
      show (@ite _ (xinb ρ b.1) (Classical.propDecidable _) (some (xans ρ b.2)) (xsp ρ bs)) = some (nI u)
      rw [if_pos (xsub_of hr h1)]
      have e3 : xans ρ b.2 = nI u' := by injection e2
      rw [e3, ← xn_mod u', ← h4, xn_mod]
theorem xKs_of {ρ : Nat → Int32} {base : Nat} {env : xE} {h : xH} {n n0 : Nat} {bs : List xBx} (hr : xρ ρ env) {x : xV} {v : Value} (hg : xg ρ base x v) (hk : xKs bs n0 env h n (some x) = true) : n = n0 ∧ ∃ z, v = .int z ∧ xsp ρ bs = some z := ⟨Nat.eq_of_beq_eq_true (xcond hk).1, xbox_of hr hg (xcond hk).2⟩

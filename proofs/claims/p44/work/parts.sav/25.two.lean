set_option linter.all false
/-! two runs with one answer: the second is explored at every end of the first -/
noncomputable def xres (env : xE) (k : Nat → Bool) : xV → Bool
  | .inl u => k u
  | .inr (.inl (some i)) => xnth env (fun q => cond (Nat.beq q.1 q.2) (k (xub q.1)) false) i
  | _ => false
theorem xres_of {ρ : Nat → Int32} {base : Nat} {env : xE} {k : Nat → Bool} (hr : xρ ρ env) {x : xV} {v : Value} (hg : xg ρ base x v) (h : xres env k x = true) : ∃ u, v = .int (nI u) ∧ k u = true := by
  match x, hg, h with
  | .inl u, hg, h => exact ⟨u, hg, h⟩
  | .inr (.inl (some i)), hg, h =>
    obtain ⟨q, hq, h⟩ := xnth_of h
    obtain ⟨h1, h2⟩ := xcond h
    have h1 := Nat.eq_of_beq_eq_true h1
    have hb := hr.2 i q hq
    have e : ρ i = nI (xub q.1) := xub_of (by omega)
    exact ⟨_, by rw [← e]; exact hg, h2⟩
  | .inr (.inl none), _, h => exact absurd h (by simp [xres])
  | .inr (.inr _), _, h => exact absurd h (by simp [xres])
noncomputable def xKm (r : Option xV) : xK := fun env _ _ r' => match r, r' with
  | some v, some v' => xres env (fun u => xres env (fun u' => Nat.beq (Nat.mod u 4294967296) (Nat.mod u' 4294967296)) v') v
  | _, _ => false
theorem xKm_of {ρ : Nat → Int32} {base base' : Nat} {env : xE} {h : xH} {n : Nat} {x x' : xV} {v v' : Value} (hr : xρ ρ env) (hg : xg ρ base x v) (hg' : xg ρ base' x' v') (hk : xKm (some x) env h n (some x') = true) : ∃ z : Int32, v = .int z ∧ v' = .int z := by
  have hk : xres env (fun u => xres env (fun u' => Nat.beq (Nat.mod u 4294967296) (Nat.mod u' 4294967296)) x') x = true := hk
  obtain ⟨u, e1, hk⟩ := xres_of hr hg hk
  obtain ⟨u', e2, hk⟩ := xres_of hr hg' hk
  have hk : u % 4294967296 = u' % 4294967296 := Nat.eq_of_beq_eq_true hk
  exact ⟨nI u, e1, by rw [e2, ← xn_mod u, hk, xn_mod]⟩
/-- the receiver and the first n variables -/
def xvs (n : Nat) : List xV := xRef 0 :: (List.range n).map (fun i => .inr (.inl (some (i + 1))))
noncomputable def xKx (Ms : List xM) (f : Nat) (mm : xM) (hm : xH) (nm na : Nat) : xK := fun env _ _ r => match r with
  | none => false
  | some v => xargs (xvs na) 0 (fun lv => xrun Ms f mm (xcd mm) (lv, [], env, hm, nm, 0, 0) (xKm (some v)))
def xenv0 : xE := List.replicate 6 (0, 4294967295)
theorem xenv0_of {ρ : Nat → Int32} (hl : xLin ρ) : xρ ρ xenv0 := by
  refine ⟨hl, ?_⟩
  intro k q hq
  have hm := List.eq_of_mem_replicate (List.mem_of_getElem? hq)
  subst hm
  exact ⟨Nat.zero_le _, by have := xb_max (ρ k); show xb (ρ k) ≤ 4294967295; omega⟩
theorem xvs_of (ρ : Nat → Int32) (base n : Nat) : xSR ρ base (xvs n) (.ref base :: (List.range n).map (fun i => .int (ρ (i + 1)))) := by
  refine ⟨rfl, ?_⟩
  generalize List.range n = l
  induction l with
  | nil => exact trivial
  | cons i l ih => exact ⟨rfl, ih⟩

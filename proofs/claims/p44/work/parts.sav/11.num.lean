set_option linter.all false
/-! numbers of the abstract machine: codes of ints, bounds of the variables -/
theorem xn_inj {x y : Int32} (h : x.toBitVec.toNat = y.toBitVec.toNat) : x = y := Int32.toBitVec_inj.mp (BitVec.eq_of_toNat_eq h)
theorem xn_tn (n : Nat) : (nI n).toBitVec.toNat = n % 4294967296 := by
  show (Int32.ofNat n).toBitVec.toNat = _
  simp
theorem xn_mod (n : Nat) : nI (n % 4294967296) = nI n := xn_inj (by rw [xn_tn, xn_tn, Nat.mod_mod])
def xcode (x : Int32) : Nat := x.toBitVec.toNat
theorem xn_code (x : Int32) : nI (xcode x) = x := xn_inj (by rw [xn_tn]; exact Nat.mod_eq_of_lt x.toBitVec.isLt)
theorem xn_lt (x : Int32) : xcode x < 4294967296 := x.toBitVec.isLt
theorem xl_inj {x y : Int64} (h : x.toBitVec.toNat = y.toBitVec.toNat) : x = y := Int64.toBitVec_inj.mp (BitVec.eq_of_toNat_eq h)
theorem xl_tn (n : Nat) : (lN n).toBitVec.toNat = n % 18446744073709551616 := by
  show (Int64.ofNat n).toBitVec.toNat = _
  simp
def xcodeL (x : Int64) : Nat := x.toBitVec.toNat
theorem xl_code (x : Int64) : lN (xcodeL x) = x := xl_inj (by rw [xl_tn]; exact Nat.mod_eq_of_lt x.toBitVec.isLt)
/-- biased: the order of ints as that of numbers -/
def xb (x : Int32) : Nat := (xcode x + 2147483648) % 4294967296
def xbc (u : Nat) : Nat := Nat.mod (Nat.add u 2147483648) 4294967296
theorem xbc_eq (u : Nat) : xbc u = xb (nI u) := by
  show (u + 2147483648) % 4294967296 = ((nI u).toBitVec.toNat + 2147483648) % 4294967296
  rw [xn_tn]; omega
theorem xb_int (x : Int32) : x.toInt = (xb x : Int) - 2147483648 := by
  have h := xn_lt x
  have e : x.toInt = if 2 * xcode x < 4294967296 then (xcode x : Int) else (xcode x : Int) - 4294967296 := by
    show x.toBitVec.toInt = _
    rw [BitVec.toInt_eq_toNat_cond]
    rfl
  rw [e]
  unfold xb
  split <;> omega
theorem xb_lt {x y : Int32} : x < y ↔ xb x < xb y := by
  rw [Int32.lt_iff_toInt_lt, xb_int, xb_int]; omega
theorem xb_le {x y : Int32} : x ≤ y ↔ xb x ≤ xb y := by
  rw [Int32.le_iff_toInt_le, xb_int, xb_int]; omega
theorem xb_eq {x y : Int32} : x = y ↔ xb x = xb y := by
  rw [← Int32.toInt_inj, xb_int, xb_int]; omega
theorem xb_max (x : Int32) : xb x < 4294967296 := Nat.mod_lt _ (by decide)
/-- what a biased number is the bias of -/
def xub (z : Nat) : Nat := Nat.mod (Nat.add z 2147483648) 4294967296
theorem xub_of {x : Int32} {z : Nat} (h : xb x = z) : x = nI (xub z) := by
  rw [xb_eq, ← xbc_eq, h]
  have hz : z < 4294967296 := by rw [← h]; exact xb_max x
  show z = ((z + 2147483648) % 4294967296 + 2147483648) % 4294967296
  omega
/-- the variables are within their bounds -/
def xLin (ρ : Nat → Int32) : Prop := ∀ k c, k < 64 → ρ (k + 64 * c) = ρ k + nI c
def xρ (ρ : Nat → Int32) (env : xE) : Prop := xLin ρ ∧ ∀ (k : Nat) (q : Nat × Nat), env[k]? = some q → q.1 ≤ xb (ρ k) ∧ xb (ρ k) ≤ q.2
theorem xρ_set {ρ : Nat → Int32} {env : xE} (h : xρ ρ env) {k lo hi : Nat} (h1 : lo ≤ xb (ρ k)) (h2 : xb (ρ k) ≤ hi) : xρ ρ (env.set k (lo, hi)) := by
  refine ⟨h.1, ?_⟩
  intro j q hq
  rw [List.getElem?_set] at hq
  split at hq
  · next e =>
    subst e
    split at hq
    · cases hq; exact ⟨h1, h2⟩
    · cases hq
  · exact h.2 j q hq
noncomputable def xcut (env : xE) (k t : Nat) (kT kF : xE → Bool) : Bool := xnth env (fun q => cond (Nat.blt q.2 t) (kT env) (cond (Nat.ble t q.1) (kF env) (cond (xset env (q.1, Nat.pred t) k kT) (xset env (t, q.2) k kF) false))) k
theorem xcut_of {ρ : Nat → Int32} {env : xE} {k t : Nat} {kT kF : xE → Bool} (h : xcut env k t kT kF = true) (hr : xρ ρ env) : (xb (ρ k) < t ∧ ∃ env', xρ ρ env' ∧ kT env' = true) ∨ (t ≤ xb (ρ k) ∧ ∃ env', xρ ρ env' ∧ kF env' = true) := by
  obtain ⟨q, hq, h⟩ := xnth_of h
  have hb := hr.2 k q hq
  by_cases c1 : Nat.blt q.2 t = true
  · rw [c1] at h
    have c1 : q.2 < t := by have c1' := c1; simp [Nat.blt] at c1'; omega
    exact Or.inl ⟨by omega, env, hr, h⟩
  · have c1 : Nat.blt q.2 t = false := xnf c1
    rw [c1] at h
    by_cases c2 : Nat.ble t q.1 = true
    · have c2' := Nat.le_of_ble_eq_true c2
      rw [c2] at h
      exact Or.inr ⟨by omega, env, hr, h⟩
    · have c2 : Nat.ble t q.1 = false := xnf c2
      rw [c2] at h
      obtain ⟨h1, h2⟩ := xcond h
      rcases Nat.lt_or_ge (xb (ρ k)) t with g | g
      · exact Or.inl ⟨g, _, xρ_set hr hb.1 (by show _ ≤ t - 1; omega), (xset_of h1).2⟩
      · exact Or.inr ⟨g, _, xρ_set hr g hb.2, (xset_of h2).2⟩
noncomputable def xallN (env : xE) (k : Nat) (kk : xE → Nat → Bool) (n : Nat) : Nat → Bool := Nat.rec (motive := fun _ => Nat → Bool) (fun _ => true) (fun _ ih z => xfN z (fun z => cond (xset env (z, z) k (fun env' => xfN (xub z) (fun u => kk env' u))) (ih (Nat.succ z)) false)) n
theorem xallN_of {ρ : Nat → Int32} {env : xE} {k : Nat} {kk : xE → Nat → Bool} (hr : xρ ρ env) : ∀ {n z : Nat}, xallN env k kk n z = true → z ≤ xb (ρ k) → xb (ρ k) < z + n → ∃ env' u, xρ ρ env' ∧ ρ k = nI u ∧ kk env' u = true := by
  intro n
  induction n with
  | zero => intro z h h1 h2; exact absurd h2 (by omega)
  | succ n ih =>
    intro z h h1 h2
    have h := xfN_of (n := z) (k := fun z => cond (xset env (z, z) k (fun env' => xfN (xub z) (fun u => kk env' u))) (xallN env k kk n (Nat.succ z)) false) h
    obtain ⟨g1, g2⟩ := xcond h
    by_cases e : xb (ρ k) = z
    · exact ⟨_, _, xρ_set hr (by omega) (by omega), xub_of e, xfN_of (xset_of g1).2⟩
    · exact ih g2 (by show z + 1 ≤ _; omega) (by show _ < z + 1 + n; omega)
noncomputable def xall (env : xE) (k : Nat) (kk : xE → Nat → Bool) : Bool := xnth env (fun q => cond (Nat.ble q.2 (Nat.add q.1 511)) (xallN env k kk (Nat.sub (Nat.succ q.2) q.1) q.1) false) k
theorem xall_of {ρ : Nat → Int32} {env : xE} {k : Nat} {kk : xE → Nat → Bool} (hr : xρ ρ env) (h : xall env k kk = true) : ∃ env' u, xρ ρ env' ∧ ρ k = nI u ∧ kk env' u = true := by
  obtain ⟨q, hq, h⟩ := xnth_of h
  obtain ⟨-, h⟩ := xcond h
  have hb := hr.2 k q hq
  exact xallN_of hr h hb.1 (by show _ < q.1 + (q.2 + 1 - q.1); omega)

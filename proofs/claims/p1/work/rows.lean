section
/-! AN ABSTRACT MACHINE THAT THE KERNEL RUNS: values are known ints, unknown ints, or one of the law's own ints (a variable with bounds); the control flow forks where a variable decides it. 'xrun' explores all paths; it is true if every path ends, throws nothing, and its end meets 'k'. -/
/-- int: .inl u is nI u; .inr (.inl none) any; .inr (.inl (some k)) variable k. ref: .inr (.inr (.inl none)) null, (some a) cell a. long: .inr (.inr (.inr (.inl u))) is lN u, (.inr none) any, (.inr (some k)) variable k as a long -/
abbrev xV : Type := Nat ⊕ (Option Nat ⊕ (Option Nat ⊕ (Nat ⊕ Option Nat)))
/-- a cell: its class, its length, its places in rows of 64 -/
abbrev xC : Type := Nat × (Nat × List (List xV))
abbrev xH : Type := List (List xC)
abbrev xE : Type := List (Nat × Nat)
abbrev xL : Type := List (Nat × xV)
/-- pc, op, two operands, a list of operands -/
abbrev xI : Type := Nat × (Nat × (Nat × (Nat × List Nat)))
/-- name, bytes, maxLocals, answer, code, room -/
abbrev xM : Type := MethodName × (ByteArray × (Nat × (Option FieldType × (List xI × Room))))
abbrev xK : Type := xE → xH → Nat → Option xV → Bool
/-- locals, stack, bounds, heap, its size, cells made, slots made -/
abbrev xA : Type := xL × (List xV × (xE × (xH × (Nat × (Nat × Nat)))))
noncomputable def xfN (n : Nat) (k : Nat → Bool) : Bool := Nat.rec (motive := fun _ => Bool) (k 0) (fun m _ => k (Nat.succ m)) n
theorem xnf {b : Bool} (h : ¬ b = true) : b = false := by cases b <;> simp_all
theorem xfN_eq (n : Nat) (k : Nat → Bool) : xfN n k = k n := by cases n <;> rfl
theorem xfN_of {n : Nat} {k : Nat → Bool} (h : xfN n k = true) : k n = true := by rw [xfN_eq] at h; exact h
noncomputable def xnth {α : Type} (l : List α) (k : α → Bool) : Nat → Bool := List.rec (motive := fun _ => Nat → Bool) (fun _ => false) (fun a _ ih n => Nat.rec (motive := fun _ => Bool) (k a) (fun m _ => ih m) n) l
theorem xnth_of {α : Type} {l : List α} {k : α → Bool} : ∀ {n : Nat}, xnth l k n = true → ∃ a, l[n]? = some a ∧ k a = true := by
  induction l with
  | nil => intro n h; exact absurd h (by change ¬ (false = true); decide)
  | cons a l ih =>
    intro n h
    cases n with
    | zero => exact ⟨a, rfl, h⟩
    | succ m =>
      obtain ⟨b, h1, h2⟩ := ih (n := m) h
      exact ⟨b, by simpa using h1, h2⟩
noncomputable def xset {α : Type} (l : List α) (v : α) : Nat → (List α → Bool) → Bool := List.rec (motive := fun _ => Nat → (List α → Bool) → Bool) (fun _ _ => false) (fun a l ih n k => Nat.rec (motive := fun _ => Bool) (k (v :: l)) (fun m _ => ih m (fun l' => k (a :: l'))) n) l
theorem xset_of {α : Type} {l : List α} {v : α} : ∀ {n : Nat} {k : List α → Bool}, xset l v n k = true → n < l.length ∧ k (l.set n v) = true := by
  induction l with
  | nil => intro n k h; exact absurd h (by change ¬ (false = true); decide)
  | cons a l ih =>
    intro n k h
    cases n with
    | zero => exact ⟨by simp, h⟩
    | succ m =>
      obtain ⟨h1, h2⟩ := ih (n := m) (k := fun l' => k (a :: l')) h
      exact ⟨by simpa using h1, by simpa using h2⟩
noncomputable def xapp {α : Type} (l : List α) (v : α) : (List α → Bool) → Bool := List.rec (motive := fun _ => (List α → Bool) → Bool) (fun k => k [v]) (fun a _ ih k => ih (fun l' => k (a :: l'))) l
theorem xapp_of {α : Type} {l : List α} {v : α} : ∀ {k : List α → Bool}, xapp l v k = true → k (l ++ [v]) = true := by
  induction l with
  | nil => intro k h; exact h
  | cons a l ih => intro k h; exact ih (k := fun l' => k (a :: l')) h
noncomputable def xlen {α : Type} (l : List α) : Nat := List.rec (motive := fun _ => Nat) 0 (fun _ _ ih => Nat.succ ih) l
theorem xlen_eq {α : Type} (l : List α) : xlen l = l.length := by
  induction l with
  | nil => rfl
  | cons a l ih => show Nat.succ (xlen l) = _; rw [ih]; rfl
noncomputable def xrep {α : Type} (v : α) (n : Nat) : (List α → Bool) → Bool := Nat.rec (motive := fun _ => (List α → Bool) → Bool) (fun k => k []) (fun _ ih k => ih (fun l => k (v :: l))) n
theorem xrep_of {α : Type} {v : α} : ∀ {n : Nat} {k : List α → Bool}, xrep v n k = true → k (List.replicate n v) = true := by
  intro n
  induction n with
  | zero => intro k h; exact h
  | succ n ih => intro k h; exact ih (k := fun l => k (v :: l)) h
/-- the heap: rows of 64 cells -/
def xat {α : Type} (h : List (List α)) (a : Nat) : Option α := (h[a / 64]?).bind (fun r => r[a % 64]?)
noncomputable def xhget {α : Type} (h : List (List α)) (a : Nat) (k : α → Bool) : Bool := xnth h (fun r => xnth r k (Nat.mod a 64)) (Nat.div a 64)
theorem xhget_of {α : Type} {h : List (List α)} {a : Nat} {k : α → Bool} (e : xhget h a k = true) : ∃ c, xat h a = some c ∧ k c = true := by
  obtain ⟨r, h1, h2⟩ := xnth_of e
  obtain ⟨c, h3, h4⟩ := xnth_of h2
  refine ⟨c, ?_, h4⟩
  have h1' : h[a / 64]? = some r := h1
  have h3' : r[a % 64]? = some c := h3
  simp [xat, h1', h3']
noncomputable def xhset {α : Type} (h : List (List α)) (a : Nat) (c : α) (k : List (List α) → Bool) : Bool := xnth h (fun r => xset r c (Nat.mod a 64) (fun r' => xset h r' (Nat.div a 64) k)) (Nat.div a 64)
theorem xdm (a : Nat) : a = 64 * (a / 64) + a % 64 := (Nat.div_add_mod a 64).symm
theorem xhset_of {α : Type} {h : List (List α)} {a : Nat} {c : α} {k : List (List α) → Bool} (e : xhset h a c k = true) : ∃ h' : List (List α), k h' = true ∧ (∃ c0, xat h a = some c0) ∧ xat h' a = some c ∧ ∀ b, b ≠ a → xat h' b = xat h b := by
  obtain ⟨r, h1, h2⟩ := xnth_of e
  obtain ⟨h3, h4⟩ := xset_of h2
  obtain ⟨h5, h6⟩ := xset_of h4
  have h1 : h[a / 64]? = some r := h1
  have h3 : a % 64 < r.length := h3
  have h5 : a / 64 < h.length := h5
  have h6 : k (h.set (a / 64) (r.set (a % 64) c)) = true := h6
  refine ⟨_, h6, ⟨r[a % 64], by simp [xat, h1, h3]⟩, ?_, fun b hb => ?_⟩
  · simp [xat, List.getElem?_set, h3, h5]
  · by_cases hq : b / 64 = a / 64
    · have hm : ¬ a % 64 = b % 64 := fun q => hb (by have e1 := xdm a; have e2 := xdm b; omega)
      have hr := (List.getElem?_eq_some_iff.mp h1).2
      simp [xat, List.getElem?_set, hq, h5, hr, hm]
    · have hq' : ¬ a / 64 = b / 64 := fun q => hq q.symm
      simp [xat, List.getElem?_set, hq']
noncomputable def xhpush (h : xH) (n : Nat) (c : xC) (k : xH → Bool) : Bool := xnth h (fun r => cond (Nat.beq (xlen r) (Nat.mod n 64)) (xapp r c (fun r' => xset h r' (Nat.div n 64) k)) false) (Nat.div n 64)
theorem xcond {b x : Bool} (h : cond b x false = true) : b = true ∧ x = true := by cases b <;> simp_all
theorem xcondn {b x : Bool} (h : cond b false x = true) : b = false ∧ x = true := by cases b <;> simp_all
theorem xhpush_of {h : xH} {n : Nat} {c : xC} {k : xH → Bool} (e : xhpush h n c k = true) : ∃ h' : xH, k h' = true ∧ xat h' n = some c ∧ ∀ b, b ≠ n → xat h' b = xat h b := by
  obtain ⟨r, h1, h2⟩ := xnth_of e
  obtain ⟨hl, h2⟩ := xcond h2
  have h4 := xapp_of h2
  obtain ⟨h5, h6⟩ := xset_of h4
  have hl := Nat.eq_of_beq_eq_true hl
  rw [xlen_eq] at hl
  have h1 : h[n / 64]? = some r := h1
  have hl : r.length = n % 64 := hl
  have h5 : n / 64 < h.length := h5
  have h6 : k (h.set (n / 64) (r ++ [c])) = true := h6
  refine ⟨_, h6, ?_, fun b hb => ?_⟩
  · simp [xat, List.getElem?_set, h5, ← hl]
  · by_cases hq : b / 64 = n / 64
    · have hm : ¬ b % 64 = n % 64 := fun q => hb (by have e1 := xdm n; have e2 := xdm b; omega)
      have h7 : (r ++ [c])[b % 64]? = r[b % 64]? := by
        rcases Nat.lt_or_ge (b % 64) r.length with q | q
        · rw [List.getElem?_append_left q]
        · rw [List.getElem?_eq_none (by simp; omega), List.getElem?_eq_none q]
      have hr := (List.getElem?_eq_some_iff.mp h1).2
      simp [xat, List.getElem?_set, hq, h5, hr, h7]
    · have hq' : ¬ n / 64 = b / 64 := fun q => hq q.symm
      simp [xat, List.getElem?_set, hq']
/-- n times the same, in rows -/
noncomputable def xrows {α : Type} (v : α) (n : Nat) (k : List (List α) → Bool) : Bool := xrep v 64 (fun r => xrep v (Nat.mod n 64) (fun q => xrep r (Nat.div n 64) (fun l => xapp l q k)))
theorem xrows_of {α : Type} {v : α} {n : Nat} {k : List (List α) → Bool} (h : xrows v n k = true) : ∃ l : List (List α), k l = true ∧ ∀ i x, xat l i = some x → i < n ∧ x = v := by
  have h := xapp_of (xrep_of (xrep_of (xrep_of h)))
  refine ⟨_, h, fun i x hx => ?_⟩
  have hx : ((List.replicate (n / 64) (List.replicate 64 v) ++ [List.replicate (n % 64) v])[i / 64]?).bind (fun r => r[i % 64]?) = some x := hx
  have e1 := xdm n
  have e2 := xdm i
  rcases Nat.lt_or_ge (i / 64) (n / 64) with q | q
  · rw [List.getElem?_append_left (by simpa using q), List.getElem?_replicate, if_pos q] at hx
    have hx : (List.replicate 64 v)[i % 64]? = some x := hx
    rw [List.getElem?_replicate, if_pos (Nat.mod_lt _ (by decide))] at hx
    have := Nat.mod_lt i (show 0 < 64 by decide)
    exact ⟨by omega, by cases hx; rfl⟩
  · rw [List.getElem?_append_right (by simpa using q)] at hx
    simp only [List.length_replicate] at hx
    rcases Nat.lt_or_ge (i / 64 - n / 64) 1 with q2 | q2
    · rw [show i / 64 - n / 64 = 0 by omega] at hx
      have hx : (List.replicate (n % 64) v)[i % 64]? = some x := hx
      rw [List.getElem?_replicate] at hx
      split at hx
      · next q3 => exact ⟨by omega, by cases hx; rfl⟩
      · cases hx
    · rw [List.getElem?_eq_none (by simpa using q2)] at hx
      cases hx
theorem xat_one {α : Type} {r : List α} {i : Nat} {x : α} (h : xat [r] i = some x) (hr : r.length ≤ 64) : r[i]? = some x := by
  have h : (([r] : List (List α))[i / 64]?).bind (fun q => q[i % 64]?) = some x := h
  rcases Nat.lt_or_ge (i / 64) 1 with q | q
  · rw [show i / 64 = 0 by omega] at h
    have h : r[i % 64]? = some x := h
    rw [show i % 64 = i by omega] at h
    exact h
  · rw [List.getElem?_eq_none (by simpa using q)] at h
    cases h
end
section
/-! numbers of the abstract machine: codes of ints, bounds of the variables -/
theorem xn_inj {x y : Int32} (h : x.toBitVec.toNat = y.toBitVec.toNat) : x = y := Int32.toBitVec_inj.mp (BitVec.eq_of_toNat_eq h)
theorem xn_tn (n : Nat) : (nI n).toBitVec.toNat = n % 4294967296 := by
  show (Int32.ofNat n).toBitVec.toNat = _
  simp
theorem xn_mod (n : Nat) : nI (n % 4294967296) = nI n := xn_inj (by rw [xn_tn, xn_tn, Nat.mod_mod])
def xcode (x : Int32) : Nat := x.toBitVec.toNat
theorem xn_code (x : Int32) : nI (xcode x) = x := xn_inj (by rw [xn_tn]; exact Nat.mod_eq_of_lt x.toBitVec.isLt)
theorem xn_lt (x : Int32) : xcode x < 4294967296 := x.toBitVec.isLt
theorem xl_inj {x y : Int64} (h : x.toBitVec.toNat = y.toBitVec.toNat) : x = y := Int64.toBitVec_inj.mp (BitVec.eq_of_toNat_eq h)
theorem xl_tn (n : Nat) : (lN n).toBitVec.toNat = n % 18446744073709551616 := by
  show (Int64.ofNat n).toBitVec.toNat = _
  simp
def xcodeL (x : Int64) : Nat := x.toBitVec.toNat
theorem xl_code (x : Int64) : lN (xcodeL x) = x := xl_inj (by rw [xl_tn]; exact Nat.mod_eq_of_lt x.toBitVec.isLt)
/-- biased: the order of ints as that of numbers -/
def xb (x : Int32) : Nat := (xcode x + 2147483648) % 4294967296
def xbc (u : Nat) : Nat := Nat.mod (Nat.add u 2147483648) 4294967296
theorem xbc_eq (u : Nat) : xbc u = xb (nI u) := by
  show (u + 2147483648) % 4294967296 = ((nI u).toBitVec.toNat + 2147483648) % 4294967296
  rw [xn_tn]; omega
theorem xb_int (x : Int32) : x.toInt = (xb x : Int) - 2147483648 := by
  have h := xn_lt x
  have e : x.toInt = if 2 * xcode x < 4294967296 then (xcode x : Int) else (xcode x : Int) - 4294967296 := by
    show x.toBitVec.toInt = _
    rw [BitVec.toInt_eq_toNat_cond]
    rfl
  rw [e]
  unfold xb
  split <;> omega
theorem xb_lt {x y : Int32} : x < y ↔ xb x < xb y := by
  rw [Int32.lt_iff_toInt_lt, xb_int, xb_int]; omega
theorem xb_le {x y : Int32} : x ≤ y ↔ xb x ≤ xb y := by
  rw [Int32.le_iff_toInt_le, xb_int, xb_int]; omega
theorem xb_eq {x y : Int32} : x = y ↔ xb x = xb y := by
  rw [← Int32.toInt_inj, xb_int, xb_int]; omega
theorem xb_max (x : Int32) : xb x < 4294967296 := Nat.mod_lt _ (by decide)
/-- what a biased number is the bias of -/
def xub (z : Nat) : Nat := Nat.mod (Nat.add z 2147483648) 4294967296
theorem xub_of {x : Int32} {z : Nat} (h : xb x = z) : x = nI (xub z) := by
  rw [xb_eq, ← xbc_eq, h]
  have hz : z < 4294967296 := by rw [← h]; exact xb_max x
  show z = ((z + 2147483648) % 4294967296 + 2147483648) % 4294967296
  omega
/-- the variables are within their bounds -/
def xLin (ρ : Nat → Int32) : Prop := ∀ k c, k < 64 → ρ (k + 64 * c) = ρ k + nI c
def xρ (ρ : Nat → Int32) (env : xE) : Prop := xLin ρ ∧ ∀ (k : Nat) (q : Nat × Nat), env[k]? = some q → q.1 ≤ xb (ρ k) ∧ xb (ρ k) ≤ q.2
theorem xρ_set {ρ : Nat → Int32} {env : xE} (h : xρ ρ env) {k lo hi : Nat} (h1 : lo ≤ xb (ρ k)) (h2 : xb (ρ k) ≤ hi) : xρ ρ (env.set k (lo, hi)) := by
  refine ⟨h.1, ?_⟩
  intro j q hq
  rw [List.getElem?_set] at hq
  split at hq
  · next e =>
    subst e
    split at hq
    · cases hq; exact ⟨h1, h2⟩
    · cases hq
  · exact h.2 j q hq
noncomputable def xcut (env : xE) (k t : Nat) (kT kF : xE → Bool) : Bool := xnth env (fun q => cond (Nat.blt q.2 t) (kT env) (cond (Nat.ble t q.1) (kF env) (cond (xset env (q.1, Nat.pred t) k kT) (xset env (t, q.2) k kF) false))) k
theorem xcut_of {ρ : Nat → Int32} {env : xE} {k t : Nat} {kT kF : xE → Bool} (h : xcut env k t kT kF = true) (hr : xρ ρ env) : (xb (ρ k) < t ∧ ∃ env', xρ ρ env' ∧ kT env' = true) ∨ (t ≤ xb (ρ k) ∧ ∃ env', xρ ρ env' ∧ kF env' = true) := by
  obtain ⟨q, hq, h⟩ := xnth_of h
  have hb := hr.2 k q hq
  by_cases c1 : Nat.blt q.2 t = true
  · rw [c1] at h
    have c1 : q.2 < t := by have c1' := c1; simp [Nat.blt] at c1'; omega
    exact Or.inl ⟨by omega, env, hr, h⟩
  · have c1 : Nat.blt q.2 t = false := xnf c1
    rw [c1] at h
    by_cases c2 : Nat.ble t q.1 = true
    · have c2' := Nat.le_of_ble_eq_true c2
      rw [c2] at h
      exact Or.inr ⟨by omega, env, hr, h⟩
    · have c2 : Nat.ble t q.1 = false := xnf c2
      rw [c2] at h
      obtain ⟨h1, h2⟩ := xcond h
      rcases Nat.lt_or_ge (xb (ρ k)) t with g | g
      · exact Or.inl ⟨g, _, xρ_set hr hb.1 (by show _ ≤ t - 1; omega), (xset_of h1).2⟩
      · exact Or.inr ⟨g, _, xρ_set hr g hb.2, (xset_of h2).2⟩
noncomputable def xallN (env : xE) (k : Nat) (kk : xE → Nat → Bool) (n : Nat) : Nat → Bool := Nat.rec (motive := fun _ => Nat → Bool) (fun _ => true) (fun _ ih z => xfN z (fun z => cond (xset env (z, z) k (fun env' => xfN (xub z) (fun u => kk env' u))) (ih (Nat.succ z)) false)) n
theorem xallN_of {ρ : Nat → Int32} {env : xE} {k : Nat} {kk : xE → Nat → Bool} (hr : xρ ρ env) : ∀ {n z : Nat}, xallN env k kk n z = true → z ≤ xb (ρ k) → xb (ρ k) < z + n → ∃ env' u, xρ ρ env' ∧ ρ k = nI u ∧ kk env' u = true := by
  intro n
  induction n with
  | zero => intro z h h1 h2; exact absurd h2 (by omega)
  | succ n ih =>
    intro z h h1 h2
    have h := xfN_of (n := z) (k := fun z => cond (xset env (z, z) k (fun env' => xfN (xub z) (fun u => kk env' u))) (xallN env k kk n (Nat.succ z)) false) h
    obtain ⟨g1, g2⟩ := xcond h
    by_cases e : xb (ρ k) = z
    · exact ⟨_, _, xρ_set hr (by omega) (by omega), xub_of e, xfN_of (xset_of g1).2⟩
    · exact ih g2 (by show z + 1 ≤ _; omega) (by show _ < z + 1 + n; omega)
noncomputable def xall (env : xE) (k : Nat) (kk : xE → Nat → Bool) : Bool := xnth env (fun q => cond (Nat.ble q.2 (Nat.add q.1 511)) (xallN env k kk (Nat.sub (Nat.succ q.2) q.1) q.1) false) k
theorem xall_of {ρ : Nat → Int32} {env : xE} {k : Nat} {kk : xE → Nat → Bool} (hr : xρ ρ env) (h : xall env k kk = true) : ∃ env' u, xρ ρ env' ∧ ρ k = nI u ∧ kk env' u = true := by
  obtain ⟨q, hq, h⟩ := xnth_of h
  obtain ⟨-, h⟩ := xcond h
  have hb := hr.2 k q hq
  exact xallN_of hr h hb.1 (by show _ < q.1 + (q.2 + 1 - q.1); omega)
end
section
/-! values, comparisons, the handlers of the instructions -/
def xg (ρ : Nat → Int32) (base : Nat) : xV → Value → Prop
  | .inl u, v => v = .int (nI u)
  | .inr (.inl none), v => ∃ x : Int32, v = .int x
  | .inr (.inl (some k)), v => v = .int (ρ k)
  | .inr (.inr (.inl none)), v => v = .null
  | .inr (.inr (.inl (some a))), v => v = .ref (base + a)
  | .inr (.inr (.inr (.inl u))), v => v = .long (lN u)
  | .inr (.inr (.inr (.inr none))), v => ∃ x : Int64, v = .long x
  | .inr (.inr (.inr (.inr (some k)))), v => v = .long (ρ k).toInt64
def xis : xV → Nat
  | .inl _ => 0
  | .inr (.inl _) => 0
  | .inr (.inr (.inl _)) => 1
  | .inr (.inr (.inr _)) => 2
theorem xg_int {ρ : Nat → Int32} {base : Nat} {x : xV} {v : Value} (h : xg ρ base x v) (hk : xis x = 0) : ∃ i : Int32, v = .int i := by
  match x, h, hk with
  | .inl u, h, _ => exact ⟨_, h⟩
  | .inr (.inl none), h, _ => exact h
  | .inr (.inl (some k)), h, _ => exact ⟨_, h⟩
theorem xg_long {ρ : Nat → Int32} {base : Nat} {x : xV} {v : Value} (h : xg ρ base x v) (hk : xis x = 2) : ∃ i : Int64, v = .long i := by
  match x, h, hk with
  | .inr (.inr (.inr (.inl u))), h, _ => exact ⟨_, h⟩
  | .inr (.inr (.inr (.inr none))), h, _ => exact h
  | .inr (.inr (.inr (.inr (some k)))), h, _ => exact ⟨_, h⟩
theorem xg_ref {ρ : Nat → Int32} {base : Nat} {x : xV} {v : Value} (h : xg ρ base x v) (hk : xis x = 1) : v = .null ∨ ∃ a : Nat, v = .ref a := by
  match x, h, hk with
  | .inr (.inr (.inl none)), h, _ => exact Or.inl h
  | .inr (.inr (.inl (some k))), h, _ => exact Or.inr ⟨_, h⟩
theorem xg_cat {ρ : Nat → Int32} {base : Nat} {x : xV} {v : Value} (h : xg ρ base x v) : v.category = if xis x = 2 then 2 else 1 := by
  match x, h with
  | .inl u, h => cases h; rfl
  | .inr (.inl none), h => obtain ⟨i, rfl⟩ := h; rfl
  | .inr (.inl (some k)), h => cases h; rfl
  | .inr (.inr (.inl none)), h => cases h; rfl
  | .inr (.inr (.inl (some a))), h => cases h; rfl
  | .inr (.inr (.inr (.inl u))), h => cases h; rfl
  | .inr (.inr (.inr (.inr none))), h => obtain ⟨i, rfl⟩ := h; rfl
  | .inr (.inr (.inr (.inr (some k)))), h => cases h; rfl
/-- conditions: 0 eq, 1 ne, 2 lt, 3 ge, 4 gt, 5 le -/
def xP : Nat → Int32 → Int32 → Prop
  | 0, x, y => x = y
  | 1, x, y => ¬ x = y
  | 2, x, y => x < y
  | 3, x, y => y ≤ x
  | 4, x, y => y < x
  | _, x, y => x ≤ y
def xcc : Nat → Nat → Nat → Bool
  | 0, x, y => Nat.beq x y
  | 1, x, y => Bool.not (Nat.beq x y)
  | 2, x, y => Nat.blt x y
  | 3, x, y => Nat.ble y x
  | 4, x, y => Nat.blt y x
  | _, x, y => Nat.ble x y
theorem xblt {a b : Nat} : Nat.blt a b = true ↔ a < b := by simp [Nat.blt]; omega
theorem xble {a b : Nat} : Nat.ble a b = true ↔ a ≤ b := by simp
theorem xbeq {a b : Nat} : Nat.beq a b = true ↔ a = b := by simp
theorem xcc_of (c : Nat) (x y : Int32) : xcc c (xb x) (xb y) = true ↔ xP c x y := by
  match c with
  | 0 => rw [xcc, xP, xbeq, xb_eq]
  | 1 =>
    rw [xcc, xP, xb_eq, ← xbeq]
    generalize Nat.beq (xb x) (xb y) = q
    cases q <;> simp
  | 2 => rw [xcc, xP, xblt, xb_lt]
  | 3 => rw [xcc, xP, xble, xb_le]
  | 4 => rw [xcc, xP, xblt, xb_lt]
  | n + 5 => rw [show xcc (n + 5) (xb x) (xb y) = Nat.ble (xb x) (xb y) from rfl, show xP (n + 5) x y = (x ≤ y) from rfl, xble, xb_le]
noncomputable def xcv (env : xE) (k z : Nat) (kk : xE → Bool → Bool) : Nat → Bool
  | 0 => xcut env k z (fun e => kk e false) (fun e => xcut e k (Nat.succ z) (fun e => kk e true) (fun e => kk e false))
  | 1 => xcut env k z (fun e => kk e true) (fun e => xcut e k (Nat.succ z) (fun e => kk e false) (fun e => kk e true))
  | 2 => xcut env k z (fun e => kk e true) (fun e => kk e false)
  | 3 => xcut env k z (fun e => kk e false) (fun e => kk e true)
  | 4 => xcut env k (Nat.succ z) (fun e => kk e false) (fun e => kk e true)
  | _ => xcut env k (Nat.succ z) (fun e => kk e true) (fun e => kk e false)
theorem xiff_true {P : Prop} (h : P) : true = true ↔ P := ⟨fun _ => h, fun _ => rfl⟩
theorem xiff_false {P : Prop} (h : ¬ P) : false = true ↔ P := ⟨fun q => Bool.noConfusion q, fun q => absurd q h⟩
theorem xcv_of {ρ : Nat → Int32} {env : xE} {k : Nat} {y : Int32} {kk : xE → Bool → Bool} (hr : xρ ρ env) (c : Nat) (h : xcv env k (xb y) kk c = true) : ∃ env' b, xρ ρ env' ∧ kk env' b = true ∧ (b = true ↔ xP c (ρ k) y) := by
  match c, h with
  | 0, h =>
    rw [xcv] at h
    rcases xcut_of h hr with ⟨a, e, he, h⟩ | ⟨a, e, he, h⟩
    · exact ⟨e, false, he, h, xiff_false (by show ¬ ρ k = y; rw [xb_eq]; omega)⟩
    · rcases xcut_of h he with ⟨a', e, he, h⟩ | ⟨a', e, he, h⟩
      · exact ⟨e, true, he, h, xiff_true (by show ρ k = y; rw [xb_eq]; omega)⟩
      · exact ⟨e, false, he, h, xiff_false (by show ¬ ρ k = y; rw [xb_eq]; omega)⟩
  | 1, h =>
    rw [xcv] at h
    rcases xcut_of h hr with ⟨a, e, he, h⟩ | ⟨a, e, he, h⟩
    · exact ⟨e, true, he, h, xiff_true (by show ¬ ρ k = y; rw [xb_eq]; omega)⟩
    · rcases xcut_of h he with ⟨a', e, he, h⟩ | ⟨a', e, he, h⟩
      · exact ⟨e, false, he, h, xiff_false (by show ¬ ¬ ρ k = y; rw [xb_eq]; omega)⟩
      · exact ⟨e, true, he, h, xiff_true (by show ¬ ρ k = y; rw [xb_eq]; omega)⟩
  | 2, h =>
    rw [xcv] at h
    rcases xcut_of h hr with ⟨a, e, he, h⟩ | ⟨a, e, he, h⟩
    · exact ⟨e, true, he, h, xiff_true (by show ρ k < y; rw [xb_lt]; omega)⟩
    · exact ⟨e, false, he, h, xiff_false (by show ¬ ρ k < y; rw [xb_lt]; omega)⟩
  | 3, h =>
    rw [xcv] at h
    rcases xcut_of h hr with ⟨a, e, he, h⟩ | ⟨a, e, he, h⟩
    · exact ⟨e, false, he, h, xiff_false (by show ¬ y ≤ ρ k; rw [xb_le]; omega)⟩
    · exact ⟨e, true, he, h, xiff_true (by show y ≤ ρ k; rw [xb_le]; omega)⟩
  | 4, h =>
    rw [xcv] at h
    rcases xcut_of h hr with ⟨a, e, he, h⟩ | ⟨a, e, he, h⟩
    · exact ⟨e, false, he, h, xiff_false (by show ¬ y < ρ k; rw [xb_lt]; omega)⟩
    · exact ⟨e, true, he, h, xiff_true (by show y < ρ k; rw [xb_lt]; omega)⟩
  | n + 5, h =>
    have h : xcut env k (Nat.succ (xb y)) (fun e => kk e true) (fun e => kk e false) = true := h
    rcases xcut_of h hr with ⟨a, e, he, h⟩ | ⟨a, e, he, h⟩
    · exact ⟨e, true, he, h, xiff_true (by show ρ k ≤ y; rw [xb_le]; omega)⟩
    · exact ⟨e, false, he, h, xiff_false (by show ¬ ρ k ≤ y; rw [xb_le]; omega)⟩
def xsw : Nat → Nat
  | 0 => 0
  | 1 => 1
  | 2 => 4
  | 3 => 5
  | 4 => 2
  | _ => 3
theorem xsw_of (c : Nat) (x y : Int32) : xP (xsw c) y x ↔ xP c x y := by
  match c with
  | 0 => exact eq_comm
  | 1 => exact not_congr eq_comm
  | 2 => exact Iff.rfl
  | 3 => exact Iff.rfl
  | 4 => exact Iff.rfl
  | _ + 5 => exact Iff.rfl
/-- the first is at most the second -/
noncomputable def xcap (env : xE) (i j : Nat) (k : xE → Bool) : Bool := xnth env (fun p => xnth env (fun q => xset env (p.1, cond (Nat.ble p.2 q.2) p.2 q.2) i k) j) i
theorem xcap_of {ρ : Nat → Int32} {env : xE} {i j : Nat} {k : xE → Bool} (h : xcap env i j k = true) (hr : xρ ρ env) (hle : ρ i ≤ ρ j) : ∃ env', xρ ρ env' ∧ k env' = true := by
  obtain ⟨p, hp, h⟩ := xnth_of h
  obtain ⟨q, hq, h⟩ := xnth_of h
  have h1 := hr.2 i p hp
  have h2 := hr.2 j q hq
  have h3 := xb_le.mp hle
  refine ⟨_, xρ_set hr h1.1 ?_, (xset_of h).2⟩
  by_cases c : Nat.ble p.2 q.2 = true
  · rw [c]; exact h1.2
  · rw [xnf c]; exact Nat.le_trans h3 h2.2
noncomputable def xcmp (env : xE) (c : Nat) (kk : xE → Bool → Bool) : xV → xV → Bool
  | .inl u, .inl v => kk env (xcc c (xbc u) (xbc v))
  | .inr (.inl (some k)), .inl v => cond (Nat.blt k 64) (xfN (xbc v) (fun z => xcv env k z kk c)) (cond (kk env true) (kk env false) false)
  | .inl u, .inr (.inl (some k)) => cond (Nat.blt k 64) (xfN (xbc u) (fun z => xcv env k z kk (xsw c))) (cond (kk env true) (kk env false) false)
  | .inr (.inl (some i)), .inr (.inl (some j)) => cond (Bool.and (Nat.beq c 4) (Bool.and (Nat.blt i 64) (Nat.blt j 64))) (cond (kk env true) (xcap env i j (fun e => kk e false)) false) (cond (kk env true) (kk env false) false)
  | .inr (.inl _), .inl _ => cond (kk env true) (kk env false) false
  | .inl _, .inr (.inl _) => cond (kk env true) (kk env false) false
  | .inr (.inl _), .inr (.inl _) => cond (kk env true) (kk env false) false
  | _, _ => false
theorem xcmp_any {ρ : Nat → Int32} {env : xE} {c : Nat} {kk : xE → Bool → Bool} (hr : xρ ρ env) (x y : Int32) (h : cond (kk env true) (kk env false) false = true) : ∃ env' b, xρ ρ env' ∧ kk env' b = true ∧ (b = true ↔ xP c x y) := by
  obtain ⟨h1, h2⟩ := xcond h
  by_cases hp : xP c x y
  · exact ⟨env, true, hr, h1, by simp [hp]⟩
  · exact ⟨env, false, hr, h2, by simp [hp]⟩
theorem xcmp_of {ρ : Nat → Int32} {base : Nat} {env : xE} {c : Nat} {kk : xE → Bool → Bool} {a b : xV} {va vb : Value} (hr : xρ ρ env) (ha : xg ρ base a va) (hb : xg ρ base b vb) (h : xcmp env c kk a b = true) :
    ∃ x y : Int32, va = .int x ∧ vb = .int y ∧ ∃ env' r, xρ ρ env' ∧ kk env' r = true ∧ (r = true ↔ xP c x y) := by
  cases a with
  | inl u =>
    cases b with
    | inl v =>
      refine ⟨_, _, ha, hb, env, xcc c (xbc u) (xbc v), hr, h, ?_⟩
      rw [xbc_eq, xbc_eq]; exact xcc_of c _ _
    | inr b =>
      cases b with
      | inl o =>
        cases o with
        | none => obtain ⟨x, hb⟩ := hb; exact ⟨_, _, ha, hb, xcmp_any hr _ _ h⟩
        | some k =>
          have h : cond (Nat.blt k 64) (xfN (xbc u) (fun z => xcv env k z kk (xsw c))) (cond (kk env true) (kk env false) false) = true := h
          by_cases c64 : Nat.blt k 64 = true
          · rw [c64, cond_true] at h
            have h := xfN_of h
            rw [xbc_eq] at h
            obtain ⟨e, r, h1, h2, h3⟩ := xcv_of hr (xsw c) h
            exact ⟨_, _, ha, hb, e, r, h1, h2, h3.trans (xsw_of c _ _)⟩
          · rw [xnf c64, cond_false] at h
            exact ⟨_, _, ha, hb, xcmp_any hr _ _ h⟩
      | inr b => exact absurd h (by simp [xcmp])
  | inr a =>
    cases a with
    | inl o =>
      cases b with
      | inl v =>
        cases o with
        | none => obtain ⟨x, ha⟩ := ha; exact ⟨_, _, ha, hb, xcmp_any hr _ _ h⟩
        | some k =>
          have h : cond (Nat.blt k 64) (xfN (xbc v) (fun z => xcv env k z kk c)) (cond (kk env true) (kk env false) false) = true := h
          by_cases c64 : Nat.blt k 64 = true
          · rw [c64, cond_true] at h
            have h := xfN_of h
            rw [xbc_eq] at h
            exact ⟨_, _, ha, hb, xcv_of hr c h⟩
          · rw [xnf c64, cond_false] at h
            exact ⟨_, _, ha, hb, xcmp_any hr _ _ h⟩
      | inr b =>
        cases b with
        | inl o' =>
          obtain ⟨x, hx⟩ := xg_int ha rfl
          obtain ⟨y, hy⟩ := xg_int hb rfl
          cases o with
          | none => exact ⟨x, y, hx, hy, xcmp_any hr _ _ (by cases o' <;> exact h)⟩
          | some i =>
            cases o' with
            | none => exact ⟨x, y, hx, hy, xcmp_any hr _ _ h⟩
            | some j =>
              have h : cond (Bool.and (Nat.beq c 4) (Bool.and (Nat.blt i 64) (Nat.blt j 64))) (cond (kk env true) (xcap env i j (fun e => kk e false)) false) (cond (kk env true) (kk env false) false) = true := h
              by_cases c4 : Bool.and (Nat.beq c 4) (Bool.and (Nat.blt i 64) (Nat.blt j 64)) = true
              · rw [c4, cond_true] at h
                obtain ⟨h1, h2⟩ := xcond h
                have e4 : c = 4 := Nat.eq_of_beq_eq_true (by cases hq : Nat.beq c 4 with | true => rfl | false => rw [hq] at c4; cases c4)
                subst e4
                have ex : x = ρ i := by cases hx; cases ha; rfl
                have ey : y = ρ j := by cases hy; cases hb; rfl
                by_cases hp : xP 4 x y
                · exact ⟨x, y, hx, hy, env, true, hr, h1, by simp [hp]⟩
                · have hle : ρ i ≤ ρ j := by
                    have hp : ¬ y < x := hp
                    rw [← ex, ← ey]
                    exact Int32.not_lt.mp hp
                  obtain ⟨e, h3, h4⟩ := xcap_of h2 hr hle
                  exact ⟨x, y, hx, hy, e, false, h3, h4, by simp [hp]⟩
              · rw [xnf c4, cond_false] at h
                exact ⟨x, y, hx, hy, xcmp_any hr _ _ h⟩
        | inr b => exact absurd h (by cases o <;> simp [xcmp])
    | inr a =>
      exact absurd h (by
        cases b with
        | inl v => simp [xcmp]
        | inr b =>
          cases b with
          | inl o => cases o <;> simp [xcmp]
          | inr b => simp [xcmp])
/-- an int that is used: known, or all that a variable within narrow bounds may be, or any -/
noncomputable def xci (env : xE) (kc : xE → Nat → Bool) (kt : Bool) : xV → Bool
  | .inl u => kc env u
  | .inr (.inl none) => kt
  | .inr (.inl (some k)) => cond (Nat.blt k 64) (xnth env (fun q => cond (Nat.ble q.2 (Nat.add q.1 127)) (xall env k kc) kt) k) kt
  | _ => false
theorem xci_of {ρ : Nat → Int32} {base : Nat} {env : xE} {kc : xE → Nat → Bool} {kt : Bool} {a : xV} {va : Value} (hr : xρ ρ env) (ha : xg ρ base a va) (h : xci env kc kt a = true) :
    ∃ x : Int32, va = .int x ∧ ((∃ env' u, xρ ρ env' ∧ x = nI u ∧ kc env' u = true) ∨ kt = true) := by
  match a, ha, h with
  | .inl u, ha, h => exact ⟨_, ha, Or.inl ⟨env, u, hr, rfl, h⟩⟩
  | .inr (.inl none), ha, h => obtain ⟨x, ha⟩ := ha; exact ⟨x, ha, Or.inr h⟩
  | .inr (.inl (some k)), ha, h =>
    refine ⟨_, ha, ?_⟩
    have h : cond (Nat.blt k 64) (xnth env (fun q => cond (Nat.ble q.2 (Nat.add q.1 127)) (xall env k kc) kt) k) kt = true := h
    by_cases c64 : ¬ Nat.blt k 64 = true
    · rw [xnf c64, cond_false] at h
      exact Or.inr h
    have c64 : Nat.blt k 64 = true := Classical.not_not.mp c64
    rw [c64, cond_true] at h
    obtain ⟨q, -, h⟩ := xnth_of h
    by_cases c : Nat.ble q.2 (Nat.add q.1 127) = true
    · rw [c] at h
      obtain ⟨e, u, h1, h2, h3⟩ := xall_of hr h
      exact Or.inl ⟨e, u, h1, h2, h3⟩
    · have c : Nat.ble q.2 (Nat.add q.1 127) = false := xnf c
      rw [c] at h
      exact Or.inr h
/-- two-operand ints: 0 add, 1 sub, 2 mul, 3 and, 4 or, 5 xor, 6 shl, 7 shr, 8 ushr -/
def xio : Nat → Int32 → Int32 → Int32
  | 0, x, y => x + y
  | 1, x, y => x - y
  | 2, x, y => x * y
  | 3, x, y => x &&& y
  | 4, x, y => x ||| y
  | 5, x, y => x ^^^ y
  | 6, x, y => x <<< (y &&& 31)
  | 7, x, y => x >>> (y &&& 31)
  | _, x, y => (x.toUInt32 >>> (y.toUInt32 &&& Int32.toUInt32 31)).toInt32
def xioc : Nat → Nat → Nat → Nat
  | 0, x, y => Nat.mod (Nat.add x y) 4294967296
  | 1, x, y => Nat.mod (Nat.add x (Nat.sub 4294967296 (Nat.mod y 4294967296))) 4294967296
  | 2, x, y => Nat.mod (Nat.mul x y) 4294967296
  | 3, x, y => Nat.land x y
  | 4, x, y => Nat.lor x y
  | f, x, y => xcode (xio f (nI x) (nI y))
theorem xioc_of (f u v : Nat) : nI (xioc f u v) = xio f (nI u) (nI v) := by
  match f with
  | 0 => show nI ((u + v) % 4294967296) = nI u + nI v; rw [xn_mod, nI_add]
  | 1 =>
    show nI ((u + (4294967296 - v % 4294967296)) % 4294967296) = nI u - nI v
    apply xn_inj
    rw [Int32.toBitVec_sub, BitVec.toNat_sub, xn_tn, xn_tn, xn_tn]
    omega
  | 2 => show nI ((u * v) % 4294967296) = nI u * nI v; rw [xn_mod, pk_mul]
  | 3 =>
    show nI (u &&& v) = nI u &&& nI v
    apply xn_inj
    rw [Int32.toBitVec_and, BitVec.toNat_and, xn_tn, xn_tn, xn_tn]
    exact Nat.and_mod_two_pow (n := 32)
  | 4 =>
    show nI (u ||| v) = nI u ||| nI v
    apply xn_inj
    rw [Int32.toBitVec_or, BitVec.toNat_or, xn_tn, xn_tn, xn_tn]
    exact Nat.or_mod_two_pow (n := 32)
  | f + 5 => exact xn_code _
/-- one-operand ints: 0 neg, 1 i2b, 2 i2s, 3 i2c -/
def xiu : Nat → Int32 → Int32
  | 0, x => -x
  | 1, x => x.toInt8.toInt32
  | 2, x => x.toInt16.toInt32
  | _, x => (x.toUInt32 % 65536).toInt32
/-- longs: 0 add, 1 sub, 2 mul, 3 and, 4 or, 5 xor -/
def xlo : Nat → Int64 → Int64 → Int64
  | 0, x, y => x + y
  | 1, x, y => x - y
  | 2, x, y => x * y
  | 3, x, y => x &&& y
  | 4, x, y => x ||| y
  | _, x, y => x ^^^ y
def xls : Nat → Int64 → Int32 → Int64
  | 0, x, y => x <<< (y.toInt64 &&& 63)
  | 1, x, y => x >>> (y.toInt64 &&& 63)
  | _, x, y => (x.toUInt64 >>> (y.toInt64.toUInt64 &&& Int64.toUInt64 63)).toInt64
/-- the rest of the code from a target on -/
noncomputable def xjmp (c : List xI) (t : Nat) (k : List xI → Bool) : Bool := List.rec (motive := fun _ => Bool) false (fun i c ih => cond (Nat.beq i.1 t) (k (i :: c)) ih) c
theorem xjmp_of {c : List xI} {t : Nat} {k : List xI → Bool} (h : xjmp c t k = true) : ∃ i r, i.1 = t ∧ (i :: r) <:+ c ∧ k (i :: r) = true := by
  induction c with
  | nil => exact absurd h (by change ¬ (false = true); decide)
  | cons i c ih =>
    have h : cond (Nat.beq i.1 t) (k (i :: c)) (xjmp c t k) = true := h
    by_cases e : Nat.beq i.1 t = true
    · rw [e] at h
      exact ⟨i, c, Nat.eq_of_beq_eq_true e, List.suffix_refl _, h⟩
    · have e : Nat.beq i.1 t = false := xnf e
      rw [e] at h
      obtain ⟨j, r, h1, h2, h3⟩ := ih h
      exact ⟨j, r, h1, h2.trans (List.suffix_cons _ _), h3⟩
end
section
/-! the handlers: what an instruction does to the abstract state -/
abbrev xIh : Type := xM → List xI → xA → xK → Bool
abbrev xHd : Type := xIh → xM → List xI → Nat → Nat → List Nat → xA → xK → Bool
abbrev xTop : xV := .inr (.inl none)
abbrev xTopL : xV := .inr (.inr (.inr (.inr none)))
abbrev xLc (u : Nat) : xV := .inr (.inr (.inr (.inl u)))
abbrev xRef (a : Nat) : xV := .inr (.inr (.inl (some a)))
noncomputable def xfind (lv : xL) (i : Nat) (k : xV → Bool) : Bool := List.rec (motive := fun _ => Bool) false (fun q _ ih => cond (Nat.beq q.1 i) (k q.2) ih) lv
theorem xfind_of {lv : xL} {i : Nat} {k : xV → Bool} (h : xfind lv i k = true) : ∃ (j : Nat) (v : xV), lv[j]? = some (i, v) ∧ k v = true := by
  induction lv with
  | nil => exact absurd h (by change ¬ (false = true); decide)
  | cons q lv ih =>
    have h : cond (Nat.beq q.1 i) (k q.2) (xfind lv i k) = true := h
    by_cases e : Nat.beq q.1 i = true
    · rw [e] at h
      exact ⟨0, q.2, by rw [← Nat.eq_of_beq_eq_true e]; rfl, h⟩
    · have e : Nat.beq q.1 i = false := xnf e
      rw [e] at h
      obtain ⟨j, v, h1, h2⟩ := ih h
      exact ⟨j + 1, v, h1, h2⟩
/-- does a store of kind b at i take this local away? -/
def xdrop (i b : Nat) (q : Nat × xV) : Bool := Bool.or (Nat.beq q.1 i) (Bool.or (Bool.and (Nat.beq (Nat.succ q.1) i) (Nat.beq (xis q.2) 2)) (Bool.and (Nat.beq b 2) (Nat.beq q.1 (Nat.succ i))))
noncomputable def xfil (i b : Nat) (lv : xL) : (xL → Bool) → Bool := List.rec (motive := fun _ => (xL → Bool) → Bool) (fun k => k []) (fun q _ ih k => cond (xdrop i b q) (ih k) (ih (fun l => k (q :: l)))) lv
theorem xfil_of {i b : Nat} {lv : xL} : ∀ {k : xL → Bool}, xfil i b lv k = true → k (lv.filter (fun q => !xdrop i b q)) = true := by
  induction lv with
  | nil => intro k h; exact h
  | cons q lv ih =>
    intro k h
    have h : cond (xdrop i b q) (xfil i b lv k) (xfil i b lv (fun l => k (q :: l))) = true := h
    by_cases e : xdrop i b q = true
    · rw [e] at h
      have := ih h
      simpa [List.filter_cons, e] using this
    · have e : xdrop i b q = false := xnf e
      rw [e] at h
      have := ih (k := fun l => k (q :: l)) h
      simpa [List.filter_cons, e] using this
noncomputable def xo_iconst : xHd := fun ih me cs a _ _ A k => match A with | (lv, st, r) => ih me cs (lv, .inl a :: st, r) k
noncomputable def xo_lconst : xHd := fun ih me cs a _ _ A k => match A with | (lv, st, r) => ih me cs (lv, xLc a :: st, r) k
noncomputable def xo_null : xHd := fun ih me cs _ _ _ A k => match A with | (lv, st, r) => ih me cs (lv, .inr (.inr (.inl none)) :: st, r) k
noncomputable def xo_load : xHd := fun ih me cs a b _ A k => match A with | (lv, st, r) => xfind lv a (fun v => cond (Nat.beq (xis v) b) (ih me cs (lv, v :: st, r) k) false)
noncomputable def xo_store : xHd := fun ih me cs a b _ A k => match A with
  | (lv, v :: st, r) => cond (Nat.beq (xis v) b) (xfil a b lv (fun l => ih me cs ((a, v) :: l, st, r) k)) false
  | (_, [], _) => false
/-- what is known of a sum or difference with one of the variables -/
def xsum (a : Nat) : xV → xV → xV
  | .inl u, .inr (.inl (some k)) => cond (Bool.and (Nat.beq a 0) (Nat.blt k 64)) (.inr (.inl (some (Nat.add k (Nat.mul 64 u))))) xTop
  | .inr (.inl (some k)), .inl v => cond (Nat.blt k 64) (cond (Nat.beq a 0) (.inr (.inl (some (Nat.add k (Nat.mul 64 v))))) (cond (Nat.beq a 1) (.inr (.inl (some (Nat.add k (Nat.mul 64 (Nat.mod (Nat.sub 4294967296 (Nat.mod v 4294967296)) 4294967296)))))) xTop)) xTop
  | _, _ => xTop
theorem xneg2 (v : Nat) (z : Int32) : z - nI v = z + nI ((4294967296 - v % 4294967296) % 4294967296) := by
  apply xn_inj
  rw [Int32.toBitVec_sub, BitVec.toNat_sub, Int32.toBitVec_add, BitVec.toNat_add, xn_tn, xn_tn]
  have := z.toBitVec.isLt
  omega
theorem xsum_of {ρ : Nat → Int32} {base a : Nat} {x y : xV} {x' y' : Int32} (hl : xLin ρ) (hx : xg ρ base x (.int x')) (hy : xg ρ base y (.int y')) : xg ρ base (xsum a x y) (.int (xio a x' y')) := by
  have top : xg ρ base xTop (.int (xio a x' y')) := ⟨_, rfl⟩
  cases x with
  | inl u =>
    cases y with
    | inl v => exact top
    | inr y =>
      cases y with
      | inr y => exact top
      | inl o =>
        cases o with
        | none => exact top
        | some k =>
          have ex : x' = nI u := by injection hx
          have ey : y' = ρ k := by injection hy
          show xg ρ base (cond (Bool.and (Nat.beq a 0) (Nat.blt k 64)) _ xTop) _
          cases hc : Bool.and (Nat.beq a 0) (Nat.blt k 64) with
          | false => exact top
          | true =>
            have h0 : a = 0 := Nat.eq_of_beq_eq_true (by cases hq : Nat.beq a 0 with | true => rfl | false => rw [hq] at hc; cases hc)
            have h1 : Nat.blt k 64 = true := by cases hq : Nat.blt k 64 with | true => rfl | false => rw [hq] at hc; cases hr : Nat.beq a 0 <;> rw [hr] at hc <;> cases hc
            have h1 := xblt.mp h1
            subst h0
            show Value.int (x' + y') = Value.int (ρ (k + 64 * u))
            rw [hl k u h1, ex, ey, Int32.add_comm]
  | inr x =>
    cases x with
    | inr x => exact top
    | inl o =>
      cases o with
      | none => exact top
      | some k =>
        cases y with
        | inr y => exact top
        | inl v =>
          have ex : x' = ρ k := by injection hx
          have ey : y' = nI v := by injection hy
          show xg ρ base (cond (Nat.blt k 64) (cond (Nat.beq a 0) _ (cond (Nat.beq a 1) _ xTop)) xTop) _
          cases hc : Nat.blt k 64 with
          | false => exact top
          | true =>
            have h1 := xblt.mp hc
            cases h0 : Nat.beq a 0 with
            | true =>
              have h0 := Nat.eq_of_beq_eq_true h0
              subst h0
              show Value.int (x' + y') = Value.int (ρ (k + 64 * v))
              rw [hl k v h1, ex, ey]
            | false =>
              cases h2 : Nat.beq a 1 with
              | false => exact top
              | true =>
                have h2 := Nat.eq_of_beq_eq_true h2
                subst h2
                show Value.int (x' - y') = Value.int (ρ (k + 64 * ((4294967296 - v % 4294967296) % 4294967296)))
                rw [hl k _ h1, ex, ey, xneg2]
/-- an array all of whose places hold the same -/
def xsame : xV → xV → Bool
  | .inl a, .inl b => Nat.beq a b
  | .inr (.inr (.inr (.inl a))), .inr (.inr (.inr (.inl b))) => Nat.beq a b
  | _, _ => false
theorem xsame_of {x y : xV} (h : xsame x y = true) : x = y := by
  rcases x with a | a | a | a | a <;> rcases y with b | b | b | b | b <;> first | (rw [Nat.eq_of_beq_eq_true (show Nat.beq a b = true from h)]) | exact absurd h (by simp [xsame])
noncomputable def xallr (v : xV) (r : List xV) : Bool := List.rec (motive := fun _ => Bool) true (fun a _ ih => cond (xsame v a) ih false) r
theorem xallr_of {v : xV} : ∀ {r : List xV}, xallr v r = true → ∀ i, i < r.length → r[i]? = some v := by
  intro r
  induction r with
  | nil => intro _ i hi; exact absurd hi (by simp)
  | cons a r ih =>
    intro h i hi
    obtain ⟨h1, h2⟩ := xcond (b := xsame v a) (x := xallr v r) h
    cases i with
    | zero => rw [xsame_of h1]; rfl
    | succ i => simpa using ih h2 i (by simpa using hi)
noncomputable def xunif (v : xV) (rows : List (List xV)) : Nat → Bool := List.rec (motive := fun _ => Nat → Bool) (fun n => Nat.beq n 0) (fun r _ ih n => cond (xallr v r) (cond (Nat.ble 64 n) (cond (Nat.beq (xlen r) 64) (ih (Nat.sub n 64)) false) (Nat.beq (xlen r) n)) false) rows
theorem xat_cons {α : Type} (r : List α) (h : List (List α)) (i : Nat) : xat (r :: h) i = if i < 64 then r[i]? else xat h (i - 64) := by
  unfold xat
  split
  · next q => rw [show i / 64 = 0 by omega, show i % 64 = i by omega]; rfl
  · next q => rw [show i / 64 = (i - 64) / 64 + 1 by omega, show i % 64 = (i - 64) % 64 by omega]; simp
theorem xunif_of {v : xV} : ∀ {rows : List (List xV)} {n : Nat}, xunif v rows n = true → ∀ i, i < n → xat rows i = some v := by
  intro rows
  induction rows with
  | nil => intro n h i hi; have h : n = 0 := Nat.eq_of_beq_eq_true h; omega
  | cons r rows ih =>
    intro n h i hi
    obtain ⟨h1, h2⟩ := xcond (b := xallr v r) (x := cond (Nat.ble 64 n) (cond (Nat.beq (xlen r) 64) (xunif v rows (Nat.sub n 64)) false) (Nat.beq (xlen r) n)) h
    rw [xat_cons]
    by_cases c : Nat.ble 64 n = true
    · rw [c] at h2
      obtain ⟨h3, h4⟩ := xcond h2
      have h3 := Nat.eq_of_beq_eq_true h3
      rw [xlen_eq] at h3
      split
      · exact xallr_of h1 i (by omega)
      · exact ih h4 (i - 64) (by show i - 64 < n - 64; omega)
    · rw [xnf c] at h2
      have h3 : xlen r = n := Nat.eq_of_beq_eq_true h2
      rw [xlen_eq] at h3
      have h5 : n < 64 := by
        rcases Nat.lt_or_ge n 64 with q | q
        · exact q
        · exact absurd (by simpa using q) c
      rw [if_pos (by omega)]
      exact xallr_of h1 i (by omega)
noncomputable def xidx (env : xE) (n k : Nat) : Bool := xnth env (fun q => Bool.and (Nat.ble 2147483648 (Nat.add q.1 (Nat.div k 64))) (Nat.blt (Nat.add q.2 (Nat.div k 64)) (Nat.add 2147483648 n))) (Nat.mod k 64)
theorem xidx_of {ρ : Nat → Int32} {env : xE} {n k : Nat} (hr : xρ ρ env) (hn : n ≤ 2147483648) (h : xidx env n k = true) : ∃ u, ρ k = nI u ∧ u < n ∧ u < 2147483648 := by
  obtain ⟨q, hq, h⟩ := xnth_of h
  have hb := hr.2 (k % 64) q hq
  have h1 : Nat.ble 2147483648 (q.1 + k / 64) = true := by cases hc : Nat.ble 2147483648 (q.1 + k / 64) with | true => rfl | false => exact absurd (show Bool.and (Nat.ble 2147483648 (q.1 + k / 64)) _ = true from h) (by rw [hc]; simp)
  have h2 : Nat.blt (q.2 + k / 64) (2147483648 + n) = true := by cases hc : Nat.blt (q.2 + k / 64) (2147483648 + n) with | true => rfl | false => exact absurd (show Bool.and _ (Nat.blt (q.2 + k / 64) (2147483648 + n)) = true from h) (by rw [hc]; simp)
  have h1 := Nat.le_of_ble_eq_true h1
  have h2 := xblt.mp h2
  have e := hr.1 (k % 64) (k / 64) (Nat.mod_lt _ (by decide))
  rw [show k % 64 + 64 * (k / 64) = k by omega] at e
  have e3 : ρ (k % 64) = nI ((xb (ρ (k % 64)) + 2147483648) % 4294967296) := xub_of (x := ρ (k % 64)) rfl
  generalize xb (ρ (k % 64)) = z at hb e3
  refine ⟨z + k / 64 - 2147483648, ?_, by omega, by omega⟩
  have e4 : (z + 2147483648 + k / 64) % 4294967296 = (z + k / 64 - 2147483648) % 4294967296 := by omega
  rw [e, e3, xn_mod, nI_add, ← xn_mod (z + 2147483648 + k / 64), e4, xn_mod]
noncomputable def xuld (env : xE) (h : xH) (o a : Nat) (k : xV → Bool) : xV → Bool
  | .inr (.inl (some j)) => xhget h o (fun c => cond (Nat.beq c.1 a) (xhget c.2.2 0 (fun v => cond (Bool.and (Nat.ble c.2.1 2147483648) (xidx env c.2.1 j)) (cond (xunif v c.2.2 c.2.1) (k v) false) false)) false)
  | _ => false
noncomputable def xust (env : xE) (h : xH) (o a : Nat) (v : xV) (k : Bool) : xV → Bool
  | .inr (.inl (some j)) => xhget h o (fun c => cond (Nat.beq c.1 a) (cond (Bool.and (Nat.ble c.2.1 2147483648) (xidx env c.2.1 j)) (cond (xunif v c.2.2 c.2.1) k false) false) false)
  | _ => false
noncomputable def xo_iinc : xHd := fun ih me cs a b _ A k => match A with
  | (lv, st, env, r) => xfind lv a (fun v => xci env (fun e u => xfN (xioc 0 u b) (fun w => xfil a 0 lv (fun l => ih me cs ((a, .inl w) :: l, st, e, r) k))) (xfil a 0 lv (fun l => ih me cs ((a, xsum 0 v (.inl b)) :: l, st, env, r) k)) v)
def xz : xV → Bool
  | .inl u => Nat.beq u 0
  | _ => false
noncomputable def xo_ibin : xHd := fun ih me cs a _ _ A k => match A with
  | (lv, y :: x :: st, env, r) => cond (Bool.and (Nat.beq a 0) (Bool.and (xz y) (Nat.beq (xis x) 0))) (ih me cs (lv, x :: st, env, r) k) (cond (Bool.and (Nat.beq a 0) (Bool.and (xz x) (Nat.beq (xis y) 0))) (ih me cs (lv, y :: st, env, r) k) (xci env (fun e u => xci e (fun e v => xfN (xioc a u v) (fun w => ih me cs (lv, .inl w :: st, e, r) k)) (ih me cs (lv, xsum a (.inl u) y :: st, e, r) k) y) (cond (Nat.beq (xis y) 0) (ih me cs (lv, xsum a x y :: st, env, r) k) false) x))
  | _ => false
/-- 0 div, 1 rem -/
def xdv : Nat → Int32 → Int32 → Int32
  | 0, x, y => x / y
  | _, x, y => x - x / y * y
def xdvc (a u v : Nat) : Nat := cond (Bool.and (Nat.blt u 2147483648) (Nat.blt v 2147483648)) (Nat.rec (motive := fun _ => Nat) (Nat.div u v) (fun _ _ => Nat.mod u v) a) (xcode (xdv a (nI u) (nI v)))
noncomputable def xo_idiv : xHd := fun ih me cs a _ _ A k => match A with
  | (lv, y :: x :: st, env, r) => xci env (fun e v => cond (Nat.beq (Nat.mod v 4294967296) 0) false (xci e (fun e u => xfN (xdvc a u v) (fun w => ih me cs (lv, .inl w :: st, e, r) k)) (ih me cs (lv, xTop :: st, e, r) k) x)) false y
  | _ => false
noncomputable def xo_iun : xHd := fun ih me cs a _ _ A k => match A with
  | (lv, x :: st, env, r) => xci env (fun e u => xfN (xcode (xiu a (nI u))) (fun w => ih me cs (lv, .inl w :: st, e, r) k)) (ih me cs (lv, xTop :: st, env, r) k) x
  | _ => false
noncomputable def xo_i2l : xHd := fun ih me cs _ _ _ A k => match A with
  | (lv, x :: st, r) => match x with
    | .inl u => xfN (xcodeL (nI u).toInt64) (fun w => ih me cs (lv, xLc w :: st, r) k)
    | .inr (.inl none) => ih me cs (lv, xTopL :: st, r) k
    | .inr (.inl (some i)) => cond (Nat.blt i 64) (ih me cs (lv, .inr (.inr (.inr (.inr (some i)))) :: st, r) k) (ih me cs (lv, xTopL :: st, r) k)
    | .inr (.inr _) => false
  | _ => false
noncomputable def xo_l2i : xHd := fun ih me cs _ _ _ A k => match A with
  | (lv, x :: st, r) => match x with
    | .inr (.inr (.inr (.inl u))) => xfN (xcode (lN u).toInt32) (fun w => ih me cs (lv, .inl w :: st, r) k)
    | .inr (.inr (.inr (.inr _))) => ih me cs (lv, xTop :: st, r) k
    | _ => false
  | _ => false
/-- the known long, or not -/
def xlc : xV → Option Nat
  | .inr (.inr (.inr (.inl u))) => some u
  | _ => none
noncomputable def xo_lbin : xHd := fun ih me cs a _ _ A k => match A with
  | (lv, y :: x :: st, r) => cond (Bool.and (Nat.beq (xis y) 2) (Nat.beq (xis x) 2)) (match xlc x, xlc y with
    | some u, some v => xfN (xcodeL (xlo a (lN u) (lN v))) (fun w => ih me cs (lv, xLc w :: st, r) k)
    | _, _ => ih me cs (lv, xTopL :: st, r) k) false
  | _ => false
/-- 0 div, 1 rem; the divisor known and not 0 -/
def xldv : Nat → Int64 → Int64 → Int64
  | 0, x, y => x / y
  | _, x, y => x - x / y * y
noncomputable def xo_ldiv : xHd := fun ih me cs a _ _ A k => match A with
  | (lv, y :: x :: st, r) => cond (Nat.beq (xis x) 2) (match xlc y with
    | some v => cond (Nat.beq (Nat.mod v 18446744073709551616) 0) false (match xlc x with
      | some u => xfN (xcodeL (xldv a (lN u) (lN v))) (fun w => ih me cs (lv, xLc w :: st, r) k)
      | none => ih me cs (lv, xTopL :: st, r) k)
    | none => false) false
  | _ => false
noncomputable def xo_lsh : xHd := fun ih me cs a _ _ A k => match A with
  | (lv, y :: x :: st, r) => cond (Bool.and (Nat.beq (xis y) 0) (Nat.beq (xis x) 2)) (match xlc x, y with
    | some u, .inl v => xfN (xcodeL (xls a (lN u) (nI v))) (fun w => ih me cs (lv, xLc w :: st, r) k)
    | _, _ => ih me cs (lv, xTopL :: st, r) k) false
  | _ => false
/-- is this long the long of this int? -/
def xwide (u : Nat) : Bool := Nat.beq (xcodeL (nI (Nat.mod u 4294967296)).toInt64) (Nat.mod u 18446744073709551616)
noncomputable def xo_lcmp : xHd := fun ih me cs _ _ _ A k => match A with
  | (lv, y :: x :: st, env, r) => match x, y with
    | .inr (.inr (.inr (.inl u))), .inr (.inr (.inr (.inl v))) => xfN (xcode (lg_cmp (lN u) (lN v))) (fun w => ih me cs (lv, .inl w :: st, env, r) k)
    | .inr (.inr (.inr (.inr (some i)))), .inr (.inr (.inr (.inl v))) => cond (xwide v) (xfN (xbc (Nat.mod v 4294967296)) (fun z => xcut env i z (fun e => ih me cs (lv, .inl 4294967295 :: st, e, r) k) (fun e => xcut e i (Nat.succ z) (fun e => ih me cs (lv, .inl 0 :: st, e, r) k) (fun e => ih me cs (lv, .inl 1 :: st, e, r) k)))) (ih me cs (lv, xTop :: st, env, r) k)
    | .inr (.inr (.inr _)), .inr (.inr (.inr _)) => ih me cs (lv, xTop :: st, env, r) k
    | _, _ => false
  | _ => false
noncomputable def xo_dup : xHd := fun ih me cs _ _ _ A k => match A with
  | (lv, v :: st, r) => cond (Nat.blt (xis v) 2) (ih me cs (lv, v :: v :: st, r) k) false
  | _ => false
noncomputable def xo_pop : xHd := fun ih me cs _ _ _ A k => match A with
  | (lv, v :: st, r) => cond (Nat.blt (xis v) 2) (ih me cs (lv, st, r) k) false
  | _ => false
noncomputable def xo_dupx1 : xHd := fun ih me cs _ _ _ A k => match A with
  | (lv, v :: w :: st, r) => cond (Bool.and (Nat.blt (xis v) 2) (Nat.blt (xis w) 2)) (ih me cs (lv, v :: w :: v :: st, r) k) false
  | _ => false
noncomputable def xo_dupx2 : xHd := fun ih me cs _ _ _ A k => match A with
  | (lv, v :: w :: z :: st, r) => cond (Bool.and (Nat.blt (xis v) 2) (Bool.and (Nat.blt (xis w) 2) (Nat.blt (xis z) 2))) (ih me cs (lv, v :: w :: z :: v :: st, r) k) false
  | _ => false
noncomputable def xo_dup2 : xHd := fun ih me cs _ _ _ A k => match A with
  | (lv, v :: w :: st, r) => cond (Bool.and (Nat.blt (xis v) 2) (Nat.blt (xis w) 2)) (ih me cs (lv, v :: w :: v :: w :: st, r) k) false
  | _ => false
noncomputable def xo_if : xHd := fun ih me cs a b _ A k => match A with
  | (lv, x :: st, env, r) => xcmp env a (fun e t => cond t (xjmp me.2.2.2.2.1 b (fun cs => ih me cs (lv, st, e, r) k)) (ih me cs (lv, st, e, r) k)) x (.inl 0)
  | _ => false
noncomputable def xo_icmp : xHd := fun ih me cs a b _ A k => match A with
  | (lv, y :: x :: st, env, r) => xcmp env a (fun e t => cond t (xjmp me.2.2.2.2.1 b (fun cs => ih me cs (lv, st, e, r) k)) (ih me cs (lv, st, e, r) k)) x y
  | _ => false
noncomputable def xo_goto : xHd := fun ih me _ _ b _ A k => xjmp me.2.2.2.2.1 b (fun cs => ih me cs A k)
/-- 0 ifnull, 1 ifnonnull -/
noncomputable def xo_ifnull : xHd := fun ih me cs a b _ A k => match A with
  | (lv, .inr (.inr (.inl none)) :: st, r) => cond (Nat.beq a 0) (xjmp me.2.2.2.2.1 b (fun cs => ih me cs (lv, st, r) k)) (ih me cs (lv, st, r) k)
  | (lv, .inr (.inr (.inl (some _))) :: st, r) => cond (Nat.beq a 0) (ih me cs (lv, st, r) k) (xjmp me.2.2.2.2.1 b (fun cs => ih me cs (lv, st, r) k))
  | _ => false
/-- a place in a table, or what else -/
noncomputable def xnthD (l : List Nat) (d : Nat) : Nat → Nat := List.rec (motive := fun _ => Nat → Nat) (fun _ => d) (fun a _ ih n => Nat.rec (motive := fun _ => Nat) a (fun m _ => ih m) n) l
theorem xnthD_eq (l : List Nat) (d : Nat) : ∀ n, xnthD l d n = l.getD n d := by
  induction l with
  | nil => intro n; rfl
  | cons a l ih =>
    intro n
    cases n with
    | zero => rfl
    | succ m => show xnthD l d m = _; rw [ih m]; rfl
noncomputable def xtab (a b : Nat) (l : List Nat) (z : Nat) : Nat := cond (Nat.blt z a) b (xnthD l b (Nat.sub z a))
noncomputable def xo_table : xHd := fun ih me _ a b l A k => match A with
  | (lv, v :: st, env, r) => match v with
    | .inl u => xfN (xtab a b l (xbc u)) (fun t => xjmp me.2.2.2.2.1 t (fun cs => ih me cs (lv, st, env, r) k))
    | .inr (.inl (some i)) => xcut env i a (fun e => xjmp me.2.2.2.2.1 b (fun cs => ih me cs (lv, st, e, r) k)) (fun e => xcut e i (Nat.add a (xlen l)) (fun e => xall e i (fun e u => xfN (xtab a b l (xbc u)) (fun t => xjmp me.2.2.2.2.1 t (fun cs => ih me cs (lv, st, e, r) k)))) (fun e => xjmp me.2.2.2.2.1 b (fun cs => ih me cs (lv, st, e, r) k)))
    | _ => false
  | _ => false
noncomputable def xo_getf : xHd := fun ih me cs a b _ A k => match A with
  | (lv, .inr (.inr (.inl (some o))) :: st, env, h, r) => xhget h o (fun c => cond (Nat.beq c.1 a) (xhget c.2.2 b (fun v => ih me cs (lv, v :: st, env, h, r) k)) false)
  | _ => false
/-- may a variable of this kind hold it? 0 int, 1 reference, 2 long, 3 boolean -/
def xfits (t : Nat) (v : xV) : Bool := match t, v with
  | 0, .inl _ => true
  | 0, .inr (.inl _) => true
  | 1, .inr (.inr (.inl _)) => true
  | 2, .inr (.inr (.inr _)) => true
  | 3, .inl u => Nat.blt u 2
  | _, _ => false
noncomputable def xo_putf : xHd := fun ih me cs a b l A k => match A with
  | (lv, v :: .inr (.inr (.inl (some o))) :: st, env, h, r) => cond (xfits (xnthD l 9 0) v) (xhget h o (fun c => cond (Nat.beq c.1 a) (xhset c.2.2 b v (fun fs => xhset h o (a, c.2.1, fs) (fun h => ih me cs (lv, st, env, h, r) k))) false)) false
  | _ => false
def xdef : Nat → xV
  | 1 => .inr (.inr (.inl none))
  | 2 => xLc 0
  | _ => .inl 0
/-- new: a the class, l the kinds of its fields -/
noncomputable def xo_new : xHd := fun ih me cs a _ l A k => match A with
  | (lv, st, env, h, n, uc, us) => xfN (Nat.succ uc) (fun uc => xfN (Nat.add us (xlen l)) (fun us => cond (Bool.and (Nat.ble uc me.2.2.2.2.2.cells) (Nat.ble us me.2.2.2.2.2.slots)) (xhpush h n (a, xlen l, [l.map xdef]) (fun h => xfN (Nat.succ n) (fun n' => ih me cs (lv, xRef n :: st, env, h, n', uc, us) k))) false))
/-- newarray: a the kind of array (100 + its place in the list of types), b the kind of its elements -/
noncomputable def xo_newa : xHd := fun ih me cs a b _ A k => match A with
  | (lv, .inl u :: st, env, h, n, uc, us) => xfN (Nat.succ uc) (fun uc => xfN (Nat.add us u) (fun us => cond (Bool.and (Nat.blt u 100000) (Bool.and (Nat.ble uc me.2.2.2.2.2.cells) (Nat.ble us me.2.2.2.2.2.slots))) (xrows (xdef b) u (fun fs => xhpush h n (a, u, fs) (fun h => xfN (Nat.succ n) (fun n' => ih me cs (lv, xRef n :: st, env, h, n', uc, us) k)))) false))
  | _ => false
/-- arraylength: b is 100 and how many types of arrays there are -/
noncomputable def xo_alen : xHd := fun ih me cs _ b _ A k => match A with
  | (lv, .inr (.inr (.inl (some o))) :: st, env, h, r) => xhget h o (fun c => cond (Bool.and (Nat.ble 100 c.1) (Nat.blt c.1 b)) (xfN c.2.1 (fun w => ih me cs (lv, .inl w :: st, env, h, r) k)) false)
  | _ => false
/-- array loads: a the kind of array -/
noncomputable def xo_ald : xHd := fun ih me cs a _ _ A k => match A with
  | (lv, i :: .inr (.inr (.inl (some o))) :: st, env, h, r) => xci env (fun e u => cond (Nat.blt u 2147483648) (xhget h o (fun c => cond (Nat.beq c.1 a) (xhget c.2.2 u (fun v => ih me cs (lv, v :: st, e, h, r) k)) false)) false) (xuld env h o a (fun v => ih me cs (lv, v :: st, env, h, r) k) i) i
  | _ => false
/-- array stores: a the kind of array, b the kind of its elements -/
noncomputable def xo_ast : xHd := fun ih me cs a b _ A k => match A with
  | (lv, v :: i :: .inr (.inr (.inl (some o))) :: st, env, h, r) => cond (xfits b v) (xci env (fun e u => cond (Nat.blt u 2147483648) (xhget h o (fun c => cond (Nat.beq c.1 a) (xhset c.2.2 u v (fun fs => xhset h o (a, c.2.1, fs) (fun h => ih me cs (lv, st, e, h, r) k))) false)) false) (xust env h o a v (ih me cs (lv, st, env, h, r) k) i) i) false
  | _ => false
/-- the arguments of a call off the stack -/
noncomputable def xpop (n : Nat) : List xV → List xV → (List xV → List xV → Bool) → Bool := Nat.rec (motive := fun _ => List xV → List xV → (List xV → List xV → Bool) → Bool) (fun st acc k => k acc st) (fun _ ih st acc k => match st with | v :: st => ih st (v :: acc) k | [] => false) n
noncomputable def xargs (vs : List xV) : Nat → (xL → Bool) → Bool := List.rec (motive := fun _ => Nat → (xL → Bool) → Bool) (fun _ k => k []) (fun v _ ih i k => xfN (cond (Nat.beq (xis v) 2) (Nat.succ (Nat.succ i)) (Nat.succ i)) (fun j => ih j (fun l => k ((i, v) :: l)))) vs
noncomputable def xcats (st : List xV) : Nat := List.rec (motive := fun _ => Nat) 0 (fun v _ ih => Nat.add (cond (Nat.beq (xis v) 2) 2 1) ih) st
/-- the receiver is of class number ci: t is ci + 1, or 0 where none is looked at -/
noncomputable def xrecv (h : xH) (vs : List xV) (t : Nat) : Bool := Nat.rec (motive := fun _ => Bool) true (fun ci _ => match vs with | .inr (.inr (.inl (some o))) :: _ => xhget h o (fun c => Nat.beq c.1 ci) | _ => false) t
/-- what goes on behind a call -/
noncomputable def xafter (ih : xIh) (me : xM) (cs : List xI) (lv : xL) (st : List xV) (uc us : Nat) (k : xK) : xK := fun e h n r => match r with
  | none => ih me cs (lv, st, e, h, n, uc, us) k
  | some v => ih me cs (lv, v :: st, e, h, n, uc, us) k
/-- a call: a how many arguments (the receiver counts), b which method; l: 0 the receiver's class + 1, 0 for none -/
noncomputable def xo_call (Ms : List xM) : xHd := fun ih me cs a b l A k => match A with
  | (lv, st, env, h, n, uc, us) => xnth Ms (fun mc => xpop a st [] (fun vs st => cond (Bool.and (Nat.ble (xcats st) 8) (Nat.ble (xcats vs) mc.2.2.1)) (xfN (Nat.add uc mc.2.2.2.2.2.cells) (fun uc => xfN (Nat.add us mc.2.2.2.2.2.slots) (fun us => cond (Bool.and (Nat.ble uc me.2.2.2.2.2.cells) (Nat.ble us me.2.2.2.2.2.slots)) (cond (xrecv h vs (xnthD l 0 0)) (xargs vs 0 (fun lv' => ih mc mc.2.2.2.2.1 (lv', [], env, h, n, 0, 0) (xafter ih me cs lv st uc us k))) false) false))) false)) b
noncomputable def xo_oinit : xHd := fun ih me cs _ _ _ A k => match A with
  | (lv, .inr (.inr (.inl (some _))) :: st, r) => cond (Nat.ble (Nat.add (xcats st) 12) me.2.2.2.2.2.locals) (ih me cs (lv, st, r) k) false
  | _ => false
noncomputable def xo_iret : xHd := fun _ _ _ a _ _ A k => match A with
  | (_, v :: [], env, h, n, _, _) => cond (xfits a v) (k env h n (some v)) false
  | _ => false
noncomputable def xo_ret : xHd := fun _ _ _ _ _ _ A k => match A with
  | (_, [], env, h, n, _, _) => k env h n none
  | _ => false
end
section
/-! what the abstract state says of the machine's -/
def xSR (ρ : Nat → Int32) (base : Nat) : List xV → List Value → Prop
  | [], [] => True
  | a :: l, v :: r => xg ρ base a v ∧ xSR ρ base l r
  | _, _ => False
def xLR (ρ : Nat → Int32) (base : Nat) : xL → List (Nat × Value) → Prop
  | [], [] => True
  | a :: l, v :: r => (a.1 = v.1 ∧ xg ρ base a.2 v.2) ∧ xLR ρ base l r
  | _, _ => False
theorem xSR_nil {ρ : Nat → Int32} {base : Nat} {vs : List Value} (h : xSR ρ base [] vs) : vs = [] := by
  cases vs with
  | nil => rfl
  | cons v r => exact h.elim
theorem xSR_cons {ρ : Nat → Int32} {base : Nat} {a : xV} {l : List xV} {vs : List Value} (h : xSR ρ base (a :: l) vs) : ∃ v r, vs = v :: r ∧ xg ρ base a v ∧ xSR ρ base l r := by
  cases vs with
  | nil => exact h.elim
  | cons v r => exact ⟨v, r, rfl, h.1, h.2⟩
theorem xSR_len {ρ : Nat → Int32} {base : Nat} : ∀ {l : List xV} {vs : List Value}, xSR ρ base l vs → vs.length = l.length := by
  intro l
  induction l with
  | nil => intro vs h; rw [xSR_nil h]; rfl
  | cons a l ih =>
    intro vs h
    obtain ⟨v, r, rfl, -, h2⟩ := xSR_cons h
    simp [ih h2]
theorem xSR_get {ρ : Nat → Int32} {base : Nat} : ∀ {l : List xV} {vs : List Value}, xSR ρ base l vs → ∀ {i : Nat} {x : xV}, l[i]? = some x → ∃ v, vs[i]? = some v ∧ xg ρ base x v := by
  intro l
  induction l with
  | nil => intro vs _ i x hx; simp at hx
  | cons a l ih =>
    intro vs h i x hx
    obtain ⟨v, r, rfl, h1, h2⟩ := xSR_cons h
    cases i with
    | zero => simp at hx; subst hx; exact ⟨v, rfl, h1⟩
    | succ i => exact ih h2 (i := i) (by simpa using hx)
theorem xSR_set {ρ : Nat → Int32} {base : Nat} : ∀ {l : List xV} {vs : List Value}, xSR ρ base l vs → ∀ {i : Nat} {x : xV} {v : Value}, xg ρ base x v → xSR ρ base (l.set i x) (vs.set i v) := by
  intro l
  induction l with
  | nil => intro vs h i x v _; rw [xSR_nil h]; exact trivial
  | cons a l ih =>
    intro vs h i x v hv
    obtain ⟨w, r, rfl, h1, h2⟩ := xSR_cons h
    cases i with
    | zero => exact ⟨hv, h2⟩
    | succ i => exact ⟨h1, ih h2 hv⟩
theorem xSR_rep {ρ : Nat → Int32} {base : Nat} {x : xV} {v : Value} (h : xg ρ base x v) : ∀ n : Nat, xSR ρ base (List.replicate n x) (List.replicate n v) := by
  intro n
  induction n with
  | zero => exact trivial
  | succ n ih => exact ⟨h, ih⟩
theorem xSR_app {ρ : Nat → Int32} {base : Nat} : ∀ {l l2 : List xV} {vs v2 : List Value}, xSR ρ base l vs → xSR ρ base l2 v2 → xSR ρ base (l ++ l2) (vs ++ v2) := by
  intro l
  induction l with
  | nil => intro l2 vs v2 h h2; rw [xSR_nil h]; exact h2
  | cons a l ih =>
    intro l2 vs v2 h h2
    obtain ⟨w, r, rfl, h1, h3⟩ := xSR_cons h
    exact ⟨h1, ih h3 h2⟩
theorem xSR_rev {ρ : Nat → Int32} {base : Nat} : ∀ {l : List xV} {vs : List Value}, xSR ρ base l vs → xSR ρ base l.reverse vs.reverse := by
  intro l
  induction l with
  | nil => intro vs h; rw [xSR_nil h]; exact trivial
  | cons a l ih =>
    intro vs h
    obtain ⟨w, r, rfl, h1, h3⟩ := xSR_cons h
    rw [List.reverse_cons, List.reverse_cons]
    exact xSR_app (ih h3) ⟨h1, trivial⟩
theorem xLR_nil {ρ : Nat → Int32} {base : Nat} {vs : List (Nat × Value)} (h : xLR ρ base [] vs) : vs = [] := by
  cases vs with
  | nil => rfl
  | cons v r => exact h.elim
theorem xLR_cons {ρ : Nat → Int32} {base : Nat} {a : Nat × xV} {l : xL} {vs : List (Nat × Value)} (h : xLR ρ base (a :: l) vs) : ∃ v r, vs = v :: r ∧ a.1 = v.1 ∧ xg ρ base a.2 v.2 ∧ xLR ρ base l r := by
  cases vs with
  | nil => exact h.elim
  | cons v r => exact ⟨v, r, rfl, h.1.1, h.1.2, h.2⟩
theorem xLR_get {ρ : Nat → Int32} {base : Nat} : ∀ {l : xL} {vs : List (Nat × Value)}, xLR ρ base l vs → ∀ {j i : Nat} {x : xV}, l[j]? = some (i, x) → ∃ v, vs[j]? = some (i, v) ∧ xg ρ base x v := by
  intro l
  induction l with
  | nil => intro vs _ j i x hx; simp at hx
  | cons a l ih =>
    intro vs h j i x hx
    obtain ⟨v, r, rfl, h0, h1, h2⟩ := xLR_cons h
    cases j with
    | zero =>
      simp at hx
      subst hx
      exact ⟨v.2, by show some v = some (i, v.2); rw [show i = v.1 from h0], h1⟩
    | succ j => exact ih h2 (j := j) (by simpa using hx)
theorem xbq (a b : Nat) : Nat.beq a b = (a == b) := by rw [Bool.eq_iff_iff]; simp
theorem xcat2 {ρ : Nat → Int32} {base : Nat} {x : xV} {v : Value} (h : xg ρ base x v) : Nat.beq (xis x) 2 = (v.category == 2) := by
  rw [xg_cat h]
  by_cases e : xis x = 2
  · simp [e]
  · rw [xbq]
    simp [e]
theorem xLR_fil {ρ : Nat → Int32} {base i : Nat} : ∀ {l : xL} {vs : List (Nat × Value)}, xLR ρ base l vs → xLR ρ base (l.filter (fun q => !xdrop i 0 q)) (vs.filter (fun q => !(q.1 == i) && !(q.1 + 1 == i && q.2.category == 2))) := by
  intro l
  induction l with
  | nil => intro vs h; rw [xLR_nil h]; exact trivial
  | cons a l ih =>
    intro vs h
    obtain ⟨v, r, rfl, h0, h1, h2⟩ := xLR_cons h
    have e : (!xdrop i 0 a) = (!(v.1 == i) && !(v.1 + 1 == i && v.2.category == 2)) := by
      unfold xdrop
      rw [xcat2 h1, h0]
      simp only [xbq]
      show (!((v.1 == i) || ((v.1 + 1 == i) && (v.2.category == 2) || (false && (v.1 == i + 1))))) = _
      cases (v.1 == i) <;> cases (v.1 + 1 == i) <;> cases (v.2.category == 2) <;> rfl
    rw [List.filter_cons, List.filter_cons, ← e]
    by_cases c : (!xdrop i 0 a) = true
    · rw [if_pos c, if_pos c]
      exact ⟨⟨h0, h1⟩, ih h2⟩
    · rw [if_neg c, if_neg c]
      exact ih h2
theorem xLR_filR {ρ : Nat → Int32} {base i : Nat} : ∀ {l : xL} {vs : List (Nat × Value)}, xLR ρ base l vs → xLR ρ base (l.filter (fun q => !xdrop i 1 q)) (vs.filter (fun q => !(q.1 == i) && !(q.1 + 1 == i && q.2.category == 2))) := by
  intro l vs h
  have e : (fun q => !xdrop i 1 q) = (fun q => !xdrop i 0 q) := by
    funext q
    rfl
  rw [e]
  exact xLR_fil h
theorem xLR_filL {ρ : Nat → Int32} {base i : Nat} : ∀ {l : xL} {vs : List (Nat × Value)}, xLR ρ base l vs → xLR ρ base (l.filter (fun q => !xdrop i 2 q)) (vs.filter (fun q => !(q.1 == i) && (!(q.1 == i + 1) && !(q.1 + 1 == i && q.2.category == 2)))) := by
  intro l
  induction l with
  | nil => intro vs h; rw [xLR_nil h]; exact trivial
  | cons a l ih =>
    intro vs h
    obtain ⟨v, r, rfl, h0, h1, h2⟩ := xLR_cons h
    have e : (!xdrop i 2 a) = (!(v.1 == i) && (!(v.1 == i + 1) && !(v.1 + 1 == i && v.2.category == 2))) := by
      unfold xdrop
      rw [xcat2 h1, h0]
      simp only [xbq]
      show (!((v.1 == i) || ((v.1 + 1 == i) && (v.2.category == 2) || (true && (v.1 == i + 1))))) = _
      cases (v.1 == i) <;> cases (v.1 + 1 == i) <;> cases (v.2.category == 2) <;> cases (v.1 == i + 1) <;> rfl
    rw [List.filter_cons, List.filter_cons, ← e]
    by_cases c : (!xdrop i 2 a) = true
    · rw [if_pos c, if_pos c]
      exact ⟨⟨h0, h1⟩, ih h2⟩
    · rw [if_neg c, if_neg c]
      exact ih h2
/-- the places of a cell -/
def xFR (ρ : Nat → Int32) (base n : Nat) (rows : List (List xV)) (fs : List Value) : Prop := fs.length = n ∧ ∀ i x, xat rows i = some x → ∃ v, fs[i]? = some v ∧ xg ρ base x v
theorem xFR_set {ρ : Nat → Int32} {base n : Nat} {rows rows' : List (List xV)} {fs : List Value} (h : xFR ρ base n rows fs) {i : Nat} {x : xV} {v : Value} (h0 : ∃ c0, xat rows i = some c0) (h1 : xat rows' i = some x) (h2 : ∀ b, b ≠ i → xat rows' b = xat rows b) (hv : xg ρ base x v) : i < fs.length ∧ xFR ρ base n rows' (fs.set i v) := by
  obtain ⟨c0, hc0⟩ := h0
  obtain ⟨v0, hv0, -⟩ := h.2 i c0 hc0
  have hi : i < fs.length := (List.getElem?_eq_some_iff.mp hv0).1
  refine ⟨hi, by rw [List.length_set]; exact h.1, fun j y hy => ?_⟩
  by_cases e : j = i
  · subst e
    rw [h1] at hy
    cases hy
    exact ⟨v, by simp [hi], hv⟩
  · rw [h2 j e] at hy
    obtain ⟨w, hw, hg⟩ := h.2 j y hy
    exact ⟨w, by rw [List.getElem?_set, if_neg (fun q => e q.symm)]; exact hw, hg⟩
theorem xFR_rep {ρ : Nat → Int32} {base n : Nat} {rows : List (List xV)} {x : xV} {v : Value} (h : ∀ i y, xat rows i = some y → i < n ∧ y = x) (hv : xg ρ base x v) : xFR ρ base n rows (List.replicate n v) := by
  refine ⟨List.length_replicate, fun i y hy => ?_⟩
  obtain ⟨h1, rfl⟩ := h i y hy
  exact ⟨v, by rw [List.getElem?_replicate, if_pos h1], hv⟩
theorem xFR_one {ρ : Nat → Int32} {base : Nat} {r : List xV} {fs : List Value} (h : xSR ρ base r fs) (hr : r.length ≤ 64) : xFR ρ base r.length [r] fs := ⟨xSR_len h, fun i x hx => xSR_get h (xat_one hx hr)⟩
/-- a cell, the heap, the classes of arrays -/
def xCR (ρ : Nat → Int32) (base : Nat) (D : va_G) (dA : Nat → ClassId) (tys : List FieldType) (cl : List vw_C) (a : Nat) (c : xC) (H : Heap) : Prop :=
  ∃ fs : List Value, xFR ρ base c.2.1 c.2.2 fs ∧ ((c.1 < 100 ∧ va_at D cl (base + a, .inr (c.1, fs)) H) ∨ (100 ≤ c.1 ∧ H[base + a]? = some (arrV (dA (c.1 - 100)) fs.length (vp_V fs)) ∧ ∃ ty, tys[c.1 - 100]? = some ty ∧ ∀ v ∈ fs, fits ty v = true))
def xHR (ρ : Nat → Int32) (base : Nat) (F : Nat → Prop) (D : va_G) (dA : Nat → ClassId) (tys : List FieldType) (cl : List vw_C) (h : xH) (n : Nat) (H : Heap) : Prop := (H.size = base + n ∧ (∀ a c, xat h a = some c → F (base + a)) ∧ (∀ q, base + n ≤ q → F q) ∧ ∀ q, F q → dA 5000 ≤ q) ∧ ∀ a c, xat h a = some c → xCR ρ base D dA tys cl a c H
/-- int[][] is the class of arrays over int[] -/
def xAO (U : State) : Prop := (Jvm.Cond.arrayOver (.array .int)).before #[] U = true
theorem xAO.use {A : Array Value} {U : State} (h : xAO U) : (Jvm.Cond.arrayOver (.array .int)).before A U = true := h
theorem xAO.moved {u U : State} (hvm : u.vm.Alike U.vm) (h : xAO u) : xAO U := by
  obtain ⟨comp, c, k, h1, h2, h3, h4, h5⟩ := arrayOverA_spec h
  obtain ⟨k', hk', he⟩ := hvm.2.2 _ _ h3
  have hi : (U.vm.classes.findIdx? fun (x : Class) => match x.kind with | .array component _ => component == comp | _ => false) = some c := by
    rw [hvm.findIdx?_eq _ (fun _ => rfl)]
    exact h2
  have hkind : k'.kind = .array comp (.array .int) := by rw [he]; exact h4
  have f1 : U.vm.findClass (FieldType.array .int).toString = some comp := by rw [hvm.findClass]; exact h1
  have f2 : U.vm.findClass ("[" ++ (FieldType.array .int).toString) = some c := by rw [hvm.findClass]; exact h5
  unfold xAO Cond.before Cond.holds
  simp only [Cond.value]
  rw [f1, Option.bind_some]
  refine (congrArg (fun o : Option Nat => (o.bind (fun c => (U.vm.classes[c]?).map fun (k : Class) => match k.kind with | .array _ ty => decide (ty = FieldType.array .int) && decide (U.vm.findClass ("[" ++ (FieldType.array .int).toString) = some c) | _ => false) == some true)) hi).trans ?_
  simp [hk', hkind, f2]
/-- the String constants, where they lie (the table of the arrays' classes keeps it from 1000 on), all of them below dA 5000 -/
def xsl : List Nat := [5, 4, 4, 5, 4, 4, 5, 7, 4, 4, 4]
def xsb : List (List Int32) := [[115, 104, 97, 114, 101], [111, 112, 101, 110], [115, 104, 101, 100], [98, 105, 114, 116, 104], [118, 111, 116, 101], [112, 97, 115, 115], [97, 99, 115, 110, 104], [107, 109, 103, 108, 102, 112, 104], [112, 111, 117, 104], [121, 110, 101, 104], [97, 99, 115, 104]]
def xst : List String := ["share", "op" ++ "en", "shed", "birth", "vote", "pass", "acsnh", "kmglfph", "pouh", "yneh", "acsh"]
def xKS (dA : Nat → ClassId) (U : State) : Prop := vk_S 11 xsl xsb (fun i => dA (1000 + i)) (fun i => dA (2000 + i)) (fun q => dA 5000 ≤ q) U U.heap ∧ (∀ i, i < 11 → vk_R "AcidCity$Tape" (98 + 2 * i) (xst.getD i "") (dA (1000 + i)) U) ∧ va_Z "java/lang/String" "COMPACT_STRINGS" "Z" (.int 1) (fun q => dA 5000 ≤ q) U U.heap
def xKA (dA : Nat → ClassId) (tys : List FieldType) (U : State) : Prop := (∀ i ty, tys[i]? = some ty → ArrOfT U (dA i) ty ∧ U.vm.findClass ("[" ++ ty.toString) = some (dA i)) ∧ xAO U ∧ xKS dA U
theorem xKA.warm {dA : Nat → ClassId} {tys : List FieldType} {u U : State} (hW : u.WarmedH U.vm) (hq : ∀ a : Nat, a < u.heap.size → ¬ dA 5000 ≤ a → U.heap[a]? = u.heap[a]?) (h : xKA dA tys u) : xKA dA tys U := ⟨fun i ty e => ⟨arrOfT_moved hW.alike (h.1 i ty e).1, by rw [hW.alike.findClass]; exact (h.1 i ty e).2⟩, h.2.1.moved hW.alike, (h.2.2.1.moved hW.alike).kept hq, fun i hi => (h.2.2.2.1 i hi).warm hW, (h.2.2.2.2.moved hW.alike).kept hq⟩
theorem xKA.same {dA : Nat → ClassId} {tys : List FieldType} {u U : State} (hv : U.vm = u.vm) (hq : U.heap = u.heap) (h : xKA dA tys u) : xKA dA tys U := by
  have ha : u.vm.Alike U.vm := by rw [hv]; exact Vm.Alike.refl _
  refine ⟨fun i ty e => ⟨arrOfT_moved ha (h.1 i ty e).1, by rw [ha.findClass]; exact (h.1 i ty e).2⟩, h.2.1.moved ha, ?_, fun i hi => (h.2.2.2.1 i hi).same hv, ?_⟩
  · rw [hq]; exact h.2.2.1.moved ha
  · rw [hq]; exact h.2.2.2.2.moved ha
theorem xCR.kept {ρ : Nat → Int32} {base : Nat} {D : va_G} {dA : Nat → ClassId} {tys : List FieldType} {cl : List vw_C} {a : Nat} {c : xC} {H H1 : Heap} (h : xCR ρ base D dA tys cl a c H) (e : H1[base + a]? = H[base + a]?) : xCR ρ base D dA tys cl a c H1 := by
  obtain ⟨fs, h1, h2⟩ := h
  refine ⟨fs, h1, ?_⟩
  rcases h2 with ⟨h3, h4⟩ | ⟨h3, h4⟩
  · exact Or.inl ⟨h3, h4.kept e⟩
  · exact Or.inr ⟨h3, e.trans h4.1, h4.2⟩
theorem xCR.lt {ρ : Nat → Int32} {base : Nat} {D : va_G} {dA : Nat → ClassId} {tys : List FieldType} {cl : List vw_C} {a : Nat} {c : xC} {H : Heap} (h : xCR ρ base D dA tys cl a c H) : base + a < H.size := by
  obtain ⟨fs, h1, h2⟩ := h
  rcases h2 with ⟨h3, h4⟩ | ⟨h3, h4⟩
  · exact h4.lt
  · exact (Array.getElem?_eq_some_iff.mp h4.1).1
theorem xHR.put {ρ : Nat → Int32} {base : Nat} {F : Nat → Prop} {D : va_G} {dA : Nat → ClassId} {tys : List FieldType} {cl : List vw_C} {h h' : xH} {n : Nat} {H H1 : Heap} {a : Nat} {c : xC} (hh : xHR ρ base F D dA tys cl h n H) (hF : F (base + a)) (hs : H1.size = H.size) (ho : ∀ q, q ≠ base + a → H1[q]? = H[q]?) (hc : xCR ρ base D dA tys cl a c H1) (e1 : xat h' a = some c) (e2 : ∀ b, b ≠ a → xat h' b = xat h b) : xHR ρ base F D dA tys cl h' n H1 := by
  refine ⟨⟨hs.trans hh.1.1, fun b d hb => ?_, hh.1.2.2⟩, fun b d hb => ?_⟩
  · by_cases e : b = a
    · subst e; exact hF
    · rw [e2 b e] at hb; exact hh.1.2.1 b d hb
  · by_cases e : b = a
    · subst e
      rw [e1] at hb
      cases hb
      exact hc
    · rw [e2 b e] at hb
      exact (hh.2 b d hb).kept (ho _ (by omega))
theorem xHR.push {ρ : Nat → Int32} {base : Nat} {F : Nat → Prop} {D : va_G} {dA : Nat → ClassId} {tys : List FieldType} {cl : List vw_C} {h h' : xH} {n : Nat} {H H1 : Heap} {c : xC} (hh : xHR ρ base F D dA tys cl h n H) (hs : H1.size = H.size + 1) (ho : ∀ q, q < H.size → H1[q]? = H[q]?) (hc : xCR ρ base D dA tys cl n c H1) (e1 : xat h' n = some c) (e2 : ∀ b, b ≠ n → xat h' b = xat h b) : xHR ρ base F D dA tys cl h' (n + 1) H1 := by
  refine ⟨⟨by rw [hs, hh.1.1]; omega, fun b d hb => ?_, fun q hq => hh.1.2.2.1 q (by omega), hh.1.2.2.2⟩, fun b d hb => ?_⟩
  · by_cases e : b = n
    · subst e; exact hh.1.2.2.1 _ (Nat.le_refl _)
    · rw [e2 b e] at hb; exact hh.1.2.1 b d hb
  · by_cases e : b = n
    · subst e
      rw [e1] at hb
      cases hb
      exact hc
    · rw [e2 b e] at hb
      have h3 := hh.2 b d hb
      exact h3.kept (ho _ h3.lt)
theorem xSpush {F : Nat → Prop} {H0 H H1 : Heap} {locs : List Loc} (h : va_S F H0 H locs) (hs : H.size ≤ H1.size) (ho : ∀ q, q < H.size → H1[q]? = H[q]?) : va_S F H0 H1 locs := ⟨Nat.le_trans h.1 hs, fun q h1 h2 => (ho q (Nat.lt_of_lt_of_le h1 h.1)).trans (h.2.1 q h1 h2), h.2.2⟩
theorem xSput {F : Nat → Prop} {H0 H H1 : Heap} {locs locs' : List Loc} {a : Nat} (h : va_S F H0 H locs) (hF : F a) (hs : H1.size = H.size) (ho : ∀ q, q ≠ a → H1[q]? = H[q]?) (hl : ∀ l ∈ locs', l.base = a) : va_S F H0 H1 (locs ++ locs') := ⟨by rw [hs]; exact h.1, fun q h1 h2 => (ho q (fun e => h2 (by rw [e]; exact hF))).trans (h.2.1 q h1 h2), fun l hm => (List.mem_append.mp hm).elim (h.2.2 l) (fun q => by rw [hl l q]; exact hF)⟩
end
section
/-! the machine's side: what holds within a method, and what a state of the abstract machine that is explored to its ends gives -/
def xNw : Jvm.Cond → Bool
  | .fieldLinkNest .. => true
  | .methodLinkNest .. => true
  | _ => false
theorem xNw_warm {w : Jvm.Cond} (h : xNw w = true) {s U : State} (hW : s.WarmedH U.vm) (hz : va_Nw w s) : va_Nw w U := by
  cases w <;> first | exact va_Nw.warmF hW hz | exact va_Nw.warmM hW hz | exact absurd h (by simp [xNw])
theorem xNw_on {w : Jvm.Cond} (h : xNw w = true) : w.onTables = true := by
  cases w <;> first | rfl | exact absurd h (by simp [xNw])
abbrev xR (me : xM) : Room := me.2.2.2.2.2
abbrev xcd (me : xM) : List xI := me.2.2.2.2.1
def xWs (Ts : List Jvm.Cond) (me : xM) : List Jvm.Cond := Jvm.Cond.code me.1 me.2.1 me.2.2.1 me.2.2.2.1 :: Ts
def xCx (Ts Ns : List Jvm.Cond) (cl : List vw_C) (tys : List FieldType) (D : va_G) (dA : Nat → ClassId) (p : Program) (s : State) (m : MethodId) (args : Array Value) (meth : Method) (c : Code) (me : xM) : Prop :=
  p.tables.exec = Jvm.exec ∧ c.code = me.2.1 ∧ c.maxLocals = me.2.2.1 ∧ meth.sig.returnType = me.2.2.2.1 ∧ meth.locks = false ∧ meth.name = me.1.name ∧ s.vm.findClass me.1.cls = some m.cls ∧ (∀ w ∈ xWs Ts me, w.before args s = true) ∧ (∀ w ∈ Ns, va_Nw w s) ∧ va_K D cl [] s ∧ xKA dA tys s
def xIn (ρ : Nat → Int32) (base : Nat) (F : Nat → Prop) (D : va_G) (dA : Nat → ClassId) (tys : List FieldType) (cl : List vw_C) (me : xM) (A : xA) (H : Heap) (ls : Array Slot) (stc : List Value) : Prop :=
  xρ ρ A.2.2.1 ∧ (∃ lvc, lv_has ls me.2.2.1 lvc ∧ xLR ρ base A.1 lvc) ∧ xSR ρ base A.2.1 stc ∧ xHR ρ base F D dA tys cl A.2.2.2.1 A.2.2.2.2.1 H ∧ A.2.2.2.2.2.1 ≤ (xR me).cells ∧ A.2.2.2.2.2.2 ≤ (xR me).slots
def xQ (ρ : Nat → Int32) (base : Nat) (F : Nat → Prop) (D : va_G) (dA : Nat → ClassId) (tys : List FieldType) (cl : List vw_C) (k : xK) : Array Value → State → Outcome → State → Prop := fun _ st o t => va_F F st t ∧
  ∃ (env : xE) (h : xH) (n : Nat) (r : Option xV), k env h n r = true ∧ xρ ρ env ∧ xHR ρ base F D dA tys cl h n t.heap ∧ ((r = none ∧ o = .returned none) ∨ ∃ (x : xV) (v : Value), r = some x ∧ xg ρ base x v ∧ o = .returned (some v))
def xGd (ρ : Nat → Int32) (base : Nat) (F : Nat → Prop) (Ts Ns : List Jvm.Cond) (cl : List vw_C) (tys : List FieldType) (D : va_G) (dA : Nat → ClassId) (la : Launch) (me : xM) (pc : Nat) (A : xA) (k : xK) : Prop :=
  ∀ (p : Program) (e : Env) (s : State) (m : MethodId) (args : Array Value) (below : List Frame) (meth : Method) (c : Code), xCx Ts Ns cl tys D dA p s m args meth c me → ∀ (H : Heap) (locs : List Loc) (ls : Array Slot) (stc : List Value), xIn ρ base F D dA tys cl me A H ls stc → va_S F s.heap H locs →
    W p la e (xR me) s m args below meth c H locs A.2.2.2.2.2.1 A.2.2.2.2.2.2 (MQ below (xQ ρ base F D dA tys cl k) args s (xR me).cells (xR me).slots F) (F0 m pc ls stc)
def xatp (pc : Nat) (cs : List xI) : Prop := ∀ i r, cs = i :: r → i.1 = pc
/-- a word of the tables by its place -/
def xw (Ts : List Jvm.Cond) (i : Nat) (w : Jvm.Cond) : Bool := decide (Ts[i]? = some w)
theorem xw_of {Ts : List Jvm.Cond} {i : Nat} {w : Jvm.Cond} (h : xw Ts i w = true) : w ∈ Ts := List.mem_of_getElem? (of_decide_eq_true h)
section XL
variable {ρ : Nat → Int32} {base : Nat} {F : Nat → Prop} {Ts Ns : List Jvm.Cond} {cl : List vw_C} {tys : List FieldType} {D : va_G} {dA : Nat → ClassId} {la : Launch} {okc : xM → List xI → Bool} {Ms : List xM} {ih : xIh} {me : xM} {cs : List xI} {a b : Nat} {l : List Nat} {A : xA} {k : xK} {pc : Nat}
/-- what the exploration by 'ih' gives -/
def xIH (ρ : Nat → Int32) (base : Nat) (F : Nat → Prop) (Ts Ns : List Jvm.Cond) (cl : List vw_C) (tys : List FieldType) (D : va_G) (dA : Nat → ClassId) (la : Launch) (okc : xM → List xI → Bool) (Ms : List xM) (ih : xIh) : Prop :=
  ∀ (me : xM) (cs : List xI) (A : xA) (k : xK) (pc : Nat), me ∈ Ms → ih me cs A k = true → okc me cs = true → xatp pc cs → xGd ρ base F Ts Ns cl tys D dA la me pc A k
theorem xl_iconst {i : Int} (IH : xIH ρ base F Ts Ns cl tys D dA la okc Ms ih) (hme : me ∈ Ms) (hok : okc me cs = true) (hn : xatp (pc + 1) cs) (hd : decode me.2.1 pc = .ok (.iconst i, 1)) (hv : Int32.ofInt i = nI a) (h : xo_iconst ih me cs a b l A k = true) : xGd ρ base F Ts Ns cl tys D dA la me pc A k := by
  obtain ⟨lv, st, r⟩ := A
  intro p e s m args below meth c C H locs ls stc hI hL
  have g := IH me cs (lv, .inl a :: st, r) k (pc + 1) hme h hok hn p e s m args below meth c C H locs ls (.int (nI a) :: stc) ⟨hI.1, hI.2.1, ⟨rfl, hI.2.2.1⟩, hI.2.2.2⟩ hL
  exact lv_iconst C.1 C.2.1 hd hv g
theorem xl_bipush {i : Int} (IH : xIH ρ base F Ts Ns cl tys D dA la okc Ms ih) (hme : me ∈ Ms) (hok : okc me cs = true) (hn : xatp (pc + 2) cs) (hd : decode me.2.1 pc = .ok (.bipush i, 2)) (hv : (Int8.ofInt i).toInt32 = nI a) (h : xo_iconst ih me cs a b l A k = true) : xGd ρ base F Ts Ns cl tys D dA la me pc A k := by
  obtain ⟨lv, st, r⟩ := A
  intro p e s m args below meth c C H locs ls stc hI hL
  have g := IH me cs (lv, .inl a :: st, r) k (pc + 2) hme h hok hn p e s m args below meth c C H locs ls (.int (nI a) :: stc) ⟨hI.1, hI.2.1, ⟨rfl, hI.2.2.1⟩, hI.2.2.2⟩ hL
  exact lv_bipush C.1 C.2.1 hd hv g
theorem xl_sipush {i : Int} (IH : xIH ρ base F Ts Ns cl tys D dA la okc Ms ih) (hme : me ∈ Ms) (hok : okc me cs = true) (hn : xatp (pc + 3) cs) (hd : decode me.2.1 pc = .ok (.sipush i, 3)) (hv : (Int16.ofInt i).toInt32 = nI a) (h : xo_iconst ih me cs a b l A k = true) : xGd ρ base F Ts Ns cl tys D dA la me pc A k := by
  obtain ⟨lv, st, r⟩ := A
  intro p e s m args below meth c C H locs ls stc hI hL
  have g := IH me cs (lv, .inl a :: st, r) k (pc + 3) hme h hok hn p e s m args below meth c C H locs ls (.int (nI a) :: stc) ⟨hI.1, hI.2.1, ⟨rfl, hI.2.2.1⟩, hI.2.2.2⟩ hL
  exact lv_sipush C.1 C.2.1 hd hv g
theorem xl_ldc {i : Nat} (IH : xIH ρ base F Ts Ns cl tys D dA la okc Ms ih) (hme : me ∈ Ms) (hok : okc me cs = true) (hn : xatp (pc + 2) cs) (hd : decode me.2.1 pc = .ok (.ldc i, 2)) (hv : Jvm.Cond.constant me.1.cls i (nI a) ∈ Ts) (h : xo_iconst ih me cs a b l A k = true) : xGd ρ base F Ts Ns cl tys D dA la me pc A k := by
  obtain ⟨lv, st, r⟩ := A
  intro p e s m args below meth c C H locs ls stc hI hL
  have g := IH me cs (lv, .inl a :: st, r) k (pc + 2) hme h hok hn p e s m args below meth c C H locs ls (.int (nI a) :: stc) ⟨hI.1, hI.2.1, ⟨rfl, hI.2.2.1⟩, hI.2.2.2⟩ hL
  obtain ⟨hx, hb, -, -, -, -, hown, hts, -⟩ := C
  exact lv_ldc hx hb hown (hts _ (List.mem_cons_of_mem _ hv)) hd g
theorem xl_ldcw {i : Nat} (IH : xIH ρ base F Ts Ns cl tys D dA la okc Ms ih) (hme : me ∈ Ms) (hok : okc me cs = true) (hn : xatp (pc + 3) cs) (hd : decode me.2.1 pc = .ok (.ldc_w i, 3)) (hv : Jvm.Cond.constant me.1.cls i (nI a) ∈ Ts) (h : xo_iconst ih me cs a b l A k = true) : xGd ρ base F Ts Ns cl tys D dA la me pc A k := by
  obtain ⟨lv, st, r⟩ := A
  intro p e s m args below meth c C H locs ls stc hI hL
  have g := IH me cs (lv, .inl a :: st, r) k (pc + 3) hme h hok hn p e s m args below meth c C H locs ls (.int (nI a) :: stc) ⟨hI.1, hI.2.1, ⟨rfl, hI.2.2.1⟩, hI.2.2.2⟩ hL
  obtain ⟨hx, hb, _, _, _, _, hown, hts, _⟩ := C
  intro T hT S
  obtain ⟨t, a1, b1⟩ := g T hT S
  exact ⟨t, va_ldcwI S hx hown (hts _ (List.mem_cons_of_mem _ hv)) (g := F0 m pc ls stc) rfl (by rw [hb]; exact hd) t a1, b1⟩
theorem xl_lconst {i : Fin 2} (IH : xIH ρ base F Ts Ns cl tys D dA la okc Ms ih) (hme : me ∈ Ms) (hok : okc me cs = true) (hn : xatp (pc + 1) cs) (hd : decode me.2.1 pc = .ok (.lconst i, 1)) (hv : Int64.ofNat (i : Nat) = lN a) (h : xo_lconst ih me cs a b l A k = true) : xGd ρ base F Ts Ns cl tys D dA la me pc A k := by
  obtain ⟨lv, st, r⟩ := A
  intro p e s m args below meth c C H locs ls stc hI hL
  have g := IH me cs (lv, xLc a :: st, r) k (pc + 1) hme h hok hn p e s m args below meth c C H locs ls (.long (lN a) :: stc) ⟨hI.1, hI.2.1, ⟨rfl, hI.2.2.1⟩, hI.2.2.2⟩ hL
  exact lv_lconst C.1 C.2.1 hd hv g
theorem xl_ldc2 {i : Nat} (IH : xIH ρ base F Ts Ns cl tys D dA la okc Ms ih) (hme : me ∈ Ms) (hok : okc me cs = true) (hn : xatp (pc + 3) cs) (hd : decode me.2.1 pc = .ok (.ldc2_w i, 3)) (hv : Jvm.Cond.constantLong me.1.cls i (lN a) ∈ Ts) (h : xo_lconst ih me cs a b l A k = true) : xGd ρ base F Ts Ns cl tys D dA la me pc A k := by
  obtain ⟨lv, st, r⟩ := A
  intro p e s m args below meth c C H locs ls stc hI hL
  have g := IH me cs (lv, xLc a :: st, r) k (pc + 3) hme h hok hn p e s m args below meth c C H locs ls (.long (lN a) :: stc) ⟨hI.1, hI.2.1, ⟨rfl, hI.2.2.1⟩, hI.2.2.2⟩ hL
  obtain ⟨hx, hb, -, -, -, -, hown, hts, -⟩ := C
  exact lv_ldc2 hx hb hown (hts _ (List.mem_cons_of_mem _ hv)) hd g
theorem xl_null (IH : xIH ρ base F Ts Ns cl tys D dA la okc Ms ih) (hme : me ∈ Ms) (hok : okc me cs = true) (hn : xatp (pc + 1) cs) (hd : decode me.2.1 pc = .ok (.aconst_null, 1)) (h : xo_null ih me cs a b l A k = true) : xGd ρ base F Ts Ns cl tys D dA la me pc A k := by
  obtain ⟨lv, st, r⟩ := A
  intro p e s m args below meth c C H locs ls stc hI hL
  have g := IH me cs (lv, .inr (.inr (.inl none)) :: st, r) k (pc + 1) hme h hok hn p e s m args below meth c C H locs ls (.null :: stc) ⟨hI.1, hI.2.1, ⟨rfl, hI.2.2.1⟩, hI.2.2.2⟩ hL
  exact lv_null C.1 C.2.1 hd g
/-- a load: the local's value, its kind, and the goal behind it -/
theorem xl_load0 {len : Nat} (IH : xIH ρ base F Ts Ns cl tys D dA la okc Ms ih) (hme : me ∈ Ms) (hok : okc me cs = true) (hn : xatp (pc + len) cs) (h : xo_load ih me cs a b l A k = true)
    {p : Program} {e : Env} {s : State} {m : MethodId} {args : Array Value} {below : List Frame} {meth : Method} {c : Code} (C : xCx Ts Ns cl tys D dA p s m args meth c me) {H : Heap} {locs : List Loc} {ls : Array Slot} {stc : List Value} (hI : xIn ρ base F D dA tys cl me A H ls stc) (hL : va_S F s.heap H locs) :
    ∃ (x : xV) (v : Value), xis x = b ∧ xg ρ base x v ∧ ls[a]? = some (.val v) ∧ W p la e (xR me) s m args below meth c H locs A.2.2.2.2.2.1 A.2.2.2.2.2.2 (MQ below (xQ ρ base F D dA tys cl k) args s (xR me).cells (xR me).slots F) (F0 m (pc + len) ls (v :: stc)) := by
  obtain ⟨lv, st, r⟩ := A
  unfold xo_load at h
  obtain ⟨j, x, hx, h⟩ := xfind_of h
  obtain ⟨hb, h⟩ := xcond h
  obtain ⟨lvc, hl, hlr⟩ := hI.2.1
  obtain ⟨v, hv, hg⟩ := xLR_get hlr hx
  exact ⟨x, v, Nat.eq_of_beq_eq_true hb, hg, lv_at hl j hv, IH me cs (lv, x :: st, r) k (pc + len) hme h hok hn p e s m args below meth c C H locs ls (v :: stc) ⟨hI.1, hI.2.1, ⟨hg, hI.2.2.1⟩, hI.2.2.2⟩ hL⟩
theorem xl_iload {i : Nat} (IH : xIH ρ base F Ts Ns cl tys D dA la okc Ms ih) (hme : me ∈ Ms) (hok : okc me cs = true) (hn : xatp (pc + 2) cs) (hd : decode me.2.1 pc = .ok (.iload i, 2)) (hi : i = a) (hb : b = 0) (h : xo_load ih me cs a b l A k = true) : xGd ρ base F Ts Ns cl tys D dA la me pc A k := by
  subst hi; subst hb
  intro p e s m args below meth c C H locs ls stc hI hL
  obtain ⟨x, v, h1, h2, h3, g⟩ := xl_load0 IH hme hok hn h C hI hL
  obtain ⟨z, rfl⟩ := xg_int h2 h1
  exact lv_iload C.1 C.2.1 hd h3 g
theorem xl_iload_n {i : Fin 4} (IH : xIH ρ base F Ts Ns cl tys D dA la okc Ms ih) (hme : me ∈ Ms) (hok : okc me cs = true) (hn : xatp (pc + 1) cs) (hd : decode me.2.1 pc = .ok (.iload_n i, 1)) (hi : (i : Nat) = a) (hb : b = 0) (h : xo_load ih me cs a b l A k = true) : xGd ρ base F Ts Ns cl tys D dA la me pc A k := by
  subst hb
  intro p e s m args below meth c C H locs ls stc hI hL
  obtain ⟨x, v, h1, h2, h3, g⟩ := xl_load0 IH hme hok hn h C hI hL
  obtain ⟨z, rfl⟩ := xg_int h2 h1
  exact lv_iload_n C.1 C.2.1 hd hi h3 g
theorem xl_lload {i : Nat} (IH : xIH ρ base F Ts Ns cl tys D dA la okc Ms ih) (hme : me ∈ Ms) (hok : okc me cs = true) (hn : xatp (pc + 2) cs) (hd : decode me.2.1 pc = .ok (.lload i, 2)) (hi : i = a) (hb : b = 2) (h : xo_load ih me cs a b l A k = true) : xGd ρ base F Ts Ns cl tys D dA la me pc A k := by
  subst hi; subst hb
  intro p e s m args below meth c C H locs ls stc hI hL
  obtain ⟨x, v, h1, h2, h3, g⟩ := xl_load0 IH hme hok hn h C hI hL
  obtain ⟨z, rfl⟩ := xg_long h2 h1
  exact lv_lload C.1 C.2.1 hd h3 g
theorem xl_lload_n {i : Fin 4} (IH : xIH ρ base F Ts Ns cl tys D dA la okc Ms ih) (hme : me ∈ Ms) (hok : okc me cs = true) (hn : xatp (pc + 1) cs) (hd : decode me.2.1 pc = .ok (.lload_n i, 1)) (hi : (i : Nat) = a) (hb : b = 2) (h : xo_load ih me cs a b l A k = true) : xGd ρ base F Ts Ns cl tys D dA la me pc A k := by
  subst hb
  intro p e s m args below meth c C H locs ls stc hI hL
  obtain ⟨x, v, h1, h2, h3, g⟩ := xl_load0 IH hme hok hn h C hI hL
  obtain ⟨z, rfl⟩ := xg_long h2 h1
  exact lv_lload_n C.1 C.2.1 hd hi h3 g
theorem xl_aload {i : Nat} (IH : xIH ρ base F Ts Ns cl tys D dA la okc Ms ih) (hme : me ∈ Ms) (hok : okc me cs = true) (hn : xatp (pc + 2) cs) (hd : decode me.2.1 pc = .ok (.aload i, 2)) (hi : i = a) (hb : b = 1) (h : xo_load ih me cs a b l A k = true) : xGd ρ base F Ts Ns cl tys D dA la me pc A k := by
  subst hi; subst hb
  intro p e s m args below meth c C H locs ls stc hI hL
  obtain ⟨x, v, h1, h2, h3, g⟩ := xl_load0 IH hme hok hn h C hI hL
  rcases xg_ref h2 h1 with rfl | ⟨z, rfl⟩
  · exact lv_aloadN C.1 C.2.1 hd h3 g
  · exact lv_aload C.1 C.2.1 hd h3 g
theorem xl_aload_n {i : Fin 4} (IH : xIH ρ base F Ts Ns cl tys D dA la okc Ms ih) (hme : me ∈ Ms) (hok : okc me cs = true) (hn : xatp (pc + 1) cs) (hd : decode me.2.1 pc = .ok (.aload_n i, 1)) (hi : (i : Nat) = a) (hb : b = 1) (h : xo_load ih me cs a b l A k = true) : xGd ρ base F Ts Ns cl tys D dA la me pc A k := by
  subst hb
  intro p e s m args below meth c C H locs ls stc hI hL
  obtain ⟨x, v, h1, h2, h3, g⟩ := xl_load0 IH hme hok hn h C hI hL
  rcases xg_ref h2 h1 with rfl | ⟨z, rfl⟩
  · exact lv_aload_nN C.1 C.2.1 hd hi h3 g
  · exact lv_aload_n C.1 C.2.1 hd hi h3 g
end XL
end
section
/-! rows of the instructions: stores, arithmetic, stack, branches (written by gen16.py) -/
section XR
variable {ρ : Nat → Int32} {base : Nat} {F : Nat → Prop} {Ts Ns : List Jvm.Cond} {cl : List vw_C} {tys : List FieldType} {D : va_G} {dA : Nat → ClassId} {la : Launch} {okc : xM → List xI → Bool} {Ms : List xM} {ih : xIh} {me : xM} {cs : List xI} {a b : Nat} {l : List Nat} {A : xA} {k : xK} {pc : Nat}
theorem xand {a b : Bool} (h : Bool.and a b = true) : a = true ∧ b = true := by cases a <;> cases b <;> simp_all
theorem xl_istore (IH : xIH ρ base F Ts Ns cl tys D dA la okc Ms ih) (hme : me ∈ Ms) (hok : okc me cs = true) (hn : xatp (pc + 2) cs) (hd : decode me.2.1 pc = .ok (.istore a, 2)) (hb : b = 0) (ha : a < me.2.2.1) (h : xo_store ih me cs a b l A k = true) : xGd ρ base F Ts Ns cl tys D dA la me pc A k := by
  subst hb
  obtain ⟨lv, st, r⟩ := A
  cases st with
  | nil => exact absurd h (by simp [xo_store])
  | cons v st =>
    unfold xo_store at h
    obtain ⟨hk, h⟩ := xcond h
    have h := xfil_of h
    intro p e s m args below meth c C H locs ls stc hI hL
    obtain ⟨w, stc, rfl, hw, hst⟩ := xSR_cons hI.2.2.1
    obtain ⟨z, rfl⟩ := xg_int hw (Nat.eq_of_beq_eq_true hk)
    obtain ⟨lvc, hl, hlr⟩ := hI.2.1
    refine lv_istore C.1 C.2.1 hd hl ha rfl (fun ls' hl' => ?_)
    exact IH me cs _ k (pc + 2) hme h hok hn p e s m args below meth c C H locs ls' stc ⟨hI.1, ⟨_, hl', ⟨⟨rfl, hw⟩, xLR_fil hlr⟩⟩, hst, hI.2.2.2⟩ hL
theorem xl_istore_n {i : Fin 4} (IH : xIH ρ base F Ts Ns cl tys D dA la okc Ms ih) (hme : me ∈ Ms) (hok : okc me cs = true) (hn : xatp (pc + 1) cs) (hd : decode me.2.1 pc = .ok (.istore_n i, 1)) (hi : (i : Nat) = a) (hb : b = 0) (ha : a < me.2.2.1) (h : xo_store ih me cs a b l A k = true) : xGd ρ base F Ts Ns cl tys D dA la me pc A k := by
  subst hb
  obtain ⟨lv, st, r⟩ := A
  cases st with
  | nil => exact absurd h (by simp [xo_store])
  | cons v st =>
    unfold xo_store at h
    obtain ⟨hk, h⟩ := xcond h
    have h := xfil_of h
    intro p e s m args below meth c C H locs ls stc hI hL
    obtain ⟨w, stc, rfl, hw, hst⟩ := xSR_cons hI.2.2.1
    obtain ⟨z, rfl⟩ := xg_int hw (Nat.eq_of_beq_eq_true hk)
    obtain ⟨lvc, hl, hlr⟩ := hI.2.1
    refine lv_istore_n C.1 C.2.1 hd hi hl ha rfl (fun ls' hl' => ?_)
    exact IH me cs _ k (pc + 1) hme h hok hn p e s m args below meth c C H locs ls' stc ⟨hI.1, ⟨_, hl', ⟨⟨rfl, hw⟩, xLR_fil hlr⟩⟩, hst, hI.2.2.2⟩ hL
theorem xl_lstore (IH : xIH ρ base F Ts Ns cl tys D dA la okc Ms ih) (hme : me ∈ Ms) (hok : okc me cs = true) (hn : xatp (pc + 2) cs) (hd : decode me.2.1 pc = .ok (.lstore a, 2)) (hb : b = 2) (ha : a + 1 < me.2.2.1) (h : xo_store ih me cs a b l A k = true) : xGd ρ base F Ts Ns cl tys D dA la me pc A k := by
  subst hb
  obtain ⟨lv, st, r⟩ := A
  cases st with
  | nil => exact absurd h (by simp [xo_store])
  | cons v st =>
    unfold xo_store at h
    obtain ⟨hk, h⟩ := xcond h
    have h := xfil_of h
    intro p e s m args below meth c C H locs ls stc hI hL
    obtain ⟨w, stc, rfl, hw, hst⟩ := xSR_cons hI.2.2.1
    obtain ⟨z, rfl⟩ := xg_long hw (Nat.eq_of_beq_eq_true hk)
    obtain ⟨lvc, hl, hlr⟩ := hI.2.1
    refine lv_lstore C.1 C.2.1 hd hl ha rfl (fun ls' hl' => ?_)
    exact IH me cs _ k (pc + 2) hme h hok hn p e s m args below meth c C H locs ls' stc ⟨hI.1, ⟨_, hl', ⟨⟨rfl, hw⟩, xLR_filL hlr⟩⟩, hst, hI.2.2.2⟩ hL
theorem xl_lstore_n {i : Fin 4} (IH : xIH ρ base F Ts Ns cl tys D dA la okc Ms ih) (hme : me ∈ Ms) (hok : okc me cs = true) (hn : xatp (pc + 1) cs) (hd : decode me.2.1 pc = .ok (.lstore_n i, 1)) (hi : (i : Nat) = a) (hb : b = 2) (ha : a + 1 < me.2.2.1) (h : xo_store ih me cs a b l A k = true) : xGd ρ base F Ts Ns cl tys D dA la me pc A k := by
  subst hb
  obtain ⟨lv, st, r⟩ := A
  cases st with
  | nil => exact absurd h (by simp [xo_store])
  | cons v st =>
    unfold xo_store at h
    obtain ⟨hk, h⟩ := xcond h
    have h := xfil_of h
    intro p e s m args below meth c C H locs ls stc hI hL
    obtain ⟨w, stc, rfl, hw, hst⟩ := xSR_cons hI.2.2.1
    obtain ⟨z, rfl⟩ := xg_long hw (Nat.eq_of_beq_eq_true hk)
    obtain ⟨lvc, hl, hlr⟩ := hI.2.1
    refine lv_lstore_n C.1 C.2.1 hd hi hl ha rfl (fun ls' hl' => ?_)
    exact IH me cs _ k (pc + 1) hme h hok hn p e s m args below meth c C H locs ls' stc ⟨hI.1, ⟨_, hl', ⟨⟨rfl, hw⟩, xLR_filL hlr⟩⟩, hst, hI.2.2.2⟩ hL
theorem xl_astore (IH : xIH ρ base F Ts Ns cl tys D dA la okc Ms ih) (hme : me ∈ Ms) (hok : okc me cs = true) (hn : xatp (pc + 2) cs) (hd : decode me.2.1 pc = .ok (.astore a, 2)) (hb : b = 1) (ha : a < me.2.2.1) (h : xo_store ih me cs a b l A k = true) : xGd ρ base F Ts Ns cl tys D dA la me pc A k := by
  subst hb
  obtain ⟨lv, st, r⟩ := A
  cases st with
  | nil => exact absurd h (by simp [xo_store])
  | cons v st =>
    unfold xo_store at h
    obtain ⟨hk, h⟩ := xcond h
    have h := xfil_of h
    intro p e s m args below meth c C H locs ls stc hI hL
    obtain ⟨w, stc, rfl, hw, hst⟩ := xSR_cons hI.2.2.1
    obtain ⟨lvc, hl, hlr⟩ := hI.2.1
    rcases xg_ref hw (Nat.eq_of_beq_eq_true hk) with rfl | ⟨z, rfl⟩
    · refine lv_astoreN C.1 C.2.1 hd hl ha rfl (fun ls' hl' => ?_)
      exact IH me cs _ k (pc + 2) hme h hok hn p e s m args below meth c C H locs ls' stc ⟨hI.1, ⟨_, hl', ⟨⟨rfl, hw⟩, xLR_filR hlr⟩⟩, hst, hI.2.2.2⟩ hL
    · refine lv_astore C.1 C.2.1 hd hl ha rfl (fun ls' hl' => ?_)
      exact IH me cs _ k (pc + 2) hme h hok hn p e s m args below meth c C H locs ls' stc ⟨hI.1, ⟨_, hl', ⟨⟨rfl, hw⟩, xLR_filR hlr⟩⟩, hst, hI.2.2.2⟩ hL
theorem xl_astore_n {i : Fin 4} (IH : xIH ρ base F Ts Ns cl tys D dA la okc Ms ih) (hme : me ∈ Ms) (hok : okc me cs = true) (hn : xatp (pc + 1) cs) (hd : decode me.2.1 pc = .ok (.astore_n i, 1)) (hi : (i : Nat) = a) (hb : b = 1) (ha : a < me.2.2.1) (h : xo_store ih me cs a b l A k = true) : xGd ρ base F Ts Ns cl tys D dA la me pc A k := by
  subst hb
  obtain ⟨lv, st, r⟩ := A
  cases st with
  | nil => exact absurd h (by simp [xo_store])
  | cons v st =>
    unfold xo_store at h
    obtain ⟨hk, h⟩ := xcond h
    have h := xfil_of h
    intro p e s m args below meth c C H locs ls stc hI hL
    obtain ⟨w, stc, rfl, hw, hst⟩ := xSR_cons hI.2.2.1
    obtain ⟨lvc, hl, hlr⟩ := hI.2.1
    rcases xg_ref hw (Nat.eq_of_beq_eq_true hk) with rfl | ⟨z, rfl⟩
    · refine lv_astore_nN C.1 C.2.1 hd hi hl ha rfl (fun ls' hl' => ?_)
      exact IH me cs _ k (pc + 1) hme h hok hn p e s m args below meth c C H locs ls' stc ⟨hI.1, ⟨_, hl', ⟨⟨rfl, hw⟩, xLR_filR hlr⟩⟩, hst, hI.2.2.2⟩ hL
    · refine lv_astore_n C.1 C.2.1 hd hi hl ha rfl (fun ls' hl' => ?_)
      exact IH me cs _ k (pc + 1) hme h hok hn p e s m args below meth c C H locs ls' stc ⟨hI.1, ⟨_, hl', ⟨⟨rfl, hw⟩, xLR_filR hlr⟩⟩, hst, hI.2.2.2⟩ hL
theorem xl_iinc {i : Int} (IH : xIH ρ base F Ts Ns cl tys D dA la okc Ms ih) (hme : me ∈ Ms) (hok : okc me cs = true) (hn : xatp (pc + 3) cs) (hd : decode me.2.1 pc = .ok (.iinc a i, 3)) (hi : Int32.ofInt i = nI b) (ha : a < me.2.2.1) (h : xo_iinc ih me cs a b l A k = true) : xGd ρ base F Ts Ns cl tys D dA la me pc A k := by
  obtain ⟨lv, st, env, r⟩ := A
  unfold xo_iinc at h
  obtain ⟨j, x, hx, h⟩ := xfind_of h
  intro p e s m args below meth c C H locs ls stc hI hL
  obtain ⟨lvc, hl, hlr⟩ := hI.2.1
  obtain ⟨v, hv, hg⟩ := xLR_get hlr hx
  obtain ⟨z, rfl, h⟩ := xci_of hI.1 hg h
  refine lv_iinc C.1 C.2.1 hd hl hv rfl ha rfl (fun ls' hl' => ?_)
  rcases h with ⟨env', u, he, hz, h⟩ | h
  · have h := xfil_of (xfN_of h)
    exact IH me cs _ k (pc + 3) hme h hok hn p e s m args below meth c C H locs ls' stc ⟨he, ⟨_, hl', ⟨⟨rfl, by show _ = Value.int (nI (xioc 0 u b)); rw [xioc_of, hz, hi]; rfl⟩, xLR_fil hlr⟩⟩, hI.2.2.1, hI.2.2.2⟩ hL
  · have h := xfil_of h
    exact IH me cs _ k (pc + 3) hme h hok hn p e s m args below meth c C H locs ls' stc ⟨hI.1, ⟨_, hl', ⟨⟨rfl, by rw [hi]; exact xsum_of hI.1.1 hg rfl⟩, xLR_fil hlr⟩⟩, hI.2.2.1, hI.2.2.2⟩ hL
theorem xcond3 {a b x y z : Bool} (h : cond a x (cond b y z) = true) : (a = true ∧ x = true) ∨ (b = true ∧ y = true) ∨ z = true := by cases a <;> cases b <;> simp_all
theorem xz_of {x : xV} {v : Value} (h : xz x = true) (hg : xg ρ base x v) : v = .int 0 := by
  match x, h, hg with
  | .inl u, h, hg =>
    have e := Nat.eq_of_beq_eq_true h
    subst e
    exact hg
  | .inr _, h, _ => exact absurd h (by simp [xz])
/-- a two-operand int instruction, its row given -/
theorem xl_ibin0 {len : Nat} (IH : xIH ρ base F Ts Ns cl tys D dA la okc Ms ih) (hme : me ∈ Ms) (hok : okc me cs = true) (hn : xatp (pc + len) cs) (h : xo_ibin ih me cs a b l A k = true)
    {p : Program} {e : Env} {s : State} {m : MethodId} {args : Array Value} {below : List Frame} {meth : Method} {c : Code} (C : xCx Ts Ns cl tys D dA p s m args meth c me) {H : Heap} {locs : List Loc} {ls : Array Slot} {stc : List Value} (hI : xIn ρ base F D dA tys cl me A H ls stc) (hL : va_S F s.heap H locs) :
    ∃ (x y : Int32) (rest : List Value), stc = .int y :: .int x :: rest ∧ W p la e (xR me) s m args below meth c H locs A.2.2.2.2.2.1 A.2.2.2.2.2.2 (MQ below (xQ ρ base F D dA tys cl k) args s (xR me).cells (xR me).slots F) (F0 m (pc + len) ls (.int (xio a x y) :: rest)) := by
  match A, h, hI with
  | (lv, y :: x :: st, env, r), h, hI =>
    unfold xo_ibin at h
    obtain ⟨vy, stc, rfl, hy, hst0⟩ := xSR_cons hI.2.2.1
    obtain ⟨vx, stc, rfl, hx, hst⟩ := xSR_cons hst0
    rcases xcond3 h with ⟨hz, h⟩ | ⟨hz, h⟩ | h
    · obtain ⟨x', rfl⟩ := xg_int hx (Nat.eq_of_beq_eq_true (xand (xand hz).2).2)
      have ey := xz_of (xand (xand hz).2).1 hy
      subst ey
      refine ⟨x', 0, stc, rfl, ?_⟩
      rw [Nat.eq_of_beq_eq_true (xand hz).1, show xio 0 x' 0 = x' from Int32.add_zero x']
      exact IH me cs _ k (pc + len) hme h hok hn p e s m args below meth c C H locs ls _ ⟨hI.1, hI.2.1, ⟨hx, hst⟩, hI.2.2.2⟩ hL
    · obtain ⟨y', rfl⟩ := xg_int hy (Nat.eq_of_beq_eq_true (xand (xand hz).2).2)
      have ex := xz_of (xand (xand hz).2).1 hx
      subst ex
      refine ⟨0, y', stc, rfl, ?_⟩
      rw [Nat.eq_of_beq_eq_true (xand hz).1, show xio 0 0 y' = y' from Int32.zero_add y']
      exact IH me cs _ k (pc + len) hme h hok hn p e s m args below meth c C H locs ls _ ⟨hI.1, hI.2.1, ⟨hy, hst⟩, hI.2.2.2⟩ hL
    obtain ⟨x', rfl, h⟩ := xci_of hI.1 hx h
    rcases h with ⟨env', u, he, hu, h⟩ | h
    · obtain ⟨y', rfl, h⟩ := xci_of he hy h
      rcases h with ⟨env', v, he, hv, h⟩ | h
      · exact ⟨x', y', stc, rfl, IH me cs _ k (pc + len) hme (xfN_of h) hok hn p e s m args below meth c C H locs ls _ ⟨he, hI.2.1, ⟨by show _ = Value.int (nI (xioc a u v)); rw [xioc_of, hu, hv], hst⟩, hI.2.2.2⟩ hL⟩
      · exact ⟨x', y', stc, rfl, IH me cs _ k (pc + len) hme h hok hn p e s m args below meth c C H locs ls _ ⟨he, hI.2.1, ⟨xsum_of he.1 (by rw [hu]; exact rfl) hy, hst⟩, hI.2.2.2⟩ hL⟩
    · obtain ⟨hk, h⟩ := xcond h
      obtain ⟨y', rfl⟩ := xg_int hy (Nat.eq_of_beq_eq_true hk)
      exact ⟨x', y', stc, rfl, IH me cs _ k (pc + len) hme h hok hn p e s m args below meth c C H locs ls _ ⟨hI.1, hI.2.1, ⟨xsum_of hI.1.1 hx hy, hst⟩, hI.2.2.2⟩ hL⟩
  | (lv, [], env, r), h, hI => exact absurd h (by simp [xo_ibin])
  | (lv, [_], env, r), h, hI => exact absurd h (by simp [xo_ibin])
theorem xl_iadd (IH : xIH ρ base F Ts Ns cl tys D dA la okc Ms ih) (hme : me ∈ Ms) (hok : okc me cs = true) (hn : xatp (pc + 1) cs) (hd : decode me.2.1 pc = .ok (.iadd, 1)) (ha : a = 0) (h : xo_ibin ih me cs a b l A k = true) : xGd ρ base F Ts Ns cl tys D dA la me pc A k := by
  subst ha
  intro p e s m args below meth c C H locs ls stc hI hL
  obtain ⟨x, y, rest, rfl, g⟩ := xl_ibin0 IH hme hok hn h C hI hL
  exact lv_iadd C.1 C.2.1 hd g
theorem xl_isub (IH : xIH ρ base F Ts Ns cl tys D dA la okc Ms ih) (hme : me ∈ Ms) (hok : okc me cs = true) (hn : xatp (pc + 1) cs) (hd : decode me.2.1 pc = .ok (.isub, 1)) (ha : a = 1) (h : xo_ibin ih me cs a b l A k = true) : xGd ρ base F Ts Ns cl tys D dA la me pc A k := by
  subst ha
  intro p e s m args below meth c C H locs ls stc hI hL
  obtain ⟨x, y, rest, rfl, g⟩ := xl_ibin0 IH hme hok hn h C hI hL
  exact lv_isub C.1 C.2.1 hd g
theorem xl_imul (IH : xIH ρ base F Ts Ns cl tys D dA la okc Ms ih) (hme : me ∈ Ms) (hok : okc me cs = true) (hn : xatp (pc + 1) cs) (hd : decode me.2.1 pc = .ok (.imul, 1)) (ha : a = 2) (h : xo_ibin ih me cs a b l A k = true) : xGd ρ base F Ts Ns cl tys D dA la me pc A k := by
  subst ha
  intro p e s m args below meth c C H locs ls stc hI hL
  obtain ⟨x, y, rest, rfl, g⟩ := xl_ibin0 IH hme hok hn h C hI hL
  exact lv_imul C.1 C.2.1 hd g
theorem xl_iand (IH : xIH ρ base F Ts Ns cl tys D dA la okc Ms ih) (hme : me ∈ Ms) (hok : okc me cs = true) (hn : xatp (pc + 1) cs) (hd : decode me.2.1 pc = .ok (.iand, 1)) (ha : a = 3) (h : xo_ibin ih me cs a b l A k = true) : xGd ρ base F Ts Ns cl tys D dA la me pc A k := by
  subst ha
  intro p e s m args below meth c C H locs ls stc hI hL
  obtain ⟨x, y, rest, rfl, g⟩ := xl_ibin0 IH hme hok hn h C hI hL
  exact lv_iand C.1 C.2.1 hd g
theorem xl_ior (IH : xIH ρ base F Ts Ns cl tys D dA la okc Ms ih) (hme : me ∈ Ms) (hok : okc me cs = true) (hn : xatp (pc + 1) cs) (hd : decode me.2.1 pc = .ok (.ior, 1)) (ha : a = 4) (h : xo_ibin ih me cs a b l A k = true) : xGd ρ base F Ts Ns cl tys D dA la me pc A k := by
  subst ha
  intro p e s m args below meth c C H locs ls stc hI hL
  obtain ⟨x, y, rest, rfl, g⟩ := xl_ibin0 IH hme hok hn h C hI hL
  exact lv_ior C.1 C.2.1 hd g
theorem xl_ixor (IH : xIH ρ base F Ts Ns cl tys D dA la okc Ms ih) (hme : me ∈ Ms) (hok : okc me cs = true) (hn : xatp (pc + 1) cs) (hd : decode me.2.1 pc = .ok (.ixor, 1)) (ha : a = 5) (h : xo_ibin ih me cs a b l A k = true) : xGd ρ base F Ts Ns cl tys D dA la me pc A k := by
  subst ha
  intro p e s m args below meth c C H locs ls stc hI hL
  obtain ⟨x, y, rest, rfl, g⟩ := xl_ibin0 IH hme hok hn h C hI hL
  exact lv_ixor C.1 C.2.1 hd g
theorem xl_ishl (IH : xIH ρ base F Ts Ns cl tys D dA la okc Ms ih) (hme : me ∈ Ms) (hok : okc me cs = true) (hn : xatp (pc + 1) cs) (hd : decode me.2.1 pc = .ok (.ishl, 1)) (ha : a = 6) (h : xo_ibin ih me cs a b l A k = true) : xGd ρ base F Ts Ns cl tys D dA la me pc A k := by
  subst ha
  intro p e s m args below meth c C H locs ls stc hI hL
  obtain ⟨x, y, rest, rfl, g⟩ := xl_ibin0 IH hme hok hn h C hI hL
  exact lv_ishl C.1 C.2.1 hd g
theorem xl_ishr (IH : xIH ρ base F Ts Ns cl tys D dA la okc Ms ih) (hme : me ∈ Ms) (hok : okc me cs = true) (hn : xatp (pc + 1) cs) (hd : decode me.2.1 pc = .ok (.ishr, 1)) (ha : a = 7) (h : xo_ibin ih me cs a b l A k = true) : xGd ρ base F Ts Ns cl tys D dA la me pc A k := by
  subst ha
  intro p e s m args below meth c C H locs ls stc hI hL
  obtain ⟨x, y, rest, rfl, g⟩ := xl_ibin0 IH hme hok hn h C hI hL
  exact lv_ishr C.1 C.2.1 hd g
theorem xl_iushr (IH : xIH ρ base F Ts Ns cl tys D dA la okc Ms ih) (hme : me ∈ Ms) (hok : okc me cs = true) (hn : xatp (pc + 1) cs) (hd : decode me.2.1 pc = .ok (.iushr, 1)) (ha : a = 8) (h : xo_ibin ih me cs a b l A k = true) : xGd ρ base F Ts Ns cl tys D dA la me pc A k := by
  subst ha
  intro p e s m args below meth c C H locs ls stc hI hL
  obtain ⟨x, y, rest, rfl, g⟩ := xl_ibin0 IH hme hok hn h C hI hL
  exact lv_iushr C.1 C.2.1 hd rfl g
theorem xdv_of {a u v : Nat} (ha : a < 2) (hv : ¬ v % 4294967296 = 0) : nI (xdvc a u v) = xdv a (nI u) (nI v) := by
  unfold xdvc
  by_cases c : Bool.and (Nat.blt u 2147483648) (Nat.blt v 2147483648) = true
  · rw [c]
    have c1 : Nat.blt u 2147483648 = true := by revert c; cases Nat.blt u 2147483648 <;> simp
    have c2 : Nat.blt v 2147483648 = true := by revert c; cases Nat.blt v 2147483648 <;> simp
    have c1 := xblt.mp c1
    have c2 := xblt.mp c2
    have h0 : 0 < v := by
      rcases Nat.eq_zero_or_pos v with q | q
      · exact absurd (by rw [q]) hv
      · exact q
    match a, ha with
    | 0, _ => show nI (u / v) = nI u / nI v; rw [pk_div c1 h0 c2]
    | 1, _ => show nI (u % v) = nI u - nI u / nI v * nI v; rw [pk_rem c1 h0 c2]
  · have c : Bool.and (Nat.blt u 2147483648) (Nat.blt v 2147483648) = false := xnf c
    rw [c]
    exact xn_code _
theorem xl_idiv0 {len : Nat} (IH : xIH ρ base F Ts Ns cl tys D dA la okc Ms ih) (hme : me ∈ Ms) (hok : okc me cs = true) (hn : xatp (pc + len) cs) (ha : a < 2) (h : xo_idiv ih me cs a b l A k = true)
    {p : Program} {e : Env} {s : State} {m : MethodId} {args : Array Value} {below : List Frame} {meth : Method} {c : Code} (C : xCx Ts Ns cl tys D dA p s m args meth c me) {H : Heap} {locs : List Loc} {ls : Array Slot} {stc : List Value} (hI : xIn ρ base F D dA tys cl me A H ls stc) (hL : va_S F s.heap H locs) :
    ∃ (x y : Int32) (rest : List Value), stc = .int y :: .int x :: rest ∧ ¬ y = 0 ∧ W p la e (xR me) s m args below meth c H locs A.2.2.2.2.2.1 A.2.2.2.2.2.2 (MQ below (xQ ρ base F D dA tys cl k) args s (xR me).cells (xR me).slots F) (F0 m (pc + len) ls (.int (xdv a x y) :: rest)) := by
  match A, h, hI with
  | (lv, y :: x :: st, env, r), h, hI =>
    unfold xo_idiv at h
    obtain ⟨vy, stc, rfl, hy, hst0⟩ := xSR_cons hI.2.2.1
    obtain ⟨vx, stc, rfl, hx, hst⟩ := xSR_cons hst0
    obtain ⟨y', rfl, h⟩ := xci_of hI.1 hy h
    rcases h with ⟨env', v, he, hv, h⟩ | h
    · obtain ⟨c0, h⟩ := xcondn h
      · have hne : ¬ v % 4294967296 = 0 := fun q => by
          have : Nat.beq (v % 4294967296) 0 = true := by rw [q]; rfl
          rw [show Nat.beq (v % 4294967296) 0 = false from c0] at this
          cases this
        have hy0 : ¬ y' = 0 := fun q => hne (by have := xn_tn v; rw [← hv, q] at this; exact this.symm)
        obtain ⟨x', rfl, h⟩ := xci_of he hx h
        rcases h with ⟨env', u, he, hu, h⟩ | h
        · exact ⟨x', y', stc, rfl, hy0, IH me cs _ k (pc + len) hme (xfN_of h) hok hn p e s m args below meth c C H locs ls _ ⟨he, hI.2.1, ⟨by show _ = Value.int (nI (xdvc a u v)); rw [xdv_of ha hne, hu, hv], hst⟩, hI.2.2.2⟩ hL⟩
        · exact ⟨x', y', stc, rfl, hy0, IH me cs _ k (pc + len) hme h hok hn p e s m args below meth c C H locs ls _ ⟨he, hI.2.1, ⟨⟨_, rfl⟩, hst⟩, hI.2.2.2⟩ hL⟩
    · exact absurd h (by simp)
  | (lv, [], env, r), h, hI => exact absurd h (by simp [xo_idiv])
  | (lv, [_], env, r), h, hI => exact absurd h (by simp [xo_idiv])
theorem xl_idiv (IH : xIH ρ base F Ts Ns cl tys D dA la okc Ms ih) (hme : me ∈ Ms) (hok : okc me cs = true) (hn : xatp (pc + 1) cs) (hd : decode me.2.1 pc = .ok (.idiv, 1)) (ha : a = 0) (h : xo_idiv ih me cs a b l A k = true) : xGd ρ base F Ts Ns cl tys D dA la me pc A k := by
  subst ha
  intro p e s m args below meth c C H locs ls stc hI hL
  obtain ⟨x, y, rest, rfl, h0, g⟩ := xl_idiv0 IH hme hok hn (by decide) h C hI hL
  exact lv_idiv C.1 C.2.1 hd h0 g
theorem xl_irem (IH : xIH ρ base F Ts Ns cl tys D dA la okc Ms ih) (hme : me ∈ Ms) (hok : okc me cs = true) (hn : xatp (pc + 1) cs) (hd : decode me.2.1 pc = .ok (.irem, 1)) (ha : a = 1) (h : xo_idiv ih me cs a b l A k = true) : xGd ρ base F Ts Ns cl tys D dA la me pc A k := by
  subst ha
  intro p e s m args below meth c C H locs ls stc hI hL
  obtain ⟨x, y, rest, rfl, h0, g⟩ := xl_idiv0 IH hme hok hn (by decide) h C hI hL
  exact lv_irem C.1 C.2.1 hd h0 g
theorem xl_iun0 {len : Nat} (IH : xIH ρ base F Ts Ns cl tys D dA la okc Ms ih) (hme : me ∈ Ms) (hok : okc me cs = true) (hn : xatp (pc + len) cs) (h : xo_iun ih me cs a b l A k = true)
    {p : Program} {e : Env} {s : State} {m : MethodId} {args : Array Value} {below : List Frame} {meth : Method} {c : Code} (C : xCx Ts Ns cl tys D dA p s m args meth c me) {H : Heap} {locs : List Loc} {ls : Array Slot} {stc : List Value} (hI : xIn ρ base F D dA tys cl me A H ls stc) (hL : va_S F s.heap H locs) :
    ∃ (x : Int32) (rest : List Value), stc = .int x :: rest ∧ W p la e (xR me) s m args below meth c H locs A.2.2.2.2.2.1 A.2.2.2.2.2.2 (MQ below (xQ ρ base F D dA tys cl k) args s (xR me).cells (xR me).slots F) (F0 m (pc + len) ls (.int (xiu a x) :: rest)) := by
  match A, h, hI with
  | (lv, x :: st, env, r), h, hI =>
    unfold xo_iun at h
    obtain ⟨vx, stc, rfl, hx, hst⟩ := xSR_cons hI.2.2.1
    obtain ⟨x', rfl, h⟩ := xci_of hI.1 hx h
    rcases h with ⟨env', u, he, hu, h⟩ | h
    · exact ⟨x', stc, rfl, IH me cs _ k (pc + len) hme (xfN_of h) hok hn p e s m args below meth c C H locs ls _ ⟨he, hI.2.1, ⟨by show _ = Value.int (nI (xcode (xiu a (nI u)))); rw [xn_code, hu], hst⟩, hI.2.2.2⟩ hL⟩
    · exact ⟨x', stc, rfl, IH me cs _ k (pc + len) hme h hok hn p e s m args below meth c C H locs ls _ ⟨hI.1, hI.2.1, ⟨⟨_, rfl⟩, hst⟩, hI.2.2.2⟩ hL⟩
  | (lv, [], env, r), h, hI => exact absurd h (by simp [xo_iun])
theorem xl_ineg (IH : xIH ρ base F Ts Ns cl tys D dA la okc Ms ih) (hme : me ∈ Ms) (hok : okc me cs = true) (hn : xatp (pc + 1) cs) (hd : decode me.2.1 pc = .ok (.ineg, 1)) (ha : a = 0) (h : xo_iun ih me cs a b l A k = true) : xGd ρ base F Ts Ns cl tys D dA la me pc A k := by
  subst ha
  intro p e s m args below meth c C H locs ls stc hI hL
  obtain ⟨x, rest, rfl, g⟩ := xl_iun0 IH hme hok hn h C hI hL
  exact lv_ineg C.1 C.2.1 hd g
theorem xl_i2b (IH : xIH ρ base F Ts Ns cl tys D dA la okc Ms ih) (hme : me ∈ Ms) (hok : okc me cs = true) (hn : xatp (pc + 1) cs) (hd : decode me.2.1 pc = .ok (.i2b, 1)) (ha : a = 1) (h : xo_iun ih me cs a b l A k = true) : xGd ρ base F Ts Ns cl tys D dA la me pc A k := by
  subst ha
  intro p e s m args below meth c C H locs ls stc hI hL
  obtain ⟨x, rest, rfl, g⟩ := xl_iun0 IH hme hok hn h C hI hL
  exact lv_i2b C.1 C.2.1 hd rfl g
theorem xl_i2s (IH : xIH ρ base F Ts Ns cl tys D dA la okc Ms ih) (hme : me ∈ Ms) (hok : okc me cs = true) (hn : xatp (pc + 1) cs) (hd : decode me.2.1 pc = .ok (.i2s, 1)) (ha : a = 2) (h : xo_iun ih me cs a b l A k = true) : xGd ρ base F Ts Ns cl tys D dA la me pc A k := by
  subst ha
  intro p e s m args below meth c C H locs ls stc hI hL
  obtain ⟨x, rest, rfl, g⟩ := xl_iun0 IH hme hok hn h C hI hL
  exact lv_i2s C.1 C.2.1 hd rfl g
theorem xl_i2c (IH : xIH ρ base F Ts Ns cl tys D dA la okc Ms ih) (hme : me ∈ Ms) (hok : okc me cs = true) (hn : xatp (pc + 1) cs) (hd : decode me.2.1 pc = .ok (.i2c, 1)) (ha : a = 3) (h : xo_iun ih me cs a b l A k = true) : xGd ρ base F Ts Ns cl tys D dA la me pc A k := by
  subst ha
  intro p e s m args below meth c C H locs ls stc hI hL
  obtain ⟨x, rest, rfl, g⟩ := xl_iun0 IH hme hok hn h C hI hL
  exact lv_i2c C.1 C.2.1 hd rfl g
theorem xl_i2l (IH : xIH ρ base F Ts Ns cl tys D dA la okc Ms ih) (hme : me ∈ Ms) (hok : okc me cs = true) (hn : xatp (pc + 1) cs) (hd : decode me.2.1 pc = .ok (.i2l, 1)) (h : xo_i2l ih me cs a b l A k = true) : xGd ρ base F Ts Ns cl tys D dA la me pc A k := by
  match A, h with
  | (lv, .inl u :: st, r), h =>
    unfold xo_i2l at h
    intro p e s m args below meth c C H locs ls stc hI hL
    obtain ⟨vx, stc, rfl, hx, hst⟩ := xSR_cons hI.2.2.1
    cases hx
    exact lv_i2l C.1 C.2.1 hd rfl (IH me cs _ k (pc + 1) hme (xfN_of h) hok hn p e s m args below meth c C H locs ls _ ⟨hI.1, hI.2.1, ⟨by show _ = Value.long (lN (xcodeL (nI u).toInt64)); rw [xl_code], hst⟩, hI.2.2.2⟩ hL)
  | (lv, .inr (.inl none) :: st, r), h =>
    unfold xo_i2l at h
    intro p e s m args below meth c C H locs ls stc hI hL
    obtain ⟨vx, stc, rfl, hx, hst⟩ := xSR_cons hI.2.2.1
    obtain ⟨z, rfl⟩ := hx
    exact lv_i2l C.1 C.2.1 hd rfl (IH me cs _ k (pc + 1) hme h hok hn p e s m args below meth c C H locs ls _ ⟨hI.1, hI.2.1, ⟨⟨_, rfl⟩, hst⟩, hI.2.2.2⟩ hL)
  | (lv, .inr (.inl (some i)) :: st, r), h =>
    unfold xo_i2l at h
    intro p e s m args below meth c C H locs ls stc hI hL
    obtain ⟨vx, stc, rfl, hx, hst⟩ := xSR_cons hI.2.2.1
    cases hx
    have h : cond (Nat.blt i 64) (ih me cs (lv, .inr (.inr (.inr (.inr (some i)))) :: st, r) k) (ih me cs (lv, xTopL :: st, r) k) = true := h
    by_cases c64 : Nat.blt i 64 = true
    · rw [c64, cond_true] at h
      exact lv_i2l C.1 C.2.1 hd rfl (IH me cs _ k (pc + 1) hme h hok hn p e s m args below meth c C H locs ls _ ⟨hI.1, hI.2.1, ⟨rfl, hst⟩, hI.2.2.2⟩ hL)
    · rw [xnf c64, cond_false] at h
      exact lv_i2l C.1 C.2.1 hd rfl (IH me cs _ k (pc + 1) hme h hok hn p e s m args below meth c C H locs ls _ ⟨hI.1, hI.2.1, ⟨⟨_, rfl⟩, hst⟩, hI.2.2.2⟩ hL)
  | (lv, .inr (.inr _) :: st, r), h => exact absurd h (by simp [xo_i2l])
  | (lv, [], r), h => exact absurd h (by simp [xo_i2l])
theorem xl_l2i (IH : xIH ρ base F Ts Ns cl tys D dA la okc Ms ih) (hme : me ∈ Ms) (hok : okc me cs = true) (hn : xatp (pc + 1) cs) (hd : decode me.2.1 pc = .ok (.l2i, 1)) (h : xo_l2i ih me cs a b l A k = true) : xGd ρ base F Ts Ns cl tys D dA la me pc A k := by
  match A, h with
  | (lv, .inr (.inr (.inr (.inl u))) :: st, r), h =>
    unfold xo_l2i at h
    intro p e s m args below meth c C H locs ls stc hI hL
    obtain ⟨vx, stc, rfl, hx, hst⟩ := xSR_cons hI.2.2.1
    cases hx
    exact lv_l2i C.1 C.2.1 hd rfl (IH me cs _ k (pc + 1) hme (xfN_of h) hok hn p e s m args below meth c C H locs ls _ ⟨hI.1, hI.2.1, ⟨by show _ = Value.int (nI (xcode (lN u).toInt32)); rw [xn_code], hst⟩, hI.2.2.2⟩ hL)
  | (lv, .inr (.inr (.inr (.inr o))) :: st, r), h =>
    unfold xo_l2i at h
    intro p e s m args below meth c C H locs ls stc hI hL
    obtain ⟨vx, stc, rfl, hx, hst⟩ := xSR_cons hI.2.2.1
    obtain ⟨z, rfl⟩ := xg_long hx rfl
    exact lv_l2i C.1 C.2.1 hd rfl (IH me cs _ k (pc + 1) hme h hok hn p e s m args below meth c C H locs ls _ ⟨hI.1, hI.2.1, ⟨⟨_, rfl⟩, hst⟩, hI.2.2.2⟩ hL)
  | (lv, .inl _ :: st, r), h => exact absurd h (by simp [xo_l2i])
  | (lv, .inr (.inl _) :: st, r), h => exact absurd h (by simp [xo_l2i])
  | (lv, .inr (.inr (.inl _)) :: st, r), h => exact absurd h (by simp [xo_l2i])
  | (lv, [], r), h => exact absurd h (by simp [xo_l2i])
theorem xlc_of {x : xV} {v : Value} {u : Nat} (h : xlc x = some u) (hg : xg ρ base x v) : v = .long (lN u) := by
  match x, h, hg with
  | .inr (.inr (.inr (.inl w))), h, hg => cases h; exact hg
theorem xl_lbin0 {len : Nat} (IH : xIH ρ base F Ts Ns cl tys D dA la okc Ms ih) (hme : me ∈ Ms) (hok : okc me cs = true) (hn : xatp (pc + len) cs) (h : xo_lbin ih me cs a b l A k = true)
    {p : Program} {e : Env} {s : State} {m : MethodId} {args : Array Value} {below : List Frame} {meth : Method} {c : Code} (C : xCx Ts Ns cl tys D dA p s m args meth c me) {H : Heap} {locs : List Loc} {ls : Array Slot} {stc : List Value} (hI : xIn ρ base F D dA tys cl me A H ls stc) (hL : va_S F s.heap H locs) :
    ∃ (x y : Int64) (rest : List Value), stc = .long y :: .long x :: rest ∧ W p la e (xR me) s m args below meth c H locs A.2.2.2.2.2.1 A.2.2.2.2.2.2 (MQ below (xQ ρ base F D dA tys cl k) args s (xR me).cells (xR me).slots F) (F0 m (pc + len) ls (.long (xlo a x y) :: rest)) := by
  match A, h, hI with
  | (lv, y :: x :: st, r), h, hI =>
    unfold xo_lbin at h
    obtain ⟨vy, stc, rfl, hy, hst0⟩ := xSR_cons hI.2.2.1
    obtain ⟨vx, stc, rfl, hx, hst⟩ := xSR_cons hst0
    obtain ⟨hk, h⟩ := xcond h
    obtain ⟨y', rfl⟩ := xg_long hy (Nat.eq_of_beq_eq_true (xand hk).1)
    obtain ⟨x', rfl⟩ := xg_long hx (Nat.eq_of_beq_eq_true (xand hk).2)
    refine ⟨x', y', stc, rfl, ?_⟩
    cases ex : xlc x with
    | none =>
      rw [ex] at h
      exact IH me cs _ k (pc + len) hme h hok hn p e s m args below meth c C H locs ls _ ⟨hI.1, hI.2.1, ⟨⟨_, rfl⟩, hst⟩, hI.2.2.2⟩ hL
    | some u =>
      cases ey : xlc y with
      | none =>
        rw [ex, ey] at h
        exact IH me cs _ k (pc + len) hme h hok hn p e s m args below meth c C H locs ls _ ⟨hI.1, hI.2.1, ⟨⟨_, rfl⟩, hst⟩, hI.2.2.2⟩ hL
      | some v =>
        rw [ex, ey] at h
        have h1 := xlc_of ex hx
        have h2 := xlc_of ey hy
        cases h1
        cases h2
        exact IH me cs _ k (pc + len) hme (xfN_of h) hok hn p e s m args below meth c C H locs ls _ ⟨hI.1, hI.2.1, ⟨by show _ = Value.long (lN (xcodeL (xlo a (lN u) (lN v)))); rw [xl_code], hst⟩, hI.2.2.2⟩ hL
  | (lv, [], r), h, hI => exact absurd h (by simp [xo_lbin])
  | (lv, [_], r), h, hI => exact absurd h (by simp [xo_lbin])
theorem xl_ladd (IH : xIH ρ base F Ts Ns cl tys D dA la okc Ms ih) (hme : me ∈ Ms) (hok : okc me cs = true) (hn : xatp (pc + 1) cs) (hd : decode me.2.1 pc = .ok (.ladd, 1)) (ha : a = 0) (h : xo_lbin ih me cs a b l A k = true) : xGd ρ base F Ts Ns cl tys D dA la me pc A k := by
  subst ha
  intro p e s m args below meth c C H locs ls stc hI hL
  obtain ⟨x, y, rest, rfl, g⟩ := xl_lbin0 IH hme hok hn h C hI hL
  exact lv_ladd C.1 C.2.1 hd g
theorem xl_lsub (IH : xIH ρ base F Ts Ns cl tys D dA la okc Ms ih) (hme : me ∈ Ms) (hok : okc me cs = true) (hn : xatp (pc + 1) cs) (hd : decode me.2.1 pc = .ok (.lsub, 1)) (ha : a = 1) (h : xo_lbin ih me cs a b l A k = true) : xGd ρ base F Ts Ns cl tys D dA la me pc A k := by
  subst ha
  intro p e s m args below meth c C H locs ls stc hI hL
  obtain ⟨x, y, rest, rfl, g⟩ := xl_lbin0 IH hme hok hn h C hI hL
  exact lv_lsub C.1 C.2.1 hd g
theorem xl_lmul (IH : xIH ρ base F Ts Ns cl tys D dA la okc Ms ih) (hme : me ∈ Ms) (hok : okc me cs = true) (hn : xatp (pc + 1) cs) (hd : decode me.2.1 pc = .ok (.lmul, 1)) (ha : a = 2) (h : xo_lbin ih me cs a b l A k = true) : xGd ρ base F Ts Ns cl tys D dA la me pc A k := by
  subst ha
  intro p e s m args below meth c C H locs ls stc hI hL
  obtain ⟨x, y, rest, rfl, g⟩ := xl_lbin0 IH hme hok hn h C hI hL
  exact lv_lmul C.1 C.2.1 hd g
theorem xl_land (IH : xIH ρ base F Ts Ns cl tys D dA la okc Ms ih) (hme : me ∈ Ms) (hok : okc me cs = true) (hn : xatp (pc + 1) cs) (hd : decode me.2.1 pc = .ok (.land, 1)) (ha : a = 3) (h : xo_lbin ih me cs a b l A k = true) : xGd ρ base F Ts Ns cl tys D dA la me pc A k := by
  subst ha
  intro p e s m args below meth c C H locs ls stc hI hL
  obtain ⟨x, y, rest, rfl, g⟩ := xl_lbin0 IH hme hok hn h C hI hL
  exact lv_land C.1 C.2.1 hd g
theorem xl_lor (IH : xIH ρ base F Ts Ns cl tys D dA la okc Ms ih) (hme : me ∈ Ms) (hok : okc me cs = true) (hn : xatp (pc + 1) cs) (hd : decode me.2.1 pc = .ok (.lor, 1)) (ha : a = 4) (h : xo_lbin ih me cs a b l A k = true) : xGd ρ base F Ts Ns cl tys D dA la me pc A k := by
  subst ha
  intro p e s m args below meth c C H locs ls stc hI hL
  obtain ⟨x, y, rest, rfl, g⟩ := xl_lbin0 IH hme hok hn h C hI hL
  exact lv_lor C.1 C.2.1 hd g
theorem xl_lxor (IH : xIH ρ base F Ts Ns cl tys D dA la okc Ms ih) (hme : me ∈ Ms) (hok : okc me cs = true) (hn : xatp (pc + 1) cs) (hd : decode me.2.1 pc = .ok (.lxor, 1)) (ha : a = 5) (h : xo_lbin ih me cs a b l A k = true) : xGd ρ base F Ts Ns cl tys D dA la me pc A k := by
  subst ha
  intro p e s m args below meth c C H locs ls stc hI hL
  obtain ⟨x, y, rest, rfl, g⟩ := xl_lbin0 IH hme hok hn h C hI hL
  exact lv_lxor C.1 C.2.1 hd g
theorem xl_ldiv0 {len : Nat} (IH : xIH ρ base F Ts Ns cl tys D dA la okc Ms ih) (hme : me ∈ Ms) (hok : okc me cs = true) (hn : xatp (pc + len) cs) (h : xo_ldiv ih me cs a b l A k = true)
    {p : Program} {e : Env} {s : State} {m : MethodId} {args : Array Value} {below : List Frame} {meth : Method} {c : Code} (C : xCx Ts Ns cl tys D dA p s m args meth c me) {H : Heap} {locs : List Loc} {ls : Array Slot} {stc : List Value} (hI : xIn ρ base F D dA tys cl me A H ls stc) (hL : va_S F s.heap H locs) :
    ∃ (x y : Int64) (rest : List Value), stc = .long y :: .long x :: rest ∧ ¬ y = 0 ∧ W p la e (xR me) s m args below meth c H locs A.2.2.2.2.2.1 A.2.2.2.2.2.2 (MQ below (xQ ρ base F D dA tys cl k) args s (xR me).cells (xR me).slots F) (F0 m (pc + len) ls (.long (xldv a x y) :: rest)) := by
  match A, h, hI with
  | (lv, y :: x :: st, r), h, hI =>
    unfold xo_ldiv at h
    obtain ⟨vy, stc, rfl, hy, hst0⟩ := xSR_cons hI.2.2.1
    obtain ⟨vx, stc, rfl, hx, hst⟩ := xSR_cons hst0
    obtain ⟨hk, h⟩ := xcond h
    obtain ⟨x', rfl⟩ := xg_long hx (Nat.eq_of_beq_eq_true hk)
    cases ey : xlc y with
    | none => rw [ey] at h; exact absurd h (by simp)
    | some v =>
      rw [ey] at h
      have h2 := xlc_of ey hy
      subst h2
      obtain ⟨c0, h⟩ := xcondn h
      · have hy0 : ¬ lN v = 0 := fun q => by
          have h3 := xl_tn v
          rw [q] at h3
          have h4 : Nat.beq (v % 18446744073709551616) 0 = true := by rw [← h3]; rfl
          rw [show Nat.beq (v % 18446744073709551616) 0 = false from c0] at h4
          cases h4
        refine ⟨x', lN v, stc, rfl, hy0, ?_⟩
        cases ex : xlc x with
        | none =>
          rw [ex] at h
          exact IH me cs _ k (pc + len) hme h hok hn p e s m args below meth c C H locs ls _ ⟨hI.1, hI.2.1, ⟨⟨_, rfl⟩, hst⟩, hI.2.2.2⟩ hL
        | some u =>
          rw [ex] at h
          have h1 := xlc_of ex hx
          cases h1
          exact IH me cs _ k (pc + len) hme (xfN_of h) hok hn p e s m args below meth c C H locs ls _ ⟨hI.1, hI.2.1, ⟨by show _ = Value.long (lN (xcodeL (xldv a (lN u) (lN v)))); rw [xl_code], hst⟩, hI.2.2.2⟩ hL
  | (lv, [], r), h, hI => exact absurd h (by simp [xo_ldiv])
  | (lv, [_], r), h, hI => exact absurd h (by simp [xo_ldiv])
theorem xl_ldiv (IH : xIH ρ base F Ts Ns cl tys D dA la okc Ms ih) (hme : me ∈ Ms) (hok : okc me cs = true) (hn : xatp (pc + 1) cs) (hd : decode me.2.1 pc = .ok (.ldiv, 1)) (ha : a = 0) (h : xo_ldiv ih me cs a b l A k = true) : xGd ρ base F Ts Ns cl tys D dA la me pc A k := by
  subst ha
  intro p e s m args below meth c C H locs ls stc hI hL
  obtain ⟨x, y, rest, rfl, h0, g⟩ := xl_ldiv0 IH hme hok hn h C hI hL
  exact lv_ldiv C.1 C.2.1 hd h0 g
theorem xl_lrem (IH : xIH ρ base F Ts Ns cl tys D dA la okc Ms ih) (hme : me ∈ Ms) (hok : okc me cs = true) (hn : xatp (pc + 1) cs) (hd : decode me.2.1 pc = .ok (.lrem, 1)) (ha : a = 1) (h : xo_ldiv ih me cs a b l A k = true) : xGd ρ base F Ts Ns cl tys D dA la me pc A k := by
  subst ha
  intro p e s m args below meth c C H locs ls stc hI hL
  obtain ⟨x, y, rest, rfl, h0, g⟩ := xl_ldiv0 IH hme hok hn h C hI hL
  exact lv_lrem C.1 C.2.1 hd h0 g
theorem xl_lsh0 {len : Nat} (IH : xIH ρ base F Ts Ns cl tys D dA la okc Ms ih) (hme : me ∈ Ms) (hok : okc me cs = true) (hn : xatp (pc + len) cs) (h : xo_lsh ih me cs a b l A k = true)
    {p : Program} {e : Env} {s : State} {m : MethodId} {args : Array Value} {below : List Frame} {meth : Method} {c : Code} (C : xCx Ts Ns cl tys D dA p s m args meth c me) {H : Heap} {locs : List Loc} {ls : Array Slot} {stc : List Value} (hI : xIn ρ base F D dA tys cl me A H ls stc) (hL : va_S F s.heap H locs) :
    ∃ (x : Int64) (y : Int32) (rest : List Value), stc = .int y :: .long x :: rest ∧ W p la e (xR me) s m args below meth c H locs A.2.2.2.2.2.1 A.2.2.2.2.2.2 (MQ below (xQ ρ base F D dA tys cl k) args s (xR me).cells (xR me).slots F) (F0 m (pc + len) ls (.long (xls a x y) :: rest)) := by
  match A, h, hI with
  | (lv, y :: x :: st, r), h, hI =>
    unfold xo_lsh at h
    obtain ⟨vy, stc, rfl, hy, hst0⟩ := xSR_cons hI.2.2.1
    obtain ⟨vx, stc, rfl, hx, hst⟩ := xSR_cons hst0
    obtain ⟨hk, h⟩ := xcond h
    obtain ⟨y', rfl⟩ := xg_int hy (Nat.eq_of_beq_eq_true (xand hk).1)
    obtain ⟨x', rfl⟩ := xg_long hx (Nat.eq_of_beq_eq_true (xand hk).2)
    refine ⟨x', y', stc, rfl, ?_⟩
    have any : ih me cs (lv, xTopL :: st, r) k = true → W p la e (xR me) s m args below meth c H locs r.2.2.2.1 r.2.2.2.2 (MQ below (xQ ρ base F D dA tys cl k) args s (xR me).cells (xR me).slots F) (F0 m (pc + len) ls (.long (xls a x' y') :: stc)) := fun h => IH me cs _ k (pc + len) hme h hok hn p e s m args below meth c C H locs ls _ ⟨hI.1, hI.2.1, ⟨⟨_, rfl⟩, hst⟩, hI.2.2.2⟩ hL
    cases ex : xlc x with
    | none => rw [ex] at h; exact any h
    | some u =>
      rw [ex] at h
      match y, hy, h with
      | .inl v, hy, h =>
        have h1 := xlc_of ex hx
        cases h1
        cases hy
        exact IH me cs _ k (pc + len) hme (xfN_of h) hok hn p e s m args below meth c C H locs ls _ ⟨hI.1, hI.2.1, ⟨by show _ = Value.long (lN (xcodeL (xls a (lN u) (nI v)))); rw [xl_code], hst⟩, hI.2.2.2⟩ hL
      | .inr _, hy, h => exact any h
  | (lv, [], r), h, hI => exact absurd h (by simp [xo_lsh])
  | (lv, [_], r), h, hI => exact absurd h (by simp [xo_lsh])
theorem xl_lshl (IH : xIH ρ base F Ts Ns cl tys D dA la okc Ms ih) (hme : me ∈ Ms) (hok : okc me cs = true) (hn : xatp (pc + 1) cs) (hd : decode me.2.1 pc = .ok (.lshl, 1)) (ha : a = 0) (h : xo_lsh ih me cs a b l A k = true) : xGd ρ base F Ts Ns cl tys D dA la me pc A k := by
  subst ha
  intro p e s m args below meth c C H locs ls stc hI hL
  obtain ⟨x, y, rest, rfl, g⟩ := xl_lsh0 IH hme hok hn h C hI hL
  exact lv_lshl C.1 C.2.1 hd rfl g
theorem xl_lshr (IH : xIH ρ base F Ts Ns cl tys D dA la okc Ms ih) (hme : me ∈ Ms) (hok : okc me cs = true) (hn : xatp (pc + 1) cs) (hd : decode me.2.1 pc = .ok (.lshr, 1)) (ha : a = 1) (h : xo_lsh ih me cs a b l A k = true) : xGd ρ base F Ts Ns cl tys D dA la me pc A k := by
  subst ha
  intro p e s m args below meth c C H locs ls stc hI hL
  obtain ⟨x, y, rest, rfl, g⟩ := xl_lsh0 IH hme hok hn h C hI hL
  exact lv_lshr C.1 C.2.1 hd rfl g
theorem xl_lushr (IH : xIH ρ base F Ts Ns cl tys D dA la okc Ms ih) (hme : me ∈ Ms) (hok : okc me cs = true) (hn : xatp (pc + 1) cs) (hd : decode me.2.1 pc = .ok (.lushr, 1)) (ha : a = 2) (h : xo_lsh ih me cs a b l A k = true) : xGd ρ base F Ts Ns cl tys D dA la me pc A k := by
  subst ha
  intro p e s m args below meth c C H locs ls stc hI hL
  obtain ⟨x, y, rest, rfl, g⟩ := xl_lsh0 IH hme hok hn h C hI hL
  exact lv_lushr C.1 C.2.1 hd rfl g
theorem xwide_of {u : Nat} (h : xwide u = true) : lN u = (nI (u % 4294967296)).toInt64 := by
  have h := Nat.eq_of_beq_eq_true h
  apply xl_inj
  rw [xl_tn]
  exact h.symm
theorem xw_lt {x y : Int32} : x.toInt64 < y.toInt64 ↔ xb x < xb y := by
  rw [Int64.lt_iff_toInt_lt, Int32.toInt_toInt64, Int32.toInt_toInt64, xb_int, xb_int]; omega
theorem xw_eq {x y : Int32} : x.toInt64 = y.toInt64 ↔ xb x = xb y := by
  rw [← Int64.toInt_inj, Int32.toInt_toInt64, Int32.toInt_toInt64, xb_int, xb_int]; omega
theorem xl_lcmp (IH : xIH ρ base F Ts Ns cl tys D dA la okc Ms ih) (hme : me ∈ Ms) (hok : okc me cs = true) (hn : xatp (pc + 1) cs) (hd : decode me.2.1 pc = .ok (.lcmp, 1)) (h : xo_lcmp ih me cs a b l A k = true) : xGd ρ base F Ts Ns cl tys D dA la me pc A k := by
  match A, h with
  | (lv, y :: x :: st, env, r), h =>
    unfold xo_lcmp at h
    intro p e s m args below meth c C H locs ls stc hI hL
    obtain ⟨vy, stc, rfl, hy, hst0⟩ := xSR_cons hI.2.2.1
    obtain ⟨vx, stc, rfl, hx, hst⟩ := xSR_cons hst0
    have any : ih me cs (lv, xTop :: st, env, r) k = true → ∀ z : Int32, W p la e (xR me) s m args below meth c H locs r.2.2.1 r.2.2.2 (MQ below (xQ ρ base F D dA tys cl k) args s (xR me).cells (xR me).slots F) (F0 m (pc + 1) ls (.int z :: stc)) := fun h z => IH me cs _ k (pc + 1) hme h hok hn p e s m args below meth c C H locs ls _ ⟨hI.1, hI.2.1, ⟨⟨_, rfl⟩, hst⟩, hI.2.2.2⟩ hL
    match x, y, hx, hy, h with
    | .inr (.inr (.inr (.inl u))), .inr (.inr (.inr (.inl v))), hx, hy, h =>
      cases hx; cases hy
      exact W.lcmp C.1 C.2.1 hd (IH me cs _ k (pc + 1) hme (xfN_of h) hok hn p e s m args below meth c C H locs ls _ ⟨hI.1, hI.2.1, ⟨by show _ = Value.int (nI (xcode (lg_cmp (lN u) (lN v)))); rw [xn_code], hst⟩, hI.2.2.2⟩ hL)
    | .inr (.inr (.inr (.inr (some i)))), .inr (.inr (.inr (.inl v))), hx, hy, h =>
      cases hx; cases hy
      refine W.lcmp C.1 C.2.1 hd ?_
      have h : cond (xwide v) _ _ = true := h
      cases hw : xwide v with
      | false => rw [hw] at h; exact any h _
      | true =>
        rw [hw, cond_true] at h
        have h := xfN_of h
        rw [xbc_eq] at h
        have hv : lN v = (nI (Nat.mod v 4294967296)).toInt64 := xwide_of hw
        rw [hv]
        generalize nI (Nat.mod v 4294967296) = y at h
        have hlt : (ρ i).toInt64 < y.toInt64 ↔ xb (ρ i) < xb y := xw_lt
        have hgt : y.toInt64 < (ρ i).toInt64 ↔ xb y < xb (ρ i) := xw_lt
        have heq : (ρ i).toInt64 = y.toInt64 ↔ xb (ρ i) = xb y := xw_eq
        rcases xcut_of h hI.1 with ⟨c1, e1, he1, h⟩ | ⟨c1, e1, he1, h⟩
        · have e0 : lg_cmp (ρ i).toInt64 y.toInt64 = nI 4294967295 := by
            unfold lg_cmp
            rw [if_neg (fun q => by have := hgt.mp q; omega), if_neg (fun q => by have := heq.mp q; omega)]
            rfl
          rw [e0]
          exact IH me cs _ k (pc + 1) hme h hok hn p e s m args below meth c C H locs ls _ ⟨he1, hI.2.1, ⟨rfl, hst⟩, hI.2.2.2⟩ hL
        · rcases xcut_of h he1 with ⟨c2, e2, he2, h⟩ | ⟨c2, e2, he2, h⟩
          · have e0 : lg_cmp (ρ i).toInt64 y.toInt64 = nI 0 := by
              unfold lg_cmp
              rw [if_neg (fun q => by have := hgt.mp q; omega), if_pos (heq.mpr (by omega))]
              rfl
            rw [e0]
            exact IH me cs _ k (pc + 1) hme h hok hn p e s m args below meth c C H locs ls _ ⟨he2, hI.2.1, ⟨rfl, hst⟩, hI.2.2.2⟩ hL
          · have e0 : lg_cmp (ρ i).toInt64 y.toInt64 = nI 1 := by
              unfold lg_cmp
              rw [if_pos (hgt.mpr (by omega))]
              rfl
            rw [e0]
            exact IH me cs _ k (pc + 1) hme h hok hn p e s m args below meth c C H locs ls _ ⟨he2, hI.2.1, ⟨rfl, hst⟩, hI.2.2.2⟩ hL
    | .inr (.inr (.inr (.inr none))), .inr (.inr (.inr _)), hx, hy, h =>
      obtain ⟨x', rfl⟩ := xg_long hx rfl
      obtain ⟨y', rfl⟩ := xg_long hy rfl
      exact W.lcmp C.1 C.2.1 hd (any h _)
    | .inr (.inr (.inr (.inr (some _)))), .inr (.inr (.inr (.inr _))), hx, hy, h =>
      obtain ⟨x', rfl⟩ := xg_long hx rfl
      obtain ⟨y', rfl⟩ := xg_long hy rfl
      exact W.lcmp C.1 C.2.1 hd (any h _)
    | .inr (.inr (.inr (.inl _))), .inr (.inr (.inr (.inr _))), hx, hy, h =>
      obtain ⟨x', rfl⟩ := xg_long hx rfl
      obtain ⟨y', rfl⟩ := xg_long hy rfl
      exact W.lcmp C.1 C.2.1 hd (any h _)
    | .inl _, _, _, _, h => exact absurd h (by simp [xo_lcmp])
    | .inr (.inl _), _, _, _, h => exact absurd h (by simp [xo_lcmp])
    | .inr (.inr (.inl _)), _, _, _, h => exact absurd h (by simp [xo_lcmp])
    | .inr (.inr (.inr (.inl _))), .inl _, _, _, h => exact absurd h (by simp [xo_lcmp])
    | .inr (.inr (.inr (.inl _))), .inr (.inl _), _, _, h => exact absurd h (by simp [xo_lcmp])
    | .inr (.inr (.inr (.inl _))), .inr (.inr (.inl _)), _, _, h => exact absurd h (by simp [xo_lcmp])
    | .inr (.inr (.inr (.inr o))), .inl _, _, _, h => exact absurd h (by cases o <;> simp [xo_lcmp])
    | .inr (.inr (.inr (.inr o))), .inr (.inl _), _, _, h => exact absurd h (by cases o <;> simp [xo_lcmp])
    | .inr (.inr (.inr (.inr o))), .inr (.inr (.inl _)), _, _, h => exact absurd h (by cases o <;> simp [xo_lcmp])
  | (lv, [], r), h => exact absurd h (by simp [xo_lcmp])
  | (lv, [_], r), h => exact absurd h (by simp [xo_lcmp])
theorem xcat1 {x : xV} {v : Value} (h : xg ρ base x v) (hk : xis x < 2) : v.category = 1 := by rw [xg_cat h, if_neg (by omega)]
theorem xl_dup (IH : xIH ρ base F Ts Ns cl tys D dA la okc Ms ih) (hme : me ∈ Ms) (hok : okc me cs = true) (hn : xatp (pc + 1) cs) (hd : decode me.2.1 pc = .ok (.dup, 1)) (h : xo_dup ih me cs a b l A k = true) : xGd ρ base F Ts Ns cl tys D dA la me pc A k := by
  match A, h with
  | (lv, v :: st, r), h =>
    unfold xo_dup at h
    obtain ⟨hk, h⟩ := xcond h
    have k1 := xblt.mp hk
    intro p e s m args below meth c C H locs ls stc hI hL
    obtain ⟨cv, stc, rfl, hv, hst⟩ := xSR_cons hI.2.2.1
    exact lv_dup C.1 C.2.1 hd (xcat1 hv k1) (IH me cs _ k (pc + 1) hme h hok hn p e s m args below meth c C H locs ls _ ⟨hI.1, hI.2.1, ⟨hv, ⟨hv, hst⟩⟩, hI.2.2.2⟩ hL)
  | (lv, [], r), h => exact absurd h (by simp [xo_dup])
theorem xl_pop (IH : xIH ρ base F Ts Ns cl tys D dA la okc Ms ih) (hme : me ∈ Ms) (hok : okc me cs = true) (hn : xatp (pc + 1) cs) (hd : decode me.2.1 pc = .ok (.pop, 1)) (h : xo_pop ih me cs a b l A k = true) : xGd ρ base F Ts Ns cl tys D dA la me pc A k := by
  match A, h with
  | (lv, v :: st, r), h =>
    unfold xo_pop at h
    obtain ⟨hk, h⟩ := xcond h
    have k1 := xblt.mp hk
    intro p e s m args below meth c C H locs ls stc hI hL
    obtain ⟨cv, stc, rfl, hv, hst⟩ := xSR_cons hI.2.2.1
    exact lv_pop C.1 C.2.1 hd (xcat1 hv k1) (IH me cs _ k (pc + 1) hme h hok hn p e s m args below meth c C H locs ls _ ⟨hI.1, hI.2.1, hst, hI.2.2.2⟩ hL)
  | (lv, [], r), h => exact absurd h (by simp [xo_pop])
theorem xl_dupx1 (IH : xIH ρ base F Ts Ns cl tys D dA la okc Ms ih) (hme : me ∈ Ms) (hok : okc me cs = true) (hn : xatp (pc + 1) cs) (hd : decode me.2.1 pc = .ok (.dup_x1, 1)) (h : xo_dupx1 ih me cs a b l A k = true) : xGd ρ base F Ts Ns cl tys D dA la me pc A k := by
  match A, h with
  | (lv, v :: w :: st, r), h =>
    unfold xo_dupx1 at h
    obtain ⟨hk, h⟩ := xcond h
    have k1 := xblt.mp (xand hk).1
    have k2 := xblt.mp (xand hk).2
    intro p e s m args below meth c C H locs ls stc hI hL
    obtain ⟨cv, stc, rfl, hv, hst0⟩ := xSR_cons hI.2.2.1
    obtain ⟨cw, stc, rfl, hw, hst⟩ := xSR_cons hst0
    exact lv_dup_x1 C.1 C.2.1 hd (xcat1 hv k1) (xcat1 hw k2) (IH me cs _ k (pc + 1) hme h hok hn p e s m args below meth c C H locs ls _ ⟨hI.1, hI.2.1, ⟨hv, ⟨hw, ⟨hv, hst⟩⟩⟩, hI.2.2.2⟩ hL)
  | (lv, [], r), h => exact absurd h (by simp [xo_dupx1])
  | (lv, [_], r), h => exact absurd h (by simp [xo_dupx1])
theorem xl_dupx2 (IH : xIH ρ base F Ts Ns cl tys D dA la okc Ms ih) (hme : me ∈ Ms) (hok : okc me cs = true) (hn : xatp (pc + 1) cs) (hd : decode me.2.1 pc = .ok (.dup_x2, 1)) (h : xo_dupx2 ih me cs a b l A k = true) : xGd ρ base F Ts Ns cl tys D dA la me pc A k := by
  match A, h with
  | (lv, v :: w :: z :: st, r), h =>
    unfold xo_dupx2 at h
    obtain ⟨hk, h⟩ := xcond h
    have k1 := xblt.mp (xand hk).1
    have k2 := xblt.mp (xand (xand hk).2).1
    have k3 := xblt.mp (xand (xand hk).2).2
    intro p e s m args below meth c C H locs ls stc hI hL
    obtain ⟨cv, stc, rfl, hv, hst0⟩ := xSR_cons hI.2.2.1
    obtain ⟨cw, stc, rfl, hw, hst1⟩ := xSR_cons hst0
    obtain ⟨cz, stc, rfl, hz, hst⟩ := xSR_cons hst1
    exact lv_dup_x2 C.1 C.2.1 hd (xcat1 hv k1) (xcat1 hw k2) (xcat1 hz k3) (IH me cs _ k (pc + 1) hme h hok hn p e s m args below meth c C H locs ls _ ⟨hI.1, hI.2.1, ⟨hv, ⟨hw, ⟨hz, ⟨hv, hst⟩⟩⟩⟩, hI.2.2.2⟩ hL)
  | (lv, [], r), h => exact absurd h (by simp [xo_dupx2])
  | (lv, [_], r), h => exact absurd h (by simp [xo_dupx2])
  | (lv, [_, _], r), h => exact absurd h (by simp [xo_dupx2])
theorem xl_dup2 (IH : xIH ρ base F Ts Ns cl tys D dA la okc Ms ih) (hme : me ∈ Ms) (hok : okc me cs = true) (hn : xatp (pc + 1) cs) (hd : decode me.2.1 pc = .ok (.dup2, 1)) (h : xo_dup2 ih me cs a b l A k = true) : xGd ρ base F Ts Ns cl tys D dA la me pc A k := by
  match A, h with
  | (lv, v :: w :: st, r), h =>
    unfold xo_dup2 at h
    obtain ⟨hk, h⟩ := xcond h
    have k1 := xblt.mp (xand hk).1
    have k2 := xblt.mp (xand hk).2
    intro p e s m args below meth c C H locs ls stc hI hL
    obtain ⟨cv, stc, rfl, hv, hst0⟩ := xSR_cons hI.2.2.1
    obtain ⟨cw, stc, rfl, hw, hst⟩ := xSR_cons hst0
    exact lv_dup2_11 C.1 C.2.1 hd (xcat1 hv k1) (xcat1 hw k2) (IH me cs _ k (pc + 1) hme h hok hn p e s m args below meth c C H locs ls _ ⟨hI.1, hI.2.1, ⟨hv, ⟨hw, ⟨hv, ⟨hw, hst⟩⟩⟩⟩, hI.2.2.2⟩ hL)
  | (lv, [], r), h => exact absurd h (by simp [xo_dup2])
  | (lv, [_], r), h => exact absurd h (by simp [xo_dup2])
/-- a jump: where it goes, the code is explored -/
theorem xl_jmp (hj : ∀ i r, (i :: r) <:+ xcd me → okc me (i :: r) = true) (IH : xIH ρ base F Ts Ns cl tys D dA la okc Ms ih) (hme : me ∈ Ms) {t : Nat} {A' : xA} (h : xjmp (xcd me) t (fun cs => ih me cs A' k) = true) : xGd ρ base F Ts Ns cl tys D dA la me t A' k := by
  obtain ⟨i, r, h1, h2, h3⟩ := xjmp_of h
  exact IH me (i :: r) A' k t hme h3 (hj i r h2) (fun i' r' e => by cases e; exact h1)
theorem xl_icmp0 (hj : ∀ i r, (i :: r) <:+ xcd me → okc me (i :: r) = true) (IH : xIH ρ base F Ts Ns cl tys D dA la okc Ms ih) (hme : me ∈ Ms) (hok : okc me cs = true) (hn : xatp (pc + 3) cs) (h : xo_icmp ih me cs a b l A k = true)
    {p : Program} {e : Env} {s : State} {m : MethodId} {args : Array Value} {below : List Frame} {meth : Method} {c : Code} (C : xCx Ts Ns cl tys D dA p s m args meth c me) {H : Heap} {locs : List Loc} {ls : Array Slot} {stc : List Value} (hI : xIn ρ base F D dA tys cl me A H ls stc) (hL : va_S F s.heap H locs) :
    ∃ (x y : Int32) (rest : List Value), stc = .int y :: .int x :: rest ∧ (xP a x y → W p la e (xR me) s m args below meth c H locs A.2.2.2.2.2.1 A.2.2.2.2.2.2 (MQ below (xQ ρ base F D dA tys cl k) args s (xR me).cells (xR me).slots F) (F0 m b ls rest)) ∧ (¬ xP a x y → W p la e (xR me) s m args below meth c H locs A.2.2.2.2.2.1 A.2.2.2.2.2.2 (MQ below (xQ ρ base F D dA tys cl k) args s (xR me).cells (xR me).slots F) (F0 m (pc + 3) ls rest)) := by
  match A, h, hI with
  | (lv, y :: x :: st, env, r), h, hI =>
    unfold xo_icmp at h
    obtain ⟨vy, stc, rfl, hy, hst0⟩ := xSR_cons hI.2.2.1
    obtain ⟨vx, stc, rfl, hx, hst⟩ := xSR_cons hst0
    obtain ⟨x', y', rfl, rfl, env', t, he, h, ht⟩ := xcmp_of hI.1 hx hy h
    refine ⟨x', y', stc, rfl, fun hp => ?_, fun hp => ?_⟩
    · rw [ht.mpr hp] at h
      exact xl_jmp hj IH hme h p e s m args below meth c C H locs ls _ ⟨he, hI.2.1, hst, hI.2.2.2⟩ hL
    · have ht : t = false := by
        cases t with
        | false => rfl
        | true => exact absurd (ht.mp rfl) hp
      rw [ht] at h
      exact IH me cs _ k (pc + 3) hme h hok hn p e s m args below meth c C H locs ls _ ⟨he, hI.2.1, hst, hI.2.2.2⟩ hL
  | (lv, [], env, r), h, hI => exact absurd h (by simp [xo_icmp])
  | (lv, [_], env, r), h, hI => exact absurd h (by simp [xo_icmp])
theorem xl_if0 (hj : ∀ i r, (i :: r) <:+ xcd me → okc me (i :: r) = true) (IH : xIH ρ base F Ts Ns cl tys D dA la okc Ms ih) (hme : me ∈ Ms) (hok : okc me cs = true) (hn : xatp (pc + 3) cs) (h : xo_if ih me cs a b l A k = true)
    {p : Program} {e : Env} {s : State} {m : MethodId} {args : Array Value} {below : List Frame} {meth : Method} {c : Code} (C : xCx Ts Ns cl tys D dA p s m args meth c me) {H : Heap} {locs : List Loc} {ls : Array Slot} {stc : List Value} (hI : xIn ρ base F D dA tys cl me A H ls stc) (hL : va_S F s.heap H locs) :
    ∃ (x : Int32) (rest : List Value), stc = .int x :: rest ∧ (xP a x 0 → W p la e (xR me) s m args below meth c H locs A.2.2.2.2.2.1 A.2.2.2.2.2.2 (MQ below (xQ ρ base F D dA tys cl k) args s (xR me).cells (xR me).slots F) (F0 m b ls rest)) ∧ (¬ xP a x 0 → W p la e (xR me) s m args below meth c H locs A.2.2.2.2.2.1 A.2.2.2.2.2.2 (MQ below (xQ ρ base F D dA tys cl k) args s (xR me).cells (xR me).slots F) (F0 m (pc + 3) ls rest)) := by
  match A, h, hI with
  | (lv, x :: st, env, r), h, hI =>
    unfold xo_if at h
    obtain ⟨vx, stc, rfl, hx, hst⟩ := xSR_cons hI.2.2.1
    obtain ⟨x', y', rfl, hy', env', t, he, h, ht⟩ := xcmp_of (b := .inl 0) (vb := .int (nI 0)) hI.1 hx rfl h
    have hy0 : y' = 0 := by cases hy'; rfl
    subst hy0
    refine ⟨x', stc, rfl, fun hp => ?_, fun hp => ?_⟩
    · rw [ht.mpr hp] at h
      exact xl_jmp hj IH hme h p e s m args below meth c C H locs ls _ ⟨he, hI.2.1, hst, hI.2.2.2⟩ hL
    · have ht : t = false := by
        cases t with
        | false => rfl
        | true => exact absurd (ht.mp rfl) hp
      rw [ht] at h
      exact IH me cs _ k (pc + 3) hme h hok hn p e s m args below meth c C H locs ls _ ⟨he, hI.2.1, hst, hI.2.2.2⟩ hL
  | (lv, [], env, r), h, hI => exact absurd h (by simp [xo_if])
theorem xl_icmp_eq {o : Int} (hj : ∀ i r, (i :: r) <:+ xcd me → okc me (i :: r) = true) (IH : xIH ρ base F Ts Ns cl tys D dA la okc Ms ih) (hme : me ∈ Ms) (hok : okc me cs = true) (hn : xatp (pc + 3) cs) (hd : decode me.2.1 pc = .ok (.if_icmp .eq o, 3)) (ht : (pc : Int) + o = (b : Int)) (ha : a = 0) (h : xo_icmp ih me cs a b l A k = true) : xGd ρ base F Ts Ns cl tys D dA la me pc A k := by
  subst ha
  intro p e s m args below meth c C H locs ls stc hI hL
  obtain ⟨x, y, rest, rfl, g1, g2⟩ := xl_icmp0 hj IH hme hok hn h C hI hL
  exact lv_icmp_eq C.1 C.2.1 hd ht g1 (g2)
theorem xl_if_eq {o : Int} (hj : ∀ i r, (i :: r) <:+ xcd me → okc me (i :: r) = true) (IH : xIH ρ base F Ts Ns cl tys D dA la okc Ms ih) (hme : me ∈ Ms) (hok : okc me cs = true) (hn : xatp (pc + 3) cs) (hd : decode me.2.1 pc = .ok (.ifCond .eq o, 3)) (ht : (pc : Int) + o = (b : Int)) (ha : a = 0) (h : xo_if ih me cs a b l A k = true) : xGd ρ base F Ts Ns cl tys D dA la me pc A k := by
  subst ha
  intro p e s m args below meth c C H locs ls stc hI hL
  obtain ⟨x, rest, rfl, g1, g2⟩ := xl_if0 hj IH hme hok hn h C hI hL
  exact lv_if_eq C.1 C.2.1 hd ht g1 (g2)
theorem xl_icmp_ne {o : Int} (hj : ∀ i r, (i :: r) <:+ xcd me → okc me (i :: r) = true) (IH : xIH ρ base F Ts Ns cl tys D dA la okc Ms ih) (hme : me ∈ Ms) (hok : okc me cs = true) (hn : xatp (pc + 3) cs) (hd : decode me.2.1 pc = .ok (.if_icmp .ne o, 3)) (ht : (pc : Int) + o = (b : Int)) (ha : a = 1) (h : xo_icmp ih me cs a b l A k = true) : xGd ρ base F Ts Ns cl tys D dA la me pc A k := by
  subst ha
  intro p e s m args below meth c C H locs ls stc hI hL
  obtain ⟨x, y, rest, rfl, g1, g2⟩ := xl_icmp0 hj IH hme hok hn h C hI hL
  exact lv_icmp_ne C.1 C.2.1 hd ht g1 (fun q => g2 (fun r => r q))
theorem xl_if_ne {o : Int} (hj : ∀ i r, (i :: r) <:+ xcd me → okc me (i :: r) = true) (IH : xIH ρ base F Ts Ns cl tys D dA la okc Ms ih) (hme : me ∈ Ms) (hok : okc me cs = true) (hn : xatp (pc + 3) cs) (hd : decode me.2.1 pc = .ok (.ifCond .ne o, 3)) (ht : (pc : Int) + o = (b : Int)) (ha : a = 1) (h : xo_if ih me cs a b l A k = true) : xGd ρ base F Ts Ns cl tys D dA la me pc A k := by
  subst ha
  intro p e s m args below meth c C H locs ls stc hI hL
  obtain ⟨x, rest, rfl, g1, g2⟩ := xl_if0 hj IH hme hok hn h C hI hL
  exact lv_if_ne C.1 C.2.1 hd ht g1 (fun q => g2 (fun r => r q))
theorem xl_icmp_lt {o : Int} (hj : ∀ i r, (i :: r) <:+ xcd me → okc me (i :: r) = true) (IH : xIH ρ base F Ts Ns cl tys D dA la okc Ms ih) (hme : me ∈ Ms) (hok : okc me cs = true) (hn : xatp (pc + 3) cs) (hd : decode me.2.1 pc = .ok (.if_icmp .lt o, 3)) (ht : (pc : Int) + o = (b : Int)) (ha : a = 2) (h : xo_icmp ih me cs a b l A k = true) : xGd ρ base F Ts Ns cl tys D dA la me pc A k := by
  subst ha
  intro p e s m args below meth c C H locs ls stc hI hL
  obtain ⟨x, y, rest, rfl, g1, g2⟩ := xl_icmp0 hj IH hme hok hn h C hI hL
  exact lv_icmp_lt C.1 C.2.1 hd ht g1 (g2)
theorem xl_if_lt {o : Int} (hj : ∀ i r, (i :: r) <:+ xcd me → okc me (i :: r) = true) (IH : xIH ρ base F Ts Ns cl tys D dA la okc Ms ih) (hme : me ∈ Ms) (hok : okc me cs = true) (hn : xatp (pc + 3) cs) (hd : decode me.2.1 pc = .ok (.ifCond .lt o, 3)) (ht : (pc : Int) + o = (b : Int)) (ha : a = 2) (h : xo_if ih me cs a b l A k = true) : xGd ρ base F Ts Ns cl tys D dA la me pc A k := by
  subst ha
  intro p e s m args below meth c C H locs ls stc hI hL
  obtain ⟨x, rest, rfl, g1, g2⟩ := xl_if0 hj IH hme hok hn h C hI hL
  exact lv_if_lt C.1 C.2.1 hd ht g1 (g2)
theorem xl_icmp_ge {o : Int} (hj : ∀ i r, (i :: r) <:+ xcd me → okc me (i :: r) = true) (IH : xIH ρ base F Ts Ns cl tys D dA la okc Ms ih) (hme : me ∈ Ms) (hok : okc me cs = true) (hn : xatp (pc + 3) cs) (hd : decode me.2.1 pc = .ok (.if_icmp .ge o, 3)) (ht : (pc : Int) + o = (b : Int)) (ha : a = 3) (h : xo_icmp ih me cs a b l A k = true) : xGd ρ base F Ts Ns cl tys D dA la me pc A k := by
  subst ha
  intro p e s m args below meth c C H locs ls stc hI hL
  obtain ⟨x, y, rest, rfl, g1, g2⟩ := xl_icmp0 hj IH hme hok hn h C hI hL
  exact lv_icmp_ge C.1 C.2.1 hd ht g1 (g2)
theorem xl_if_ge {o : Int} (hj : ∀ i r, (i :: r) <:+ xcd me → okc me (i :: r) = true) (IH : xIH ρ base F Ts Ns cl tys D dA la okc Ms ih) (hme : me ∈ Ms) (hok : okc me cs = true) (hn : xatp (pc + 3) cs) (hd : decode me.2.1 pc = .ok (.ifCond .ge o, 3)) (ht : (pc : Int) + o = (b : Int)) (ha : a = 3) (h : xo_if ih me cs a b l A k = true) : xGd ρ base F Ts Ns cl tys D dA la me pc A k := by
  subst ha
  intro p e s m args below meth c C H locs ls stc hI hL
  obtain ⟨x, rest, rfl, g1, g2⟩ := xl_if0 hj IH hme hok hn h C hI hL
  exact lv_if_ge C.1 C.2.1 hd ht g1 (g2)
theorem xl_icmp_gt {o : Int} (hj : ∀ i r, (i :: r) <:+ xcd me → okc me (i :: r) = true) (IH : xIH ρ base F Ts Ns cl tys D dA la okc Ms ih) (hme : me ∈ Ms) (hok : okc me cs = true) (hn : xatp (pc + 3) cs) (hd : decode me.2.1 pc = .ok (.if_icmp .gt o, 3)) (ht : (pc : Int) + o = (b : Int)) (ha : a = 4) (h : xo_icmp ih me cs a b l A k = true) : xGd ρ base F Ts Ns cl tys D dA la me pc A k := by
  subst ha
  intro p e s m args below meth c C H locs ls stc hI hL
  obtain ⟨x, y, rest, rfl, g1, g2⟩ := xl_icmp0 hj IH hme hok hn h C hI hL
  exact lv_icmp_gt C.1 C.2.1 hd ht g1 (g2)
theorem xl_if_gt {o : Int} (hj : ∀ i r, (i :: r) <:+ xcd me → okc me (i :: r) = true) (IH : xIH ρ base F Ts Ns cl tys D dA la okc Ms ih) (hme : me ∈ Ms) (hok : okc me cs = true) (hn : xatp (pc + 3) cs) (hd : decode me.2.1 pc = .ok (.ifCond .gt o, 3)) (ht : (pc : Int) + o = (b : Int)) (ha : a = 4) (h : xo_if ih me cs a b l A k = true) : xGd ρ base F Ts Ns cl tys D dA la me pc A k := by
  subst ha
  intro p e s m args below meth c C H locs ls stc hI hL
  obtain ⟨x, rest, rfl, g1, g2⟩ := xl_if0 hj IH hme hok hn h C hI hL
  exact lv_if_gt C.1 C.2.1 hd ht g1 (g2)
theorem xl_icmp_le {o : Int} (hj : ∀ i r, (i :: r) <:+ xcd me → okc me (i :: r) = true) (IH : xIH ρ base F Ts Ns cl tys D dA la okc Ms ih) (hme : me ∈ Ms) (hok : okc me cs = true) (hn : xatp (pc + 3) cs) (hd : decode me.2.1 pc = .ok (.if_icmp .le o, 3)) (ht : (pc : Int) + o = (b : Int)) (ha : a = 5) (h : xo_icmp ih me cs a b l A k = true) : xGd ρ base F Ts Ns cl tys D dA la me pc A k := by
  subst ha
  intro p e s m args below meth c C H locs ls stc hI hL
  obtain ⟨x, y, rest, rfl, g1, g2⟩ := xl_icmp0 hj IH hme hok hn h C hI hL
  exact lv_icmp_le C.1 C.2.1 hd ht g1 (g2)
theorem xl_if_le {o : Int} (hj : ∀ i r, (i :: r) <:+ xcd me → okc me (i :: r) = true) (IH : xIH ρ base F Ts Ns cl tys D dA la okc Ms ih) (hme : me ∈ Ms) (hok : okc me cs = true) (hn : xatp (pc + 3) cs) (hd : decode me.2.1 pc = .ok (.ifCond .le o, 3)) (ht : (pc : Int) + o = (b : Int)) (ha : a = 5) (h : xo_if ih me cs a b l A k = true) : xGd ρ base F Ts Ns cl tys D dA la me pc A k := by
  subst ha
  intro p e s m args below meth c C H locs ls stc hI hL
  obtain ⟨x, rest, rfl, g1, g2⟩ := xl_if0 hj IH hme hok hn h C hI hL
  exact lv_if_le C.1 C.2.1 hd ht g1 (g2)
theorem xl_goto {o : Int} (hj : ∀ i r, (i :: r) <:+ xcd me → okc me (i :: r) = true) (IH : xIH ρ base F Ts Ns cl tys D dA la okc Ms ih) (hme : me ∈ Ms) (hd : decode me.2.1 pc = .ok (.goto o, 3)) (ht : (pc : Int) + o = (b : Int)) (h : xo_goto ih me cs a b l A k = true) : xGd ρ base F Ts Ns cl tys D dA la me pc A k := by
  intro p e s m args below meth c C H locs ls stc hI hL
  exact lv_goto C.1 C.2.1 hd ht (xl_jmp hj IH hme h p e s m args below meth c C H locs ls stc hI hL)
theorem xl_ifnull {o : Int} (hj : ∀ i r, (i :: r) <:+ xcd me → okc me (i :: r) = true) (IH : xIH ρ base F Ts Ns cl tys D dA la okc Ms ih) (hme : me ∈ Ms) (hok : okc me cs = true) (hn : xatp (pc + 3) cs) (hd : decode me.2.1 pc = .ok (.ifnull o, 3)) (ht : (pc : Int) + o = (b : Int)) (ha : a = 0) (h : xo_ifnull ih me cs a b l A k = true) : xGd ρ base F Ts Ns cl tys D dA la me pc A k := by
  subst ha
  match A, h with
  | (lv, .inr (.inr (.inl none)) :: st, r), h =>
    unfold xo_ifnull at h
    intro p e s m args below meth c C H locs ls stc hI hL
    obtain ⟨v, stc, rfl, hv, hst⟩ := xSR_cons hI.2.2.1
    cases hv
    exact lv_ifnullN C.1 C.2.1 hd ht (xl_jmp hj IH hme h p e s m args below meth c C H locs ls _ ⟨hI.1, hI.2.1, hst, hI.2.2.2⟩ hL)
  | (lv, .inr (.inr (.inl (some _))) :: st, r), h =>
    unfold xo_ifnull at h
    intro p e s m args below meth c C H locs ls stc hI hL
    obtain ⟨v, stc, rfl, hv, hst⟩ := xSR_cons hI.2.2.1
    cases hv
    exact lv_ifnull C.1 C.2.1 hd (IH me cs _ k (pc + 3) hme h hok hn p e s m args below meth c C H locs ls _ ⟨hI.1, hI.2.1, hst, hI.2.2.2⟩ hL)
  | (lv, [], r), h => exact absurd h (by simp [xo_ifnull])
  | (lv, .inl _ :: _, r), h => exact absurd h (by simp [xo_ifnull])
  | (lv, .inr (.inl _) :: _, r), h => exact absurd h (by simp [xo_ifnull])
  | (lv, .inr (.inr (.inr _)) :: _, r), h => exact absurd h (by simp [xo_ifnull])
theorem xl_ifnonnull {o : Int} (hj : ∀ i r, (i :: r) <:+ xcd me → okc me (i :: r) = true) (IH : xIH ρ base F Ts Ns cl tys D dA la okc Ms ih) (hme : me ∈ Ms) (hok : okc me cs = true) (hn : xatp (pc + 3) cs) (hd : decode me.2.1 pc = .ok (.ifnonnull o, 3)) (ht : (pc : Int) + o = (b : Int)) (ha : a = 1) (h : xo_ifnull ih me cs a b l A k = true) : xGd ρ base F Ts Ns cl tys D dA la me pc A k := by
  subst ha
  match A, h with
  | (lv, .inr (.inr (.inl none)) :: st, r), h =>
    unfold xo_ifnull at h
    intro p e s m args below meth c C H locs ls stc hI hL
    obtain ⟨v, stc, rfl, hv, hst⟩ := xSR_cons hI.2.2.1
    cases hv
    exact lv_ifnonnullN C.1 C.2.1 hd (IH me cs _ k (pc + 3) hme h hok hn p e s m args below meth c C H locs ls _ ⟨hI.1, hI.2.1, hst, hI.2.2.2⟩ hL)
  | (lv, .inr (.inr (.inl (some _))) :: st, r), h =>
    unfold xo_ifnull at h
    intro p e s m args below meth c C H locs ls stc hI hL
    obtain ⟨v, stc, rfl, hv, hst⟩ := xSR_cons hI.2.2.1
    cases hv
    exact lv_ifnonnull C.1 C.2.1 hd ht (xl_jmp hj IH hme h p e s m args below meth c C H locs ls _ ⟨hI.1, hI.2.1, hst, hI.2.2.2⟩ hL)
  | (lv, [], r), h => exact absurd h (by simp [xo_ifnull])
  | (lv, .inl _ :: _, r), h => exact absurd h (by simp [xo_ifnull])
  | (lv, .inr (.inl _) :: _, r), h => exact absurd h (by simp [xo_ifnull])
  | (lv, .inr (.inr (.inr _)) :: _, r), h => exact absurd h (by simp [xo_ifnull])
end XR
end
section
/-! rows of the instructions: fields, new, arrays, answers -/
section XF
variable {ρ : Nat → Int32} {base : Nat} {F : Nat → Prop} {Ts Ns : List Jvm.Cond} {cl : List vw_C} {tys : List FieldType} {D : va_G} {dA : Nat → ClassId} {la : Launch} {okc : xM → List xI → Bool} {Ms : List xM} {ih : xIh} {me : xM} {cs : List xI} {a b : Nat} {l : List Nat} {A : xA} {k : xK} {pc : Nat}
theorem xP1 {q : Nat × va_E} {H : Heap} (h : va_at D cl q H) : va_P D cl [q] H := by
  intro i x hx
  have hz : i < 1 := (List.getElem?_eq_some_iff.mp hx).1
  rw [show i = 0 by omega] at hx
  cases hx
  exact h
theorem xobj {o : Nat} {c : xC} {H : Heap} (h : xCR ρ base D dA tys cl o c H) (hc : c.1 < 100) : ∃ fs : List Value, xFR ρ base c.2.1 c.2.2 fs ∧ va_at D cl (base + o, .inr (c.1, fs)) H := by
  obtain ⟨fs, h1, h2⟩ := h
  rcases h2 with ⟨-, h3⟩ | ⟨h3, -⟩
  · exact ⟨fs, h1, h3⟩
  · exact absurd hc (by omega)
theorem xarr {o : Nat} {c : xC} {H : Heap} (h : xCR ρ base D dA tys cl o c H) (hc : 100 ≤ c.1) : ∃ fs : List Value, xFR ρ base c.2.1 c.2.2 fs ∧ H[base + o]? = some (arrV (dA (c.1 - 100)) fs.length (vp_V fs)) ∧ ∃ ty, tys[c.1 - 100]? = some ty ∧ ∀ v ∈ fs, fits ty v = true := by
  obtain ⟨fs, h1, h2⟩ := h
  rcases h2 with ⟨h3, -⟩ | ⟨-, h3⟩
  · exact absurd hc (by omega)
  · exact ⟨fs, h1, h3⟩
theorem xl_getf0 (IH : xIH ρ base F Ts Ns cl tys D dA la okc Ms ih) (hme : me ∈ Ms) (hok : okc me cs = true) (hn : xatp (pc + 3) cs) (ha : a < 100) (h : xo_getf ih me cs a b l A k = true)
    {p : Program} {e : Env} {s : State} {m : MethodId} {args : Array Value} {below : List Frame} {meth : Method} {c : Code} (C : xCx Ts Ns cl tys D dA p s m args meth c me) {H : Heap} {locs : List Loc} {ls : Array Slot} {stc : List Value} (hI : xIn ρ base F D dA tys cl me A H ls stc) (hL : va_S F s.heap H locs) :
    ∃ (o : Nat) (rest fs : List Value) (v : Value), stc = .ref o :: rest ∧ va_P D cl [(o, .inr (a, fs))] H ∧ fs[b]? = some v ∧ W p la e (xR me) s m args below meth c H locs A.2.2.2.2.2.1 A.2.2.2.2.2.2 (MQ below (xQ ρ base F D dA tys cl k) args s (xR me).cells (xR me).slots F) (F0 m (pc + 3) ls (v :: rest)) := by
  match A, h, hI with
  | (lv, .inr (.inr (.inl (some o))) :: st, env, hp, r), h, hI =>
    unfold xo_getf at h
    obtain ⟨vo, stc, rfl, ho, hst⟩ := xSR_cons hI.2.2.1
    cases ho
    obtain ⟨c0, hc, h⟩ := xhget_of h
    obtain ⟨hk, h⟩ := xcond h
    have hk := Nat.eq_of_beq_eq_true hk
    obtain ⟨x, hx, h⟩ := xhget_of h
    obtain ⟨fs, hfs, hat⟩ := xobj (hI.2.2.2.1.2 o c0 hc) (by rw [hk]; exact ha)
    obtain ⟨v, hv, hg⟩ := hfs.2 b x hx
    rw [hk] at hat
    exact ⟨base + o, stc, fs, v, rfl, xP1 hat, hv, IH me cs _ k (pc + 3) hme h hok hn p e s m args below meth c C H locs ls _ ⟨hI.1, hI.2.1, ⟨hg, hst⟩, hI.2.2.2⟩ hL⟩
  | (lv, [], r), h, hI => exact absurd h (by simp [xo_getf])
  | (lv, .inl _ :: _, r), h, hI => exact absurd h (by simp [xo_getf])
  | (lv, .inr (.inl _) :: _, r), h, hI => exact absurd h (by simp [xo_getf])
  | (lv, .inr (.inr (.inl none)) :: _, r), h, hI => exact absurd h (by simp [xo_getf])
  | (lv, .inr (.inr (.inr _)) :: _, r), h, hI => exact absurd h (by simp [xo_getf])
theorem xl_getf {idx : Nat} {C : String} {T : u_T} {N : Nat} (IH : xIH ρ base F Ts Ns cl tys D dA la okc Ms ih) (hme : me ∈ Ms) (hok : okc me cs = true) (hn : xatp (pc + 3) cs) (hd : decode me.2.1 pc = .ok (.getfield idx, 3)) (ha : a < 100) (hcl : cl[a]? = some (C, T, N)) (hb : b < N) (hu : ∀ w ∈ u_ws C T N, w ∈ Ts) (hlk : Jvm.Cond.fieldLink me.1.cls idx (T b).1 (T b).2.1 (T b).2.2.1 ∈ Ts) (h : xo_getf ih me cs a b l A k = true) : xGd ρ base F Ts Ns cl tys D dA la me pc A k := by
  intro p e s m args below meth c X H locs ls stc hI hL
  obtain ⟨o, rest, fs, v, rfl, hP, hv, g⟩ := xl_getf0 IH hme hok hn ha h X hI hL
  obtain ⟨hx, hbc, _, _, _, _, hown, hts, _, hK, _⟩ := X
  exact va_get (D := D) (ci := a) (v := v) (C := C) (T := T) (N := N) hx hbc hts (fun w hw => List.mem_cons_of_mem _ (hu w hw)) hown hK hP 0 rfl hcl b hb (hts _ (List.mem_cons_of_mem _ hlk)) (fun _ h9 => h9) hv hd g
theorem xl_getfN {idx : Nat} {C host : String} {T : u_T} {N : Nat} (IH : xIH ρ base F Ts Ns cl tys D dA la okc Ms ih) (hme : me ∈ Ms) (hok : okc me cs = true) (hn : xatp (pc + 3) cs) (hd : decode me.2.1 pc = .ok (.getfield idx, 3)) (ha : a < 100) (hcl : cl[a]? = some (C, T, N)) (hb : b < N) (hu : ∀ w ∈ u_ws C T N, w ∈ Ts) (hlk : Jvm.Cond.fieldLinkNest me.1.cls idx (T b).1 (T b).2.1 (T b).2.2.1 host ∈ Ns) (h : xo_getf ih me cs a b l A k = true) : xGd ρ base F Ts Ns cl tys D dA la me pc A k := by
  intro p e s m args below meth c X H locs ls stc hI hL
  obtain ⟨o, rest, fs, v, rfl, hP, hv, g⟩ := xl_getf0 IH hme hok hn ha h X hI hL
  obtain ⟨hx, hbc, _, _, _, _, hown, hts, hns, hK, _⟩ := X
  exact va_getN (D := D) (ci := a) (v := v) (C := C) (T := T) (N := N) hx hbc hts (fun w hw => List.mem_cons_of_mem _ (hu w hw)) hown hK hP 0 rfl hcl b hb (va_Nw.use rfl (hns _ hlk)) (fun _ h9 => h9) hv hd g
/-- kinds of types -/
def xkt : FieldType → Nat
  | .int => 0
  | .long => 2
  | .boolean => 3
  | .object _ => 1
  | .array _ => 1
  | _ => 9
theorem xfits_of {ty : FieldType} {x : xV} {v : Value} (h : xfits (xkt ty) x = true) (hg : xg ρ base x v) : narrow ty v = v ∧ fits ty v = true := by
  cases ty <;> (
    match x, h, hg with
    | .inl u, h, hg => first | (cases hg; exact ⟨rfl, rfl⟩) | (
        have hu : u < 2 := xblt.mp h
        cases hg
        rcases (show u = 0 ∨ u = 1 by omega) with rfl | rfl <;> exact ⟨rfl, rfl⟩) | (exact absurd h (by simp [xfits, xkt]))
    | .inr (.inl none), h, hg => first | (obtain ⟨z, rfl⟩ := hg; exact ⟨rfl, rfl⟩) | (exact absurd h (by simp [xfits, xkt]))
    | .inr (.inl (some _)), h, hg => first | (cases hg; exact ⟨rfl, rfl⟩) | (exact absurd h (by simp [xfits, xkt]))
    | .inr (.inr (.inl none)), h, hg => first | (cases hg; exact ⟨rfl, rfl⟩) | (exact absurd h (by simp [xfits, xkt]))
    | .inr (.inr (.inl (some _))), h, hg => first | (cases hg; exact ⟨rfl, rfl⟩) | (exact absurd h (by simp [xfits, xkt]))
    | .inr (.inr (.inr (.inl _))), h, hg => first | (cases hg; exact ⟨rfl, rfl⟩) | (exact absurd h (by simp [xfits, xkt]))
    | .inr (.inr (.inr (.inr none))), h, hg => first | (obtain ⟨z, rfl⟩ := hg; exact ⟨rfl, rfl⟩) | (exact absurd h (by simp [xfits, xkt]))
    | .inr (.inr (.inr (.inr (some _)))), h, hg => first | (cases hg; exact ⟨rfl, rfl⟩) | (exact absurd h (by simp [xfits, xkt])))
/-- what the tables say of a class -/
def xTb (Ts : List Jvm.Cond) (C : String) (T : u_T) (N : Nat) : Prop := (∀ w ∈ u_ws C T N, w ∈ Ts) ∧ (∃ ty : Nat → FieldType, ∀ k, k < N → parseFieldDescriptor (T k).2.2.1 = some (ty k)) ∧ (∀ a, a < N → ∀ b, b < N → a ≠ b → (T a).2.1 ≠ (T b).2.1)
theorem xl_putf {idx : Nat} {C : String} {T : u_T} {N : Nat} {ty : FieldType} (IH : xIH ρ base F Ts Ns cl tys D dA la okc Ms ih) (hme : me ∈ Ms) (hok : okc me cs = true) (hn : xatp (pc + 3) cs) (hd : decode me.2.1 pc = .ok (.putfield idx, 3)) (ha : a < 100) (hcl : cl[a]? = some (C, T, N)) (hb : b < N) (hT : xTb Ts C T N)
    (hlk : (Jvm.Cond.fieldLink me.1.cls idx (T b).1 (T b).2.1 (T b).2.2.1 ∈ Ts ∧ ((T b).2.2.2 = false ∨ ((T b).2.2.2 = true ∧ me.1.name = "<init>" ∧ (T b).1 = me.1.cls))) ∨ ((T b).2.2.2 = false ∧ ∃ host, Jvm.Cond.fieldLinkNest me.1.cls idx (T b).1 (T b).2.1 (T b).2.2.1 host ∈ Ns)) (hty : parseFieldDescriptor (T b).2.2.1 = some ty) (hl : l.getD 0 9 = xkt ty) (h : xo_putf ih me cs a b l A k = true) : xGd ρ base F Ts Ns cl tys D dA la me pc A k := by
  intro p e s m args below meth c X H locs ls stc hI hL
  match A, h, hI with
  | (lv, x :: .inr (.inr (.inl (some o))) :: st, env, hp, n, uc, us), h, hI =>
    unfold xo_putf at h
    obtain ⟨vx, stc, rfl, hgx, hst0⟩ := xSR_cons hI.2.2.1
    obtain ⟨vo, stc, rfl, ho, hst⟩ := xSR_cons hst0
    cases ho
    obtain ⟨hf, h⟩ := xcond h
    rw [xnthD_eq, hl] at hf
    obtain ⟨hnr, hft⟩ := xfits_of hf hgx
    obtain ⟨c0, hc, h⟩ := xhget_of h
    obtain ⟨hk, h⟩ := xcond h
    have hk := Nat.eq_of_beq_eq_true hk
    obtain ⟨rw', h, r0, r1, r2⟩ := xhset_of h
    obtain ⟨hp', h, -, e1', e2'⟩ := xhset_of h
    obtain ⟨fs, hfs, hat⟩ := xobj (hI.2.2.2.1.2 o c0 hc) (by rw [hk]; exact ha)
    rw [hk] at hat
    obtain ⟨hlf, hfs'⟩ := xFR_set hfs r0 r1 r2 hgx
    have X0 := X
    obtain ⟨hx, hbc, _, _, _, hnm, hown, hts, hns, hK, _⟩ := X
    obtain ⟨hu, ⟨ty0, hty0⟩, hnd⟩ := hT
    have hin : ∀ w ∈ u_ws C T N, w ∈ xWs Ts me := fun w hw => List.mem_cons_of_mem _ (hu w hw)
    have hap := va_apart (own := me.1.cls) hts hin ty0 hty0 hnd hK hcl
    obtain ⟨r, h1, cell, q1, q2, q3, q4⟩ := hat
    have hr : r = (C, T, N) := Option.some.inj (h1.symm.trans hcl)
    subst hr
    obtain ⟨hS, hfc, kC, hkC, hkind⟩ := hK.1 a _ hcl
    obtain ⟨cf, kf, fi, f, hi, hsl⟩ := hS b hb
    have hlay := u_lays hts hin hb
    have hstt := (u_facts hfc hkC hlay hi).1
    have h6 := u_fits hfc hkC hkind hlay hi hty hnr hft
    have fin : ∀ H' : Heap, H'[base + o]? = some (cell.setSlot f.slot vx) → H'.size = H.size → (∀ q, q ≠ base + o → H'[q]? = H[q]?) → W p la e (xR me) s m args below meth c H' (locs ++ [⟨base + o, f.slot⟩]) uc us (MQ below (xQ ρ base F D dA tys cl k) args s (xR me).cells (xR me).slots F) (F0 m (pc + 3) ls stc) := by
      intro H' e1 e2 e3
      rw [hsl] at e1 ⊢
      refine IH me cs (lv, st, env, hp', n, uc, us) k (pc + 3) hme h hok hn p e s m args below meth c X0 H' _ ls stc ⟨hI.1, hI.2.1, hst, hI.2.2.2.1.put (c := (a, c0.2.1, rw')) (hI.2.2.2.1.1.2.1 o c0 hc) e2 e3 ⟨fs.set b vx, hfs', Or.inl ⟨ha, ⟨_, hcl, t_OB.to (V := updV (vp_V fs) b vx) ⟨_, e1, q2, q3, t_set q4 hap hb vx⟩ (fun j _ => vp_updV_set hlf vx j)⟩⟩⟩ e1' e2', hI.2.2.2.2⟩ (xSput hL (hI.2.2.2.1.1.2.1 o c0 hc) e2 e3 (fun l hl => by rw [List.mem_singleton.mp hl]))
    rcases hlk with ⟨hlk, hfn⟩ | ⟨hfn, host, hlk⟩
    · rcases hfn with hfn | ⟨hfn, hini, hdc⟩
      · have hlay2 := hts _ (hin _ (u_in_lay hb))
        unfold u_lay at hlay2
        rw [if_neg (by rw [hfn]; decide)] at hlay2
        have h7 := u_store hfc hkC hkind hlay2 hi hty hnr hft
        exact W.putK hx hbc (f := f) ⟨hown, hts _ (List.mem_cons_of_mem _ hlk), ⟨_, _, _, hi⟩, hstt⟩ (by rw [q2]; exact h7) q1 q3 (by rw [hsl]; exact k2_hasslot (q4 b hb)) rfl rfl hd fin
      · have hlay2 := hts _ (hin _ (u_in_lay hb))
        unfold u_lay at hlay2
        rw [if_pos hfn] at hlay2
        have hcf : m.cls = cf := by
          obtain ⟨_, _, c', _, _, _, -, -, hf', -, -, -, hown2, -⟩ := Cond.laysFinal_spec hlay2
          have e1 : c' = cf := by have := hi.symm.trans hf'; simp at this; exact this.1.symm
          rw [hdc] at hown2
          rw [← e1]; exact Option.some.inj (hown.symm.trans hown2)
        exact W.putFinK hx hbc hown (hts _ (List.mem_cons_of_mem _ hlk)) hi hstt hcf (by rw [hnm]; exact hini) (by rw [q2]; exact h6) q1 q3 (by rw [hsl]; exact k2_hasslot (q4 b hb)) rfl rfl hd fin
    · have hlay2 := hts _ (hin _ (u_in_lay hb))
      unfold u_lay at hlay2
      rw [if_neg (by rw [hfn]; decide)] at hlay2
      have h7 := u_store hfc hkC hkind hlay2 hi hty hnr hft
      exact va_WputK hx hbc (f := f) hown (va_Nw.use rfl (hns _ hlk)) hi hstt (by rw [q2]; exact h7) q1 q3 (by rw [hsl]; exact k2_hasslot (q4 b hb)) rfl rfl hd fin
  | (lv, [], r), h, hI => exact absurd h (by simp [xo_putf])
  | (lv, [_], r), h, hI => exact absurd h (by simp [xo_putf])
  | (lv, _ :: .inl _ :: _, r), h, hI => exact absurd h (by simp [xo_putf])
  | (lv, _ :: .inr (.inl _) :: _, r), h, hI => exact absurd h (by simp [xo_putf])
  | (lv, _ :: .inr (.inr (.inl none)) :: _, r), h, hI => exact absurd h (by simp [xo_putf])
  | (lv, _ :: .inr (.inr (.inr _)) :: _, r), h, hI => exact absurd h (by simp [xo_putf])
def xdefV : Nat → Value
  | 1 => .null
  | 2 => .long 0
  | _ => .int 0
theorem xdef_of : ∀ t : Nat, xg ρ base (xdef t) (xdefV t)
  | 0 => rfl
  | 1 => rfl
  | 2 => rfl
  | _ + 3 => rfl
theorem xdefs_of : ∀ l : List Nat, xSR ρ base (l.map xdef) (l.map xdefV)
  | [] => trivial
  | t :: l => ⟨xdef_of t, xdefs_of l⟩
theorem xdefT {ty : FieldType} (h : xkt ty ≠ 9) : defaultValue ty = xdefV (xkt ty) := by
  cases ty <;> first | rfl | exact absurd rfl h
theorem xdfit {ty : FieldType} (h : xkt ty ≠ 9) : fits ty (defaultValue ty) = true := by
  cases ty <;> first | rfl | exact absurd rfl h
theorem xl_new {idx : Nat} {C : String} {T : u_T} {N : Nat} (ty : Nat → FieldType) (IH : xIH ρ base F Ts Ns cl tys D dA la okc Ms ih) (hme : me ∈ Ms) (hok : okc me cs = true) (hn : xatp (pc + 3) cs) (hd : decode me.2.1 pc = .ok (.new idx, 3)) (ha : a < 100) (hcl : cl[a]? = some (C, T, N)) (hu : ∀ w ∈ u_ws C T N, w ∈ Ts) (hty : ∀ k, k < N → parseFieldDescriptor (T k).2.2.1 = some (ty k)) (hln : l.length = N) (hN : N ≤ 64) (hl : ∀ k, k < N → l[k]? = some (xkt (ty k)) ∧ xkt (ty k) ≠ 9)
    (h1 : Jvm.Cond.classLink me.1.cls idx C ∈ Ts) (h2 : Jvm.Cond.instantiable C N ∈ Ts) (h3 : Jvm.Cond.initialized C ∈ Ts) (h : xo_new ih me cs a b l A k = true) : xGd ρ base F Ts Ns cl tys D dA la me pc A k := by
  obtain ⟨lv, st, env, hp, n, uc, us⟩ := A
  unfold xo_new at h
  have h := xfN_of h
  have h := xfN_of h
  obtain ⟨hr, h⟩ := xcond h
  have hr1 := Nat.le_of_ble_eq_true (xand hr).1
  have hr2 := Nat.le_of_ble_eq_true (xand hr).2
  obtain ⟨hp', h, e1', e2'⟩ := xhpush_of h
  have h := xfN_of h
  rw [xlen_eq] at hr2 h
  intro p e s m args below meth c X H locs ls stc hI hL
  have X' := X
  obtain ⟨hx, hbc, -, -, -, -, hown, hts, -, hK, -⟩ := X'
  have hKn := hK.1 a _ hcl
  have hw : ∀ w ∈ Ts, w.before args s = true := fun w q => hts w (List.mem_cons_of_mem _ q)
  have hsz := hI.2.2.2.1.1.1
  refine W.newcK hx hbc hown (hw _ h1) (hw _ h2) (hw _ h3) rfl hd hr1 (by rw [← hln]; exact hr2) hKn.2.1 rfl fun H1 kC hkC e1 z1 o1 => ?_
  have hfs : ∀ j, j < N → defaultValue (ty j) = vp_V (l.map xdefV) j := by
    intro j hj
    rw [xdefT (hl j hj).2]
    simp [vp_V, (hl j hj).1]
  have hob := (u_born ty hts (fun w q => List.mem_cons_of_mem _ (hu w q)) hKn hkC e1 hty).to hfs
  rw [hsz] at hob e1
  have g := IH me cs (lv, xRef n :: st, env, hp', n + 1, uc + 1, us + l.length) k (pc + 3) hme h hok hn p e s m args below meth c X H1 locs ls (.ref (base + n) :: stc) ⟨hI.1, hI.2.1, ⟨rfl, hI.2.2.1⟩, hI.2.2.2.1.push (c := (a, xlen l, [l.map xdef])) z1 o1 ⟨l.map xdefV, by rw [xlen_eq, show l.length = (l.map xdef).length by simp]; exact xFR_one (xdefs_of l) (by simp; omega), Or.inl ⟨ha, ⟨_, hcl, hob⟩⟩⟩ e1' e2', hr1, hr2⟩ (xSpush hL (by rw [z1]; omega) o1)
  rw [hln] at g
  rw [hsz]
  exact g
/-! arrays -/
theorem xarr_set {cA : ClassId} {fs : List Value} {i : Nat} {v : Value} (hi : i < fs.length) : (arrV cA fs.length (vp_V fs)).setSlot i v = arrV cA (fs.set i v).length (vp_V (fs.set i v)) := by
  rw [arrV_store, List.length_set]
  congr 1
  funext j
  exact vp_updV_set hi v j
theorem xclamp {u : Nat} (h : u < 2147483648) : (nI u).toNatClampNeg = u := nI_clamp h
theorem xneg {u : Nat} (h : u < 2147483648) : ¬ nI u < 0 := nI_pos h
theorem xrepV (n : Nat) (v : Value) (cA : ClassId) : ({ cls := cA, slots := Array.replicate n v, vm := .none } : Cell) = arrV cA (List.replicate n v).length (vp_V (List.replicate n v)) := by
  rw [arrV_new, List.length_replicate]
  unfold arrV
  congr 1
  apply Array.ext
  · simp
  · intro i h1 h2
    have hi : i < n := by simpa using h1
    simp [vp_V, hi]
theorem xl_newa {atype : ArrayType} (IH : xIH ρ base F Ts Ns cl tys D dA la okc Ms ih) (hme : me ∈ Ms) (hok : okc me cs = true) (hn : xatp (pc + 2) cs) (hd : decode me.2.1 pc = .ok (.newarray atype, 2)) (ha : 100 ≤ a) (hty : tys[a - 100]? = some (Jvm.Op.newarray.typeOf atype)) (hb : b = xkt (Jvm.Op.newarray.typeOf atype)) (hb9 : b ≠ 9) (hbytes : componentBytes (Jvm.Op.newarray.typeOf atype) ≤ 8)
    (h1 : Jvm.Cond.arrayClass (Jvm.Op.newarray.typeOf atype) ∈ Ts) (h : xo_newa ih me cs a b l A k = true) : xGd ρ base F Ts Ns cl tys D dA la me pc A k := by
  match A, h with
  | (lv, .inl u :: st, env, hp, n, uc, us), h =>
    unfold xo_newa at h
    have h := xfN_of h
    have h := xfN_of h
    obtain ⟨hr, h⟩ := xcond h
    have hu := xblt.mp (xand hr).1
    have hr1 := Nat.le_of_ble_eq_true (xand (xand hr).2).1
    have hr2 := Nat.le_of_ble_eq_true (xand (xand hr).2).2
    obtain ⟨fs0, h, hfs0⟩ := xrows_of h
    obtain ⟨hp', h, e1', e2'⟩ := xhpush_of h
    have h := xfN_of h
    intro p e s m args below meth c X H locs ls stc hI hL
    obtain ⟨vu, stc, rfl, hvu, hst⟩ := xSR_cons hI.2.2.1
    cases hvu
    have X' := X
    obtain ⟨hx, hbc, -, -, -, -, hown, hts, -, hK, hKA⟩ := X'
    have hsz := hI.2.2.2.1.1.1
    have hcl := xclamp (show u < 2147483648 by omega)
    have hA := hKA.1 _ _ hty
    refine W.newa hx hbc (hts _ (List.mem_cons_of_mem _ h1)) rfl hd rfl (xneg (by omega)) (by rw [hcl]; calc u * componentBytes _ ≤ u * 8 := Nat.mul_le_mul_left _ hbytes
      _ ≤ 536870912 := by omega) hr1 (by rw [hcl]; exact hr2) fun cA kA comp f1 f2 f3 => ?_
    have hcA : cA = dA (a - 100) := Option.some.inj (f1.symm.trans hA.2)
    rw [hcl, hcA]
    have hdv : defaultValue (Jvm.Op.newarray.typeOf atype) = xdefV b := by rw [hb]; exact xdefT (by rw [← hb]; exact hb9)
    rw [hdv, xrepV]
    generalize hH1 : H.push (arrV (dA (a - 100)) (List.replicate u (xdefV b)).length (vp_V (List.replicate u (xdefV b)))) = H1
    have z1 : H1.size = H.size + 1 := by rw [← hH1, Array.size_push]
    have e1 : H1[H.size]? = some (arrV (dA (a - 100)) (List.replicate u (xdefV b)).length (vp_V (List.replicate u (xdefV b)))) := by rw [← hH1, Array.getElem?_push_size]
    have o1 : ∀ q : Nat, q < H.size → H1[q]? = H[q]? := fun q hq => by rw [← hH1, Array.getElem?_push, if_neg (Nat.ne_of_lt hq)]
    rw [hsz] at e1
    have g := IH me cs (lv, xRef n :: st, env, hp', n + 1, uc + 1, us + u) k (pc + 2) hme h hok hn p e s m args below meth c X H1 locs ls (.ref (base + n) :: stc) ⟨hI.1, hI.2.1, ⟨rfl, hst⟩, hI.2.2.2.1.push (c := (a, u, fs0)) z1 o1 ⟨_, xFR_rep hfs0 (xdef_of b), Or.inr ⟨ha, e1, _, hty, fun v hv => by rw [List.eq_of_mem_replicate hv, ← hdv]; exact xdfit (by rw [← hb]; exact hb9)⟩⟩ e1' e2', hr1, hr2⟩ (xSpush hL (by rw [z1]; omega) o1)
    rw [hsz]
    exact g
  | (lv, [], r), h => exact absurd h (by simp [xo_newa])
  | (lv, .inr _ :: _, r), h => exact absurd h (by simp [xo_newa])
theorem xl_alen (IH : xIH ρ base F Ts Ns cl tys D dA la okc Ms ih) (hme : me ∈ Ms) (hok : okc me cs = true) (hn : xatp (pc + 1) cs) (hd : decode me.2.1 pc = .ok (.arraylength, 1)) (hb : b = 100 + tys.length) (h : xo_alen ih me cs a b l A k = true) : xGd ρ base F Ts Ns cl tys D dA la me pc A k := by
  match A, h with
  | (lv, .inr (.inr (.inl (some o))) :: st, env, hp, r), h =>
    unfold xo_alen at h
    obtain ⟨c0, hc, h⟩ := xhget_of h
    obtain ⟨hk, h⟩ := xcond h
    have hk2 := xblt.mp (xand hk).2
    have hk := Nat.le_of_ble_eq_true (xand hk).1
    have h := xfN_of h
    intro p e s m args below meth c X H locs ls stc hI hL
    obtain ⟨vo, stc, rfl, ho, hst⟩ := xSR_cons hI.2.2.1
    cases ho
    obtain ⟨fs, hfs, hat, -⟩ := xarr (hI.2.2.2.1.2 o c0 hc) hk
    obtain ⟨ty, hty⟩ : ∃ ty, tys[c0.1 - 100]? = some ty := ⟨_, List.getElem?_eq_getElem (by omega)⟩
    have hA := X.2.2.2.2.2.2.2.2.2.2.1 _ _ hty
    refine W.alen X.1 X.2.1 hat (hA.1 _ _) (n := nI c0.2.1) (by rw [arrV_size, hfs.1]; rfl) rfl rfl hd ?_
    exact IH me cs _ k (pc + 1) hme h hok hn p e s m args below meth c X H locs ls _ ⟨hI.1, hI.2.1, ⟨rfl, hst⟩, hI.2.2.2⟩ hL
  | (lv, [], r), h => exact absurd h (by simp [xo_alen])
  | (lv, .inl _ :: _, r), h => exact absurd h (by simp [xo_alen])
  | (lv, .inr (.inl _) :: _, r), h => exact absurd h (by simp [xo_alen])
  | (lv, .inr (.inr (.inl none)) :: _, r), h => exact absurd h (by simp [xo_alen])
  | (lv, .inr (.inr (.inr _)) :: _, r), h => exact absurd h (by simp [xo_alen])
end XF
end
section
/-! rows of the instructions: array loads and stores, answers, calls -/
section XC
variable {ρ : Nat → Int32} {base : Nat} {F : Nat → Prop} {Ts Ns : List Jvm.Cond} {cl : List vw_C} {tys : List FieldType} {D : va_G} {dA : Nat → ClassId} {la : Launch} {okc : xM → List xI → Bool} {Ms : List xM} {ih : xIh} {me : xM} {cs : List xI} {a b : Nat} {l : List Nat} {A : xA} {k : xK} {pc : Nat}
theorem xuld_of {env : xE} {h : xH} {o : Nat} {i : xV} {kk : xV → Bool} (hr : xρ ρ env) (e : xuld env h o a kk i = true) : ∃ (j : Nat) (c : xC) (v : xV) (u : Nat), i = .inr (.inl (some j)) ∧ xat h o = some c ∧ c.1 = a ∧ xat c.2.2 0 = some v ∧ xat c.2.2 u = some v ∧ ρ j = nI u ∧ u < c.2.1 ∧ u < 2147483648 ∧ kk v = true := by
  cases i with
  | inl _ => exact absurd e (by simp [xuld])
  | inr i =>
    cases i with
    | inr _ => exact absurd e (by simp [xuld])
    | inl x =>
      cases x with
      | none => exact absurd e (by simp [xuld])
      | some j =>
        unfold xuld at e
        obtain ⟨c, hc, e⟩ := xhget_of e
        obtain ⟨hk, e⟩ := xcond e
        obtain ⟨v, hv, e⟩ := xhget_of e
        obtain ⟨h1, e⟩ := xcond e
        obtain ⟨h2, e⟩ := xcond e
        obtain ⟨h3, h4⟩ := xand h1
        obtain ⟨u, hu, hlt, hlt2⟩ := xidx_of hr (Nat.le_of_ble_eq_true h3) h4
        exact ⟨j, c, v, u, rfl, hc, Nat.eq_of_beq_eq_true hk, hv, xunif_of h2 u hlt, hu, hlt, hlt2, e⟩
theorem xust_of {env : xE} {h : xH} {o : Nat} {i v : xV} {kk : Bool} (hr : xρ ρ env) (e : xust env h o a v kk i = true) : ∃ (j : Nat) (c : xC) (u : Nat), i = .inr (.inl (some j)) ∧ xat h o = some c ∧ c.1 = a ∧ xat c.2.2 u = some v ∧ ρ j = nI u ∧ u < c.2.1 ∧ u < 2147483648 ∧ kk = true := by
  cases i with
  | inl _ => exact absurd e (by simp [xust])
  | inr i =>
    cases i with
    | inr _ => exact absurd e (by simp [xust])
    | inl x =>
      cases x with
      | none => exact absurd e (by simp [xust])
      | some j =>
        unfold xust at e
        obtain ⟨c, hc, e⟩ := xhget_of e
        obtain ⟨hk, e⟩ := xcond e
        obtain ⟨h1, e⟩ := xcond e
        obtain ⟨h2, e⟩ := xcond e
        obtain ⟨h3, h4⟩ := xand h1
        obtain ⟨u, hu, hlt, hlt2⟩ := xidx_of hr (Nat.le_of_ble_eq_true h3) h4
        exact ⟨j, c, u, rfl, hc, Nat.eq_of_beq_eq_true hk, xunif_of h2 u hlt, hu, hlt, hlt2, e⟩
theorem xl_ald0 (IH : xIH ρ base F Ts Ns cl tys D dA la okc Ms ih) (hme : me ∈ Ms) (hok : okc me cs = true) (hn : xatp (pc + 1) cs) (ha : 100 ≤ a) (h : xo_ald ih me cs a b l A k = true)
    {p : Program} {e : Env} {s : State} {m : MethodId} {args : Array Value} {below : List Frame} {meth : Method} {c : Code} (C : xCx Ts Ns cl tys D dA p s m args meth c me) {H : Heap} {locs : List Loc} {ls : Array Slot} {stc : List Value} (hI : xIn ρ base F D dA tys cl me A H ls stc) (hL : va_S F s.heap H locs) :
    ∃ (o : Nat) (i : Int32) (rest fs : List Value) (x : xV) (v : Value), stc = .int i :: .ref o :: rest ∧ H[o]? = some (arrV (dA (a - 100)) fs.length (vp_V fs)) ∧ ¬ (i < 0 ∨ (arrV (dA (a - 100)) fs.length (vp_V fs)).slots.size ≤ i.toNatClampNeg) ∧ (arrV (dA (a - 100)) fs.length (vp_V fs)).slots[i.toNatClampNeg]? = some v ∧ xg ρ base x v ∧ W p la e (xR me) s m args below meth c H locs A.2.2.2.2.2.1 A.2.2.2.2.2.2 (MQ below (xQ ρ base F D dA tys cl k) args s (xR me).cells (xR me).slots F) (F0 m (pc + 1) ls (v :: rest)) := by
  match A, h, hI with
  | (lv, i :: .inr (.inr (.inl (some o))) :: st, env, hp, r), h, hI =>
    unfold xo_ald at h
    obtain ⟨vi, stc, rfl, hi, hst0⟩ := xSR_cons hI.2.2.1
    obtain ⟨vo, stc, rfl, ho, hst⟩ := xSR_cons hst0
    cases ho
    obtain ⟨i', rfl, h⟩ := xci_of hI.1 hi h
    rcases h with ⟨env', u, he, hu, h⟩ | h
    · obtain ⟨hlt, h⟩ := xcond h
      have hlt := xblt.mp hlt
      obtain ⟨c0, hc, h⟩ := xhget_of h
      obtain ⟨hk, h⟩ := xcond h
      have hk := Nat.eq_of_beq_eq_true hk
      obtain ⟨x, hx, h⟩ := xhget_of h
      obtain ⟨fs, hfs, hat, -⟩ := xarr (hI.2.2.2.1.2 o c0 hc) (by rw [hk]; exact ha)
      obtain ⟨v, hv, hg⟩ := hfs.2 u x hx
      rw [hk] at hat
      have hul : u < fs.length := (List.getElem?_eq_some_iff.mp hv).1
      subst hu
      refine ⟨base + o, nI u, stc, fs, x, v, rfl, hat, ?_, ?_, hg, IH me cs _ k (pc + 1) hme h hok hn p e s m args below meth c C H locs ls _ ⟨he, hI.2.1, ⟨hg, hst⟩, hI.2.2.2⟩ hL⟩
      · rw [arrV_size, xclamp hlt]
        intro q
        rcases q with q | q
        · exact xneg hlt q
        · omega
      · rw [xclamp hlt, arrV_read _ _ hul]
        simp [vp_V, hv]
    · obtain ⟨j, c0, v0, u, rfl, hc, hk, hv0, hx, hu, hul0, hlt, h⟩ := xuld_of hI.1 h
      obtain ⟨fs, hfs, hat, -⟩ := xarr (hI.2.2.2.1.2 o c0 hc) (by rw [hk]; exact ha)
      obtain ⟨v, hv, hg⟩ := hfs.2 u v0 hx
      rw [hk] at hat
      have hul : u < fs.length := (List.getElem?_eq_some_iff.mp hv).1
      have hi : Value.int i' = Value.int (ρ j) := hi
      have hu : i' = nI u := by injection hi with hi; rw [hi, hu]
      subst hu
      refine ⟨base + o, nI u, stc, fs, v0, v, rfl, hat, ?_, ?_, hg, IH me cs _ k (pc + 1) hme h hok hn p e s m args below meth c C H locs ls _ ⟨hI.1, hI.2.1, ⟨hg, hst⟩, hI.2.2.2⟩ hL⟩
      · rw [arrV_size, xclamp hlt]
        intro q
        rcases q with q | q
        · exact xneg hlt q
        · omega
      · rw [xclamp hlt, arrV_read _ _ hul]
        simp [vp_V, hv]
  | (lv, [], r), h, hI => exact absurd h (by simp [xo_ald])
  | (lv, [_], r), h, hI => exact absurd h (by simp [xo_ald])
  | (lv, _ :: .inl _ :: _, r), h, hI => exact absurd h (by simp [xo_ald])
  | (lv, _ :: .inr (.inl _) :: _, r), h, hI => exact absurd h (by simp [xo_ald])
  | (lv, _ :: .inr (.inr (.inl none)) :: _, r), h, hI => exact absurd h (by simp [xo_ald])
  | (lv, _ :: .inr (.inr (.inr _)) :: _, r), h, hI => exact absurd h (by simp [xo_ald])
theorem xl_iald (IH : xIH ρ base F Ts Ns cl tys D dA la okc Ms ih) (hme : me ∈ Ms) (hok : okc me cs = true) (hn : xatp (pc + 1) cs) (hd : decode me.2.1 pc = .ok (.iaload, 1)) (ha : 100 ≤ a) (hty : tys[a - 100]? = some .int) (h : xo_ald ih me cs a b l A k = true) : xGd ρ base F Ts Ns cl tys D dA la me pc A k := by
  intro p e s m args below meth c X H locs ls stc hI hL
  obtain ⟨o, i, rest, fs, x, v, rfl, h1, h2, h3, -, g⟩ := xl_ald0 IH hme hok hn ha h X hI hL
  exact W.iald X.1 X.2.1 h1 ((X.2.2.2.2.2.2.2.2.2.2.1 _ _ hty).1 _ _) (fun q => by cases q) h2 h3 rfl rfl hd g
theorem xl_lald (IH : xIH ρ base F Ts Ns cl tys D dA la okc Ms ih) (hme : me ∈ Ms) (hok : okc me cs = true) (hn : xatp (pc + 1) cs) (hd : decode me.2.1 pc = .ok (.laload, 1)) (ha : 100 ≤ a) (hty : tys[a - 100]? = some .long) (h : xo_ald ih me cs a b l A k = true) : xGd ρ base F Ts Ns cl tys D dA la me pc A k := by
  intro p e s m args below meth c X H locs ls stc hI hL
  obtain ⟨o, i, rest, fs, x, v, rfl, h1, h2, h3, -, g⟩ := xl_ald0 IH hme hok hn ha h X hI hL
  exact W.lald X.1 X.2.1 h1 ((X.2.2.2.2.2.2.2.2.2.2.1 _ _ hty).1 _ _) (fun q => by cases q) h2 h3 rfl rfl hd g
theorem xl_zald (IH : xIH ρ base F Ts Ns cl tys D dA la okc Ms ih) (hme : me ∈ Ms) (hok : okc me cs = true) (hn : xatp (pc + 1) cs) (hd : decode me.2.1 pc = .ok (.baload, 1)) (ha : 100 ≤ a) (hty : tys[a - 100]? = some .boolean) (h : xo_ald ih me cs a b l A k = true) : xGd ρ base F Ts Ns cl tys D dA la me pc A k := by
  intro p e s m args below meth c X H locs ls stc hI hL
  obtain ⟨o, i, rest, fs, x, v, rfl, h1, h2, h3, -, g⟩ := xl_ald0 IH hme hok hn ha h X hI hL
  exact W.zald X.1 X.2.1 h1 ((X.2.2.2.2.2.2.2.2.2.2.1 _ _ hty).1 _ _) (fun q => by cases q) h2 h3 rfl rfl hd g
theorem xl_aald {ty : FieldType} (IH : xIH ρ base F Ts Ns cl tys D dA la okc Ms ih) (hme : me ∈ Ms) (hok : okc me cs = true) (hn : xatp (pc + 1) cs) (hd : decode me.2.1 pc = .ok (.aaload, 1)) (ha : 100 ≤ a) (hty : tys[a - 100]? = some ty) (hr : ty.isReference = true) (h : xo_ald ih me cs a b l A k = true) : xGd ρ base F Ts Ns cl tys D dA la me pc A k := by
  intro p e s m args below meth c X H locs ls stc hI hL
  obtain ⟨o, i, rest, fs, x, v, rfl, h1, h2, h3, -, g⟩ := xl_ald0 IH hme hok hn ha h X hI hL
  exact W.aald X.1 X.2.1 h1 ((X.2.2.2.2.2.2.2.2.2.2.1 _ _ hty).1 _ _) hr (fun q => by cases q) h2 h3 rfl rfl hd g
theorem xl_ast0 (IH : xIH ρ base F Ts Ns cl tys D dA la okc Ms ih) (hme : me ∈ Ms) (hok : okc me cs = true) (hn : xatp (pc + 1) cs) (ha : 100 ≤ a) {ty : FieldType} (hty : tys[a - 100]? = some ty) (hb : b = xkt ty) (h : xo_ast ih me cs a b l A k = true)
    {p : Program} {e : Env} {s : State} {m : MethodId} {args : Array Value} {below : List Frame} {meth : Method} {c : Code} (C : xCx Ts Ns cl tys D dA p s m args meth c me) {H : Heap} {locs : List Loc} {ls : Array Slot} {stc : List Value} (hI : xIn ρ base F D dA tys cl me A H ls stc) (hL : va_S F s.heap H locs) :
    ∃ (o : Nat) (i : Int32) (rest fs : List Value) (x : xV) (v : Value), stc = v :: .int i :: .ref o :: rest ∧ xfits b x = true ∧ xg ρ base x v ∧ narrow ty v = v ∧ H[o]? = some (arrV (dA (a - 100)) fs.length (vp_V fs)) ∧ ¬ (i < 0 ∨ (arrV (dA (a - 100)) fs.length (vp_V fs)).slots.size ≤ i.toNatClampNeg) ∧ ∀ H' : Heap, H'[o]? = some ((arrV (dA (a - 100)) fs.length (vp_V fs)).setSlot i.toNatClampNeg v) → H'.size = H.size → (∀ q, q ≠ o → H'[q]? = H[q]?) → W p la e (xR me) s m args below meth c H' (locs ++ [⟨o, i.toNatClampNeg⟩]) A.2.2.2.2.2.1 A.2.2.2.2.2.2 (MQ below (xQ ρ base F D dA tys cl k) args s (xR me).cells (xR me).slots F) (F0 m (pc + 1) ls rest) := by
  match A, h, hI with
  | (lv, x :: i :: .inr (.inr (.inl (some o))) :: st, env, hp, n, uc, us), h, hI =>
    unfold xo_ast at h
    obtain ⟨vx, stc, rfl, hgx, hst0⟩ := xSR_cons hI.2.2.1
    obtain ⟨vi, stc, rfl, hi, hst1⟩ := xSR_cons hst0
    obtain ⟨vo, stc, rfl, ho, hst⟩ := xSR_cons hst1
    cases ho
    obtain ⟨hf, h⟩ := xcond h
    have hnr := (xfits_of (ty := ty) (by rw [← hb]; exact hf) hgx).1
    obtain ⟨i', rfl, h⟩ := xci_of hI.1 hi h
    rcases h with ⟨env', u, he, hu, h⟩ | h
    · obtain ⟨hlt, h⟩ := xcond h
      have hlt := xblt.mp hlt
      obtain ⟨c0, hc, h⟩ := xhget_of h
      obtain ⟨hk, h⟩ := xcond h
      have hk := Nat.eq_of_beq_eq_true hk
      obtain ⟨rw', h, r0, r1, r2⟩ := xhset_of h
      obtain ⟨hp', h, -, e1', e2'⟩ := xhset_of h
      obtain ⟨fs, hfs, hat, ty', hty', hfit⟩ := xarr (hI.2.2.2.1.2 o c0 hc) (by rw [hk]; exact ha)
      rw [hk] at hat hty'
      obtain ⟨hul, hfs'⟩ := xFR_set hfs r0 r1 r2 hgx
      subst hu
      refine ⟨base + o, nI u, stc, fs, x, vx, rfl, hf, hgx, hnr, hat, ?_, fun H' e1 e2 e3 => ?_⟩
      · rw [arrV_size, xclamp hlt]
        intro q
        rcases q with q | q
        · exact xneg hlt q
        · omega
      · rw [xclamp hlt, xarr_set hul] at e1
        exact IH me cs (lv, st, env', hp', n, uc, us) k (pc + 1) hme h hok hn p e s m args below meth c C H' _ ls stc ⟨he, hI.2.1, hst, hI.2.2.2.1.put (c := (a, c0.2.1, rw')) (hI.2.2.2.1.1.2.1 o c0 hc) e2 e3 ⟨fs.set u vx, hfs', Or.inr ⟨ha, e1, ty, hty, fun w hw => by
          have he9 : ty' = ty := Option.some.inj (hty'.symm.trans hty)
          rcases List.mem_or_eq_of_mem_set hw with q | q
          · rw [← he9]; exact hfit w q
          · rw [q]; exact (xfits_of (ty := ty) (by rw [← hb]; exact hf) hgx).2⟩⟩ e1' e2', hI.2.2.2.2⟩ (xSput hL (hI.2.2.2.1.1.2.1 o c0 hc) e2 e3 (fun l hl => by rw [List.mem_singleton.mp hl]))
    · obtain ⟨j, c0, u, rfl, hc, hk, hx, hu, hul0, hlt, h⟩ := xust_of hI.1 h
      obtain ⟨fs, hfs, hat, ty', hty', hfit⟩ := xarr (hI.2.2.2.1.2 o c0 hc) (by rw [hk]; exact ha)
      have hat0 := hat
      rw [hk] at hat hty'
      obtain ⟨hul, hfs'⟩ := xFR_set hfs ⟨_, hx⟩ hx (fun _ _ => rfl) hgx
      have hi : Value.int i' = Value.int (ρ j) := hi
      have hu : i' = nI u := by injection hi with hi; rw [hi, hu]
      subst hu
      refine ⟨base + o, nI u, stc, fs, x, vx, rfl, hf, hgx, hnr, hat, ?_, fun H' e1 e2 e3 => ?_⟩
      · rw [arrV_size, xclamp hlt]
        intro q
        rcases q with q | q
        · exact xneg hlt q
        · omega
      · rw [xclamp hlt, xarr_set hul] at e1
        exact IH me cs (lv, st, env, hp, n, uc, us) k (pc + 1) hme h hok hn p e s m args below meth c C H' _ ls stc ⟨hI.1, hI.2.1, hst, hI.2.2.2.1.put (c := c0) (hI.2.2.2.1.1.2.1 o c0 hc) e2 e3 ⟨fs.set u vx, hfs', Or.inr ⟨by rw [hk]; exact ha, by rw [hk]; exact e1, ty, by rw [hk]; exact hty, fun w hw => by
          have he9 : ty' = ty := Option.some.inj (hty'.symm.trans hty)
          rcases List.mem_or_eq_of_mem_set hw with q | q
          · rw [← he9]; exact hfit w q
          · rw [q]; exact (xfits_of (ty := ty) (by rw [← hb]; exact hf) hgx).2⟩⟩ hc (fun _ _ => rfl), hI.2.2.2.2⟩ (xSput hL (hI.2.2.2.1.1.2.1 o c0 hc) e2 e3 (fun l hl => by rw [List.mem_singleton.mp hl]))
  | (lv, [], r), h, hI => exact absurd h (by simp [xo_ast])
  | (lv, [_], r), h, hI => exact absurd h (by simp [xo_ast])
  | (lv, [_, _], r), h, hI => exact absurd h (by simp [xo_ast])
  | (lv, _ :: _ :: .inl _ :: _, r), h, hI => exact absurd h (by simp [xo_ast])
  | (lv, _ :: _ :: .inr (.inl _) :: _, r), h, hI => exact absurd h (by simp [xo_ast])
  | (lv, _ :: _ :: .inr (.inr (.inl none)) :: _, r), h, hI => exact absurd h (by simp [xo_ast])
  | (lv, _ :: _ :: .inr (.inr (.inr _)) :: _, r), h, hI => exact absurd h (by simp [xo_ast])
theorem xfi {x : xV} (h : xfits 0 x = true) : xis x = 0 := by
  match x, h with
  | .inl _, _ => rfl
  | .inr (.inl _), _ => rfl
theorem xfl {x : xV} (h : xfits 2 x = true) : xis x = 2 := by
  match x, h with
  | .inr (.inr (.inr _)), _ => rfl
theorem xfz {x : xV} (h : xfits 3 x = true) : xis x = 0 := by
  match x, h with
  | .inl _, _ => rfl
theorem xl_iast (IH : xIH ρ base F Ts Ns cl tys D dA la okc Ms ih) (hme : me ∈ Ms) (hok : okc me cs = true) (hn : xatp (pc + 1) cs) (hd : decode me.2.1 pc = .ok (.iastore, 1)) (ha : 100 ≤ a) (hty : tys[a - 100]? = some .int) (hb : b = 0) (h : xo_ast ih me cs a b l A k = true) : xGd ρ base F Ts Ns cl tys D dA la me pc A k := by
  intro p e s m args below meth c X H locs ls stc hI hL
  obtain ⟨o, i, rest, fs, x, v, rfl, hf, hg, -, h1, h2, g⟩ := xl_ast0 (ty := .int) IH hme hok hn ha hty hb h X hI hL
  obtain ⟨z, rfl⟩ := xg_int hg (xfi (by rw [← hb]; exact hf))
  exact W.iast X.1 X.2.1 h1 ((X.2.2.2.2.2.2.2.2.2.2.1 _ _ hty).1 _ _) (fun q => by cases q) h2 rfl rfl hd g
theorem xl_last (IH : xIH ρ base F Ts Ns cl tys D dA la okc Ms ih) (hme : me ∈ Ms) (hok : okc me cs = true) (hn : xatp (pc + 1) cs) (hd : decode me.2.1 pc = .ok (.lastore, 1)) (ha : 100 ≤ a) (hty : tys[a - 100]? = some .long) (hb : b = 2) (h : xo_ast ih me cs a b l A k = true) : xGd ρ base F Ts Ns cl tys D dA la me pc A k := by
  intro p e s m args below meth c X H locs ls stc hI hL
  obtain ⟨o, i, rest, fs, x, v, rfl, hf, hg, -, h1, h2, g⟩ := xl_ast0 (ty := .long) IH hme hok hn ha hty hb h X hI hL
  obtain ⟨z, rfl⟩ := xg_long hg (xfl (by rw [← hb]; exact hf))
  exact W.last X.1 X.2.1 h1 ((X.2.2.2.2.2.2.2.2.2.2.1 _ _ hty).1 _ _) (fun q => by cases q) h2 rfl rfl hd g
theorem xl_zast (IH : xIH ρ base F Ts Ns cl tys D dA la okc Ms ih) (hme : me ∈ Ms) (hok : okc me cs = true) (hn : xatp (pc + 1) cs) (hd : decode me.2.1 pc = .ok (.bastore, 1)) (ha : 100 ≤ a) (hty : tys[a - 100]? = some .boolean) (hb : b = 3) (h : xo_ast ih me cs a b l A k = true) : xGd ρ base F Ts Ns cl tys D dA la me pc A k := by
  intro p e s m args below meth c X H locs ls stc hI hL
  obtain ⟨o, i, rest, fs, x, v, rfl, hf, hg, hnr, h1, h2, g⟩ := xl_ast0 (ty := .boolean) IH hme hok hn ha hty hb h X hI hL
  obtain ⟨z, rfl⟩ := xg_int hg (xfz (by rw [← hb]; exact hf))
  exact W.zast X.1 X.2.1 h1 ((X.2.2.2.2.2.2.2.2.2.2.1 _ _ hty).1 _ _) (fun q => by cases q) h2 rfl rfl hd (by rw [hnr]; exact g)
/-! answers -/
theorem xl_iret {rt : FieldType} (hd : decode me.2.1 pc = .ok (.ireturn, 1)) (hrt : me.2.2.2.1 = some rt) (ha : a = xkt rt) (hri : rt = .int ∨ rt = .boolean) (h : xo_iret ih me cs a b l A k = true) : xGd ρ base F Ts Ns cl tys D dA la me pc A k := by
  match A, h with
  | (lv, [x], env, hp, n, uc, us), h =>
    unfold xo_iret at h
    obtain ⟨hf, h⟩ := xcond h
    intro p e s m args below meth c X H locs ls stc hI hL
    obtain ⟨vx, stc, rfl, hgx, hst⟩ := xSR_cons hI.2.2.1
    rw [xSR_nil hst]
    have hnr := (xfits_of (ty := rt) (by rw [← ha]; exact hf) hgx).1
    obtain ⟨z, rfl⟩ : ∃ z : Int32, vx = .int z := by
      refine xg_int hgx ?_
      rcases hri with rfl | rfl
      · exact xfi (by rw [show (0 : Nat) = a from ha.symm]; exact hf)
      · exact xfz (by rw [show (3 : Nat) = a from ha.symm]; exact hf)
    obtain ⟨hx, hbc, -, hr, hlk, -⟩ := X
    refine W.widen hI.2.2.2.2.1 hI.2.2.2.2.2 ?_
    exact W.zret hx hbc (hr.trans hrt) hnr (fun t ht _ => ⟨hL.F ht, env, hp, n, some x, h, hI.1, by rw [ht]; exact hI.2.2.2.1, Or.inr ⟨x, _, rfl, hgx, rfl⟩⟩) hL.2.2 hd hlk
  | (lv, [], r), h => exact absurd h (by simp [xo_iret])
  | (lv, _ :: _ :: _, r), h => exact absurd h (by simp [xo_iret])
theorem xl_lret (hd : decode me.2.1 pc = .ok (.lreturn, 1)) (hrt : me.2.2.2.1 = some .long) (ha : a = 2) (h : xo_iret ih me cs a b l A k = true) : xGd ρ base F Ts Ns cl tys D dA la me pc A k := by
  match A, h with
  | (lv, [x], env, hp, n, uc, us), h =>
    unfold xo_iret at h
    obtain ⟨hf, h⟩ := xcond h
    intro p e s m args below meth c X H locs ls stc hI hL
    obtain ⟨vx, stc, rfl, hgx, hst⟩ := xSR_cons hI.2.2.1
    rw [xSR_nil hst]
    obtain ⟨z, rfl⟩ := xg_long hgx (xfl (by rw [← ha]; exact hf))
    obtain ⟨hx, hbc, -, hr, hlk, -⟩ := X
    refine W.widen hI.2.2.2.2.1 hI.2.2.2.2.2 ?_
    exact W.lret hx hbc (hr.trans hrt) (fun t ht _ => ⟨hL.F ht, env, hp, n, some x, h, hI.1, by rw [ht]; exact hI.2.2.2.1, Or.inr ⟨x, _, rfl, hgx, rfl⟩⟩) hL.2.2 hd hlk
  | (lv, [], r), h => exact absurd h (by simp [xo_iret])
  | (lv, _ :: _ :: _, r), h => exact absurd h (by simp [xo_iret])
theorem xfr {x : xV} (h : xfits 1 x = true) : xis x = 1 := by
  match x, h with
  | .inr (.inr (.inl _)), _ => rfl
theorem xl_aret {rt : FieldType} (hd : decode me.2.1 pc = .ok (.areturn, 1)) (hrt : me.2.2.2.1 = some rt) (hr1 : (∃ n, rt = .object n) ∨ ∃ t, rt = .array t) (ha : a = 1) (h : xo_iret ih me cs a b l A k = true) : xGd ρ base F Ts Ns cl tys D dA la me pc A k := by
  match A, h with
  | (lv, [x], env, hp, n, uc, us), h =>
    unfold xo_iret at h
    obtain ⟨hf, h⟩ := xcond h
    intro p e s m args below meth c X H locs ls stc hI hL
    obtain ⟨vx, stc, rfl, hgx, hst⟩ := xSR_cons hI.2.2.1
    rw [xSR_nil hst]
    have hv := xg_ref hgx (xfr (by rw [← ha]; exact hf))
    obtain ⟨hx, hbc, -, hr, hlk, -⟩ := X
    refine W.widen hI.2.2.2.2.1 hI.2.2.2.2.2 ?_
    exact W.aret hx hbc (hr.trans hrt) hr1 hv (fun t ht _ => ⟨hL.F ht, env, hp, n, some x, h, hI.1, by rw [ht]; exact hI.2.2.2.1, Or.inr ⟨x, _, rfl, hgx, rfl⟩⟩) hL.2.2 hd hlk
  | (lv, [], r), h => exact absurd h (by simp [xo_iret])
  | (lv, _ :: _ :: _, r), h => exact absurd h (by simp [xo_iret])
theorem xl_ret (hd : decode me.2.1 pc = .ok (.return_, 1)) (hrt : me.2.2.2.1 = none) (h : xo_ret ih me cs a b l A k = true) : xGd ρ base F Ts Ns cl tys D dA la me pc A k := by
  match A, h with
  | (lv, [], env, hp, n, uc, us), h =>
    unfold xo_ret at h
    intro p e s m args below meth c X H locs ls stc hI hL
    rw [xSR_nil hI.2.2.1]
    obtain ⟨hx, hbc, -, hr, hlk, -⟩ := X
    refine W.widen hI.2.2.2.2.1 hI.2.2.2.2.2 ?_
    exact W.vret hx hbc (hr.trans hrt) (fun t ht _ => ⟨hL.F ht, env, hp, n, none, h, hI.1, by rw [ht]; exact hI.2.2.2.1, Or.inl ⟨rfl, rfl⟩⟩) hL.2.2 hd hlk
  | (lv, _ :: _, r), h => exact absurd h (by simp [xo_ret])
end XC
end
section
/-! calls -/
section XM
variable {ρ : Nat → Int32} {base : Nat} {F : Nat → Prop} {Ts Ns : List Jvm.Cond} {cl : List vw_C} {tys : List FieldType} {D : va_G} {dA : Nat → ClassId} {la : Launch} {okc : xM → List xI → Bool} {Ms : List xM} {ih : xIh} {me : xM} {cs : List xI} {a b : Nat} {l : List Nat} {A : xA} {k : xK} {pc : Nat}
theorem xpop_of : ∀ {n : Nat} {st acc : List xV} {k : List xV → List xV → Bool}, xpop n st acc k = true → ∃ top rest, st = top ++ rest ∧ top.length = n ∧ k (top.reverse ++ acc) rest = true := by
  intro n
  induction n with
  | zero => intro st acc k h; exact ⟨[], st, rfl, rfl, h⟩
  | succ n ih =>
    intro st acc k h
    cases st with
    | nil => exact absurd h (by change ¬ (false = true); decide)
    | cons v st =>
      obtain ⟨top, rest, h1, h2, h3⟩ := ih (st := st) (acc := v :: acc) (k := k) h
      refine ⟨v :: top, rest, by rw [h1]; rfl, by simp [h2], ?_⟩
      simpa using h3
theorem xargs_of : ∀ {vs : List xV} {vc : List Value} {i : Nat} {K : xL → Bool}, xSR ρ base vs vc → xargs vs i K = true → ∃ lv, K lv = true ∧ xLR ρ base lv (lv_args i vc) := by
  intro vs
  induction vs with
  | nil => intro vc i K hv h; rw [xSR_nil hv]; exact ⟨[], h, trivial⟩
  | cons v vs ih =>
    intro vc i K hv h
    obtain ⟨w, r, rfl, h1, h2⟩ := xSR_cons hv
    have h := xfN_of (n := cond (Nat.beq (xis v) 2) (Nat.succ (Nat.succ i)) (Nat.succ i)) (k := fun j => xargs vs j (fun l => K ((i, v) :: l))) h
    obtain ⟨lv, h3, h4⟩ := ih h2 h
    refine ⟨(i, v) :: lv, h3, ⟨rfl, h1⟩, ?_⟩
    have e : (cond (Nat.beq (xis v) 2) (Nat.succ (Nat.succ i)) (Nat.succ i)) = (if w.category = 2 then i + 2 else i + 1) := by
      rw [xcat2 h1]
      by_cases c : w.category = 2
      · simp [c]
      · have c' : (w.category == 2) = false := by simpa using c
        rw [c', if_neg c]
        rfl
    rw [e] at h4
    exact h4
theorem xcats_of : ∀ {vs : List xV} {vc : List Value}, xSR ρ base vs vc → xcats vs = (vc.map fun v => v.category).sum ∧ xcats vs = (lg_sl vc).length := by
  intro vs
  induction vs with
  | nil => intro vc hv; rw [xSR_nil hv]; exact ⟨rfl, rfl⟩
  | cons v vs ih =>
    intro vc hv
    obtain ⟨w, r, rfl, h1, h2⟩ := xSR_cons hv
    obtain ⟨e1, e2⟩ := ih h2
    have e : (cond (Nat.beq (xis v) 2) 2 1) = w.category := by
      rw [xcat2 h1]
      rcases lv_cat w with c | c
      · simp [c]
      · simp [c]
    have e0 : xcats (v :: vs) = w.category + xcats vs := by show Nat.add (cond (Nat.beq (xis v) 2) 2 1) (xcats vs) = _; rw [e]; rfl
    refine ⟨by rw [e0, e1]; simp, ?_⟩
    rw [e0, e2]
    unfold lg_sl
    rw [List.flatMap_cons, List.length_append]
    rcases lv_cat w with c | c
    · simp [c]
    · simp [c]
def xPc (ρ : Nat → Int32) (base : Nat) (F : Nat → Prop) (Ns : List Jvm.Cond) (cl : List vw_C) (tys : List FieldType) (D : va_G) (dA : Nat → ClassId) (vc : List Value) (h : xH) (n : Nat) : Array Value → State → Prop := fun v U => v = vc.toArray ∧ xHR ρ base F D dA tys cl h n U.heap ∧ (∀ w ∈ Ns, va_Nw w U) ∧ va_K D cl [] U ∧ xKA dA tys U
theorem xPc_blind (hN : ∀ w ∈ Ns, xNw w = true) {vc : List Value} {h : xH} {n : Nat} : FrameBlind (xPc ρ base F Ns cl tys D dA vc h n) := fun a U g mk q => ⟨q.1, q.2.1, fun w hw => va_Nw.same (u := U) (U := U.calling g mk a) (xNw_on (hN w hw)) rfl (q.2.2.1 w hw), va_K.moved (u := U) (U := U.calling g mk a) (Vm.Alike.refl U.vm) q.2.2.2.1, xKA.same (u := U) (U := U.calling g mk a) rfl rfl q.2.2.2.2⟩
/-- A METHOD THAT IS EXPLORED FROM ITS ENTRY MEETS ITS CONTRACT -/
theorem xMet (IH : xIH ρ base F Ts Ns cl tys D dA la okc Ms ih) (hme : me ∈ Ms) (hok : okc me (xcd me) = true) (hat : xatp 0 (xcd me)) (hpl : plainName me.1.cls = true) {vs : List xV} {vc : List Value} {env : xE} {h : xH} {n : Nat} (hv : xSR ρ base vs vc) (hr : xρ ρ env) (hlen : (lg_sl vc).length ≤ me.2.2.1) (hh : xargs vs 0 (fun lv => ih me (xcd me) (lv, [], env, h, n, 0, 0) k) = true) :
    Met la me.1 (xWs Ts me) (xR me) (xPc ρ base F Ns cl tys D dA vc h n) (xQ ρ base F D dA tys cl k) (xR me).cells (xR me).slots F := by
  obtain ⟨lv, hh, hlv⟩ := xargs_of hv hh
  refine Met.ofW (cc := me.2.1) (maxL := me.2.2.1) (ret := me.2.2.2.1) hpl rfl ?_
  intro p e s m args below meth c s₁ B hml hP
  obtain ⟨rfl, hH, hN, hK, hKA⟩ := hP
  have X : xCx Ts Ns cl tys D dA p s m vc.toArray meth c me := ⟨B.exec, B.bytes, hml, B.returns, B.notSynchronized, (name_of_methodNamed B.named B.method).1, findClass_of_methodNamed B.named, atoms_spec (ws := xWs Ts me) B.pre, hN, hK, hKA⟩
  have hl := lv_entry vc (n := me.2.2.1) hlen
  rw [lg_entry_eq]
  exact IH me (xcd me) (lv, [], env, h, n, 0, 0) k 0 hme hh hok hat p e s m vc.toArray below meth c X s.heap [] _ [] ⟨hr, ⟨_, hl, hlv⟩, trivial, hH, Nat.zero_le _, Nat.zero_le _⟩ va_S.rf
/-- behind a call -/
theorem xl_after (IH : xIH ρ base F Ts Ns cl tys D dA la okc Ms ih) (hme : me ∈ Ms) (hok : okc me cs = true) (hn : xatp (pc + 3) cs) {lv : xL} {st : List xV} {uc us uc' us' : Nat} {p : Program} {e : Env} {s : State} {m : MethodId} {args : Array Value} {below : List Frame} {meth : Method} {c : Code} (X : xCx Ts Ns cl tys D dA p s m args meth c me) {H : Heap} {locs : List Loc} {ls : Array Slot} {st0 rest : List Value} {av : Array Value} {mc ms : Nat}
    (hr : va_Run p la e (xR me) s m args below meth c H locs uc us mc ms (F0 m pc ls st0) rest (xQ ρ base F D dA tys cl (xafter ih me cs lv st uc' us' k) av) F) (hc : uc + mc = uc') (hs : us + ms = us') (hlv : ∃ lvc, lv_has ls me.2.2.1 lvc ∧ xLR ρ base lv lvc) (hst : xSR ρ base st rest) (h1 : uc' ≤ (xR me).cells) (h2 : us' ≤ (xR me).slots) (hL : va_S F s.heap H locs) :
    W p la e (xR me) s m args below meth c H locs uc us (MQ below (xQ ρ base F D dA tys cl k) args s (xR me).cells (xR me).slots F) (F0 m pc ls st0) := by
  intro T hT S
  obtain ⟨v, st₀, t, T', L, h0, X', hL', e1, e2, ⟨⟨hz, hfr⟩, env, h, n, r, hk, hρ, hH, hv⟩, go⟩ := hr T hT S
  subst hc; subst hs
  rw [h0] at hz hfr
  have hLL : va_S F s.heap t.heap (locs ++ L) := ⟨Nat.le_trans hL.1 hz, fun q g1 g2 => (hfr q (Nat.lt_of_lt_of_le g1 hL.1) g2).trans (hL.2.1 q g1 g2), t_lL hL.2.2 hL'⟩
  rcases hv with ⟨rfl, hv⟩ | ⟨x, w, rfl, hg, hv⟩
  · cases hv
    have g := IH me cs (lv, st, env, h, n, uc + mc, us + ms) k (pc + 3) hme hk hok hn p e s m args below meth c X t.heap (locs ++ L) ls rest ⟨hρ, hlv, hst, hH, h1, h2⟩ hLL
    obtain ⟨t2, a1, b1⟩ := g T' e1 X'
    exact ⟨t2, go t2 a1, b1⟩
  · cases hv
    have g := IH me cs (lv, x :: st, env, h, n, uc + mc, us + ms) k (pc + 3) hme hk hok hn p e s m args below meth c X t.heap (locs ++ L) ls (w :: rest) ⟨hρ, hlv, ⟨hg, hst⟩, hH, h1, h2⟩ hLL
    obtain ⟨t2, a1, b1⟩ := g T' e1 X'
    exact ⟨t2, go t2 a1, b1⟩
theorem xGoodIn {mc : xM} (hTg : ∀ w ∈ Ts, goodWord w = true) (hc : Jvm.Cond.code mc.1 mc.2.1 mc.2.2.1 mc.2.2.2.1 ∈ Ts) : GoodIn (xWs Ts me) (xWs Ts mc) := by
  intro w hw
  rcases List.mem_cons.mp hw with rfl | hw
  · exact ⟨List.mem_cons_of_mem _ hc, good_of_word (hTg _ hc)⟩
  · exact ⟨List.mem_cons_of_mem _ hw, good_of_word (hTg _ hw)⟩
/-- what is to hold of a callee, whatever the kind of call -/
def xCal (Ts : List Jvm.Cond) (okc : xM → List xI → Bool) (me mc : xM) (n : Nat) : Prop := plainName mc.1.cls = true ∧ okc mc (xcd mc) = true ∧ xatp 0 (xcd mc) ∧ Jvm.Cond.code mc.1 mc.2.1 mc.2.2.1 mc.2.2.2.1 ∈ Ts ∧ Jvm.Cond.initialized mc.1.cls ∈ Ts ∧ (mc.1.cls ≠ "java/lang/invoke/MethodHandle" ∧ mc.1.cls ≠ "java/lang/invoke/VarHandle" ∧ (parseMethodDescriptor mc.1.desc).map (fun d => d.parameters.length) = some n) ∧ ((xR mc).frames + 1 ≤ (xR me).frames ∧ 8 + (mc.2.2.1 + 11) + (xR mc).locals ≤ (xR me).locals)
/-- 0 static, 1 virtual, 2 <init>; the same with a nest mate's words -/
def xKind (Ts Ns : List Jvm.Cond) (cl : List vw_C) (me mc : xM) (idx a : Nat) (l : List Nat) (n kind : Nat) (ins : Instr) : Prop :=
  (kind = 0 ∧ ins = .invokestatic idx ∧ a = n ∧ Jvm.Cond.static mc.1 ∈ Ts ∧ (Jvm.Cond.methodLink me.1.cls idx mc.1 ∈ Ts ∨ ∃ host, Jvm.Cond.methodLinkNest me.1.cls idx mc.1 host ∈ Ns)) ∨
  (kind = 1 ∧ ins = .invokevirtual idx ∧ a = n + 1 ∧ Jvm.Cond.instanceMethod mc.1 ∈ Ts ∧ Jvm.Cond.selects mc.1.cls mc.1 mc.1 ∈ Ts ∧ (∃ ci T N, l.getD 0 0 = ci + 1 ∧ ci < 100 ∧ cl[ci]? = some (mc.1.cls, T, N)) ∧ (Jvm.Cond.methodLink me.1.cls idx mc.1 ∈ Ts ∨ ∃ host, Jvm.Cond.methodLinkNest me.1.cls idx mc.1 host ∈ Ns)) ∨
  (kind = 2 ∧ ins = .invokespecial idx ∧ a = n + 1 ∧ mc.2.2.2.1 = none ∧ mc.1.name = "<init>" ∧ Jvm.Cond.instanceMethod mc.1 ∈ Ts ∧ (∃ ci T N, l.getD 0 0 = ci + 1 ∧ ci < 100 ∧ cl[ci]? = some (mc.1.cls, T, N)) ∧ (Jvm.Cond.methodLink me.1.cls idx mc.1 ∈ Ts ∨ ∃ host, Jvm.Cond.methodLinkNest me.1.cls idx mc.1 host ∈ Ns))
theorem xsplit {n : Nat} {top rest : List xV} {stc : List Value} (h : xSR ρ base (top ++ rest) stc) (hn : top.length = n) : ∃ tc rc, stc = tc ++ rc ∧ xSR ρ base top tc ∧ xSR ρ base rest rc := by
  induction top generalizing stc n with
  | nil => exact ⟨[], stc, rfl, trivial, h⟩
  | cons x top ih =>
    obtain ⟨v, r, rfl, h1, h2⟩ := xSR_cons h
    obtain ⟨tc, rc, rfl, h3, h4⟩ := ih h2 rfl
    exact ⟨v :: tc, rc, rfl, ⟨h1, h3⟩, h4⟩
theorem xl_call {idx n kind : Nat} {ins : Instr} {mc : xM} (hTg : ∀ w ∈ Ts, goodWord w = true) (hNg : ∀ w ∈ Ns, xNw w = true) (IH : xIH ρ base F Ts Ns cl tys D dA la okc Ms ih) (hme : me ∈ Ms) (hok : okc me cs = true) (hn : xatp (pc + 3) cs) (hd : decode me.2.1 pc = .ok (ins, 3)) (hmc : Ms[b]? = some mc) (hcal : xCal Ts okc me mc n) (hkd : xKind Ts Ns cl me mc idx a l n kind ins) (h : xo_call Ms ih me cs a b l A k = true) : xGd ρ base F Ts Ns cl tys D dA la me pc A k := by
  obtain ⟨lv, st, env, hp, nn, uc, us⟩ := A
  unfold xo_call at h
  obtain ⟨mc', hmc', h⟩ := xnth_of h
  cases hmc.symm.trans hmc'
  obtain ⟨top, rest, rfl, htop, h⟩ := xpop_of h
  rw [List.append_nil] at h
  obtain ⟨hcat, h⟩ := xcond h
  have hcat1 := Nat.le_of_ble_eq_true (xand hcat).1
  have hcat2 := Nat.le_of_ble_eq_true (xand hcat).2
  have h := xfN_of h
  have h := xfN_of h
  obtain ⟨hrm, h⟩ := xcond h
  have hrm1 := Nat.le_of_ble_eq_true (xand hrm).1
  have hrm2 := Nat.le_of_ble_eq_true (xand hrm).2
  obtain ⟨hrc, h⟩ := xcond h
  obtain ⟨hpl, hokc, hat, hcode, hini, hmh, hroom⟩ := hcal
  have hmem : mc ∈ Ms := List.mem_of_getElem? hmc
  intro p e s m args below meth c X H locs ls stc hI hL
  obtain ⟨tc, rc, rfl, htc, hrest⟩ := xsplit hI.2.2.1 htop
  have hvs : xSR ρ base top.reverse tc.reverse := xSR_rev htc
  have hlenT : tc.length = a := by rw [xSR_len htc]; exact htop
  have hM := xMet (k := xafter ih me cs lv rest (uc + (xR mc).cells) (us + (xR mc).slots) k) IH hmem hokc hat hpl hvs hI.1 (by rw [← (xcats_of hvs).2]; exact hcat2) h
  have X' := X
  obtain ⟨hx, hbc, hml, -, -, -, hown, hts, hns, hK, hKA⟩ := X'
  have hG : GoodIn (xWs Ts me) (xWs Ts mc) := xGoodIn hTg hcode
  have hw : ∀ w ∈ Ts, w.before args s = true := fun w q => hts w (List.mem_cons_of_mem _ q)
  have hS : CallFix p m c me.2.1 me.2.2.1 s args (xWs Ts me) me.1.cls := ⟨hx, hbc, hml, hown, hts⟩
  have hsize : ls.size = me.2.2.1 := by obtain ⟨lvc, hl, -⟩ := hI.2.1; exact hl.1
  have hW : 2 * (F0 m pc ls (tc ++ rc)).monitorRoom + (rc.map fun v => v.category).sum ≤ 8 := lv_room (by rw [← (xcats_of hrest).1]; exact hcat1)
  have hpre : PreS s H (xPc ρ base F Ns cl tys D dA tc.reverse hp nn) tc.reverse := ⟨xPc_blind hNg, fun U hU hWm => ⟨rfl, by rw [hU]; exact hI.2.2.2.1, fun w q => xNw_warm (hNg w q) hWm (hns w q), va_K.moved hWm.alike hK, xKA.warm hWm (fun q g1 g2 => by rw [hU]; exact hL.2.1 q g1 (fun f => g2 (hI.2.2.2.1.1.2.2.2 q f))) hKA⟩⟩
  have fin := fun (av : Array Value) (hr : va_Run p la e (xR me) s m args below meth c H locs uc us (xR mc).cells (xR mc).slots (F0 m pc ls (tc ++ rc)) rc (xQ ρ base F D dA tys cl (xafter ih me cs lv rest (uc + (xR mc).cells) (us + (xR mc).slots) k) av) F) => xl_after IH hme hok hn X hr rfl rfl hI.2.1 hrest hrm1 hrm2 hL
  -- a receiver, where there is one
  have hrcv : ∀ (ci : Nat) (T : u_T) (N : Nat), a = n + 1 → l.getD 0 0 = ci + 1 → ci < 100 → cl[ci]? = some (mc.1.cls, T, N) → ∃ (o : Nat) (As : List Value), tc.reverse = .ref o :: As ∧ As.length = n ∧ tc ++ rc = As.reverse ++ .ref o :: rc ∧ (∃ cell : Cell, H[o]? = some cell ∧ cell.vm.isStatics = false ∧ s.vm.findClass mc.1.cls = some cell.cls) := by
    intro ci T N han hci hc100 hcl
    rw [xnthD_eq, hci] at hrc
    have hrc : (match top.reverse with | .inr (.inr (.inl (some o))) :: _ => xhget hp o (fun c => Nat.beq c.1 ci) | _ => false) = true := hrc
    obtain ⟨o, vr, hvr⟩ : ∃ o vr, top.reverse = .inr (.inr (.inl (some o))) :: vr := by
      generalize top.reverse = tr at hrc
      match tr, hrc with
      | .inr (.inr (.inl (some o))) :: vr, _ => exact ⟨o, vr, rfl⟩
      | [], q => exact absurd q (by simp)
      | .inl _ :: _, q => exact absurd q (by simp)
      | .inr (.inl _) :: _, q => exact absurd q (by simp)
      | .inr (.inr (.inl none)) :: _, q => exact absurd q (by simp)
      | .inr (.inr (.inr _)) :: _, q => exact absurd q (by simp)
    rw [hvr] at hrc
    have hvs2 : xSR ρ base (.inr (.inr (.inl (some o))) :: vr) tc.reverse := by rw [← hvr]; exact hvs
    obtain ⟨c0, hc0, hcc⟩ := xhget_of hrc
    have hcc := Nat.eq_of_beq_eq_true hcc
    obtain ⟨v0, As, hAs, hv0, -⟩ := xSR_cons hvs2
    cases hv0
    obtain ⟨fs, -, hat0⟩ := xobj (hI.2.2.2.1.2 o c0 hc0) (by rw [hcc]; exact hc100)
    rw [hcc] at hat0
    have htcs : tc = As.reverse ++ [.ref (base + o)] := by
      have := congrArg List.reverse hAs
      rw [List.reverse_reverse, List.reverse_cons] at this
      exact this
    refine ⟨base + o, As, hAs, ?_, by rw [htcs]; simp, va_recv hK (xP1 hat0) hcl (q0 := 0) rfl⟩
    have := congrArg List.length htcs
    simp at this
    omega
  rcases hkd with ⟨-, rfl, han, hst, hlk⟩ | ⟨-, rfl, han, him, hsel, ⟨ci, T, N, hci, hc100, hcl⟩, hlk⟩ | ⟨-, rfl, han, hnone, hnm, him, ⟨ci, T, N, hci, hc100, hcl⟩, hlk⟩
  · rcases hlk with hlk | ⟨host, hlk⟩
    · exact fin _ (va_runS hS hM ⟨callB_of n hts hG rfl rfl rfl (hw _ hini) (hw _ hlk) hmh hroom, hw _ hst⟩ hpre rfl (by rw [List.length_reverse, hlenT, han]) hsize (by rw [List.reverse_reverse]) hW hd ⟨hrm1, hrm2⟩)
    · exact fin _ (va_runSN hS hM ⟨va_cnB n hts hG rfl rfl rfl (hns _ hlk) (hw _ hini) hmh hroom, hw _ hst, trivial⟩ hpre rfl (by rw [List.length_reverse, hlenT, han]) hsize (by rw [List.reverse_reverse]) hW hd ⟨hrm1, hrm2⟩)
  · obtain ⟨o, As, hAs, hAl, hstk, hrv⟩ := hrcv ci T N han hci hc100 hcl
    rw [hAs] at hM hpre
    rcases hlk with hlk | ⟨host, hlk⟩
    · exact fin _ (va_runV hS hM ⟨callB_of n hts hG rfl rfl rfl (hw _ hini) (hw _ hlk) hmh hroom, hw _ him, hw _ hsel⟩ ⟨hpre.1, hrv, hpre.2⟩ rfl hAl hsize hstk hW hd ⟨hrm1, hrm2⟩)
    · exact fin _ (va_runVN hS hM ⟨va_cnB n hts hG rfl rfl rfl (hns _ hlk) (hw _ hini) hmh hroom, hw _ him, hw _ hsel⟩ ⟨hpre.1, hrv, hpre.2⟩ rfl hAl hsize hstk hW hd ⟨hrm1, hrm2⟩)
  · obtain ⟨o, As, hAs, hAl, hstk, hrv⟩ := hrcv ci T N han hci hc100 hcl
    rw [hAs] at hM hpre
    rcases hlk with hlk | ⟨host, hlk⟩
    · exact fin _ (va_runI hS hM ⟨callB_of n hts hG (by rw [xWs, hnone]) rfl rfl (hw _ hini) (hw _ hlk) hmh hroom, hnm, hw _ him⟩ hpre rfl hAl hsize hstk hW hd ⟨hrm1, hrm2⟩)
    · exact fin _ (va_runIN hS hM ⟨va_cnB n hts hG (by rw [xWs, hnone]) rfl rfl (hns _ hlk) (hw _ hini) hmh hroom, hnm, hw _ him⟩ hpre rfl hAl hsize hstk hW hd ⟨hrm1, hrm2⟩)
end XM
end
section
/-! Object's constructor, the switch -/
section XO
variable {ρ : Nat → Int32} {base : Nat} {F : Nat → Prop} {Ts Ns : List Jvm.Cond} {cl : List vw_C} {tys : List FieldType} {D : va_G} {dA : Nat → ClassId} {la : Launch} {okc : xM → List xI → Bool} {Ms : List xM} {ih : xIh} {me : xM} {cs : List xI} {a b : Nat} {l : List Nat} {A : xA} {k : xK} {pc : Nat}
theorem xl_oinit {idx : Nat} (IH : xIH ρ base F Ts Ns cl tys D dA la okc Ms ih) (hme : me ∈ Ms) (hok : okc me cs = true) (hn : xatp (pc + 3) cs) (hd : decode me.2.1 pc = .ok (.invokespecial idx, 3)) (h1 : Jvm.Cond.methodLink me.1.cls idx Lib.objectInit ∈ Ts) (h2 : Jvm.Cond.instanceMethod Lib.objectInit ∈ Ts) (h3 : Jvm.Cond.code Lib.objectInit ⟨#[0xb1]⟩ 1 none ∈ Ts) (hf : 1 ≤ (xR me).frames) (h : xo_oinit ih me cs a b l A k = true) : xGd ρ base F Ts Ns cl tys D dA la me pc A k := by
  match A, h with
  | (lv, .inr (.inr (.inl (some o))) :: st, r), h =>
    unfold xo_oinit at h
    obtain ⟨hr, h⟩ := xcond h
    have hr := Nat.le_of_ble_eq_true hr
    intro p e s m args below meth c X H locs ls stc hI hL
    obtain ⟨vo, stc, rfl, ho, hst⟩ := xSR_cons hI.2.2.1
    cases ho
    have g := IH me cs (lv, st, r) k (pc + 3) hme h hok hn p e s m args below meth c X H locs ls stc ⟨hI.1, hI.2.1, hst, hI.2.2.2⟩ hL
    obtain ⟨hx, hbc, hml, -, -, -, hown, hts, -⟩ := X
    have hsize : ls.size = me.2.2.1 := by obtain ⟨lvc, hl, -⟩ := hI.2.1; exact hl.1
    refine W.objInit hx hbc hown (hts _ (List.mem_cons_of_mem _ h1)) (hts _ (List.mem_cons_of_mem _ h2)) (hts _ (List.mem_cons_of_mem _ h3)) rfl (by rw [hml]; exact hsize) rfl hd hf ?_ (W.eq (g2 := F0 m (pc + 3) ls stc) rfl g)
    have hr : xcats st + 12 ≤ (xR me).locals := hr
    rw [(xcats_of hst).1] at hr
    show 2 * 0 + _ + 12 ≤ _
    omega
  | (lv, [], r), h => exact absurd h (by simp [xo_oinit])
  | (lv, .inl _ :: _, r), h => exact absurd h (by simp [xo_oinit])
  | (lv, .inr (.inl _) :: _, r), h => exact absurd h (by simp [xo_oinit])
  | (lv, .inr (.inr (.inl none)) :: _, r), h => exact absurd h (by simp [xo_oinit])
  | (lv, .inr (.inr (.inr _)) :: _, r), h => exact absurd h (by simp [xo_oinit])
/-- a table: its lowest number biased, its targets -/
def xTab (pc a b : Nat) (l : List Nat) (dflt lo hi : Int) (offs : Array Int) : Prop := (a : Int) = lo + 2147483648 ∧ (pc : Int) + dflt = (b : Int) ∧ hi = lo + (l.length : Int) - 1 ∧ offs.toList.map (fun o => (pc : Int) + o) = l.map (fun t : Nat => (t : Int))
theorem xl_tab1 {dflt lo hi : Int} {offs : Array Int} {len : Nat} (hd : decode me.2.1 pc = .ok (.tableswitch dflt lo hi offs, len)) (ht : xTab pc a b l dflt lo hi offs) {p : Program} {e : Env} {s : State} {m : MethodId} {args : Array Value} {below : List Frame} {meth : Method} {c : Code} {R : Room} {cells slots : Nat} {Q : State → Prop} (X : xCx Ts Ns cl tys D dA p s m args meth c me) {H : Heap} {locs : List Loc} {ls : Array Slot} {rest : List Value} {x : Int32}
    (g : W p la e R s m args below meth c H locs cells slots Q (F0 m (xtab a b l (xb x)) ls rest)) : W p la e R s m args below meth c H locs cells slots Q (F0 m pc ls (.int x :: rest)) := by
  obtain ⟨h1, h2, h3, h4⟩ := ht
  have hxi := xb_int x
  unfold xtab at g
  by_cases c1 : Nat.blt (xb x) a = true
  · rw [c1] at g
    have c1 := xblt.mp c1
    exact lv_tableOut X.1 X.2.1 hd (Or.inl (by omega)) h2 g
  · have c1' : Nat.blt (xb x) a = false := xnf c1
    rw [c1'] at g
    have c1 : a ≤ xb x := by
      rcases Nat.lt_or_ge (xb x) a with q | q
      · exact absurd (xblt.mpr q) c1
      · exact q
    have g : W p la e R s m args below meth c H locs cells slots Q (F0 m (xnthD l b (xb x - a)) ls rest) := g
    rw [xnthD_eq] at g
    by_cases c2 : xb x - a < l.length
    · have h5 : l[xb x - a]? = some l[xb x - a] := List.getElem?_eq_getElem c2
      rw [List.getD_eq_getElem?_getD, h5] at g
      have h6 := congrArg (fun z => z[xb x - a]?) h4
      simp only [List.getElem?_map, h5, Option.map_some] at h6
      obtain ⟨off, h7, h8⟩ := Option.map_eq_some_iff.mp h6
      refine lv_tableIn X.1 X.2.1 hd (off := off) (by omega) (by omega) ?_ h8 g
      rw [show (x.toInt - lo).toNat = xb x - a by omega]
      rw [← Array.getElem?_toList]
      exact h7
    · rw [List.getD_eq_getElem?_getD, List.getElem?_eq_none (by omega)] at g
      exact lv_tableOut X.1 X.2.1 hd (Or.inr (by omega)) h2 g
theorem xl_table {dflt lo hi : Int} {offs : Array Int} {len : Nat} (hj : ∀ i r, (i :: r) <:+ xcd me → okc me (i :: r) = true) (IH : xIH ρ base F Ts Ns cl tys D dA la okc Ms ih) (hme : me ∈ Ms) (hd : decode me.2.1 pc = .ok (.tableswitch dflt lo hi offs, len)) (ht : xTab pc a b l dflt lo hi offs) (h : xo_table ih me cs a b l A k = true) : xGd ρ base F Ts Ns cl tys D dA la me pc A k := by
  match A, h with
  | (lv, .inl u :: st, env, r), h =>
    unfold xo_table at h
    have h := xfN_of h
    intro p e s m args below meth c X H locs ls stc hI hL
    obtain ⟨v, stc, rfl, hv, hst⟩ := xSR_cons hI.2.2.1
    cases hv
    rw [xbc_eq] at h
    exact xl_tab1 hd ht X (xl_jmp hj IH hme h p e s m args below meth c X H locs ls stc ⟨hI.1, hI.2.1, hst, hI.2.2.2⟩ hL)
  | (lv, .inr (.inl (some i)) :: st, env, r), h =>
    unfold xo_table at h
    intro p e s m args below meth c X H locs ls stc hI hL
    obtain ⟨v, stc, rfl, hv, hst⟩ := xSR_cons hI.2.2.1
    cases hv
    refine xl_tab1 hd ht X ?_
    rcases xcut_of h hI.1 with ⟨c1, e1, he1, h⟩ | ⟨c1, e1, he1, h⟩
    · have e0 : xtab a b l (xb (ρ i)) = b := by
        unfold xtab
        rw [xblt.mpr c1]; rfl
      rw [e0]
      exact xl_jmp hj IH hme h p e s m args below meth c X H locs ls stc ⟨he1, hI.2.1, hst, hI.2.2.2⟩ hL
    · rcases xcut_of h he1 with ⟨c2, e2, he2, h⟩ | ⟨c2, e2, he2, h⟩
      · obtain ⟨e3, u, he3, hu, h⟩ := xall_of he2 h
        have h := xfN_of h
        rw [xbc_eq, ← hu] at h
        exact xl_jmp hj IH hme h p e s m args below meth c X H locs ls stc ⟨he3, hI.2.1, hst, hI.2.2.2⟩ hL
      · have c2 : a + l.length ≤ xb (ρ i) := by rw [← xlen_eq]; exact c2
        have e0 : xtab a b l (xb (ρ i)) = b := by
          unfold xtab
          have q : Nat.blt (xb (ρ i)) a = false := by
            cases hq : Nat.blt (xb (ρ i)) a with
            | false => rfl
            | true => exact absurd (xblt.mp hq) (by omega)
          rw [q]
          show xnthD l b (xb (ρ i) - a) = b
          rw [xnthD_eq, List.getD_eq_getElem?_getD, List.getElem?_eq_none (by omega)]
          rfl
        rw [e0]
        exact xl_jmp hj IH hme h p e s m args below meth c X H locs ls stc ⟨he2, hI.2.1, hst, hI.2.2.2⟩ hL
  | (lv, [], r), h => exact absurd h (by simp [xo_table])
  | (lv, .inr (.inl none) :: _, r), h => exact absurd h (by simp [xo_table])
  | (lv, .inr (.inr _) :: _, r), h => exact absurd h (by simp [xo_table])
end XO
end
section
/-! Math.min and max, System.arraycopy of a whole row, new int[n][k] -/
def xmm (a u v : Nat) : Nat := cond (Nat.beq a 0) (cond (Nat.blt (xbc v) (xbc u)) v u) (cond (Nat.blt (xbc u) (xbc v)) v u)
noncomputable def xo_mm : xHd := fun ih me cs a _ _ A k => match A with
  | (lv, y :: x :: st, env, r) => cond (Nat.ble (Nat.add (xcats st) 13) me.2.2.2.2.2.locals) (xci env (fun e u => xci e (fun e v => xfN (xmm a u v) (fun w => ih me cs (lv, .inl w :: st, e, r) k)) (ih me cs (lv, xTop :: st, e, r) k) y) (cond (Nat.beq (xis y) 0) (ih me cs (lv, xTop :: st, env, r) k) false) x) false
  | _ => false
/-- a whole int[] over another of its length -/
noncomputable def xo_copy : xHd := fun ih me cs _ _ _ A k => match A with
  | (lv, .inl n :: .inl dp :: .inr (.inr (.inl (some d))) :: .inl sp :: .inr (.inr (.inl (some o))) :: st, env, h, r) => cond (Bool.and (Bool.and (Nat.beq sp 0) (Nat.beq dp 0)) (Bool.and (Nat.blt n 100000) (Nat.ble (Nat.add (xcats st) 64) me.2.2.2.2.2.locals))) (xhget h o (fun c => xhget h d (fun c2 => cond (Bool.and (Bool.and (Nat.beq c.1 100) (Nat.beq c2.1 100)) (Bool.and (Nat.beq c.2.1 n) (Nat.beq c2.2.1 n))) (xhset h d (100, n, c.2.2) (fun h => ih me cs (lv, st, env, h, r) k)) false))) false
  | _ => false
/-- the rows of a grid, one behind the other -/
noncomputable def xgrid (c : xC) (m : Nat) : xH → Nat → (xH → Nat → Bool) → Bool := Nat.rec (motive := fun _ => xH → Nat → (xH → Nat → Bool) → Bool) (fun h n k => k h n) (fun _ ih h n k => xhpush h n c (fun h => xfN (Nat.succ n) (fun n => ih h n k))) m
noncomputable def xrefs (m : Nat) : Nat → (List xV → Bool) → Bool := Nat.rec (motive := fun _ => Nat → (List xV → Bool) → Bool) (fun _ k => k []) (fun _ ih a k => xfN (Nat.succ a) (fun a' => ih a' (fun l => k (xRef a :: l)))) m
/-- new int[n][k], n at most 64 here twice over: rows of references -/
noncomputable def xo_mna : xHd := fun ih me cs _ _ _ A k => match A with
  | (lv, .inl w :: .inl m :: st, env, h, n, uc, us) => cond (Bool.and (Bool.and (Nat.blt w 1000) (Nat.blt m 128)) (Bool.and (Nat.ble (Nat.add uc (Nat.succ m)) me.2.2.2.2.2.cells) (Nat.ble (Nat.add us (Nat.add m (Nat.mul m w))) me.2.2.2.2.2.slots)))
      (xrefs (cond (Nat.ble m 64) m 64) (Nat.succ n) (fun r1 => xrefs (Nat.sub m 64) (Nat.add (Nat.succ n) 64) (fun r2 => xhpush h n (102, m, [r1, r2]) (fun h => xrows (.inl 0) w (fun fs => xgrid (100, w, fs) m h (Nat.succ n) (fun h n' => xfN (Nat.add uc (Nat.succ m)) (fun uc => xfN (Nat.add us (Nat.add m (Nat.mul m w))) (fun us => xfN n' (fun n' => ih me cs (lv, xRef n :: st, env, h, n', uc, us) k)))))))) ) false
  | _ => false
section XJ
variable {ρ : Nat → Int32} {base : Nat} {F : Nat → Prop} {Ts Ns : List Jvm.Cond} {cl : List vw_C} {tys : List FieldType} {D : va_G} {dA : Nat → ClassId} {la : Launch} {okc : xM → List xI → Bool} {Ms : List xM} {ih : xIh} {me : xM} {cs : List xI} {a b : Nat} {l : List Nat} {A : xA} {k : xK} {pc : Nat}
theorem xmm_of (u v : Nat) : nI (xmm 0 u v) = (if nI v < nI u then nI v else nI u) ∧ nI (xmm 1 u v) = (if nI u < nI v then nI v else nI u) := by
  constructor
  · unfold xmm
    rw [show Nat.beq 0 0 = true from rfl, cond_true]
    by_cases c : Nat.blt (xbc v) (xbc u) = true
    · rw [c, if_pos (by rw [xb_lt, ← xbc_eq, ← xbc_eq]; exact xblt.mp c)]; rfl
    · rw [xnf c, if_neg (fun q => c (by rw [xblt, xbc_eq, xbc_eq]; exact xb_lt.mp q))]; rfl
  · unfold xmm
    rw [show Nat.beq 1 0 = false from rfl, cond_false]
    by_cases c : Nat.blt (xbc u) (xbc v) = true
    · rw [c, if_pos (by rw [xb_lt, ← xbc_eq, ← xbc_eq]; exact xblt.mp c)]; rfl
    · rw [xnf c, if_neg (fun q => c (by rw [xblt, xbc_eq, xbc_eq]; exact xb_lt.mp q))]; rfl
def xmmI : Nat → Int32 → Int32 → Int32
  | 0, x, y => if y < x then y else x
  | _, x, y => if x < y then y else x
theorem xl_mm0 (ha : a = 0 ∨ a = 1) (IH : xIH ρ base F Ts Ns cl tys D dA la okc Ms ih) (hme : me ∈ Ms) (hok : okc me cs = true) (hn : xatp (pc + 3) cs) (h : xo_mm ih me cs a b l A k = true)
    {p : Program} {e : Env} {s : State} {m : MethodId} {args : Array Value} {below : List Frame} {meth : Method} {c : Code} (C : xCx Ts Ns cl tys D dA p s m args meth c me) {H : Heap} {locs : List Loc} {ls : Array Slot} {stc : List Value} (hI : xIn ρ base F D dA tys cl me A H ls stc) (hL : va_S F s.heap H locs) :
    ∃ (x y : Int32) (rest : List Value), stc = .int y :: .int x :: rest ∧ (rest.map fun v => v.category).sum + 13 ≤ (xR me).locals ∧ W p la e (xR me) s m args below meth c H locs A.2.2.2.2.2.1 A.2.2.2.2.2.2 (MQ below (xQ ρ base F D dA tys cl k) args s (xR me).cells (xR me).slots F) (F0 m (pc + 3) ls (.int (xmmI a x y) :: rest)) := by
  match A, h, hI with
  | (lv, y :: x :: st, env, r), h, hI =>
    unfold xo_mm at h
    obtain ⟨hr, h⟩ := xcond h
    have hr : xcats st + 13 ≤ (xR me).locals := Nat.le_of_ble_eq_true hr
    obtain ⟨vy, stc, rfl, hy, hst0⟩ := xSR_cons hI.2.2.1
    obtain ⟨vx, stc, rfl, hx, hst⟩ := xSR_cons hst0
    rw [(xcats_of hst).1] at hr
    obtain ⟨x', rfl, h⟩ := xci_of hI.1 hx h
    rcases h with ⟨env', u, he, hu, h⟩ | h
    · obtain ⟨y', rfl, h⟩ := xci_of he hy h
      rcases h with ⟨env', v, he, hv, h⟩ | h
      · have ee : nI (xmm a u v) = xmmI a x' y' := by
          rw [hu, hv]
          rcases ha with rfl | rfl
          · exact (xmm_of u v).1
          · exact (xmm_of u v).2
        exact ⟨x', y', stc, rfl, hr, IH me cs _ k (pc + 3) hme (xfN_of h) hok hn p e s m args below meth c C H locs ls _ ⟨he, hI.2.1, ⟨by show _ = Value.int (nI (xmm a u v)); rw [ee], hst⟩, hI.2.2.2⟩ hL⟩
      · exact ⟨x', y', stc, rfl, hr, IH me cs _ k (pc + 3) hme h hok hn p e s m args below meth c C H locs ls _ ⟨he, hI.2.1, ⟨⟨_, rfl⟩, hst⟩, hI.2.2.2⟩ hL⟩
    · obtain ⟨hk, h⟩ := xcond h
      obtain ⟨y', rfl⟩ := xg_int hy (Nat.eq_of_beq_eq_true hk)
      exact ⟨x', y', stc, rfl, hr, IH me cs _ k (pc + 3) hme h hok hn p e s m args below meth c C H locs ls _ ⟨hI.1, hI.2.1, ⟨⟨_, rfl⟩, hst⟩, hI.2.2.2⟩ hL⟩
  | (lv, [], env, r), h, hI => exact absurd h (by simp [xo_mm])
  | (lv, [_], env, r), h, hI => exact absurd h (by simp [xo_mm])
theorem xl_mm {idx : Nat} (IH : xIH ρ base F Ts Ns cl tys D dA la okc Ms ih) (hme : me ∈ Ms) (hok : okc me cs = true) (hn : xatp (pc + 3) cs) (hd : decode me.2.1 pc = .ok (.invokestatic idx, 3))
    (hw : (a = 0 ∧ Jvm.Cond.methodLink me.1.cls idx Lib.Math.min.name ∈ Ts ∧ Jvm.Cond.static Lib.Math.min.name ∈ Ts ∧ Jvm.Cond.code Lib.Math.min.name Lib.Math.min.code 2 (some .int) ∈ Ts) ∨ (a = 1 ∧ Jvm.Cond.methodLink me.1.cls idx Lib.Math.max.name ∈ Ts ∧ Jvm.Cond.static Lib.Math.max.name ∈ Ts ∧ Jvm.Cond.code Lib.Math.max.name Lib.Math.max.code 2 (some .int) ∈ Ts)) (hini : Jvm.Cond.initialized "java/lang/Math" ∈ Ts) (hf : 1 ≤ (xR me).frames) (h : xo_mm ih me cs a b l A k = true) : xGd ρ base F Ts Ns cl tys D dA la me pc A k := by
  intro p e s m args below meth c X H locs ls stc hI hL
  obtain ⟨x, y, rest, rfl, hr, g⟩ := xl_mm0 (e := e) (below := below) (hw.imp (fun q => q.1) (fun q => q.1)) IH hme hok hn h X hI hL
  have hsize : ls.size = me.2.2.1 := by obtain ⟨lvc, hl, -⟩ := hI.2.1; exact hl.1
  obtain ⟨hx, hbc, hml, _, _, _, hown, hts, _⟩ := X
  rcases hw with ⟨rfl, w1, w2, w3⟩ | ⟨rfl, w1, w2, w3⟩
  · exact va_mmin hx hbc (by rw [hml, hsize]) hown (hts _ (List.mem_cons_of_mem _ w1)) (hts _ (List.mem_cons_of_mem _ w2)) (hts _ (List.mem_cons_of_mem _ hini)) (hts _ (List.mem_cons_of_mem _ w3)) hf hr hI.2.2.2.2.1 hI.2.2.2.2.2 hd g
  · exact va_mmax hx hbc (by rw [hml, hsize]) hown (hts _ (List.mem_cons_of_mem _ w1)) (hts _ (List.mem_cons_of_mem _ w2)) (hts _ (List.mem_cons_of_mem _ hini)) (hts _ (List.mem_cons_of_mem _ w3)) hf hr hI.2.2.2.2.1 hI.2.2.2.2.2 hd g
theorem xcopied {c0 c1 : ClassId} {fs gs : List Value} (hl : gs.length = fs.length) (n : Int32) (hn : n.toNatClampNeg = fs.length) : copied (arrV c0 fs.length (vp_V fs)) (arrV c1 gs.length (vp_V gs)) 0 0 n = arrV c1 fs.length (vp_V fs) := by
  have e := va_copied (fun z : Value => z) c0 c1 (n0 := fs.length) (n1 := gs.length) (sp := 0) (dp := 0) (n := n.toNatClampNeg) (vp_V fs) (vp_V gs) (by omega)
  refine Eq.trans e ?_
  rw [hl]
  unfold arrV
  congr 1
  apply Array.ext
  · simp
  · intro i h1 h2
    have hi : i < fs.length := by simpa using h1
    simp [va_cpy, hn, hi]
theorem xl_copy {idx : Nat} (IH : xIH ρ base F Ts Ns cl tys D dA la okc Ms ih) (hme : me ∈ Ms) (hok : okc me cs = true) (hn : xatp (pc + 3) cs) (hd : decode me.2.1 pc = .ok (.invokestatic idx, 3)) (hty : tys[0]? = some .int) (h1 : Jvm.Cond.methodLink me.1.cls idx arraycopyName ∈ Ts) (h2 : Jvm.Cond.native arraycopyName ∈ Ts) (h3 : Jvm.Cond.static arraycopyName ∈ Ts) (h4 : Jvm.Cond.initialized "java/lang/System" ∈ Ts) (hf : 1 ≤ (xR me).frames) (h : xo_copy ih me cs a b l A k = true) : xGd ρ base F Ts Ns cl tys D dA la me pc A k := by
  obtain ⟨lv, st0, env, hp, nn, uc, us⟩ := A
  match st0, h with
  | .inl n :: .inl dp :: .inr (.inr (.inl (some d))) :: .inl sp :: .inr (.inr (.inl (some o))) :: st, h =>
    unfold xo_copy at h
    obtain ⟨hr, h0⟩ := xcond h
    clear h
    have e1 := Nat.eq_of_beq_eq_true (xand (xand hr).1).1
    have e2 := Nat.eq_of_beq_eq_true (xand (xand hr).1).2
    have hnl := xblt.mp (xand (xand hr).2).1
    have hrm : xcats st + 64 ≤ (xR me).locals := Nat.le_of_ble_eq_true (xand (xand hr).2).2
    subst e1; subst e2
    obtain ⟨c1, hc1, h⟩ := xhget_of h0
    obtain ⟨c2, hc2, h⟩ := xhget_of h
    obtain ⟨hk, h⟩ := xcond h
    have k1 := Nat.eq_of_beq_eq_true (xand (xand hk).1).1
    have k2 := Nat.eq_of_beq_eq_true (xand (xand hk).1).2
    have l1 := Nat.eq_of_beq_eq_true (xand (xand hk).2).1
    have l2 := Nat.eq_of_beq_eq_true (xand (xand hk).2).2
    obtain ⟨hp', h, -, r1, r2⟩ := xhset_of h
    intro p e s m args below meth c X H locs ls stc hI hL
    obtain ⟨v1, stc, rfl, g1, hst1⟩ := xSR_cons hI.2.2.1
    obtain ⟨v2, stc, rfl, g2, hst2⟩ := xSR_cons hst1
    obtain ⟨v3, stc, rfl, g3, hst3⟩ := xSR_cons hst2
    obtain ⟨v4, stc, rfl, g4, hst4⟩ := xSR_cons hst3
    obtain ⟨v5, stc, rfl, g5, hst⟩ := xSR_cons hst4
    cases g1; cases g2; cases g3; cases g4; cases g5
    obtain ⟨fs, hfs, hat, ty1, ht1, hfit1⟩ := xarr (hI.2.2.2.1.2 o c1 hc1) (by omega)
    obtain ⟨gs, hgs, hat2, ty2, ht2, -⟩ := xarr (hI.2.2.2.1.2 d c2 hc2) (by omega)
    rw [k1] at hat ht1
    rw [k2] at hat2 ht2
    have et : ty1 = .int := Option.some.inj (ht1.symm.trans hty)
    subst et
    have lf : fs.length = n := by rw [hfs.1, l1]
    have lg : gs.length = n := by rw [hgs.1, l2]
    have X0 := X
    obtain ⟨hx, hbc, hml, _, _, _, hown, hts, _, _, hKA⟩ := X
    have hsize : ls.size = me.2.2.1 := by obtain ⟨lvc, hl, -⟩ := hI.2.1; exact hl.1
    have hcl := xclamp (show n < 2147483648 by omega)
    have hz : (nI 0) = (0 : Int32) := rfl
    obtain ⟨-, k0, hk0, cm0, hkk0⟩ := (hKA.1 _ _ hty).1 fs.length (vp_V fs)
    obtain ⟨-, k1', hk1, cm1, hkk1⟩ := (hKA.1 _ _ hty).1 gs.length (vp_V gs)
    intro T hT S
    rw [hz]
    have hni : (nI n).toInt = (n : Int) := nI_toInt (by omega)
    obtain ⟨vm', X', step⟩ := S.arraycopy hx hown (hts _ (List.mem_cons_of_mem _ h1)) (hts _ (List.mem_cons_of_mem _ h2)) (hts _ (List.mem_cons_of_mem _ h3)) (hts _ (List.mem_cons_of_mem _ h4)) (src := base + o) (dst := base + d) (cs := arrV (dA (100 - 100)) fs.length (vp_V fs)) (cd := arrV (dA (100 - 100)) gs.length (vp_V gs)) (srcPos := 0) (destPos := 0) (n := nI n) (by rw [hT]; exact hat) (by rw [hT]; exact hat2)
      (fun _ h => by cases h) (fun _ h => by cases h) (fun h => by cases h) (fun h => by cases h) hk0 hk1 hkk0 hkk1 (by decide) (by decide) (by decide) (xneg (by omega))
      (by rw [hni, arrV_size, lf, Int32.toInt_zero]; omega)
      (by rw [hni, arrV_size, lg, Int32.toInt_zero]; omega)
      (fun vm₁ _ i hi => by
        have hil : i < fs.length := by rw [lf, ← hcl]; exact hi
        have ee : (arrV (dA (100 - 100)) fs.length (vp_V fs)).slots.getD ((0 : Int32).toNatClampNeg + i) .null = vp_V fs i := by
          rw [show (0 : Int32).toNatClampNeg + i = i by rw [sb_cl0]; omega, Array.getD_eq_getD_getElem?, arrV_read _ _ hil]
          rfl
        have hmem : vp_V fs i ∈ fs := by
          unfold vp_V
          rw [List.getD_eq_getElem?_getD, List.getElem?_eq_getElem hil]
          exact List.getElem_mem hil
        have hfi := hfit1 _ hmem
        rw [ee]
        refine ⟨hfi, ?_⟩
        generalize vp_V fs i = w at hfi
        cases w <;> first | trivial | exact absurd hfi (by simp [fits]))
      (g := F0 m pc ls (.int (nI n) :: .int 0 :: .ref (base + d) :: .int 0 :: .ref (base + o) :: stc)) rfl (by rw [hml]; exact hsize) (rest := stc) rfl (by rw [hbc]; exact hd) hf (by
        have q := (xcats_of hst).1
        have hw : nativeFrameWords "java/lang/System" "arraycopy" 5 + 11 ≤ 64 := by decide +kernel
        show 2 * 0 + _ + _ ≤ _
        omega)
    rw [xcopied (by rw [lf, lg]) _ (by rw [hcl, lf])] at X' step
    have hlt : base + d < H.size := (Array.getElem?_eq_some_iff.mp hat2).1
    generalize hH1 : ((T.setVm vm').setCell (base + d) (arrV (dA (100 - 100)) fs.length (vp_V fs))).heap = H1
    have hH2 : H1 = H.setIfInBounds (base + d) (arrV (dA (100 - 100)) fs.length (vp_V fs)) := by rw [← hH1, ← hT]; rfl
    have q1 : H1[base + d]? = some (arrV (dA (100 - 100)) fs.length (vp_V fs)) := by rw [hH2]; simp [Array.getElem?_setIfInBounds, hlt]
    have q2 : H1.size = H.size := by rw [hH2]; simp
    have q3 : ∀ q : Nat, q ≠ base + d → H1[q]? = H[q]? := fun q hq => by rw [hH2]; simp [Array.getElem?_setIfInBounds, Ne.symm hq]
    have g := IH me cs (lv, st, env, hp', nn, uc, us) k (pc + 3) hme h hok hn p e s m args below meth c X0 H1 (locs ++ ((arrV (dA (100 - 100)) fs.length (vp_V fs)).stretch (0 : Int32).toNatClampNeg (nI n).toNatClampNeg).zipIdx.map fun q => ⟨base + d, (0 : Int32).toNatClampNeg + q.2⟩) ls stc ⟨hI.1, hI.2.1, hst, hI.2.2.2.1.put (c := (100, n, c1.2.2)) (hI.2.2.2.1.1.2.1 d c2 hc2) q2 q3 ⟨fs, by rw [← l1]; exact hfs, Or.inr ⟨Nat.le_refl _, q1, _, ht1, hfit1⟩⟩ r1 r2, hI.2.2.2.2⟩ (xSput hL (hI.2.2.2.1.1.2.1 d c2 hc2) q2 q3 (fun l hl => by
      obtain ⟨z, -, hz⟩ := List.mem_map.mp hl
      rw [← hz]))
    obtain ⟨t, a1, b1⟩ := g _ hH1 X'
    exact ⟨t, step t a1, b1⟩
end XJ
end
section
/-! new int[n][k] (vr_outer is NAMES.whole's row) -/
theorem vr_outer (c : ClassId) (N h0 : Nat) : ∀ i : Nat, Jvm.Free.Multi.outerC c N h0 i = arrV c N (fun j => va_rf (if j < i then some (h0 + 1 + j) else none))
  | 0 => by
    show ({ cls := c, slots := Array.replicate N .null, vm := .none } : Cell) = _
    rw [arrV_new]
    refine congrArg (arrV c N) (funext fun j => ?_)
    simp [va_rf]
  | i + 1 => by
    show (Jvm.Free.Multi.outerC c N h0 i).setSlot i (.ref (h0 + 1 + i)) = _
    rw [vr_outer c N h0 i, arrV_store]
    refine congrArg (arrV c N) (funext fun j => ?_)
    by_cases e : j = i
    · subst e
      simp [updV, va_rf]
    · by_cases h : j < i
      · simp [updV, e, h, Nat.lt_succ_of_lt h]
      · simp [updV, e, h, show ¬ j < i + 1 by omega]
theorem xrefs_of : ∀ {m a : Nat} {k : List xV → Bool}, xrefs m a k = true → ∃ r : List xV, k r = true ∧ r.length = m ∧ ∀ i x, r[i]? = some x → i < m ∧ x = xRef (a + i) := by
  intro m
  induction m with
  | zero => intro a k h; exact ⟨[], h, rfl, fun i x hx => by simp at hx⟩
  | succ m ih =>
    intro a k h
    have h := xfN_of (n := Nat.succ a) (k := fun a' => xrefs m a' (fun l => k (xRef a :: l))) h
    obtain ⟨r, h1, h2, h3⟩ := ih h
    refine ⟨xRef a :: r, h1, by simp [h2], fun i x hx => ?_⟩
    cases i with
    | zero => simp at hx; exact ⟨by omega, by rw [← hx]; rfl⟩
    | succ i =>
      obtain ⟨q1, q2⟩ := h3 i x (by simpa using hx)
      exact ⟨by omega, by rw [q2, show Nat.succ a + i = a + (i + 1) by omega]⟩
theorem xgrid_of {c : xC} : ∀ {m : Nat} {h : xH} {n : Nat} {k : xH → Nat → Bool}, xgrid c m h n k = true → ∃ h' : xH, k h' (n + m) = true ∧ (∀ i, i < m → xat h' (n + i) = some c) ∧ ∀ b, (b < n ∨ n + m ≤ b) → xat h' b = xat h b := by
  intro m
  induction m with
  | zero => intro h n k e; exact ⟨h, e, fun i hi => absurd hi (by omega), fun b _ => rfl⟩
  | succ m ih =>
    intro h n k e
    obtain ⟨h1, e, a1, a2⟩ := xhpush_of (h := h) (n := n) (c := c) (k := fun h => xfN (Nat.succ n) (fun n => xgrid c m h n k)) e
    have e := xfN_of (n := Nat.succ n) (k := fun n => xgrid c m h1 n k) e
    obtain ⟨h2, b1, b2, b3⟩ := ih e
    refine ⟨h2, by rw [show n + (m + 1) = Nat.succ n + m by omega]; exact b1, fun i hi => ?_, fun b hb => ?_⟩
    · cases i with
      | zero => rw [b3 (n + 0) (Or.inl (by omega))]; exact a1
      | succ i => rw [show n + (i + 1) = Nat.succ n + i by omega]; exact b2 i (by omega)
    · rw [b3 b (by omega), a2 b (by omega)]
section XG
variable {ρ : Nat → Int32} {base : Nat} {F : Nat → Prop} {Ts Ns : List Jvm.Cond} {cl : List vw_C} {tys : List FieldType} {D : va_G} {dA : Nat → ClassId} {la : Launch} {okc : xM → List xI → Bool} {Ms : List xM} {ih : xIh} {me : xM} {cs : List xI} {a b : Nat} {l : List Nat} {A : xA} {k : xK} {pc : Nat}
theorem xl_mna {idx : Nat} (IH : xIH ρ base F Ts Ns cl tys D dA la okc Ms ih) (hme : me ∈ Ms) (hok : okc me cs = true) (hn : xatp (pc + 4) cs) (hd : decode me.2.1 pc = .ok (.multianewarray idx 2, 4)) (hty : tys[0]? = some .int) (hty2 : tys[2]? = some (.array .int)) (h1 : Jvm.Cond.classLink me.1.cls idx ("[" ++ (FieldType.array .int).toString) ∈ Ts) (h2 : Jvm.Cond.arrayClass .int ∈ Ts) (h : xo_mna ih me cs a b l A k = true) : xGd ρ base F Ts Ns cl tys D dA la me pc A k := by
  obtain ⟨lv, st0, env, hp, n, uc, us⟩ := A
  match st0, h with
  | .inl w :: .inl m' :: st, h =>
    unfold xo_mna at h
    obtain ⟨hr, h0⟩ := xcond h
    clear h
    have hw := xblt.mp (xand (xand hr).1).1
    have hm := xblt.mp (xand (xand hr).1).2
    have hc : uc + (m' + 1) ≤ (xR me).cells := Nat.le_of_ble_eq_true (xand (xand hr).2).1
    have hs : us + (m' + m' * w) ≤ (xR me).slots := Nat.le_of_ble_eq_true (xand (xand hr).2).2
    obtain ⟨r1, h, l1, f1⟩ := xrefs_of h0
    obtain ⟨r2, h, l2, f2⟩ := xrefs_of h
    obtain ⟨hp1, h, a1, a2⟩ := xhpush_of h
    obtain ⟨fs0, h, hfs0⟩ := xrows_of h
    obtain ⟨hp2, h, b1, b2⟩ := xgrid_of h
    have h := xfN_of h
    have h := xfN_of h
    have h := xfN_of h
    intro p e s m args below meth c X H locs ls stc hI hL
    obtain ⟨v1, stc, rfl, g1, hst1⟩ := xSR_cons hI.2.2.1
    obtain ⟨v2, stc, rfl, g2, hst⟩ := xSR_cons hst1
    cases g1; cases g2
    have X0 := X
    obtain ⟨hx, hbc, hml, _, _, _, hown, hts, _, _, hKA⟩ := X
    have hsz : H.size = base + n := hI.2.2.2.1.1.1
    have cw := xclamp (show w < 2147483648 by omega)
    have cm := xclamp (show m' < 2147483648 by omega)
    intro T hT S
    have hmw : m' * w ≤ 128 * 1000 := Nat.mul_le_mul (by omega) (by omega)
    obtain ⟨vm₁, cA, comp, -, fA, fC, -, -, X', step⟩ := S.multianewarray2F hx (ty := .int) hown (hts _ (List.mem_cons_of_mem _ h1)) (xAO.use hKA.2.1) (hts _ (List.mem_cons_of_mem _ h2)) (g := F0 m pc ls (.int (nI w) :: .int (nI m') :: stc)) rfl (by rw [hbc]; exact hd) rfl (xneg (by omega)) (xneg (by omega)) (by rw [cm]; omega) (by rw [cw]; show w * 4 ≤ _; omega) (by rw [cw]; omega) rfl rfl (by rw [cm]; show uc + (1 + m') ≤ _; omega) (by rw [cm, cw]; exact hs)
    rw [cm, cw] at X' step
    have ecA : cA = dA 2 := Option.some.inj (fA.symm.trans (hKA.1 _ _ hty2).2)
    have ecp : comp = dA 0 := Option.some.inj (fC.symm.trans (hKA.1 _ _ hty).2)
    subst ecA
    subst ecp
    generalize hF : Jvm.Free.Multi.fill (T.setVm vm₁) (dA 2) (dA 0) m' w (defaultValue .int) m' = G9 at X' step
    have hTh : (T.setVm vm₁).heap = H := hT
    obtain ⟨z1, z2, -, -⟩ := Jvm.Free.Multi.fill_facts (T.setVm vm₁) (dA 2) (dA 0) m' w (defaultValue .int) m'
    rw [hF, hTh] at z1 z2
    have hold : ∀ x : Nat, x < H.size → G9.heap[x]? = H[x]? := fun x hx => by
      have := Jvm.Free.Multi.fill_old (T.setVm vm₁) (dA 2) (dA 0) m' w (defaultValue .int) (a := x) (by rw [hTh]; exact hx) m'
      rw [hF, hTh] at this
      exact this
    have hrow : ∀ j : Nat, j < m' → G9.heap[H.size + 1 + j]? = some (arrV (dA 0) (List.replicate w (Value.int 0)).length (vp_V (List.replicate w (Value.int 0)))) := fun j hj => by
      have := Jvm.Free.Multi.fill_inner (T.setVm vm₁) (dA 2) (dA 0) m' w (defaultValue .int) m' j hj
      rw [hF, hTh] at this
      rw [this]
      exact congrArg some (xrepV w (.int 0) (dA 0))
    let fsO : List Value := (List.range m').map (fun j => Value.ref (H.size + 1 + j))
    have hfl : fsO.length = m' := by simp [fsO]
    have hout : G9.heap[H.size]? = some (arrV (dA 2) fsO.length (vp_V fsO)) := by
      rw [z2, vr_outer, hfl]
      refine congrArg some ?_
      unfold arrV
      congr 1
      apply Array.ext
      · simp
      · intro i q1 q2
        have hi : i < m' := by simpa using q1
        simp [hi, va_rf, vp_V, fsO]
    have hH1 : xHR ρ base F D dA tys cl hp2 (n + 1 + m') G9.heap := by
      refine ⟨⟨by rw [z1, hsz]; omega, fun b d hb => ?_, fun q hq => hI.2.2.2.1.1.2.2.1 q (by show base + n ≤ q; omega), hI.2.2.2.1.1.2.2.2⟩, fun b d hb => ?_⟩
      · rcases Nat.lt_or_ge b n with q | q
        · rw [b2 b (Or.inl (by show b < n + 1; omega)), a2 b (by omega)] at hb
          exact hI.2.2.2.1.1.2.1 b d hb
        · exact hI.2.2.2.1.1.2.2.1 _ (by show base + n ≤ base + b; omega)
      rcases Nat.lt_or_ge b n with q | q
      · rw [b2 b (Or.inl (by show b < n + 1; omega)), a2 b (by omega)] at hb
        have h3 := hI.2.2.2.1.2 b d hb
        exact h3.kept (hold _ h3.lt)
      · rcases Nat.lt_or_ge b (n + 1) with q2 | q2
        · have e : b = n := by omega
          subst e
          rw [b2 b (Or.inl (by show b < b + 1; omega)), a1] at hb
          cases hb
          refine ⟨fsO, ⟨hfl, fun i x hx => ?_⟩, Or.inr ⟨by show 100 ≤ 102; omega, by rw [← hsz]; exact hout, _, hty2, fun v hv => ?_⟩⟩
          · have hx : (([r1, r2] : List (List xV))[i / 64]?).bind (fun r => r[i % 64]?) = some x := hx
            have e2 := xdm i
            have hm64 := Nat.mod_lt i (show 0 < 64 by decide)
            have key : i < m' ∧ x = xRef (b + 1 + i) := by
              rcases Nat.lt_or_ge (i / 64) 1 with q3 | q3
              · rw [show i / 64 = 0 by omega] at hx
                obtain ⟨k1, k2⟩ := f1 (i % 64) x hx
                have k1 : i % 64 < (cond (Nat.ble m' 64) m' 64) := k1
                refine ⟨?_, by rw [k2, show Nat.succ b + i % 64 = b + 1 + i by omega]⟩
                cases hb6 : Nat.ble m' 64 with
                | true => rw [hb6] at k1; have k1 : i % 64 < m' := k1; omega
                | false =>
                  have : ¬ m' ≤ 64 := fun q => by rw [Nat.ble_eq_true_of_le q] at hb6; cases hb6
                  omega
              · rcases Nat.lt_or_ge (i / 64) 2 with q4 | q4
                · rw [show i / 64 = 1 by omega] at hx
                  obtain ⟨k1, k2⟩ := f2 (i % 64) x hx
                  have k1 : i % 64 < m' - 64 := k1
                  exact ⟨by omega, by rw [k2, show Nat.add (Nat.succ b) 64 + i % 64 = b + 1 + i by show b + 1 + 64 + i % 64 = _; omega]⟩
                · rw [List.getElem?_eq_none (by simpa using q4)] at hx
                  cases hx
            obtain ⟨k1, rfl⟩ := key
            exact ⟨.ref (H.size + 1 + i), by simp [fsO, k1], by show Value.ref (H.size + 1 + i) = .ref (base + (b + 1 + i)); exact congrArg Value.ref (show (H.size + 1 + i : Nat) = base + (b + 1 + i) by omega)⟩
          · obtain ⟨j, -, rfl⟩ := List.mem_map.mp hv
            rfl
        · rcases Nat.lt_or_ge b (n + 1 + m') with q3 | q3
          · have e : b = n + 1 + (b - (n + 1)) := by omega
            have hb9 := b1 (b - (n + 1)) (by omega)
            have hb9 : xat hp2 (n + 1 + (b - (n + 1))) = some (100, w, fs0) := hb9
            rw [← e] at hb9
            rw [hb9] at hb
            cases hb
            have hr9 := hrow (b - (n + 1)) (by omega)
            rw [show H.size + 1 + (b - (n + 1)) = base + b by omega] at hr9
            exact ⟨_, xFR_rep hfs0 rfl, Or.inr ⟨Nat.le_refl _, hr9, _, hty, fun v hv => by rw [List.eq_of_mem_replicate hv]; rfl⟩⟩
          · rw [b2 b (Or.inr (by show n + 1 + m' ≤ b; omega)), a2 b (by omega)] at hb
            have h3 := hI.2.2.2.1.2 b d hb
            have := h3.lt
            omega
    have g := IH me cs (lv, xRef n :: st, env, hp2, n + 1 + m', uc + (m' + 1), us + (m' + m' * w)) k (pc + 4) hme h hok hn p e s m args below meth c X0 G9.heap locs ls (.ref (base + n) :: stc) ⟨hI.1, hI.2.1, ⟨rfl, hst⟩, hH1, hc, hs⟩ (xSpush hL (by rw [z1]; omega) hold)
    have X'' : Stand p la e (xR me) s m args below meth c G9 locs (uc + (m' + 1)) (us + (m' + m' * w)) := by
      rw [show uc + (m' + 1) = uc + 1 + m' by omega, show us + (m' + m' * w) = us + m' + m' * w by omega]
      exact X'
    obtain ⟨t, c1, c2⟩ := g G9 rfl X''
    refine ⟨t, step t ?_, c2⟩
    have eh : T.heap.size = base + n := by rw [hT, hsz]
    rw [eh]
    exact c1
  | [], h => exact absurd h (by simp [xo_mna])
  | [_], h => exact absurd h (by simp [xo_mna])
  | .inr _ :: _ :: _, h => exact absurd h (by simp [xo_mna])
  | .inl _ :: .inr _ :: _, h => exact absurd h (by simp [xo_mna])
end XG
end
section
/-! the code tables are the machine's code; the run; what it gives -/
def xTs (Tc : List (List Jvm.Cond)) : List Jvm.Cond := (Tc.map (fun r => r.filter goodWord)).flatten
def xNs (Tc : List (List Jvm.Cond)) : List Jvm.Cond := (Tc.map (fun r => r.filter xNw)).flatten
def xwd (Tc : List (List Jvm.Cond)) (i : Nat) (w : Jvm.Cond) : Bool := decide ((Tc[i / 1024]?).bind (fun r => r[i % 1024]?) = some w)
def xwg (Tc : List (List Jvm.Cond)) (i : Nat) (w : Jvm.Cond) : Bool := xwd Tc i w && goodWord w
def xwn (Tc : List (List Jvm.Cond)) (i : Nat) (w : Jvm.Cond) : Bool := xwd Tc i w && xNw w
theorem xwd_of {Tc : List (List Jvm.Cond)} {i : Nat} {w : Jvm.Cond} (h : xwd Tc i w = true) : ∃ r ∈ Tc, w ∈ r := by
  have h := of_decide_eq_true h
  obtain ⟨r, h1, h2⟩ := Option.bind_eq_some_iff.mp h
  exact ⟨r, List.mem_of_getElem? h1, List.mem_of_getElem? h2⟩
theorem xwg_of {Tc : List (List Jvm.Cond)} {i : Nat} {w : Jvm.Cond} (h : xwg Tc i w = true) : w ∈ xTs Tc := by
  obtain ⟨h1, h2⟩ := Bool.and_eq_true_iff.mp h
  obtain ⟨r, q1, q2⟩ := xwd_of h1
  exact List.mem_flatten.mpr ⟨_, List.mem_map.mpr ⟨r, q1, rfl⟩, List.mem_filter.mpr ⟨q2, h2⟩⟩
theorem xwn_of {Tc : List (List Jvm.Cond)} {i : Nat} {w : Jvm.Cond} (h : xwn Tc i w = true) : w ∈ xNs Tc := by
  obtain ⟨h1, h2⟩ := Bool.and_eq_true_iff.mp h
  obtain ⟨r, q1, q2⟩ := xwd_of h1
  exact List.mem_flatten.mpr ⟨_, List.mem_map.mpr ⟨r, q1, rfl⟩, List.mem_filter.mpr ⟨q2, h2⟩⟩
theorem xTs_good (Tc : List (List Jvm.Cond)) : ∀ w ∈ xTs Tc, goodWord w = true := by
  intro w hw
  obtain ⟨r, h1, h2⟩ := List.mem_flatten.mp hw
  obtain ⟨q, -, rfl⟩ := List.mem_map.mp h1
  exact (List.mem_filter.mp h2).2
theorem xNs_good (Tc : List (List Jvm.Cond)) : ∀ w ∈ xNs Tc, xNw w = true := by
  intro w hw
  obtain ⟨r, h1, h2⟩ := List.mem_flatten.mp hw
  obtain ⟨q, -, rfl⟩ := List.mem_map.mp h1
  exact (List.mem_filter.mp h2).2
/-- which of the three words of 'new' stands where: packed in one number -/
def xb1 (b : Nat) : Nat := b % 1048576
def xb2 (b : Nat) : Nat := b / 1048576 % 1048576
def xb3 (b : Nat) : Nat := b / 1099511627776
def xcnd : Jvm.ClassFile.Cond → Nat
  | .eq => 0
  | .ne => 1
  | .lt => 2
  | .ge => 3
  | .gt => 4
  | .le => 5
/-- the callee's part of a call's check -/
def xokCall (Tc : List (List Jvm.Cond)) (Ms : List xM) (cl : List vw_C) (me : xM) (ins : Instr) (idx kind a b : Nat) (l : List Nat) : Bool := match Ms[b]? with
  | none => false
  | some mc => match parseMethodDescriptor mc.1.desc with
    | none => false
    | some sg => decide (l.getD 1 9 = kind) && decide (mc.1.cls ≠ "java/lang/invoke/MethodHandle" ∧ mc.1.cls ≠ "java/lang/invoke/VarHandle") && decide ((xR mc).frames + 1 ≤ (xR me).frames ∧ 8 + (mc.2.2.1 + 11) + (xR mc).locals ≤ (xR me).locals) && xwg Tc (l.getD 6 0) (.code mc.1 mc.2.1 mc.2.2.1 mc.2.2.2.1) && xwg Tc (l.getD 7 0) (.initialized mc.1.cls)
      && (if l.getD 3 0 = 0 then xwg Tc (l.getD 2 0) (.methodLink me.1.cls idx mc.1) else xwn Tc (l.getD 2 0) (.methodLinkNest me.1.cls idx mc.1 "AcidCity"))
      && (if kind = 0 then decide (a = sg.parameters.length) && xwg Tc (l.getD 4 0) (.static mc.1)
          else decide (a = sg.parameters.length + 1) && xwg Tc (l.getD 4 0) (.instanceMethod mc.1) && decide (l.getD 0 0 ≠ 0 ∧ l.getD 0 0 ≤ 100) && (match cl[l.getD 0 0 - 1]? with | some q => decide (q.1 = mc.1.cls) | none => false)
            && (if kind = 1 then xwg Tc (l.getD 5 0) (.selects mc.1.cls mc.1 mc.1) else decide (mc.2.2.2.1 = none ∧ mc.1.name = "<init>")))
def xokNew (Tc : List (List Jvm.Cond)) (cl : List vw_C) (me : xM) (idx a b : Nat) (l : List Nat) : Bool := match cl[a]? with
  | none => false
  | some q => decide (l.length = q.2.2 ∧ q.2.2 ≤ 64) && (List.range q.2.2).all (fun k => match parseFieldDescriptor (q.2.1 k).2.2.1 with | some ty => decide (l[k]? = some (xkt ty) ∧ xkt ty ≠ 9) | none => false) && xwg Tc (xb1 b) (.classLink me.1.cls idx q.1) && xwg Tc (xb2 b) (.instantiable q.1 q.2.2) && xwg Tc (xb3 b) (.initialized q.1)
def xokGet (Tc : List (List Jvm.Cond)) (cl : List vw_C) (me : xM) (idx a b : Nat) (l : List Nat) : Bool := match cl[a]? with
  | none => false
  | some q => decide (b < q.2.2) && xwg Tc (l.getD 0 0) (.fieldLink me.1.cls idx (q.2.1 b).1 (q.2.1 b).2.1 (q.2.1 b).2.2.1)
def xokPut (Tc : List (List Jvm.Cond)) (cl : List vw_C) (me : xM) (idx a b : Nat) (l : List Nat) : Bool := match cl[a]? with
  | none => false
  | some q => match parseFieldDescriptor (q.2.1 b).2.2.1 with
    | none => false
    | some ty => decide (b < q.2.2) && xwg Tc (l.getD 1 0) (.fieldLink me.1.cls idx (q.2.1 b).1 (q.2.1 b).2.1 (q.2.1 b).2.2.1) && decide ((q.2.1 b).2.2.2 = false ∨ ((q.2.1 b).2.2.2 = true ∧ me.1.name = "<init>" ∧ (q.2.1 b).1 = me.1.cls)) && decide (l.getD 0 9 = xkt ty)
def xokTab (pc a b : Nat) (l : List Nat) (dflt lo hi : Int) (offs : Array Int) : Bool := decide ((a : Int) = lo + 2147483648 ∧ (pc : Int) + dflt = (b : Int) ∧ hi = lo + (l.length : Int) - 1 ∧ offs.toList.map (fun o => (pc : Int) + o) = l.map (fun t : Nat => (t : Int)))
theorem xokTab_of {pc a b : Nat} {l : List Nat} {dflt lo hi : Int} {offs : Array Int} (h : xokTab pc a b l dflt lo hi offs = true) : xTab pc a b l dflt lo hi offs := by
  unfold xokTab at h
  have h := of_decide_eq_true h
  exact h
/-- op, operands and the machine's instruction fit -/
def xokI (Tc : List (List Jvm.Cond)) (Ms : List xM) (cl : List vw_C) (tys : List FieldType) (me : xM) (pc : Nat) (ins : Instr) (len op a b : Nat) (l : List Nat) : Bool := match ins with
  | .iconst i => decide (op = 0 ∧ len = 1) && (decide (Int32.ofInt i = nI a))
  | .bipush i => decide (op = 0 ∧ len = 2) && (decide ((Int8.ofInt i).toInt32 = nI a))
  | .sipush i => decide (op = 0 ∧ len = 3) && (decide ((Int16.ofInt i).toInt32 = nI a))
  | .ldc i => decide (op = 0 ∧ len = 2) && (xwg Tc (l.getD 0 0) (.constant me.1.cls i (nI a)))
  | .ldc_w i => decide (op = 0 ∧ len = 3) && (xwg Tc (l.getD 0 0) (.constant me.1.cls i (nI a)))
  | .lconst i => decide (op = 1 ∧ len = 1) && (decide (Int64.ofNat (i : Nat) = lN a))
  | .ldc2_w i => decide (op = 1 ∧ len = 3) && (xwg Tc (l.getD 0 0) (.constantLong me.1.cls i (lN a)))
  | .aconst_null => decide (op = 2 ∧ len = 1)
  | .iload i => decide (op = 3 ∧ len = 2) && (decide (i = a ∧ b = 0))
  | .iload_n i => decide (op = 3 ∧ len = 1) && (decide ((i : Nat) = a ∧ b = 0))
  | .lload i => decide (op = 3 ∧ len = 2) && (decide (i = a ∧ b = 2))
  | .lload_n i => decide (op = 3 ∧ len = 1) && (decide ((i : Nat) = a ∧ b = 2))
  | .aload i => decide (op = 3 ∧ len = 2) && (decide (i = a ∧ b = 1))
  | .aload_n i => decide (op = 3 ∧ len = 1) && (decide ((i : Nat) = a ∧ b = 1))
  | .istore i => decide (op = 4 ∧ len = 2) && (decide (i = a ∧ b = 0 ∧ a < me.2.2.1))
  | .istore_n i => decide (op = 4 ∧ len = 1) && (decide ((i : Nat) = a ∧ b = 0 ∧ a < me.2.2.1))
  | .lstore i => decide (op = 4 ∧ len = 2) && (decide (i = a ∧ b = 2 ∧ a + 1 < me.2.2.1))
  | .lstore_n i => decide (op = 4 ∧ len = 1) && (decide ((i : Nat) = a ∧ b = 2 ∧ a + 1 < me.2.2.1))
  | .astore i => decide (op = 4 ∧ len = 2) && (decide (i = a ∧ b = 1 ∧ a < me.2.2.1))
  | .astore_n i => decide (op = 4 ∧ len = 1) && (decide ((i : Nat) = a ∧ b = 1 ∧ a < me.2.2.1))
  | .iinc i n => decide (op = 5 ∧ len = 3) && (decide (i = a ∧ Int32.ofInt n = nI b ∧ a < me.2.2.1))
  | .iadd => decide (op = 6 ∧ len = 1) && (decide (a = 0))
  | .isub => decide (op = 6 ∧ len = 1) && (decide (a = 1))
  | .imul => decide (op = 6 ∧ len = 1) && (decide (a = 2))
  | .iand => decide (op = 6 ∧ len = 1) && (decide (a = 3))
  | .ior => decide (op = 6 ∧ len = 1) && (decide (a = 4))
  | .ixor => decide (op = 6 ∧ len = 1) && (decide (a = 5))
  | .ishl => decide (op = 6 ∧ len = 1) && (decide (a = 6))
  | .ishr => decide (op = 6 ∧ len = 1) && (decide (a = 7))
  | .iushr => decide (op = 6 ∧ len = 1) && (decide (a = 8))
  | .idiv => decide (op = 7 ∧ len = 1) && (decide (a = 0))
  | .irem => decide (op = 7 ∧ len = 1) && (decide (a = 1))
  | .ineg => decide (op = 8 ∧ len = 1) && (decide (a = 0))
  | .i2b => decide (op = 8 ∧ len = 1) && (decide (a = 1))
  | .i2s => decide (op = 8 ∧ len = 1) && (decide (a = 2))
  | .i2c => decide (op = 8 ∧ len = 1) && (decide (a = 3))
  | .i2l => decide (op = 9 ∧ len = 1)
  | .l2i => decide (op = 10 ∧ len = 1)
  | .ladd => decide (op = 11 ∧ len = 1) && (decide (a = 0))
  | .lsub => decide (op = 11 ∧ len = 1) && (decide (a = 1))
  | .lmul => decide (op = 11 ∧ len = 1) && (decide (a = 2))
  | .land => decide (op = 11 ∧ len = 1) && (decide (a = 3))
  | .lor => decide (op = 11 ∧ len = 1) && (decide (a = 4))
  | .lxor => decide (op = 11 ∧ len = 1) && (decide (a = 5))
  | .ldiv => decide (op = 12 ∧ len = 1) && (decide (a = 0))
  | .lrem => decide (op = 12 ∧ len = 1) && (decide (a = 1))
  | .lshl => decide (op = 13 ∧ len = 1) && (decide (a = 0))
  | .lshr => decide (op = 13 ∧ len = 1) && (decide (a = 1))
  | .lushr => decide (op = 13 ∧ len = 1) && (decide (a = 2))
  | .lcmp => decide (op = 14 ∧ len = 1)
  | .dup => decide (op = 15 ∧ len = 1)
  | .pop => decide (op = 16 ∧ len = 1)
  | .dup_x1 => decide (op = 17 ∧ len = 1)
  | .dup_x2 => decide (op = 18 ∧ len = 1)
  | .dup2 => decide (op = 19 ∧ len = 1)
  | .ifCond .eq o => decide (op = 20 ∧ len = 3) && (decide ((pc : Int) + o = (b : Int) ∧ a = 0))
  | .ifCond .ne o => decide (op = 20 ∧ len = 3) && (decide ((pc : Int) + o = (b : Int) ∧ a = 1))
  | .ifCond .lt o => decide (op = 20 ∧ len = 3) && (decide ((pc : Int) + o = (b : Int) ∧ a = 2))
  | .ifCond .ge o => decide (op = 20 ∧ len = 3) && (decide ((pc : Int) + o = (b : Int) ∧ a = 3))
  | .ifCond .gt o => decide (op = 20 ∧ len = 3) && (decide ((pc : Int) + o = (b : Int) ∧ a = 4))
  | .ifCond .le o => decide (op = 20 ∧ len = 3) && (decide ((pc : Int) + o = (b : Int) ∧ a = 5))
  | .if_icmp .eq o => decide (op = 21 ∧ len = 3) && (decide ((pc : Int) + o = (b : Int) ∧ a = 0))
  | .if_icmp .ne o => decide (op = 21 ∧ len = 3) && (decide ((pc : Int) + o = (b : Int) ∧ a = 1))
  | .if_icmp .lt o => decide (op = 21 ∧ len = 3) && (decide ((pc : Int) + o = (b : Int) ∧ a = 2))
  | .if_icmp .ge o => decide (op = 21 ∧ len = 3) && (decide ((pc : Int) + o = (b : Int) ∧ a = 3))
  | .if_icmp .gt o => decide (op = 21 ∧ len = 3) && (decide ((pc : Int) + o = (b : Int) ∧ a = 4))
  | .if_icmp .le o => decide (op = 21 ∧ len = 3) && (decide ((pc : Int) + o = (b : Int) ∧ a = 5))
  | .goto o => decide (op = 22 ∧ len = 3) && (decide ((pc : Int) + o = (b : Int)))
  | .ifnull o => decide (op = 23 ∧ len = 3) && (decide ((pc : Int) + o = (b : Int) ∧ a = 0))
  | .ifnonnull o => decide (op = 23 ∧ len = 3) && (decide ((pc : Int) + o = (b : Int) ∧ a = 1))
  | .tableswitch dflt lo hi offs => decide (op = 24) && (xokTab pc a b l dflt lo hi offs)
  | .getfield i => decide (op = 25 ∧ len = 3) && (decide (a < 100) && xokGet Tc cl me i a b l)
  | .putfield i => decide (op = 26 ∧ len = 3) && (decide (a < 100) && xokPut Tc cl me i a b l)
  | .new i => decide (op = 27 ∧ len = 3) && (decide (a < 100) && xokNew Tc cl me i a b l)
  | .newarray t => decide (op = 28 ∧ len = 2) && (decide (100 ≤ a ∧ tys[a - 100]? = some (Jvm.Op.newarray.typeOf t) ∧ b = xkt (Jvm.Op.newarray.typeOf t) ∧ b ≠ 9 ∧ componentBytes (Jvm.Op.newarray.typeOf t) ≤ 8) && xwg Tc (l.getD 0 0) (.arrayClass (Jvm.Op.newarray.typeOf t)))
  | .multianewarray i d => decide (op = 29 ∧ len = 4) && (decide (d = 2 ∧ tys[0]? = some .int ∧ tys[2]? = some (.array .int)) && xwg Tc (l.getD 0 0) (.classLink me.1.cls i ("[" ++ (FieldType.array .int).toString)) && xwg Tc (l.getD 1 0) (.arrayClass .int))
  | .arraylength => decide (op = 30 ∧ len = 1) && (decide (b = 100 + tys.length))
  | .iaload => decide (op = 31 ∧ len = 1) && (decide (100 ≤ a ∧ tys[a - 100]? = some .int))
  | .laload => decide (op = 31 ∧ len = 1) && (decide (100 ≤ a ∧ tys[a - 100]? = some .long))
  | .aaload => decide (op = 31 ∧ len = 1) && (decide (100 ≤ a ∧ tys[a - 100]? = some (.array .int)))
  | .iastore => decide (op = 32 ∧ len = 1) && (decide (100 ≤ a ∧ tys[a - 100]? = some .int ∧ b = 0))
  | .lastore => decide (op = 32 ∧ len = 1) && (decide (100 ≤ a ∧ tys[a - 100]? = some .long ∧ b = 2))
  | .ireturn => decide (op = 35 ∧ len = 1) && (decide ((me.2.2.2.1 = some .int ∧ a = 0) ∨ (me.2.2.2.1 = some .boolean ∧ a = 3)))
  | .lreturn => decide (op = 35 ∧ len = 1) && (decide (me.2.2.2.1 = some .long ∧ a = 2))
  | .return_ => decide (op = 36 ∧ len = 1) && (decide (me.2.2.2.1 = none))
  | .invokestatic i => decide (len = 3) && ((decide (op = 33) && xokCall Tc Ms cl me (.invokestatic i) i 0 a b l) || (decide (op = 37 ∧ 1 ≤ (xR me).frames) && ((decide (a = 0) && xwg Tc (l.getD 0 0) (.methodLink me.1.cls i Lib.Math.min.name) && xwg Tc (l.getD 1 0) (.static Lib.Math.min.name) && xwg Tc (l.getD 2 0) (.code Lib.Math.min.name Lib.Math.min.code 2 (some .int))) || (decide (a = 1) && xwg Tc (l.getD 0 0) (.methodLink me.1.cls i Lib.Math.max.name) && xwg Tc (l.getD 1 0) (.static Lib.Math.max.name) && xwg Tc (l.getD 2 0) (.code Lib.Math.max.name Lib.Math.max.code 2 (some .int)))) && xwg Tc (l.getD 3 0) (.initialized "java/lang/Math")) || (decide (op = 38 ∧ 1 ≤ (xR me).frames ∧ tys[0]? = some .int) && xwg Tc (l.getD 0 0) (.methodLink me.1.cls i arraycopyName) && xwg Tc (l.getD 1 0) (.native arraycopyName) && xwg Tc (l.getD 2 0) (.static arraycopyName) && xwg Tc (l.getD 3 0) (.initialized "java/lang/System")))
  | .invokevirtual i => decide (len = 3) && (decide (op = 33) && xokCall Tc Ms cl me (.invokevirtual i) i 1 a b l)
  | .invokespecial i => decide (len = 3) && ((decide (op = 33) && xokCall Tc Ms cl me (.invokespecial i) i 2 a b l) || (decide (op = 34 ∧ 1 ≤ (xR me).frames) && xwg Tc (l.getD 0 0) (.methodLink me.1.cls i Lib.objectInit) && xwg Tc (l.getD 1 0) (.instanceMethod Lib.objectInit) && xwg Tc (l.getD 2 0) (.code Lib.objectInit ⟨#[0xb1]⟩ 1 none)))
  | _ => false
/-- an entry of a code table: op 60 is never carried out -/
def xoke (Tc : List (List Jvm.Cond)) (Ms : List xM) (cl : List vw_C) (tys : List FieldType) (me : xM) (i : xI) (cs : List xI) : Bool := match decode me.2.1 i.1 with
  | .ok (ins, len) => (Nat.beq i.2.1 60 || xokI Tc Ms cl tys me i.1 ins len i.2.1 i.2.2.1 i.2.2.2.1 i.2.2.2.2) && (match cs with | [] => true | j :: _ => Nat.beq j.1 (i.1 + len))
  | .error _ => false
def xokc (Tc : List (List Jvm.Cond)) (Ms : List xM) (cl : List vw_C) (tys : List FieldType) (me : xM) : List xI → Bool
  | [] => true
  | i :: cs => xoke Tc Ms cl tys me i cs && xokc Tc Ms cl tys me cs
theorem xokc_suf {Tc : List (List Jvm.Cond)} {Ms : List xM} {cl : List vw_C} {tys : List FieldType} {me : xM} {c r : List xI} (h : xokc Tc Ms cl tys me c = true) (hs : r <:+ c) : xokc Tc Ms cl tys me r = true := by
  induction c with
  | nil => rw [List.suffix_nil.mp hs]; rfl
  | cons i c ih =>
    rcases List.suffix_cons_iff.mp hs with rfl | hs
    · exact h
    · exact ih (Bool.and_eq_true_iff.mp h).2 hs
noncomputable def xhs (Ms : List xM) : List (List xHd) := [[xo_iconst, xo_lconst, xo_null, xo_load, xo_store, xo_iinc, xo_ibin, xo_idiv], [xo_iun, xo_i2l, xo_l2i, xo_lbin, xo_ldiv, xo_lsh, xo_lcmp, xo_dup], [xo_pop, xo_dupx1, xo_dupx2, xo_dup2, xo_if, xo_icmp, xo_goto, xo_ifnull], [xo_table, xo_getf, xo_putf, xo_new, xo_newa, xo_mna, xo_alen, xo_ald], [xo_ast, xo_call Ms, xo_oinit, xo_iret, xo_ret, xo_mm, xo_copy]]
noncomputable def xstep (Ms : List xM) (ih : xIh) : xIh := fun me cs A k => match cs with
  | [] => false
  | i :: cs => xnth (xhs Ms) (fun r => xnth r (fun f => f ih me cs i.2.2.1 i.2.2.2.1 i.2.2.2.2 A k) (Nat.mod i.2.1 8)) (Nat.div i.2.1 8)
noncomputable def xrun (Ms : List xM) (n : Nat) : xIh := Nat.rec (motive := fun _ => xIh) (fun _ _ _ _ => false) (fun _ ih => xstep Ms ih) n
/-- what is to hold of the tables -/
def xGl (Tc : List (List Jvm.Cond)) (Ms : List xM) (cl : List vw_C) (tys : List FieldType) : Prop := (∀ (ci : Nat) (C : String) (T : u_T) (N : Nat), cl[ci]? = some (C, T, N) → xTb (xTs Tc) C T N) ∧ ∀ mc ∈ Ms, plainName mc.1.cls = true ∧ xokc Tc Ms cl tys mc (xcd mc) = true ∧ xatp 0 (xcd mc)
section XS
variable {ρ : Nat → Int32} {base : Nat} {F : Nat → Prop} {Tc : List (List Jvm.Cond)} {cl : List vw_C} {tys : List FieldType} {D : va_G} {dA : Nat → ClassId} {la : Launch} {Ms : List xM} {ih : xIh} {me : xM} {cs : List xI} {a b : Nat} {l : List Nat} {A : xA} {k : xK} {pc : Nat}
theorem xs_call {ins : Instr} {idx kind : Nat} (hkd : kind < 3) (hins : ins = (if kind = 0 then .invokestatic idx else if kind = 1 then .invokevirtual idx else .invokespecial idx)) (hG : xGl Tc Ms cl tys) (IH : xIH ρ base F (xTs Tc) (xNs Tc) cl tys D dA la (xokc Tc Ms cl tys) Ms ih) (hme : me ∈ Ms) (hok : xokc Tc Ms cl tys me cs = true) (hnx : xatp (pc + 3) cs) (hd : decode me.2.1 pc = .ok (ins, 3)) (hq : xokCall Tc Ms cl me ins idx kind a b l = true) (h : xo_call Ms ih me cs a b l A k = true) : xGd ρ base F (xTs Tc) (xNs Tc) cl tys D dA la me pc A k := by
  unfold xokCall at hq
  cases hmc : Ms[b]? with
  | none => rw [hmc] at hq; exact absurd hq (by simp)
  | some mc =>
    rw [hmc] at hq
    simp only [] at hq
    cases hsg : parseMethodDescriptor mc.1.desc with
    | none => rw [hsg] at hq; exact absurd hq (by simp)
    | some sg =>
      rw [hsg] at hq
      simp only [Bool.and_eq_true] at hq
      obtain ⟨⟨⟨⟨⟨⟨q1, q2⟩, q3⟩, q4⟩, q5⟩, q6⟩, q7⟩ := hq
      have q2 := of_decide_eq_true q2
      have q3 := of_decide_eq_true q3
      obtain ⟨g1, g2, g3⟩ := hG.2 mc (List.mem_of_getElem? hmc)
      have hlk : Jvm.Cond.methodLink me.1.cls idx mc.1 ∈ xTs Tc ∨ ∃ host, Jvm.Cond.methodLinkNest me.1.cls idx mc.1 host ∈ xNs Tc := by
        split at q6
        · exact Or.inl (xwg_of q6)
        · exact Or.inr ⟨_, xwn_of q6⟩
      refine xl_call (idx := idx) (n := sg.parameters.length) (kind := kind) (xTs_good Tc) (xNs_good Tc) IH hme hok hnx hd hmc ⟨g1, g2, g3, xwg_of q4, xwg_of q5, ⟨q2.1, q2.2, by rw [hsg]; rfl⟩, q3⟩ ?_ h
      by_cases c0 : kind = 0
      · rw [if_pos c0] at q7
        simp only [Bool.and_eq_true] at q7
        exact Or.inl ⟨c0, by rw [hins, if_pos c0], of_decide_eq_true q7.1, xwg_of q7.2, hlk⟩
      · rw [if_neg c0] at q7
        simp only [Bool.and_eq_true] at q7
        obtain ⟨⟨⟨⟨r1, r2⟩, r3⟩, r4⟩, r5⟩ := q7
        have r3 := of_decide_eq_true r3
        have hrc : ∃ ci T N, l.getD 0 0 = ci + 1 ∧ ci < 100 ∧ cl[ci]? = some (mc.1.cls, T, N) := by
          cases hc : cl[l.getD 0 0 - 1]? with
          | none => rw [hc] at r4; exact absurd r4 (by simp)
          | some q =>
            rw [hc] at r4
            have r4 : q.1 = mc.1.cls := of_decide_eq_true r4
            exact ⟨l.getD 0 0 - 1, q.2.1, q.2.2, by omega, by omega, by rw [hc, ← r4]⟩
        by_cases c1 : kind = 1
        · rw [if_pos c1] at r5
          exact Or.inr (Or.inl ⟨c1, by rw [hins, if_neg c0, if_pos c1], of_decide_eq_true r1, xwg_of r2, xwg_of r5, hrc, hlk⟩)
        · rw [if_neg c1] at r5
          have r5 := of_decide_eq_true r5
          exact Or.inr (Or.inr ⟨by omega, by rw [hins, if_neg c0, if_neg c1], of_decide_eq_true r1, r5.1, r5.2, xwg_of r2, hrc, hlk⟩)
theorem xs_get {idx : Nat} (hG : xGl Tc Ms cl tys) (IH : xIH ρ base F (xTs Tc) (xNs Tc) cl tys D dA la (xokc Tc Ms cl tys) Ms ih) (hme : me ∈ Ms) (hok : xokc Tc Ms cl tys me cs = true) (hnx : xatp (pc + 3) cs) (hd : decode me.2.1 pc = .ok (.getfield idx, 3)) (ha : a < 100) (hq : xokGet Tc cl me idx a b l = true) (h : xo_getf ih me cs a b l A k = true) : xGd ρ base F (xTs Tc) (xNs Tc) cl tys D dA la me pc A k := by
  unfold xokGet at hq
  cases hc : cl[a]? with
  | none => rw [hc] at hq; exact absurd hq (by simp)
  | some q =>
    obtain ⟨C, T, N⟩ := q
    rw [hc] at hq
    simp only [Bool.and_eq_true] at hq
    exact xl_getf IH hme hok hnx hd ha hc (of_decide_eq_true hq.1) (hG.1 a C T N hc).1 (xwg_of hq.2) h
theorem xs_put {idx : Nat} (hG : xGl Tc Ms cl tys) (IH : xIH ρ base F (xTs Tc) (xNs Tc) cl tys D dA la (xokc Tc Ms cl tys) Ms ih) (hme : me ∈ Ms) (hok : xokc Tc Ms cl tys me cs = true) (hnx : xatp (pc + 3) cs) (hd : decode me.2.1 pc = .ok (.putfield idx, 3)) (ha : a < 100) (hq : xokPut Tc cl me idx a b l = true) (h : xo_putf ih me cs a b l A k = true) : xGd ρ base F (xTs Tc) (xNs Tc) cl tys D dA la me pc A k := by
  unfold xokPut at hq
  cases hc : cl[a]? with
  | none => rw [hc] at hq; exact absurd hq (by simp)
  | some q =>
    obtain ⟨C, T, N⟩ := q
    rw [hc] at hq
    simp only [] at hq
    cases hp : parseFieldDescriptor (T b).2.2.1 with
    | none => rw [hp] at hq; exact absurd hq (by simp)
    | some ty =>
      rw [hp] at hq
      simp only [Bool.and_eq_true] at hq
      obtain ⟨⟨⟨r1, r2⟩, r3⟩, r4⟩ := hq
      exact xl_putf IH hme hok hnx hd ha hc (of_decide_eq_true r1) (hG.1 a C T N hc) (Or.inl ⟨xwg_of r2, of_decide_eq_true r3⟩) hp (of_decide_eq_true r4) h
theorem xs_new {idx : Nat} (hG : xGl Tc Ms cl tys) (IH : xIH ρ base F (xTs Tc) (xNs Tc) cl tys D dA la (xokc Tc Ms cl tys) Ms ih) (hme : me ∈ Ms) (hok : xokc Tc Ms cl tys me cs = true) (hnx : xatp (pc + 3) cs) (hd : decode me.2.1 pc = .ok (.new idx, 3)) (ha : a < 100) (hq : xokNew Tc cl me idx a b l = true) (h : xo_new ih me cs a b l A k = true) : xGd ρ base F (xTs Tc) (xNs Tc) cl tys D dA la me pc A k := by
  unfold xokNew at hq
  cases hc : cl[a]? with
  | none => rw [hc] at hq; exact absurd hq (by simp)
  | some q =>
    obtain ⟨C, T, N⟩ := q
    rw [hc] at hq
    simp only [Bool.and_eq_true] at hq
    obtain ⟨⟨⟨⟨r1, r2⟩, r3⟩, r4⟩, r5⟩ := hq
    have r1 := of_decide_eq_true r1
    obtain ⟨hu, ⟨ty, hty⟩, -⟩ := hG.1 a C T N hc
    refine xl_new ty IH hme hok hnx hd ha hc hu hty r1.1 r1.2 (fun j hj => ?_) (xwg_of r3) (xwg_of r4) (xwg_of r5) h
    have := List.all_eq_true.mp r2 j (List.mem_range.mpr hj)
    rw [hty j hj] at this
    exact of_decide_eq_true this
set_option maxHeartbeats 4000000 in
theorem xstep_ok (hG : xGl Tc Ms cl tys) (IH : xIH ρ base F (xTs Tc) (xNs Tc) cl tys D dA la (xokc Tc Ms cl tys) Ms ih) : xIH ρ base F (xTs Tc) (xNs Tc) cl tys D dA la (xokc Tc Ms cl tys) Ms (xstep Ms ih) := by
  intro me cs A k pc hme h0 hokc hat
  cases cs with
  | nil => exact absurd h0 (by simp [xstep])
  | cons i cs =>
    obtain ⟨pc', op, a, b, l⟩ := i
    have hpc : pc' = pc := hat _ _ rfl
    obtain rfl : pc = pc' := hpc.symm
    have h : xnth (xhs Ms) (fun r => xnth r (fun f => f ih me cs a b l A k) (Nat.mod op 8)) (Nat.div op 8) = true := h0
    obtain ⟨hoke, hok⟩ := Bool.and_eq_true_iff.mp hokc
    have hj : ∀ i r, (i :: r) <:+ xcd me → xokc Tc Ms cl tys me (i :: r) = true := fun i r hs => xokc_suf (hG.2 me hme).2.1 hs
    unfold xoke at hoke
    simp only [] at hoke
    split at hoke
    · next ins len hd =>
      obtain ⟨hI0, hnx0⟩ := Bool.and_eq_true_iff.mp hoke
      have hnx : xatp (pc + len) cs := by
        intro j r e
        subst e
        exact Nat.eq_of_beq_eq_true hnx0
      rcases Bool.or_eq_true_iff.mp hI0 with q60 | hI
      · have e60 := Nat.eq_of_beq_eq_true q60
        subst e60
        exact absurd h (by change ¬ (false = true); decide)
      · clear hI0 hoke h0
        cases ins
        case iconst i =>
          obtain ⟨hq0, hq⟩ := Bool.and_eq_true_iff.mp (show (decide (op = 0 ∧ len = 1) && (decide (Int32.ofInt i = nI a))) = true from hI)
          obtain ⟨rfl, rfl⟩ := of_decide_eq_true hq0
          exact xl_iconst (a := a) (b := b) (l := l) IH hme hok hnx hd (of_decide_eq_true hq) h
        case bipush i =>
          obtain ⟨hq0, hq⟩ := Bool.and_eq_true_iff.mp (show (decide (op = 0 ∧ len = 2) && (decide ((Int8.ofInt i).toInt32 = nI a))) = true from hI)
          obtain ⟨rfl, rfl⟩ := of_decide_eq_true hq0
          exact xl_bipush (a := a) (b := b) (l := l) IH hme hok hnx hd (of_decide_eq_true hq) h
        case sipush i =>
          obtain ⟨hq0, hq⟩ := Bool.and_eq_true_iff.mp (show (decide (op = 0 ∧ len = 3) && (decide ((Int16.ofInt i).toInt32 = nI a))) = true from hI)
          obtain ⟨rfl, rfl⟩ := of_decide_eq_true hq0
          exact xl_sipush (a := a) (b := b) (l := l) IH hme hok hnx hd (of_decide_eq_true hq) h
        case ldc i =>
          obtain ⟨hq0, hq⟩ := Bool.and_eq_true_iff.mp (show (decide (op = 0 ∧ len = 2) && (xwg Tc (l.getD 0 0) (.constant me.1.cls i (nI a)))) = true from hI)
          obtain ⟨rfl, rfl⟩ := of_decide_eq_true hq0
          exact xl_ldc (a := a) (b := b) (l := l) IH hme hok hnx hd (xwg_of hq) h
        case ldc_w i =>
          obtain ⟨hq0, hq⟩ := Bool.and_eq_true_iff.mp (show (decide (op = 0 ∧ len = 3) && (xwg Tc (l.getD 0 0) (.constant me.1.cls i (nI a)))) = true from hI)
          obtain ⟨rfl, rfl⟩ := of_decide_eq_true hq0
          exact xl_ldcw (a := a) (b := b) (l := l) IH hme hok hnx hd (xwg_of hq) h
        case lconst i =>
          obtain ⟨hq0, hq⟩ := Bool.and_eq_true_iff.mp (show (decide (op = 1 ∧ len = 1) && (decide (Int64.ofNat (i : Nat) = lN a))) = true from hI)
          obtain ⟨rfl, rfl⟩ := of_decide_eq_true hq0
          exact xl_lconst (a := a) (b := b) (l := l) IH hme hok hnx hd (of_decide_eq_true hq) h
        case ldc2_w i =>
          obtain ⟨hq0, hq⟩ := Bool.and_eq_true_iff.mp (show (decide (op = 1 ∧ len = 3) && (xwg Tc (l.getD 0 0) (.constantLong me.1.cls i (lN a)))) = true from hI)
          obtain ⟨rfl, rfl⟩ := of_decide_eq_true hq0
          exact xl_ldc2 (a := a) (b := b) (l := l) IH hme hok hnx hd (xwg_of hq) h
        case aconst_null =>
          obtain ⟨rfl, rfl⟩ := of_decide_eq_true (show decide (op = 2 ∧ len = 1) = true from hI)
          exact xl_null (a := a) (b := b) (l := l) IH hme hok hnx hd h
        case iload i =>
          obtain ⟨hq0, hq⟩ := Bool.and_eq_true_iff.mp (show (decide (op = 3 ∧ len = 2) && (decide (i = a ∧ b = 0))) = true from hI)
          obtain ⟨rfl, rfl⟩ := of_decide_eq_true hq0
          exact xl_iload (a := a) (b := b) (l := l) IH hme hok hnx hd (of_decide_eq_true hq).1 (of_decide_eq_true hq).2 h
        case iload_n i =>
          obtain ⟨hq0, hq⟩ := Bool.and_eq_true_iff.mp (show (decide (op = 3 ∧ len = 1) && (decide ((i : Nat) = a ∧ b = 0))) = true from hI)
          obtain ⟨rfl, rfl⟩ := of_decide_eq_true hq0
          exact xl_iload_n (a := a) (b := b) (l := l) IH hme hok hnx hd (of_decide_eq_true hq).1 (of_decide_eq_true hq).2 h
        case lload i =>
          obtain ⟨hq0, hq⟩ := Bool.and_eq_true_iff.mp (show (decide (op = 3 ∧ len = 2) && (decide (i = a ∧ b = 2))) = true from hI)
          obtain ⟨rfl, rfl⟩ := of_decide_eq_true hq0
          exact xl_lload (a := a) (b := b) (l := l) IH hme hok hnx hd (of_decide_eq_true hq).1 (of_decide_eq_true hq).2 h
        case lload_n i =>
          obtain ⟨hq0, hq⟩ := Bool.and_eq_true_iff.mp (show (decide (op = 3 ∧ len = 1) && (decide ((i : Nat) = a ∧ b = 2))) = true from hI)
          obtain ⟨rfl, rfl⟩ := of_decide_eq_true hq0
          exact xl_lload_n (a := a) (b := b) (l := l) IH hme hok hnx hd (of_decide_eq_true hq).1 (of_decide_eq_true hq).2 h
        case aload i =>
          obtain ⟨hq0, hq⟩ := Bool.and_eq_true_iff.mp (show (decide (op = 3 ∧ len = 2) && (decide (i = a ∧ b = 1))) = true from hI)
          obtain ⟨rfl, rfl⟩ := of_decide_eq_true hq0
          exact xl_aload (a := a) (b := b) (l := l) IH hme hok hnx hd (of_decide_eq_true hq).1 (of_decide_eq_true hq).2 h
        case aload_n i =>
          obtain ⟨hq0, hq⟩ := Bool.and_eq_true_iff.mp (show (decide (op = 3 ∧ len = 1) && (decide ((i : Nat) = a ∧ b = 1))) = true from hI)
          obtain ⟨rfl, rfl⟩ := of_decide_eq_true hq0
          exact xl_aload_n (a := a) (b := b) (l := l) IH hme hok hnx hd (of_decide_eq_true hq).1 (of_decide_eq_true hq).2 h
        case istore i =>
          obtain ⟨hq0, hq⟩ := Bool.and_eq_true_iff.mp (show (decide (op = 4 ∧ len = 2) && (decide (i = a ∧ b = 0 ∧ a < me.2.2.1))) = true from hI)
          obtain ⟨rfl, rfl⟩ := of_decide_eq_true hq0
          exact xl_istore (a := a) (b := b) (l := l) IH hme hok hnx ((of_decide_eq_true hq).1 ▸ hd) (of_decide_eq_true hq).2.1 (of_decide_eq_true hq).2.2 h
        case istore_n i =>
          obtain ⟨hq0, hq⟩ := Bool.and_eq_true_iff.mp (show (decide (op = 4 ∧ len = 1) && (decide ((i : Nat) = a ∧ b = 0 ∧ a < me.2.2.1))) = true from hI)
          obtain ⟨rfl, rfl⟩ := of_decide_eq_true hq0
          exact xl_istore_n (a := a) (b := b) (l := l) IH hme hok hnx hd (of_decide_eq_true hq).1 (of_decide_eq_true hq).2.1 (of_decide_eq_true hq).2.2 h
        case lstore i =>
          obtain ⟨hq0, hq⟩ := Bool.and_eq_true_iff.mp (show (decide (op = 4 ∧ len = 2) && (decide (i = a ∧ b = 2 ∧ a + 1 < me.2.2.1))) = true from hI)
          obtain ⟨rfl, rfl⟩ := of_decide_eq_true hq0
          exact xl_lstore (a := a) (b := b) (l := l) IH hme hok hnx ((of_decide_eq_true hq).1 ▸ hd) (of_decide_eq_true hq).2.1 (of_decide_eq_true hq).2.2 h
        case lstore_n i =>
          obtain ⟨hq0, hq⟩ := Bool.and_eq_true_iff.mp (show (decide (op = 4 ∧ len = 1) && (decide ((i : Nat) = a ∧ b = 2 ∧ a + 1 < me.2.2.1))) = true from hI)
          obtain ⟨rfl, rfl⟩ := of_decide_eq_true hq0
          exact xl_lstore_n (a := a) (b := b) (l := l) IH hme hok hnx hd (of_decide_eq_true hq).1 (of_decide_eq_true hq).2.1 (of_decide_eq_true hq).2.2 h
        case astore i =>
          obtain ⟨hq0, hq⟩ := Bool.and_eq_true_iff.mp (show (decide (op = 4 ∧ len = 2) && (decide (i = a ∧ b = 1 ∧ a < me.2.2.1))) = true from hI)
          obtain ⟨rfl, rfl⟩ := of_decide_eq_true hq0
          exact xl_astore (a := a) (b := b) (l := l) IH hme hok hnx ((of_decide_eq_true hq).1 ▸ hd) (of_decide_eq_true hq).2.1 (of_decide_eq_true hq).2.2 h
        case astore_n i =>
          obtain ⟨hq0, hq⟩ := Bool.and_eq_true_iff.mp (show (decide (op = 4 ∧ len = 1) && (decide ((i : Nat) = a ∧ b = 1 ∧ a < me.2.2.1))) = true from hI)
          obtain ⟨rfl, rfl⟩ := of_decide_eq_true hq0
          exact xl_astore_n (a := a) (b := b) (l := l) IH hme hok hnx hd (of_decide_eq_true hq).1 (of_decide_eq_true hq).2.1 (of_decide_eq_true hq).2.2 h
        case iinc i n =>
          obtain ⟨hq0, hq⟩ := Bool.and_eq_true_iff.mp (show (decide (op = 5 ∧ len = 3) && (decide (i = a ∧ Int32.ofInt n = nI b ∧ a < me.2.2.1))) = true from hI)
          obtain ⟨rfl, rfl⟩ := of_decide_eq_true hq0
          exact xl_iinc (a := a) (b := b) (l := l) IH hme hok hnx ((of_decide_eq_true hq).1 ▸ hd) (of_decide_eq_true hq).2.1 (of_decide_eq_true hq).2.2 h
        case iadd =>
          obtain ⟨hq0, hq⟩ := Bool.and_eq_true_iff.mp (show (decide (op = 6 ∧ len = 1) && (decide (a = 0))) = true from hI)
          obtain ⟨rfl, rfl⟩ := of_decide_eq_true hq0
          exact xl_iadd (a := a) (b := b) (l := l) IH hme hok hnx hd (of_decide_eq_true hq) h
        case isub =>
          obtain ⟨hq0, hq⟩ := Bool.and_eq_true_iff.mp (show (decide (op = 6 ∧ len = 1) && (decide (a = 1))) = true from hI)
          obtain ⟨rfl, rfl⟩ := of_decide_eq_true hq0
          exact xl_isub (a := a) (b := b) (l := l) IH hme hok hnx hd (of_decide_eq_true hq) h
        case imul =>
          obtain ⟨hq0, hq⟩ := Bool.and_eq_true_iff.mp (show (decide (op = 6 ∧ len = 1) && (decide (a = 2))) = true from hI)
          obtain ⟨rfl, rfl⟩ := of_decide_eq_true hq0
          exact xl_imul (a := a) (b := b) (l := l) IH hme hok hnx hd (of_decide_eq_true hq) h
        case iand =>
          obtain ⟨hq0, hq⟩ := Bool.and_eq_true_iff.mp (show (decide (op = 6 ∧ len = 1) && (decide (a = 3))) = true from hI)
          obtain ⟨rfl, rfl⟩ := of_decide_eq_true hq0
          exact xl_iand (a := a) (b := b) (l := l) IH hme hok hnx hd (of_decide_eq_true hq) h
        case ior =>
          obtain ⟨hq0, hq⟩ := Bool.and_eq_true_iff.mp (show (decide (op = 6 ∧ len = 1) && (decide (a = 4))) = true from hI)
          obtain ⟨rfl, rfl⟩ := of_decide_eq_true hq0
          exact xl_ior (a := a) (b := b) (l := l) IH hme hok hnx hd (of_decide_eq_true hq) h
        case ixor =>
          obtain ⟨hq0, hq⟩ := Bool.and_eq_true_iff.mp (show (decide (op = 6 ∧ len = 1) && (decide (a = 5))) = true from hI)
          obtain ⟨rfl, rfl⟩ := of_decide_eq_true hq0
          exact xl_ixor (a := a) (b := b) (l := l) IH hme hok hnx hd (of_decide_eq_true hq) h
        case ishl =>
          obtain ⟨hq0, hq⟩ := Bool.and_eq_true_iff.mp (show (decide (op = 6 ∧ len = 1) && (decide (a = 6))) = true from hI)
          obtain ⟨rfl, rfl⟩ := of_decide_eq_true hq0
          exact xl_ishl (a := a) (b := b) (l := l) IH hme hok hnx hd (of_decide_eq_true hq) h
        case ishr =>
          obtain ⟨hq0, hq⟩ := Bool.and_eq_true_iff.mp (show (decide (op = 6 ∧ len = 1) && (decide (a = 7))) = true from hI)
          obtain ⟨rfl, rfl⟩ := of_decide_eq_true hq0
          exact xl_ishr (a := a) (b := b) (l := l) IH hme hok hnx hd (of_decide_eq_true hq) h
        case iushr =>
          obtain ⟨hq0, hq⟩ := Bool.and_eq_true_iff.mp (show (decide (op = 6 ∧ len = 1) && (decide (a = 8))) = true from hI)
          obtain ⟨rfl, rfl⟩ := of_decide_eq_true hq0
          exact xl_iushr (a := a) (b := b) (l := l) IH hme hok hnx hd (of_decide_eq_true hq) h
        case idiv =>
          obtain ⟨hq0, hq⟩ := Bool.and_eq_true_iff.mp (show (decide (op = 7 ∧ len = 1) && (decide (a = 0))) = true from hI)
          obtain ⟨rfl, rfl⟩ := of_decide_eq_true hq0
          exact xl_idiv (a := a) (b := b) (l := l) IH hme hok hnx hd (of_decide_eq_true hq) h
        case irem =>
          obtain ⟨hq0, hq⟩ := Bool.and_eq_true_iff.mp (show (decide (op = 7 ∧ len = 1) && (decide (a = 1))) = true from hI)
          obtain ⟨rfl, rfl⟩ := of_decide_eq_true hq0
          exact xl_irem (a := a) (b := b) (l := l) IH hme hok hnx hd (of_decide_eq_true hq) h
        case ineg =>
          obtain ⟨hq0, hq⟩ := Bool.and_eq_true_iff.mp (show (decide (op = 8 ∧ len = 1) && (decide (a = 0))) = true from hI)
          obtain ⟨rfl, rfl⟩ := of_decide_eq_true hq0
          exact xl_ineg (a := a) (b := b) (l := l) IH hme hok hnx hd (of_decide_eq_true hq) h
        case i2b =>
          obtain ⟨hq0, hq⟩ := Bool.and_eq_true_iff.mp (show (decide (op = 8 ∧ len = 1) && (decide (a = 1))) = true from hI)
          obtain ⟨rfl, rfl⟩ := of_decide_eq_true hq0
          exact xl_i2b (a := a) (b := b) (l := l) IH hme hok hnx hd (of_decide_eq_true hq) h
        case i2s =>
          obtain ⟨hq0, hq⟩ := Bool.and_eq_true_iff.mp (show (decide (op = 8 ∧ len = 1) && (decide (a = 2))) = true from hI)
          obtain ⟨rfl, rfl⟩ := of_decide_eq_true hq0
          exact xl_i2s (a := a) (b := b) (l := l) IH hme hok hnx hd (of_decide_eq_true hq) h
        case i2c =>
          obtain ⟨hq0, hq⟩ := Bool.and_eq_true_iff.mp (show (decide (op = 8 ∧ len = 1) && (decide (a = 3))) = true from hI)
          obtain ⟨rfl, rfl⟩ := of_decide_eq_true hq0
          exact xl_i2c (a := a) (b := b) (l := l) IH hme hok hnx hd (of_decide_eq_true hq) h
        case i2l =>
          obtain ⟨rfl, rfl⟩ := of_decide_eq_true (show decide (op = 9 ∧ len = 1) = true from hI)
          exact xl_i2l (a := a) (b := b) (l := l) IH hme hok hnx hd h
        case l2i =>
          obtain ⟨rfl, rfl⟩ := of_decide_eq_true (show decide (op = 10 ∧ len = 1) = true from hI)
          exact xl_l2i (a := a) (b := b) (l := l) IH hme hok hnx hd h
        case ladd =>
          obtain ⟨hq0, hq⟩ := Bool.and_eq_true_iff.mp (show (decide (op = 11 ∧ len = 1) && (decide (a = 0))) = true from hI)
          obtain ⟨rfl, rfl⟩ := of_decide_eq_true hq0
          exact xl_ladd (a := a) (b := b) (l := l) IH hme hok hnx hd (of_decide_eq_true hq) h
        case lsub =>
          obtain ⟨hq0, hq⟩ := Bool.and_eq_true_iff.mp (show (decide (op = 11 ∧ len = 1) && (decide (a = 1))) = true from hI)
          obtain ⟨rfl, rfl⟩ := of_decide_eq_true hq0
          exact xl_lsub (a := a) (b := b) (l := l) IH hme hok hnx hd (of_decide_eq_true hq) h
        case lmul =>
          obtain ⟨hq0, hq⟩ := Bool.and_eq_true_iff.mp (show (decide (op = 11 ∧ len = 1) && (decide (a = 2))) = true from hI)
          obtain ⟨rfl, rfl⟩ := of_decide_eq_true hq0
          exact xl_lmul (a := a) (b := b) (l := l) IH hme hok hnx hd (of_decide_eq_true hq) h
        case land =>
          obtain ⟨hq0, hq⟩ := Bool.and_eq_true_iff.mp (show (decide (op = 11 ∧ len = 1) && (decide (a = 3))) = true from hI)
          obtain ⟨rfl, rfl⟩ := of_decide_eq_true hq0
          exact xl_land (a := a) (b := b) (l := l) IH hme hok hnx hd (of_decide_eq_true hq) h
        case lor =>
          obtain ⟨hq0, hq⟩ := Bool.and_eq_true_iff.mp (show (decide (op = 11 ∧ len = 1) && (decide (a = 4))) = true from hI)
          obtain ⟨rfl, rfl⟩ := of_decide_eq_true hq0
          exact xl_lor (a := a) (b := b) (l := l) IH hme hok hnx hd (of_decide_eq_true hq) h
        case lxor =>
          obtain ⟨hq0, hq⟩ := Bool.and_eq_true_iff.mp (show (decide (op = 11 ∧ len = 1) && (decide (a = 5))) = true from hI)
          obtain ⟨rfl, rfl⟩ := of_decide_eq_true hq0
          exact xl_lxor (a := a) (b := b) (l := l) IH hme hok hnx hd (of_decide_eq_true hq) h
        case ldiv =>
          obtain ⟨hq0, hq⟩ := Bool.and_eq_true_iff.mp (show (decide (op = 12 ∧ len = 1) && (decide (a = 0))) = true from hI)
          obtain ⟨rfl, rfl⟩ := of_decide_eq_true hq0
          exact xl_ldiv (a := a) (b := b) (l := l) IH hme hok hnx hd (of_decide_eq_true hq) h
        case lrem =>
          obtain ⟨hq0, hq⟩ := Bool.and_eq_true_iff.mp (show (decide (op = 12 ∧ len = 1) && (decide (a = 1))) = true from hI)
          obtain ⟨rfl, rfl⟩ := of_decide_eq_true hq0
          exact xl_lrem (a := a) (b := b) (l := l) IH hme hok hnx hd (of_decide_eq_true hq) h
        case lshl =>
          obtain ⟨hq0, hq⟩ := Bool.and_eq_true_iff.mp (show (decide (op = 13 ∧ len = 1) && (decide (a = 0))) = true from hI)
          obtain ⟨rfl, rfl⟩ := of_decide_eq_true hq0
          exact xl_lshl (a := a) (b := b) (l := l) IH hme hok hnx hd (of_decide_eq_true hq) h
        case lshr =>
          obtain ⟨hq0, hq⟩ := Bool.and_eq_true_iff.mp (show (decide (op = 13 ∧ len = 1) && (decide (a = 1))) = true from hI)
          obtain ⟨rfl, rfl⟩ := of_decide_eq_true hq0
          exact xl_lshr (a := a) (b := b) (l := l) IH hme hok hnx hd (of_decide_eq_true hq) h
        case lushr =>
          obtain ⟨hq0, hq⟩ := Bool.and_eq_true_iff.mp (show (decide (op = 13 ∧ len = 1) && (decide (a = 2))) = true from hI)
          obtain ⟨rfl, rfl⟩ := of_decide_eq_true hq0
          exact xl_lushr (a := a) (b := b) (l := l) IH hme hok hnx hd (of_decide_eq_true hq) h
        case lcmp =>
          obtain ⟨rfl, rfl⟩ := of_decide_eq_true (show decide (op = 14 ∧ len = 1) = true from hI)
          exact xl_lcmp (a := a) (b := b) (l := l) IH hme hok hnx hd h
        case dup =>
          obtain ⟨rfl, rfl⟩ := of_decide_eq_true (show decide (op = 15 ∧ len = 1) = true from hI)
          exact xl_dup (a := a) (b := b) (l := l) IH hme hok hnx hd h
        case pop =>
          obtain ⟨rfl, rfl⟩ := of_decide_eq_true (show decide (op = 16 ∧ len = 1) = true from hI)
          exact xl_pop (a := a) (b := b) (l := l) IH hme hok hnx hd h
        case dup_x1 =>
          obtain ⟨rfl, rfl⟩ := of_decide_eq_true (show decide (op = 17 ∧ len = 1) = true from hI)
          exact xl_dupx1 (a := a) (b := b) (l := l) IH hme hok hnx hd h
        case dup_x2 =>
          obtain ⟨rfl, rfl⟩ := of_decide_eq_true (show decide (op = 18 ∧ len = 1) = true from hI)
          exact xl_dupx2 (a := a) (b := b) (l := l) IH hme hok hnx hd h
        case dup2 =>
          obtain ⟨rfl, rfl⟩ := of_decide_eq_true (show decide (op = 19 ∧ len = 1) = true from hI)
          exact xl_dup2 (a := a) (b := b) (l := l) IH hme hok hnx hd h
        case ifCond cnd o =>
          cases cnd
          case eq =>
            obtain ⟨hq0, hq⟩ := Bool.and_eq_true_iff.mp (show (decide (op = 20 ∧ len = 3) && (decide ((pc : Int) + o = (b : Int) ∧ a = 0))) = true from hI)
            obtain ⟨rfl, rfl⟩ := of_decide_eq_true hq0
            exact xl_if_eq (a := a) (b := b) (l := l) hj IH hme hok hnx hd (of_decide_eq_true hq).1 (of_decide_eq_true hq).2 h
          case ne =>
            obtain ⟨hq0, hq⟩ := Bool.and_eq_true_iff.mp (show (decide (op = 20 ∧ len = 3) && (decide ((pc : Int) + o = (b : Int) ∧ a = 1))) = true from hI)
            obtain ⟨rfl, rfl⟩ := of_decide_eq_true hq0
            exact xl_if_ne (a := a) (b := b) (l := l) hj IH hme hok hnx hd (of_decide_eq_true hq).1 (of_decide_eq_true hq).2 h
          case lt =>
            obtain ⟨hq0, hq⟩ := Bool.and_eq_true_iff.mp (show (decide (op = 20 ∧ len = 3) && (decide ((pc : Int) + o = (b : Int) ∧ a = 2))) = true from hI)
            obtain ⟨rfl, rfl⟩ := of_decide_eq_true hq0
            exact xl_if_lt (a := a) (b := b) (l := l) hj IH hme hok hnx hd (of_decide_eq_true hq).1 (of_decide_eq_true hq).2 h
          case ge =>
            obtain ⟨hq0, hq⟩ := Bool.and_eq_true_iff.mp (show (decide (op = 20 ∧ len = 3) && (decide ((pc : Int) + o = (b : Int) ∧ a = 3))) = true from hI)
            obtain ⟨rfl, rfl⟩ := of_decide_eq_true hq0
            exact xl_if_ge (a := a) (b := b) (l := l) hj IH hme hok hnx hd (of_decide_eq_true hq).1 (of_decide_eq_true hq).2 h
          case gt =>
            obtain ⟨hq0, hq⟩ := Bool.and_eq_true_iff.mp (show (decide (op = 20 ∧ len = 3) && (decide ((pc : Int) + o = (b : Int) ∧ a = 4))) = true from hI)
            obtain ⟨rfl, rfl⟩ := of_decide_eq_true hq0
            exact xl_if_gt (a := a) (b := b) (l := l) hj IH hme hok hnx hd (of_decide_eq_true hq).1 (of_decide_eq_true hq).2 h
          case le =>
            obtain ⟨hq0, hq⟩ := Bool.and_eq_true_iff.mp (show (decide (op = 20 ∧ len = 3) && (decide ((pc : Int) + o = (b : Int) ∧ a = 5))) = true from hI)
            obtain ⟨rfl, rfl⟩ := of_decide_eq_true hq0
            exact xl_if_le (a := a) (b := b) (l := l) hj IH hme hok hnx hd (of_decide_eq_true hq).1 (of_decide_eq_true hq).2 h
        case if_icmp cnd o =>
          cases cnd
          case eq =>
            obtain ⟨hq0, hq⟩ := Bool.and_eq_true_iff.mp (show (decide (op = 21 ∧ len = 3) && (decide ((pc : Int) + o = (b : Int) ∧ a = 0))) = true from hI)
            obtain ⟨rfl, rfl⟩ := of_decide_eq_true hq0
            exact xl_icmp_eq (a := a) (b := b) (l := l) hj IH hme hok hnx hd (of_decide_eq_true hq).1 (of_decide_eq_true hq).2 h
          case ne =>
            obtain ⟨hq0, hq⟩ := Bool.and_eq_true_iff.mp (show (decide (op = 21 ∧ len = 3) && (decide ((pc : Int) + o = (b : Int) ∧ a = 1))) = true from hI)
            obtain ⟨rfl, rfl⟩ := of_decide_eq_true hq0
            exact xl_icmp_ne (a := a) (b := b) (l := l) hj IH hme hok hnx hd (of_decide_eq_true hq).1 (of_decide_eq_true hq).2 h
          case lt =>
            obtain ⟨hq0, hq⟩ := Bool.and_eq_true_iff.mp (show (decide (op = 21 ∧ len = 3) && (decide ((pc : Int) + o = (b : Int) ∧ a = 2))) = true from hI)
            obtain ⟨rfl, rfl⟩ := of_decide_eq_true hq0
            exact xl_icmp_lt (a := a) (b := b) (l := l) hj IH hme hok hnx hd (of_decide_eq_true hq).1 (of_decide_eq_true hq).2 h
          case ge =>
            obtain ⟨hq0, hq⟩ := Bool.and_eq_true_iff.mp (show (decide (op = 21 ∧ len = 3) && (decide ((pc : Int) + o = (b : Int) ∧ a = 3))) = true from hI)
            obtain ⟨rfl, rfl⟩ := of_decide_eq_true hq0
            exact xl_icmp_ge (a := a) (b := b) (l := l) hj IH hme hok hnx hd (of_decide_eq_true hq).1 (of_decide_eq_true hq).2 h
          case gt =>
            obtain ⟨hq0, hq⟩ := Bool.and_eq_true_iff.mp (show (decide (op = 21 ∧ len = 3) && (decide ((pc : Int) + o = (b : Int) ∧ a = 4))) = true from hI)
            obtain ⟨rfl, rfl⟩ := of_decide_eq_true hq0
            exact xl_icmp_gt (a := a) (b := b) (l := l) hj IH hme hok hnx hd (of_decide_eq_true hq).1 (of_decide_eq_true hq).2 h
          case le =>
            obtain ⟨hq0, hq⟩ := Bool.and_eq_true_iff.mp (show (decide (op = 21 ∧ len = 3) && (decide ((pc : Int) + o = (b : Int) ∧ a = 5))) = true from hI)
            obtain ⟨rfl, rfl⟩ := of_decide_eq_true hq0
            exact xl_icmp_le (a := a) (b := b) (l := l) hj IH hme hok hnx hd (of_decide_eq_true hq).1 (of_decide_eq_true hq).2 h
        case goto o =>
          obtain ⟨hq0, hq⟩ := Bool.and_eq_true_iff.mp (show (decide (op = 22 ∧ len = 3) && (decide ((pc : Int) + o = (b : Int)))) = true from hI)
          obtain ⟨rfl, rfl⟩ := of_decide_eq_true hq0
          exact xl_goto (a := a) (b := b) (l := l) (cs := cs) hj IH hme hd (of_decide_eq_true hq) h
        case ifnull o =>
          obtain ⟨hq0, hq⟩ := Bool.and_eq_true_iff.mp (show (decide (op = 23 ∧ len = 3) && (decide ((pc : Int) + o = (b : Int) ∧ a = 0))) = true from hI)
          obtain ⟨rfl, rfl⟩ := of_decide_eq_true hq0
          exact xl_ifnull (a := a) (b := b) (l := l) hj IH hme hok hnx hd (of_decide_eq_true hq).1 (of_decide_eq_true hq).2 h
        case ifnonnull o =>
          obtain ⟨hq0, hq⟩ := Bool.and_eq_true_iff.mp (show (decide (op = 23 ∧ len = 3) && (decide ((pc : Int) + o = (b : Int) ∧ a = 1))) = true from hI)
          obtain ⟨rfl, rfl⟩ := of_decide_eq_true hq0
          exact xl_ifnonnull (a := a) (b := b) (l := l) hj IH hme hok hnx hd (of_decide_eq_true hq).1 (of_decide_eq_true hq).2 h
        case tableswitch dflt lo hi offs =>
          obtain ⟨hq0, hq⟩ := Bool.and_eq_true_iff.mp (show (decide (op = 24) && (xokTab pc a b l dflt lo hi offs)) = true from hI)
          obtain rfl := of_decide_eq_true hq0
          exact xl_table (a := a) (b := b) (l := l) (cs := cs) hj IH hme hd (xokTab_of hq) h
        case getfield i =>
          obtain ⟨hq0, hq⟩ := Bool.and_eq_true_iff.mp (show (decide (op = 25 ∧ len = 3) && (decide (a < 100) && xokGet Tc cl me i a b l)) = true from hI)
          obtain ⟨rfl, rfl⟩ := of_decide_eq_true hq0
          exact xs_get (a := a) (b := b) (l := l) hG IH hme hok hnx hd (of_decide_eq_true (Bool.and_eq_true_iff.mp hq).1) (Bool.and_eq_true_iff.mp hq).2 h
        case putfield i =>
          obtain ⟨hq0, hq⟩ := Bool.and_eq_true_iff.mp (show (decide (op = 26 ∧ len = 3) && (decide (a < 100) && xokPut Tc cl me i a b l)) = true from hI)
          obtain ⟨rfl, rfl⟩ := of_decide_eq_true hq0
          exact xs_put (a := a) (b := b) (l := l) hG IH hme hok hnx hd (of_decide_eq_true (Bool.and_eq_true_iff.mp hq).1) (Bool.and_eq_true_iff.mp hq).2 h
        case new i =>
          obtain ⟨hq0, hq⟩ := Bool.and_eq_true_iff.mp (show (decide (op = 27 ∧ len = 3) && (decide (a < 100) && xokNew Tc cl me i a b l)) = true from hI)
          obtain ⟨rfl, rfl⟩ := of_decide_eq_true hq0
          exact xs_new (a := a) (b := b) (l := l) hG IH hme hok hnx hd (of_decide_eq_true (Bool.and_eq_true_iff.mp hq).1) (Bool.and_eq_true_iff.mp hq).2 h
        case newarray t =>
          obtain ⟨hq0, hq⟩ := Bool.and_eq_true_iff.mp (show (decide (op = 28 ∧ len = 2) && (decide (100 ≤ a ∧ tys[a - 100]? = some (Jvm.Op.newarray.typeOf t) ∧ b = xkt (Jvm.Op.newarray.typeOf t) ∧ b ≠ 9 ∧ componentBytes (Jvm.Op.newarray.typeOf t) ≤ 8) && xwg Tc (l.getD 0 0) (.arrayClass (Jvm.Op.newarray.typeOf t)))) = true from hI)
          obtain ⟨rfl, rfl⟩ := of_decide_eq_true hq0
          obtain ⟨r1, r2⟩ := Bool.and_eq_true_iff.mp hq
          obtain ⟨s1, s2, s3, s4, s5⟩ := of_decide_eq_true r1
          exact xl_newa (a := a) (b := b) (l := l) IH hme hok hnx hd s1 s2 s3 s4 s5 (xwg_of r2) h
        case multianewarray i d =>
          obtain ⟨hq0, hq⟩ := Bool.and_eq_true_iff.mp (show (decide (op = 29 ∧ len = 4) && (decide (d = 2 ∧ tys[0]? = some .int ∧ tys[2]? = some (.array .int)) && xwg Tc (l.getD 0 0) (.classLink me.1.cls i ("[" ++ (FieldType.array .int).toString)) && xwg Tc (l.getD 1 0) (.arrayClass .int))) = true from hI)
          obtain ⟨rfl, rfl⟩ := of_decide_eq_true hq0
          obtain ⟨r12, r3⟩ := Bool.and_eq_true_iff.mp hq
          obtain ⟨r1, r2⟩ := Bool.and_eq_true_iff.mp r12
          obtain ⟨rfl, s2, s3⟩ := of_decide_eq_true r1
          exact xl_mna (a := a) (b := b) (l := l) IH hme hok hnx hd s2 s3 (xwg_of r2) (xwg_of r3) h
        case arraylength =>
          obtain ⟨hq0, hq⟩ := Bool.and_eq_true_iff.mp (show (decide (op = 30 ∧ len = 1) && (decide (b = 100 + tys.length))) = true from hI)
          obtain ⟨rfl, rfl⟩ := of_decide_eq_true hq0
          exact xl_alen (a := a) (b := b) (l := l) IH hme hok hnx hd (of_decide_eq_true hq) h
        case iaload =>
          obtain ⟨hq0, hq⟩ := Bool.and_eq_true_iff.mp (show (decide (op = 31 ∧ len = 1) && (decide (100 ≤ a ∧ tys[a - 100]? = some .int))) = true from hI)
          obtain ⟨rfl, rfl⟩ := of_decide_eq_true hq0
          exact xl_iald (a := a) (b := b) (l := l) IH hme hok hnx hd (of_decide_eq_true hq).1 (of_decide_eq_true hq).2 h
        case laload =>
          obtain ⟨hq0, hq⟩ := Bool.and_eq_true_iff.mp (show (decide (op = 31 ∧ len = 1) && (decide (100 ≤ a ∧ tys[a - 100]? = some .long))) = true from hI)
          obtain ⟨rfl, rfl⟩ := of_decide_eq_true hq0
          exact xl_lald (a := a) (b := b) (l := l) IH hme hok hnx hd (of_decide_eq_true hq).1 (of_decide_eq_true hq).2 h
        case aaload =>
          obtain ⟨hq0, hq⟩ := Bool.and_eq_true_iff.mp (show (decide (op = 31 ∧ len = 1) && (decide (100 ≤ a ∧ tys[a - 100]? = some (.array .int)))) = true from hI)
          obtain ⟨rfl, rfl⟩ := of_decide_eq_true hq0
          exact xl_aald (a := a) (b := b) (l := l) IH hme hok hnx hd (of_decide_eq_true hq).1 (of_decide_eq_true hq).2 rfl h
        case iastore =>
          obtain ⟨hq0, hq⟩ := Bool.and_eq_true_iff.mp (show (decide (op = 32 ∧ len = 1) && (decide (100 ≤ a ∧ tys[a - 100]? = some .int ∧ b = 0))) = true from hI)
          obtain ⟨rfl, rfl⟩ := of_decide_eq_true hq0
          exact xl_iast (a := a) (b := b) (l := l) IH hme hok hnx hd (of_decide_eq_true hq).1 (of_decide_eq_true hq).2.1 (of_decide_eq_true hq).2.2 h
        case lastore =>
          obtain ⟨hq0, hq⟩ := Bool.and_eq_true_iff.mp (show (decide (op = 32 ∧ len = 1) && (decide (100 ≤ a ∧ tys[a - 100]? = some .long ∧ b = 2))) = true from hI)
          obtain ⟨rfl, rfl⟩ := of_decide_eq_true hq0
          exact xl_last (a := a) (b := b) (l := l) IH hme hok hnx hd (of_decide_eq_true hq).1 (of_decide_eq_true hq).2.1 (of_decide_eq_true hq).2.2 h
        case ireturn =>
          obtain ⟨hq0, hq⟩ := Bool.and_eq_true_iff.mp (show (decide (op = 35 ∧ len = 1) && (decide ((me.2.2.2.1 = some .int ∧ a = 0) ∨ (me.2.2.2.1 = some .boolean ∧ a = 3)))) = true from hI)
          obtain ⟨rfl, rfl⟩ := of_decide_eq_true hq0
          rcases of_decide_eq_true hq with ⟨s1, s2⟩ | ⟨s1, s2⟩
          · exact xl_iret (a := a) (b := b) (l := l) (ih := ih) (cs := cs) hd s1 s2 (Or.inl rfl) h
          · exact xl_iret (a := a) (b := b) (l := l) (ih := ih) (cs := cs) hd s1 s2 (Or.inr rfl) h
        case lreturn =>
          obtain ⟨hq0, hq⟩ := Bool.and_eq_true_iff.mp (show (decide (op = 35 ∧ len = 1) && (decide (me.2.2.2.1 = some .long ∧ a = 2))) = true from hI)
          obtain ⟨rfl, rfl⟩ := of_decide_eq_true hq0
          exact xl_lret (a := a) (b := b) (l := l) (ih := ih) (cs := cs) hd (of_decide_eq_true hq).1 (of_decide_eq_true hq).2 h
        case return_ =>
          obtain ⟨hq0, hq⟩ := Bool.and_eq_true_iff.mp (show (decide (op = 36 ∧ len = 1) && (decide (me.2.2.2.1 = none))) = true from hI)
          obtain ⟨rfl, rfl⟩ := of_decide_eq_true hq0
          exact xl_ret (a := a) (b := b) (l := l) (ih := ih) (cs := cs) hd (of_decide_eq_true hq) h
        case invokestatic i =>
          obtain ⟨hq0, hq⟩ := Bool.and_eq_true_iff.mp (show (decide (len = 3) && ((decide (op = 33) && xokCall Tc Ms cl me (.invokestatic i) i 0 a b l) || (decide (op = 37 ∧ 1 ≤ (xR me).frames) && ((decide (a = 0) && xwg Tc (l.getD 0 0) (.methodLink me.1.cls i Lib.Math.min.name) && xwg Tc (l.getD 1 0) (.static Lib.Math.min.name) && xwg Tc (l.getD 2 0) (.code Lib.Math.min.name Lib.Math.min.code 2 (some .int))) || (decide (a = 1) && xwg Tc (l.getD 0 0) (.methodLink me.1.cls i Lib.Math.max.name) && xwg Tc (l.getD 1 0) (.static Lib.Math.max.name) && xwg Tc (l.getD 2 0) (.code Lib.Math.max.name Lib.Math.max.code 2 (some .int)))) && xwg Tc (l.getD 3 0) (.initialized "java/lang/Math")) || (decide (op = 38 ∧ 1 ≤ (xR me).frames ∧ tys[0]? = some .int) && xwg Tc (l.getD 0 0) (.methodLink me.1.cls i arraycopyName) && xwg Tc (l.getD 1 0) (.native arraycopyName) && xwg Tc (l.getD 2 0) (.static arraycopyName) && xwg Tc (l.getD 3 0) (.initialized "java/lang/System")))) = true from hI)
          obtain rfl := of_decide_eq_true hq0
          rcases Bool.or_eq_true_iff.mp hq with hq | hq
          · rcases Bool.or_eq_true_iff.mp hq with hq | hq
            · obtain ⟨r1, r2⟩ := Bool.and_eq_true_iff.mp hq
              obtain rfl := of_decide_eq_true r1
              exact xs_call (a := a) (b := b) (l := l) (kind := 0) (by decide) rfl hG IH hme hok hnx hd r2 h
            · simp only [Bool.and_eq_true, Bool.or_eq_true] at hq
              obtain ⟨⟨r1, r2⟩, r3⟩ := hq
              obtain ⟨rfl, s2⟩ := of_decide_eq_true r1
              refine xl_mm (a := a) (b := b) (l := l) IH hme hok hnx hd ?_ (xwg_of r3) s2 h
              rcases r2 with ⟨⟨⟨t1, t2⟩, t3⟩, t4⟩ | ⟨⟨⟨t1, t2⟩, t3⟩, t4⟩
              · exact Or.inl ⟨of_decide_eq_true t1, xwg_of t2, xwg_of t3, xwg_of t4⟩
              · exact Or.inr ⟨of_decide_eq_true t1, xwg_of t2, xwg_of t3, xwg_of t4⟩
          · simp only [Bool.and_eq_true] at hq
            obtain ⟨⟨⟨⟨r1, r2⟩, r3⟩, r4⟩, r5⟩ := hq
            obtain ⟨rfl, s2, s3⟩ := of_decide_eq_true r1
            exact xl_copy (a := a) (b := b) (l := l) IH hme hok hnx hd s3 (xwg_of r2) (xwg_of r3) (xwg_of r4) (xwg_of r5) s2 h
        case invokevirtual i =>
          obtain ⟨hq0, hq⟩ := Bool.and_eq_true_iff.mp (show (decide (len = 3) && (decide (op = 33) && xokCall Tc Ms cl me (.invokevirtual i) i 1 a b l)) = true from hI)
          obtain rfl := of_decide_eq_true hq0
          obtain ⟨r1, r2⟩ := Bool.and_eq_true_iff.mp hq
          obtain rfl := of_decide_eq_true r1
          exact xs_call (a := a) (b := b) (l := l) (kind := 1) (by decide) rfl hG IH hme hok hnx hd r2 h
        case invokespecial i =>
          obtain ⟨hq0, hq⟩ := Bool.and_eq_true_iff.mp (show (decide (len = 3) && ((decide (op = 33) && xokCall Tc Ms cl me (.invokespecial i) i 2 a b l) || (decide (op = 34 ∧ 1 ≤ (xR me).frames) && xwg Tc (l.getD 0 0) (.methodLink me.1.cls i Lib.objectInit) && xwg Tc (l.getD 1 0) (.instanceMethod Lib.objectInit) && xwg Tc (l.getD 2 0) (.code Lib.objectInit ⟨#[0xb1]⟩ 1 none)))) = true from hI)
          obtain rfl := of_decide_eq_true hq0
          rcases Bool.or_eq_true_iff.mp hq with hq | hq
          · obtain ⟨r1, r2⟩ := Bool.and_eq_true_iff.mp hq
            obtain rfl := of_decide_eq_true r1
            exact xs_call (a := a) (b := b) (l := l) (kind := 2) (by decide) rfl hG IH hme hok hnx hd r2 h
          · simp only [Bool.and_eq_true] at hq
            obtain ⟨⟨⟨r1, r2⟩, r3⟩, r4⟩ := hq
            obtain ⟨rfl, s2⟩ := of_decide_eq_true r1
            exact xl_oinit (a := a) (b := b) (l := l) IH hme hok hnx hd (xwg_of r2) (xwg_of r3) (xwg_of r4) s2 h
        all_goals exact absurd (show false = true from hI) (by decide)
    · exact absurd hoke (by simp)
/-- THE RUN IS SOUND -/
theorem xrun_ok (hG : xGl Tc Ms cl tys) : ∀ n : Nat, xIH ρ base F (xTs Tc) (xNs Tc) cl tys D dA la (xokc Tc Ms cl tys) Ms (xrun Ms n) := by
  intro n
  induction n with
  | zero => intro me cs A k pc _ h; exact absurd h (by change ¬ (false = true); decide)
  | succ n ih => exact xstep_ok hG ih
end XS
end
section
/-! equality of abstract heaps -/
noncomputable def xeqL {α : Type} (f : α → α → Bool) (l : List α) : List α → Bool := List.rec (motive := fun _ => List α → Bool) (fun m => match m with | [] => true | _ :: _ => false) (fun a _ ih m => match m with | [] => false | b :: m => cond (f a b) (ih m) false) l
theorem xeqL_of {α : Type} {f : α → α → Bool} (hf : ∀ a b, f a b = true → a = b) : ∀ {l m : List α}, xeqL f l m = true → l = m := by
  intro l
  induction l with
  | nil =>
    intro m h
    cases m with
    | nil => rfl
    | cons b m => exact absurd h (by change ¬ (false = true); decide)
  | cons a l ih =>
    intro m h
    cases m with
    | nil => exact absurd h (by change ¬ (false = true); decide)
    | cons b m =>
      obtain ⟨h1, h2⟩ := xcond (b := f a b) (x := xeqL f l m) h
      rw [hf a b h1, ih h2]
def xeqO : Option Nat → Option Nat → Bool
  | none, none => true
  | some a, some b => Nat.beq a b
  | _, _ => false
theorem xeqO_of : ∀ a b, xeqO a b = true → a = b
  | none, none, _ => rfl
  | some a, some b, h => by rw [Nat.eq_of_beq_eq_true (show Nat.beq a b = true from h)]
  | none, some _, h => by cases h
  | some _, none, h => by cases h
def xeqV : xV → xV → Bool
  | .inl a, .inl b => Nat.beq a b
  | .inr (.inl a), .inr (.inl b) => xeqO a b
  | .inr (.inr (.inl a)), .inr (.inr (.inl b)) => xeqO a b
  | .inr (.inr (.inr (.inl a))), .inr (.inr (.inr (.inl b))) => Nat.beq a b
  | .inr (.inr (.inr (.inr a))), .inr (.inr (.inr (.inr b))) => xeqO a b
  | _, _ => false
theorem xeqV_of (a b : xV) (h : xeqV a b = true) : a = b := by
  rcases a with a | a | a | a | a <;> rcases b with b | b | b | b | b <;> first | (rw [Nat.eq_of_beq_eq_true (show Nat.beq a b = true from h)]) | (rw [xeqO_of a b h]) | exact absurd h (by simp [xeqV])
noncomputable def xeqC (a b : xC) : Bool := cond (Bool.and (Nat.beq a.1 b.1) (Nat.beq a.2.1 b.2.1)) (xeqL (xeqL xeqV) a.2.2 b.2.2) false
theorem xeqC_of (a b : xC) (h : xeqC a b = true) : a = b := by
  obtain ⟨a1, a2, a3⟩ := a
  obtain ⟨b1, b2, b3⟩ := b
  obtain ⟨h1, h2⟩ := xcond h
  have e1 : a1 = b1 := Nat.eq_of_beq_eq_true (xand h1).1
  have e2 : a2 = b2 := Nat.eq_of_beq_eq_true (xand h1).2
  have e3 : a3 = b3 := xeqL_of (fun _ _ => xeqL_of xeqV_of) h2
  rw [e1, e2, e3]
noncomputable def xeqH (a b : xH) : Bool := xeqL (xeqL xeqC) a b
theorem xeqH_of {a b : xH} (h : xeqH a b = true) : a = b := xeqL_of (fun _ _ => xeqL_of xeqC_of) h
end
section
/-! two runs with one answer: the second is explored at every end of the first -/
noncomputable def xres (env : xE) (k : Nat → Bool) : xV → Bool
  | .inl u => k u
  | .inr (.inl (some i)) => xnth env (fun q => cond (Nat.beq q.1 q.2) (k (xub q.1)) false) i
  | _ => false
theorem xres_of {ρ : Nat → Int32} {base : Nat} {env : xE} {k : Nat → Bool} (hr : xρ ρ env) {x : xV} {v : Value} (hg : xg ρ base x v) (h : xres env k x = true) : ∃ u, v = .int (nI u) ∧ k u = true := by
  match x, hg, h with
  | .inl u, hg, h => exact ⟨u, hg, h⟩
  | .inr (.inl (some i)), hg, h =>
    obtain ⟨q, hq, h⟩ := xnth_of h
    obtain ⟨h1, h2⟩ := xcond h
    have h1 := Nat.eq_of_beq_eq_true h1
    have hb := hr.2 i q hq
    have e : ρ i = nI (xub q.1) := xub_of (by omega)
    exact ⟨_, by rw [← e]; exact hg, h2⟩
  | .inr (.inl none), _, h => exact absurd h (by simp [xres])
  | .inr (.inr _), _, h => exact absurd h (by simp [xres])
noncomputable def xKm (r : Option xV) : xK := fun env _ _ r' => match r, r' with
  | some v, some v' => xres env (fun u => xres env (fun u' => Nat.beq (Nat.mod u 4294967296) (Nat.mod u' 4294967296)) v') v
  | _, _ => false
theorem xKm_of {ρ : Nat → Int32} {base base' : Nat} {env : xE} {h : xH} {n : Nat} {x x' : xV} {v v' : Value} (hr : xρ ρ env) (hg : xg ρ base x v) (hg' : xg ρ base' x' v') (hk : xKm (some x) env h n (some x') = true) : ∃ z : Int32, v = .int z ∧ v' = .int z := by
  have hk : xres env (fun u => xres env (fun u' => Nat.beq (Nat.mod u 4294967296) (Nat.mod u' 4294967296)) x') x = true := hk
  obtain ⟨u, e1, hk⟩ := xres_of hr hg hk
  obtain ⟨u', e2, hk⟩ := xres_of hr hg' hk
  have hk : u % 4294967296 = u' % 4294967296 := Nat.eq_of_beq_eq_true hk
  exact ⟨nI u, e1, by rw [e2, ← xn_mod u, hk, xn_mod]⟩
/-- the receiver and the first n variables -/
def xvs (n : Nat) : List xV := xRef 0 :: (List.range n).map (fun i => .inr (.inl (some (i + 1))))
noncomputable def xKx (Ms : List xM) (f : Nat) (mm : xM) (hm : xH) (nm na : Nat) : xK := fun env _ _ r => match r with
  | none => false
  | some v => xargs (xvs na) 0 (fun lv => xrun Ms f mm (xcd mm) (lv, [], env, hm, nm, 0, 0) (xKm (some v)))
def xenv0 : xE := List.replicate 6 (0, 4294967295)
theorem xenv0_of {ρ : Nat → Int32} (hl : xLin ρ) : xρ ρ xenv0 := by
  refine ⟨hl, ?_⟩
  intro k q hq
  have hm := List.eq_of_mem_replicate (List.mem_of_getElem? hq)
  subst hm
  exact ⟨Nat.zero_le _, by have := xb_max (ρ k); show xb (ρ k) ≤ 4294967295; omega⟩
theorem xvs_of (ρ : Nat → Int32) (base n : Nat) : xSR ρ base (xvs n) (.ref base :: (List.range n).map (fun i => .int (ρ (i + 1)))) := by
  refine ⟨rfl, ?_⟩
  generalize List.range n = l
  induction l with
  | nil => exact trivial
  | cons i l ih => exact ⟨rfl, ih⟩
end
section
/-! what a method does from a place on, known beforehand -/
abbrev xSm : Type := xM → List xI → xA → xK → Bool → Bool
noncomputable def xrunS (Ms : List xM) (S : xSm) (n : Nat) : xIh := Nat.rec (motive := fun _ => xIh) (fun _ _ _ _ => false) (fun _ ih me cs A k => S me cs A k (xstep Ms ih me cs A k)) n
/-- a heap without variables -/
def xnv : xV → Bool
  | .inl _ => true
  | .inr (.inl _) => false
  | .inr (.inr (.inl _)) => true
  | .inr (.inr (.inr (.inl _))) => true
  | .inr (.inr (.inr (.inr _))) => false
def xnvH (h : xH) : Bool := h.all (fun r => r.all (fun c => c.2.2.all (fun r => r.all xnv)))
theorem xnv_g {ρ ρ' : Nat → Int32} {base : Nat} {x : xV} {v : Value} (h : xnv x = true) (hg : xg ρ base x v) : xg ρ' base x v := by
  rcases x with a | a | a | a | a
  · exact hg
  · exact absurd h (by simp [xnv])
  · cases a <;> exact hg
  · exact hg
  · exact absurd h (by simp [xnv])
theorem xat_mem {α : Type} {h : List (List α)} {a : Nat} {c : α} (e : xat h a = some c) : ∃ r ∈ h, c ∈ r := by
  unfold xat at e
  cases hr : h[a / 64]? with
  | none => rw [hr] at e; cases e
  | some r => rw [hr] at e; exact ⟨r, List.mem_of_getElem? hr, List.mem_of_getElem? e⟩
theorem xHR_nv {ρ ρ' : Nat → Int32} {base : Nat} {F : Nat → Prop} {D : va_G} {dA : Nat → ClassId} {tys : List FieldType} {cl : List vw_C} {h : xH} {n : Nat} {H : Heap} (hn : xnvH h = true) (hh : xHR ρ base F D dA tys cl h n H) : xHR ρ' base F D dA tys cl h n H := by
  refine ⟨hh.1, fun a c hc => ?_⟩
  obtain ⟨fs, h1, h2⟩ := hh.2 a c hc
  refine ⟨fs, ⟨h1.1, fun i x hx => ?_⟩, h2⟩
  obtain ⟨v, h3, h4⟩ := h1.2 i x hx
  obtain ⟨r, hr1, hr2⟩ := xat_mem hc
  obtain ⟨q, hq1, hq2⟩ := xat_mem hx
  have e1 := List.all_eq_true.mp hn r hr1
  have e2 := List.all_eq_true.mp e1 c hr2
  have e3 := List.all_eq_true.mp e2 q hq1
  exact ⟨v, h3, xnv_g (List.all_eq_true.mp e3 x hq2) h4⟩
/-- a place is found in the locals -/
noncomputable def xmt (lv : xL) (pat : List (Nat × (xV → Bool))) : Bool := List.rec (motive := fun _ => Bool) true (fun q _ ih => cond (xfind lv q.1 q.2) ih false) pat
theorem xmt_of {lv : xL} : ∀ {pat : List (Nat × (xV → Bool))}, xmt lv pat = true → ∀ q ∈ pat, ∃ (j : Nat) (x : xV), lv[j]? = some (q.1, x) ∧ q.2 x = true := by
  intro pat
  induction pat with
  | nil => intro _ q hq; cases hq
  | cons p pat ih =>
    intro h q hq
    obtain ⟨h1, h2⟩ := xcond (b := xfind lv p.1 p.2) (x := xmt lv pat) h
    rcases List.mem_cons.mp hq with rfl | hq
    · exact xfind_of h1
    · exact ih h2 q hq
noncomputable def xacc (nm : MethodName) (pcH : Nat) (pat : List (Nat × (xV → Bool))) (te : xE → Bool) (h0 : xH) (n0 : Nat) (r : xV) : xSm := fun me cs A k d => match cs with
  | [] => d
  | i :: _ => cond (Nat.beq i.1 pcH) (cond (xmt A.1 pat) (cond (Bool.and (Nat.beq A.2.2.2.2.1 n0) (Bool.and (Nat.beq A.2.2.2.2.2.1 0) (Nat.beq A.2.2.2.2.2.2 0))) (cond (Bool.and (decide (me.1 = nm)) (Bool.and (List.isEmpty A.2.1) (te A.2.2.1))) (cond (xeqH A.2.2.2.1 h0) (k A.2.2.1 h0 n0 (some r)) d) d) d) d) d
section XSU
variable {ρ ρ' : Nat → Int32} {base : Nat} {F : Nat → Prop} {Tc : List (List Jvm.Cond)} {Ts Ns : List Jvm.Cond} {cl : List vw_C} {tys : List FieldType} {D : va_G} {dA : Nat → ClassId} {la : Launch} {okc : xM → List xI → Bool} {Ms : List xM} {mi : xM} {k : xK} {pc : Nat}
def xSok (ρ : Nat → Int32) (base : Nat) (F : Nat → Prop) (Ts Ns : List Jvm.Cond) (cl : List vw_C) (tys : List FieldType) (D : va_G) (dA : Nat → ClassId) (la : Launch) (Ms : List xM) (S : xSm) : Prop :=
  ∀ (me : xM) (cs : List xI) (A : xA) (k : xK) (d : Bool) (pc : Nat), me ∈ Ms → xatp pc cs → S me cs A k d = true → d = true ∨ xGd ρ base F Ts Ns cl tys D dA la me pc A k
theorem xrunS_ok {S : xSm} (hG : xGl Tc Ms cl tys) (hS : xSok ρ base F (xTs Tc) (xNs Tc) cl tys D dA la Ms S) : ∀ n : Nat, xIH ρ base F (xTs Tc) (xNs Tc) cl tys D dA la (xokc Tc Ms cl tys) Ms (xrunS Ms S n) := by
  intro n
  induction n with
  | zero => intro me cs A k pc _ h; exact absurd h (by change ¬ (false = true); decide)
  | succ n ih =>
    intro me cs A k pc hme h hok hat
    rcases hS me cs A k _ pc hme hat h with h | h
    · exact xstep_ok hG ih me cs A k pc hme h hok hat
    · exact h
theorem xSok_both {S S' : xSm} (h : xSok ρ base F Ts Ns cl tys D dA la Ms S) (h' : xSok ρ base F Ts Ns cl tys D dA la Ms S') : xSok ρ base F Ts Ns cl tys D dA la Ms (fun me cs A k d => S me cs A k (S' me cs A k d)) := by
  intro me cs A k d pc hme hat hs
  rcases h me cs A k _ pc hme hat hs with h1 | h1
  · exact h' me cs A k d pc hme hat h1
  · exact Or.inr h1
theorem xcondd {b x d : Bool} (h : cond b x d = true) : d = true ∨ (b = true ∧ x = true) := by cases b <;> simp_all
theorem xacc_ok {nm : MethodName} {pcH n0 : Nat} {pat : List (Nat × (xV → Bool))} {te : xE → Bool} {h0 : xH} {r : xV} (hu : ∀ me ∈ Ms, me.1 = nm → me = mi) (hacc : ∀ (lv : xL) (env : xE) (k : xK), xmt lv pat = true → te env = true → k env h0 n0 (some r) = true → xGd ρ base F Ts Ns cl tys D dA la mi pcH (lv, [], env, h0, n0, 0, 0) k) : xSok ρ base F Ts Ns cl tys D dA la Ms (xacc nm pcH pat te h0 n0 r) := by
  intro me cs A k d pc hme hat h
  cases cs with
  | nil => exact Or.inl h
  | cons i cs =>
    have hpc := hat i cs rfl
    rcases xcondd h with h | ⟨h1, h⟩
    · exact Or.inl h
    rcases xcondd h with h | ⟨h2, h⟩
    · exact Or.inl h
    rcases xcondd h with h | ⟨h3, h⟩
    · exact Or.inl h
    rcases xcondd h with h | ⟨h4, h⟩
    · exact Or.inl h
    rcases xcondd h with h | ⟨h5, h⟩
    · exact Or.inl h
    refine Or.inr ?_
    obtain ⟨lv, st, env, hp, n, uc, us⟩ := A
    have e1 : i.1 = pcH := Nat.eq_of_beq_eq_true h1
    have e2 : n = n0 := Nat.eq_of_beq_eq_true (xand h3).1
    have e3 : uc = 0 := Nat.eq_of_beq_eq_true (xand (xand h3).2).1
    have e4 : us = 0 := Nat.eq_of_beq_eq_true (xand (xand h3).2).2
    have e5 : me = mi := hu me hme (of_decide_eq_true (xand h4).1)
    have e6 : st = [] := List.isEmpty_iff.mp (xand (xand h4).2).1
    have e7 : hp = h0 := xeqH_of h5
    rw [← hpc, e1, e5]
    subst e2; subst e3; subst e4; subst e6; subst e7
    exact hacc lv env k h2 (xand (xand h4).2).2 h
theorem xpat {lv : xL} {lvc : List (Nat × Value)} {ls : Array Slot} {ml : Nat} (hl : lv_has ls ml lvc) (hr : xLR ρ base lv lvc) : ∀ (L : xL), (∀ q ∈ L, ∃ (j : Nat) (x : xV), lv[j]? = some (q.1, x) ∧ ∀ v, xg ρ base x v → xg ρ' base q.2 v) → ∃ lvc', lv_has ls ml lvc' ∧ xLR ρ' base L lvc' := by
  intro L
  induction L with
  | nil => intro _; exact ⟨[], ⟨hl.1, hl.2.1, fun q hq => absurd hq List.not_mem_nil⟩, trivial⟩
  | cons q L ih =>
    intro h
    obtain ⟨lvc', h1, h2⟩ := ih (fun q' hq => h q' (List.mem_cons_of_mem _ hq))
    obtain ⟨j, x, h3, h4⟩ := h q List.mem_cons_self
    obtain ⟨v, h5, h6⟩ := xLR_get hr h3
    refine ⟨(q.1, v) :: lvc', ⟨h1.1, h1.2.1, fun q' hq => ?_⟩, ⟨rfl, h4 v h6⟩, h2⟩
    rcases List.mem_cons.mp hq with rfl | hq
    · exact lv_at hl j h5
    · exact h1.2.2 q' hq
noncomputable def xK0 (h0 : xH) (n0 : Nat) (r0 : Nat) : xK := fun _ h n r => match r with
  | some (.inl u) => cond (Bool.and (Nat.beq u r0) (Nat.beq n n0)) (xeqH h h0) false
  | _ => false
theorem xK0_of {h0 h : xH} {n0 n r0 : Nat} {env : xE} {r : Option xV} (e : xK0 h0 n0 r0 env h n r = true) : r = some (.inl r0) ∧ n = n0 ∧ h = h0 := by
  cases r with
  | none => exact absurd e (by simp [xK0])
  | some x =>
    cases x with
    | inr _ => exact absurd e (by simp [xK0])
    | inl u =>
      obtain ⟨h1, h2⟩ := xcond (show cond (Bool.and (Nat.beq u r0) (Nat.beq n n0)) (xeqH h h0) false = true from e)
      rw [Nat.eq_of_beq_eq_true (xand h1).1]
      exact ⟨rfl, Nat.eq_of_beq_eq_true (xand h1).2, xeqH_of h2⟩
theorem xMQ {below : List Frame} {Q Q' : Array Value → State → Outcome → State → Prop} {a : Array Value} {s : State} {mc ms : Nat} {F : Addr → Prop} (h : ∀ o t, Q a s o t → Q' a s o t) {t : State} (q : MQ below Q a s mc ms F t) : MQ below Q' a s mc ms F t := by
  unfold MQ at q ⊢
  first
    | (obtain ⟨o, L, h1, h2, h3, h4, h5⟩ := q; exact ⟨o, L, h1, h2, h o t h3, h4, h5⟩)
    | (obtain ⟨o, L, h1, h2, h3, h4, h5⟩ := q; exact ⟨o, L, h1, h2, h3, h o t h4, h5⟩)
    | (obtain ⟨o, h1, h2, h3, h4⟩ := q; exact ⟨o, h1, h2, h o t h3, h4⟩)
/-- what holds from an invariant state on holds from every state that it covers -/
theorem xtr {h0 : xH} {n0 r0 : Nat} (hnv : xnvH h0 = true) {L lv : xL} {E env : xE} (hG : xGd ρ' base F Ts Ns cl tys D dA la mi pc (L, [], E, h0, n0, 0, 0) (xK0 h0 n0 r0)) (hE : xρ ρ env → xρ ρ' E) (hL : ∀ q ∈ L, ∃ (j : Nat) (x : xV), lv[j]? = some (q.1, x) ∧ ∀ v, xg ρ base x v → xg ρ' base q.2 v) (hk : k env h0 n0 (some (.inl r0)) = true) : xGd ρ base F Ts Ns cl tys D dA la mi pc (lv, [], env, h0, n0, 0, 0) k := by
  intro p e s m args below meth c C H locs ls stc hI hS
  obtain ⟨lvc, hl, hlr⟩ := hI.2.1
  obtain ⟨lvc', hl', hlr'⟩ := xpat hl hlr L hL
  have hst : stc = [] := xSR_nil hI.2.2.1
  have g := hG p e s m args below meth c C H locs ls stc ⟨hE hI.1, ⟨lvc', hl', hlr'⟩, by rw [hst]; exact trivial, xHR_nv hnv hI.2.2.2.1, Nat.zero_le _, Nat.zero_le _⟩ hS
  intro T hT X
  obtain ⟨t, a1, b1⟩ := g T hT X
  refine ⟨t, a1, xMQ (fun o t q => ?_) b1⟩
  obtain ⟨q1, env', h', n', r, q2, q3, q4, q5⟩ := q
  obtain ⟨rfl, rfl, rfl⟩ := xK0_of q2
  refine ⟨q1, env, h', n', _, hk, hI.1, xHR_nv hnv q4, Or.inr ?_⟩
  rcases q5 with ⟨q5, -⟩ | ⟨x, v, q5, q6, q7⟩
  · cases q5
  · cases q5
    exact ⟨_, v, rfl, q6, q7⟩
end XSU
/-- the line through given values -/
def xext (σ : Nat → Int32) : Nat → Int32 := fun j => σ (j % 64) + nI (j / 64)
theorem xext_lin (σ : Nat → Int32) : xLin (xext σ) := by
  intro k c hk
  show σ ((k + 64 * c) % 64) + nI ((k + 64 * c) / 64) = σ (k % 64) + nI (k / 64) + nI c
  rw [show (k + 64 * c) % 64 = k % 64 by omega, show (k + 64 * c) / 64 = c by omega, show k / 64 = 0 by omega, show nI 0 = 0 from rfl, Int32.add_zero]
theorem xext_at (σ : Nat → Int32) {k : Nat} (hk : k < 64) : xext σ k = σ k := by
  show σ (k % 64) + nI (k / 64) = σ k
  rw [show k % 64 = k by omega, show k / 64 = 0 by omega, show nI 0 = 0 from rfl, Int32.add_zero]
/-- bounds of one variable -/
noncomputable def xbd (k lo hi : Nat) (env : xE) : Bool := xnth env (fun q => Bool.and (Nat.ble lo q.1) (Nat.ble q.2 hi)) k
theorem xbd_of {ρ : Nat → Int32} {k lo hi : Nat} {env : xE} (h : xbd k lo hi env = true) (hr : xρ ρ env) : lo ≤ xb (ρ k) ∧ xb (ρ k) ≤ hi := by
  obtain ⟨q, h1, h2⟩ := xnth_of h
  have h3 := Nat.le_of_ble_eq_true (xand h2).1
  have h4 := Nat.le_of_ble_eq_true (xand h2).2
  have := hr.2 k q h1
  omega
/-- an int within bounds: known, or a variable -/
noncomputable def xrg (env : xE) (lo hi : Nat) : xV → Bool
  | .inl u => Bool.and (Nat.ble lo (xbc u)) (Nat.ble (xbc u) hi)
  | .inr (.inl (some k)) => xbd k lo hi env
  | _ => false
theorem xrg_of {ρ : Nat → Int32} {base lo hi : Nat} {env : xE} {x : xV} {v : Value} (h : xrg env lo hi x = true) (hr : xρ ρ env) (hg : xg ρ base x v) : ∃ z : Int32, v = .int z ∧ lo ≤ xb z ∧ xb z ≤ hi := by
  rcases x with u | o | a | a | a
  · have h : Bool.and (Nat.ble lo (xbc u)) (Nat.ble (xbc u) hi) = true := h
    exact ⟨nI u, hg, by rw [← xbc_eq]; exact Nat.le_of_ble_eq_true (xand h).1, by rw [← xbc_eq]; exact Nat.le_of_ble_eq_true (xand h).2⟩
  · cases o with
    | none => exact absurd h (by simp [xrg])
    | some k => exact ⟨ρ k, hg, xbd_of h hr⟩
  · exact absurd h (by simp [xrg])
  · exact absurd h (by simp [xrg])
  · exact absurd h (by simp [xrg])
theorem xb_up {x : Int32} {c : Nat} (h : xb x + c < 4294967296) : xb (x + nI c) = xb x + c := by
  have e : x = nI (xub (xb x)) := xub_of rfl
  have hx := xb_max x
  generalize hz : xb x = z at e h hx
  rw [e, nI_add, ← xbc_eq]
  show ((z + 2147483648) % 4294967296 + c + 2147483648) % 4294967296 = z + c
  omega
theorem xb_dn {x : Int32} (h : 0 < xb x) : xb (x + nI 4294967295) = xb x - 1 := by
  have e : x = nI (xub (xb x)) := xub_of rfl
  have hx := xb_max x
  generalize hz : xb x = z at e h hx
  rw [e, nI_add, ← xbc_eq]
  show ((z + 2147483648) % 4294967296 + 4294967295 + 2147483648) % 4294967296 = z - 1
  omega
end
section
-- ===== PART A: goes FIRST, ahead of the names: the tables' words, and 'selects' of the private methods out of them =====
/-- a private method of a class that the tables say can be made, by its rows of tables_1 -/
def lw_okq (q : MethodName × Nat) : Prop := (q.1.cls ≠ "java/lang/invoke/MethodHandle" ∧ q.1.cls ≠ "java/lang/invoke/VarHandle") ∧ Cond.instantiable q.1.cls q.2 ∈ tables_1 ∧ Cond.privateMethod q.1 ∈ tables_1 ∧ Cond.instanceMethod q.1 ∈ tables_1
theorem lw_p0 : lw_okq (⟨"AcidCity$Charter", "putOne", "(LAcidCity$City;I)V"⟩, 14) := ⟨⟨by decide +kernel, by decide +kernel⟩, List.mem_of_getElem? (i := 255) (by decide +kernel), List.mem_of_getElem? (i := 642) (by decide +kernel), List.mem_of_getElem? (i := 643) (by decide +kernel)⟩
theorem lw_p1 : lw_okq (⟨"AcidCity$Charter", "put", "(CI)V"⟩, 14) := ⟨⟨by decide +kernel, by decide +kernel⟩, List.mem_of_getElem? (i := 255) (by decide +kernel), List.mem_of_getElem? (i := 646) (by decide +kernel), List.mem_of_getElem? (i := 647) (by decide +kernel)⟩
theorem lw_p2 : lw_okq (⟨"AcidCity$Charter", "allows", "(II)Z"⟩, 14) := ⟨⟨by decide +kernel, by decide +kernel⟩, List.mem_of_getElem? (i := 255) (by decide +kernel), List.mem_of_getElem? (i := 658) (by decide +kernel), List.mem_of_getElem? (i := 659) (by decide +kernel)⟩
theorem lw_p3 : lw_okq (⟨"AcidCity$Charter", "isInForce", "(II)Z"⟩, 14) := ⟨⟨by decide +kernel, by decide +kernel⟩, List.mem_of_getElem? (i := 255) (by decide +kernel), List.mem_of_getElem? (i := 666) (by decide +kernel), List.mem_of_getElem? (i := 667) (by decide +kernel)⟩
theorem lw_p4 : lw_okq (⟨"AcidCity$Charter", "worth", "(I)I"⟩, 14) := ⟨⟨by decide +kernel, by decide +kernel⟩, List.mem_of_getElem? (i := 255) (by decide +kernel), List.mem_of_getElem? (i := 670) (by decide +kernel), List.mem_of_getElem? (i := 671) (by decide +kernel)⟩
theorem lw_p5 : lw_okq (⟨"AcidCity$Charter", "nameAt", "(I)I"⟩, 14) := ⟨⟨by decide +kernel, by decide +kernel⟩, List.mem_of_getElem? (i := 255) (by decide +kernel), List.mem_of_getElem? (i := 674) (by decide +kernel), List.mem_of_getElem? (i := 675) (by decide +kernel)⟩
theorem lw_p6 : lw_okq (⟨"AcidCity", "refusedProbe", "(I)I"⟩, 16) := ⟨⟨by decide +kernel, by decide +kernel⟩, List.mem_of_getElem? (i := 24) (by decide +kernel), List.mem_of_getElem? (i := 748) (by decide +kernel), List.mem_of_getElem? (i := 749) (by decide +kernel)⟩
theorem lw_p7 : lw_okq (⟨"AcidCity$Cells", "hear", "([I)V"⟩, 13) := ⟨⟨by decide +kernel, by decide +kernel⟩, List.mem_of_getElem? (i := 38) (by decide +kernel), List.mem_of_getElem? (i := 851) (by decide +kernel), List.mem_of_getElem? (i := 852) (by decide +kernel)⟩
theorem lw_p8 : lw_okq (⟨"AcidCity$City", "runWork", "(I)V"⟩, 10) := ⟨⟨by decide +kernel, by decide +kernel⟩, List.mem_of_getElem? (i := 32) (by decide +kernel), List.mem_of_getElem? (i := 857) (by decide +kernel), List.mem_of_getElem? (i := 858) (by decide +kernel)⟩
theorem lw_p9 : lw_okq (⟨"AcidCity$City", "runSkin", "(I)V"⟩, 10) := ⟨⟨by decide +kernel, by decide +kernel⟩, List.mem_of_getElem? (i := 32) (by decide +kernel), List.mem_of_getElem? (i := 861) (by decide +kernel), List.mem_of_getElem? (i := 862) (by decide +kernel)⟩
theorem lw_p10 : lw_okq (⟨"AcidCity$City", "loseGas", "(II)V"⟩, 10) := ⟨⟨by decide +kernel, by decide +kernel⟩, List.mem_of_getElem? (i := 32) (by decide +kernel), List.mem_of_getElem? (i := 875) (by decide +kernel), List.mem_of_getElem? (i := 876) (by decide +kernel)⟩
theorem lw_p11 : lw_okq (⟨"AcidCity$City", "runGarden", "(I)V"⟩, 10) := ⟨⟨by decide +kernel, by decide +kernel⟩, List.mem_of_getElem? (i := 32) (by decide +kernel), List.mem_of_getElem? (i := 879) (by decide +kernel), List.mem_of_getElem? (i := 880) (by decide +kernel)⟩
theorem lw_p12 : lw_okq (⟨"AcidCity$City", "runStill", "(I)V"⟩, 10) := ⟨⟨by decide +kernel, by decide +kernel⟩, List.mem_of_getElem? (i := 32) (by decide +kernel), List.mem_of_getElem? (i := 894) (by decide +kernel), List.mem_of_getElem? (i := 895) (by decide +kernel)⟩
theorem lw_p13 : lw_okq (⟨"AcidCity$City", "runRotor", "(I)V"⟩, 10) := ⟨⟨by decide +kernel, by decide +kernel⟩, List.mem_of_getElem? (i := 32) (by decide +kernel), List.mem_of_getElem? (i := 898) (by decide +kernel), List.mem_of_getElem? (i := 899) (by decide +kernel)⟩
theorem lw_p14 : lw_okq (⟨"AcidCity$City", "runProbe", "(I)V"⟩, 10) := ⟨⟨by decide +kernel, by decide +kernel⟩, List.mem_of_getElem? (i := 32) (by decide +kernel), List.mem_of_getElem? (i := 902) (by decide +kernel), List.mem_of_getElem? (i := 903) (by decide +kernel)⟩
theorem lw_p15 : lw_okq (⟨"AcidCity$City", "breathe", "(I)V"⟩, 10) := ⟨⟨by decide +kernel, by decide +kernel⟩, List.mem_of_getElem? (i := 32) (by decide +kernel), List.mem_of_getElem? (i := 921) (by decide +kernel), List.mem_of_getElem? (i := 922) (by decide +kernel)⟩
def lw_privs_1 : List (MethodName × Nat) := [(⟨"AcidCity$Charter", "putOne", "(LAcidCity$City;I)V"⟩, 14), (⟨"AcidCity$Charter", "put", "(CI)V"⟩, 14), (⟨"AcidCity$Charter", "allows", "(II)Z"⟩, 14), (⟨"AcidCity$Charter", "isInForce", "(II)Z"⟩, 14), (⟨"AcidCity$Charter", "worth", "(I)I"⟩, 14), (⟨"AcidCity$Charter", "nameAt", "(I)I"⟩, 14), (⟨"AcidCity", "refusedProbe", "(I)I"⟩, 16), (⟨"AcidCity$Cells", "hear", "([I)V"⟩, 13), (⟨"AcidCity$City", "runWork", "(I)V"⟩, 10), (⟨"AcidCity$City", "runSkin", "(I)V"⟩, 10), (⟨"AcidCity$City", "loseGas", "(II)V"⟩, 10), (⟨"AcidCity$City", "runGarden", "(I)V"⟩, 10), (⟨"AcidCity$City", "runStill", "(I)V"⟩, 10), (⟨"AcidCity$City", "runRotor", "(I)V"⟩, 10), (⟨"AcidCity$City", "runProbe", "(I)V"⟩, 10), (⟨"AcidCity$City", "breathe", "(I)V"⟩, 10)]
theorem lw_r1 : ∀ q ∈ lw_privs_1, lw_okq q := List.forall_mem_cons.mpr ⟨lw_p0, List.forall_mem_cons.mpr ⟨lw_p1, List.forall_mem_cons.mpr ⟨lw_p2, List.forall_mem_cons.mpr ⟨lw_p3, List.forall_mem_cons.mpr ⟨lw_p4, List.forall_mem_cons.mpr ⟨lw_p5, List.forall_mem_cons.mpr ⟨lw_p6, List.forall_mem_cons.mpr ⟨lw_p7, List.forall_mem_cons.mpr ⟨lw_p8, List.forall_mem_cons.mpr ⟨lw_p9, List.forall_mem_cons.mpr ⟨lw_p10, List.forall_mem_cons.mpr ⟨lw_p11, List.forall_mem_cons.mpr ⟨lw_p12, List.forall_mem_cons.mpr ⟨lw_p13, List.forall_mem_cons.mpr ⟨lw_p14, List.forall_mem_cons.mpr ⟨lw_p15, fun _ h => absurd h List.not_mem_nil⟩⟩⟩⟩⟩⟩⟩⟩⟩⟩⟩⟩⟩⟩⟩⟩
theorem lw_p16 : lw_okq (⟨"AcidCity$City", "rise", "()V"⟩, 10) := ⟨⟨by decide +kernel, by decide +kernel⟩, List.mem_of_getElem? (i := 32) (by decide +kernel), List.mem_of_getElem? (i := 935) (by decide +kernel), List.mem_of_getElem? (i := 936) (by decide +kernel)⟩
theorem lw_p17 : lw_okq (⟨"AcidCity$City", "sendReports", "()V"⟩, 10) := ⟨⟨by decide +kernel, by decide +kernel⟩, List.mem_of_getElem? (i := 32) (by decide +kernel), List.mem_of_getElem? (i := 945) (by decide +kernel), List.mem_of_getElem? (i := 946) (by decide +kernel)⟩
theorem lw_p18 : lw_okq (⟨"AcidCity$Tape", "addFour", "(I)V"⟩, 11) := ⟨⟨by decide +kernel, by decide +kernel⟩, List.mem_of_getElem? (i := 388) (by decide +kernel), List.mem_of_getElem? (i := 1001) (by decide +kernel), List.mem_of_getElem? (i := 1002) (by decide +kernel)⟩
theorem lw_p19 : lw_okq (⟨"AcidCity$Tape", "behindBlanks", "(I)I"⟩, 11) := ⟨⟨by decide +kernel, by decide +kernel⟩, List.mem_of_getElem? (i := 388) (by decide +kernel), List.mem_of_getElem? (i := 1017) (by decide +kernel), List.mem_of_getElem? (i := 1018) (by decide +kernel)⟩
theorem lw_p20 : lw_okq (⟨"AcidCity$Tape", "behindWord", "(I)I"⟩, 11) := ⟨⟨by decide +kernel, by decide +kernel⟩, List.mem_of_getElem? (i := 388) (by decide +kernel), List.mem_of_getElem? (i := 1021) (by decide +kernel), List.mem_of_getElem? (i := 1022) (by decide +kernel)⟩
theorem lw_p21 : lw_okq (⟨"AcidCity$Tape", "keyBetween", "(II)I"⟩, 11) := ⟨⟨by decide +kernel, by decide +kernel⟩, List.mem_of_getElem? (i := 388) (by decide +kernel), List.mem_of_getElem? (i := 1031) (by decide +kernel), List.mem_of_getElem? (i := 1032) (by decide +kernel)⟩
theorem lw_p22 : lw_okq (⟨"AcidCity$Tape", "isWord", "(Ljava/lang/String;II)Z"⟩, 11) := ⟨⟨by decide +kernel, by decide +kernel⟩, List.mem_of_getElem? (i := 388) (by decide +kernel), List.mem_of_getElem? (i := 1044) (by decide +kernel), List.mem_of_getElem? (i := 1045) (by decide +kernel)⟩
theorem lw_p23 : lw_okq (⟨"AcidCity$Tape", "takePart", "(II)Z"⟩, 11) := ⟨⟨by decide +kernel, by decide +kernel⟩, List.mem_of_getElem? (i := 388) (by decide +kernel), List.mem_of_getElem? (i := 1097) (by decide +kernel), List.mem_of_getElem? (i := 1098) (by decide +kernel)⟩
theorem lw_p24 : lw_okq (⟨"AcidCity$Tape", "takeLeaf", "(I)Z"⟩, 11) := ⟨⟨by decide +kernel, by decide +kernel⟩, List.mem_of_getElem? (i := 388) (by decide +kernel), List.mem_of_getElem? (i := 1164) (by decide +kernel), List.mem_of_getElem? (i := 1165) (by decide +kernel)⟩
theorem lw_p25 : lw_okq (⟨"AcidCity$Tape", "emit", "(I)Z"⟩, 11) := ⟨⟨by decide +kernel, by decide +kernel⟩, List.mem_of_getElem? (i := 388) (by decide +kernel), List.mem_of_getElem? (i := 1168) (by decide +kernel), List.mem_of_getElem? (i := 1169) (by decide +kernel)⟩
theorem lw_p26 : lw_okq (⟨"AcidCity$Tape", "numberBetween", "(II)I"⟩, 11) := ⟨⟨by decide +kernel, by decide +kernel⟩, List.mem_of_getElem? (i := 388) (by decide +kernel), List.mem_of_getElem? (i := 1172) (by decide +kernel), List.mem_of_getElem? (i := 1173) (by decide +kernel)⟩
theorem lw_p27 : lw_okq (⟨"AcidCity$Tape", "push", "(I)Z"⟩, 11) := ⟨⟨by decide +kernel, by decide +kernel⟩, List.mem_of_getElem? (i := 388) (by decide +kernel), List.mem_of_getElem? (i := 1176) (by decide +kernel), List.mem_of_getElem? (i := 1177) (by decide +kernel)⟩
theorem lw_p28 : lw_okq (⟨"AcidCity$Tape", "takeSign", "(I)Z"⟩, 11) := ⟨⟨by decide +kernel, by decide +kernel⟩, List.mem_of_getElem? (i := 388) (by decide +kernel), List.mem_of_getElem? (i := 1180) (by decide +kernel), List.mem_of_getElem? (i := 1181) (by decide +kernel)⟩
theorem lw_p29 : lw_okq (⟨"AcidCity$Tape", "close", "()Z"⟩, 11) := ⟨⟨by decide +kernel, by decide +kernel⟩, List.mem_of_getElem? (i := 388) (by decide +kernel), List.mem_of_getElem? (i := 1184) (by decide +kernel), List.mem_of_getElem? (i := 1185) (by decide +kernel)⟩
theorem lw_p30 : lw_okq (⟨"AcidCity$Tape", "settle", "(I)V"⟩, 11) := ⟨⟨by decide +kernel, by decide +kernel⟩, List.mem_of_getElem? (i := 388) (by decide +kernel), List.mem_of_getElem? (i := 1188) (by decide +kernel), List.mem_of_getElem? (i := 1189) (by decide +kernel)⟩
theorem lw_p31 : lw_okq (⟨"AcidCity$Charter", "voters", "(LAcidCity$City;)I"⟩, 14) := ⟨⟨by decide +kernel, by decide +kernel⟩, List.mem_of_getElem? (i := 255) (by decide +kernel), List.mem_of_getElem? (i := 1245) (by decide +kernel), List.mem_of_getElem? (i := 1246) (by decide +kernel)⟩
def lw_privs_2 : List (MethodName × Nat) := [(⟨"AcidCity$City", "rise", "()V"⟩, 10), (⟨"AcidCity$City", "sendReports", "()V"⟩, 10), (⟨"AcidCity$Tape", "addFour", "(I)V"⟩, 11), (⟨"AcidCity$Tape", "behindBlanks", "(I)I"⟩, 11), (⟨"AcidCity$Tape", "behindWord", "(I)I"⟩, 11), (⟨"AcidCity$Tape", "keyBetween", "(II)I"⟩, 11), (⟨"AcidCity$Tape", "isWord", "(Ljava/lang/String;II)Z"⟩, 11), (⟨"AcidCity$Tape", "takePart", "(II)Z"⟩, 11), (⟨"AcidCity$Tape", "takeLeaf", "(I)Z"⟩, 11), (⟨"AcidCity$Tape", "emit", "(I)Z"⟩, 11), (⟨"AcidCity$Tape", "numberBetween", "(II)I"⟩, 11), (⟨"AcidCity$Tape", "push", "(I)Z"⟩, 11), (⟨"AcidCity$Tape", "takeSign", "(I)Z"⟩, 11), (⟨"AcidCity$Tape", "close", "()Z"⟩, 11), (⟨"AcidCity$Tape", "settle", "(I)V"⟩, 11), (⟨"AcidCity$Charter", "voters", "(LAcidCity$City;)I"⟩, 14)]
theorem lw_r2 : ∀ q ∈ lw_privs_2, lw_okq q := List.forall_mem_cons.mpr ⟨lw_p16, List.forall_mem_cons.mpr ⟨lw_p17, List.forall_mem_cons.mpr ⟨lw_p18, List.forall_mem_cons.mpr ⟨lw_p19, List.forall_mem_cons.mpr ⟨lw_p20, List.forall_mem_cons.mpr ⟨lw_p21, List.forall_mem_cons.mpr ⟨lw_p22, List.forall_mem_cons.mpr ⟨lw_p23, List.forall_mem_cons.mpr ⟨lw_p24, List.forall_mem_cons.mpr ⟨lw_p25, List.forall_mem_cons.mpr ⟨lw_p26, List.forall_mem_cons.mpr ⟨lw_p27, List.forall_mem_cons.mpr ⟨lw_p28, List.forall_mem_cons.mpr ⟨lw_p29, List.forall_mem_cons.mpr ⟨lw_p30, List.forall_mem_cons.mpr ⟨lw_p31, fun _ h => absurd h List.not_mem_nil⟩⟩⟩⟩⟩⟩⟩⟩⟩⟩⟩⟩⟩⟩⟩⟩
theorem lw_p32 : lw_okq (⟨"AcidCity$Charter", "partOf", "(LAcidCity$City;I)I"⟩, 14) := ⟨⟨by decide +kernel, by decide +kernel⟩, List.mem_of_getElem? (i := 255) (by decide +kernel), List.mem_of_getElem? (i := 1274) (by decide +kernel), List.mem_of_getElem? (i := 1275) (by decide +kernel)⟩
theorem lw_p33 : lw_okq (⟨"AcidCity$Charter", "shedWorth", "(LAcidCity$City;I)I"⟩, 14) := ⟨⟨by decide +kernel, by decide +kernel⟩, List.mem_of_getElem? (i := 255) (by decide +kernel), List.mem_of_getElem? (i := 1288) (by decide +kernel), List.mem_of_getElem? (i := 1289) (by decide +kernel)⟩
theorem lw_p34 : lw_okq (⟨"AcidCity$Charter", "putWork", "(LAcidCity$City;I)V"⟩, 14) := ⟨⟨by decide +kernel, by decide +kernel⟩, List.mem_of_getElem? (i := 255) (by decide +kernel), List.mem_of_getElem? (i := 1293) (by decide +kernel), List.mem_of_getElem? (i := 1294) (by decide +kernel)⟩
theorem lw_p35 : lw_okq (⟨"AcidCity$Gauges", "hasPlace", "(II)Z"⟩, 3) := ⟨⟨by decide +kernel, by decide +kernel⟩, List.mem_of_getElem? (i := 433) (by decide +kernel), List.mem_of_getElem? (i := 1335) (by decide +kernel), List.mem_of_getElem? (i := 1336) (by decide +kernel)⟩
theorem lw_p36 : lw_okq (⟨"AcidCity$Gauges", "middleAt", "(II)I"⟩, 3) := ⟨⟨by decide +kernel, by decide +kernel⟩, List.mem_of_getElem? (i := 433) (by decide +kernel), List.mem_of_getElem? (i := 1354) (by decide +kernel), List.mem_of_getElem? (i := 1355) (by decide +kernel)⟩
theorem lw_p37 : lw_okq (⟨"AcidCity$Gauges", "hasPlaces", "(III)Z"⟩, 3) := ⟨⟨by decide +kernel, by decide +kernel⟩, List.mem_of_getElem? (i := 433) (by decide +kernel), List.mem_of_getElem? (i := 1373) (by decide +kernel), List.mem_of_getElem? (i := 1374) (by decide +kernel)⟩
theorem lw_p38 : lw_okq (⟨"AcidCity$Desk", "agrees", "(I)Z"⟩, 16) := ⟨⟨by decide +kernel, by decide +kernel⟩, List.mem_of_getElem? (i := 313) (by decide +kernel), List.mem_of_getElem? (i := 1390) (by decide +kernel), List.mem_of_getElem? (i := 1391) (by decide +kernel)⟩
theorem lw_p39 : lw_okq (⟨"AcidCity$Desk", "mostAlike", "(II)I"⟩, 16) := ⟨⟨by decide +kernel, by decide +kernel⟩, List.mem_of_getElem? (i := 313) (by decide +kernel), List.mem_of_getElem? (i := 1411) (by decide +kernel), List.mem_of_getElem? (i := 1412) (by decide +kernel)⟩
theorem lw_p40 : lw_okq (⟨"AcidCity$Rounds", "begin", "(LAcidCity$City;LAcidCity$Desk;)V"⟩, 8) := ⟨⟨by decide +kernel, by decide +kernel⟩, List.mem_of_getElem? (i := 450) (by decide +kernel), List.mem_of_getElem? (i := 1429) (by decide +kernel), List.mem_of_getElem? (i := 1430) (by decide +kernel)⟩
theorem lw_p41 : lw_okq (⟨"AcidCity$Rounds", "foretellAll", "(LAcidCity$Works;I)V"⟩, 8) := ⟨⟨by decide +kernel, by decide +kernel⟩, List.mem_of_getElem? (i := 450) (by decide +kernel), List.mem_of_getElem? (i := 1438) (by decide +kernel), List.mem_of_getElem? (i := 1439) (by decide +kernel)⟩
theorem lw_p42 : lw_okq (⟨"AcidCity$Rounds", "fallOf", "(II)I"⟩, 8) := ⟨⟨by decide +kernel, by decide +kernel⟩, List.mem_of_getElem? (i := 450) (by decide +kernel), List.mem_of_getElem? (i := 1443) (by decide +kernel), List.mem_of_getElem? (i := 1444) (by decide +kernel)⟩
theorem lw_p43 : lw_okq (⟨"AcidCity$Rounds", "sewNext", "(LAcidCity$Works;I)I"⟩, 8) := ⟨⟨by decide +kernel, by decide +kernel⟩, List.mem_of_getElem? (i := 450) (by decide +kernel), List.mem_of_getElem? (i := 1447) (by decide +kernel), List.mem_of_getElem? (i := 1448) (by decide +kernel)⟩
theorem lw_p44 : lw_okq (⟨"AcidCity$Rounds", "wearAll", "(LAcidCity$Works;I)V"⟩, 8) := ⟨⟨by decide +kernel, by decide +kernel⟩, List.mem_of_getElem? (i := 450) (by decide +kernel), List.mem_of_getElem? (i := 1451) (by decide +kernel), List.mem_of_getElem? (i := 1452) (by decide +kernel)⟩
theorem lw_p45 : lw_okq (⟨"AcidCity$Dark", "choose", "(LAcidCity$Desk;II)V"⟩, 2) := ⟨⟨by decide +kernel, by decide +kernel⟩, List.mem_of_getElem? (i := 483) (by decide +kernel), List.mem_of_getElem? (i := 1475) (by decide +kernel), List.mem_of_getElem? (i := 1476) (by decide +kernel)⟩
theorem lw_p46 : lw_okq (⟨"AcidCity$Desk", "sumOf", "([II)I"⟩, 16) := ⟨⟨by decide +kernel, by decide +kernel⟩, List.mem_of_getElem? (i := 313) (by decide +kernel), List.mem_of_getElem? (i := 1531) (by decide +kernel), List.mem_of_getElem? (i := 1532) (by decide +kernel)⟩
theorem lw_p47 : lw_okq (⟨"AcidCity$Order", "goOn", "(LAcidCity$Desk;IIII)V"⟩, 5) := ⟨⟨by decide +kernel, by decide +kernel⟩, List.mem_of_getElem? (i := 497) (by decide +kernel), List.mem_of_getElem? (i := 1552) (by decide +kernel), List.mem_of_getElem? (i := 1553) (by decide +kernel)⟩
def lw_privs_3 : List (MethodName × Nat) := [(⟨"AcidCity$Charter", "partOf", "(LAcidCity$City;I)I"⟩, 14), (⟨"AcidCity$Charter", "shedWorth", "(LAcidCity$City;I)I"⟩, 14), (⟨"AcidCity$Charter", "putWork", "(LAcidCity$City;I)V"⟩, 14), (⟨"AcidCity$Gauges", "hasPlace", "(II)Z"⟩, 3), (⟨"AcidCity$Gauges", "middleAt", "(II)I"⟩, 3), (⟨"AcidCity$Gauges", "hasPlaces", "(III)Z"⟩, 3), (⟨"AcidCity$Desk", "agrees", "(I)Z"⟩, 16), (⟨"AcidCity$Desk", "mostAlike", "(II)I"⟩, 16), (⟨"AcidCity$Rounds", "begin", "(LAcidCity$City;LAcidCity$Desk;)V"⟩, 8), (⟨"AcidCity$Rounds", "foretellAll", "(LAcidCity$Works;I)V"⟩, 8), (⟨"AcidCity$Rounds", "fallOf", "(II)I"⟩, 8), (⟨"AcidCity$Rounds", "sewNext", "(LAcidCity$Works;I)I"⟩, 8), (⟨"AcidCity$Rounds", "wearAll", "(LAcidCity$Works;I)V"⟩, 8), (⟨"AcidCity$Dark", "choose", "(LAcidCity$Desk;II)V"⟩, 2), (⟨"AcidCity$Desk", "sumOf", "([II)I"⟩, 16), (⟨"AcidCity$Order", "goOn", "(LAcidCity$Desk;IIII)V"⟩, 5)]
theorem lw_r3 : ∀ q ∈ lw_privs_3, lw_okq q := List.forall_mem_cons.mpr ⟨lw_p32, List.forall_mem_cons.mpr ⟨lw_p33, List.forall_mem_cons.mpr ⟨lw_p34, List.forall_mem_cons.mpr ⟨lw_p35, List.forall_mem_cons.mpr ⟨lw_p36, List.forall_mem_cons.mpr ⟨lw_p37, List.forall_mem_cons.mpr ⟨lw_p38, List.forall_mem_cons.mpr ⟨lw_p39, List.forall_mem_cons.mpr ⟨lw_p40, List.forall_mem_cons.mpr ⟨lw_p41, List.forall_mem_cons.mpr ⟨lw_p42, List.forall_mem_cons.mpr ⟨lw_p43, List.forall_mem_cons.mpr ⟨lw_p44, List.forall_mem_cons.mpr ⟨lw_p45, List.forall_mem_cons.mpr ⟨lw_p46, List.forall_mem_cons.mpr ⟨lw_p47, fun _ h => absurd h List.not_mem_nil⟩⟩⟩⟩⟩⟩⟩⟩⟩⟩⟩⟩⟩⟩⟩⟩
theorem lw_p48 : lw_okq (⟨"AcidCity$Order", "take", "(I)V"⟩, 5) := ⟨⟨by decide +kernel, by decide +kernel⟩, List.mem_of_getElem? (i := 497) (by decide +kernel), List.mem_of_getElem? (i := 1556) (by decide +kernel), List.mem_of_getElem? (i := 1557) (by decide +kernel)⟩
theorem lw_p49 : lw_okq (⟨"AcidCity", "checkLoads", "(III)I"⟩, 16) := ⟨⟨by decide +kernel, by decide +kernel⟩, List.mem_of_getElem? (i := 24) (by decide +kernel), List.mem_of_getElem? (i := 1575) (by decide +kernel), List.mem_of_getElem? (i := 1576) (by decide +kernel)⟩
theorem lw_p50 : lw_okq (⟨"AcidCity", "firstWrong", "(II)I"⟩, 16) := ⟨⟨by decide +kernel, by decide +kernel⟩, List.mem_of_getElem? (i := 24) (by decide +kernel), List.mem_of_getElem? (i := 1579) (by decide +kernel), List.mem_of_getElem? (i := 1580) (by decide +kernel)⟩
theorem lw_p51 : lw_okq (⟨"AcidCity", "checkOrder", "(II)I"⟩, 16) := ⟨⟨by decide +kernel, by decide +kernel⟩, List.mem_of_getElem? (i := 24) (by decide +kernel), List.mem_of_getElem? (i := 1583) (by decide +kernel), List.mem_of_getElem? (i := 1584) (by decide +kernel)⟩
theorem lw_p52 : lw_okq (⟨"AcidCity", "checkDay", "(II)I"⟩, 16) := ⟨⟨by decide +kernel, by decide +kernel⟩, List.mem_of_getElem? (i := 24) (by decide +kernel), List.mem_of_getElem? (i := 1587) (by decide +kernel), List.mem_of_getElem? (i := 1588) (by decide +kernel)⟩
theorem lw_p53 : lw_okq (⟨"AcidCityModel", "cellAt", "(I)I"⟩, 40) := ⟨⟨by decide +kernel, by decide +kernel⟩, List.mem_of_getElem? (i := 1651) (by decide +kernel), List.mem_of_getElem? (i := 1788) (by decide +kernel), List.mem_of_getElem? (i := 1789) (by decide +kernel)⟩
theorem lw_p54 : lw_okq (⟨"AcidCityModel", "isCell", "(I)Z"⟩, 40) := ⟨⟨by decide +kernel, by decide +kernel⟩, List.mem_of_getElem? (i := 1651) (by decide +kernel), List.mem_of_getElem? (i := 1796) (by decide +kernel), List.mem_of_getElem? (i := 1797) (by decide +kernel)⟩
theorem lw_p55 : lw_okq (⟨"AcidCityModel", "put", "(II)I"⟩, 40) := ⟨⟨by decide +kernel, by decide +kernel⟩, List.mem_of_getElem? (i := 1651) (by decide +kernel), List.mem_of_getElem? (i := 1803) (by decide +kernel), List.mem_of_getElem? (i := 1804) (by decide +kernel)⟩
theorem lw_p56 : lw_okq (⟨"AcidCityModel", "workAt", "(I)I"⟩, 40) := ⟨⟨by decide +kernel, by decide +kernel⟩, List.mem_of_getElem? (i := 1651) (by decide +kernel), List.mem_of_getElem? (i := 1812) (by decide +kernel), List.mem_of_getElem? (i := 1813) (by decide +kernel)⟩
theorem lw_p57 : lw_okq (⟨"AcidCityModel", "isGone", "(I)Z"⟩, 40) := ⟨⟨by decide +kernel, by decide +kernel⟩, List.mem_of_getElem? (i := 1651) (by decide +kernel), List.mem_of_getElem? (i := 1816) (by decide +kernel), List.mem_of_getElem? (i := 1817) (by decide +kernel)⟩
theorem lw_p58 : lw_okq (⟨"AcidCityModel", "peopleIn", "(I)I"⟩, 40) := ⟨⟨by decide +kernel, by decide +kernel⟩, List.mem_of_getElem? (i := 1651) (by decide +kernel), List.mem_of_getElem? (i := 1820) (by decide +kernel), List.mem_of_getElem? (i := 1821) (by decide +kernel)⟩
theorem lw_p59 : lw_okq (⟨"AcidCityModel", "personAt", "(I)I"⟩, 40) := ⟨⟨by decide +kernel, by decide +kernel⟩, List.mem_of_getElem? (i := 1651) (by decide +kernel), List.mem_of_getElem? (i := 1824) (by decide +kernel), List.mem_of_getElem? (i := 1825) (by decide +kernel)⟩
theorem lw_p60 : lw_okq (⟨"AcidCityModel", "isDead", "(I)Z"⟩, 40) := ⟨⟨by decide +kernel, by decide +kernel⟩, List.mem_of_getElem? (i := 1651) (by decide +kernel), List.mem_of_getElem? (i := 1828) (by decide +kernel), List.mem_of_getElem? (i := 1829) (by decide +kernel)⟩
theorem lw_p61 : lw_okq (⟨"AcidCityModel", "isLock", "(I)Z"⟩, 40) := ⟨⟨by decide +kernel, by decide +kernel⟩, List.mem_of_getElem? (i := 1651) (by decide +kernel), List.mem_of_getElem? (i := 1841) (by decide +kernel), List.mem_of_getElem? (i := 1842) (by decide +kernel)⟩
theorem lw_p62 : lw_okq (⟨"AcidCityModel", "isPerson", "(I)Z"⟩, 40) := ⟨⟨by decide +kernel, by decide +kernel⟩, List.mem_of_getElem? (i := 1651) (by decide +kernel), List.mem_of_getElem? (i := 1845) (by decide +kernel), List.mem_of_getElem? (i := 1846) (by decide +kernel)⟩
theorem lw_p63 : lw_okq (⟨"AcidCityModel", "mayOpen", "(II)Z"⟩, 40) := ⟨⟨by decide +kernel, by decide +kernel⟩, List.mem_of_getElem? (i := 1651) (by decide +kernel), List.mem_of_getElem? (i := 1849) (by decide +kernel), List.mem_of_getElem? (i := 1850) (by decide +kernel)⟩
def lw_privs_4 : List (MethodName × Nat) := [(⟨"AcidCity$Order", "take", "(I)V"⟩, 5), (⟨"AcidCity", "checkLoads", "(III)I"⟩, 16), (⟨"AcidCity", "firstWrong", "(II)I"⟩, 16), (⟨"AcidCity", "checkOrder", "(II)I"⟩, 16), (⟨"AcidCity", "checkDay", "(II)I"⟩, 16), (⟨"AcidCityModel", "cellAt", "(I)I"⟩, 40), (⟨"AcidCityModel", "isCell", "(I)Z"⟩, 40), (⟨"AcidCityModel", "put", "(II)I"⟩, 40), (⟨"AcidCityModel", "workAt", "(I)I"⟩, 40), (⟨"AcidCityModel", "isGone", "(I)Z"⟩, 40), (⟨"AcidCityModel", "peopleIn", "(I)I"⟩, 40), (⟨"AcidCityModel", "personAt", "(I)I"⟩, 40), (⟨"AcidCityModel", "isDead", "(I)Z"⟩, 40), (⟨"AcidCityModel", "isLock", "(I)Z"⟩, 40), (⟨"AcidCityModel", "isPerson", "(I)Z"⟩, 40), (⟨"AcidCityModel", "mayOpen", "(II)Z"⟩, 40)]
theorem lw_r4 : ∀ q ∈ lw_privs_4, lw_okq q := List.forall_mem_cons.mpr ⟨lw_p48, List.forall_mem_cons.mpr ⟨lw_p49, List.forall_mem_cons.mpr ⟨lw_p50, List.forall_mem_cons.mpr ⟨lw_p51, List.forall_mem_cons.mpr ⟨lw_p52, List.forall_mem_cons.mpr ⟨lw_p53, List.forall_mem_cons.mpr ⟨lw_p54, List.forall_mem_cons.mpr ⟨lw_p55, List.forall_mem_cons.mpr ⟨lw_p56, List.forall_mem_cons.mpr ⟨lw_p57, List.forall_mem_cons.mpr ⟨lw_p58, List.forall_mem_cons.mpr ⟨lw_p59, List.forall_mem_cons.mpr ⟨lw_p60, List.forall_mem_cons.mpr ⟨lw_p61, List.forall_mem_cons.mpr ⟨lw_p62, List.forall_mem_cons.mpr ⟨lw_p63, fun _ h => absurd h List.not_mem_nil⟩⟩⟩⟩⟩⟩⟩⟩⟩⟩⟩⟩⟩⟩⟩⟩
theorem lw_p64 : lw_okq (⟨"AcidCityModel", "counts", "(I)I"⟩, 40) := ⟨⟨by decide +kernel, by decide +kernel⟩, List.mem_of_getElem? (i := 1651) (by decide +kernel), List.mem_of_getElem? (i := 1853) (by decide +kernel), List.mem_of_getElem? (i := 1854) (by decide +kernel)⟩
theorem lw_p65 : lw_okq (⟨"AcidCityModel", "textAt", "(I)I"⟩, 40) := ⟨⟨by decide +kernel, by decide +kernel⟩, List.mem_of_getElem? (i := 1651) (by decide +kernel), List.mem_of_getElem? (i := 1857) (by decide +kernel), List.mem_of_getElem? (i := 1858) (by decide +kernel)⟩
theorem lw_p66 : lw_okq (⟨"AcidCityModel", "isInForce", "(I)Z"⟩, 40) := ⟨⟨by decide +kernel, by decide +kernel⟩, List.mem_of_getElem? (i := 1651) (by decide +kernel), List.mem_of_getElem? (i := 1861) (by decide +kernel), List.mem_of_getElem? (i := 1862) (by decide +kernel)⟩
theorem lw_p67 : lw_okq (⟨"AcidCityModel", "hour", "()I"⟩, 40) := ⟨⟨by decide +kernel, by decide +kernel⟩, List.mem_of_getElem? (i := 1651) (by decide +kernel), List.mem_of_getElem? (i := 1865) (by decide +kernel), List.mem_of_getElem? (i := 1866) (by decide +kernel)⟩
theorem lw_p68 : lw_okq (⟨"AcidCityModel", "nameOne", "(I)V"⟩, 40) := ⟨⟨by decide +kernel, by decide +kernel⟩, List.mem_of_getElem? (i := 1651) (by decide +kernel), List.mem_of_getElem? (i := 1869) (by decide +kernel), List.mem_of_getElem? (i := 1870) (by decide +kernel)⟩
theorem lw_p69 : lw_okq (⟨"AcidCityModel", "worked", "(I)I"⟩, 40) := ⟨⟨by decide +kernel, by decide +kernel⟩, List.mem_of_getElem? (i := 1651) (by decide +kernel), List.mem_of_getElem? (i := 1873) (by decide +kernel), List.mem_of_getElem? (i := 1874) (by decide +kernel)⟩
theorem lw_p70 : lw_okq (⟨"AcidCityModel", "level", "()I"⟩, 40) := ⟨⟨by decide +kernel, by decide +kernel⟩, List.mem_of_getElem? (i := 1651) (by decide +kernel), List.mem_of_getElem? (i := 1877) (by decide +kernel), List.mem_of_getElem? (i := 1878) (by decide +kernel)⟩
theorem lw_p71 : lw_okq (⟨"AcidCityModel", "fits", "(III)Z"⟩, 40) := ⟨⟨by decide +kernel, by decide +kernel⟩, List.mem_of_getElem? (i := 1651) (by decide +kernel), List.mem_of_getElem? (i := 1900) (by decide +kernel), List.mem_of_getElem? (i := 1901) (by decide +kernel)⟩
theorem lw_p72 : lw_okq (⟨"AcidCityModel", "isWork", "(I)Z"⟩, 40) := ⟨⟨by decide +kernel, by decide +kernel⟩, List.mem_of_getElem? (i := 1651) (by decide +kernel), List.mem_of_getElem? (i := 1905) (by decide +kernel), List.mem_of_getElem? (i := 1906) (by decide +kernel)⟩
theorem lw_p73 : lw_okq (⟨"AcidCityModel", "kindOf", "(I)I"⟩, 40) := ⟨⟨by decide +kernel, by decide +kernel⟩, List.mem_of_getElem? (i := 1651) (by decide +kernel), List.mem_of_getElem? (i := 1909) (by decide +kernel), List.mem_of_getElem? (i := 1910) (by decide +kernel)⟩
theorem lw_p74 : lw_okq (⟨"AcidCityModel", "stops", "(I)I"⟩, 40) := ⟨⟨by decide +kernel, by decide +kernel⟩, List.mem_of_getElem? (i := 1651) (by decide +kernel), List.mem_of_getElem? (i := 1943) (by decide +kernel), List.mem_of_getElem? (i := 1944) (by decide +kernel)⟩
theorem lw_p75 : lw_okq (⟨"AcidCityModel", "lift", "()J"⟩, 40) := ⟨⟨by decide +kernel, by decide +kernel⟩, List.mem_of_getElem? (i := 1651) (by decide +kernel), List.mem_of_getElem? (i := 1966) (by decide +kernel), List.mem_of_getElem? (i := 1967) (by decide +kernel)⟩
theorem lw_p76 : lw_okq (⟨"AcidCityModel", "table", "(I)I"⟩, 40) := ⟨⟨by decide +kernel, by decide +kernel⟩, List.mem_of_getElem? (i := 1651) (by decide +kernel), List.mem_of_getElem? (i := 1970) (by decide +kernel), List.mem_of_getElem? (i := 1971) (by decide +kernel)⟩
theorem lw_p77 : lw_okq (⟨"AcidCityModel", "weight", "()J"⟩, 40) := ⟨⟨by decide +kernel, by decide +kernel⟩, List.mem_of_getElem? (i := 1651) (by decide +kernel), List.mem_of_getElem? (i := 1975) (by decide +kernel), List.mem_of_getElem? (i := 1976) (by decide +kernel)⟩
theorem lw_p78 : lw_okq (⟨"AcidCityModel", "isDay", "(I)Z"⟩, 40) := ⟨⟨by decide +kernel, by decide +kernel⟩, List.mem_of_getElem? (i := 1651) (by decide +kernel), List.mem_of_getElem? (i := 1979) (by decide +kernel), List.mem_of_getElem? (i := 1980) (by decide +kernel)⟩
theorem lw_p79 : lw_okq (⟨"AcidCityModel", "minute", "()V"⟩, 40) := ⟨⟨by decide +kernel, by decide +kernel⟩, List.mem_of_getElem? (i := 1651) (by decide +kernel), List.mem_of_getElem? (i := 1990) (by decide +kernel), List.mem_of_getElem? (i := 1991) (by decide +kernel)⟩
def lw_privs_5 : List (MethodName × Nat) := [(⟨"AcidCityModel", "counts", "(I)I"⟩, 40), (⟨"AcidCityModel", "textAt", "(I)I"⟩, 40), (⟨"AcidCityModel", "isInForce", "(I)Z"⟩, 40), (⟨"AcidCityModel", "hour", "()I"⟩, 40), (⟨"AcidCityModel", "nameOne", "(I)V"⟩, 40), (⟨"AcidCityModel", "worked", "(I)I"⟩, 40), (⟨"AcidCityModel", "level", "()I"⟩, 40), (⟨"AcidCityModel", "fits", "(III)Z"⟩, 40), (⟨"AcidCityModel", "isWork", "(I)Z"⟩, 40), (⟨"AcidCityModel", "kindOf", "(I)I"⟩, 40), (⟨"AcidCityModel", "stops", "(I)I"⟩, 40), (⟨"AcidCityModel", "lift", "()J"⟩, 40), (⟨"AcidCityModel", "table", "(I)I"⟩, 40), (⟨"AcidCityModel", "weight", "()J"⟩, 40), (⟨"AcidCityModel", "isDay", "(I)Z"⟩, 40), (⟨"AcidCityModel", "minute", "()V"⟩, 40)]
theorem lw_r5 : ∀ q ∈ lw_privs_5, lw_okq q := List.forall_mem_cons.mpr ⟨lw_p64, List.forall_mem_cons.mpr ⟨lw_p65, List.forall_mem_cons.mpr ⟨lw_p66, List.forall_mem_cons.mpr ⟨lw_p67, List.forall_mem_cons.mpr ⟨lw_p68, List.forall_mem_cons.mpr ⟨lw_p69, List.forall_mem_cons.mpr ⟨lw_p70, List.forall_mem_cons.mpr ⟨lw_p71, List.forall_mem_cons.mpr ⟨lw_p72, List.forall_mem_cons.mpr ⟨lw_p73, List.forall_mem_cons.mpr ⟨lw_p74, List.forall_mem_cons.mpr ⟨lw_p75, List.forall_mem_cons.mpr ⟨lw_p76, List.forall_mem_cons.mpr ⟨lw_p77, List.forall_mem_cons.mpr ⟨lw_p78, List.forall_mem_cons.mpr ⟨lw_p79, fun _ h => absurd h List.not_mem_nil⟩⟩⟩⟩⟩⟩⟩⟩⟩⟩⟩⟩⟩⟩⟩⟩
theorem lw_p80 : lw_okq (⟨"AcidCityModel", "come", "()V"⟩, 40) := ⟨⟨by decide +kernel, by decide +kernel⟩, List.mem_of_getElem? (i := 1651) (by decide +kernel), List.mem_of_getElem? (i := 1994) (by decide +kernel), List.mem_of_getElem? (i := 1995) (by decide +kernel)⟩
theorem lw_p81 : lw_okq (⟨"AcidCityModel", "knows", "(III)V"⟩, 40) := ⟨⟨by decide +kernel, by decide +kernel⟩, List.mem_of_getElem? (i := 1651) (by decide +kernel), List.mem_of_getElem? (i := 1998) (by decide +kernel), List.mem_of_getElem? (i := 1999) (by decide +kernel)⟩
theorem lw_p82 : lw_okq (⟨"AcidCityModel", "works", "(I)V"⟩, 40) := ⟨⟨by decide +kernel, by decide +kernel⟩, List.mem_of_getElem? (i := 1651) (by decide +kernel), List.mem_of_getElem? (i := 2002) (by decide +kernel), List.mem_of_getElem? (i := 2003) (by decide +kernel)⟩
theorem lw_p83 : lw_okq (⟨"AcidCityModel", "garden", "(I)V"⟩, 40) := ⟨⟨by decide +kernel, by decide +kernel⟩, List.mem_of_getElem? (i := 1651) (by decide +kernel), List.mem_of_getElem? (i := 2006) (by decide +kernel), List.mem_of_getElem? (i := 2007) (by decide +kernel)⟩
theorem lw_p84 : lw_okq (⟨"AcidCityModel", "part", "(II)I"⟩, 40) := ⟨⟨by decide +kernel, by decide +kernel⟩, List.mem_of_getElem? (i := 1651) (by decide +kernel), List.mem_of_getElem? (i := 2010) (by decide +kernel), List.mem_of_getElem? (i := 2011) (by decide +kernel)⟩
theorem lw_p85 : lw_okq (⟨"AcidCityModel", "comes", "(III)V"⟩, 40) := ⟨⟨by decide +kernel, by decide +kernel⟩, List.mem_of_getElem? (i := 1651) (by decide +kernel), List.mem_of_getElem? (i := 2017) (by decide +kernel), List.mem_of_getElem? (i := 2018) (by decide +kernel)⟩
theorem lw_p86 : lw_okq (⟨"AcidCityModel", "still", "(I)V"⟩, 40) := ⟨⟨by decide +kernel, by decide +kernel⟩, List.mem_of_getElem? (i := 1651) (by decide +kernel), List.mem_of_getElem? (i := 2021) (by decide +kernel), List.mem_of_getElem? (i := 2022) (by decide +kernel)⟩
theorem lw_p87 : lw_okq (⟨"AcidCityModel", "isCovered", "(I)Z"⟩, 40) := ⟨⟨by decide +kernel, by decide +kernel⟩, List.mem_of_getElem? (i := 1651) (by decide +kernel), List.mem_of_getElem? (i := 2025) (by decide +kernel), List.mem_of_getElem? (i := 2026) (by decide +kernel)⟩
theorem lw_p88 : lw_okq (⟨"AcidCityModel", "wears", "(I)V"⟩, 40) := ⟨⟨by decide +kernel, by decide +kernel⟩, List.mem_of_getElem? (i := 1651) (by decide +kernel), List.mem_of_getElem? (i := 2029) (by decide +kernel), List.mem_of_getElem? (i := 2030) (by decide +kernel)⟩
theorem lw_p89 : lw_okq (⟨"AcidCityModel", "falls", "(I)V"⟩, 40) := ⟨⟨by decide +kernel, by decide +kernel⟩, List.mem_of_getElem? (i := 1651) (by decide +kernel), List.mem_of_getElem? (i := 2033) (by decide +kernel), List.mem_of_getElem? (i := 2034) (by decide +kernel)⟩
theorem lw_p90 : lw_okq (⟨"AcidCityModel", "flows", "(I)V"⟩, 40) := ⟨⟨by decide +kernel, by decide +kernel⟩, List.mem_of_getElem? (i := 1651) (by decide +kernel), List.mem_of_getElem? (i := 2037) (by decide +kernel), List.mem_of_getElem? (i := 2038) (by decide +kernel)⟩
theorem lw_p91 : lw_okq (⟨"AcidCityModel", "leaks", "(I)V"⟩, 40) := ⟨⟨by decide +kernel, by decide +kernel⟩, List.mem_of_getElem? (i := 1651) (by decide +kernel), List.mem_of_getElem? (i := 2041) (by decide +kernel), List.mem_of_getElem? (i := 2042) (by decide +kernel)⟩
theorem lw_p92 : lw_okq (⟨"AcidCityModel", "breathes", "(I)V"⟩, 40) := ⟨⟨by decide +kernel, by decide +kernel⟩, List.mem_of_getElem? (i := 1651) (by decide +kernel), List.mem_of_getElem? (i := 2046) (by decide +kernel), List.mem_of_getElem? (i := 2047) (by decide +kernel)⟩
theorem lw_p93 : lw_okq (⟨"AcidCityModel", "need", "(I)I"⟩, 40) := ⟨⟨by decide +kernel, by decide +kernel⟩, List.mem_of_getElem? (i := 1651) (by decide +kernel), List.mem_of_getElem? (i := 2050) (by decide +kernel), List.mem_of_getElem? (i := 2051) (by decide +kernel)⟩
theorem lw_p94 : lw_okq (⟨"AcidCityModel", "floats", "()V"⟩, 40) := ⟨⟨by decide +kernel, by decide +kernel⟩, List.mem_of_getElem? (i := 1651) (by decide +kernel), List.mem_of_getElem? (i := 2054) (by decide +kernel), List.mem_of_getElem? (i := 2055) (by decide +kernel)⟩
theorem lw_p95 : lw_okq (⟨"AcidCityModel", "fouls", "(I)V"⟩, 40) := ⟨⟨by decide +kernel, by decide +kernel⟩, List.mem_of_getElem? (i := 1651) (by decide +kernel), List.mem_of_getElem? (i := 2059) (by decide +kernel), List.mem_of_getElem? (i := 2060) (by decide +kernel)⟩
def lw_privs_6 : List (MethodName × Nat) := [(⟨"AcidCityModel", "come", "()V"⟩, 40), (⟨"AcidCityModel", "knows", "(III)V"⟩, 40), (⟨"AcidCityModel", "works", "(I)V"⟩, 40), (⟨"AcidCityModel", "garden", "(I)V"⟩, 40), (⟨"AcidCityModel", "part", "(II)I"⟩, 40), (⟨"AcidCityModel", "comes", "(III)V"⟩, 40), (⟨"AcidCityModel", "still", "(I)V"⟩, 40), (⟨"AcidCityModel", "isCovered", "(I)Z"⟩, 40), (⟨"AcidCityModel", "wears", "(I)V"⟩, 40), (⟨"AcidCityModel", "falls", "(I)V"⟩, 40), (⟨"AcidCityModel", "flows", "(I)V"⟩, 40), (⟨"AcidCityModel", "leaks", "(I)V"⟩, 40), (⟨"AcidCityModel", "breathes", "(I)V"⟩, 40), (⟨"AcidCityModel", "need", "(I)I"⟩, 40), (⟨"AcidCityModel", "floats", "()V"⟩, 40), (⟨"AcidCityModel", "fouls", "(I)V"⟩, 40)]
theorem lw_r6 : ∀ q ∈ lw_privs_6, lw_okq q := List.forall_mem_cons.mpr ⟨lw_p80, List.forall_mem_cons.mpr ⟨lw_p81, List.forall_mem_cons.mpr ⟨lw_p82, List.forall_mem_cons.mpr ⟨lw_p83, List.forall_mem_cons.mpr ⟨lw_p84, List.forall_mem_cons.mpr ⟨lw_p85, List.forall_mem_cons.mpr ⟨lw_p86, List.forall_mem_cons.mpr ⟨lw_p87, List.forall_mem_cons.mpr ⟨lw_p88, List.forall_mem_cons.mpr ⟨lw_p89, List.forall_mem_cons.mpr ⟨lw_p90, List.forall_mem_cons.mpr ⟨lw_p91, List.forall_mem_cons.mpr ⟨lw_p92, List.forall_mem_cons.mpr ⟨lw_p93, List.forall_mem_cons.mpr ⟨lw_p94, List.forall_mem_cons.mpr ⟨lw_p95, fun _ h => absurd h List.not_mem_nil⟩⟩⟩⟩⟩⟩⟩⟩⟩⟩⟩⟩⟩⟩⟩⟩
theorem lw_p96 : lw_okq (⟨"AcidCityModel", "sends", "()V"⟩, 40) := ⟨⟨by decide +kernel, by decide +kernel⟩, List.mem_of_getElem? (i := 1651) (by decide +kernel), List.mem_of_getElem? (i := 2063) (by decide +kernel), List.mem_of_getElem? (i := 2064) (by decide +kernel)⟩
theorem lw_p97 : lw_okq (⟨"AcidCityModel", "hasWatch", "(I)Z"⟩, 40) := ⟨⟨by decide +kernel, by decide +kernel⟩, List.mem_of_getElem? (i := 1651) (by decide +kernel), List.mem_of_getElem? (i := 2067) (by decide +kernel), List.mem_of_getElem? (i := 2068) (by decide +kernel)⟩
theorem lw_p98 : lw_okq (⟨"AcidCityModel", "mayBirth", "()Z"⟩, 40) := ⟨⟨by decide +kernel, by decide +kernel⟩, List.mem_of_getElem? (i := 1651) (by decide +kernel), List.mem_of_getElem? (i := 2089) (by decide +kernel), List.mem_of_getElem? (i := 2090) (by decide +kernel)⟩
theorem lw_p99 : lw_okq (⟨"AcidCityModel", "parse", "()I"⟩, 40) := ⟨⟨by decide +kernel, by decide +kernel⟩, List.mem_of_getElem? (i := 1651) (by decide +kernel), List.mem_of_getElem? (i := 2106) (by decide +kernel), List.mem_of_getElem? (i := 2107) (by decide +kernel)⟩
theorem lw_p100 : lw_okq (⟨"AcidCityModel", "next", "()V"⟩, 40) := ⟨⟨by decide +kernel, by decide +kernel⟩, List.mem_of_getElem? (i := 1651) (by decide +kernel), List.mem_of_getElem? (i := 2110) (by decide +kernel), List.mem_of_getElem? (i := 2111) (by decide +kernel)⟩
theorem lw_p101 : lw_okq (⟨"AcidCityModel", "isLetter", "(I)Z"⟩, 40) := ⟨⟨by decide +kernel, by decide +kernel⟩, List.mem_of_getElem? (i := 1651) (by decide +kernel), List.mem_of_getElem? (i := 2114) (by decide +kernel), List.mem_of_getElem? (i := 2115) (by decide +kernel)⟩
theorem lw_p102 : lw_okq (⟨"AcidCityModel", "isDigit", "(I)Z"⟩, 40) := ⟨⟨by decide +kernel, by decide +kernel⟩, List.mem_of_getElem? (i := 1651) (by decide +kernel), List.mem_of_getElem? (i := 2120) (by decide +kernel), List.mem_of_getElem? (i := 2121) (by decide +kernel)⟩
theorem lw_p103 : lw_okq (⟨"AcidCityModel", "key", "()I"⟩, 40) := ⟨⟨by decide +kernel, by decide +kernel⟩, List.mem_of_getElem? (i := 1651) (by decide +kernel), List.mem_of_getElem? (i := 2126) (by decide +kernel), List.mem_of_getElem? (i := 2127) (by decide +kernel)⟩
theorem lw_p104 : lw_okq (⟨"AcidCityModel", "isWordAt", "(IIIII)Z"⟩, 40) := ⟨⟨by decide +kernel, by decide +kernel⟩, List.mem_of_getElem? (i := 1651) (by decide +kernel), List.mem_of_getElem? (i := 2130) (by decide +kernel), List.mem_of_getElem? (i := 2131) (by decide +kernel)⟩
theorem lw_p105 : lw_okq (⟨"AcidCityModel", "either", "(I)Z"⟩, 40) := ⟨⟨by decide +kernel, by decide +kernel⟩, List.mem_of_getElem? (i := 1651) (by decide +kernel), List.mem_of_getElem? (i := 2134) (by decide +kernel), List.mem_of_getElem? (i := 2135) (by decide +kernel)⟩
theorem lw_p106 : lw_okq (⟨"AcidCityModel", "both", "(I)Z"⟩, 40) := ⟨⟨by decide +kernel, by decide +kernel⟩, List.mem_of_getElem? (i := 1651) (by decide +kernel), List.mem_of_getElem? (i := 2138) (by decide +kernel), List.mem_of_getElem? (i := 2139) (by decide +kernel)⟩
theorem lw_p107 : lw_okq (⟨"AcidCityModel", "test", "(I)Z"⟩, 40) := ⟨⟨by decide +kernel, by decide +kernel⟩, List.mem_of_getElem? (i := 1651) (by decide +kernel), List.mem_of_getElem? (i := 2142) (by decide +kernel), List.mem_of_getElem? (i := 2143) (by decide +kernel)⟩
theorem lw_p108 : lw_okq (⟨"AcidCityModel", "sum", "(I)Z"⟩, 40) := ⟨⟨by decide +kernel, by decide +kernel⟩, List.mem_of_getElem? (i := 1651) (by decide +kernel), List.mem_of_getElem? (i := 2146) (by decide +kernel), List.mem_of_getElem? (i := 2147) (by decide +kernel)⟩
theorem lw_p109 : lw_okq (⟨"AcidCityModel", "term", "(I)Z"⟩, 40) := ⟨⟨by decide +kernel, by decide +kernel⟩, List.mem_of_getElem? (i := 1651) (by decide +kernel), List.mem_of_getElem? (i := 2150) (by decide +kernel), List.mem_of_getElem? (i := 2151) (by decide +kernel)⟩
theorem lw_p110 : lw_okq (⟨"AcidCityModel", "part0", "(I)Z"⟩, 40) := ⟨⟨by decide +kernel, by decide +kernel⟩, List.mem_of_getElem? (i := 1651) (by decide +kernel), List.mem_of_getElem? (i := 2154) (by decide +kernel), List.mem_of_getElem? (i := 2155) (by decide +kernel)⟩
theorem lw_p111 : lw_okq (⟨"AcidCityModel", "step", "(II)V"⟩, 40) := ⟨⟨by decide +kernel, by decide +kernel⟩, List.mem_of_getElem? (i := 1651) (by decide +kernel), List.mem_of_getElem? (i := 2158) (by decide +kernel), List.mem_of_getElem? (i := 2159) (by decide +kernel)⟩
def lw_privs_7 : List (MethodName × Nat) := [(⟨"AcidCityModel", "sends", "()V"⟩, 40), (⟨"AcidCityModel", "hasWatch", "(I)Z"⟩, 40), (⟨"AcidCityModel", "mayBirth", "()Z"⟩, 40), (⟨"AcidCityModel", "parse", "()I"⟩, 40), (⟨"AcidCityModel", "next", "()V"⟩, 40), (⟨"AcidCityModel", "isLetter", "(I)Z"⟩, 40), (⟨"AcidCityModel", "isDigit", "(I)Z"⟩, 40), (⟨"AcidCityModel", "key", "()I"⟩, 40), (⟨"AcidCityModel", "isWordAt", "(IIIII)Z"⟩, 40), (⟨"AcidCityModel", "either", "(I)Z"⟩, 40), (⟨"AcidCityModel", "both", "(I)Z"⟩, 40), (⟨"AcidCityModel", "test", "(I)Z"⟩, 40), (⟨"AcidCityModel", "sum", "(I)Z"⟩, 40), (⟨"AcidCityModel", "term", "(I)Z"⟩, 40), (⟨"AcidCityModel", "part0", "(I)Z"⟩, 40), (⟨"AcidCityModel", "step", "(II)V"⟩, 40)]
theorem lw_r7 : ∀ q ∈ lw_privs_7, lw_okq q := List.forall_mem_cons.mpr ⟨lw_p96, List.forall_mem_cons.mpr ⟨lw_p97, List.forall_mem_cons.mpr ⟨lw_p98, List.forall_mem_cons.mpr ⟨lw_p99, List.forall_mem_cons.mpr ⟨lw_p100, List.forall_mem_cons.mpr ⟨lw_p101, List.forall_mem_cons.mpr ⟨lw_p102, List.forall_mem_cons.mpr ⟨lw_p103, List.forall_mem_cons.mpr ⟨lw_p104, List.forall_mem_cons.mpr ⟨lw_p105, List.forall_mem_cons.mpr ⟨lw_p106, List.forall_mem_cons.mpr ⟨lw_p107, List.forall_mem_cons.mpr ⟨lw_p108, List.forall_mem_cons.mpr ⟨lw_p109, List.forall_mem_cons.mpr ⟨lw_p110, List.forall_mem_cons.mpr ⟨lw_p111, fun _ h => absurd h List.not_mem_nil⟩⟩⟩⟩⟩⟩⟩⟩⟩⟩⟩⟩⟩⟩⟩⟩
theorem lw_p112 : lw_okq (⟨"AcidCityModel", "isSign", "(I)Z"⟩, 40) := ⟨⟨by decide +kernel, by decide +kernel⟩, List.mem_of_getElem? (i := 1651) (by decide +kernel), List.mem_of_getElem? (i := 2165) (by decide +kernel), List.mem_of_getElem? (i := 2166) (by decide +kernel)⟩
theorem lw_p113 : lw_okq (⟨"AcidCityModel", "isText", "(I)Z"⟩, 40) := ⟨⟨by decide +kernel, by decide +kernel⟩, List.mem_of_getElem? (i := 1651) (by decide +kernel), List.mem_of_getElem? (i := 2173) (by decide +kernel), List.mem_of_getElem? (i := 2174) (by decide +kernel)⟩
theorem lw_p114 : lw_okq (⟨"AcidCityModel", "mayVote", "(I)Z"⟩, 40) := ⟨⟨by decide +kernel, by decide +kernel⟩, List.mem_of_getElem? (i := 1651) (by decide +kernel), List.mem_of_getElem? (i := 2185) (by decide +kernel), List.mem_of_getElem? (i := 2186) (by decide +kernel)⟩
theorem lw_p115 : lw_okq (⟨"AcidCityModel", "findShed", "()I"⟩, 40) := ⟨⟨by decide +kernel, by decide +kernel⟩, List.mem_of_getElem? (i := 1651) (by decide +kernel), List.mem_of_getElem? (i := 2209) (by decide +kernel), List.mem_of_getElem? (i := 2210) (by decide +kernel)⟩
theorem lw_p116 : lw_okq (⟨"AcidCityModel", "worthOf", "(II)I"⟩, 40) := ⟨⟨by decide +kernel, by decide +kernel⟩, List.mem_of_getElem? (i := 1651) (by decide +kernel), List.mem_of_getElem? (i := 2213) (by decide +kernel), List.mem_of_getElem? (i := 2214) (by decide +kernel)⟩
theorem lw_p117 : lw_okq (⟨"AcidCityModel", "readOf", "(II)I"⟩, 40) := ⟨⟨by decide +kernel, by decide +kernel⟩, List.mem_of_getElem? (i := 1651) (by decide +kernel), List.mem_of_getElem? (i := 2243) (by decide +kernel), List.mem_of_getElem? (i := 2244) (by decide +kernel)⟩
theorem lw_p118 : lw_okq (⟨"AcidCityModel", "isNumber", "(II)Z"⟩, 40) := ⟨⟨by decide +kernel, by decide +kernel⟩, List.mem_of_getElem? (i := 1651) (by decide +kernel), List.mem_of_getElem? (i := 2247) (by decide +kernel), List.mem_of_getElem? (i := 2248) (by decide +kernel)⟩
theorem lw_p119 : lw_okq (⟨"AcidCityModel", "left", "()I"⟩, 40) := ⟨⟨by decide +kernel, by decide +kernel⟩, List.mem_of_getElem? (i := 1651) (by decide +kernel), List.mem_of_getElem? (i := 2276) (by decide +kernel), List.mem_of_getElem? (i := 2277) (by decide +kernel)⟩
theorem lw_p120 : lw_okq (⟨"AcidCityModel", "alike", "(II)I"⟩, 40) := ⟨⟨by decide +kernel, by decide +kernel⟩, List.mem_of_getElem? (i := 1651) (by decide +kernel), List.mem_of_getElem? (i := 2287) (by decide +kernel), List.mem_of_getElem? (i := 2288) (by decide +kernel)⟩
theorem lw_p121 : lw_okq (⟨"AcidCityModel", "rounds", "(IIII)I"⟩, 40) := ⟨⟨by decide +kernel, by decide +kernel⟩, List.mem_of_getElem? (i := 1651) (by decide +kernel), List.mem_of_getElem? (i := 2300) (by decide +kernel), List.mem_of_getElem? (i := 2301) (by decide +kernel)⟩
theorem lw_p122 : lw_okq (⟨"AcidCityModel", "fitters", "()I"⟩, 40) := ⟨⟨by decide +kernel, by decide +kernel⟩, List.mem_of_getElem? (i := 1651) (by decide +kernel), List.mem_of_getElem? (i := 2304) (by decide +kernel), List.mem_of_getElem? (i := 2305) (by decide +kernel)⟩
theorem lw_p123 : lw_okq (⟨"AcidCityModel", "nextSkin", "(III)I"⟩, 40) := ⟨⟨by decide +kernel, by decide +kernel⟩, List.mem_of_getElem? (i := 1651) (by decide +kernel), List.mem_of_getElem? (i := 2308) (by decide +kernel), List.mem_of_getElem? (i := 2309) (by decide +kernel)⟩
theorem lw_p124 : lw_okq (⟨"AcidCityModel", "isSkin", "(I)Z"⟩, 40) := ⟨⟨by decide +kernel, by decide +kernel⟩, List.mem_of_getElem? (i := 1651) (by decide +kernel), List.mem_of_getElem? (i := 2312) (by decide +kernel), List.mem_of_getElem? (i := 2313) (by decide +kernel)⟩
theorem lw_p125 : lw_okq (⟨"AcidCityModel", "fallsIn", "(IIII)I"⟩, 40) := ⟨⟨by decide +kernel, by decide +kernel⟩, List.mem_of_getElem? (i := 1651) (by decide +kernel), List.mem_of_getElem? (i := 2316) (by decide +kernel), List.mem_of_getElem? (i := 2317) (by decide +kernel)⟩
theorem lw_p126 : lw_okq (⟨"AcidCityModel", "weathers", "(I)V"⟩, 40) := ⟨⟨by decide +kernel, by decide +kernel⟩, List.mem_of_getElem? (i := 1651) (by decide +kernel), List.mem_of_getElem? (i := 2320) (by decide +kernel), List.mem_of_getElem? (i := 2321) (by decide +kernel)⟩
theorem lw_p127 : lw_okq (⟨"AcidCityModel", "findLoads", "(II)I"⟩, 40) := ⟨⟨by decide +kernel, by decide +kernel⟩, List.mem_of_getElem? (i := 1651) (by decide +kernel), List.mem_of_getElem? (i := 2346) (by decide +kernel), List.mem_of_getElem? (i := 2347) (by decide +kernel)⟩
def lw_privs_8 : List (MethodName × Nat) := [(⟨"AcidCityModel", "isSign", "(I)Z"⟩, 40), (⟨"AcidCityModel", "isText", "(I)Z"⟩, 40), (⟨"AcidCityModel", "mayVote", "(I)Z"⟩, 40), (⟨"AcidCityModel", "findShed", "()I"⟩, 40), (⟨"AcidCityModel", "worthOf", "(II)I"⟩, 40), (⟨"AcidCityModel", "readOf", "(II)I"⟩, 40), (⟨"AcidCityModel", "isNumber", "(II)Z"⟩, 40), (⟨"AcidCityModel", "left", "()I"⟩, 40), (⟨"AcidCityModel", "alike", "(II)I"⟩, 40), (⟨"AcidCityModel", "rounds", "(IIII)I"⟩, 40), (⟨"AcidCityModel", "fitters", "()I"⟩, 40), (⟨"AcidCityModel", "nextSkin", "(III)I"⟩, 40), (⟨"AcidCityModel", "isSkin", "(I)Z"⟩, 40), (⟨"AcidCityModel", "fallsIn", "(IIII)I"⟩, 40), (⟨"AcidCityModel", "weathers", "(I)V"⟩, 40), (⟨"AcidCityModel", "findLoads", "(II)I"⟩, 40)]
theorem lw_r8 : ∀ q ∈ lw_privs_8, lw_okq q := List.forall_mem_cons.mpr ⟨lw_p112, List.forall_mem_cons.mpr ⟨lw_p113, List.forall_mem_cons.mpr ⟨lw_p114, List.forall_mem_cons.mpr ⟨lw_p115, List.forall_mem_cons.mpr ⟨lw_p116, List.forall_mem_cons.mpr ⟨lw_p117, List.forall_mem_cons.mpr ⟨lw_p118, List.forall_mem_cons.mpr ⟨lw_p119, List.forall_mem_cons.mpr ⟨lw_p120, List.forall_mem_cons.mpr ⟨lw_p121, List.forall_mem_cons.mpr ⟨lw_p122, List.forall_mem_cons.mpr ⟨lw_p123, List.forall_mem_cons.mpr ⟨lw_p124, List.forall_mem_cons.mpr ⟨lw_p125, List.forall_mem_cons.mpr ⟨lw_p126, List.forall_mem_cons.mpr ⟨lw_p127, fun _ h => absurd h List.not_mem_nil⟩⟩⟩⟩⟩⟩⟩⟩⟩⟩⟩⟩⟩⟩⟩⟩
theorem lw_p128 : lw_okq (⟨"AcidCityModel", "harmBy", "(III)I"⟩, 40) := ⟨⟨by decide +kernel, by decide +kernel⟩, List.mem_of_getElem? (i := 1651) (by decide +kernel), List.mem_of_getElem? (i := 2351) (by decide +kernel), List.mem_of_getElem? (i := 2352) (by decide +kernel)⟩
theorem lw_p129 : lw_okq (⟨"AcidCityModel", "loadAt", "(II)I"⟩, 40) := ⟨⟨by decide +kernel, by decide +kernel⟩, List.mem_of_getElem? (i := 1651) (by decide +kernel), List.mem_of_getElem? (i := 2359) (by decide +kernel), List.mem_of_getElem? (i := 2360) (by decide +kernel)⟩
theorem lw_p130 : lw_okq (⟨"AcidCityModel", "findOrder", "(II)I"⟩, 40) := ⟨⟨by decide +kernel, by decide +kernel⟩, List.mem_of_getElem? (i := 1651) (by decide +kernel), List.mem_of_getElem? (i := 2396) (by decide +kernel), List.mem_of_getElem? (i := 2397) (by decide +kernel)⟩
theorem lw_p131 : lw_okq (⟨"AcidCityModel", "seek", "(IIIII)V"⟩, 40) := ⟨⟨by decide +kernel, by decide +kernel⟩, List.mem_of_getElem? (i := 1651) (by decide +kernel), List.mem_of_getElem? (i := 2400) (by decide +kernel), List.mem_of_getElem? (i := 2401) (by decide +kernel)⟩
theorem lw_p132 : lw_okq (⟨"AcidCityModel", "rowsOfLoads", "(II)I"⟩, 40) := ⟨⟨by decide +kernel, by decide +kernel⟩, List.mem_of_getElem? (i := 1651) (by decide +kernel), List.mem_of_getElem? (i := 2417) (by decide +kernel), List.mem_of_getElem? (i := 2418) (by decide +kernel)⟩
theorem lw_p133 : lw_okq (⟨"AcidCityModel", "dueIs", "(II)V"⟩, 40) := ⟨⟨by decide +kernel, by decide +kernel⟩, List.mem_of_getElem? (i := 1651) (by decide +kernel), List.mem_of_getElem? (i := 2421) (by decide +kernel), List.mem_of_getElem? (i := 2422) (by decide +kernel)⟩
theorem lw_p134 : lw_okq (⟨"AcidCityModel", "rowsOfOrder", "(I)I"⟩, 40) := ⟨⟨by decide +kernel, by decide +kernel⟩, List.mem_of_getElem? (i := 1651) (by decide +kernel), List.mem_of_getElem? (i := 2425) (by decide +kernel), List.mem_of_getElem? (i := 2426) (by decide +kernel)⟩
theorem lw_p135 : lw_okq (⟨"AcidCityModel", "rowsOfDay", "(I)I"⟩, 40) := ⟨⟨by decide +kernel, by decide +kernel⟩, List.mem_of_getElem? (i := 1651) (by decide +kernel), List.mem_of_getElem? (i := 2429) (by decide +kernel), List.mem_of_getElem? (i := 2430) (by decide +kernel)⟩
theorem lw_p136 : lw_okq (⟨"AcidCityModel", "oxygen", "()I"⟩, 40) := ⟨⟨by decide +kernel, by decide +kernel⟩, List.mem_of_getElem? (i := 1651) (by decide +kernel), List.mem_of_getElem? (i := 2433) (by decide +kernel), List.mem_of_getElem? (i := 2434) (by decide +kernel)⟩
def lw_privs_9 : List (MethodName × Nat) := [(⟨"AcidCityModel", "harmBy", "(III)I"⟩, 40), (⟨"AcidCityModel", "loadAt", "(II)I"⟩, 40), (⟨"AcidCityModel", "findOrder", "(II)I"⟩, 40), (⟨"AcidCityModel", "seek", "(IIIII)V"⟩, 40), (⟨"AcidCityModel", "rowsOfLoads", "(II)I"⟩, 40), (⟨"AcidCityModel", "dueIs", "(II)V"⟩, 40), (⟨"AcidCityModel", "rowsOfOrder", "(I)I"⟩, 40), (⟨"AcidCityModel", "rowsOfDay", "(I)I"⟩, 40), (⟨"AcidCityModel", "oxygen", "()I"⟩, 40)]
theorem lw_r9 : ∀ q ∈ lw_privs_9, lw_okq q := List.forall_mem_cons.mpr ⟨lw_p128, List.forall_mem_cons.mpr ⟨lw_p129, List.forall_mem_cons.mpr ⟨lw_p130, List.forall_mem_cons.mpr ⟨lw_p131, List.forall_mem_cons.mpr ⟨lw_p132, List.forall_mem_cons.mpr ⟨lw_p133, List.forall_mem_cons.mpr ⟨lw_p134, List.forall_mem_cons.mpr ⟨lw_p135, List.forall_mem_cons.mpr ⟨lw_p136, fun _ h => absurd h List.not_mem_nil⟩⟩⟩⟩⟩⟩⟩⟩⟩
def lw_privs : List (MethodName × Nat) := lw_privs_1 ++ (lw_privs_2 ++ (lw_privs_3 ++ (lw_privs_4 ++ (lw_privs_5 ++ (lw_privs_6 ++ (lw_privs_7 ++ (lw_privs_8 ++ (lw_privs_9))))))))
def lw_tbl : List Cond := k2_sels lw_privs ++ tables_1
theorem lw_privs_ok : ∀ q ∈ lw_privs, lw_okq q := by
  show ∀ q ∈ lw_privs_1 ++ (lw_privs_2 ++ (lw_privs_3 ++ (lw_privs_4 ++ (lw_privs_5 ++ (lw_privs_6 ++ (lw_privs_7 ++ (lw_privs_8 ++ (lw_privs_9)))))))), lw_okq q
  exact List.forall_mem_append.mpr ⟨lw_r1, List.forall_mem_append.mpr ⟨lw_r2, List.forall_mem_append.mpr ⟨lw_r3, List.forall_mem_append.mpr ⟨lw_r4, List.forall_mem_append.mpr ⟨lw_r5, List.forall_mem_append.mpr ⟨lw_r6, List.forall_mem_append.mpr ⟨lw_r7, List.forall_mem_append.mpr ⟨lw_r8, lw_r9⟩⟩⟩⟩⟩⟩⟩⟩

/-! names of the classes, out of NAMES.whole -/
def RX0 : String := "AcidCity$Cells"
def TX0 : u_T := fun k => match k with
  | 0 => ("AcidCity$Cells", "volume", "[I", true)
  | 1 => ("AcidCity$Cells", "hole", "[I", true)
  | 2 => ("AcidCity$Cells", "air", "[[I", true)
  | 3 => ("AcidCity$Cells", "out", "[[I", true)
  | 4 => ("AcidCity$Cells", "heard", "[[I", true)
  | 5 => ("AcidCity$Cells", "many", "I", false)
  | 6 => ("AcidCity$Cells", "one", "[I", true)
  | 7 => ("AcidCity$Cells", "other", "[I", true)
  | 8 => ("AcidCity$Cells", "width", "[I", true)
  | 9 => ("AcidCity$Cells", "open", "[I", true)
  | 10 => ("AcidCity$Cells", "locks", "I", false)
  | 11 => ("AcidCity$Cells", "report", "[[I", true)
  | _ => ("AcidCity$Cells", "reports", "I", false)
def tyX0 : Nat → FieldType := fun k => match k with
  | 0 => .array .int
  | 1 => .array .int
  | 2 => .array (.array .int)
  | 3 => .array (.array .int)
  | 4 => .array (.array .int)
  | 5 => .int
  | 6 => .array .int
  | 7 => .array .int
  | 8 => .array .int
  | 9 => .array .int
  | 10 => .int
  | 11 => .array (.array .int)
  | _ => .int
theorem nmX0 : ∀ a, a < 13 → ∀ b, b < 13 → a ≠ b → (TX0 a).2.1 ≠ (TX0 b).2.1 := by decide +kernel
theorem tyX0_ok : ∀ k, k < 13 → parseFieldDescriptor (TX0 k).2.2.1 = some (tyX0 k) := by decide +kernel
def RX1 : String := "AcidCity$Charter"
def TX1 : u_T := fun k => match k with
  | 0 => ("AcidCity$Charter", "key", "[I", true)
  | 1 => ("AcidCity$Charter", "force", "[I", true)
  | 2 => ("AcidCity$Charter", "struck", "[I", true)
  | 3 => ("AcidCity$Charter", "leaves", "[I", true)
  | 4 => ("AcidCity$Charter", "length", "[I", true)
  | 5 => ("AcidCity$Charter", "code", "[[I", true)
  | 6 => ("AcidCity$Charter", "texts", "I", false)
  | 7 => ("AcidCity$Charter", "voted", "I", false)
  | 8 => ("AcidCity$Charter", "striking", "Z", false)
  | 9 => ("AcidCity$Charter", "said", "[I", true)
  | 10 => ("AcidCity$Charter", "names", "[I", true)
  | 11 => ("AcidCity$Charter", "stack", "[I", true)
  | 12 => ("AcidCity$Charter", "parts", "[I", true)
  | _ => ("AcidCity$Charter", "ranks", "[I", true)
def tyX1 : Nat → FieldType := fun k => match k with
  | 0 => .array .int
  | 1 => .array .int
  | 2 => .array .int
  | 3 => .array .int
  | 4 => .array .int
  | 5 => .array (.array .int)
  | 6 => .int
  | 7 => .int
  | 8 => .boolean
  | 9 => .array .int
  | 10 => .array .int
  | 11 => .array .int
  | 12 => .array .int
  | _ => .array .int
theorem nmX1 : ∀ a, a < 14 → ∀ b, b < 14 → a ≠ b → (TX1 a).2.1 ≠ (TX1 b).2.1 := by decide +kernel
theorem tyX1_ok : ∀ k, k < 14 → parseFieldDescriptor (TX1 k).2.2.1 = some (tyX1 k) := by decide +kernel
def RX2 : String := "AcidCity$City"
def TX2 : u_T := fun k => match k with
  | 0 => ("AcidCity$City", "cells", "LAcidCity$Cells;", true)
  | 1 => ("AcidCity$City", "works", "LAcidCity$Works;", true)
  | 2 => ("AcidCity$City", "people", "LAcidCity$People;", true)
  | 3 => ("AcidCity$City", "stores", "[I", true)
  | 4 => ("AcidCity$City", "tables", "[[I", true)
  | 5 => ("AcidCity$City", "height", "I", false)
  | 6 => ("AcidCity$City", "phase", "I", false)
  | 7 => ("AcidCity$City", "round", "I", false)
  | 8 => ("AcidCity$City", "late", "I", false)
  | _ => ("AcidCity$City", "minute", "I", false)
def tyX2 : Nat → FieldType := fun k => match k with
  | 0 => .object "AcidCity$Cells"
  | 1 => .object "AcidCity$Works"
  | 2 => .object "AcidCity$People"
  | 3 => .array .int
  | 4 => .array (.array .int)
  | 5 => .int
  | 6 => .int
  | 7 => .int
  | 8 => .int
  | _ => .int
theorem nmX2 : ∀ a, a < 10 → ∀ b, b < 10 → a ≠ b → (TX2 a).2.1 ≠ (TX2 b).2.1 := by decide +kernel
theorem tyX2_ok : ∀ k, k < 10 → parseFieldDescriptor (TX2 k).2.2.1 = some (tyX2 k) := by decide +kernel
def RX3 : String := "AcidCity$Dark"
def TX3 : u_T := fun k => match k with
  | 0 => ("AcidCity$Dark", "harm", "[I", true)
  | _ => ("AcidCity$Dark", "chosen", "[J", true)
def tyX3 : Nat → FieldType := fun k => match k with
  | 0 => .array .int
  | _ => .array .long
theorem nmX3 : ∀ a, a < 2 → ∀ b, b < 2 → a ≠ b → (TX3 a).2.1 ≠ (TX3 b).2.1 := by decide +kernel
theorem tyX3_ok : ∀ k, k < 2 → parseFieldDescriptor (TX3 k).2.2.1 = some (tyX3 k) := by decide +kernel
def RX4 : String := "AcidCity$Desk"
def TX4 : u_T := fun k => match k with
  | 0 => ("AcidCity$Desk", "shown", "[[I", true)
  | 1 => ("AcidCity$Desk", "seen", "[I", true)
  | 2 => ("AcidCity$Desk", "drops", "[I", true)
  | 3 => ("AcidCity$Desk", "taken", "[I", true)
  | 4 => ("AcidCity$Desk", "harms", "[[I", true)
  | 5 => ("AcidCity$Desk", "orbit", "[I", true)
  | 6 => ("AcidCity$Desk", "begin", "[I", true)
  | 7 => ("AcidCity$Desk", "open", "[I", true)
  | 8 => ("AcidCity$Desk", "ships", "I", false)
  | 9 => ("AcidCity$Desk", "mass", "[I", true)
  | 10 => ("AcidCity$Desk", "worth", "[I", true)
  | 11 => ("AcidCity$Desk", "lots", "I", false)
  | 12 => ("AcidCity$Desk", "years", "[I", true)
  | 13 => ("AcidCity$Desk", "more", "[I", true)
  | 14 => ("AcidCity$Desk", "ahead", "[I", true)
  | _ => ("AcidCity$Desk", "builds", "I", false)
def tyX4 : Nat → FieldType := fun k => match k with
  | 0 => .array (.array .int)
  | 1 => .array .int
  | 2 => .array .int
  | 3 => .array .int
  | 4 => .array (.array .int)
  | 5 => .array .int
  | 6 => .array .int
  | 7 => .array .int
  | 8 => .int
  | 9 => .array .int
  | 10 => .array .int
  | 11 => .int
  | 12 => .array .int
  | 13 => .array .int
  | 14 => .array .int
  | _ => .int
theorem nmX4 : ∀ a, a < 16 → ∀ b, b < 16 → a ≠ b → (TX4 a).2.1 ≠ (TX4 b).2.1 := by decide +kernel
theorem tyX4_ok : ∀ k, k < 16 → parseFieldDescriptor (TX4 k).2.2.1 = some (tyX4 k) := by decide +kernel
def RX5 : String := "AcidCity$Gauges"
def TX5 : u_T := fun k => match k with
  | 0 => ("AcidCity$Gauges", "sort", "[I", true)
  | 1 => ("AcidCity$Gauges", "size", "[I", true)
  | _ => ("AcidCity$Gauges", "row", "[[I", true)
def tyX5 : Nat → FieldType := fun k => match k with
  | 0 => .array .int
  | 1 => .array .int
  | _ => .array (.array .int)
theorem nmX5 : ∀ a, a < 3 → ∀ b, b < 3 → a ≠ b → (TX5 a).2.1 ≠ (TX5 b).2.1 := by decide +kernel
theorem tyX5_ok : ∀ k, k < 3 → parseFieldDescriptor (TX5 k).2.2.1 = some (tyX5 k) := by decide +kernel
def RX6 : String := "AcidCity$Order"
def TX6 : u_T := fun k => match k with
  | 0 => ("AcidCity$Order", "best", "[I", true)
  | 1 => ("AcidCity$Order", "row", "[I", true)
  | 2 => ("AcidCity$Order", "span", "I", false)
  | 3 => ("AcidCity$Order", "triesLeft", "I", false)
  | _ => ("AcidCity$Order", "most", "I", false)
def tyX6 : Nat → FieldType := fun k => match k with
  | 0 => .array .int
  | 1 => .array .int
  | 2 => .int
  | 3 => .int
  | _ => .int
theorem nmX6 : ∀ a, a < 5 → ∀ b, b < 5 → a ≠ b → (TX6 a).2.1 ≠ (TX6 b).2.1 := by decide +kernel
theorem tyX6_ok : ∀ k, k < 5 → parseFieldDescriptor (TX6 k).2.2.1 = some (tyX6 k) := by decide +kernel
def RX7 : String := "AcidCity$People"
def TX7 : u_T := fun k => match k with
  | 0 => ("AcidCity$People", "age", "[I", true)
  | 1 => ("AcidCity$People", "craft", "[I", true)
  | 2 => ("AcidCity$People", "home", "[I", true)
  | 3 => ("AcidCity$People", "sick", "[I", true)
  | _ => ("AcidCity$People", "many", "I", false)
def tyX7 : Nat → FieldType := fun k => match k with
  | 0 => .array .int
  | 1 => .array .int
  | 2 => .array .int
  | 3 => .array .int
  | _ => .int
theorem nmX7 : ∀ a, a < 5 → ∀ b, b < 5 → a ≠ b → (TX7 a).2.1 ≠ (TX7 b).2.1 := by decide +kernel
theorem tyX7_ok : ∀ k, k < 5 → parseFieldDescriptor (TX7 k).2.2.1 = some (tyX7 k) := by decide +kernel
def RX8 : String := "AcidCity$Rounds"
def TX8 : u_T := fun k => match k with
  | 0 => ("AcidCity$Rounds", "firstLack", "I", false)
  | 1 => ("AcidCity$Rounds", "sewnThen", "I", false)
  | 2 => ("AcidCity$Rounds", "layers", "[I", true)
  | 3 => ("AcidCity$Rounds", "worn", "[I", true)
  | 4 => ("AcidCity$Rounds", "falls", "[I", true)
  | 5 => ("AcidCity$Rounds", "wearAhead", "[I", true)
  | 6 => ("AcidCity$Rounds", "hours", "I", false)
  | _ => ("AcidCity$Rounds", "least", "I", false)
def tyX8 : Nat → FieldType := fun k => match k with
  | 0 => .int
  | 1 => .int
  | 2 => .array .int
  | 3 => .array .int
  | 4 => .array .int
  | 5 => .array .int
  | 6 => .int
  | _ => .int
theorem nmX8 : ∀ a, a < 8 → ∀ b, b < 8 → a ≠ b → (TX8 a).2.1 ≠ (TX8 b).2.1 := by decide +kernel
theorem tyX8_ok : ∀ k, k < 8 → parseFieldDescriptor (TX8 k).2.2.1 = some (tyX8 k) := by decide +kernel
def RX9 : String := "AcidCity$Tape"
def TX9 : u_T := fun k => match k with
  | 0 => ("AcidCity$Tape", "bytes", "[I", true)
  | 1 => ("AcidCity$Tape", "length", "I", false)
  | 2 => ("AcidCity$Tape", "key", "I", false)
  | 3 => ("AcidCity$Tape", "code", "[I", true)
  | 4 => ("AcidCity$Tape", "codes", "I", false)
  | 5 => ("AcidCity$Tape", "leaves", "I", false)
  | 6 => ("AcidCity$Tape", "pending", "[I", true)
  | 7 => ("AcidCity$Tape", "pendings", "I", false)
  | 8 => ("AcidCity$Tape", "brackets", "I", false)
  | 9 => ("AcidCity$Tape", "nots", "I", false)
  | _ => ("AcidCity$Tape", "partDue", "Z", false)
def tyX9 : Nat → FieldType := fun k => match k with
  | 0 => .array .int
  | 1 => .int
  | 2 => .int
  | 3 => .array .int
  | 4 => .int
  | 5 => .int
  | 6 => .array .int
  | 7 => .int
  | 8 => .int
  | 9 => .int
  | _ => .boolean
theorem nmX9 : ∀ a, a < 11 → ∀ b, b < 11 → a ≠ b → (TX9 a).2.1 ≠ (TX9 b).2.1 := by decide +kernel
theorem tyX9_ok : ∀ k, k < 11 → parseFieldDescriptor (TX9 k).2.2.1 = some (tyX9 k) := by decide +kernel
def RX10 : String := "AcidCity$Works"
def TX10 : u_T := fun k => match k with
  | 0 => ("AcidCity$Works", "kind", "[I", true)
  | 1 => ("AcidCity$Works", "place", "[I", true)
  | 2 => ("AcidCity$Works", "mass", "[I", true)
  | 3 => ("AcidCity$Works", "on", "[I", true)
  | 4 => ("AcidCity$Works", "foul", "[I", true)
  | 5 => ("AcidCity$Works", "fouling", "[I", true)
  | 6 => ("AcidCity$Works", "hidden", "[I", true)
  | 7 => ("AcidCity$Works", "a", "[I", true)
  | 8 => ("AcidCity$Works", "b", "[I", true)
  | 9 => ("AcidCity$Works", "worn", "[I", true)
  | 10 => ("AcidCity$Works", "gone", "[I", true)
  | 11 => ("AcidCity$Works", "level", "[I", true)
  | 12 => ("AcidCity$Works", "heat", "[I", true)
  | _ => ("AcidCity$Works", "many", "I", false)
def tyX10 : Nat → FieldType := fun k => match k with
  | 0 => .array .int
  | 1 => .array .int
  | 2 => .array .int
  | 3 => .array .int
  | 4 => .array .int
  | 5 => .array .int
  | 6 => .array .int
  | 7 => .array .int
  | 8 => .array .int
  | 9 => .array .int
  | 10 => .array .int
  | 11 => .array .int
  | 12 => .array .int
  | _ => .int
theorem nmX10 : ∀ a, a < 14 → ∀ b, b < 14 → a ≠ b → (TX10 a).2.1 ≠ (TX10 b).2.1 := by decide +kernel
theorem tyX10_ok : ∀ k, k < 14 → parseFieldDescriptor (TX10 k).2.2.1 = some (tyX10 k) := by decide +kernel
def RX11 : String := "AcidCity"
def TX11 : u_T := fun k => match k with
  | 0 => ("AcidCity", "now", "LAcidCity$City;", true)
  | 1 => ("AcidCity", "law", "LAcidCity$Charter;", true)
  | 2 => ("AcidCity", "desk", "LAcidCity$Desk;", true)
  | 3 => ("AcidCity", "keptNow", "LAcidCity$City;", true)
  | 4 => ("AcidCity", "keptLaw", "LAcidCity$Charter;", true)
  | 5 => ("AcidCity", "keptDesk", "LAcidCity$Desk;", true)
  | 6 => ("AcidCity", "kept", "Z", false)
  | 7 => ("AcidCity", "foretold", "LAcidCity$City;", true)
  | 8 => ("AcidCity", "tape", "LAcidCity$Tape;", true)
  | 9 => ("AcidCity", "gauges", "LAcidCity$Gauges;", true)
  | 10 => ("AcidCity", "rounds", "LAcidCity$Rounds;", true)
  | 11 => ("AcidCity", "night", "LAcidCity$Dark;", true)
  | 12 => ("AcidCity", "yard", "LAcidCity$Order;", true)
  | 13 => ("AcidCity", "waiting", "[I", true)
  | 14 => ("AcidCity", "waits", "I", false)
  | _ => ("AcidCity", "due", "[I", true)
def tyX11 : Nat → FieldType := fun k => match k with
  | 0 => .object "AcidCity$City"
  | 1 => .object "AcidCity$Charter"
  | 2 => .object "AcidCity$Desk"
  | 3 => .object "AcidCity$City"
  | 4 => .object "AcidCity$Charter"
  | 5 => .object "AcidCity$Desk"
  | 6 => .boolean
  | 7 => .object "AcidCity$City"
  | 8 => .object "AcidCity$Tape"
  | 9 => .object "AcidCity$Gauges"
  | 10 => .object "AcidCity$Rounds"
  | 11 => .object "AcidCity$Dark"
  | 12 => .object "AcidCity$Order"
  | 13 => .array .int
  | 14 => .int
  | _ => .array .int
theorem nmX11 : ∀ a, a < 16 → ∀ b, b < 16 → a ≠ b → (TX11 a).2.1 ≠ (TX11 b).2.1 := by decide +kernel
theorem tyX11_ok : ∀ k, k < 16 → parseFieldDescriptor (TX11 k).2.2.1 = some (tyX11 k) := by decide +kernel
def RX12 : String := "AcidCityModel"
def TX12 : u_T := fun k => match k with
  | 0 => ("AcidCityModel", "s", "[I", true)
  | 1 => ("AcidCityModel", "image", "[I", true)
  | 2 => ("AcidCityModel", "aside", "[I", true)
  | 3 => ("AcidCityModel", "hasImage", "Z", false)
  | 4 => ("AcidCityModel", "gSort", "[I", true)
  | 5 => ("AcidCityModel", "gSize", "[I", true)
  | 6 => ("AcidCityModel", "gNumber", "[I", true)
  | 7 => ("AcidCityModel", "tape", "[I", true)
  | 8 => ("AcidCityModel", "taped", "I", false)
  | 9 => ("AcidCityModel", "begin", "I", false)
  | 10 => ("AcidCityModel", "behind", "I", false)
  | 11 => ("AcidCityModel", "token", "I", false)
  | 12 => ("AcidCityModel", "number", "I", false)
  | 13 => ("AcidCityModel", "letter", "I", false)
  | 14 => ("AcidCityModel", "deep", "I", false)
  | 15 => ("AcidCityModel", "turned", "I", false)
  | 16 => ("AcidCityModel", "laid", "I", false)
  | 17 => ("AcidCityModel", "laidAt", "I", false)
  | 18 => ("AcidCityModel", "said", "I", false)
  | 19 => ("AcidCityModel", "named", "[I", true)
  | 20 => ("AcidCityModel", "pile", "[I", true)
  | 21 => ("AcidCityModel", "shares", "[I", true)
  | 22 => ("AcidCityModel", "shedRow", "[I", true)
  | 23 => ("AcidCityModel", "shedWorth", "[I", true)
  | 24 => ("AcidCityModel", "carried", "[I", true)
  | 25 => ("AcidCityModel", "layers", "[I", true)
  | 26 => ("AcidCityModel", "worn", "[I", true)
  | 27 => ("AcidCityModel", "layersLeft", "I", false)
  | 28 => ("AcidCityModel", "wornLeft", "I", false)
  | 29 => ("AcidCityModel", "sewn", "I", false)
  | 30 => ("AcidCityModel", "harms", "[I", true)
  | 31 => ("AcidCityModel", "built", "[I", true)
  | 32 => ("AcidCityModel", "bestBuilt", "[I", true)
  | 33 => ("AcidCityModel", "bestSum", "I", false)
  | 34 => ("AcidCityModel", "triesLeft", "I", false)
  | 35 => ("AcidCityModel", "isSpent", "Z", false)
  | 36 => ("AcidCityModel", "waits", "[I", true)
  | 37 => ("AcidCityModel", "waiting", "I", false)
  | 38 => ("AcidCityModel", "due", "[I", true)
  | _ => ("AcidCityModel", "dues", "I", false)
def tyX12 : Nat → FieldType := fun k => match k with
  | 0 => .array .int
  | 1 => .array .int
  | 2 => .array .int
  | 3 => .boolean
  | 4 => .array .int
  | 5 => .array .int
  | 6 => .array .int
  | 7 => .array .int
  | 8 => .int
  | 9 => .int
  | 10 => .int
  | 11 => .int
  | 12 => .int
  | 13 => .int
  | 14 => .int
  | 15 => .int
  | 16 => .int
  | 17 => .int
  | 18 => .int
  | 19 => .array .int
  | 20 => .array .int
  | 21 => .array .int
  | 22 => .array .int
  | 23 => .array .int
  | 24 => .array .int
  | 25 => .array .int
  | 26 => .array .int
  | 27 => .int
  | 28 => .int
  | 29 => .int
  | 30 => .array .int
  | 31 => .array .int
  | 32 => .array .int
  | 33 => .int
  | 34 => .int
  | 35 => .boolean
  | 36 => .array .int
  | 37 => .int
  | 38 => .array .int
  | _ => .int
theorem nmX12 : ∀ a, a < 40 → ∀ b, b < 40 → a ≠ b → (TX12 a).2.1 ≠ (TX12 b).2.1 := by decide +kernel
theorem tyX12_ok : ∀ k, k < 40 → parseFieldDescriptor (TX12 k).2.2.1 = some (tyX12 k) := by decide +kernel
abbrev vwCl : List vw_C := [(RX0, TX0, 13), (RX1, TX1, 14), (RX2, TX2, 10), (RX3, TX3, 2), (RX4, TX4, 16), (RX5, TX5, 3), (RX6, TX6, 5), (RX7, TX7, 5), (RX8, TX8, 8), (RX9, TX9, 11), (RX10, TX10, 14), (RX11, TX11, 16), (RX12, TX12, 40)]
def xTc : List (List Cond) := [k2_sels lw_privs_1, k2_sels lw_privs_2, k2_sels lw_privs_3, k2_sels lw_privs_4, k2_sels lw_privs_5, k2_sels lw_privs_6, k2_sels lw_privs_7, k2_sels lw_privs_8, k2_sels lw_privs_9, tables_1_1, tables_1_2, tables_1_3, tables_1_4, tables_1_5, tables_1_6, tables_1_7, tables_1_8, tables_1_9, tables_1_10, tables_1_11]
def xTys : List FieldType := [.int, .long, .array .int]
end
section
/-! the code tables of what is carried out (written by gen31.py) -/
noncomputable def xm_0 : xM := (⟨"AcidCityModel", "least", "(II)I"⟩, prog_14_method_46_code, 2, (some .int), [(0, 3, 0, 0, []), (1, 3, 1, 0, []), (2, 21, 3, 9, []), (5, 60, 0, 0, []), (6, 60, 0, 0, []), (9, 3, 1, 0, []), (10, 35, 0, 0, [])], { frames := 0, cells := 0, slots := 0, locals := 0 })
noncomputable def xm_1 : xM := (⟨"AcidCityModel", "harmBy", "(III)I"⟩, prog_14_method_133_code, 5, (some .int), [(0, 3, 2, 0, []), (1, 3, 0, 1, []), (2, 25, 12, 0, [15576]), (5, 0, 4560, 0, []), (8, 3, 3, 0, []), (9, 6, 0, 0, []), (10, 31, 100, 0, []), (11, 6, 1, 0, []), (12, 4, 4, 0, []), (14, 3, 4, 0, []), (16, 20, 3, 25, []), (19, 60, 0, 0, []), (22, 60, 0, 0, []), (25, 0, 1000000, 0, [18621]), (28, 3, 0, 1, []), (29, 25, 12, 0, [15576]), (32, 0, 4570, 0, []), (35, 0, 4, 0, []), (36, 3, 1, 0, []), (37, 6, 2, 0, []), (38, 6, 0, 0, []), (39, 3, 3, 0, []), (40, 6, 0, 0, []), (41, 31, 100, 0, []), (42, 3, 0, 1, []), (43, 25, 12, 30, [16390]), (46, 0, 301, 0, []), (49, 3, 1, 0, []), (50, 0, 1, 0, []), (51, 6, 0, 0, []), (52, 6, 2, 0, []), (53, 3, 4, 0, []), (55, 6, 0, 0, []), (56, 31, 100, 0, []), (57, 6, 0, 0, []), (58, 33, 2, 0, [0, 0, 17501, 0, 17502, 0, 17503, 9230]), (61, 35, 0, 0, [])], { frames := 1, cells := 0, slots := 0, locals := 21 })
noncomputable def xm_2 : xM := (⟨"AcidCityModel", "loadAt", "(II)I"⟩, prog_14_method_135_code, 4, (some .int), [(0, 0, 0, 0, []), (1, 4, 3, 0, []), (2, 3, 0, 1, []), (3, 3, 1, 0, []), (4, 3, 2, 0, []), (5, 3, 3, 0, []), (6, 33, 4, 1, [13, 1, 18622, 0, 18624, 8192, 18625, 9230]), (9, 3, 0, 1, []), (10, 25, 12, 30, [16390]), (13, 0, 301, 0, []), (16, 3, 1, 0, []), (17, 6, 2, 0, []), (18, 3, 2, 0, []), (19, 6, 0, 0, []), (20, 31, 100, 0, []), (21, 21, 0, 30, []), (24, 60, 0, 0, []), (27, 60, 0, 0, []), (30, 3, 3, 0, []), (31, 35, 0, 0, [])], { frames := 2, cells := 0, slots := 0, locals := 45 })
noncomputable def xm_3 : xM := (⟨"AcidCityModel", "isIn", "(JJJ)Z"⟩, prog_14_method_2_code, 6, (some .boolean), [(0, 3, 0, 2, []), (1, 3, 2, 2, []), (2, 14, 0, 0, []), (3, 20, 2, 17, []), (6, 3, 0, 2, []), (7, 3, 4, 2, []), (9, 14, 0, 0, []), (10, 20, 4, 17, []), (13, 0, 1, 0, []), (14, 22, 0, 18, []), (17, 0, 0, 0, []), (18, 35, 3, 0, [])], { frames := 0, cells := 0, slots := 0, locals := 0 })
noncomputable def xm_4 : xM := (⟨"AcidCityModel", "put", "(II)I"⟩, prog_14_method_20_code, 4, (some .int), [(0, 3, 0, 1, []), (1, 25, 12, 0, [15576]), (4, 3, 1, 0, []), (5, 31, 100, 0, []), (6, 4, 3, 0, []), (7, 3, 0, 1, []), (8, 25, 12, 0, [15576]), (11, 3, 1, 0, []), (12, 3, 2, 0, []), (13, 32, 100, 0, []), (14, 3, 3, 0, []), (15, 35, 0, 0, [])], { frames := 0, cells := 0, slots := 0, locals := 0 })
noncomputable def xm_5 : xM := (⟨"AcidCityModel", "findLoads", "(II)I"⟩, prog_14_method_134_code, 7, (some .int), [(0, 0, 0, 0, []), (1, 4, 3, 0, []), (2, 3, 3, 0, []), (3, 3, 2, 0, []), (4, 21, 4, 26, []), (7, 3, 0, 1, []), (8, 25, 12, 30, [16390]), (11, 0, 301, 0, []), (14, 3, 1, 0, []), (15, 6, 2, 0, []), (16, 3, 3, 0, []), (17, 6, 0, 0, []), (18, 0, 0, 0, []), (19, 32, 100, 0, []), (20, 5, 3, 1, []), (23, 22, 0, 2, []), (26, 3, 1, 0, []), (27, 0, 1, 0, []), (28, 6, 1, 0, []), (29, 4, 3, 0, []), (30, 3, 3, 0, []), (31, 20, 2, 106, []), (34, 0, 0, 0, []), (35, 4, 4, 0, []), (37, 3, 4, 0, []), (39, 3, 2, 0, []), (40, 21, 4, 100, []), (43, 0, 1000000, 0, [18621]), (46, 4, 5, 0, []), (48, 0, 0, 0, []), (49, 4, 6, 0, []), (51, 3, 6, 0, []), (53, 0, 4, 0, []), (54, 21, 3, 79, []), (57, 3, 5, 0, []), (59, 3, 0, 1, []), (60, 3, 3, 0, []), (61, 3, 4, 0, []), (63, 3, 6, 0, []), (65, 33, 4, 1, [13, 1, 18622, 0, 18624, 8192, 18625, 9230]), (68, 33, 2, 0, [0, 0, 17501, 0, 17502, 0, 17503, 9230]), (71, 4, 5, 0, []), (73, 5, 6, 1, []), (76, 22, 0, 51, []), (79, 3, 0, 1, []), (80, 25, 12, 30, [16390]), (83, 0, 301, 0, []), (86, 3, 3, 0, []), (87, 6, 2, 0, []), (88, 3, 4, 0, []), (90, 6, 0, 0, []), (91, 3, 5, 0, []), (93, 32, 100, 0, []), (94, 5, 4, 1, []), (97, 22, 0, 37, []), (100, 5, 3, 4294967295, []), (103, 22, 0, 30, []), (106, 3, 0, 1, []), (107, 25, 12, 30, [16390]), (110, 3, 2, 0, []), (111, 31, 100, 0, []), (112, 35, 0, 0, [])], { frames := 2, cells := 0, slots := 0, locals := 45 })
noncomputable def xm_6 : xM := (⟨"AcidCity$Rounds", "foretellAll", "(LAcidCity$Works;I)V"⟩, prog_10_method_4_code, 4, (none : Option FieldType), [(0, 0, 0, 0, []), (1, 4, 3, 0, []), (2, 3, 3, 0, []), (3, 3, 1, 1, []), (4, 25, 10, 13, [9358]), (7, 21, 3, 43, []), (10, 60, 0, 0, []), (11, 60, 0, 0, []), (14, 60, 0, 0, []), (15, 60, 0, 0, []), (16, 60, 0, 0, []), (17, 60, 0, 0, []), (20, 60, 0, 0, []), (23, 60, 0, 0, []), (24, 60, 0, 0, []), (25, 60, 0, 0, []), (26, 60, 0, 0, []), (29, 60, 0, 0, []), (32, 60, 0, 0, []), (33, 60, 0, 0, []), (36, 60, 0, 0, []), (37, 60, 0, 0, []), (40, 60, 0, 0, []), (43, 36, 0, 0, [])], { frames := 0, cells := 0, slots := 0, locals := 0 })
noncomputable def xm_7 : xM := (⟨"AcidCity$Rounds", "wearAll", "(LAcidCity$Works;I)V"⟩, prog_10_method_7_code, 5, (none : Option FieldType), [(0, 0, 0, 0, []), (1, 4, 3, 0, []), (2, 3, 3, 0, []), (3, 3, 1, 1, []), (4, 25, 10, 13, [9358]), (7, 21, 3, 100, []), (10, 60, 0, 0, []), (11, 60, 0, 0, []), (12, 60, 0, 0, []), (15, 60, 0, 0, []), (18, 60, 0, 0, []), (19, 60, 0, 0, []), (22, 60, 0, 0, []), (23, 60, 0, 0, []), (24, 60, 0, 0, []), (25, 60, 0, 0, []), (28, 60, 0, 0, []), (29, 60, 0, 0, []), (30, 60, 0, 0, []), (31, 60, 0, 0, []), (32, 60, 0, 0, []), (33, 60, 0, 0, []), (34, 60, 0, 0, []), (37, 60, 0, 0, []), (38, 60, 0, 0, []), (39, 60, 0, 0, []), (40, 60, 0, 0, []), (42, 60, 0, 0, []), (43, 60, 0, 0, []), (46, 60, 0, 0, []), (47, 60, 0, 0, []), (48, 60, 0, 0, []), (49, 60, 0, 0, []), (51, 60, 0, 0, []), (53, 60, 0, 0, []), (54, 60, 0, 0, []), (55, 60, 0, 0, []), (56, 60, 0, 0, []), (57, 60, 0, 0, []), (60, 60, 0, 0, []), (61, 60, 0, 0, []), (63, 60, 0, 0, []), (65, 60, 0, 0, []), (66, 60, 0, 0, []), (67, 60, 0, 0, []), (68, 60, 0, 0, []), (71, 60, 0, 0, []), (72, 60, 0, 0, []), (73, 60, 0, 0, []), (74, 60, 0, 0, []), (77, 60, 0, 0, []), (80, 60, 0, 0, []), (81, 60, 0, 0, []), (84, 60, 0, 0, []), (86, 60, 0, 0, []), (89, 60, 0, 0, []), (90, 60, 0, 0, []), (91, 60, 0, 0, []), (94, 60, 0, 0, []), (97, 60, 0, 0, []), (100, 36, 0, 0, [])], { frames := 0, cells := 0, slots := 0, locals := 0 })
noncomputable def xm_8 : xM := (⟨"AcidCityModel", "dueIs", "(II)V"⟩, prog_14_method_151_code, 3, (none : Option FieldType), [(0, 3, 0, 1, []), (1, 25, 12, 38, [16398]), (4, 3, 0, 1, []), (5, 25, 12, 39, [16399]), (8, 3, 1, 0, []), (9, 32, 100, 0, []), (10, 3, 0, 1, []), (11, 25, 12, 38, [16398]), (14, 3, 0, 1, []), (15, 25, 12, 39, [16399]), (18, 0, 1, 0, []), (19, 6, 0, 0, []), (20, 3, 2, 0, []), (21, 32, 100, 0, []), (22, 3, 0, 1, []), (23, 15, 0, 0, []), (24, 25, 12, 39, [16399]), (27, 0, 2, 0, []), (28, 6, 0, 0, []), (29, 26, 12, 39, [0, 16399]), (32, 36, 0, 0, [])], { frames := 0, cells := 0, slots := 0, locals := 0 })
noncomputable def xm_9 : xM := (⟨"AcidCityModel", "isNight", "(II)Z"⟩, prog_14_method_136_code, 2, (some .boolean), [(0, 3, 0, 0, []), (1, 9, 0, 0, []), (2, 1, 1, 0, []), (3, 1, 24, 0, [18615]), (6, 33, 3, 3, [0, 0, 16486, 0, 16487, 0, 16488, 9230]), (9, 20, 0, 28, []), (12, 3, 1, 0, []), (13, 9, 0, 0, []), (14, 1, 0, 0, []), (15, 1, 300, 0, [18616]), (18, 33, 3, 3, [0, 0, 16486, 0, 16487, 0, 16488, 9230]), (21, 20, 0, 28, []), (24, 0, 1, 0, []), (25, 22, 0, 29, []), (28, 0, 0, 0, []), (29, 35, 3, 0, [])], { frames := 1, cells := 0, slots := 0, locals := 25 })
noncomputable def xm_10 : xM := (⟨"AcidCity$Desk", "agrees", "(I)Z"⟩, prog_6_method_3_code, 3, (some .boolean), [(0, 0, 0, 0, []), (1, 4, 2, 0, []), (2, 3, 2, 0, []), (3, 0, 8, 0, []), (5, 21, 3, 43, []), (8, 3, 0, 1, []), (9, 25, 4, 1, [10324]), (12, 3, 2, 0, []), (13, 31, 100, 0, []), (14, 0, 4294967295, 0, []), (15, 21, 0, 37, []), (18, 3, 0, 1, []), (19, 25, 4, 1, [10324]), (22, 3, 2, 0, []), (23, 31, 100, 0, []), (24, 3, 0, 1, []), (25, 25, 4, 0, [10322]), (28, 3, 2, 0, []), (29, 31, 102, 0, []), (30, 3, 1, 0, []), (31, 31, 100, 0, []), (32, 21, 0, 37, []), (35, 0, 0, 0, []), (36, 35, 3, 0, []), (37, 5, 2, 1, []), (40, 22, 0, 2, []), (43, 0, 1, 0, []), (44, 35, 3, 0, [])], { frames := 0, cells := 0, slots := 0, locals := 0 })
noncomputable def xm_11 : xM := (⟨"AcidCityModel", "fitters", "()I"⟩, prog_14_method_126_code, 3, (some .int), [(0, 0, 0, 0, []), (1, 4, 1, 0, []), (2, 0, 0, 0, []), (3, 4, 2, 0, []), (4, 3, 2, 0, []), (5, 3, 0, 1, []), (6, 25, 12, 0, [15576]), (9, 0, 8, 0, []), (11, 31, 100, 0, []), (12, 21, 3, 62, []), (15, 60, 0, 0, []), (16, 60, 0, 0, []), (17, 60, 0, 0, []), (20, 60, 0, 0, []), (21, 60, 0, 0, []), (22, 60, 0, 0, []), (25, 60, 0, 0, []), (26, 60, 0, 0, []), (27, 60, 0, 0, []), (28, 60, 0, 0, []), (29, 60, 0, 0, []), (32, 60, 0, 0, []), (33, 60, 0, 0, []), (36, 60, 0, 0, []), (37, 60, 0, 0, []), (38, 60, 0, 0, []), (41, 60, 0, 0, []), (42, 60, 0, 0, []), (43, 60, 0, 0, []), (44, 60, 0, 0, []), (46, 60, 0, 0, []), (49, 60, 0, 0, []), (50, 60, 0, 0, []), (53, 60, 0, 0, []), (54, 60, 0, 0, []), (55, 60, 0, 0, []), (56, 60, 0, 0, []), (59, 60, 0, 0, []), (62, 3, 1, 0, []), (63, 35, 0, 0, [])], { frames := 0, cells := 0, slots := 0, locals := 0 })
noncomputable def xm_12 : xM := (⟨"AcidCity", "copyRow", "([I[I)V"⟩, prog_1_method_73_code, 2, (none : Option FieldType), [(0, 3, 0, 1, []), (1, 0, 0, 0, []), (2, 3, 1, 1, []), (3, 0, 0, 0, []), (4, 3, 0, 1, []), (5, 30, 0, 103, []), (6, 3, 1, 1, []), (7, 30, 0, 103, []), (8, 37, 0, 0, [12412, 12413, 12414, 9231]), (11, 38, 0, 0, [12415, 12417, 12416, 9232]), (14, 36, 0, 0, [])], { frames := 1, cells := 0, slots := 0, locals := 64 })
noncomputable def xm_13 : xM := (⟨"AcidCityModel", "weight", "()J"⟩, prog_14_method_42_code, 7, (some .long), [(0, 1, 0, 0, []), (1, 4, 1, 2, []), (2, 0, 0, 0, []), (3, 4, 3, 0, []), (4, 3, 3, 0, []), (5, 3, 0, 1, []), (6, 25, 12, 0, [15576]), (9, 0, 7, 0, []), (11, 31, 100, 0, []), (12, 21, 3, 65, []), (15, 60, 0, 0, []), (16, 60, 0, 0, []), (17, 60, 0, 0, []), (18, 60, 0, 0, []), (21, 60, 0, 0, []), (24, 60, 0, 0, []), (25, 60, 0, 0, []), (28, 60, 0, 0, []), (29, 60, 0, 0, []), (30, 60, 0, 0, []), (33, 60, 0, 0, []), (35, 60, 0, 0, []), (36, 60, 0, 0, []), (37, 60, 0, 0, []), (40, 60, 0, 0, []), (41, 60, 0, 0, []), (44, 60, 0, 0, []), (45, 60, 0, 0, []), (46, 60, 0, 0, []), (49, 60, 0, 0, []), (50, 60, 0, 0, []), (51, 60, 0, 0, []), (52, 60, 0, 0, []), (53, 60, 0, 0, []), (56, 60, 0, 0, []), (57, 60, 0, 0, []), (58, 60, 0, 0, []), (59, 60, 0, 0, []), (62, 60, 0, 0, []), (65, 0, 0, 0, []), (66, 4, 3, 0, []), (67, 3, 3, 0, []), (68, 3, 0, 1, []), (69, 25, 12, 0, [15576]), (72, 0, 8, 0, []), (74, 31, 100, 0, []), (75, 21, 3, 102, []), (78, 60, 0, 0, []), (79, 60, 0, 0, []), (80, 60, 0, 0, []), (81, 60, 0, 0, []), (84, 60, 0, 0, []), (87, 60, 0, 0, []), (88, 60, 0, 0, []), (91, 60, 0, 0, []), (94, 60, 0, 0, []), (95, 60, 0, 0, []), (96, 60, 0, 0, []), (99, 60, 0, 0, []), (102, 1, 0, 0, []), (103, 4, 3, 2, []), (104, 0, 0, 0, []), (105, 4, 5, 0, []), (107, 3, 5, 0, []), (109, 0, 5, 0, []), (110, 21, 3, 133, []), (113, 3, 3, 2, []), (114, 3, 0, 1, []), (115, 25, 12, 0, [15576]), (118, 0, 17, 0, []), (120, 3, 5, 0, []), (122, 6, 0, 0, []), (123, 31, 100, 0, []), (124, 9, 0, 0, []), (125, 11, 0, 0, []), (126, 4, 3, 2, []), (127, 5, 5, 1, []), (130, 22, 0, 107, []), (133, 0, 0, 0, []), (134, 4, 5, 0, []), (136, 3, 5, 0, []), (138, 3, 0, 1, []), (139, 25, 12, 0, [15576]), (142, 0, 5, 0, []), (143, 31, 100, 0, []), (144, 21, 3, 188, []), (147, 60, 0, 0, []), (148, 60, 0, 0, []), (150, 60, 0, 0, []), (152, 60, 0, 0, []), (153, 60, 0, 0, []), (156, 60, 0, 0, []), (157, 60, 0, 0, []), (158, 60, 0, 0, []), (161, 60, 0, 0, []), (162, 60, 0, 0, []), (164, 60, 0, 0, []), (167, 60, 0, 0, []), (168, 60, 0, 0, []), (169, 60, 0, 0, []), (171, 60, 0, 0, []), (172, 60, 0, 0, []), (173, 60, 0, 0, []), (174, 60, 0, 0, []), (175, 60, 0, 0, []), (176, 60, 0, 0, []), (179, 60, 0, 0, []), (182, 60, 0, 0, []), (185, 60, 0, 0, []), (188, 3, 1, 2, []), (189, 3, 3, 2, []), (190, 1, 100, 0, [17461]), (193, 12, 0, 0, []), (194, 11, 0, 0, []), (195, 35, 2, 0, [])], { frames := 0, cells := 0, slots := 0, locals := 0 })
noncomputable def xm_14 : xM := (⟨"AcidCityModel", "lift", "()J"⟩, prog_14_method_41_code, 4, (some .long), [(0, 1, 0, 0, []), (1, 4, 1, 2, []), (2, 0, 0, 0, []), (3, 4, 3, 0, []), (4, 3, 3, 0, []), (5, 3, 0, 1, []), (6, 25, 12, 0, [15576]), (9, 0, 7, 0, []), (11, 31, 100, 0, []), (12, 21, 3, 70, []), (15, 60, 0, 0, []), (16, 60, 0, 0, []), (17, 60, 0, 0, []), (18, 60, 0, 0, []), (21, 60, 0, 0, []), (22, 60, 0, 0, []), (25, 60, 0, 0, []), (26, 60, 0, 0, []), (27, 60, 0, 0, []), (30, 60, 0, 0, []), (33, 60, 0, 0, []), (34, 60, 0, 0, []), (37, 60, 0, 0, []), (38, 60, 0, 0, []), (39, 60, 0, 0, []), (42, 60, 0, 0, []), (44, 60, 0, 0, []), (45, 60, 0, 0, []), (46, 60, 0, 0, []), (47, 60, 0, 0, []), (48, 60, 0, 0, []), (49, 60, 0, 0, []), (52, 60, 0, 0, []), (53, 60, 0, 0, []), (54, 60, 0, 0, []), (57, 60, 0, 0, []), (58, 60, 0, 0, []), (61, 60, 0, 0, []), (62, 60, 0, 0, []), (63, 60, 0, 0, []), (64, 60, 0, 0, []), (67, 60, 0, 0, []), (70, 3, 1, 2, []), (71, 35, 2, 0, [])], { frames := 0, cells := 0, slots := 0, locals := 0 })
noncomputable def xm_15 : xM := (⟨"AcidCityModel", "come", "()V"⟩, prog_14_method_62_code, 5, (none : Option FieldType), [(0, 0, 0, 0, []), (1, 4, 1, 0, []), (2, 0, 0, 0, []), (3, 4, 2, 0, []), (4, 3, 2, 0, []), (5, 3, 0, 1, []), (6, 25, 12, 0, [15576]), (9, 0, 13, 0, []), (11, 31, 100, 0, []), (12, 21, 3, 117, []), (15, 60, 0, 0, []), (18, 60, 0, 0, []), (20, 60, 0, 0, []), (21, 60, 0, 0, []), (22, 60, 0, 0, []), (23, 60, 0, 0, []), (24, 60, 0, 0, []), (25, 60, 0, 0, []), (28, 60, 0, 0, []), (29, 60, 0, 0, []), (31, 60, 0, 0, []), (32, 60, 0, 0, []), (33, 60, 0, 0, []), (34, 60, 0, 0, []), (37, 60, 0, 0, []), (38, 60, 0, 0, []), (39, 60, 0, 0, []), (42, 60, 0, 0, []), (43, 60, 0, 0, []), (44, 60, 0, 0, []), (47, 60, 0, 0, []), (48, 60, 0, 0, []), (49, 60, 0, 0, []), (50, 60, 0, 0, []), (51, 60, 0, 0, []), (52, 60, 0, 0, []), (53, 60, 0, 0, []), (56, 60, 0, 0, []), (57, 60, 0, 0, []), (59, 60, 0, 0, []), (60, 60, 0, 0, []), (61, 60, 0, 0, []), (64, 60, 0, 0, []), (67, 60, 0, 0, []), (68, 60, 0, 0, []), (70, 60, 0, 0, []), (72, 60, 0, 0, []), (74, 60, 0, 0, []), (77, 60, 0, 0, []), (78, 60, 0, 0, []), (81, 60, 0, 0, []), (84, 60, 0, 0, []), (86, 60, 0, 0, []), (87, 60, 0, 0, []), (88, 60, 0, 0, []), (89, 60, 0, 0, []), (91, 60, 0, 0, []), (92, 60, 0, 0, []), (93, 60, 0, 0, []), (96, 60, 0, 0, []), (97, 60, 0, 0, []), (99, 60, 0, 0, []), (100, 60, 0, 0, []), (101, 60, 0, 0, []), (102, 60, 0, 0, []), (105, 60, 0, 0, []), (108, 60, 0, 0, []), (111, 60, 0, 0, []), (114, 60, 0, 0, []), (117, 3, 0, 1, []), (118, 25, 12, 0, [15576]), (121, 0, 13, 0, []), (123, 3, 1, 0, []), (124, 32, 100, 0, []), (125, 36, 0, 0, [])], { frames := 0, cells := 0, slots := 0, locals := 0 })
noncomputable def xm_16 : xM := (⟨"AcidCityModel", "floats", "()V"⟩, prog_14_method_57_code, 5, (none : Option FieldType), [(0, 3, 0, 1, []), (1, 33, 1, 14, [13, 1, 17453, 0, 17455, 4107, 17456, 9230]), (4, 3, 0, 1, []), (5, 33, 1, 13, [13, 1, 17462, 0, 17464, 4109, 17465, 9230]), (8, 11, 1, 0, []), (9, 1, 10, 0, [16620]), (12, 12, 0, 0, []), (13, 4, 1, 2, []), (14, 3, 1, 2, []), (15, 1, 9, 0, [16539]), (18, 14, 0, 0, []), (19, 20, 5, 27, []), (22, 60, 0, 0, []), (24, 60, 0, 0, []), (27, 3, 1, 2, []), (28, 1, 18446744073709551607, 0, [17545]), (31, 14, 0, 0, []), (32, 20, 3, 40, []), (35, 60, 0, 0, []), (37, 60, 0, 0, []), (40, 3, 1, 2, []), (41, 10, 0, 0, []), (42, 4, 3, 0, []), (43, 3, 0, 1, []), (44, 25, 12, 0, [15576]), (47, 0, 1, 0, []), (48, 31, 100, 0, []), (49, 3, 3, 0, []), (50, 6, 0, 0, []), (51, 4, 4, 0, []), (53, 3, 0, 1, []), (54, 25, 12, 0, [15576]), (57, 0, 1, 0, []), (58, 3, 4, 0, []), (60, 20, 3, 67, []), (63, 60, 0, 0, []), (64, 60, 0, 0, []), (67, 0, 600, 0, []), (70, 3, 4, 0, []), (72, 33, 2, 0, [0, 0, 17501, 0, 17502, 0, 17503, 9230]), (75, 32, 100, 0, []), (76, 36, 0, 0, [])], { frames := 1, cells := 0, slots := 0, locals := 26 })
noncomputable def xm_17 : xM := (⟨"AcidCityModel", "minute", "()V"⟩, prog_14_method_63_code, 2, (none : Option FieldType), [(0, 3, 0, 1, []), (1, 33, 1, 15, [13, 1, 17481, 0, 17483, 5120, 17484, 9230]), (4, 0, 0, 0, []), (5, 4, 1, 0, []), (6, 3, 1, 0, []), (7, 3, 0, 1, []), (8, 25, 12, 0, [15576]), (11, 0, 7, 0, []), (13, 31, 100, 0, []), (14, 21, 3, 52, []), (17, 60, 0, 0, []), (18, 60, 0, 0, []), (21, 60, 0, 0, []), (22, 60, 0, 0, []), (23, 60, 0, 0, []), (26, 60, 0, 0, []), (27, 60, 0, 0, []), (28, 60, 0, 0, []), (29, 60, 0, 0, []), (30, 60, 0, 0, []), (33, 60, 0, 0, []), (34, 60, 0, 0, []), (35, 60, 0, 0, []), (38, 60, 0, 0, []), (41, 60, 0, 0, []), (42, 60, 0, 0, []), (43, 60, 0, 0, []), (46, 60, 0, 0, []), (49, 60, 0, 0, []), (52, 0, 0, 0, []), (53, 4, 1, 0, []), (54, 3, 1, 0, []), (55, 3, 0, 1, []), (56, 25, 12, 0, [15576]), (59, 0, 6, 0, []), (61, 31, 100, 0, []), (62, 21, 3, 76, []), (65, 60, 0, 0, []), (66, 60, 0, 0, []), (67, 60, 0, 0, []), (70, 60, 0, 0, []), (73, 60, 0, 0, []), (76, 0, 0, 0, []), (77, 4, 1, 0, []), (78, 3, 1, 0, []), (79, 3, 0, 1, []), (80, 25, 12, 0, [15576]), (83, 0, 5, 0, []), (84, 31, 100, 0, []), (85, 21, 3, 99, []), (88, 60, 0, 0, []), (89, 60, 0, 0, []), (90, 60, 0, 0, []), (93, 60, 0, 0, []), (96, 60, 0, 0, []), (99, 0, 0, 0, []), (100, 4, 1, 0, []), (101, 3, 1, 0, []), (102, 3, 0, 1, []), (103, 25, 12, 0, [15576]), (106, 0, 8, 0, []), (108, 31, 100, 0, []), (109, 21, 3, 131, []), (112, 60, 0, 0, []), (113, 60, 0, 0, []), (114, 60, 0, 0, []), (117, 60, 0, 0, []), (120, 60, 0, 0, []), (121, 60, 0, 0, []), (122, 60, 0, 0, []), (125, 60, 0, 0, []), (128, 60, 0, 0, []), (131, 3, 0, 1, []), (132, 33, 1, 16, [13, 1, 17541, 0, 17543, 5134, 17544, 9230]), (135, 3, 0, 1, []), (136, 25, 12, 0, [15576]), (139, 0, 2, 0, []), (140, 19, 0, 0, []), (141, 31, 100, 0, []), (142, 0, 1, 0, []), (143, 6, 0, 0, []), (144, 32, 100, 0, []), (145, 0, 0, 0, []), (146, 4, 1, 0, []), (147, 3, 1, 0, []), (148, 3, 0, 1, []), (149, 25, 12, 0, [15576]), (152, 0, 7, 0, []), (154, 31, 100, 0, []), (155, 21, 3, 177, []), (158, 60, 0, 0, []), (159, 60, 0, 0, []), (160, 60, 0, 0, []), (163, 60, 0, 0, []), (166, 60, 0, 0, []), (167, 60, 0, 0, []), (168, 60, 0, 0, []), (171, 60, 0, 0, []), (174, 60, 0, 0, []), (177, 3, 0, 1, []), (178, 25, 12, 0, [15576]), (181, 0, 0, 0, []), (182, 19, 0, 0, []), (183, 31, 100, 0, []), (184, 0, 1, 0, []), (185, 6, 0, 0, []), (186, 32, 100, 0, []), (187, 3, 0, 1, []), (188, 25, 12, 0, [15576]), (191, 0, 0, 0, []), (192, 31, 100, 0, []), (193, 0, 60, 0, []), (195, 7, 1, 0, []), (196, 20, 1, 203, []), (199, 3, 0, 1, []), (200, 33, 1, 68, [13, 1, 17550, 0, 17552, 6144, 17553, 9230]), (203, 36, 0, 0, [])], { frames := 2, cells := 0, slots := 0, locals := 50 })
noncomputable def xm_18 : xM := (⟨"AcidCityModel", "orNone", "(I)I"⟩, prog_14_method_3_code, 1, (some .int), [(0, 3, 0, 0, []), (1, 20, 3, 9, []), (4, 0, 3294967291, 0, [17408]), (6, 22, 0, 10, []), (9, 60, 0, 0, []), (10, 35, 0, 0, [])], { frames := 0, cells := 0, slots := 0, locals := 0 })
noncomputable def xm_19 : xM := (⟨"AcidCity", "within", "(III)Z"⟩, prog_1_method_71_code, 3, (some .boolean), [(0, 3, 0, 0, []), (1, 3, 1, 0, []), (2, 21, 2, 14, []), (5, 3, 0, 0, []), (6, 3, 2, 0, []), (7, 21, 4, 14, []), (10, 0, 1, 0, []), (11, 22, 0, 15, []), (14, 0, 0, 0, []), (15, 35, 3, 0, [])], { frames := 0, cells := 0, slots := 0, locals := 0 })
noncomputable def xm_20 : xM := (⟨"AcidCity$People", "living", "()I"⟩, prog_9_method_6_code, 3, (some .int), [(0, 0, 0, 0, []), (1, 4, 1, 0, []), (2, 0, 0, 0, []), (3, 4, 2, 0, []), (4, 3, 2, 0, []), (5, 3, 0, 1, []), (6, 25, 7, 4, [9409]), (9, 21, 3, 29, []), (12, 60, 0, 0, []), (13, 60, 0, 0, []), (14, 60, 0, 0, []), (17, 60, 0, 0, []), (20, 60, 0, 0, []), (23, 60, 0, 0, []), (26, 60, 0, 0, []), (29, 3, 1, 0, []), (30, 35, 0, 0, [])], { frames := 0, cells := 0, slots := 0, locals := 0 })
noncomputable def xm_21 : xM := (⟨"AcidCity$Cells", "gases", "()I"⟩, prog_2_method_8_code, 4, (some .int), [(0, 0, 0, 0, []), (1, 4, 1, 0, []), (2, 0, 0, 0, []), (3, 4, 2, 0, []), (4, 3, 2, 0, []), (5, 3, 0, 1, []), (6, 25, 0, 5, [9274]), (9, 21, 3, 42, []), (12, 60, 0, 0, []), (13, 60, 0, 0, []), (14, 60, 0, 0, []), (15, 60, 0, 0, []), (16, 60, 0, 0, []), (19, 60, 0, 0, []), (20, 60, 0, 0, []), (21, 60, 0, 0, []), (24, 60, 0, 0, []), (25, 60, 0, 0, []), (26, 60, 0, 0, []), (27, 60, 0, 0, []), (28, 60, 0, 0, []), (29, 60, 0, 0, []), (30, 60, 0, 0, []), (33, 60, 0, 0, []), (36, 60, 0, 0, []), (39, 60, 0, 0, []), (42, 3, 1, 0, []), (43, 35, 0, 0, [])], { frames := 0, cells := 0, slots := 0, locals := 0 })
noncomputable def xm_22 : xM := (⟨"AcidCity$City", "weight", "()I"⟩, prog_4_method_13_code, 4, (some .int), [(0, 3, 0, 1, []), (1, 25, 2, 0, [9425]), (4, 33, 1, 21, [1, 1, 12370, 0, 12371, 12372, 12373, 9219]), (7, 4, 1, 0, []), (8, 0, 0, 0, []), (9, 4, 2, 0, []), (10, 3, 2, 0, []), (11, 0, 4, 0, []), (12, 21, 4, 30, []), (15, 3, 1, 0, []), (16, 3, 0, 1, []), (17, 25, 2, 3, [9435]), (20, 3, 2, 0, []), (21, 31, 100, 0, []), (22, 6, 0, 0, []), (23, 4, 1, 0, []), (24, 5, 2, 1, []), (27, 22, 0, 10, []), (30, 0, 60, 0, []), (32, 3, 0, 1, []), (33, 25, 2, 2, [9431]), (36, 33, 1, 20, [8, 1, 12374, 0, 12375, 12376, 12377, 9221]), (39, 6, 2, 0, []), (40, 3, 1, 0, []), (41, 0, 100, 0, []), (43, 7, 0, 0, []), (44, 6, 0, 0, []), (45, 4, 2, 0, []), (46, 0, 0, 0, []), (47, 4, 3, 0, []), (48, 3, 3, 0, []), (49, 3, 0, 1, []), (50, 25, 2, 1, [9427]), (53, 25, 10, 13, [9359]), (56, 21, 3, 76, []), (59, 60, 0, 0, []), (60, 60, 0, 0, []), (61, 60, 0, 0, []), (64, 60, 0, 0, []), (65, 60, 0, 0, []), (68, 60, 0, 0, []), (69, 60, 0, 0, []), (70, 60, 0, 0, []), (73, 60, 0, 0, []), (76, 3, 2, 0, []), (77, 35, 0, 0, [])], { frames := 1, cells := 0, slots := 0, locals := 23 })
noncomputable def xm_23 : xM := (⟨"AcidCity$City", "lift", "()I"⟩, prog_4_method_12_code, 3, (some .int), [(0, 0, 0, 0, []), (1, 4, 1, 0, []), (2, 0, 0, 0, []), (3, 4, 2, 0, []), (4, 3, 2, 0, []), (5, 3, 0, 1, []), (6, 25, 2, 1, [9427]), (9, 25, 10, 13, [9359]), (12, 21, 3, 29, []), (15, 60, 0, 0, []), (16, 60, 0, 0, []), (17, 60, 0, 0, []), (18, 60, 0, 0, []), (21, 60, 0, 0, []), (22, 60, 0, 0, []), (23, 60, 0, 0, []), (26, 60, 0, 0, []), (29, 3, 1, 0, []), (30, 35, 0, 0, [])], { frames := 0, cells := 0, slots := 0, locals := 0 })
noncomputable def xm_24 : xM := (⟨"AcidCity$Cells", "takeReports", "(I)V"⟩, prog_2_method_12_code, 5, (none : Option FieldType), [(0, 0, 0, 0, []), (1, 4, 2, 0, []), (2, 0, 0, 0, []), (3, 4, 3, 0, []), (4, 3, 3, 0, []), (5, 3, 0, 1, []), (6, 25, 0, 12, [9286]), (9, 21, 3, 58, []), (12, 60, 0, 0, []), (13, 60, 0, 0, []), (16, 60, 0, 0, []), (17, 60, 0, 0, []), (18, 60, 0, 0, []), (20, 60, 0, 0, []), (22, 60, 0, 0, []), (24, 60, 0, 0, []), (25, 60, 0, 0, []), (26, 60, 0, 0, []), (29, 60, 0, 0, []), (31, 60, 0, 0, []), (32, 60, 0, 0, []), (35, 60, 0, 0, []), (36, 60, 0, 0, []), (37, 60, 0, 0, []), (40, 60, 0, 0, []), (43, 60, 0, 0, []), (46, 60, 0, 0, []), (47, 60, 0, 0, []), (49, 60, 0, 0, []), (52, 60, 0, 0, []), (55, 60, 0, 0, []), (58, 3, 0, 1, []), (59, 3, 2, 0, []), (60, 26, 0, 12, [0, 9286]), (63, 36, 0, 0, [])], { frames := 0, cells := 0, slots := 0, locals := 0 })
noncomputable def xm_25 : xM := (⟨"AcidCity$Cells", "flowAll", "()V"⟩, prog_2_method_6_code, 2, (none : Option FieldType), [(0, 0, 0, 0, []), (1, 4, 1, 0, []), (2, 3, 1, 0, []), (3, 3, 0, 1, []), (4, 25, 0, 10, [9282]), (7, 21, 3, 31, []), (10, 60, 0, 0, []), (11, 60, 0, 0, []), (14, 60, 0, 0, []), (15, 60, 0, 0, []), (16, 60, 0, 0, []), (17, 60, 0, 0, []), (20, 60, 0, 0, []), (21, 60, 0, 0, []), (22, 60, 0, 0, []), (25, 60, 0, 0, []), (28, 60, 0, 0, []), (31, 36, 0, 0, [])], { frames := 0, cells := 0, slots := 0, locals := 0 })
noncomputable def xm_26 : xM := (⟨"AcidCity$Cells", "leakAll", "()V"⟩, prog_2_method_7_code, 4, (none : Option FieldType), [(0, 0, 0, 0, []), (1, 4, 1, 0, []), (2, 3, 1, 0, []), (3, 3, 0, 1, []), (4, 25, 0, 5, [9274]), (7, 21, 3, 73, []), (10, 60, 0, 0, []), (11, 60, 0, 0, []), (12, 60, 0, 0, []), (13, 60, 0, 0, []), (14, 60, 0, 0, []), (17, 60, 0, 0, []), (18, 60, 0, 0, []), (21, 60, 0, 0, []), (22, 60, 0, 0, []), (23, 60, 0, 0, []), (24, 60, 0, 0, []), (25, 60, 0, 0, []), (26, 60, 0, 0, []), (29, 60, 0, 0, []), (30, 60, 0, 0, []), (31, 60, 0, 0, []), (32, 60, 0, 0, []), (35, 60, 0, 0, []), (36, 60, 0, 0, []), (37, 60, 0, 0, []), (38, 60, 0, 0, []), (41, 60, 0, 0, []), (42, 60, 0, 0, []), (43, 60, 0, 0, []), (44, 60, 0, 0, []), (45, 60, 0, 0, []), (46, 60, 0, 0, []), (47, 60, 0, 0, []), (48, 60, 0, 0, []), (49, 60, 0, 0, []), (50, 60, 0, 0, []), (53, 60, 0, 0, []), (54, 60, 0, 0, []), (55, 60, 0, 0, []), (56, 60, 0, 0, []), (57, 60, 0, 0, []), (58, 60, 0, 0, []), (59, 60, 0, 0, []), (60, 60, 0, 0, []), (61, 60, 0, 0, []), (64, 60, 0, 0, []), (67, 60, 0, 0, []), (70, 60, 0, 0, []), (73, 36, 0, 0, [])], { frames := 0, cells := 0, slots := 0, locals := 0 })
noncomputable def xm_27 : xM := (⟨"AcidCity$City", "rise", "()V"⟩, prog_4_method_24_code, 2, (none : Option FieldType), [(0, 3, 0, 1, []), (1, 33, 1, 23, [3, 1, 12506, 0, 12355, 12356, 12357, 9218]), (4, 3, 0, 1, []), (5, 33, 1, 22, [3, 1, 12507, 0, 12367, 12368, 12369, 9218]), (8, 6, 1, 0, []), (9, 0, 10, 0, []), (11, 7, 0, 0, []), (12, 4, 1, 0, []), (13, 0, 4294967287, 0, []), (15, 0, 9, 0, []), (17, 3, 1, 0, []), (18, 37, 0, 0, [12441, 12413, 12414, 9231]), (21, 37, 1, 0, [12333, 12334, 12335, 9231]), (24, 4, 1, 0, []), (25, 3, 0, 1, []), (26, 0, 0, 0, []), (27, 0, 600, 0, []), (30, 3, 0, 1, []), (31, 25, 2, 5, [9439]), (34, 3, 1, 0, []), (35, 6, 0, 0, []), (36, 37, 0, 0, [12441, 12413, 12414, 9231]), (39, 37, 1, 0, [12333, 12334, 12335, 9231]), (42, 26, 2, 5, [0, 9439]), (45, 36, 0, 0, [])], { frames := 2, cells := 0, slots := 0, locals := 46 })
noncomputable def xm_28 : xM := (⟨"AcidCity$Works", "foulAll", "()V"⟩, prog_12_method_13_code, 2, (none : Option FieldType), [(0, 0, 0, 0, []), (1, 4, 1, 0, []), (2, 3, 1, 0, []), (3, 3, 0, 1, []), (4, 25, 10, 13, [9357]), (7, 21, 3, 78, []), (10, 60, 0, 0, []), (11, 60, 0, 0, []), (14, 60, 0, 0, []), (15, 60, 0, 0, []), (16, 60, 0, 0, []), (19, 60, 0, 0, []), (20, 60, 0, 0, []), (23, 60, 0, 0, []), (24, 60, 0, 0, []), (25, 60, 0, 0, []), (26, 60, 0, 0, []), (27, 60, 0, 0, []), (30, 60, 0, 0, []), (31, 60, 0, 0, []), (32, 60, 0, 0, []), (33, 60, 0, 0, []), (34, 60, 0, 0, []), (35, 60, 0, 0, []), (38, 60, 0, 0, []), (39, 60, 0, 0, []), (41, 60, 0, 0, []), (42, 60, 0, 0, []), (45, 60, 0, 0, []), (46, 60, 0, 0, []), (47, 60, 0, 0, []), (48, 60, 0, 0, []), (51, 60, 0, 0, []), (52, 60, 0, 0, []), (53, 60, 0, 0, []), (55, 60, 0, 0, []), (56, 60, 0, 0, []), (57, 60, 0, 0, []), (60, 60, 0, 0, []), (61, 60, 0, 0, []), (62, 60, 0, 0, []), (65, 60, 0, 0, []), (66, 60, 0, 0, []), (67, 60, 0, 0, []), (68, 60, 0, 0, []), (70, 60, 0, 0, []), (71, 60, 0, 0, []), (72, 60, 0, 0, []), (75, 60, 0, 0, []), (78, 36, 0, 0, [])], { frames := 0, cells := 0, slots := 0, locals := 0 })
noncomputable def xm_29 : xM := (⟨"AcidCity$City", "passMinute", "()V"⟩, prog_4_method_14_code, 2, (none : Option FieldType), [(0, 3, 0, 1, []), (1, 25, 2, 0, [9425]), (4, 3, 0, 1, []), (5, 25, 2, 9, [9447]), (8, 33, 2, 24, [1, 1, 12405, 0, 12406, 12407, 12408, 9219]), (11, 0, 0, 0, []), (12, 4, 1, 0, []), (13, 3, 1, 0, []), (14, 3, 0, 1, []), (15, 25, 2, 1, [9427]), (18, 25, 10, 13, [9359]), (21, 21, 3, 59, []), (24, 60, 0, 0, []), (25, 60, 0, 0, []), (28, 60, 0, 0, []), (31, 60, 0, 0, []), (32, 60, 0, 0, []), (33, 60, 0, 0, []), (34, 60, 0, 0, []), (37, 60, 0, 0, []), (38, 60, 0, 0, []), (41, 60, 0, 0, []), (42, 60, 0, 0, []), (45, 60, 0, 0, []), (48, 60, 0, 0, []), (49, 60, 0, 0, []), (50, 60, 0, 0, []), (53, 60, 0, 0, []), (56, 60, 0, 0, []), (59, 3, 0, 1, []), (60, 25, 2, 0, [9425]), (63, 33, 1, 25, [1, 1, 12474, 0, 12475, 12476, 12477, 9219]), (66, 3, 0, 1, []), (67, 25, 2, 0, [9425]), (70, 33, 1, 26, [1, 1, 12483, 0, 12484, 12485, 12486, 9219]), (73, 0, 0, 0, []), (74, 4, 1, 0, []), (75, 3, 1, 0, []), (76, 3, 0, 1, []), (77, 25, 2, 2, [9431]), (80, 25, 7, 4, [9410]), (83, 21, 3, 108, []), (86, 60, 0, 0, []), (87, 60, 0, 0, []), (90, 60, 0, 0, []), (91, 60, 0, 0, []), (94, 60, 0, 0, []), (97, 60, 0, 0, []), (98, 60, 0, 0, []), (99, 60, 0, 0, []), (102, 60, 0, 0, []), (105, 60, 0, 0, []), (108, 3, 0, 1, []), (109, 33, 1, 27, [3, 1, 12502, 0, 12504, 1024, 12505, 9218]), (112, 3, 0, 1, []), (113, 15, 0, 0, []), (114, 25, 2, 6, [9441]), (117, 0, 1, 0, []), (118, 6, 0, 0, []), (119, 26, 2, 6, [0, 9441]), (122, 3, 0, 1, []), (123, 25, 2, 1, [9427]), (126, 33, 1, 28, [11, 1, 12508, 0, 12509, 12510, 12511, 9220]), (129, 3, 0, 1, []), (130, 15, 0, 0, []), (131, 25, 2, 9, [9447]), (134, 0, 1, 0, []), (135, 6, 0, 0, []), (136, 26, 2, 9, [0, 9447]), (139, 3, 0, 1, []), (140, 25, 2, 9, [9447]), (143, 0, 60, 0, []), (145, 7, 1, 0, []), (146, 20, 1, 153, []), (149, 3, 0, 1, []), (150, 33, 1, 79, [3, 1, 12512, 0, 12514, 1025, 12515, 9218]), (153, 36, 0, 0, [])], { frames := 3, cells := 0, slots := 0, locals := 67 })
noncomputable def xm_30 : xM := (⟨"AcidCity$Dark", "loadAt", "(II)I"⟩, prog_5_method_4_code, 3, (some .int), [(0, 3, 0, 1, []), (1, 25, 3, 1, [11273]), (4, 3, 1, 0, []), (5, 31, 101, 0, []), (6, 0, 2, 0, []), (7, 3, 2, 0, []), (8, 6, 2, 0, []), (9, 13, 1, 0, []), (10, 1, 3, 0, [15407]), (13, 11, 3, 0, []), (14, 10, 0, 0, []), (15, 35, 0, 0, [])], { frames := 0, cells := 0, slots := 0, locals := 0 })
noncomputable def xm_31 : xM := (⟨"AcidCity$Dark", "leastHarm", "(LAcidCity$Desk;II)I"⟩, prog_5_method_2_code, 6, (some .int), [(0, 0, 0, 0, []), (1, 4, 4, 0, []), (3, 3, 4, 0, []), (5, 3, 3, 0, []), (6, 21, 4, 31, []), (9, 3, 0, 1, []), (10, 25, 3, 0, [11272]), (13, 3, 4, 0, []), (15, 0, 0, 0, []), (16, 32, 100, 0, []), (17, 3, 0, 1, []), (18, 25, 3, 1, [11273]), (21, 3, 4, 0, []), (23, 1, 0, 0, []), (24, 32, 101, 2, []), (25, 5, 4, 1, []), (28, 22, 0, 3, []), (31, 3, 2, 0, []), (32, 0, 1, 0, []), (33, 6, 1, 0, []), (34, 4, 4, 0, []), (36, 3, 4, 0, []), (38, 20, 2, 70, []), (41, 3, 3, 0, []), (42, 4, 5, 0, []), (44, 3, 5, 0, []), (46, 20, 2, 64, []), (49, 3, 0, 1, []), (50, 3, 1, 1, []), (51, 3, 4, 0, []), (53, 3, 5, 0, []), (55, 33, 4, 41, [4, 1, 15394, 0, 15396, 2061, 15397, 9228]), (58, 5, 5, 4294967295, []), (61, 22, 0, 44, []), (64, 5, 4, 4294967295, []), (67, 22, 0, 36, []), (70, 3, 0, 1, []), (71, 25, 3, 0, [11272]), (74, 3, 3, 0, []), (75, 31, 100, 0, []), (76, 35, 0, 0, [])], { frames := 1, cells := 0, slots := 0, locals := 29 })
noncomputable def xm_32 : xM := (⟨"AcidCity", "firstWrong", "(II)I"⟩, prog_1_method_67_code, 5, (some .int), [(0, 3, 1, 0, []), (1, 3, 2, 0, []), (2, 37, 0, 0, [12412, 12413, 12414, 9231]), (5, 4, 3, 0, []), (6, 0, 0, 0, []), (7, 4, 4, 0, []), (9, 3, 4, 0, []), (11, 3, 3, 0, []), (12, 21, 3, 43, []), (15, 60, 0, 0, []), (16, 60, 0, 0, []), (19, 60, 0, 0, []), (21, 60, 0, 0, []), (22, 60, 0, 0, []), (23, 60, 0, 0, []), (26, 60, 0, 0, []), (28, 60, 0, 0, []), (29, 60, 0, 0, []), (32, 60, 0, 0, []), (33, 60, 0, 0, []), (35, 60, 0, 0, []), (36, 60, 0, 0, []), (37, 60, 0, 0, []), (40, 60, 0, 0, []), (43, 3, 1, 0, []), (44, 3, 2, 0, []), (45, 21, 1, 52, []), (48, 0, 0, 0, []), (49, 22, 0, 55, []), (52, 0, 1, 0, []), (53, 3, 3, 0, []), (54, 6, 0, 0, []), (55, 35, 0, 0, [])], { frames := 1, cells := 0, slots := 0, locals := 13 })
noncomputable def xm_33 : xM := (⟨"AcidCity$People", "ableFitters", "()I"⟩, prog_9_method_9_code, 3, (some .int), [(0, 0, 0, 0, []), (1, 4, 1, 0, []), (2, 0, 0, 0, []), (3, 4, 2, 0, []), (4, 3, 2, 0, []), (5, 3, 0, 1, []), (6, 25, 7, 4, [9409]), (9, 21, 3, 42, []), (12, 60, 0, 0, []), (13, 60, 0, 0, []), (16, 60, 0, 0, []), (17, 60, 0, 0, []), (18, 60, 0, 0, []), (19, 60, 0, 0, []), (22, 60, 0, 0, []), (23, 60, 0, 0, []), (26, 60, 0, 0, []), (27, 60, 0, 0, []), (28, 60, 0, 0, []), (30, 60, 0, 0, []), (33, 60, 0, 0, []), (36, 60, 0, 0, []), (39, 60, 0, 0, []), (42, 3, 1, 0, []), (43, 35, 0, 0, [])], { frames := 0, cells := 0, slots := 0, locals := 0 })
noncomputable def xm_34 : xM := (⟨"AcidCity", "swap", "([III)I"⟩, prog_1_method_72_code, 4, (some .int), [(0, 3, 0, 1, []), (1, 3, 1, 0, []), (2, 31, 100, 0, []), (3, 4, 3, 0, []), (4, 3, 0, 1, []), (5, 3, 1, 0, []), (6, 3, 2, 0, []), (7, 32, 100, 0, []), (8, 3, 3, 0, []), (9, 35, 0, 0, [])], { frames := 0, cells := 0, slots := 0, locals := 0 })
noncomputable def xm_35 : xM := (⟨"AcidCityModel", "ones", "(I)I"⟩, prog_14_method_118_code, 3, (some .int), [(0, 0, 0, 0, []), (1, 4, 1, 0, []), (2, 0, 0, 0, []), (3, 4, 2, 0, []), (4, 3, 2, 0, []), (5, 0, 12, 0, []), (7, 21, 3, 24, []), (10, 3, 1, 0, []), (11, 3, 0, 0, []), (12, 3, 2, 0, []), (13, 6, 7, 0, []), (14, 0, 1, 0, []), (15, 6, 3, 0, []), (16, 6, 0, 0, []), (17, 4, 1, 0, []), (18, 5, 2, 1, []), (21, 22, 0, 4, []), (24, 3, 1, 0, []), (25, 35, 0, 0, [])], { frames := 0, cells := 0, slots := 0, locals := 0 })
noncomputable def xm_36 : xM := (⟨"AcidCityModel", "rowsOfLoads", "(II)I"⟩, prog_14_method_152_code, 6, (some .int), [(0, 3, 1, 0, []), (1, 3, 2, 0, []), (2, 33, 2, 9, [0, 0, 18612, 0, 18613, 0, 18614, 9230]), (5, 20, 1, 11, []), (8, 0, 3294967295, 0, [16489]), (10, 35, 0, 0, []), (11, 3, 0, 1, []), (12, 3, 1, 0, []), (13, 3, 2, 0, []), (14, 33, 3, 5, [13, 1, 18617, 0, 18619, 7183, 18620, 9230]), (17, 0, 1000000, 0, [18621]), (20, 21, 1, 26, []), (23, 60, 0, 0, []), (25, 60, 0, 0, []), (26, 3, 2, 0, []), (27, 4, 3, 0, []), (28, 0, 0, 0, []), (29, 4, 4, 0, []), (31, 3, 4, 0, []), (33, 3, 1, 0, []), (34, 21, 3, 73, []), (37, 3, 0, 1, []), (38, 3, 4, 0, []), (40, 3, 3, 0, []), (41, 33, 3, 2, [13, 1, 18630, 0, 18632, 8193, 18633, 9230]), (44, 4, 5, 0, []), (46, 3, 3, 0, []), (47, 3, 0, 1, []), (48, 25, 12, 0, [15576]), (51, 0, 4560, 0, []), (54, 3, 5, 0, []), (56, 6, 0, 0, []), (57, 31, 100, 0, []), (58, 6, 1, 0, []), (59, 4, 3, 0, []), (60, 3, 0, 1, []), (61, 3, 5, 0, []), (63, 3, 3, 0, []), (64, 33, 3, 8, [13, 1, 19476, 0, 19478, 8197, 19479, 9230]), (67, 5, 4, 1, []), (70, 22, 0, 31, []), (73, 0, 0, 0, []), (74, 35, 0, 0, [])], { frames := 3, cells := 0, slots := 0, locals := 71 })
noncomputable def xm_37 : xM := (⟨"AcidCityModel", "left", "()I"⟩, prog_14_method_117_code, 5, (some .int), [(0, 0, 0, 0, []), (1, 4, 1, 0, []), (2, 0, 0, 0, []), (3, 4, 2, 0, []), (4, 3, 2, 0, []), (5, 0, 12, 0, []), (7, 21, 3, 102, []), (10, 0, 1, 0, []), (11, 4, 3, 0, []), (12, 0, 0, 0, []), (13, 4, 4, 0, []), (15, 3, 4, 0, []), (17, 0, 8, 0, []), (19, 21, 3, 82, []), (22, 3, 3, 0, []), (23, 20, 0, 74, []), (26, 3, 0, 1, []), (27, 25, 12, 0, [15576]), (30, 0, 4500, 0, []), (33, 3, 4, 0, []), (35, 6, 0, 0, []), (36, 31, 100, 0, []), (37, 20, 2, 70, []), (40, 3, 0, 1, []), (41, 25, 12, 0, [15576]), (44, 0, 4400, 0, []), (47, 0, 12, 0, []), (49, 3, 4, 0, []), (51, 6, 2, 0, []), (52, 6, 0, 0, []), (53, 3, 2, 0, []), (54, 6, 0, 0, []), (55, 31, 100, 0, []), (56, 3, 0, 1, []), (57, 25, 12, 0, [15576]), (60, 0, 4500, 0, []), (63, 3, 4, 0, []), (65, 6, 0, 0, []), (66, 31, 100, 0, []), (67, 21, 1, 74, []), (70, 0, 1, 0, []), (71, 22, 0, 75, []), (74, 0, 0, 0, []), (75, 4, 3, 0, []), (76, 5, 4, 1, []), (79, 22, 0, 15, []), (82, 3, 1, 0, []), (83, 3, 3, 0, []), (84, 20, 0, 93, []), (87, 0, 1, 0, []), (88, 3, 2, 0, []), (89, 6, 6, 0, []), (90, 22, 0, 94, []), (93, 0, 0, 0, []), (94, 6, 4, 0, []), (95, 4, 1, 0, []), (96, 5, 2, 1, []), (99, 22, 0, 4, []), (102, 3, 1, 0, []), (103, 35, 0, 0, [])], { frames := 0, cells := 0, slots := 0, locals := 0 })
noncomputable def xm_38 : xM := (⟨"AcidCityModel", "isCell", "(I)Z"⟩, prog_14_method_8_code, 2, (some .boolean), [(0, 3, 1, 0, []), (1, 9, 0, 0, []), (2, 1, 0, 0, []), (3, 3, 0, 1, []), (4, 25, 12, 0, [15576]), (7, 0, 5, 0, []), (8, 31, 100, 0, []), (9, 0, 1, 0, []), (10, 6, 1, 0, []), (11, 9, 0, 0, []), (12, 33, 3, 3, [0, 0, 16486, 0, 16487, 0, 16488, 9230]), (15, 35, 3, 0, [])], { frames := 1, cells := 0, slots := 0, locals := 25 })
noncomputable def xm_39 : xM := (⟨"AcidCityModel", "isPerson", "(I)Z"⟩, prog_14_method_10_code, 2, (some .boolean), [(0, 3, 1, 0, []), (1, 9, 0, 0, []), (2, 1, 0, 0, []), (3, 3, 0, 1, []), (4, 25, 12, 0, [15576]), (7, 0, 8, 0, []), (9, 31, 100, 0, []), (10, 0, 1, 0, []), (11, 6, 1, 0, []), (12, 9, 0, 0, []), (13, 33, 3, 3, [0, 0, 16486, 0, 16487, 0, 16488, 9230]), (16, 35, 3, 0, [])], { frames := 1, cells := 0, slots := 0, locals := 25 })
noncomputable def xm_40 : xM := (⟨"java/lang/Integer", "bitCount", "(I)I"⟩, prog_16_method_49_code, 1, (some .int), [(0, 3, 0, 0, []), (1, 3, 0, 0, []), (2, 0, 1, 0, []), (3, 6, 8, 0, []), (4, 0, 1431655765, 0, [14532]), (7, 6, 3, 0, []), (8, 6, 1, 0, []), (9, 4, 0, 0, []), (10, 3, 0, 0, []), (11, 0, 858993459, 0, [14533]), (14, 6, 3, 0, []), (15, 3, 0, 0, []), (16, 0, 2, 0, []), (17, 6, 8, 0, []), (18, 0, 858993459, 0, [14533]), (21, 6, 3, 0, []), (22, 6, 0, 0, []), (23, 4, 0, 0, []), (24, 3, 0, 0, []), (25, 3, 0, 0, []), (26, 0, 4, 0, []), (27, 6, 8, 0, []), (28, 6, 0, 0, []), (29, 0, 252645135, 0, [14534]), (32, 6, 3, 0, []), (33, 4, 0, 0, []), (34, 3, 0, 0, []), (35, 3, 0, 0, []), (36, 0, 8, 0, []), (38, 6, 8, 0, []), (39, 6, 0, 0, []), (40, 4, 0, 0, []), (41, 3, 0, 0, []), (42, 3, 0, 0, []), (43, 0, 16, 0, []), (45, 6, 8, 0, []), (46, 6, 0, 0, []), (47, 4, 0, 0, []), (48, 3, 0, 0, []), (49, 0, 63, 0, []), (51, 6, 3, 0, []), (52, 35, 0, 0, [])], { frames := 0, cells := 0, slots := 0, locals := 0 })
noncomputable def xm_41 : xM := (⟨"AcidCity$Dark", "choose", "(LAcidCity$Desk;II)V"⟩, prog_5_method_3_code, 10, (none : Option FieldType), [(0, 0, 3294967291, 0, [15398]), (2, 4, 4, 0, []), (4, 1, 0, 0, []), (5, 4, 5, 2, []), (7, 0, 0, 0, []), (8, 4, 7, 0, []), (10, 3, 7, 0, []), (12, 0, 4, 0, []), (13, 21, 3, 102, []), (16, 3, 3, 0, []), (17, 3, 1, 1, []), (18, 25, 4, 3, [10330]), (21, 3, 7, 0, []), (23, 31, 100, 0, []), (24, 6, 1, 0, []), (25, 4, 8, 0, []), (27, 3, 8, 0, []), (29, 20, 2, 96, []), (32, 3, 0, 1, []), (33, 25, 3, 0, [11272]), (36, 3, 8, 0, []), (38, 31, 100, 0, []), (39, 0, 3294967291, 0, [15398]), (41, 21, 0, 96, []), (44, 3, 0, 1, []), (45, 25, 3, 0, [11272]), (48, 3, 8, 0, []), (50, 31, 100, 0, []), (51, 3, 1, 1, []), (52, 25, 4, 4, [10333]), (55, 3, 2, 0, []), (56, 31, 102, 0, []), (57, 3, 7, 0, []), (59, 31, 100, 0, []), (60, 6, 0, 0, []), (61, 4, 9, 0, []), (63, 3, 4, 0, []), (65, 0, 3294967291, 0, [15398]), (67, 21, 0, 77, []), (70, 3, 9, 0, []), (72, 3, 4, 0, []), (74, 21, 3, 96, []), (77, 3, 9, 0, []), (79, 4, 4, 0, []), (81, 3, 0, 1, []), (82, 25, 3, 1, [11273]), (85, 3, 8, 0, []), (87, 31, 101, 0, []), (88, 0, 2, 0, []), (89, 13, 0, 0, []), (90, 3, 7, 0, []), (92, 9, 0, 0, []), (93, 11, 4, 0, []), (94, 4, 5, 2, []), (96, 5, 7, 1, []), (99, 22, 0, 10, []), (102, 3, 0, 1, []), (103, 25, 3, 0, [11272]), (106, 3, 3, 0, []), (107, 3, 4, 0, []), (109, 32, 100, 0, []), (110, 3, 0, 1, []), (111, 25, 3, 1, [11273]), (114, 3, 3, 0, []), (115, 3, 5, 2, []), (117, 32, 101, 2, []), (118, 36, 0, 0, [])], { frames := 0, cells := 0, slots := 0, locals := 0 })
noncomputable def xm_42 : xM := (⟨"AcidCityModel", "seek", "(IIIII)V"⟩, prog_14_method_145_code, 9, (none : Option FieldType), [(0, 3, 2, 0, []), (1, 3, 0, 1, []), (2, 25, 12, 0, [15576]), (5, 0, 12, 0, []), (7, 31, 100, 0, []), (8, 21, 1, 56, []), (11, 3, 5, 0, []), (13, 3, 0, 1, []), (14, 25, 12, 33, [16393]), (17, 21, 5, 55, []), (20, 3, 0, 1, []), (21, 3, 5, 0, []), (23, 26, 12, 33, [0, 16393]), (26, 0, 0, 0, []), (27, 4, 6, 0, []), (29, 3, 6, 0, []), (31, 3, 2, 0, []), (32, 21, 3, 55, []), (35, 60, 0, 0, []), (36, 60, 0, 0, []), (39, 60, 0, 0, []), (41, 60, 0, 0, []), (42, 60, 0, 0, []), (45, 60, 0, 0, []), (47, 60, 0, 0, []), (48, 60, 0, 0, []), (49, 60, 0, 0, []), (52, 60, 0, 0, []), (55, 36, 0, 0, []), (56, 60, 0, 0, []), (57, 60, 0, 0, []), (59, 60, 0, 0, []), (61, 60, 0, 0, []), (62, 60, 0, 0, []), (65, 60, 0, 0, []), (67, 60, 0, 0, []), (68, 60, 0, 0, []), (71, 60, 0, 0, []), (72, 60, 0, 0, []), (75, 60, 0, 0, []), (78, 60, 0, 0, []), (81, 60, 0, 0, []), (82, 60, 0, 0, []), (84, 60, 0, 0, []), (85, 60, 0, 0, []), (86, 60, 0, 0, []), (88, 60, 0, 0, []), (89, 60, 0, 0, []), (91, 60, 0, 0, []), (92, 60, 0, 0, []), (93, 60, 0, 0, []), (94, 60, 0, 0, []), (95, 60, 0, 0, []), (98, 60, 0, 0, []), (99, 60, 0, 0, []), (102, 60, 0, 0, []), (104, 60, 0, 0, []), (105, 60, 0, 0, []), (106, 60, 0, 0, []), (107, 60, 0, 0, []), (108, 60, 0, 0, []), (109, 60, 0, 0, []), (110, 60, 0, 0, []), (111, 60, 0, 0, []), (114, 60, 0, 0, []), (117, 60, 0, 0, []), (118, 60, 0, 0, []), (119, 60, 0, 0, []), (122, 60, 0, 0, []), (125, 60, 0, 0, []), (126, 60, 0, 0, []), (129, 60, 0, 0, []), (130, 60, 0, 0, []), (133, 60, 0, 0, []), (134, 60, 0, 0, []), (137, 60, 0, 0, []), (140, 60, 0, 0, []), (141, 60, 0, 0, []), (142, 60, 0, 0, []), (145, 60, 0, 0, []), (146, 60, 0, 0, []), (147, 60, 0, 0, []), (150, 60, 0, 0, []), (151, 60, 0, 0, []), (154, 60, 0, 0, []), (155, 60, 0, 0, []), (157, 60, 0, 0, []), (158, 60, 0, 0, []), (160, 60, 0, 0, []), (161, 60, 0, 0, []), (164, 60, 0, 0, []), (166, 60, 0, 0, []), (167, 60, 0, 0, []), (168, 60, 0, 0, []), (170, 60, 0, 0, []), (171, 60, 0, 0, []), (172, 60, 0, 0, []), (173, 60, 0, 0, []), (174, 60, 0, 0, []), (175, 60, 0, 0, []), (176, 60, 0, 0, []), (177, 60, 0, 0, []), (179, 60, 0, 0, []), (180, 60, 0, 0, []), (181, 60, 0, 0, []), (183, 60, 0, 0, []), (185, 60, 0, 0, []), (187, 60, 0, 0, []), (188, 60, 0, 0, []), (191, 60, 0, 0, []), (192, 60, 0, 0, []), (195, 60, 0, 0, []), (197, 60, 0, 0, []), (198, 60, 0, 0, []), (199, 60, 0, 0, []), (200, 60, 0, 0, []), (201, 60, 0, 0, []), (203, 60, 0, 0, []), (204, 60, 0, 0, []), (205, 60, 0, 0, []), (208, 60, 0, 0, []), (209, 60, 0, 0, []), (210, 60, 0, 0, []), (213, 60, 0, 0, []), (216, 60, 0, 0, []), (219, 60, 0, 0, [])], { frames := 0, cells := 0, slots := 0, locals := 0 })
noncomputable def xm_43 : xM := (⟨"AcidCityModel", "findOrder", "(II)I"⟩, prog_14_method_146_code, 3, (some .int), [(0, 3, 0, 1, []), (1, 0, 4294967295, 0, []), (2, 26, 12, 33, [0, 16393]), (5, 3, 0, 1, []), (6, 3, 2, 0, []), (7, 26, 12, 34, [0, 16394]), (10, 3, 0, 1, []), (11, 0, 0, 0, []), (12, 26, 12, 35, [3, 16395]), (15, 3, 0, 1, []), (16, 3, 1, 0, []), (17, 0, 0, 0, []), (18, 0, 0, 0, []), (19, 0, 0, 0, []), (20, 0, 0, 0, []), (21, 33, 6, 42, [13, 1, 18671, 0, 19457, 8195, 19458, 9230]), (24, 3, 0, 1, []), (25, 25, 12, 35, [16395]), (28, 20, 0, 37, []), (31, 60, 0, 0, []), (34, 60, 0, 0, []), (37, 3, 0, 1, []), (38, 25, 12, 33, [16393]), (41, 20, 3, 49, []), (44, 60, 0, 0, []), (46, 60, 0, 0, []), (49, 3, 0, 1, []), (50, 25, 12, 33, [16393]), (53, 35, 0, 0, [])], { frames := 1, cells := 0, slots := 0, locals := 28 })
noncomputable def xm_44 : xM := (⟨"AcidCityModel", "isWork", "(I)Z"⟩, prog_14_method_9_code, 2, (some .boolean), [(0, 3, 1, 0, []), (1, 9, 0, 0, []), (2, 1, 0, 0, []), (3, 3, 0, 1, []), (4, 25, 12, 0, [15576]), (7, 0, 7, 0, []), (9, 31, 100, 0, []), (10, 0, 1, 0, []), (11, 6, 1, 0, []), (12, 9, 0, 0, []), (13, 33, 3, 3, [0, 0, 16486, 0, 16487, 0, 16488, 9230]), (16, 35, 3, 0, [])], { frames := 1, cells := 0, slots := 0, locals := 25 })
noncomputable def xm_45 : xM := (⟨"AcidCity$City", "isCell", "(I)Z"⟩, prog_4_method_2_code, 2, (some .boolean), [(0, 3, 1, 0, []), (1, 0, 0, 0, []), (2, 3, 0, 1, []), (3, 25, 2, 0, [9425]), (6, 25, 0, 5, [9275]), (9, 0, 1, 0, []), (10, 6, 1, 0, []), (11, 33, 3, 19, [0, 0, 11379, 1, 11357, 0, 11358, 9217]), (14, 35, 3, 0, [])], { frames := 1, cells := 0, slots := 0, locals := 22 })
noncomputable def xm_46 : xM := (⟨"AcidCityModel", "isWordAt", "(IIIII)Z"⟩, prog_14_method_75_code, 8, (some .boolean), [(0, 3, 5, 0, []), (2, 20, 1, 9, []), (5, 0, 4, 0, []), (6, 22, 0, 10, []), (9, 0, 5, 0, []), (10, 4, 6, 0, []), (12, 3, 0, 1, []), (13, 25, 12, 11, [15587]), (16, 0, 1, 0, []), (17, 21, 1, 97, []), (20, 60, 0, 0, []), (21, 60, 0, 0, []), (24, 60, 0, 0, []), (25, 60, 0, 0, []), (28, 60, 0, 0, []), (29, 60, 0, 0, []), (31, 60, 0, 0, []), (34, 60, 0, 0, []), (35, 60, 0, 0, []), (38, 60, 0, 0, []), (39, 60, 0, 0, []), (42, 60, 0, 0, []), (43, 60, 0, 0, []), (44, 60, 0, 0, []), (47, 60, 0, 0, []), (48, 60, 0, 0, []), (51, 60, 0, 0, []), (52, 60, 0, 0, []), (55, 60, 0, 0, []), (56, 60, 0, 0, []), (57, 60, 0, 0, []), (58, 60, 0, 0, []), (59, 60, 0, 0, []), (62, 60, 0, 0, []), (63, 60, 0, 0, []), (66, 60, 0, 0, []), (67, 60, 0, 0, []), (70, 60, 0, 0, []), (71, 60, 0, 0, []), (72, 60, 0, 0, []), (73, 60, 0, 0, []), (74, 60, 0, 0, []), (77, 60, 0, 0, []), (78, 60, 0, 0, []), (81, 60, 0, 0, []), (82, 60, 0, 0, []), (85, 60, 0, 0, []), (86, 60, 0, 0, []), (87, 60, 0, 0, []), (88, 60, 0, 0, []), (90, 60, 0, 0, []), (93, 60, 0, 0, []), (94, 60, 0, 0, []), (97, 0, 0, 0, []), (98, 4, 7, 0, []), (100, 3, 7, 0, []), (102, 20, 0, 130, []), (105, 60, 0, 0, []), (107, 60, 0, 0, []), (110, 60, 0, 0, []), (111, 60, 0, 0, []), (114, 60, 0, 0, []), (115, 60, 0, 0, []), (118, 60, 0, 0, []), (119, 60, 0, 0, []), (120, 60, 0, 0, []), (121, 60, 0, 0, []), (123, 60, 0, 0, []), (126, 60, 0, 0, []), (127, 60, 0, 0, []), (130, 0, 0, 0, []), (131, 35, 3, 0, [])], { frames := 0, cells := 0, slots := 0, locals := 0 })
noncomputable def xm_47 : xM := (⟨"AcidCity$Desk", "leftFaults", "()I"⟩, prog_6_method_2_code, 3, (some .int), [(0, 0, 0, 0, []), (1, 4, 1, 0, []), (2, 0, 0, 0, []), (3, 4, 2, 0, []), (4, 3, 2, 0, []), (5, 0, 12, 0, []), (7, 21, 3, 30, []), (10, 3, 0, 1, []), (11, 3, 2, 0, []), (12, 33, 2, 10, [5, 1, 14525, 0, 14527, 2054, 14528, 9223]), (15, 20, 0, 24, []), (18, 3, 1, 0, []), (19, 0, 1, 0, []), (20, 3, 2, 0, []), (21, 6, 6, 0, []), (22, 6, 4, 0, []), (23, 4, 1, 0, []), (24, 5, 2, 1, []), (27, 22, 0, 4, []), (30, 3, 1, 0, []), (31, 35, 0, 0, [])], { frames := 1, cells := 0, slots := 0, locals := 22 })
noncomputable def xm_48 : xM := (⟨"AcidCityModel", "rounds", "(IIII)I"⟩, prog_14_method_128_code, 9, (some .int), [(0, 0, 0, 0, []), (1, 4, 5, 0, []), (3, 3, 5, 0, []), (5, 3, 0, 1, []), (6, 25, 12, 0, [15576]), (9, 0, 7, 0, []), (11, 31, 100, 0, []), (12, 21, 3, 62, []), (15, 60, 0, 0, []), (16, 60, 0, 0, []), (19, 60, 0, 0, []), (21, 60, 0, 0, []), (22, 60, 0, 0, []), (25, 60, 0, 0, []), (26, 60, 0, 0, []), (28, 60, 0, 0, []), (31, 60, 0, 0, []), (32, 60, 0, 0, []), (33, 60, 0, 0, []), (34, 60, 0, 0, []), (35, 60, 0, 0, []), (36, 60, 0, 0, []), (39, 60, 0, 0, []), (41, 60, 0, 0, []), (42, 60, 0, 0, []), (45, 60, 0, 0, []), (46, 60, 0, 0, []), (48, 60, 0, 0, []), (51, 60, 0, 0, []), (53, 60, 0, 0, []), (54, 60, 0, 0, []), (55, 60, 0, 0, []), (56, 60, 0, 0, []), (59, 60, 0, 0, []), (62, 3, 0, 1, []), (63, 0, 0, 0, []), (64, 26, 12, 29, [0, 16389]), (67, 0, 4294967295, 0, []), (68, 4, 5, 0, []), (70, 0, 0, 0, []), (71, 4, 6, 0, []), (73, 3, 6, 0, []), (75, 3, 1, 0, []), (76, 21, 3, 260, []), (79, 3, 0, 1, []), (80, 33, 1, 11, [13, 1, 18575, 0, 18577, 7178, 18578, 9230]), (83, 4, 7, 0, []), (85, 3, 7, 0, []), (87, 20, 5, 149, []), (90, 60, 0, 0, []), (91, 60, 0, 0, []), (93, 60, 0, 0, []), (94, 60, 0, 0, []), (95, 60, 0, 0, []), (98, 60, 0, 0, []), (100, 60, 0, 0, []), (102, 60, 0, 0, []), (105, 60, 0, 0, []), (106, 60, 0, 0, []), (109, 60, 0, 0, []), (111, 60, 0, 0, []), (112, 60, 0, 0, []), (113, 60, 0, 0, []), (114, 60, 0, 0, []), (115, 60, 0, 0, []), (116, 60, 0, 0, []), (117, 60, 0, 0, []), (118, 60, 0, 0, []), (121, 60, 0, 0, []), (123, 60, 0, 0, []), (124, 60, 0, 0, []), (127, 60, 0, 0, []), (129, 60, 0, 0, []), (131, 60, 0, 0, []), (134, 60, 0, 0, []), (135, 60, 0, 0, []), (138, 60, 0, 0, []), (139, 60, 0, 0, []), (140, 60, 0, 0, []), (143, 60, 0, 0, []), (146, 60, 0, 0, []), (149, 0, 0, 0, []), (150, 4, 7, 0, []), (152, 3, 7, 0, []), (154, 3, 0, 1, []), (155, 25, 12, 0, [15576]), (158, 0, 7, 0, []), (160, 31, 100, 0, []), (161, 21, 3, 254, []), (164, 60, 0, 0, []), (165, 60, 0, 0, []), (167, 60, 0, 0, []), (170, 60, 0, 0, []), (173, 60, 0, 0, []), (174, 60, 0, 0, []), (175, 60, 0, 0, []), (178, 60, 0, 0, []), (180, 60, 0, 0, []), (181, 60, 0, 0, []), (184, 60, 0, 0, []), (185, 60, 0, 0, []), (186, 60, 0, 0, []), (189, 60, 0, 0, []), (191, 60, 0, 0, []), (192, 60, 0, 0, []), (195, 60, 0, 0, []), (196, 60, 0, 0, []), (198, 60, 0, 0, []), (201, 60, 0, 0, []), (202, 60, 0, 0, []), (205, 60, 0, 0, []), (207, 60, 0, 0, []), (208, 60, 0, 0, []), (211, 60, 0, 0, []), (212, 60, 0, 0, []), (213, 60, 0, 0, []), (216, 60, 0, 0, []), (218, 60, 0, 0, []), (219, 60, 0, 0, []), (222, 60, 0, 0, []), (223, 60, 0, 0, []), (225, 60, 0, 0, []), (228, 60, 0, 0, []), (229, 60, 0, 0, []), (232, 60, 0, 0, []), (234, 60, 0, 0, []), (235, 60, 0, 0, []), (236, 60, 0, 0, []), (239, 60, 0, 0, []), (241, 60, 0, 0, []), (244, 60, 0, 0, []), (246, 60, 0, 0, []), (248, 60, 0, 0, []), (251, 60, 0, 0, []), (254, 5, 6, 1, []), (257, 22, 0, 73, []), (260, 3, 5, 0, []), (262, 35, 0, 0, [])], { frames := 1, cells := 0, slots := 0, locals := 22 })
noncomputable def xm_49 : xM := (⟨"AcidCity$City", "isWork", "(I)Z"⟩, prog_4_method_4_code, 2, (some .boolean), [(0, 3, 1, 0, []), (1, 0, 0, 0, []), (2, 3, 0, 1, []), (3, 25, 2, 1, [9427]), (6, 25, 10, 13, [9359]), (9, 0, 1, 0, []), (10, 6, 1, 0, []), (11, 33, 3, 19, [0, 0, 11379, 1, 11357, 0, 11358, 9217]), (14, 35, 3, 0, [])], { frames := 1, cells := 0, slots := 0, locals := 22 })
noncomputable def xm_50 : xM := (⟨"AcidCity$Desk", "mostAlike", "(II)I"⟩, prog_6_method_5_code, 7, (some .int), [(0, 0, 0, 0, []), (1, 4, 3, 0, []), (2, 0, 0, 0, []), (3, 4, 4, 0, []), (5, 3, 4, 0, []), (7, 0, 3, 0, []), (8, 21, 4, 70, []), (11, 0, 0, 0, []), (12, 4, 5, 0, []), (14, 0, 0, 0, []), (15, 4, 6, 0, []), (17, 3, 6, 0, []), (19, 0, 12, 0, []), (21, 21, 3, 57, []), (24, 3, 2, 0, []), (25, 3, 6, 0, []), (27, 6, 7, 0, []), (28, 0, 1, 0, []), (29, 6, 3, 0, []), (30, 0, 1, 0, []), (31, 21, 1, 51, []), (34, 3, 0, 1, []), (35, 25, 4, 0, [10322]), (38, 3, 1, 0, []), (39, 31, 102, 0, []), (40, 3, 6, 0, []), (42, 31, 100, 0, []), (43, 3, 4, 0, []), (45, 21, 1, 51, []), (48, 5, 5, 1, []), (51, 5, 6, 1, []), (54, 22, 0, 17, []), (57, 3, 3, 0, []), (58, 3, 5, 0, []), (60, 37, 1, 0, [14550, 12334, 12335, 9231]), (63, 4, 3, 0, []), (64, 5, 4, 1, []), (67, 22, 0, 5, []), (70, 3, 3, 0, []), (71, 35, 0, 0, [])], { frames := 1, cells := 0, slots := 0, locals := 13 })
noncomputable def xm_51 : xM := (⟨"AcidCityModel", "alike", "(II)I"⟩, prog_14_method_120_code, 7, (some .int), [(0, 0, 0, 0, []), (1, 4, 3, 0, []), (2, 0, 0, 0, []), (3, 4, 4, 0, []), (5, 3, 4, 0, []), (7, 0, 4, 0, []), (8, 21, 3, 90, []), (11, 0, 0, 0, []), (12, 4, 5, 0, []), (14, 0, 0, 0, []), (15, 4, 6, 0, []), (17, 3, 6, 0, []), (19, 0, 12, 0, []), (21, 21, 3, 71, []), (24, 3, 5, 0, []), (26, 3, 2, 0, []), (27, 3, 6, 0, []), (29, 6, 7, 0, []), (30, 0, 1, 0, []), (31, 6, 3, 0, []), (32, 0, 1, 0, []), (33, 21, 1, 61, []), (36, 3, 0, 1, []), (37, 25, 12, 0, [15576]), (40, 0, 4400, 0, []), (43, 0, 12, 0, []), (45, 3, 1, 0, []), (46, 6, 2, 0, []), (47, 6, 0, 0, []), (48, 3, 6, 0, []), (50, 6, 0, 0, []), (51, 31, 100, 0, []), (52, 3, 4, 0, []), (54, 21, 1, 61, []), (57, 0, 1, 0, []), (58, 22, 0, 62, []), (61, 0, 0, 0, []), (62, 6, 0, 0, []), (63, 4, 5, 0, []), (65, 5, 6, 1, []), (68, 22, 0, 17, []), (71, 3, 5, 0, []), (73, 3, 3, 0, []), (74, 21, 5, 82, []), (77, 3, 5, 0, []), (79, 22, 0, 83, []), (82, 3, 3, 0, []), (83, 4, 3, 0, []), (84, 5, 4, 1, []), (87, 22, 0, 5, []), (90, 3, 3, 0, []), (91, 35, 0, 0, [])], { frames := 0, cells := 0, slots := 0, locals := 0 })
noncomputable def xm_52 : xM := (⟨"AcidCity", "copyRows", "([[I[[I)V"⟩, prog_1_method_74_code, 4, (none : Option FieldType), [(0, 3, 0, 1, []), (1, 30, 0, 103, []), (2, 3, 1, 1, []), (3, 30, 0, 103, []), (4, 37, 0, 0, [12412, 12413, 12414, 9231]), (7, 4, 2, 0, []), (8, 0, 0, 0, []), (9, 4, 3, 0, []), (10, 3, 3, 0, []), (11, 3, 2, 0, []), (12, 21, 3, 30, []), (15, 3, 0, 1, []), (16, 3, 3, 0, []), (17, 31, 102, 0, []), (18, 3, 1, 1, []), (19, 3, 3, 0, []), (20, 31, 102, 0, []), (21, 33, 2, 12, [0, 0, 15521, 0, 12410, 0, 12411, 9217]), (24, 5, 3, 1, []), (27, 22, 0, 10, []), (30, 36, 0, 0, [])], { frames := 2, cells := 0, slots := 0, locals := 85 })
noncomputable def xm_53 : xM := (⟨"AcidCityModel", "counts", "(I)I"⟩, prog_14_method_89_code, 5, (some .int), [(0, 0, 4294967295, 0, []), (1, 4, 2, 0, []), (2, 0, 0, 0, []), (3, 4, 3, 0, []), (4, 3, 3, 0, []), (5, 3, 0, 1, []), (6, 25, 12, 0, [15576]), (9, 0, 9, 0, []), (11, 31, 100, 0, []), (12, 21, 3, 94, []), (15, 60, 0, 0, []), (16, 60, 0, 0, []), (19, 60, 0, 0, []), (20, 60, 0, 0, []), (21, 60, 0, 0, []), (24, 60, 0, 0, []), (25, 60, 0, 0, []), (26, 60, 0, 0, []), (27, 60, 0, 0, []), (28, 60, 0, 0, []), (31, 60, 0, 0, []), (32, 60, 0, 0, []), (33, 60, 0, 0, []), (36, 60, 0, 0, []), (39, 60, 0, 0, []), (40, 60, 0, 0, []), (43, 60, 0, 0, []), (44, 60, 0, 0, []), (46, 60, 0, 0, []), (48, 60, 0, 0, []), (51, 60, 0, 0, []), (52, 60, 0, 0, []), (55, 60, 0, 0, []), (56, 60, 0, 0, []), (59, 60, 0, 0, []), (60, 60, 0, 0, []), (61, 60, 0, 0, []), (64, 60, 0, 0, []), (65, 60, 0, 0, []), (66, 60, 0, 0, []), (67, 60, 0, 0, []), (68, 60, 0, 0, []), (71, 60, 0, 0, []), (72, 60, 0, 0, []), (73, 60, 0, 0, []), (76, 60, 0, 0, []), (77, 60, 0, 0, []), (78, 60, 0, 0, []), (79, 60, 0, 0, []), (82, 60, 0, 0, []), (83, 60, 0, 0, []), (86, 60, 0, 0, []), (87, 60, 0, 0, []), (88, 60, 0, 0, []), (91, 60, 0, 0, []), (94, 3, 2, 0, []), (95, 35, 0, 0, [])], { frames := 0, cells := 0, slots := 0, locals := 0 })
noncomputable def xm_54 : xM := (⟨"AcidCityModel", "isYears", "(I)Z"⟩, prog_14_method_147_code, 1, (some .boolean), [(0, 3, 0, 0, []), (1, 9, 0, 0, []), (2, 1, 1, 0, []), (3, 1, 60, 0, [17443]), (6, 33, 3, 3, [0, 0, 16486, 0, 16487, 0, 16488, 9230]), (9, 35, 3, 0, [])], { frames := 1, cells := 0, slots := 0, locals := 25 })
noncomputable def xm_55 : xM := (⟨"java/util/Arrays", "fill", "([II)V"⟩, prog_22_method_103_code, 4, (none : Option FieldType), [(0, 0, 0, 0, []), (1, 4, 2, 0, []), (2, 3, 0, 1, []), (3, 30, 0, 103, []), (4, 4, 3, 0, []), (5, 3, 2, 0, []), (6, 3, 3, 0, []), (7, 21, 3, 20, []), (10, 3, 0, 1, []), (11, 3, 2, 0, []), (12, 3, 1, 0, []), (13, 32, 100, 0, []), (14, 5, 2, 1, []), (17, 22, 0, 5, []), (20, 36, 0, 0, [])], { frames := 0, cells := 0, slots := 0, locals := 0 })
noncomputable def xm_56 : xM := (⟨"AcidCity$City", "isPerson", "(I)Z"⟩, prog_4_method_5_code, 2, (some .boolean), [(0, 3, 1, 0, []), (1, 0, 0, 0, []), (2, 3, 0, 1, []), (3, 25, 2, 2, [9431]), (6, 25, 7, 4, [9410]), (9, 0, 1, 0, []), (10, 6, 1, 0, []), (11, 33, 3, 19, [0, 0, 11379, 1, 11357, 0, 11358, 9217]), (14, 35, 3, 0, [])], { frames := 1, cells := 0, slots := 0, locals := 22 })
noncomputable def xm_57 : xM := (⟨"AcidCity$Charter", "put", "(CI)V"⟩, prog_3_method_7_code, 3, (none : Option FieldType), [(0, 3, 0, 1, []), (1, 25, 1, 10, [10279]), (4, 3, 1, 0, []), (5, 0, 97, 0, []), (7, 6, 1, 0, []), (8, 3, 2, 0, []), (9, 32, 100, 0, []), (10, 36, 0, 0, [])], { frames := 0, cells := 0, slots := 0, locals := 0 })
noncomputable def xm_58 : xM := (⟨"AcidCity$Order", "take", "(I)V"⟩, prog_8_method_4_code, 2, (none : Option FieldType), [(0, 3, 0, 1, []), (1, 25, 6, 4, [11291]), (4, 0, 3294967294, 0, [15470]), (6, 21, 0, 17, []), (9, 60, 0, 0, []), (10, 60, 0, 0, []), (11, 60, 0, 0, []), (14, 60, 0, 0, []), (17, 3, 0, 1, []), (18, 3, 1, 0, []), (19, 26, 6, 4, [0, 11291]), (22, 3, 0, 1, []), (23, 25, 6, 1, [11288]), (26, 3, 0, 1, []), (27, 25, 6, 0, [11286]), (30, 33, 2, 12, [0, 0, 15479, 1, 12410, 0, 12411, 9217]), (33, 36, 0, 0, [])], { frames := 2, cells := 0, slots := 0, locals := 85 })
noncomputable def xm_59 : xM := (⟨"AcidCity$Order", "goOn", "(LAcidCity$Desk;IIII)V"⟩, prog_8_method_3_code, 9, (none : Option FieldType), [(0, 3, 2, 0, []), (1, 3, 1, 1, []), (2, 25, 4, 15, [10351]), (5, 21, 3, 14, []), (8, 60, 0, 0, []), (9, 60, 0, 0, []), (11, 60, 0, 0, []), (14, 3, 0, 1, []), (15, 3, 5, 0, []), (17, 33, 2, 58, [7, 1, 15475, 0, 15477, 3072, 15478, 9229]), (20, 36, 0, 0, []), (21, 60, 0, 0, []), (22, 60, 0, 0, []), (24, 60, 0, 0, []), (26, 60, 0, 0, []), (27, 60, 0, 0, []), (30, 60, 0, 0, []), (33, 60, 0, 0, []), (34, 60, 0, 0, []), (37, 60, 0, 0, []), (40, 60, 0, 0, []), (41, 60, 0, 0, []), (43, 60, 0, 0, []), (44, 60, 0, 0, []), (45, 60, 0, 0, []), (46, 60, 0, 0, []), (49, 60, 0, 0, []), (50, 60, 0, 0, []), (53, 60, 0, 0, []), (55, 60, 0, 0, []), (56, 60, 0, 0, []), (57, 60, 0, 0, []), (58, 60, 0, 0, []), (59, 60, 0, 0, []), (60, 60, 0, 0, []), (63, 60, 0, 0, []), (64, 60, 0, 0, []), (65, 60, 0, 0, []), (68, 60, 0, 0, []), (69, 60, 0, 0, []), (70, 60, 0, 0, []), (73, 60, 0, 0, []), (74, 60, 0, 0, []), (77, 60, 0, 0, []), (78, 60, 0, 0, []), (80, 60, 0, 0, []), (81, 60, 0, 0, []), (83, 60, 0, 0, []), (84, 60, 0, 0, []), (87, 60, 0, 0, []), (89, 60, 0, 0, []), (90, 60, 0, 0, []), (91, 60, 0, 0, []), (93, 60, 0, 0, []), (94, 60, 0, 0, []), (97, 60, 0, 0, []), (99, 60, 0, 0, []), (100, 60, 0, 0, []), (101, 60, 0, 0, []), (102, 60, 0, 0, []), (105, 60, 0, 0, []), (107, 60, 0, 0, []), (108, 60, 0, 0, []), (111, 60, 0, 0, []), (112, 60, 0, 0, []), (114, 60, 0, 0, []), (115, 60, 0, 0, []), (118, 60, 0, 0, []), (121, 60, 0, 0, []), (122, 60, 0, 0, []), (123, 60, 0, 0, []), (124, 60, 0, 0, []), (125, 60, 0, 0, []), (126, 60, 0, 0, []), (127, 60, 0, 0, []), (128, 60, 0, 0, []), (130, 60, 0, 0, []), (131, 60, 0, 0, []), (132, 60, 0, 0, []), (134, 60, 0, 0, []), (136, 60, 0, 0, []), (138, 60, 0, 0, []), (139, 60, 0, 0, []), (142, 60, 0, 0, []), (145, 60, 0, 0, []), (148, 60, 0, 0, [])], { frames := 3, cells := 0, slots := 0, locals := 106 })
noncomputable def xm_60 : xM := (⟨"AcidCity$Order", "bestSum", "(LAcidCity$Desk;II)I"⟩, prog_8_method_2_code, 4, (some .int), [(0, 3, 0, 1, []), (1, 3, 2, 0, []), (2, 26, 6, 2, [0, 11289]), (5, 3, 0, 1, []), (6, 3, 3, 0, []), (7, 26, 6, 3, [0, 11290]), (10, 3, 0, 1, []), (11, 0, 3294967294, 0, [15470]), (13, 26, 6, 4, [0, 11291]), (16, 3, 0, 1, []), (17, 3, 1, 1, []), (18, 0, 0, 0, []), (19, 0, 0, 0, []), (20, 0, 0, 0, []), (21, 0, 0, 0, []), (22, 33, 6, 59, [7, 1, 15471, 0, 15473, 2063, 15474, 9229]), (25, 3, 0, 1, []), (26, 25, 6, 3, [11290]), (29, 20, 3, 37, []), (32, 60, 0, 0, []), (34, 60, 0, 0, []), (37, 3, 0, 1, []), (38, 25, 6, 4, [11291]), (41, 35, 0, 0, [])], { frames := 4, cells := 0, slots := 0, locals := 134 })
noncomputable def xm_61 : xM := (⟨"AcidCityModel", "rowsOfOrder", "(I)I"⟩, prog_14_method_153_code, 5, (some .int), [(0, 3, 1, 0, []), (1, 33, 1, 54, [0, 0, 18663, 0, 18664, 0, 18665, 9230]), (4, 20, 1, 10, []), (7, 0, 3294967295, 0, [16489]), (9, 35, 0, 0, []), (10, 3, 0, 1, []), (11, 3, 1, 0, []), (12, 0, 20000, 0, []), (15, 33, 3, 43, [13, 1, 18667, 0, 18669, 8194, 18670, 9230]), (18, 4, 2, 0, []), (19, 0, 0, 0, []), (20, 4, 3, 0, []), (21, 0, 0, 0, []), (22, 4, 4, 0, []), (24, 3, 4, 0, []), (26, 3, 0, 1, []), (27, 25, 12, 0, [15576]), (30, 0, 12, 0, []), (32, 31, 100, 0, []), (33, 21, 3, 79, []), (36, 60, 0, 0, []), (37, 60, 0, 0, []), (40, 60, 0, 0, []), (41, 60, 0, 0, []), (42, 60, 0, 0, []), (45, 60, 0, 0, []), (48, 60, 0, 0, []), (49, 60, 0, 0, []), (50, 60, 0, 0, []), (53, 60, 0, 0, []), (55, 60, 0, 0, []), (56, 60, 0, 0, []), (57, 60, 0, 0, []), (58, 60, 0, 0, []), (59, 60, 0, 0, []), (60, 60, 0, 0, []), (61, 60, 0, 0, []), (62, 60, 0, 0, []), (63, 60, 0, 0, []), (66, 60, 0, 0, []), (68, 60, 0, 0, []), (69, 60, 0, 0, []), (70, 60, 0, 0, []), (73, 60, 0, 0, []), (76, 60, 0, 0, []), (79, 3, 2, 0, []), (80, 20, 3, 87, []), (83, 60, 0, 0, []), (84, 60, 0, 0, []), (87, 0, 0, 0, []), (88, 35, 0, 0, [])], { frames := 2, cells := 0, slots := 0, locals := 50 })
noncomputable def xm_62 : xM := (⟨"AcidCityModel", "rowsOfDay", "(I)I"⟩, prog_14_method_155_code, 4, (some .int), [(0, 3, 1, 0, []), (1, 9, 0, 0, []), (2, 1, 1, 0, []), (3, 1, 24, 0, [18615]), (6, 33, 3, 3, [0, 0, 16486, 0, 16487, 0, 16488, 9230]), (9, 20, 1, 15, []), (12, 0, 3294967295, 0, [16489]), (14, 35, 0, 0, []), (15, 3, 0, 1, []), (16, 25, 12, 3, [15579]), (19, 20, 1, 25, []), (22, 0, 3294967294, 0, [16587]), (24, 35, 0, 0, []), (25, 60, 0, 0, []), (26, 60, 0, 0, []), (27, 60, 0, 0, []), (28, 60, 0, 0, []), (31, 60, 0, 0, []), (34, 60, 0, 0, []), (35, 60, 0, 0, []), (38, 60, 0, 0, []), (39, 60, 0, 0, []), (40, 60, 0, 0, []), (43, 60, 0, 0, []), (44, 60, 0, 0, []), (45, 60, 0, 0, []), (46, 60, 0, 0, []), (47, 60, 0, 0, []), (50, 60, 0, 0, []), (51, 60, 0, 0, []), (52, 60, 0, 0, []), (55, 60, 0, 0, []), (56, 60, 0, 0, []), (57, 60, 0, 0, []), (58, 60, 0, 0, []), (61, 60, 0, 0, []), (64, 60, 0, 0, []), (65, 60, 0, 0, []), (66, 60, 0, 0, []), (67, 60, 0, 0, []), (68, 60, 0, 0, []), (71, 60, 0, 0, []), (72, 60, 0, 0, []), (73, 60, 0, 0, []), (74, 60, 0, 0, []), (76, 60, 0, 0, []), (79, 60, 0, 0, []), (80, 60, 0, 0, []), (83, 60, 0, 0, []), (86, 60, 0, 0, []), (89, 60, 0, 0, []), (90, 60, 0, 0, []), (91, 60, 0, 0, []), (94, 60, 0, 0, []), (95, 60, 0, 0, []), (96, 60, 0, 0, []), (97, 60, 0, 0, []), (100, 60, 0, 0, []), (103, 60, 0, 0, []), (106, 60, 0, 0, []), (109, 60, 0, 0, []), (110, 60, 0, 0, []), (111, 60, 0, 0, []), (112, 60, 0, 0, []), (115, 60, 0, 0, []), (118, 60, 0, 0, []), (119, 60, 0, 0, []), (122, 60, 0, 0, []), (123, 60, 0, 0, []), (124, 60, 0, 0, []), (127, 60, 0, 0, []), (128, 60, 0, 0, []), (129, 60, 0, 0, []), (130, 60, 0, 0, []), (133, 60, 0, 0, []), (136, 60, 0, 0, []), (137, 60, 0, 0, [])], { frames := 1, cells := 0, slots := 0, locals := 25 })
noncomputable def xm_63 : xM := (⟨"AcidCity$Cells", "<init>", "()V"⟩, prog_2_method_1_code, 1, (none : Option FieldType), [(0, 3, 0, 1, []), (1, 34, 0, 0, [9258, 9245, 9246]), (4, 3, 0, 1, []), (5, 0, 20, 0, []), (7, 28, 100, 0, [9315]), (9, 26, 0, 0, [1, 9261]), (12, 3, 0, 1, []), (13, 0, 20, 0, []), (15, 28, 100, 0, [9315]), (17, 26, 0, 1, [1, 9264]), (20, 3, 0, 1, []), (21, 0, 20, 0, []), (23, 0, 5, 0, []), (24, 29, 0, 0, [9259, 9315]), (28, 26, 0, 2, [1, 9266]), (31, 3, 0, 1, []), (32, 0, 20, 0, []), (34, 0, 5, 0, []), (35, 29, 0, 0, [9259, 9315]), (39, 26, 0, 3, [1, 9269]), (42, 3, 0, 1, []), (43, 0, 20, 0, []), (45, 0, 6, 0, []), (47, 29, 0, 0, [9259, 9315]), (51, 26, 0, 4, [1, 9272]), (54, 3, 0, 1, []), (55, 0, 24, 0, []), (57, 28, 100, 0, [9315]), (59, 26, 0, 6, [1, 9277]), (62, 3, 0, 1, []), (63, 0, 24, 0, []), (65, 28, 100, 0, [9315]), (67, 26, 0, 7, [1, 9278]), (70, 3, 0, 1, []), (71, 0, 24, 0, []), (73, 28, 100, 0, [9315]), (75, 26, 0, 8, [1, 9279]), (78, 3, 0, 1, []), (79, 0, 24, 0, []), (81, 28, 100, 0, [9315]), (83, 26, 0, 9, [1, 9280]), (86, 3, 0, 1, []), (87, 0, 90, 0, []), (89, 0, 8, 0, []), (91, 29, 0, 0, [9259, 9315]), (95, 26, 0, 11, [1, 9285]), (98, 36, 0, 0, [])], { frames := 1, cells := 160, slots := 1326, locals := 12 })
noncomputable def xm_64 : xM := (⟨"AcidCity$Works", "<init>", "()V"⟩, prog_12_method_1_code, 1, (none : Option FieldType), [(0, 3, 0, 1, []), (1, 34, 0, 0, [9321, 9245, 9246]), (4, 3, 0, 1, []), (5, 0, 24, 0, []), (7, 28, 100, 0, [9315]), (9, 26, 10, 0, [1, 9322]), (12, 3, 0, 1, []), (13, 0, 24, 0, []), (15, 28, 100, 0, [9315]), (17, 26, 10, 1, [1, 9326]), (20, 3, 0, 1, []), (21, 0, 24, 0, []), (23, 28, 100, 0, [9315]), (25, 26, 10, 2, [1, 9329]), (28, 3, 0, 1, []), (29, 0, 24, 0, []), (31, 28, 100, 0, [9315]), (33, 26, 10, 3, [1, 9331]), (36, 3, 0, 1, []), (37, 0, 24, 0, []), (39, 28, 100, 0, [9315]), (41, 26, 10, 4, [1, 9334]), (44, 3, 0, 1, []), (45, 0, 24, 0, []), (47, 28, 100, 0, [9315]), (49, 26, 10, 5, [1, 9337]), (52, 3, 0, 1, []), (53, 0, 24, 0, []), (55, 28, 100, 0, [9315]), (57, 26, 10, 6, [1, 9339]), (60, 3, 0, 1, []), (61, 0, 24, 0, []), (63, 28, 100, 0, [9315]), (65, 26, 10, 7, [1, 9340]), (68, 3, 0, 1, []), (69, 0, 24, 0, []), (71, 28, 100, 0, [9315]), (73, 26, 10, 8, [1, 9345]), (76, 3, 0, 1, []), (77, 0, 24, 0, []), (79, 28, 100, 0, [9315]), (81, 26, 10, 9, [1, 9348]), (84, 3, 0, 1, []), (85, 0, 24, 0, []), (87, 28, 100, 0, [9315]), (89, 26, 10, 10, [1, 9350]), (92, 3, 0, 1, []), (93, 0, 24, 0, []), (95, 28, 100, 0, [9315]), (97, 26, 10, 11, [1, 9352]), (100, 3, 0, 1, []), (101, 0, 24, 0, []), (103, 28, 100, 0, [9315]), (105, 26, 10, 12, [1, 9355]), (108, 36, 0, 0, [])], { frames := 1, cells := 13, slots := 312, locals := 12 })
noncomputable def xm_65 : xM := (⟨"AcidCity$People", "<init>", "()V"⟩, prog_9_method_1_code, 1, (none : Option FieldType), [(0, 3, 0, 1, []), (1, 34, 0, 0, [9396, 9245, 9246]), (4, 3, 0, 1, []), (5, 0, 24, 0, []), (7, 28, 100, 0, [9315]), (9, 26, 7, 0, [1, 9397]), (12, 3, 0, 1, []), (13, 0, 24, 0, []), (15, 28, 100, 0, [9315]), (17, 26, 7, 1, [1, 9400]), (20, 3, 0, 1, []), (21, 0, 24, 0, []), (23, 28, 100, 0, [9315]), (25, 26, 7, 2, [1, 9403]), (28, 3, 0, 1, []), (29, 0, 24, 0, []), (31, 28, 100, 0, [9315]), (33, 26, 7, 3, [1, 9406]), (36, 36, 0, 0, [])], { frames := 1, cells := 4, slots := 96, locals := 12 })
noncomputable def xm_66 : xM := (⟨"AcidCity$City", "<init>", "()V"⟩, prog_4_method_1_code, 2, (none : Option FieldType), [(0, 3, 0, 1, []), (1, 34, 0, 0, [9252, 9245, 9246]), (4, 3, 0, 1, []), (5, 27, 0, 10136407399998501, [1, 1, 1, 1, 1, 0, 1, 1, 1, 1, 0, 1, 0]), (8, 15, 0, 0, []), (9, 33, 1, 63, [1, 2, 9255, 1, 9256, 0, 9257, 9219]), (12, 26, 2, 0, [1, 9425]), (15, 3, 0, 1, []), (16, 27, 10, 10137506977686628, [1, 1, 1, 1, 1, 1, 1, 1, 1, 1, 1, 1, 1, 0]), (19, 15, 0, 0, []), (20, 33, 1, 64, [11, 2, 9318, 1, 9319, 0, 9320, 9220]), (23, 26, 2, 1, [1, 9427]), (26, 3, 0, 1, []), (27, 27, 7, 10138606567957679, [1, 1, 1, 1, 0]), (30, 15, 0, 0, []), (31, 33, 1, 65, [8, 2, 9393, 1, 9394, 0, 9395, 9221]), (34, 26, 2, 2, [1, 9431]), (37, 3, 0, 1, []), (38, 0, 6, 0, []), (40, 28, 100, 0, [9315]), (42, 26, 2, 3, [1, 9435]), (45, 3, 0, 1, []), (46, 0, 3, 0, []), (47, 0, 61, 0, []), (49, 29, 0, 0, [9424, 9315]), (53, 26, 2, 4, [1, 9437]), (56, 3, 0, 1, []), (57, 0, 300, 0, []), (60, 26, 2, 5, [0, 9439]), (63, 3, 0, 1, []), (64, 0, 5760, 0, []), (67, 26, 2, 7, [0, 9444]), (70, 3, 0, 1, []), (71, 0, 10, 0, []), (73, 26, 2, 8, [0, 9445]), (76, 0, 0, 0, []), (77, 4, 1, 0, []), (78, 3, 1, 0, []), (79, 0, 61, 0, []), (81, 21, 3, 134, []), (84, 3, 0, 1, []), (85, 25, 2, 4, [9437]), (88, 0, 0, 0, []), (89, 31, 102, 0, []), (90, 3, 1, 0, []), (91, 0, 900, 0, []), (94, 0, 12, 0, []), (96, 3, 1, 0, []), (97, 6, 2, 0, []), (98, 6, 1, 0, []), (99, 32, 100, 0, []), (100, 3, 0, 1, []), (101, 25, 2, 4, [9437]), (104, 0, 1, 0, []), (105, 31, 102, 0, []), (106, 3, 1, 0, []), (107, 0, 600, 0, []), (110, 0, 10, 0, []), (112, 3, 1, 0, []), (113, 6, 2, 0, []), (114, 6, 1, 0, []), (115, 32, 100, 0, []), (116, 3, 0, 1, []), (117, 25, 2, 4, [9437]), (120, 0, 2, 0, []), (121, 31, 102, 0, []), (122, 3, 1, 0, []), (123, 0, 60, 0, []), (125, 3, 1, 0, []), (126, 6, 1, 0, []), (127, 32, 100, 0, []), (128, 5, 1, 1, []), (131, 22, 0, 78, []), (134, 36, 0, 0, [])], { frames := 2, cells := 185, slots := 1958, locals := 32 })
noncomputable def xm_67 : xM := (⟨"AcidCityModel", "cellAt", "(I)I"⟩, prog_14_method_4_code, 2, (some .int), [(0, 0, 30, 0, []), (2, 0, 20, 0, []), (4, 3, 1, 0, []), (5, 6, 2, 0, []), (6, 6, 0, 0, []), (7, 35, 0, 0, [])], { frames := 0, cells := 0, slots := 0, locals := 0 })
noncomputable def xm_68 : xM := (⟨"AcidCityModel", "sends", "()V"⟩, prog_14_method_61_code, 4, (none : Option FieldType), [(0, 0, 0, 0, []), (1, 4, 1, 0, []), (2, 3, 1, 0, []), (3, 3, 0, 1, []), (4, 25, 12, 0, [15576]), (7, 0, 5, 0, []), (8, 31, 100, 0, []), (9, 21, 3, 178, []), (12, 60, 0, 0, []), (13, 60, 0, 0, []), (14, 60, 0, 0, []), (17, 60, 0, 0, []), (20, 60, 0, 0, []), (23, 60, 0, 0, []), (24, 60, 0, 0, []), (27, 60, 0, 0, []), (28, 60, 0, 0, []), (29, 60, 0, 0, []), (32, 60, 0, 0, []), (33, 60, 0, 0, []), (34, 60, 0, 0, []), (35, 60, 0, 0, []), (36, 60, 0, 0, []), (39, 60, 0, 0, []), (40, 60, 0, 0, []), (41, 60, 0, 0, []), (42, 60, 0, 0, []), (45, 60, 0, 0, []), (46, 60, 0, 0, []), (47, 60, 0, 0, []), (50, 60, 0, 0, []), (53, 60, 0, 0, []), (54, 60, 0, 0, []), (57, 60, 0, 0, []), (59, 60, 0, 0, []), (60, 60, 0, 0, []), (62, 60, 0, 0, []), (65, 60, 0, 0, []), (68, 60, 0, 0, []), (70, 60, 0, 0, []), (71, 60, 0, 0, []), (74, 60, 0, 0, []), (76, 60, 0, 0, []), (77, 60, 0, 0, []), (78, 60, 0, 0, []), (79, 60, 0, 0, []), (80, 60, 0, 0, []), (81, 60, 0, 0, []), (84, 60, 0, 0, []), (85, 60, 0, 0, []), (86, 60, 0, 0, []), (87, 60, 0, 0, []), (88, 60, 0, 0, []), (89, 60, 0, 0, []), (90, 60, 0, 0, []), (91, 60, 0, 0, []), (94, 60, 0, 0, []), (95, 60, 0, 0, []), (98, 60, 0, 0, []), (99, 60, 0, 0, []), (100, 60, 0, 0, []), (101, 60, 0, 0, []), (102, 60, 0, 0, []), (103, 60, 0, 0, []), (104, 60, 0, 0, []), (107, 60, 0, 0, []), (108, 60, 0, 0, []), (109, 60, 0, 0, []), (112, 60, 0, 0, []), (113, 60, 0, 0, []), (114, 60, 0, 0, []), (115, 60, 0, 0, []), (116, 60, 0, 0, []), (117, 60, 0, 0, []), (118, 60, 0, 0, []), (121, 60, 0, 0, []), (124, 60, 0, 0, []), (125, 60, 0, 0, []), (128, 60, 0, 0, []), (129, 60, 0, 0, []), (131, 60, 0, 0, []), (132, 60, 0, 0, []), (133, 60, 0, 0, []), (136, 60, 0, 0, []), (137, 60, 0, 0, []), (138, 60, 0, 0, []), (139, 60, 0, 0, []), (140, 60, 0, 0, []), (143, 60, 0, 0, []), (144, 60, 0, 0, []), (146, 60, 0, 0, []), (147, 60, 0, 0, []), (148, 60, 0, 0, []), (151, 60, 0, 0, []), (152, 60, 0, 0, []), (153, 60, 0, 0, []), (154, 60, 0, 0, []), (157, 60, 0, 0, []), (158, 60, 0, 0, []), (159, 60, 0, 0, []), (160, 60, 0, 0, []), (161, 60, 0, 0, []), (162, 60, 0, 0, []), (165, 60, 0, 0, []), (167, 60, 0, 0, []), (168, 60, 0, 0, []), (169, 60, 0, 0, []), (170, 60, 0, 0, []), (171, 60, 0, 0, []), (172, 60, 0, 0, []), (175, 60, 0, 0, []), (178, 36, 0, 0, [])], { frames := 0, cells := 0, slots := 0, locals := 0 })
noncomputable def xm_69 : xM := (⟨"AcidCity$Tape", "addFour", "(I)V"⟩, prog_11_method_3_code, 3, (none : Option FieldType), [(0, 0, 24, 0, []), (2, 4, 2, 0, []), (3, 3, 2, 0, []), (4, 20, 2, 48, []), (7, 3, 0, 1, []), (8, 25, 9, 1, [10394]), (11, 0, 96, 0, []), (13, 21, 3, 48, []), (16, 3, 0, 1, []), (17, 25, 9, 0, [10393]), (20, 3, 0, 1, []), (21, 25, 9, 1, [10394]), (24, 3, 1, 0, []), (25, 3, 2, 0, []), (26, 6, 8, 0, []), (27, 0, 255, 0, []), (30, 6, 3, 0, []), (31, 32, 100, 0, []), (32, 3, 0, 1, []), (33, 15, 0, 0, []), (34, 25, 9, 1, [10394]), (37, 0, 1, 0, []), (38, 6, 0, 0, []), (39, 26, 9, 1, [0, 10394]), (42, 5, 2, 4294967288, []), (45, 22, 0, 3, []), (48, 36, 0, 0, [])], { frames := 0, cells := 0, slots := 0, locals := 0 })
noncomputable def xm_70 : xM := (⟨"AcidCity$City", "hour", "()I"⟩, prog_4_method_8_code, 1, (some .int), [(0, 3, 0, 1, []), (1, 25, 2, 9, [9447]), (4, 0, 60, 0, []), (6, 7, 0, 0, []), (7, 35, 0, 0, [])], { frames := 0, cells := 0, slots := 0, locals := 0 })
noncomputable def xm_71 : xM := (⟨"AcidCity$Charter", "rankSheds", "(LAcidCity$City;)V"⟩, prog_3_method_25_code, 3, (none : Option FieldType), [(0, 0, 0, 0, []), (1, 4, 2, 0, []), (2, 3, 2, 0, []), (3, 3, 1, 1, []), (4, 25, 2, 1, [9430]), (7, 25, 10, 13, [9360]), (10, 21, 3, 31, []), (13, 60, 0, 0, []), (14, 60, 0, 0, []), (17, 60, 0, 0, []), (18, 60, 0, 0, []), (19, 60, 0, 0, []), (20, 60, 0, 0, []), (21, 60, 0, 0, []), (24, 60, 0, 0, []), (25, 60, 0, 0, []), (28, 60, 0, 0, []), (31, 36, 0, 0, [])], { frames := 0, cells := 0, slots := 0, locals := 0 })
noncomputable def xm_72 : xM := (⟨"AcidCityModel", "findShed", "()I"⟩, prog_14_method_103_code, 6, (some .int), [(0, 3, 0, 1, []), (1, 0, 2, 0, []), (2, 33, 2, 53, [13, 1, 16556, 0, 16558, 4096, 16559, 9230]), (5, 4, 1, 0, []), (6, 0, 0, 0, []), (7, 4, 2, 0, []), (8, 0, 0, 0, []), (9, 4, 3, 0, []), (10, 3, 3, 0, []), (11, 3, 0, 1, []), (12, 25, 12, 0, [15576]), (15, 0, 7, 0, []), (17, 31, 100, 0, []), (18, 21, 3, 135, []), (21, 60, 0, 0, []), (22, 60, 0, 0, []), (23, 60, 0, 0, []), (26, 60, 0, 0, []), (29, 60, 0, 0, []), (30, 60, 0, 0, []), (33, 60, 0, 0, []), (34, 60, 0, 0, []), (35, 60, 0, 0, []), (36, 60, 0, 0, []), (39, 60, 0, 0, []), (41, 60, 0, 0, []), (43, 60, 0, 0, []), (46, 60, 0, 0, []), (49, 60, 0, 0, []), (50, 60, 0, 0, []), (52, 60, 0, 0, []), (54, 60, 0, 0, []), (57, 60, 0, 0, []), (58, 60, 0, 0, []), (61, 60, 0, 0, []), (63, 60, 0, 0, []), (64, 60, 0, 0, []), (65, 60, 0, 0, []), (66, 60, 0, 0, []), (68, 60, 0, 0, []), (71, 60, 0, 0, []), (72, 60, 0, 0, []), (75, 60, 0, 0, []), (77, 60, 0, 0, []), (78, 60, 0, 0, []), (81, 60, 0, 0, []), (83, 60, 0, 0, []), (84, 60, 0, 0, []), (85, 60, 0, 0, []), (86, 60, 0, 0, []), (87, 60, 0, 0, []), (88, 60, 0, 0, []), (91, 60, 0, 0, []), (93, 60, 0, 0, []), (94, 60, 0, 0, []), (97, 60, 0, 0, []), (99, 60, 0, 0, []), (100, 60, 0, 0, []), (101, 60, 0, 0, []), (102, 60, 0, 0, []), (103, 60, 0, 0, []), (106, 60, 0, 0, []), (109, 60, 0, 0, []), (110, 60, 0, 0, []), (113, 60, 0, 0, []), (115, 60, 0, 0, []), (117, 60, 0, 0, []), (118, 60, 0, 0, []), (119, 60, 0, 0, []), (122, 60, 0, 0, []), (124, 60, 0, 0, []), (125, 60, 0, 0, []), (126, 60, 0, 0, []), (129, 60, 0, 0, []), (132, 60, 0, 0, []), (135, 3, 2, 0, []), (136, 35, 0, 0, [])], { frames := 1, cells := 0, slots := 0, locals := 24 })
noncomputable def xm_73 : xM := (⟨"AcidCityModel", "isFault", "(I)Z"⟩, prog_14_method_114_code, 1, (some .boolean), [(0, 3, 0, 0, []), (1, 9, 0, 0, []), (2, 1, 0, 0, []), (3, 1, 11, 0, [18542]), (6, 33, 3, 3, [0, 0, 16486, 0, 16487, 0, 16488, 9230]), (9, 35, 3, 0, [])], { frames := 1, cells := 0, slots := 0, locals := 25 })
noncomputable def xm_74 : xM := (⟨"AcidCity$Charter", "<init>", "()V"⟩, prog_3_method_1_code, 1, (none : Option FieldType), [(0, 3, 0, 1, []), (1, 34, 0, 0, [10259, 9245, 9246]), (4, 3, 0, 1, []), (5, 0, 12, 0, []), (7, 28, 100, 0, [9315]), (9, 26, 1, 0, [1, 10262]), (12, 3, 0, 1, []), (13, 0, 12, 0, []), (15, 28, 100, 0, [9315]), (17, 26, 1, 1, [1, 10264]), (20, 3, 0, 1, []), (21, 0, 12, 0, []), (23, 28, 100, 0, [9315]), (25, 26, 1, 2, [1, 10266]), (28, 3, 0, 1, []), (29, 0, 12, 0, []), (31, 28, 100, 0, [9315]), (33, 26, 1, 3, [1, 10268]), (36, 3, 0, 1, []), (37, 0, 12, 0, []), (39, 28, 100, 0, [9315]), (41, 26, 1, 4, [1, 10270]), (44, 3, 0, 1, []), (45, 0, 12, 0, []), (47, 0, 96, 0, []), (49, 29, 0, 0, [10260, 9315]), (53, 26, 1, 5, [1, 10271]), (56, 3, 0, 1, []), (57, 0, 3294967291, 0, [10261]), (59, 26, 1, 7, [0, 10274]), (62, 3, 0, 1, []), (63, 0, 24, 0, []), (65, 28, 100, 0, [9315]), (67, 26, 1, 9, [1, 10277]), (70, 3, 0, 1, []), (71, 0, 26, 0, []), (73, 28, 100, 0, [9315]), (75, 26, 1, 10, [1, 10279]), (78, 3, 0, 1, []), (79, 0, 96, 0, []), (81, 28, 100, 0, [9315]), (83, 26, 1, 11, [1, 10280]), (86, 3, 0, 1, []), (87, 0, 24, 0, []), (89, 28, 100, 0, [9315]), (91, 26, 1, 12, [1, 10281]), (94, 3, 0, 1, []), (95, 0, 24, 0, []), (97, 28, 100, 0, [9315]), (99, 26, 1, 13, [1, 10282]), (102, 36, 0, 0, [])], { frames := 1, cells := 23, slots := 1418, locals := 12 })
noncomputable def xm_75 : xM := (⟨"AcidCity$Desk", "<init>", "()V"⟩, prog_6_method_1_code, 1, (none : Option FieldType), [(0, 3, 0, 1, []), (1, 34, 0, 0, [10317, 9245, 9246]), (4, 3, 0, 1, []), (5, 0, 8, 0, []), (7, 0, 12, 0, []), (9, 29, 0, 0, [10318, 9315]), (13, 26, 4, 0, [1, 10322]), (16, 3, 0, 1, []), (17, 0, 8, 0, []), (19, 28, 100, 0, [9315]), (21, 26, 4, 1, [1, 10324]), (24, 3, 0, 1, []), (25, 0, 48, 0, []), (27, 28, 100, 0, [9315]), (29, 26, 4, 2, [1, 10326]), (32, 3, 0, 1, []), (33, 0, 4, 0, []), (34, 28, 100, 0, [9315]), (36, 26, 4, 3, [1, 10329]), (39, 3, 0, 1, []), (40, 0, 24, 0, []), (42, 0, 4, 0, []), (43, 29, 0, 0, [10318, 9315]), (47, 26, 4, 4, [1, 10332]), (50, 3, 0, 1, []), (51, 0, 6, 0, []), (53, 28, 100, 0, [9315]), (55, 26, 4, 5, [1, 10335]), (58, 3, 0, 1, []), (59, 0, 6, 0, []), (61, 28, 100, 0, [9315]), (63, 26, 4, 6, [1, 10336]), (66, 3, 0, 1, []), (67, 0, 6, 0, []), (69, 28, 100, 0, [9315]), (71, 26, 4, 7, [1, 10337]), (74, 3, 0, 1, []), (75, 0, 10, 0, []), (77, 28, 100, 0, [9315]), (79, 26, 4, 9, [1, 10340]), (82, 3, 0, 1, []), (83, 0, 10, 0, []), (85, 28, 100, 0, [9315]), (87, 26, 4, 10, [1, 10341]), (90, 3, 0, 1, []), (91, 0, 7, 0, []), (93, 28, 100, 0, [9315]), (95, 26, 4, 12, [1, 10344]), (98, 3, 0, 1, []), (99, 0, 7, 0, []), (101, 28, 100, 0, [9315]), (103, 26, 4, 13, [1, 10347]), (106, 3, 0, 1, []), (107, 0, 7, 0, []), (109, 28, 100, 0, [9315]), (111, 26, 4, 14, [1, 10349]), (114, 3, 0, 1, []), (115, 25, 4, 1, [10324]), (118, 0, 4294967295, 0, []), (119, 33, 2, 55, [0, 0, 10319, 0, 10320, 0, 10321, 9224]), (122, 36, 0, 0, [])], { frames := 1, cells := 45, slots := 343, locals := 23 })
noncomputable def xm_76 : xM := (⟨"AcidCity", "refusedProbe", "(I)I"⟩, prog_1_method_17_code, 2, (some .int), [(0, 3, 0, 1, []), (1, 25, 11, 0, [11303]), (4, 3, 1, 0, []), (5, 33, 2, 49, [3, 1, 11493, 0, 11494, 11495, 11496, 9218]), (8, 20, 1, 14, []), (11, 0, 3294967295, 0, [11359]), (13, 35, 0, 0, []), (14, 60, 0, 0, []), (15, 60, 0, 0, []), (18, 60, 0, 0, []), (21, 60, 0, 0, []), (24, 60, 0, 0, []), (25, 60, 0, 0, []), (26, 60, 0, 0, []), (28, 60, 0, 0, []), (31, 60, 0, 0, []), (33, 60, 0, 0, []), (34, 60, 0, 0, []), (35, 60, 0, 0, []), (38, 60, 0, 0, []), (41, 60, 0, 0, []), (42, 60, 0, 0, []), (45, 60, 0, 0, []), (48, 60, 0, 0, []), (49, 60, 0, 0, []), (52, 60, 0, 0, []), (55, 60, 0, 0, []), (56, 60, 0, 0, []), (59, 60, 0, 0, []), (62, 60, 0, 0, []), (64, 60, 0, 0, []), (67, 60, 0, 0, []), (68, 60, 0, 0, [])], { frames := 2, cells := 0, slots := 0, locals := 43 })
noncomputable def xm_77 : xM := (⟨"AcidCityModel", "stops", "(I)I"⟩, prog_14_method_36_code, 2, (some .int), [(0, 3, 0, 1, []), (1, 3, 1, 0, []), (2, 33, 2, 44, [13, 1, 16608, 0, 16610, 4104, 16611, 9230]), (5, 20, 1, 13, []), (8, 0, 3294967295, 0, [16489]), (10, 22, 0, 58, []), (13, 60, 0, 0, []), (14, 60, 0, 0, []), (15, 60, 0, 0, []), (18, 60, 0, 0, []), (20, 60, 0, 0, []), (23, 60, 0, 0, []), (25, 60, 0, 0, []), (28, 60, 0, 0, []), (29, 60, 0, 0, []), (30, 60, 0, 0, []), (33, 60, 0, 0, []), (36, 60, 0, 0, []), (37, 60, 0, 0, []), (40, 60, 0, 0, []), (41, 60, 0, 0, []), (42, 60, 0, 0, []), (45, 60, 0, 0, []), (47, 60, 0, 0, []), (48, 60, 0, 0, []), (49, 60, 0, 0, []), (52, 60, 0, 0, []), (54, 60, 0, 0, []), (57, 60, 0, 0, []), (58, 35, 0, 0, [])], { frames := 2, cells := 0, slots := 0, locals := 46 })
noncomputable def xm_78 : xM := (⟨"AcidCity$City", "level", "()I"⟩, prog_4_method_7_code, 1, (some .int), [(0, 3, 0, 1, []), (1, 25, 2, 5, [9439]), (4, 0, 10, 0, []), (6, 7, 0, 0, []), (7, 35, 0, 0, [])], { frames := 0, cells := 0, slots := 0, locals := 0 })
noncomputable def xm_79 : xM := (⟨"AcidCity$City", "sendReports", "()V"⟩, prog_4_method_25_code, 2, (none : Option FieldType), [(0, 0, 0, 0, []), (1, 4, 1, 0, []), (2, 3, 1, 0, []), (3, 3, 0, 1, []), (4, 25, 2, 0, [9425]), (7, 25, 0, 5, [9275]), (10, 21, 3, 46, []), (13, 60, 0, 0, []), (14, 60, 0, 0, []), (17, 60, 0, 0, []), (18, 60, 0, 0, []), (21, 60, 0, 0, []), (24, 60, 0, 0, []), (25, 60, 0, 0, []), (28, 60, 0, 0, []), (29, 60, 0, 0, []), (30, 60, 0, 0, []), (33, 60, 0, 0, []), (34, 60, 0, 0, []), (37, 60, 0, 0, []), (40, 60, 0, 0, []), (43, 60, 0, 0, []), (46, 36, 0, 0, [])], { frames := 0, cells := 0, slots := 0, locals := 0 })
noncomputable def xm_80 : xM := (⟨"AcidCity$Charter", "isText", "(I)Z"⟩, prog_3_method_2_code, 2, (some .boolean), [(0, 3, 1, 0, []), (1, 0, 0, 0, []), (2, 3, 0, 1, []), (3, 25, 1, 6, [10272]), (6, 0, 1, 0, []), (7, 6, 1, 0, []), (8, 33, 3, 19, [0, 0, 14349, 1, 11357, 0, 11358, 9217]), (11, 35, 3, 0, [])], { frames := 1, cells := 0, slots := 0, locals := 22 })
noncomputable def xm_81 : xM := (⟨"AcidCityModel", "isText", "(I)Z"⟩, prog_14_method_11_code, 2, (some .boolean), [(0, 3, 1, 0, []), (1, 9, 0, 0, []), (2, 1, 0, 0, []), (3, 3, 0, 1, []), (4, 25, 12, 0, [15576]), (7, 0, 9, 0, []), (9, 31, 100, 0, []), (10, 0, 1, 0, []), (11, 6, 1, 0, []), (12, 9, 0, 0, []), (13, 33, 3, 3, [0, 0, 16486, 0, 16487, 0, 16488, 9230]), (16, 35, 3, 0, [])], { frames := 1, cells := 0, slots := 0, locals := 25 })
noncomputable def xm_82 : xM := (⟨"AcidCity$Charter", "counting", "(II)I"⟩, prog_3_method_6_code, 6, (some .int), [(0, 0, 3294967291, 0, [10261]), (2, 4, 3, 0, []), (3, 0, 3294967291, 0, [10261]), (5, 4, 4, 0, []), (7, 0, 0, 0, []), (8, 4, 5, 0, []), (10, 3, 5, 0, []), (12, 3, 0, 1, []), (13, 25, 1, 6, [10272]), (16, 21, 3, 70, []), (19, 60, 0, 0, []), (20, 60, 0, 0, []), (23, 60, 0, 0, []), (25, 60, 0, 0, []), (26, 60, 0, 0, []), (27, 60, 0, 0, []), (30, 60, 0, 0, []), (31, 60, 0, 0, []), (33, 60, 0, 0, []), (34, 60, 0, 0, []), (37, 60, 0, 0, []), (40, 60, 0, 0, []), (41, 60, 0, 0, []), (44, 60, 0, 0, []), (46, 60, 0, 0, []), (47, 60, 0, 0, []), (49, 60, 0, 0, []), (52, 60, 0, 0, []), (54, 60, 0, 0, []), (55, 60, 0, 0, []), (56, 60, 0, 0, []), (59, 60, 0, 0, []), (61, 60, 0, 0, []), (62, 60, 0, 0, []), (64, 60, 0, 0, []), (67, 60, 0, 0, []), (70, 3, 3, 0, []), (71, 35, 0, 0, [])], { frames := 0, cells := 0, slots := 0, locals := 0 })
noncomputable def xm_83 : xM := (⟨"AcidCity$Charter", "nextShed", "(LAcidCity$City;)I"⟩, prog_3_method_26_code, 5, (some .int), [(0, 0, 3294967291, 0, [10261]), (2, 4, 2, 0, []), (3, 0, 0, 0, []), (4, 4, 3, 0, []), (5, 0, 0, 0, []), (6, 4, 4, 0, []), (8, 3, 4, 0, []), (10, 3, 1, 1, []), (11, 25, 2, 1, [9430]), (14, 25, 10, 13, [9360]), (17, 21, 3, 48, []), (20, 60, 0, 0, []), (21, 60, 0, 0, []), (24, 60, 0, 0, []), (26, 60, 0, 0, []), (27, 60, 0, 0, []), (28, 60, 0, 0, []), (31, 60, 0, 0, []), (33, 60, 0, 0, []), (34, 60, 0, 0, []), (35, 60, 0, 0, []), (38, 60, 0, 0, []), (40, 60, 0, 0, []), (41, 60, 0, 0, []), (42, 60, 0, 0, []), (45, 60, 0, 0, []), (48, 3, 2, 0, []), (49, 0, 3294967291, 0, [10261]), (51, 21, 0, 61, []), (54, 60, 0, 0, []), (55, 60, 0, 0, []), (58, 60, 0, 0, []), (59, 60, 0, 0, []), (60, 60, 0, 0, []), (61, 3, 2, 0, []), (62, 35, 0, 0, [])], { frames := 0, cells := 0, slots := 0, locals := 0 })
noncomputable def xm_84 : xM := (⟨"AcidCityModel", "isTest", "(I)Z"⟩, prog_14_method_115_code, 1, (some .boolean), [(0, 3, 0, 0, []), (1, 9, 0, 0, []), (2, 1, 0, 0, []), (3, 1, 7, 0, [18538]), (6, 33, 3, 3, [0, 0, 16486, 0, 16487, 0, 16488, 9230]), (9, 35, 3, 0, [])], { frames := 1, cells := 0, slots := 0, locals := 25 })
noncomputable def xm_85 : xM := (⟨"AcidCity$Tape", "keyBetween", "(II)I"⟩, prog_11_method_9_code, 4, (some .int), [(0, 0, 0, 0, []), (1, 60, 0, 0, []), (2, 60, 0, 0, []), (3, 60, 0, 0, []), (5, 60, 0, 0, []), (8, 60, 0, 0, []), (9, 60, 0, 0, []), (10, 60, 0, 0, []), (13, 60, 0, 0, []), (14, 60, 0, 0, []), (15, 60, 0, 0, []), (18, 60, 0, 0, []), (21, 60, 0, 0, []), (22, 60, 0, 0, []), (23, 60, 0, 0, []), (26, 60, 0, 0, []), (29, 60, 0, 0, []), (31, 60, 0, 0, [])], { frames := 3, cells := 0, slots := 0, locals := 64 })
noncomputable def xm_86 : xM := (⟨"AcidCity$Tape", "behindBlanks", "(I)I"⟩, prog_11_method_5_code, 3, (some .int), [(0, 3, 1, 0, []), (1, 4, 2, 0, []), (2, 3, 2, 0, []), (3, 3, 0, 1, []), (4, 25, 9, 1, [10394]), (7, 21, 3, 27, []), (10, 60, 0, 0, []), (11, 60, 0, 0, []), (14, 60, 0, 0, []), (15, 60, 0, 0, []), (16, 60, 0, 0, []), (18, 60, 0, 0, []), (21, 60, 0, 0, []), (24, 60, 0, 0, []), (27, 3, 2, 0, []), (28, 35, 0, 0, [])], { frames := 0, cells := 0, slots := 0, locals := 0 })
noncomputable def xm_87 : xM := (⟨"AcidCity$Tape", "behindWord", "(I)I"⟩, prog_11_method_6_code, 3, (some .int), [(0, 3, 1, 0, []), (1, 4, 2, 0, []), (2, 3, 2, 0, []), (3, 3, 0, 1, []), (4, 25, 9, 1, [10394]), (7, 21, 3, 48, []), (10, 60, 0, 0, []), (11, 60, 0, 0, []), (14, 60, 0, 0, []), (15, 60, 0, 0, []), (16, 60, 0, 0, []), (19, 60, 0, 0, []), (22, 60, 0, 0, []), (23, 60, 0, 0, []), (24, 60, 0, 0, []), (27, 60, 0, 0, []), (30, 60, 0, 0, []), (31, 60, 0, 0, []), (34, 60, 0, 0, []), (35, 60, 0, 0, []), (36, 60, 0, 0, []), (39, 60, 0, 0, []), (42, 60, 0, 0, []), (45, 60, 0, 0, []), (48, 3, 2, 0, []), (49, 3, 0, 1, []), (50, 25, 9, 1, [10394]), (53, 21, 3, 94, []), (56, 60, 0, 0, []), (57, 60, 0, 0, []), (60, 60, 0, 0, []), (61, 60, 0, 0, []), (62, 60, 0, 0, []), (65, 60, 0, 0, []), (68, 60, 0, 0, []), (69, 60, 0, 0, []), (70, 60, 0, 0, []), (73, 60, 0, 0, []), (76, 60, 0, 0, []), (77, 60, 0, 0, []), (80, 60, 0, 0, []), (81, 60, 0, 0, []), (82, 60, 0, 0, []), (85, 60, 0, 0, []), (88, 60, 0, 0, []), (91, 60, 0, 0, []), (94, 3, 2, 0, []), (95, 3, 0, 1, []), (96, 25, 9, 1, [10394]), (99, 21, 3, 105, []), (102, 60, 0, 0, []), (105, 3, 2, 0, []), (106, 35, 0, 0, [])], { frames := 0, cells := 0, slots := 0, locals := 0 })
noncomputable def xm_88 : xM := (⟨"AcidCity$Tape", "compile", "()I"⟩, prog_11_method_4_code, 6, (some .int), [(0, 3, 0, 1, []), (1, 0, 0, 0, []), (2, 26, 9, 4, [0, 10401]), (5, 3, 0, 1, []), (6, 0, 0, 0, []), (7, 26, 9, 5, [0, 10403]), (10, 3, 0, 1, []), (11, 0, 0, 0, []), (12, 26, 9, 7, [0, 10405]), (15, 3, 0, 1, []), (16, 0, 0, 0, []), (17, 26, 9, 8, [0, 10406]), (20, 3, 0, 1, []), (21, 0, 0, 0, []), (22, 26, 9, 9, [0, 10407]), (25, 3, 0, 1, []), (26, 0, 1, 0, []), (27, 26, 9, 10, [3, 10408]), (30, 3, 0, 1, []), (31, 0, 0, 0, []), (32, 33, 2, 86, [10, 1, 13368, 0, 13370, 1027, 13371, 9225]), (35, 4, 1, 0, []), (36, 3, 0, 1, []), (37, 3, 1, 0, []), (38, 33, 2, 87, [10, 1, 13372, 0, 13374, 1028, 13375, 9225]), (41, 4, 2, 0, []), (42, 3, 0, 1, []), (43, 3, 0, 1, []), (44, 3, 1, 0, []), (45, 3, 2, 0, []), (46, 33, 3, 85, [10, 1, 13382, 0, 13384, 1029, 13385, 9225]), (49, 26, 9, 2, [0, 10397]), (52, 3, 0, 1, []), (53, 25, 9, 2, [10397]), (56, 0, 3294967291, 0, [13447]), (58, 21, 1, 63, []), (61, 3, 1, 0, []), (62, 35, 0, 0, []), (63, 60, 0, 0, []), (64, 60, 0, 0, []), (65, 60, 0, 0, []), (68, 60, 0, 0, []), (69, 60, 0, 0, []), (70, 60, 0, 0, []), (71, 60, 0, 0, []), (72, 60, 0, 0, []), (74, 60, 0, 0, []), (77, 60, 0, 0, []), (78, 60, 0, 0, []), (79, 60, 0, 0, []), (82, 60, 0, 0, []), (85, 60, 0, 0, []), (86, 60, 0, 0, []), (87, 60, 0, 0, []), (90, 60, 0, 0, []), (91, 60, 0, 0, []), (94, 60, 0, 0, []), (95, 60, 0, 0, []), (96, 60, 0, 0, []), (99, 60, 0, 0, []), (102, 60, 0, 0, []), (103, 60, 0, 0, []), (106, 60, 0, 0, []), (107, 60, 0, 0, []), (109, 60, 0, 0, []), (110, 60, 0, 0, []), (111, 60, 0, 0, []), (114, 60, 0, 0, []), (116, 60, 0, 0, []), (118, 60, 0, 0, []), (121, 60, 0, 0, []), (122, 60, 0, 0, []), (125, 60, 0, 0, []), (128, 60, 0, 0, []), (129, 60, 0, 0, []), (130, 60, 0, 0, []), (132, 60, 0, 0, []), (135, 60, 0, 0, []), (138, 60, 0, 0, []), (141, 60, 0, 0, []), (142, 60, 0, 0, []), (143, 60, 0, 0, []), (146, 60, 0, 0, []), (147, 60, 0, 0, []), (148, 60, 0, 0, []), (151, 60, 0, 0, []), (154, 60, 0, 0, []), (155, 60, 0, 0, []), (156, 60, 0, 0, []), (157, 60, 0, 0, []), (159, 60, 0, 0, []), (162, 60, 0, 0, []), (163, 60, 0, 0, []), (166, 60, 0, 0, []), (169, 60, 0, 0, []), (170, 60, 0, 0, []), (173, 60, 0, 0, []), (176, 60, 0, 0, []), (177, 60, 0, 0, []), (180, 60, 0, 0, []), (183, 60, 0, 0, []), (184, 60, 0, 0, []), (187, 60, 0, 0, []), (188, 60, 0, 0, []), (189, 60, 0, 0, []), (190, 60, 0, 0, []), (193, 60, 0, 0, []), (195, 60, 0, 0, [])], { frames := 4, cells := 0, slots := 0, locals := 87 })
noncomputable def xm_89 : xM := (⟨"AcidCityModel", "textAt", "(I)I"⟩, prog_14_method_7_code, 2, (some .int), [(0, 0, 1210, 0, []), (3, 0, 200, 0, []), (6, 3, 1, 0, []), (7, 6, 2, 0, []), (8, 6, 0, 0, []), (9, 35, 0, 0, [])], { frames := 0, cells := 0, slots := 0, locals := 0 })
noncomputable def xm_90 : xM := (⟨"AcidCityModel", "next", "()V"⟩, prog_14_method_73_code, 3, (none : Option FieldType), [(0, 3, 0, 1, []), (1, 25, 12, 10, [15586]), (4, 20, 5, 27, []), (7, 60, 0, 0, []), (8, 60, 0, 0, []), (11, 60, 0, 0, []), (12, 60, 0, 0, []), (15, 60, 0, 0, []), (16, 60, 0, 0, []), (19, 60, 0, 0, []), (20, 60, 0, 0, []), (23, 60, 0, 0, []), (24, 60, 0, 0, []), (27, 0, 0, 0, []), (28, 4, 1, 0, []), (29, 3, 0, 1, []), (30, 25, 12, 10, [15586]), (33, 4, 2, 0, []), (34, 3, 0, 1, []), (35, 25, 12, 10, [15586]), (38, 3, 0, 1, []), (39, 25, 12, 8, [15584]), (42, 21, 3, 72, []), (45, 60, 0, 0, []), (46, 60, 0, 0, []), (49, 60, 0, 0, []), (50, 60, 0, 0, []), (53, 60, 0, 0, []), (54, 60, 0, 0, []), (56, 60, 0, 0, []), (59, 60, 0, 0, []), (60, 60, 0, 0, []), (61, 60, 0, 0, []), (64, 60, 0, 0, []), (65, 60, 0, 0, []), (66, 60, 0, 0, []), (69, 60, 0, 0, []), (72, 3, 1, 0, []), (73, 20, 0, 88, []), (76, 60, 0, 0, []), (77, 60, 0, 0, []), (78, 60, 0, 0, []), (81, 60, 0, 0, []), (84, 60, 0, 0, []), (85, 60, 0, 0, []), (88, 0, 0, 0, []), (89, 4, 1, 0, []), (90, 3, 0, 1, []), (91, 3, 0, 1, []), (92, 25, 12, 10, [15586]), (95, 26, 12, 9, [0, 15585]), (98, 3, 0, 1, []), (99, 25, 12, 9, [15585]), (102, 3, 0, 1, []), (103, 25, 12, 8, [15584]), (106, 21, 1, 117, []), (109, 3, 0, 1, []), (110, 0, 0, 0, []), (111, 26, 12, 11, [0, 15587]), (114, 22, 0, 339, []), (117, 60, 0, 0, []), (118, 60, 0, 0, []), (119, 60, 0, 0, []), (122, 60, 0, 0, []), (125, 60, 0, 0, []), (128, 60, 0, 0, []), (129, 60, 0, 0, []), (130, 60, 0, 0, []), (133, 60, 0, 0, []), (136, 60, 0, 0, []), (139, 60, 0, 0, []), (140, 60, 0, 0, []), (141, 60, 0, 0, []), (144, 60, 0, 0, []), (145, 60, 0, 0, []), (146, 60, 0, 0, []), (149, 60, 0, 0, []), (152, 60, 0, 0, []), (153, 60, 0, 0, []), (154, 60, 0, 0, []), (157, 60, 0, 0, []), (158, 60, 0, 0, []), (161, 60, 0, 0, []), (162, 60, 0, 0, []), (165, 60, 0, 0, []), (166, 60, 0, 0, []), (167, 60, 0, 0, []), (170, 60, 0, 0, []), (171, 60, 0, 0, []), (174, 60, 0, 0, []), (175, 60, 0, 0, []), (176, 60, 0, 0, []), (179, 60, 0, 0, []), (180, 60, 0, 0, []), (183, 60, 0, 0, []), (184, 60, 0, 0, []), (187, 60, 0, 0, []), (188, 60, 0, 0, []), (191, 60, 0, 0, []), (192, 60, 0, 0, []), (195, 60, 0, 0, []), (198, 60, 0, 0, []), (199, 60, 0, 0, []), (200, 60, 0, 0, []), (203, 60, 0, 0, []), (206, 60, 0, 0, []), (209, 60, 0, 0, []), (210, 60, 0, 0, []), (211, 60, 0, 0, []), (214, 60, 0, 0, []), (215, 60, 0, 0, []), (216, 60, 0, 0, []), (219, 60, 0, 0, []), (222, 60, 0, 0, []), (225, 60, 0, 0, []), (226, 60, 0, 0, []), (227, 60, 0, 0, []), (230, 60, 0, 0, []), (231, 60, 0, 0, []), (234, 60, 0, 0, []), (235, 60, 0, 0, []), (236, 60, 0, 0, []), (239, 60, 0, 0, []), (241, 60, 0, 0, []), (242, 60, 0, 0, []), (245, 60, 0, 0, []), (246, 60, 0, 0, []), (247, 60, 0, 0, []), (250, 60, 0, 0, []), (251, 60, 0, 0, []), (254, 60, 0, 0, []), (255, 60, 0, 0, []), (256, 60, 0, 0, []), (258, 60, 0, 0, []), (259, 60, 0, 0, []), (262, 60, 0, 0, []), (263, 60, 0, 0, []), (266, 60, 0, 0, []), (269, 60, 0, 0, []), (270, 60, 0, 0, []), (271, 60, 0, 0, []), (274, 60, 0, 0, []), (275, 60, 0, 0, []), (276, 60, 0, 0, []), (279, 60, 0, 0, []), (282, 60, 0, 0, []), (283, 60, 0, 0, []), (284, 60, 0, 0, []), (287, 60, 0, 0, []), (288, 60, 0, 0, []), (291, 60, 0, 0, []), (292, 60, 0, 0, []), (295, 60, 0, 0, []), (296, 60, 0, 0, []), (297, 60, 0, 0, []), (300, 60, 0, 0, []), (301, 60, 0, 0, []), (304, 60, 0, 0, []), (305, 60, 0, 0, []), (308, 60, 0, 0, []), (311, 60, 0, 0, []), (312, 60, 0, 0, []), (313, 60, 0, 0, []), (316, 60, 0, 0, []), (317, 60, 0, 0, []), (318, 60, 0, 0, []), (321, 60, 0, 0, []), (322, 60, 0, 0, []), (325, 60, 0, 0, []), (326, 60, 0, 0, []), (329, 60, 0, 0, []), (330, 60, 0, 0, []), (331, 60, 0, 0, []), (334, 60, 0, 0, []), (335, 60, 0, 0, []), (336, 60, 0, 0, []), (339, 36, 0, 0, [])], { frames := 0, cells := 0, slots := 0, locals := 0 })
noncomputable def xm_91 : xM := (⟨"AcidCityModel", "key", "()I"⟩, prog_14_method_76_code, 1, (some .int), [(0, 3, 0, 1, []), (1, 0, 115, 0, []), (3, 0, 104, 0, []), (5, 0, 97, 0, []), (7, 0, 114, 0, []), (9, 0, 101, 0, []), (11, 33, 6, 46, [13, 1, 17617, 0, 17619, 6152, 17620, 9230]), (14, 20, 0, 21, []), (17, 60, 0, 0, []), (18, 60, 0, 0, []), (21, 3, 0, 1, []), (22, 0, 111, 0, []), (24, 0, 112, 0, []), (26, 0, 101, 0, []), (28, 0, 110, 0, []), (30, 0, 0, 0, []), (31, 33, 6, 46, [13, 1, 17617, 0, 17619, 6152, 17620, 9230]), (34, 20, 0, 41, []), (37, 60, 0, 0, []), (38, 60, 0, 0, []), (41, 3, 0, 1, []), (42, 0, 115, 0, []), (44, 0, 104, 0, []), (46, 0, 101, 0, []), (48, 0, 100, 0, []), (50, 0, 0, 0, []), (51, 33, 6, 46, [13, 1, 17617, 0, 17619, 6152, 17620, 9230]), (54, 20, 0, 61, []), (57, 60, 0, 0, []), (58, 60, 0, 0, []), (61, 3, 0, 1, []), (62, 0, 98, 0, []), (64, 0, 105, 0, []), (66, 0, 114, 0, []), (68, 0, 116, 0, []), (70, 0, 104, 0, []), (72, 33, 6, 46, [13, 1, 17617, 0, 17619, 6152, 17620, 9230]), (75, 20, 0, 82, []), (78, 60, 0, 0, []), (79, 60, 0, 0, []), (82, 3, 0, 1, []), (83, 0, 118, 0, []), (85, 0, 111, 0, []), (87, 0, 116, 0, []), (89, 0, 101, 0, []), (91, 0, 0, 0, []), (92, 33, 6, 46, [13, 1, 17617, 0, 17619, 6152, 17620, 9230]), (95, 20, 0, 102, []), (98, 60, 0, 0, []), (99, 60, 0, 0, []), (102, 3, 0, 1, []), (103, 0, 112, 0, []), (105, 0, 97, 0, []), (107, 0, 115, 0, []), (109, 0, 115, 0, []), (111, 0, 0, 0, []), (112, 33, 6, 46, [13, 1, 17617, 0, 17619, 6152, 17620, 9230]), (115, 20, 0, 122, []), (118, 60, 0, 0, []), (119, 60, 0, 0, []), (122, 0, 4294967295, 0, []), (123, 35, 0, 0, [])], { frames := 1, cells := 0, slots := 0, locals := 27 })
noncomputable def xm_92 : xM := (⟨"AcidCityModel", "parse", "()I"⟩, prog_14_method_85_code, 3, (some .int), [(0, 3, 0, 1, []), (1, 0, 0, 0, []), (2, 26, 12, 10, [0, 15586]), (5, 3, 0, 1, []), (6, 0, 3, 0, []), (7, 26, 12, 11, [0, 15587]), (10, 3, 0, 1, []), (11, 0, 0, 0, []), (12, 26, 12, 14, [0, 15590]), (15, 3, 0, 1, []), (16, 0, 0, 0, []), (17, 26, 12, 15, [0, 15591]), (20, 3, 0, 1, []), (21, 0, 0, 0, []), (22, 26, 12, 16, [0, 15592]), (25, 3, 0, 1, []), (26, 0, 0, 0, []), (27, 26, 12, 18, [0, 15594]), (30, 3, 0, 1, []), (31, 3, 0, 1, []), (32, 25, 12, 0, [15576]), (35, 0, 9, 0, []), (37, 31, 100, 0, []), (38, 0, 12, 0, []), (40, 21, 3, 59, []), (43, 3, 0, 1, []), (44, 3, 0, 1, []), (45, 25, 12, 0, [15576]), (48, 0, 9, 0, []), (50, 31, 100, 0, []), (51, 33, 2, 89, [13, 1, 16560, 0, 16562, 4097, 16563, 9230]), (54, 0, 5, 0, []), (55, 6, 0, 0, []), (56, 22, 0, 62, []), (59, 60, 0, 0, []), (62, 26, 12, 17, [0, 15593]), (65, 3, 0, 1, []), (66, 33, 1, 90, [13, 1, 17597, 0, 17599, 6148, 17600, 9230]), (69, 3, 0, 1, []), (70, 33, 1, 91, [13, 1, 17613, 0, 17615, 6151, 17616, 9230]), (73, 4, 1, 0, []), (74, 3, 1, 0, []), (75, 20, 2, 82, []), (78, 60, 0, 0, []), (79, 60, 0, 0, []), (82, 0, 0, 0, []), (83, 4, 2, 0, []), (84, 3, 2, 0, []), (85, 20, 0, 113, []), (88, 60, 0, 0, []), (89, 60, 0, 0, []), (92, 60, 0, 0, []), (93, 60, 0, 0, []), (94, 60, 0, 0, []), (97, 60, 0, 0, []), (100, 60, 0, 0, []), (101, 60, 0, 0, []), (104, 60, 0, 0, []), (107, 60, 0, 0, []), (108, 60, 0, 0, []), (111, 60, 0, 0, []), (112, 60, 0, 0, []), (113, 3, 0, 1, []), (114, 0, 0, 0, []), (115, 26, 12, 8, [0, 15584]), (118, 3, 2, 0, []), (119, 20, 0, 126, []), (122, 60, 0, 0, []), (123, 60, 0, 0, []), (126, 0, 4294967295, 0, []), (127, 35, 0, 0, [])], { frames := 2, cells := 0, slots := 0, locals := 47 })
noncomputable def xm_93 : xM := (⟨"AcidCity", "checkDay", "(II)I"⟩, prog_1_method_66_code, 6, (some .int), [(0, 3, 0, 1, []), (1, 25, 11, 6, [11309]), (4, 20, 1, 10, []), (7, 0, 3294967294, 0, [11464]), (9, 35, 0, 0, []), (10, 60, 0, 0, []), (11, 60, 0, 0, []), (14, 60, 0, 0, []), (15, 60, 0, 0, []), (18, 60, 0, 0, []), (21, 60, 0, 0, []), (22, 60, 0, 0, []), (23, 60, 0, 0, []), (24, 60, 0, 0, []), (25, 60, 0, 0, []), (26, 60, 0, 0, []), (27, 60, 0, 0, []), (30, 60, 0, 0, []), (31, 60, 0, 0, []), (32, 60, 0, 0, []), (34, 60, 0, 0, []), (36, 60, 0, 0, []), (37, 60, 0, 0, []), (40, 60, 0, 0, []), (41, 60, 0, 0, []), (43, 60, 0, 0, []), (45, 60, 0, 0, []), (47, 60, 0, 0, []), (50, 60, 0, 0, []), (51, 60, 0, 0, []), (54, 60, 0, 0, []), (57, 60, 0, 0, []), (60, 60, 0, 0, []), (63, 60, 0, 0, []), (64, 60, 0, 0, []), (67, 60, 0, 0, []), (68, 60, 0, 0, []), (70, 60, 0, 0, []), (71, 60, 0, 0, []), (72, 60, 0, 0, []), (75, 60, 0, 0, []), (78, 60, 0, 0, []), (79, 60, 0, 0, []), (80, 60, 0, 0, []), (83, 60, 0, 0, []), (84, 60, 0, 0, []), (86, 60, 0, 0, []), (87, 60, 0, 0, []), (88, 60, 0, 0, []), (89, 60, 0, 0, []), (90, 60, 0, 0, []), (93, 60, 0, 0, []), (96, 60, 0, 0, []), (99, 60, 0, 0, []), (100, 60, 0, 0, []), (103, 60, 0, 0, []), (106, 60, 0, 0, []), (107, 60, 0, 0, []), (108, 60, 0, 0, []), (109, 60, 0, 0, []), (110, 60, 0, 0, []), (111, 60, 0, 0, []), (114, 60, 0, 0, [])], { frames := 0, cells := 0, slots := 0, locals := 0 })
noncomputable def xm_94 : xM := (⟨"AcidCity", "checkOrder", "(II)I"⟩, prog_1_method_65_code, 6, (some .int), [(0, 3, 0, 1, []), (1, 25, 11, 12, [11315]), (4, 3, 0, 1, []), (5, 25, 11, 2, [11305]), (8, 3, 1, 0, []), (9, 0, 20000, 0, []), (12, 33, 4, 60, [7, 1, 15466, 0, 15467, 15468, 15469, 9229]), (15, 4, 3, 0, []), (16, 3, 3, 0, []), (17, 20, 3, 22, []), (20, 60, 0, 0, []), (21, 60, 0, 0, []), (22, 0, 0, 0, []), (23, 4, 4, 0, []), (25, 0, 0, 0, []), (26, 4, 5, 0, []), (28, 3, 5, 0, []), (30, 3, 0, 1, []), (31, 25, 11, 2, [11305]), (34, 25, 4, 15, [10353]), (37, 21, 3, 101, []), (40, 60, 0, 0, []), (42, 60, 0, 0, []), (43, 60, 0, 0, []), (46, 60, 0, 0, []), (49, 60, 0, 0, []), (50, 60, 0, 0, []), (53, 60, 0, 0, []), (56, 60, 0, 0, []), (58, 60, 0, 0, []), (59, 60, 0, 0, []), (60, 60, 0, 0, []), (61, 60, 0, 0, []), (63, 60, 0, 0, []), (64, 60, 0, 0, []), (67, 60, 0, 0, []), (68, 60, 0, 0, []), (70, 60, 0, 0, []), (71, 60, 0, 0, []), (72, 60, 0, 0, []), (75, 60, 0, 0, []), (78, 60, 0, 0, []), (80, 60, 0, 0, []), (81, 60, 0, 0, []), (82, 60, 0, 0, []), (83, 60, 0, 0, []), (86, 60, 0, 0, []), (87, 60, 0, 0, []), (89, 60, 0, 0, []), (90, 60, 0, 0, []), (91, 60, 0, 0, []), (92, 60, 0, 0, []), (94, 60, 0, 0, []), (95, 60, 0, 0, []), (98, 60, 0, 0, []), (101, 3, 0, 1, []), (102, 0, 2, 0, []), (103, 3, 0, 1, []), (104, 25, 11, 2, [11305]), (107, 25, 4, 15, [10353]), (110, 6, 2, 0, []), (111, 3, 2, 0, []), (112, 33, 3, 32, [12, 1, 15498, 0, 15500, 3074, 15501, 9217]), (115, 35, 0, 0, [])], { frames := 5, cells := 0, slots := 0, locals := 157 })
noncomputable def xm_95 : xM := (⟨"AcidCity", "checkLoads", "(III)I"⟩, prog_1_method_64_code, 7, (some .int), [(0, 3, 0, 1, []), (1, 25, 11, 11, [11314]), (4, 3, 0, 1, []), (5, 25, 11, 2, [11305]), (8, 3, 1, 0, []), (9, 3, 2, 0, []), (10, 33, 4, 31, [4, 1, 15390, 0, 15391, 15392, 15393, 9228]), (13, 0, 3294967291, 0, [13549]), (16, 21, 1, 23, []), (19, 60, 0, 0, []), (22, 60, 0, 0, []), (23, 3, 2, 0, []), (24, 4, 4, 0, []), (26, 0, 0, 0, []), (27, 4, 5, 0, []), (29, 3, 5, 0, []), (31, 3, 1, 0, []), (32, 21, 3, 92, []), (35, 3, 0, 1, []), (36, 25, 11, 11, [11314]), (39, 3, 2, 0, []), (40, 3, 5, 0, []), (42, 33, 3, 30, [4, 1, 15403, 0, 15404, 15405, 15406, 9228]), (45, 4, 6, 0, []), (47, 3, 4, 0, []), (49, 3, 0, 1, []), (50, 25, 11, 2, [11305]), (53, 25, 4, 3, [10331]), (56, 3, 6, 0, []), (58, 31, 100, 0, []), (59, 6, 1, 0, []), (60, 4, 4, 0, []), (62, 3, 0, 1, []), (63, 25, 11, 15, [11318]), (66, 0, 2, 0, []), (67, 3, 5, 0, []), (69, 6, 2, 0, []), (70, 3, 6, 0, []), (72, 32, 100, 0, []), (73, 3, 0, 1, []), (74, 25, 11, 15, [11318]), (77, 0, 2, 0, []), (78, 3, 5, 0, []), (80, 6, 2, 0, []), (81, 0, 1, 0, []), (82, 6, 0, 0, []), (83, 3, 4, 0, []), (85, 32, 100, 0, []), (86, 5, 5, 1, []), (89, 22, 0, 29, []), (92, 3, 0, 1, []), (93, 0, 2, 0, []), (94, 3, 1, 0, []), (95, 6, 2, 0, []), (96, 3, 3, 0, []), (97, 33, 3, 32, [12, 1, 15498, 0, 15500, 3074, 15501, 9217]), (100, 35, 0, 0, [])], { frames := 2, cells := 0, slots := 0, locals := 54 })
noncomputable def xm_96 : xM := (⟨"AcidCity$Tape", "<init>", "()V"⟩, prog_11_method_1_code, 1, (none : Option FieldType), [(0, 3, 0, 1, []), (1, 34, 0, 0, [10392, 9245, 9246]), (4, 3, 0, 1, []), (5, 0, 96, 0, []), (7, 28, 100, 0, [9315]), (9, 26, 9, 0, [1, 10393]), (12, 3, 0, 1, []), (13, 0, 96, 0, []), (15, 28, 100, 0, [9315]), (17, 26, 9, 3, [1, 10398]), (20, 3, 0, 1, []), (21, 0, 96, 0, []), (23, 28, 100, 0, [9315]), (25, 26, 9, 6, [1, 10404]), (28, 36, 0, 0, [])], { frames := 1, cells := 3, slots := 288, locals := 12 })
noncomputable def xm_97 : xM := (⟨"AcidCity$Gauges", "<init>", "()V"⟩, prog_7_method_1_code, 1, (none : Option FieldType), [(0, 3, 0, 1, []), (1, 34, 0, 0, [10437, 9245, 9246]), (4, 3, 0, 1, []), (5, 0, 20, 0, []), (7, 28, 100, 0, [9315]), (9, 26, 5, 0, [1, 10439]), (12, 3, 0, 1, []), (13, 0, 20, 0, []), (15, 28, 100, 0, [9315]), (17, 26, 5, 1, [1, 10440]), (20, 3, 0, 1, []), (21, 0, 20, 0, []), (23, 0, 30, 0, []), (25, 29, 0, 0, [10438, 9315]), (29, 26, 5, 2, [1, 10441]), (32, 36, 0, 0, [])], { frames := 1, cells := 23, slots := 660, locals := 12 })
noncomputable def xm_98 : xM := (⟨"AcidCity$Rounds", "<init>", "()V"⟩, prog_10_method_1_code, 1, (none : Option FieldType), [(0, 3, 0, 1, []), (1, 34, 0, 0, [10454, 9245, 9246]), (4, 3, 0, 1, []), (5, 0, 24, 0, []), (7, 28, 100, 0, [9315]), (9, 26, 8, 2, [1, 10459]), (12, 3, 0, 1, []), (13, 0, 24, 0, []), (15, 28, 100, 0, [9315]), (17, 26, 8, 3, [1, 10460]), (20, 3, 0, 1, []), (21, 0, 24, 0, []), (23, 28, 100, 0, [9315]), (25, 26, 8, 4, [1, 10461]), (28, 3, 0, 1, []), (29, 0, 49, 0, []), (31, 28, 100, 0, [9315]), (33, 26, 8, 5, [1, 10462]), (36, 36, 0, 0, [])], { frames := 1, cells := 4, slots := 121, locals := 12 })
noncomputable def xm_99 : xM := (⟨"AcidCity$Dark", "<init>", "()V"⟩, prog_5_method_1_code, 1, (none : Option FieldType), [(0, 3, 0, 1, []), (1, 34, 0, 0, [11271, 9245, 9246]), (4, 3, 0, 1, []), (5, 0, 301, 0, []), (8, 28, 100, 0, [9315]), (10, 26, 3, 0, [1, 11272]), (13, 3, 0, 1, []), (14, 0, 301, 0, []), (17, 28, 101, 2, [11279]), (19, 26, 3, 1, [1, 11273]), (22, 36, 0, 0, [])], { frames := 1, cells := 2, slots := 602, locals := 12 })
noncomputable def xm_100 : xM := (⟨"AcidCity$Order", "<init>", "()V"⟩, prog_8_method_1_code, 1, (none : Option FieldType), [(0, 3, 0, 1, []), (1, 34, 0, 0, [11285, 9245, 9246]), (4, 3, 0, 1, []), (5, 0, 7, 0, []), (7, 28, 100, 0, [9315]), (9, 26, 6, 0, [1, 11286]), (12, 3, 0, 1, []), (13, 0, 7, 0, []), (15, 28, 100, 0, [9315]), (17, 26, 6, 1, [1, 11288]), (20, 36, 0, 0, [])], { frames := 1, cells := 2, slots := 14, locals := 12 })
noncomputable def xm_101 : xM := (⟨"AcidCity$Cells", "addCell", "(I)I"⟩, prog_2_method_2_code, 3, (some .int), [(0, 3, 0, 1, []), (1, 25, 0, 5, [9274]), (4, 4, 2, 0, []), (5, 3, 2, 0, []), (6, 0, 20, 0, []), (8, 21, 2, 14, []), (11, 60, 0, 0, []), (13, 60, 0, 0, []), (14, 3, 0, 1, []), (15, 25, 0, 0, [9261]), (18, 3, 2, 0, []), (19, 3, 1, 0, []), (20, 32, 100, 0, []), (21, 3, 0, 1, []), (22, 25, 0, 1, [9264]), (25, 3, 2, 0, []), (26, 0, 0, 0, []), (27, 32, 100, 0, []), (28, 3, 0, 1, []), (29, 25, 0, 2, [9266]), (32, 3, 2, 0, []), (33, 31, 102, 0, []), (34, 0, 0, 0, []), (35, 33, 2, 55, [0, 0, 11365, 0, 10320, 0, 10321, 9224]), (38, 3, 0, 1, []), (39, 25, 0, 3, [9269]), (42, 3, 2, 0, []), (43, 31, 102, 0, []), (44, 0, 0, 0, []), (45, 33, 2, 55, [0, 0, 11365, 0, 10320, 0, 10321, 9224]), (48, 3, 0, 1, []), (49, 25, 0, 4, [9272]), (52, 3, 2, 0, []), (53, 31, 102, 0, []), (54, 0, 3294967291, 0, [11366]), (56, 33, 2, 55, [0, 0, 11365, 0, 10320, 0, 10321, 9224]), (59, 3, 0, 1, []), (60, 3, 2, 0, []), (61, 0, 1, 0, []), (62, 6, 0, 0, []), (63, 26, 0, 5, [0, 9274]), (66, 3, 2, 0, []), (67, 35, 0, 0, [])], { frames := 1, cells := 0, slots := 0, locals := 23 })
noncomputable def xm_102 : xM := (⟨"AcidCity$Gauges", "forget", "(I)V"⟩, prog_7_method_3_code, 2, (none : Option FieldType), [(0, 3, 0, 1, []), (1, 25, 5, 0, [10439]), (4, 3, 1, 0, []), (5, 0, 4294967295, 0, []), (6, 32, 100, 0, []), (7, 3, 0, 1, []), (8, 25, 5, 1, [10440]), (11, 3, 1, 0, []), (12, 0, 0, 0, []), (13, 32, 100, 0, []), (14, 36, 0, 0, [])], { frames := 0, cells := 0, slots := 0, locals := 0 })
noncomputable def xm_103 : xM := (⟨"AcidCity$City", "isLock", "(I)Z"⟩, prog_4_method_3_code, 2, (some .boolean), [(0, 3, 1, 0, []), (1, 0, 0, 0, []), (2, 3, 0, 1, []), (3, 25, 2, 0, [9425]), (6, 25, 0, 10, [9283]), (9, 0, 1, 0, []), (10, 6, 1, 0, []), (11, 33, 3, 19, [0, 0, 11379, 1, 11357, 0, 11358, 9217]), (14, 35, 3, 0, [])], { frames := 1, cells := 0, slots := 0, locals := 22 })
noncomputable def xm_104 : xM := (⟨"AcidCityModel", "isLock", "(I)Z"⟩, prog_14_method_25_code, 2, (some .boolean), [(0, 3, 1, 0, []), (1, 9, 0, 0, []), (2, 1, 0, 0, []), (3, 3, 0, 1, []), (4, 25, 12, 0, [15576]), (7, 0, 6, 0, []), (9, 31, 100, 0, []), (10, 0, 1, 0, []), (11, 6, 1, 0, []), (12, 9, 0, 0, []), (13, 33, 3, 3, [0, 0, 16486, 0, 16487, 0, 16488, 9230]), (16, 35, 3, 0, [])], { frames := 1, cells := 0, slots := 0, locals := 25 })
noncomputable def xm_105 : xM := (⟨"AcidCity$City", "setTo", "(II)I"⟩, prog_4_method_6_code, 4, (some .int), [(0, 3, 1, 0, []), (1, 20, 1, 28, []), (4, 3, 2, 0, []), (5, 0, 0, 0, []), (6, 0, 600, 0, []), (9, 33, 3, 19, [0, 0, 11379, 1, 11357, 0, 11358, 9217]), (12, 20, 0, 28, []), (15, 3, 0, 1, []), (16, 25, 2, 5, [9439]), (19, 4, 3, 0, []), (20, 3, 0, 1, []), (21, 3, 2, 0, []), (22, 26, 2, 5, [0, 9439]), (25, 22, 0, 116, []), (28, 3, 1, 0, []), (29, 0, 1, 0, []), (30, 21, 1, 56, []), (33, 3, 2, 0, []), (34, 0, 0, 0, []), (35, 0, 99999, 0, [12348]), (37, 33, 3, 19, [0, 0, 11379, 1, 11357, 0, 11358, 9217]), (40, 20, 0, 56, []), (43, 3, 0, 1, []), (44, 25, 2, 6, [9441]), (47, 4, 3, 0, []), (48, 3, 0, 1, []), (49, 3, 2, 0, []), (50, 26, 2, 6, [0, 9441]), (53, 22, 0, 116, []), (56, 3, 1, 0, []), (57, 0, 2, 0, []), (58, 21, 1, 85, []), (61, 3, 2, 0, []), (62, 0, 2, 0, []), (63, 0, 9999, 0, []), (66, 33, 3, 19, [0, 0, 11379, 1, 11357, 0, 11358, 9217]), (69, 20, 0, 85, []), (72, 3, 0, 1, []), (73, 25, 2, 7, [9444]), (76, 4, 3, 0, []), (77, 3, 0, 1, []), (78, 3, 2, 0, []), (79, 26, 2, 7, [0, 9444]), (82, 22, 0, 116, []), (85, 3, 1, 0, []), (86, 0, 3, 0, []), (87, 21, 1, 113, []), (90, 3, 2, 0, []), (91, 0, 0, 0, []), (92, 0, 99, 0, []), (94, 33, 3, 19, [0, 0, 11379, 1, 11357, 0, 11358, 9217]), (97, 20, 0, 113, []), (100, 3, 0, 1, []), (101, 25, 2, 8, [9445]), (104, 4, 3, 0, []), (105, 3, 0, 1, []), (106, 3, 2, 0, []), (107, 26, 2, 8, [0, 9445]), (110, 22, 0, 116, []), (113, 0, 3294967295, 0, [12349]), (115, 4, 3, 0, []), (116, 3, 3, 0, []), (117, 35, 0, 0, [])], { frames := 1, cells := 0, slots := 0, locals := 22 })
noncomputable def xm_106 : xM := (⟨"AcidCity$Cells", "gasesOut", "()I"⟩, prog_2_method_9_code, 4, (some .int), [(0, 0, 0, 0, []), (1, 4, 1, 0, []), (2, 0, 0, 0, []), (3, 4, 2, 0, []), (4, 3, 2, 0, []), (5, 3, 0, 1, []), (6, 25, 0, 5, [9274]), (9, 21, 3, 42, []), (12, 60, 0, 0, []), (13, 60, 0, 0, []), (14, 60, 0, 0, []), (15, 60, 0, 0, []), (16, 60, 0, 0, []), (19, 60, 0, 0, []), (20, 60, 0, 0, []), (21, 60, 0, 0, []), (24, 60, 0, 0, []), (25, 60, 0, 0, []), (26, 60, 0, 0, []), (27, 60, 0, 0, []), (28, 60, 0, 0, []), (29, 60, 0, 0, []), (30, 60, 0, 0, []), (33, 60, 0, 0, []), (36, 60, 0, 0, []), (39, 60, 0, 0, []), (42, 3, 1, 0, []), (43, 35, 0, 0, [])], { frames := 0, cells := 0, slots := 0, locals := 0 })
noncomputable def xm_107 : xM := (⟨"AcidCity$City", "isDayAt", "(I)Z"⟩, prog_4_method_10_code, 2, (some .boolean), [(0, 3, 0, 1, []), (1, 25, 2, 7, [9444]), (4, 20, 5, 26, []), (7, 3, 1, 0, []), (8, 3, 0, 1, []), (9, 25, 2, 7, [9444]), (12, 7, 1, 0, []), (13, 3, 0, 1, []), (14, 25, 2, 7, [9444]), (17, 0, 2, 0, []), (18, 7, 0, 0, []), (19, 21, 3, 26, []), (22, 0, 1, 0, []), (23, 22, 0, 27, []), (26, 60, 0, 0, []), (27, 35, 3, 0, [])], { frames := 0, cells := 0, slots := 0, locals := 0 })
noncomputable def xm_108 : xM := (⟨"AcidCity$City", "isDay", "()Z"⟩, prog_4_method_9_code, 1, (some .boolean), [(0, 3, 0, 1, []), (1, 3, 0, 1, []), (2, 25, 2, 6, [9441]), (5, 33, 2, 107, [3, 1, 12388, 0, 12389, 12390, 12391, 9218]), (8, 35, 3, 0, [])], { frames := 1, cells := 0, slots := 0, locals := 21 })
noncomputable def xm_109 : xM := (⟨"AcidCityModel", "isDay", "(I)Z"⟩, prog_14_method_18_code, 2, (some .boolean), [(0, 3, 1, 0, []), (1, 3, 0, 1, []), (2, 25, 12, 0, [15576]), (5, 0, 3, 0, []), (6, 31, 100, 0, []), (7, 7, 1, 0, []), (8, 3, 0, 1, []), (9, 25, 12, 0, [15576]), (12, 0, 3, 0, []), (13, 31, 100, 0, []), (14, 0, 2, 0, []), (15, 7, 0, 0, []), (16, 21, 3, 23, []), (19, 0, 1, 0, []), (20, 22, 0, 24, []), (23, 60, 0, 0, []), (24, 35, 3, 0, [])], { frames := 0, cells := 0, slots := 0, locals := 0 })
noncomputable def xm_110 : xM := (⟨"AcidCityModel", "level", "()I"⟩, prog_14_method_15_code, 1, (some .int), [(0, 3, 0, 1, []), (1, 25, 12, 0, [15576]), (4, 0, 1, 0, []), (5, 31, 100, 0, []), (6, 0, 10, 0, []), (8, 7, 0, 0, []), (9, 35, 0, 0, [])], { frames := 0, cells := 0, slots := 0, locals := 0 })
noncomputable def xm_111 : xM := (⟨"AcidCity$Tape", "add", "(III)I"⟩, prog_11_method_2_code, 4, (some .int), [(0, 3, 0, 1, []), (1, 25, 9, 1, [10394]), (4, 0, 12, 0, []), (6, 6, 0, 0, []), (7, 0, 96, 0, []), (9, 21, 5, 15, []), (12, 60, 0, 0, []), (14, 60, 0, 0, []), (15, 3, 0, 1, []), (16, 3, 1, 0, []), (17, 33, 2, 69, [10, 1, 13352, 0, 13354, 1026, 13355, 9225]), (20, 3, 0, 1, []), (21, 3, 2, 0, []), (22, 33, 2, 69, [10, 1, 13352, 0, 13354, 1026, 13355, 9225]), (25, 3, 0, 1, []), (26, 3, 3, 0, []), (27, 33, 2, 69, [10, 1, 13352, 0, 13354, 1026, 13355, 9225]), (30, 3, 0, 1, []), (31, 25, 9, 1, [10394]), (34, 35, 0, 0, [])], { frames := 1, cells := 0, slots := 0, locals := 22 })
noncomputable def xm_112 : xM := (⟨"AcidCity$Works", "gardenRates", "()I"⟩, prog_12_method_16_code, 3, (some .int), [(0, 0, 0, 0, []), (1, 4, 1, 0, []), (2, 0, 0, 0, []), (3, 4, 2, 0, []), (4, 3, 2, 0, []), (5, 3, 0, 1, []), (6, 25, 10, 13, [9357]), (9, 21, 3, 46, []), (12, 60, 0, 0, []), (13, 60, 0, 0, []), (16, 60, 0, 0, []), (17, 60, 0, 0, []), (18, 60, 0, 0, []), (19, 60, 0, 0, []), (22, 60, 0, 0, []), (23, 60, 0, 0, []), (26, 60, 0, 0, []), (27, 60, 0, 0, []), (28, 60, 0, 0, []), (31, 60, 0, 0, []), (32, 60, 0, 0, []), (33, 60, 0, 0, []), (36, 60, 0, 0, []), (37, 60, 0, 0, []), (38, 60, 0, 0, []), (39, 60, 0, 0, []), (40, 60, 0, 0, []), (43, 60, 0, 0, []), (46, 3, 1, 0, []), (47, 35, 0, 0, [])], { frames := 0, cells := 0, slots := 0, locals := 0 })
noncomputable def xm_113 : xM := (⟨"AcidCity$People", "needs", "()I"⟩, prog_9_method_8_code, 3, (some .int), [(0, 0, 0, 0, []), (1, 4, 1, 0, []), (2, 0, 0, 0, []), (3, 4, 2, 0, []), (4, 3, 2, 0, []), (5, 3, 0, 1, []), (6, 25, 7, 4, [9409]), (9, 21, 3, 34, []), (12, 60, 0, 0, []), (13, 60, 0, 0, []), (14, 60, 0, 0, []), (17, 60, 0, 0, []), (20, 60, 0, 0, []), (21, 60, 0, 0, []), (22, 60, 0, 0, []), (23, 60, 0, 0, []), (26, 60, 0, 0, []), (27, 60, 0, 0, []), (28, 60, 0, 0, []), (31, 60, 0, 0, []), (34, 3, 1, 0, []), (35, 35, 0, 0, [])], { frames := 0, cells := 0, slots := 0, locals := 0 })
noncomputable def xm_114 : xM := (⟨"AcidCity$Charter", "allows", "(II)Z"⟩, prog_3_method_13_code, 4, (some .boolean), [(0, 3, 0, 1, []), (1, 3, 1, 0, []), (2, 3, 2, 0, []), (3, 33, 3, 82, [2, 1, 11445, 0, 11446, 11447, 11448, 9222]), (6, 4, 3, 0, []), (7, 3, 3, 0, []), (8, 0, 3294967291, 0, [10261]), (10, 21, 0, 21, []), (13, 60, 0, 0, []), (14, 60, 0, 0, []), (15, 60, 0, 0, []), (18, 60, 0, 0, []), (21, 0, 1, 0, []), (22, 22, 0, 26, []), (25, 60, 0, 0, []), (26, 35, 3, 0, [])], { frames := 1, cells := 0, slots := 0, locals := 25 })
noncomputable def xm_115 : xM := (⟨"AcidCity$Charter", "mayBeBorn", "(LAcidCity$City;)Z"⟩, prog_3_method_16_code, 2, (some .boolean), [(0, 3, 0, 1, []), (1, 0, 112, 0, []), (3, 3, 1, 1, []), (4, 25, 2, 2, [9434]), (7, 33, 1, 20, [8, 1, 13333, 0, 12375, 12376, 12377, 9221]), (10, 33, 3, 57, [2, 1, 11429, 0, 11431, 1, 11432, 9222]), (13, 3, 0, 1, []), (14, 0, 111, 0, []), (16, 3, 1, 1, []), (17, 25, 2, 1, [9430]), (20, 33, 1, 112, [11, 1, 13334, 0, 13335, 13336, 13337, 9220]), (23, 33, 3, 57, [2, 1, 11429, 0, 11431, 1, 11432, 9222]), (26, 3, 0, 1, []), (27, 0, 117, 0, []), (29, 3, 1, 1, []), (30, 25, 2, 2, [9434]), (33, 33, 1, 113, [8, 1, 13338, 0, 13339, 13340, 13341, 9221]), (36, 33, 3, 57, [2, 1, 11429, 0, 11431, 1, 11432, 9222]), (39, 3, 0, 1, []), (40, 0, 104, 0, []), (42, 3, 1, 1, []), (43, 33, 1, 78, [3, 1, 11433, 0, 11434, 11435, 11436, 9218]), (46, 33, 3, 57, [2, 1, 11429, 0, 11431, 1, 11432, 9222]), (49, 3, 0, 1, []), (50, 0, 3, 0, []), (51, 3, 1, 1, []), (52, 33, 1, 70, [3, 1, 11437, 0, 11438, 11439, 11440, 9218]), (55, 33, 3, 114, [2, 1, 11441, 0, 11443, 2, 11444, 9222]), (58, 35, 3, 0, [])], { frames := 2, cells := 0, slots := 0, locals := 48 })
noncomputable def xm_116 : xM := (⟨"AcidCityModel", "mayBirth", "()Z"⟩, prog_14_method_95_code, 6, (some .boolean), [(0, 3, 0, 1, []), (1, 0, 3, 0, []), (2, 33, 2, 53, [13, 1, 16556, 0, 16558, 4096, 16559, 9230]), (5, 4, 1, 0, []), (6, 0, 0, 0, []), (7, 4, 2, 0, []), (8, 0, 0, 0, []), (9, 4, 3, 0, []), (10, 0, 0, 0, []), (11, 4, 4, 0, []), (13, 0, 0, 0, []), (14, 4, 5, 0, []), (16, 3, 5, 0, []), (18, 3, 0, 1, []), (19, 25, 12, 0, [15576]), (22, 0, 8, 0, []), (24, 31, 100, 0, []), (25, 21, 3, 73, []), (28, 60, 0, 0, []), (29, 60, 0, 0, []), (30, 60, 0, 0, []), (32, 60, 0, 0, []), (35, 60, 0, 0, []), (38, 60, 0, 0, []), (39, 60, 0, 0, []), (42, 60, 0, 0, []), (43, 60, 0, 0, []), (44, 60, 0, 0, []), (45, 60, 0, 0, []), (46, 60, 0, 0, []), (47, 60, 0, 0, []), (49, 60, 0, 0, []), (52, 60, 0, 0, []), (55, 60, 0, 0, []), (56, 60, 0, 0, []), (59, 60, 0, 0, []), (60, 60, 0, 0, []), (62, 60, 0, 0, []), (65, 60, 0, 0, []), (66, 60, 0, 0, []), (67, 60, 0, 0, []), (70, 60, 0, 0, []), (73, 0, 0, 0, []), (74, 4, 5, 0, []), (76, 3, 5, 0, []), (78, 3, 0, 1, []), (79, 25, 12, 0, [15576]), (82, 0, 7, 0, []), (84, 31, 100, 0, []), (85, 21, 3, 135, []), (88, 60, 0, 0, []), (90, 60, 0, 0, []), (91, 60, 0, 0, []), (93, 60, 0, 0, []), (96, 60, 0, 0, []), (97, 60, 0, 0, []), (100, 60, 0, 0, []), (101, 60, 0, 0, []), (103, 60, 0, 0, []), (106, 60, 0, 0, []), (109, 60, 0, 0, []), (110, 60, 0, 0, []), (113, 60, 0, 0, []), (114, 60, 0, 0, []), (116, 60, 0, 0, []), (119, 60, 0, 0, []), (120, 60, 0, 0, []), (121, 60, 0, 0, []), (122, 60, 0, 0, []), (125, 60, 0, 0, []), (126, 60, 0, 0, []), (127, 60, 0, 0, []), (129, 60, 0, 0, []), (132, 60, 0, 0, []), (135, 3, 0, 1, []), (136, 25, 12, 19, [15595]), (139, 0, 112, 0, []), (141, 3, 2, 0, []), (142, 32, 100, 0, []), (143, 3, 0, 1, []), (144, 25, 12, 19, [15595]), (147, 0, 111, 0, []), (149, 3, 4, 0, []), (151, 32, 100, 0, []), (152, 3, 0, 1, []), (153, 25, 12, 19, [15595]), (156, 0, 117, 0, []), (158, 3, 3, 0, []), (159, 32, 100, 0, []), (160, 3, 1, 0, []), (161, 20, 2, 172, []), (164, 60, 0, 0, []), (165, 60, 0, 0, []), (166, 60, 0, 0, []), (169, 60, 0, 0, []), (172, 0, 1, 0, []), (173, 22, 0, 177, []), (176, 60, 0, 0, []), (177, 35, 3, 0, [])], { frames := 1, cells := 0, slots := 0, locals := 24 })
noncomputable def xm_117 : xM := (⟨"AcidCity$Desk", "nextTest", "()I"⟩, prog_6_method_4_code, 6, (some .int), [(0, 3, 0, 1, []), (1, 33, 1, 47, [5, 1, 14543, 0, 14522, 14523, 14524, 9223]), (4, 4, 1, 0, []), (5, 0, 3294967291, 0, [14544]), (7, 4, 2, 0, []), (8, 3, 1, 0, []), (9, 33, 1, 40, [0, 0, 14545, 0, 14530, 0, 14531, 9238]), (12, 4, 3, 0, []), (13, 0, 0, 0, []), (14, 4, 4, 0, []), (16, 3, 4, 0, []), (18, 0, 8, 0, []), (20, 21, 3, 65, []), (23, 3, 0, 1, []), (24, 25, 4, 1, [10324]), (27, 3, 4, 0, []), (29, 31, 100, 0, []), (30, 0, 4294967295, 0, []), (31, 21, 1, 44, []), (34, 3, 0, 1, []), (35, 3, 4, 0, []), (37, 3, 1, 0, []), (38, 33, 3, 50, [5, 1, 14546, 0, 14548, 2055, 14549, 9223]), (41, 22, 0, 45, []), (44, 60, 0, 0, []), (45, 4, 5, 0, []), (47, 3, 5, 0, []), (49, 3, 3, 0, []), (50, 21, 3, 59, []), (53, 60, 0, 0, []), (55, 60, 0, 0, []), (56, 60, 0, 0, []), (58, 60, 0, 0, []), (59, 5, 4, 1, []), (62, 22, 0, 16, []), (65, 3, 2, 0, []), (66, 35, 0, 0, [])], { frames := 2, cells := 0, slots := 0, locals := 44 })
noncomputable def xm_118 : xM := (⟨"AcidCity$Rounds", "begin", "(LAcidCity$City;LAcidCity$Desk;)V"⟩, prog_10_method_3_code, 4, (none : Option FieldType), [(0, 3, 1, 1, []), (1, 25, 2, 1, [9428]), (4, 25, 10, 7, [9341]), (7, 3, 0, 1, []), (8, 25, 8, 2, [10459]), (11, 33, 2, 12, [0, 0, 14568, 1, 12410, 0, 12411, 9217]), (14, 3, 1, 1, []), (15, 25, 2, 1, [9428]), (18, 25, 10, 9, [9349]), (21, 3, 0, 1, []), (22, 25, 8, 3, [10460]), (25, 33, 2, 12, [0, 0, 14568, 1, 12410, 0, 12411, 9217]), (28, 0, 0, 0, []), (29, 4, 3, 0, []), (30, 3, 3, 0, []), (31, 3, 0, 1, []), (32, 25, 8, 6, [10463]), (35, 21, 3, 71, []), (38, 3, 0, 1, []), (39, 25, 8, 5, [10462]), (42, 3, 3, 0, []), (43, 0, 1, 0, []), (44, 6, 0, 0, []), (45, 3, 0, 1, []), (46, 25, 8, 5, [10462]), (49, 3, 3, 0, []), (50, 31, 100, 0, []), (51, 0, 6, 0, []), (53, 3, 2, 1, []), (54, 25, 4, 2, [10327]), (57, 3, 3, 0, []), (58, 31, 100, 0, []), (59, 6, 2, 0, []), (60, 0, 10, 0, []), (62, 7, 0, 0, []), (63, 6, 0, 0, []), (64, 32, 100, 0, []), (65, 5, 3, 1, []), (68, 22, 0, 30, []), (71, 36, 0, 0, [])], { frames := 2, cells := 0, slots := 0, locals := 85 })
noncomputable def xm_119 : xM := (⟨"AcidCity$Rounds", "goRound", "(LAcidCity$City;LAcidCity$Desk;IIII)V"⟩, prog_10_method_2_code, 11, (none : Option FieldType), [(0, 3, 0, 1, []), (1, 3, 3, 0, []), (2, 26, 8, 6, [0, 10463]), (5, 3, 0, 1, []), (6, 3, 4, 0, []), (8, 26, 8, 7, [0, 10464]), (11, 3, 0, 1, []), (12, 0, 3294967291, 0, [14563]), (14, 26, 8, 0, [0, 10455]), (17, 3, 0, 1, []), (18, 0, 0, 0, []), (19, 26, 8, 1, [0, 10457]), (22, 3, 0, 1, []), (23, 3, 1, 1, []), (24, 3, 2, 1, []), (25, 33, 3, 118, [9, 1, 14564, 0, 14566, 2056, 14567, 9227]), (28, 3, 1, 1, []), (29, 25, 2, 2, [9432]), (32, 33, 1, 33, [8, 1, 14569, 0, 14570, 14571, 14572, 9221]), (35, 4, 7, 0, []), (37, 0, 0, 0, []), (38, 4, 8, 0, []), (40, 3, 8, 0, []), (42, 3, 3, 0, []), (43, 21, 3, 124, []), (46, 3, 0, 1, []), (47, 3, 1, 1, []), (48, 25, 2, 1, [9428]), (51, 3, 8, 0, []), (53, 33, 3, 6, [9, 1, 14573, 0, 14575, 2057, 15360, 9227]), (56, 0, 0, 0, []), (57, 4, 9, 0, []), (59, 3, 9, 0, []), (61, 3, 7, 0, []), (63, 21, 3, 108, []), (66, 60, 0, 0, []), (67, 60, 0, 0, []), (68, 60, 0, 0, []), (71, 60, 0, 0, []), (73, 60, 0, 0, []), (76, 60, 0, 0, []), (78, 60, 0, 0, []), (80, 60, 0, 0, []), (82, 60, 0, 0, []), (85, 60, 0, 0, []), (87, 60, 0, 0, []), (89, 60, 0, 0, []), (92, 60, 0, 0, []), (93, 60, 0, 0, []), (94, 60, 0, 0, []), (97, 60, 0, 0, []), (98, 60, 0, 0, []), (99, 60, 0, 0, []), (102, 60, 0, 0, []), (105, 60, 0, 0, []), (108, 3, 0, 1, []), (109, 3, 1, 1, []), (110, 25, 2, 1, [9428]), (113, 3, 8, 0, []), (115, 33, 3, 7, [9, 1, 15370, 0, 15372, 2060, 15373, 9227]), (118, 5, 8, 1, []), (121, 22, 0, 40, []), (124, 36, 0, 0, [])], { frames := 3, cells := 0, slots := 0, locals := 108 })
noncomputable def xm_120 : xM := (⟨"AcidCity$Desk", "addShip", "(III)I"⟩, prog_6_method_6_code, 5, (some .int), [(0, 3, 0, 1, []), (1, 25, 4, 8, [10338]), (4, 4, 4, 0, []), (6, 3, 4, 0, []), (8, 0, 6, 0, []), (10, 21, 2, 16, []), (13, 60, 0, 0, []), (15, 60, 0, 0, []), (16, 3, 0, 1, []), (17, 25, 4, 5, [10335]), (20, 3, 4, 0, []), (22, 3, 1, 0, []), (23, 32, 100, 0, []), (24, 3, 0, 1, []), (25, 25, 4, 6, [10336]), (28, 3, 4, 0, []), (30, 3, 2, 0, []), (31, 32, 100, 0, []), (32, 3, 0, 1, []), (33, 25, 4, 7, [10337]), (36, 3, 4, 0, []), (38, 3, 3, 0, []), (39, 32, 100, 0, []), (40, 3, 0, 1, []), (41, 3, 4, 0, []), (43, 0, 1, 0, []), (44, 6, 0, 0, []), (45, 26, 4, 8, [0, 10338]), (48, 3, 4, 0, []), (50, 35, 0, 0, [])], { frames := 0, cells := 0, slots := 0, locals := 0 })
noncomputable def xm_121 : xM := (⟨"AcidCity$Desk", "addLot", "(II)I"⟩, prog_6_method_8_code, 4, (some .int), [(0, 3, 0, 1, []), (1, 25, 4, 11, [10342]), (4, 4, 3, 0, []), (5, 3, 3, 0, []), (6, 0, 10, 0, []), (8, 21, 2, 14, []), (11, 60, 0, 0, []), (13, 60, 0, 0, []), (14, 3, 0, 1, []), (15, 25, 4, 9, [10340]), (18, 3, 3, 0, []), (19, 3, 1, 0, []), (20, 32, 100, 0, []), (21, 3, 0, 1, []), (22, 25, 4, 10, [10341]), (25, 3, 3, 0, []), (26, 3, 2, 0, []), (27, 32, 100, 0, []), (28, 3, 0, 1, []), (29, 3, 3, 0, []), (30, 0, 1, 0, []), (31, 6, 0, 0, []), (32, 26, 4, 11, [0, 10342]), (35, 3, 3, 0, []), (36, 35, 0, 0, [])], { frames := 0, cells := 0, slots := 0, locals := 0 })
noncomputable def xm_122 : xM := (⟨"AcidCity$Desk", "bestLots", "(I)I"⟩, prog_6_method_9_code, 9, (some .int), [(0, 0, 0, 0, []), (1, 4, 2, 0, []), (2, 0, 0, 0, []), (3, 4, 3, 0, []), (4, 0, 0, 0, []), (5, 4, 4, 0, []), (7, 0, 1, 0, []), (8, 4, 5, 0, []), (10, 3, 5, 0, []), (12, 0, 1, 0, []), (13, 3, 0, 1, []), (14, 25, 4, 11, [10342]), (17, 6, 6, 0, []), (18, 21, 3, 98, []), (21, 60, 0, 0, []), (22, 60, 0, 0, []), (23, 60, 0, 0, []), (26, 60, 0, 0, []), (28, 60, 0, 0, []), (31, 60, 0, 0, []), (33, 60, 0, 0, []), (34, 60, 0, 0, []), (35, 60, 0, 0, []), (38, 60, 0, 0, []), (40, 60, 0, 0, []), (43, 60, 0, 0, []), (45, 60, 0, 0, []), (47, 60, 0, 0, []), (48, 60, 0, 0, []), (51, 60, 0, 0, []), (53, 60, 0, 0, []), (54, 60, 0, 0, []), (57, 60, 0, 0, []), (59, 60, 0, 0, []), (61, 60, 0, 0, []), (64, 60, 0, 0, []), (65, 60, 0, 0, []), (68, 60, 0, 0, []), (69, 60, 0, 0, []), (71, 60, 0, 0, []), (73, 60, 0, 0, []), (74, 60, 0, 0, []), (77, 60, 0, 0, []), (79, 60, 0, 0, []), (82, 60, 0, 0, []), (84, 60, 0, 0, []), (85, 60, 0, 0, []), (87, 60, 0, 0, []), (88, 60, 0, 0, []), (90, 60, 0, 0, []), (92, 60, 0, 0, []), (95, 60, 0, 0, []), (98, 3, 2, 0, []), (99, 35, 0, 0, [])], { frames := 0, cells := 0, slots := 0, locals := 0 })
noncomputable def xm_123 : xM := (⟨"AcidCity$Desk", "addBuild", "(III)I"⟩, prog_6_method_11_code, 5, (some .int), [(0, 3, 0, 1, []), (1, 25, 4, 15, [10352]), (4, 4, 4, 0, []), (6, 3, 4, 0, []), (8, 0, 7, 0, []), (10, 21, 2, 16, []), (13, 60, 0, 0, []), (15, 60, 0, 0, []), (16, 3, 0, 1, []), (17, 25, 4, 12, [10344]), (20, 3, 4, 0, []), (22, 3, 1, 0, []), (23, 32, 100, 0, []), (24, 3, 0, 1, []), (25, 25, 4, 13, [10347]), (28, 3, 4, 0, []), (30, 3, 2, 0, []), (31, 32, 100, 0, []), (32, 3, 0, 1, []), (33, 25, 4, 14, [10349]), (36, 3, 4, 0, []), (38, 3, 3, 0, []), (39, 32, 100, 0, []), (40, 3, 0, 1, []), (41, 3, 4, 0, []), (43, 0, 1, 0, []), (44, 6, 0, 0, []), (45, 26, 4, 15, [0, 10352]), (48, 3, 4, 0, []), (50, 35, 0, 0, [])], { frames := 0, cells := 0, slots := 0, locals := 0 })
noncomputable def xm_124 : xM := (⟨"AcidCity$Cells", "becomeAs", "(LAcidCity$Cells;)V"⟩, prog_2_method_14_code, 2, (none : Option FieldType), [(0, 3, 1, 1, []), (1, 25, 0, 0, [9261]), (4, 3, 0, 1, []), (5, 25, 0, 0, [9261]), (8, 33, 2, 12, [0, 0, 12409, 1, 12410, 0, 12411, 9217]), (11, 3, 1, 1, []), (12, 25, 0, 1, [9264]), (15, 3, 0, 1, []), (16, 25, 0, 1, [9264]), (19, 33, 2, 12, [0, 0, 12409, 1, 12410, 0, 12411, 9217]), (22, 3, 1, 1, []), (23, 25, 0, 2, [9266]), (26, 3, 0, 1, []), (27, 25, 0, 2, [9266]), (30, 33, 2, 52, [0, 0, 15518, 1, 15519, 0, 15520, 9217]), (33, 3, 1, 1, []), (34, 25, 0, 3, [9269]), (37, 3, 0, 1, []), (38, 25, 0, 3, [9269]), (41, 33, 2, 52, [0, 0, 15518, 1, 15519, 0, 15520, 9217]), (44, 3, 1, 1, []), (45, 25, 0, 4, [9272]), (48, 3, 0, 1, []), (49, 25, 0, 4, [9272]), (52, 33, 2, 52, [0, 0, 15518, 1, 15519, 0, 15520, 9217]), (55, 3, 0, 1, []), (56, 3, 1, 1, []), (57, 25, 0, 5, [9274]), (60, 26, 0, 5, [0, 9274]), (63, 3, 1, 1, []), (64, 25, 0, 6, [9277]), (67, 3, 0, 1, []), (68, 25, 0, 6, [9277]), (71, 33, 2, 12, [0, 0, 12409, 1, 12410, 0, 12411, 9217]), (74, 3, 1, 1, []), (75, 25, 0, 7, [9278]), (78, 3, 0, 1, []), (79, 25, 0, 7, [9278]), (82, 33, 2, 12, [0, 0, 12409, 1, 12410, 0, 12411, 9217]), (85, 3, 1, 1, []), (86, 25, 0, 8, [9279]), (89, 3, 0, 1, []), (90, 25, 0, 8, [9279]), (93, 33, 2, 12, [0, 0, 12409, 1, 12410, 0, 12411, 9217]), (96, 3, 1, 1, []), (97, 25, 0, 9, [9280]), (100, 3, 0, 1, []), (101, 25, 0, 9, [9280]), (104, 33, 2, 12, [0, 0, 12409, 1, 12410, 0, 12411, 9217]), (107, 3, 0, 1, []), (108, 3, 1, 1, []), (109, 25, 0, 10, [9282]), (112, 26, 0, 10, [0, 9282]), (115, 3, 1, 1, []), (116, 25, 0, 11, [9285]), (119, 3, 0, 1, []), (120, 25, 0, 11, [9285]), (123, 33, 2, 52, [0, 0, 15518, 1, 15519, 0, 15520, 9217]), (126, 3, 0, 1, []), (127, 3, 1, 1, []), (128, 25, 0, 12, [9286]), (131, 26, 0, 12, [0, 9286]), (134, 36, 0, 0, [])], { frames := 3, cells := 0, slots := 0, locals := 108 })
noncomputable def xm_125 : xM := (⟨"AcidCity$Works", "becomeAs", "(LAcidCity$Works;)V"⟩, prog_12_method_17_code, 2, (none : Option FieldType), [(0, 3, 1, 1, []), (1, 25, 10, 0, [9322]), (4, 3, 0, 1, []), (5, 25, 10, 0, [9322]), (8, 33, 2, 12, [0, 0, 15526, 1, 12410, 0, 12411, 9217]), (11, 3, 1, 1, []), (12, 25, 10, 1, [9326]), (15, 3, 0, 1, []), (16, 25, 10, 1, [9326]), (19, 33, 2, 12, [0, 0, 15526, 1, 12410, 0, 12411, 9217]), (22, 3, 1, 1, []), (23, 25, 10, 2, [9329]), (26, 3, 0, 1, []), (27, 25, 10, 2, [9329]), (30, 33, 2, 12, [0, 0, 15526, 1, 12410, 0, 12411, 9217]), (33, 3, 1, 1, []), (34, 25, 10, 3, [9331]), (37, 3, 0, 1, []), (38, 25, 10, 3, [9331]), (41, 33, 2, 12, [0, 0, 15526, 1, 12410, 0, 12411, 9217]), (44, 3, 1, 1, []), (45, 25, 10, 4, [9334]), (48, 3, 0, 1, []), (49, 25, 10, 4, [9334]), (52, 33, 2, 12, [0, 0, 15526, 1, 12410, 0, 12411, 9217]), (55, 3, 1, 1, []), (56, 25, 10, 5, [9337]), (59, 3, 0, 1, []), (60, 25, 10, 5, [9337]), (63, 33, 2, 12, [0, 0, 15526, 1, 12410, 0, 12411, 9217]), (66, 3, 1, 1, []), (67, 25, 10, 6, [9339]), (70, 3, 0, 1, []), (71, 25, 10, 6, [9339]), (74, 33, 2, 12, [0, 0, 15526, 1, 12410, 0, 12411, 9217]), (77, 3, 1, 1, []), (78, 25, 10, 7, [9340]), (81, 3, 0, 1, []), (82, 25, 10, 7, [9340]), (85, 33, 2, 12, [0, 0, 15526, 1, 12410, 0, 12411, 9217]), (88, 3, 1, 1, []), (89, 25, 10, 8, [9345]), (92, 3, 0, 1, []), (93, 25, 10, 8, [9345]), (96, 33, 2, 12, [0, 0, 15526, 1, 12410, 0, 12411, 9217]), (99, 3, 1, 1, []), (100, 25, 10, 9, [9348]), (103, 3, 0, 1, []), (104, 25, 10, 9, [9348]), (107, 33, 2, 12, [0, 0, 15526, 1, 12410, 0, 12411, 9217]), (110, 3, 1, 1, []), (111, 25, 10, 10, [9350]), (114, 3, 0, 1, []), (115, 25, 10, 10, [9350]), (118, 33, 2, 12, [0, 0, 15526, 1, 12410, 0, 12411, 9217]), (121, 3, 1, 1, []), (122, 25, 10, 11, [9352]), (125, 3, 0, 1, []), (126, 25, 10, 11, [9352]), (129, 33, 2, 12, [0, 0, 15526, 1, 12410, 0, 12411, 9217]), (132, 3, 1, 1, []), (133, 25, 10, 12, [9355]), (136, 3, 0, 1, []), (137, 25, 10, 12, [9355]), (140, 33, 2, 12, [0, 0, 15526, 1, 12410, 0, 12411, 9217]), (143, 3, 0, 1, []), (144, 3, 1, 1, []), (145, 25, 10, 13, [9357]), (148, 26, 10, 13, [0, 9357]), (151, 36, 0, 0, [])], { frames := 2, cells := 0, slots := 0, locals := 85 })
noncomputable def xm_126 : xM := (⟨"AcidCity$People", "becomeAs", "(LAcidCity$People;)V"⟩, prog_9_method_11_code, 2, (none : Option FieldType), [(0, 3, 1, 1, []), (1, 25, 7, 0, [9397]), (4, 3, 0, 1, []), (5, 25, 7, 0, [9397]), (8, 33, 2, 12, [0, 0, 15531, 1, 12410, 0, 12411, 9217]), (11, 3, 1, 1, []), (12, 25, 7, 1, [9400]), (15, 3, 0, 1, []), (16, 25, 7, 1, [9400]), (19, 33, 2, 12, [0, 0, 15531, 1, 12410, 0, 12411, 9217]), (22, 3, 1, 1, []), (23, 25, 7, 2, [9403]), (26, 3, 0, 1, []), (27, 25, 7, 2, [9403]), (30, 33, 2, 12, [0, 0, 15531, 1, 12410, 0, 12411, 9217]), (33, 3, 1, 1, []), (34, 25, 7, 3, [9406]), (37, 3, 0, 1, []), (38, 25, 7, 3, [9406]), (41, 33, 2, 12, [0, 0, 15531, 1, 12410, 0, 12411, 9217]), (44, 3, 0, 1, []), (45, 3, 1, 1, []), (46, 25, 7, 4, [9409]), (49, 26, 7, 4, [0, 9409]), (52, 36, 0, 0, [])], { frames := 2, cells := 0, slots := 0, locals := 85 })
noncomputable def xm_127 : xM := (⟨"AcidCity$City", "becomeAs", "(LAcidCity$City;)V"⟩, prog_4_method_27_code, 2, (none : Option FieldType), [(0, 3, 0, 1, []), (1, 25, 2, 0, [9425]), (4, 3, 1, 1, []), (5, 25, 2, 0, [9425]), (8, 33, 2, 124, [1, 1, 15514, 0, 15515, 15516, 15517, 9219]), (11, 3, 0, 1, []), (12, 25, 2, 1, [9427]), (15, 3, 1, 1, []), (16, 25, 2, 1, [9427]), (19, 33, 2, 125, [11, 1, 15522, 0, 15523, 15524, 15525, 9220]), (22, 3, 0, 1, []), (23, 25, 2, 2, [9431]), (26, 3, 1, 1, []), (27, 25, 2, 2, [9431]), (30, 33, 2, 126, [8, 1, 15527, 0, 15528, 15529, 15530, 9221]), (33, 3, 1, 1, []), (34, 25, 2, 3, [9435]), (37, 3, 0, 1, []), (38, 25, 2, 3, [9435]), (41, 33, 2, 12, [0, 0, 15532, 1, 12410, 0, 12411, 9217]), (44, 3, 1, 1, []), (45, 25, 2, 4, [9437]), (48, 3, 0, 1, []), (49, 25, 2, 4, [9437]), (52, 33, 2, 52, [0, 0, 15533, 1, 15519, 0, 15520, 9217]), (55, 3, 0, 1, []), (56, 3, 1, 1, []), (57, 25, 2, 5, [9439]), (60, 26, 2, 5, [0, 9439]), (63, 3, 0, 1, []), (64, 3, 1, 1, []), (65, 25, 2, 6, [9441]), (68, 26, 2, 6, [0, 9441]), (71, 3, 0, 1, []), (72, 3, 1, 1, []), (73, 25, 2, 7, [9444]), (76, 26, 2, 7, [0, 9444]), (79, 3, 0, 1, []), (80, 3, 1, 1, []), (81, 25, 2, 8, [9445]), (84, 26, 2, 8, [0, 9445]), (87, 3, 0, 1, []), (88, 3, 1, 1, []), (89, 25, 2, 9, [9447]), (92, 26, 2, 9, [0, 9447]), (95, 36, 0, 0, [])], { frames := 4, cells := 0, slots := 0, locals := 129 })
noncomputable def xm_128 : xM := (⟨"AcidCity$Charter", "becomeAs", "(LAcidCity$Charter;)V"⟩, prog_3_method_27_code, 2, (none : Option FieldType), [(0, 3, 1, 1, []), (1, 25, 1, 0, [10262]), (4, 3, 0, 1, []), (5, 25, 1, 0, [10262]), (8, 33, 2, 12, [0, 0, 14339, 1, 12410, 0, 12411, 9217]), (11, 3, 1, 1, []), (12, 25, 1, 1, [10264]), (15, 3, 0, 1, []), (16, 25, 1, 1, [10264]), (19, 33, 2, 12, [0, 0, 14339, 1, 12410, 0, 12411, 9217]), (22, 3, 1, 1, []), (23, 25, 1, 2, [10266]), (26, 3, 0, 1, []), (27, 25, 1, 2, [10266]), (30, 33, 2, 12, [0, 0, 14339, 1, 12410, 0, 12411, 9217]), (33, 3, 1, 1, []), (34, 25, 1, 3, [10268]), (37, 3, 0, 1, []), (38, 25, 1, 3, [10268]), (41, 33, 2, 12, [0, 0, 14339, 1, 12410, 0, 12411, 9217]), (44, 3, 1, 1, []), (45, 25, 1, 4, [10270]), (48, 3, 0, 1, []), (49, 25, 1, 4, [10270]), (52, 33, 2, 12, [0, 0, 14339, 1, 12410, 0, 12411, 9217]), (55, 3, 1, 1, []), (56, 25, 1, 5, [10271]), (59, 3, 0, 1, []), (60, 25, 1, 5, [10271]), (63, 33, 2, 52, [0, 0, 15546, 1, 15519, 0, 15520, 9217]), (66, 3, 0, 1, []), (67, 3, 1, 1, []), (68, 25, 1, 6, [10272]), (71, 26, 1, 6, [0, 10272]), (74, 3, 0, 1, []), (75, 3, 1, 1, []), (76, 25, 1, 7, [10274]), (79, 26, 1, 7, [0, 10274]), (82, 3, 0, 1, []), (83, 3, 1, 1, []), (84, 25, 1, 8, [10276]), (87, 26, 1, 8, [3, 10276]), (90, 3, 1, 1, []), (91, 25, 1, 9, [10277]), (94, 3, 0, 1, []), (95, 25, 1, 9, [10277]), (98, 33, 2, 12, [0, 0, 14339, 1, 12410, 0, 12411, 9217]), (101, 36, 0, 0, [])], { frames := 3, cells := 0, slots := 0, locals := 108 })
noncomputable def xm_129 : xM := (⟨"AcidCity$Desk", "becomeAs", "(LAcidCity$Desk;)V"⟩, prog_6_method_12_code, 2, (none : Option FieldType), [(0, 3, 1, 1, []), (1, 25, 4, 0, [10322]), (4, 3, 0, 1, []), (5, 25, 4, 0, [10322]), (8, 33, 2, 52, [0, 0, 15551, 1, 15519, 0, 15520, 9217]), (11, 3, 1, 1, []), (12, 25, 4, 1, [10324]), (15, 3, 0, 1, []), (16, 25, 4, 1, [10324]), (19, 33, 2, 12, [0, 0, 15552, 1, 12410, 0, 12411, 9217]), (22, 3, 1, 1, []), (23, 25, 4, 2, [10326]), (26, 3, 0, 1, []), (27, 25, 4, 2, [10326]), (30, 33, 2, 12, [0, 0, 15552, 1, 12410, 0, 12411, 9217]), (33, 3, 1, 1, []), (34, 25, 4, 3, [10329]), (37, 3, 0, 1, []), (38, 25, 4, 3, [10329]), (41, 33, 2, 12, [0, 0, 15552, 1, 12410, 0, 12411, 9217]), (44, 3, 1, 1, []), (45, 25, 4, 4, [10332]), (48, 3, 0, 1, []), (49, 25, 4, 4, [10332]), (52, 33, 2, 52, [0, 0, 15551, 1, 15519, 0, 15520, 9217]), (55, 3, 1, 1, []), (56, 25, 4, 5, [10335]), (59, 3, 0, 1, []), (60, 25, 4, 5, [10335]), (63, 33, 2, 12, [0, 0, 15552, 1, 12410, 0, 12411, 9217]), (66, 3, 1, 1, []), (67, 25, 4, 6, [10336]), (70, 3, 0, 1, []), (71, 25, 4, 6, [10336]), (74, 33, 2, 12, [0, 0, 15552, 1, 12410, 0, 12411, 9217]), (77, 3, 1, 1, []), (78, 25, 4, 7, [10337]), (81, 3, 0, 1, []), (82, 25, 4, 7, [10337]), (85, 33, 2, 12, [0, 0, 15552, 1, 12410, 0, 12411, 9217]), (88, 3, 0, 1, []), (89, 3, 1, 1, []), (90, 25, 4, 8, [10338]), (93, 26, 4, 8, [0, 10338]), (96, 3, 1, 1, []), (97, 25, 4, 9, [10340]), (100, 3, 0, 1, []), (101, 25, 4, 9, [10340]), (104, 33, 2, 12, [0, 0, 15552, 1, 12410, 0, 12411, 9217]), (107, 3, 1, 1, []), (108, 25, 4, 10, [10341]), (111, 3, 0, 1, []), (112, 25, 4, 10, [10341]), (115, 33, 2, 12, [0, 0, 15552, 1, 12410, 0, 12411, 9217]), (118, 3, 0, 1, []), (119, 3, 1, 1, []), (120, 25, 4, 11, [10342]), (123, 26, 4, 11, [0, 10342]), (126, 3, 1, 1, []), (127, 25, 4, 12, [10344]), (130, 3, 0, 1, []), (131, 25, 4, 12, [10344]), (134, 33, 2, 12, [0, 0, 15552, 1, 12410, 0, 12411, 9217]), (137, 3, 1, 1, []), (138, 25, 4, 13, [10347]), (141, 3, 0, 1, []), (142, 25, 4, 13, [10347]), (145, 33, 2, 12, [0, 0, 15552, 1, 12410, 0, 12411, 9217]), (148, 3, 1, 1, []), (149, 25, 4, 14, [10349]), (152, 3, 0, 1, []), (153, 25, 4, 14, [10349]), (156, 33, 2, 12, [0, 0, 15552, 1, 12410, 0, 12411, 9217]), (159, 3, 0, 1, []), (160, 3, 1, 1, []), (161, 25, 4, 15, [10352]), (164, 26, 4, 15, [0, 10352]), (167, 36, 0, 0, [])], { frames := 3, cells := 0, slots := 0, locals := 108 })
noncomputable def xm_130 : xM := (⟨"AcidCity$Charter", "inForceAt", "(I)I"⟩, prog_3_method_5_code, 4, (some .int), [(0, 0, 0, 0, []), (1, 4, 2, 0, []), (2, 0, 0, 0, []), (3, 4, 3, 0, []), (4, 3, 3, 0, []), (5, 3, 0, 1, []), (6, 25, 1, 6, [10272]), (9, 21, 3, 30, []), (12, 60, 0, 0, []), (13, 60, 0, 0, []), (14, 60, 0, 0, []), (15, 60, 0, 0, []), (18, 60, 0, 0, []), (21, 60, 0, 0, []), (24, 60, 0, 0, []), (27, 60, 0, 0, []), (30, 3, 2, 0, []), (31, 35, 0, 0, [])], { frames := 0, cells := 0, slots := 0, locals := 0 })
noncomputable def xm_131 : xM := (⟨"AcidCity$Works", "goneOnes", "()I"⟩, prog_12_method_15_code, 3, (some .int), [(0, 0, 0, 0, []), (1, 4, 1, 0, []), (2, 0, 0, 0, []), (3, 4, 2, 0, []), (4, 3, 2, 0, []), (5, 3, 0, 1, []), (6, 25, 10, 13, [9357]), (9, 21, 3, 27, []), (12, 60, 0, 0, []), (13, 60, 0, 0, []), (14, 60, 0, 0, []), (17, 60, 0, 0, []), (18, 60, 0, 0, []), (19, 60, 0, 0, []), (20, 60, 0, 0, []), (21, 60, 0, 0, []), (24, 60, 0, 0, []), (27, 3, 1, 0, []), (28, 35, 0, 0, [])], { frames := 0, cells := 0, slots := 0, locals := 0 })
noncomputable def xm_132 : xM := (⟨"AcidCity", "<init>", "()V"⟩, prog_1_method_1_code, 1, (none : Option FieldType), [(0, 3, 0, 1, []), (1, 34, 0, 0, [9244, 9245, 9246]), (4, 3, 0, 1, []), (5, 27, 2, 10135307882079263, [1, 1, 1, 1, 1, 0, 0, 0, 0, 0]), (8, 15, 0, 0, []), (9, 33, 1, 66, [3, 2, 9249, 0, 9250, 0, 9251, 9218]), (12, 26, 11, 0, [1, 11303]), (15, 3, 0, 1, []), (16, 27, 1, 10139706984507406, [1, 1, 1, 1, 1, 1, 0, 0, 3, 1, 1, 1, 1, 1]), (19, 15, 0, 0, []), (20, 33, 1, 74, [2, 2, 10256, 1, 10257, 0, 10258, 9222]), (23, 26, 11, 1, [1, 11304]), (26, 3, 0, 1, []), (27, 27, 4, 10140806556952648, [1, 1, 1, 1, 1, 1, 1, 1, 0, 1, 1, 0, 1, 1, 1, 0]), (30, 15, 0, 0, []), (31, 33, 1, 75, [5, 2, 10314, 0, 10315, 0, 10316, 9223]), (34, 26, 11, 2, [1, 11305]), (37, 3, 0, 1, []), (38, 27, 2, 10135307882079263, [1, 1, 1, 1, 1, 0, 0, 0, 0, 0]), (41, 15, 0, 0, []), (42, 33, 1, 66, [3, 2, 9249, 0, 9250, 0, 9251, 9218]), (45, 26, 11, 3, [1, 11306]), (48, 3, 0, 1, []), (49, 27, 1, 10139706984507406, [1, 1, 1, 1, 1, 1, 0, 0, 3, 1, 1, 1, 1, 1]), (52, 15, 0, 0, []), (53, 33, 1, 74, [2, 2, 10256, 1, 10257, 0, 10258, 9222]), (56, 26, 11, 4, [1, 11307]), (59, 3, 0, 1, []), (60, 27, 4, 10140806556952648, [1, 1, 1, 1, 1, 1, 1, 1, 0, 1, 1, 0, 1, 1, 1, 0]), (63, 15, 0, 0, []), (64, 33, 1, 75, [5, 2, 10314, 0, 10315, 0, 10316, 9223]), (67, 26, 11, 5, [1, 11308]), (70, 3, 0, 1, []), (71, 27, 2, 10135307882079263, [1, 1, 1, 1, 1, 0, 0, 0, 0, 0]), (74, 15, 0, 0, []), (75, 33, 1, 66, [3, 2, 9249, 0, 9250, 0, 9251, 9218]), (78, 26, 11, 7, [1, 11310]), (81, 3, 0, 1, []), (82, 27, 9, 10143005658851475, [1, 0, 0, 1, 0, 0, 1, 0, 0, 0, 3]), (85, 15, 0, 0, []), (86, 33, 1, 96, [10, 2, 10389, 1, 10390, 0, 10391, 9225]), (89, 26, 11, 8, [1, 11311]), (92, 3, 0, 1, []), (93, 27, 5, 10144105217665216, [1, 1, 1]), (96, 15, 0, 0, []), (97, 33, 1, 97, [6, 2, 10434, 1, 10435, 0, 10436, 9226]), (100, 26, 11, 9, [1, 11312]), (103, 3, 0, 1, []), (104, 27, 8, 10145204747118801, [0, 0, 1, 1, 1, 1, 0, 0]), (107, 15, 0, 0, []), (108, 33, 1, 98, [9, 2, 10451, 1, 10452, 0, 10453, 9227]), (111, 26, 11, 10, [1, 11313]), (114, 3, 0, 1, []), (115, 27, 3, 10146305115433986, [1, 1]), (118, 15, 0, 0, []), (119, 33, 1, 99, [4, 2, 11268, 1, 11269, 0, 11270, 9228]), (122, 26, 11, 11, [1, 11314]), (125, 3, 0, 1, []), (126, 27, 6, 10147404641741840, [1, 1, 0, 0, 0]), (129, 15, 0, 0, []), (130, 33, 1, 100, [7, 2, 11282, 1, 11283, 0, 11284, 9229]), (133, 26, 11, 12, [1, 11315]), (136, 3, 0, 1, []), (137, 0, 60, 0, []), (139, 28, 100, 0, [9315]), (141, 26, 11, 13, [1, 11316]), (144, 3, 0, 1, []), (145, 0, 60, 0, []), (147, 28, 100, 0, [9315]), (149, 26, 11, 15, [1, 11318]), (152, 36, 0, 0, [])], { frames := 3, cells := 739, slots := 11320, locals := 53 })
noncomputable def xm_133 : xM := (⟨"AcidCityModel", "<init>", "()V"⟩, prog_14_method_1_code, 2, (none : Option FieldType), [(0, 3, 0, 1, []), (1, 34, 0, 0, [15575, 9245, 9246]), (4, 3, 0, 1, []), (5, 0, 4900, 0, []), (8, 28, 100, 0, [9315]), (10, 26, 12, 0, [1, 15576]), (13, 3, 0, 1, []), (14, 0, 4900, 0, []), (17, 28, 100, 0, [9315]), (19, 26, 12, 1, [1, 15577]), (22, 3, 0, 1, []), (23, 0, 4900, 0, []), (26, 28, 100, 0, [9315]), (28, 26, 12, 2, [1, 15578]), (31, 3, 0, 1, []), (32, 0, 20, 0, []), (34, 28, 100, 0, [9315]), (36, 26, 12, 4, [1, 15580]), (39, 3, 0, 1, []), (40, 0, 20, 0, []), (42, 28, 100, 0, [9315]), (44, 26, 12, 5, [1, 15581]), (47, 3, 0, 1, []), (48, 0, 600, 0, []), (51, 28, 100, 0, [9315]), (53, 26, 12, 6, [1, 15582]), (56, 3, 0, 1, []), (57, 0, 96, 0, []), (59, 28, 100, 0, [9315]), (61, 26, 12, 7, [1, 15583]), (64, 3, 0, 1, []), (65, 0, 128, 0, []), (68, 28, 100, 0, [9315]), (70, 26, 12, 19, [1, 15595]), (73, 3, 0, 1, []), (74, 0, 100, 0, []), (76, 28, 100, 0, [9315]), (78, 26, 12, 20, [1, 15596]), (81, 3, 0, 1, []), (82, 0, 24, 0, []), (84, 28, 100, 0, [9315]), (86, 26, 12, 21, [1, 15597]), (89, 3, 0, 1, []), (90, 0, 24, 0, []), (92, 28, 100, 0, [9315]), (94, 26, 12, 22, [1, 15598]), (97, 3, 0, 1, []), (98, 0, 24, 0, []), (100, 28, 100, 0, [9315]), (102, 26, 12, 23, [1, 15599]), (105, 3, 0, 1, []), (106, 0, 30, 0, []), (108, 28, 100, 0, [9315]), (110, 26, 12, 24, [1, 16384]), (113, 3, 0, 1, []), (114, 0, 24, 0, []), (116, 28, 100, 0, [9315]), (118, 26, 12, 25, [1, 16385]), (121, 3, 0, 1, []), (122, 0, 24, 0, []), (124, 28, 100, 0, [9315]), (126, 26, 12, 26, [1, 16386]), (129, 3, 0, 1, []), (130, 0, 7525, 0, []), (133, 28, 100, 0, [9315]), (135, 26, 12, 30, [1, 16390]), (138, 3, 0, 1, []), (139, 0, 7, 0, []), (141, 28, 100, 0, [9315]), (143, 26, 12, 31, [1, 16391]), (146, 3, 0, 1, []), (147, 0, 7, 0, []), (149, 28, 100, 0, [9315]), (151, 26, 12, 32, [1, 16392]), (154, 3, 0, 1, []), (155, 0, 60, 0, []), (157, 28, 100, 0, [9315]), (159, 26, 12, 36, [1, 16396]), (162, 3, 0, 1, []), (163, 0, 60, 0, []), (165, 28, 100, 0, [9315]), (167, 26, 12, 38, [1, 16398]), (170, 3, 0, 1, []), (171, 25, 12, 0, [15576]), (174, 0, 1, 0, []), (175, 0, 300, 0, []), (178, 32, 100, 0, []), (179, 3, 0, 1, []), (180, 25, 12, 0, [15576]), (183, 0, 3, 0, []), (184, 0, 5760, 0, []), (187, 32, 100, 0, []), (188, 3, 0, 1, []), (189, 25, 12, 0, [15576]), (192, 0, 4, 0, []), (193, 0, 10, 0, []), (195, 32, 100, 0, []), (196, 3, 0, 1, []), (197, 25, 12, 0, [15576]), (200, 0, 14, 0, []), (202, 0, 4294967295, 0, []), (203, 32, 100, 0, []), (204, 0, 0, 0, []), (205, 4, 1, 0, []), (206, 3, 1, 0, []), (207, 0, 61, 0, []), (209, 21, 3, 268, []), (212, 3, 0, 1, []), (213, 25, 12, 0, [15576]), (216, 0, 1020, 0, []), (219, 3, 1, 0, []), (220, 6, 0, 0, []), (221, 0, 900, 0, []), (224, 0, 12, 0, []), (226, 3, 1, 0, []), (227, 6, 2, 0, []), (228, 6, 1, 0, []), (229, 32, 100, 0, []), (230, 3, 0, 1, []), (231, 25, 12, 0, [15576]), (234, 0, 1081, 0, []), (237, 3, 1, 0, []), (238, 6, 0, 0, []), (239, 0, 600, 0, []), (242, 0, 10, 0, []), (244, 3, 1, 0, []), (245, 6, 2, 0, []), (246, 6, 1, 0, []), (247, 32, 100, 0, []), (248, 3, 0, 1, []), (249, 25, 12, 0, [15576]), (252, 0, 1142, 0, []), (255, 3, 1, 0, []), (256, 6, 0, 0, []), (257, 0, 60, 0, []), (259, 3, 1, 0, []), (260, 6, 1, 0, []), (261, 32, 100, 0, []), (262, 5, 1, 1, []), (265, 22, 0, 206, []), (268, 0, 0, 0, []), (269, 4, 1, 0, []), (270, 3, 1, 0, []), (271, 0, 8, 0, []), (273, 21, 3, 293, []), (276, 3, 0, 1, []), (277, 25, 12, 0, [15576]), (280, 0, 4500, 0, []), (283, 3, 1, 0, []), (284, 6, 0, 0, []), (285, 0, 4294967295, 0, []), (286, 32, 100, 0, []), (287, 5, 1, 1, []), (290, 22, 0, 270, []), (293, 0, 0, 0, []), (294, 4, 1, 0, []), (295, 3, 1, 0, []), (296, 0, 20, 0, []), (298, 21, 3, 314, []), (301, 3, 0, 1, []), (302, 25, 12, 4, [15580]), (305, 3, 1, 0, []), (306, 0, 4294967295, 0, []), (307, 32, 100, 0, []), (308, 5, 1, 1, []), (311, 22, 0, 295, []), (314, 36, 0, 0, [])], { frames := 1, cells := 20, slots := 23473, locals := 12 })
noncomputable def xm_134 : xM := (⟨"AcidCity", "cell", "(I)I"⟩, prog_1_method_2_code, 3, (some .int), [(0, 3, 1, 0, []), (1, 0, 1, 0, []), (2, 0, 999, 0, []), (5, 33, 3, 19, [0, 0, 11356, 0, 11357, 0, 11358, 9217]), (8, 20, 1, 14, []), (11, 0, 3294967295, 0, [11359]), (13, 35, 0, 0, []), (14, 3, 0, 1, []), (15, 25, 11, 0, [11303]), (18, 25, 2, 0, [9426]), (21, 3, 1, 0, []), (22, 33, 2, 101, [1, 1, 11360, 0, 11361, 11362, 11363, 9219]), (25, 4, 2, 0, []), (26, 3, 2, 0, []), (27, 20, 2, 38, []), (30, 3, 0, 1, []), (31, 25, 11, 9, [11312]), (34, 3, 2, 0, []), (35, 33, 2, 102, [6, 1, 11367, 0, 11368, 11369, 11370, 9226]), (38, 3, 2, 0, []), (39, 35, 0, 0, [])], { frames := 2, cells := 0, slots := 0, locals := 45 })
noncomputable def xm_135 : xM := (⟨"AcidCityModel", "cell", "(I)I"⟩, prog_14_method_19_code, 4, (some .int), [(0, 3, 1, 0, []), (1, 9, 0, 0, []), (2, 1, 1, 0, []), (3, 1, 999, 0, [16485]), (6, 33, 3, 3, [0, 0, 16486, 0, 16487, 0, 16488, 9230]), (9, 20, 1, 15, []), (12, 0, 3294967295, 0, [16489]), (14, 35, 0, 0, []), (15, 3, 0, 1, []), (16, 25, 12, 0, [15576]), (19, 0, 5, 0, []), (20, 31, 100, 0, []), (21, 0, 20, 0, []), (23, 21, 1, 29, []), (26, 60, 0, 0, []), (28, 60, 0, 0, []), (29, 3, 0, 1, []), (30, 3, 0, 1, []), (31, 25, 12, 0, [15576]), (34, 0, 5, 0, []), (35, 31, 100, 0, []), (36, 33, 2, 67, [13, 1, 16491, 0, 16493, 3077, 16494, 9230]), (39, 4, 2, 0, []), (40, 0, 0, 0, []), (41, 4, 3, 0, []), (42, 3, 3, 0, []), (43, 0, 20, 0, []), (45, 21, 3, 63, []), (48, 3, 0, 1, []), (49, 25, 12, 0, [15576]), (52, 3, 2, 0, []), (53, 3, 3, 0, []), (54, 6, 0, 0, []), (55, 0, 0, 0, []), (56, 32, 100, 0, []), (57, 5, 3, 1, []), (60, 22, 0, 42, []), (63, 3, 0, 1, []), (64, 25, 12, 0, [15576]), (67, 3, 2, 0, []), (68, 0, 0, 0, []), (69, 6, 0, 0, []), (70, 3, 1, 0, []), (71, 32, 100, 0, []), (72, 3, 0, 1, []), (73, 25, 12, 0, [15576]), (76, 3, 2, 0, []), (77, 0, 17, 0, []), (79, 6, 0, 0, []), (80, 0, 4294967295, 0, []), (81, 32, 100, 0, []), (82, 3, 0, 1, []), (83, 25, 12, 0, [15576]), (86, 0, 5, 0, []), (87, 19, 0, 0, []), (88, 31, 100, 0, []), (89, 0, 1, 0, []), (90, 6, 0, 0, []), (91, 32, 100, 0, []), (92, 3, 0, 1, []), (93, 25, 12, 0, [15576]), (96, 0, 5, 0, []), (97, 31, 100, 0, []), (98, 0, 1, 0, []), (99, 6, 1, 0, []), (100, 35, 0, 0, [])], { frames := 1, cells := 0, slots := 0, locals := 25 })
noncomputable def xm_136 : xM := (⟨"AcidCity", "air", "(III)I"⟩, prog_1_method_3_code, 4, (some .int), [(0, 3, 0, 1, []), (1, 25, 11, 0, [11303]), (4, 3, 1, 0, []), (5, 33, 2, 45, [3, 1, 11375, 0, 11376, 11377, 11378, 9218]), (8, 20, 0, 20, []), (11, 60, 0, 0, []), (12, 60, 0, 0, []), (13, 60, 0, 0, []), (14, 60, 0, 0, []), (17, 60, 0, 0, []), (20, 0, 3294967295, 0, [11359]), (22, 35, 0, 0, []), (23, 60, 0, 0, []), (24, 60, 0, 0, []), (25, 60, 0, 0, []), (28, 60, 0, 0, []), (29, 60, 0, 0, []), (30, 60, 0, 0, []), (32, 60, 0, 0, []), (35, 60, 0, 0, []), (38, 60, 0, 0, []), (39, 60, 0, 0, []), (42, 60, 0, 0, []), (45, 60, 0, 0, []), (48, 60, 0, 0, []), (49, 60, 0, 0, []), (50, 60, 0, 0, []), (53, 60, 0, 0, []), (56, 60, 0, 0, []), (58, 60, 0, 0, []), (59, 60, 0, 0, []), (60, 60, 0, 0, []), (61, 60, 0, 0, []), (63, 60, 0, 0, []), (66, 60, 0, 0, []), (69, 60, 0, 0, []), (70, 60, 0, 0, []), (73, 60, 0, 0, []), (76, 60, 0, 0, []), (79, 60, 0, 0, []), (80, 60, 0, 0, []), (81, 60, 0, 0, []), (82, 60, 0, 0, []), (83, 60, 0, 0, []), (86, 60, 0, 0, []), (89, 60, 0, 0, []), (91, 60, 0, 0, [])], { frames := 2, cells := 0, slots := 0, locals := 43 })
noncomputable def xm_137 : xM := (⟨"AcidCityModel", "air", "(III)I"⟩, prog_14_method_21_code, 4, (some .int), [(0, 3, 0, 1, []), (1, 3, 1, 0, []), (2, 33, 2, 38, [13, 1, 16499, 0, 16501, 3078, 16502, 9230]), (5, 20, 0, 43, []), (8, 60, 0, 0, []), (9, 60, 0, 0, []), (10, 60, 0, 0, []), (11, 60, 0, 0, []), (14, 60, 0, 0, []), (17, 60, 0, 0, []), (20, 60, 0, 0, []), (21, 60, 0, 0, []), (22, 60, 0, 0, []), (23, 60, 0, 0, []), (24, 60, 0, 0, []), (25, 60, 0, 0, []), (28, 60, 0, 0, []), (31, 60, 0, 0, []), (34, 60, 0, 0, []), (37, 60, 0, 0, []), (40, 60, 0, 0, []), (43, 0, 3294967295, 0, [16489]), (45, 35, 0, 0, []), (46, 60, 0, 0, []), (47, 60, 0, 0, []), (48, 60, 0, 0, []), (49, 60, 0, 0, []), (52, 60, 0, 0, []), (53, 60, 0, 0, []), (54, 60, 0, 0, []), (57, 60, 0, 0, []), (59, 60, 0, 0, []), (62, 60, 0, 0, []), (63, 60, 0, 0, []), (64, 60, 0, 0, []), (65, 60, 0, 0, []), (66, 60, 0, 0, []), (67, 60, 0, 0, []), (70, 60, 0, 0, [])], { frames := 2, cells := 0, slots := 0, locals := 46 })
noncomputable def xm_138 : xM := (⟨"AcidCity", "told", "(II)I"⟩, prog_1_method_4_code, 3, (some .int), [(0, 3, 0, 1, []), (1, 25, 11, 0, [11303]), (4, 3, 1, 0, []), (5, 33, 2, 45, [3, 1, 11375, 0, 11376, 11377, 11378, 9218]), (8, 20, 1, 14, []), (11, 0, 3294967295, 0, [11359]), (13, 35, 0, 0, []), (14, 60, 0, 0, []), (15, 60, 0, 0, []), (16, 60, 0, 0, []), (17, 60, 0, 0, []), (20, 60, 0, 0, []), (23, 60, 0, 0, []), (24, 60, 0, 0, []), (27, 60, 0, 0, []), (30, 60, 0, 0, []), (33, 60, 0, 0, []), (34, 60, 0, 0, []), (35, 60, 0, 0, []), (36, 60, 0, 0, []), (37, 60, 0, 0, []), (38, 60, 0, 0, []), (39, 60, 0, 0, []), (41, 60, 0, 0, []), (43, 60, 0, 0, []), (46, 60, 0, 0, []), (49, 60, 0, 0, []), (50, 60, 0, 0, []), (53, 60, 0, 0, []), (56, 60, 0, 0, []), (59, 60, 0, 0, []), (60, 60, 0, 0, []), (61, 60, 0, 0, []), (62, 60, 0, 0, []), (64, 60, 0, 0, []), (65, 60, 0, 0, []), (66, 60, 0, 0, []), (67, 60, 0, 0, []), (68, 60, 0, 0, []), (100, 60, 0, 0, []), (101, 60, 0, 0, []), (104, 60, 0, 0, []), (107, 60, 0, 0, []), (110, 60, 0, 0, []), (111, 60, 0, 0, []), (112, 60, 0, 0, []), (113, 60, 0, 0, []), (114, 60, 0, 0, []), (117, 60, 0, 0, []), (120, 60, 0, 0, []), (123, 60, 0, 0, []), (124, 60, 0, 0, []), (125, 60, 0, 0, []), (126, 60, 0, 0, []), (127, 60, 0, 0, []), (130, 60, 0, 0, []), (133, 60, 0, 0, []), (134, 60, 0, 0, []), (137, 60, 0, 0, []), (138, 60, 0, 0, []), (139, 60, 0, 0, []), (142, 60, 0, 0, []), (145, 60, 0, 0, []), (146, 60, 0, 0, []), (149, 60, 0, 0, []), (150, 60, 0, 0, []), (152, 60, 0, 0, [])], { frames := 2, cells := 0, slots := 0, locals := 43 })
noncomputable def xm_139 : xM := (⟨"AcidCityModel", "told", "(II)I"⟩, prog_14_method_23_code, 6, (some .int), [(0, 3, 0, 1, []), (1, 3, 1, 0, []), (2, 33, 2, 38, [13, 1, 16499, 0, 16501, 3078, 16502, 9230]), (5, 20, 0, 26, []), (8, 60, 0, 0, []), (9, 60, 0, 0, []), (10, 60, 0, 0, []), (11, 60, 0, 0, []), (14, 60, 0, 0, []), (17, 60, 0, 0, []), (20, 60, 0, 0, []), (21, 60, 0, 0, []), (23, 60, 0, 0, []), (26, 0, 3294967295, 0, [16489]), (28, 35, 0, 0, []), (29, 60, 0, 0, []), (30, 60, 0, 0, []), (31, 60, 0, 0, []), (34, 60, 0, 0, []), (35, 60, 0, 0, []), (36, 60, 0, 0, []), (38, 60, 0, 0, []), (41, 60, 0, 0, []), (42, 60, 0, 0, []), (45, 60, 0, 0, []), (46, 60, 0, 0, []), (48, 60, 0, 0, []), (49, 60, 0, 0, []), (50, 60, 0, 0, []), (51, 60, 0, 0, []), (53, 60, 0, 0, []), (54, 60, 0, 0, []), (55, 60, 0, 0, []), (56, 60, 0, 0, []), (57, 60, 0, 0, []), (59, 60, 0, 0, []), (62, 60, 0, 0, []), (63, 60, 0, 0, []), (65, 60, 0, 0, []), (66, 60, 0, 0, []), (68, 60, 0, 0, []), (70, 60, 0, 0, []), (71, 60, 0, 0, []), (74, 60, 0, 0, []), (76, 60, 0, 0, []), (77, 60, 0, 0, []), (80, 60, 0, 0, []), (82, 60, 0, 0, []), (83, 60, 0, 0, []), (86, 60, 0, 0, []), (87, 60, 0, 0, []), (89, 60, 0, 0, []), (92, 60, 0, 0, []), (93, 60, 0, 0, []), (94, 60, 0, 0, []), (95, 60, 0, 0, []), (96, 60, 0, 0, []), (99, 60, 0, 0, []), (100, 60, 0, 0, []), (102, 60, 0, 0, []), (105, 60, 0, 0, []), (108, 60, 0, 0, []), (109, 60, 0, 0, []), (112, 60, 0, 0, []), (113, 60, 0, 0, []), (114, 60, 0, 0, []), (116, 60, 0, 0, []), (119, 60, 0, 0, []), (122, 60, 0, 0, []), (124, 60, 0, 0, []), (125, 60, 0, 0, []), (126, 60, 0, 0, []), (127, 60, 0, 0, []), (130, 60, 0, 0, []), (131, 60, 0, 0, []), (134, 60, 0, 0, []), (135, 60, 0, 0, []), (136, 60, 0, 0, []), (137, 60, 0, 0, []), (138, 60, 0, 0, []), (139, 60, 0, 0, []), (140, 60, 0, 0, []), (143, 60, 0, 0, []), (144, 60, 0, 0, []), (145, 60, 0, 0, []), (148, 60, 0, 0, []), (149, 60, 0, 0, []), (152, 60, 0, 0, []), (153, 60, 0, 0, []), (155, 60, 0, 0, []), (156, 60, 0, 0, []), (157, 60, 0, 0, []), (160, 60, 0, 0, []), (161, 60, 0, 0, []), (163, 60, 0, 0, []), (166, 60, 0, 0, []), (167, 60, 0, 0, []), (170, 60, 0, 0, []), (171, 60, 0, 0, []), (172, 60, 0, 0, []), (173, 60, 0, 0, []), (174, 60, 0, 0, []), (177, 60, 0, 0, []), (178, 60, 0, 0, []), (179, 60, 0, 0, []), (182, 60, 0, 0, [])], { frames := 2, cells := 0, slots := 0, locals := 46 })
noncomputable def xm_140 : xM := (⟨"AcidCity", "lock", "(III)I"⟩, prog_1_method_5_code, 4, (some .int), [(0, 3, 0, 1, []), (1, 25, 11, 0, [11303]), (4, 3, 1, 0, []), (5, 33, 2, 45, [3, 1, 11375, 0, 11376, 11377, 11378, 9218]), (8, 20, 0, 37, []), (11, 60, 0, 0, []), (12, 60, 0, 0, []), (15, 60, 0, 0, []), (16, 60, 0, 0, []), (19, 60, 0, 0, []), (22, 60, 0, 0, []), (23, 60, 0, 0, []), (24, 60, 0, 0, []), (27, 60, 0, 0, []), (28, 60, 0, 0, []), (29, 60, 0, 0, []), (31, 60, 0, 0, []), (34, 60, 0, 0, []), (37, 0, 3294967295, 0, [11359]), (39, 35, 0, 0, []), (40, 60, 0, 0, []), (41, 60, 0, 0, []), (44, 60, 0, 0, []), (47, 60, 0, 0, []), (48, 60, 0, 0, []), (49, 60, 0, 0, []), (50, 60, 0, 0, []), (53, 60, 0, 0, [])], { frames := 2, cells := 0, slots := 0, locals := 43 })
noncomputable def xm_141 : xM := (⟨"AcidCityModel", "lock", "(III)I"⟩, prog_14_method_24_code, 5, (some .int), [(0, 3, 0, 1, []), (1, 3, 1, 0, []), (2, 33, 2, 38, [13, 1, 16499, 0, 16501, 3078, 16502, 9230]), (5, 20, 0, 33, []), (8, 60, 0, 0, []), (9, 60, 0, 0, []), (10, 60, 0, 0, []), (13, 60, 0, 0, []), (16, 60, 0, 0, []), (17, 60, 0, 0, []), (18, 60, 0, 0, []), (21, 60, 0, 0, []), (22, 60, 0, 0, []), (23, 60, 0, 0, []), (24, 60, 0, 0, []), (27, 60, 0, 0, []), (30, 60, 0, 0, []), (33, 0, 3294967295, 0, [16489]), (35, 35, 0, 0, []), (36, 60, 0, 0, []), (37, 60, 0, 0, []), (40, 60, 0, 0, []), (42, 60, 0, 0, []), (43, 60, 0, 0, []), (45, 60, 0, 0, []), (48, 60, 0, 0, []), (50, 60, 0, 0, []), (51, 60, 0, 0, []), (54, 60, 0, 0, []), (55, 60, 0, 0, []), (56, 60, 0, 0, []), (59, 60, 0, 0, []), (61, 60, 0, 0, []), (62, 60, 0, 0, []), (63, 60, 0, 0, []), (64, 60, 0, 0, []), (66, 60, 0, 0, []), (67, 60, 0, 0, []), (70, 60, 0, 0, []), (72, 60, 0, 0, []), (73, 60, 0, 0, []), (74, 60, 0, 0, []), (75, 60, 0, 0, []), (78, 60, 0, 0, []), (80, 60, 0, 0, []), (81, 60, 0, 0, []), (82, 60, 0, 0, []), (83, 60, 0, 0, []), (84, 60, 0, 0, []), (85, 60, 0, 0, []), (88, 60, 0, 0, []), (90, 60, 0, 0, []), (91, 60, 0, 0, []), (92, 60, 0, 0, []), (93, 60, 0, 0, []), (94, 60, 0, 0, []), (95, 60, 0, 0, []), (98, 60, 0, 0, []), (100, 60, 0, 0, []), (101, 60, 0, 0, []), (102, 60, 0, 0, []), (103, 60, 0, 0, []), (104, 60, 0, 0, []), (105, 60, 0, 0, []), (108, 60, 0, 0, []), (110, 60, 0, 0, []), (111, 60, 0, 0, []), (112, 60, 0, 0, []), (113, 60, 0, 0, []), (114, 60, 0, 0, []), (115, 60, 0, 0, []), (116, 60, 0, 0, []), (119, 60, 0, 0, []), (121, 60, 0, 0, []), (122, 60, 0, 0, []), (123, 60, 0, 0, []), (124, 60, 0, 0, [])], { frames := 2, cells := 0, slots := 0, locals := 46 })
noncomputable def xm_142 : xM := (⟨"AcidCity", "turn", "(III)I"⟩, prog_1_method_6_code, 4, (some .int), [(0, 3, 0, 1, []), (1, 25, 11, 0, [11303]), (4, 3, 1, 0, []), (5, 33, 2, 103, [3, 1, 11412, 0, 11413, 11414, 11415, 9218]), (8, 20, 0, 31, []), (11, 60, 0, 0, []), (12, 60, 0, 0, []), (15, 60, 0, 0, []), (16, 60, 0, 0, []), (19, 60, 0, 0, []), (22, 60, 0, 0, []), (23, 60, 0, 0, []), (24, 60, 0, 0, []), (25, 60, 0, 0, []), (28, 60, 0, 0, []), (31, 0, 3294967295, 0, [11359]), (33, 35, 0, 0, []), (34, 60, 0, 0, []), (35, 60, 0, 0, []), (38, 60, 0, 0, []), (41, 60, 0, 0, []), (42, 60, 0, 0, []), (45, 60, 0, 0, []), (48, 60, 0, 0, []), (49, 60, 0, 0, []), (52, 60, 0, 0, []), (53, 60, 0, 0, []), (56, 60, 0, 0, []), (57, 60, 0, 0, []), (58, 60, 0, 0, []), (61, 60, 0, 0, []), (64, 60, 0, 0, []), (66, 60, 0, 0, []), (67, 60, 0, 0, []), (68, 60, 0, 0, []), (71, 60, 0, 0, []), (74, 60, 0, 0, []), (77, 60, 0, 0, []), (78, 60, 0, 0, []), (79, 60, 0, 0, []), (82, 60, 0, 0, [])], { frames := 2, cells := 0, slots := 0, locals := 43 })
noncomputable def xm_143 : xM := (⟨"AcidCityModel", "turn", "(III)I"⟩, prog_14_method_26_code, 4, (some .int), [(0, 3, 0, 1, []), (1, 3, 1, 0, []), (2, 33, 2, 104, [13, 1, 16544, 0, 16546, 3085, 16547, 9230]), (5, 20, 0, 26, []), (8, 60, 0, 0, []), (9, 60, 0, 0, []), (10, 60, 0, 0, []), (13, 60, 0, 0, []), (16, 60, 0, 0, []), (17, 60, 0, 0, []), (18, 60, 0, 0, []), (19, 60, 0, 0, []), (20, 60, 0, 0, []), (23, 60, 0, 0, []), (26, 0, 3294967295, 0, [16489]), (28, 35, 0, 0, []), (29, 60, 0, 0, []), (30, 60, 0, 0, []), (31, 60, 0, 0, []), (34, 60, 0, 0, []), (37, 60, 0, 0, []), (38, 60, 0, 0, []), (39, 60, 0, 0, []), (40, 60, 0, 0, []), (43, 60, 0, 0, []), (46, 60, 0, 0, []), (48, 60, 0, 0, []), (51, 60, 0, 0, []), (52, 60, 0, 0, []), (55, 60, 0, 0, []), (56, 60, 0, 0, []), (57, 60, 0, 0, []), (58, 60, 0, 0, []), (59, 60, 0, 0, []), (60, 60, 0, 0, []), (61, 60, 0, 0, []), (62, 60, 0, 0, []), (65, 60, 0, 0, [])], { frames := 2, cells := 0, slots := 0, locals := 46 })
noncomputable def xm_144 : xM := (⟨"AcidCity", "store", "(II)I"⟩, prog_1_method_7_code, 3, (some .int), [(0, 3, 1, 0, []), (1, 0, 0, 0, []), (2, 0, 5, 0, []), (3, 33, 3, 19, [0, 0, 11356, 0, 11357, 0, 11358, 9217]), (6, 20, 0, 19, []), (9, 3, 2, 0, []), (10, 0, 0, 0, []), (11, 0, 999999, 0, [11383]), (13, 33, 3, 19, [0, 0, 11356, 0, 11357, 0, 11358, 9217]), (16, 20, 1, 22, []), (19, 0, 3294967295, 0, [11359]), (21, 35, 0, 0, []), (22, 3, 0, 1, []), (23, 25, 11, 0, [11303]), (26, 25, 2, 3, [9436]), (29, 3, 1, 0, []), (30, 3, 2, 0, []), (31, 33, 3, 34, [0, 0, 11380, 0, 11381, 0, 11382, 9217]), (34, 35, 0, 0, [])], { frames := 1, cells := 0, slots := 0, locals := 23 })
noncomputable def xm_145 : xM := (⟨"AcidCityModel", "store", "(II)I"⟩, prog_14_method_27_code, 3, (some .int), [(0, 3, 1, 0, []), (1, 9, 0, 0, []), (2, 1, 0, 0, []), (3, 1, 5, 0, [16503]), (6, 33, 3, 3, [0, 0, 16486, 0, 16487, 0, 16488, 9230]), (9, 20, 0, 36, []), (12, 3, 2, 0, []), (13, 9, 0, 0, []), (14, 1, 0, 0, []), (15, 1, 999999, 0, [16505]), (18, 33, 3, 3, [0, 0, 16486, 0, 16487, 0, 16488, 9230]), (21, 20, 0, 36, []), (24, 3, 0, 1, []), (25, 0, 17, 0, []), (27, 3, 1, 0, []), (28, 6, 0, 0, []), (29, 3, 2, 0, []), (30, 33, 3, 4, [13, 1, 16506, 0, 16508, 3079, 16509, 9230]), (33, 22, 0, 38, []), (36, 0, 3294967295, 0, [16489]), (38, 35, 0, 0, [])], { frames := 1, cells := 0, slots := 0, locals := 25 })
noncomputable def xm_146 : xM := (⟨"AcidCity", "give", "(III)I"⟩, prog_1_method_8_code, 5, (some .int), [(0, 3, 1, 0, []), (1, 0, 0, 0, []), (2, 0, 5, 0, []), (3, 33, 3, 19, [0, 0, 11356, 0, 11357, 0, 11358, 9217]), (6, 20, 0, 35, []), (9, 3, 1, 0, []), (10, 0, 4, 0, []), (11, 21, 0, 35, []), (14, 3, 0, 1, []), (15, 25, 11, 0, [11303]), (18, 3, 2, 0, []), (19, 33, 2, 45, [3, 1, 11375, 0, 11376, 11377, 11378, 9218]), (22, 20, 0, 35, []), (25, 60, 0, 0, []), (26, 60, 0, 0, []), (27, 60, 0, 0, []), (29, 60, 0, 0, []), (32, 60, 0, 0, []), (35, 0, 3294967295, 0, [11359]), (37, 35, 0, 0, []), (38, 60, 0, 0, []), (39, 60, 0, 0, []), (40, 60, 0, 0, []), (43, 60, 0, 0, []), (44, 60, 0, 0, []), (47, 60, 0, 0, []), (48, 60, 0, 0, []), (50, 60, 0, 0, []), (51, 60, 0, 0, []), (54, 60, 0, 0, []), (57, 60, 0, 0, []), (58, 60, 0, 0, []), (59, 60, 0, 0, []), (60, 60, 0, 0, []), (63, 60, 0, 0, []), (64, 60, 0, 0, []), (67, 60, 0, 0, []), (70, 60, 0, 0, []), (73, 60, 0, 0, []), (74, 60, 0, 0, []), (75, 60, 0, 0, []), (77, 60, 0, 0, []), (78, 60, 0, 0, []), (79, 60, 0, 0, []), (80, 60, 0, 0, []), (82, 60, 0, 0, []), (85, 60, 0, 0, []), (87, 60, 0, 0, []), (88, 60, 0, 0, []), (89, 60, 0, 0, []), (92, 60, 0, 0, []), (95, 60, 0, 0, []), (96, 60, 0, 0, []), (97, 60, 0, 0, []), (98, 60, 0, 0, []), (99, 60, 0, 0, []), (100, 60, 0, 0, []), (101, 60, 0, 0, []), (102, 60, 0, 0, []), (105, 60, 0, 0, []), (108, 60, 0, 0, []), (111, 60, 0, 0, []), (112, 60, 0, 0, []), (113, 60, 0, 0, []), (115, 60, 0, 0, []), (116, 60, 0, 0, []), (117, 60, 0, 0, []), (118, 60, 0, 0, []), (119, 60, 0, 0, []), (120, 60, 0, 0, []), (121, 60, 0, 0, []), (124, 60, 0, 0, []), (127, 60, 0, 0, []), (128, 60, 0, 0, []), (129, 60, 0, 0, [])], { frames := 2, cells := 0, slots := 0, locals := 43 })
noncomputable def xm_147 : xM := (⟨"AcidCityModel", "give", "(III)I"⟩, prog_14_method_28_code, 5, (some .int), [(0, 3, 1, 0, []), (1, 9, 0, 0, []), (2, 1, 0, 0, []), (3, 1, 5, 0, [16503]), (6, 33, 3, 3, [0, 0, 16486, 0, 16487, 0, 16488, 9230]), (9, 20, 0, 37, []), (12, 3, 1, 0, []), (13, 0, 4, 0, []), (14, 21, 0, 37, []), (17, 3, 0, 1, []), (18, 3, 2, 0, []), (19, 33, 2, 38, [13, 1, 16499, 0, 16501, 3078, 16502, 9230]), (22, 20, 0, 37, []), (25, 60, 0, 0, []), (26, 60, 0, 0, []), (27, 60, 0, 0, []), (28, 60, 0, 0, []), (31, 60, 0, 0, []), (34, 60, 0, 0, []), (37, 0, 3294967295, 0, [16489]), (39, 35, 0, 0, []), (40, 60, 0, 0, []), (41, 60, 0, 0, []), (42, 60, 0, 0, []), (45, 60, 0, 0, []), (46, 60, 0, 0, []), (47, 60, 0, 0, []), (48, 60, 0, 0, []), (49, 60, 0, 0, []), (52, 60, 0, 0, []), (53, 60, 0, 0, []), (56, 60, 0, 0, []), (57, 60, 0, 0, []), (58, 60, 0, 0, []), (60, 60, 0, 0, []), (61, 60, 0, 0, []), (64, 60, 0, 0, []), (66, 60, 0, 0, []), (67, 60, 0, 0, []), (68, 60, 0, 0, []), (69, 60, 0, 0, []), (70, 60, 0, 0, []), (73, 60, 0, 0, []), (74, 60, 0, 0, []), (77, 60, 0, 0, []), (79, 60, 0, 0, []), (80, 60, 0, 0, []), (81, 60, 0, 0, []), (82, 60, 0, 0, []), (84, 60, 0, 0, []), (87, 60, 0, 0, []), (89, 60, 0, 0, []), (90, 60, 0, 0, []), (91, 60, 0, 0, []), (94, 60, 0, 0, []), (96, 60, 0, 0, []), (97, 60, 0, 0, []), (98, 60, 0, 0, []), (99, 60, 0, 0, []), (100, 60, 0, 0, []), (101, 60, 0, 0, []), (102, 60, 0, 0, []), (105, 60, 0, 0, []), (107, 60, 0, 0, []), (108, 60, 0, 0, []), (109, 60, 0, 0, []), (110, 60, 0, 0, []), (111, 60, 0, 0, []), (112, 60, 0, 0, []), (113, 60, 0, 0, []), (114, 60, 0, 0, []), (115, 60, 0, 0, []), (118, 60, 0, 0, []), (120, 60, 0, 0, []), (121, 60, 0, 0, []), (122, 60, 0, 0, []), (123, 60, 0, 0, [])], { frames := 2, cells := 0, slots := 0, locals := 46 })
noncomputable def xm_148 : xM := (⟨"AcidCity", "work", "(IIIII)I"⟩, prog_1_method_9_code, 6, (some .int), [(0, 3, 0, 1, []), (1, 25, 11, 0, [11303]), (4, 3, 2, 0, []), (5, 33, 2, 45, [3, 1, 11375, 0, 11376, 11377, 11378, 9218]), (8, 20, 0, 40, []), (11, 60, 0, 0, []), (12, 60, 0, 0, []), (13, 60, 0, 0, []), (16, 60, 0, 0, []), (19, 60, 0, 0, []), (22, 60, 0, 0, []), (23, 60, 0, 0, []), (26, 60, 0, 0, []), (29, 60, 0, 0, []), (30, 60, 0, 0, []), (32, 60, 0, 0, []), (34, 60, 0, 0, []), (37, 60, 0, 0, []), (40, 0, 3294967295, 0, [11359]), (42, 35, 0, 0, []), (43, 60, 0, 0, []), (44, 60, 0, 0, []), (47, 60, 0, 0, []), (50, 60, 0, 0, []), (51, 60, 0, 0, []), (52, 60, 0, 0, []), (53, 60, 0, 0, []), (55, 60, 0, 0, []), (57, 60, 0, 0, []), (60, 60, 0, 0, [])], { frames := 2, cells := 0, slots := 0, locals := 43 })
noncomputable def xm_149 : xM := (⟨"AcidCityModel", "work", "(IIIII)I"⟩, prog_14_method_30_code, 8, (some .int), [(0, 3, 1, 0, []), (1, 9, 0, 0, []), (2, 1, 0, 0, []), (3, 1, 6, 0, [16601]), (6, 33, 3, 3, [0, 0, 16486, 0, 16487, 0, 16488, 9230]), (9, 20, 0, 44, []), (12, 3, 0, 1, []), (13, 3, 2, 0, []), (14, 33, 2, 38, [13, 1, 16499, 0, 16501, 3078, 16502, 9230]), (17, 20, 0, 44, []), (20, 60, 0, 0, []), (21, 60, 0, 0, []), (22, 60, 0, 0, []), (23, 60, 0, 0, []), (26, 60, 0, 0, []), (29, 60, 0, 0, []), (32, 60, 0, 0, []), (33, 60, 0, 0, []), (34, 60, 0, 0, []), (36, 60, 0, 0, []), (38, 60, 0, 0, []), (41, 60, 0, 0, []), (44, 0, 3294967295, 0, [16489]), (46, 35, 0, 0, []), (47, 60, 0, 0, []), (48, 60, 0, 0, []), (51, 60, 0, 0, []), (53, 60, 0, 0, []), (54, 60, 0, 0, []), (56, 60, 0, 0, []), (59, 60, 0, 0, []), (61, 60, 0, 0, []), (62, 60, 0, 0, []), (63, 60, 0, 0, []), (64, 60, 0, 0, []), (67, 60, 0, 0, []), (69, 60, 0, 0, []), (70, 60, 0, 0, []), (73, 60, 0, 0, []), (75, 60, 0, 0, []), (76, 60, 0, 0, []), (78, 60, 0, 0, []), (80, 60, 0, 0, []), (82, 60, 0, 0, []), (85, 60, 0, 0, []), (86, 60, 0, 0, []), (89, 60, 0, 0, []), (91, 60, 0, 0, []), (93, 60, 0, 0, []), (94, 60, 0, 0, []), (95, 60, 0, 0, []), (96, 60, 0, 0, []), (99, 60, 0, 0, []), (102, 60, 0, 0, []), (103, 60, 0, 0, []), (106, 60, 0, 0, []), (108, 60, 0, 0, []), (109, 60, 0, 0, []), (110, 60, 0, 0, []), (111, 60, 0, 0, []), (112, 60, 0, 0, []), (113, 60, 0, 0, []), (116, 60, 0, 0, []), (118, 60, 0, 0, []), (119, 60, 0, 0, []), (120, 60, 0, 0, []), (121, 60, 0, 0, []), (122, 60, 0, 0, []), (123, 60, 0, 0, []), (126, 60, 0, 0, []), (128, 60, 0, 0, []), (129, 60, 0, 0, []), (130, 60, 0, 0, []), (131, 60, 0, 0, []), (132, 60, 0, 0, []), (133, 60, 0, 0, []), (136, 60, 0, 0, []), (138, 60, 0, 0, []), (139, 60, 0, 0, []), (140, 60, 0, 0, []), (141, 60, 0, 0, []), (142, 60, 0, 0, []), (143, 60, 0, 0, []), (146, 60, 0, 0, []), (148, 60, 0, 0, []), (149, 60, 0, 0, []), (150, 60, 0, 0, []), (152, 60, 0, 0, []), (153, 60, 0, 0, []), (154, 60, 0, 0, []), (157, 60, 0, 0, []), (159, 60, 0, 0, []), (161, 60, 0, 0, []), (162, 60, 0, 0, []), (164, 60, 0, 0, []), (165, 60, 0, 0, []), (166, 60, 0, 0, []), (169, 60, 0, 0, []), (171, 60, 0, 0, []), (173, 60, 0, 0, []), (174, 60, 0, 0, []), (175, 60, 0, 0, []), (176, 60, 0, 0, []), (177, 60, 0, 0, []), (180, 60, 0, 0, []), (182, 60, 0, 0, []), (183, 60, 0, 0, []), (184, 60, 0, 0, []), (185, 60, 0, 0, []), (186, 60, 0, 0, []), (187, 60, 0, 0, []), (188, 60, 0, 0, []), (191, 60, 0, 0, []), (193, 60, 0, 0, []), (194, 60, 0, 0, []), (195, 60, 0, 0, []), (196, 60, 0, 0, [])], { frames := 2, cells := 0, slots := 0, locals := 46 })
noncomputable def xm_150 : xM := (⟨"AcidCity", "has", "(II)I"⟩, prog_1_method_10_code, 3, (some .int), [(0, 3, 0, 1, []), (1, 25, 11, 0, [11303]), (4, 3, 1, 0, []), (5, 33, 2, 49, [3, 1, 11493, 0, 11494, 11495, 11496, 9218]), (8, 20, 0, 26, []), (11, 60, 0, 0, []), (12, 60, 0, 0, []), (15, 60, 0, 0, []), (18, 60, 0, 0, []), (19, 60, 0, 0, []), (20, 60, 0, 0, []), (23, 60, 0, 0, []), (26, 0, 3294967295, 0, [11359]), (28, 35, 0, 0, [])], { frames := 2, cells := 0, slots := 0, locals := 43 })
noncomputable def xm_151 : xM := (⟨"AcidCityModel", "has", "(II)I"⟩, prog_14_method_31_code, 4, (some .int), [(0, 3, 0, 1, []), (1, 3, 1, 0, []), (2, 33, 2, 44, [13, 1, 16608, 0, 16610, 4104, 16611, 9230]), (5, 20, 0, 20, []), (8, 60, 0, 0, []), (9, 60, 0, 0, []), (10, 60, 0, 0, []), (11, 60, 0, 0, []), (14, 60, 0, 0, []), (17, 60, 0, 0, []), (20, 0, 3294967295, 0, [16489]), (22, 35, 0, 0, []), (23, 60, 0, 0, []), (24, 60, 0, 0, []), (27, 60, 0, 0, []), (28, 60, 0, 0, []), (29, 60, 0, 0, []), (32, 60, 0, 0, []), (33, 60, 0, 0, []), (34, 60, 0, 0, []), (35, 60, 0, 0, []), (36, 60, 0, 0, []), (37, 60, 0, 0, []), (39, 60, 0, 0, []), (42, 60, 0, 0, []), (43, 60, 0, 0, []), (46, 60, 0, 0, []), (49, 60, 0, 0, []), (50, 60, 0, 0, [])], { frames := 2, cells := 0, slots := 0, locals := 46 })
noncomputable def xm_152 : xM := (⟨"AcidCity", "as", "(II)I"⟩, prog_1_method_11_code, 3, (some .int), [(0, 3, 0, 1, []), (1, 25, 11, 0, [11303]), (4, 3, 1, 0, []), (5, 33, 2, 49, [3, 1, 11493, 0, 11494, 11495, 11496, 9218]), (8, 20, 0, 21, []), (11, 60, 0, 0, []), (12, 60, 0, 0, []), (13, 60, 0, 0, []), (15, 60, 0, 0, []), (18, 60, 0, 0, []), (21, 0, 3294967295, 0, [11359]), (23, 35, 0, 0, []), (24, 60, 0, 0, []), (25, 60, 0, 0, []), (28, 60, 0, 0, []), (31, 60, 0, 0, []), (32, 60, 0, 0, []), (33, 60, 0, 0, []), (36, 60, 0, 0, []), (39, 60, 0, 0, []), (40, 60, 0, 0, []), (43, 60, 0, 0, []), (46, 60, 0, 0, []), (49, 60, 0, 0, []), (50, 60, 0, 0, []), (51, 60, 0, 0, []), (54, 60, 0, 0, []), (56, 60, 0, 0, [])], { frames := 2, cells := 0, slots := 0, locals := 43 })
noncomputable def xm_153 : xM := (⟨"AcidCityModel", "as", "(II)I"⟩, prog_14_method_32_code, 5, (some .int), [(0, 3, 0, 1, []), (1, 3, 1, 0, []), (2, 33, 2, 44, [13, 1, 16608, 0, 16610, 4104, 16611, 9230]), (5, 20, 0, 20, []), (8, 60, 0, 0, []), (9, 60, 0, 0, []), (10, 60, 0, 0, []), (11, 60, 0, 0, []), (14, 60, 0, 0, []), (17, 60, 0, 0, []), (20, 0, 3294967295, 0, [16489]), (22, 35, 0, 0, []), (23, 60, 0, 0, []), (24, 60, 0, 0, []), (25, 60, 0, 0, []), (28, 60, 0, 0, []), (29, 60, 0, 0, []), (30, 60, 0, 0, []), (33, 60, 0, 0, []), (34, 60, 0, 0, []), (35, 60, 0, 0, []), (38, 60, 0, 0, []), (39, 60, 0, 0, []), (40, 60, 0, 0, []), (43, 60, 0, 0, []), (44, 60, 0, 0, []), (45, 60, 0, 0, []), (48, 60, 0, 0, []), (49, 60, 0, 0, []), (50, 60, 0, 0, []), (53, 60, 0, 0, []), (54, 60, 0, 0, []), (55, 60, 0, 0, []), (58, 60, 0, 0, []), (59, 60, 0, 0, []), (62, 60, 0, 0, []), (63, 60, 0, 0, []), (65, 60, 0, 0, []), (67, 60, 0, 0, []), (70, 60, 0, 0, []), (71, 60, 0, 0, []), (74, 60, 0, 0, []), (75, 60, 0, 0, []), (76, 60, 0, 0, []), (79, 60, 0, 0, []), (80, 60, 0, 0, []), (81, 60, 0, 0, []), (82, 60, 0, 0, []), (85, 60, 0, 0, []), (87, 60, 0, 0, [])], { frames := 2, cells := 0, slots := 0, locals := 46 })
noncomputable def xm_154 : xM := (⟨"AcidCity", "tune", "(III)I"⟩, prog_1_method_12_code, 4, (some .int), [(0, 3, 0, 1, []), (1, 25, 11, 0, [11303]), (4, 3, 1, 0, []), (5, 33, 2, 49, [3, 1, 11493, 0, 11494, 11495, 11496, 9218]), (8, 20, 0, 38, []), (11, 60, 0, 0, []), (12, 60, 0, 0, []), (13, 60, 0, 0, []), (14, 60, 0, 0, []), (17, 60, 0, 0, []), (20, 60, 0, 0, []), (21, 60, 0, 0, []), (22, 60, 0, 0, []), (23, 60, 0, 0, []), (26, 60, 0, 0, []), (27, 60, 0, 0, []), (30, 60, 0, 0, []), (32, 60, 0, 0, []), (35, 60, 0, 0, []), (38, 0, 3294967295, 0, [11359]), (40, 35, 0, 0, []), (41, 60, 0, 0, []), (42, 60, 0, 0, []), (45, 60, 0, 0, []), (48, 60, 0, 0, []), (49, 60, 0, 0, []), (52, 60, 0, 0, []), (55, 60, 0, 0, []), (57, 60, 0, 0, []), (58, 60, 0, 0, []), (59, 60, 0, 0, []), (62, 60, 0, 0, []), (63, 60, 0, 0, []), (66, 60, 0, 0, []), (69, 60, 0, 0, []), (72, 60, 0, 0, []), (73, 60, 0, 0, []), (74, 60, 0, 0, []), (77, 60, 0, 0, []), (80, 60, 0, 0, []), (81, 60, 0, 0, []), (84, 60, 0, 0, []), (87, 60, 0, 0, []), (90, 60, 0, 0, []), (91, 60, 0, 0, []), (92, 60, 0, 0, []), (95, 60, 0, 0, [])], { frames := 2, cells := 0, slots := 0, locals := 43 })
noncomputable def xm_155 : xM := (⟨"AcidCityModel", "tune", "(III)I"⟩, prog_14_method_33_code, 4, (some .int), [(0, 3, 0, 1, []), (1, 3, 1, 0, []), (2, 33, 2, 44, [13, 1, 16608, 0, 16610, 4104, 16611, 9230]), (5, 20, 0, 38, []), (8, 60, 0, 0, []), (9, 60, 0, 0, []), (10, 60, 0, 0, []), (11, 60, 0, 0, []), (12, 60, 0, 0, []), (15, 60, 0, 0, []), (18, 60, 0, 0, []), (19, 60, 0, 0, []), (20, 60, 0, 0, []), (21, 60, 0, 0, []), (22, 60, 0, 0, []), (25, 60, 0, 0, []), (26, 60, 0, 0, []), (29, 60, 0, 0, []), (32, 60, 0, 0, []), (35, 60, 0, 0, []), (38, 0, 3294967295, 0, [16489]), (40, 35, 0, 0, []), (41, 60, 0, 0, []), (42, 60, 0, 0, []), (43, 60, 0, 0, []), (46, 60, 0, 0, []), (49, 60, 0, 0, []), (51, 60, 0, 0, []), (54, 60, 0, 0, []), (55, 60, 0, 0, []), (56, 60, 0, 0, []), (57, 60, 0, 0, []), (60, 60, 0, 0, []), (61, 60, 0, 0, []), (64, 60, 0, 0, []), (65, 60, 0, 0, []), (68, 60, 0, 0, []), (70, 60, 0, 0, []), (71, 60, 0, 0, []), (72, 60, 0, 0, []), (75, 60, 0, 0, [])], { frames := 2, cells := 0, slots := 0, locals := 46 })
noncomputable def xm_156 : xM := (⟨"AcidCity", "clean", "(I)I"⟩, prog_1_method_13_code, 2, (some .int), [(0, 3, 0, 1, []), (1, 25, 11, 0, [11303]), (4, 3, 1, 0, []), (5, 33, 2, 49, [3, 1, 11493, 0, 11494, 11495, 11496, 9218]), (8, 20, 1, 14, []), (11, 0, 3294967295, 0, [11359]), (13, 35, 0, 0, []), (14, 60, 0, 0, []), (15, 60, 0, 0, []), (18, 60, 0, 0, []), (21, 60, 0, 0, []), (22, 60, 0, 0, []), (25, 60, 0, 0, []), (28, 60, 0, 0, []), (30, 60, 0, 0, []), (33, 60, 0, 0, []), (34, 60, 0, 0, []), (37, 60, 0, 0, []), (40, 60, 0, 0, []), (43, 60, 0, 0, []), (44, 60, 0, 0, []), (45, 60, 0, 0, []), (48, 60, 0, 0, [])], { frames := 2, cells := 0, slots := 0, locals := 43 })
noncomputable def xm_157 : xM := (⟨"AcidCityModel", "clean", "(I)I"⟩, prog_14_method_34_code, 2, (some .int), [(0, 3, 0, 1, []), (1, 3, 1, 0, []), (2, 33, 2, 44, [13, 1, 16608, 0, 16610, 4104, 16611, 9230]), (5, 20, 1, 13, []), (8, 0, 3294967295, 0, [16489]), (10, 22, 0, 38, []), (13, 60, 0, 0, []), (14, 60, 0, 0, []), (15, 60, 0, 0, []), (18, 60, 0, 0, []), (21, 60, 0, 0, []), (23, 60, 0, 0, []), (26, 60, 0, 0, []), (27, 60, 0, 0, []), (28, 60, 0, 0, []), (29, 60, 0, 0, []), (32, 60, 0, 0, []), (33, 60, 0, 0, []), (34, 60, 0, 0, []), (35, 60, 0, 0, []), (38, 35, 0, 0, [])], { frames := 2, cells := 0, slots := 0, locals := 46 })
noncomputable def xm_158 : xM := (⟨"AcidCity", "sew", "(I)I"⟩, prog_1_method_14_code, 3, (some .int), [(0, 3, 0, 1, []), (1, 25, 11, 0, [11303]), (4, 3, 1, 0, []), (5, 33, 2, 49, [3, 1, 11493, 0, 11494, 11495, 11496, 9218]), (8, 20, 1, 14, []), (11, 0, 3294967295, 0, [11359]), (13, 35, 0, 0, []), (14, 60, 0, 0, []), (15, 60, 0, 0, []), (18, 60, 0, 0, []), (21, 60, 0, 0, []), (22, 60, 0, 0, []), (23, 60, 0, 0, []), (26, 60, 0, 0, []), (27, 60, 0, 0, []), (28, 60, 0, 0, []), (29, 60, 0, 0, []), (32, 60, 0, 0, []), (34, 60, 0, 0, []), (35, 60, 0, 0, []), (36, 60, 0, 0, []), (37, 60, 0, 0, []), (40, 60, 0, 0, []), (43, 60, 0, 0, []), (44, 60, 0, 0, []), (47, 60, 0, 0, []), (48, 60, 0, 0, []), (49, 60, 0, 0, []), (51, 60, 0, 0, []), (54, 60, 0, 0, []), (55, 60, 0, 0, []), (58, 60, 0, 0, []), (61, 60, 0, 0, []), (62, 60, 0, 0, []), (63, 60, 0, 0, []), (64, 60, 0, 0, []), (67, 60, 0, 0, []), (69, 60, 0, 0, []), (70, 60, 0, 0, []), (71, 60, 0, 0, []), (74, 60, 0, 0, []), (77, 60, 0, 0, []), (78, 60, 0, 0, []), (79, 60, 0, 0, []), (80, 60, 0, 0, []), (81, 60, 0, 0, []), (82, 60, 0, 0, []), (83, 60, 0, 0, []), (84, 60, 0, 0, []), (87, 60, 0, 0, []), (88, 60, 0, 0, []), (89, 60, 0, 0, []), (90, 60, 0, 0, []), (91, 60, 0, 0, []), (92, 60, 0, 0, []), (93, 60, 0, 0, []), (94, 60, 0, 0, []), (97, 60, 0, 0, []), (98, 60, 0, 0, []), (99, 60, 0, 0, [])], { frames := 2, cells := 0, slots := 0, locals := 43 })
noncomputable def xm_159 : xM := (⟨"AcidCityModel", "sew", "(I)I"⟩, prog_14_method_35_code, 3, (some .int), [(0, 3, 0, 1, []), (1, 3, 1, 0, []), (2, 33, 2, 44, [13, 1, 16608, 0, 16610, 4104, 16611, 9230]), (5, 20, 1, 11, []), (8, 0, 3294967295, 0, [16489]), (10, 35, 0, 0, []), (11, 60, 0, 0, []), (12, 60, 0, 0, []), (13, 60, 0, 0, []), (16, 60, 0, 0, []), (17, 60, 0, 0, []), (20, 60, 0, 0, []), (22, 60, 0, 0, []), (23, 60, 0, 0, []), (24, 60, 0, 0, []), (25, 60, 0, 0, []), (28, 60, 0, 0, []), (29, 60, 0, 0, []), (30, 60, 0, 0, []), (31, 60, 0, 0, []), (34, 60, 0, 0, []), (37, 60, 0, 0, []), (38, 60, 0, 0, []), (41, 60, 0, 0, []), (42, 60, 0, 0, []), (43, 60, 0, 0, []), (44, 60, 0, 0, []), (45, 60, 0, 0, []), (47, 60, 0, 0, []), (50, 60, 0, 0, []), (51, 60, 0, 0, []), (54, 60, 0, 0, []), (56, 60, 0, 0, []), (57, 60, 0, 0, []), (60, 60, 0, 0, []), (62, 60, 0, 0, []), (63, 60, 0, 0, []), (64, 60, 0, 0, []), (67, 60, 0, 0, []), (69, 60, 0, 0, []), (70, 60, 0, 0, []), (71, 60, 0, 0, []), (72, 60, 0, 0, []), (73, 60, 0, 0, []), (74, 60, 0, 0, []), (75, 60, 0, 0, []), (78, 60, 0, 0, []), (79, 60, 0, 0, []), (80, 60, 0, 0, []), (81, 60, 0, 0, []), (82, 60, 0, 0, []), (83, 60, 0, 0, []), (84, 60, 0, 0, []), (85, 60, 0, 0, []), (86, 60, 0, 0, []), (87, 60, 0, 0, []), (90, 60, 0, 0, []), (91, 60, 0, 0, []), (92, 60, 0, 0, []), (93, 60, 0, 0, []), (94, 60, 0, 0, [])], { frames := 2, cells := 0, slots := 0, locals := 46 })
noncomputable def xm_160 : xM := (⟨"AcidCity", "drop", "(I)I"⟩, prog_1_method_15_code, 3, (some .int), [(0, 3, 0, 1, []), (1, 3, 1, 0, []), (2, 33, 2, 76, [12, 1, 12315, 0, 12317, 6, 12318, 9217]), (5, 4, 2, 0, []), (6, 3, 2, 0, []), (7, 20, 0, 12, []), (10, 3, 2, 0, []), (11, 35, 0, 0, []), (12, 60, 0, 0, []), (13, 60, 0, 0, []), (16, 60, 0, 0, []), (19, 60, 0, 0, []), (22, 60, 0, 0, []), (23, 60, 0, 0, []), (24, 60, 0, 0, []), (27, 60, 0, 0, []), (30, 60, 0, 0, []), (31, 60, 0, 0, []), (32, 60, 0, 0, []), (35, 60, 0, 0, []), (38, 60, 0, 0, [])], { frames := 3, cells := 0, slots := 0, locals := 64 })
noncomputable def xm_161 : xM := (⟨"AcidCityModel", "drop", "(I)I"⟩, prog_14_method_37_code, 3, (some .int), [(0, 3, 0, 1, []), (1, 3, 1, 0, []), (2, 33, 2, 77, [13, 1, 17430, 0, 17432, 4106, 17433, 9230]), (5, 4, 2, 0, []), (6, 3, 2, 0, []), (7, 20, 0, 12, []), (10, 3, 2, 0, []), (11, 35, 0, 0, []), (12, 60, 0, 0, []), (13, 60, 0, 0, []), (16, 60, 0, 0, []), (17, 60, 0, 0, []), (18, 60, 0, 0, []), (21, 60, 0, 0, []), (23, 60, 0, 0, []), (24, 60, 0, 0, []), (25, 60, 0, 0, []), (28, 60, 0, 0, []), (29, 60, 0, 0, []), (30, 60, 0, 0, []), (33, 60, 0, 0, [])], { frames := 3, cells := 0, slots := 0, locals := 67 })
noncomputable def xm_162 : xM := (⟨"AcidCity", "depth", "(I)I"⟩, prog_1_method_16_code, 3, (some .int), [(0, 3, 0, 1, []), (1, 3, 1, 0, []), (2, 33, 2, 76, [12, 1, 12315, 0, 12317, 6, 12318, 9217]), (5, 4, 2, 0, []), (6, 3, 2, 0, []), (7, 20, 0, 14, []), (10, 3, 2, 0, []), (11, 22, 0, 33, []), (14, 60, 0, 0, []), (15, 60, 0, 0, []), (18, 60, 0, 0, []), (19, 60, 0, 0, []), (22, 60, 0, 0, []), (25, 60, 0, 0, []), (28, 60, 0, 0, []), (29, 60, 0, 0, []), (30, 60, 0, 0, []), (33, 35, 0, 0, [])], { frames := 3, cells := 0, slots := 0, locals := 64 })
noncomputable def xm_163 : xM := (⟨"AcidCityModel", "depth", "(I)I"⟩, prog_14_method_38_code, 6, (some .int), [(0, 3, 0, 1, []), (1, 3, 1, 0, []), (2, 33, 2, 77, [13, 1, 17430, 0, 17432, 4106, 17433, 9230]), (5, 4, 2, 0, []), (6, 3, 2, 0, []), (7, 20, 0, 12, []), (10, 3, 2, 0, []), (11, 35, 0, 0, []), (12, 60, 0, 0, []), (13, 60, 0, 0, []), (16, 60, 0, 0, []), (17, 60, 0, 0, []), (18, 60, 0, 0, []), (20, 60, 0, 0, []), (21, 60, 0, 0, []), (23, 60, 0, 0, []), (25, 60, 0, 0, []), (28, 60, 0, 0, []), (31, 60, 0, 0, []), (32, 60, 0, 0, []), (33, 60, 0, 0, []), (36, 60, 0, 0, []), (37, 60, 0, 0, []), (40, 60, 0, 0, []), (41, 60, 0, 0, []), (42, 60, 0, 0, []), (43, 60, 0, 0, []), (45, 60, 0, 0, []), (46, 60, 0, 0, []), (49, 60, 0, 0, []), (52, 60, 0, 0, []), (53, 60, 0, 0, []), (54, 60, 0, 0, []), (55, 60, 0, 0, []), (56, 60, 0, 0, []), (58, 60, 0, 0, []), (60, 60, 0, 0, []), (61, 60, 0, 0, []), (64, 60, 0, 0, []), (65, 60, 0, 0, []), (66, 60, 0, 0, []), (69, 60, 0, 0, []), (70, 60, 0, 0, []), (71, 60, 0, 0, []), (72, 60, 0, 0, []), (75, 60, 0, 0, []), (77, 60, 0, 0, []), (78, 60, 0, 0, []), (81, 60, 0, 0, []), (84, 60, 0, 0, []), (87, 60, 0, 0, [])], { frames := 3, cells := 0, slots := 0, locals := 67 })
noncomputable def xm_164 : xM := (⟨"AcidCity", "table", "(III)I"⟩, prog_1_method_18_code, 4, (some .int), [(0, 3, 1, 0, []), (1, 0, 0, 0, []), (2, 0, 2, 0, []), (3, 33, 3, 19, [0, 0, 11356, 0, 11357, 0, 11358, 9217]), (6, 20, 0, 30, []), (9, 3, 2, 0, []), (10, 0, 0, 0, []), (11, 0, 60, 0, []), (13, 33, 3, 19, [0, 0, 11356, 0, 11357, 0, 11358, 9217]), (16, 20, 0, 30, []), (19, 3, 3, 0, []), (20, 0, 0, 0, []), (21, 0, 9999, 0, []), (24, 33, 3, 19, [0, 0, 11356, 0, 11357, 0, 11358, 9217]), (27, 20, 1, 33, []), (30, 0, 3294967295, 0, [11359]), (32, 35, 0, 0, []), (33, 3, 0, 1, []), (34, 25, 11, 0, [11303]), (37, 25, 2, 4, [9438]), (40, 3, 1, 0, []), (41, 31, 102, 0, []), (42, 3, 2, 0, []), (43, 3, 3, 0, []), (44, 33, 3, 34, [0, 0, 11380, 0, 11381, 0, 11382, 9217]), (47, 35, 0, 0, [])], { frames := 1, cells := 0, slots := 0, locals := 23 })
noncomputable def xm_165 : xM := (⟨"AcidCityModel", "table", "(III)I"⟩, prog_14_method_39_code, 4, (some .int), [(0, 3, 1, 0, []), (1, 9, 0, 0, []), (2, 1, 0, 0, []), (3, 1, 2, 0, [17442]), (6, 33, 3, 3, [0, 0, 16486, 0, 16487, 0, 16488, 9230]), (9, 20, 0, 54, []), (12, 3, 2, 0, []), (13, 9, 0, 0, []), (14, 1, 0, 0, []), (15, 1, 60, 0, [17443]), (18, 33, 3, 3, [0, 0, 16486, 0, 16487, 0, 16488, 9230]), (21, 20, 0, 54, []), (24, 3, 3, 0, []), (25, 9, 0, 0, []), (26, 1, 0, 0, []), (27, 1, 9999, 0, [16602]), (30, 33, 3, 3, [0, 0, 16486, 0, 16487, 0, 16488, 9230]), (33, 20, 0, 54, []), (36, 3, 0, 1, []), (37, 0, 1020, 0, []), (40, 0, 61, 0, []), (42, 3, 1, 0, []), (43, 6, 2, 0, []), (44, 6, 0, 0, []), (45, 3, 2, 0, []), (46, 6, 0, 0, []), (47, 3, 3, 0, []), (48, 33, 3, 4, [13, 1, 16506, 0, 16508, 3079, 16509, 9230]), (51, 22, 0, 56, []), (54, 0, 3294967295, 0, [16489]), (56, 35, 0, 0, [])], { frames := 1, cells := 0, slots := 0, locals := 25 })
noncomputable def xm_166 : xM := (⟨"AcidCity", "set", "(II)I"⟩, prog_1_method_19_code, 3, (some .int), [(0, 3, 0, 1, []), (1, 25, 11, 0, [11303]), (4, 3, 1, 0, []), (5, 3, 2, 0, []), (6, 33, 3, 105, [3, 1, 12344, 0, 12345, 12346, 12347, 9218]), (9, 35, 0, 0, [])], { frames := 2, cells := 0, slots := 0, locals := 45 })
noncomputable def xm_167 : xM := (⟨"AcidCityModel", "set", "(II)I"⟩, prog_14_method_40_code, 4, (some .int), [(0, 3, 1, 0, []), (1, 20, 1, 16, []), (4, 3, 2, 0, []), (5, 9, 0, 0, []), (6, 1, 0, 0, []), (7, 1, 600, 0, [17448]), (10, 33, 3, 3, [0, 0, 16486, 0, 16487, 0, 16488, 9230]), (13, 22, 0, 74, []), (16, 3, 1, 0, []), (17, 0, 1, 0, []), (18, 21, 1, 33, []), (21, 3, 2, 0, []), (22, 9, 0, 0, []), (23, 1, 0, 0, []), (24, 1, 99999, 0, [16607]), (27, 33, 3, 3, [0, 0, 16486, 0, 16487, 0, 16488, 9230]), (30, 22, 0, 74, []), (33, 3, 1, 0, []), (34, 0, 2, 0, []), (35, 21, 1, 52, []), (38, 3, 2, 0, []), (39, 9, 0, 0, []), (40, 1, 2, 0, [17442]), (43, 1, 9999, 0, [16602]), (46, 33, 3, 3, [0, 0, 16486, 0, 16487, 0, 16488, 9230]), (49, 22, 0, 74, []), (52, 3, 1, 0, []), (53, 0, 3, 0, []), (54, 21, 1, 73, []), (57, 3, 2, 0, []), (58, 9, 0, 0, []), (59, 1, 0, 0, []), (60, 1, 99, 0, [16504]), (63, 33, 3, 3, [0, 0, 16486, 0, 16487, 0, 16488, 9230]), (66, 20, 0, 73, []), (69, 0, 1, 0, []), (70, 22, 0, 74, []), (73, 0, 0, 0, []), (74, 4, 3, 0, []), (75, 3, 3, 0, []), (76, 20, 0, 90, []), (79, 3, 0, 1, []), (80, 0, 1, 0, []), (81, 3, 1, 0, []), (82, 6, 0, 0, []), (83, 3, 2, 0, []), (84, 33, 3, 4, [13, 1, 16506, 0, 16508, 3079, 16509, 9230]), (87, 22, 0, 92, []), (90, 0, 3294967295, 0, [16489]), (92, 35, 0, 0, [])], { frames := 1, cells := 0, slots := 0, locals := 25 })
noncomputable def xm_168 : xM := (⟨"AcidCity", "city", "(I)I"⟩, prog_1_method_20_code, 2, (some .int), [(0, 3, 1, 0, []), (1, 0, 8, 0, []), (3, 0, 13, 0, []), (5, 33, 3, 19, [0, 0, 11356, 0, 11357, 0, 11358, 9217]), (8, 20, 0, 24, []), (11, 3, 0, 1, []), (12, 25, 11, 0, [11303]), (15, 25, 2, 3, [9436]), (18, 3, 1, 0, []), (19, 0, 8, 0, []), (21, 6, 1, 0, []), (22, 31, 100, 0, []), (23, 35, 0, 0, []), (24, 3, 1, 0, []), (25, 24, 2147483648, 147, [72, 80, 88, 96, 104, 120, 128, 136]), (72, 3, 0, 1, []), (73, 25, 11, 0, [11303]), (76, 25, 2, 5, [9440]), (79, 35, 0, 0, []), (80, 3, 0, 1, []), (81, 25, 11, 0, [11303]), (84, 33, 1, 78, [3, 1, 12323, 0, 11434, 11435, 11436, 9218]), (87, 35, 0, 0, []), (88, 3, 0, 1, []), (89, 25, 11, 0, [11303]), (92, 33, 1, 23, [3, 1, 12354, 0, 12355, 12356, 12357, 9218]), (95, 35, 0, 0, []), (96, 3, 0, 1, []), (97, 25, 11, 0, [11303]), (100, 33, 1, 22, [3, 1, 12366, 0, 12367, 12368, 12369, 9218]), (103, 35, 0, 0, []), (104, 3, 0, 1, []), (105, 25, 11, 0, [11303]), (108, 33, 1, 108, [3, 1, 12384, 0, 12385, 12386, 12387, 9218]), (111, 20, 0, 118, []), (114, 0, 1, 0, []), (115, 22, 0, 119, []), (118, 60, 0, 0, []), (119, 35, 0, 0, []), (120, 3, 0, 1, []), (121, 25, 11, 0, [11303]), (124, 25, 2, 6, [9443]), (127, 35, 0, 0, []), (128, 3, 0, 1, []), (129, 25, 11, 0, [11303]), (132, 25, 2, 9, [9448]), (135, 35, 0, 0, []), (136, 3, 0, 1, []), (137, 25, 11, 0, [11303]), (140, 25, 2, 0, [9426]), (143, 33, 1, 106, [1, 1, 12392, 0, 12393, 12394, 12395, 9219]), (146, 35, 0, 0, []), (147, 0, 3294967295, 0, [11359]), (149, 35, 0, 0, [])], { frames := 2, cells := 0, slots := 0, locals := 46 })
noncomputable def xm_169 : xM := (⟨"AcidCityModel", "city", "(I)I"⟩, prog_14_method_43_code, 5, (some .int), [(0, 3, 1, 0, []), (1, 24, 2147483648, 161, [48, 55, 60, 66, 72, 91, 98, 105]), (48, 3, 0, 1, []), (49, 25, 12, 0, [15576]), (52, 0, 1, 0, []), (53, 31, 100, 0, []), (54, 35, 0, 0, []), (55, 3, 0, 1, []), (56, 33, 1, 110, [13, 1, 16580, 0, 16582, 4102, 16583, 9230]), (59, 35, 0, 0, []), (60, 3, 0, 1, []), (61, 33, 1, 14, [13, 1, 17453, 0, 17455, 4107, 17456, 9230]), (64, 10, 0, 0, []), (65, 35, 0, 0, []), (66, 3, 0, 1, []), (67, 33, 1, 13, [13, 1, 17462, 0, 17464, 4109, 17465, 9230]), (70, 10, 0, 0, []), (71, 35, 0, 0, []), (72, 3, 0, 1, []), (73, 3, 0, 1, []), (74, 25, 12, 0, [15576]), (77, 0, 2, 0, []), (78, 31, 100, 0, []), (79, 33, 2, 109, [13, 1, 17466, 0, 17468, 4110, 17469, 9230]), (82, 20, 0, 89, []), (85, 0, 1, 0, []), (86, 22, 0, 90, []), (89, 60, 0, 0, []), (90, 35, 0, 0, []), (91, 3, 0, 1, []), (92, 25, 12, 0, [15576]), (95, 0, 2, 0, []), (96, 31, 100, 0, []), (97, 35, 0, 0, []), (98, 3, 0, 1, []), (99, 25, 12, 0, [15576]), (102, 0, 0, 0, []), (103, 31, 100, 0, []), (104, 35, 0, 0, []), (105, 0, 0, 0, []), (106, 4, 2, 0, []), (107, 0, 0, 0, []), (108, 4, 3, 0, []), (109, 3, 3, 0, []), (110, 3, 0, 1, []), (111, 25, 12, 0, [15576]), (114, 0, 5, 0, []), (115, 31, 100, 0, []), (116, 21, 3, 159, []), (119, 60, 0, 0, []), (120, 60, 0, 0, []), (122, 60, 0, 0, []), (124, 60, 0, 0, []), (125, 60, 0, 0, []), (128, 60, 0, 0, []), (129, 60, 0, 0, []), (130, 60, 0, 0, []), (133, 60, 0, 0, []), (134, 60, 0, 0, []), (135, 60, 0, 0, []), (138, 60, 0, 0, []), (140, 60, 0, 0, []), (141, 60, 0, 0, []), (143, 60, 0, 0, []), (144, 60, 0, 0, []), (145, 60, 0, 0, []), (146, 60, 0, 0, []), (147, 60, 0, 0, []), (150, 60, 0, 0, []), (153, 60, 0, 0, []), (156, 60, 0, 0, []), (159, 3, 2, 0, []), (160, 35, 0, 0, []), (161, 3, 1, 0, []), (162, 9, 0, 0, []), (163, 1, 8, 0, [17470]), (166, 1, 13, 0, [17471]), (169, 33, 3, 3, [0, 0, 16486, 0, 16487, 0, 16488, 9230]), (172, 20, 0, 190, []), (175, 3, 0, 1, []), (176, 25, 12, 0, [15576]), (179, 0, 17, 0, []), (181, 3, 1, 0, []), (182, 6, 0, 0, []), (183, 0, 8, 0, []), (185, 6, 1, 0, []), (186, 31, 100, 0, []), (187, 22, 0, 192, []), (190, 0, 3294967295, 0, [16489]), (192, 35, 0, 0, [])], { frames := 1, cells := 0, slots := 0, locals := 26 })
noncomputable def xm_170 : xM := (⟨"AcidCity", "run", "(I)I"⟩, prog_1_method_21_code, 3, (some .int), [(0, 3, 1, 0, []), (1, 0, 1, 0, []), (2, 0, 120, 0, []), (4, 33, 3, 19, [0, 0, 11356, 0, 11357, 0, 11358, 9217]), (7, 20, 1, 13, []), (10, 0, 3294967295, 0, [11359]), (12, 35, 0, 0, []), (13, 3, 0, 1, []), (14, 25, 11, 0, [11303]), (17, 25, 2, 9, [9448]), (20, 3, 1, 0, []), (21, 6, 0, 0, []), (22, 0, 20000, 0, []), (25, 21, 5, 31, []), (28, 60, 0, 0, []), (30, 60, 0, 0, []), (31, 0, 0, 0, []), (32, 4, 2, 0, []), (33, 3, 2, 0, []), (34, 3, 1, 0, []), (35, 21, 3, 51, []), (38, 3, 0, 1, []), (39, 25, 11, 0, [11303]), (42, 33, 1, 29, [3, 1, 12401, 0, 12402, 12403, 12404, 9218]), (45, 5, 2, 1, []), (48, 22, 0, 33, []), (51, 3, 0, 1, []), (52, 25, 11, 0, [11303]), (55, 25, 2, 9, [9448]), (58, 35, 0, 0, [])], { frames := 4, cells := 0, slots := 0, locals := 88 })
noncomputable def xm_171 : xM := (⟨"AcidCityModel", "run", "(I)I"⟩, prog_14_method_64_code, 3, (some .int), [(0, 3, 1, 0, []), (1, 9, 0, 0, []), (2, 1, 1, 0, []), (3, 1, 120, 0, [17476]), (6, 33, 3, 3, [0, 0, 16486, 0, 16487, 0, 16488, 9230]), (9, 20, 1, 15, []), (12, 0, 3294967295, 0, [16489]), (14, 35, 0, 0, []), (15, 3, 0, 1, []), (16, 25, 12, 0, [15576]), (19, 0, 0, 0, []), (20, 31, 100, 0, []), (21, 3, 1, 0, []), (22, 6, 0, 0, []), (23, 0, 20000, 0, []), (26, 21, 5, 32, []), (29, 60, 0, 0, []), (31, 60, 0, 0, []), (32, 0, 0, 0, []), (33, 4, 2, 0, []), (34, 3, 2, 0, []), (35, 3, 1, 0, []), (36, 21, 3, 49, []), (39, 3, 0, 1, []), (40, 33, 1, 17, [13, 1, 17477, 0, 17479, 4111, 17480, 9230]), (43, 5, 2, 1, []), (46, 22, 0, 34, []), (49, 3, 0, 1, []), (50, 25, 12, 0, [15576]), (53, 0, 0, 0, []), (54, 31, 100, 0, []), (55, 35, 0, 0, [])], { frames := 3, cells := 0, slots := 0, locals := 71 })
noncomputable def xm_172 : xM := (⟨"AcidCity", "person", "(III)I"⟩, prog_1_method_22_code, 4, (some .int), [(0, 3, 1, 0, []), (1, 0, 0, 0, []), (2, 0, 99, 0, []), (4, 33, 3, 19, [0, 0, 11356, 0, 11357, 0, 11358, 9217]), (7, 20, 0, 30, []), (10, 3, 2, 0, []), (11, 0, 0, 0, []), (12, 0, 3, 0, []), (13, 33, 3, 19, [0, 0, 11356, 0, 11357, 0, 11358, 9217]), (16, 20, 0, 30, []), (19, 3, 0, 1, []), (20, 25, 11, 0, [11303]), (23, 3, 3, 0, []), (24, 33, 2, 45, [3, 1, 11375, 0, 11376, 11377, 11378, 9218]), (27, 20, 1, 33, []), (30, 0, 3294967295, 0, [11359]), (32, 35, 0, 0, []), (33, 60, 0, 0, []), (34, 60, 0, 0, []), (37, 60, 0, 0, []), (40, 60, 0, 0, []), (41, 60, 0, 0, []), (42, 60, 0, 0, []), (43, 60, 0, 0, []), (46, 60, 0, 0, [])], { frames := 2, cells := 0, slots := 0, locals := 43 })
noncomputable def xm_173 : xM := (⟨"AcidCityModel", "person", "(III)I"⟩, prog_14_method_65_code, 5, (some .int), [(0, 3, 1, 0, []), (1, 9, 0, 0, []), (2, 1, 0, 0, []), (3, 1, 99, 0, [16504]), (6, 33, 3, 3, [0, 0, 16486, 0, 16487, 0, 16488, 9230]), (9, 20, 0, 32, []), (12, 3, 2, 0, []), (13, 9, 0, 0, []), (14, 1, 0, 0, []), (15, 1, 3, 0, [17562]), (18, 33, 3, 3, [0, 0, 16486, 0, 16487, 0, 16488, 9230]), (21, 20, 0, 32, []), (24, 3, 0, 1, []), (25, 3, 3, 0, []), (26, 33, 2, 38, [13, 1, 16499, 0, 16501, 3078, 16502, 9230]), (29, 20, 1, 35, []), (32, 0, 3294967295, 0, [16489]), (34, 35, 0, 0, []), (35, 60, 0, 0, []), (36, 60, 0, 0, []), (39, 60, 0, 0, []), (41, 60, 0, 0, []), (42, 60, 0, 0, []), (44, 60, 0, 0, []), (47, 60, 0, 0, []), (49, 60, 0, 0, []), (50, 60, 0, 0, []), (51, 60, 0, 0, []), (52, 60, 0, 0, []), (55, 60, 0, 0, []), (57, 60, 0, 0, []), (58, 60, 0, 0, []), (61, 60, 0, 0, []), (63, 60, 0, 0, []), (64, 60, 0, 0, []), (67, 60, 0, 0, []), (69, 60, 0, 0, []), (70, 60, 0, 0, []), (71, 60, 0, 0, []), (72, 60, 0, 0, []), (73, 60, 0, 0, []), (74, 60, 0, 0, []), (77, 60, 0, 0, []), (79, 60, 0, 0, []), (80, 60, 0, 0, []), (81, 60, 0, 0, []), (82, 60, 0, 0, []), (83, 60, 0, 0, []), (84, 60, 0, 0, []), (87, 60, 0, 0, []), (89, 60, 0, 0, []), (90, 60, 0, 0, []), (91, 60, 0, 0, []), (92, 60, 0, 0, []), (93, 60, 0, 0, []), (94, 60, 0, 0, []), (97, 60, 0, 0, []), (99, 60, 0, 0, []), (100, 60, 0, 0, []), (101, 60, 0, 0, []), (102, 60, 0, 0, []), (103, 60, 0, 0, []), (104, 60, 0, 0, []), (107, 60, 0, 0, []), (109, 60, 0, 0, []), (110, 60, 0, 0, []), (111, 60, 0, 0, []), (112, 60, 0, 0, []), (113, 60, 0, 0, []), (114, 60, 0, 0, []), (117, 60, 0, 0, []), (119, 60, 0, 0, []), (120, 60, 0, 0, []), (121, 60, 0, 0, []), (122, 60, 0, 0, []), (123, 60, 0, 0, []), (124, 60, 0, 0, []), (125, 60, 0, 0, []), (128, 60, 0, 0, []), (130, 60, 0, 0, []), (131, 60, 0, 0, []), (132, 60, 0, 0, []), (133, 60, 0, 0, [])], { frames := 2, cells := 0, slots := 0, locals := 46 })
noncomputable def xm_174 : xM := (⟨"AcidCity", "be", "(III)I"⟩, prog_1_method_23_code, 4, (some .int), [(0, 3, 0, 1, []), (1, 25, 11, 0, [11303]), (4, 3, 1, 0, []), (5, 33, 2, 56, [3, 1, 11416, 0, 11417, 11418, 11419, 9218]), (8, 20, 1, 14, []), (11, 0, 3294967295, 0, [11359]), (13, 35, 0, 0, []), (14, 60, 0, 0, []), (15, 60, 0, 0, []), (44, 60, 0, 0, []), (45, 60, 0, 0, []), (46, 60, 0, 0, []), (48, 60, 0, 0, []), (51, 60, 0, 0, []), (54, 60, 0, 0, []), (55, 60, 0, 0, []), (58, 60, 0, 0, []), (61, 60, 0, 0, []), (64, 60, 0, 0, []), (65, 60, 0, 0, []), (66, 60, 0, 0, []), (69, 60, 0, 0, []), (72, 60, 0, 0, []), (74, 60, 0, 0, []), (75, 60, 0, 0, []), (76, 60, 0, 0, []), (77, 60, 0, 0, []), (78, 60, 0, 0, []), (81, 60, 0, 0, []), (84, 60, 0, 0, []), (85, 60, 0, 0, []), (88, 60, 0, 0, []), (91, 60, 0, 0, []), (94, 60, 0, 0, []), (95, 60, 0, 0, []), (96, 60, 0, 0, []), (99, 60, 0, 0, []), (102, 60, 0, 0, []), (104, 60, 0, 0, []), (105, 60, 0, 0, []), (106, 60, 0, 0, []), (109, 60, 0, 0, []), (110, 60, 0, 0, []), (113, 60, 0, 0, []), (116, 60, 0, 0, []), (117, 60, 0, 0, []), (120, 60, 0, 0, []), (123, 60, 0, 0, []), (126, 60, 0, 0, []), (127, 60, 0, 0, []), (128, 60, 0, 0, []), (131, 60, 0, 0, []), (134, 60, 0, 0, []), (136, 60, 0, 0, []), (137, 60, 0, 0, []), (138, 60, 0, 0, []), (139, 60, 0, 0, []), (141, 60, 0, 0, []), (144, 60, 0, 0, []), (147, 60, 0, 0, []), (148, 60, 0, 0, []), (151, 60, 0, 0, []), (154, 60, 0, 0, []), (157, 60, 0, 0, []), (158, 60, 0, 0, []), (159, 60, 0, 0, []), (162, 60, 0, 0, []), (165, 60, 0, 0, []), (167, 60, 0, 0, []), (168, 60, 0, 0, []), (170, 60, 0, 0, [])], { frames := 2, cells := 0, slots := 0, locals := 43 })
noncomputable def xm_175 : xM := (⟨"AcidCityModel", "be", "(III)I"⟩, prog_14_method_66_code, 5, (some .int), [(0, 3, 2, 0, []), (1, 20, 1, 16, []), (4, 3, 3, 0, []), (5, 9, 0, 0, []), (6, 1, 0, 0, []), (7, 1, 99, 0, [16504]), (10, 33, 3, 3, [0, 0, 16486, 0, 16487, 0, 16488, 9230]), (13, 22, 0, 68, []), (16, 3, 2, 0, []), (17, 0, 1, 0, []), (18, 21, 1, 33, []), (21, 3, 3, 0, []), (22, 9, 0, 0, []), (23, 1, 0, 0, []), (24, 1, 3, 0, [17562]), (27, 33, 3, 3, [0, 0, 16486, 0, 16487, 0, 16488, 9230]), (30, 22, 0, 68, []), (33, 3, 2, 0, []), (34, 0, 2, 0, []), (35, 21, 1, 46, []), (38, 3, 0, 1, []), (39, 3, 3, 0, []), (40, 33, 2, 38, [13, 1, 16499, 0, 16501, 3078, 16502, 9230]), (43, 22, 0, 68, []), (46, 3, 2, 0, []), (47, 0, 3, 0, []), (48, 21, 1, 67, []), (51, 3, 3, 0, []), (52, 9, 0, 0, []), (53, 1, 0, 0, []), (54, 1, 100, 0, [17461]), (57, 33, 3, 3, [0, 0, 16486, 0, 16487, 0, 16488, 9230]), (60, 20, 0, 67, []), (63, 0, 1, 0, []), (64, 22, 0, 68, []), (67, 0, 0, 0, []), (68, 4, 4, 0, []), (70, 3, 0, 1, []), (71, 3, 1, 0, []), (72, 33, 2, 39, [13, 1, 16548, 0, 16550, 3086, 16551, 9230]), (75, 20, 0, 98, []), (78, 60, 0, 0, []), (80, 60, 0, 0, []), (83, 60, 0, 0, []), (84, 60, 0, 0, []), (85, 60, 0, 0, []), (86, 60, 0, 0, []), (89, 60, 0, 0, []), (90, 60, 0, 0, []), (91, 60, 0, 0, []), (92, 60, 0, 0, []), (95, 60, 0, 0, []), (98, 0, 3294967295, 0, [16489]), (100, 35, 0, 0, [])], { frames := 2, cells := 0, slots := 0, locals := 46 })
noncomputable def xm_176 : xM := (⟨"AcidCity", "is", "(II)I"⟩, prog_1_method_24_code, 3, (some .int), [(0, 3, 0, 1, []), (1, 25, 11, 0, [11303]), (4, 3, 1, 0, []), (5, 33, 2, 56, [3, 1, 11416, 0, 11417, 11418, 11419, 9218]), (8, 20, 1, 14, []), (11, 0, 3294967295, 0, [11359]), (13, 35, 0, 0, []), (14, 60, 0, 0, []), (15, 60, 0, 0, []), (48, 60, 0, 0, []), (49, 60, 0, 0, []), (52, 60, 0, 0, []), (55, 60, 0, 0, []), (58, 60, 0, 0, []), (59, 60, 0, 0, []), (60, 60, 0, 0, []), (61, 60, 0, 0, []), (62, 60, 0, 0, []), (65, 60, 0, 0, []), (68, 60, 0, 0, []), (71, 60, 0, 0, []), (72, 60, 0, 0, []), (73, 60, 0, 0, []), (74, 60, 0, 0, []), (75, 60, 0, 0, []), (78, 60, 0, 0, []), (81, 60, 0, 0, []), (84, 60, 0, 0, []), (85, 60, 0, 0, []), (86, 60, 0, 0, []), (87, 60, 0, 0, []), (88, 60, 0, 0, []), (91, 60, 0, 0, []), (94, 60, 0, 0, []), (97, 60, 0, 0, []), (98, 60, 0, 0, []), (99, 60, 0, 0, []), (100, 60, 0, 0, []), (101, 60, 0, 0, []), (104, 60, 0, 0, []), (107, 60, 0, 0, []), (108, 60, 0, 0, []), (111, 60, 0, 0, []), (114, 60, 0, 0, []), (115, 60, 0, 0, []), (118, 60, 0, 0, []), (119, 60, 0, 0, []), (120, 60, 0, 0, []), (122, 60, 0, 0, [])], { frames := 2, cells := 0, slots := 0, locals := 43 })
noncomputable def xm_177 : xM := (⟨"AcidCityModel", "is", "(II)I"⟩, prog_14_method_67_code, 3, (some .int), [(0, 3, 0, 1, []), (1, 3, 1, 0, []), (2, 33, 2, 39, [13, 1, 16548, 0, 16550, 3086, 16551, 9230]), (5, 20, 0, 20, []), (8, 60, 0, 0, []), (9, 60, 0, 0, []), (10, 60, 0, 0, []), (11, 60, 0, 0, []), (14, 60, 0, 0, []), (17, 60, 0, 0, []), (20, 0, 3294967295, 0, [16489]), (22, 35, 0, 0, []), (23, 60, 0, 0, []), (24, 60, 0, 0, []), (25, 60, 0, 0, []), (28, 60, 0, 0, []), (29, 60, 0, 0, []), (30, 60, 0, 0, []), (33, 60, 0, 0, []), (36, 60, 0, 0, []), (37, 60, 0, 0, []), (40, 60, 0, 0, []), (41, 60, 0, 0, []), (44, 60, 0, 0, []), (45, 60, 0, 0, []), (48, 60, 0, 0, []), (49, 60, 0, 0, []), (50, 60, 0, 0, []), (53, 60, 0, 0, []), (54, 60, 0, 0, []), (55, 60, 0, 0, []), (56, 60, 0, 0, [])], { frames := 2, cells := 0, slots := 0, locals := 46 })
noncomputable def xm_178 : xM := (⟨"AcidCity", "birth", "(I)I"⟩, prog_1_method_25_code, 2, (some .int), [(0, 3, 0, 1, []), (1, 25, 11, 0, [11303]), (4, 3, 1, 0, []), (5, 33, 2, 45, [3, 1, 11375, 0, 11376, 11377, 11378, 9218]), (8, 20, 1, 14, []), (11, 0, 3294967295, 0, [11359]), (13, 35, 0, 0, []), (14, 60, 0, 0, []), (15, 60, 0, 0, []), (18, 60, 0, 0, []), (19, 60, 0, 0, []), (22, 60, 0, 0, []), (25, 60, 0, 0, []), (28, 60, 0, 0, []), (29, 60, 0, 0, []), (32, 60, 0, 0, []), (35, 60, 0, 0, []), (36, 60, 0, 0, []), (37, 60, 0, 0, []), (38, 60, 0, 0, []), (41, 60, 0, 0, []), (44, 60, 0, 0, []), (46, 60, 0, 0, [])], { frames := 2, cells := 0, slots := 0, locals := 43 })
noncomputable def xm_179 : xM := (⟨"AcidCityModel", "birth", "(I)I"⟩, prog_14_method_68_code, 2, (some .int), [(0, 3, 0, 1, []), (1, 3, 1, 0, []), (2, 33, 2, 38, [13, 1, 16499, 0, 16501, 3078, 16502, 9230]), (5, 20, 1, 13, []), (8, 0, 3294967295, 0, [16489]), (10, 22, 0, 32, []), (13, 60, 0, 0, []), (14, 60, 0, 0, []), (17, 60, 0, 0, []), (20, 60, 0, 0, []), (22, 60, 0, 0, []), (25, 60, 0, 0, []), (26, 60, 0, 0, []), (27, 60, 0, 0, []), (28, 60, 0, 0, []), (29, 60, 0, 0, []), (32, 35, 0, 0, [])], { frames := 2, cells := 0, slots := 0, locals := 46 })
noncomputable def xm_180 : xM := (⟨"AcidCity", "feed", "(III)I"⟩, prog_1_method_26_code, 4, (some .int), [(0, 3, 0, 1, []), (1, 25, 11, 8, [11311]), (4, 3, 1, 0, []), (5, 3, 2, 0, []), (6, 3, 3, 0, []), (7, 33, 4, 111, [10, 1, 13347, 0, 13348, 13349, 13350, 9225]), (10, 35, 0, 0, [])], { frames := 2, cells := 0, slots := 0, locals := 45 })
noncomputable def xm_181 : xM := (⟨"AcidCityModel", "feed", "(III)I"⟩, prog_14_method_69_code, 6, (some .int), [(0, 3, 0, 1, []), (1, 25, 12, 8, [15584]), (4, 0, 12, 0, []), (6, 6, 0, 0, []), (7, 0, 96, 0, []), (9, 21, 5, 15, []), (12, 60, 0, 0, []), (14, 60, 0, 0, []), (15, 0, 0, 0, []), (16, 4, 4, 0, []), (18, 3, 4, 0, []), (20, 0, 12, 0, []), (22, 21, 3, 91, []), (25, 3, 4, 0, []), (27, 0, 4, 0, []), (28, 21, 3, 35, []), (31, 3, 1, 0, []), (32, 22, 0, 47, []), (35, 3, 4, 0, []), (37, 0, 8, 0, []), (39, 21, 3, 46, []), (42, 3, 2, 0, []), (43, 22, 0, 47, []), (46, 3, 3, 0, []), (47, 4, 5, 0, []), (49, 3, 0, 1, []), (50, 25, 12, 7, [15583]), (53, 3, 0, 1, []), (54, 25, 12, 8, [15584]), (57, 3, 5, 0, []), (59, 0, 24, 0, []), (61, 0, 8, 0, []), (63, 3, 4, 0, []), (65, 0, 4, 0, []), (66, 7, 1, 0, []), (67, 6, 2, 0, []), (68, 6, 1, 0, []), (69, 6, 7, 0, []), (70, 0, 255, 0, []), (73, 6, 3, 0, []), (74, 32, 100, 0, []), (75, 3, 0, 1, []), (76, 15, 0, 0, []), (77, 25, 12, 8, [15584]), (80, 0, 1, 0, []), (81, 6, 0, 0, []), (82, 26, 12, 8, [0, 15584]), (85, 5, 4, 1, []), (88, 22, 0, 18, []), (91, 3, 0, 1, []), (92, 25, 12, 8, [15584]), (95, 35, 0, 0, [])], { frames := 0, cells := 0, slots := 0, locals := 0 })
noncomputable def xm_182 : xM := (⟨"AcidCity", "trim", "(I)I"⟩, prog_1_method_27_code, 2, (some .int), [(0, 3, 1, 0, []), (1, 0, 0, 0, []), (2, 3, 0, 1, []), (3, 25, 11, 8, [11311]), (6, 25, 9, 1, [10395]), (9, 33, 3, 19, [0, 0, 11356, 0, 11357, 0, 11358, 9217]), (12, 20, 1, 18, []), (15, 0, 3294967295, 0, [11359]), (17, 35, 0, 0, []), (18, 3, 0, 1, []), (19, 25, 11, 8, [11311]), (22, 3, 1, 0, []), (23, 26, 9, 1, [0, 10395]), (26, 3, 1, 0, []), (27, 35, 0, 0, [])], { frames := 1, cells := 0, slots := 0, locals := 22 })
noncomputable def xm_183 : xM := (⟨"AcidCityModel", "trim", "(I)I"⟩, prog_14_method_70_code, 2, (some .int), [(0, 3, 1, 0, []), (1, 9, 0, 0, []), (2, 1, 0, 0, []), (3, 3, 0, 1, []), (4, 25, 12, 8, [15584]), (7, 9, 0, 0, []), (8, 33, 3, 3, [0, 0, 16486, 0, 16487, 0, 16488, 9230]), (11, 20, 1, 17, []), (14, 0, 3294967295, 0, [16489]), (16, 35, 0, 0, []), (17, 3, 0, 1, []), (18, 3, 1, 0, []), (19, 26, 12, 8, [0, 15584]), (22, 3, 1, 0, []), (23, 35, 0, 0, [])], { frames := 1, cells := 0, slots := 0, locals := 25 })
noncomputable def xm_184 : xM := (⟨"AcidCity", "of", "(II)I"⟩, prog_1_method_29_code, 3, (some .int), [(0, 3, 0, 1, []), (1, 25, 11, 1, [11304]), (4, 3, 1, 0, []), (5, 33, 2, 80, [2, 1, 14345, 0, 14346, 14347, 14348, 9222]), (8, 20, 1, 14, []), (11, 0, 3294967295, 0, [11359]), (13, 35, 0, 0, []), (14, 60, 0, 0, []), (15, 60, 0, 0, []), (44, 60, 0, 0, []), (45, 60, 0, 0, []), (48, 60, 0, 0, []), (51, 60, 0, 0, []), (52, 60, 0, 0, []), (53, 60, 0, 0, []), (54, 60, 0, 0, []), (55, 60, 0, 0, []), (58, 60, 0, 0, []), (61, 60, 0, 0, []), (62, 60, 0, 0, []), (63, 60, 0, 0, []), (64, 60, 0, 0, []), (65, 60, 0, 0, []), (68, 60, 0, 0, []), (71, 60, 0, 0, []), (72, 60, 0, 0, []), (73, 60, 0, 0, []), (74, 60, 0, 0, []), (75, 60, 0, 0, []), (78, 60, 0, 0, []), (81, 60, 0, 0, []), (82, 60, 0, 0, []), (83, 60, 0, 0, []), (84, 60, 0, 0, []), (86, 60, 0, 0, [])], { frames := 2, cells := 0, slots := 0, locals := 43 })
noncomputable def xm_185 : xM := (⟨"AcidCityModel", "of", "(II)I"⟩, prog_14_method_87_code, 4, (some .int), [(0, 3, 0, 1, []), (1, 3, 1, 0, []), (2, 33, 2, 81, [13, 1, 18444, 0, 18446, 7169, 18447, 9230]), (5, 20, 0, 20, []), (8, 60, 0, 0, []), (9, 60, 0, 0, []), (10, 60, 0, 0, []), (11, 60, 0, 0, []), (14, 60, 0, 0, []), (17, 60, 0, 0, []), (20, 0, 3294967295, 0, [16489]), (22, 35, 0, 0, []), (23, 60, 0, 0, []), (24, 60, 0, 0, []), (27, 60, 0, 0, []), (28, 60, 0, 0, []), (29, 60, 0, 0, []), (32, 60, 0, 0, []), (33, 60, 0, 0, []), (34, 60, 0, 0, []), (35, 60, 0, 0, []), (36, 60, 0, 0, []), (37, 60, 0, 0, []), (38, 60, 0, 0, []), (41, 60, 0, 0, []), (42, 60, 0, 0, []), (43, 60, 0, 0, []), (46, 60, 0, 0, []), (47, 60, 0, 0, []), (50, 60, 0, 0, []), (53, 60, 0, 0, []), (54, 60, 0, 0, [])], { frames := 2, cells := 0, slots := 0, locals := 46 })
noncomputable def xm_186 : xM := (⟨"AcidCity", "hold", "(I)I"⟩, prog_1_method_30_code, 2, (some .int), [(0, 3, 0, 1, []), (1, 25, 11, 1, [11304]), (4, 3, 1, 0, []), (5, 33, 2, 80, [2, 1, 14345, 0, 14346, 14347, 14348, 9222]), (8, 20, 1, 14, []), (11, 0, 3294967295, 0, [11359]), (13, 35, 0, 0, []), (14, 60, 0, 0, []), (15, 60, 0, 0, []), (18, 60, 0, 0, []), (21, 60, 0, 0, []), (24, 60, 0, 0, []), (27, 60, 0, 0, []), (28, 60, 0, 0, []), (31, 60, 0, 0, []), (34, 60, 0, 0, []), (35, 60, 0, 0, []), (36, 60, 0, 0, []), (39, 60, 0, 0, []), (42, 60, 0, 0, []), (44, 60, 0, 0, []), (47, 60, 0, 0, []), (48, 60, 0, 0, []), (51, 60, 0, 0, []), (52, 60, 0, 0, []), (55, 60, 0, 0, [])], { frames := 2, cells := 0, slots := 0, locals := 43 })
noncomputable def xm_187 : xM := (⟨"AcidCityModel", "hold", "(I)I"⟩, prog_14_method_96_code, 3, (some .int), [(0, 3, 0, 1, []), (1, 3, 1, 0, []), (2, 33, 2, 81, [13, 1, 18444, 0, 18446, 7169, 18447, 9230]), (5, 20, 1, 11, []), (8, 0, 3294967295, 0, [16489]), (10, 35, 0, 0, []), (11, 60, 0, 0, []), (12, 60, 0, 0, []), (15, 60, 0, 0, []), (17, 60, 0, 0, []), (18, 60, 0, 0, []), (21, 60, 0, 0, []), (22, 60, 0, 0, []), (25, 60, 0, 0, []), (26, 60, 0, 0, []), (27, 60, 0, 0, []), (30, 60, 0, 0, []), (31, 60, 0, 0, []), (32, 60, 0, 0, []), (33, 60, 0, 0, []), (36, 60, 0, 0, []), (38, 60, 0, 0, []), (39, 60, 0, 0, []), (40, 60, 0, 0, []), (43, 60, 0, 0, []), (45, 60, 0, 0, []), (46, 60, 0, 0, []), (47, 60, 0, 0, []), (48, 60, 0, 0, []), (51, 60, 0, 0, []), (53, 60, 0, 0, []), (54, 60, 0, 0, []), (55, 60, 0, 0, []), (56, 60, 0, 0, []), (59, 60, 0, 0, []), (61, 60, 0, 0, []), (62, 60, 0, 0, []), (63, 60, 0, 0, []), (64, 60, 0, 0, []), (65, 60, 0, 0, []), (66, 60, 0, 0, []), (68, 60, 0, 0, []), (71, 60, 0, 0, []), (72, 60, 0, 0, []), (75, 60, 0, 0, []), (76, 60, 0, 0, []), (77, 60, 0, 0, []), (80, 60, 0, 0, []), (81, 60, 0, 0, []), (82, 60, 0, 0, []), (83, 60, 0, 0, []), (84, 60, 0, 0, []), (87, 60, 0, 0, []), (90, 60, 0, 0, []), (91, 60, 0, 0, []), (94, 60, 0, 0, []), (95, 60, 0, 0, []), (96, 60, 0, 0, []), (99, 60, 0, 0, []), (100, 60, 0, 0, []), (101, 60, 0, 0, []), (102, 60, 0, 0, []), (105, 60, 0, 0, []), (106, 60, 0, 0, []), (109, 60, 0, 0, []), (110, 60, 0, 0, [])], { frames := 2, cells := 0, slots := 0, locals := 46 })
noncomputable def xm_188 : xM := (⟨"AcidCity", "say", "(II)I"⟩, prog_1_method_31_code, 3, (some .int), [(0, 3, 0, 1, []), (1, 25, 11, 0, [11303]), (4, 3, 1, 0, []), (5, 33, 2, 56, [3, 1, 11416, 0, 11417, 11418, 11419, 9218]), (8, 20, 0, 20, []), (11, 60, 0, 0, []), (12, 60, 0, 0, []), (13, 60, 0, 0, []), (14, 60, 0, 0, []), (17, 60, 0, 0, []), (20, 0, 3294967295, 0, [11359]), (22, 35, 0, 0, []), (23, 60, 0, 0, []), (24, 60, 0, 0, []), (27, 60, 0, 0, []), (30, 60, 0, 0, []), (33, 60, 0, 0, []), (36, 60, 0, 0, []), (37, 60, 0, 0, []), (40, 60, 0, 0, []), (43, 60, 0, 0, []), (44, 60, 0, 0, []), (47, 60, 0, 0, []), (50, 60, 0, 0, []), (51, 60, 0, 0, []), (54, 60, 0, 0, []), (57, 60, 0, 0, []), (58, 60, 0, 0, []), (59, 60, 0, 0, []), (62, 60, 0, 0, []), (65, 60, 0, 0, []), (67, 60, 0, 0, []), (68, 60, 0, 0, []), (69, 60, 0, 0, []), (72, 60, 0, 0, []), (73, 60, 0, 0, []), (76, 60, 0, 0, []), (77, 60, 0, 0, []), (80, 60, 0, 0, []), (83, 60, 0, 0, []), (85, 60, 0, 0, []), (86, 60, 0, 0, []), (87, 60, 0, 0, []), (90, 60, 0, 0, []), (93, 60, 0, 0, []), (94, 60, 0, 0, []), (95, 60, 0, 0, []), (96, 60, 0, 0, []), (97, 60, 0, 0, []), (100, 60, 0, 0, []), (101, 60, 0, 0, []), (104, 60, 0, 0, [])], { frames := 2, cells := 0, slots := 0, locals := 43 })
noncomputable def xm_189 : xM := (⟨"AcidCityModel", "say", "(II)I"⟩, prog_14_method_97_code, 3, (some .int), [(0, 3, 0, 1, []), (1, 3, 1, 0, []), (2, 33, 2, 39, [13, 1, 16548, 0, 16550, 3086, 16551, 9230]), (5, 20, 0, 18, []), (8, 60, 0, 0, []), (9, 60, 0, 0, []), (10, 60, 0, 0, []), (11, 60, 0, 0, []), (12, 60, 0, 0, []), (15, 60, 0, 0, []), (18, 0, 3294967295, 0, [16489]), (20, 35, 0, 0, []), (21, 60, 0, 0, []), (22, 60, 0, 0, []), (25, 60, 0, 0, []), (27, 60, 0, 0, []), (28, 60, 0, 0, []), (31, 60, 0, 0, []), (32, 60, 0, 0, []), (33, 60, 0, 0, []), (36, 60, 0, 0, []), (39, 60, 0, 0, []), (40, 60, 0, 0, []), (43, 60, 0, 0, []), (44, 60, 0, 0, []), (45, 60, 0, 0, []), (48, 60, 0, 0, []), (49, 60, 0, 0, []), (50, 60, 0, 0, []), (51, 60, 0, 0, []), (52, 60, 0, 0, []), (55, 60, 0, 0, []), (56, 60, 0, 0, []), (57, 60, 0, 0, []), (60, 60, 0, 0, []), (63, 60, 0, 0, []), (65, 60, 0, 0, []), (66, 60, 0, 0, []), (67, 60, 0, 0, []), (70, 60, 0, 0, []), (71, 60, 0, 0, []), (72, 60, 0, 0, []), (75, 60, 0, 0, []), (76, 60, 0, 0, []), (77, 60, 0, 0, []), (78, 60, 0, 0, []), (79, 60, 0, 0, []), (80, 60, 0, 0, []), (83, 60, 0, 0, []), (84, 60, 0, 0, []), (85, 60, 0, 0, []), (88, 60, 0, 0, []), (90, 60, 0, 0, []), (93, 60, 0, 0, []), (95, 60, 0, 0, []), (96, 60, 0, 0, []), (97, 60, 0, 0, []), (98, 60, 0, 0, []), (99, 60, 0, 0, []), (100, 60, 0, 0, []), (101, 60, 0, 0, []), (102, 60, 0, 0, []), (105, 60, 0, 0, []), (106, 60, 0, 0, []), (109, 60, 0, 0, []), (111, 60, 0, 0, []), (112, 60, 0, 0, []), (115, 60, 0, 0, []), (116, 60, 0, 0, []), (119, 60, 0, 0, []), (121, 60, 0, 0, []), (122, 60, 0, 0, [])], { frames := 2, cells := 0, slots := 0, locals := 46 })
noncomputable def xm_190 : xM := (⟨"AcidCity", "tally", "()I"⟩, prog_1_method_32_code, 2, (some .int), [(0, 3, 0, 1, []), (1, 25, 11, 1, [11304]), (4, 25, 1, 7, [10275]), (7, 0, 3294967291, 0, [13549]), (10, 21, 1, 16, []), (13, 0, 3294967294, 0, [11464]), (15, 35, 0, 0, []), (16, 60, 0, 0, []), (17, 60, 0, 0, []), (20, 60, 0, 0, []), (21, 60, 0, 0, []), (24, 60, 0, 0, []), (27, 60, 0, 0, []), (28, 60, 0, 0, []), (29, 60, 0, 0, []), (32, 60, 0, 0, []), (33, 60, 0, 0, []), (34, 60, 0, 0, []), (37, 60, 0, 0, []), (40, 60, 0, 0, []), (41, 60, 0, 0, []), (42, 60, 0, 0, []), (45, 60, 0, 0, []), (46, 60, 0, 0, []), (49, 60, 0, 0, []), (50, 60, 0, 0, []), (53, 60, 0, 0, []), (54, 60, 0, 0, [])], { frames := 0, cells := 0, slots := 0, locals := 0 })
noncomputable def xm_191 : xM := (⟨"AcidCityModel", "tally", "()I"⟩, prog_14_method_98_code, 5, (some .int), [(0, 3, 0, 1, []), (1, 25, 12, 0, [15576]), (4, 0, 14, 0, []), (6, 31, 100, 0, []), (7, 20, 3, 13, []), (10, 0, 3294967294, 0, [16587]), (12, 35, 0, 0, []), (13, 60, 0, 0, []), (14, 60, 0, 0, []), (15, 60, 0, 0, []), (16, 60, 0, 0, []), (17, 60, 0, 0, []), (18, 60, 0, 0, []), (19, 60, 0, 0, []), (22, 60, 0, 0, []), (24, 60, 0, 0, []), (25, 60, 0, 0, []), (28, 60, 0, 0, []), (29, 60, 0, 0, []), (30, 60, 0, 0, []), (31, 60, 0, 0, []), (34, 60, 0, 0, []), (37, 60, 0, 0, []), (38, 60, 0, 0, []), (39, 60, 0, 0, []), (42, 60, 0, 0, []), (45, 60, 0, 0, []), (46, 60, 0, 0, []), (49, 60, 0, 0, []), (50, 60, 0, 0, []), (51, 60, 0, 0, []), (52, 60, 0, 0, []), (55, 60, 0, 0, []), (58, 60, 0, 0, []), (59, 60, 0, 0, []), (60, 60, 0, 0, []), (63, 60, 0, 0, []), (64, 60, 0, 0, []), (65, 60, 0, 0, []), (68, 60, 0, 0, []), (70, 60, 0, 0, []), (71, 60, 0, 0, []), (74, 60, 0, 0, []), (76, 60, 0, 0, []), (77, 60, 0, 0, []), (78, 60, 0, 0, []), (79, 60, 0, 0, []), (82, 60, 0, 0, []), (84, 60, 0, 0, []), (85, 60, 0, 0, []), (88, 60, 0, 0, []), (90, 60, 0, 0, []), (91, 60, 0, 0, []), (92, 60, 0, 0, []), (93, 60, 0, 0, []), (96, 60, 0, 0, []), (98, 60, 0, 0, []), (99, 60, 0, 0, []), (100, 60, 0, 0, []), (101, 60, 0, 0, []), (104, 60, 0, 0, []), (105, 60, 0, 0, []), (108, 60, 0, 0, []), (110, 60, 0, 0, []), (111, 60, 0, 0, []), (112, 60, 0, 0, []), (115, 60, 0, 0, []), (117, 60, 0, 0, []), (118, 60, 0, 0, []), (121, 60, 0, 0, []), (122, 60, 0, 0, []), (125, 60, 0, 0, []), (126, 60, 0, 0, []), (129, 60, 0, 0, []), (130, 60, 0, 0, []), (131, 60, 0, 0, []), (134, 60, 0, 0, []), (137, 60, 0, 0, []), (138, 60, 0, 0, []), (141, 60, 0, 0, []), (142, 60, 0, 0, []), (143, 60, 0, 0, []), (144, 60, 0, 0, []), (145, 60, 0, 0, []), (148, 60, 0, 0, []), (150, 60, 0, 0, []), (151, 60, 0, 0, []), (154, 60, 0, 0, []), (156, 60, 0, 0, []), (157, 60, 0, 0, []), (160, 60, 0, 0, []), (162, 60, 0, 0, []), (163, 60, 0, 0, []), (164, 60, 0, 0, []), (165, 60, 0, 0, []), (168, 60, 0, 0, []), (169, 60, 0, 0, []), (170, 60, 0, 0, []), (171, 60, 0, 0, []), (174, 60, 0, 0, []), (176, 60, 0, 0, []), (177, 60, 0, 0, []), (180, 60, 0, 0, []), (182, 60, 0, 0, []), (183, 60, 0, 0, []), (184, 60, 0, 0, []), (185, 60, 0, 0, []), (188, 60, 0, 0, []), (189, 60, 0, 0, []), (192, 60, 0, 0, []), (193, 60, 0, 0, []), (194, 60, 0, 0, []), (195, 60, 0, 0, []), (198, 60, 0, 0, []), (199, 60, 0, 0, []), (200, 60, 0, 0, []), (201, 60, 0, 0, []), (202, 60, 0, 0, [])], { frames := 0, cells := 0, slots := 0, locals := 0 })
noncomputable def xm_192 : xM := (⟨"AcidCity", "may", "(III)I"⟩, prog_1_method_33_code, 4, (some .int), [(0, 3, 2, 0, []), (1, 0, 2, 0, []), (2, 21, 1, 25, []), (5, 3, 0, 1, []), (6, 25, 11, 1, [11304]), (9, 3, 0, 1, []), (10, 25, 11, 0, [11303]), (13, 33, 2, 115, [2, 1, 13329, 0, 13330, 13331, 13332, 9222]), (16, 20, 0, 23, []), (19, 0, 1, 0, []), (20, 22, 0, 24, []), (23, 60, 0, 0, []), (24, 35, 0, 0, []), (25, 3, 2, 0, []), (26, 0, 0, 0, []), (27, 0, 1, 0, []), (28, 33, 3, 19, [0, 0, 11356, 0, 11357, 0, 11358, 9217]), (31, 20, 0, 59, []), (34, 3, 0, 1, []), (35, 25, 11, 0, [11303]), (38, 3, 1, 0, []), (39, 33, 2, 56, [3, 1, 11416, 0, 11417, 11418, 11419, 9218]), (42, 20, 0, 59, []), (45, 60, 0, 0, []), (46, 60, 0, 0, []), (49, 60, 0, 0, []), (52, 60, 0, 0, []), (53, 60, 0, 0, []), (56, 60, 0, 0, []), (59, 0, 3294967295, 0, [11359]), (61, 35, 0, 0, []), (62, 60, 0, 0, []), (63, 60, 0, 0, []), (64, 60, 0, 0, []), (67, 60, 0, 0, []), (68, 60, 0, 0, []), (71, 60, 0, 0, []), (72, 60, 0, 0, []), (75, 60, 0, 0, []), (76, 60, 0, 0, []), (79, 60, 0, 0, []), (82, 60, 0, 0, []), (83, 60, 0, 0, []), (86, 60, 0, 0, []), (87, 60, 0, 0, []), (88, 60, 0, 0, []), (89, 60, 0, 0, []), (92, 60, 0, 0, []), (93, 60, 0, 0, []), (96, 60, 0, 0, []), (99, 60, 0, 0, []), (101, 60, 0, 0, []), (102, 60, 0, 0, []), (103, 60, 0, 0, []), (106, 60, 0, 0, []), (107, 60, 0, 0, []), (110, 60, 0, 0, []), (111, 60, 0, 0, []), (112, 60, 0, 0, []), (115, 60, 0, 0, []), (118, 60, 0, 0, []), (119, 60, 0, 0, []), (122, 60, 0, 0, []), (123, 60, 0, 0, [])], { frames := 3, cells := 0, slots := 0, locals := 69 })
noncomputable def xm_193 : xM := (⟨"AcidCityModel", "may", "(III)I"⟩, prog_14_method_99_code, 5, (some .int), [(0, 3, 2, 0, []), (1, 9, 0, 0, []), (2, 1, 0, 0, []), (3, 1, 2, 0, [17442]), (6, 33, 3, 3, [0, 0, 16486, 0, 16487, 0, 16488, 9230]), (9, 20, 0, 45, []), (12, 3, 2, 0, []), (13, 0, 2, 0, []), (14, 21, 3, 33, []), (17, 3, 0, 1, []), (18, 3, 1, 0, []), (19, 33, 2, 39, [13, 1, 16548, 0, 16550, 3086, 16551, 9230]), (22, 20, 0, 45, []), (25, 60, 0, 0, []), (26, 60, 0, 0, []), (27, 60, 0, 0, []), (30, 60, 0, 0, []), (33, 3, 2, 0, []), (34, 20, 1, 48, []), (37, 60, 0, 0, []), (38, 60, 0, 0, []), (39, 60, 0, 0, []), (42, 60, 0, 0, []), (45, 0, 3294967295, 0, [16489]), (47, 35, 0, 0, []), (48, 3, 2, 0, []), (49, 20, 1, 61, []), (52, 60, 0, 0, []), (53, 60, 0, 0, []), (54, 60, 0, 0, []), (55, 60, 0, 0, []), (58, 60, 0, 0, []), (61, 3, 2, 0, []), (62, 0, 1, 0, []), (63, 21, 1, 74, []), (66, 60, 0, 0, []), (67, 60, 0, 0, []), (68, 60, 0, 0, []), (71, 60, 0, 0, []), (74, 3, 0, 1, []), (75, 33, 1, 116, [13, 1, 17576, 0, 17578, 6146, 17579, 9230]), (78, 4, 4, 0, []), (80, 3, 4, 0, []), (82, 20, 0, 89, []), (85, 0, 1, 0, []), (86, 22, 0, 90, []), (89, 60, 0, 0, []), (90, 35, 0, 0, [])], { frames := 2, cells := 0, slots := 0, locals := 49 })
noncomputable def xm_194 : xM := (⟨"AcidCity", "why", "(I)I"⟩, prog_1_method_34_code, 2, (some .int), [(0, 3, 1, 0, []), (1, 0, 0, 0, []), (2, 0, 5, 0, []), (3, 33, 3, 19, [0, 0, 11356, 0, 11357, 0, 11358, 9217]), (6, 20, 0, 27, []), (9, 3, 0, 1, []), (10, 25, 11, 1, [11304]), (13, 3, 1, 0, []), (14, 3, 0, 1, []), (15, 25, 11, 0, [11303]), (18, 33, 1, 70, [3, 1, 14386, 0, 11438, 11439, 11440, 9218]), (21, 33, 3, 82, [2, 1, 14400, 0, 11446, 11447, 11448, 9222]), (24, 22, 0, 29, []), (27, 0, 3294967295, 0, [11359]), (29, 35, 0, 0, [])], { frames := 1, cells := 0, slots := 0, locals := 25 })
noncomputable def xm_195 : xM := (⟨"AcidCityModel", "why", "(I)I"⟩, prog_14_method_100_code, 2, (some .int), [(0, 3, 1, 0, []), (1, 9, 0, 0, []), (2, 1, 0, 0, []), (3, 1, 5, 0, [16503]), (6, 33, 3, 3, [0, 0, 16486, 0, 16487, 0, 16488, 9230]), (9, 20, 0, 23, []), (12, 3, 0, 1, []), (13, 3, 1, 0, []), (14, 33, 2, 53, [13, 1, 16556, 0, 16558, 4096, 16559, 9230]), (17, 33, 1, 18, [0, 0, 16621, 0, 16622, 0, 16623, 9230]), (20, 22, 0, 25, []), (23, 0, 3294967295, 0, [16489]), (25, 35, 0, 0, [])], { frames := 1, cells := 0, slots := 0, locals := 25 })
noncomputable def xm_196 : xM := (⟨"AcidCity", "share", "(II)I"⟩, prog_1_method_35_code, 3, (some .int), [(0, 3, 0, 1, []), (1, 25, 11, 0, [11303]), (4, 3, 1, 0, []), (5, 33, 2, 56, [3, 1, 11416, 0, 11417, 11418, 11419, 9218]), (8, 20, 0, 21, []), (11, 60, 0, 0, []), (12, 60, 0, 0, []), (13, 60, 0, 0, []), (15, 60, 0, 0, []), (18, 60, 0, 0, []), (21, 0, 3294967295, 0, [11359]), (23, 35, 0, 0, []), (24, 60, 0, 0, []), (25, 60, 0, 0, []), (28, 60, 0, 0, []), (31, 60, 0, 0, []), (32, 60, 0, 0, []), (35, 60, 0, 0, []), (38, 60, 0, 0, []), (40, 60, 0, 0, []), (43, 60, 0, 0, []), (44, 60, 0, 0, []), (47, 60, 0, 0, []), (48, 60, 0, 0, []), (51, 60, 0, 0, []), (52, 60, 0, 0, []), (53, 60, 0, 0, []), (56, 60, 0, 0, [])], { frames := 2, cells := 0, slots := 0, locals := 43 })
noncomputable def xm_197 : xM := (⟨"AcidCityModel", "share", "(II)I"⟩, prog_14_method_101_code, 8, (some .int), [(0, 3, 0, 1, []), (1, 3, 1, 0, []), (2, 33, 2, 39, [13, 1, 16548, 0, 16550, 3086, 16551, 9230]), (5, 20, 0, 20, []), (8, 60, 0, 0, []), (9, 60, 0, 0, []), (10, 60, 0, 0, []), (11, 60, 0, 0, []), (14, 60, 0, 0, []), (17, 60, 0, 0, []), (20, 0, 3294967295, 0, [16489]), (22, 35, 0, 0, []), (23, 60, 0, 0, []), (24, 60, 0, 0, []), (25, 60, 0, 0, []), (28, 60, 0, 0, []), (31, 60, 0, 0, []), (33, 60, 0, 0, []), (34, 60, 0, 0, []), (35, 60, 0, 0, []), (36, 60, 0, 0, []), (39, 60, 0, 0, []), (40, 60, 0, 0, []), (41, 60, 0, 0, []), (43, 60, 0, 0, []), (44, 60, 0, 0, []), (46, 60, 0, 0, []), (48, 60, 0, 0, []), (49, 60, 0, 0, []), (52, 60, 0, 0, []), (54, 60, 0, 0, []), (55, 60, 0, 0, []), (58, 60, 0, 0, []), (59, 60, 0, 0, []), (61, 60, 0, 0, []), (64, 60, 0, 0, []), (65, 60, 0, 0, []), (67, 60, 0, 0, []), (70, 60, 0, 0, []), (73, 60, 0, 0, []), (74, 60, 0, 0, []), (77, 60, 0, 0, []), (78, 60, 0, 0, []), (81, 60, 0, 0, []), (82, 60, 0, 0, []), (85, 60, 0, 0, []), (86, 60, 0, 0, []), (87, 60, 0, 0, []), (90, 60, 0, 0, []), (92, 60, 0, 0, []), (93, 60, 0, 0, []), (96, 60, 0, 0, []), (98, 60, 0, 0, []), (100, 60, 0, 0, []), (103, 60, 0, 0, []), (104, 60, 0, 0, []), (107, 60, 0, 0, []), (109, 60, 0, 0, []), (112, 60, 0, 0, []), (115, 60, 0, 0, []), (116, 60, 0, 0, []), (118, 60, 0, 0, []), (119, 60, 0, 0, []), (122, 60, 0, 0, []), (124, 60, 0, 0, []), (125, 60, 0, 0, []), (126, 60, 0, 0, []), (128, 60, 0, 0, []), (131, 60, 0, 0, []), (134, 60, 0, 0, []), (136, 60, 0, 0, []), (139, 60, 0, 0, []), (140, 60, 0, 0, []), (143, 60, 0, 0, []), (144, 60, 0, 0, []), (145, 60, 0, 0, []), (148, 60, 0, 0, []), (149, 60, 0, 0, []), (150, 60, 0, 0, []), (151, 60, 0, 0, []), (153, 60, 0, 0, []), (154, 60, 0, 0, []), (156, 60, 0, 0, []), (157, 60, 0, 0, []), (159, 60, 0, 0, []), (161, 60, 0, 0, []), (162, 60, 0, 0, []), (165, 60, 0, 0, []), (167, 60, 0, 0, []), (168, 60, 0, 0, []), (171, 60, 0, 0, []), (173, 60, 0, 0, []), (174, 60, 0, 0, []), (175, 60, 0, 0, []), (176, 60, 0, 0, []), (179, 60, 0, 0, []), (181, 60, 0, 0, []), (182, 60, 0, 0, []), (183, 60, 0, 0, []), (184, 60, 0, 0, []), (186, 60, 0, 0, []), (187, 60, 0, 0, []), (188, 60, 0, 0, []), (189, 60, 0, 0, []), (190, 60, 0, 0, []), (192, 60, 0, 0, []), (194, 60, 0, 0, []), (196, 60, 0, 0, []), (197, 60, 0, 0, []), (200, 60, 0, 0, []), (201, 60, 0, 0, []), (204, 60, 0, 0, []), (206, 60, 0, 0, []), (207, 60, 0, 0, []), (210, 60, 0, 0, []), (211, 60, 0, 0, []), (214, 60, 0, 0, []), (215, 60, 0, 0, []), (216, 60, 0, 0, []), (218, 60, 0, 0, []), (221, 60, 0, 0, []), (224, 60, 0, 0, []), (225, 60, 0, 0, []), (226, 60, 0, 0, []), (227, 60, 0, 0, []), (230, 60, 0, 0, []), (231, 60, 0, 0, []), (232, 60, 0, 0, []), (233, 60, 0, 0, []), (234, 60, 0, 0, []), (236, 60, 0, 0, []), (237, 60, 0, 0, []), (238, 60, 0, 0, []), (239, 60, 0, 0, []), (241, 60, 0, 0, []), (243, 60, 0, 0, []), (246, 60, 0, 0, []), (247, 60, 0, 0, []), (250, 60, 0, 0, []), (251, 60, 0, 0, []), (252, 60, 0, 0, [])], { frames := 2, cells := 0, slots := 0, locals := 46 })
noncomputable def xm_198 : xM := (⟨"AcidCity", "order", "(I)I"⟩, prog_1_method_36_code, 4, (some .int), [(0, 3, 1, 0, []), (1, 20, 3, 7, []), (4, 0, 3294967295, 0, [11359]), (6, 35, 0, 0, []), (7, 3, 0, 1, []), (8, 25, 11, 1, [11304]), (11, 3, 0, 1, []), (12, 25, 11, 0, [11303]), (15, 33, 2, 71, [2, 1, 14419, 0, 14420, 14421, 14422, 9222]), (18, 3, 0, 1, []), (19, 25, 11, 1, [11304]), (22, 3, 0, 1, []), (23, 25, 11, 0, [11303]), (26, 33, 2, 83, [2, 1, 14433, 0, 14434, 14435, 14436, 9222]), (29, 4, 2, 0, []), (30, 0, 0, 0, []), (31, 4, 3, 0, []), (32, 3, 3, 0, []), (33, 3, 1, 0, []), (34, 21, 3, 62, []), (37, 3, 2, 0, []), (38, 0, 3294967291, 0, [13549]), (41, 21, 0, 62, []), (44, 60, 0, 0, []), (45, 60, 0, 0, []), (48, 60, 0, 0, []), (49, 60, 0, 0, []), (52, 60, 0, 0, []), (55, 60, 0, 0, []), (56, 60, 0, 0, []), (59, 60, 0, 0, []), (62, 3, 2, 0, []), (63, 35, 0, 0, [])], { frames := 1, cells := 0, slots := 0, locals := 24 })
noncomputable def xm_199 : xM := (⟨"AcidCityModel", "order", "(I)I"⟩, prog_14_method_104_code, 2, (some .int), [(0, 3, 1, 0, []), (1, 20, 3, 7, []), (4, 0, 3294967295, 0, [16489]), (6, 35, 0, 0, []), (7, 3, 1, 0, []), (8, 3, 0, 1, []), (9, 33, 1, 72, [13, 1, 18480, 0, 18482, 7171, 18483, 9230]), (12, 21, 3, 24, []), (15, 60, 0, 0, []), (16, 60, 0, 0, []), (19, 60, 0, 0, []), (20, 60, 0, 0, []), (21, 60, 0, 0, []), (24, 0, 3294967291, 0, [17408]), (26, 35, 0, 0, [])], { frames := 2, cells := 0, slots := 0, locals := 49 })
noncomputable def xm_200 : xM := (⟨"AcidCity", "shed", "()I"⟩, prog_1_method_37_code, 2, (some .int), [(0, 3, 0, 1, []), (1, 25, 11, 1, [11304]), (4, 3, 0, 1, []), (5, 25, 11, 0, [11303]), (8, 33, 2, 71, [2, 1, 14419, 0, 14420, 14421, 14422, 9222]), (11, 3, 0, 1, []), (12, 25, 11, 1, [11304]), (15, 3, 0, 1, []), (16, 25, 11, 0, [11303]), (19, 33, 2, 83, [2, 1, 14433, 0, 14434, 14435, 14436, 9222]), (22, 4, 1, 0, []), (23, 3, 1, 0, []), (24, 0, 3294967291, 0, [13549]), (27, 21, 1, 33, []), (30, 0, 3294967294, 0, [11464]), (32, 35, 0, 0, []), (33, 60, 0, 0, []), (34, 60, 0, 0, []), (37, 60, 0, 0, []), (38, 60, 0, 0, []), (41, 60, 0, 0, []), (42, 60, 0, 0, [])], { frames := 1, cells := 0, slots := 0, locals := 24 })
noncomputable def xm_201 : xM := (⟨"AcidCityModel", "shed", "()I"⟩, prog_14_method_105_code, 3, (some .int), [(0, 3, 0, 1, []), (1, 33, 1, 72, [13, 1, 18480, 0, 18482, 7171, 18483, 9230]), (4, 20, 1, 10, []), (7, 0, 3294967294, 0, [16587]), (9, 35, 0, 0, []), (10, 60, 0, 0, []), (11, 60, 0, 0, []), (14, 60, 0, 0, []), (15, 60, 0, 0, []), (16, 60, 0, 0, []), (17, 60, 0, 0, []), (18, 60, 0, 0, []), (19, 60, 0, 0, []), (22, 60, 0, 0, []), (23, 60, 0, 0, []), (24, 60, 0, 0, []), (27, 60, 0, 0, []), (28, 60, 0, 0, []), (30, 60, 0, 0, []), (31, 60, 0, 0, []), (32, 60, 0, 0, []), (33, 60, 0, 0, []), (34, 60, 0, 0, []), (37, 60, 0, 0, []), (38, 60, 0, 0, []), (39, 60, 0, 0, []), (40, 60, 0, 0, []), (41, 60, 0, 0, []), (42, 60, 0, 0, []), (45, 60, 0, 0, []), (46, 60, 0, 0, []), (49, 60, 0, 0, []), (50, 60, 0, 0, []), (51, 60, 0, 0, []), (54, 60, 0, 0, []), (55, 60, 0, 0, []), (56, 60, 0, 0, []), (57, 60, 0, 0, []), (58, 60, 0, 0, []), (61, 60, 0, 0, []), (63, 60, 0, 0, []), (64, 60, 0, 0, []), (65, 60, 0, 0, []), (66, 60, 0, 0, []), (67, 60, 0, 0, []), (68, 60, 0, 0, []), (69, 60, 0, 0, []), (72, 60, 0, 0, []), (73, 60, 0, 0, []), (75, 60, 0, 0, []), (76, 60, 0, 0, []), (77, 60, 0, 0, []), (78, 60, 0, 0, []), (79, 60, 0, 0, []), (80, 60, 0, 0, []), (83, 60, 0, 0, []), (84, 60, 0, 0, []), (86, 60, 0, 0, []), (87, 60, 0, 0, []), (88, 60, 0, 0, []), (89, 60, 0, 0, []), (90, 60, 0, 0, [])], { frames := 2, cells := 0, slots := 0, locals := 49 })
noncomputable def xm_202 : xM := (⟨"AcidCity", "enough", "()I"⟩, prog_1_method_38_code, 5, (some .int), [(0, 3, 0, 1, []), (1, 25, 11, 1, [11304]), (4, 3, 0, 1, []), (5, 25, 11, 0, [11303]), (8, 33, 2, 71, [2, 1, 14419, 0, 14420, 14421, 14422, 9222]), (11, 3, 0, 1, []), (12, 25, 11, 0, [11303]), (15, 33, 1, 23, [3, 1, 12354, 0, 12355, 12356, 12357, 9218]), (18, 4, 1, 0, []), (19, 3, 0, 1, []), (20, 25, 11, 0, [11303]), (23, 33, 1, 22, [3, 1, 12366, 0, 12367, 12368, 12369, 9218]), (26, 4, 2, 0, []), (27, 0, 0, 0, []), (28, 4, 3, 0, []), (29, 3, 3, 0, []), (30, 0, 24, 0, []), (32, 21, 4, 99, []), (35, 3, 1, 0, []), (36, 3, 2, 0, []), (37, 21, 2, 42, []), (40, 3, 3, 0, []), (41, 35, 0, 0, []), (42, 60, 0, 0, []), (43, 60, 0, 0, []), (46, 60, 0, 0, []), (47, 60, 0, 0, []), (50, 60, 0, 0, []), (53, 60, 0, 0, []), (55, 60, 0, 0, []), (57, 60, 0, 0, []), (60, 60, 0, 0, []), (63, 60, 0, 0, []), (65, 60, 0, 0, []), (66, 60, 0, 0, []), (67, 60, 0, 0, []), (68, 60, 0, 0, []), (71, 60, 0, 0, []), (73, 60, 0, 0, []), (76, 60, 0, 0, []), (77, 60, 0, 0, []), (78, 60, 0, 0, []), (79, 60, 0, 0, []), (80, 60, 0, 0, []), (83, 60, 0, 0, []), (86, 60, 0, 0, []), (88, 60, 0, 0, []), (91, 60, 0, 0, []), (92, 60, 0, 0, []), (93, 60, 0, 0, []), (96, 60, 0, 0, []), (99, 60, 0, 0, []), (101, 60, 0, 0, [])], { frames := 2, cells := 0, slots := 0, locals := 46 })
noncomputable def xm_203 : xM := (⟨"AcidCityModel", "enough", "()I"⟩, prog_14_method_106_code, 6, (some .int), [(0, 3, 0, 1, []), (1, 33, 1, 72, [13, 1, 18480, 0, 18482, 7171, 18483, 9230]), (4, 4, 1, 0, []), (5, 3, 0, 1, []), (6, 33, 1, 13, [13, 1, 17462, 0, 17464, 4109, 17465, 9230]), (9, 3, 0, 1, []), (10, 33, 1, 14, [13, 1, 17453, 0, 17455, 4107, 17456, 9230]), (13, 11, 1, 0, []), (14, 4, 2, 2, []), (15, 0, 0, 0, []), (16, 4, 4, 0, []), (18, 3, 4, 0, []), (20, 3, 1, 0, []), (21, 21, 3, 121, []), (24, 60, 0, 0, []), (25, 60, 0, 0, []), (26, 60, 0, 0, []), (27, 60, 0, 0, []), (30, 60, 0, 0, []), (31, 60, 0, 0, []), (32, 60, 0, 0, []), (35, 60, 0, 0, []), (37, 60, 0, 0, []), (38, 60, 0, 0, []), (41, 60, 0, 0, []), (43, 60, 0, 0, []), (44, 60, 0, 0, []), (45, 60, 0, 0, []), (48, 60, 0, 0, []), (50, 60, 0, 0, []), (52, 60, 0, 0, []), (53, 60, 0, 0, []), (54, 60, 0, 0, []), (57, 60, 0, 0, []), (58, 60, 0, 0, []), (61, 60, 0, 0, []), (63, 60, 0, 0, []), (64, 60, 0, 0, []), (65, 60, 0, 0, []), (66, 60, 0, 0, []), (67, 60, 0, 0, []), (70, 60, 0, 0, []), (71, 60, 0, 0, []), (72, 60, 0, 0, []), (73, 60, 0, 0, []), (74, 60, 0, 0, []), (75, 60, 0, 0, []), (78, 60, 0, 0, []), (80, 60, 0, 0, []), (81, 60, 0, 0, []), (82, 60, 0, 0, []), (83, 60, 0, 0, []), (84, 60, 0, 0, []), (87, 60, 0, 0, []), (88, 60, 0, 0, []), (91, 60, 0, 0, []), (93, 60, 0, 0, []), (95, 60, 0, 0, []), (96, 60, 0, 0, []), (97, 60, 0, 0, []), (98, 60, 0, 0, []), (99, 60, 0, 0, []), (100, 60, 0, 0, []), (103, 60, 0, 0, []), (104, 60, 0, 0, []), (105, 60, 0, 0, []), (108, 60, 0, 0, []), (109, 60, 0, 0, []), (112, 60, 0, 0, []), (113, 60, 0, 0, []), (114, 60, 0, 0, []), (115, 60, 0, 0, []), (118, 60, 0, 0, []), (121, 3, 2, 2, []), (122, 1, 0, 0, []), (123, 14, 0, 0, []), (124, 20, 5, 132, []), (127, 60, 0, 0, []), (129, 60, 0, 0, []), (132, 3, 4, 0, []), (134, 35, 0, 0, [])], { frames := 2, cells := 0, slots := 0, locals := 49 })
noncomputable def xm_204 : xM := (⟨"AcidCity", "gauge", "(III)I"⟩, prog_1_method_39_code, 4, (some .int), [(0, 3, 0, 1, []), (1, 25, 11, 0, [11303]), (4, 3, 1, 0, []), (5, 33, 2, 45, [3, 1, 11375, 0, 11376, 11377, 11378, 9218]), (8, 20, 0, 20, []), (11, 60, 0, 0, []), (12, 60, 0, 0, []), (13, 60, 0, 0, []), (14, 60, 0, 0, []), (17, 60, 0, 0, []), (20, 0, 3294967295, 0, [11359]), (22, 35, 0, 0, []), (23, 60, 0, 0, []), (24, 60, 0, 0, []), (25, 60, 0, 0, []), (28, 60, 0, 0, []), (29, 60, 0, 0, []), (32, 60, 0, 0, []), (33, 60, 0, 0, []), (36, 60, 0, 0, []), (37, 60, 0, 0, []), (38, 60, 0, 0, []), (39, 60, 0, 0, []), (41, 60, 0, 0, []), (44, 60, 0, 0, []), (46, 60, 0, 0, []), (47, 60, 0, 0, []), (48, 60, 0, 0, []), (51, 60, 0, 0, []), (54, 60, 0, 0, []), (57, 60, 0, 0, []), (58, 60, 0, 0, []), (61, 60, 0, 0, []), (62, 60, 0, 0, []), (63, 60, 0, 0, []), (64, 60, 0, 0, []), (67, 60, 0, 0, [])], { frames := 2, cells := 0, slots := 0, locals := 43 })
noncomputable def xm_205 : xM := (⟨"AcidCityModel", "gauge", "(III)I"⟩, prog_14_method_107_code, 5, (some .int), [(0, 3, 0, 1, []), (1, 3, 1, 0, []), (2, 33, 2, 38, [13, 1, 16499, 0, 16501, 3078, 16502, 9230]), (5, 20, 0, 30, []), (8, 60, 0, 0, []), (9, 60, 0, 0, []), (10, 60, 0, 0, []), (13, 60, 0, 0, []), (14, 60, 0, 0, []), (17, 60, 0, 0, []), (20, 60, 0, 0, []), (21, 60, 0, 0, []), (24, 60, 0, 0, []), (25, 60, 0, 0, []), (27, 60, 0, 0, []), (30, 0, 3294967295, 0, [16489]), (32, 35, 0, 0, []), (33, 60, 0, 0, []), (34, 60, 0, 0, []), (37, 60, 0, 0, []), (38, 60, 0, 0, []), (41, 60, 0, 0, []), (44, 60, 0, 0, []), (45, 60, 0, 0, []), (46, 60, 0, 0, []), (49, 60, 0, 0, []), (50, 60, 0, 0, []), (51, 60, 0, 0, []), (52, 60, 0, 0, []), (53, 60, 0, 0, []), (56, 60, 0, 0, []), (57, 60, 0, 0, []), (58, 60, 0, 0, []), (61, 60, 0, 0, []), (62, 60, 0, 0, []), (65, 60, 0, 0, []), (66, 60, 0, 0, []), (67, 60, 0, 0, []), (68, 60, 0, 0, []), (70, 60, 0, 0, []), (72, 60, 0, 0, []), (74, 60, 0, 0, []), (77, 60, 0, 0, []), (78, 60, 0, 0, []), (81, 60, 0, 0, []), (83, 60, 0, 0, []), (84, 60, 0, 0, []), (85, 60, 0, 0, []), (87, 60, 0, 0, []), (88, 60, 0, 0, []), (89, 60, 0, 0, []), (90, 60, 0, 0, []), (93, 60, 0, 0, []), (96, 60, 0, 0, []), (97, 60, 0, 0, []), (100, 60, 0, 0, []), (101, 60, 0, 0, []), (102, 60, 0, 0, [])], { frames := 2, cells := 0, slots := 0, locals := 46 })
noncomputable def xm_206 : xM := (⟨"AcidCity", "point", "(III)I"⟩, prog_1_method_40_code, 4, (some .int), [(0, 3, 0, 1, []), (1, 25, 11, 0, [11303]), (4, 3, 1, 0, []), (5, 33, 2, 45, [3, 1, 11375, 0, 11376, 11377, 11378, 9218]), (8, 20, 0, 24, []), (11, 60, 0, 0, []), (12, 60, 0, 0, []), (15, 60, 0, 0, []), (16, 60, 0, 0, []), (17, 60, 0, 0, []), (18, 60, 0, 0, []), (21, 60, 0, 0, []), (24, 0, 3294967295, 0, [11359]), (26, 35, 0, 0, [])], { frames := 2, cells := 0, slots := 0, locals := 43 })
noncomputable def xm_207 : xM := (⟨"AcidCityModel", "point", "(III)I"⟩, prog_14_method_108_code, 4, (some .int), [(0, 3, 0, 1, []), (1, 3, 1, 0, []), (2, 33, 2, 38, [13, 1, 16499, 0, 16501, 3078, 16502, 9230]), (5, 20, 1, 11, []), (8, 0, 3294967295, 0, [16489]), (10, 35, 0, 0, []), (11, 60, 0, 0, []), (12, 60, 0, 0, []), (15, 60, 0, 0, []), (16, 60, 0, 0, []), (17, 60, 0, 0, []), (20, 60, 0, 0, []), (23, 60, 0, 0, []), (24, 60, 0, 0, []), (25, 60, 0, 0, []), (26, 60, 0, 0, []), (27, 60, 0, 0, []), (28, 60, 0, 0, []), (31, 60, 0, 0, []), (32, 60, 0, 0, []), (33, 60, 0, 0, []), (34, 60, 0, 0, []), (35, 60, 0, 0, []), (36, 60, 0, 0, []), (39, 60, 0, 0, []), (42, 60, 0, 0, []), (45, 60, 0, 0, []), (46, 60, 0, 0, []), (47, 60, 0, 0, []), (50, 60, 0, 0, []), (51, 60, 0, 0, []), (52, 60, 0, 0, []), (55, 60, 0, 0, []), (56, 60, 0, 0, []), (58, 60, 0, 0, []), (61, 60, 0, 0, []), (63, 60, 0, 0, []), (64, 60, 0, 0, []), (65, 60, 0, 0, []), (68, 60, 0, 0, []), (69, 60, 0, 0, []), (70, 60, 0, 0, []), (71, 60, 0, 0, []), (74, 60, 0, 0, []), (75, 60, 0, 0, []), (77, 60, 0, 0, []), (80, 60, 0, 0, []), (81, 60, 0, 0, []), (82, 60, 0, 0, []), (85, 60, 0, 0, []), (88, 60, 0, 0, []), (91, 60, 0, 0, []), (94, 60, 0, 0, []), (96, 60, 0, 0, []), (97, 60, 0, 0, []), (98, 60, 0, 0, []), (101, 60, 0, 0, []), (103, 60, 0, 0, []), (104, 60, 0, 0, []), (105, 60, 0, 0, []), (106, 60, 0, 0, []), (107, 60, 0, 0, []), (108, 60, 0, 0, []), (111, 60, 0, 0, []), (112, 60, 0, 0, []), (113, 60, 0, 0, []), (116, 60, 0, 0, []), (117, 60, 0, 0, []), (119, 60, 0, 0, []), (120, 60, 0, 0, []), (122, 60, 0, 0, []), (123, 60, 0, 0, []), (126, 60, 0, 0, []), (127, 60, 0, 0, []), (128, 60, 0, 0, []), (129, 60, 0, 0, [])], { frames := 2, cells := 0, slots := 0, locals := 46 })
noncomputable def xm_208 : xM := (⟨"AcidCity", "read", "(II)I"⟩, prog_1_method_41_code, 3, (some .int), [(0, 3, 0, 1, []), (1, 25, 11, 0, [11303]), (4, 3, 1, 0, []), (5, 33, 2, 45, [3, 1, 11375, 0, 11376, 11377, 11378, 9218]), (8, 20, 0, 23, []), (11, 60, 0, 0, []), (12, 60, 0, 0, []), (15, 60, 0, 0, []), (16, 60, 0, 0, []), (17, 60, 0, 0, []), (20, 60, 0, 0, []), (23, 0, 3294967295, 0, [11359]), (25, 35, 0, 0, [])], { frames := 2, cells := 0, slots := 0, locals := 43 })
noncomputable def xm_209 : xM := (⟨"AcidCityModel", "read", "(II)I"⟩, prog_14_method_111_code, 3, (some .int), [(0, 3, 0, 1, []), (1, 3, 1, 0, []), (2, 33, 2, 38, [13, 1, 16499, 0, 16501, 3078, 16502, 9230]), (5, 20, 0, 17, []), (8, 60, 0, 0, []), (9, 60, 0, 0, []), (10, 60, 0, 0, []), (11, 60, 0, 0, []), (14, 60, 0, 0, []), (17, 0, 3294967295, 0, [16489]), (19, 35, 0, 0, [])], { frames := 2, cells := 0, slots := 0, locals := 46 })
noncomputable def xm_210 : xM := (⟨"AcidCity", "worst", "(II)I"⟩, prog_1_method_42_code, 8, (some .int), [(0, 3, 1, 0, []), (1, 20, 2, 13, []), (4, 3, 2, 0, []), (5, 0, 0, 0, []), (6, 0, 2, 0, []), (7, 33, 3, 19, [0, 0, 11356, 0, 11357, 0, 11358, 9217]), (10, 20, 1, 16, []), (13, 0, 3294967295, 0, [11359]), (15, 35, 0, 0, []), (16, 0, 3294967291, 0, [13549]), (19, 4, 3, 0, []), (20, 0, 3294967291, 0, [13549]), (23, 4, 4, 0, []), (25, 0, 0, 0, []), (26, 4, 5, 0, []), (28, 0, 0, 0, []), (29, 4, 6, 0, []), (31, 3, 6, 0, []), (33, 3, 0, 1, []), (34, 25, 11, 0, [11303]), (37, 25, 2, 0, [9426]), (40, 25, 0, 5, [9276]), (43, 21, 3, 99, []), (46, 60, 0, 0, []), (47, 60, 0, 0, []), (50, 60, 0, 0, []), (52, 60, 0, 0, []), (53, 60, 0, 0, []), (56, 60, 0, 0, []), (58, 60, 0, 0, []), (60, 60, 0, 0, []), (63, 60, 0, 0, []), (66, 60, 0, 0, []), (69, 60, 0, 0, []), (72, 60, 0, 0, []), (73, 60, 0, 0, []), (76, 60, 0, 0, []), (79, 60, 0, 0, []), (81, 60, 0, 0, []), (83, 60, 0, 0, []), (86, 60, 0, 0, []), (88, 60, 0, 0, []), (89, 60, 0, 0, []), (91, 60, 0, 0, []), (93, 60, 0, 0, []), (96, 60, 0, 0, []), (99, 3, 2, 0, []), (100, 20, 1, 108, []), (103, 3, 4, 0, []), (105, 22, 0, 119, []), (108, 3, 2, 0, []), (109, 0, 1, 0, []), (110, 21, 1, 117, []), (113, 3, 3, 0, []), (114, 22, 0, 119, []), (117, 3, 5, 0, []), (119, 35, 0, 0, [])], { frames := 1, cells := 0, slots := 0, locals := 22 })
noncomputable def xm_211 : xM := (⟨"AcidCityModel", "worst", "(II)I"⟩, prog_14_method_112_code, 7, (some .int), [(0, 3, 1, 0, []), (1, 20, 2, 16, []), (4, 3, 2, 0, []), (5, 9, 0, 0, []), (6, 1, 0, 0, []), (7, 1, 2, 0, [17442]), (10, 33, 3, 3, [0, 0, 16486, 0, 16487, 0, 16488, 9230]), (13, 20, 1, 19, []), (16, 0, 3294967295, 0, [16489]), (18, 35, 0, 0, []), (19, 0, 4294967295, 0, []), (20, 4, 3, 0, []), (21, 0, 0, 0, []), (22, 4, 4, 0, []), (24, 0, 0, 0, []), (25, 4, 5, 0, []), (27, 3, 5, 0, []), (29, 3, 0, 1, []), (30, 25, 12, 0, [15576]), (33, 0, 5, 0, []), (34, 31, 100, 0, []), (35, 21, 3, 85, []), (38, 60, 0, 0, []), (39, 60, 0, 0, []), (41, 60, 0, 0, []), (42, 60, 0, 0, []), (45, 60, 0, 0, []), (47, 60, 0, 0, []), (49, 60, 0, 0, []), (52, 60, 0, 0, []), (55, 60, 0, 0, []), (58, 60, 0, 0, []), (61, 60, 0, 0, []), (62, 60, 0, 0, []), (65, 60, 0, 0, []), (67, 60, 0, 0, []), (68, 60, 0, 0, []), (69, 60, 0, 0, []), (70, 60, 0, 0, []), (73, 60, 0, 0, []), (76, 60, 0, 0, []), (78, 60, 0, 0, []), (79, 60, 0, 0, []), (82, 60, 0, 0, []), (85, 3, 2, 0, []), (86, 0, 2, 0, []), (87, 21, 1, 95, []), (90, 3, 4, 0, []), (92, 22, 0, 119, []), (95, 3, 3, 0, []), (96, 20, 3, 104, []), (99, 0, 3294967291, 0, [17408]), (101, 22, 0, 119, []), (104, 60, 0, 0, []), (105, 60, 0, 0, []), (106, 60, 0, 0, []), (109, 60, 0, 0, []), (110, 60, 0, 0, []), (113, 60, 0, 0, []), (114, 60, 0, 0, []), (115, 60, 0, 0, []), (116, 60, 0, 0, []), (119, 35, 0, 0, [])], { frames := 1, cells := 0, slots := 0, locals := 25 })
noncomputable def xm_212 : xM := (⟨"AcidCity", "copy", "(IIIII)I"⟩, prog_1_method_43_code, 6, (some .int), [(0, 3, 0, 1, []), (1, 25, 11, 0, [11303]), (4, 3, 1, 0, []), (5, 33, 2, 45, [3, 1, 11375, 0, 11376, 11377, 11378, 9218]), (8, 20, 0, 39, []), (11, 60, 0, 0, []), (12, 60, 0, 0, []), (15, 60, 0, 0, []), (16, 60, 0, 0, []), (19, 60, 0, 0, []), (22, 60, 0, 0, []), (23, 60, 0, 0, []), (26, 60, 0, 0, []), (27, 60, 0, 0, []), (28, 60, 0, 0, []), (29, 60, 0, 0, []), (31, 60, 0, 0, []), (33, 60, 0, 0, []), (36, 60, 0, 0, []), (39, 0, 3294967295, 0, [11359]), (41, 35, 0, 0, [])], { frames := 2, cells := 0, slots := 0, locals := 43 })
noncomputable def xm_213 : xM := (⟨"AcidCityModel", "copy", "(IIIII)I"⟩, prog_14_method_113_code, 7, (some .int), [(0, 3, 0, 1, []), (1, 3, 1, 0, []), (2, 33, 2, 38, [13, 1, 16499, 0, 16501, 3078, 16502, 9230]), (5, 20, 0, 16, []), (8, 60, 0, 0, []), (9, 60, 0, 0, []), (10, 60, 0, 0, []), (13, 60, 0, 0, []), (16, 0, 3294967295, 0, [16489]), (18, 35, 0, 0, []), (19, 60, 0, 0, []), (20, 60, 0, 0, []), (23, 60, 0, 0, []), (24, 60, 0, 0, []), (25, 60, 0, 0, []), (28, 60, 0, 0, []), (29, 60, 0, 0, []), (32, 60, 0, 0, []), (33, 60, 0, 0, []), (34, 60, 0, 0, []), (37, 60, 0, 0, []), (40, 60, 0, 0, []), (41, 60, 0, 0, []), (42, 60, 0, 0, []), (45, 60, 0, 0, []), (46, 60, 0, 0, []), (47, 60, 0, 0, []), (48, 60, 0, 0, []), (51, 60, 0, 0, []), (52, 60, 0, 0, []), (53, 60, 0, 0, []), (56, 60, 0, 0, []), (58, 60, 0, 0, []), (59, 60, 0, 0, []), (60, 60, 0, 0, []), (63, 60, 0, 0, []), (65, 60, 0, 0, []), (68, 60, 0, 0, []), (70, 60, 0, 0, []), (73, 60, 0, 0, []), (74, 60, 0, 0, []), (75, 60, 0, 0, []), (77, 60, 0, 0, []), (78, 60, 0, 0, []), (79, 60, 0, 0, []), (80, 60, 0, 0, []), (83, 60, 0, 0, []), (84, 60, 0, 0, []), (85, 60, 0, 0, []), (86, 60, 0, 0, []), (87, 60, 0, 0, []), (90, 60, 0, 0, []), (92, 60, 0, 0, []), (93, 60, 0, 0, []), (95, 60, 0, 0, []), (96, 60, 0, 0, []), (97, 60, 0, 0, []), (98, 60, 0, 0, []), (101, 60, 0, 0, []), (102, 60, 0, 0, []), (103, 60, 0, 0, []), (104, 60, 0, 0, []), (105, 60, 0, 0, []), (108, 60, 0, 0, []), (111, 60, 0, 0, []), (112, 60, 0, 0, []), (113, 60, 0, 0, []), (115, 60, 0, 0, []), (117, 60, 0, 0, []), (119, 60, 0, 0, []), (122, 60, 0, 0, []), (123, 60, 0, 0, []), (126, 60, 0, 0, []), (128, 60, 0, 0, []), (129, 60, 0, 0, []), (132, 60, 0, 0, []), (134, 60, 0, 0, []), (135, 60, 0, 0, []), (136, 60, 0, 0, []), (137, 60, 0, 0, []), (138, 60, 0, 0, []), (140, 60, 0, 0, []), (141, 60, 0, 0, []), (142, 60, 0, 0, []), (143, 60, 0, 0, []), (146, 60, 0, 0, []), (149, 60, 0, 0, []), (150, 60, 0, 0, []), (152, 60, 0, 0, []), (154, 60, 0, 0, []), (156, 60, 0, 0, []), (159, 60, 0, 0, []), (160, 60, 0, 0, []), (163, 60, 0, 0, []), (165, 60, 0, 0, []), (166, 60, 0, 0, []), (167, 60, 0, 0, []), (169, 60, 0, 0, []), (170, 60, 0, 0, []), (172, 60, 0, 0, []), (173, 60, 0, 0, []), (174, 60, 0, 0, []), (177, 60, 0, 0, []), (179, 60, 0, 0, []), (180, 60, 0, 0, []), (181, 60, 0, 0, []), (184, 60, 0, 0, []), (187, 60, 0, 0, []), (189, 60, 0, 0, [])], { frames := 2, cells := 0, slots := 0, locals := 46 })
noncomputable def xm_214 : xM := (⟨"AcidCity", "shows", "(III)I"⟩, prog_1_method_44_code, 4, (some .int), [(0, 3, 1, 0, []), (1, 0, 0, 0, []), (2, 0, 7, 0, []), (4, 33, 3, 19, [0, 0, 11356, 0, 11357, 0, 11358, 9217]), (7, 20, 0, 29, []), (10, 3, 2, 0, []), (11, 0, 0, 0, []), (12, 0, 11, 0, []), (14, 33, 3, 19, [0, 0, 11356, 0, 11357, 0, 11358, 9217]), (17, 20, 0, 29, []), (20, 3, 3, 0, []), (21, 0, 0, 0, []), (22, 0, 3, 0, []), (23, 33, 3, 19, [0, 0, 11356, 0, 11357, 0, 11358, 9217]), (26, 20, 1, 32, []), (29, 0, 3294967295, 0, [11359]), (31, 35, 0, 0, []), (32, 3, 0, 1, []), (33, 25, 11, 2, [11305]), (36, 25, 4, 0, [10323]), (39, 3, 1, 0, []), (40, 31, 102, 0, []), (41, 3, 2, 0, []), (42, 3, 3, 0, []), (43, 33, 3, 34, [0, 0, 11380, 0, 11381, 0, 11382, 9217]), (46, 35, 0, 0, [])], { frames := 1, cells := 0, slots := 0, locals := 23 })
noncomputable def xm_215 : xM := (⟨"AcidCityModel", "shows", "(III)I"⟩, prog_14_method_116_code, 4, (some .int), [(0, 3, 1, 0, []), (1, 33, 1, 84, [0, 0, 18535, 0, 18536, 0, 18537, 9230]), (4, 20, 0, 44, []), (7, 3, 2, 0, []), (8, 33, 1, 73, [0, 0, 18539, 0, 18540, 0, 18541, 9230]), (11, 20, 0, 44, []), (14, 3, 3, 0, []), (15, 9, 0, 0, []), (16, 1, 0, 0, []), (17, 1, 3, 0, [17562]), (20, 33, 3, 3, [0, 0, 16486, 0, 16487, 0, 16488, 9230]), (23, 20, 0, 44, []), (26, 3, 0, 1, []), (27, 0, 4400, 0, []), (30, 0, 12, 0, []), (32, 3, 1, 0, []), (33, 6, 2, 0, []), (34, 6, 0, 0, []), (35, 3, 2, 0, []), (36, 6, 0, 0, []), (37, 3, 3, 0, []), (38, 33, 3, 4, [13, 1, 16506, 0, 16508, 3079, 16509, 9230]), (41, 22, 0, 46, []), (44, 0, 3294967295, 0, [16489]), (46, 35, 0, 0, [])], { frames := 2, cells := 0, slots := 0, locals := 45 })
noncomputable def xm_216 : xM := (⟨"AcidCity", "tested", "(II)I"⟩, prog_1_method_45_code, 3, (some .int), [(0, 3, 1, 0, []), (1, 0, 0, 0, []), (2, 0, 7, 0, []), (4, 33, 3, 19, [0, 0, 11356, 0, 11357, 0, 11358, 9217]), (7, 20, 0, 19, []), (10, 3, 2, 0, []), (11, 0, 4294967295, 0, []), (12, 0, 3, 0, []), (13, 33, 3, 19, [0, 0, 11356, 0, 11357, 0, 11358, 9217]), (16, 20, 1, 22, []), (19, 0, 3294967295, 0, [11359]), (21, 35, 0, 0, []), (22, 3, 0, 1, []), (23, 25, 11, 2, [11305]), (26, 25, 4, 1, [10325]), (29, 3, 1, 0, []), (30, 3, 2, 0, []), (31, 32, 100, 0, []), (32, 3, 0, 1, []), (33, 25, 11, 2, [11305]), (36, 33, 1, 47, [5, 1, 14521, 0, 14522, 14523, 14524, 9223]), (39, 33, 1, 40, [0, 0, 14529, 0, 14530, 0, 14531, 9238]), (42, 35, 0, 0, [])], { frames := 2, cells := 0, slots := 0, locals := 44 })
noncomputable def xm_217 : xM := (⟨"AcidCityModel", "tested", "(II)I"⟩, prog_14_method_119_code, 3, (some .int), [(0, 3, 1, 0, []), (1, 33, 1, 84, [0, 0, 18535, 0, 18536, 0, 18537, 9230]), (4, 20, 0, 21, []), (7, 3, 2, 0, []), (8, 9, 0, 0, []), (9, 1, 18446744073709551615, 0, [18500]), (12, 1, 3, 0, [17562]), (15, 33, 3, 3, [0, 0, 16486, 0, 16487, 0, 16488, 9230]), (18, 20, 1, 24, []), (21, 0, 3294967295, 0, [16489]), (23, 35, 0, 0, []), (24, 3, 0, 1, []), (25, 25, 12, 0, [15576]), (28, 0, 4500, 0, []), (31, 3, 1, 0, []), (32, 6, 0, 0, []), (33, 3, 2, 0, []), (34, 32, 100, 0, []), (35, 3, 0, 1, []), (36, 33, 1, 37, [13, 1, 18547, 0, 18549, 7175, 18550, 9230]), (39, 33, 1, 35, [0, 0, 18551, 0, 18552, 0, 18553, 9230]), (42, 35, 0, 0, [])], { frames := 2, cells := 0, slots := 0, locals := 45 })
noncomputable def xm_218 : xM := (⟨"AcidCity", "find", "(I)I"⟩, prog_1_method_46_code, 2, (some .int), [(0, 3, 1, 0, []), (1, 0, 0, 0, []), (2, 0, 1, 0, []), (3, 33, 3, 19, [0, 0, 11356, 0, 11357, 0, 11358, 9217]), (6, 20, 1, 12, []), (9, 0, 3294967295, 0, [11359]), (11, 35, 0, 0, []), (12, 3, 1, 0, []), (13, 20, 1, 26, []), (16, 3, 0, 1, []), (17, 25, 11, 2, [11305]), (20, 33, 1, 47, [5, 1, 14521, 0, 14522, 14523, 14524, 9223]), (23, 22, 0, 33, []), (26, 3, 0, 1, []), (27, 25, 11, 2, [11305]), (30, 33, 1, 117, [5, 1, 14539, 0, 14540, 14541, 14542, 9223]), (33, 35, 0, 0, [])], { frames := 3, cells := 0, slots := 0, locals := 69 })
noncomputable def xm_219 : xM := (⟨"AcidCityModel", "find", "(I)I"⟩, prog_14_method_121_code, 6, (some .int), [(0, 3, 1, 0, []), (1, 9, 0, 0, []), (2, 1, 0, 0, []), (3, 1, 1, 0, []), (4, 33, 3, 3, [0, 0, 16486, 0, 16487, 0, 16488, 9230]), (7, 20, 1, 13, []), (10, 0, 3294967295, 0, [16489]), (12, 35, 0, 0, []), (13, 3, 0, 1, []), (14, 33, 1, 37, [13, 1, 18547, 0, 18549, 7175, 18550, 9230]), (17, 4, 2, 0, []), (18, 3, 1, 0, []), (19, 20, 1, 24, []), (22, 3, 2, 0, []), (23, 35, 0, 0, []), (24, 0, 3294967291, 0, [17408]), (26, 4, 3, 0, []), (27, 3, 2, 0, []), (28, 33, 1, 35, [0, 0, 18551, 0, 18552, 0, 18553, 9230]), (31, 4, 4, 0, []), (33, 0, 0, 0, []), (34, 4, 5, 0, []), (36, 3, 5, 0, []), (38, 0, 8, 0, []), (40, 21, 3, 87, []), (43, 3, 0, 1, []), (44, 25, 12, 0, [15576]), (47, 0, 4500, 0, []), (50, 3, 5, 0, []), (52, 6, 0, 0, []), (53, 31, 100, 0, []), (54, 20, 3, 81, []), (57, 3, 0, 1, []), (58, 3, 5, 0, []), (60, 3, 2, 0, []), (61, 33, 3, 51, [13, 1, 18558, 0, 18560, 7176, 18561, 9230]), (64, 3, 4, 0, []), (66, 21, 3, 81, []), (69, 60, 0, 0, []), (71, 60, 0, 0, []), (72, 60, 0, 0, []), (73, 60, 0, 0, []), (75, 60, 0, 0, []), (76, 60, 0, 0, []), (79, 60, 0, 0, []), (81, 5, 5, 1, []), (84, 22, 0, 36, []), (87, 3, 3, 0, []), (88, 35, 0, 0, [])], { frames := 1, cells := 0, slots := 0, locals := 26 })
noncomputable def xm_220 : xM := (⟨"AcidCity", "weather", "(II)I"⟩, prog_1_method_47_code, 3, (some .int), [(0, 3, 1, 0, []), (1, 0, 0, 0, []), (2, 0, 47, 0, []), (4, 33, 3, 19, [0, 0, 11356, 0, 11357, 0, 11358, 9217]), (7, 20, 0, 36, []), (10, 3, 2, 0, []), (11, 0, 0, 0, []), (12, 0, 999, 0, []), (15, 33, 3, 19, [0, 0, 11356, 0, 11357, 0, 11358, 9217]), (18, 20, 0, 36, []), (21, 3, 0, 1, []), (22, 25, 11, 2, [11305]), (25, 25, 4, 2, [10328]), (28, 3, 1, 0, []), (29, 3, 2, 0, []), (30, 33, 3, 34, [0, 0, 11380, 0, 11381, 0, 11382, 9217]), (33, 22, 0, 38, []), (36, 0, 3294967295, 0, [11359]), (38, 35, 0, 0, [])], { frames := 1, cells := 0, slots := 0, locals := 23 })
noncomputable def xm_221 : xM := (⟨"AcidCityModel", "weather", "(II)I"⟩, prog_14_method_122_code, 3, (some .int), [(0, 3, 1, 0, []), (1, 9, 0, 0, []), (2, 1, 0, 0, []), (3, 1, 47, 0, [18566]), (6, 33, 3, 3, [0, 0, 16486, 0, 16487, 0, 16488, 9230]), (9, 20, 0, 37, []), (12, 3, 2, 0, []), (13, 9, 0, 0, []), (14, 1, 0, 0, []), (15, 1, 999, 0, [16485]), (18, 33, 3, 3, [0, 0, 16486, 0, 16487, 0, 16488, 9230]), (21, 20, 0, 37, []), (24, 3, 0, 1, []), (25, 0, 4510, 0, []), (28, 3, 1, 0, []), (29, 6, 0, 0, []), (30, 3, 2, 0, []), (31, 33, 3, 4, [13, 1, 16506, 0, 16508, 3079, 16509, 9230]), (34, 22, 0, 39, []), (37, 0, 3294967295, 0, [16489]), (39, 35, 0, 0, [])], { frames := 1, cells := 0, slots := 0, locals := 25 })
noncomputable def xm_222 : xM := (⟨"AcidCity", "lack", "(II)I"⟩, prog_1_method_48_code, 3, (some .int), [(0, 3, 1, 0, []), (1, 0, 1, 0, []), (2, 0, 48, 0, []), (4, 33, 3, 19, [0, 0, 11356, 0, 11357, 0, 11358, 9217]), (7, 20, 0, 20, []), (10, 3, 2, 0, []), (11, 0, 0, 0, []), (12, 0, 9, 0, []), (14, 33, 3, 19, [0, 0, 11356, 0, 11357, 0, 11358, 9217]), (17, 20, 1, 23, []), (20, 0, 3294967295, 0, [11359]), (22, 35, 0, 0, []), (23, 3, 0, 1, []), (24, 25, 11, 10, [11313]), (27, 3, 0, 1, []), (28, 25, 11, 0, [11303]), (31, 3, 0, 1, []), (32, 25, 11, 2, [11305]), (35, 3, 1, 0, []), (36, 3, 2, 0, []), (37, 0, 3294967291, 0, [13549]), (40, 0, 3294967291, 0, [13549]), (43, 33, 7, 119, [9, 1, 14559, 0, 14560, 14561, 14562, 9227]), (46, 3, 0, 1, []), (47, 25, 11, 10, [11313]), (50, 25, 8, 0, [10456]), (53, 35, 0, 0, [])], { frames := 4, cells := 0, slots := 0, locals := 138 })
noncomputable def xm_223 : xM := (⟨"AcidCityModel", "lack", "(II)I"⟩, prog_14_method_129_code, 3, (some .int), [(0, 3, 1, 0, []), (1, 9, 0, 0, []), (2, 1, 1, 0, []), (3, 1, 48, 0, [17611]), (6, 33, 3, 3, [0, 0, 16486, 0, 16487, 0, 16488, 9230]), (9, 20, 0, 38, []), (12, 3, 2, 0, []), (13, 9, 0, 0, []), (14, 1, 0, 0, []), (15, 1, 9, 0, [16539]), (18, 33, 3, 3, [0, 0, 16486, 0, 16487, 0, 16488, 9230]), (21, 20, 0, 38, []), (24, 3, 0, 1, []), (25, 3, 1, 0, []), (26, 3, 2, 0, []), (27, 0, 4294967295, 0, []), (28, 0, 0, 0, []), (29, 33, 5, 48, [13, 1, 18571, 0, 18573, 7177, 18574, 9230]), (32, 33, 1, 18, [0, 0, 16621, 0, 16622, 0, 16623, 9230]), (35, 22, 0, 40, []), (38, 0, 3294967295, 0, [16489]), (40, 35, 0, 0, [])], { frames := 2, cells := 0, slots := 0, locals := 50 })
noncomputable def xm_224 : xM := (⟨"AcidCity", "sewn", "(IIII)I"⟩, prog_1_method_49_code, 5, (some .int), [(0, 3, 1, 0, []), (1, 0, 1, 0, []), (2, 0, 48, 0, []), (4, 33, 3, 19, [0, 0, 11356, 0, 11357, 0, 11358, 9217]), (7, 20, 0, 43, []), (10, 3, 2, 0, []), (11, 0, 0, 0, []), (12, 0, 9, 0, []), (14, 33, 3, 19, [0, 0, 11356, 0, 11357, 0, 11358, 9217]), (17, 20, 0, 43, []), (20, 3, 0, 1, []), (21, 25, 11, 0, [11303]), (24, 3, 3, 0, []), (25, 33, 2, 49, [3, 1, 11493, 0, 11494, 11495, 11496, 9218]), (28, 20, 0, 43, []), (31, 60, 0, 0, []), (33, 60, 0, 0, []), (34, 60, 0, 0, []), (35, 60, 0, 0, []), (36, 60, 0, 0, []), (37, 60, 0, 0, []), (40, 60, 0, 0, []), (43, 0, 3294967295, 0, [11359]), (45, 35, 0, 0, []), (46, 60, 0, 0, []), (47, 60, 0, 0, []), (50, 60, 0, 0, []), (51, 60, 0, 0, []), (54, 60, 0, 0, []), (55, 60, 0, 0, []), (58, 60, 0, 0, []), (59, 60, 0, 0, []), (60, 60, 0, 0, []), (61, 60, 0, 0, []), (63, 60, 0, 0, []), (66, 60, 0, 0, []), (67, 60, 0, 0, []), (70, 60, 0, 0, []), (73, 60, 0, 0, [])], { frames := 2, cells := 0, slots := 0, locals := 43 })
noncomputable def xm_225 : xM := (⟨"AcidCityModel", "sewn", "(IIII)I"⟩, prog_14_method_130_code, 6, (some .int), [(0, 3, 1, 0, []), (1, 9, 0, 0, []), (2, 1, 1, 0, []), (3, 1, 48, 0, [17611]), (6, 33, 3, 3, [0, 0, 16486, 0, 16487, 0, 16488, 9230]), (9, 20, 0, 46, []), (12, 3, 2, 0, []), (13, 9, 0, 0, []), (14, 1, 0, 0, []), (15, 1, 9, 0, [16539]), (18, 33, 3, 3, [0, 0, 16486, 0, 16487, 0, 16488, 9230]), (21, 20, 0, 46, []), (24, 3, 0, 1, []), (25, 3, 3, 0, []), (26, 33, 2, 44, [13, 1, 16608, 0, 16610, 4104, 16611, 9230]), (29, 20, 0, 46, []), (32, 60, 0, 0, []), (34, 60, 0, 0, []), (35, 60, 0, 0, []), (36, 60, 0, 0, []), (37, 60, 0, 0, []), (38, 60, 0, 0, []), (39, 60, 0, 0, []), (40, 60, 0, 0, []), (43, 60, 0, 0, []), (46, 0, 3294967295, 0, [16489]), (48, 35, 0, 0, []), (49, 60, 0, 0, []), (50, 60, 0, 0, []), (51, 60, 0, 0, []), (52, 60, 0, 0, []), (53, 60, 0, 0, []), (55, 60, 0, 0, []), (58, 60, 0, 0, []), (60, 60, 0, 0, []), (61, 60, 0, 0, []), (64, 60, 0, 0, [])], { frames := 2, cells := 0, slots := 0, locals := 46 })
noncomputable def xm_226 : xM := (⟨"AcidCity", "takes", "(II)I"⟩, prog_1_method_50_code, 3, (some .int), [(0, 3, 1, 0, []), (1, 0, 0, 0, []), (2, 0, 3, 0, []), (3, 33, 3, 19, [0, 0, 11356, 0, 11357, 0, 11358, 9217]), (6, 20, 0, 34, []), (9, 3, 2, 0, []), (10, 0, 0, 0, []), (11, 0, 99, 0, []), (13, 33, 3, 19, [0, 0, 11356, 0, 11357, 0, 11358, 9217]), (16, 20, 0, 34, []), (19, 3, 0, 1, []), (20, 25, 11, 2, [11305]), (23, 25, 4, 3, [10331]), (26, 3, 1, 0, []), (27, 3, 2, 0, []), (28, 33, 3, 34, [0, 0, 11380, 0, 11381, 0, 11382, 9217]), (31, 22, 0, 36, []), (34, 0, 3294967295, 0, [11359]), (36, 35, 0, 0, [])], { frames := 1, cells := 0, slots := 0, locals := 23 })
noncomputable def xm_227 : xM := (⟨"AcidCityModel", "takes", "(II)I"⟩, prog_14_method_131_code, 3, (some .int), [(0, 3, 1, 0, []), (1, 9, 0, 0, []), (2, 1, 0, 0, []), (3, 1, 3, 0, [17562]), (6, 33, 3, 3, [0, 0, 16486, 0, 16487, 0, 16488, 9230]), (9, 20, 0, 37, []), (12, 3, 2, 0, []), (13, 9, 0, 0, []), (14, 1, 0, 0, []), (15, 1, 99, 0, [16504]), (18, 33, 3, 3, [0, 0, 16486, 0, 16487, 0, 16488, 9230]), (21, 20, 0, 37, []), (24, 3, 0, 1, []), (25, 0, 4560, 0, []), (28, 3, 1, 0, []), (29, 6, 0, 0, []), (30, 3, 2, 0, []), (31, 33, 3, 4, [13, 1, 16506, 0, 16508, 3079, 16509, 9230]), (34, 22, 0, 39, []), (37, 0, 3294967295, 0, [16489]), (39, 35, 0, 0, [])], { frames := 1, cells := 0, slots := 0, locals := 25 })
noncomputable def xm_228 : xM := (⟨"AcidCity", "harm", "(III)I"⟩, prog_1_method_51_code, 4, (some .int), [(0, 3, 1, 0, []), (1, 0, 0, 0, []), (2, 0, 23, 0, []), (4, 33, 3, 19, [0, 0, 11356, 0, 11357, 0, 11358, 9217]), (7, 20, 0, 30, []), (10, 3, 2, 0, []), (11, 0, 0, 0, []), (12, 0, 3, 0, []), (13, 33, 3, 19, [0, 0, 11356, 0, 11357, 0, 11358, 9217]), (16, 20, 0, 30, []), (19, 3, 3, 0, []), (20, 0, 0, 0, []), (21, 0, 999, 0, []), (24, 33, 3, 19, [0, 0, 11356, 0, 11357, 0, 11358, 9217]), (27, 20, 1, 33, []), (30, 0, 3294967295, 0, [11359]), (32, 35, 0, 0, []), (33, 3, 0, 1, []), (34, 25, 11, 2, [11305]), (37, 25, 4, 4, [10334]), (40, 3, 1, 0, []), (41, 31, 102, 0, []), (42, 3, 2, 0, []), (43, 3, 3, 0, []), (44, 33, 3, 34, [0, 0, 11380, 0, 11381, 0, 11382, 9217]), (47, 35, 0, 0, [])], { frames := 1, cells := 0, slots := 0, locals := 23 })
noncomputable def xm_229 : xM := (⟨"AcidCityModel", "harm", "(III)I"⟩, prog_14_method_132_code, 4, (some .int), [(0, 3, 1, 0, []), (1, 9, 0, 0, []), (2, 1, 0, 0, []), (3, 1, 23, 0, [18607]), (6, 33, 3, 3, [0, 0, 16486, 0, 16487, 0, 16488, 9230]), (9, 20, 0, 53, []), (12, 3, 2, 0, []), (13, 9, 0, 0, []), (14, 1, 0, 0, []), (15, 1, 3, 0, [17562]), (18, 33, 3, 3, [0, 0, 16486, 0, 16487, 0, 16488, 9230]), (21, 20, 0, 53, []), (24, 3, 3, 0, []), (25, 9, 0, 0, []), (26, 1, 0, 0, []), (27, 1, 999, 0, [16485]), (30, 33, 3, 3, [0, 0, 16486, 0, 16487, 0, 16488, 9230]), (33, 20, 0, 53, []), (36, 3, 0, 1, []), (37, 0, 4570, 0, []), (40, 0, 4, 0, []), (41, 3, 1, 0, []), (42, 6, 2, 0, []), (43, 6, 0, 0, []), (44, 3, 2, 0, []), (45, 6, 0, 0, []), (46, 3, 3, 0, []), (47, 33, 3, 4, [13, 1, 16506, 0, 16508, 3079, 16509, 9230]), (50, 22, 0, 55, []), (53, 0, 3294967295, 0, [16489]), (55, 35, 0, 0, [])], { frames := 1, cells := 0, slots := 0, locals := 25 })
noncomputable def xm_230 : xM := (⟨"AcidCity", "known", "(II)I"⟩, prog_1_method_54_code, 3, (some .int), [(0, 3, 0, 1, []), (1, 25, 11, 0, [11303]), (4, 3, 1, 0, []), (5, 33, 2, 45, [3, 1, 11375, 0, 11376, 11377, 11378, 9218]), (8, 20, 0, 37, []), (11, 60, 0, 0, []), (12, 60, 0, 0, []), (13, 60, 0, 0, []), (14, 60, 0, 0, []), (17, 60, 0, 0, []), (20, 60, 0, 0, []), (21, 60, 0, 0, []), (24, 60, 0, 0, []), (27, 60, 0, 0, []), (30, 60, 0, 0, []), (31, 60, 0, 0, []), (32, 60, 0, 0, []), (33, 60, 0, 0, []), (34, 60, 0, 0, []), (37, 0, 3294967295, 0, [11359]), (39, 35, 0, 0, [])], { frames := 2, cells := 0, slots := 0, locals := 43 })
noncomputable def xm_231 : xM := (⟨"AcidCityModel", "known", "(II)I"⟩, prog_14_method_139_code, 3, (some .int), [(0, 3, 0, 1, []), (1, 3, 1, 0, []), (2, 33, 2, 38, [13, 1, 16499, 0, 16501, 3078, 16502, 9230]), (5, 20, 0, 20, []), (8, 60, 0, 0, []), (9, 60, 0, 0, []), (10, 60, 0, 0, []), (11, 60, 0, 0, []), (14, 60, 0, 0, []), (17, 60, 0, 0, []), (20, 0, 3294967295, 0, [16489]), (22, 35, 0, 0, []), (23, 60, 0, 0, []), (24, 60, 0, 0, []), (27, 60, 0, 0, []), (28, 60, 0, 0, []), (29, 60, 0, 0, []), (32, 60, 0, 0, []), (34, 60, 0, 0, []), (35, 60, 0, 0, []), (36, 60, 0, 0, []), (39, 60, 0, 0, []), (41, 60, 0, 0, []), (44, 60, 0, 0, []), (45, 60, 0, 0, []), (48, 60, 0, 0, []), (49, 60, 0, 0, []), (50, 60, 0, 0, []), (53, 60, 0, 0, []), (55, 60, 0, 0, []), (56, 60, 0, 0, []), (57, 60, 0, 0, []), (58, 60, 0, 0, []), (59, 60, 0, 0, [])], { frames := 2, cells := 0, slots := 0, locals := 46 })
noncomputable def xm_232 : xM := (⟨"AcidCity", "ship", "(III)I"⟩, prog_1_method_55_code, 4, (some .int), [(0, 3, 1, 0, []), (1, 0, 2, 0, []), (2, 0, 9999, 0, []), (5, 33, 3, 19, [0, 0, 11356, 0, 11357, 0, 11358, 9217]), (8, 20, 0, 33, []), (11, 3, 2, 0, []), (12, 0, 0, 0, []), (13, 0, 9999, 0, []), (16, 33, 3, 19, [0, 0, 11356, 0, 11357, 0, 11358, 9217]), (19, 20, 0, 33, []), (22, 3, 3, 0, []), (23, 0, 1, 0, []), (24, 0, 999, 0, []), (27, 33, 3, 19, [0, 0, 11356, 0, 11357, 0, 11358, 9217]), (30, 20, 1, 36, []), (33, 0, 3294967295, 0, [11359]), (35, 35, 0, 0, []), (36, 3, 0, 1, []), (37, 25, 11, 2, [11305]), (40, 3, 1, 0, []), (41, 3, 2, 0, []), (42, 3, 3, 0, []), (43, 33, 4, 120, [5, 1, 15416, 0, 15417, 15418, 15419, 9223]), (46, 35, 0, 0, [])], { frames := 1, cells := 0, slots := 0, locals := 24 })
noncomputable def xm_233 : xM := (⟨"AcidCityModel", "ship", "(III)I"⟩, prog_14_method_140_code, 5, (some .int), [(0, 3, 1, 0, []), (1, 9, 0, 0, []), (2, 1, 2, 0, [17442]), (5, 1, 9999, 0, [16602]), (8, 33, 3, 3, [0, 0, 16486, 0, 16487, 0, 16488, 9230]), (11, 20, 0, 38, []), (14, 3, 2, 0, []), (15, 9, 0, 0, []), (16, 1, 0, 0, []), (17, 1, 9999, 0, [16602]), (20, 33, 3, 3, [0, 0, 16486, 0, 16487, 0, 16488, 9230]), (23, 20, 0, 38, []), (26, 3, 3, 0, []), (27, 9, 0, 0, []), (28, 1, 1, 0, []), (29, 1, 999, 0, [16485]), (32, 33, 3, 3, [0, 0, 16486, 0, 16487, 0, 16488, 9230]), (35, 20, 1, 41, []), (38, 0, 3294967295, 0, [16489]), (40, 35, 0, 0, []), (41, 3, 0, 1, []), (42, 25, 12, 0, [15576]), (45, 0, 10, 0, []), (47, 31, 100, 0, []), (48, 0, 6, 0, []), (50, 21, 1, 56, []), (53, 60, 0, 0, []), (55, 60, 0, 0, []), (56, 0, 4330, 0, []), (59, 0, 3, 0, []), (60, 3, 0, 1, []), (61, 25, 12, 0, [15576]), (64, 0, 10, 0, []), (66, 31, 100, 0, []), (67, 6, 2, 0, []), (68, 6, 0, 0, []), (69, 4, 4, 0, []), (71, 3, 0, 1, []), (72, 25, 12, 0, [15576]), (75, 3, 4, 0, []), (77, 3, 1, 0, []), (78, 32, 100, 0, []), (79, 3, 0, 1, []), (80, 25, 12, 0, [15576]), (83, 3, 4, 0, []), (85, 0, 1, 0, []), (86, 6, 0, 0, []), (87, 3, 2, 0, []), (88, 32, 100, 0, []), (89, 3, 0, 1, []), (90, 25, 12, 0, [15576]), (93, 3, 4, 0, []), (95, 0, 2, 0, []), (96, 6, 0, 0, []), (97, 3, 3, 0, []), (98, 32, 100, 0, []), (99, 3, 0, 1, []), (100, 25, 12, 0, [15576]), (103, 0, 10, 0, []), (105, 19, 0, 0, []), (106, 31, 100, 0, []), (107, 0, 1, 0, []), (108, 6, 0, 0, []), (109, 32, 100, 0, []), (110, 3, 0, 1, []), (111, 25, 12, 0, [15576]), (114, 0, 10, 0, []), (116, 31, 100, 0, []), (117, 0, 1, 0, []), (118, 6, 1, 0, []), (119, 35, 0, 0, [])], { frames := 1, cells := 0, slots := 0, locals := 25 })
noncomputable def xm_234 : xM := (⟨"AcidCity", "window", "(I)I"⟩, prog_1_method_56_code, 2, (some .int), [(0, 3, 1, 0, []), (1, 0, 0, 0, []), (2, 3, 0, 1, []), (3, 25, 11, 2, [11305]), (6, 25, 4, 8, [10339]), (9, 0, 1, 0, []), (10, 6, 1, 0, []), (11, 33, 3, 19, [0, 0, 11356, 0, 11357, 0, 11358, 9217]), (14, 20, 0, 32, []), (17, 60, 0, 0, []), (18, 60, 0, 0, []), (21, 60, 0, 0, []), (22, 60, 0, 0, []), (23, 60, 0, 0, []), (26, 60, 0, 0, []), (29, 60, 0, 0, []), (32, 0, 3294967295, 0, [11359]), (34, 35, 0, 0, [])], { frames := 1, cells := 0, slots := 0, locals := 22 })
noncomputable def xm_235 : xM := (⟨"AcidCityModel", "window", "(I)I"⟩, prog_14_method_141_code, 5, (some .int), [(0, 3, 1, 0, []), (1, 9, 0, 0, []), (2, 1, 0, 0, []), (3, 3, 0, 1, []), (4, 25, 12, 0, [15576]), (7, 0, 10, 0, []), (9, 31, 100, 0, []), (10, 0, 1, 0, []), (11, 6, 1, 0, []), (12, 9, 0, 0, []), (13, 33, 3, 3, [0, 0, 16486, 0, 16487, 0, 16488, 9230]), (16, 20, 1, 22, []), (19, 0, 3294967295, 0, [16489]), (21, 35, 0, 0, []), (22, 60, 0, 0, []), (23, 60, 0, 0, []), (26, 60, 0, 0, []), (29, 60, 0, 0, []), (30, 60, 0, 0, []), (31, 60, 0, 0, []), (32, 60, 0, 0, []), (33, 60, 0, 0, []), (34, 60, 0, 0, []), (35, 60, 0, 0, []), (36, 60, 0, 0, []), (37, 60, 0, 0, []), (38, 60, 0, 0, []), (41, 60, 0, 0, []), (44, 60, 0, 0, []), (45, 60, 0, 0, []), (48, 60, 0, 0, []), (49, 60, 0, 0, []), (50, 60, 0, 0, []), (51, 60, 0, 0, []), (52, 60, 0, 0, []), (53, 60, 0, 0, []), (56, 60, 0, 0, []), (59, 60, 0, 0, []), (60, 60, 0, 0, []), (61, 60, 0, 0, []), (62, 60, 0, 0, []), (63, 60, 0, 0, []), (64, 60, 0, 0, []), (65, 60, 0, 0, []), (66, 60, 0, 0, []), (67, 60, 0, 0, []), (68, 60, 0, 0, []), (69, 60, 0, 0, []), (71, 60, 0, 0, []), (73, 60, 0, 0, []), (75, 60, 0, 0, []), (78, 60, 0, 0, []), (79, 60, 0, 0, []), (82, 60, 0, 0, []), (83, 60, 0, 0, []), (84, 60, 0, 0, []), (86, 60, 0, 0, []), (88, 60, 0, 0, []), (89, 60, 0, 0, []), (92, 60, 0, 0, []), (95, 60, 0, 0, []), (96, 60, 0, 0, []), (97, 60, 0, 0, []), (98, 60, 0, 0, []), (99, 60, 0, 0, []), (100, 60, 0, 0, []), (101, 60, 0, 0, []), (102, 60, 0, 0, []), (105, 60, 0, 0, []), (106, 60, 0, 0, []), (107, 60, 0, 0, []), (110, 60, 0, 0, []), (111, 60, 0, 0, []), (112, 60, 0, 0, []), (113, 60, 0, 0, []), (114, 60, 0, 0, []), (117, 60, 0, 0, []), (120, 60, 0, 0, []), (121, 60, 0, 0, []), (124, 60, 0, 0, []), (125, 60, 0, 0, []), (126, 60, 0, 0, []), (127, 60, 0, 0, []), (128, 60, 0, 0, []), (129, 60, 0, 0, []), (132, 60, 0, 0, []), (135, 60, 0, 0, []), (137, 60, 0, 0, [])], { frames := 1, cells := 0, slots := 0, locals := 25 })
noncomputable def xm_236 : xM := (⟨"AcidCity", "lot", "(II)I"⟩, prog_1_method_57_code, 3, (some .int), [(0, 3, 1, 0, []), (1, 0, 1, 0, []), (2, 0, 9999, 0, []), (5, 33, 3, 19, [0, 0, 11356, 0, 11357, 0, 11358, 9217]), (8, 20, 0, 34, []), (11, 3, 2, 0, []), (12, 0, 0, 0, []), (13, 0, 999, 0, []), (16, 33, 3, 19, [0, 0, 11356, 0, 11357, 0, 11358, 9217]), (19, 20, 0, 34, []), (22, 3, 0, 1, []), (23, 25, 11, 2, [11305]), (26, 3, 1, 0, []), (27, 3, 2, 0, []), (28, 33, 3, 121, [5, 1, 15437, 0, 15438, 15439, 15440, 9223]), (31, 22, 0, 36, []), (34, 0, 3294967295, 0, [11359]), (36, 35, 0, 0, [])], { frames := 1, cells := 0, slots := 0, locals := 23 })
noncomputable def xm_237 : xM := (⟨"AcidCityModel", "lot", "(II)I"⟩, prog_14_method_142_code, 3, (some .int), [(0, 3, 1, 0, []), (1, 9, 0, 0, []), (2, 1, 1, 0, []), (3, 1, 9999, 0, [16602]), (6, 33, 3, 3, [0, 0, 16486, 0, 16487, 0, 16488, 9230]), (9, 20, 0, 24, []), (12, 3, 2, 0, []), (13, 9, 0, 0, []), (14, 1, 0, 0, []), (15, 1, 999, 0, [16485]), (18, 33, 3, 3, [0, 0, 16486, 0, 16487, 0, 16488, 9230]), (21, 20, 1, 27, []), (24, 0, 3294967295, 0, [16489]), (26, 35, 0, 0, []), (27, 3, 0, 1, []), (28, 25, 12, 0, [15576]), (31, 0, 11, 0, []), (33, 31, 100, 0, []), (34, 0, 10, 0, []), (36, 21, 1, 42, []), (39, 60, 0, 0, []), (41, 60, 0, 0, []), (42, 3, 0, 1, []), (43, 25, 12, 0, [15576]), (46, 0, 4350, 0, []), (49, 0, 2, 0, []), (50, 3, 0, 1, []), (51, 25, 12, 0, [15576]), (54, 0, 11, 0, []), (56, 31, 100, 0, []), (57, 6, 2, 0, []), (58, 6, 0, 0, []), (59, 3, 1, 0, []), (60, 32, 100, 0, []), (61, 3, 0, 1, []), (62, 25, 12, 0, [15576]), (65, 0, 4350, 0, []), (68, 0, 2, 0, []), (69, 3, 0, 1, []), (70, 25, 12, 0, [15576]), (73, 0, 11, 0, []), (75, 31, 100, 0, []), (76, 6, 2, 0, []), (77, 6, 0, 0, []), (78, 0, 1, 0, []), (79, 6, 0, 0, []), (80, 3, 2, 0, []), (81, 32, 100, 0, []), (82, 3, 0, 1, []), (83, 25, 12, 0, [15576]), (86, 0, 11, 0, []), (88, 19, 0, 0, []), (89, 31, 100, 0, []), (90, 0, 1, 0, []), (91, 6, 0, 0, []), (92, 32, 100, 0, []), (93, 3, 0, 1, []), (94, 25, 12, 0, [15576]), (97, 0, 11, 0, []), (99, 31, 100, 0, []), (100, 0, 1, 0, []), (101, 6, 1, 0, []), (102, 35, 0, 0, [])], { frames := 1, cells := 0, slots := 0, locals := 25 })
noncomputable def xm_238 : xM := (⟨"AcidCity", "cargo", "(I)I"⟩, prog_1_method_58_code, 2, (some .int), [(0, 3, 1, 0, []), (1, 0, 0, 0, []), (2, 0, 99999, 0, [15445]), (5, 33, 3, 19, [0, 0, 11356, 0, 11357, 0, 11358, 9217]), (8, 20, 0, 22, []), (11, 3, 0, 1, []), (12, 25, 11, 2, [11305]), (15, 3, 1, 0, []), (16, 33, 2, 122, [5, 1, 15446, 0, 15447, 15448, 15449, 9223]), (19, 22, 0, 24, []), (22, 0, 3294967295, 0, [11359]), (24, 35, 0, 0, [])], { frames := 1, cells := 0, slots := 0, locals := 28 })
noncomputable def xm_239 : xM := (⟨"AcidCityModel", "cargo", "(I)I"⟩, prog_14_method_143_code, 9, (some .int), [(0, 3, 1, 0, []), (1, 9, 0, 0, []), (2, 1, 0, 0, []), (3, 1, 99999, 0, [16607]), (6, 33, 3, 3, [0, 0, 16486, 0, 16487, 0, 16488, 9230]), (9, 20, 1, 15, []), (12, 0, 3294967295, 0, [16489]), (14, 35, 0, 0, []), (15, 0, 0, 0, []), (16, 4, 2, 0, []), (17, 0, 0, 0, []), (18, 4, 3, 0, []), (19, 0, 0, 0, []), (20, 4, 4, 0, []), (22, 0, 1, 0, []), (23, 4, 5, 0, []), (25, 3, 5, 0, []), (27, 0, 1, 0, []), (28, 3, 0, 1, []), (29, 25, 12, 0, [15576]), (32, 0, 11, 0, []), (34, 31, 100, 0, []), (35, 6, 6, 0, []), (36, 21, 3, 161, []), (39, 60, 0, 0, []), (40, 60, 0, 0, []), (42, 60, 0, 0, []), (43, 60, 0, 0, []), (45, 60, 0, 0, []), (46, 60, 0, 0, []), (48, 60, 0, 0, []), (50, 60, 0, 0, []), (51, 60, 0, 0, []), (54, 60, 0, 0, []), (56, 60, 0, 0, []), (57, 60, 0, 0, []), (60, 60, 0, 0, []), (62, 60, 0, 0, []), (64, 60, 0, 0, []), (66, 60, 0, 0, []), (67, 60, 0, 0, []), (68, 60, 0, 0, []), (69, 60, 0, 0, []), (70, 60, 0, 0, []), (73, 60, 0, 0, []), (76, 60, 0, 0, []), (77, 60, 0, 0, []), (79, 60, 0, 0, []), (80, 60, 0, 0, []), (81, 60, 0, 0, []), (82, 60, 0, 0, []), (83, 60, 0, 0, []), (84, 60, 0, 0, []), (86, 60, 0, 0, []), (88, 60, 0, 0, []), (90, 60, 0, 0, []), (92, 60, 0, 0, []), (93, 60, 0, 0, []), (94, 60, 0, 0, []), (95, 60, 0, 0, []), (96, 60, 0, 0, []), (99, 60, 0, 0, []), (102, 60, 0, 0, []), (103, 60, 0, 0, []), (105, 60, 0, 0, []), (106, 60, 0, 0, []), (107, 60, 0, 0, []), (108, 60, 0, 0, []), (109, 60, 0, 0, []), (110, 60, 0, 0, []), (111, 60, 0, 0, []), (112, 60, 0, 0, []), (114, 60, 0, 0, []), (117, 60, 0, 0, []), (120, 60, 0, 0, []), (122, 60, 0, 0, []), (123, 60, 0, 0, []), (126, 60, 0, 0, []), (128, 60, 0, 0, []), (129, 60, 0, 0, []), (132, 60, 0, 0, []), (134, 60, 0, 0, []), (135, 60, 0, 0, []), (138, 60, 0, 0, []), (140, 60, 0, 0, []), (142, 60, 0, 0, []), (145, 60, 0, 0, []), (147, 60, 0, 0, []), (148, 60, 0, 0, []), (150, 60, 0, 0, []), (151, 60, 0, 0, []), (153, 60, 0, 0, []), (155, 60, 0, 0, []), (158, 60, 0, 0, []), (161, 3, 2, 0, []), (162, 35, 0, 0, [])], { frames := 1, cells := 0, slots := 0, locals := 25 })
noncomputable def xm_240 : xM := (⟨"AcidCity", "build", "(III)I"⟩, prog_1_method_59_code, 4, (some .int), [(0, 3, 1, 0, []), (1, 0, 1, 0, []), (2, 0, 9, 0, []), (4, 33, 3, 19, [0, 0, 11356, 0, 11357, 0, 11358, 9217]), (7, 20, 0, 30, []), (10, 3, 2, 0, []), (11, 0, 1, 0, []), (12, 0, 99, 0, []), (14, 33, 3, 19, [0, 0, 11356, 0, 11357, 0, 11358, 9217]), (17, 20, 0, 30, []), (20, 3, 3, 0, []), (21, 0, 0, 0, []), (22, 0, 127, 0, []), (24, 33, 3, 19, [0, 0, 11356, 0, 11357, 0, 11358, 9217]), (27, 20, 1, 33, []), (30, 0, 3294967295, 0, [11359]), (32, 35, 0, 0, []), (33, 3, 0, 1, []), (34, 25, 11, 2, [11305]), (37, 3, 1, 0, []), (38, 3, 2, 0, []), (39, 3, 3, 0, []), (40, 33, 4, 123, [5, 1, 15458, 0, 15459, 15460, 15461, 9223]), (43, 35, 0, 0, [])], { frames := 1, cells := 0, slots := 0, locals := 24 })
noncomputable def xm_241 : xM := (⟨"AcidCityModel", "build", "(III)I"⟩, prog_14_method_144_code, 5, (some .int), [(0, 3, 1, 0, []), (1, 9, 0, 0, []), (2, 1, 1, 0, []), (3, 1, 9, 0, [16539]), (6, 33, 3, 3, [0, 0, 16486, 0, 16487, 0, 16488, 9230]), (9, 20, 0, 36, []), (12, 3, 2, 0, []), (13, 9, 0, 0, []), (14, 1, 1, 0, []), (15, 1, 99, 0, [16504]), (18, 33, 3, 3, [0, 0, 16486, 0, 16487, 0, 16488, 9230]), (21, 20, 0, 36, []), (24, 3, 3, 0, []), (25, 9, 0, 0, []), (26, 1, 0, 0, []), (27, 1, 127, 0, [18658]), (30, 33, 3, 3, [0, 0, 16486, 0, 16487, 0, 16488, 9230]), (33, 20, 1, 39, []), (36, 0, 3294967295, 0, [16489]), (38, 35, 0, 0, []), (39, 3, 0, 1, []), (40, 25, 12, 0, [15576]), (43, 0, 12, 0, []), (45, 31, 100, 0, []), (46, 0, 7, 0, []), (48, 21, 1, 54, []), (51, 60, 0, 0, []), (53, 60, 0, 0, []), (54, 0, 4370, 0, []), (57, 0, 3, 0, []), (58, 3, 0, 1, []), (59, 25, 12, 0, [15576]), (62, 0, 12, 0, []), (64, 31, 100, 0, []), (65, 6, 2, 0, []), (66, 6, 0, 0, []), (67, 4, 4, 0, []), (69, 3, 0, 1, []), (70, 25, 12, 0, [15576]), (73, 3, 4, 0, []), (75, 3, 1, 0, []), (76, 32, 100, 0, []), (77, 3, 0, 1, []), (78, 25, 12, 0, [15576]), (81, 3, 4, 0, []), (83, 0, 1, 0, []), (84, 6, 0, 0, []), (85, 3, 2, 0, []), (86, 32, 100, 0, []), (87, 3, 0, 1, []), (88, 25, 12, 0, [15576]), (91, 3, 4, 0, []), (93, 0, 2, 0, []), (94, 6, 0, 0, []), (95, 3, 3, 0, []), (96, 32, 100, 0, []), (97, 3, 0, 1, []), (98, 25, 12, 0, [15576]), (101, 0, 12, 0, []), (103, 19, 0, 0, []), (104, 31, 100, 0, []), (105, 0, 1, 0, []), (106, 6, 0, 0, []), (107, 32, 100, 0, []), (108, 3, 0, 1, []), (109, 25, 12, 0, [15576]), (112, 0, 12, 0, []), (114, 31, 100, 0, []), (115, 0, 1, 0, []), (116, 6, 1, 0, []), (117, 35, 0, 0, [])], { frames := 1, cells := 0, slots := 0, locals := 25 })
noncomputable def xm_242 : xM := (⟨"AcidCity", "plan", "(II)I"⟩, prog_1_method_60_code, 3, (some .int), [(0, 3, 1, 0, []), (1, 0, 1, 0, []), (2, 0, 60, 0, []), (4, 33, 3, 19, [0, 0, 11356, 0, 11357, 0, 11358, 9217]), (7, 20, 0, 21, []), (10, 3, 2, 0, []), (11, 0, 1, 0, []), (12, 0, 20000, 0, []), (15, 33, 3, 19, [0, 0, 11356, 0, 11357, 0, 11358, 9217]), (18, 20, 1, 24, []), (21, 0, 3294967295, 0, [11359]), (23, 35, 0, 0, []), (24, 3, 0, 1, []), (25, 25, 11, 12, [11315]), (28, 3, 0, 1, []), (29, 25, 11, 2, [11305]), (32, 3, 1, 0, []), (33, 3, 2, 0, []), (34, 33, 4, 60, [7, 1, 15466, 0, 15467, 15468, 15469, 9229]), (37, 35, 0, 0, [])], { frames := 5, cells := 0, slots := 0, locals := 157 })
noncomputable def xm_243 : xM := (⟨"AcidCityModel", "plan", "(II)I"⟩, prog_14_method_148_code, 3, (some .int), [(0, 3, 1, 0, []), (1, 33, 1, 54, [0, 0, 18663, 0, 18664, 0, 18665, 9230]), (4, 20, 0, 28, []), (7, 3, 2, 0, []), (8, 9, 0, 0, []), (9, 1, 1, 0, []), (10, 1, 20000, 0, [18666]), (13, 33, 3, 3, [0, 0, 16486, 0, 16487, 0, 16488, 9230]), (16, 20, 0, 28, []), (19, 3, 0, 1, []), (20, 3, 1, 0, []), (21, 3, 2, 0, []), (22, 33, 3, 43, [13, 1, 18667, 0, 18669, 8194, 18670, 9230]), (25, 22, 0, 30, []), (28, 0, 3294967295, 0, [16489]), (30, 35, 0, 0, [])], { frames := 2, cells := 0, slots := 0, locals := 50 })
noncomputable def xm_244 : xM := (⟨"AcidCity", "planned", "(II)I"⟩, prog_1_method_61_code, 4, (some .int), [(0, 3, 1, 0, []), (1, 0, 1, 0, []), (2, 0, 60, 0, []), (4, 33, 3, 19, [0, 0, 11356, 0, 11357, 0, 11358, 9217]), (7, 20, 0, 14, []), (10, 3, 2, 0, []), (11, 20, 3, 17, []), (14, 0, 3294967295, 0, [11359]), (16, 35, 0, 0, []), (17, 3, 0, 1, []), (18, 25, 11, 12, [11315]), (21, 3, 0, 1, []), (22, 25, 11, 2, [11305]), (25, 3, 1, 0, []), (26, 0, 20000, 0, []), (29, 33, 4, 60, [7, 1, 15466, 0, 15467, 15468, 15469, 9229]), (32, 4, 3, 0, []), (33, 3, 3, 0, []), (34, 20, 3, 39, []), (37, 60, 0, 0, []), (38, 60, 0, 0, []), (39, 3, 2, 0, []), (40, 3, 0, 1, []), (41, 25, 11, 2, [11305]), (44, 25, 4, 15, [10353]), (47, 21, 3, 62, []), (50, 60, 0, 0, []), (51, 60, 0, 0, []), (54, 60, 0, 0, []), (57, 60, 0, 0, []), (58, 60, 0, 0, []), (59, 60, 0, 0, []), (62, 0, 3294967291, 0, [13549]), (65, 35, 0, 0, [])], { frames := 5, cells := 0, slots := 0, locals := 157 })
noncomputable def xm_245 : xM := (⟨"AcidCityModel", "planned", "(II)I"⟩, prog_14_method_149_code, 4, (some .int), [(0, 3, 1, 0, []), (1, 33, 1, 54, [0, 0, 18663, 0, 18664, 0, 18665, 9230]), (4, 20, 0, 11, []), (7, 3, 2, 0, []), (8, 20, 3, 14, []), (11, 0, 3294967295, 0, [16489]), (13, 35, 0, 0, []), (14, 3, 0, 1, []), (15, 3, 1, 0, []), (16, 0, 20000, 0, []), (19, 33, 3, 43, [13, 1, 18667, 0, 18669, 8194, 18670, 9230]), (22, 4, 3, 0, []), (23, 3, 3, 0, []), (24, 20, 3, 31, []), (27, 60, 0, 0, []), (28, 60, 0, 0, []), (31, 3, 2, 0, []), (32, 3, 0, 1, []), (33, 25, 12, 0, [15576]), (36, 0, 12, 0, []), (38, 31, 100, 0, []), (39, 21, 3, 51, []), (42, 60, 0, 0, []), (43, 60, 0, 0, []), (46, 60, 0, 0, []), (47, 60, 0, 0, []), (48, 60, 0, 0, []), (51, 0, 3294967291, 0, [17408]), (53, 35, 0, 0, [])], { frames := 2, cells := 0, slots := 0, locals := 50 })
noncomputable def xm_246 : xM := (⟨"AcidCity", "tell", "(I)I"⟩, prog_1_method_62_code, 2, (some .int), [(0, 3, 0, 1, []), (1, 25, 11, 14, [11317]), (4, 0, 60, 0, []), (6, 21, 2, 12, []), (9, 60, 0, 0, []), (11, 60, 0, 0, []), (12, 3, 0, 1, []), (13, 25, 11, 13, [11316]), (16, 3, 0, 1, []), (17, 25, 11, 14, [11317]), (20, 3, 1, 0, []), (21, 32, 100, 0, []), (22, 3, 0, 1, []), (23, 15, 0, 0, []), (24, 25, 11, 14, [11317]), (27, 0, 1, 0, []), (28, 6, 0, 0, []), (29, 26, 11, 14, [0, 11317]), (32, 3, 0, 1, []), (33, 25, 11, 14, [11317]), (36, 35, 0, 0, [])], { frames := 0, cells := 0, slots := 0, locals := 0 })
noncomputable def xm_247 : xM := (⟨"AcidCityModel", "tell", "(I)I"⟩, prog_14_method_150_code, 2, (some .int), [(0, 3, 0, 1, []), (1, 25, 12, 37, [16397]), (4, 0, 60, 0, []), (6, 21, 1, 12, []), (9, 60, 0, 0, []), (11, 60, 0, 0, []), (12, 3, 0, 1, []), (13, 25, 12, 36, [16396]), (16, 3, 0, 1, []), (17, 25, 12, 37, [16397]), (20, 3, 1, 0, []), (21, 32, 100, 0, []), (22, 3, 0, 1, []), (23, 15, 0, 0, []), (24, 25, 12, 37, [16397]), (27, 0, 1, 0, []), (28, 6, 0, 0, []), (29, 26, 12, 37, [0, 16397]), (32, 3, 0, 1, []), (33, 25, 12, 37, [16397]), (36, 35, 0, 0, [])], { frames := 0, cells := 0, slots := 0, locals := 0 })
noncomputable def xm_248 : xM := (⟨"AcidCity", "keep", "()I"⟩, prog_1_method_68_code, 1, (some .int), [(0, 3, 0, 1, []), (1, 25, 11, 3, [11306]), (4, 3, 0, 1, []), (5, 25, 11, 0, [11303]), (8, 33, 2, 127, [3, 1, 15510, 0, 15511, 15512, 15513, 9218]), (11, 3, 0, 1, []), (12, 25, 11, 4, [11307]), (15, 3, 0, 1, []), (16, 25, 11, 1, [11304]), (19, 33, 2, 128, [2, 1, 15542, 0, 15543, 15544, 15545, 9222]), (22, 3, 0, 1, []), (23, 25, 11, 5, [11308]), (26, 3, 0, 1, []), (27, 25, 11, 2, [11305]), (30, 33, 2, 129, [5, 1, 15547, 0, 15548, 15549, 15550, 9223]), (33, 3, 0, 1, []), (34, 0, 1, 0, []), (35, 26, 11, 6, [3, 11309]), (38, 3, 0, 1, []), (39, 25, 11, 0, [11303]), (42, 25, 2, 9, [9448]), (45, 35, 0, 0, [])], { frames := 5, cells := 0, slots := 0, locals := 150 })
noncomputable def xm_249 : xM := (⟨"AcidCityModel", "keep", "()I"⟩, prog_14_method_157_code, 2, (some .int), [(0, 3, 0, 1, []), (1, 0, 1, 0, []), (2, 26, 12, 3, [3, 15579]), (5, 0, 0, 0, []), (6, 4, 1, 0, []), (7, 3, 1, 0, []), (8, 0, 4900, 0, []), (11, 21, 3, 32, []), (14, 3, 0, 1, []), (15, 25, 12, 1, [15577]), (18, 3, 1, 0, []), (19, 3, 0, 1, []), (20, 25, 12, 0, [15576]), (23, 3, 1, 0, []), (24, 31, 100, 0, []), (25, 32, 100, 0, []), (26, 5, 1, 1, []), (29, 22, 0, 7, []), (32, 3, 0, 1, []), (33, 25, 12, 0, [15576]), (36, 0, 0, 0, []), (37, 31, 100, 0, []), (38, 35, 0, 0, [])], { frames := 0, cells := 0, slots := 0, locals := 0 })
noncomputable def xm_250 : xM := (⟨"AcidCity", "back", "()I"⟩, prog_1_method_69_code, 1, (some .int), [(0, 3, 0, 1, []), (1, 25, 11, 6, [11309]), (4, 20, 1, 10, []), (7, 0, 3294967294, 0, [11464]), (9, 35, 0, 0, []), (10, 60, 0, 0, []), (11, 60, 0, 0, []), (14, 60, 0, 0, []), (15, 60, 0, 0, []), (18, 60, 0, 0, []), (21, 60, 0, 0, []), (22, 60, 0, 0, []), (25, 60, 0, 0, []), (26, 60, 0, 0, []), (29, 60, 0, 0, []), (32, 60, 0, 0, []), (33, 60, 0, 0, []), (36, 60, 0, 0, []), (37, 60, 0, 0, []), (40, 60, 0, 0, []), (43, 60, 0, 0, []), (44, 60, 0, 0, []), (47, 60, 0, 0, []), (50, 60, 0, 0, [])], { frames := 0, cells := 0, slots := 0, locals := 0 })
noncomputable def xm_251 : xM := (⟨"AcidCityModel", "back", "()I"⟩, prog_14_method_158_code, 2, (some .int), [(0, 3, 0, 1, []), (1, 25, 12, 3, [15579]), (4, 20, 1, 10, []), (7, 0, 3294967294, 0, [16587]), (9, 35, 0, 0, []), (10, 60, 0, 0, []), (11, 60, 0, 0, []), (12, 60, 0, 0, []), (13, 60, 0, 0, []), (16, 60, 0, 0, []), (19, 60, 0, 0, []), (20, 60, 0, 0, []), (23, 60, 0, 0, []), (24, 60, 0, 0, []), (25, 60, 0, 0, []), (28, 60, 0, 0, []), (29, 60, 0, 0, []), (30, 60, 0, 0, []), (31, 60, 0, 0, []), (34, 60, 0, 0, []), (37, 60, 0, 0, []), (38, 60, 0, 0, []), (41, 60, 0, 0, []), (42, 60, 0, 0, []), (43, 60, 0, 0, [])], { frames := 0, cells := 0, slots := 0, locals := 0 })
noncomputable def xm_252 : xM := (⟨"AcidCity", "count", "(I)I"⟩, prog_1_method_70_code, 2, (some .int), [(0, 3, 1, 0, []), (1, 24, 2147483648, 243, [76, 87, 98, 109, 120, 131, 153, 161, 176, 184, 192, 200, 211, 216, 224]), (76, 3, 0, 1, []), (77, 25, 11, 0, [11303]), (80, 25, 2, 0, [9426]), (83, 25, 0, 5, [9276]), (86, 35, 0, 0, []), (87, 3, 0, 1, []), (88, 25, 11, 0, [11303]), (91, 25, 2, 0, [9426]), (94, 25, 0, 10, [9284]), (97, 35, 0, 0, []), (98, 3, 0, 1, []), (99, 25, 11, 0, [11303]), (102, 25, 2, 1, [9429]), (105, 25, 10, 13, [9361]), (108, 35, 0, 0, []), (109, 3, 0, 1, []), (110, 25, 11, 0, [11303]), (113, 25, 2, 1, [9429]), (116, 33, 1, 131, [11, 1, 15561, 0, 15562, 15563, 15564, 9220]), (119, 35, 0, 0, []), (120, 3, 0, 1, []), (121, 25, 11, 0, [11303]), (124, 25, 2, 2, [9433]), (127, 25, 7, 4, [9412]), (130, 35, 0, 0, []), (131, 3, 0, 1, []), (132, 25, 11, 0, [11303]), (135, 25, 2, 2, [9433]), (138, 25, 7, 4, [9412]), (141, 3, 0, 1, []), (142, 25, 11, 0, [11303]), (145, 25, 2, 2, [9433]), (148, 33, 1, 20, [8, 1, 15565, 0, 12375, 12376, 12377, 9221]), (151, 6, 1, 0, []), (152, 35, 0, 0, []), (153, 3, 0, 1, []), (154, 25, 11, 1, [11304]), (157, 25, 1, 6, [10273]), (160, 35, 0, 0, []), (161, 3, 0, 1, []), (162, 25, 11, 1, [11304]), (165, 3, 0, 1, []), (166, 25, 11, 0, [11303]), (169, 33, 1, 70, [3, 1, 14386, 0, 11438, 11439, 11440, 9218]), (172, 33, 2, 130, [2, 1, 15566, 0, 15567, 15568, 15569, 9222]), (175, 35, 0, 0, []), (176, 3, 0, 1, []), (177, 25, 11, 2, [11305]), (180, 25, 4, 8, [10339]), (183, 35, 0, 0, []), (184, 3, 0, 1, []), (185, 25, 11, 2, [11305]), (188, 25, 4, 11, [10343]), (191, 35, 0, 0, []), (192, 3, 0, 1, []), (193, 25, 11, 2, [11305]), (196, 25, 4, 15, [10353]), (199, 35, 0, 0, []), (200, 3, 0, 1, []), (201, 25, 11, 0, [11303]), (204, 25, 2, 0, [9426]), (207, 25, 0, 12, [9287]), (210, 35, 0, 0, []), (211, 3, 0, 1, []), (212, 25, 11, 14, [11317]), (215, 35, 0, 0, []), (216, 3, 0, 1, []), (217, 25, 11, 8, [11311]), (220, 25, 9, 1, [10395]), (223, 35, 0, 0, []), (224, 3, 0, 1, []), (225, 25, 11, 1, [11304]), (228, 25, 1, 7, [10275]), (231, 0, 3294967291, 0, [13549]), (234, 21, 1, 241, []), (237, 0, 0, 0, []), (238, 22, 0, 242, []), (241, 60, 0, 0, []), (242, 35, 0, 0, []), (243, 0, 3294967295, 0, [11359]), (245, 35, 0, 0, [])], { frames := 1, cells := 0, slots := 0, locals := 23 })
noncomputable def xm_253 : xM := (⟨"AcidCityModel", "count", "(I)I"⟩, prog_14_method_159_code, 4, (some .int), [(0, 0, 0, 0, []), (1, 4, 2, 0, []), (2, 3, 1, 0, []), (3, 24, 2147483648, 284, [76, 83, 91, 99, 136, 144, 181, 189, 226, 234, 242, 250, 258, 263, 268]), (76, 3, 0, 1, []), (77, 25, 12, 0, [15576]), (80, 0, 5, 0, []), (81, 31, 100, 0, []), (82, 35, 0, 0, []), (83, 3, 0, 1, []), (84, 25, 12, 0, [15576]), (87, 0, 6, 0, []), (89, 31, 100, 0, []), (90, 35, 0, 0, []), (91, 3, 0, 1, []), (92, 25, 12, 0, [15576]), (95, 0, 7, 0, []), (97, 31, 100, 0, []), (98, 35, 0, 0, []), (99, 0, 0, 0, []), (100, 4, 3, 0, []), (101, 3, 3, 0, []), (102, 3, 0, 1, []), (103, 25, 12, 0, [15576]), (106, 0, 7, 0, []), (108, 31, 100, 0, []), (109, 21, 3, 134, []), (112, 60, 0, 0, []), (113, 60, 0, 0, []), (114, 60, 0, 0, []), (115, 60, 0, 0, []), (118, 60, 0, 0, []), (121, 60, 0, 0, []), (122, 60, 0, 0, []), (125, 60, 0, 0, []), (126, 60, 0, 0, []), (127, 60, 0, 0, []), (128, 60, 0, 0, []), (131, 60, 0, 0, []), (134, 3, 2, 0, []), (135, 35, 0, 0, []), (136, 3, 0, 1, []), (137, 25, 12, 0, [15576]), (140, 0, 8, 0, []), (142, 31, 100, 0, []), (143, 35, 0, 0, []), (144, 0, 0, 0, []), (145, 4, 3, 0, []), (146, 3, 3, 0, []), (147, 3, 0, 1, []), (148, 25, 12, 0, [15576]), (151, 0, 8, 0, []), (153, 31, 100, 0, []), (154, 21, 3, 179, []), (157, 60, 0, 0, []), (158, 60, 0, 0, []), (159, 60, 0, 0, []), (160, 60, 0, 0, []), (163, 60, 0, 0, []), (166, 60, 0, 0, []), (167, 60, 0, 0, []), (170, 60, 0, 0, []), (171, 60, 0, 0, []), (172, 60, 0, 0, []), (173, 60, 0, 0, []), (176, 60, 0, 0, []), (179, 3, 2, 0, []), (180, 35, 0, 0, []), (181, 3, 0, 1, []), (182, 25, 12, 0, [15576]), (185, 0, 9, 0, []), (187, 31, 100, 0, []), (188, 35, 0, 0, []), (189, 0, 0, 0, []), (190, 4, 3, 0, []), (191, 3, 3, 0, []), (192, 3, 0, 1, []), (193, 25, 12, 0, [15576]), (196, 0, 9, 0, []), (198, 31, 100, 0, []), (199, 21, 3, 224, []), (202, 60, 0, 0, []), (203, 60, 0, 0, []), (204, 60, 0, 0, []), (205, 60, 0, 0, []), (208, 60, 0, 0, []), (211, 60, 0, 0, []), (212, 60, 0, 0, []), (215, 60, 0, 0, []), (216, 60, 0, 0, []), (217, 60, 0, 0, []), (218, 60, 0, 0, []), (221, 60, 0, 0, []), (224, 3, 2, 0, []), (225, 35, 0, 0, []), (226, 3, 0, 1, []), (227, 25, 12, 0, [15576]), (230, 0, 10, 0, []), (232, 31, 100, 0, []), (233, 35, 0, 0, []), (234, 3, 0, 1, []), (235, 25, 12, 0, [15576]), (238, 0, 11, 0, []), (240, 31, 100, 0, []), (241, 35, 0, 0, []), (242, 3, 0, 1, []), (243, 25, 12, 0, [15576]), (246, 0, 12, 0, []), (248, 31, 100, 0, []), (249, 35, 0, 0, []), (250, 3, 0, 1, []), (251, 25, 12, 0, [15576]), (254, 0, 13, 0, []), (256, 31, 100, 0, []), (257, 35, 0, 0, []), (258, 3, 0, 1, []), (259, 25, 12, 37, [16397]), (262, 35, 0, 0, []), (263, 3, 0, 1, []), (264, 25, 12, 8, [15584]), (267, 35, 0, 0, []), (268, 3, 0, 1, []), (269, 25, 12, 0, [15576]), (272, 0, 14, 0, []), (274, 31, 100, 0, []), (275, 20, 3, 282, []), (278, 0, 0, 0, []), (279, 22, 0, 283, []), (282, 60, 0, 0, []), (283, 35, 0, 0, []), (284, 0, 3294967295, 0, [16489]), (286, 35, 0, 0, [])], { frames := 0, cells := 0, slots := 0, locals := 0 })
noncomputable def xm_254 : xM := (⟨"AcidCity", "text", "()I"⟩, prog_1_method_28_code, 2, (some .int), [(0, 3, 0, 1, []), (1, 25, 11, 8, [11311]), (4, 33, 1, 88, [10, 1, 13364, 0, 13365, 13366, 13367, 9225]), (7, 4, 1, 0, []), (8, 3, 0, 1, []), (9, 25, 11, 8, [11311]), (12, 0, 0, 0, []), (13, 26, 9, 1, [0, 10395]), (16, 3, 1, 0, []), (17, 0, 3294967291, 0, [13549]), (20, 21, 0, 30, []), (23, 0, 4294967196, 0, []), (25, 3, 1, 0, []), (26, 6, 1, 0, []), (27, 22, 0, 41, []), (30, 60, 0, 0, []), (31, 60, 0, 0, []), (34, 60, 0, 0, []), (35, 60, 0, 0, []), (38, 60, 0, 0, []), (41, 35, 0, 0, [])], { frames := 5, cells := 0, slots := 0, locals := 112 })
noncomputable def xm_255 : xM := (⟨"AcidCityModel", "text", "()I"⟩, prog_14_method_86_code, 3, (some .int), [(0, 3, 0, 1, []), (1, 33, 1, 92, [13, 1, 17593, 0, 17595, 6147, 17596, 9230]), (4, 4, 1, 0, []), (5, 3, 1, 0, []), (6, 20, 3, 17, []), (9, 0, 4294967196, 0, []), (11, 3, 0, 1, []), (12, 25, 12, 9, [15585]), (15, 6, 1, 0, []), (16, 35, 0, 0, []), (17, 60, 0, 0, []), (18, 60, 0, 0, []), (21, 60, 0, 0, []), (23, 60, 0, 0, []), (24, 60, 0, 0, []), (26, 60, 0, 0, []), (29, 60, 0, 0, []), (31, 60, 0, 0, []), (32, 60, 0, 0, []), (33, 60, 0, 0, []), (34, 60, 0, 0, []), (37, 60, 0, 0, []), (39, 60, 0, 0, []), (40, 60, 0, 0, []), (43, 60, 0, 0, []), (44, 60, 0, 0, []), (45, 60, 0, 0, []), (48, 60, 0, 0, []), (49, 60, 0, 0, []), (50, 60, 0, 0, []), (51, 60, 0, 0, []), (52, 60, 0, 0, []), (53, 60, 0, 0, []), (54, 60, 0, 0, []), (57, 60, 0, 0, []), (58, 60, 0, 0, []), (59, 60, 0, 0, []), (60, 60, 0, 0, []), (61, 60, 0, 0, []), (62, 60, 0, 0, []), (63, 60, 0, 0, []), (66, 60, 0, 0, []), (67, 60, 0, 0, []), (68, 60, 0, 0, []), (69, 60, 0, 0, []), (70, 60, 0, 0, []), (71, 60, 0, 0, []), (72, 60, 0, 0, []), (75, 60, 0, 0, []), (76, 60, 0, 0, []), (77, 60, 0, 0, []), (78, 60, 0, 0, []), (79, 60, 0, 0, []), (82, 60, 0, 0, []), (83, 60, 0, 0, []), (84, 60, 0, 0, []), (87, 60, 0, 0, []), (88, 60, 0, 0, []), (89, 60, 0, 0, []), (90, 60, 0, 0, []), (91, 60, 0, 0, []), (94, 60, 0, 0, []), (95, 60, 0, 0, []), (96, 60, 0, 0, []), (99, 60, 0, 0, []), (101, 60, 0, 0, []), (102, 60, 0, 0, []), (103, 60, 0, 0, []), (104, 60, 0, 0, []), (105, 60, 0, 0, []), (106, 60, 0, 0, []), (107, 60, 0, 0, []), (110, 60, 0, 0, []), (112, 60, 0, 0, []), (113, 60, 0, 0, []), (114, 60, 0, 0, []), (115, 60, 0, 0, [])], { frames := 3, cells := 0, slots := 0, locals := 69 })
noncomputable def xm_256 : xM := (⟨"AcidCity", "dark", "(II)I"⟩, prog_1_method_52_code, 3, (some .int), [(0, 3, 1, 0, []), (1, 0, 1, 0, []), (2, 0, 24, 0, []), (4, 33, 3, 19, [0, 0, 11356, 0, 11357, 0, 11358, 9217]), (7, 20, 0, 21, []), (10, 3, 2, 0, []), (11, 0, 0, 0, []), (12, 0, 300, 0, []), (15, 33, 3, 19, [0, 0, 11356, 0, 11357, 0, 11358, 9217]), (18, 20, 1, 24, []), (21, 0, 3294967295, 0, [11359]), (23, 35, 0, 0, []), (24, 3, 0, 1, []), (25, 25, 11, 11, [11314]), (28, 3, 0, 1, []), (29, 25, 11, 2, [11305]), (32, 3, 1, 0, []), (33, 3, 2, 0, []), (34, 33, 4, 31, [4, 1, 15390, 0, 15391, 15392, 15393, 9228]), (37, 35, 0, 0, [])], { frames := 2, cells := 0, slots := 0, locals := 54 })
noncomputable def xm_257 : xM := (⟨"AcidCityModel", "dark", "(II)I"⟩, prog_14_method_137_code, 4, (some .int), [(0, 3, 1, 0, []), (1, 3, 2, 0, []), (2, 33, 2, 9, [0, 0, 18612, 0, 18613, 0, 18614, 9230]), (5, 20, 1, 11, []), (8, 0, 3294967295, 0, [16489]), (10, 35, 0, 0, []), (11, 3, 0, 1, []), (12, 3, 1, 0, []), (13, 3, 2, 0, []), (14, 33, 3, 5, [13, 1, 18617, 0, 18619, 7183, 18620, 9230]), (17, 4, 3, 0, []), (18, 3, 3, 0, []), (19, 0, 1000000, 0, [18621]), (22, 21, 1, 30, []), (25, 60, 0, 0, []), (27, 60, 0, 0, []), (30, 3, 3, 0, []), (31, 35, 0, 0, [])], { frames := 3, cells := 0, slots := 0, locals := 71 })
noncomputable def xm_258 : xM := (⟨"AcidCity", "load", "(III)I"⟩, prog_1_method_53_code, 4, (some .int), [(0, 3, 1, 0, []), (1, 0, 1, 0, []), (2, 0, 24, 0, []), (4, 33, 3, 19, [0, 0, 11356, 0, 11357, 0, 11358, 9217]), (7, 20, 0, 32, []), (10, 3, 2, 0, []), (11, 0, 0, 0, []), (12, 0, 300, 0, []), (15, 33, 3, 19, [0, 0, 11356, 0, 11357, 0, 11358, 9217]), (18, 20, 0, 32, []), (21, 3, 3, 0, []), (22, 0, 0, 0, []), (23, 3, 1, 0, []), (24, 0, 1, 0, []), (25, 6, 1, 0, []), (26, 33, 3, 19, [0, 0, 11356, 0, 11357, 0, 11358, 9217]), (29, 20, 1, 35, []), (32, 0, 3294967295, 0, [11359]), (34, 35, 0, 0, []), (35, 3, 0, 1, []), (36, 25, 11, 11, [11314]), (39, 3, 0, 1, []), (40, 25, 11, 2, [11305]), (43, 3, 1, 0, []), (44, 3, 2, 0, []), (45, 33, 4, 31, [4, 1, 15390, 0, 15391, 15392, 15393, 9228]), (48, 0, 3294967291, 0, [13549]), (51, 21, 1, 60, []), (54, 60, 0, 0, []), (57, 60, 0, 0, []), (60, 3, 0, 1, []), (61, 25, 11, 11, [11314]), (64, 3, 2, 0, []), (65, 3, 3, 0, []), (66, 33, 3, 30, [4, 1, 15403, 0, 15404, 15405, 15406, 9228]), (69, 35, 0, 0, [])], { frames := 2, cells := 0, slots := 0, locals := 54 })
noncomputable def xm_259 : xM := (⟨"AcidCityModel", "load", "(III)I"⟩, prog_14_method_138_code, 6, (some .int), [(0, 3, 1, 0, []), (1, 3, 2, 0, []), (2, 33, 2, 9, [0, 0, 18612, 0, 18613, 0, 18614, 9230]), (5, 20, 0, 21, []), (8, 3, 3, 0, []), (9, 9, 0, 0, []), (10, 1, 0, 0, []), (11, 3, 1, 0, []), (12, 0, 1, 0, []), (13, 6, 1, 0, []), (14, 9, 0, 0, []), (15, 33, 3, 3, [0, 0, 16486, 0, 16487, 0, 16488, 9230]), (18, 20, 1, 24, []), (21, 0, 3294967295, 0, [16489]), (23, 35, 0, 0, []), (24, 3, 0, 1, []), (25, 3, 1, 0, []), (26, 3, 2, 0, []), (27, 33, 3, 5, [13, 1, 18617, 0, 18619, 7183, 18620, 9230]), (30, 0, 1000000, 0, [18621]), (33, 21, 1, 39, []), (36, 60, 0, 0, []), (38, 60, 0, 0, []), (39, 3, 2, 0, []), (40, 4, 4, 0, []), (42, 0, 0, 0, []), (43, 4, 5, 0, []), (45, 3, 5, 0, []), (47, 3, 3, 0, []), (48, 21, 3, 79, []), (51, 3, 4, 0, []), (53, 3, 0, 1, []), (54, 25, 12, 0, [15576]), (57, 0, 4560, 0, []), (60, 3, 0, 1, []), (61, 3, 5, 0, []), (63, 3, 4, 0, []), (65, 33, 3, 2, [13, 1, 18630, 0, 18632, 8193, 18633, 9230]), (68, 6, 0, 0, []), (69, 31, 100, 0, []), (70, 6, 1, 0, []), (71, 4, 4, 0, []), (73, 5, 5, 1, []), (76, 22, 0, 45, []), (79, 3, 0, 1, []), (80, 3, 3, 0, []), (81, 3, 4, 0, []), (83, 33, 3, 2, [13, 1, 18630, 0, 18632, 8193, 18633, 9230]), (86, 35, 0, 0, [])], { frames := 3, cells := 0, slots := 0, locals := 71 })
noncomputable def xm_260 : xM := (⟨"AcidCity", "check", "(III)I"⟩, prog_1_method_63_code, 5, (some .int), [(0, 3, 0, 1, []), (1, 25, 11, 14, [11317]), (4, 4, 4, 0, []), (6, 3, 0, 1, []), (7, 0, 0, 0, []), (8, 26, 11, 14, [0, 11317]), (11, 3, 1, 0, []), (12, 24, 2147483648, 121, [40, 75, 98]), (40, 3, 2, 0, []), (41, 0, 1, 0, []), (42, 0, 24, 0, []), (44, 33, 3, 19, [0, 0, 11356, 0, 11357, 0, 11358, 9217]), (47, 20, 0, 72, []), (50, 3, 3, 0, []), (51, 0, 0, 0, []), (52, 0, 300, 0, []), (55, 33, 3, 19, [0, 0, 11356, 0, 11357, 0, 11358, 9217]), (58, 20, 0, 72, []), (61, 3, 0, 1, []), (62, 3, 2, 0, []), (63, 3, 3, 0, []), (64, 3, 4, 0, []), (66, 33, 4, 95, [12, 1, 15494, 0, 15496, 3073, 15497, 9217]), (69, 22, 0, 74, []), (72, 0, 3294967295, 0, [11359]), (74, 35, 0, 0, []), (75, 3, 2, 0, []), (76, 0, 1, 0, []), (77, 0, 60, 0, []), (79, 33, 3, 19, [0, 0, 11356, 0, 11357, 0, 11358, 9217]), (82, 20, 0, 95, []), (85, 3, 0, 1, []), (86, 3, 2, 0, []), (87, 3, 4, 0, []), (89, 33, 3, 94, [12, 1, 15502, 0, 15504, 3075, 15505, 9217]), (92, 22, 0, 97, []), (95, 0, 3294967295, 0, [11359]), (97, 35, 0, 0, []), (98, 3, 2, 0, []), (99, 0, 1, 0, []), (100, 0, 24, 0, []), (102, 33, 3, 19, [0, 0, 11356, 0, 11357, 0, 11358, 9217]), (105, 20, 0, 118, []), (108, 3, 0, 1, []), (109, 3, 2, 0, []), (110, 3, 4, 0, []), (112, 33, 3, 93, [12, 1, 15506, 0, 15508, 3076, 15509, 9217]), (115, 22, 0, 120, []), (118, 0, 3294967295, 0, [11359]), (120, 35, 0, 0, []), (121, 0, 3294967295, 0, [11359]), (123, 35, 0, 0, [])], { frames := 6, cells := 0, slots := 0, locals := 182 })
noncomputable def xm_261 : xM := (⟨"AcidCityModel", "check", "(III)I"⟩, prog_14_method_156_code, 7, (some .int), [(0, 3, 0, 1, []), (1, 25, 12, 37, [16397]), (4, 4, 4, 0, []), (6, 3, 0, 1, []), (7, 0, 0, 0, []), (8, 26, 12, 37, [0, 16397]), (11, 3, 0, 1, []), (12, 0, 0, 0, []), (13, 26, 12, 39, [0, 16399]), (16, 3, 1, 0, []), (17, 20, 1, 29, []), (20, 3, 0, 1, []), (21, 3, 2, 0, []), (22, 3, 3, 0, []), (23, 33, 3, 36, [13, 1, 19472, 0, 19474, 8196, 19475, 9230]), (26, 22, 0, 57, []), (29, 3, 1, 0, []), (30, 0, 1, 0, []), (31, 21, 1, 42, []), (34, 3, 0, 1, []), (35, 3, 2, 0, []), (36, 33, 2, 61, [13, 1, 19480, 0, 19482, 8198, 19483, 9230]), (39, 22, 0, 57, []), (42, 3, 1, 0, []), (43, 0, 2, 0, []), (44, 21, 1, 55, []), (47, 3, 0, 1, []), (48, 3, 2, 0, []), (49, 33, 2, 62, [13, 1, 19484, 0, 19486, 8199, 19487, 9230]), (52, 22, 0, 57, []), (55, 0, 3294967295, 0, [16489]), (57, 4, 5, 0, []), (59, 3, 5, 0, []), (61, 20, 0, 67, []), (64, 3, 5, 0, []), (66, 35, 0, 0, []), (67, 0, 0, 0, []), (68, 4, 6, 0, []), (70, 3, 6, 0, []), (72, 3, 4, 0, []), (74, 21, 3, 109, []), (77, 60, 0, 0, []), (79, 60, 0, 0, []), (80, 60, 0, 0, []), (83, 60, 0, 0, []), (86, 60, 0, 0, []), (87, 60, 0, 0, []), (90, 60, 0, 0, []), (92, 60, 0, 0, []), (93, 60, 0, 0, []), (94, 60, 0, 0, []), (97, 60, 0, 0, []), (99, 60, 0, 0, []), (100, 60, 0, 0, []), (103, 60, 0, 0, []), (106, 60, 0, 0, []), (109, 3, 6, 0, []), (111, 3, 4, 0, []), (113, 21, 1, 129, []), (116, 3, 6, 0, []), (118, 3, 0, 1, []), (119, 25, 12, 39, [16399]), (122, 21, 1, 129, []), (125, 0, 0, 0, []), (126, 22, 0, 133, []), (129, 0, 1, 0, []), (130, 3, 6, 0, []), (132, 6, 0, 0, []), (133, 35, 0, 0, [])], { frames := 4, cells := 0, slots := 0, locals := 96 })
noncomputable def xMs : List xM := [xm_0, xm_1, xm_2, xm_3, xm_4, xm_5, xm_6, xm_7, xm_8, xm_9, xm_10, xm_11, xm_12, xm_13, xm_14, xm_15, xm_16, xm_17, xm_18, xm_19, xm_20, xm_21, xm_22, xm_23, xm_24, xm_25, xm_26, xm_27, xm_28, xm_29, xm_30, xm_31, xm_32, xm_33, xm_34, xm_35, xm_36, xm_37, xm_38, xm_39, xm_40, xm_41, xm_42, xm_43, xm_44, xm_45, xm_46, xm_47, xm_48, xm_49, xm_50, xm_51, xm_52, xm_53, xm_54, xm_55, xm_56, xm_57, xm_58, xm_59, xm_60, xm_61, xm_62, xm_63, xm_64, xm_65, xm_66, xm_67, xm_68, xm_69, xm_70, xm_71, xm_72, xm_73, xm_74, xm_75, xm_76, xm_77, xm_78, xm_79, xm_80, xm_81, xm_82, xm_83, xm_84, xm_85, xm_86, xm_87, xm_88, xm_89, xm_90, xm_91, xm_92, xm_93, xm_94, xm_95, xm_96, xm_97, xm_98, xm_99, xm_100, xm_101, xm_102, xm_103, xm_104, xm_105, xm_106, xm_107, xm_108, xm_109, xm_110, xm_111, xm_112, xm_113, xm_114, xm_115, xm_116, xm_117, xm_118, xm_119, xm_120, xm_121, xm_122, xm_123, xm_124, xm_125, xm_126, xm_127, xm_128, xm_129, xm_130, xm_131, xm_132, xm_133, xm_134, xm_135, xm_136, xm_137, xm_138, xm_139, xm_140, xm_141, xm_142, xm_143, xm_144, xm_145, xm_146, xm_147, xm_148, xm_149, xm_150, xm_151, xm_152, xm_153, xm_154, xm_155, xm_156, xm_157, xm_158, xm_159, xm_160, xm_161, xm_162, xm_163, xm_164, xm_165, xm_166, xm_167, xm_168, xm_169, xm_170, xm_171, xm_172, xm_173, xm_174, xm_175, xm_176, xm_177, xm_178, xm_179, xm_180, xm_181, xm_182, xm_183, xm_184, xm_185, xm_186, xm_187, xm_188, xm_189, xm_190, xm_191, xm_192, xm_193, xm_194, xm_195, xm_196, xm_197, xm_198, xm_199, xm_200, xm_201, xm_202, xm_203, xm_204, xm_205, xm_206, xm_207, xm_208, xm_209, xm_210, xm_211, xm_212, xm_213, xm_214, xm_215, xm_216, xm_217, xm_218, xm_219, xm_220, xm_221, xm_222, xm_223, xm_224, xm_225, xm_226, xm_227, xm_228, xm_229, xm_230, xm_231, xm_232, xm_233, xm_234, xm_235, xm_236, xm_237, xm_238, xm_239, xm_240, xm_241, xm_242, xm_243, xm_244, xm_245, xm_246, xm_247, xm_248, xm_249, xm_250, xm_251, xm_252, xm_253, xm_254, xm_255, xm_256, xm_257, xm_258, xm_259, xm_260, xm_261]
end
section
/-! the tables hold what the machine has -/
def xchk (Tc : List (List Cond)) (C : String) (T : u_T) (N : Nat) (ps : List Nat) : Bool := (List.range N).all (fun k => xwg Tc (ps.getD k 0) (u_lay C T k))
theorem xchk_of {Tc : List (List Cond)} {C : String} {T : u_T} {N : Nat} {ps : List Nat} (h : xchk Tc C T N ps = true) : ∀ w ∈ u_ws C T N, w ∈ xTs Tc := by
  intro w hw
  obtain ⟨k, hk, rfl⟩ := List.mem_map.mp hw
  exact xwg_of (List.all_eq_true.mp h k hk)
theorem xcl_0 : xTb (xTs xTc) RX0 TX0 13 := ⟨xchk_of (ps := [9288, 9290, 9292, 9294, 9296, 9298, 9300, 9302, 9304, 9306, 9308, 9310, 9312]) (by decide +kernel), ⟨tyX0, tyX0_ok⟩, nmX0⟩
theorem xcl_1 : xTb (xTs xTc) RX1 TX1 14 := ⟨xchk_of (ps := [10283, 10285, 10287, 10289, 10291, 10293, 10295, 10297, 10299, 10301, 10303, 10305, 10307, 10309]) (by decide +kernel), ⟨tyX1, tyX1_ok⟩, nmX1⟩
theorem xcl_2 : xTb (xTs xTc) RX2 TX2 10 := ⟨xchk_of (ps := [9449, 9451, 9453, 9455, 10241, 10243, 10245, 10247, 10249, 10251]) (by decide +kernel), ⟨tyX2, tyX2_ok⟩, nmX2⟩
theorem xcl_3 : xTb (xTs xTc) RX3 TX3 2 := ⟨xchk_of (ps := [11274, 11276]) (by decide +kernel), ⟨tyX3, tyX3_ok⟩, nmX3⟩
theorem xcl_4 : xTb (xTs xTc) RX4 TX4 16 := ⟨xchk_of (ps := [10354, 10356, 10358, 10360, 10362, 10364, 10366, 10368, 10370, 10372, 10374, 10376, 10378, 10380, 10382, 10384]) (by decide +kernel), ⟨tyX4, tyX4_ok⟩, nmX4⟩
theorem xcl_5 : xTb (xTs xTc) RX5 TX5 3 := ⟨xchk_of (ps := [10442, 10444, 10446]) (by decide +kernel), ⟨tyX5, tyX5_ok⟩, nmX5⟩
theorem xcl_6 : xTb (xTs xTc) RX6 TX6 5 := ⟨xchk_of (ps := [11292, 11294, 11296, 11298, 11300]) (by decide +kernel), ⟨tyX6, tyX6_ok⟩, nmX6⟩
theorem xcl_7 : xTb (xTs xTc) RX7 TX7 5 := ⟨xchk_of (ps := [9413, 9415, 9417, 9419, 9421]) (by decide +kernel), ⟨tyX7, tyX7_ok⟩, nmX7⟩
theorem xcl_8 : xTb (xTs xTc) RX8 TX8 8 := ⟨xchk_of (ps := [10465, 10467, 10469, 10471, 10473, 10475, 10477, 10479]) (by decide +kernel), ⟨tyX8, tyX8_ok⟩, nmX8⟩
theorem xcl_9 : xTb (xTs xTc) RX9 TX9 11 := ⟨xchk_of (ps := [10409, 10411, 10413, 10415, 10417, 10419, 10421, 10423, 10425, 10427, 10429]) (by decide +kernel), ⟨tyX9, tyX9_ok⟩, nmX9⟩
theorem xcl_10 : xTb (xTs xTc) RX10 TX10 14 := ⟨xchk_of (ps := [9362, 9364, 9366, 9368, 9370, 9372, 9374, 9376, 9378, 9380, 9382, 9384, 9386, 9388]) (by decide +kernel), ⟨tyX10, tyX10_ok⟩, nmX10⟩
theorem xcl_11 : xTb (xTs xTc) RX11 TX11 16 := ⟨xchk_of (ps := [11319, 11321, 11323, 11325, 11327, 11329, 11331, 11333, 11335, 11337, 11339, 11341, 11343, 11345, 11347, 11349]) (by decide +kernel), ⟨tyX11, tyX11_ok⟩, nmX11⟩
theorem xcl_12 : xTb (xTs xTc) RX12 TX12 40 := ⟨xchk_of (ps := [16400, 16402, 16404, 16406, 16408, 16410, 16412, 16414, 16416, 16418, 16420, 16422, 16424, 16426, 16428, 16430, 16432, 16434, 16436, 16438, 16440, 16442, 16444, 16446, 16448, 16450, 16452, 16454, 16456, 16458, 16460, 16462, 16464, 16466, 16468, 16470, 16472, 16474, 16476, 16478]) (by decide +kernel), ⟨tyX12, tyX12_ok⟩, nmX12⟩
end
section
/-! code tables are the machine's code -/
theorem xok_0 : xokc xTc xMs vwCl xTys xm_0 (xcd xm_0) = true := by decide +kernel
theorem xok_1 : xokc xTc xMs vwCl xTys xm_1 (xcd xm_1) = true := by decide +kernel
theorem xok_2 : xokc xTc xMs vwCl xTys xm_2 (xcd xm_2) = true := by decide +kernel
theorem xok_3 : xokc xTc xMs vwCl xTys xm_3 (xcd xm_3) = true := by decide +kernel
theorem xok_4 : xokc xTc xMs vwCl xTys xm_4 (xcd xm_4) = true := by decide +kernel
theorem xok_5 : xokc xTc xMs vwCl xTys xm_5 (xcd xm_5) = true := by decide +kernel
theorem xok_6 : xokc xTc xMs vwCl xTys xm_6 (xcd xm_6) = true := by decide +kernel
theorem xok_7 : xokc xTc xMs vwCl xTys xm_7 (xcd xm_7) = true := by decide +kernel
theorem xok_8 : xokc xTc xMs vwCl xTys xm_8 (xcd xm_8) = true := by decide +kernel
theorem xok_9 : xokc xTc xMs vwCl xTys xm_9 (xcd xm_9) = true := by decide +kernel
theorem xok_10 : xokc xTc xMs vwCl xTys xm_10 (xcd xm_10) = true := by decide +kernel
theorem xok_11 : xokc xTc xMs vwCl xTys xm_11 (xcd xm_11) = true := by decide +kernel
theorem xok_12 : xokc xTc xMs vwCl xTys xm_12 (xcd xm_12) = true := by decide +kernel
theorem xok_13 : xokc xTc xMs vwCl xTys xm_13 (xcd xm_13) = true := by decide +kernel
theorem xok_14 : xokc xTc xMs vwCl xTys xm_14 (xcd xm_14) = true := by decide +kernel
theorem xok_15 : xokc xTc xMs vwCl xTys xm_15 (xcd xm_15) = true := by decide +kernel
theorem xok_16 : xokc xTc xMs vwCl xTys xm_16 (xcd xm_16) = true := by decide +kernel
theorem xok_17 : xokc xTc xMs vwCl xTys xm_17 (xcd xm_17) = true := by decide +kernel
theorem xok_18 : xokc xTc xMs vwCl xTys xm_18 (xcd xm_18) = true := by decide +kernel
theorem xok_19 : xokc xTc xMs vwCl xTys xm_19 (xcd xm_19) = true := by decide +kernel
theorem xok_20 : xokc xTc xMs vwCl xTys xm_20 (xcd xm_20) = true := by decide +kernel
theorem xok_21 : xokc xTc xMs vwCl xTys xm_21 (xcd xm_21) = true := by decide +kernel
theorem xok_22 : xokc xTc xMs vwCl xTys xm_22 (xcd xm_22) = true := by decide +kernel
theorem xok_23 : xokc xTc xMs vwCl xTys xm_23 (xcd xm_23) = true := by decide +kernel
theorem xok_24 : xokc xTc xMs vwCl xTys xm_24 (xcd xm_24) = true := by decide +kernel
theorem xok_25 : xokc xTc xMs vwCl xTys xm_25 (xcd xm_25) = true := by decide +kernel
theorem xok_26 : xokc xTc xMs vwCl xTys xm_26 (xcd xm_26) = true := by decide +kernel
theorem xok_27 : xokc xTc xMs vwCl xTys xm_27 (xcd xm_27) = true := by decide +kernel
theorem xok_28 : xokc xTc xMs vwCl xTys xm_28 (xcd xm_28) = true := by decide +kernel
theorem xok_29 : xokc xTc xMs vwCl xTys xm_29 (xcd xm_29) = true := by decide +kernel
theorem xok_30 : xokc xTc xMs vwCl xTys xm_30 (xcd xm_30) = true := by decide +kernel
theorem xok_31 : xokc xTc xMs vwCl xTys xm_31 (xcd xm_31) = true := by decide +kernel
theorem xok_32 : xokc xTc xMs vwCl xTys xm_32 (xcd xm_32) = true := by decide +kernel
theorem xok_33 : xokc xTc xMs vwCl xTys xm_33 (xcd xm_33) = true := by decide +kernel
theorem xok_34 : xokc xTc xMs vwCl xTys xm_34 (xcd xm_34) = true := by decide +kernel
theorem xok_35 : xokc xTc xMs vwCl xTys xm_35 (xcd xm_35) = true := by decide +kernel
theorem xok_36 : xokc xTc xMs vwCl xTys xm_36 (xcd xm_36) = true := by decide +kernel
theorem xok_37 : xokc xTc xMs vwCl xTys xm_37 (xcd xm_37) = true := by decide +kernel
theorem xok_38 : xokc xTc xMs vwCl xTys xm_38 (xcd xm_38) = true := by decide +kernel
theorem xok_39 : xokc xTc xMs vwCl xTys xm_39 (xcd xm_39) = true := by decide +kernel
theorem xok_40 : xokc xTc xMs vwCl xTys xm_40 (xcd xm_40) = true := by decide +kernel
theorem xok_41 : xokc xTc xMs vwCl xTys xm_41 (xcd xm_41) = true := by decide +kernel
theorem xok_42 : xokc xTc xMs vwCl xTys xm_42 (xcd xm_42) = true := by decide +kernel
theorem xok_43 : xokc xTc xMs vwCl xTys xm_43 (xcd xm_43) = true := by decide +kernel
theorem xok_44 : xokc xTc xMs vwCl xTys xm_44 (xcd xm_44) = true := by decide +kernel
theorem xok_45 : xokc xTc xMs vwCl xTys xm_45 (xcd xm_45) = true := by decide +kernel
theorem xok_46 : xokc xTc xMs vwCl xTys xm_46 (xcd xm_46) = true := by decide +kernel
theorem xok_47 : xokc xTc xMs vwCl xTys xm_47 (xcd xm_47) = true := by decide +kernel
theorem xok_48 : xokc xTc xMs vwCl xTys xm_48 (xcd xm_48) = true := by decide +kernel
theorem xok_49 : xokc xTc xMs vwCl xTys xm_49 (xcd xm_49) = true := by decide +kernel
theorem xok_50 : xokc xTc xMs vwCl xTys xm_50 (xcd xm_50) = true := by decide +kernel
theorem xok_51 : xokc xTc xMs vwCl xTys xm_51 (xcd xm_51) = true := by decide +kernel
theorem xok_52 : xokc xTc xMs vwCl xTys xm_52 (xcd xm_52) = true := by decide +kernel
theorem xok_53 : xokc xTc xMs vwCl xTys xm_53 (xcd xm_53) = true := by decide +kernel
theorem xok_54 : xokc xTc xMs vwCl xTys xm_54 (xcd xm_54) = true := by decide +kernel
theorem xok_55 : xokc xTc xMs vwCl xTys xm_55 (xcd xm_55) = true := by decide +kernel
theorem xok_56 : xokc xTc xMs vwCl xTys xm_56 (xcd xm_56) = true := by decide +kernel
theorem xok_57 : xokc xTc xMs vwCl xTys xm_57 (xcd xm_57) = true := by decide +kernel
theorem xok_58 : xokc xTc xMs vwCl xTys xm_58 (xcd xm_58) = true := by decide +kernel
theorem xok_59 : xokc xTc xMs vwCl xTys xm_59 (xcd xm_59) = true := by decide +kernel
end
section
/-! code tables are the machine's code -/
theorem xok_60 : xokc xTc xMs vwCl xTys xm_60 (xcd xm_60) = true := by decide +kernel
theorem xok_61 : xokc xTc xMs vwCl xTys xm_61 (xcd xm_61) = true := by decide +kernel
theorem xok_62 : xokc xTc xMs vwCl xTys xm_62 (xcd xm_62) = true := by decide +kernel
theorem xok_63 : xokc xTc xMs vwCl xTys xm_63 (xcd xm_63) = true := by decide +kernel
theorem xok_64 : xokc xTc xMs vwCl xTys xm_64 (xcd xm_64) = true := by decide +kernel
theorem xok_65 : xokc xTc xMs vwCl xTys xm_65 (xcd xm_65) = true := by decide +kernel
theorem xok_66 : xokc xTc xMs vwCl xTys xm_66 (xcd xm_66) = true := by decide +kernel
theorem xok_67 : xokc xTc xMs vwCl xTys xm_67 (xcd xm_67) = true := by decide +kernel
theorem xok_68 : xokc xTc xMs vwCl xTys xm_68 (xcd xm_68) = true := by decide +kernel
theorem xok_69 : xokc xTc xMs vwCl xTys xm_69 (xcd xm_69) = true := by decide +kernel
theorem xok_70 : xokc xTc xMs vwCl xTys xm_70 (xcd xm_70) = true := by decide +kernel
theorem xok_71 : xokc xTc xMs vwCl xTys xm_71 (xcd xm_71) = true := by decide +kernel
theorem xok_72 : xokc xTc xMs vwCl xTys xm_72 (xcd xm_72) = true := by decide +kernel
theorem xok_73 : xokc xTc xMs vwCl xTys xm_73 (xcd xm_73) = true := by decide +kernel
theorem xok_74 : xokc xTc xMs vwCl xTys xm_74 (xcd xm_74) = true := by decide +kernel
theorem xok_75 : xokc xTc xMs vwCl xTys xm_75 (xcd xm_75) = true := by decide +kernel
theorem xok_76 : xokc xTc xMs vwCl xTys xm_76 (xcd xm_76) = true := by decide +kernel
theorem xok_77 : xokc xTc xMs vwCl xTys xm_77 (xcd xm_77) = true := by decide +kernel
theorem xok_78 : xokc xTc xMs vwCl xTys xm_78 (xcd xm_78) = true := by decide +kernel
theorem xok_79 : xokc xTc xMs vwCl xTys xm_79 (xcd xm_79) = true := by decide +kernel
theorem xok_80 : xokc xTc xMs vwCl xTys xm_80 (xcd xm_80) = true := by decide +kernel
theorem xok_81 : xokc xTc xMs vwCl xTys xm_81 (xcd xm_81) = true := by decide +kernel
theorem xok_82 : xokc xTc xMs vwCl xTys xm_82 (xcd xm_82) = true := by decide +kernel
theorem xok_83 : xokc xTc xMs vwCl xTys xm_83 (xcd xm_83) = true := by decide +kernel
theorem xok_84 : xokc xTc xMs vwCl xTys xm_84 (xcd xm_84) = true := by decide +kernel
theorem xok_85 : xokc xTc xMs vwCl xTys xm_85 (xcd xm_85) = true := by decide +kernel
theorem xok_86 : xokc xTc xMs vwCl xTys xm_86 (xcd xm_86) = true := by decide +kernel
theorem xok_87 : xokc xTc xMs vwCl xTys xm_87 (xcd xm_87) = true := by decide +kernel
theorem xok_88 : xokc xTc xMs vwCl xTys xm_88 (xcd xm_88) = true := by decide +kernel
theorem xok_89 : xokc xTc xMs vwCl xTys xm_89 (xcd xm_89) = true := by decide +kernel
theorem xok_90 : xokc xTc xMs vwCl xTys xm_90 (xcd xm_90) = true := by decide +kernel
theorem xok_91 : xokc xTc xMs vwCl xTys xm_91 (xcd xm_91) = true := by decide +kernel
theorem xok_92 : xokc xTc xMs vwCl xTys xm_92 (xcd xm_92) = true := by decide +kernel
theorem xok_93 : xokc xTc xMs vwCl xTys xm_93 (xcd xm_93) = true := by decide +kernel
theorem xok_94 : xokc xTc xMs vwCl xTys xm_94 (xcd xm_94) = true := by decide +kernel
theorem xok_95 : xokc xTc xMs vwCl xTys xm_95 (xcd xm_95) = true := by decide +kernel
theorem xok_96 : xokc xTc xMs vwCl xTys xm_96 (xcd xm_96) = true := by decide +kernel
theorem xok_97 : xokc xTc xMs vwCl xTys xm_97 (xcd xm_97) = true := by decide +kernel
theorem xok_98 : xokc xTc xMs vwCl xTys xm_98 (xcd xm_98) = true := by decide +kernel
theorem xok_99 : xokc xTc xMs vwCl xTys xm_99 (xcd xm_99) = true := by decide +kernel
theorem xok_100 : xokc xTc xMs vwCl xTys xm_100 (xcd xm_100) = true := by decide +kernel
theorem xok_101 : xokc xTc xMs vwCl xTys xm_101 (xcd xm_101) = true := by decide +kernel
theorem xok_102 : xokc xTc xMs vwCl xTys xm_102 (xcd xm_102) = true := by decide +kernel
theorem xok_103 : xokc xTc xMs vwCl xTys xm_103 (xcd xm_103) = true := by decide +kernel
theorem xok_104 : xokc xTc xMs vwCl xTys xm_104 (xcd xm_104) = true := by decide +kernel
theorem xok_105 : xokc xTc xMs vwCl xTys xm_105 (xcd xm_105) = true := by decide +kernel
theorem xok_106 : xokc xTc xMs vwCl xTys xm_106 (xcd xm_106) = true := by decide +kernel
theorem xok_107 : xokc xTc xMs vwCl xTys xm_107 (xcd xm_107) = true := by decide +kernel
theorem xok_108 : xokc xTc xMs vwCl xTys xm_108 (xcd xm_108) = true := by decide +kernel
theorem xok_109 : xokc xTc xMs vwCl xTys xm_109 (xcd xm_109) = true := by decide +kernel
theorem xok_110 : xokc xTc xMs vwCl xTys xm_110 (xcd xm_110) = true := by decide +kernel
theorem xok_111 : xokc xTc xMs vwCl xTys xm_111 (xcd xm_111) = true := by decide +kernel
theorem xok_112 : xokc xTc xMs vwCl xTys xm_112 (xcd xm_112) = true := by decide +kernel
theorem xok_113 : xokc xTc xMs vwCl xTys xm_113 (xcd xm_113) = true := by decide +kernel
theorem xok_114 : xokc xTc xMs vwCl xTys xm_114 (xcd xm_114) = true := by decide +kernel
theorem xok_115 : xokc xTc xMs vwCl xTys xm_115 (xcd xm_115) = true := by decide +kernel
theorem xok_116 : xokc xTc xMs vwCl xTys xm_116 (xcd xm_116) = true := by decide +kernel
theorem xok_117 : xokc xTc xMs vwCl xTys xm_117 (xcd xm_117) = true := by decide +kernel
theorem xok_118 : xokc xTc xMs vwCl xTys xm_118 (xcd xm_118) = true := by decide +kernel
theorem xok_119 : xokc xTc xMs vwCl xTys xm_119 (xcd xm_119) = true := by decide +kernel
end
section
/-! code tables are the machine's code -/
theorem xok_120 : xokc xTc xMs vwCl xTys xm_120 (xcd xm_120) = true := by decide +kernel
theorem xok_121 : xokc xTc xMs vwCl xTys xm_121 (xcd xm_121) = true := by decide +kernel
theorem xok_122 : xokc xTc xMs vwCl xTys xm_122 (xcd xm_122) = true := by decide +kernel
theorem xok_123 : xokc xTc xMs vwCl xTys xm_123 (xcd xm_123) = true := by decide +kernel
theorem xok_124 : xokc xTc xMs vwCl xTys xm_124 (xcd xm_124) = true := by decide +kernel
theorem xok_125 : xokc xTc xMs vwCl xTys xm_125 (xcd xm_125) = true := by decide +kernel
theorem xok_126 : xokc xTc xMs vwCl xTys xm_126 (xcd xm_126) = true := by decide +kernel
theorem xok_127 : xokc xTc xMs vwCl xTys xm_127 (xcd xm_127) = true := by decide +kernel
theorem xok_128 : xokc xTc xMs vwCl xTys xm_128 (xcd xm_128) = true := by decide +kernel
theorem xok_129 : xokc xTc xMs vwCl xTys xm_129 (xcd xm_129) = true := by decide +kernel
theorem xok_130 : xokc xTc xMs vwCl xTys xm_130 (xcd xm_130) = true := by decide +kernel
theorem xok_131 : xokc xTc xMs vwCl xTys xm_131 (xcd xm_131) = true := by decide +kernel
theorem xok_132 : xokc xTc xMs vwCl xTys xm_132 (xcd xm_132) = true := by decide +kernel
theorem xok_133 : xokc xTc xMs vwCl xTys xm_133 (xcd xm_133) = true := by decide +kernel
theorem xok_134 : xokc xTc xMs vwCl xTys xm_134 (xcd xm_134) = true := by decide +kernel
theorem xok_135 : xokc xTc xMs vwCl xTys xm_135 (xcd xm_135) = true := by decide +kernel
theorem xok_136 : xokc xTc xMs vwCl xTys xm_136 (xcd xm_136) = true := by decide +kernel
theorem xok_137 : xokc xTc xMs vwCl xTys xm_137 (xcd xm_137) = true := by decide +kernel
theorem xok_138 : xokc xTc xMs vwCl xTys xm_138 (xcd xm_138) = true := by decide +kernel
theorem xok_139 : xokc xTc xMs vwCl xTys xm_139 (xcd xm_139) = true := by decide +kernel
theorem xok_140 : xokc xTc xMs vwCl xTys xm_140 (xcd xm_140) = true := by decide +kernel
theorem xok_141 : xokc xTc xMs vwCl xTys xm_141 (xcd xm_141) = true := by decide +kernel
theorem xok_142 : xokc xTc xMs vwCl xTys xm_142 (xcd xm_142) = true := by decide +kernel
theorem xok_143 : xokc xTc xMs vwCl xTys xm_143 (xcd xm_143) = true := by decide +kernel
theorem xok_144 : xokc xTc xMs vwCl xTys xm_144 (xcd xm_144) = true := by decide +kernel
theorem xok_145 : xokc xTc xMs vwCl xTys xm_145 (xcd xm_145) = true := by decide +kernel
theorem xok_146 : xokc xTc xMs vwCl xTys xm_146 (xcd xm_146) = true := by decide +kernel
theorem xok_147 : xokc xTc xMs vwCl xTys xm_147 (xcd xm_147) = true := by decide +kernel
theorem xok_148 : xokc xTc xMs vwCl xTys xm_148 (xcd xm_148) = true := by decide +kernel
theorem xok_149 : xokc xTc xMs vwCl xTys xm_149 (xcd xm_149) = true := by decide +kernel
theorem xok_150 : xokc xTc xMs vwCl xTys xm_150 (xcd xm_150) = true := by decide +kernel
theorem xok_151 : xokc xTc xMs vwCl xTys xm_151 (xcd xm_151) = true := by decide +kernel
theorem xok_152 : xokc xTc xMs vwCl xTys xm_152 (xcd xm_152) = true := by decide +kernel
theorem xok_153 : xokc xTc xMs vwCl xTys xm_153 (xcd xm_153) = true := by decide +kernel
theorem xok_154 : xokc xTc xMs vwCl xTys xm_154 (xcd xm_154) = true := by decide +kernel
theorem xok_155 : xokc xTc xMs vwCl xTys xm_155 (xcd xm_155) = true := by decide +kernel
theorem xok_156 : xokc xTc xMs vwCl xTys xm_156 (xcd xm_156) = true := by decide +kernel
theorem xok_157 : xokc xTc xMs vwCl xTys xm_157 (xcd xm_157) = true := by decide +kernel
theorem xok_158 : xokc xTc xMs vwCl xTys xm_158 (xcd xm_158) = true := by decide +kernel
theorem xok_159 : xokc xTc xMs vwCl xTys xm_159 (xcd xm_159) = true := by decide +kernel
theorem xok_160 : xokc xTc xMs vwCl xTys xm_160 (xcd xm_160) = true := by decide +kernel
theorem xok_161 : xokc xTc xMs vwCl xTys xm_161 (xcd xm_161) = true := by decide +kernel
theorem xok_162 : xokc xTc xMs vwCl xTys xm_162 (xcd xm_162) = true := by decide +kernel
theorem xok_163 : xokc xTc xMs vwCl xTys xm_163 (xcd xm_163) = true := by decide +kernel
theorem xok_164 : xokc xTc xMs vwCl xTys xm_164 (xcd xm_164) = true := by decide +kernel
theorem xok_165 : xokc xTc xMs vwCl xTys xm_165 (xcd xm_165) = true := by decide +kernel
theorem xok_166 : xokc xTc xMs vwCl xTys xm_166 (xcd xm_166) = true := by decide +kernel
theorem xok_167 : xokc xTc xMs vwCl xTys xm_167 (xcd xm_167) = true := by decide +kernel
theorem xok_168 : xokc xTc xMs vwCl xTys xm_168 (xcd xm_168) = true := by decide +kernel
theorem xok_169 : xokc xTc xMs vwCl xTys xm_169 (xcd xm_169) = true := by decide +kernel
theorem xok_170 : xokc xTc xMs vwCl xTys xm_170 (xcd xm_170) = true := by decide +kernel
theorem xok_171 : xokc xTc xMs vwCl xTys xm_171 (xcd xm_171) = true := by decide +kernel
theorem xok_172 : xokc xTc xMs vwCl xTys xm_172 (xcd xm_172) = true := by decide +kernel
theorem xok_173 : xokc xTc xMs vwCl xTys xm_173 (xcd xm_173) = true := by decide +kernel
theorem xok_174 : xokc xTc xMs vwCl xTys xm_174 (xcd xm_174) = true := by decide +kernel
theorem xok_175 : xokc xTc xMs vwCl xTys xm_175 (xcd xm_175) = true := by decide +kernel
theorem xok_176 : xokc xTc xMs vwCl xTys xm_176 (xcd xm_176) = true := by decide +kernel
theorem xok_177 : xokc xTc xMs vwCl xTys xm_177 (xcd xm_177) = true := by decide +kernel
theorem xok_178 : xokc xTc xMs vwCl xTys xm_178 (xcd xm_178) = true := by decide +kernel
theorem xok_179 : xokc xTc xMs vwCl xTys xm_179 (xcd xm_179) = true := by decide +kernel
end
section
/-! code tables are the machine's code -/
theorem xok_180 : xokc xTc xMs vwCl xTys xm_180 (xcd xm_180) = true := by decide +kernel
theorem xok_181 : xokc xTc xMs vwCl xTys xm_181 (xcd xm_181) = true := by decide +kernel
theorem xok_182 : xokc xTc xMs vwCl xTys xm_182 (xcd xm_182) = true := by decide +kernel
theorem xok_183 : xokc xTc xMs vwCl xTys xm_183 (xcd xm_183) = true := by decide +kernel
theorem xok_184 : xokc xTc xMs vwCl xTys xm_184 (xcd xm_184) = true := by decide +kernel
theorem xok_185 : xokc xTc xMs vwCl xTys xm_185 (xcd xm_185) = true := by decide +kernel
theorem xok_186 : xokc xTc xMs vwCl xTys xm_186 (xcd xm_186) = true := by decide +kernel
theorem xok_187 : xokc xTc xMs vwCl xTys xm_187 (xcd xm_187) = true := by decide +kernel
theorem xok_188 : xokc xTc xMs vwCl xTys xm_188 (xcd xm_188) = true := by decide +kernel
theorem xok_189 : xokc xTc xMs vwCl xTys xm_189 (xcd xm_189) = true := by decide +kernel
theorem xok_190 : xokc xTc xMs vwCl xTys xm_190 (xcd xm_190) = true := by decide +kernel
theorem xok_191 : xokc xTc xMs vwCl xTys xm_191 (xcd xm_191) = true := by decide +kernel
theorem xok_192 : xokc xTc xMs vwCl xTys xm_192 (xcd xm_192) = true := by decide +kernel
theorem xok_193 : xokc xTc xMs vwCl xTys xm_193 (xcd xm_193) = true := by decide +kernel
theorem xok_194 : xokc xTc xMs vwCl xTys xm_194 (xcd xm_194) = true := by decide +kernel
theorem xok_195 : xokc xTc xMs vwCl xTys xm_195 (xcd xm_195) = true := by decide +kernel
theorem xok_196 : xokc xTc xMs vwCl xTys xm_196 (xcd xm_196) = true := by decide +kernel
theorem xok_197 : xokc xTc xMs vwCl xTys xm_197 (xcd xm_197) = true := by decide +kernel
theorem xok_198 : xokc xTc xMs vwCl xTys xm_198 (xcd xm_198) = true := by decide +kernel
theorem xok_199 : xokc xTc xMs vwCl xTys xm_199 (xcd xm_199) = true := by decide +kernel
theorem xok_200 : xokc xTc xMs vwCl xTys xm_200 (xcd xm_200) = true := by decide +kernel
theorem xok_201 : xokc xTc xMs vwCl xTys xm_201 (xcd xm_201) = true := by decide +kernel
theorem xok_202 : xokc xTc xMs vwCl xTys xm_202 (xcd xm_202) = true := by decide +kernel
theorem xok_203 : xokc xTc xMs vwCl xTys xm_203 (xcd xm_203) = true := by decide +kernel
theorem xok_204 : xokc xTc xMs vwCl xTys xm_204 (xcd xm_204) = true := by decide +kernel
theorem xok_205 : xokc xTc xMs vwCl xTys xm_205 (xcd xm_205) = true := by decide +kernel
theorem xok_206 : xokc xTc xMs vwCl xTys xm_206 (xcd xm_206) = true := by decide +kernel
theorem xok_207 : xokc xTc xMs vwCl xTys xm_207 (xcd xm_207) = true := by decide +kernel
theorem xok_208 : xokc xTc xMs vwCl xTys xm_208 (xcd xm_208) = true := by decide +kernel
theorem xok_209 : xokc xTc xMs vwCl xTys xm_209 (xcd xm_209) = true := by decide +kernel
theorem xok_210 : xokc xTc xMs vwCl xTys xm_210 (xcd xm_210) = true := by decide +kernel
theorem xok_211 : xokc xTc xMs vwCl xTys xm_211 (xcd xm_211) = true := by decide +kernel
theorem xok_212 : xokc xTc xMs vwCl xTys xm_212 (xcd xm_212) = true := by decide +kernel
theorem xok_213 : xokc xTc xMs vwCl xTys xm_213 (xcd xm_213) = true := by decide +kernel
theorem xok_214 : xokc xTc xMs vwCl xTys xm_214 (xcd xm_214) = true := by decide +kernel
theorem xok_215 : xokc xTc xMs vwCl xTys xm_215 (xcd xm_215) = true := by decide +kernel
theorem xok_216 : xokc xTc xMs vwCl xTys xm_216 (xcd xm_216) = true := by decide +kernel
theorem xok_217 : xokc xTc xMs vwCl xTys xm_217 (xcd xm_217) = true := by decide +kernel
theorem xok_218 : xokc xTc xMs vwCl xTys xm_218 (xcd xm_218) = true := by decide +kernel
theorem xok_219 : xokc xTc xMs vwCl xTys xm_219 (xcd xm_219) = true := by decide +kernel
theorem xok_220 : xokc xTc xMs vwCl xTys xm_220 (xcd xm_220) = true := by decide +kernel
theorem xok_221 : xokc xTc xMs vwCl xTys xm_221 (xcd xm_221) = true := by decide +kernel
theorem xok_222 : xokc xTc xMs vwCl xTys xm_222 (xcd xm_222) = true := by decide +kernel
theorem xok_223 : xokc xTc xMs vwCl xTys xm_223 (xcd xm_223) = true := by decide +kernel
theorem xok_224 : xokc xTc xMs vwCl xTys xm_224 (xcd xm_224) = true := by decide +kernel
theorem xok_225 : xokc xTc xMs vwCl xTys xm_225 (xcd xm_225) = true := by decide +kernel
theorem xok_226 : xokc xTc xMs vwCl xTys xm_226 (xcd xm_226) = true := by decide +kernel
theorem xok_227 : xokc xTc xMs vwCl xTys xm_227 (xcd xm_227) = true := by decide +kernel
theorem xok_228 : xokc xTc xMs vwCl xTys xm_228 (xcd xm_228) = true := by decide +kernel
theorem xok_229 : xokc xTc xMs vwCl xTys xm_229 (xcd xm_229) = true := by decide +kernel
theorem xok_230 : xokc xTc xMs vwCl xTys xm_230 (xcd xm_230) = true := by decide +kernel
theorem xok_231 : xokc xTc xMs vwCl xTys xm_231 (xcd xm_231) = true := by decide +kernel
theorem xok_232 : xokc xTc xMs vwCl xTys xm_232 (xcd xm_232) = true := by decide +kernel
theorem xok_233 : xokc xTc xMs vwCl xTys xm_233 (xcd xm_233) = true := by decide +kernel
theorem xok_234 : xokc xTc xMs vwCl xTys xm_234 (xcd xm_234) = true := by decide +kernel
theorem xok_235 : xokc xTc xMs vwCl xTys xm_235 (xcd xm_235) = true := by decide +kernel
theorem xok_236 : xokc xTc xMs vwCl xTys xm_236 (xcd xm_236) = true := by decide +kernel
theorem xok_237 : xokc xTc xMs vwCl xTys xm_237 (xcd xm_237) = true := by decide +kernel
theorem xok_238 : xokc xTc xMs vwCl xTys xm_238 (xcd xm_238) = true := by decide +kernel
theorem xok_239 : xokc xTc xMs vwCl xTys xm_239 (xcd xm_239) = true := by decide +kernel
end
section
/-! code tables are the machine's code -/
theorem xok_240 : xokc xTc xMs vwCl xTys xm_240 (xcd xm_240) = true := by decide +kernel
theorem xok_241 : xokc xTc xMs vwCl xTys xm_241 (xcd xm_241) = true := by decide +kernel
theorem xok_242 : xokc xTc xMs vwCl xTys xm_242 (xcd xm_242) = true := by decide +kernel
theorem xok_243 : xokc xTc xMs vwCl xTys xm_243 (xcd xm_243) = true := by decide +kernel
theorem xok_244 : xokc xTc xMs vwCl xTys xm_244 (xcd xm_244) = true := by decide +kernel
theorem xok_245 : xokc xTc xMs vwCl xTys xm_245 (xcd xm_245) = true := by decide +kernel
theorem xok_246 : xokc xTc xMs vwCl xTys xm_246 (xcd xm_246) = true := by decide +kernel
theorem xok_247 : xokc xTc xMs vwCl xTys xm_247 (xcd xm_247) = true := by decide +kernel
theorem xok_248 : xokc xTc xMs vwCl xTys xm_248 (xcd xm_248) = true := by decide +kernel
theorem xok_249 : xokc xTc xMs vwCl xTys xm_249 (xcd xm_249) = true := by decide +kernel
theorem xok_250 : xokc xTc xMs vwCl xTys xm_250 (xcd xm_250) = true := by decide +kernel
theorem xok_251 : xokc xTc xMs vwCl xTys xm_251 (xcd xm_251) = true := by decide +kernel
theorem xok_252 : xokc xTc xMs vwCl xTys xm_252 (xcd xm_252) = true := by decide +kernel
theorem xok_253 : xokc xTc xMs vwCl xTys xm_253 (xcd xm_253) = true := by decide +kernel
theorem xok_254 : xokc xTc xMs vwCl xTys xm_254 (xcd xm_254) = true := by decide +kernel
theorem xok_255 : xokc xTc xMs vwCl xTys xm_255 (xcd xm_255) = true := by decide +kernel
theorem xok_256 : xokc xTc xMs vwCl xTys xm_256 (xcd xm_256) = true := by decide +kernel
theorem xok_257 : xokc xTc xMs vwCl xTys xm_257 (xcd xm_257) = true := by decide +kernel
theorem xok_258 : xokc xTc xMs vwCl xTys xm_258 (xcd xm_258) = true := by decide +kernel
theorem xok_259 : xokc xTc xMs vwCl xTys xm_259 (xcd xm_259) = true := by decide +kernel
theorem xok_260 : xokc xTc xMs vwCl xTys xm_260 (xcd xm_260) = true := by decide +kernel
theorem xok_261 : xokc xTc xMs vwCl xTys xm_261 (xcd xm_261) = true := by decide +kernel
end
section
/-! the two objects as their constructors leave them (written by gen34.py) -/
noncomputable def xhA : xH := [[(11, 16, [[.inr (.inr (.inl none)), .inr (.inr (.inl none)), .inr (.inr (.inl none)), .inr (.inr (.inl none)), .inr (.inr (.inl none)), .inr (.inr (.inl none)), .inl 0, .inr (.inr (.inl none)), .inr (.inr (.inl none)), .inr (.inr (.inl none)), .inr (.inr (.inl none)), .inr (.inr (.inl none)), .inr (.inr (.inl none)), .inr (.inr (.inl none)), .inl 0, .inr (.inr (.inl none))]])], [], [], [], [], [], [], [], [], [], [], [], []]
noncomputable def xSX_0 : List xC := [(11, 16, [[.inr (.inr (.inl (some 1))), .inr (.inr (.inl (some 187))), .inr (.inr (.inl (some 211))), .inr (.inr (.inl (some 257))), .inr (.inr (.inl (some 443))), .inr (.inr (.inl (some 467))), .inl 0, .inr (.inr (.inl (some 513))), .inr (.inr (.inl (some 699))), .inr (.inr (.inl (some 703))), .inr (.inr (.inl (some 727))), .inr (.inr (.inl (some 732))), .inr (.inr (.inl (some 735))), .inr (.inr (.inl (some 738))), .inl 0, .inr (.inr (.inl (some 739)))]]),
  (2, 10, [[.inr (.inr (.inl (some 2))), .inr (.inr (.inl (some 163))), .inr (.inr (.inl (some 177))), .inr (.inr (.inl (some 182))), .inr (.inr (.inl (some 183))), .inl 300, .inl 0, .inl 5760, .inl 10, .inl 0]]),
  (0, 13, [[.inr (.inr (.inl (some 3))), .inr (.inr (.inl (some 4))), .inr (.inr (.inl (some 5))), .inr (.inr (.inl (some 26))), .inr (.inr (.inl (some 47))), .inl 0, .inr (.inr (.inl (some 68))), .inr (.inr (.inl (some 69))), .inr (.inr (.inl (some 70))), .inr (.inr (.inl (some 71))), .inl 0, .inr (.inr (.inl (some 72))), .inl 0]]),
  (100, 20, [List.replicate 20 (.inl 0)]),
  (100, 20, [List.replicate 20 (.inl 0)]),
  (102, 20, [[.inr (.inr (.inl (some 6))), .inr (.inr (.inl (some 7))), .inr (.inr (.inl (some 8))), .inr (.inr (.inl (some 9))), .inr (.inr (.inl (some 10))), .inr (.inr (.inl (some 11))), .inr (.inr (.inl (some 12))), .inr (.inr (.inl (some 13))), .inr (.inr (.inl (some 14))), .inr (.inr (.inl (some 15))), .inr (.inr (.inl (some 16))), .inr (.inr (.inl (some 17))), .inr (.inr (.inl (some 18))), .inr (.inr (.inl (some 19))), .inr (.inr (.inl (some 20))), .inr (.inr (.inl (some 21))), .inr (.inr (.inl (some 22))), .inr (.inr (.inl (some 23))), .inr (.inr (.inl (some 24))), .inr (.inr (.inl (some 25)))], []]),
  (100, 5, [List.replicate 5 (.inl 0)]),
  (100, 5, [List.replicate 5 (.inl 0)]),
  (100, 5, [List.replicate 5 (.inl 0)]),
  (100, 5, [List.replicate 5 (.inl 0)]),
  (100, 5, [List.replicate 5 (.inl 0)]),
  (100, 5, [List.replicate 5 (.inl 0)]),
  (100, 5, [List.replicate 5 (.inl 0)]),
  (100, 5, [List.replicate 5 (.inl 0)]),
  (100, 5, [List.replicate 5 (.inl 0)]),
  (100, 5, [List.replicate 5 (.inl 0)]),
  (100, 5, [List.replicate 5 (.inl 0)]),
  (100, 5, [List.replicate 5 (.inl 0)]),
  (100, 5, [List.replicate 5 (.inl 0)]),
  (100, 5, [List.replicate 5 (.inl 0)]),
  (100, 5, [List.replicate 5 (.inl 0)]),
  (100, 5, [List.replicate 5 (.inl 0)]),
  (100, 5, [List.replicate 5 (.inl 0)]),
  (100, 5, [List.replicate 5 (.inl 0)]),
  (100, 5, [List.replicate 5 (.inl 0)]),
  (100, 5, [List.replicate 5 (.inl 0)]),
  (102, 20, [[.inr (.inr (.inl (some 27))), .inr (.inr (.inl (some 28))), .inr (.inr (.inl (some 29))), .inr (.inr (.inl (some 30))), .inr (.inr (.inl (some 31))), .inr (.inr (.inl (some 32))), .inr (.inr (.inl (some 33))), .inr (.inr (.inl (some 34))), .inr (.inr (.inl (some 35))), .inr (.inr (.inl (some 36))), .inr (.inr (.inl (some 37))), .inr (.inr (.inl (some 38))), .inr (.inr (.inl (some 39))), .inr (.inr (.inl (some 40))), .inr (.inr (.inl (some 41))), .inr (.inr (.inl (some 42))), .inr (.inr (.inl (some 43))), .inr (.inr (.inl (some 44))), .inr (.inr (.inl (some 45))), .inr (.inr (.inl (some 46)))], []]),
  (100, 5, [List.replicate 5 (.inl 0)]),
  (100, 5, [List.replicate 5 (.inl 0)]),
  (100, 5, [List.replicate 5 (.inl 0)]),
  (100, 5, [List.replicate 5 (.inl 0)]),
  (100, 5, [List.replicate 5 (.inl 0)]),
  (100, 5, [List.replicate 5 (.inl 0)]),
  (100, 5, [List.replicate 5 (.inl 0)]),
  (100, 5, [List.replicate 5 (.inl 0)]),
  (100, 5, [List.replicate 5 (.inl 0)]),
  (100, 5, [List.replicate 5 (.inl 0)]),
  (100, 5, [List.replicate 5 (.inl 0)]),
  (100, 5, [List.replicate 5 (.inl 0)]),
  (100, 5, [List.replicate 5 (.inl 0)]),
  (100, 5, [List.replicate 5 (.inl 0)]),
  (100, 5, [List.replicate 5 (.inl 0)]),
  (100, 5, [List.replicate 5 (.inl 0)]),
  (100, 5, [List.replicate 5 (.inl 0)]),
  (100, 5, [List.replicate 5 (.inl 0)]),
  (100, 5, [List.replicate 5 (.inl 0)]),
  (100, 5, [List.replicate 5 (.inl 0)]),
  (102, 20, [[.inr (.inr (.inl (some 48))), .inr (.inr (.inl (some 49))), .inr (.inr (.inl (some 50))), .inr (.inr (.inl (some 51))), .inr (.inr (.inl (some 52))), .inr (.inr (.inl (some 53))), .inr (.inr (.inl (some 54))), .inr (.inr (.inl (some 55))), .inr (.inr (.inl (some 56))), .inr (.inr (.inl (some 57))), .inr (.inr (.inl (some 58))), .inr (.inr (.inl (some 59))), .inr (.inr (.inl (some 60))), .inr (.inr (.inl (some 61))), .inr (.inr (.inl (some 62))), .inr (.inr (.inl (some 63))), .inr (.inr (.inl (some 64))), .inr (.inr (.inl (some 65))), .inr (.inr (.inl (some 66))), .inr (.inr (.inl (some 67)))], []]),
  (100, 6, [List.replicate 6 (.inl 0)]),
  (100, 6, [List.replicate 6 (.inl 0)]),
  (100, 6, [List.replicate 6 (.inl 0)]),
  (100, 6, [List.replicate 6 (.inl 0)]),
  (100, 6, [List.replicate 6 (.inl 0)]),
  (100, 6, [List.replicate 6 (.inl 0)]),
  (100, 6, [List.replicate 6 (.inl 0)]),
  (100, 6, [List.replicate 6 (.inl 0)]),
  (100, 6, [List.replicate 6 (.inl 0)]),
  (100, 6, [List.replicate 6 (.inl 0)]),
  (100, 6, [List.replicate 6 (.inl 0)]),
  (100, 6, [List.replicate 6 (.inl 0)]),
  (100, 6, [List.replicate 6 (.inl 0)]),
  (100, 6, [List.replicate 6 (.inl 0)]),
  (100, 6, [List.replicate 6 (.inl 0)]),
  (100, 6, [List.replicate 6 (.inl 0)])]
noncomputable def xSX_1 : List xC := [(100, 6, [List.replicate 6 (.inl 0)]),
  (100, 6, [List.replicate 6 (.inl 0)]),
  (100, 6, [List.replicate 6 (.inl 0)]),
  (100, 6, [List.replicate 6 (.inl 0)]),
  (100, 24, [List.replicate 24 (.inl 0)]),
  (100, 24, [List.replicate 24 (.inl 0)]),
  (100, 24, [List.replicate 24 (.inl 0)]),
  (100, 24, [List.replicate 24 (.inl 0)]),
  (102, 90, [[.inr (.inr (.inl (some 73))), .inr (.inr (.inl (some 74))), .inr (.inr (.inl (some 75))), .inr (.inr (.inl (some 76))), .inr (.inr (.inl (some 77))), .inr (.inr (.inl (some 78))), .inr (.inr (.inl (some 79))), .inr (.inr (.inl (some 80))), .inr (.inr (.inl (some 81))), .inr (.inr (.inl (some 82))), .inr (.inr (.inl (some 83))), .inr (.inr (.inl (some 84))), .inr (.inr (.inl (some 85))), .inr (.inr (.inl (some 86))), .inr (.inr (.inl (some 87))), .inr (.inr (.inl (some 88))), .inr (.inr (.inl (some 89))), .inr (.inr (.inl (some 90))), .inr (.inr (.inl (some 91))), .inr (.inr (.inl (some 92))), .inr (.inr (.inl (some 93))), .inr (.inr (.inl (some 94))), .inr (.inr (.inl (some 95))), .inr (.inr (.inl (some 96))), .inr (.inr (.inl (some 97))), .inr (.inr (.inl (some 98))), .inr (.inr (.inl (some 99))), .inr (.inr (.inl (some 100))), .inr (.inr (.inl (some 101))), .inr (.inr (.inl (some 102))), .inr (.inr (.inl (some 103))), .inr (.inr (.inl (some 104))), .inr (.inr (.inl (some 105))), .inr (.inr (.inl (some 106))), .inr (.inr (.inl (some 107))), .inr (.inr (.inl (some 108))), .inr (.inr (.inl (some 109))), .inr (.inr (.inl (some 110))), .inr (.inr (.inl (some 111))), .inr (.inr (.inl (some 112))), .inr (.inr (.inl (some 113))), .inr (.inr (.inl (some 114))), .inr (.inr (.inl (some 115))), .inr (.inr (.inl (some 116))), .inr (.inr (.inl (some 117))), .inr (.inr (.inl (some 118))), .inr (.inr (.inl (some 119))), .inr (.inr (.inl (some 120))), .inr (.inr (.inl (some 121))), .inr (.inr (.inl (some 122))), .inr (.inr (.inl (some 123))), .inr (.inr (.inl (some 124))), .inr (.inr (.inl (some 125))), .inr (.inr (.inl (some 126))), .inr (.inr (.inl (some 127))), .inr (.inr (.inl (some 128))), .inr (.inr (.inl (some 129))), .inr (.inr (.inl (some 130))), .inr (.inr (.inl (some 131))), .inr (.inr (.inl (some 132))), .inr (.inr (.inl (some 133))), .inr (.inr (.inl (some 134))), .inr (.inr (.inl (some 135))), .inr (.inr (.inl (some 136)))], [.inr (.inr (.inl (some 137))), .inr (.inr (.inl (some 138))), .inr (.inr (.inl (some 139))), .inr (.inr (.inl (some 140))), .inr (.inr (.inl (some 141))), .inr (.inr (.inl (some 142))), .inr (.inr (.inl (some 143))), .inr (.inr (.inl (some 144))), .inr (.inr (.inl (some 145))), .inr (.inr (.inl (some 146))), .inr (.inr (.inl (some 147))), .inr (.inr (.inl (some 148))), .inr (.inr (.inl (some 149))), .inr (.inr (.inl (some 150))), .inr (.inr (.inl (some 151))), .inr (.inr (.inl (some 152))), .inr (.inr (.inl (some 153))), .inr (.inr (.inl (some 154))), .inr (.inr (.inl (some 155))), .inr (.inr (.inl (some 156))), .inr (.inr (.inl (some 157))), .inr (.inr (.inl (some 158))), .inr (.inr (.inl (some 159))), .inr (.inr (.inl (some 160))), .inr (.inr (.inl (some 161))), .inr (.inr (.inl (some 162)))]]),
  (100, 8, [List.replicate 8 (.inl 0)]),
  (100, 8, [List.replicate 8 (.inl 0)]),
  (100, 8, [List.replicate 8 (.inl 0)]),
  (100, 8, [List.replicate 8 (.inl 0)]),
  (100, 8, [List.replicate 8 (.inl 0)]),
  (100, 8, [List.replicate 8 (.inl 0)]),
  (100, 8, [List.replicate 8 (.inl 0)]),
  (100, 8, [List.replicate 8 (.inl 0)]),
  (100, 8, [List.replicate 8 (.inl 0)]),
  (100, 8, [List.replicate 8 (.inl 0)]),
  (100, 8, [List.replicate 8 (.inl 0)]),
  (100, 8, [List.replicate 8 (.inl 0)]),
  (100, 8, [List.replicate 8 (.inl 0)]),
  (100, 8, [List.replicate 8 (.inl 0)]),
  (100, 8, [List.replicate 8 (.inl 0)]),
  (100, 8, [List.replicate 8 (.inl 0)]),
  (100, 8, [List.replicate 8 (.inl 0)]),
  (100, 8, [List.replicate 8 (.inl 0)]),
  (100, 8, [List.replicate 8 (.inl 0)]),
  (100, 8, [List.replicate 8 (.inl 0)]),
  (100, 8, [List.replicate 8 (.inl 0)]),
  (100, 8, [List.replicate 8 (.inl 0)]),
  (100, 8, [List.replicate 8 (.inl 0)]),
  (100, 8, [List.replicate 8 (.inl 0)]),
  (100, 8, [List.replicate 8 (.inl 0)]),
  (100, 8, [List.replicate 8 (.inl 0)]),
  (100, 8, [List.replicate 8 (.inl 0)]),
  (100, 8, [List.replicate 8 (.inl 0)]),
  (100, 8, [List.replicate 8 (.inl 0)]),
  (100, 8, [List.replicate 8 (.inl 0)]),
  (100, 8, [List.replicate 8 (.inl 0)]),
  (100, 8, [List.replicate 8 (.inl 0)]),
  (100, 8, [List.replicate 8 (.inl 0)]),
  (100, 8, [List.replicate 8 (.inl 0)]),
  (100, 8, [List.replicate 8 (.inl 0)]),
  (100, 8, [List.replicate 8 (.inl 0)]),
  (100, 8, [List.replicate 8 (.inl 0)]),
  (100, 8, [List.replicate 8 (.inl 0)]),
  (100, 8, [List.replicate 8 (.inl 0)]),
  (100, 8, [List.replicate 8 (.inl 0)]),
  (100, 8, [List.replicate 8 (.inl 0)]),
  (100, 8, [List.replicate 8 (.inl 0)]),
  (100, 8, [List.replicate 8 (.inl 0)]),
  (100, 8, [List.replicate 8 (.inl 0)]),
  (100, 8, [List.replicate 8 (.inl 0)]),
  (100, 8, [List.replicate 8 (.inl 0)]),
  (100, 8, [List.replicate 8 (.inl 0)]),
  (100, 8, [List.replicate 8 (.inl 0)]),
  (100, 8, [List.replicate 8 (.inl 0)]),
  (100, 8, [List.replicate 8 (.inl 0)]),
  (100, 8, [List.replicate 8 (.inl 0)]),
  (100, 8, [List.replicate 8 (.inl 0)]),
  (100, 8, [List.replicate 8 (.inl 0)]),
  (100, 8, [List.replicate 8 (.inl 0)]),
  (100, 8, [List.replicate 8 (.inl 0)])]
noncomputable def xSX_2 : List xC := [(100, 8, [List.replicate 8 (.inl 0)]),
  (100, 8, [List.replicate 8 (.inl 0)]),
  (100, 8, [List.replicate 8 (.inl 0)]),
  (100, 8, [List.replicate 8 (.inl 0)]),
  (100, 8, [List.replicate 8 (.inl 0)]),
  (100, 8, [List.replicate 8 (.inl 0)]),
  (100, 8, [List.replicate 8 (.inl 0)]),
  (100, 8, [List.replicate 8 (.inl 0)]),
  (100, 8, [List.replicate 8 (.inl 0)]),
  (100, 8, [List.replicate 8 (.inl 0)]),
  (100, 8, [List.replicate 8 (.inl 0)]),
  (100, 8, [List.replicate 8 (.inl 0)]),
  (100, 8, [List.replicate 8 (.inl 0)]),
  (100, 8, [List.replicate 8 (.inl 0)]),
  (100, 8, [List.replicate 8 (.inl 0)]),
  (100, 8, [List.replicate 8 (.inl 0)]),
  (100, 8, [List.replicate 8 (.inl 0)]),
  (100, 8, [List.replicate 8 (.inl 0)]),
  (100, 8, [List.replicate 8 (.inl 0)]),
  (100, 8, [List.replicate 8 (.inl 0)]),
  (100, 8, [List.replicate 8 (.inl 0)]),
  (100, 8, [List.replicate 8 (.inl 0)]),
  (100, 8, [List.replicate 8 (.inl 0)]),
  (100, 8, [List.replicate 8 (.inl 0)]),
  (100, 8, [List.replicate 8 (.inl 0)]),
  (100, 8, [List.replicate 8 (.inl 0)]),
  (100, 8, [List.replicate 8 (.inl 0)]),
  (100, 8, [List.replicate 8 (.inl 0)]),
  (100, 8, [List.replicate 8 (.inl 0)]),
  (100, 8, [List.replicate 8 (.inl 0)]),
  (100, 8, [List.replicate 8 (.inl 0)]),
  (100, 8, [List.replicate 8 (.inl 0)]),
  (100, 8, [List.replicate 8 (.inl 0)]),
  (100, 8, [List.replicate 8 (.inl 0)]),
  (100, 8, [List.replicate 8 (.inl 0)]),
  (10, 14, [[.inr (.inr (.inl (some 164))), .inr (.inr (.inl (some 165))), .inr (.inr (.inl (some 166))), .inr (.inr (.inl (some 167))), .inr (.inr (.inl (some 168))), .inr (.inr (.inl (some 169))), .inr (.inr (.inl (some 170))), .inr (.inr (.inl (some 171))), .inr (.inr (.inl (some 172))), .inr (.inr (.inl (some 173))), .inr (.inr (.inl (some 174))), .inr (.inr (.inl (some 175))), .inr (.inr (.inl (some 176))), .inl 0]]),
  (100, 24, [List.replicate 24 (.inl 0)]),
  (100, 24, [List.replicate 24 (.inl 0)]),
  (100, 24, [List.replicate 24 (.inl 0)]),
  (100, 24, [List.replicate 24 (.inl 0)]),
  (100, 24, [List.replicate 24 (.inl 0)]),
  (100, 24, [List.replicate 24 (.inl 0)]),
  (100, 24, [List.replicate 24 (.inl 0)]),
  (100, 24, [List.replicate 24 (.inl 0)]),
  (100, 24, [List.replicate 24 (.inl 0)]),
  (100, 24, [List.replicate 24 (.inl 0)]),
  (100, 24, [List.replicate 24 (.inl 0)]),
  (100, 24, [List.replicate 24 (.inl 0)]),
  (100, 24, [List.replicate 24 (.inl 0)]),
  (7, 5, [[.inr (.inr (.inl (some 178))), .inr (.inr (.inl (some 179))), .inr (.inr (.inl (some 180))), .inr (.inr (.inl (some 181))), .inl 0]]),
  (100, 24, [List.replicate 24 (.inl 0)]),
  (100, 24, [List.replicate 24 (.inl 0)]),
  (100, 24, [List.replicate 24 (.inl 0)]),
  (100, 24, [List.replicate 24 (.inl 0)]),
  (100, 6, [List.replicate 6 (.inl 0)]),
  (102, 3, [[.inr (.inr (.inl (some 184))), .inr (.inr (.inl (some 185))), .inr (.inr (.inl (some 186)))], []]),
  (100, 61, [[.inl 900, .inl 888, .inl 876, .inl 864, .inl 852, .inl 840, .inl 828, .inl 816, .inl 804, .inl 792, .inl 780, .inl 768, .inl 756, .inl 744, .inl 732, .inl 720, .inl 708, .inl 696, .inl 684, .inl 672, .inl 660, .inl 648, .inl 636, .inl 624, .inl 612, .inl 600, .inl 588, .inl 576, .inl 564, .inl 552, .inl 540, .inl 528, .inl 516, .inl 504, .inl 492, .inl 480, .inl 468, .inl 456, .inl 444, .inl 432, .inl 420, .inl 408, .inl 396, .inl 384, .inl 372, .inl 360, .inl 348, .inl 336, .inl 324, .inl 312, .inl 300, .inl 288, .inl 276, .inl 264, .inl 252, .inl 240, .inl 228, .inl 216, .inl 204, .inl 192, .inl 180]]),
  (100, 61, [[.inl 600, .inl 590, .inl 580, .inl 570, .inl 560, .inl 550, .inl 540, .inl 530, .inl 520, .inl 510, .inl 500, .inl 490, .inl 480, .inl 470, .inl 460, .inl 450, .inl 440, .inl 430, .inl 420, .inl 410, .inl 400, .inl 390, .inl 380, .inl 370, .inl 360, .inl 350, .inl 340, .inl 330, .inl 320, .inl 310, .inl 300, .inl 290, .inl 280, .inl 270, .inl 260, .inl 250, .inl 240, .inl 230, .inl 220, .inl 210, .inl 200, .inl 190, .inl 180, .inl 170, .inl 160, .inl 150, .inl 140, .inl 130, .inl 120, .inl 110, .inl 100, .inl 90, .inl 80, .inl 70, .inl 60, .inl 50, .inl 40, .inl 30, .inl 20, .inl 10, .inl 0]]),
  (100, 61, [[.inl 60, .inl 59, .inl 58, .inl 57, .inl 56, .inl 55, .inl 54, .inl 53, .inl 52, .inl 51, .inl 50, .inl 49, .inl 48, .inl 47, .inl 46, .inl 45, .inl 44, .inl 43, .inl 42, .inl 41, .inl 40, .inl 39, .inl 38, .inl 37, .inl 36, .inl 35, .inl 34, .inl 33, .inl 32, .inl 31, .inl 30, .inl 29, .inl 28, .inl 27, .inl 26, .inl 25, .inl 24, .inl 23, .inl 22, .inl 21, .inl 20, .inl 19, .inl 18, .inl 17, .inl 16, .inl 15, .inl 14, .inl 13, .inl 12, .inl 11, .inl 10, .inl 9, .inl 8, .inl 7, .inl 6, .inl 5, .inl 4, .inl 3, .inl 2, .inl 1, .inl 0]]),
  (1, 14, [[.inr (.inr (.inl (some 188))), .inr (.inr (.inl (some 189))), .inr (.inr (.inl (some 190))), .inr (.inr (.inl (some 191))), .inr (.inr (.inl (some 192))), .inr (.inr (.inl (some 193))), .inl 0, .inl 3294967291, .inl 0, .inr (.inr (.inl (some 206))), .inr (.inr (.inl (some 207))), .inr (.inr (.inl (some 208))), .inr (.inr (.inl (some 209))), .inr (.inr (.inl (some 210)))]]),
  (100, 12, [List.replicate 12 (.inl 0)]),
  (100, 12, [List.replicate 12 (.inl 0)]),
  (100, 12, [List.replicate 12 (.inl 0)]),
  (100, 12, [List.replicate 12 (.inl 0)])]
noncomputable def xSX_3 : List xC := [(100, 12, [List.replicate 12 (.inl 0)]),
  (102, 12, [[.inr (.inr (.inl (some 194))), .inr (.inr (.inl (some 195))), .inr (.inr (.inl (some 196))), .inr (.inr (.inl (some 197))), .inr (.inr (.inl (some 198))), .inr (.inr (.inl (some 199))), .inr (.inr (.inl (some 200))), .inr (.inr (.inl (some 201))), .inr (.inr (.inl (some 202))), .inr (.inr (.inl (some 203))), .inr (.inr (.inl (some 204))), .inr (.inr (.inl (some 205)))], []]),
  (100, 96, [List.replicate 64 (.inl 0), List.replicate 32 (.inl 0)]),
  (100, 96, [List.replicate 64 (.inl 0), List.replicate 32 (.inl 0)]),
  (100, 96, [List.replicate 64 (.inl 0), List.replicate 32 (.inl 0)]),
  (100, 96, [List.replicate 64 (.inl 0), List.replicate 32 (.inl 0)]),
  (100, 96, [List.replicate 64 (.inl 0), List.replicate 32 (.inl 0)]),
  (100, 96, [List.replicate 64 (.inl 0), List.replicate 32 (.inl 0)]),
  (100, 96, [List.replicate 64 (.inl 0), List.replicate 32 (.inl 0)]),
  (100, 96, [List.replicate 64 (.inl 0), List.replicate 32 (.inl 0)]),
  (100, 96, [List.replicate 64 (.inl 0), List.replicate 32 (.inl 0)]),
  (100, 96, [List.replicate 64 (.inl 0), List.replicate 32 (.inl 0)]),
  (100, 96, [List.replicate 64 (.inl 0), List.replicate 32 (.inl 0)]),
  (100, 96, [List.replicate 64 (.inl 0), List.replicate 32 (.inl 0)]),
  (100, 24, [List.replicate 24 (.inl 0)]),
  (100, 26, [List.replicate 26 (.inl 0)]),
  (100, 96, [List.replicate 64 (.inl 0), List.replicate 32 (.inl 0)]),
  (100, 24, [List.replicate 24 (.inl 0)]),
  (100, 24, [List.replicate 24 (.inl 0)]),
  (4, 16, [[.inr (.inr (.inl (some 212))), .inr (.inr (.inl (some 221))), .inr (.inr (.inl (some 222))), .inr (.inr (.inl (some 223))), .inr (.inr (.inl (some 224))), .inr (.inr (.inl (some 249))), .inr (.inr (.inl (some 250))), .inr (.inr (.inl (some 251))), .inl 0, .inr (.inr (.inl (some 252))), .inr (.inr (.inl (some 253))), .inl 0, .inr (.inr (.inl (some 254))), .inr (.inr (.inl (some 255))), .inr (.inr (.inl (some 256))), .inl 0]]),
  (102, 8, [[.inr (.inr (.inl (some 213))), .inr (.inr (.inl (some 214))), .inr (.inr (.inl (some 215))), .inr (.inr (.inl (some 216))), .inr (.inr (.inl (some 217))), .inr (.inr (.inl (some 218))), .inr (.inr (.inl (some 219))), .inr (.inr (.inl (some 220)))], []]),
  (100, 12, [List.replicate 12 (.inl 0)]),
  (100, 12, [List.replicate 12 (.inl 0)]),
  (100, 12, [List.replicate 12 (.inl 0)]),
  (100, 12, [List.replicate 12 (.inl 0)]),
  (100, 12, [List.replicate 12 (.inl 0)]),
  (100, 12, [List.replicate 12 (.inl 0)]),
  (100, 12, [List.replicate 12 (.inl 0)]),
  (100, 12, [List.replicate 12 (.inl 0)]),
  (100, 8, [List.replicate 8 (.inl 4294967295)]),
  (100, 48, [List.replicate 48 (.inl 0)]),
  (100, 4, [List.replicate 4 (.inl 0)]),
  (102, 24, [[.inr (.inr (.inl (some 225))), .inr (.inr (.inl (some 226))), .inr (.inr (.inl (some 227))), .inr (.inr (.inl (some 228))), .inr (.inr (.inl (some 229))), .inr (.inr (.inl (some 230))), .inr (.inr (.inl (some 231))), .inr (.inr (.inl (some 232))), .inr (.inr (.inl (some 233))), .inr (.inr (.inl (some 234))), .inr (.inr (.inl (some 235))), .inr (.inr (.inl (some 236))), .inr (.inr (.inl (some 237))), .inr (.inr (.inl (some 238))), .inr (.inr (.inl (some 239))), .inr (.inr (.inl (some 240))), .inr (.inr (.inl (some 241))), .inr (.inr (.inl (some 242))), .inr (.inr (.inl (some 243))), .inr (.inr (.inl (some 244))), .inr (.inr (.inl (some 245))), .inr (.inr (.inl (some 246))), .inr (.inr (.inl (some 247))), .inr (.inr (.inl (some 248)))], []]),
  (100, 4, [List.replicate 4 (.inl 0)]),
  (100, 4, [List.replicate 4 (.inl 0)]),
  (100, 4, [List.replicate 4 (.inl 0)]),
  (100, 4, [List.replicate 4 (.inl 0)]),
  (100, 4, [List.replicate 4 (.inl 0)]),
  (100, 4, [List.replicate 4 (.inl 0)]),
  (100, 4, [List.replicate 4 (.inl 0)]),
  (100, 4, [List.replicate 4 (.inl 0)]),
  (100, 4, [List.replicate 4 (.inl 0)]),
  (100, 4, [List.replicate 4 (.inl 0)]),
  (100, 4, [List.replicate 4 (.inl 0)]),
  (100, 4, [List.replicate 4 (.inl 0)]),
  (100, 4, [List.replicate 4 (.inl 0)]),
  (100, 4, [List.replicate 4 (.inl 0)]),
  (100, 4, [List.replicate 4 (.inl 0)]),
  (100, 4, [List.replicate 4 (.inl 0)]),
  (100, 4, [List.replicate 4 (.inl 0)]),
  (100, 4, [List.replicate 4 (.inl 0)]),
  (100, 4, [List.replicate 4 (.inl 0)]),
  (100, 4, [List.replicate 4 (.inl 0)]),
  (100, 4, [List.replicate 4 (.inl 0)]),
  (100, 4, [List.replicate 4 (.inl 0)]),
  (100, 4, [List.replicate 4 (.inl 0)]),
  (100, 4, [List.replicate 4 (.inl 0)]),
  (100, 6, [List.replicate 6 (.inl 0)]),
  (100, 6, [List.replicate 6 (.inl 0)]),
  (100, 6, [List.replicate 6 (.inl 0)]),
  (100, 10, [List.replicate 10 (.inl 0)]),
  (100, 10, [List.replicate 10 (.inl 0)]),
  (100, 7, [List.replicate 7 (.inl 0)]),
  (100, 7, [List.replicate 7 (.inl 0)])]
noncomputable def xSX_4 : List xC := [(100, 7, [List.replicate 7 (.inl 0)]),
  (2, 10, [[.inr (.inr (.inl (some 258))), .inr (.inr (.inl (some 419))), .inr (.inr (.inl (some 433))), .inr (.inr (.inl (some 438))), .inr (.inr (.inl (some 439))), .inl 300, .inl 0, .inl 5760, .inl 10, .inl 0]]),
  (0, 13, [[.inr (.inr (.inl (some 259))), .inr (.inr (.inl (some 260))), .inr (.inr (.inl (some 261))), .inr (.inr (.inl (some 282))), .inr (.inr (.inl (some 303))), .inl 0, .inr (.inr (.inl (some 324))), .inr (.inr (.inl (some 325))), .inr (.inr (.inl (some 326))), .inr (.inr (.inl (some 327))), .inl 0, .inr (.inr (.inl (some 328))), .inl 0]]),
  (100, 20, [List.replicate 20 (.inl 0)]),
  (100, 20, [List.replicate 20 (.inl 0)]),
  (102, 20, [[.inr (.inr (.inl (some 262))), .inr (.inr (.inl (some 263))), .inr (.inr (.inl (some 264))), .inr (.inr (.inl (some 265))), .inr (.inr (.inl (some 266))), .inr (.inr (.inl (some 267))), .inr (.inr (.inl (some 268))), .inr (.inr (.inl (some 269))), .inr (.inr (.inl (some 270))), .inr (.inr (.inl (some 271))), .inr (.inr (.inl (some 272))), .inr (.inr (.inl (some 273))), .inr (.inr (.inl (some 274))), .inr (.inr (.inl (some 275))), .inr (.inr (.inl (some 276))), .inr (.inr (.inl (some 277))), .inr (.inr (.inl (some 278))), .inr (.inr (.inl (some 279))), .inr (.inr (.inl (some 280))), .inr (.inr (.inl (some 281)))], []]),
  (100, 5, [List.replicate 5 (.inl 0)]),
  (100, 5, [List.replicate 5 (.inl 0)]),
  (100, 5, [List.replicate 5 (.inl 0)]),
  (100, 5, [List.replicate 5 (.inl 0)]),
  (100, 5, [List.replicate 5 (.inl 0)]),
  (100, 5, [List.replicate 5 (.inl 0)]),
  (100, 5, [List.replicate 5 (.inl 0)]),
  (100, 5, [List.replicate 5 (.inl 0)]),
  (100, 5, [List.replicate 5 (.inl 0)]),
  (100, 5, [List.replicate 5 (.inl 0)]),
  (100, 5, [List.replicate 5 (.inl 0)]),
  (100, 5, [List.replicate 5 (.inl 0)]),
  (100, 5, [List.replicate 5 (.inl 0)]),
  (100, 5, [List.replicate 5 (.inl 0)]),
  (100, 5, [List.replicate 5 (.inl 0)]),
  (100, 5, [List.replicate 5 (.inl 0)]),
  (100, 5, [List.replicate 5 (.inl 0)]),
  (100, 5, [List.replicate 5 (.inl 0)]),
  (100, 5, [List.replicate 5 (.inl 0)]),
  (100, 5, [List.replicate 5 (.inl 0)]),
  (102, 20, [[.inr (.inr (.inl (some 283))), .inr (.inr (.inl (some 284))), .inr (.inr (.inl (some 285))), .inr (.inr (.inl (some 286))), .inr (.inr (.inl (some 287))), .inr (.inr (.inl (some 288))), .inr (.inr (.inl (some 289))), .inr (.inr (.inl (some 290))), .inr (.inr (.inl (some 291))), .inr (.inr (.inl (some 292))), .inr (.inr (.inl (some 293))), .inr (.inr (.inl (some 294))), .inr (.inr (.inl (some 295))), .inr (.inr (.inl (some 296))), .inr (.inr (.inl (some 297))), .inr (.inr (.inl (some 298))), .inr (.inr (.inl (some 299))), .inr (.inr (.inl (some 300))), .inr (.inr (.inl (some 301))), .inr (.inr (.inl (some 302)))], []]),
  (100, 5, [List.replicate 5 (.inl 0)]),
  (100, 5, [List.replicate 5 (.inl 0)]),
  (100, 5, [List.replicate 5 (.inl 0)]),
  (100, 5, [List.replicate 5 (.inl 0)]),
  (100, 5, [List.replicate 5 (.inl 0)]),
  (100, 5, [List.replicate 5 (.inl 0)]),
  (100, 5, [List.replicate 5 (.inl 0)]),
  (100, 5, [List.replicate 5 (.inl 0)]),
  (100, 5, [List.replicate 5 (.inl 0)]),
  (100, 5, [List.replicate 5 (.inl 0)]),
  (100, 5, [List.replicate 5 (.inl 0)]),
  (100, 5, [List.replicate 5 (.inl 0)]),
  (100, 5, [List.replicate 5 (.inl 0)]),
  (100, 5, [List.replicate 5 (.inl 0)]),
  (100, 5, [List.replicate 5 (.inl 0)]),
  (100, 5, [List.replicate 5 (.inl 0)]),
  (100, 5, [List.replicate 5 (.inl 0)]),
  (100, 5, [List.replicate 5 (.inl 0)]),
  (100, 5, [List.replicate 5 (.inl 0)]),
  (100, 5, [List.replicate 5 (.inl 0)]),
  (102, 20, [[.inr (.inr (.inl (some 304))), .inr (.inr (.inl (some 305))), .inr (.inr (.inl (some 306))), .inr (.inr (.inl (some 307))), .inr (.inr (.inl (some 308))), .inr (.inr (.inl (some 309))), .inr (.inr (.inl (some 310))), .inr (.inr (.inl (some 311))), .inr (.inr (.inl (some 312))), .inr (.inr (.inl (some 313))), .inr (.inr (.inl (some 314))), .inr (.inr (.inl (some 315))), .inr (.inr (.inl (some 316))), .inr (.inr (.inl (some 317))), .inr (.inr (.inl (some 318))), .inr (.inr (.inl (some 319))), .inr (.inr (.inl (some 320))), .inr (.inr (.inl (some 321))), .inr (.inr (.inl (some 322))), .inr (.inr (.inl (some 323)))], []]),
  (100, 6, [List.replicate 6 (.inl 0)]),
  (100, 6, [List.replicate 6 (.inl 0)]),
  (100, 6, [List.replicate 6 (.inl 0)]),
  (100, 6, [List.replicate 6 (.inl 0)]),
  (100, 6, [List.replicate 6 (.inl 0)]),
  (100, 6, [List.replicate 6 (.inl 0)]),
  (100, 6, [List.replicate 6 (.inl 0)]),
  (100, 6, [List.replicate 6 (.inl 0)]),
  (100, 6, [List.replicate 6 (.inl 0)]),
  (100, 6, [List.replicate 6 (.inl 0)]),
  (100, 6, [List.replicate 6 (.inl 0)]),
  (100, 6, [List.replicate 6 (.inl 0)]),
  (100, 6, [List.replicate 6 (.inl 0)]),
  (100, 6, [List.replicate 6 (.inl 0)]),
  (100, 6, [List.replicate 6 (.inl 0)]),
  (100, 6, [List.replicate 6 (.inl 0)])]
noncomputable def xSX_5 : List xC := [(100, 6, [List.replicate 6 (.inl 0)]),
  (100, 6, [List.replicate 6 (.inl 0)]),
  (100, 6, [List.replicate 6 (.inl 0)]),
  (100, 6, [List.replicate 6 (.inl 0)]),
  (100, 24, [List.replicate 24 (.inl 0)]),
  (100, 24, [List.replicate 24 (.inl 0)]),
  (100, 24, [List.replicate 24 (.inl 0)]),
  (100, 24, [List.replicate 24 (.inl 0)]),
  (102, 90, [[.inr (.inr (.inl (some 329))), .inr (.inr (.inl (some 330))), .inr (.inr (.inl (some 331))), .inr (.inr (.inl (some 332))), .inr (.inr (.inl (some 333))), .inr (.inr (.inl (some 334))), .inr (.inr (.inl (some 335))), .inr (.inr (.inl (some 336))), .inr (.inr (.inl (some 337))), .inr (.inr (.inl (some 338))), .inr (.inr (.inl (some 339))), .inr (.inr (.inl (some 340))), .inr (.inr (.inl (some 341))), .inr (.inr (.inl (some 342))), .inr (.inr (.inl (some 343))), .inr (.inr (.inl (some 344))), .inr (.inr (.inl (some 345))), .inr (.inr (.inl (some 346))), .inr (.inr (.inl (some 347))), .inr (.inr (.inl (some 348))), .inr (.inr (.inl (some 349))), .inr (.inr (.inl (some 350))), .inr (.inr (.inl (some 351))), .inr (.inr (.inl (some 352))), .inr (.inr (.inl (some 353))), .inr (.inr (.inl (some 354))), .inr (.inr (.inl (some 355))), .inr (.inr (.inl (some 356))), .inr (.inr (.inl (some 357))), .inr (.inr (.inl (some 358))), .inr (.inr (.inl (some 359))), .inr (.inr (.inl (some 360))), .inr (.inr (.inl (some 361))), .inr (.inr (.inl (some 362))), .inr (.inr (.inl (some 363))), .inr (.inr (.inl (some 364))), .inr (.inr (.inl (some 365))), .inr (.inr (.inl (some 366))), .inr (.inr (.inl (some 367))), .inr (.inr (.inl (some 368))), .inr (.inr (.inl (some 369))), .inr (.inr (.inl (some 370))), .inr (.inr (.inl (some 371))), .inr (.inr (.inl (some 372))), .inr (.inr (.inl (some 373))), .inr (.inr (.inl (some 374))), .inr (.inr (.inl (some 375))), .inr (.inr (.inl (some 376))), .inr (.inr (.inl (some 377))), .inr (.inr (.inl (some 378))), .inr (.inr (.inl (some 379))), .inr (.inr (.inl (some 380))), .inr (.inr (.inl (some 381))), .inr (.inr (.inl (some 382))), .inr (.inr (.inl (some 383))), .inr (.inr (.inl (some 384))), .inr (.inr (.inl (some 385))), .inr (.inr (.inl (some 386))), .inr (.inr (.inl (some 387))), .inr (.inr (.inl (some 388))), .inr (.inr (.inl (some 389))), .inr (.inr (.inl (some 390))), .inr (.inr (.inl (some 391))), .inr (.inr (.inl (some 392)))], [.inr (.inr (.inl (some 393))), .inr (.inr (.inl (some 394))), .inr (.inr (.inl (some 395))), .inr (.inr (.inl (some 396))), .inr (.inr (.inl (some 397))), .inr (.inr (.inl (some 398))), .inr (.inr (.inl (some 399))), .inr (.inr (.inl (some 400))), .inr (.inr (.inl (some 401))), .inr (.inr (.inl (some 402))), .inr (.inr (.inl (some 403))), .inr (.inr (.inl (some 404))), .inr (.inr (.inl (some 405))), .inr (.inr (.inl (some 406))), .inr (.inr (.inl (some 407))), .inr (.inr (.inl (some 408))), .inr (.inr (.inl (some 409))), .inr (.inr (.inl (some 410))), .inr (.inr (.inl (some 411))), .inr (.inr (.inl (some 412))), .inr (.inr (.inl (some 413))), .inr (.inr (.inl (some 414))), .inr (.inr (.inl (some 415))), .inr (.inr (.inl (some 416))), .inr (.inr (.inl (some 417))), .inr (.inr (.inl (some 418)))]]),
  (100, 8, [List.replicate 8 (.inl 0)]),
  (100, 8, [List.replicate 8 (.inl 0)]),
  (100, 8, [List.replicate 8 (.inl 0)]),
  (100, 8, [List.replicate 8 (.inl 0)]),
  (100, 8, [List.replicate 8 (.inl 0)]),
  (100, 8, [List.replicate 8 (.inl 0)]),
  (100, 8, [List.replicate 8 (.inl 0)]),
  (100, 8, [List.replicate 8 (.inl 0)]),
  (100, 8, [List.replicate 8 (.inl 0)]),
  (100, 8, [List.replicate 8 (.inl 0)]),
  (100, 8, [List.replicate 8 (.inl 0)]),
  (100, 8, [List.replicate 8 (.inl 0)]),
  (100, 8, [List.replicate 8 (.inl 0)]),
  (100, 8, [List.replicate 8 (.inl 0)]),
  (100, 8, [List.replicate 8 (.inl 0)]),
  (100, 8, [List.replicate 8 (.inl 0)]),
  (100, 8, [List.replicate 8 (.inl 0)]),
  (100, 8, [List.replicate 8 (.inl 0)]),
  (100, 8, [List.replicate 8 (.inl 0)]),
  (100, 8, [List.replicate 8 (.inl 0)]),
  (100, 8, [List.replicate 8 (.inl 0)]),
  (100, 8, [List.replicate 8 (.inl 0)]),
  (100, 8, [List.replicate 8 (.inl 0)]),
  (100, 8, [List.replicate 8 (.inl 0)]),
  (100, 8, [List.replicate 8 (.inl 0)]),
  (100, 8, [List.replicate 8 (.inl 0)]),
  (100, 8, [List.replicate 8 (.inl 0)]),
  (100, 8, [List.replicate 8 (.inl 0)]),
  (100, 8, [List.replicate 8 (.inl 0)]),
  (100, 8, [List.replicate 8 (.inl 0)]),
  (100, 8, [List.replicate 8 (.inl 0)]),
  (100, 8, [List.replicate 8 (.inl 0)]),
  (100, 8, [List.replicate 8 (.inl 0)]),
  (100, 8, [List.replicate 8 (.inl 0)]),
  (100, 8, [List.replicate 8 (.inl 0)]),
  (100, 8, [List.replicate 8 (.inl 0)]),
  (100, 8, [List.replicate 8 (.inl 0)]),
  (100, 8, [List.replicate 8 (.inl 0)]),
  (100, 8, [List.replicate 8 (.inl 0)]),
  (100, 8, [List.replicate 8 (.inl 0)]),
  (100, 8, [List.replicate 8 (.inl 0)]),
  (100, 8, [List.replicate 8 (.inl 0)]),
  (100, 8, [List.replicate 8 (.inl 0)]),
  (100, 8, [List.replicate 8 (.inl 0)]),
  (100, 8, [List.replicate 8 (.inl 0)]),
  (100, 8, [List.replicate 8 (.inl 0)]),
  (100, 8, [List.replicate 8 (.inl 0)]),
  (100, 8, [List.replicate 8 (.inl 0)]),
  (100, 8, [List.replicate 8 (.inl 0)]),
  (100, 8, [List.replicate 8 (.inl 0)]),
  (100, 8, [List.replicate 8 (.inl 0)]),
  (100, 8, [List.replicate 8 (.inl 0)]),
  (100, 8, [List.replicate 8 (.inl 0)]),
  (100, 8, [List.replicate 8 (.inl 0)]),
  (100, 8, [List.replicate 8 (.inl 0)])]
noncomputable def xSX_6 : List xC := [(100, 8, [List.replicate 8 (.inl 0)]),
  (100, 8, [List.replicate 8 (.inl 0)]),
  (100, 8, [List.replicate 8 (.inl 0)]),
  (100, 8, [List.replicate 8 (.inl 0)]),
  (100, 8, [List.replicate 8 (.inl 0)]),
  (100, 8, [List.replicate 8 (.inl 0)]),
  (100, 8, [List.replicate 8 (.inl 0)]),
  (100, 8, [List.replicate 8 (.inl 0)]),
  (100, 8, [List.replicate 8 (.inl 0)]),
  (100, 8, [List.replicate 8 (.inl 0)]),
  (100, 8, [List.replicate 8 (.inl 0)]),
  (100, 8, [List.replicate 8 (.inl 0)]),
  (100, 8, [List.replicate 8 (.inl 0)]),
  (100, 8, [List.replicate 8 (.inl 0)]),
  (100, 8, [List.replicate 8 (.inl 0)]),
  (100, 8, [List.replicate 8 (.inl 0)]),
  (100, 8, [List.replicate 8 (.inl 0)]),
  (100, 8, [List.replicate 8 (.inl 0)]),
  (100, 8, [List.replicate 8 (.inl 0)]),
  (100, 8, [List.replicate 8 (.inl 0)]),
  (100, 8, [List.replicate 8 (.inl 0)]),
  (100, 8, [List.replicate 8 (.inl 0)]),
  (100, 8, [List.replicate 8 (.inl 0)]),
  (100, 8, [List.replicate 8 (.inl 0)]),
  (100, 8, [List.replicate 8 (.inl 0)]),
  (100, 8, [List.replicate 8 (.inl 0)]),
  (100, 8, [List.replicate 8 (.inl 0)]),
  (100, 8, [List.replicate 8 (.inl 0)]),
  (100, 8, [List.replicate 8 (.inl 0)]),
  (100, 8, [List.replicate 8 (.inl 0)]),
  (100, 8, [List.replicate 8 (.inl 0)]),
  (100, 8, [List.replicate 8 (.inl 0)]),
  (100, 8, [List.replicate 8 (.inl 0)]),
  (100, 8, [List.replicate 8 (.inl 0)]),
  (100, 8, [List.replicate 8 (.inl 0)]),
  (10, 14, [[.inr (.inr (.inl (some 420))), .inr (.inr (.inl (some 421))), .inr (.inr (.inl (some 422))), .inr (.inr (.inl (some 423))), .inr (.inr (.inl (some 424))), .inr (.inr (.inl (some 425))), .inr (.inr (.inl (some 426))), .inr (.inr (.inl (some 427))), .inr (.inr (.inl (some 428))), .inr (.inr (.inl (some 429))), .inr (.inr (.inl (some 430))), .inr (.inr (.inl (some 431))), .inr (.inr (.inl (some 432))), .inl 0]]),
  (100, 24, [List.replicate 24 (.inl 0)]),
  (100, 24, [List.replicate 24 (.inl 0)]),
  (100, 24, [List.replicate 24 (.inl 0)]),
  (100, 24, [List.replicate 24 (.inl 0)]),
  (100, 24, [List.replicate 24 (.inl 0)]),
  (100, 24, [List.replicate 24 (.inl 0)]),
  (100, 24, [List.replicate 24 (.inl 0)]),
  (100, 24, [List.replicate 24 (.inl 0)]),
  (100, 24, [List.replicate 24 (.inl 0)]),
  (100, 24, [List.replicate 24 (.inl 0)]),
  (100, 24, [List.replicate 24 (.inl 0)]),
  (100, 24, [List.replicate 24 (.inl 0)]),
  (100, 24, [List.replicate 24 (.inl 0)]),
  (7, 5, [[.inr (.inr (.inl (some 434))), .inr (.inr (.inl (some 435))), .inr (.inr (.inl (some 436))), .inr (.inr (.inl (some 437))), .inl 0]]),
  (100, 24, [List.replicate 24 (.inl 0)]),
  (100, 24, [List.replicate 24 (.inl 0)]),
  (100, 24, [List.replicate 24 (.inl 0)]),
  (100, 24, [List.replicate 24 (.inl 0)]),
  (100, 6, [List.replicate 6 (.inl 0)]),
  (102, 3, [[.inr (.inr (.inl (some 440))), .inr (.inr (.inl (some 441))), .inr (.inr (.inl (some 442)))], []]),
  (100, 61, [[.inl 900, .inl 888, .inl 876, .inl 864, .inl 852, .inl 840, .inl 828, .inl 816, .inl 804, .inl 792, .inl 780, .inl 768, .inl 756, .inl 744, .inl 732, .inl 720, .inl 708, .inl 696, .inl 684, .inl 672, .inl 660, .inl 648, .inl 636, .inl 624, .inl 612, .inl 600, .inl 588, .inl 576, .inl 564, .inl 552, .inl 540, .inl 528, .inl 516, .inl 504, .inl 492, .inl 480, .inl 468, .inl 456, .inl 444, .inl 432, .inl 420, .inl 408, .inl 396, .inl 384, .inl 372, .inl 360, .inl 348, .inl 336, .inl 324, .inl 312, .inl 300, .inl 288, .inl 276, .inl 264, .inl 252, .inl 240, .inl 228, .inl 216, .inl 204, .inl 192, .inl 180]]),
  (100, 61, [[.inl 600, .inl 590, .inl 580, .inl 570, .inl 560, .inl 550, .inl 540, .inl 530, .inl 520, .inl 510, .inl 500, .inl 490, .inl 480, .inl 470, .inl 460, .inl 450, .inl 440, .inl 430, .inl 420, .inl 410, .inl 400, .inl 390, .inl 380, .inl 370, .inl 360, .inl 350, .inl 340, .inl 330, .inl 320, .inl 310, .inl 300, .inl 290, .inl 280, .inl 270, .inl 260, .inl 250, .inl 240, .inl 230, .inl 220, .inl 210, .inl 200, .inl 190, .inl 180, .inl 170, .inl 160, .inl 150, .inl 140, .inl 130, .inl 120, .inl 110, .inl 100, .inl 90, .inl 80, .inl 70, .inl 60, .inl 50, .inl 40, .inl 30, .inl 20, .inl 10, .inl 0]]),
  (100, 61, [[.inl 60, .inl 59, .inl 58, .inl 57, .inl 56, .inl 55, .inl 54, .inl 53, .inl 52, .inl 51, .inl 50, .inl 49, .inl 48, .inl 47, .inl 46, .inl 45, .inl 44, .inl 43, .inl 42, .inl 41, .inl 40, .inl 39, .inl 38, .inl 37, .inl 36, .inl 35, .inl 34, .inl 33, .inl 32, .inl 31, .inl 30, .inl 29, .inl 28, .inl 27, .inl 26, .inl 25, .inl 24, .inl 23, .inl 22, .inl 21, .inl 20, .inl 19, .inl 18, .inl 17, .inl 16, .inl 15, .inl 14, .inl 13, .inl 12, .inl 11, .inl 10, .inl 9, .inl 8, .inl 7, .inl 6, .inl 5, .inl 4, .inl 3, .inl 2, .inl 1, .inl 0]]),
  (1, 14, [[.inr (.inr (.inl (some 444))), .inr (.inr (.inl (some 445))), .inr (.inr (.inl (some 446))), .inr (.inr (.inl (some 447))), .inr (.inr (.inl (some 448))), .inr (.inr (.inl (some 449))), .inl 0, .inl 3294967291, .inl 0, .inr (.inr (.inl (some 462))), .inr (.inr (.inl (some 463))), .inr (.inr (.inl (some 464))), .inr (.inr (.inl (some 465))), .inr (.inr (.inl (some 466)))]]),
  (100, 12, [List.replicate 12 (.inl 0)]),
  (100, 12, [List.replicate 12 (.inl 0)]),
  (100, 12, [List.replicate 12 (.inl 0)]),
  (100, 12, [List.replicate 12 (.inl 0)])]
noncomputable def xSX_7 : List xC := [(100, 12, [List.replicate 12 (.inl 0)]),
  (102, 12, [[.inr (.inr (.inl (some 450))), .inr (.inr (.inl (some 451))), .inr (.inr (.inl (some 452))), .inr (.inr (.inl (some 453))), .inr (.inr (.inl (some 454))), .inr (.inr (.inl (some 455))), .inr (.inr (.inl (some 456))), .inr (.inr (.inl (some 457))), .inr (.inr (.inl (some 458))), .inr (.inr (.inl (some 459))), .inr (.inr (.inl (some 460))), .inr (.inr (.inl (some 461)))], []]),
  (100, 96, [List.replicate 64 (.inl 0), List.replicate 32 (.inl 0)]),
  (100, 96, [List.replicate 64 (.inl 0), List.replicate 32 (.inl 0)]),
  (100, 96, [List.replicate 64 (.inl 0), List.replicate 32 (.inl 0)]),
  (100, 96, [List.replicate 64 (.inl 0), List.replicate 32 (.inl 0)]),
  (100, 96, [List.replicate 64 (.inl 0), List.replicate 32 (.inl 0)]),
  (100, 96, [List.replicate 64 (.inl 0), List.replicate 32 (.inl 0)]),
  (100, 96, [List.replicate 64 (.inl 0), List.replicate 32 (.inl 0)]),
  (100, 96, [List.replicate 64 (.inl 0), List.replicate 32 (.inl 0)]),
  (100, 96, [List.replicate 64 (.inl 0), List.replicate 32 (.inl 0)]),
  (100, 96, [List.replicate 64 (.inl 0), List.replicate 32 (.inl 0)]),
  (100, 96, [List.replicate 64 (.inl 0), List.replicate 32 (.inl 0)]),
  (100, 96, [List.replicate 64 (.inl 0), List.replicate 32 (.inl 0)]),
  (100, 24, [List.replicate 24 (.inl 0)]),
  (100, 26, [List.replicate 26 (.inl 0)]),
  (100, 96, [List.replicate 64 (.inl 0), List.replicate 32 (.inl 0)]),
  (100, 24, [List.replicate 24 (.inl 0)]),
  (100, 24, [List.replicate 24 (.inl 0)]),
  (4, 16, [[.inr (.inr (.inl (some 468))), .inr (.inr (.inl (some 477))), .inr (.inr (.inl (some 478))), .inr (.inr (.inl (some 479))), .inr (.inr (.inl (some 480))), .inr (.inr (.inl (some 505))), .inr (.inr (.inl (some 506))), .inr (.inr (.inl (some 507))), .inl 0, .inr (.inr (.inl (some 508))), .inr (.inr (.inl (some 509))), .inl 0, .inr (.inr (.inl (some 510))), .inr (.inr (.inl (some 511))), .inr (.inr (.inl (some 512))), .inl 0]]),
  (102, 8, [[.inr (.inr (.inl (some 469))), .inr (.inr (.inl (some 470))), .inr (.inr (.inl (some 471))), .inr (.inr (.inl (some 472))), .inr (.inr (.inl (some 473))), .inr (.inr (.inl (some 474))), .inr (.inr (.inl (some 475))), .inr (.inr (.inl (some 476)))], []]),
  (100, 12, [List.replicate 12 (.inl 0)]),
  (100, 12, [List.replicate 12 (.inl 0)]),
  (100, 12, [List.replicate 12 (.inl 0)]),
  (100, 12, [List.replicate 12 (.inl 0)]),
  (100, 12, [List.replicate 12 (.inl 0)]),
  (100, 12, [List.replicate 12 (.inl 0)]),
  (100, 12, [List.replicate 12 (.inl 0)]),
  (100, 12, [List.replicate 12 (.inl 0)]),
  (100, 8, [List.replicate 8 (.inl 4294967295)]),
  (100, 48, [List.replicate 48 (.inl 0)]),
  (100, 4, [List.replicate 4 (.inl 0)]),
  (102, 24, [[.inr (.inr (.inl (some 481))), .inr (.inr (.inl (some 482))), .inr (.inr (.inl (some 483))), .inr (.inr (.inl (some 484))), .inr (.inr (.inl (some 485))), .inr (.inr (.inl (some 486))), .inr (.inr (.inl (some 487))), .inr (.inr (.inl (some 488))), .inr (.inr (.inl (some 489))), .inr (.inr (.inl (some 490))), .inr (.inr (.inl (some 491))), .inr (.inr (.inl (some 492))), .inr (.inr (.inl (some 493))), .inr (.inr (.inl (some 494))), .inr (.inr (.inl (some 495))), .inr (.inr (.inl (some 496))), .inr (.inr (.inl (some 497))), .inr (.inr (.inl (some 498))), .inr (.inr (.inl (some 499))), .inr (.inr (.inl (some 500))), .inr (.inr (.inl (some 501))), .inr (.inr (.inl (some 502))), .inr (.inr (.inl (some 503))), .inr (.inr (.inl (some 504)))], []]),
  (100, 4, [List.replicate 4 (.inl 0)]),
  (100, 4, [List.replicate 4 (.inl 0)]),
  (100, 4, [List.replicate 4 (.inl 0)]),
  (100, 4, [List.replicate 4 (.inl 0)]),
  (100, 4, [List.replicate 4 (.inl 0)]),
  (100, 4, [List.replicate 4 (.inl 0)]),
  (100, 4, [List.replicate 4 (.inl 0)]),
  (100, 4, [List.replicate 4 (.inl 0)]),
  (100, 4, [List.replicate 4 (.inl 0)]),
  (100, 4, [List.replicate 4 (.inl 0)]),
  (100, 4, [List.replicate 4 (.inl 0)]),
  (100, 4, [List.replicate 4 (.inl 0)]),
  (100, 4, [List.replicate 4 (.inl 0)]),
  (100, 4, [List.replicate 4 (.inl 0)]),
  (100, 4, [List.replicate 4 (.inl 0)]),
  (100, 4, [List.replicate 4 (.inl 0)]),
  (100, 4, [List.replicate 4 (.inl 0)]),
  (100, 4, [List.replicate 4 (.inl 0)]),
  (100, 4, [List.replicate 4 (.inl 0)]),
  (100, 4, [List.replicate 4 (.inl 0)]),
  (100, 4, [List.replicate 4 (.inl 0)]),
  (100, 4, [List.replicate 4 (.inl 0)]),
  (100, 4, [List.replicate 4 (.inl 0)]),
  (100, 4, [List.replicate 4 (.inl 0)]),
  (100, 6, [List.replicate 6 (.inl 0)]),
  (100, 6, [List.replicate 6 (.inl 0)]),
  (100, 6, [List.replicate 6 (.inl 0)]),
  (100, 10, [List.replicate 10 (.inl 0)]),
  (100, 10, [List.replicate 10 (.inl 0)]),
  (100, 7, [List.replicate 7 (.inl 0)]),
  (100, 7, [List.replicate 7 (.inl 0)])]
noncomputable def xSX_8 : List xC := [(100, 7, [List.replicate 7 (.inl 0)]),
  (2, 10, [[.inr (.inr (.inl (some 514))), .inr (.inr (.inl (some 675))), .inr (.inr (.inl (some 689))), .inr (.inr (.inl (some 694))), .inr (.inr (.inl (some 695))), .inl 300, .inl 0, .inl 5760, .inl 10, .inl 0]]),
  (0, 13, [[.inr (.inr (.inl (some 515))), .inr (.inr (.inl (some 516))), .inr (.inr (.inl (some 517))), .inr (.inr (.inl (some 538))), .inr (.inr (.inl (some 559))), .inl 0, .inr (.inr (.inl (some 580))), .inr (.inr (.inl (some 581))), .inr (.inr (.inl (some 582))), .inr (.inr (.inl (some 583))), .inl 0, .inr (.inr (.inl (some 584))), .inl 0]]),
  (100, 20, [List.replicate 20 (.inl 0)]),
  (100, 20, [List.replicate 20 (.inl 0)]),
  (102, 20, [[.inr (.inr (.inl (some 518))), .inr (.inr (.inl (some 519))), .inr (.inr (.inl (some 520))), .inr (.inr (.inl (some 521))), .inr (.inr (.inl (some 522))), .inr (.inr (.inl (some 523))), .inr (.inr (.inl (some 524))), .inr (.inr (.inl (some 525))), .inr (.inr (.inl (some 526))), .inr (.inr (.inl (some 527))), .inr (.inr (.inl (some 528))), .inr (.inr (.inl (some 529))), .inr (.inr (.inl (some 530))), .inr (.inr (.inl (some 531))), .inr (.inr (.inl (some 532))), .inr (.inr (.inl (some 533))), .inr (.inr (.inl (some 534))), .inr (.inr (.inl (some 535))), .inr (.inr (.inl (some 536))), .inr (.inr (.inl (some 537)))], []]),
  (100, 5, [List.replicate 5 (.inl 0)]),
  (100, 5, [List.replicate 5 (.inl 0)]),
  (100, 5, [List.replicate 5 (.inl 0)]),
  (100, 5, [List.replicate 5 (.inl 0)]),
  (100, 5, [List.replicate 5 (.inl 0)]),
  (100, 5, [List.replicate 5 (.inl 0)]),
  (100, 5, [List.replicate 5 (.inl 0)]),
  (100, 5, [List.replicate 5 (.inl 0)]),
  (100, 5, [List.replicate 5 (.inl 0)]),
  (100, 5, [List.replicate 5 (.inl 0)]),
  (100, 5, [List.replicate 5 (.inl 0)]),
  (100, 5, [List.replicate 5 (.inl 0)]),
  (100, 5, [List.replicate 5 (.inl 0)]),
  (100, 5, [List.replicate 5 (.inl 0)]),
  (100, 5, [List.replicate 5 (.inl 0)]),
  (100, 5, [List.replicate 5 (.inl 0)]),
  (100, 5, [List.replicate 5 (.inl 0)]),
  (100, 5, [List.replicate 5 (.inl 0)]),
  (100, 5, [List.replicate 5 (.inl 0)]),
  (100, 5, [List.replicate 5 (.inl 0)]),
  (102, 20, [[.inr (.inr (.inl (some 539))), .inr (.inr (.inl (some 540))), .inr (.inr (.inl (some 541))), .inr (.inr (.inl (some 542))), .inr (.inr (.inl (some 543))), .inr (.inr (.inl (some 544))), .inr (.inr (.inl (some 545))), .inr (.inr (.inl (some 546))), .inr (.inr (.inl (some 547))), .inr (.inr (.inl (some 548))), .inr (.inr (.inl (some 549))), .inr (.inr (.inl (some 550))), .inr (.inr (.inl (some 551))), .inr (.inr (.inl (some 552))), .inr (.inr (.inl (some 553))), .inr (.inr (.inl (some 554))), .inr (.inr (.inl (some 555))), .inr (.inr (.inl (some 556))), .inr (.inr (.inl (some 557))), .inr (.inr (.inl (some 558)))], []]),
  (100, 5, [List.replicate 5 (.inl 0)]),
  (100, 5, [List.replicate 5 (.inl 0)]),
  (100, 5, [List.replicate 5 (.inl 0)]),
  (100, 5, [List.replicate 5 (.inl 0)]),
  (100, 5, [List.replicate 5 (.inl 0)]),
  (100, 5, [List.replicate 5 (.inl 0)]),
  (100, 5, [List.replicate 5 (.inl 0)]),
  (100, 5, [List.replicate 5 (.inl 0)]),
  (100, 5, [List.replicate 5 (.inl 0)]),
  (100, 5, [List.replicate 5 (.inl 0)]),
  (100, 5, [List.replicate 5 (.inl 0)]),
  (100, 5, [List.replicate 5 (.inl 0)]),
  (100, 5, [List.replicate 5 (.inl 0)]),
  (100, 5, [List.replicate 5 (.inl 0)]),
  (100, 5, [List.replicate 5 (.inl 0)]),
  (100, 5, [List.replicate 5 (.inl 0)]),
  (100, 5, [List.replicate 5 (.inl 0)]),
  (100, 5, [List.replicate 5 (.inl 0)]),
  (100, 5, [List.replicate 5 (.inl 0)]),
  (100, 5, [List.replicate 5 (.inl 0)]),
  (102, 20, [[.inr (.inr (.inl (some 560))), .inr (.inr (.inl (some 561))), .inr (.inr (.inl (some 562))), .inr (.inr (.inl (some 563))), .inr (.inr (.inl (some 564))), .inr (.inr (.inl (some 565))), .inr (.inr (.inl (some 566))), .inr (.inr (.inl (some 567))), .inr (.inr (.inl (some 568))), .inr (.inr (.inl (some 569))), .inr (.inr (.inl (some 570))), .inr (.inr (.inl (some 571))), .inr (.inr (.inl (some 572))), .inr (.inr (.inl (some 573))), .inr (.inr (.inl (some 574))), .inr (.inr (.inl (some 575))), .inr (.inr (.inl (some 576))), .inr (.inr (.inl (some 577))), .inr (.inr (.inl (some 578))), .inr (.inr (.inl (some 579)))], []]),
  (100, 6, [List.replicate 6 (.inl 0)]),
  (100, 6, [List.replicate 6 (.inl 0)]),
  (100, 6, [List.replicate 6 (.inl 0)]),
  (100, 6, [List.replicate 6 (.inl 0)]),
  (100, 6, [List.replicate 6 (.inl 0)]),
  (100, 6, [List.replicate 6 (.inl 0)]),
  (100, 6, [List.replicate 6 (.inl 0)]),
  (100, 6, [List.replicate 6 (.inl 0)]),
  (100, 6, [List.replicate 6 (.inl 0)]),
  (100, 6, [List.replicate 6 (.inl 0)]),
  (100, 6, [List.replicate 6 (.inl 0)]),
  (100, 6, [List.replicate 6 (.inl 0)]),
  (100, 6, [List.replicate 6 (.inl 0)]),
  (100, 6, [List.replicate 6 (.inl 0)]),
  (100, 6, [List.replicate 6 (.inl 0)]),
  (100, 6, [List.replicate 6 (.inl 0)])]
noncomputable def xSX_9 : List xC := [(100, 6, [List.replicate 6 (.inl 0)]),
  (100, 6, [List.replicate 6 (.inl 0)]),
  (100, 6, [List.replicate 6 (.inl 0)]),
  (100, 6, [List.replicate 6 (.inl 0)]),
  (100, 24, [List.replicate 24 (.inl 0)]),
  (100, 24, [List.replicate 24 (.inl 0)]),
  (100, 24, [List.replicate 24 (.inl 0)]),
  (100, 24, [List.replicate 24 (.inl 0)]),
  (102, 90, [[.inr (.inr (.inl (some 585))), .inr (.inr (.inl (some 586))), .inr (.inr (.inl (some 587))), .inr (.inr (.inl (some 588))), .inr (.inr (.inl (some 589))), .inr (.inr (.inl (some 590))), .inr (.inr (.inl (some 591))), .inr (.inr (.inl (some 592))), .inr (.inr (.inl (some 593))), .inr (.inr (.inl (some 594))), .inr (.inr (.inl (some 595))), .inr (.inr (.inl (some 596))), .inr (.inr (.inl (some 597))), .inr (.inr (.inl (some 598))), .inr (.inr (.inl (some 599))), .inr (.inr (.inl (some 600))), .inr (.inr (.inl (some 601))), .inr (.inr (.inl (some 602))), .inr (.inr (.inl (some 603))), .inr (.inr (.inl (some 604))), .inr (.inr (.inl (some 605))), .inr (.inr (.inl (some 606))), .inr (.inr (.inl (some 607))), .inr (.inr (.inl (some 608))), .inr (.inr (.inl (some 609))), .inr (.inr (.inl (some 610))), .inr (.inr (.inl (some 611))), .inr (.inr (.inl (some 612))), .inr (.inr (.inl (some 613))), .inr (.inr (.inl (some 614))), .inr (.inr (.inl (some 615))), .inr (.inr (.inl (some 616))), .inr (.inr (.inl (some 617))), .inr (.inr (.inl (some 618))), .inr (.inr (.inl (some 619))), .inr (.inr (.inl (some 620))), .inr (.inr (.inl (some 621))), .inr (.inr (.inl (some 622))), .inr (.inr (.inl (some 623))), .inr (.inr (.inl (some 624))), .inr (.inr (.inl (some 625))), .inr (.inr (.inl (some 626))), .inr (.inr (.inl (some 627))), .inr (.inr (.inl (some 628))), .inr (.inr (.inl (some 629))), .inr (.inr (.inl (some 630))), .inr (.inr (.inl (some 631))), .inr (.inr (.inl (some 632))), .inr (.inr (.inl (some 633))), .inr (.inr (.inl (some 634))), .inr (.inr (.inl (some 635))), .inr (.inr (.inl (some 636))), .inr (.inr (.inl (some 637))), .inr (.inr (.inl (some 638))), .inr (.inr (.inl (some 639))), .inr (.inr (.inl (some 640))), .inr (.inr (.inl (some 641))), .inr (.inr (.inl (some 642))), .inr (.inr (.inl (some 643))), .inr (.inr (.inl (some 644))), .inr (.inr (.inl (some 645))), .inr (.inr (.inl (some 646))), .inr (.inr (.inl (some 647))), .inr (.inr (.inl (some 648)))], [.inr (.inr (.inl (some 649))), .inr (.inr (.inl (some 650))), .inr (.inr (.inl (some 651))), .inr (.inr (.inl (some 652))), .inr (.inr (.inl (some 653))), .inr (.inr (.inl (some 654))), .inr (.inr (.inl (some 655))), .inr (.inr (.inl (some 656))), .inr (.inr (.inl (some 657))), .inr (.inr (.inl (some 658))), .inr (.inr (.inl (some 659))), .inr (.inr (.inl (some 660))), .inr (.inr (.inl (some 661))), .inr (.inr (.inl (some 662))), .inr (.inr (.inl (some 663))), .inr (.inr (.inl (some 664))), .inr (.inr (.inl (some 665))), .inr (.inr (.inl (some 666))), .inr (.inr (.inl (some 667))), .inr (.inr (.inl (some 668))), .inr (.inr (.inl (some 669))), .inr (.inr (.inl (some 670))), .inr (.inr (.inl (some 671))), .inr (.inr (.inl (some 672))), .inr (.inr (.inl (some 673))), .inr (.inr (.inl (some 674)))]]),
  (100, 8, [List.replicate 8 (.inl 0)]),
  (100, 8, [List.replicate 8 (.inl 0)]),
  (100, 8, [List.replicate 8 (.inl 0)]),
  (100, 8, [List.replicate 8 (.inl 0)]),
  (100, 8, [List.replicate 8 (.inl 0)]),
  (100, 8, [List.replicate 8 (.inl 0)]),
  (100, 8, [List.replicate 8 (.inl 0)]),
  (100, 8, [List.replicate 8 (.inl 0)]),
  (100, 8, [List.replicate 8 (.inl 0)]),
  (100, 8, [List.replicate 8 (.inl 0)]),
  (100, 8, [List.replicate 8 (.inl 0)]),
  (100, 8, [List.replicate 8 (.inl 0)]),
  (100, 8, [List.replicate 8 (.inl 0)]),
  (100, 8, [List.replicate 8 (.inl 0)]),
  (100, 8, [List.replicate 8 (.inl 0)]),
  (100, 8, [List.replicate 8 (.inl 0)]),
  (100, 8, [List.replicate 8 (.inl 0)]),
  (100, 8, [List.replicate 8 (.inl 0)]),
  (100, 8, [List.replicate 8 (.inl 0)]),
  (100, 8, [List.replicate 8 (.inl 0)]),
  (100, 8, [List.replicate 8 (.inl 0)]),
  (100, 8, [List.replicate 8 (.inl 0)]),
  (100, 8, [List.replicate 8 (.inl 0)]),
  (100, 8, [List.replicate 8 (.inl 0)]),
  (100, 8, [List.replicate 8 (.inl 0)]),
  (100, 8, [List.replicate 8 (.inl 0)]),
  (100, 8, [List.replicate 8 (.inl 0)]),
  (100, 8, [List.replicate 8 (.inl 0)]),
  (100, 8, [List.replicate 8 (.inl 0)]),
  (100, 8, [List.replicate 8 (.inl 0)]),
  (100, 8, [List.replicate 8 (.inl 0)]),
  (100, 8, [List.replicate 8 (.inl 0)]),
  (100, 8, [List.replicate 8 (.inl 0)]),
  (100, 8, [List.replicate 8 (.inl 0)]),
  (100, 8, [List.replicate 8 (.inl 0)]),
  (100, 8, [List.replicate 8 (.inl 0)]),
  (100, 8, [List.replicate 8 (.inl 0)]),
  (100, 8, [List.replicate 8 (.inl 0)]),
  (100, 8, [List.replicate 8 (.inl 0)]),
  (100, 8, [List.replicate 8 (.inl 0)]),
  (100, 8, [List.replicate 8 (.inl 0)]),
  (100, 8, [List.replicate 8 (.inl 0)]),
  (100, 8, [List.replicate 8 (.inl 0)]),
  (100, 8, [List.replicate 8 (.inl 0)]),
  (100, 8, [List.replicate 8 (.inl 0)]),
  (100, 8, [List.replicate 8 (.inl 0)]),
  (100, 8, [List.replicate 8 (.inl 0)]),
  (100, 8, [List.replicate 8 (.inl 0)]),
  (100, 8, [List.replicate 8 (.inl 0)]),
  (100, 8, [List.replicate 8 (.inl 0)]),
  (100, 8, [List.replicate 8 (.inl 0)]),
  (100, 8, [List.replicate 8 (.inl 0)]),
  (100, 8, [List.replicate 8 (.inl 0)]),
  (100, 8, [List.replicate 8 (.inl 0)]),
  (100, 8, [List.replicate 8 (.inl 0)])]
noncomputable def xSX_10 : List xC := [(100, 8, [List.replicate 8 (.inl 0)]),
  (100, 8, [List.replicate 8 (.inl 0)]),
  (100, 8, [List.replicate 8 (.inl 0)]),
  (100, 8, [List.replicate 8 (.inl 0)]),
  (100, 8, [List.replicate 8 (.inl 0)]),
  (100, 8, [List.replicate 8 (.inl 0)]),
  (100, 8, [List.replicate 8 (.inl 0)]),
  (100, 8, [List.replicate 8 (.inl 0)]),
  (100, 8, [List.replicate 8 (.inl 0)]),
  (100, 8, [List.replicate 8 (.inl 0)]),
  (100, 8, [List.replicate 8 (.inl 0)]),
  (100, 8, [List.replicate 8 (.inl 0)]),
  (100, 8, [List.replicate 8 (.inl 0)]),
  (100, 8, [List.replicate 8 (.inl 0)]),
  (100, 8, [List.replicate 8 (.inl 0)]),
  (100, 8, [List.replicate 8 (.inl 0)]),
  (100, 8, [List.replicate 8 (.inl 0)]),
  (100, 8, [List.replicate 8 (.inl 0)]),
  (100, 8, [List.replicate 8 (.inl 0)]),
  (100, 8, [List.replicate 8 (.inl 0)]),
  (100, 8, [List.replicate 8 (.inl 0)]),
  (100, 8, [List.replicate 8 (.inl 0)]),
  (100, 8, [List.replicate 8 (.inl 0)]),
  (100, 8, [List.replicate 8 (.inl 0)]),
  (100, 8, [List.replicate 8 (.inl 0)]),
  (100, 8, [List.replicate 8 (.inl 0)]),
  (100, 8, [List.replicate 8 (.inl 0)]),
  (100, 8, [List.replicate 8 (.inl 0)]),
  (100, 8, [List.replicate 8 (.inl 0)]),
  (100, 8, [List.replicate 8 (.inl 0)]),
  (100, 8, [List.replicate 8 (.inl 0)]),
  (100, 8, [List.replicate 8 (.inl 0)]),
  (100, 8, [List.replicate 8 (.inl 0)]),
  (100, 8, [List.replicate 8 (.inl 0)]),
  (100, 8, [List.replicate 8 (.inl 0)]),
  (10, 14, [[.inr (.inr (.inl (some 676))), .inr (.inr (.inl (some 677))), .inr (.inr (.inl (some 678))), .inr (.inr (.inl (some 679))), .inr (.inr (.inl (some 680))), .inr (.inr (.inl (some 681))), .inr (.inr (.inl (some 682))), .inr (.inr (.inl (some 683))), .inr (.inr (.inl (some 684))), .inr (.inr (.inl (some 685))), .inr (.inr (.inl (some 686))), .inr (.inr (.inl (some 687))), .inr (.inr (.inl (some 688))), .inl 0]]),
  (100, 24, [List.replicate 24 (.inl 0)]),
  (100, 24, [List.replicate 24 (.inl 0)]),
  (100, 24, [List.replicate 24 (.inl 0)]),
  (100, 24, [List.replicate 24 (.inl 0)]),
  (100, 24, [List.replicate 24 (.inl 0)]),
  (100, 24, [List.replicate 24 (.inl 0)]),
  (100, 24, [List.replicate 24 (.inl 0)]),
  (100, 24, [List.replicate 24 (.inl 0)]),
  (100, 24, [List.replicate 24 (.inl 0)]),
  (100, 24, [List.replicate 24 (.inl 0)]),
  (100, 24, [List.replicate 24 (.inl 0)]),
  (100, 24, [List.replicate 24 (.inl 0)]),
  (100, 24, [List.replicate 24 (.inl 0)]),
  (7, 5, [[.inr (.inr (.inl (some 690))), .inr (.inr (.inl (some 691))), .inr (.inr (.inl (some 692))), .inr (.inr (.inl (some 693))), .inl 0]]),
  (100, 24, [List.replicate 24 (.inl 0)]),
  (100, 24, [List.replicate 24 (.inl 0)]),
  (100, 24, [List.replicate 24 (.inl 0)]),
  (100, 24, [List.replicate 24 (.inl 0)]),
  (100, 6, [List.replicate 6 (.inl 0)]),
  (102, 3, [[.inr (.inr (.inl (some 696))), .inr (.inr (.inl (some 697))), .inr (.inr (.inl (some 698)))], []]),
  (100, 61, [[.inl 900, .inl 888, .inl 876, .inl 864, .inl 852, .inl 840, .inl 828, .inl 816, .inl 804, .inl 792, .inl 780, .inl 768, .inl 756, .inl 744, .inl 732, .inl 720, .inl 708, .inl 696, .inl 684, .inl 672, .inl 660, .inl 648, .inl 636, .inl 624, .inl 612, .inl 600, .inl 588, .inl 576, .inl 564, .inl 552, .inl 540, .inl 528, .inl 516, .inl 504, .inl 492, .inl 480, .inl 468, .inl 456, .inl 444, .inl 432, .inl 420, .inl 408, .inl 396, .inl 384, .inl 372, .inl 360, .inl 348, .inl 336, .inl 324, .inl 312, .inl 300, .inl 288, .inl 276, .inl 264, .inl 252, .inl 240, .inl 228, .inl 216, .inl 204, .inl 192, .inl 180]]),
  (100, 61, [[.inl 600, .inl 590, .inl 580, .inl 570, .inl 560, .inl 550, .inl 540, .inl 530, .inl 520, .inl 510, .inl 500, .inl 490, .inl 480, .inl 470, .inl 460, .inl 450, .inl 440, .inl 430, .inl 420, .inl 410, .inl 400, .inl 390, .inl 380, .inl 370, .inl 360, .inl 350, .inl 340, .inl 330, .inl 320, .inl 310, .inl 300, .inl 290, .inl 280, .inl 270, .inl 260, .inl 250, .inl 240, .inl 230, .inl 220, .inl 210, .inl 200, .inl 190, .inl 180, .inl 170, .inl 160, .inl 150, .inl 140, .inl 130, .inl 120, .inl 110, .inl 100, .inl 90, .inl 80, .inl 70, .inl 60, .inl 50, .inl 40, .inl 30, .inl 20, .inl 10, .inl 0]]),
  (100, 61, [[.inl 60, .inl 59, .inl 58, .inl 57, .inl 56, .inl 55, .inl 54, .inl 53, .inl 52, .inl 51, .inl 50, .inl 49, .inl 48, .inl 47, .inl 46, .inl 45, .inl 44, .inl 43, .inl 42, .inl 41, .inl 40, .inl 39, .inl 38, .inl 37, .inl 36, .inl 35, .inl 34, .inl 33, .inl 32, .inl 31, .inl 30, .inl 29, .inl 28, .inl 27, .inl 26, .inl 25, .inl 24, .inl 23, .inl 22, .inl 21, .inl 20, .inl 19, .inl 18, .inl 17, .inl 16, .inl 15, .inl 14, .inl 13, .inl 12, .inl 11, .inl 10, .inl 9, .inl 8, .inl 7, .inl 6, .inl 5, .inl 4, .inl 3, .inl 2, .inl 1, .inl 0]]),
  (9, 11, [[.inr (.inr (.inl (some 700))), .inl 0, .inl 0, .inr (.inr (.inl (some 701))), .inl 0, .inl 0, .inr (.inr (.inl (some 702))), .inl 0, .inl 0, .inl 0, .inl 0]]),
  (100, 96, [List.replicate 64 (.inl 0), List.replicate 32 (.inl 0)]),
  (100, 96, [List.replicate 64 (.inl 0), List.replicate 32 (.inl 0)]),
  (100, 96, [List.replicate 64 (.inl 0), List.replicate 32 (.inl 0)]),
  (5, 3, [[.inr (.inr (.inl (some 704))), .inr (.inr (.inl (some 705))), .inr (.inr (.inl (some 706)))]])]
noncomputable def xSX_11 : List xC := [(100, 20, [List.replicate 20 (.inl 0)]),
  (100, 20, [List.replicate 20 (.inl 0)]),
  (102, 20, [[.inr (.inr (.inl (some 707))), .inr (.inr (.inl (some 708))), .inr (.inr (.inl (some 709))), .inr (.inr (.inl (some 710))), .inr (.inr (.inl (some 711))), .inr (.inr (.inl (some 712))), .inr (.inr (.inl (some 713))), .inr (.inr (.inl (some 714))), .inr (.inr (.inl (some 715))), .inr (.inr (.inl (some 716))), .inr (.inr (.inl (some 717))), .inr (.inr (.inl (some 718))), .inr (.inr (.inl (some 719))), .inr (.inr (.inl (some 720))), .inr (.inr (.inl (some 721))), .inr (.inr (.inl (some 722))), .inr (.inr (.inl (some 723))), .inr (.inr (.inl (some 724))), .inr (.inr (.inl (some 725))), .inr (.inr (.inl (some 726)))], []]),
  (100, 30, [List.replicate 30 (.inl 0)]),
  (100, 30, [List.replicate 30 (.inl 0)]),
  (100, 30, [List.replicate 30 (.inl 0)]),
  (100, 30, [List.replicate 30 (.inl 0)]),
  (100, 30, [List.replicate 30 (.inl 0)]),
  (100, 30, [List.replicate 30 (.inl 0)]),
  (100, 30, [List.replicate 30 (.inl 0)]),
  (100, 30, [List.replicate 30 (.inl 0)]),
  (100, 30, [List.replicate 30 (.inl 0)]),
  (100, 30, [List.replicate 30 (.inl 0)]),
  (100, 30, [List.replicate 30 (.inl 0)]),
  (100, 30, [List.replicate 30 (.inl 0)]),
  (100, 30, [List.replicate 30 (.inl 0)]),
  (100, 30, [List.replicate 30 (.inl 0)]),
  (100, 30, [List.replicate 30 (.inl 0)]),
  (100, 30, [List.replicate 30 (.inl 0)]),
  (100, 30, [List.replicate 30 (.inl 0)]),
  (100, 30, [List.replicate 30 (.inl 0)]),
  (100, 30, [List.replicate 30 (.inl 0)]),
  (100, 30, [List.replicate 30 (.inl 0)]),
  (8, 8, [[.inl 0, .inl 0, .inr (.inr (.inl (some 728))), .inr (.inr (.inl (some 729))), .inr (.inr (.inl (some 730))), .inr (.inr (.inl (some 731))), .inl 0, .inl 0]]),
  (100, 24, [List.replicate 24 (.inl 0)]),
  (100, 24, [List.replicate 24 (.inl 0)]),
  (100, 24, [List.replicate 24 (.inl 0)]),
  (100, 49, [List.replicate 49 (.inl 0)]),
  (3, 2, [[.inr (.inr (.inl (some 733))), .inr (.inr (.inl (some 734)))]]),
  (100, 301, [List.replicate 64 (.inl 0), List.replicate 64 (.inl 0), List.replicate 64 (.inl 0), List.replicate 64 (.inl 0), List.replicate 45 (.inl 0)]),
  (101, 301, [List.replicate 64 (.inr (.inr (.inr (.inl 0)))), List.replicate 64 (.inr (.inr (.inr (.inl 0)))), List.replicate 64 (.inr (.inr (.inr (.inl 0)))), List.replicate 64 (.inr (.inr (.inr (.inl 0)))), List.replicate 45 (.inr (.inr (.inr (.inl 0))))]),
  (6, 5, [[.inr (.inr (.inl (some 736))), .inr (.inr (.inl (some 737))), .inl 0, .inl 0, .inl 0]]),
  (100, 7, [List.replicate 7 (.inl 0)]),
  (100, 7, [List.replicate 7 (.inl 0)]),
  (100, 60, [List.replicate 60 (.inl 0)]),
  (100, 60, [List.replicate 60 (.inl 0)])]
noncomputable def xSX_12 : List xC := []
noncomputable def xSX : xH := [xSX_0, xSX_1, xSX_2, xSX_3, xSX_4, xSX_5, xSX_6, xSX_7, xSX_8, xSX_9, xSX_10, xSX_11, xSX_12]
noncomputable def xkX : xK := fun _ h n r => match r with | none => Bool.and (Nat.beq n 740) (xeqH h xSX) | some _ => false
theorem xt_x : xargs [xRef 0] 0 (fun lv => xrun xMs 20000 xm_132 (xcd xm_132) (lv, [], xenv0, xhA, 1, 0, 0) xkX) = true := by decide +kernel
noncomputable def xhB : xH := [[(12, 40, [[.inr (.inr (.inl none)), .inr (.inr (.inl none)), .inr (.inr (.inl none)), .inl 0, .inr (.inr (.inl none)), .inr (.inr (.inl none)), .inr (.inr (.inl none)), .inr (.inr (.inl none))] ++ (List.replicate 11 (.inl 0)) ++ (List.replicate 8 (.inr (.inr (.inl none)))) ++ [.inl 0, .inl 0, .inl 0, .inr (.inr (.inl none)), .inr (.inr (.inl none)), .inr (.inr (.inl none)), .inl 0, .inl 0, .inl 0, .inr (.inr (.inl none)), .inl 0, .inr (.inr (.inl none)), .inl 0]])]]
noncomputable def xSM_0 : List xC := [(12, 40, [[.inr (.inr (.inl (some 1))), .inr (.inr (.inl (some 2))), .inr (.inr (.inl (some 3))), .inl 0, .inr (.inr (.inl (some 4))), .inr (.inr (.inl (some 5))), .inr (.inr (.inl (some 6))), .inr (.inr (.inl (some 7)))] ++ (List.replicate 11 (.inl 0)) ++ [.inr (.inr (.inl (some 8))), .inr (.inr (.inl (some 9))), .inr (.inr (.inl (some 10))), .inr (.inr (.inl (some 11))), .inr (.inr (.inl (some 12))), .inr (.inr (.inl (some 13))), .inr (.inr (.inl (some 14))), .inr (.inr (.inl (some 15))), .inl 0, .inl 0, .inl 0, .inr (.inr (.inl (some 16))), .inr (.inr (.inl (some 17))), .inr (.inr (.inl (some 18))), .inl 0, .inl 0, .inl 0, .inr (.inr (.inl (some 19))), .inl 0, .inr (.inr (.inl (some 20))), .inl 0]]),
  (100, 4900, [[.inl 0, .inl 300, .inl 0, .inl 5760, .inl 10] ++ (List.replicate 9 (.inl 0)) ++ [.inl 4294967295] ++ (List.replicate 49 (.inl 0)), List.replicate 64 (.inl 0), List.replicate 64 (.inl 0), List.replicate 64 (.inl 0), List.replicate 64 (.inl 0), List.replicate 64 (.inl 0), List.replicate 64 (.inl 0), List.replicate 64 (.inl 0), List.replicate 64 (.inl 0), List.replicate 64 (.inl 0), List.replicate 64 (.inl 0), List.replicate 64 (.inl 0), List.replicate 64 (.inl 0), List.replicate 64 (.inl 0), List.replicate 64 (.inl 0), (List.replicate 60 (.inl 0)) ++ [.inl 900, .inl 888, .inl 876, .inl 864], [.inl 852, .inl 840, .inl 828, .inl 816, .inl 804, .inl 792, .inl 780, .inl 768, .inl 756, .inl 744, .inl 732, .inl 720, .inl 708, .inl 696, .inl 684, .inl 672, .inl 660, .inl 648, .inl 636, .inl 624, .inl 612, .inl 600, .inl 588, .inl 576, .inl 564, .inl 552, .inl 540, .inl 528, .inl 516, .inl 504, .inl 492, .inl 480, .inl 468, .inl 456, .inl 444, .inl 432, .inl 420, .inl 408, .inl 396, .inl 384, .inl 372, .inl 360, .inl 348, .inl 336, .inl 324, .inl 312, .inl 300, .inl 288, .inl 276, .inl 264, .inl 252, .inl 240, .inl 228, .inl 216, .inl 204, .inl 192, .inl 180, .inl 600, .inl 590, .inl 580, .inl 570, .inl 560, .inl 550, .inl 540], [.inl 530, .inl 520, .inl 510, .inl 500, .inl 490, .inl 480, .inl 470, .inl 460, .inl 450, .inl 440, .inl 430, .inl 420, .inl 410, .inl 400, .inl 390, .inl 380, .inl 370, .inl 360, .inl 350, .inl 340, .inl 330, .inl 320, .inl 310, .inl 300, .inl 290, .inl 280, .inl 270, .inl 260, .inl 250, .inl 240, .inl 230, .inl 220, .inl 210, .inl 200, .inl 190, .inl 180, .inl 170, .inl 160, .inl 150, .inl 140, .inl 130, .inl 120, .inl 110, .inl 100, .inl 90, .inl 80, .inl 70, .inl 60, .inl 50, .inl 40, .inl 30, .inl 20, .inl 10, .inl 0, .inl 60, .inl 59, .inl 58, .inl 57, .inl 56, .inl 55, .inl 54, .inl 53, .inl 52, .inl 51], [.inl 50, .inl 49, .inl 48, .inl 47, .inl 46, .inl 45, .inl 44, .inl 43, .inl 42, .inl 41, .inl 40, .inl 39, .inl 38, .inl 37, .inl 36, .inl 35, .inl 34, .inl 33, .inl 32, .inl 31, .inl 30, .inl 29, .inl 28, .inl 27, .inl 26, .inl 25, .inl 24, .inl 23, .inl 22, .inl 21, .inl 20, .inl 19, .inl 18, .inl 17, .inl 16, .inl 15, .inl 14, .inl 13, .inl 12, .inl 11, .inl 10, .inl 9, .inl 8, .inl 7, .inl 6, .inl 5, .inl 4, .inl 3, .inl 2, .inl 1] ++ (List.replicate 14 (.inl 0)), List.replicate 64 (.inl 0), List.replicate 64 (.inl 0), List.replicate 64 (.inl 0), List.replicate 64 (.inl 0), List.replicate 64 (.inl 0), List.replicate 64 (.inl 0), List.replicate 64 (.inl 0), List.replicate 64 (.inl 0), List.replicate 64 (.inl 0), List.replicate 64 (.inl 0), List.replicate 64 (.inl 0), List.replicate 64 (.inl 0), List.replicate 64 (.inl 0), List.replicate 64 (.inl 0), List.replicate 64 (.inl 0), List.replicate 64 (.inl 0), List.replicate 64 (.inl 0), List.replicate 64 (.inl 0), List.replicate 64 (.inl 0), List.replicate 64 (.inl 0), List.replicate 64 (.inl 0), List.replicate 64 (.inl 0), List.replicate 64 (.inl 0), List.replicate 64 (.inl 0), List.replicate 64 (.inl 0), List.replicate 64 (.inl 0), List.replicate 64 (.inl 0), List.replicate 64 (.inl 0), List.replicate 64 (.inl 0), List.replicate 64 (.inl 0), List.replicate 64 (.inl 0), List.replicate 64 (.inl 0), List.replicate 64 (.inl 0), List.replicate 64 (.inl 0), List.replicate 64 (.inl 0), List.replicate 64 (.inl 0), List.replicate 64 (.inl 0), List.replicate 64 (.inl 0), List.replicate 64 (.inl 0), List.replicate 64 (.inl 0), List.replicate 64 (.inl 0), List.replicate 64 (.inl 0), List.replicate 64 (.inl 0), List.replicate 64 (.inl 0), List.replicate 64 (.inl 0), List.replicate 64 (.inl 0), List.replicate 64 (.inl 0), List.replicate 64 (.inl 0), List.replicate 64 (.inl 0), List.replicate 64 (.inl 0), List.replicate 64 (.inl 0), (List.replicate 20 (.inl 0)) ++ (List.replicate 8 (.inl 4294967295)) ++ (List.replicate 36 (.inl 0)), List.replicate 64 (.inl 0), List.replicate 64 (.inl 0), List.replicate 64 (.inl 0), List.replicate 64 (.inl 0), List.replicate 64 (.inl 0), List.replicate 36 (.inl 0)]),
  (100, 4900, [List.replicate 64 (.inl 0), List.replicate 64 (.inl 0), List.replicate 64 (.inl 0), List.replicate 64 (.inl 0), List.replicate 64 (.inl 0), List.replicate 64 (.inl 0), List.replicate 64 (.inl 0), List.replicate 64 (.inl 0), List.replicate 64 (.inl 0), List.replicate 64 (.inl 0), List.replicate 64 (.inl 0), List.replicate 64 (.inl 0), List.replicate 64 (.inl 0), List.replicate 64 (.inl 0), List.replicate 64 (.inl 0), List.replicate 64 (.inl 0), List.replicate 64 (.inl 0), List.replicate 64 (.inl 0), List.replicate 64 (.inl 0), List.replicate 64 (.inl 0), List.replicate 64 (.inl 0), List.replicate 64 (.inl 0), List.replicate 64 (.inl 0), List.replicate 64 (.inl 0), List.replicate 64 (.inl 0), List.replicate 64 (.inl 0), List.replicate 64 (.inl 0), List.replicate 64 (.inl 0), List.replicate 64 (.inl 0), List.replicate 64 (.inl 0), List.replicate 64 (.inl 0), List.replicate 64 (.inl 0), List.replicate 64 (.inl 0), List.replicate 64 (.inl 0), List.replicate 64 (.inl 0), List.replicate 64 (.inl 0), List.replicate 64 (.inl 0), List.replicate 64 (.inl 0), List.replicate 64 (.inl 0), List.replicate 64 (.inl 0), List.replicate 64 (.inl 0), List.replicate 64 (.inl 0), List.replicate 64 (.inl 0), List.replicate 64 (.inl 0), List.replicate 64 (.inl 0), List.replicate 64 (.inl 0), List.replicate 64 (.inl 0), List.replicate 64 (.inl 0), List.replicate 64 (.inl 0), List.replicate 64 (.inl 0), List.replicate 64 (.inl 0), List.replicate 64 (.inl 0), List.replicate 64 (.inl 0), List.replicate 64 (.inl 0), List.replicate 64 (.inl 0), List.replicate 64 (.inl 0), List.replicate 64 (.inl 0), List.replicate 64 (.inl 0), List.replicate 64 (.inl 0), List.replicate 64 (.inl 0), List.replicate 64 (.inl 0), List.replicate 64 (.inl 0), List.replicate 64 (.inl 0), List.replicate 64 (.inl 0), List.replicate 64 (.inl 0), List.replicate 64 (.inl 0), List.replicate 64 (.inl 0), List.replicate 64 (.inl 0), List.replicate 64 (.inl 0), List.replicate 64 (.inl 0), List.replicate 64 (.inl 0), List.replicate 64 (.inl 0), List.replicate 64 (.inl 0), List.replicate 64 (.inl 0), List.replicate 64 (.inl 0), List.replicate 64 (.inl 0), List.replicate 36 (.inl 0)]),
  (100, 4900, [List.replicate 64 (.inl 0), List.replicate 64 (.inl 0), List.replicate 64 (.inl 0), List.replicate 64 (.inl 0), List.replicate 64 (.inl 0), List.replicate 64 (.inl 0), List.replicate 64 (.inl 0), List.replicate 64 (.inl 0), List.replicate 64 (.inl 0), List.replicate 64 (.inl 0), List.replicate 64 (.inl 0), List.replicate 64 (.inl 0), List.replicate 64 (.inl 0), List.replicate 64 (.inl 0), List.replicate 64 (.inl 0), List.replicate 64 (.inl 0), List.replicate 64 (.inl 0), List.replicate 64 (.inl 0), List.replicate 64 (.inl 0), List.replicate 64 (.inl 0), List.replicate 64 (.inl 0), List.replicate 64 (.inl 0), List.replicate 64 (.inl 0), List.replicate 64 (.inl 0), List.replicate 64 (.inl 0), List.replicate 64 (.inl 0), List.replicate 64 (.inl 0), List.replicate 64 (.inl 0), List.replicate 64 (.inl 0), List.replicate 64 (.inl 0), List.replicate 64 (.inl 0), List.replicate 64 (.inl 0), List.replicate 64 (.inl 0), List.replicate 64 (.inl 0), List.replicate 64 (.inl 0), List.replicate 64 (.inl 0), List.replicate 64 (.inl 0), List.replicate 64 (.inl 0), List.replicate 64 (.inl 0), List.replicate 64 (.inl 0), List.replicate 64 (.inl 0), List.replicate 64 (.inl 0), List.replicate 64 (.inl 0), List.replicate 64 (.inl 0), List.replicate 64 (.inl 0), List.replicate 64 (.inl 0), List.replicate 64 (.inl 0), List.replicate 64 (.inl 0), List.replicate 64 (.inl 0), List.replicate 64 (.inl 0), List.replicate 64 (.inl 0), List.replicate 64 (.inl 0), List.replicate 64 (.inl 0), List.replicate 64 (.inl 0), List.replicate 64 (.inl 0), List.replicate 64 (.inl 0), List.replicate 64 (.inl 0), List.replicate 64 (.inl 0), List.replicate 64 (.inl 0), List.replicate 64 (.inl 0), List.replicate 64 (.inl 0), List.replicate 64 (.inl 0), List.replicate 64 (.inl 0), List.replicate 64 (.inl 0), List.replicate 64 (.inl 0), List.replicate 64 (.inl 0), List.replicate 64 (.inl 0), List.replicate 64 (.inl 0), List.replicate 64 (.inl 0), List.replicate 64 (.inl 0), List.replicate 64 (.inl 0), List.replicate 64 (.inl 0), List.replicate 64 (.inl 0), List.replicate 64 (.inl 0), List.replicate 64 (.inl 0), List.replicate 64 (.inl 0), List.replicate 36 (.inl 0)]),
  (100, 20, [List.replicate 20 (.inl 4294967295)]),
  (100, 20, [List.replicate 20 (.inl 0)]),
  (100, 600, [List.replicate 64 (.inl 0), List.replicate 64 (.inl 0), List.replicate 64 (.inl 0), List.replicate 64 (.inl 0), List.replicate 64 (.inl 0), List.replicate 64 (.inl 0), List.replicate 64 (.inl 0), List.replicate 64 (.inl 0), List.replicate 64 (.inl 0), List.replicate 24 (.inl 0)]),
  (100, 96, [List.replicate 64 (.inl 0), List.replicate 32 (.inl 0)]),
  (100, 128, [List.replicate 64 (.inl 0), List.replicate 64 (.inl 0), []]),
  (100, 100, [List.replicate 64 (.inl 0), List.replicate 36 (.inl 0)]),
  (100, 24, [List.replicate 24 (.inl 0)]),
  (100, 24, [List.replicate 24 (.inl 0)]),
  (100, 24, [List.replicate 24 (.inl 0)]),
  (100, 30, [List.replicate 30 (.inl 0)]),
  (100, 24, [List.replicate 24 (.inl 0)]),
  (100, 24, [List.replicate 24 (.inl 0)]),
  (100, 7525, [List.replicate 64 (.inl 0), List.replicate 64 (.inl 0), List.replicate 64 (.inl 0), List.replicate 64 (.inl 0), List.replicate 64 (.inl 0), List.replicate 64 (.inl 0), List.replicate 64 (.inl 0), List.replicate 64 (.inl 0), List.replicate 64 (.inl 0), List.replicate 64 (.inl 0), List.replicate 64 (.inl 0), List.replicate 64 (.inl 0), List.replicate 64 (.inl 0), List.replicate 64 (.inl 0), List.replicate 64 (.inl 0), List.replicate 64 (.inl 0), List.replicate 64 (.inl 0), List.replicate 64 (.inl 0), List.replicate 64 (.inl 0), List.replicate 64 (.inl 0), List.replicate 64 (.inl 0), List.replicate 64 (.inl 0), List.replicate 64 (.inl 0), List.replicate 64 (.inl 0), List.replicate 64 (.inl 0), List.replicate 64 (.inl 0), List.replicate 64 (.inl 0), List.replicate 64 (.inl 0), List.replicate 64 (.inl 0), List.replicate 64 (.inl 0), List.replicate 64 (.inl 0), List.replicate 64 (.inl 0), List.replicate 64 (.inl 0), List.replicate 64 (.inl 0), List.replicate 64 (.inl 0), List.replicate 64 (.inl 0), List.replicate 64 (.inl 0), List.replicate 64 (.inl 0), List.replicate 64 (.inl 0), List.replicate 64 (.inl 0), List.replicate 64 (.inl 0), List.replicate 64 (.inl 0), List.replicate 64 (.inl 0), List.replicate 64 (.inl 0), List.replicate 64 (.inl 0), List.replicate 64 (.inl 0), List.replicate 64 (.inl 0), List.replicate 64 (.inl 0), List.replicate 64 (.inl 0), List.replicate 64 (.inl 0), List.replicate 64 (.inl 0), List.replicate 64 (.inl 0), List.replicate 64 (.inl 0), List.replicate 64 (.inl 0), List.replicate 64 (.inl 0), List.replicate 64 (.inl 0), List.replicate 64 (.inl 0), List.replicate 64 (.inl 0), List.replicate 64 (.inl 0), List.replicate 64 (.inl 0), List.replicate 64 (.inl 0), List.replicate 64 (.inl 0), List.replicate 64 (.inl 0), List.replicate 64 (.inl 0), List.replicate 64 (.inl 0), List.replicate 64 (.inl 0), List.replicate 64 (.inl 0), List.replicate 64 (.inl 0), List.replicate 64 (.inl 0), List.replicate 64 (.inl 0), List.replicate 64 (.inl 0), List.replicate 64 (.inl 0), List.replicate 64 (.inl 0), List.replicate 64 (.inl 0), List.replicate 64 (.inl 0), List.replicate 64 (.inl 0), List.replicate 64 (.inl 0), List.replicate 64 (.inl 0), List.replicate 64 (.inl 0), List.replicate 64 (.inl 0), List.replicate 64 (.inl 0), List.replicate 64 (.inl 0), List.replicate 64 (.inl 0), List.replicate 64 (.inl 0), List.replicate 64 (.inl 0), List.replicate 64 (.inl 0), List.replicate 64 (.inl 0), List.replicate 64 (.inl 0), List.replicate 64 (.inl 0), List.replicate 64 (.inl 0), List.replicate 64 (.inl 0), List.replicate 64 (.inl 0), List.replicate 64 (.inl 0), List.replicate 64 (.inl 0), List.replicate 64 (.inl 0), List.replicate 64 (.inl 0), List.replicate 64 (.inl 0), List.replicate 64 (.inl 0), List.replicate 64 (.inl 0), List.replicate 64 (.inl 0), List.replicate 64 (.inl 0), List.replicate 64 (.inl 0), List.replicate 64 (.inl 0), List.replicate 64 (.inl 0), List.replicate 64 (.inl 0), List.replicate 64 (.inl 0), List.replicate 64 (.inl 0), List.replicate 64 (.inl 0), List.replicate 64 (.inl 0), List.replicate 64 (.inl 0), List.replicate 64 (.inl 0), List.replicate 64 (.inl 0), List.replicate 64 (.inl 0), List.replicate 64 (.inl 0), List.replicate 64 (.inl 0), List.replicate 64 (.inl 0), List.replicate 64 (.inl 0), List.replicate 37 (.inl 0)]),
  (100, 7, [List.replicate 7 (.inl 0)]),
  (100, 7, [List.replicate 7 (.inl 0)]),
  (100, 60, [List.replicate 60 (.inl 0)]),
  (100, 60, [List.replicate 60 (.inl 0)])]
noncomputable def xSM : xH := [xSM_0]
noncomputable def xkM : xK := fun _ h n r => match r with | none => Bool.and (Nat.beq n 21) (xeqH h xSM) | some _ => false
theorem xt_m : xargs [xRef 0] 0 (fun lv => xrun xMs 20000 xm_133 (xcd xm_133) (lv, [], xenv0, xhB, 1, 0, 0) xkM) = true := by decide +kernel
end
section
/-! what is asked of the end of a run: the heap has not grown; the answer is that of a table of boxes -/
noncomputable def xKn (Ms : List xM) (f : Nat) (mm : xM) (hm : xH) (nm na n0 : Nat) : xK := fun env h n r => cond (Nat.beq n n0) (xKx Ms f mm hm nm na env h n r) false
theorem xKn_of {Ms : List xM} {f : Nat} {mm : xM} {hm : xH} {nm na n0 : Nat} {env : xE} {h : xH} {n : Nat} {r : Option xV} (e : xKn Ms f mm hm nm na n0 env h n r = true) : n = n0 ∧ xKx Ms f mm hm nm na env h n r = true := ⟨Nat.eq_of_beq_eq_true (xcond e).1, (xcond e).2⟩
/-- a box: bounds of some variables, and the answer within -/
abbrev xBx : Type := List (Nat × (Nat × Nat)) × xV
noncomputable def xsub (env : xE) (b : List (Nat × (Nat × Nat))) : Bool := List.rec (motive := fun _ => Bool) true (fun q _ ih => cond (xnth env (fun e => Bool.and (Nat.ble q.2.1 e.1) (Nat.ble e.2 q.2.2)) q.1) ih false) b
noncomputable def xdis (env : xE) (b : List (Nat × (Nat × Nat))) : Bool := List.rec (motive := fun _ => Bool) false (fun q _ ih => cond (xnth env (fun e => Bool.or (Nat.blt e.2 q.2.1) (Nat.blt q.2.2 e.1)) q.1) true ih) b
def xinb (ρ : Nat → Int32) (b : List (Nat × (Nat × Nat))) : Prop := ∀ q ∈ b, q.2.1 ≤ xb (ρ q.1) ∧ xb (ρ q.1) ≤ q.2.2
theorem xand' {a b : Bool} (h : Bool.and a b = true) : a = true ∧ b = true := by cases a <;> cases b <;> simp_all
theorem xor' {a b : Bool} (h : Bool.or a b = true) : a = true ∨ b = true := by cases a <;> cases b <;> simp_all
theorem xsub_of {ρ : Nat → Int32} {env : xE} (hr : xρ ρ env) : ∀ {b : List (Nat × (Nat × Nat))}, xsub env b = true → xinb ρ b := by
  intro b
  induction b with
  | nil => intro _ q hq; cases hq
  | cons a b ih =>
    intro h q hq
    obtain ⟨h1, h2⟩ := xcond (b := xnth env (fun e => Bool.and (Nat.ble a.2.1 e.1) (Nat.ble e.2 a.2.2)) a.1) (x := xsub env b) h
    rcases List.mem_cons.mp hq with rfl | hq
    · obtain ⟨e, he, h3⟩ := xnth_of h1
      obtain ⟨h4, h5⟩ := xand' h3
      have h4 := Nat.le_of_ble_eq_true h4
      have h5 := Nat.le_of_ble_eq_true h5
      have := hr.2 _ e he
      omega
    · exact ih h2 q hq
theorem xdis_of {ρ : Nat → Int32} {env : xE} (hr : xρ ρ env) : ∀ {b : List (Nat × (Nat × Nat))}, xdis env b = true → ¬ xinb ρ b := by
  intro b
  induction b with
  | nil => intro h; exact absurd h (by change ¬ (false = true); decide)
  | cons a b ih =>
    intro h hb
    have h : cond (xnth env (fun e => Bool.or (Nat.blt e.2 a.2.1) (Nat.blt a.2.2 e.1)) a.1) true (xdis env b) = true := h
    by_cases c : xnth env (fun e => Bool.or (Nat.blt e.2 a.2.1) (Nat.blt a.2.2 e.1)) a.1 = true
    · obtain ⟨e, he, h3⟩ := xnth_of c
      have h4 := hr.2 _ e he
      have h5 := hb a List.mem_cons_self
      rcases xor' h3 with h6 | h6 <;> have h6 := xblt.mp h6 <;> omega
    · rw [xnf c] at h
      exact ih h (fun q hq => hb q (List.mem_cons_of_mem _ hq))
/-- the answer of the first box that holds the variables -/
noncomputable def xans (ρ : Nat → Int32) (x : xV) : Int32 := match x with
  | .inl u => nI u
  | .inr (.inl (some k)) => ρ k
  | _ => 0
noncomputable def xsp (ρ : Nat → Int32) (bs : List xBx) : Option Int32 := List.rec (motive := fun _ => Option Int32) none (fun b _ ih => @ite _ (xinb ρ b.1) (Classical.propDecidable _) (some (xans ρ b.2)) ih) bs
noncomputable def xbox (env : xE) (v : xV) (bs : List xBx) : Bool := List.rec (motive := fun _ => Bool) false (fun b _ ih => cond (xdis env b.1) ih (cond (xsub env b.1) (xres env (fun u => xres env (fun u' => Nat.beq (Nat.mod u 4294967296) (Nat.mod u' 4294967296)) b.2) v) false)) bs
noncomputable def xKs (bs : List xBx) (n0 : Nat) : xK := fun env _ n r => match r with
  | none => false
  | some v => cond (Nat.beq n n0) (xbox env v bs) false
theorem xres_int {ρ : Nat → Int32} {base : Nat} {env : xE} {k : Nat → Bool} {x : xV} (h : xres env k x = true) : xg ρ base x (.int (xans ρ x)) := by
  match x, h with
  | .inl u, h => exact rfl
  | .inr (.inl (some i)), h => exact rfl
  | .inr (.inl none), h => exact absurd h (by simp [xres])
  | .inr (.inr _), h => exact absurd h (by simp [xres])
theorem xbox_of {ρ : Nat → Int32} {base : Nat} {env : xE} (hr : xρ ρ env) {x : xV} {v : Value} (hg : xg ρ base x v) : ∀ {bs : List xBx}, xbox env x bs = true → ∃ z, v = .int z ∧ xsp ρ bs = some z := by
  intro bs
  induction bs with
  | nil => intro h; exact absurd h (by change ¬ (false = true); decide)
  | cons b bs ih =>
    intro h
    have h : cond (xdis env b.1) (xbox env x bs) (cond (xsub env b.1) (xres env (fun u => xres env (fun u' => Nat.beq (Nat.mod u 4294967296) (Nat.mod u' 4294967296)) b.2) x) false) = true := h
    by_cases c : xdis env b.1 = true
    · rw [c] at h
      obtain ⟨z, h1, h2⟩ := ih h
      refine ⟨z, h1, ?_⟩
      show (@ite _ (xinb ρ b.1) (Classical.propDecidable _) (some (xans ρ b.2)) (xsp ρ bs)) = some z
      rw [if_neg (xdis_of hr c)]
      exact h2
    · rw [xnf c] at h
      obtain ⟨h1, h2⟩ := xcond h
      obtain ⟨u, e1, h3⟩ := xres_of hr hg h2
      have hg' := xres_int (ρ := ρ) (base := base) h3
      obtain ⟨u', e2, h4⟩ := xres_of hr hg' h3
      have h4 : u % 4294967296 = u' % 4294967296 := Nat.eq_of_beq_eq_true h4
      refine ⟨nI u, e1, ?_⟩
      show (@ite _ (xinb ρ b.1) (Classical.propDecidable _) (some (xans ρ b.2)) (xsp ρ bs)) = some (nI u)
      rw [if_pos (xsub_of hr h1)]
      have e3 : xans ρ b.2 = nI u' := by injection e2
      rw [e3, ← xn_mod u', ← h4, xn_mod]
theorem xKs_of {ρ : Nat → Int32} {base : Nat} {env : xE} {h : xH} {n n0 : Nat} {bs : List xBx} (hr : xρ ρ env) {x : xV} {v : Value} (hg : xg ρ base x v) (hk : xKs bs n0 env h n (some x) = true) : n = n0 ∧ ∃ z, v = .int z ∧ xsp ρ bs = some z := ⟨Nat.eq_of_beq_eq_true (xcond hk).1, xbox_of hr hg (xcond hk).2⟩
end

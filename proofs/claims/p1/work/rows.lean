section
/-! AN ABSTRACT MACHINE THAT THE KERNEL RUNS: values are known ints, unknown ints, or one of the law's own ints (a variable with bounds); the control flow forks where a variable decides it. 'xrun' explores all paths; it is true if every path ends, throws nothing, and its end meets 'k'. -/
/-- int: .inl u is nI u; .inr (.inl none) any; .inr (.inl (some k)) variable k. ref: .inr (.inr (.inl none)) null, (some a) cell a. long: .inr (.inr (.inr (.inl u))) is lN u, (.inr none) any, (.inr (some k)) variable k as a long -/
abbrev xV : Type := Nat ⊕ (Option Nat ⊕ (Option Nat ⊕ (Nat ⊕ Option Nat)))
/-- a cell: its class, its length, its places in rows of 64 -/
abbrev xC : Type := Nat × (Nat × List (List xV))
abbrev xH : Type := List (List xC)
abbrev xE : Type := List (Nat × Nat)
abbrev xL : Type := List (Nat × xV)
/-- pc, op, two operands, a list of operands -/
abbrev xI : Type := Nat × (Nat × (Nat × (Nat × List Nat)))
/-- name, bytes, maxLocals, answer, code, room -/
abbrev xM : Type := MethodName × (ByteArray × (Nat × (Option FieldType × (List xI × Room))))
abbrev xK : Type := xE → xH → Nat → Option xV → Bool
/-- locals, stack, bounds, heap, its size, cells made, slots made -/
abbrev xA : Type := xL × (List xV × (xE × (xH × (Nat × (Nat × Nat)))))
noncomputable def xfN (n : Nat) (k : Nat → Bool) : Bool := Nat.rec (motive := fun _ => Bool) (k 0) (fun m _ => k (Nat.succ m)) n
theorem xnf {b : Bool} (h : ¬ b = true) : b = false := by cases b <;> simp_all
theorem xfN_eq (n : Nat) (k : Nat → Bool) : xfN n k = k n := by cases n <;> rfl
theorem xfN_of {n : Nat} {k : Nat → Bool} (h : xfN n k = true) : k n = true := by rw [xfN_eq] at h; exact h
noncomputable def xnth {α : Type} (l : List α) (k : α → Bool) : Nat → Bool := List.rec (motive := fun _ => Nat → Bool) (fun _ => false) (fun a _ ih n => Nat.rec (motive := fun _ => Bool) (k a) (fun m _ => ih m) n) l
theorem xnth_of {α : Type} {l : List α} {k : α → Bool} : ∀ {n : Nat}, xnth l k n = true → ∃ a, l[n]? = some a ∧ k a = true := by
  induction l with
  | nil => intro n h; exact absurd h (by change ¬ (false = true); decide)
  | cons a l ih =>
    intro n h
    cases n with
    | zero => exact ⟨a, rfl, h⟩
    | succ m =>
      obtain ⟨b, h1, h2⟩ := ih (n := m) h
      exact ⟨b, by simpa using h1, h2⟩
noncomputable def xset {α : Type} (l : List α) (v : α) : Nat → (List α → Bool) → Bool := List.rec (motive := fun _ => Nat → (List α → Bool) → Bool) (fun _ _ => false) (fun a l ih n k => Nat.rec (motive := fun _ => Bool) (k (v :: l)) (fun m _ => ih m (fun l' => k (a :: l'))) n) l
theorem xset_of {α : Type} {l : List α} {v : α} : ∀ {n : Nat} {k : List α → Bool}, xset l v n k = true → n < l.length ∧ k (l.set n v) = true := by
  induction l with
  | nil => intro n k h; exact absurd h (by change ¬ (false = true); decide)
  | cons a l ih =>
    intro n k h
    cases n with
    | zero => exact ⟨by simp, h⟩
    | succ m =>
      obtain ⟨h1, h2⟩ := ih (n := m) (k := fun l' => k (a :: l')) h
      exact ⟨by simpa using h1, by simpa using h2⟩
noncomputable def xapp {α : Type} (l : List α) (v : α) : (List α → Bool) → Bool := List.rec (motive := fun _ => (List α → Bool) → Bool) (fun k => k [v]) (fun a _ ih k => ih (fun l' => k (a :: l'))) l
theorem xapp_of {α : Type} {l : List α} {v : α} : ∀ {k : List α → Bool}, xapp l v k = true → k (l ++ [v]) = true := by
  induction l with
  | nil => intro k h; exact h
  | cons a l ih => intro k h; exact ih (k := fun l' => k (a :: l')) h
noncomputable def xlen {α : Type} (l : List α) : Nat := List.rec (motive := fun _ => Nat) 0 (fun _ _ ih => Nat.succ ih) l
theorem xlen_eq {α : Type} (l : List α) : xlen l = l.length := by
  induction l with
  | nil => rfl
  | cons a l ih => show Nat.succ (xlen l) = _; rw [ih]; rfl
noncomputable def xrep {α : Type} (v : α) (n : Nat) : (List α → Bool) → Bool := Nat.rec (motive := fun _ => (List α → Bool) → Bool) (fun k => k []) (fun _ ih k => ih (fun l => k (v :: l))) n
theorem xrep_of {α : Type} {v : α} : ∀ {n : Nat} {k : List α → Bool}, xrep v n k = true → k (List.replicate n v) = true := by
  intro n
  induction n with
  | zero => intro k h; exact h
  | succ n ih => intro k h; exact ih (k := fun l => k (v :: l)) h
/-- the heap: rows of 64 cells -/
def xat {α : Type} (h : List (List α)) (a : Nat) : Option α := (h[a / 64]?).bind (fun r => r[a % 64]?)
noncomputable def xhget {α : Type} (h : List (List α)) (a : Nat) (k : α → Bool) : Bool := xnth h (fun r => xnth r k (Nat.mod a 64)) (Nat.div a 64)
theorem xhget_of {α : Type} {h : List (List α)} {a : Nat} {k : α → Bool} (e : xhget h a k = true) : ∃ c, xat h a = some c ∧ k c = true := by
  obtain ⟨r, h1, h2⟩ := xnth_of e
  obtain ⟨c, h3, h4⟩ := xnth_of h2
  refine ⟨c, ?_, h4⟩
  have h1' : h[a / 64]? = some r := h1
  have h3' : r[a % 64]? = some c := h3
  simp [xat, h1', h3']
noncomputable def xhset {α : Type} (h : List (List α)) (a : Nat) (c : α) (k : List (List α) → Bool) : Bool := xnth h (fun r => xset r c (Nat.mod a 64) (fun r' => xset h r' (Nat.div a 64) k)) (Nat.div a 64)
theorem xdm (a : Nat) : a = 64 * (a / 64) + a % 64 := (Nat.div_add_mod a 64).symm
theorem xhset_of {α : Type} {h : List (List α)} {a : Nat} {c : α} {k : List (List α) → Bool} (e : xhset h a c k = true) : ∃ h' : List (List α), k h' = true ∧ (∃ c0, xat h a = some c0) ∧ xat h' a = some c ∧ ∀ b, b ≠ a → xat h' b = xat h b := by
  obtain ⟨r, h1, h2⟩ := xnth_of e
  obtain ⟨h3, h4⟩ := xset_of h2
  obtain ⟨h5, h6⟩ := xset_of h4
  have h1 : h[a / 64]? = some r := h1
  have h3 : a % 64 < r.length := h3
  have h5 : a / 64 < h.length := h5
  have h6 : k (h.set (a / 64) (r.set (a % 64) c)) = true := h6
  refine ⟨_, h6, ⟨r[a % 64], by simp [xat, h1, h3]⟩, ?_, fun b hb => ?_⟩
  · simp [xat, List.getElem?_set, h3, h5]
  · by_cases hq : b / 64 = a / 64
    · have hm : ¬ a % 64 = b % 64 := fun q => hb (by have e1 := xdm a; have e2 := xdm b; omega)
      have hr := (List.getElem?_eq_some_iff.mp h1).2
      simp [xat, List.getElem?_set, hq, h5, hr, hm]
    · have hq' : ¬ a / 64 = b / 64 := fun q => hq q.symm
      simp [xat, List.getElem?_set, hq']
noncomputable def xhpush (h : xH) (n : Nat) (c : xC) (k : xH → Bool) : Bool := xnth h (fun r => cond (Nat.beq (xlen r) (Nat.mod n 64)) (xapp r c (fun r' => xset h r' (Nat.div n 64) k)) false) (Nat.div n 64)
theorem xcond {b x : Bool} (h : cond b x false = true) : b = true ∧ x = true := by cases b <;> simp_all
theorem xcondn {b x : Bool} (h : cond b false x = true) : b = false ∧ x = true := by cases b <;> simp_all
theorem xhpush_of {h : xH} {n : Nat} {c : xC} {k : xH → Bool} (e : xhpush h n c k = true) : ∃ h' : xH, k h' = true ∧ xat h' n = some c ∧ ∀ b, b ≠ n → xat h' b = xat h b := by
  obtain ⟨r, h1, h2⟩ := xnth_of e
  obtain ⟨hl, h2⟩ := xcond h2
  have h4 := xapp_of h2
  obtain ⟨h5, h6⟩ := xset_of h4
  have hl := Nat.eq_of_beq_eq_true hl
  rw [xlen_eq] at hl
  have h1 : h[n / 64]? = some r := h1
  have hl : r.length = n % 64 := hl
  have h5 : n / 64 < h.length := h5
  have h6 : k (h.set (n / 64) (r ++ [c])) = true := h6
  refine ⟨_, h6, ?_, fun b hb => ?_⟩
  · simp [xat, List.getElem?_set, h5, ← hl]
  · by_cases hq : b / 64 = n / 64
    · have hm : ¬ b % 64 = n % 64 := fun q => hb (by have e1 := xdm n; have e2 := xdm b; omega)
      have h7 : (r ++ [c])[b % 64]? = r[b % 64]? := by
        rcases Nat.lt_or_ge (b % 64) r.length with q | q
        · rw [List.getElem?_append_left q]
        · rw [List.getElem?_eq_none (by simp; omega), List.getElem?_eq_none q]
      have hr := (List.getElem?_eq_some_iff.mp h1).2
      simp [xat, List.getElem?_set, hq, h5, hr, h7]
    · have hq' : ¬ n / 64 = b / 64 := fun q => hq q.symm
      simp [xat, List.getElem?_set, hq']
/-- n times the same, in rows -/
noncomputable def xrows {α : Type} (v : α) (n : Nat) (k : List (List α) → Bool) : Bool := xrep v 64 (fun r => xrep v (Nat.mod n 64) (fun q => xrep r (Nat.div n 64) (fun l => xapp l q k)))
theorem xrows_of {α : Type} {v : α} {n : Nat} {k : List (List α) → Bool} (h : xrows v n k = true) : ∃ l : List (List α), k l = true ∧ ∀ i x, xat l i = some x → i < n ∧ x = v := by
  have h := xapp_of (xrep_of (xrep_of (xrep_of h)))
  refine ⟨_, h, fun i x hx => ?_⟩
  have hx : ((List.replicate (n / 64) (List.replicate 64 v) ++ [List.replicate (n % 64) v])[i / 64]?).bind (fun r => r[i % 64]?) = some x := hx
  have e1 := xdm n
  have e2 := xdm i
  rcases Nat.lt_or_ge (i / 64) (n / 64) with q | q
  · rw [List.getElem?_append_left (by simpa using q), List.getElem?_replicate, if_pos q] at hx
    have hx : (List.replicate 64 v)[i % 64]? = some x := hx
    rw [List.getElem?_replicate, if_pos (Nat.mod_lt _ (by decide))] at hx
    have := Nat.mod_lt i (show 0 < 64 by decide)
    exact ⟨by omega, by cases hx; rfl⟩
  · rw [List.getElem?_append_right (by simpa using q)] at hx
    simp only [List.length_replicate] at hx
    rcases Nat.lt_or_ge (i / 64 - n / 64) 1 with q2 | q2
    · rw [show i / 64 - n / 64 = 0 by omega] at hx
      have hx : (List.replicate (n % 64) v)[i % 64]? = some x := hx
      rw [List.getElem?_replicate] at hx
      split at hx
      · next q3 => exact ⟨by omega, by cases hx; rfl⟩
      · cases hx
    · rw [List.getElem?_eq_none (by simpa using q2)] at hx
      cases hx
theorem xat_one {α : Type} {r : List α} {i : Nat} {x : α} (h : xat [r] i = some x) (hr : r.length ≤ 64) : r[i]? = some x := by
  have h : (([r] : List (List α))[i / 64]?).bind (fun q => q[i % 64]?) = some x := h
  rcases Nat.lt_or_ge (i / 64) 1 with q | q
  · rw [show i / 64 = 0 by omega] at h
    have h : r[i % 64]? = some x := h
    rw [show i % 64 = i by omega] at h
    exact h
  · rw [List.getElem?_eq_none (by simpa using q)] at h
    cases h
end
section
/-! numbers of the abstract machine: codes of ints, bounds of the variables -/
theorem xn_inj {x y : Int32} (h : x.toBitVec.toNat = y.toBitVec.toNat) : x = y := Int32.toBitVec_inj.mp (BitVec.eq_of_toNat_eq h)
theorem xn_tn (n : Nat) : (nI n).toBitVec.toNat = n % 4294967296 := by
  show (Int32.ofNat n).toBitVec.toNat = _
  simp
theorem xn_mod (n : Nat) : nI (n % 4294967296) = nI n := xn_inj (by rw [xn_tn, xn_tn, Nat.mod_mod])
def xcode (x : Int32) : Nat := x.toBitVec.toNat
theorem xn_code (x : Int32) : nI (xcode x) = x := xn_inj (by rw [xn_tn]; exact Nat.mod_eq_of_lt x.toBitVec.isLt)
theorem xn_lt (x : Int32) : xcode x < 4294967296 := x.toBitVec.isLt
theorem xl_inj {x y : Int64} (h : x.toBitVec.toNat = y.toBitVec.toNat) : x = y := Int64.toBitVec_inj.mp (BitVec.eq_of_toNat_eq h)
theorem xl_tn (n : Nat) : (lN n).toBitVec.toNat = n % 18446744073709551616 := by
  show (Int64.ofNat n).toBitVec.toNat = _
  simp
def xcodeL (x : Int64) : Nat := x.toBitVec.toNat
theorem xl_code (x : Int64) : lN (xcodeL x) = x := xl_inj (by rw [xl_tn]; exact Nat.mod_eq_of_lt x.toBitVec.isLt)
/-- biased: the order of ints as that of numbers -/
def xb (x : Int32) : Nat := (xcode x + 2147483648) % 4294967296
def xbc (u : Nat) : Nat := Nat.mod (Nat.add u 2147483648) 4294967296
theorem xbc_eq (u : Nat) : xbc u = xb (nI u) := by
  show (u + 2147483648) % 4294967296 = ((nI u).toBitVec.toNat + 2147483648) % 4294967296
  rw [xn_tn]; omega
theorem xb_int (x : Int32) : x.toInt = (xb x : Int) - 2147483648 := by
  have h := xn_lt x
  have e : x.toInt = if 2 * xcode x < 4294967296 then (xcode x : Int) else (xcode x : Int) - 4294967296 := by
    show x.toBitVec.toInt = _
    rw [BitVec.toInt_eq_toNat_cond]
    rfl
  rw [e]
  unfold xb
  split <;> omega
theorem xb_lt {x y : Int32} : x < y ↔ xb x < xb y := by
  rw [Int32.lt_iff_toInt_lt, xb_int, xb_int]; omega
theorem xb_le {x y : Int32} : x ≤ y ↔ xb x ≤ xb y := by
  rw [Int32.le_iff_toInt_le, xb_int, xb_int]; omega
theorem xb_eq {x y : Int32} : x = y ↔ xb x = xb y := by
  rw [← Int32.toInt_inj, xb_int, xb_int]; omega
theorem xb_max (x : Int32) : xb x < 4294967296 := Nat.mod_lt _ (by decide)
/-- what a biased number is the bias of -/
def xub (z : Nat) : Nat := Nat.mod (Nat.add z 2147483648) 4294967296
theorem xub_of {x : Int32} {z : Nat} (h : xb x = z) : x = nI (xub z) := by
  rw [xb_eq, ← xbc_eq, h]
  have hz : z < 4294967296 := by rw [← h]; exact xb_max x
  show z = ((z + 2147483648) % 4294967296 + 2147483648) % 4294967296
  omega
/-- the variables are within their bounds -/
def xLin (ρ : Nat → Int32) : Prop := ∀ k c, k < 64 → ρ (k + 64 * c) = ρ k + nI c
def xρ (ρ : Nat → Int32) (env : xE) : Prop := xLin ρ ∧ ∀ (k : Nat) (q : Nat × Nat), env[k]? = some q → q.1 ≤ xb (ρ k) ∧ xb (ρ k) ≤ q.2
theorem xρ_set {ρ : Nat → Int32} {env : xE} (h : xρ ρ env) {k lo hi : Nat} (h1 : lo ≤ xb (ρ k)) (h2 : xb (ρ k) ≤ hi) : xρ ρ (env.set k (lo, hi)) := by
  refine ⟨h.1, ?_⟩
  intro j q hq
  rw [List.getElem?_set] at hq
  split at hq
  · next e =>
    subst e
    split at hq
    · cases hq; exact ⟨h1, h2⟩
    · cases hq
  · exact h.2 j q hq
noncomputable def xcut (env : xE) (k t : Nat) (kT kF : xE → Bool) : Bool := xnth env (fun q => cond (Nat.blt q.2 t) (kT env) (cond (Nat.ble t q.1) (kF env) (cond (xset env (q.1, Nat.pred t) k kT) (xset env (t, q.2) k kF) false))) k
theorem xcut_of {ρ : Nat → Int32} {env : xE} {k t : Nat} {kT kF : xE → Bool} (h : xcut env k t kT kF = true) (hr : xρ ρ env) : (xb (ρ k) < t ∧ ∃ env', xρ ρ env' ∧ kT env' = true) ∨ (t ≤ xb (ρ k) ∧ ∃ env', xρ ρ env' ∧ kF env' = true) := by
  obtain ⟨q, hq, h⟩ := xnth_of h
  have hb := hr.2 k q hq
  by_cases c1 : Nat.blt q.2 t = true
  · rw [c1] at h
    have c1 : q.2 < t := by have c1' := c1; simp [Nat.blt] at c1'; omega
    exact Or.inl ⟨by omega, env, hr, h⟩
  · have c1 : Nat.blt q.2 t = false := xnf c1
    rw [c1] at h
    by_cases c2 : Nat.ble t q.1 = true
    · have c2' := Nat.le_of_ble_eq_true c2
      rw [c2] at h
      exact Or.inr ⟨by omega, env, hr, h⟩
    · have c2 : Nat.ble t q.1 = false := xnf c2
      rw [c2] at h
      obtain ⟨h1, h2⟩ := xcond h
      rcases Nat.lt_or_ge (xb (ρ k)) t with g | g
      · exact Or.inl ⟨g, _, xρ_set hr hb.1 (by show _ ≤ t - 1; omega), (xset_of h1).2⟩
      · exact Or.inr ⟨g, _, xρ_set hr g hb.2, (xset_of h2).2⟩
noncomputable def xallN (env : xE) (k : Nat) (kk : xE → Nat → Bool) (n : Nat) : Nat → Bool := Nat.rec (motive := fun _ => Nat → Bool) (fun _ => true) (fun _ ih z => xfN z (fun z => cond (xset env (z, z) k (fun env' => xfN (xub z) (fun u => kk env' u))) (ih (Nat.succ z)) false)) n
theorem xallN_of {ρ : Nat → Int32} {env : xE} {k : Nat} {kk : xE → Nat → Bool} (hr : xρ ρ env) : ∀ {n z : Nat}, xallN env k kk n z = true → z ≤ xb (ρ k) → xb (ρ k) < z + n → ∃ env' u, xρ ρ env' ∧ ρ k = nI u ∧ kk env' u = true := by
  intro n
  induction n with
  | zero => intro z h h1 h2; exact absurd h2 (by omega)
  | succ n ih =>
    intro z h h1 h2
    have h := xfN_of (n := z) (k := fun z => cond (xset env (z, z) k (fun env' => xfN (xub z) (fun u => kk env' u))) (xallN env k kk n (Nat.succ z)) false) h
    obtain ⟨g1, g2⟩ := xcond h
    by_cases e : xb (ρ k) = z
    · exact ⟨_, _, xρ_set hr (by omega) (by omega), xub_of e, xfN_of (xset_of g1).2⟩
    · exact ih g2 (by show z + 1 ≤ _; omega) (by show _ < z + 1 + n; omega)
noncomputable def xall (env : xE) (k : Nat) (kk : xE → Nat → Bool) : Bool := xnth env (fun q => cond (Nat.ble q.2 (Nat.add q.1 511)) (xallN env k kk (Nat.sub (Nat.succ q.2) q.1) q.1) false) k
theorem xall_of {ρ : Nat → Int32} {env : xE} {k : Nat} {kk : xE → Nat → Bool} (hr : xρ ρ env) (h : xall env k kk = true) : ∃ env' u, xρ ρ env' ∧ ρ k = nI u ∧ kk env' u = true := by
  obtain ⟨q, hq, h⟩ := xnth_of h
  obtain ⟨-, h⟩ := xcond h
  have hb := hr.2 k q hq
  exact xallN_of hr h hb.1 (by show _ < q.1 + (q.2 + 1 - q.1); omega)
end
section
/-! values, comparisons, the handlers of the instructions -/
def xg (ρ : Nat → Int32) (base : Nat) : xV → Value → Prop
  | .inl u, v => v = .int (nI u)
  | .inr (.inl none), v => ∃ x : Int32, v = .int x
  | .inr (.inl (some k)), v => v = .int (ρ k)
  | .inr (.inr (.inl none)), v => v = .null
  | .inr (.inr (.inl (some a))), v => v = .ref (base + a)
  | .inr (.inr (.inr (.inl u))), v => v = .long (lN u)
  | .inr (.inr (.inr (.inr none))), v => ∃ x : Int64, v = .long x
  | .inr (.inr (.inr (.inr (some k)))), v => v = .long (ρ k).toInt64
def xis : xV → Nat
  | .inl _ => 0
  | .inr (.inl _) => 0
  | .inr (.inr (.inl _)) => 1
  | .inr (.inr (.inr _)) => 2
theorem xg_int {ρ : Nat → Int32} {base : Nat} {x : xV} {v : Value} (h : xg ρ base x v) (hk : xis x = 0) : ∃ i : Int32, v = .int i := by
  match x, h, hk with
  | .inl u, h, _ => exact ⟨_, h⟩
  | .inr (.inl none), h, _ => exact h
  | .inr (.inl (some k)), h, _ => exact ⟨_, h⟩
theorem xg_long {ρ : Nat → Int32} {base : Nat} {x : xV} {v : Value} (h : xg ρ base x v) (hk : xis x = 2) : ∃ i : Int64, v = .long i := by
  match x, h, hk with
  | .inr (.inr (.inr (.inl u))), h, _ => exact ⟨_, h⟩
  | .inr (.inr (.inr (.inr none))), h, _ => exact h
  | .inr (.inr (.inr (.inr (some k)))), h, _ => exact ⟨_, h⟩
theorem xg_ref {ρ : Nat → Int32} {base : Nat} {x : xV} {v : Value} (h : xg ρ base x v) (hk : xis x = 1) : v = .null ∨ ∃ a : Nat, v = .ref a := by
  match x, h, hk with
  | .inr (.inr (.inl none)), h, _ => exact Or.inl h
  | .inr (.inr (.inl (some k))), h, _ => exact Or.inr ⟨_, h⟩
theorem xg_cat {ρ : Nat → Int32} {base : Nat} {x : xV} {v : Value} (h : xg ρ base x v) : v.category = if xis x = 2 then 2 else 1 := by
  match x, h with
  | .inl u, h => cases h; rfl
  | .inr (.inl none), h => obtain ⟨i, rfl⟩ := h; rfl
  | .inr (.inl (some k)), h => cases h; rfl
  | .inr (.inr (.inl none)), h => cases h; rfl
  | .inr (.inr (.inl (some a))), h => cases h; rfl
  | .inr (.inr (.inr (.inl u))), h => cases h; rfl
  | .inr (.inr (.inr (.inr none))), h => obtain ⟨i, rfl⟩ := h; rfl
  | .inr (.inr (.inr (.inr (some k)))), h => cases h; rfl
/-- conditions: 0 eq, 1 ne, 2 lt, 3 ge, 4 gt, 5 le -/
def xP : Nat → Int32 → Int32 → Prop
  | 0, x, y => x = y
  | 1, x, y => ¬ x = y
  | 2, x, y => x < y
  | 3, x, y => y ≤ x
  | 4, x, y => y < x
  | _, x, y => x ≤ y
def xcc : Nat → Nat → Nat → Bool
  | 0, x, y => Nat.beq x y
  | 1, x, y => Bool.not (Nat.beq x y)
  | 2, x, y => Nat.blt x y
  | 3, x, y => Nat.ble y x
  | 4, x, y => Nat.blt y x
  | _, x, y => Nat.ble x y
theorem xblt {a b : Nat} : Nat.blt a b = true ↔ a < b := by simp [Nat.blt]; omega
theorem xble {a b : Nat} : Nat.ble a b = true ↔ a ≤ b := by simp
theorem xbeq {a b : Nat} : Nat.beq a b = true ↔ a = b := by simp
theorem xcc_of (c : Nat) (x y : Int32) : xcc c (xb x) (xb y) = true ↔ xP c x y := by
  match c with
  | 0 => rw [xcc, xP, xbeq, xb_eq]
  | 1 =>
    rw [xcc, xP, xb_eq, ← xbeq]
    generalize Nat.beq (xb x) (xb y) = q
    cases q <;> simp
  | 2 => rw [xcc, xP, xblt, xb_lt]
  | 3 => rw [xcc, xP, xble, xb_le]
  | 4 => rw [xcc, xP, xblt, xb_lt]
  | n + 5 => rw [show xcc (n + 5) (xb x) (xb y) = Nat.ble (xb x) (xb y) from rfl, show xP (n + 5) x y = (x ≤ y) from rfl, xble, xb_le]
noncomputable def xcv (env : xE) (k z : Nat) (kk : xE → Bool → Bool) : Nat → Bool
  | 0 => xcut env k z (fun e => kk e false) (fun e => xcut e k (Nat.succ z) (fun e => kk e true) (fun e => kk e false))
  | 1 => xcut env k z (fun e => kk e true) (fun e => xcut e k (Nat.succ z) (fun e => kk e false) (fun e => kk e true))
  | 2 => xcut env k z (fun e => kk e true) (fun e => kk e false)
  | 3 => xcut env k z (fun e => kk e false) (fun e => kk e true)
  | 4 => xcut env k (Nat.succ z) (fun e => kk e false) (fun e => kk e true)
  | _ => xcut env k (Nat.succ z) (fun e => kk e true) (fun e => kk e false)
theorem xiff_true {P : Prop} (h : P) : true = true ↔ P := ⟨fun _ => h, fun _ => rfl⟩
theorem xiff_false {P : Prop} (h : ¬ P) : false = true ↔ P := ⟨fun q => Bool.noConfusion q, fun q => absurd q h⟩
theorem xcv_of {ρ : Nat → Int32} {env : xE} {k : Nat} {y : Int32} {kk : xE → Bool → Bool} (hr : xρ ρ env) (c : Nat) (h : xcv env k (xb y) kk c = true) : ∃ env' b, xρ ρ env' ∧ kk env' b = true ∧ (b = true ↔ xP c (ρ k) y) := by
  match c, h with
  | 0, h =>
    rw [xcv] at h
    rcases xcut_of h hr with ⟨a, e, he, h⟩ | ⟨a, e, he, h⟩
    · exact ⟨e, false, he, h, xiff_false (by show ¬ ρ k = y; rw [xb_eq]; omega)⟩
    · rcases xcut_of h he with ⟨a', e, he, h⟩ | ⟨a', e, he, h⟩
      · exact ⟨e, true, he, h, xiff_true (by show ρ k = y; rw [xb_eq]; omega)⟩
      · exact ⟨e, false, he, h, xiff_false (by show ¬ ρ k = y; rw [xb_eq]; omega)⟩
  | 1, h =>
    rw [xcv] at h
    rcases xcut_of h hr with ⟨a, e, he, h⟩ | ⟨a, e, he, h⟩
    · exact ⟨e, true, he, h, xiff_true (by show ¬ ρ k = y; rw [xb_eq]; omega)⟩
    · rcases xcut_of h he with ⟨a', e, he, h⟩ | ⟨a', e, he, h⟩
      · exact ⟨e, false, he, h, xiff_false (by show ¬ ¬ ρ k = y; rw [xb_eq]; omega)⟩
      · exact ⟨e, true, he, h, xiff_true (by show ¬ ρ k = y; rw [xb_eq]; omega)⟩
  | 2, h =>
    rw [xcv] at h
    rcases xcut_of h hr with ⟨a, e, he, h⟩ | ⟨a, e, he, h⟩
    · exact ⟨e, true, he, h, xiff_true (by show ρ k < y; rw [xb_lt]; omega)⟩
    · exact ⟨e, false, he, h, xiff_false (by show ¬ ρ k < y; rw [xb_lt]; omega)⟩
  | 3, h =>
    rw [xcv] at h
    rcases xcut_of h hr with ⟨a, e, he, h⟩ | ⟨a, e, he, h⟩
    · exact ⟨e, false, he, h, xiff_false (by show ¬ y ≤ ρ k; rw [xb_le]; omega)⟩
    · exact ⟨e, true, he, h, xiff_true (by show y ≤ ρ k; rw [xb_le]; omega)⟩
  | 4, h =>
    rw [xcv] at h
    rcases xcut_of h hr with ⟨a, e, he, h⟩ | ⟨a, e, he, h⟩
    · exact ⟨e, false, he, h, xiff_false (by show ¬ y < ρ k; rw [xb_lt]; omega)⟩
    · exact ⟨e, true, he, h, xiff_true (by show y < ρ k; rw [xb_lt]; omega)⟩
  | n + 5, h =>
    have h : xcut env k (Nat.succ (xb y)) (fun e => kk e true) (fun e => kk e false) = true := h
    rcases xcut_of h hr with ⟨a, e, he, h⟩ | ⟨a, e, he, h⟩
    · exact ⟨e, true, he, h, xiff_true (by show ρ k ≤ y; rw [xb_le]; omega)⟩
    · exact ⟨e, false, he, h, xiff_false (by show ¬ ρ k ≤ y; rw [xb_le]; omega)⟩
def xsw : Nat → Nat
  | 0 => 0
  | 1 => 1
  | 2 => 4
  | 3 => 5
  | 4 => 2
  | _ => 3
theorem xsw_of (c : Nat) (x y : Int32) : xP (xsw c) y x ↔ xP c x y := by
  match c with
  | 0 => exact eq_comm
  | 1 => exact not_congr eq_comm
  | 2 => exact Iff.rfl
  | 3 => exact Iff.rfl
  | 4 => exact Iff.rfl
  | _ + 5 => exact Iff.rfl
/-- the first is at most the second -/
noncomputable def xcap (env : xE) (i j : Nat) (k : xE → Bool) : Bool := xnth env (fun p => xnth env (fun q => xset env (p.1, cond (Nat.ble p.2 q.2) p.2 q.2) i k) j) i
theorem xcap_of {ρ : Nat → Int32} {env : xE} {i j : Nat} {k : xE → Bool} (h : xcap env i j k = true) (hr : xρ ρ env) (hle : ρ i ≤ ρ j) : ∃ env', xρ ρ env' ∧ k env' = true := by
  obtain ⟨p, hp, h⟩ := xnth_of h
  obtain ⟨q, hq, h⟩ := xnth_of h
  have h1 := hr.2 i p hp
  have h2 := hr.2 j q hq
  have h3 := xb_le.mp hle
  refine ⟨_, xρ_set hr h1.1 ?_, (xset_of h).2⟩
  by_cases c : Nat.ble p.2 q.2 = true
  · rw [c]; exact h1.2
  · rw [xnf c]; exact Nat.le_trans h3 h2.2
noncomputable def xcmp (env : xE) (c : Nat) (kk : xE → Bool → Bool) : xV → xV → Bool
  | .inl u, .inl v => kk env (xcc c (xbc u) (xbc v))
  | .inr (.inl (some k)), .inl v => cond (Nat.blt k 64) (xfN (xbc v) (fun z => xcv env k z kk c)) (cond (kk env true) (kk env false) false)
  | .inl u, .inr (.inl (some k)) => cond (Nat.blt k 64) (xfN (xbc u) (fun z => xcv env k z kk (xsw c))) (cond (kk env true) (kk env false) false)
  | .inr (.inl (some i)), .inr (.inl (some j)) => cond (Bool.and (Nat.beq c 4) (Bool.and (Nat.blt i 64) (Nat.blt j 64))) (cond (kk env true) (xcap env i j (fun e => kk e false)) false) (cond (kk env true) (kk env false) false)
  | .inr (.inl _), .inl _ => cond (kk env true) (kk env false) false
  | .inl _, .inr (.inl _) => cond (kk env true) (kk env false) false
  | .inr (.inl _), .inr (.inl _) => cond (kk env true) (kk env false) false
  | _, _ => false
theorem xcmp_any {ρ : Nat → Int32} {env : xE} {c : Nat} {kk : xE → Bool → Bool} (hr : xρ ρ env) (x y : Int32) (h : cond (kk env true) (kk env false) false = true) : ∃ env' b, xρ ρ env' ∧ kk env' b = true ∧ (b = true ↔ xP c x y) := by
  obtain ⟨h1, h2⟩ := xcond h
  by_cases hp : xP c x y
  · exact ⟨env, true, hr, h1, by simp [hp]⟩
  · exact ⟨env, false, hr, h2, by simp [hp]⟩
theorem xcmp_of {ρ : Nat → Int32} {base : Nat} {env : xE} {c : Nat} {kk : xE → Bool → Bool} {a b : xV} {va vb : Value} (hr : xρ ρ env) (ha : xg ρ base a va) (hb : xg ρ base b vb) (h : xcmp env c kk a b = true) :
    ∃ x y : Int32, va = .int x ∧ vb = .int y ∧ ∃ env' r, xρ ρ env' ∧ kk env' r = true ∧ (r = true ↔ xP c x y) := by
  cases a with
  | inl u =>
    cases b with
    | inl v =>
      refine ⟨_, _, ha, hb, env, xcc c (xbc u) (xbc v), hr, h, ?_⟩
      rw [xbc_eq, xbc_eq]; exact xcc_of c _ _
    | inr b =>
      cases b with
      | inl o =>
        cases o with
        | none => obtain ⟨x, hb⟩ := hb; exact ⟨_, _, ha, hb, xcmp_any hr _ _ h⟩
        | some k =>
          have h : cond (Nat.blt k 64) (xfN (xbc u) (fun z => xcv env k z kk (xsw c))) (cond (kk env true) (kk env false) false) = true := h
          by_cases c64 : Nat.blt k 64 = true
          · rw [c64, cond_true] at h
            have h := xfN_of h
            rw [xbc_eq] at h
            obtain ⟨e, r, h1, h2, h3⟩ := xcv_of hr (xsw c) h
            exact ⟨_, _, ha, hb, e, r, h1, h2, h3.trans (xsw_of c _ _)⟩
          · rw [xnf c64, cond_false] at h
            exact ⟨_, _, ha, hb, xcmp_any hr _ _ h⟩
      | inr b => exact absurd h (by simp [xcmp])
  | inr a =>
    cases a with
    | inl o =>
      cases b with
      | inl v =>
        cases o with
        | none => obtain ⟨x, ha⟩ := ha; exact ⟨_, _, ha, hb, xcmp_any hr _ _ h⟩
        | some k =>
          have h : cond (Nat.blt k 64) (xfN (xbc v) (fun z => xcv env k z kk c)) (cond (kk env true) (kk env false) false) = true := h
          by_cases c64 : Nat.blt k 64 = true
          · rw [c64, cond_true] at h
            have h := xfN_of h
            rw [xbc_eq] at h
            exact ⟨_, _, ha, hb, xcv_of hr c h⟩
          · rw [xnf c64, cond_false] at h
            exact ⟨_, _, ha, hb, xcmp_any hr _ _ h⟩
      | inr b =>
        cases b with
        | inl o' =>
          obtain ⟨x, hx⟩ := xg_int ha rfl
          obtain ⟨y, hy⟩ := xg_int hb rfl
          cases o with
          | none => exact ⟨x, y, hx, hy, xcmp_any hr _ _ (by cases o' <;> exact h)⟩
          | some i =>
            cases o' with
            | none => exact ⟨x, y, hx, hy, xcmp_any hr _ _ h⟩
            | some j =>
              have h : cond (Bool.and (Nat.beq c 4) (Bool.and (Nat.blt i 64) (Nat.blt j 64))) (cond (kk env true) (xcap env i j (fun e => kk e false)) false) (cond (kk env true) (kk env false) false) = true := h
              by_cases c4 : Bool.and (Nat.beq c 4) (Bool.and (Nat.blt i 64) (Nat.blt j 64)) = true
              · rw [c4, cond_true] at h
                obtain ⟨h1, h2⟩ := xcond h
                have e4 : c = 4 := Nat.eq_of_beq_eq_true (by cases hq : Nat.beq c 4 with | true => rfl | false => rw [hq] at c4; cases c4)
                subst e4
                have ex : x = ρ i := by cases hx; cases ha; rfl
                have ey : y = ρ j := by cases hy; cases hb; rfl
                by_cases hp : xP 4 x y
                · exact ⟨x, y, hx, hy, env, true, hr, h1, by simp [hp]⟩
                · have hle : ρ i ≤ ρ j := by
                    have hp : ¬ y < x := hp
                    rw [← ex, ← ey]
                    exact Int32.not_lt.mp hp
                  obtain ⟨e, h3, h4⟩ := xcap_of h2 hr hle
                  exact ⟨x, y, hx, hy, e, false, h3, h4, by simp [hp]⟩
              · rw [xnf c4, cond_false] at h
                exact ⟨x, y, hx, hy, xcmp_any hr _ _ h⟩
        | inr b => exact absurd h (by cases o <;> simp [xcmp])
    | inr a =>
      exact absurd h (by
        cases b with
        | inl v => simp [xcmp]
        | inr b =>
          cases b with
          | inl o => cases o <;> simp [xcmp]
          | inr b => simp [xcmp])
/-- an int that is used: known, or all that a variable within narrow bounds may be, or any -/
noncomputable def xci (env : xE) (kc : xE → Nat → Bool) (kt : Bool) : xV → Bool
  | .inl u => kc env u
  | .inr (.inl none) => kt
  | .inr (.inl (some k)) => cond (Nat.blt k 64) (xnth env (fun q => cond (Nat.ble q.2 (Nat.add q.1 127)) (xall env k kc) kt) k) kt
  | _ => false
theorem xci_of {ρ : Nat → Int32} {base : Nat} {env : xE} {kc : xE → Nat → Bool} {kt : Bool} {a : xV} {va : Value} (hr : xρ ρ env) (ha : xg ρ base a va) (h : xci env kc kt a = true) :
    ∃ x : Int32, va = .int x ∧ ((∃ env' u, xρ ρ env' ∧ x = nI u ∧ kc env' u = true) ∨ kt = true) := by
  match a, ha, h with
  | .inl u, ha, h => exact ⟨_, ha, Or.inl ⟨env, u, hr, rfl, h⟩⟩
  | .inr (.inl none), ha, h => obtain ⟨x, ha⟩ := ha; exact ⟨x, ha, Or.inr h⟩
  | .inr (.inl (some k)), ha, h =>
    refine ⟨_, ha, ?_⟩
    have h : cond (Nat.blt k 64) (xnth env (fun q => cond (Nat.ble q.2 (Nat.add q.1 127)) (xall env k kc) kt) k) kt = true := h
    by_cases c64 : ¬ Nat.blt k 64 = true
    · rw [xnf c64, cond_false] at h
      exact Or.inr h
    have c64 : Nat.blt k 64 = true := Classical.not_not.mp c64
    rw [c64, cond_true] at h
    obtain ⟨q, -, h⟩ := xnth_of h
    by_cases c : Nat.ble q.2 (Nat.add q.1 127) = true
    · rw [c] at h
      obtain ⟨e, u, h1, h2, h3⟩ := xall_of hr h
      exact Or.inl ⟨e, u, h1, h2, h3⟩
    · have c : Nat.ble q.2 (Nat.add q.1 127) = false := xnf c
      rw [c] at h
      exact Or.inr h
/-- two-operand ints: 0 add, 1 sub, 2 mul, 3 and, 4 or, 5 xor, 6 shl, 7 shr, 8 ushr -/
def xio : Nat → Int32 → Int32 → Int32
  | 0, x, y => x + y
  | 1, x, y => x - y
  | 2, x, y => x * y
  | 3, x, y => x &&& y
  | 4, x, y => x ||| y
  | 5, x, y => x ^^^ y
  | 6, x, y => x <<< (y &&& 31)
  | 7, x, y => x >>> (y &&& 31)
  | _, x, y => (x.toUInt32 >>> (y.toUInt32 &&& Int32.toUInt32 31)).toInt32
def xioc : Nat → Nat → Nat → Nat
  | 0, x, y => Nat.mod (Nat.add x y) 4294967296
  | 1, x, y => Nat.mod (Nat.add x (Nat.sub 4294967296 (Nat.mod y 4294967296))) 4294967296
  | 2, x, y => Nat.mod (Nat.mul x y) 4294967296
  | 3, x, y => Nat.land x y
  | 4, x, y => Nat.lor x y
  | f, x, y => xcode (xio f (nI x) (nI y))
theorem xioc_of (f u v : Nat) : nI (xioc f u v) = xio f (nI u) (nI v) := by
  match f with
  | 0 => show nI ((u + v) % 4294967296) = nI u + nI v; rw [xn_mod, nI_add]
  | 1 =>
    show nI ((u + (4294967296 - v % 4294967296)) % 4294967296) = nI u - nI v
    apply xn_inj
    rw [Int32.toBitVec_sub, BitVec.toNat_sub, xn_tn, xn_tn, xn_tn]
    omega
  | 2 => show nI ((u * v) % 4294967296) = nI u * nI v; rw [xn_mod, pk_mul]
  | 3 =>
    show nI (u &&& v) = nI u &&& nI v
    apply xn_inj
    rw [Int32.toBitVec_and, BitVec.toNat_and, xn_tn, xn_tn, xn_tn]
    exact Nat.and_mod_two_pow (n := 32)
  | 4 =>
    show nI (u ||| v) = nI u ||| nI v
    apply xn_inj
    rw [Int32.toBitVec_or, BitVec.toNat_or, xn_tn, xn_tn, xn_tn]
    exact Nat.or_mod_two_pow (n := 32)
  | f + 5 => exact xn_code _
/-- one-operand ints: 0 neg, 1 i2b, 2 i2s, 3 i2c -/
def xiu : Nat → Int32 → Int32
  | 0, x => -x
  | 1, x => x.toInt8.toInt32
  | 2, x => x.toInt16.toInt32
  | _, x => (x.toUInt32 % 65536).toInt32
/-- longs: 0 add, 1 sub, 2 mul, 3 and, 4 or, 5 xor -/
def xlo : Nat → Int64 → Int64 → Int64
  | 0, x, y => x + y
  | 1, x, y => x - y
  | 2, x, y => x * y
  | 3, x, y => x &&& y
  | 4, x, y => x ||| y
  | _, x, y => x ^^^ y
def xls : Nat → Int64 → Int32 → Int64
  | 0, x, y => x <<< (y.toInt64 &&& 63)
  | 1, x, y => x >>> (y.toInt64 &&& 63)
  | _, x, y => (x.toUInt64 >>> (y.toInt64.toUInt64 &&& Int64.toUInt64 63)).toInt64
/-- the rest of the code from a target on -/
noncomputable def xjmp (c : List xI) (t : Nat) (k : List xI → Bool) : Bool := List.rec (motive := fun _ => Bool) false (fun i c ih => cond (Nat.beq i.1 t) (k (i :: c)) ih) c
theorem xjmp_of {c : List xI} {t : Nat} {k : List xI → Bool} (h : xjmp c t k = true) : ∃ i r, i.1 = t ∧ (i :: r) <:+ c ∧ k (i :: r) = true := by
  induction c with
  | nil => exact absurd h (by change ¬ (false = true); decide)
  | cons i c ih =>
    have h : cond (Nat.beq i.1 t) (k (i :: c)) (xjmp c t k) = true := h
    by_cases e : Nat.beq i.1 t = true
    · rw [e] at h
      exact ⟨i, c, Nat.eq_of_beq_eq_true e, List.suffix_refl _, h⟩
    · have e : Nat.beq i.1 t = false := xnf e
      rw [e] at h
      obtain ⟨j, r, h1, h2, h3⟩ := ih h
      exact ⟨j, r, h1, h2.trans (List.suffix_cons _ _), h3⟩
end
section
/-! the handlers: what an instruction does to the abstract state -/
abbrev xIh : Type := xM → List xI → xA → xK → Bool
abbrev xHd : Type := xIh → xM → List xI → Nat → Nat → List Nat → xA → xK → Bool
abbrev xTop : xV := .inr (.inl none)
abbrev xTopL : xV := .inr (.inr (.inr (.inr none)))
abbrev xLc (u : Nat) : xV := .inr (.inr (.inr (.inl u)))
abbrev xRef (a : Nat) : xV := .inr (.inr (.inl (some a)))
noncomputable def xfind (lv : xL) (i : Nat) (k : xV → Bool) : Bool := List.rec (motive := fun _ => Bool) false (fun q _ ih => cond (Nat.beq q.1 i) (k q.2) ih) lv
theorem xfind_of {lv : xL} {i : Nat} {k : xV → Bool} (h : xfind lv i k = true) : ∃ (j : Nat) (v : xV), lv[j]? = some (i, v) ∧ k v = true := by
  induction lv with
  | nil => exact absurd h (by change ¬ (false = true); decide)
  | cons q lv ih =>
    have h : cond (Nat.beq q.1 i) (k q.2) (xfind lv i k) = true := h
    by_cases e : Nat.beq q.1 i = true
    · rw [e] at h
      exact ⟨0, q.2, by rw [← Nat.eq_of_beq_eq_true e]; rfl, h⟩
    · have e : Nat.beq q.1 i = false := xnf e
      rw [e] at h
      obtain ⟨j, v, h1, h2⟩ := ih h
      exact ⟨j + 1, v, h1, h2⟩
/-- does a store of kind b at i take this local away? -/
def xdrop (i b : Nat) (q : Nat × xV) : Bool := Bool.or (Nat.beq q.1 i) (Bool.or (Bool.and (Nat.beq (Nat.succ q.1) i) (Nat.beq (xis q.2) 2)) (Bool.and (Nat.beq b 2) (Nat.beq q.1 (Nat.succ i))))
noncomputable def xfil (i b : Nat) (lv : xL) : (xL → Bool) → Bool := List.rec (motive := fun _ => (xL → Bool) → Bool) (fun k => k []) (fun q _ ih k => cond (xdrop i b q) (ih k) (ih (fun l => k (q :: l)))) lv
theorem xfil_of {i b : Nat} {lv : xL} : ∀ {k : xL → Bool}, xfil i b lv k = true → k (lv.filter (fun q => !xdrop i b q)) = true := by
  induction lv with
  | nil => intro k h; exact h
  | cons q lv ih =>
    intro k h
    have h : cond (xdrop i b q) (xfil i b lv k) (xfil i b lv (fun l => k (q :: l))) = true := h
    by_cases e : xdrop i b q = true
    · rw [e] at h
      have := ih h
      simpa [List.filter_cons, e] using this
    · have e : xdrop i b q = false := xnf e
      rw [e] at h
      have := ih (k := fun l => k (q :: l)) h
      simpa [List.filter_cons, e] using this
noncomputable def xo_iconst : xHd := fun ih me cs a _ _ A k => match A with | (lv, st, r) => ih me cs (lv, .inl a :: st, r) k
noncomputable def xo_lconst : xHd := fun ih me cs a _ _ A k => match A with | (lv, st, r) => ih me cs (lv, xLc a :: st, r) k
noncomputable def xo_null : xHd := fun ih me cs _ _ _ A k => match A with | (lv, st, r) => ih me cs (lv, .inr (.inr (.inl none)) :: st, r) k
noncomputable def xo_load : xHd := fun ih me cs a b _ A k => match A with | (lv, st, r) => xfind lv a (fun v => cond (Nat.beq (xis v) b) (ih me cs (lv, v :: st, r) k) false)
noncomputable def xo_store : xHd := fun ih me cs a b _ A k => match A with
  | (lv, v :: st, r) => cond (Nat.beq (xis v) b) (xfil a b lv (fun l => ih me cs ((a, v) :: l, st, r) k)) false
  | (_, [], _) => false
/-- what is known of a sum or difference with one of the variables -/
def xsum (a : Nat) : xV → xV → xV
  | .inl u, .inr (.inl (some k)) => cond (Bool.and (Nat.beq a 0) (Nat.blt k 64)) (.inr (.inl (some (Nat.add k (Nat.mul 64 u))))) xTop
  | .inr (.inl (some k)), .inl v => cond (Nat.blt k 64) (cond (Nat.beq a 0) (.inr (.inl (some (Nat.add k (Nat.mul 64 v))))) (cond (Nat.beq a 1) (.inr (.inl (some (Nat.add k (Nat.mul 64 (Nat.mod (Nat.sub 4294967296 (Nat.mod v 4294967296)) 4294967296)))))) xTop)) xTop
  | _, _ => xTop
theorem xneg2 (v : Nat) (z : Int32) : z - nI v = z + nI ((4294967296 - v % 4294967296) % 4294967296) := by
  apply xn_inj
  rw [Int32.toBitVec_sub, BitVec.toNat_sub, Int32.toBitVec_add, BitVec.toNat_add, xn_tn, xn_tn]
  have := z.toBitVec.isLt
  omega
theorem xsum_of {ρ : Nat → Int32} {base a : Nat} {x y : xV} {x' y' : Int32} (hl : xLin ρ) (hx : xg ρ base x (.int x')) (hy : xg ρ base y (.int y')) : xg ρ base (xsum a x y) (.int (xio a x' y')) := by
  have top : xg ρ base xTop (.int (xio a x' y')) := ⟨_, rfl⟩
  cases x with
  | inl u =>
    cases y with
    | inl v => exact top
    | inr y =>
      cases y with
      | inr y => exact top
      | inl o =>
        cases o with
        | none => exact top
        | some k =>
          have ex : x' = nI u := by injection hx
          have ey : y' = ρ k := by injection hy
          show xg ρ base (cond (Bool.and (Nat.beq a 0) (Nat.blt k 64)) _ xTop) _
          cases hc : Bool.and (Nat.beq a 0) (Nat.blt k 64) with
          | false => exact top
          | true =>
            have h0 : a = 0 := Nat.eq_of_beq_eq_true (by cases hq : Nat.beq a 0 with | true => rfl | false => rw [hq] at hc; cases hc)
            have h1 : Nat.blt k 64 = true := by cases hq : Nat.blt k 64 with | true => rfl | false => rw [hq] at hc; cases hr : Nat.beq a 0 <;> rw [hr] at hc <;> cases hc
            have h1 := xblt.mp h1
            subst h0
            show Value.int (x' + y') = Value.int (ρ (k + 64 * u))
            rw [hl k u h1, ex, ey, Int32.add_comm]
  | inr x =>
    cases x with
    | inr x => exact top
    | inl o =>
      cases o with
      | none => exact top
      | some k =>
        cases y with
        | inr y => exact top
        | inl v =>
          have ex : x' = ρ k := by injection hx
          have ey : y' = nI v := by injection hy
          show xg ρ base (cond (Nat.blt k 64) (cond (Nat.beq a 0) _ (cond (Nat.beq a 1) _ xTop)) xTop) _
          cases hc : Nat.blt k 64 with
          | false => exact top
          | true =>
            have h1 := xblt.mp hc
            cases h0 : Nat.beq a 0 with
            | true =>
              have h0 := Nat.eq_of_beq_eq_true h0
              subst h0
              show Value.int (x' + y') = Value.int (ρ (k + 64 * v))
              rw [hl k v h1, ex, ey]
            | false =>
              cases h2 : Nat.beq a 1 with
              | false => exact top
              | true =>
                have h2 := Nat.eq_of_beq_eq_true h2
                subst h2
                show Value.int (x' - y') = Value.int (ρ (k + 64 * ((4294967296 - v % 4294967296) % 4294967296)))
                rw [hl k _ h1, ex, ey, xneg2]
/-- an array all of whose places hold the same -/
def xsame : xV → xV → Bool
  | .inl a, .inl b => Nat.beq a b
  | .inr (.inr (.inr (.inl a))), .inr (.inr (.inr (.inl b))) => Nat.beq a b
  | _, _ => false
theorem xsame_of {x y : xV} (h : xsame x y = true) : x = y := by
  rcases x with a | a | a | a | a <;> rcases y with b | b | b | b | b <;> first | (rw [Nat.eq_of_beq_eq_true (show Nat.beq a b = true from h)]) | exact absurd h (by simp [xsame])
noncomputable def xallr (v : xV) (r : List xV) : Bool := List.rec (motive := fun _ => Bool) true (fun a _ ih => cond (xsame v a) ih false) r
theorem xallr_of {v : xV} : ∀ {r : List xV}, xallr v r = true → ∀ i, i < r.length → r[i]? = some v := by
  intro r
  induction r with
  | nil => intro _ i hi; exact absurd hi (by simp)
  | cons a r ih =>
    intro h i hi
    obtain ⟨h1, h2⟩ := xcond (b := xsame v a) (x := xallr v r) h
    cases i with
    | zero => rw [xsame_of h1]; rfl
    | succ i => simpa using ih h2 i (by simpa using hi)
noncomputable def xunif (v : xV) (rows : List (List xV)) : Nat → Bool := List.rec (motive := fun _ => Nat → Bool) (fun n => Nat.beq n 0) (fun r _ ih n => cond (xallr v r) (cond (Nat.ble 64 n) (cond (Nat.beq (xlen r) 64) (ih (Nat.sub n 64)) false) (Nat.beq (xlen r) n)) false) rows
theorem xat_cons {α : Type} (r : List α) (h : List (List α)) (i : Nat) : xat (r :: h) i = if i < 64 then r[i]? else xat h (i - 64) := by
  unfold xat
  split
  · next q => rw [show i / 64 = 0 by omega, show i % 64 = i by omega]; rfl
  · next q => rw [show i / 64 = (i - 64) / 64 + 1 by omega, show i % 64 = (i - 64) % 64 by omega]; simp
theorem xunif_of {v : xV} : ∀ {rows : List (List xV)} {n : Nat}, xunif v rows n = true → ∀ i, i < n → xat rows i = some v := by
  intro rows
  induction rows with
  | nil => intro n h i hi; have h : n = 0 := Nat.eq_of_beq_eq_true h; omega
  | cons r rows ih =>
    intro n h i hi
    obtain ⟨h1, h2⟩ := xcond (b := xallr v r) (x := cond (Nat.ble 64 n) (cond (Nat.beq (xlen r) 64) (xunif v rows (Nat.sub n 64)) false) (Nat.beq (xlen r) n)) h
    rw [xat_cons]
    by_cases c : Nat.ble 64 n = true
    · rw [c] at h2
      obtain ⟨h3, h4⟩ := xcond h2
      have h3 := Nat.eq_of_beq_eq_true h3
      rw [xlen_eq] at h3
      split
      · exact xallr_of h1 i (by omega)
      · exact ih h4 (i - 64) (by show i - 64 < n - 64; omega)
    · rw [xnf c] at h2
      have h3 : xlen r = n := Nat.eq_of_beq_eq_true h2
      rw [xlen_eq] at h3
      have h5 : n < 64 := by
        rcases Nat.lt_or_ge n 64 with q | q
        · exact q
        · exact absurd (by simpa using q) c
      rw [if_pos (by omega)]
      exact xallr_of h1 i (by omega)
noncomputable def xidx (env : xE) (n k : Nat) : Bool := xnth env (fun q => Bool.and (Nat.ble 2147483648 (Nat.add q.1 (Nat.div k 64))) (Nat.blt (Nat.add q.2 (Nat.div k 64)) (Nat.add 2147483648 n))) (Nat.mod k 64)
theorem xidx_of {ρ : Nat → Int32} {env : xE} {n k : Nat} (hr : xρ ρ env) (hn : n ≤ 2147483648) (h : xidx env n k = true) : ∃ u, ρ k = nI u ∧ u < n ∧ u < 2147483648 := by
  obtain ⟨q, hq, h⟩ := xnth_of h
  have hb := hr.2 (k % 64) q hq
  have h1 : Nat.ble 2147483648 (q.1 + k / 64) = true := by cases hc : Nat.ble 2147483648 (q.1 + k / 64) with | true => rfl | false => exact absurd (show Bool.and (Nat.ble 2147483648 (q.1 + k / 64)) _ = true from h) (by rw [hc]; simp)
  have h2 : Nat.blt (q.2 + k / 64) (2147483648 + n) = true := by cases hc : Nat.blt (q.2 + k / 64) (2147483648 + n) with | true => rfl | false => exact absurd (show Bool.and _ (Nat.blt (q.2 + k / 64) (2147483648 + n)) = true from h) (by rw [hc]; simp)
  have h1 := Nat.le_of_ble_eq_true h1
  have h2 := xblt.mp h2
  have e := hr.1 (k % 64) (k / 64) (Nat.mod_lt _ (by decide))
  rw [show k % 64 + 64 * (k / 64) = k by omega] at e
  have e3 : ρ (k % 64) = nI ((xb (ρ (k % 64)) + 2147483648) % 4294967296) := xub_of (x := ρ (k % 64)) rfl
  generalize xb (ρ (k % 64)) = z at hb e3
  refine ⟨z + k / 64 - 2147483648, ?_, by omega, by omega⟩
  have e4 : (z + 2147483648 + k / 64) % 4294967296 = (z + k / 64 - 2147483648) % 4294967296 := by omega
  rw [e, e3, xn_mod, nI_add, ← xn_mod (z + 2147483648 + k / 64), e4, xn_mod]
noncomputable def xuld (env : xE) (h : xH) (o a : Nat) (k : xV → Bool) : xV → Bool
  | .inr (.inl (some j)) => xhget h o (fun c => cond (Nat.beq c.1 a) (xhget c.2.2 0 (fun v => cond (Bool.and (Nat.ble c.2.1 2147483648) (xidx env c.2.1 j)) (cond (xunif v c.2.2 c.2.1) (k v) false) false)) false)
  | _ => false
noncomputable def xust (env : xE) (h : xH) (o a : Nat) (v : xV) (k : Bool) : xV → Bool
  | .inr (.inl (some j)) => xhget h o (fun c => cond (Nat.beq c.1 a) (cond (Bool.and (Nat.ble c.2.1 2147483648) (xidx env c.2.1 j)) (cond (xunif v c.2.2 c.2.1) k false) false) false)
  | _ => false
noncomputable def xo_iinc : xHd := fun ih me cs a b _ A k => match A with
  | (lv, st, env, r) => xfind lv a (fun v => xci env (fun e u => xfN (xioc 0 u b) (fun w => xfil a 0 lv (fun l => ih me cs ((a, .inl w) :: l, st, e, r) k))) (xfil a 0 lv (fun l => ih me cs ((a, xsum 0 v (.inl b)) :: l, st, env, r) k)) v)
def xz : xV → Bool
  | .inl u => Nat.beq u 0
  | _ => false
noncomputable def xo_ibin : xHd := fun ih me cs a _ _ A k => match A with
  | (lv, y :: x :: st, env, r) => cond (Bool.and (Nat.beq a 0) (Bool.and (xz y) (Nat.beq (xis x) 0))) (ih me cs (lv, x :: st, env, r) k) (cond (Bool.and (Nat.beq a 0) (Bool.and (xz x) (Nat.beq (xis y) 0))) (ih me cs (lv, y :: st, env, r) k) (xci env (fun e u => xci e (fun e v => xfN (xioc a u v) (fun w => ih me cs (lv, .inl w :: st, e, r) k)) (ih me cs (lv, xsum a (.inl u) y :: st, e, r) k) y) (cond (Nat.beq (xis y) 0) (ih me cs (lv, xsum a x y :: st, env, r) k) false) x))
  | _ => false
/-- 0 div, 1 rem -/
def xdv : Nat → Int32 → Int32 → Int32
  | 0, x, y => x / y
  | _, x, y => x - x / y * y
def xdvc (a u v : Nat) : Nat := cond (Bool.and (Nat.blt u 2147483648) (Nat.blt v 2147483648)) (Nat.rec (motive := fun _ => Nat) (Nat.div u v) (fun _ _ => Nat.mod u v) a) (xcode (xdv a (nI u) (nI v)))
noncomputable def xo_idiv : xHd := fun ih me cs a _ _ A k => match A with
  | (lv, y :: x :: st, env, r) => xci env (fun e v => cond (Nat.beq (Nat.mod v 4294967296) 0) false (xci e (fun e u => xfN (xdvc a u v) (fun w => ih me cs (lv, .inl w :: st, e, r) k)) (ih me cs (lv, xTop :: st, e, r) k) x)) false y
  | _ => false
noncomputable def xo_iun : xHd := fun ih me cs a _ _ A k => match A with
  | (lv, x :: st, env, r) => xci env (fun e u => xfN (xcode (xiu a (nI u))) (fun w => ih me cs (lv, .inl w :: st, e, r) k)) (ih me cs (lv, xTop :: st, env, r) k) x
  | _ => false
noncomputable def xo_i2l : xHd := fun ih me cs _ _ _ A k => match A with
  | (lv, x :: st, r) => match x with
    | .inl u => xfN (xcodeL (nI u).toInt64) (fun w => ih me cs (lv, xLc w :: st, r) k)
    | .inr (.inl none) => ih me cs (lv, xTopL :: st, r) k
    | .inr (.inl (some i)) => cond (Nat.blt i 64) (ih me cs (lv, .inr (.inr (.inr (.inr (some i)))) :: st, r) k) (ih me cs (lv, xTopL :: st, r) k)
    | .inr (.inr _) => false
  | _ => false
noncomputable def xo_l2i : xHd := fun ih me cs _ _ _ A k => match A with
  | (lv, x :: st, r) => match x with
    | .inr (.inr (.inr (.inl u))) => xfN (xcode (lN u).toInt32) (fun w => ih me cs (lv, .inl w :: st, r) k)
    | .inr (.inr (.inr (.inr _))) => ih me cs (lv, xTop :: st, r) k
    | _ => false
  | _ => false
/-- the known long, or not -/
def xlc : xV → Option Nat
  | .inr (.inr (.inr (.inl u))) => some u
  | _ => none
noncomputable def xo_lbin : xHd := fun ih me cs a _ _ A k => match A with
  | (lv, y :: x :: st, r) => cond (Bool.and (Nat.beq (xis y) 2) (Nat.beq (xis x) 2)) (match xlc x, xlc y with
    | some u, some v => xfN (xcodeL (xlo a (lN u) (lN v))) (fun w => ih me cs (lv, xLc w :: st, r) k)
    | _, _ => ih me cs (lv, xTopL :: st, r) k) false
  | _ => false
/-- 0 div, 1 rem; the divisor known and not 0 -/
def xldv : Nat → Int64 → Int64 → Int64
  | 0, x, y => x / y
  | _, x, y => x - x / y * y
noncomputable def xo_ldiv : xHd := fun ih me cs a _ _ A k => match A with
  | (lv, y :: x :: st, r) => cond (Nat.beq (xis x) 2) (match xlc y with
    | some v => cond (Nat.beq (Nat.mod v 18446744073709551616) 0) false (match xlc x with
      | some u => xfN (xcodeL (xldv a (lN u) (lN v))) (fun w => ih me cs (lv, xLc w :: st, r) k)
      | none => ih me cs (lv, xTopL :: st, r) k)
    | none => false) false
  | _ => false
noncomputable def xo_lsh : xHd := fun ih me cs a _ _ A k => match A with
  | (lv, y :: x :: st, r) => cond (Bool.and (Nat.beq (xis y) 0) (Nat.beq (xis x) 2)) (match xlc x, y with
    | some u, .inl v => xfN (xcodeL (xls a (lN u) (nI v))) (fun w => ih me cs (lv, xLc w :: st, r) k)
    | _, _ => ih me cs (lv, xTopL :: st, r) k) false
  | _ => false
/-- is this long the long of this int? -/
def xwide (u : Nat) : Bool := Nat.beq (xcodeL (nI (Nat.mod u 4294967296)).toInt64) (Nat.mod u 18446744073709551616)
noncomputable def xo_lcmp : xHd := fun ih me cs _ _ _ A k => match A with
  | (lv, y :: x :: st, env, r) => match x, y with
    | .inr (.inr (.inr (.inl u))), .inr (.inr (.inr (.inl v))) => xfN (xcode (lg_cmp (lN u) (lN v))) (fun w => ih me cs (lv, .inl w :: st, env, r) k)
    | .inr (.inr (.inr (.inr (some i)))), .inr (.inr (.inr (.inl v))) => cond (xwide v) (xfN (xbc (Nat.mod v 4294967296)) (fun z => xcut env i z (fun e => ih me cs (lv, .inl 4294967295 :: st, e, r) k) (fun e => xcut e i (Nat.succ z) (fun e => ih me cs (lv, .inl 0 :: st, e, r) k) (fun e => ih me cs (lv, .inl 1 :: st, e, r) k)))) (ih me cs (lv, xTop :: st, env, r) k)
    | .inr (.inr (.inr _)), .inr (.inr (.inr _)) => ih me cs (lv, xTop :: st, env, r) k
    | _, _ => false
  | _ => false
noncomputable def xo_dup : xHd := fun ih me cs _ _ _ A k => match A with
  | (lv, v :: st, r) => cond (Nat.blt (xis v) 2) (ih me cs (lv, v :: v :: st, r) k) false
  | _ => false
noncomputable def xo_pop : xHd := fun ih me cs _ _ _ A k => match A with
  | (lv, v :: st, r) => cond (Nat.blt (xis v) 2) (ih me cs (lv, st, r) k) false
  | _ => false
noncomputable def xo_dupx1 : xHd := fun ih me cs _ _ _ A k => match A with
  | (lv, v :: w :: st, r) => cond (Bool.and (Nat.blt (xis v) 2) (Nat.blt (xis w) 2)) (ih me cs (lv, v :: w :: v :: st, r) k) false
  | _ => false
noncomputable def xo_dupx2 : xHd := fun ih me cs _ _ _ A k => match A with
  | (lv, v :: w :: z :: st, r) => cond (Bool.and (Nat.blt (xis v) 2) (Bool.and (Nat.blt (xis w) 2) (Nat.blt (xis z) 2))) (ih me cs (lv, v :: w :: z :: v :: st, r) k) false
  | _ => false
noncomputable def xo_dup2 : xHd := fun ih me cs _ _ _ A k => match A with
  | (lv, v :: w :: st, r) => cond (Bool.and (Nat.blt (xis v) 2) (Nat.blt (xis w) 2)) (ih me cs (lv, v :: w :: v :: w :: st, r) k) false
  | _ => false
noncomputable def xo_if : xHd := fun ih me cs a b _ A k => match A with
  | (lv, x :: st, env, r) => xcmp env a (fun e t => cond t (xjmp me.2.2.2.2.1 b (fun cs => ih me cs (lv, st, e, r) k)) (ih me cs (lv, st, e, r) k)) x (.inl 0)
  | _ => false
noncomputable def xo_icmp : xHd := fun ih me cs a b _ A k => match A with
  | (lv, y :: x :: st, env, r) => xcmp env a (fun e t => cond t (xjmp me.2.2.2.2.1 b (fun cs => ih me cs (lv, st, e, r) k)) (ih me cs (lv, st, e, r) k)) x y
  | _ => false
noncomputable def xo_goto : xHd := fun ih me _ _ b _ A k => xjmp me.2.2.2.2.1 b (fun cs => ih me cs A k)
/-- 0 ifnull, 1 ifnonnull -/
noncomputable def xo_ifnull : xHd := fun ih me cs a b _ A k => match A with
  | (lv, .inr (.inr (.inl none)) :: st, r) => cond (Nat.beq a 0) (xjmp me.2.2.2.2.1 b (fun cs => ih me cs (lv, st, r) k)) (ih me cs (lv, st, r) k)
  | (lv, .inr (.inr (.inl (some _))) :: st, r) => cond (Nat.beq a 0) (ih me cs (lv, st, r) k) (xjmp me.2.2.2.2.1 b (fun cs => ih me cs (lv, st, r) k))
  | _ => false
/-- a place in a table, or what else -/
noncomputable def xnthD (l : List Nat) (d : Nat) : Nat → Nat := List.rec (motive := fun _ => Nat → Nat) (fun _ => d) (fun a _ ih n => Nat.rec (motive := fun _ => Nat) a (fun m _ => ih m) n) l
theorem xnthD_eq (l : List Nat) (d : Nat) : ∀ n, xnthD l d n = l.getD n d := by
  induction l with
  | nil => intro n; rfl
  | cons a l ih =>
    intro n
    cases n with
    | zero => rfl
    | succ m => show xnthD l d m = _; rw [ih m]; rfl
noncomputable def xtab (a b : Nat) (l : List Nat) (z : Nat) : Nat := cond (Nat.blt z a) b (xnthD l b (Nat.sub z a))
noncomputable def xo_table : xHd := fun ih me _ a b l A k => match A with
  | (lv, v :: st, env, r) => match v with
    | .inl u => xfN (xtab a b l (xbc u)) (fun t => xjmp me.2.2.2.2.1 t (fun cs => ih me cs (lv, st, env, r) k))
    | .inr (.inl (some i)) => xcut env i a (fun e => xjmp me.2.2.2.2.1 b (fun cs => ih me cs (lv, st, e, r) k)) (fun e => xcut e i (Nat.add a (xlen l)) (fun e => xall e i (fun e u => xfN (xtab a b l (xbc u)) (fun t => xjmp me.2.2.2.2.1 t (fun cs => ih me cs (lv, st, e, r) k)))) (fun e => xjmp me.2.2.2.2.1 b (fun cs => ih me cs (lv, st, e, r) k)))
    | _ => false
  | _ => false
noncomputable def xo_getf : xHd := fun ih me cs a b _ A k => match A with
  | (lv, .inr (.inr (.inl (some o))) :: st, env, h, r) => xhget h o (fun c => cond (Nat.beq c.1 a) (xhget c.2.2 b (fun v => ih me cs (lv, v :: st, env, h, r) k)) false)
  | _ => false
/-- may a variable of this kind hold it? 0 int, 1 reference, 2 long, 3 boolean -/
def xfits (t : Nat) (v : xV) : Bool := match t, v with
  | 0, .inl _ => true
  | 0, .inr (.inl _) => true
  | 1, .inr (.inr (.inl _)) => true
  | 2, .inr (.inr (.inr _)) => true
  | 3, .inl u => Nat.blt u 2
  | _, _ => false
noncomputable def xo_putf : xHd := fun ih me cs a b l A k => match A with
  | (lv, v :: .inr (.inr (.inl (some o))) :: st, env, h, r) => cond (xfits (xnthD l 9 0) v) (xhget h o (fun c => cond (Nat.beq c.1 a) (xhset c.2.2 b v (fun fs => xhset h o (a, c.2.1, fs) (fun h => ih me cs (lv, st, env, h, r) k))) false)) false
  | _ => false
def xdef : Nat → xV
  | 1 => .inr (.inr (.inl none))
  | 2 => xLc 0
  | _ => .inl 0
/-- new: a the class, l the kinds of its fields -/
noncomputable def xo_new : xHd := fun ih me cs a _ l A k => match A with
  | (lv, st, env, h, n, uc, us) => xfN (Nat.succ uc) (fun uc => xfN (Nat.add us (xlen l)) (fun us => cond (Bool.and (Nat.ble uc me.2.2.2.2.2.cells) (Nat.ble us me.2.2.2.2.2.slots)) (xhpush h n (a, xlen l, [l.map xdef]) (fun h => xfN (Nat.succ n) (fun n' => ih me cs (lv, xRef n :: st, env, h, n', uc, us) k))) false))
/-- newarray: a the kind of array (100 + its place in the list of types), b the kind of its elements -/
noncomputable def xo_newa : xHd := fun ih me cs a b _ A k => match A with
  | (lv, .inl u :: st, env, h, n, uc, us) => xfN (Nat.succ uc) (fun uc => xfN (Nat.add us u) (fun us => cond (Bool.and (Nat.blt u 100000) (Bool.and (Nat.ble uc me.2.2.2.2.2.cells) (Nat.ble us me.2.2.2.2.2.slots))) (xrows (xdef b) u (fun fs => xhpush h n (a, u, fs) (fun h => xfN (Nat.succ n) (fun n' => ih me cs (lv, xRef n :: st, env, h, n', uc, us) k)))) false))
  | _ => false
/-- arraylength: b is 100 and how many types of arrays there are -/
noncomputable def xo_alen : xHd := fun ih me cs _ b _ A k => match A with
  | (lv, .inr (.inr (.inl (some o))) :: st, env, h, r) => xhget h o (fun c => cond (Bool.and (Nat.ble 100 c.1) (Nat.blt c.1 b)) (xfN c.2.1 (fun w => ih me cs (lv, .inl w :: st, env, h, r) k)) false)
  | _ => false
/-- array loads: a the kind of array -/
noncomputable def xo_ald : xHd := fun ih me cs a _ _ A k => match A with
  | (lv, i :: .inr (.inr (.inl (some o))) :: st, env, h, r) => xci env (fun e u => cond (Nat.blt u 2147483648) (xhget h o (fun c => cond (Nat.beq c.1 a) (xhget c.2.2 u (fun v => ih me cs (lv, v :: st, e, h, r) k)) false)) false) (xuld env h o a (fun v => ih me cs (lv, v :: st, env, h, r) k) i) i
  | _ => false
/-- array stores: a the kind of array, b the kind of its elements -/
noncomputable def xo_ast : xHd := fun ih me cs a b _ A k => match A with
  | (lv, v :: i :: .inr (.inr (.inl (some o))) :: st, env, h, r) => cond (xfits b v) (xci env (fun e u => cond (Nat.blt u 2147483648) (xhget h o (fun c => cond (Nat.beq c.1 a) (xhset c.2.2 u v (fun fs => xhset h o (a, c.2.1, fs) (fun h => ih me cs (lv, st, e, h, r) k))) false)) false) (xust env h o a v (ih me cs (lv, st, env, h, r) k) i) i) false
  | _ => false
/-- the arguments of a call off the stack -/
noncomputable def xpop (n : Nat) : List xV → List xV → (List xV → List xV → Bool) → Bool := Nat.rec (motive := fun _ => List xV → List xV → (List xV → List xV → Bool) → Bool) (fun st acc k => k acc st) (fun _ ih st acc k => match st with | v :: st => ih st (v :: acc) k | [] => false) n
noncomputable def xargs (vs : List xV) : Nat → (xL → Bool) → Bool := List.rec (motive := fun _ => Nat → (xL → Bool) → Bool) (fun _ k => k []) (fun v _ ih i k => xfN (cond (Nat.beq (xis v) 2) (Nat.succ (Nat.succ i)) (Nat.succ i)) (fun j => ih j (fun l => k ((i, v) :: l)))) vs
noncomputable def xcats (st : List xV) : Nat := List.rec (motive := fun _ => Nat) 0 (fun v _ ih => Nat.add (cond (Nat.beq (xis v) 2) 2 1) ih) st
/-- the receiver is of class number ci: t is ci + 1, or 0 where none is looked at -/
noncomputable def xrecv (h : xH) (vs : List xV) (t : Nat) : Bool := Nat.rec (motive := fun _ => Bool) true (fun ci _ => match vs with | .inr (.inr (.inl (some o))) :: _ => xhget h o (fun c => Nat.beq c.1 ci) | _ => false) t
/-- what goes on behind a call -/
noncomputable def xafter (ih : xIh) (me : xM) (cs : List xI) (lv : xL) (st : List xV) (uc us : Nat) (k : xK) : xK := fun e h n r => match r with
  | none => ih me cs (lv, st, e, h, n, uc, us) k
  | some v => ih me cs (lv, v :: st, e, h, n, uc, us) k
/-- a call: a how many arguments (the receiver counts), b which method; l: 0 the receiver's class + 1, 0 for none -/
noncomputable def xo_call (Ms : List xM) : xHd := fun ih me cs a b l A k => match A with
  | (lv, st, env, h, n, uc, us) => xnth Ms (fun mc => xpop a st [] (fun vs st => cond (Bool.and (Nat.ble (xcats st) 8) (Nat.ble (xcats vs) mc.2.2.1)) (xfN (Nat.add uc mc.2.2.2.2.2.cells) (fun uc => xfN (Nat.add us mc.2.2.2.2.2.slots) (fun us => cond (Bool.and (Nat.ble uc me.2.2.2.2.2.cells) (Nat.ble us me.2.2.2.2.2.slots)) (cond (xrecv h vs (xnthD l 0 0)) (xargs vs 0 (fun lv' => ih mc mc.2.2.2.2.1 (lv', [], env, h, n, 0, 0) (xafter ih me cs lv st uc us k))) false) false))) false)) b
noncomputable def xo_oinit : xHd := fun ih me cs _ _ _ A k => match A with
  | (lv, .inr (.inr (.inl (some _))) :: st, r) => cond (Nat.ble (Nat.add (xcats st) 12) me.2.2.2.2.2.locals) (ih me cs (lv, st, r) k) false
  | _ => false
noncomputable def xo_iret : xHd := fun _ _ _ a _ _ A k => match A with
  | (_, v :: [], env, h, n, _, _) => cond (xfits a v) (k env h n (some v)) false
  | _ => false
noncomputable def xo_ret : xHd := fun _ _ _ _ _ _ A k => match A with
  | (_, [], env, h, n, _, _) => k env h n none
  | _ => false
end
section
/-! what the abstract state says of the machine's -/
def xSR (ρ : Nat → Int32) (base : Nat) : List xV → List Value → Prop
  | [], [] => True
  | a :: l, v :: r => xg ρ base a v ∧ xSR ρ base l r
  | _, _ => False
def xLR (ρ : Nat → Int32) (base : Nat) : xL → List (Nat × Value) → Prop
  | [], [] => True
  | a :: l, v :: r => (a.1 = v.1 ∧ xg ρ base a.2 v.2) ∧ xLR ρ base l r
  | _, _ => False
theorem xSR_nil {ρ : Nat → Int32} {base : Nat} {vs : List Value} (h : xSR ρ base [] vs) : vs = [] := by
  cases vs with
  | nil => rfl
  | cons v r => exact h.elim
theorem xSR_cons {ρ : Nat → Int32} {base : Nat} {a : xV} {l : List xV} {vs : List Value} (h : xSR ρ base (a :: l) vs) : ∃ v r, vs = v :: r ∧ xg ρ base a v ∧ xSR ρ base l r := by
  cases vs with
  | nil => exact h.elim
  | cons v r => exact ⟨v, r, rfl, h.1, h.2⟩
theorem xSR_len {ρ : Nat → Int32} {base : Nat} : ∀ {l : List xV} {vs : List Value}, xSR ρ base l vs → vs.length = l.length := by
  intro l
  induction l with
  | nil => intro vs h; rw [xSR_nil h]; rfl
  | cons a l ih =>
    intro vs h
    obtain ⟨v, r, rfl, -, h2⟩ := xSR_cons h
    simp [ih h2]
theorem xSR_get {ρ : Nat → Int32} {base : Nat} : ∀ {l : List xV} {vs : List Value}, xSR ρ base l vs → ∀ {i : Nat} {x : xV}, l[i]? = some x → ∃ v, vs[i]? = some v ∧ xg ρ base x v := by
  intro l
  induction l with
  | nil => intro vs _ i x hx; simp at hx
  | cons a l ih =>
    intro vs h i x hx
    obtain ⟨v, r, rfl, h1, h2⟩ := xSR_cons h
    cases i with
    | zero => simp at hx; subst hx; exact ⟨v, rfl, h1⟩
    | succ i => exact ih h2 (i := i) (by simpa using hx)
theorem xSR_set {ρ : Nat → Int32} {base : Nat} : ∀ {l : List xV} {vs : List Value}, xSR ρ base l vs → ∀ {i : Nat} {x : xV} {v : Value}, xg ρ base x v → xSR ρ base (l.set i x) (vs.set i v) := by
  intro l
  induction l with
  | nil => intro vs h i x v _; rw [xSR_nil h]; exact trivial
  | cons a l ih =>
    intro vs h i x v hv
    obtain ⟨w, r, rfl, h1, h2⟩ := xSR_cons h
    cases i with
    | zero => exact ⟨hv, h2⟩
    | succ i => exact ⟨h1, ih h2 hv⟩
theorem xSR_rep {ρ : Nat → Int32} {base : Nat} {x : xV} {v : Value} (h : xg ρ base x v) : ∀ n : Nat, xSR ρ base (List.replicate n x) (List.replicate n v) := by
  intro n
  induction n with
  | zero => exact trivial
  | succ n ih => exact ⟨h, ih⟩
theorem xSR_app {ρ : Nat → Int32} {base : Nat} : ∀ {l l2 : List xV} {vs v2 : List Value}, xSR ρ base l vs → xSR ρ base l2 v2 → xSR ρ base (l ++ l2) (vs ++ v2) := by
  intro l
  induction l with
  | nil => intro l2 vs v2 h h2; rw [xSR_nil h]; exact h2
  | cons a l ih =>
    intro l2 vs v2 h h2
    obtain ⟨w, r, rfl, h1, h3⟩ := xSR_cons h
    exact ⟨h1, ih h3 h2⟩
theorem xSR_rev {ρ : Nat → Int32} {base : Nat} : ∀ {l : List xV} {vs : List Value}, xSR ρ base l vs → xSR ρ base l.reverse vs.reverse := by
  intro l
  induction l with
  | nil => intro vs h; rw [xSR_nil h]; exact trivial
  | cons a l ih =>
    intro vs h
    obtain ⟨w, r, rfl, h1, h3⟩ := xSR_cons h
    rw [List.reverse_cons, List.reverse_cons]
    exact xSR_app (ih h3) ⟨h1, trivial⟩
theorem xLR_nil {ρ : Nat → Int32} {base : Nat} {vs : List (Nat × Value)} (h : xLR ρ base [] vs) : vs = [] := by
  cases vs with
  | nil => rfl
  | cons v r => exact h.elim
theorem xLR_cons {ρ : Nat → Int32} {base : Nat} {a : Nat × xV} {l : xL} {vs : List (Nat × Value)} (h : xLR ρ base (a :: l) vs) : ∃ v r, vs = v :: r ∧ a.1 = v.1 ∧ xg ρ base a.2 v.2 ∧ xLR ρ base l r := by
  cases vs with
  | nil => exact h.elim
  | cons v r => exact ⟨v, r, rfl, h.1.1, h.1.2, h.2⟩
theorem xLR_get {ρ : Nat → Int32} {base : Nat} : ∀ {l : xL} {vs : List (Nat × Value)}, xLR ρ base l vs → ∀ {j i : Nat} {x : xV}, l[j]? = some (i, x) → ∃ v, vs[j]? = some (i, v) ∧ xg ρ base x v := by
  intro l
  induction l with
  | nil => intro vs _ j i x hx; simp at hx
  | cons a l ih =>
    intro vs h j i x hx
    obtain ⟨v, r, rfl, h0, h1, h2⟩ := xLR_cons h
    cases j with
    | zero =>
      simp at hx
      subst hx
      exact ⟨v.2, by show some v = some (i, v.2); rw [show i = v.1 from h0], h1⟩
    | succ j => exact ih h2 (j := j) (by simpa using hx)
theorem xbq (a b : Nat) : Nat.beq a b = (a == b) := by rw [Bool.eq_iff_iff]; simp
theorem xcat2 {ρ : Nat → Int32} {base : Nat} {x : xV} {v : Value} (h : xg ρ base x v) : Nat.beq (xis x) 2 = (v.category == 2) := by
  rw [xg_cat h]
  by_cases e : xis x = 2
  · simp [e]
  · rw [xbq]
    simp [e]
theorem xLR_fil {ρ : Nat → Int32} {base i : Nat} : ∀ {l : xL} {vs : List (Nat × Value)}, xLR ρ base l vs → xLR ρ base (l.filter (fun q => !xdrop i 0 q)) (vs.filter (fun q => !(q.1 == i) && !(q.1 + 1 == i && q.2.category == 2))) := by
  intro l
  induction l with
  | nil => intro vs h; rw [xLR_nil h]; exact trivial
  | cons a l ih =>
    intro vs h
    obtain ⟨v, r, rfl, h0, h1, h2⟩ := xLR_cons h
    have e : (!xdrop i 0 a) = (!(v.1 == i) && !(v.1 + 1 == i && v.2.category == 2)) := by
      unfold xdrop
      rw [xcat2 h1, h0]
      simp only [xbq]
      show (!((v.1 == i) || ((v.1 + 1 == i) && (v.2.category == 2) || (false && (v.1 == i + 1))))) = _
      cases (v.1 == i) <;> cases (v.1 + 1 == i) <;> cases (v.2.category == 2) <;> rfl
    rw [List.filter_cons, List.filter_cons, ← e]
    by_cases c : (!xdrop i 0 a) = true
    · rw [if_pos c, if_pos c]
      exact ⟨⟨h0, h1⟩, ih h2⟩
    · rw [if_neg c, if_neg c]
      exact ih h2
theorem xLR_filR {ρ : Nat → Int32} {base i : Nat} : ∀ {l : xL} {vs : List (Nat × Value)}, xLR ρ base l vs → xLR ρ base (l.filter (fun q => !xdrop i 1 q)) (vs.filter (fun q => !(q.1 == i) && !(q.1 + 1 == i && q.2.category == 2))) := by
  intro l vs h
  have e : (fun q => !xdrop i 1 q) = (fun q => !xdrop i 0 q) := by
    funext q
    rfl
  rw [e]
  exact xLR_fil h
theorem xLR_filL {ρ : Nat → Int32} {base i : Nat} : ∀ {l : xL} {vs : List (Nat × Value)}, xLR ρ base l vs → xLR ρ base (l.filter (fun q => !xdrop i 2 q)) (vs.filter (fun q => !(q.1 == i) && (!(q.1 == i + 1) && !(q.1 + 1 == i && q.2.category == 2)))) := by
  intro l
  induction l with
  | nil => intro vs h; rw [xLR_nil h]; exact trivial
  | cons a l ih =>
    intro vs h
    obtain ⟨v, r, rfl, h0, h1, h2⟩ := xLR_cons h
    have e : (!xdrop i 2 a) = (!(v.1 == i) && (!(v.1 == i + 1) && !(v.1 + 1 == i && v.2.category == 2))) := by
      unfold xdrop
      rw [xcat2 h1, h0]
      simp only [xbq]
      show (!((v.1 == i) || ((v.1 + 1 == i) && (v.2.category == 2) || (true && (v.1 == i + 1))))) = _
      cases (v.1 == i) <;> cases (v.1 + 1 == i) <;> cases (v.2.category == 2) <;> cases (v.1 == i + 1) <;> rfl
    rw [List.filter_cons, List.filter_cons, ← e]
    by_cases c : (!xdrop i 2 a) = true
    · rw [if_pos c, if_pos c]
      exact ⟨⟨h0, h1⟩, ih h2⟩
    · rw [if_neg c, if_neg c]
      exact ih h2
/-- the places of a cell -/
def xFR (ρ : Nat → Int32) (base n : Nat) (rows : List (List xV)) (fs : List Value) : Prop := fs.length = n ∧ ∀ i x, xat rows i = some x → ∃ v, fs[i]? = some v ∧ xg ρ base x v
theorem xFR_set {ρ : Nat → Int32} {base n : Nat} {rows rows' : List (List xV)} {fs : List Value} (h : xFR ρ base n rows fs) {i : Nat} {x : xV} {v : Value} (h0 : ∃ c0, xat rows i = some c0) (h1 : xat rows' i = some x) (h2 : ∀ b, b ≠ i → xat rows' b = xat rows b) (hv : xg ρ base x v) : i < fs.length ∧ xFR ρ base n rows' (fs.set i v) := by
  obtain ⟨c0, hc0⟩ := h0
  obtain ⟨v0, hv0, -⟩ := h.2 i c0 hc0
  have hi : i < fs.length := (List.getElem?_eq_some_iff.mp hv0).1
  refine ⟨hi, by rw [List.length_set]; exact h.1, fun j y hy => ?_⟩
  by_cases e : j = i
  · subst e
    rw [h1] at hy
    cases hy
    exact ⟨v, by simp [hi], hv⟩
  · rw [h2 j e] at hy
    obtain ⟨w, hw, hg⟩ := h.2 j y hy
    exact ⟨w, by rw [List.getElem?_set, if_neg (fun q => e q.symm)]; exact hw, hg⟩
theorem xFR_rep {ρ : Nat → Int32} {base n : Nat} {rows : List (List xV)} {x : xV} {v : Value} (h : ∀ i y, xat rows i = some y → i < n ∧ y = x) (hv : xg ρ base x v) : xFR ρ base n rows (List.replicate n v) := by
  refine ⟨List.length_replicate, fun i y hy => ?_⟩
  obtain ⟨h1, rfl⟩ := h i y hy
  exact ⟨v, by rw [List.getElem?_replicate, if_pos h1], hv⟩
theorem xFR_one {ρ : Nat → Int32} {base : Nat} {r : List xV} {fs : List Value} (h : xSR ρ base r fs) (hr : r.length ≤ 64) : xFR ρ base r.length [r] fs := ⟨xSR_len h, fun i x hx => xSR_get h (xat_one hx hr)⟩
/-- a cell, the heap, the classes of arrays -/
def xCR (ρ : Nat → Int32) (base : Nat) (D : va_G) (dA : Nat → ClassId) (tys : List FieldType) (cl : List vw_C) (a : Nat) (c : xC) (H : Heap) : Prop :=
  ∃ fs : List Value, xFR ρ base c.2.1 c.2.2 fs ∧ ((c.1 < 100 ∧ va_at D cl (base + a, .inr (c.1, fs)) H) ∨ (100 ≤ c.1 ∧ H[base + a]? = some (arrV (dA (c.1 - 100)) fs.length (vp_V fs)) ∧ ∃ ty, tys[c.1 - 100]? = some ty ∧ ∀ v ∈ fs, fits ty v = true))
def xHR (ρ : Nat → Int32) (base : Nat) (F : Nat → Prop) (D : va_G) (dA : Nat → ClassId) (tys : List FieldType) (cl : List vw_C) (h : xH) (n : Nat) (H : Heap) : Prop := (H.size = base + n ∧ (∀ a c, xat h a = some c → F (base + a)) ∧ (∀ q, base + n ≤ q → F q) ∧ ∀ q, F q → dA 5000 ≤ q) ∧ ∀ a c, xat h a = some c → xCR ρ base D dA tys cl a c H
/-- int[][] is the class of arrays over int[] -/
def xAO (U : State) : Prop := (Jvm.Cond.arrayOver (.array .int)).before #[] U = true
theorem xAO.use {A : Array Value} {U : State} (h : xAO U) : (Jvm.Cond.arrayOver (.array .int)).before A U = true := h
theorem xAO.moved {u U : State} (hvm : u.vm.Alike U.vm) (h : xAO u) : xAO U := by
  obtain ⟨comp, c, k, h1, h2, h3, h4, h5⟩ := arrayOverA_spec h
  obtain ⟨k', hk', he⟩ := hvm.2.2 _ _ h3
  have hi : (U.vm.classes.findIdx? fun (x : Class) => match x.kind with | .array component _ => component == comp | _ => false) = some c := by
    rw [hvm.findIdx?_eq _ (fun _ => rfl)]
    exact h2
  have hkind : k'.kind = .array comp (.array .int) := by rw [he]; exact h4
  have f1 : U.vm.findClass (FieldType.array .int).toString = some comp := by rw [hvm.findClass]; exact h1
  have f2 : U.vm.findClass ("[" ++ (FieldType.array .int).toString) = some c := by rw [hvm.findClass]; exact h5
  unfold xAO Cond.before Cond.holds
  simp only [Cond.value]
  rw [f1, Option.bind_some]
  refine (congrArg (fun o : Option Nat => (o.bind (fun c => (U.vm.classes[c]?).map fun (k : Class) => match k.kind with | .array _ ty => decide (ty = FieldType.array .int) && decide (U.vm.findClass ("[" ++ (FieldType.array .int).toString) = some c) | _ => false) == some true)) hi).trans ?_
  simp [hk', hkind, f2]
/-- the String constants, where they lie (the table of the arrays' classes keeps it from 1000 on), all of them below dA 5000 -/
def xsl : List Nat := [5, 4, 4, 5, 4, 4, 5, 7, 4, 4, 4]
def xsb : List (List Int32) := [[115, 104, 97, 114, 101], [111, 112, 101, 110], [115, 104, 101, 100], [98, 105, 114, 116, 104], [118, 111, 116, 101], [112, 97, 115, 115], [97, 99, 115, 110, 104], [107, 109, 103, 108, 102, 112, 104], [112, 111, 117, 104], [121, 110, 101, 104], [97, 99, 115, 104]]
def xst : List String := ["share", "open", "shed", "birth", "vote", "pass", "acsnh", "kmglfph", "pouh", "yneh", "acsh"]
def xKS (dA : Nat → ClassId) (U : State) : Prop := vk_S 11 xsl xsb (fun i => dA (1000 + i)) (fun i => dA (2000 + i)) (fun q => dA 5000 ≤ q) U U.heap ∧ (∀ i, i < 11 → vk_R "AcidCity$Tape" (98 + 2 * i) (xst.getD i "") (dA (1000 + i)) U) ∧ va_Z "java/lang/String" "COMPACT_STRINGS" "Z" (.int 1) (fun q => dA 5000 ≤ q) U U.heap
def xKA (dA : Nat → ClassId) (tys : List FieldType) (U : State) : Prop := (∀ i ty, tys[i]? = some ty → ArrOfT U (dA i) ty ∧ U.vm.findClass ("[" ++ ty.toString) = some (dA i)) ∧ xAO U ∧ xKS dA U
theorem xKA.warm {dA : Nat → ClassId} {tys : List FieldType} {u U : State} (hW : u.WarmedH U.vm) (hq : ∀ a : Nat, a < u.heap.size → ¬ dA 5000 ≤ a → U.heap[a]? = u.heap[a]?) (h : xKA dA tys u) : xKA dA tys U := ⟨fun i ty e => ⟨arrOfT_moved hW.alike (h.1 i ty e).1, by rw [hW.alike.findClass]; exact (h.1 i ty e).2⟩, h.2.1.moved hW.alike, (h.2.2.1.moved hW.alike).kept hq, fun i hi => (h.2.2.2.1 i hi).warm hW, (h.2.2.2.2.moved hW.alike).kept hq⟩
theorem xKA.same {dA : Nat → ClassId} {tys : List FieldType} {u U : State} (hv : U.vm = u.vm) (hq : U.heap = u.heap) (h : xKA dA tys u) : xKA dA tys U := by
  have ha : u.vm.Alike U.vm := by rw [hv]; exact Vm.Alike.refl _
  refine ⟨fun i ty e => ⟨arrOfT_moved ha (h.1 i ty e).1, by rw [ha.findClass]; exact (h.1 i ty e).2⟩, h.2.1.moved ha, ?_, fun i hi => (h.2.2.2.1 i hi).same hv, ?_⟩
  · rw [hq]; exact h.2.2.1.moved ha
  · rw [hq]; exact h.2.2.2.2.moved ha
theorem xCR.kept {ρ : Nat → Int32} {base : Nat} {D : va_G} {dA : Nat → ClassId} {tys : List FieldType} {cl : List vw_C} {a : Nat} {c : xC} {H H1 : Heap} (h : xCR ρ base D dA tys cl a c H) (e : H1[base + a]? = H[base + a]?) : xCR ρ base D dA tys cl a c H1 := by
  obtain ⟨fs, h1, h2⟩ := h
  refine ⟨fs, h1, ?_⟩
  rcases h2 with ⟨h3, h4⟩ | ⟨h3, h4⟩
  · exact Or.inl ⟨h3, h4.kept e⟩
  · exact Or.inr ⟨h3, e.trans h4.1, h4.2⟩
theorem xCR.lt {ρ : Nat → Int32} {base : Nat} {D : va_G} {dA : Nat → ClassId} {tys : List FieldType} {cl : List vw_C} {a : Nat} {c : xC} {H : Heap} (h : xCR ρ base D dA tys cl a c H) : base + a < H.size := by
  obtain ⟨fs, h1, h2⟩ := h
  rcases h2 with ⟨h3, h4⟩ | ⟨h3, h4⟩
  · exact h4.lt
  · exact (Array.getElem?_eq_some_iff.mp h4.1).1
theorem xHR.put {ρ : Nat → Int32} {base : Nat} {F : Nat → Prop} {D : va_G} {dA : Nat → ClassId} {tys : List FieldType} {cl : List vw_C} {h h' : xH} {n : Nat} {H H1 : Heap} {a : Nat} {c : xC} (hh : xHR ρ base F D dA tys cl h n H) (hF : F (base + a)) (hs : H1.size = H.size) (ho : ∀ q, q ≠ base + a → H1[q]? = H[q]?) (hc : xCR ρ base D dA tys cl a c H1) (e1 : xat h' a = some c) (e2 : ∀ b, b ≠ a → xat h' b = xat h b) : xHR ρ base F D dA tys cl h' n H1 := by
  refine ⟨⟨hs.trans hh.1.1, fun b d hb => ?_, hh.1.2.2⟩, fun b d hb => ?_⟩
  · by_cases e : b = a
    · subst e; exact hF
    · rw [e2 b e] at hb; exact hh.1.2.1 b d hb
  · by_cases e : b = a
    · subst e
      rw [e1] at hb
      cases hb
      exact hc
    · rw [e2 b e] at hb
      exact (hh.2 b d hb).kept (ho _ (by omega))
theorem xHR.push {ρ : Nat → Int32} {base : Nat} {F : Nat → Prop} {D : va_G} {dA : Nat → ClassId} {tys : List FieldType} {cl : List vw_C} {h h' : xH} {n : Nat} {H H1 : Heap} {c : xC} (hh : xHR ρ base F D dA tys cl h n H) (hs : H1.size = H.size + 1) (ho : ∀ q, q < H.size → H1[q]? = H[q]?) (hc : xCR ρ base D dA tys cl n c H1) (e1 : xat h' n = some c) (e2 : ∀ b, b ≠ n → xat h' b = xat h b) : xHR ρ base F D dA tys cl h' (n + 1) H1 := by
  refine ⟨⟨by rw [hs, hh.1.1]; omega, fun b d hb => ?_, fun q hq => hh.1.2.2.1 q (by omega), hh.1.2.2.2⟩, fun b d hb => ?_⟩
  · by_cases e : b = n
    · subst e; exact hh.1.2.2.1 _ (Nat.le_refl _)
    · rw [e2 b e] at hb; exact hh.1.2.1 b d hb
  · by_cases e : b = n
    · subst e
      rw [e1] at hb
      cases hb
      exact hc
    · rw [e2 b e] at hb
      have h3 := hh.2 b d hb
      exact h3.kept (ho _ h3.lt)
theorem xSpush {F : Nat → Prop} {H0 H H1 : Heap} {locs : List Loc} (h : va_S F H0 H locs) (hs : H.size ≤ H1.size) (ho : ∀ q, q < H.size → H1[q]? = H[q]?) : va_S F H0 H1 locs := ⟨Nat.le_trans h.1 hs, fun q h1 h2 => (ho q (Nat.lt_of_lt_of_le h1 h.1)).trans (h.2.1 q h1 h2), h.2.2⟩
theorem xSput {F : Nat → Prop} {H0 H H1 : Heap} {locs locs' : List Loc} {a : Nat} (h : va_S F H0 H locs) (hF : F a) (hs : H1.size = H.size) (ho : ∀ q, q ≠ a → H1[q]? = H[q]?) (hl : ∀ l ∈ locs', l.base = a) : va_S F H0 H1 (locs ++ locs') := ⟨by rw [hs]; exact h.1, fun q h1 h2 => (ho q (fun e => h2 (by rw [e]; exact hF))).trans (h.2.1 q h1 h2), fun l hm => (List.mem_append.mp hm).elim (h.2.2 l) (fun q => by rw [hl l q]; exact hF)⟩
end
section
/-! the machine's side: what holds within a method, and what a state of the abstract machine that is explored to its ends gives -/
def xNw : Jvm.Cond → Bool
  | .fieldLinkNest .. => true
  | .methodLinkNest .. => true
  | _ => false
theorem xNw_warm {w : Jvm.Cond} (h : xNw w = true) {s U : State} (hW : s.WarmedH U.vm) (hz : va_Nw w s) : va_Nw w U := by
  cases w <;> first | exact va_Nw.warmF hW hz | exact va_Nw.warmM hW hz | exact absurd h (by simp [xNw])
theorem xNw_on {w : Jvm.Cond} (h : xNw w = true) : w.onTables = true := by
  cases w <;> first | rfl | exact absurd h (by simp [xNw])
abbrev xR (me : xM) : Room := me.2.2.2.2.2
abbrev xcd (me : xM) : List xI := me.2.2.2.2.1
def xWs (Ts : List Jvm.Cond) (me : xM) : List Jvm.Cond := Jvm.Cond.code me.1 me.2.1 me.2.2.1 me.2.2.2.1 :: Ts
def xCx (Ts Ns : List Jvm.Cond) (cl : List vw_C) (tys : List FieldType) (D : va_G) (dA : Nat → ClassId) (p : Program) (s : State) (m : MethodId) (args : Array Value) (meth : Method) (c : Code) (me : xM) : Prop :=
  p.tables.exec = Jvm.exec ∧ c.code = me.2.1 ∧ c.maxLocals = me.2.2.1 ∧ meth.sig.returnType = me.2.2.2.1 ∧ meth.locks = false ∧ meth.name = me.1.name ∧ s.vm.findClass me.1.cls = some m.cls ∧ (∀ w ∈ xWs Ts me, w.before args s = true) ∧ (∀ w ∈ Ns, va_Nw w s) ∧ va_K D cl [] s ∧ xKA dA tys s
def xIn (ρ : Nat → Int32) (base : Nat) (F : Nat → Prop) (D : va_G) (dA : Nat → ClassId) (tys : List FieldType) (cl : List vw_C) (me : xM) (A : xA) (H : Heap) (ls : Array Slot) (stc : List Value) : Prop :=
  xρ ρ A.2.2.1 ∧ (∃ lvc, lv_has ls me.2.2.1 lvc ∧ xLR ρ base A.1 lvc) ∧ xSR ρ base A.2.1 stc ∧ xHR ρ base F D dA tys cl A.2.2.2.1 A.2.2.2.2.1 H ∧ A.2.2.2.2.2.1 ≤ (xR me).cells ∧ A.2.2.2.2.2.2 ≤ (xR me).slots
def xQ (ρ : Nat → Int32) (base : Nat) (F : Nat → Prop) (D : va_G) (dA : Nat → ClassId) (tys : List FieldType) (cl : List vw_C) (k : xK) : Array Value → State → Outcome → State → Prop := fun _ st o t => va_F F st t ∧
  ∃ (env : xE) (h : xH) (n : Nat) (r : Option xV), k env h n r = true ∧ xρ ρ env ∧ xHR ρ base F D dA tys cl h n t.heap ∧ ((r = none ∧ o = .returned none) ∨ ∃ (x : xV) (v : Value), r = some x ∧ xg ρ base x v ∧ o = .returned (some v))
def xGd (ρ : Nat → Int32) (base : Nat) (F : Nat → Prop) (Ts Ns : List Jvm.Cond) (cl : List vw_C) (tys : List FieldType) (D : va_G) (dA : Nat → ClassId) (la : Launch) (me : xM) (pc : Nat) (A : xA) (k : xK) : Prop :=
  ∀ (p : Program) (e : Env) (s : State) (m : MethodId) (args : Array Value) (below : List Frame) (meth : Method) (c : Code), xCx Ts Ns cl tys D dA p s m args meth c me → ∀ (H : Heap) (locs : List Loc) (ls : Array Slot) (stc : List Value), xIn ρ base F D dA tys cl me A H ls stc → va_S F s.heap H locs →
    W p la e (xR me) s m args below meth c H locs A.2.2.2.2.2.1 A.2.2.2.2.2.2 (MQ below (xQ ρ base F D dA tys cl k) args s (xR me).cells (xR me).slots F) (F0 m pc ls stc)
def xatp (pc : Nat) (cs : List xI) : Prop := ∀ i r, cs = i :: r → i.1 = pc
/-- a word of the tables by its place -/
def xw (Ts : List Jvm.Cond) (i : Nat) (w : Jvm.Cond) : Bool := decide (Ts[i]? = some w)
theorem xw_of {Ts : List Jvm.Cond} {i : Nat} {w : Jvm.Cond} (h : xw Ts i w = true) : w ∈ Ts := List.mem_of_getElem? (of_decide_eq_true h)
section XL
variable {ρ : Nat → Int32} {base : Nat} {F : Nat → Prop} {Ts Ns : List Jvm.Cond} {cl : List vw_C} {tys : List FieldType} {D : va_G} {dA : Nat → ClassId} {la : Launch} {okc : xM → List xI → Bool} {Ms : List xM} {ih : xIh} {me : xM} {cs : List xI} {a b : Nat} {l : List Nat} {A : xA} {k : xK} {pc : Nat}
/-- what the exploration by 'ih' gives -/
def xIH (ρ : Nat → Int32) (base : Nat) (F : Nat → Prop) (Ts Ns : List Jvm.Cond) (cl : List vw_C) (tys : List FieldType) (D : va_G) (dA : Nat → ClassId) (la : Launch) (okc : xM → List xI → Bool) (Ms : List xM) (ih : xIh) : Prop :=
  ∀ (me : xM) (cs : List xI) (A : xA) (k : xK) (pc : Nat), me ∈ Ms → ih me cs A k = true → okc me cs = true → xatp pc cs → xGd ρ base F Ts Ns cl tys D dA la me pc A k
theorem xl_iconst {i : Int} (IH : xIH ρ base F Ts Ns cl tys D dA la okc Ms ih) (hme : me ∈ Ms) (hok : okc me cs = true) (hn : xatp (pc + 1) cs) (hd : decode me.2.1 pc = .ok (.iconst i, 1)) (hv : Int32.ofInt i = nI a) (h : xo_iconst ih me cs a b l A k = true) : xGd ρ base F Ts Ns cl tys D dA la me pc A k := by
  obtain ⟨lv, st, r⟩ := A
  intro p e s m args below meth c C H locs ls stc hI hL
  have g := IH me cs (lv, .inl a :: st, r) k (pc + 1) hme h hok hn p e s m args below meth c C H locs ls (.int (nI a) :: stc) ⟨hI.1, hI.2.1, ⟨rfl, hI.2.2.1⟩, hI.2.2.2⟩ hL
  exact lv_iconst C.1 C.2.1 hd hv g
theorem xl_bipush {i : Int} (IH : xIH ρ base F Ts Ns cl tys D dA la okc Ms ih) (hme : me ∈ Ms) (hok : okc me cs = true) (hn : xatp (pc + 2) cs) (hd : decode me.2.1 pc = .ok (.bipush i, 2)) (hv : (Int8.ofInt i).toInt32 = nI a) (h : xo_iconst ih me cs a b l A k = true) : xGd ρ base F Ts Ns cl tys D dA la me pc A k := by
  obtain ⟨lv, st, r⟩ := A
  intro p e s m args below meth c C H locs ls stc hI hL
  have g := IH me cs (lv, .inl a :: st, r) k (pc + 2) hme h hok hn p e s m args below meth c C H locs ls (.int (nI a) :: stc) ⟨hI.1, hI.2.1, ⟨rfl, hI.2.2.1⟩, hI.2.2.2⟩ hL
  exact lv_bipush C.1 C.2.1 hd hv g
theorem xl_sipush {i : Int} (IH : xIH ρ base F Ts Ns cl tys D dA la okc Ms ih) (hme : me ∈ Ms) (hok : okc me cs = true) (hn : xatp (pc + 3) cs) (hd : decode me.2.1 pc = .ok (.sipush i, 3)) (hv : (Int16.ofInt i).toInt32 = nI a) (h : xo_iconst ih me cs a b l A k = true) : xGd ρ base F Ts Ns cl tys D dA la me pc A k := by
  obtain ⟨lv, st, r⟩ := A
  intro p e s m args below meth c C H locs ls stc hI hL
  have g := IH me cs (lv, .inl a :: st, r) k (pc + 3) hme h hok hn p e s m args below meth c C H locs ls (.int (nI a) :: stc) ⟨hI.1, hI.2.1, ⟨rfl, hI.2.2.1⟩, hI.2.2.2⟩ hL
  exact lv_sipush C.1 C.2.1 hd hv g
theorem xl_ldc {i : Nat} (IH : xIH ρ base F Ts Ns cl tys D dA la okc Ms ih) (hme : me ∈ Ms) (hok : okc me cs = true) (hn : xatp (pc + 2) cs) (hd : decode me.2.1 pc = .ok (.ldc i, 2)) (hv : Jvm.Cond.constant me.1.cls i (nI a) ∈ Ts) (h : xo_iconst ih me cs a b l A k = true) : xGd ρ base F Ts Ns cl tys D dA la me pc A k := by
  obtain ⟨lv, st, r⟩ := A
  intro p e s m args below meth c C H locs ls stc hI hL
  have g := IH me cs (lv, .inl a :: st, r) k (pc + 2) hme h hok hn p e s m args below meth c C H locs ls (.int (nI a) :: stc) ⟨hI.1, hI.2.1, ⟨rfl, hI.2.2.1⟩, hI.2.2.2⟩ hL
  obtain ⟨hx, hb, -, -, -, -, hown, hts, -⟩ := C
  exact lv_ldc hx hb hown (hts _ (List.mem_cons_of_mem _ hv)) hd g
theorem xl_ldcw {i : Nat} (IH : xIH ρ base F Ts Ns cl tys D dA la okc Ms ih) (hme : me ∈ Ms) (hok : okc me cs = true) (hn : xatp (pc + 3) cs) (hd : decode me.2.1 pc = .ok (.ldc_w i, 3)) (hv : Jvm.Cond.constant me.1.cls i (nI a) ∈ Ts) (h : xo_iconst ih me cs a b l A k = true) : xGd ρ base F Ts Ns cl tys D dA la me pc A k := by
  obtain ⟨lv, st, r⟩ := A
  intro p e s m args below meth c C H locs ls stc hI hL
  have g := IH me cs (lv, .inl a :: st, r) k (pc + 3) hme h hok hn p e s m args below meth c C H locs ls (.int (nI a) :: stc) ⟨hI.1, hI.2.1, ⟨rfl, hI.2.2.1⟩, hI.2.2.2⟩ hL
  obtain ⟨hx, hb, _, _, _, _, hown, hts, _⟩ := C
  intro T hT S
  obtain ⟨t, a1, b1⟩ := g T hT S
  exact ⟨t, va_ldcwI S hx hown (hts _ (List.mem_cons_of_mem _ hv)) (g := F0 m pc ls stc) rfl (by rw [hb]; exact hd) t a1, b1⟩
theorem xl_lconst {i : Fin 2} (IH : xIH ρ base F Ts Ns cl tys D dA la okc Ms ih) (hme : me ∈ Ms) (hok : okc me cs = true) (hn : xatp (pc + 1) cs) (hd : decode me.2.1 pc = .ok (.lconst i, 1)) (hv : Int64.ofNat (i : Nat) = lN a) (h : xo_lconst ih me cs a b l A k = true) : xGd ρ base F Ts Ns cl tys D dA la me pc A k := by
  obtain ⟨lv, st, r⟩ := A
  intro p e s m args below meth c C H locs ls stc hI hL
  have g := IH me cs (lv, xLc a :: st, r) k (pc + 1) hme h hok hn p e s m args below meth c C H locs ls (.long (lN a) :: stc) ⟨hI.1, hI.2.1, ⟨rfl, hI.2.2.1⟩, hI.2.2.2⟩ hL
  exact lv_lconst C.1 C.2.1 hd hv g
theorem xl_ldc2 {i : Nat} (IH : xIH ρ base F Ts Ns cl tys D dA la okc Ms ih) (hme : me ∈ Ms) (hok : okc me cs = true) (hn : xatp (pc + 3) cs) (hd : decode me.2.1 pc = .ok (.ldc2_w i, 3)) (hv : Jvm.Cond.constantLong me.1.cls i (lN a) ∈ Ts) (h : xo_lconst ih me cs a b l A k = true) : xGd ρ base F Ts Ns cl tys D dA la me pc A k := by
  obtain ⟨lv, st, r⟩ := A
  intro p e s m args below meth c C H locs ls stc hI hL
  have g := IH me cs (lv, xLc a :: st, r) k (pc + 3) hme h hok hn p e s m args below meth c C H locs ls (.long (lN a) :: stc) ⟨hI.1, hI.2.1, ⟨rfl, hI.2.2.1⟩, hI.2.2.2⟩ hL
  obtain ⟨hx, hb, -, -, -, -, hown, hts, -⟩ := C
  exact lv_ldc2 hx hb hown (hts _ (List.mem_cons_of_mem _ hv)) hd g
theorem xl_null (IH : xIH ρ base F Ts Ns cl tys D dA la okc Ms ih) (hme : me ∈ Ms) (hok : okc me cs = true) (hn : xatp (pc + 1) cs) (hd : decode me.2.1 pc = .ok (.aconst_null, 1)) (h : xo_null ih me cs a b l A k = true) : xGd ρ base F Ts Ns cl tys D dA la me pc A k := by
  obtain ⟨lv, st, r⟩ := A
  intro p e s m args below meth c C H locs ls stc hI hL
  have g := IH me cs (lv, .inr (.inr (.inl none)) :: st, r) k (pc + 1) hme h hok hn p e s m args below meth c C H locs ls (.null :: stc) ⟨hI.1, hI.2.1, ⟨rfl, hI.2.2.1⟩, hI.2.2.2⟩ hL
  exact lv_null C.1 C.2.1 hd g
/-- a load: the local's value, its kind, and the goal behind it -/
theorem xl_load0 {len : Nat} (IH : xIH ρ base F Ts Ns cl tys D dA la okc Ms ih) (hme : me ∈ Ms) (hok : okc me cs = true) (hn : xatp (pc + len) cs) (h : xo_load ih me cs a b l A k = true)
    {p : Program} {e : Env} {s : State} {m : MethodId} {args : Array Value} {below : List Frame} {meth : Method} {c : Code} (C : xCx Ts Ns cl tys D dA p s m args meth c me) {H : Heap} {locs : List Loc} {ls : Array Slot} {stc : List Value} (hI : xIn ρ base F D dA tys cl me A H ls stc) (hL : va_S F s.heap H locs) :
    ∃ (x : xV) (v : Value), xis x = b ∧ xg ρ base x v ∧ ls[a]? = some (.val v) ∧ W p la e (xR me) s m args below meth c H locs A.2.2.2.2.2.1 A.2.2.2.2.2.2 (MQ below (xQ ρ base F D dA tys cl k) args s (xR me).cells (xR me).slots F) (F0 m (pc + len) ls (v :: stc)) := by
  obtain ⟨lv, st, r⟩ := A
  unfold xo_load at h
  obtain ⟨j, x, hx, h⟩ := xfind_of h
  obtain ⟨hb, h⟩ := xcond h
  obtain ⟨lvc, hl, hlr⟩ := hI.2.1
  obtain ⟨v, hv, hg⟩ := xLR_get hlr hx
  exact ⟨x, v, Nat.eq_of_beq_eq_true hb, hg, lv_at hl j hv, IH me cs (lv, x :: st, r) k (pc + len) hme h hok hn p e s m args below meth c C H locs ls (v :: stc) ⟨hI.1, hI.2.1, ⟨hg, hI.2.2.1⟩, hI.2.2.2⟩ hL⟩
theorem xl_iload {i : Nat} (IH : xIH ρ base F Ts Ns cl tys D dA la okc Ms ih) (hme : me ∈ Ms) (hok : okc me cs = true) (hn : xatp (pc + 2) cs) (hd : decode me.2.1 pc = .ok (.iload i, 2)) (hi : i = a) (hb : b = 0) (h : xo_load ih me cs a b l A k = true) : xGd ρ base F Ts Ns cl tys D dA la me pc A k := by
  subst hi; subst hb
  intro p e s m args below meth c C H locs ls stc hI hL
  obtain ⟨x, v, h1, h2, h3, g⟩ := xl_load0 IH hme hok hn h C hI hL
  obtain ⟨z, rfl⟩ := xg_int h2 h1
  exact lv_iload C.1 C.2.1 hd h3 g
theorem xl_iload_n {i : Fin 4} (IH : xIH ρ base F Ts Ns cl tys D dA la okc Ms ih) (hme : me ∈ Ms) (hok : okc me cs = true) (hn : xatp (pc + 1) cs) (hd : decode me.2.1 pc = .ok (.iload_n i, 1)) (hi : (i : Nat) = a) (hb : b = 0) (h : xo_load ih me cs a b l A k = true) : xGd ρ base F Ts Ns cl tys D dA la me pc A k := by
  subst hb
  intro p e s m args below meth c C H locs ls stc hI hL
  obtain ⟨x, v, h1, h2, h3, g⟩ := xl_load0 IH hme hok hn h C hI hL
  obtain ⟨z, rfl⟩ := xg_int h2 h1
  exact lv_iload_n C.1 C.2.1 hd hi h3 g
theorem xl_lload {i : Nat} (IH : xIH ρ base F Ts Ns cl tys D dA la okc Ms ih) (hme : me ∈ Ms) (hok : okc me cs = true) (hn : xatp (pc + 2) cs) (hd : decode me.2.1 pc = .ok (.lload i, 2)) (hi : i = a) (hb : b = 2) (h : xo_load ih me cs a b l A k = true) : xGd ρ base F Ts Ns cl tys D dA la me pc A k := by
  subst hi; subst hb
  intro p e s m args below meth c C H locs ls stc hI hL
  obtain ⟨x, v, h1, h2, h3, g⟩ := xl_load0 IH hme hok hn h C hI hL
  obtain ⟨z, rfl⟩ := xg_long h2 h1
  exact lv_lload C.1 C.2.1 hd h3 g
theorem xl_lload_n {i : Fin 4} (IH : xIH ρ base F Ts Ns cl tys D dA la okc Ms ih) (hme : me ∈ Ms) (hok : okc me cs = true) (hn : xatp (pc + 1) cs) (hd : decode me.2.1 pc = .ok (.lload_n i, 1)) (hi : (i : Nat) = a) (hb : b = 2) (h : xo_load ih me cs a b l A k = true) : xGd ρ base F Ts Ns cl tys D dA la me pc A k := by
  subst hb
  intro p e s m args below meth c C H locs ls stc hI hL
  obtain ⟨x, v, h1, h2, h3, g⟩ := xl_load0 IH hme hok hn h C hI hL
  obtain ⟨z, rfl⟩ := xg_long h2 h1
  exact lv_lload_n C.1 C.2.1 hd hi h3 g
theorem xl_aload {i : Nat} (IH : xIH ρ base F Ts Ns cl tys D dA la okc Ms ih) (hme : me ∈ Ms) (hok : okc me cs = true) (hn : xatp (pc + 2) cs) (hd : decode me.2.1 pc = .ok (.aload i, 2)) (hi : i = a) (hb : b = 1) (h : xo_load ih me cs a b l A k = true) : xGd ρ base F Ts Ns cl tys D dA la me pc A k := by
  subst hi; subst hb
  intro p e s m args below meth c C H locs ls stc hI hL
  obtain ⟨x, v, h1, h2, h3, g⟩ := xl_load0 IH hme hok hn h C hI hL
  rcases xg_ref h2 h1 with rfl | ⟨z, rfl⟩
  · exact lv_aloadN C.1 C.2.1 hd h3 g
  · exact lv_aload C.1 C.2.1 hd h3 g
theorem xl_aload_n {i : Fin 4} (IH : xIH ρ base F Ts Ns cl tys D dA la okc Ms ih) (hme : me ∈ Ms) (hok : okc me cs = true) (hn : xatp (pc + 1) cs) (hd : decode me.2.1 pc = .ok (.aload_n i, 1)) (hi : (i : Nat) = a) (hb : b = 1) (h : xo_load ih me cs a b l A k = true) : xGd ρ base F Ts Ns cl tys D dA la me pc A k := by
  subst hb
  intro p e s m args below meth c C H locs ls stc hI hL
  obtain ⟨x, v, h1, h2, h3, g⟩ := xl_load0 IH hme hok hn h C hI hL
  rcases xg_ref h2 h1 with rfl | ⟨z, rfl⟩
  · exact lv_aload_nN C.1 C.2.1 hd hi h3 g
  · exact lv_aload_n C.1 C.2.1 hd hi h3 g
end XL
end
section
/-! rows of the instructions: stores, arithmetic, stack, branches (written by gen16.py) -/
section XR
variable {ρ : Nat → Int32} {base : Nat} {F : Nat → Prop} {Ts Ns : List Jvm.Cond} {cl : List vw_C} {tys : List FieldType} {D : va_G} {dA : Nat → ClassId} {la : Launch} {okc : xM → List xI → Bool} {Ms : List xM} {ih : xIh} {me : xM} {cs : List xI} {a b : Nat} {l : List Nat} {A : xA} {k : xK} {pc : Nat}
theorem xand {a b : Bool} (h : Bool.and a b = true) : a = true ∧ b = true := by cases a <;> cases b <;> simp_all
theorem xl_istore (IH : xIH ρ base F Ts Ns cl tys D dA la okc Ms ih) (hme : me ∈ Ms) (hok : okc me cs = true) (hn : xatp (pc + 2) cs) (hd : decode me.2.1 pc = .ok (.istore a, 2)) (hb : b = 0) (ha : a < me.2.2.1) (h : xo_store ih me cs a b l A k = true) : xGd ρ base F Ts Ns cl tys D dA la me pc A k := by
  subst hb
  obtain ⟨lv, st, r⟩ := A
  cases st with
  | nil => exact absurd h (by simp [xo_store])
  | cons v st =>
    unfold xo_store at h
    obtain ⟨hk, h⟩ := xcond h
    have h := xfil_of h
    intro p e s m args below meth c C H locs ls stc hI hL
    obtain ⟨w, stc, rfl, hw, hst⟩ := xSR_cons hI.2.2.1
    obtain ⟨z, rfl⟩ := xg_int hw (Nat.eq_of_beq_eq_true hk)
    obtain ⟨lvc, hl, hlr⟩ := hI.2.1
    refine lv_istore C.1 C.2.1 hd hl ha rfl (fun ls' hl' => ?_)
    exact IH me cs _ k (pc + 2) hme h hok hn p e s m args below meth c C H locs ls' stc ⟨hI.1, ⟨_, hl', ⟨⟨rfl, hw⟩, xLR_fil hlr⟩⟩, hst, hI.2.2.2⟩ hL
theorem xl_istore_n {i : Fin 4} (IH : xIH ρ base F Ts Ns cl tys D dA la okc Ms ih) (hme : me ∈ Ms) (hok : okc me cs = true) (hn : xatp (pc + 1) cs) (hd : decode me.2.1 pc = .ok (.istore_n i, 1)) (hi : (i : Nat) = a) (hb : b = 0) (ha : a < me.2.2.1) (h : xo_store ih me cs a b l A k = true) : xGd ρ base F Ts Ns cl tys D dA la me pc A k := by
  subst hb
  obtain ⟨lv, st, r⟩ := A
  cases st with
  | nil => exact absurd h (by simp [xo_store])
  | cons v st =>
    unfold xo_store at h
    obtain ⟨hk, h⟩ := xcond h
    have h := xfil_of h
    intro p e s m args below meth c C H locs ls stc hI hL
    obtain ⟨w, stc, rfl, hw, hst⟩ := xSR_cons hI.2.2.1
    obtain ⟨z, rfl⟩ := xg_int hw (Nat.eq_of_beq_eq_true hk)
    obtain ⟨lvc, hl, hlr⟩ := hI.2.1
    refine lv_istore_n C.1 C.2.1 hd hi hl ha rfl (fun ls' hl' => ?_)
    exact IH me cs _ k (pc + 1) hme h hok hn p e s m args below meth c C H locs ls' stc ⟨hI.1, ⟨_, hl', ⟨⟨rfl, hw⟩, xLR_fil hlr⟩⟩, hst, hI.2.2.2⟩ hL
theorem xl_lstore (IH : xIH ρ base F Ts Ns cl tys D dA la okc Ms ih) (hme : me ∈ Ms) (hok : okc me cs = true) (hn : xatp (pc + 2) cs) (hd : decode me.2.1 pc = .ok (.lstore a, 2)) (hb : b = 2) (ha : a + 1 < me.2.2.1) (h : xo_store ih me cs a b l A k = true) : xGd ρ base F Ts Ns cl tys D dA la me pc A k := by
  subst hb
  obtain ⟨lv, st, r⟩ := A
  cases st with
  | nil => exact absurd h (by simp [xo_store])
  | cons v st =>
    unfold xo_store at h
    obtain ⟨hk, h⟩ := xcond h
    have h := xfil_of h
    intro p e s m args below meth c C H locs ls stc hI hL
    obtain ⟨w, stc, rfl, hw, hst⟩ := xSR_cons hI.2.2.1
    obtain ⟨z, rfl⟩ := xg_long hw (Nat.eq_of_beq_eq_true hk)
    obtain ⟨lvc, hl, hlr⟩ := hI.2.1
    refine lv_lstore C.1 C.2.1 hd hl ha rfl (fun ls' hl' => ?_)
    exact IH me cs _ k (pc + 2) hme h hok hn p e s m args below meth c C H locs ls' stc ⟨hI.1, ⟨_, hl', ⟨⟨rfl, hw⟩, xLR_filL hlr⟩⟩, hst, hI.2.2.2⟩ hL
theorem xl_lstore_n {i : Fin 4} (IH : xIH ρ base F Ts Ns cl tys D dA la okc Ms ih) (hme : me ∈ Ms) (hok : okc me cs = true) (hn : xatp (pc + 1) cs) (hd : decode me.2.1 pc = .ok (.lstore_n i, 1)) (hi : (i : Nat) = a) (hb : b = 2) (ha : a + 1 < me.2.2.1) (h : xo_store ih me cs a b l A k = true) : xGd ρ base F Ts Ns cl tys D dA la me pc A k := by
  subst hb
  obtain ⟨lv, st, r⟩ := A
  cases st with
  | nil => exact absurd h (by simp [xo_store])
  | cons v st =>
    unfold xo_store at h
    obtain ⟨hk, h⟩ := xcond h
    have h := xfil_of h
    intro p e s m args below meth c C H locs ls stc hI hL
    obtain ⟨w, stc, rfl, hw, hst⟩ := xSR_cons hI.2.2.1
    obtain ⟨z, rfl⟩ := xg_long hw (Nat.eq_of_beq_eq_true hk)
    obtain ⟨lvc, hl, hlr⟩ := hI.2.1
    refine lv_lstore_n C.1 C.2.1 hd hi hl ha rfl (fun ls' hl' => ?_)
    exact IH me cs _ k (pc + 1) hme h hok hn p e s m args below meth c C H locs ls' stc ⟨hI.1, ⟨_, hl', ⟨⟨rfl, hw⟩, xLR_filL hlr⟩⟩, hst, hI.2.2.2⟩ hL
theorem xl_astore (IH : xIH ρ base F Ts Ns cl tys D dA la okc Ms ih) (hme : me ∈ Ms) (hok : okc me cs = true) (hn : xatp (pc + 2) cs) (hd : decode me.2.1 pc = .ok (.astore a, 2)) (hb : b = 1) (ha : a < me.2.2.1) (h : xo_store ih me cs a b l A k = true) : xGd ρ base F Ts Ns cl tys D dA la me pc A k := by
  subst hb
  obtain ⟨lv, st, r⟩ := A
  cases st with
  | nil => exact absurd h (by simp [xo_store])
  | cons v st =>
    unfold xo_store at h
    obtain ⟨hk, h⟩ := xcond h
    have h := xfil_of h
    intro p e s m args below meth c C H locs ls stc hI hL
    obtain ⟨w, stc, rfl, hw, hst⟩ := xSR_cons hI.2.2.1
    obtain ⟨lvc, hl, hlr⟩ := hI.2.1
    rcases xg_ref hw (Nat.eq_of_beq_eq_true hk) with rfl | ⟨z, rfl⟩
    · refine lv_astoreN C.1 C.2.1 hd hl ha rfl (fun ls' hl' => ?_)
      exact IH me cs _ k (pc + 2) hme h hok hn p e s m args below meth c C H locs ls' stc ⟨hI.1, ⟨_, hl', ⟨⟨rfl, hw⟩, xLR_filR hlr⟩⟩, hst, hI.2.2.2⟩ hL
    · refine lv_astore C.1 C.2.1 hd hl ha rfl (fun ls' hl' => ?_)
      exact IH me cs _ k (pc + 2) hme h hok hn p e s m args below meth c C H locs ls' stc ⟨hI.1, ⟨_, hl', ⟨⟨rfl, hw⟩, xLR_filR hlr⟩⟩, hst, hI.2.2.2⟩ hL
theorem xl_astore_n {i : Fin 4} (IH : xIH ρ base F Ts Ns cl tys D dA la okc Ms ih) (hme : me ∈ Ms) (hok : okc me cs = true) (hn : xatp (pc + 1) cs) (hd : decode me.2.1 pc = .ok (.astore_n i, 1)) (hi : (i : Nat) = a) (hb : b = 1) (ha : a < me.2.2.1) (h : xo_store ih me cs a b l A k = true) : xGd ρ base F Ts Ns cl tys D dA la me pc A k := by
  subst hb
  obtain ⟨lv, st, r⟩ := A
  cases st with
  | nil => exact absurd h (by simp [xo_store])
  | cons v st =>
    unfold xo_store at h
    obtain ⟨hk, h⟩ := xcond h
    have h := xfil_of h
    intro p e s m args below meth c C H locs ls stc hI hL
    obtain ⟨w, stc, rfl, hw, hst⟩ := xSR_cons hI.2.2.1
    obtain ⟨lvc, hl, hlr⟩ := hI.2.1
    rcases xg_ref hw (Nat.eq_of_beq_eq_true hk) with rfl | ⟨z, rfl⟩
    · refine lv_astore_nN C.1 C.2.1 hd hi hl ha rfl (fun ls' hl' => ?_)
      exact IH me cs _ k (pc + 1) hme h hok hn p e s m args below meth c C H locs ls' stc ⟨hI.1, ⟨_, hl', ⟨⟨rfl, hw⟩, xLR_filR hlr⟩⟩, hst, hI.2.2.2⟩ hL
    · refine lv_astore_n C.1 C.2.1 hd hi hl ha rfl (fun ls' hl' => ?_)
      exact IH me cs _ k (pc + 1) hme h hok hn p e s m args below meth c C H locs ls' stc ⟨hI.1, ⟨_, hl', ⟨⟨rfl, hw⟩, xLR_filR hlr⟩⟩, hst, hI.2.2.2⟩ hL
theorem xl_iinc {i : Int} (IH : xIH ρ base F Ts Ns cl tys D dA la okc Ms ih) (hme : me ∈ Ms) (hok : okc me cs = true) (hn : xatp (pc + 3) cs) (hd : decode me.2.1 pc = .ok (.iinc a i, 3)) (hi : Int32.ofInt i = nI b) (ha : a < me.2.2.1) (h : xo_iinc ih me cs a b l A k = true) : xGd ρ base F Ts Ns cl tys D dA la me pc A k := by
  obtain ⟨lv, st, env, r⟩ := A
  unfold xo_iinc at h
  obtain ⟨j, x, hx, h⟩ := xfind_of h
  intro p e s m args below meth c C H locs ls stc hI hL
  obtain ⟨lvc, hl, hlr⟩ := hI.2.1
  obtain ⟨v, hv, hg⟩ := xLR_get hlr hx
  obtain ⟨z, rfl, h⟩ := xci_of hI.1 hg h
  refine lv_iinc C.1 C.2.1 hd hl hv rfl ha rfl (fun ls' hl' => ?_)
  rcases h with ⟨env', u, he, hz, h⟩ | h
  · have h := xfil_of (xfN_of h)
    exact IH me cs _ k (pc + 3) hme h hok hn p e s m args below meth c C H locs ls' stc ⟨he, ⟨_, hl', ⟨⟨rfl, by show _ = Value.int (nI (xioc 0 u b)); rw [xioc_of, hz, hi]; rfl⟩, xLR_fil hlr⟩⟩, hI.2.2.1, hI.2.2.2⟩ hL
  · have h := xfil_of h
    exact IH me cs _ k (pc + 3) hme h hok hn p e s m args below meth c C H locs ls' stc ⟨hI.1, ⟨_, hl', ⟨⟨rfl, by rw [hi]; exact xsum_of hI.1.1 hg rfl⟩, xLR_fil hlr⟩⟩, hI.2.2.1, hI.2.2.2⟩ hL
theorem xcond3 {a b x y z : Bool} (h : cond a x (cond b y z) = true) : (a = true ∧ x = true) ∨ (b = true ∧ y = true) ∨ z = true := by cases a <;> cases b <;> simp_all
theorem xz_of {x : xV} {v : Value} (h : xz x = true) (hg : xg ρ base x v) : v = .int 0 := by
  match x, h, hg with
  | .inl u, h, hg =>
    have e := Nat.eq_of_beq_eq_true h
    subst e
    exact hg
  | .inr _, h, _ => exact absurd h (by simp [xz])
/-- a two-operand int instruction, its row given -/
theorem xl_ibin0 {len : Nat} (IH : xIH ρ base F Ts Ns cl tys D dA la okc Ms ih) (hme : me ∈ Ms) (hok : okc me cs = true) (hn : xatp (pc + len) cs) (h : xo_ibin ih me cs a b l A k = true)
    {p : Program} {e : Env} {s : State} {m : MethodId} {args : Array Value} {below : List Frame} {meth : Method} {c : Code} (C : xCx Ts Ns cl tys D dA p s m args meth c me) {H : Heap} {locs : List Loc} {ls : Array Slot} {stc : List Value} (hI : xIn ρ base F D dA tys cl me A H ls stc) (hL : va_S F s.heap H locs) :
    ∃ (x y : Int32) (rest : List Value), stc = .int y :: .int x :: rest ∧ W p la e (xR me) s m args below meth c H locs A.2.2.2.2.2.1 A.2.2.2.2.2.2 (MQ below (xQ ρ base F D dA tys cl k) args s (xR me).cells (xR me).slots F) (F0 m (pc + len) ls (.int (xio a x y) :: rest)) := by
  match A, h, hI with
  | (lv, y :: x :: st, env, r), h, hI =>
    unfold xo_ibin at h
    obtain ⟨vy, stc, rfl, hy, hst0⟩ := xSR_cons hI.2.2.1
    obtain ⟨vx, stc, rfl, hx, hst⟩ := xSR_cons hst0
    rcases xcond3 h with ⟨hz, h⟩ | ⟨hz, h⟩ | h
    · obtain ⟨x', rfl⟩ := xg_int hx (Nat.eq_of_beq_eq_true (xand (xand hz).2).2)
      have ey := xz_of (xand (xand hz).2).1 hy
      subst ey
      refine ⟨x', 0, stc, rfl, ?_⟩
      rw [Nat.eq_of_beq_eq_true (xand hz).1, show xio 0 x' 0 = x' from Int32.add_zero x']
      exact IH me cs _ k (pc + len) hme h hok hn p e s m args below meth c C H locs ls _ ⟨hI.1, hI.2.1, ⟨hx, hst⟩, hI.2.2.2⟩ hL
    · obtain ⟨y', rfl⟩ := xg_int hy (Nat.eq_of_beq_eq_true (xand (xand hz).2).2)
      have ex := xz_of (xand (xand hz).2).1 hx
      subst ex
      refine ⟨0, y', stc, rfl, ?_⟩
      rw [Nat.eq_of_beq_eq_true (xand hz).1, show xio 0 0 y' = y' from Int32.zero_add y']
      exact IH me cs _ k (pc + len) hme h hok hn p e s m args below meth c C H locs ls _ ⟨hI.1, hI.2.1, ⟨hy, hst⟩, hI.2.2.2⟩ hL
    obtain ⟨x', rfl, h⟩ := xci_of hI.1 hx h
    rcases h with ⟨env', u, he, hu, h⟩ | h
    · obtain ⟨y', rfl, h⟩ := xci_of he hy h
      rcases h with ⟨env', v, he, hv, h⟩ | h
      · exact ⟨x', y', stc, rfl, IH me cs _ k (pc + len) hme (xfN_of h) hok hn p e s m args below meth c C H locs ls _ ⟨he, hI.2.1, ⟨by show _ = Value.int (nI (xioc a u v)); rw [xioc_of, hu, hv], hst⟩, hI.2.2.2⟩ hL⟩
      · exact ⟨x', y', stc, rfl, IH me cs _ k (pc + len) hme h hok hn p e s m args below meth c C H locs ls _ ⟨he, hI.2.1, ⟨xsum_of he.1 (by rw [hu]; exact rfl) hy, hst⟩, hI.2.2.2⟩ hL⟩
    · obtain ⟨hk, h⟩ := xcond h
      obtain ⟨y', rfl⟩ := xg_int hy (Nat.eq_of_beq_eq_true hk)
      exact ⟨x', y', stc, rfl, IH me cs _ k (pc + len) hme h hok hn p e s m args below meth c C H locs ls _ ⟨hI.1, hI.2.1, ⟨xsum_of hI.1.1 hx hy, hst⟩, hI.2.2.2⟩ hL⟩
  | (lv, [], env, r), h, hI => exact absurd h (by simp [xo_ibin])
  | (lv, [_], env, r), h, hI => exact absurd h (by simp [xo_ibin])
theorem xl_iadd (IH : xIH ρ base F Ts Ns cl tys D dA la okc Ms ih) (hme : me ∈ Ms) (hok : okc me cs = true) (hn : xatp (pc + 1) cs) (hd : decode me.2.1 pc = .ok (.iadd, 1)) (ha : a = 0) (h : xo_ibin ih me cs a b l A k = true) : xGd ρ base F Ts Ns cl tys D dA la me pc A k := by
  subst ha
  intro p e s m args below meth c C H locs ls stc hI hL
  obtain ⟨x, y, rest, rfl, g⟩ := xl_ibin0 IH hme hok hn h C hI hL
  exact lv_iadd C.1 C.2.1 hd g
theorem xl_isub (IH : xIH ρ base F Ts Ns cl tys D dA la okc Ms ih) (hme : me ∈ Ms) (hok : okc me cs = true) (hn : xatp (pc + 1) cs) (hd : decode me.2.1 pc = .ok (.isub, 1)) (ha : a = 1) (h : xo_ibin ih me cs a b l A k = true) : xGd ρ base F Ts Ns cl tys D dA la me pc A k := by
  subst ha
  intro p e s m args below meth c C H locs ls stc hI hL
  obtain ⟨x, y, rest, rfl, g⟩ := xl_ibin0 IH hme hok hn h C hI hL
  exact lv_isub C.1 C.2.1 hd g
theorem xl_imul (IH : xIH ρ base F Ts Ns cl tys D dA la okc Ms ih) (hme : me ∈ Ms) (hok : okc me cs = true) (hn : xatp (pc + 1) cs) (hd : decode me.2.1 pc = .ok (.imul, 1)) (ha : a = 2) (h : xo_ibin ih me cs a b l A k = true) : xGd ρ base F Ts Ns cl tys D dA la me pc A k := by
  subst ha
  intro p e s m args below meth c C H locs ls stc hI hL
  obtain ⟨x, y, rest, rfl, g⟩ := xl_ibin0 IH hme hok hn h C hI hL
  exact lv_imul C.1 C.2.1 hd g
theorem xl_iand (IH : xIH ρ base F Ts Ns cl tys D dA la okc Ms ih) (hme : me ∈ Ms) (hok : okc me cs = true) (hn : xatp (pc + 1) cs) (hd : decode me.2.1 pc = .ok (.iand, 1)) (ha : a = 3) (h : xo_ibin ih me cs a b l A k = true) : xGd ρ base F Ts Ns cl tys D dA la me pc A k := by
  subst ha
  intro p e s m args below meth c C H locs ls stc hI hL
  obtain ⟨x, y, rest, rfl, g⟩ := xl_ibin0 IH hme hok hn h C hI hL
  exact lv_iand C.1 C.2.1 hd g
theorem xl_ior (IH : xIH ρ base F Ts Ns cl tys D dA la okc Ms ih) (hme : me ∈ Ms) (hok : okc me cs = true) (hn : xatp (pc + 1) cs) (hd : decode me.2.1 pc = .ok (.ior, 1)) (ha : a = 4) (h : xo_ibin ih me cs a b l A k = true) : xGd ρ base F Ts Ns cl tys D dA la me pc A k := by
  subst ha
  intro p e s m args below meth c C H locs ls stc hI hL
  obtain ⟨x, y, rest, rfl, g⟩ := xl_ibin0 IH hme hok hn h C hI hL
  exact lv_ior C.1 C.2.1 hd g
theorem xl_ixor (IH : xIH ρ base F Ts Ns cl tys D dA la okc Ms ih) (hme : me ∈ Ms) (hok : okc me cs = true) (hn : xatp (pc + 1) cs) (hd : decode me.2.1 pc = .ok (.ixor, 1)) (ha : a = 5) (h : xo_ibin ih me cs a b l A k = true) : xGd ρ base F Ts Ns cl tys D dA la me pc A k := by
  subst ha
  intro p e s m args below meth c C H locs ls stc hI hL
  obtain ⟨x, y, rest, rfl, g⟩ := xl_ibin0 IH hme hok hn h C hI hL
  exact lv_ixor C.1 C.2.1 hd g
theorem xl_ishl (IH : xIH ρ base F Ts Ns cl tys D dA la okc Ms ih) (hme : me ∈ Ms) (hok : okc me cs = true) (hn : xatp (pc + 1) cs) (hd : decode me.2.1 pc = .ok (.ishl, 1)) (ha : a = 6) (h : xo_ibin ih me cs a b l A k = true) : xGd ρ base F Ts Ns cl tys D dA la me pc A k := by
  subst ha
  intro p e s m args below meth c C H locs ls stc hI hL
  obtain ⟨x, y, rest, rfl, g⟩ := xl_ibin0 IH hme hok hn h C hI hL
  exact lv_ishl C.1 C.2.1 hd g
theorem xl_ishr (IH : xIH ρ base F Ts Ns cl tys D dA la okc Ms ih) (hme : me ∈ Ms) (hok : okc me cs = true) (hn : xatp (pc + 1) cs) (hd : decode me.2.1 pc = .ok (.ishr, 1)) (ha : a = 7) (h : xo_ibin ih me cs a b l A k = true) : xGd ρ base F Ts Ns cl tys D dA la me pc A k := by
  subst ha
  intro p e s m args below meth c C H locs ls stc hI hL
  obtain ⟨x, y, rest, rfl, g⟩ := xl_ibin0 IH hme hok hn h C hI hL
  exact lv_ishr C.1 C.2.1 hd g
theorem xl_iushr (IH : xIH ρ base F Ts Ns cl tys D dA la okc Ms ih) (hme : me ∈ Ms) (hok : okc me cs = true) (hn : xatp (pc + 1) cs) (hd : decode me.2.1 pc = .ok (.iushr, 1)) (ha : a = 8) (h : xo_ibin ih me cs a b l A k = true) : xGd ρ base F Ts Ns cl tys D dA la me pc A k := by
  subst ha
  intro p e s m args below meth c C H locs ls stc hI hL
  obtain ⟨x, y, rest, rfl, g⟩ := xl_ibin0 IH hme hok hn h C hI hL
  exact lv_iushr C.1 C.2.1 hd rfl g
theorem xdv_of {a u v : Nat} (ha : a < 2) (hv : ¬ v % 4294967296 = 0) : nI (xdvc a u v) = xdv a (nI u) (nI v) := by
  unfold xdvc
  by_cases c : Bool.and (Nat.blt u 2147483648) (Nat.blt v 2147483648) = true
  · rw [c]
    have c1 : Nat.blt u 2147483648 = true := by revert c; cases Nat.blt u 2147483648 <;> simp
    have c2 : Nat.blt v 2147483648 = true := by revert c; cases Nat.blt v 2147483648 <;> simp
    have c1 := xblt.mp c1
    have c2 := xblt.mp c2
    have h0 : 0 < v := by
      rcases Nat.eq_zero_or_pos v with q | q
      · exact absurd (by rw [q]) hv
      · exact q
    match a, ha with
    | 0, _ => show nI (u / v) = nI u / nI v; rw [pk_div c1 h0 c2]
    | 1, _ => show nI (u % v) = nI u - nI u / nI v * nI v; rw [pk_rem c1 h0 c2]
  · have c : Bool.and (Nat.blt u 2147483648) (Nat.blt v 2147483648) = false := xnf c
    rw [c]
    exact xn_code _
theorem xl_idiv0 {len : Nat} (IH : xIH ρ base F Ts Ns cl tys D dA la okc Ms ih) (hme : me ∈ Ms) (hok : okc me cs = true) (hn : xatp (pc + len) cs) (ha : a < 2) (h : xo_idiv ih me cs a b l A k = true)
    {p : Program} {e : Env} {s : State} {m : MethodId} {args : Array Value} {below : List Frame} {meth : Method} {c : Code} (C : xCx Ts Ns cl tys D dA p s m args meth c me) {H : Heap} {locs : List Loc} {ls : Array Slot} {stc : List Value} (hI : xIn ρ base F D dA tys cl me A H ls stc) (hL : va_S F s.heap H locs) :
    ∃ (x y : Int32) (rest : List Value), stc = .int y :: .int x :: rest ∧ ¬ y = 0 ∧ W p la e (xR me) s m args below meth c H locs A.2.2.2.2.2.1 A.2.2.2.2.2.2 (MQ below (xQ ρ base F D dA tys cl k) args s (xR me).cells (xR me).slots F) (F0 m (pc + len) ls (.int (xdv a x y) :: rest)) := by
  match A, h, hI with
  | (lv, y :: x :: st, env, r), h, hI =>
    unfold xo_idiv at h
    obtain ⟨vy, stc, rfl, hy, hst0⟩ := xSR_cons hI.2.2.1
    obtain ⟨vx, stc, rfl, hx, hst⟩ := xSR_cons hst0
    obtain ⟨y', rfl, h⟩ := xci_of hI.1 hy h
    rcases h with ⟨env', v, he, hv, h⟩ | h
    · obtain ⟨c0, h⟩ := xcondn h
      · have hne : ¬ v % 4294967296 = 0 := fun q => by
          have : Nat.beq (v % 4294967296) 0 = true := by rw [q]; rfl
          rw [show Nat.beq (v % 4294967296) 0 = false from c0] at this
          cases this
        have hy0 : ¬ y' = 0 := fun q => hne (by have := xn_tn v; rw [← hv, q] at this; exact this.symm)
        obtain ⟨x', rfl, h⟩ := xci_of he hx h
        rcases h with ⟨env', u, he, hu, h⟩ | h
        · exact ⟨x', y', stc, rfl, hy0, IH me cs _ k (pc + len) hme (xfN_of h) hok hn p e s m args below meth c C H locs ls _ ⟨he, hI.2.1, ⟨by show _ = Value.int (nI (xdvc a u v)); rw [xdv_of ha hne, hu, hv], hst⟩, hI.2.2.2⟩ hL⟩
        · exact ⟨x', y', stc, rfl, hy0, IH me cs _ k (pc + len) hme h hok hn p e s m args below meth c C H locs ls _ ⟨he, hI.2.1, ⟨⟨_, rfl⟩, hst⟩, hI.2.2.2⟩ hL⟩
    · exact absurd h (by simp)
  | (lv, [], env, r), h, hI => exact absurd h (by simp [xo_idiv])
  | (lv, [_], env, r), h, hI => exact absurd h (by simp [xo_idiv])
theorem xl_idiv (IH : xIH ρ base F Ts Ns cl tys D dA la okc Ms ih) (hme : me ∈ Ms) (hok : okc me cs = true) (hn : xatp (pc + 1) cs) (hd : decode me.2.1 pc = .ok (.idiv, 1)) (ha : a = 0) (h : xo_idiv ih me cs a b l A k = true) : xGd ρ base F Ts Ns cl tys D dA la me pc A k := by
  subst ha
  intro p e s m args below meth c C H locs ls stc hI hL
  obtain ⟨x, y, rest, rfl, h0, g⟩ := xl_idiv0 IH hme hok hn (by decide) h C hI hL
  exact lv_idiv C.1 C.2.1 hd h0 g
theorem xl_irem (IH : xIH ρ base F Ts Ns cl tys D dA la okc Ms ih) (hme : me ∈ Ms) (hok : okc me cs = true) (hn : xatp (pc + 1) cs) (hd : decode me.2.1 pc = .ok (.irem, 1)) (ha : a = 1) (h : xo_idiv ih me cs a b l A k = true) : xGd ρ base F Ts Ns cl tys D dA la me pc A k := by
  subst ha
  intro p e s m args below meth c C H locs ls stc hI hL
  obtain ⟨x, y, rest, rfl, h0, g⟩ := xl_idiv0 IH hme hok hn (by decide) h C hI hL
  exact lv_irem C.1 C.2.1 hd h0 g
theorem xl_iun0 {len : Nat} (IH : xIH ρ base F Ts Ns cl tys D dA la okc Ms ih) (hme : me ∈ Ms) (hok : okc me cs = true) (hn : xatp (pc + len) cs) (h : xo_iun ih me cs a b l A k = true)
    {p : Program} {e : Env} {s : State} {m : MethodId} {args : Array Value} {below : List Frame} {meth : Method} {c : Code} (C : xCx Ts Ns cl tys D dA p s m args meth c me) {H : Heap} {locs : List Loc} {ls : Array Slot} {stc : List Value} (hI : xIn ρ base F D dA tys cl me A H ls stc) (hL : va_S F s.heap H locs) :
    ∃ (x : Int32) (rest : List Value), stc = .int x :: rest ∧ W p la e (xR me) s m args below meth c H locs A.2.2.2.2.2.1 A.2.2.2.2.2.2 (MQ below (xQ ρ base F D dA tys cl k) args s (xR me).cells (xR me).slots F) (F0 m (pc + len) ls (.int (xiu a x) :: rest)) := by
  match A, h, hI with
  | (lv, x :: st, env, r), h, hI =>
    unfold xo_iun at h
    obtain ⟨vx, stc, rfl, hx, hst⟩ := xSR_cons hI.2.2.1
    obtain ⟨x', rfl, h⟩ := xci_of hI.1 hx h
    rcases h with ⟨env', u, he, hu, h⟩ | h
    · exact ⟨x', stc, rfl, IH me cs _ k (pc + len) hme (xfN_of h) hok hn p e s m args below meth c C H locs ls _ ⟨he, hI.2.1, ⟨by show _ = Value.int (nI (xcode (xiu a (nI u)))); rw [xn_code, hu], hst⟩, hI.2.2.2⟩ hL⟩
    · exact ⟨x', stc, rfl, IH me cs _ k (pc + len) hme h hok hn p e s m args below meth c C H locs ls _ ⟨hI.1, hI.2.1, ⟨⟨_, rfl⟩, hst⟩, hI.2.2.2⟩ hL⟩
  | (lv, [], env, r), h, hI => exact absurd h (by simp [xo_iun])
theorem xl_ineg (IH : xIH ρ base F Ts Ns cl tys D dA la okc Ms ih) (hme : me ∈ Ms) (hok : okc me cs = true) (hn : xatp (pc + 1) cs) (hd : decode me.2.1 pc = .ok (.ineg, 1)) (ha : a = 0) (h : xo_iun ih me cs a b l A k = true) : xGd ρ base F Ts Ns cl tys D dA la me pc A k := by
  subst ha
  intro p e s m args below meth c C H locs ls stc hI hL
  obtain ⟨x, rest, rfl, g⟩ := xl_iun0 IH hme hok hn h C hI hL
  exact lv_ineg C.1 C.2.1 hd g
theorem xl_i2b (IH : xIH ρ base F Ts Ns cl tys D dA la okc Ms ih) (hme : me ∈ Ms) (hok : okc me cs = true) (hn : xatp (pc + 1) cs) (hd : decode me.2.1 pc = .ok (.i2b, 1)) (ha : a = 1) (h : xo_iun ih me cs a b l A k = true) : xGd ρ base F Ts Ns cl tys D dA la me pc A k := by
  subst ha
  intro p e s m args below meth c C H locs ls stc hI hL
  obtain ⟨x, rest, rfl, g⟩ := xl_iun0 IH hme hok hn h C hI hL
  exact lv_i2b C.1 C.2.1 hd rfl g
theorem xl_i2s (IH : xIH ρ base F Ts Ns cl tys D dA la okc Ms ih) (hme : me ∈ Ms) (hok : okc me cs = true) (hn : xatp (pc + 1) cs) (hd : decode me.2.1 pc = .ok (.i2s, 1)) (ha : a = 2) (h : xo_iun ih me cs a b l A k = true) : xGd ρ base F Ts Ns cl tys D dA la me pc A k := by
  subst ha
  intro p e s m args below meth c C H locs ls stc hI hL
  obtain ⟨x, rest, rfl, g⟩ := xl_iun0 IH hme hok hn h C hI hL
  exact lv_i2s C.1 C.2.1 hd rfl g
theorem xl_i2c (IH : xIH ρ base F Ts Ns cl tys D dA la okc Ms ih) (hme : me ∈ Ms) (hok : okc me cs = true) (hn : xatp (pc + 1) cs) (hd : decode me.2.1 pc = .ok (.i2c, 1)) (ha : a = 3) (h : xo_iun ih me cs a b l A k = true) : xGd ρ base F Ts Ns cl tys D dA la me pc A k := by
  subst ha
  intro p e s m args below meth c C H locs ls stc hI hL
  obtain ⟨x, rest, rfl, g⟩ := xl_iun0 IH hme hok hn h C hI hL
  exact lv_i2c C.1 C.2.1 hd rfl g
theorem xl_i2l (IH : xIH ρ base F Ts Ns cl tys D dA la okc Ms ih) (hme : me ∈ Ms) (hok : okc me cs = true) (hn : xatp (pc + 1) cs) (hd : decode me.2.1 pc = .ok (.i2l, 1)) (h : xo_i2l ih me cs a b l A k = true) : xGd ρ base F Ts Ns cl tys D dA la me pc A k := by
  match A, h with
  | (lv, .inl u :: st, r), h =>
    unfold xo_i2l at h
    intro p e s m args below meth c C H locs ls stc hI hL
    obtain ⟨vx, stc, rfl, hx, hst⟩ := xSR_cons hI.2.2.1
    cases hx
    exact lv_i2l C.1 C.2.1 hd rfl (IH me cs _ k (pc + 1) hme (xfN_of h) hok hn p e s m args below meth c C H locs ls _ ⟨hI.1, hI.2.1, ⟨by show _ = Value.long (lN (xcodeL (nI u).toInt64)); rw [xl_code], hst⟩, hI.2.2.2⟩ hL)
  | (lv, .inr (.inl none) :: st, r), h =>
    unfold xo_i2l at h
    intro p e s m args below meth c C H locs ls stc hI hL
    obtain ⟨vx, stc, rfl, hx, hst⟩ := xSR_cons hI.2.2.1
    obtain ⟨z, rfl⟩ := hx
    exact lv_i2l C.1 C.2.1 hd rfl (IH me cs _ k (pc + 1) hme h hok hn p e s m args below meth c C H locs ls _ ⟨hI.1, hI.2.1, ⟨⟨_, rfl⟩, hst⟩, hI.2.2.2⟩ hL)
  | (lv, .inr (.inl (some i)) :: st, r), h =>
    unfold xo_i2l at h
    intro p e s m args below meth c C H locs ls stc hI hL
    obtain ⟨vx, stc, rfl, hx, hst⟩ := xSR_cons hI.2.2.1
    cases hx
    have h : cond (Nat.blt i 64) (ih me cs (lv, .inr (.inr (.inr (.inr (some i)))) :: st, r) k) (ih me cs (lv, xTopL :: st, r) k) = true := h
    by_cases c64 : Nat.blt i 64 = true
    · rw [c64, cond_true] at h
      exact lv_i2l C.1 C.2.1 hd rfl (IH me cs _ k (pc + 1) hme h hok hn p e s m args below meth c C H locs ls _ ⟨hI.1, hI.2.1, ⟨rfl, hst⟩, hI.2.2.2⟩ hL)
    · rw [xnf c64, cond_false] at h
      exact lv_i2l C.1 C.2.1 hd rfl (IH me cs _ k (pc + 1) hme h hok hn p e s m args below meth c C H locs ls _ ⟨hI.1, hI.2.1, ⟨⟨_, rfl⟩, hst⟩, hI.2.2.2⟩ hL)
  | (lv, .inr (.inr _) :: st, r), h => exact absurd h (by simp [xo_i2l])
  | (lv, [], r), h => exact absurd h (by simp [xo_i2l])
theorem xl_l2i (IH : xIH ρ base F Ts Ns cl tys D dA la okc Ms ih) (hme : me ∈ Ms) (hok : okc me cs = true) (hn : xatp (pc + 1) cs) (hd : decode me.2.1 pc = .ok (.l2i, 1)) (h : xo_l2i ih me cs a b l A k = true) : xGd ρ base F Ts Ns cl tys D dA la me pc A k := by
  match A, h with
  | (lv, .inr (.inr (.inr (.inl u))) :: st, r), h =>
    unfold xo_l2i at h
    intro p e s m args below meth c C H locs ls stc hI hL
    obtain ⟨vx, stc, rfl, hx, hst⟩ := xSR_cons hI.2.2.1
    cases hx
    exact lv_l2i C.1 C.2.1 hd rfl (IH me cs _ k (pc + 1) hme (xfN_of h) hok hn p e s m args below meth c C H locs ls _ ⟨hI.1, hI.2.1, ⟨by show _ = Value.int (nI (xcode (lN u).toInt32)); rw [xn_code], hst⟩, hI.2.2.2⟩ hL)
  | (lv, .inr (.inr (.inr (.inr o))) :: st, r), h =>
    unfold xo_l2i at h
    intro p e s m args below meth c C H locs ls stc hI hL
    obtain ⟨vx, stc, rfl, hx, hst⟩ := xSR_cons hI.2.2.1
    obtain ⟨z, rfl⟩ := xg_long hx rfl
    exact lv_l2i C.1 C.2.1 hd rfl (IH me cs _ k (pc + 1) hme h hok hn p e s m args below meth c C H locs ls _ ⟨hI.1, hI.2.1, ⟨⟨_, rfl⟩, hst⟩, hI.2.2.2⟩ hL)
  | (lv, .inl _ :: st, r), h => exact absurd h (by simp [xo_l2i])
  | (lv, .inr (.inl _) :: st, r), h => exact absurd h (by simp [xo_l2i])
  | (lv, .inr (.inr (.inl _)) :: st, r), h => exact absurd h (by simp [xo_l2i])
  | (lv, [], r), h => exact absurd h (by simp [xo_l2i])
theorem xlc_of {x : xV} {v : Value} {u : Nat} (h : xlc x = some u) (hg : xg ρ base x v) : v = .long (lN u) := by
  match x, h, hg with
  | .inr (.inr (.inr (.inl w))), h, hg => cases h; exact hg
theorem xl_lbin0 {len : Nat} (IH : xIH ρ base F Ts Ns cl tys D dA la okc Ms ih) (hme : me ∈ Ms) (hok : okc me cs = true) (hn : xatp (pc + len) cs) (h : xo_lbin ih me cs a b l A k = true)
    {p : Program} {e : Env} {s : State} {m : MethodId} {args : Array Value} {below : List Frame} {meth : Method} {c : Code} (C : xCx Ts Ns cl tys D dA p s m args meth c me) {H : Heap} {locs : List Loc} {ls : Array Slot} {stc : List Value} (hI : xIn ρ base F D dA tys cl me A H ls stc) (hL : va_S F s.heap H locs) :
    ∃ (x y : Int64) (rest : List Value), stc = .long y :: .long x :: rest ∧ W p la e (xR me) s m args below meth c H locs A.2.2.2.2.2.1 A.2.2.2.2.2.2 (MQ below (xQ ρ base F D dA tys cl k) args s (xR me).cells (xR me).slots F) (F0 m (pc + len) ls (.long (xlo a x y) :: rest)) := by
  match A, h, hI with
  | (lv, y :: x :: st, r), h, hI =>
    unfold xo_lbin at h
    obtain ⟨vy, stc, rfl, hy, hst0⟩ := xSR_cons hI.2.2.1
    obtain ⟨vx, stc, rfl, hx, hst⟩ := xSR_cons hst0
    obtain ⟨hk, h⟩ := xcond h
    obtain ⟨y', rfl⟩ := xg_long hy (Nat.eq_of_beq_eq_true (xand hk).1)
    obtain ⟨x', rfl⟩ := xg_long hx (Nat.eq_of_beq_eq_true (xand hk).2)
    refine ⟨x', y', stc, rfl, ?_⟩
    cases ex : xlc x with
    | none =>
      rw [ex] at h
      exact IH me cs _ k (pc + len) hme h hok hn p e s m args below meth c C H locs ls _ ⟨hI.1, hI.2.1, ⟨⟨_, rfl⟩, hst⟩, hI.2.2.2⟩ hL
    | some u =>
      cases ey : xlc y with
      | none =>
        rw [ex, ey] at h
        exact IH me cs _ k (pc + len) hme h hok hn p e s m args below meth c C H locs ls _ ⟨hI.1, hI.2.1, ⟨⟨_, rfl⟩, hst⟩, hI.2.2.2⟩ hL
      | some v =>
        rw [ex, ey] at h
        have h1 := xlc_of ex hx
        have h2 := xlc_of ey hy
        cases h1
        cases h2
        exact IH me cs _ k (pc + len) hme (xfN_of h) hok hn p e s m args below meth c C H locs ls _ ⟨hI.1, hI.2.1, ⟨by show _ = Value.long (lN (xcodeL (xlo a (lN u) (lN v)))); rw [xl_code], hst⟩, hI.2.2.2⟩ hL
  | (lv, [], r), h, hI => exact absurd h (by simp [xo_lbin])
  | (lv, [_], r), h, hI => exact absurd h (by simp [xo_lbin])
theorem xl_ladd (IH : xIH ρ base F Ts Ns cl tys D dA la okc Ms ih) (hme : me ∈ Ms) (hok : okc me cs = true) (hn : xatp (pc + 1) cs) (hd : decode me.2.1 pc = .ok (.ladd, 1)) (ha : a = 0) (h : xo_lbin ih me cs a b l A k = true) : xGd ρ base F Ts Ns cl tys D dA la me pc A k := by
  subst ha
  intro p e s m args below meth c C H locs ls stc hI hL
  obtain ⟨x, y, rest, rfl, g⟩ := xl_lbin0 IH hme hok hn h C hI hL
  exact lv_ladd C.1 C.2.1 hd g
theorem xl_lsub (IH : xIH ρ base F Ts Ns cl tys D dA la okc Ms ih) (hme : me ∈ Ms) (hok : okc me cs = true) (hn : xatp (pc + 1) cs) (hd : decode me.2.1 pc = .ok (.lsub, 1)) (ha : a = 1) (h : xo_lbin ih me cs a b l A k = true) : xGd ρ base F Ts Ns cl tys D dA la me pc A k := by
  subst ha
  intro p e s m args below meth c C H locs ls stc hI hL
  obtain ⟨x, y, rest, rfl, g⟩ := xl_lbin0 IH hme hok hn h C hI hL
  exact lv_lsub C.1 C.2.1 hd g
theorem xl_lmul (IH : xIH ρ base F Ts Ns cl tys D dA la okc Ms ih) (hme : me ∈ Ms) (hok : okc me cs = true) (hn : xatp (pc + 1) cs) (hd : decode me.2.1 pc = .ok (.lmul, 1)) (ha : a = 2) (h : xo_lbin ih me cs a b l A k = true) : xGd ρ base F Ts Ns cl tys D dA la me pc A k := by
  subst ha
  intro p e s m args below meth c C H locs ls stc hI hL
  obtain ⟨x, y, rest, rfl, g⟩ := xl_lbin0 IH hme hok hn h C hI hL
  exact lv_lmul C.1 C.2.1 hd g
theorem xl_land (IH : xIH ρ base F Ts Ns cl tys D dA la okc Ms ih) (hme : me ∈ Ms) (hok : okc me cs = true) (hn : xatp (pc + 1) cs) (hd : decode me.2.1 pc = .ok (.land, 1)) (ha : a = 3) (h : xo_lbin ih me cs a b l A k = true) : xGd ρ base F Ts Ns cl tys D dA la me pc A k := by
  subst ha
  intro p e s m args below meth c C H locs ls stc hI hL
  obtain ⟨x, y, rest, rfl, g⟩ := xl_lbin0 IH hme hok hn h C hI hL
  exact lv_land C.1 C.2.1 hd g
theorem xl_lor (IH : xIH ρ base F Ts Ns cl tys D dA la okc Ms ih) (hme : me ∈ Ms) (hok : okc me cs = true) (hn : xatp (pc + 1) cs) (hd : decode me.2.1 pc = .ok (.lor, 1)) (ha : a = 4) (h : xo_lbin ih me cs a b l A k = true) : xGd ρ base F Ts Ns cl tys D dA la me pc A k := by
  subst ha
  intro p e s m args below meth c C H locs ls stc hI hL
  obtain ⟨x, y, rest, rfl, g⟩ := xl_lbin0 IH hme hok hn h C hI hL
  exact lv_lor C.1 C.2.1 hd g
theorem xl_lxor (IH : xIH ρ base F Ts Ns cl tys D dA la okc Ms ih) (hme : me ∈ Ms) (hok : okc me cs = true) (hn : xatp (pc + 1) cs) (hd : decode me.2.1 pc = .ok (.lxor, 1)) (ha : a = 5) (h : xo_lbin ih me cs a b l A k = true) : xGd ρ base F Ts Ns cl tys D dA la me pc A k := by
  subst ha
  intro p e s m args below meth c C H locs ls stc hI hL
  obtain ⟨x, y, rest, rfl, g⟩ := xl_lbin0 IH hme hok hn h C hI hL
  exact lv_lxor C.1 C.2.1 hd g
theorem xl_ldiv0 {len : Nat} (IH : xIH ρ base F Ts Ns cl tys D dA la okc Ms ih) (hme : me ∈ Ms) (hok : okc me cs = true) (hn : xatp (pc + len) cs) (h : xo_ldiv ih me cs a b l A k = true)
    {p : Program} {e : Env} {s : State} {m : MethodId} {args : Array Value} {below : List Frame} {meth : Method} {c : Code} (C : xCx Ts Ns cl tys D dA p s m args meth c me) {H : Heap} {locs : List Loc} {ls : Array Slot} {stc : List Value} (hI : xIn ρ base F D dA tys cl me A H ls stc) (hL : va_S F s.heap H locs) :
    ∃ (x y : Int64) (rest : List Value), stc = .long y :: .long x :: rest ∧ ¬ y = 0 ∧ W p la e (xR me) s m args below meth c H locs A.2.2.2.2.2.1 A.2.2.2.2.2.2 (MQ below (xQ ρ base F D dA tys cl k) args s (xR me).cells (xR me).slots F) (F0 m (pc + len) ls (.long (xldv a x y) :: rest)) := by
  match A, h, hI with
  | (lv, y :: x :: st, r), h, hI =>
    unfold xo_ldiv at h
    obtain ⟨vy, stc, rfl, hy, hst0⟩ := xSR_cons hI.2.2.1
    obtain ⟨vx, stc, rfl, hx, hst⟩ := xSR_cons hst0
    obtain ⟨hk, h⟩ := xcond h
    obtain ⟨x', rfl⟩ := xg_long hx (Nat.eq_of_beq_eq_true hk)
    cases ey : xlc y with
    | none => rw [ey] at h; exact absurd h (by simp)
    | some v =>
      rw [ey] at h
      have h2 := xlc_of ey hy
      subst h2
      obtain ⟨c0, h⟩ := xcondn h
      · have hy0 : ¬ lN v = 0 := fun q => by
          have h3 := xl_tn v
          rw [q] at h3
          have h4 : Nat.beq (v % 18446744073709551616) 0 = true := by rw [← h3]; rfl
          rw [show Nat.beq (v % 18446744073709551616) 0 = false from c0] at h4
          cases h4
        refine ⟨x', lN v, stc, rfl, hy0, ?_⟩
        cases ex : xlc x with
        | none =>
          rw [ex] at h
          exact IH me cs _ k (pc + len) hme h hok hn p e s m args below meth c C H locs ls _ ⟨hI.1, hI.2.1, ⟨⟨_, rfl⟩, hst⟩, hI.2.2.2⟩ hL
        | some u =>
          rw [ex] at h
          have h1 := xlc_of ex hx
          cases h1
          exact IH me cs _ k (pc + len) hme (xfN_of h) hok hn p e s m args below meth c C H locs ls _ ⟨hI.1, hI.2.1, ⟨by show _ = Value.long (lN (xcodeL (xldv a (lN u) (lN v)))); rw [xl_code], hst⟩, hI.2.2.2⟩ hL
  | (lv, [], r), h, hI => exact absurd h (by simp [xo_ldiv])
  | (lv, [_], r), h, hI => exact absurd h (by simp [xo_ldiv])
theorem xl_ldiv (IH : xIH ρ base F Ts Ns cl tys D dA la okc Ms ih) (hme : me ∈ Ms) (hok : okc me cs = true) (hn : xatp (pc + 1) cs) (hd : decode me.2.1 pc = .ok (.ldiv, 1)) (ha : a = 0) (h : xo_ldiv ih me cs a b l A k = true) : xGd ρ base F Ts Ns cl tys D dA la me pc A k := by
  subst ha
  intro p e s m args below meth c C H locs ls stc hI hL
  obtain ⟨x, y, rest, rfl, h0, g⟩ := xl_ldiv0 IH hme hok hn h C hI hL
  exact lv_ldiv C.1 C.2.1 hd h0 g
theorem xl_lrem (IH : xIH ρ base F Ts Ns cl tys D dA la okc Ms ih) (hme : me ∈ Ms) (hok : okc me cs = true) (hn : xatp (pc + 1) cs) (hd : decode me.2.1 pc = .ok (.lrem, 1)) (ha : a = 1) (h : xo_ldiv ih me cs a b l A k = true) : xGd ρ base F Ts Ns cl tys D dA la me pc A k := by
  subst ha
  intro p e s m args below meth c C H locs ls stc hI hL
  obtain ⟨x, y, rest, rfl, h0, g⟩ := xl_ldiv0 IH hme hok hn h C hI hL
  exact lv_lrem C.1 C.2.1 hd h0 g
theorem xl_lsh0 {len : Nat} (IH : xIH ρ base F Ts Ns cl tys D dA la okc Ms ih) (hme : me ∈ Ms) (hok : okc me cs = true) (hn : xatp (pc + len) cs) (h : xo_lsh ih me cs a b l A k = true)
    {p : Program} {e : Env} {s : State} {m : MethodId} {args : Array Value} {below : List Frame} {meth : Method} {c : Code} (C : xCx Ts Ns cl tys D dA p s m args meth c me) {H : Heap} {locs : List Loc} {ls : Array Slot} {stc : List Value} (hI : xIn ρ base F D dA tys cl me A H ls stc) (hL : va_S F s.heap H locs) :
    ∃ (x : Int64) (y : Int32) (rest : List Value), stc = .int y :: .long x :: rest ∧ W p la e (xR me) s m args below meth c H locs A.2.2.2.2.2.1 A.2.2.2.2.2.2 (MQ below (xQ ρ base F D dA tys cl k) args s (xR me).cells (xR me).slots F) (F0 m (pc + len) ls (.long (xls a x y) :: rest)) := by
  match A, h, hI with
  | (lv, y :: x :: st, r), h, hI =>
    unfold xo_lsh at h
    obtain ⟨vy, stc, rfl, hy, hst0⟩ := xSR_cons hI.2.2.1
    obtain ⟨vx, stc, rfl, hx, hst⟩ := xSR_cons hst0
    obtain ⟨hk, h⟩ := xcond h
    obtain ⟨y', rfl⟩ := xg_int hy (Nat.eq_of_beq_eq_true (xand hk).1)
    obtain ⟨x', rfl⟩ := xg_long hx (Nat.eq_of_beq_eq_true (xand hk).2)
    refine ⟨x', y', stc, rfl, ?_⟩
    have any : ih me cs (lv, xTopL :: st, r) k = true → W p la e (xR me) s m args below meth c H locs r.2.2.2.1 r.2.2.2.2 (MQ below (xQ ρ base F D dA tys cl k) args s (xR me).cells (xR me).slots F) (F0 m (pc + len) ls (.long (xls a x' y') :: stc)) := fun h => IH me cs _ k (pc + len) hme h hok hn p e s m args below meth c C H locs ls _ ⟨hI.1, hI.2.1, ⟨⟨_, rfl⟩, hst⟩, hI.2.2.2⟩ hL
    cases ex : xlc x with
    | none => rw [ex] at h; exact any h
    | some u =>
      rw [ex] at h
      match y, hy, h with
      | .inl v, hy, h =>
        have h1 := xlc_of ex hx
        cases h1
        cases hy
        exact IH me cs _ k (pc + len) hme (xfN_of h) hok hn p e s m args below meth c C H locs ls _ ⟨hI.1, hI.2.1, ⟨by show _ = Value.long (lN (xcodeL (xls a (lN u) (nI v)))); rw [xl_code], hst⟩, hI.2.2.2⟩ hL
      | .inr _, hy, h => exact any h
  | (lv, [], r), h, hI => exact absurd h (by simp [xo_lsh])
  | (lv, [_], r), h, hI => exact absurd h (by simp [xo_lsh])
theorem xl_lshl (IH : xIH ρ base F Ts Ns cl tys D dA la okc Ms ih) (hme : me ∈ Ms) (hok : okc me cs = true) (hn : xatp (pc + 1) cs) (hd : decode me.2.1 pc = .ok (.lshl, 1)) (ha : a = 0) (h : xo_lsh ih me cs a b l A k = true) : xGd ρ base F Ts Ns cl tys D dA la me pc A k := by
  subst ha
  intro p e s m args below meth c C H locs ls stc hI hL
  obtain ⟨x, y, rest, rfl, g⟩ := xl_lsh0 IH hme hok hn h C hI hL
  exact lv_lshl C.1 C.2.1 hd rfl g
theorem xl_lshr (IH : xIH ρ base F Ts Ns cl tys D dA la okc Ms ih) (hme : me ∈ Ms) (hok : okc me cs = true) (hn : xatp (pc + 1) cs) (hd : decode me.2.1 pc = .ok (.lshr, 1)) (ha : a = 1) (h : xo_lsh ih me cs a b l A k = true) : xGd ρ base F Ts Ns cl tys D dA la me pc A k := by
  subst ha
  intro p e s m args below meth c C H locs ls stc hI hL
  obtain ⟨x, y, rest, rfl, g⟩ := xl_lsh0 IH hme hok hn h C hI hL
  exact lv_lshr C.1 C.2.1 hd rfl g
theorem xl_lushr (IH : xIH ρ base F Ts Ns cl tys D dA la okc Ms ih) (hme : me ∈ Ms) (hok : okc me cs = true) (hn : xatp (pc + 1) cs) (hd : decode me.2.1 pc = .ok (.lushr, 1)) (ha : a = 2) (h : xo_lsh ih me cs a b l A k = true) : xGd ρ base F Ts Ns cl tys D dA la me pc A k := by
  subst ha
  intro p e s m args below meth c C H locs ls stc hI hL
  obtain ⟨x, y, rest, rfl, g⟩ := xl_lsh0 IH hme hok hn h C hI hL
  exact lv_lushr C.1 C.2.1 hd rfl g
theorem xwide_of {u : Nat} (h : xwide u = true) : lN u = (nI (u % 4294967296)).toInt64 := by
  have h := Nat.eq_of_beq_eq_true h
  apply xl_inj
  rw [xl_tn]
  exact h.symm
theorem xw_lt {x y : Int32} : x.toInt64 < y.toInt64 ↔ xb x < xb y := by
  rw [Int64.lt_iff_toInt_lt, Int32.toInt_toInt64, Int32.toInt_toInt64, xb_int, xb_int]; omega
theorem xw_eq {x y : Int32} : x.toInt64 = y.toInt64 ↔ xb x = xb y := by
  rw [← Int64.toInt_inj, Int32.toInt_toInt64, Int32.toInt_toInt64, xb_int, xb_int]; omega
theorem xl_lcmp (IH : xIH ρ base F Ts Ns cl tys D dA la okc Ms ih) (hme : me ∈ Ms) (hok : okc me cs = true) (hn : xatp (pc + 1) cs) (hd : decode me.2.1 pc = .ok (.lcmp, 1)) (h : xo_lcmp ih me cs a b l A k = true) : xGd ρ base F Ts Ns cl tys D dA la me pc A k := by
  match A, h with
  | (lv, y :: x :: st, env, r), h =>
    unfold xo_lcmp at h
    intro p e s m args below meth c C H locs ls stc hI hL
    obtain ⟨vy, stc, rfl, hy, hst0⟩ := xSR_cons hI.2.2.1
    obtain ⟨vx, stc, rfl, hx, hst⟩ := xSR_cons hst0
    have any : ih me cs (lv, xTop :: st, env, r) k = true → ∀ z : Int32, W p la e (xR me) s m args below meth c H locs r.2.2.1 r.2.2.2 (MQ below (xQ ρ base F D dA tys cl k) args s (xR me).cells (xR me).slots F) (F0 m (pc + 1) ls (.int z :: stc)) := fun h z => IH me cs _ k (pc + 1) hme h hok hn p e s m args below meth c C H locs ls _ ⟨hI.1, hI.2.1, ⟨⟨_, rfl⟩, hst⟩, hI.2.2.2⟩ hL
    match x, y, hx, hy, h with
    | .inr (.inr (.inr (.inl u))), .inr (.inr (.inr (.inl v))), hx, hy, h =>
      cases hx; cases hy
      exact W.lcmp C.1 C.2.1 hd (IH me cs _ k (pc + 1) hme (xfN_of h) hok hn p e s m args below meth c C H locs ls _ ⟨hI.1, hI.2.1, ⟨by show _ = Value.int (nI (xcode (lg_cmp (lN u) (lN v)))); rw [xn_code], hst⟩, hI.2.2.2⟩ hL)
    | .inr (.inr (.inr (.inr (some i)))), .inr (.inr (.inr (.inl v))), hx, hy, h =>
      cases hx; cases hy
      refine W.lcmp C.1 C.2.1 hd ?_
      have h : cond (xwide v) _ _ = true := h
      cases hw : xwide v with
      | false => rw [hw] at h; exact any h _
      | true =>
        rw [hw, cond_true] at h
        have h := xfN_of h
        rw [xbc_eq] at h
        have hv : lN v = (nI (Nat.mod v 4294967296)).toInt64 := xwide_of hw
        rw [hv]
        generalize nI (Nat.mod v 4294967296) = y at h
        have hlt : (ρ i).toInt64 < y.toInt64 ↔ xb (ρ i) < xb y := xw_lt
        have hgt : y.toInt64 < (ρ i).toInt64 ↔ xb y < xb (ρ i) := xw_lt
        have heq : (ρ i).toInt64 = y.toInt64 ↔ xb (ρ i) = xb y := xw_eq
        rcases xcut_of h hI.1 with ⟨c1, e1, he1, h⟩ | ⟨c1, e1, he1, h⟩
        · have e0 : lg_cmp (ρ i).toInt64 y.toInt64 = nI 4294967295 := by
            unfold lg_cmp
            rw [if_neg (fun q => by have := hgt.mp q; omega), if_neg (fun q => by have := heq.mp q; omega)]
            rfl
          rw [e0]
          exact IH me cs _ k (pc + 1) hme h hok hn p e s m args below meth c C H locs ls _ ⟨he1, hI.2.1, ⟨rfl, hst⟩, hI.2.2.2⟩ hL
        · rcases xcut_of h he1 with ⟨c2, e2, he2, h⟩ | ⟨c2, e2, he2, h⟩
          · have e0 : lg_cmp (ρ i).toInt64 y.toInt64 = nI 0 := by
              unfold lg_cmp
              rw [if_neg (fun q => by have := hgt.mp q; omega), if_pos (heq.mpr (by omega))]
              rfl
            rw [e0]
            exact IH me cs _ k (pc + 1) hme h hok hn p e s m args below meth c C H locs ls _ ⟨he2, hI.2.1, ⟨rfl, hst⟩, hI.2.2.2⟩ hL
          · have e0 : lg_cmp (ρ i).toInt64 y.toInt64 = nI 1 := by
              unfold lg_cmp
              rw [if_pos (hgt.mpr (by omega))]
              rfl
            rw [e0]
            exact IH me cs _ k (pc + 1) hme h hok hn p e s m args below meth c C H locs ls _ ⟨he2, hI.2.1, ⟨rfl, hst⟩, hI.2.2.2⟩ hL
    | .inr (.inr (.inr (.inr none))), .inr (.inr (.inr _)), hx, hy, h =>
      obtain ⟨x', rfl⟩ := xg_long hx rfl
      obtain ⟨y', rfl⟩ := xg_long hy rfl
      exact W.lcmp C.1 C.2.1 hd (any h _)
    | .inr (.inr (.inr (.inr (some _)))), .inr (.inr (.inr (.inr _))), hx, hy, h =>
      obtain ⟨x', rfl⟩ := xg_long hx rfl
      obtain ⟨y', rfl⟩ := xg_long hy rfl
      exact W.lcmp C.1 C.2.1 hd (any h _)
    | .inr (.inr (.inr (.inl _))), .inr (.inr (.inr (.inr _))), hx, hy, h =>
      obtain ⟨x', rfl⟩ := xg_long hx rfl
      obtain ⟨y', rfl⟩ := xg_long hy rfl
      exact W.lcmp C.1 C.2.1 hd (any h _)
    | .inl _, _, _, _, h => exact absurd h (by simp [xo_lcmp])
    | .inr (.inl _), _, _, _, h => exact absurd h (by simp [xo_lcmp])
    | .inr (.inr (.inl _)), _, _, _, h => exact absurd h (by simp [xo_lcmp])
    | .inr (.inr (.inr (.inl _))), .inl _, _, _, h => exact absurd h (by simp [xo_lcmp])
    | .inr (.inr (.inr (.inl _))), .inr (.inl _), _, _, h => exact absurd h (by simp [xo_lcmp])
    | .inr (.inr (.inr (.inl _))), .inr (.inr (.inl _)), _, _, h => exact absurd h (by simp [xo_lcmp])
    | .inr (.inr (.inr (.inr o))), .inl _, _, _, h => exact absurd h (by cases o <;> simp [xo_lcmp])
    | .inr (.inr (.inr (.inr o))), .inr (.inl _), _, _, h => exact absurd h (by cases o <;> simp [xo_lcmp])
    | .inr (.inr (.inr (.inr o))), .inr (.inr (.inl _)), _, _, h => exact absurd h (by cases o <;> simp [xo_lcmp])
  | (lv, [], r), h => exact absurd h (by simp [xo_lcmp])
  | (lv, [_], r), h => exact absurd h (by simp [xo_lcmp])
theorem xcat1 {x : xV} {v : Value} (h : xg ρ base x v) (hk : xis x < 2) : v.category = 1 := by rw [xg_cat h, if_neg (by omega)]
theorem xl_dup (IH : xIH ρ base F Ts Ns cl tys D dA la okc Ms ih) (hme : me ∈ Ms) (hok : okc me cs = true) (hn : xatp (pc + 1) cs) (hd : decode me.2.1 pc = .ok (.dup, 1)) (h : xo_dup ih me cs a b l A k = true) : xGd ρ base F Ts Ns cl tys D dA la me pc A k := by
  match A, h with
  | (lv, v :: st, r), h =>
    unfold xo_dup at h
    obtain ⟨hk, h⟩ := xcond h
    have k1 := xblt.mp hk
    intro p e s m args below meth c C H locs ls stc hI hL
    obtain ⟨cv, stc, rfl, hv, hst⟩ := xSR_cons hI.2.2.1
    exact lv_dup C.1 C.2.1 hd (xcat1 hv k1) (IH me cs _ k (pc + 1) hme h hok hn p e s m args below meth c C H locs ls _ ⟨hI.1, hI.2.1, ⟨hv, ⟨hv, hst⟩⟩, hI.2.2.2⟩ hL)
  | (lv, [], r), h => exact absurd h (by simp [xo_dup])
theorem xl_pop (IH : xIH ρ base F Ts Ns cl tys D dA la okc Ms ih) (hme : me ∈ Ms) (hok : okc me cs = true) (hn : xatp (pc + 1) cs) (hd : decode me.2.1 pc = .ok (.pop, 1)) (h : xo_pop ih me cs a b l A k = true) : xGd ρ base F Ts Ns cl tys D dA la me pc A k := by
  match A, h with
  | (lv, v :: st, r), h =>
    unfold xo_pop at h
    obtain ⟨hk, h⟩ := xcond h
    have k1 := xblt.mp hk
    intro p e s m args below meth c C H locs ls stc hI hL
    obtain ⟨cv, stc, rfl, hv, hst⟩ := xSR_cons hI.2.2.1
    exact lv_pop C.1 C.2.1 hd (xcat1 hv k1) (IH me cs _ k (pc + 1) hme h hok hn p e s m args below meth c C H locs ls _ ⟨hI.1, hI.2.1, hst, hI.2.2.2⟩ hL)
  | (lv, [], r), h => exact absurd h (by simp [xo_pop])
theorem xl_dupx1 (IH : xIH ρ base F Ts Ns cl tys D dA la okc Ms ih) (hme : me ∈ Ms) (hok : okc me cs = true) (hn : xatp (pc + 1) cs) (hd : decode me.2.1 pc = .ok (.dup_x1, 1)) (h : xo_dupx1 ih me cs a b l A k = true) : xGd ρ base F Ts Ns cl tys D dA la me pc A k := by
  match A, h with
  | (lv, v :: w :: st, r), h =>
    unfold xo_dupx1 at h
    obtain ⟨hk, h⟩ := xcond h
    have k1 := xblt.mp (xand hk).1
    have k2 := xblt.mp (xand hk).2
    intro p e s m args below meth c C H locs ls stc hI hL
    obtain ⟨cv, stc, rfl, hv, hst0⟩ := xSR_cons hI.2.2.1
    obtain ⟨cw, stc, rfl, hw, hst⟩ := xSR_cons hst0
    exact lv_dup_x1 C.1 C.2.1 hd (xcat1 hv k1) (xcat1 hw k2) (IH me cs _ k (pc + 1) hme h hok hn p e s m args below meth c C H locs ls _ ⟨hI.1, hI.2.1, ⟨hv, ⟨hw, ⟨hv, hst⟩⟩⟩, hI.2.2.2⟩ hL)
  | (lv, [], r), h => exact absurd h (by simp [xo_dupx1])
  | (lv, [_], r), h => exact absurd h (by simp [xo_dupx1])
theorem xl_dupx2 (IH : xIH ρ base F Ts Ns cl tys D dA la okc Ms ih) (hme : me ∈ Ms) (hok : okc me cs = true) (hn : xatp (pc + 1) cs) (hd : decode me.2.1 pc = .ok (.dup_x2, 1)) (h : xo_dupx2 ih me cs a b l A k = true) : xGd ρ base F Ts Ns cl tys D dA la me pc A k := by
  match A, h with
  | (lv, v :: w :: z :: st, r), h =>
    unfold xo_dupx2 at h
    obtain ⟨hk, h⟩ := xcond h
    have k1 := xblt.mp (xand hk).1
    have k2 := xblt.mp (xand (xand hk).2).1
    have k3 := xblt.mp (xand (xand hk).2).2
    intro p e s m args below meth c C H locs ls stc hI hL
    obtain ⟨cv, stc, rfl, hv, hst0⟩ := xSR_cons hI.2.2.1
    obtain ⟨cw, stc, rfl, hw, hst1⟩ := xSR_cons hst0
    obtain ⟨cz, stc, rfl, hz, hst⟩ := xSR_cons hst1
    exact lv_dup_x2 C.1 C.2.1 hd (xcat1 hv k1) (xcat1 hw k2) (xcat1 hz k3) (IH me cs _ k (pc + 1) hme h hok hn p e s m args below meth c C H locs ls _ ⟨hI.1, hI.2.1, ⟨hv, ⟨hw, ⟨hz, ⟨hv, hst⟩⟩⟩⟩, hI.2.2.2⟩ hL)
  | (lv, [], r), h => exact absurd h (by simp [xo_dupx2])
  | (lv, [_], r), h => exact absurd h (by simp [xo_dupx2])
  | (lv, [_, _], r), h => exact absurd h (by simp [xo_dupx2])
theorem xl_dup2 (IH : xIH ρ base F Ts Ns cl tys D dA la okc Ms ih) (hme : me ∈ Ms) (hok : okc me cs = true) (hn : xatp (pc + 1) cs) (hd : decode me.2.1 pc = .ok (.dup2, 1)) (h : xo_dup2 ih me cs a b l A k = true) : xGd ρ base F Ts Ns cl tys D dA la me pc A k := by
  match A, h with
  | (lv, v :: w :: st, r), h =>
    unfold xo_dup2 at h
    obtain ⟨hk, h⟩ := xcond h
    have k1 := xblt.mp (xand hk).1
    have k2 := xblt.mp (xand hk).2
    intro p e s m args below meth c C H locs ls stc hI hL
    obtain ⟨cv, stc, rfl, hv, hst0⟩ := xSR_cons hI.2.2.1
    obtain ⟨cw, stc, rfl, hw, hst⟩ := xSR_cons hst0
    exact lv_dup2_11 C.1 C.2.1 hd (xcat1 hv k1) (xcat1 hw k2) (IH me cs _ k (pc + 1) hme h hok hn p e s m args below meth c C H locs ls _ ⟨hI.1, hI.2.1, ⟨hv, ⟨hw, ⟨hv, ⟨hw, hst⟩⟩⟩⟩, hI.2.2.2⟩ hL)
  | (lv, [], r), h => exact absurd h (by simp [xo_dup2])
  | (lv, [_], r), h => exact absurd h (by simp [xo_dup2])
/-- a jump: where it goes, the code is explored -/
theorem xl_jmp (hj : ∀ i r, (i :: r) <:+ xcd me → okc me (i :: r) = true) (IH : xIH ρ base F Ts Ns cl tys D dA la okc Ms ih) (hme : me ∈ Ms) {t : Nat} {A' : xA} (h : xjmp (xcd me) t (fun cs => ih me cs A' k) = true) : xGd ρ base F Ts Ns cl tys D dA la me t A' k := by
  obtain ⟨i, r, h1, h2, h3⟩ := xjmp_of h
  exact IH me (i :: r) A' k t hme h3 (hj i r h2) (fun i' r' e => by cases e; exact h1)
theorem xl_icmp0 (hj : ∀ i r, (i :: r) <:+ xcd me → okc me (i :: r) = true) (IH : xIH ρ base F Ts Ns cl tys D dA la okc Ms ih) (hme : me ∈ Ms) (hok : okc me cs = true) (hn : xatp (pc + 3) cs) (h : xo_icmp ih me cs a b l A k = true)
    {p : Program} {e : Env} {s : State} {m : MethodId} {args : Array Value} {below : List Frame} {meth : Method} {c : Code} (C : xCx Ts Ns cl tys D dA p s m args meth c me) {H : Heap} {locs : List Loc} {ls : Array Slot} {stc : List Value} (hI : xIn ρ base F D dA tys cl me A H ls stc) (hL : va_S F s.heap H locs) :
    ∃ (x y : Int32) (rest : List Value), stc = .int y :: .int x :: rest ∧ (xP a x y → W p la e (xR me) s m args below meth c H locs A.2.2.2.2.2.1 A.2.2.2.2.2.2 (MQ below (xQ ρ base F D dA tys cl k) args s (xR me).cells (xR me).slots F) (F0 m b ls rest)) ∧ (¬ xP a x y → W p la e (xR me) s m args below meth c H locs A.2.2.2.2.2.1 A.2.2.2.2.2.2 (MQ below (xQ ρ base F D dA tys cl k) args s (xR me).cells (xR me).slots F) (F0 m (pc + 3) ls rest)) := by
  match A, h, hI with
  | (lv, y :: x :: st, env, r), h, hI =>
    unfold xo_icmp at h
    obtain ⟨vy, stc, rfl, hy, hst0⟩ := xSR_cons hI.2.2.1
    obtain ⟨vx, stc, rfl, hx, hst⟩ := xSR_cons hst0
    obtain ⟨x', y', rfl, rfl, env', t, he, h, ht⟩ := xcmp_of hI.1 hx hy h
    refine ⟨x', y', stc, rfl, fun hp => ?_, fun hp => ?_⟩
    · rw [ht.mpr hp] at h
      exact xl_jmp hj IH hme h p e s m args below meth c C H locs ls _ ⟨he, hI.2.1, hst, hI.2.2.2⟩ hL
    · have ht : t = false := by
        cases t with
        | false => rfl
        | true => exact absurd (ht.mp rfl) hp
      rw [ht] at h
      exact IH me cs _ k (pc + 3) hme h hok hn p e s m args below meth c C H locs ls _ ⟨he, hI.2.1, hst, hI.2.2.2⟩ hL
  | (lv, [], env, r), h, hI => exact absurd h (by simp [xo_icmp])
  | (lv, [_], env, r), h, hI => exact absurd h (by simp [xo_icmp])
theorem xl_if0 (hj : ∀ i r, (i :: r) <:+ xcd me → okc me (i :: r) = true) (IH : xIH ρ base F Ts Ns cl tys D dA la okc Ms ih) (hme : me ∈ Ms) (hok : okc me cs = true) (hn : xatp (pc + 3) cs) (h : xo_if ih me cs a b l A k = true)
    {p : Program} {e : Env} {s : State} {m : MethodId} {args : Array Value} {below : List Frame} {meth : Method} {c : Code} (C : xCx Ts Ns cl tys D dA p s m args meth c me) {H : Heap} {locs : List Loc} {ls : Array Slot} {stc : List Value} (hI : xIn ρ base F D dA tys cl me A H ls stc) (hL : va_S F s.heap H locs) :
    ∃ (x : Int32) (rest : List Value), stc = .int x :: rest ∧ (xP a x 0 → W p la e (xR me) s m args below meth c H locs A.2.2.2.2.2.1 A.2.2.2.2.2.2 (MQ below (xQ ρ base F D dA tys cl k) args s (xR me).cells (xR me).slots F) (F0 m b ls rest)) ∧ (¬ xP a x 0 → W p la e (xR me) s m args below meth c H locs A.2.2.2.2.2.1 A.2.2.2.2.2.2 (MQ below (xQ ρ base F D dA tys cl k) args s (xR me).cells (xR me).slots F) (F0 m (pc + 3) ls rest)) := by
  match A, h, hI with
  | (lv, x :: st, env, r), h, hI =>
    unfold xo_if at h
    obtain ⟨vx, stc, rfl, hx, hst⟩ := xSR_cons hI.2.2.1
    obtain ⟨x', y', rfl, hy', env', t, he, h, ht⟩ := xcmp_of (b := .inl 0) (vb := .int (nI 0)) hI.1 hx rfl h
    have hy0 : y' = 0 := by cases hy'; rfl
    subst hy0
    refine ⟨x', stc, rfl, fun hp => ?_, fun hp => ?_⟩
    · rw [ht.mpr hp] at h
      exact xl_jmp hj IH hme h p e s m args below meth c C H locs ls _ ⟨he, hI.2.1, hst, hI.2.2.2⟩ hL
    · have ht : t = false := by
        cases t with
        | false => rfl
        | true => exact absurd (ht.mp rfl) hp
      rw [ht] at h
      exact IH me cs _ k (pc + 3) hme h hok hn p e s m args below meth c C H locs ls _ ⟨he, hI.2.1, hst, hI.2.2.2⟩ hL
  | (lv, [], env, r), h, hI => exact absurd h (by simp [xo_if])
theorem xl_icmp_eq {o : Int} (hj : ∀ i r, (i :: r) <:+ xcd me → okc me (i :: r) = true) (IH : xIH ρ base F Ts Ns cl tys D dA la okc Ms ih) (hme : me ∈ Ms) (hok : okc me cs = true) (hn : xatp (pc + 3) cs) (hd : decode me.2.1 pc = .ok (.if_icmp .eq o, 3)) (ht : (pc : Int) + o = (b : Int)) (ha : a = 0) (h : xo_icmp ih me cs a b l A k = true) : xGd ρ base F Ts Ns cl tys D dA la me pc A k := by
  subst ha
  intro p e s m args below meth c C H locs ls stc hI hL
  obtain ⟨x, y, rest, rfl, g1, g2⟩ := xl_icmp0 hj IH hme hok hn h C hI hL
  exact lv_icmp_eq C.1 C.2.1 hd ht g1 (g2)
theorem xl_if_eq {o : Int} (hj : ∀ i r, (i :: r) <:+ xcd me → okc me (i :: r) = true) (IH : xIH ρ base F Ts Ns cl tys D dA la okc Ms ih) (hme : me ∈ Ms) (hok : okc me cs = true) (hn : xatp (pc + 3) cs) (hd : decode me.2.1 pc = .ok (.ifCond .eq o, 3)) (ht : (pc : Int) + o = (b : Int)) (ha : a = 0) (h : xo_if ih me cs a b l A k = true) : xGd ρ base F Ts Ns cl tys D dA la me pc A k := by
  subst ha
  intro p e s m args below meth c C H locs ls stc hI hL
  obtain ⟨x, rest, rfl, g1, g2⟩ := xl_if0 hj IH hme hok hn h C hI hL
  exact lv_if_eq C.1 C.2.1 hd ht g1 (g2)
theorem xl_icmp_ne {o : Int} (hj : ∀ i r, (i :: r) <:+ xcd me → okc me (i :: r) = true) (IH : xIH ρ base F Ts Ns cl tys D dA la okc Ms ih) (hme : me ∈ Ms) (hok : okc me cs = true) (hn : xatp (pc + 3) cs) (hd : decode me.2.1 pc = .ok (.if_icmp .ne o, 3)) (ht : (pc : Int) + o = (b : Int)) (ha : a = 1) (h : xo_icmp ih me cs a b l A k = true) : xGd ρ base F Ts Ns cl tys D dA la me pc A k := by
  subst ha
  intro p e s m args below meth c C H locs ls stc hI hL
  obtain ⟨x, y, rest, rfl, g1, g2⟩ := xl_icmp0 hj IH hme hok hn h C hI hL
  exact lv_icmp_ne C.1 C.2.1 hd ht g1 (fun q => g2 (fun r => r q))
theorem xl_if_ne {o : Int} (hj : ∀ i r, (i :: r) <:+ xcd me → okc me (i :: r) = true) (IH : xIH ρ base F Ts Ns cl tys D dA la okc Ms ih) (hme : me ∈ Ms) (hok : okc me cs = true) (hn : xatp (pc + 3) cs) (hd : decode me.2.1 pc = .ok (.ifCond .ne o, 3)) (ht : (pc : Int) + o = (b : Int)) (ha : a = 1) (h : xo_if ih me cs a b l A k = true) : xGd ρ base F Ts Ns cl tys D dA la me pc A k := by
  subst ha
  intro p e s m args below meth c C H locs ls stc hI hL
  obtain ⟨x, rest, rfl, g1, g2⟩ := xl_if0 hj IH hme hok hn h C hI hL
  exact lv_if_ne C.1 C.2.1 hd ht g1 (fun q => g2 (fun r => r q))
theorem xl_icmp_lt {o : Int} (hj : ∀ i r, (i :: r) <:+ xcd me → okc me (i :: r) = true) (IH : xIH ρ base F Ts Ns cl tys D dA la okc Ms ih) (hme : me ∈ Ms) (hok : okc me cs = true) (hn : xatp (pc + 3) cs) (hd : decode me.2.1 pc = .ok (.if_icmp .lt o, 3)) (ht : (pc : Int) + o = (b : Int)) (ha : a = 2) (h : xo_icmp ih me cs a b l A k = true) : xGd ρ base F Ts Ns cl tys D dA la me pc A k := by
  subst ha
  intro p e s m args below meth c C H locs ls stc hI hL
  obtain ⟨x, y, rest, rfl, g1, g2⟩ := xl_icmp0 hj IH hme hok hn h C hI hL
  exact lv_icmp_lt C.1 C.2.1 hd ht g1 (g2)
theorem xl_if_lt {o : Int} (hj : ∀ i r, (i :: r) <:+ xcd me → okc me (i :: r) = true) (IH : xIH ρ base F Ts Ns cl tys D dA la okc Ms ih) (hme : me ∈ Ms) (hok : okc me cs = true) (hn : xatp (pc + 3) cs) (hd : decode me.2.1 pc = .ok (.ifCond .lt o, 3)) (ht : (pc : Int) + o = (b : Int)) (ha : a = 2) (h : xo_if ih me cs a b l A k = true) : xGd ρ base F Ts Ns cl tys D dA la me pc A k := by
  subst ha
  intro p e s m args below meth c C H locs ls stc hI hL
  obtain ⟨x, rest, rfl, g1, g2⟩ := xl_if0 hj IH hme hok hn h C hI hL
  exact lv_if_lt C.1 C.2.1 hd ht g1 (g2)
theorem xl_icmp_ge {o : Int} (hj : ∀ i r, (i :: r) <:+ xcd me → okc me (i :: r) = true) (IH : xIH ρ base F Ts Ns cl tys D dA la okc Ms ih) (hme : me ∈ Ms) (hok : okc me cs = true) (hn : xatp (pc + 3) cs) (hd : decode me.2.1 pc = .ok (.if_icmp .ge o, 3)) (ht : (pc : Int) + o = (b : Int)) (ha : a = 3) (h : xo_icmp ih me cs a b l A k = true) : xGd ρ base F Ts Ns cl tys D dA la me pc A k := by
  subst ha
  intro p e s m args below meth c C H locs ls stc hI hL
  obtain ⟨x, y, rest, rfl, g1, g2⟩ := xl_icmp0 hj IH hme hok hn h C hI hL
  exact lv_icmp_ge C.1 C.2.1 hd ht g1 (g2)
theorem xl_if_ge {o : Int} (hj : ∀ i r, (i :: r) <:+ xcd me → okc me (i :: r) = true) (IH : xIH ρ base F Ts Ns cl tys D dA la okc Ms ih) (hme : me ∈ Ms) (hok : okc me cs = true) (hn : xatp (pc + 3) cs) (hd : decode me.2.1 pc = .ok (.ifCond .ge o, 3)) (ht : (pc : Int) + o = (b : Int)) (ha : a = 3) (h : xo_if ih me cs a b l A k = true) : xGd ρ base F Ts Ns cl tys D dA la me pc A k := by
  subst ha
  intro p e s m args below meth c C H locs ls stc hI hL
  obtain ⟨x, rest, rfl, g1, g2⟩ := xl_if0 hj IH hme hok hn h C hI hL
  exact lv_if_ge C.1 C.2.1 hd ht g1 (g2)
theorem xl_icmp_gt {o : Int} (hj : ∀ i r, (i :: r) <:+ xcd me → okc me (i :: r) = true) (IH : xIH ρ base F Ts Ns cl tys D dA la okc Ms ih) (hme : me ∈ Ms) (hok : okc me cs = true) (hn : xatp (pc + 3) cs) (hd : decode me.2.1 pc = .ok (.if_icmp .gt o, 3)) (ht : (pc : Int) + o = (b : Int)) (ha : a = 4) (h : xo_icmp ih me cs a b l A k = true) : xGd ρ base F Ts Ns cl tys D dA la me pc A k := by
  subst ha
  intro p e s m args below meth c C H locs ls stc hI hL
  obtain ⟨x, y, rest, rfl, g1, g2⟩ := xl_icmp0 hj IH hme hok hn h C hI hL
  exact lv_icmp_gt C.1 C.2.1 hd ht g1 (g2)
theorem xl_if_gt {o : Int} (hj : ∀ i r, (i :: r) <:+ xcd me → okc me (i :: r) = true) (IH : xIH ρ base F Ts Ns cl tys D dA la okc Ms ih) (hme : me ∈ Ms) (hok : okc me cs = true) (hn : xatp (pc + 3) cs) (hd : decode me.2.1 pc = .ok (.ifCond .gt o, 3)) (ht : (pc : Int) + o = (b : Int)) (ha : a = 4) (h : xo_if ih me cs a b l A k = true) : xGd ρ base F Ts Ns cl tys D dA la me pc A k := by
  subst ha
  intro p e s m args below meth c C H locs ls stc hI hL
  obtain ⟨x, rest, rfl, g1, g2⟩ := xl_if0 hj IH hme hok hn h C hI hL
  exact lv_if_gt C.1 C.2.1 hd ht g1 (g2)
theorem xl_icmp_le {o : Int} (hj : ∀ i r, (i :: r) <:+ xcd me → okc me (i :: r) = true) (IH : xIH ρ base F Ts Ns cl tys D dA la okc Ms ih) (hme : me ∈ Ms) (hok : okc me cs = true) (hn : xatp (pc + 3) cs) (hd : decode me.2.1 pc = .ok (.if_icmp .le o, 3)) (ht : (pc : Int) + o = (b : Int)) (ha : a = 5) (h : xo_icmp ih me cs a b l A k = true) : xGd ρ base F Ts Ns cl tys D dA la me pc A k := by
  subst ha
  intro p e s m args below meth c C H locs ls stc hI hL
  obtain ⟨x, y, rest, rfl, g1, g2⟩ := xl_icmp0 hj IH hme hok hn h C hI hL
  exact lv_icmp_le C.1 C.2.1 hd ht g1 (g2)
theorem xl_if_le {o : Int} (hj : ∀ i r, (i :: r) <:+ xcd me → okc me (i :: r) = true) (IH : xIH ρ base F Ts Ns cl tys D dA la okc Ms ih) (hme : me ∈ Ms) (hok : okc me cs = true) (hn : xatp (pc + 3) cs) (hd : decode me.2.1 pc = .ok (.ifCond .le o, 3)) (ht : (pc : Int) + o = (b : Int)) (ha : a = 5) (h : xo_if ih me cs a b l A k = true) : xGd ρ base F Ts Ns cl tys D dA la me pc A k := by
  subst ha
  intro p e s m args below meth c C H locs ls stc hI hL
  obtain ⟨x, rest, rfl, g1, g2⟩ := xl_if0 hj IH hme hok hn h C hI hL
  exact lv_if_le C.1 C.2.1 hd ht g1 (g2)
theorem xl_goto {o : Int} (hj : ∀ i r, (i :: r) <:+ xcd me → okc me (i :: r) = true) (IH : xIH ρ base F Ts Ns cl tys D dA la okc Ms ih) (hme : me ∈ Ms) (hd : decode me.2.1 pc = .ok (.goto o, 3)) (ht : (pc : Int) + o = (b : Int)) (h : xo_goto ih me cs a b l A k = true) : xGd ρ base F Ts Ns cl tys D dA la me pc A k := by
  intro p e s m args below meth c C H locs ls stc hI hL
  exact lv_goto C.1 C.2.1 hd ht (xl_jmp hj IH hme h p e s m args below meth c C H locs ls stc hI hL)
theorem xl_ifnull {o : Int} (hj : ∀ i r, (i :: r) <:+ xcd me → okc me (i :: r) = true) (IH : xIH ρ base F Ts Ns cl tys D dA la okc Ms ih) (hme : me ∈ Ms) (hok : okc me cs = true) (hn : xatp (pc + 3) cs) (hd : decode me.2.1 pc = .ok (.ifnull o, 3)) (ht : (pc : Int) + o = (b : Int)) (ha : a = 0) (h : xo_ifnull ih me cs a b l A k = true) : xGd ρ base F Ts Ns cl tys D dA la me pc A k := by
  subst ha
  match A, h with
  | (lv, .inr (.inr (.inl none)) :: st, r), h =>
    unfold xo_ifnull at h
    intro p e s m args below meth c C H locs ls stc hI hL
    obtain ⟨v, stc, rfl, hv, hst⟩ := xSR_cons hI.2.2.1
    cases hv
    exact lv_ifnullN C.1 C.2.1 hd ht (xl_jmp hj IH hme h p e s m args below meth c C H locs ls _ ⟨hI.1, hI.2.1, hst, hI.2.2.2⟩ hL)
  | (lv, .inr (.inr (.inl (some _))) :: st, r), h =>
    unfold xo_ifnull at h
    intro p e s m args below meth c C H locs ls stc hI hL
    obtain ⟨v, stc, rfl, hv, hst⟩ := xSR_cons hI.2.2.1
    cases hv
    exact lv_ifnull C.1 C.2.1 hd (IH me cs _ k (pc + 3) hme h hok hn p e s m args below meth c C H locs ls _ ⟨hI.1, hI.2.1, hst, hI.2.2.2⟩ hL)
  | (lv, [], r), h => exact absurd h (by simp [xo_ifnull])
  | (lv, .inl _ :: _, r), h => exact absurd h (by simp [xo_ifnull])
  | (lv, .inr (.inl _) :: _, r), h => exact absurd h (by simp [xo_ifnull])
  | (lv, .inr (.inr (.inr _)) :: _, r), h => exact absurd h (by simp [xo_ifnull])
theorem xl_ifnonnull {o : Int} (hj : ∀ i r, (i :: r) <:+ xcd me → okc me (i :: r) = true) (IH : xIH ρ base F Ts Ns cl tys D dA la okc Ms ih) (hme : me ∈ Ms) (hok : okc me cs = true) (hn : xatp (pc + 3) cs) (hd : decode me.2.1 pc = .ok (.ifnonnull o, 3)) (ht : (pc : Int) + o = (b : Int)) (ha : a = 1) (h : xo_ifnull ih me cs a b l A k = true) : xGd ρ base F Ts Ns cl tys D dA la me pc A k := by
  subst ha
  match A, h with
  | (lv, .inr (.inr (.inl none)) :: st, r), h =>
    unfold xo_ifnull at h
    intro p e s m args below meth c C H locs ls stc hI hL
    obtain ⟨v, stc, rfl, hv, hst⟩ := xSR_cons hI.2.2.1
    cases hv
    exact lv_ifnonnullN C.1 C.2.1 hd (IH me cs _ k (pc + 3) hme h hok hn p e s m args below meth c C H locs ls _ ⟨hI.1, hI.2.1, hst, hI.2.2.2⟩ hL)
  | (lv, .inr (.inr (.inl (some _))) :: st, r), h =>
    unfold xo_ifnull at h
    intro p e s m args below meth c C H locs ls stc hI hL
    obtain ⟨v, stc, rfl, hv, hst⟩ := xSR_cons hI.2.2.1
    cases hv
    exact lv_ifnonnull C.1 C.2.1 hd ht (xl_jmp hj IH hme h p e s m args below meth c C H locs ls _ ⟨hI.1, hI.2.1, hst, hI.2.2.2⟩ hL)
  | (lv, [], r), h => exact absurd h (by simp [xo_ifnull])
  | (lv, .inl _ :: _, r), h => exact absurd h (by simp [xo_ifnull])
  | (lv, .inr (.inl _) :: _, r), h => exact absurd h (by simp [xo_ifnull])
  | (lv, .inr (.inr (.inr _)) :: _, r), h => exact absurd h (by simp [xo_ifnull])
end XR
end
section
/-! rows of the instructions: fields, new, arrays, answers -/
section XF
variable {ρ : Nat → Int32} {base : Nat} {F : Nat → Prop} {Ts Ns : List Jvm.Cond} {cl : List vw_C} {tys : List FieldType} {D : va_G} {dA : Nat → ClassId} {la : Launch} {okc : xM → List xI → Bool} {Ms : List xM} {ih : xIh} {me : xM} {cs : List xI} {a b : Nat} {l : List Nat} {A : xA} {k : xK} {pc : Nat}
theorem xP1 {q : Nat × va_E} {H : Heap} (h : va_at D cl q H) : va_P D cl [q] H := by
  intro i x hx
  have hz : i < 1 := (List.getElem?_eq_some_iff.mp hx).1
  rw [show i = 0 by omega] at hx
  cases hx
  exact h
theorem xobj {o : Nat} {c : xC} {H : Heap} (h : xCR ρ base D dA tys cl o c H) (hc : c.1 < 100) : ∃ fs : List Value, xFR ρ base c.2.1 c.2.2 fs ∧ va_at D cl (base + o, .inr (c.1, fs)) H := by
  obtain ⟨fs, h1, h2⟩ := h
  rcases h2 with ⟨-, h3⟩ | ⟨h3, -⟩
  · exact ⟨fs, h1, h3⟩
  · exact absurd hc (by omega)
theorem xarr {o : Nat} {c : xC} {H : Heap} (h : xCR ρ base D dA tys cl o c H) (hc : 100 ≤ c.1) : ∃ fs : List Value, xFR ρ base c.2.1 c.2.2 fs ∧ H[base + o]? = some (arrV (dA (c.1 - 100)) fs.length (vp_V fs)) ∧ ∃ ty, tys[c.1 - 100]? = some ty ∧ ∀ v ∈ fs, fits ty v = true := by
  obtain ⟨fs, h1, h2⟩ := h
  rcases h2 with ⟨h3, -⟩ | ⟨-, h3⟩
  · exact absurd hc (by omega)
  · exact ⟨fs, h1, h3⟩
theorem xl_getf0 (IH : xIH ρ base F Ts Ns cl tys D dA la okc Ms ih) (hme : me ∈ Ms) (hok : okc me cs = true) (hn : xatp (pc + 3) cs) (ha : a < 100) (h : xo_getf ih me cs a b l A k = true)
    {p : Program} {e : Env} {s : State} {m : MethodId} {args : Array Value} {below : List Frame} {meth : Method} {c : Code} (C : xCx Ts Ns cl tys D dA p s m args meth c me) {H : Heap} {locs : List Loc} {ls : Array Slot} {stc : List Value} (hI : xIn ρ base F D dA tys cl me A H ls stc) (hL : va_S F s.heap H locs) :
    ∃ (o : Nat) (rest fs : List Value) (v : Value), stc = .ref o :: rest ∧ va_P D cl [(o, .inr (a, fs))] H ∧ fs[b]? = some v ∧ W p la e (xR me) s m args below meth c H locs A.2.2.2.2.2.1 A.2.2.2.2.2.2 (MQ below (xQ ρ base F D dA tys cl k) args s (xR me).cells (xR me).slots F) (F0 m (pc + 3) ls (v :: rest)) := by
  match A, h, hI with
  | (lv, .inr (.inr (.inl (some o))) :: st, env, hp, r), h, hI =>
    unfold xo_getf at h
    obtain ⟨vo, stc, rfl, ho, hst⟩ := xSR_cons hI.2.2.1
    cases ho
    obtain ⟨c0, hc, h⟩ := xhget_of h
    obtain ⟨hk, h⟩ := xcond h
    have hk := Nat.eq_of_beq_eq_true hk
    obtain ⟨x, hx, h⟩ := xhget_of h
    obtain ⟨fs, hfs, hat⟩ := xobj (hI.2.2.2.1.2 o c0 hc) (by rw [hk]; exact ha)
    obtain ⟨v, hv, hg⟩ := hfs.2 b x hx
    rw [hk] at hat
    exact ⟨base + o, stc, fs, v, rfl, xP1 hat, hv, IH me cs _ k (pc + 3) hme h hok hn p e s m args below meth c C H locs ls _ ⟨hI.1, hI.2.1, ⟨hg, hst⟩, hI.2.2.2⟩ hL⟩
  | (lv, [], r), h, hI => exact absurd h (by simp [xo_getf])
  | (lv, .inl _ :: _, r), h, hI => exact absurd h (by simp [xo_getf])
  | (lv, .inr (.inl _) :: _, r), h, hI => exact absurd h (by simp [xo_getf])
  | (lv, .inr (.inr (.inl none)) :: _, r), h, hI => exact absurd h (by simp [xo_getf])
  | (lv, .inr (.inr (.inr _)) :: _, r), h, hI => exact absurd h (by simp [xo_getf])
theorem xl_getf {idx : Nat} {C : String} {T : u_T} {N : Nat} (IH : xIH ρ base F Ts Ns cl tys D dA la okc Ms ih) (hme : me ∈ Ms) (hok : okc me cs = true) (hn : xatp (pc + 3) cs) (hd : decode me.2.1 pc = .ok (.getfield idx, 3)) (ha : a < 100) (hcl : cl[a]? = some (C, T, N)) (hb : b < N) (hu : ∀ w ∈ u_ws C T N, w ∈ Ts) (hlk : Jvm.Cond.fieldLink me.1.cls idx (T b).1 (T b).2.1 (T b).2.2.1 ∈ Ts) (h : xo_getf ih me cs a b l A k = true) : xGd ρ base F Ts Ns cl tys D dA la me pc A k := by
  intro p e s m args below meth c X H locs ls stc hI hL
  obtain ⟨o, rest, fs, v, rfl, hP, hv, g⟩ := xl_getf0 IH hme hok hn ha h X hI hL
  obtain ⟨hx, hbc, _, _, _, _, hown, hts, _, hK, _⟩ := X
  exact va_get (D := D) (ci := a) (v := v) (C := C) (T := T) (N := N) hx hbc hts (fun w hw => List.mem_cons_of_mem _ (hu w hw)) hown hK hP 0 rfl hcl b hb (hts _ (List.mem_cons_of_mem _ hlk)) (fun _ h9 => h9) hv hd g
theorem xl_getfN {idx : Nat} {C host : String} {T : u_T} {N : Nat} (IH : xIH ρ base F Ts Ns cl tys D dA la okc Ms ih) (hme : me ∈ Ms) (hok : okc me cs = true) (hn : xatp (pc + 3) cs) (hd : decode me.2.1 pc = .ok (.getfield idx, 3)) (ha : a < 100) (hcl : cl[a]? = some (C, T, N)) (hb : b < N) (hu : ∀ w ∈ u_ws C T N, w ∈ Ts) (hlk : Jvm.Cond.fieldLinkNest me.1.cls idx (T b).1 (T b).2.1 (T b).2.2.1 host ∈ Ns) (h : xo_getf ih me cs a b l A k = true) : xGd ρ base F Ts Ns cl tys D dA la me pc A k := by
  intro p e s m args below meth c X H locs ls stc hI hL
  obtain ⟨o, rest, fs, v, rfl, hP, hv, g⟩ := xl_getf0 IH hme hok hn ha h X hI hL
  obtain ⟨hx, hbc, _, _, _, _, hown, hts, hns, hK, _⟩ := X
  exact va_getN (D := D) (ci := a) (v := v) (C := C) (T := T) (N := N) hx hbc hts (fun w hw => List.mem_cons_of_mem _ (hu w hw)) hown hK hP 0 rfl hcl b hb (va_Nw.use rfl (hns _ hlk)) (fun _ h9 => h9) hv hd g
/-- kinds of types -/
def xkt : FieldType → Nat
  | .int => 0
  | .long => 2
  | .boolean => 3
  | .object _ => 1
  | .array _ => 1
  | _ => 9
theorem xfits_of {ty : FieldType} {x : xV} {v : Value} (h : xfits (xkt ty) x = true) (hg : xg ρ base x v) : narrow ty v = v ∧ fits ty v = true := by
  cases ty <;> (
    match x, h, hg with
    | .inl u, h, hg => first | (cases hg; exact ⟨rfl, rfl⟩) | (
        have hu : u < 2 := xblt.mp h
        cases hg
        rcases (show u = 0 ∨ u = 1 by omega) with rfl | rfl <;> exact ⟨rfl, rfl⟩) | (exact absurd h (by simp [xfits, xkt]))
    | .inr (.inl none), h, hg => first | (obtain ⟨z, rfl⟩ := hg; exact ⟨rfl, rfl⟩) | (exact absurd h (by simp [xfits, xkt]))
    | .inr (.inl (some _)), h, hg => first | (cases hg; exact ⟨rfl, rfl⟩) | (exact absurd h (by simp [xfits, xkt]))
    | .inr (.inr (.inl none)), h, hg => first | (cases hg; exact ⟨rfl, rfl⟩) | (exact absurd h (by simp [xfits, xkt]))
    | .inr (.inr (.inl (some _))), h, hg => first | (cases hg; exact ⟨rfl, rfl⟩) | (exact absurd h (by simp [xfits, xkt]))
    | .inr (.inr (.inr (.inl _))), h, hg => first | (cases hg; exact ⟨rfl, rfl⟩) | (exact absurd h (by simp [xfits, xkt]))
    | .inr (.inr (.inr (.inr none))), h, hg => first | (obtain ⟨z, rfl⟩ := hg; exact ⟨rfl, rfl⟩) | (exact absurd h (by simp [xfits, xkt]))
    | .inr (.inr (.inr (.inr (some _)))), h, hg => first | (cases hg; exact ⟨rfl, rfl⟩) | (exact absurd h (by simp [xfits, xkt])))
/-- what the tables say of a class -/
def xTb (Ts : List Jvm.Cond) (C : String) (T : u_T) (N : Nat) : Prop := (∀ w ∈ u_ws C T N, w ∈ Ts) ∧ (∃ ty : Nat → FieldType, ∀ k, k < N → parseFieldDescriptor (T k).2.2.1 = some (ty k)) ∧ (∀ a, a < N → ∀ b, b < N → a ≠ b → (T a).2.1 ≠ (T b).2.1)
theorem xl_putf {idx : Nat} {C : String} {T : u_T} {N : Nat} {ty : FieldType} (IH : xIH ρ base F Ts Ns cl tys D dA la okc Ms ih) (hme : me ∈ Ms) (hok : okc me cs = true) (hn : xatp (pc + 3) cs) (hd : decode me.2.1 pc = .ok (.putfield idx, 3)) (ha : a < 100) (hcl : cl[a]? = some (C, T, N)) (hb : b < N) (hT : xTb Ts C T N)
    (hlk : (Jvm.Cond.fieldLink me.1.cls idx (T b).1 (T b).2.1 (T b).2.2.1 ∈ Ts ∧ ((T b).2.2.2 = false ∨ ((T b).2.2.2 = true ∧ me.1.name = "<init>" ∧ (T b).1 = me.1.cls))) ∨ ((T b).2.2.2 = false ∧ ∃ host, Jvm.Cond.fieldLinkNest me.1.cls idx (T b).1 (T b).2.1 (T b).2.2.1 host ∈ Ns)) (hty : parseFieldDescriptor (T b).2.2.1 = some ty) (hl : l.getD 0 9 = xkt ty) (h : xo_putf ih me cs a b l A k = true) : xGd ρ base F Ts Ns cl tys D dA la me pc A k := by
  intro p e s m args below meth c X H locs ls stc hI hL
  match A, h, hI with
  | (lv, x :: .inr (.inr (.inl (some o))) :: st, env, hp, n, uc, us), h, hI =>
    unfold xo_putf at h
    obtain ⟨vx, stc, rfl, hgx, hst0⟩ := xSR_cons hI.2.2.1
    obtain ⟨vo, stc, rfl, ho, hst⟩ := xSR_cons hst0
    cases ho
    obtain ⟨hf, h⟩ := xcond h
    rw [xnthD_eq, hl] at hf
    obtain ⟨hnr, hft⟩ := xfits_of hf hgx
    obtain ⟨c0, hc, h⟩ := xhget_of h
    obtain ⟨hk, h⟩ := xcond h
    have hk := Nat.eq_of_beq_eq_true hk
    obtain ⟨rw', h, r0, r1, r2⟩ := xhset_of h
    obtain ⟨hp', h, -, e1', e2'⟩ := xhset_of h
    obtain ⟨fs, hfs, hat⟩ := xobj (hI.2.2.2.1.2 o c0 hc) (by rw [hk]; exact ha)
    rw [hk] at hat
    obtain ⟨hlf, hfs'⟩ := xFR_set hfs r0 r1 r2 hgx
    have X0 := X
    obtain ⟨hx, hbc, _, _, _, hnm, hown, hts, hns, hK, _⟩ := X
    obtain ⟨hu, ⟨ty0, hty0⟩, hnd⟩ := hT
    have hin : ∀ w ∈ u_ws C T N, w ∈ xWs Ts me := fun w hw => List.mem_cons_of_mem _ (hu w hw)
    have hap := va_apart (own := me.1.cls) hts hin ty0 hty0 hnd hK hcl
    obtain ⟨r, h1, cell, q1, q2, q3, q4⟩ := hat
    have hr : r = (C, T, N) := Option.some.inj (h1.symm.trans hcl)
    subst hr
    obtain ⟨hS, hfc, kC, hkC, hkind⟩ := hK.1 a _ hcl
    obtain ⟨cf, kf, fi, f, hi, hsl⟩ := hS b hb
    have hlay := u_lays hts hin hb
    have hstt := (u_facts hfc hkC hlay hi).1
    have h6 := u_fits hfc hkC hkind hlay hi hty hnr hft
    have fin : ∀ H' : Heap, H'[base + o]? = some (cell.setSlot f.slot vx) → H'.size = H.size → (∀ q, q ≠ base + o → H'[q]? = H[q]?) → W p la e (xR me) s m args below meth c H' (locs ++ [⟨base + o, f.slot⟩]) uc us (MQ below (xQ ρ base F D dA tys cl k) args s (xR me).cells (xR me).slots F) (F0 m (pc + 3) ls stc) := by
      intro H' e1 e2 e3
      rw [hsl] at e1 ⊢
      refine IH me cs (lv, st, env, hp', n, uc, us) k (pc + 3) hme h hok hn p e s m args below meth c X0 H' _ ls stc ⟨hI.1, hI.2.1, hst, hI.2.2.2.1.put (c := (a, c0.2.1, rw')) (hI.2.2.2.1.1.2.1 o c0 hc) e2 e3 ⟨fs.set b vx, hfs', Or.inl ⟨ha, ⟨_, hcl, t_OB.to (V := updV (vp_V fs) b vx) ⟨_, e1, q2, q3, t_set q4 hap hb vx⟩ (fun j _ => vp_updV_set hlf vx j)⟩⟩⟩ e1' e2', hI.2.2.2.2⟩ (xSput hL (hI.2.2.2.1.1.2.1 o c0 hc) e2 e3 (fun l hl => by rw [List.mem_singleton.mp hl]))
    rcases hlk with ⟨hlk, hfn⟩ | ⟨hfn, host, hlk⟩
    · rcases hfn with hfn | ⟨hfn, hini, hdc⟩
      · have hlay2 := hts _ (hin _ (u_in_lay hb))
        unfold u_lay at hlay2
        rw [if_neg (by rw [hfn]; decide)] at hlay2
        have h7 := u_store hfc hkC hkind hlay2 hi hty hnr hft
        exact W.putK hx hbc (f := f) ⟨hown, hts _ (List.mem_cons_of_mem _ hlk), ⟨_, _, _, hi⟩, hstt⟩ (by rw [q2]; exact h7) q1 q3 (by rw [hsl]; exact k2_hasslot (q4 b hb)) rfl rfl hd fin
      · have hlay2 := hts _ (hin _ (u_in_lay hb))
        unfold u_lay at hlay2
        rw [if_pos hfn] at hlay2
        have hcf : m.cls = cf := by
          obtain ⟨_, _, c', _, _, _, -, -, hf', -, -, -, hown2, -⟩ := Cond.laysFinal_spec hlay2
          have e1 : c' = cf := by have := hi.symm.trans hf'; simp at this; exact this.1.symm
          rw [hdc] at hown2
          rw [← e1]; exact Option.some.inj (hown.symm.trans hown2)
        exact W.putFinK hx hbc hown (hts _ (List.mem_cons_of_mem _ hlk)) hi hstt hcf (by rw [hnm]; exact hini) (by rw [q2]; exact h6) q1 q3 (by rw [hsl]; exact k2_hasslot (q4 b hb)) rfl rfl hd fin
    · have hlay2 := hts _ (hin _ (u_in_lay hb))
      unfold u_lay at hlay2
      rw [if_neg (by rw [hfn]; decide)] at hlay2
      have h7 := u_store hfc hkC hkind hlay2 hi hty hnr hft
      exact va_WputK hx hbc (f := f) hown (va_Nw.use rfl (hns _ hlk)) hi hstt (by rw [q2]; exact h7) q1 q3 (by rw [hsl]; exact k2_hasslot (q4 b hb)) rfl rfl hd fin
  | (lv, [], r), h, hI => exact absurd h (by simp [xo_putf])
  | (lv, [_], r), h, hI => exact absurd h (by simp [xo_putf])
  | (lv, _ :: .inl _ :: _, r), h, hI => exact absurd h (by simp [xo_putf])
  | (lv, _ :: .inr (.inl _) :: _, r), h, hI => exact absurd h (by simp [xo_putf])
  | (lv, _ :: .inr (.inr (.inl none)) :: _, r), h, hI => exact absurd h (by simp [xo_putf])
  | (lv, _ :: .inr (.inr (.inr _)) :: _, r), h, hI => exact absurd h (by simp [xo_putf])
def xdefV : Nat → Value
  | 1 => .null
  | 2 => .long 0
  | _ => .int 0
theorem xdef_of : ∀ t : Nat, xg ρ base (xdef t) (xdefV t)
  | 0 => rfl
  | 1 => rfl
  | 2 => rfl
  | _ + 3 => rfl
theorem xdefs_of : ∀ l : List Nat, xSR ρ base (l.map xdef) (l.map xdefV)
  | [] => trivial
  | t :: l => ⟨xdef_of t, xdefs_of l⟩
theorem xdefT {ty : FieldType} (h : xkt ty ≠ 9) : defaultValue ty = xdefV (xkt ty) := by
  cases ty <;> first | rfl | exact absurd rfl h
theorem xdfit {ty : FieldType} (h : xkt ty ≠ 9) : fits ty (defaultValue ty) = true := by
  cases ty <;> first | rfl | exact absurd rfl h
theorem xl_new {idx : Nat} {C : String} {T : u_T} {N : Nat} (ty : Nat → FieldType) (IH : xIH ρ base F Ts Ns cl tys D dA la okc Ms ih) (hme : me ∈ Ms) (hok : okc me cs = true) (hn : xatp (pc + 3) cs) (hd : decode me.2.1 pc = .ok (.new idx, 3)) (ha : a < 100) (hcl : cl[a]? = some (C, T, N)) (hu : ∀ w ∈ u_ws C T N, w ∈ Ts) (hty : ∀ k, k < N → parseFieldDescriptor (T k).2.2.1 = some (ty k)) (hln : l.length = N) (hN : N ≤ 64) (hl : ∀ k, k < N → l[k]? = some (xkt (ty k)) ∧ xkt (ty k) ≠ 9)
    (h1 : Jvm.Cond.classLink me.1.cls idx C ∈ Ts) (h2 : Jvm.Cond.instantiable C N ∈ Ts) (h3 : Jvm.Cond.initialized C ∈ Ts) (h : xo_new ih me cs a b l A k = true) : xGd ρ base F Ts Ns cl tys D dA la me pc A k := by
  obtain ⟨lv, st, env, hp, n, uc, us⟩ := A
  unfold xo_new at h
  have h := xfN_of h
  have h := xfN_of h
  obtain ⟨hr, h⟩ := xcond h
  have hr1 := Nat.le_of_ble_eq_true (xand hr).1
  have hr2 := Nat.le_of_ble_eq_true (xand hr).2
  obtain ⟨hp', h, e1', e2'⟩ := xhpush_of h
  have h := xfN_of h
  rw [xlen_eq] at hr2 h
  intro p e s m args below meth c X H locs ls stc hI hL
  have X' := X
  obtain ⟨hx, hbc, -, -, -, -, hown, hts, -, hK, -⟩ := X'
  have hKn := hK.1 a _ hcl
  have hw : ∀ w ∈ Ts, w.before args s = true := fun w q => hts w (List.mem_cons_of_mem _ q)
  have hsz := hI.2.2.2.1.1.1
  refine W.newcK hx hbc hown (hw _ h1) (hw _ h2) (hw _ h3) rfl hd hr1 (by rw [← hln]; exact hr2) hKn.2.1 rfl fun H1 kC hkC e1 z1 o1 => ?_
  have hfs : ∀ j, j < N → defaultValue (ty j) = vp_V (l.map xdefV) j := by
    intro j hj
    rw [xdefT (hl j hj).2]
    simp [vp_V, (hl j hj).1]
  have hob := (u_born ty hts (fun w q => List.mem_cons_of_mem _ (hu w q)) hKn hkC e1 hty).to hfs
  rw [hsz] at hob e1
  have g := IH me cs (lv, xRef n :: st, env, hp', n + 1, uc + 1, us + l.length) k (pc + 3) hme h hok hn p e s m args below meth c X H1 locs ls (.ref (base + n) :: stc) ⟨hI.1, hI.2.1, ⟨rfl, hI.2.2.1⟩, hI.2.2.2.1.push (c := (a, xlen l, [l.map xdef])) z1 o1 ⟨l.map xdefV, by rw [xlen_eq, show l.length = (l.map xdef).length by simp]; exact xFR_one (xdefs_of l) (by simp; omega), Or.inl ⟨ha, ⟨_, hcl, hob⟩⟩⟩ e1' e2', hr1, hr2⟩ (xSpush hL (by rw [z1]; omega) o1)
  rw [hln] at g
  rw [hsz]
  exact g
/-! arrays -/
theorem xarr_set {cA : ClassId} {fs : List Value} {i : Nat} {v : Value} (hi : i < fs.length) : (arrV cA fs.length (vp_V fs)).setSlot i v = arrV cA (fs.set i v).length (vp_V (fs.set i v)) := by
  rw [arrV_store, List.length_set]
  congr 1
  funext j
  exact vp_updV_set hi v j
theorem xclamp {u : Nat} (h : u < 2147483648) : (nI u).toNatClampNeg = u := nI_clamp h
theorem xneg {u : Nat} (h : u < 2147483648) : ¬ nI u < 0 := nI_pos h
theorem xrepV (n : Nat) (v : Value) (cA : ClassId) : ({ cls := cA, slots := Array.replicate n v, vm := .none } : Cell) = arrV cA (List.replicate n v).length (vp_V (List.replicate n v)) := by
  rw [arrV_new, List.length_replicate]
  unfold arrV
  congr 1
  apply Array.ext
  · simp
  · intro i h1 h2
    have hi : i < n := by simpa using h1
    simp [vp_V, hi]
theorem xl_newa {atype : ArrayType} (IH : xIH ρ base F Ts Ns cl tys D dA la okc Ms ih) (hme : me ∈ Ms) (hok : okc me cs = true) (hn : xatp (pc + 2) cs) (hd : decode me.2.1 pc = .ok (.newarray atype, 2)) (ha : 100 ≤ a) (hty : tys[a - 100]? = some (Jvm.Op.newarray.typeOf atype)) (hb : b = xkt (Jvm.Op.newarray.typeOf atype)) (hb9 : b ≠ 9) (hbytes : componentBytes (Jvm.Op.newarray.typeOf atype) ≤ 8)
    (h1 : Jvm.Cond.arrayClass (Jvm.Op.newarray.typeOf atype) ∈ Ts) (h : xo_newa ih me cs a b l A k = true) : xGd ρ base F Ts Ns cl tys D dA la me pc A k := by
  match A, h with
  | (lv, .inl u :: st, env, hp, n, uc, us), h =>
    unfold xo_newa at h
    have h := xfN_of h
    have h := xfN_of h
    obtain ⟨hr, h⟩ := xcond h
    have hu := xblt.mp (xand hr).1
    have hr1 := Nat.le_of_ble_eq_true (xand (xand hr).2).1
    have hr2 := Nat.le_of_ble_eq_true (xand (xand hr).2).2
    obtain ⟨fs0, h, hfs0⟩ := xrows_of h
    obtain ⟨hp', h, e1', e2'⟩ := xhpush_of h
    have h := xfN_of h
    intro p e s m args below meth c X H locs ls stc hI hL
    obtain ⟨vu, stc, rfl, hvu, hst⟩ := xSR_cons hI.2.2.1
    cases hvu
    have X' := X
    obtain ⟨hx, hbc, -, -, -, -, hown, hts, -, hK, hKA⟩ := X'
    have hsz := hI.2.2.2.1.1.1
    have hcl := xclamp (show u < 2147483648 by omega)
    have hA := hKA.1 _ _ hty
    refine W.newa hx hbc (hts _ (List.mem_cons_of_mem _ h1)) rfl hd rfl (xneg (by omega)) (by rw [hcl]; calc u * componentBytes _ ≤ u * 8 := Nat.mul_le_mul_left _ hbytes
      _ ≤ 536870912 := by omega) hr1 (by rw [hcl]; exact hr2) fun cA kA comp f1 f2 f3 => ?_
    have hcA : cA = dA (a - 100) := Option.some.inj (f1.symm.trans hA.2)
    rw [hcl, hcA]
    have hdv : defaultValue (Jvm.Op.newarray.typeOf atype) = xdefV b := by rw [hb]; exact xdefT (by rw [← hb]; exact hb9)
    rw [hdv, xrepV]
    generalize hH1 : H.push (arrV (dA (a - 100)) (List.replicate u (xdefV b)).length (vp_V (List.replicate u (xdefV b)))) = H1
    have z1 : H1.size = H.size + 1 := by rw [← hH1, Array.size_push]
    have e1 : H1[H.size]? = some (arrV (dA (a - 100)) (List.replicate u (xdefV b)).length (vp_V (List.replicate u (xdefV b)))) := by rw [← hH1, Array.getElem?_push_size]
    have o1 : ∀ q : Nat, q < H.size → H1[q]? = H[q]? := fun q hq => by rw [← hH1, Array.getElem?_push, if_neg (Nat.ne_of_lt hq)]
    rw [hsz] at e1
    have g := IH me cs (lv, xRef n :: st, env, hp', n + 1, uc + 1, us + u) k (pc + 2) hme h hok hn p e s m args below meth c X H1 locs ls (.ref (base + n) :: stc) ⟨hI.1, hI.2.1, ⟨rfl, hst⟩, hI.2.2.2.1.push (c := (a, u, fs0)) z1 o1 ⟨_, xFR_rep hfs0 (xdef_of b), Or.inr ⟨ha, e1, _, hty, fun v hv => by rw [List.eq_of_mem_replicate hv, ← hdv]; exact xdfit (by rw [← hb]; exact hb9)⟩⟩ e1' e2', hr1, hr2⟩ (xSpush hL (by rw [z1]; omega) o1)
    rw [hsz]
    exact g
  | (lv, [], r), h => exact absurd h (by simp [xo_newa])
  | (lv, .inr _ :: _, r), h => exact absurd h (by simp [xo_newa])
theorem xl_alen (IH : xIH ρ base F Ts Ns cl tys D dA la okc Ms ih) (hme : me ∈ Ms) (hok : okc me cs = true) (hn : xatp (pc + 1) cs) (hd : decode me.2.1 pc = .ok (.arraylength, 1)) (hb : b = 100 + tys.length) (h : xo_alen ih me cs a b l A k = true) : xGd ρ base F Ts Ns cl tys D dA la me pc A k := by
  match A, h with
  | (lv, .inr (.inr (.inl (some o))) :: st, env, hp, r), h =>
    unfold xo_alen at h
    obtain ⟨c0, hc, h⟩ := xhget_of h
    obtain ⟨hk, h⟩ := xcond h
    have hk2 := xblt.mp (xand hk).2
    have hk := Nat.le_of_ble_eq_true (xand hk).1
    have h := xfN_of h
    intro p e s m args below meth c X H locs ls stc hI hL
    obtain ⟨vo, stc, rfl, ho, hst⟩ := xSR_cons hI.2.2.1
    cases ho
    obtain ⟨fs, hfs, hat, -⟩ := xarr (hI.2.2.2.1.2 o c0 hc) hk
    obtain ⟨ty, hty⟩ : ∃ ty, tys[c0.1 - 100]? = some ty := ⟨_, List.getElem?_eq_getElem (by omega)⟩
    have hA := X.2.2.2.2.2.2.2.2.2.2.1 _ _ hty
    refine W.alen X.1 X.2.1 hat (hA.1 _ _) (n := nI c0.2.1) (by rw [arrV_size, hfs.1]; rfl) rfl rfl hd ?_
    exact IH me cs _ k (pc + 1) hme h hok hn p e s m args below meth c X H locs ls _ ⟨hI.1, hI.2.1, ⟨rfl, hst⟩, hI.2.2.2⟩ hL
  | (lv, [], r), h => exact absurd h (by simp [xo_alen])
  | (lv, .inl _ :: _, r), h => exact absurd h (by simp [xo_alen])
  | (lv, .inr (.inl _) :: _, r), h => exact absurd h (by simp [xo_alen])
  | (lv, .inr (.inr (.inl none)) :: _, r), h => exact absurd h (by simp [xo_alen])
  | (lv, .inr (.inr (.inr _)) :: _, r), h => exact absurd h (by simp [xo_alen])
end XF
end
section
/-! rows of the instructions: array loads and stores, answers, calls -/
section XC
variable {ρ : Nat → Int32} {base : Nat} {F : Nat → Prop} {Ts Ns : List Jvm.Cond} {cl : List vw_C} {tys : List FieldType} {D : va_G} {dA : Nat → ClassId} {la : Launch} {okc : xM → List xI → Bool} {Ms : List xM} {ih : xIh} {me : xM} {cs : List xI} {a b : Nat} {l : List Nat} {A : xA} {k : xK} {pc : Nat}
theorem xuld_of {env : xE} {h : xH} {o : Nat} {i : xV} {kk : xV → Bool} (hr : xρ ρ env) (e : xuld env h o a kk i = true) : ∃ (j : Nat) (c : xC) (v : xV) (u : Nat), i = .inr (.inl (some j)) ∧ xat h o = some c ∧ c.1 = a ∧ xat c.2.2 0 = some v ∧ xat c.2.2 u = some v ∧ ρ j = nI u ∧ u < c.2.1 ∧ u < 2147483648 ∧ kk v = true := by
  cases i with
  | inl _ => exact absurd e (by simp [xuld])
  | inr i =>
    cases i with
    | inr _ => exact absurd e (by simp [xuld])
    | inl x =>
      cases x with
      | none => exact absurd e (by simp [xuld])
      | some j =>
        unfold xuld at e
        obtain ⟨c, hc, e⟩ := xhget_of e
        obtain ⟨hk, e⟩ := xcond e
        obtain ⟨v, hv, e⟩ := xhget_of e
        obtain ⟨h1, e⟩ := xcond e
        obtain ⟨h2, e⟩ := xcond e
        obtain ⟨h3, h4⟩ := xand h1
        obtain ⟨u, hu, hlt, hlt2⟩ := xidx_of hr (Nat.le_of_ble_eq_true h3) h4
        exact ⟨j, c, v, u, rfl, hc, Nat.eq_of_beq_eq_true hk, hv, xunif_of h2 u hlt, hu, hlt, hlt2, e⟩
theorem xust_of {env : xE} {h : xH} {o : Nat} {i v : xV} {kk : Bool} (hr : xρ ρ env) (e : xust env h o a v kk i = true) : ∃ (j : Nat) (c : xC) (u : Nat), i = .inr (.inl (some j)) ∧ xat h o = some c ∧ c.1 = a ∧ xat c.2.2 u = some v ∧ ρ j = nI u ∧ u < c.2.1 ∧ u < 2147483648 ∧ kk = true := by
  cases i with
  | inl _ => exact absurd e (by simp [xust])
  | inr i =>
    cases i with
    | inr _ => exact absurd e (by simp [xust])
    | inl x =>
      cases x with
      | none => exact absurd e (by simp [xust])
      | some j =>
        unfold xust at e
        obtain ⟨c, hc, e⟩ := xhget_of e
        obtain ⟨hk, e⟩ := xcond e
        obtain ⟨h1, e⟩ := xcond e
        obtain ⟨h2, e⟩ := xcond e
        obtain ⟨h3, h4⟩ := xand h1
        obtain ⟨u, hu, hlt, hlt2⟩ := xidx_of hr (Nat.le_of_ble_eq_true h3) h4
        exact ⟨j, c, u, rfl, hc, Nat.eq_of_beq_eq_true hk, xunif_of h2 u hlt, hu, hlt, hlt2, e⟩
theorem xl_ald0 (IH : xIH ρ base F Ts Ns cl tys D dA la okc Ms ih) (hme : me ∈ Ms) (hok : okc me cs = true) (hn : xatp (pc + 1) cs) (ha : 100 ≤ a) (h : xo_ald ih me cs a b l A k = true)
    {p : Program} {e : Env} {s : State} {m : MethodId} {args : Array Value} {below : List Frame} {meth : Method} {c : Code} (C : xCx Ts Ns cl tys D dA p s m args meth c me) {H : Heap} {locs : List Loc} {ls : Array Slot} {stc : List Value} (hI : xIn ρ base F D dA tys cl me A H ls stc) (hL : va_S F s.heap H locs) :
    ∃ (o : Nat) (i : Int32) (rest fs : List Value) (x : xV) (v : Value), stc = .int i :: .ref o :: rest ∧ H[o]? = some (arrV (dA (a - 100)) fs.length (vp_V fs)) ∧ ¬ (i < 0 ∨ (arrV (dA (a - 100)) fs.length (vp_V fs)).slots.size ≤ i.toNatClampNeg) ∧ (arrV (dA (a - 100)) fs.length (vp_V fs)).slots[i.toNatClampNeg]? = some v ∧ xg ρ base x v ∧ W p la e (xR me) s m args below meth c H locs A.2.2.2.2.2.1 A.2.2.2.2.2.2 (MQ below (xQ ρ base F D dA tys cl k) args s (xR me).cells (xR me).slots F) (F0 m (pc + 1) ls (v :: rest)) := by
  match A, h, hI with
  | (lv, i :: .inr (.inr (.inl (some o))) :: st, env, hp, r), h, hI =>
    unfold xo_ald at h
    obtain ⟨vi, stc, rfl, hi, hst0⟩ := xSR_cons hI.2.2.1
    obtain ⟨vo, stc, rfl, ho, hst⟩ := xSR_cons hst0
    cases ho
    obtain ⟨i', rfl, h⟩ := xci_of hI.1 hi h
    rcases h with ⟨env', u, he, hu, h⟩ | h
    · obtain ⟨hlt, h⟩ := xcond h
      have hlt := xblt.mp hlt
      obtain ⟨c0, hc, h⟩ := xhget_of h
      obtain ⟨hk, h⟩ := xcond h
      have hk := Nat.eq_of_beq_eq_true hk
      obtain ⟨x, hx, h⟩ := xhget_of h
      obtain ⟨fs, hfs, hat, -⟩ := xarr (hI.2.2.2.1.2 o c0 hc) (by rw [hk]; exact ha)
      obtain ⟨v, hv, hg⟩ := hfs.2 u x hx
      rw [hk] at hat
      have hul : u < fs.length := (List.getElem?_eq_some_iff.mp hv).1
      subst hu
      refine ⟨base + o, nI u, stc, fs, x, v, rfl, hat, ?_, ?_, hg, IH me cs _ k (pc + 1) hme h hok hn p e s m args below meth c C H locs ls _ ⟨he, hI.2.1, ⟨hg, hst⟩, hI.2.2.2⟩ hL⟩
      · rw [arrV_size, xclamp hlt]
        intro q
        rcases q with q | q
        · exact xneg hlt q
        · omega
      · rw [xclamp hlt, arrV_read _ _ hul]
        simp [vp_V, hv]
    · obtain ⟨j, c0, v0, u, rfl, hc, hk, hv0, hx, hu, hul0, hlt, h⟩ := xuld_of hI.1 h
      obtain ⟨fs, hfs, hat, -⟩ := xarr (hI.2.2.2.1.2 o c0 hc) (by rw [hk]; exact ha)
      obtain ⟨v, hv, hg⟩ := hfs.2 u v0 hx
      rw [hk] at hat
      have hul : u < fs.length := (List.getElem?_eq_some_iff.mp hv).1
      have hi : Value.int i' = Value.int (ρ j) := hi
      have hu : i' = nI u := by injection hi with hi; rw [hi, hu]
      subst hu
      refine ⟨base + o, nI u, stc, fs, v0, v, rfl, hat, ?_, ?_, hg, IH me cs _ k (pc + 1) hme h hok hn p e s m args below meth c C H locs ls _ ⟨hI.1, hI.2.1, ⟨hg, hst⟩, hI.2.2.2⟩ hL⟩
      · rw [arrV_size, xclamp hlt]
        intro q
        rcases q with q | q
        · exact xneg hlt q
        · omega
      · rw [xclamp hlt, arrV_read _ _ hul]
        simp [vp_V, hv]
  | (lv, [], r), h, hI => exact absurd h (by simp [xo_ald])
  | (lv, [_], r), h, hI => exact absurd h (by simp [xo_ald])
  | (lv, _ :: .inl _ :: _, r), h, hI => exact absurd h (by simp [xo_ald])
  | (lv, _ :: .inr (.inl _) :: _, r), h, hI => exact absurd h (by simp [xo_ald])
  | (lv, _ :: .inr (.inr (.inl none)) :: _, r), h, hI => exact absurd h (by simp [xo_ald])
  | (lv, _ :: .inr (.inr (.inr _)) :: _, r), h, hI => exact absurd h (by simp [xo_ald])
theorem xl_iald (IH : xIH ρ base F Ts Ns cl tys D dA la okc Ms ih) (hme : me ∈ Ms) (hok : okc me cs = true) (hn : xatp (pc + 1) cs) (hd : decode me.2.1 pc = .ok (.iaload, 1)) (ha : 100 ≤ a) (hty : tys[a - 100]? = some .int) (h : xo_ald ih me cs a b l A k = true) : xGd ρ base F Ts Ns cl tys D dA la me pc A k := by
  intro p e s m args below meth c X H locs ls stc hI hL
  obtain ⟨o, i, rest, fs, x, v, rfl, h1, h2, h3, -, g⟩ := xl_ald0 IH hme hok hn ha h X hI hL
  exact W.iald X.1 X.2.1 h1 ((X.2.2.2.2.2.2.2.2.2.2.1 _ _ hty).1 _ _) (fun q => by cases q) h2 h3 rfl rfl hd g
theorem xl_lald (IH : xIH ρ base F Ts Ns cl tys D dA la okc Ms ih) (hme : me ∈ Ms) (hok : okc me cs = true) (hn : xatp (pc + 1) cs) (hd : decode me.2.1 pc = .ok (.laload, 1)) (ha : 100 ≤ a) (hty : tys[a - 100]? = some .long) (h : xo_ald ih me cs a b l A k = true) : xGd ρ base F Ts Ns cl tys D dA la me pc A k := by
  intro p e s m args below meth c X H locs ls stc hI hL
  obtain ⟨o, i, rest, fs, x, v, rfl, h1, h2, h3, -, g⟩ := xl_ald0 IH hme hok hn ha h X hI hL
  exact W.lald X.1 X.2.1 h1 ((X.2.2.2.2.2.2.2.2.2.2.1 _ _ hty).1 _ _) (fun q => by cases q) h2 h3 rfl rfl hd g
theorem xl_zald (IH : xIH ρ base F Ts Ns cl tys D dA la okc Ms ih) (hme : me ∈ Ms) (hok : okc me cs = true) (hn : xatp (pc + 1) cs) (hd : decode me.2.1 pc = .ok (.baload, 1)) (ha : 100 ≤ a) (hty : tys[a - 100]? = some .boolean) (h : xo_ald ih me cs a b l A k = true) : xGd ρ base F Ts Ns cl tys D dA la me pc A k := by
  intro p e s m args below meth c X H locs ls stc hI hL
  obtain ⟨o, i, rest, fs, x, v, rfl, h1, h2, h3, -, g⟩ := xl_ald0 IH hme hok hn ha h X hI hL
  exact W.zald X.1 X.2.1 h1 ((X.2.2.2.2.2.2.2.2.2.2.1 _ _ hty).1 _ _) (fun q => by cases q) h2 h3 rfl rfl hd g
theorem xl_aald {ty : FieldType} (IH : xIH ρ base F Ts Ns cl tys D dA la okc Ms ih) (hme : me ∈ Ms) (hok : okc me cs = true) (hn : xatp (pc + 1) cs) (hd : decode me.2.1 pc = .ok (.aaload, 1)) (ha : 100 ≤ a) (hty : tys[a - 100]? = some ty) (hr : ty.isReference = true) (h : xo_ald ih me cs a b l A k = true) : xGd ρ base F Ts Ns cl tys D dA la me pc A k := by
  intro p e s m args below meth c X H locs ls stc hI hL
  obtain ⟨o, i, rest, fs, x, v, rfl, h1, h2, h3, -, g⟩ := xl_ald0 IH hme hok hn ha h X hI hL
  exact W.aald X.1 X.2.1 h1 ((X.2.2.2.2.2.2.2.2.2.2.1 _ _ hty).1 _ _) hr (fun q => by cases q) h2 h3 rfl rfl hd g
theorem xl_ast0 (IH : xIH ρ base F Ts Ns cl tys D dA la okc Ms ih) (hme : me ∈ Ms) (hok : okc me cs = true) (hn : xatp (pc + 1) cs) (ha : 100 ≤ a) {ty : FieldType} (hty : tys[a - 100]? = some ty) (hb : b = xkt ty) (h : xo_ast ih me cs a b l A k = true)
    {p : Program} {e : Env} {s : State} {m : MethodId} {args : Array Value} {below : List Frame} {meth : Method} {c : Code} (C : xCx Ts Ns cl tys D dA p s m args meth c me) {H : Heap} {locs : List Loc} {ls : Array Slot} {stc : List Value} (hI : xIn ρ base F D dA tys cl me A H ls stc) (hL : va_S F s.heap H locs) :
    ∃ (o : Nat) (i : Int32) (rest fs : List Value) (x : xV) (v : Value), stc = v :: .int i :: .ref o :: rest ∧ xfits b x = true ∧ xg ρ base x v ∧ narrow ty v = v ∧ H[o]? = some (arrV (dA (a - 100)) fs.length (vp_V fs)) ∧ ¬ (i < 0 ∨ (arrV (dA (a - 100)) fs.length (vp_V fs)).slots.size ≤ i.toNatClampNeg) ∧ ∀ H' : Heap, H'[o]? = some ((arrV (dA (a - 100)) fs.length (vp_V fs)).setSlot i.toNatClampNeg v) → H'.size = H.size → (∀ q, q ≠ o → H'[q]? = H[q]?) → W p la e (xR me) s m args below meth c H' (locs ++ [⟨o, i.toNatClampNeg⟩]) A.2.2.2.2.2.1 A.2.2.2.2.2.2 (MQ below (xQ ρ base F D dA tys cl k) args s (xR me).cells (xR me).slots F) (F0 m (pc + 1) ls rest) := by
  match A, h, hI with
  | (lv, x :: i :: .inr (.inr (.inl (some o))) :: st, env, hp, n, uc, us), h, hI =>
    unfold xo_ast at h
    obtain ⟨vx, stc, rfl, hgx, hst0⟩ := xSR_cons hI.2.2.1
    obtain ⟨vi, stc, rfl, hi, hst1⟩ := xSR_cons hst0
    obtain ⟨vo, stc, rfl, ho, hst⟩ := xSR_cons hst1
    cases ho
    obtain ⟨hf, h⟩ := xcond h
    have hnr := (xfits_of (ty := ty) (by rw [← hb]; exact hf) hgx).1
    obtain ⟨i', rfl, h⟩ := xci_of hI.1 hi h
    rcases h with ⟨env', u, he, hu, h⟩ | h
    · obtain ⟨hlt, h⟩ := xcond h
      have hlt := xblt.mp hlt
      obtain ⟨c0, hc, h⟩ := xhget_of h
      obtain ⟨hk, h⟩ := xcond h
      have hk := Nat.eq_of_beq_eq_true hk
      obtain ⟨rw', h, r0, r1, r2⟩ := xhset_of h
      obtain ⟨hp', h, -, e1', e2'⟩ := xhset_of h
      obtain ⟨fs, hfs, hat, ty', hty', hfit⟩ := xarr (hI.2.2.2.1.2 o c0 hc) (by rw [hk]; exact ha)
      rw [hk] at hat hty'
      obtain ⟨hul, hfs'⟩ := xFR_set hfs r0 r1 r2 hgx
      subst hu
      refine ⟨base + o, nI u, stc, fs, x, vx, rfl, hf, hgx, hnr, hat, ?_, fun H' e1 e2 e3 => ?_⟩
      · rw [arrV_size, xclamp hlt]
        intro q
        rcases q with q | q
        · exact xneg hlt q
        · omega
      · rw [xclamp hlt, xarr_set hul] at e1
        exact IH me cs (lv, st, env', hp', n, uc, us) k (pc + 1) hme h hok hn p e s m args below meth c C H' _ ls stc ⟨he, hI.2.1, hst, hI.2.2.2.1.put (c := (a, c0.2.1, rw')) (hI.2.2.2.1.1.2.1 o c0 hc) e2 e3 ⟨fs.set u vx, hfs', Or.inr ⟨ha, e1, ty, hty, fun w hw => by
          have he9 : ty' = ty := Option.some.inj (hty'.symm.trans hty)
          rcases List.mem_or_eq_of_mem_set hw with q | q
          · rw [← he9]; exact hfit w q
          · rw [q]; exact (xfits_of (ty := ty) (by rw [← hb]; exact hf) hgx).2⟩⟩ e1' e2', hI.2.2.2.2⟩ (xSput hL (hI.2.2.2.1.1.2.1 o c0 hc) e2 e3 (fun l hl => by rw [List.mem_singleton.mp hl]))
    · obtain ⟨j, c0, u, rfl, hc, hk, hx, hu, hul0, hlt, h⟩ := xust_of hI.1 h
      obtain ⟨fs, hfs, hat, ty', hty', hfit⟩ := xarr (hI.2.2.2.1.2 o c0 hc) (by rw [hk]; exact ha)
      have hat0 := hat
      rw [hk] at hat hty'
      obtain ⟨hul, hfs'⟩ := xFR_set hfs ⟨_, hx⟩ hx (fun _ _ => rfl) hgx
      have hi : Value.int i' = Value.int (ρ j) := hi
      have hu : i' = nI u := by injection hi with hi; rw [hi, hu]
      subst hu
      refine ⟨base + o, nI u, stc, fs, x, vx, rfl, hf, hgx, hnr, hat, ?_, fun H' e1 e2 e3 => ?_⟩
      · rw [arrV_size, xclamp hlt]
        intro q
        rcases q with q | q
        · exact xneg hlt q
        · omega
      · rw [xclamp hlt, xarr_set hul] at e1
        exact IH me cs (lv, st, env, hp, n, uc, us) k (pc + 1) hme h hok hn p e s m args below meth c C H' _ ls stc ⟨hI.1, hI.2.1, hst, hI.2.2.2.1.put (c := c0) (hI.2.2.2.1.1.2.1 o c0 hc) e2 e3 ⟨fs.set u vx, hfs', Or.inr ⟨by rw [hk]; exact ha, by rw [hk]; exact e1, ty, by rw [hk]; exact hty, fun w hw => by
          have he9 : ty' = ty := Option.some.inj (hty'.symm.trans hty)
          rcases List.mem_or_eq_of_mem_set hw with q | q
          · rw [← he9]; exact hfit w q
          · rw [q]; exact (xfits_of (ty := ty) (by rw [← hb]; exact hf) hgx).2⟩⟩ hc (fun _ _ => rfl), hI.2.2.2.2⟩ (xSput hL (hI.2.2.2.1.1.2.1 o c0 hc) e2 e3 (fun l hl => by rw [List.mem_singleton.mp hl]))
  | (lv, [], r), h, hI => exact absurd h (by simp [xo_ast])
  | (lv, [_], r), h, hI => exact absurd h (by simp [xo_ast])
  | (lv, [_, _], r), h, hI => exact absurd h (by simp [xo_ast])
  | (lv, _ :: _ :: .inl _ :: _, r), h, hI => exact absurd h (by simp [xo_ast])
  | (lv, _ :: _ :: .inr (.inl _) :: _, r), h, hI => exact absurd h (by simp [xo_ast])
  | (lv, _ :: _ :: .inr (.inr (.inl none)) :: _, r), h, hI => exact absurd h (by simp [xo_ast])
  | (lv, _ :: _ :: .inr (.inr (.inr _)) :: _, r), h, hI => exact absurd h (by simp [xo_ast])
theorem xfi {x : xV} (h : xfits 0 x = true) : xis x = 0 := by
  match x, h with
  | .inl _, _ => rfl
  | .inr (.inl _), _ => rfl
theorem xfl {x : xV} (h : xfits 2 x = true) : xis x = 2 := by
  match x, h with
  | .inr (.inr (.inr _)), _ => rfl
theorem xfz {x : xV} (h : xfits 3 x = true) : xis x = 0 := by
  match x, h with
  | .inl _, _ => rfl
theorem xl_iast (IH : xIH ρ base F Ts Ns cl tys D dA la okc Ms ih) (hme : me ∈ Ms) (hok : okc me cs = true) (hn : xatp (pc + 1) cs) (hd : decode me.2.1 pc = .ok (.iastore, 1)) (ha : 100 ≤ a) (hty : tys[a - 100]? = some .int) (hb : b = 0) (h : xo_ast ih me cs a b l A k = true) : xGd ρ base F Ts Ns cl tys D dA la me pc A k := by
  intro p e s m args below meth c X H locs ls stc hI hL
  obtain ⟨o, i, rest, fs, x, v, rfl, hf, hg, -, h1, h2, g⟩ := xl_ast0 (ty := .int) IH hme hok hn ha hty hb h X hI hL
  obtain ⟨z, rfl⟩ := xg_int hg (xfi (by rw [← hb]; exact hf))
  exact W.iast X.1 X.2.1 h1 ((X.2.2.2.2.2.2.2.2.2.2.1 _ _ hty).1 _ _) (fun q => by cases q) h2 rfl rfl hd g
theorem xl_last (IH : xIH ρ base F Ts Ns cl tys D dA la okc Ms ih) (hme : me ∈ Ms) (hok : okc me cs = true) (hn : xatp (pc + 1) cs) (hd : decode me.2.1 pc = .ok (.lastore, 1)) (ha : 100 ≤ a) (hty : tys[a - 100]? = some .long) (hb : b = 2) (h : xo_ast ih me cs a b l A k = true) : xGd ρ base F Ts Ns cl tys D dA la me pc A k := by
  intro p e s m args below meth c X H locs ls stc hI hL
  obtain ⟨o, i, rest, fs, x, v, rfl, hf, hg, -, h1, h2, g⟩ := xl_ast0 (ty := .long) IH hme hok hn ha hty hb h X hI hL
  obtain ⟨z, rfl⟩ := xg_long hg (xfl (by rw [← hb]; exact hf))
  exact W.last X.1 X.2.1 h1 ((X.2.2.2.2.2.2.2.2.2.2.1 _ _ hty).1 _ _) (fun q => by cases q) h2 rfl rfl hd g
theorem xl_zast (IH : xIH ρ base F Ts Ns cl tys D dA la okc Ms ih) (hme : me ∈ Ms) (hok : okc me cs = true) (hn : xatp (pc + 1) cs) (hd : decode me.2.1 pc = .ok (.bastore, 1)) (ha : 100 ≤ a) (hty : tys[a - 100]? = some .boolean) (hb : b = 3) (h : xo_ast ih me cs a b l A k = true) : xGd ρ base F Ts Ns cl tys D dA la me pc A k := by
  intro p e s m args below meth c X H locs ls stc hI hL
  obtain ⟨o, i, rest, fs, x, v, rfl, hf, hg, hnr, h1, h2, g⟩ := xl_ast0 (ty := .boolean) IH hme hok hn ha hty hb h X hI hL
  obtain ⟨z, rfl⟩ := xg_int hg (xfz (by rw [← hb]; exact hf))
  exact W.zast X.1 X.2.1 h1 ((X.2.2.2.2.2.2.2.2.2.2.1 _ _ hty).1 _ _) (fun q => by cases q) h2 rfl rfl hd (by rw [hnr]; exact g)
/-! answers -/
theorem xl_iret {rt : FieldType} (hd : decode me.2.1 pc = .ok (.ireturn, 1)) (hrt : me.2.2.2.1 = some rt) (ha : a = xkt rt) (hri : rt = .int ∨ rt = .boolean) (h : xo_iret ih me cs a b l A k = true) : xGd ρ base F Ts Ns cl tys D dA la me pc A k := by
  match A, h with
  | (lv, [x], env, hp, n, uc, us), h =>
    unfold xo_iret at h
    obtain ⟨hf, h⟩ := xcond h
    intro p e s m args below meth c X H locs ls stc hI hL
    obtain ⟨vx, stc, rfl, hgx, hst⟩ := xSR_cons hI.2.2.1
    rw [xSR_nil hst]
    have hnr := (xfits_of (ty := rt) (by rw [← ha]; exact hf) hgx).1
    obtain ⟨z, rfl⟩ : ∃ z : Int32, vx = .int z := by
      refine xg_int hgx ?_
      rcases hri with rfl | rfl
      · exact xfi (by rw [show (0 : Nat) = a from ha.symm]; exact hf)
      · exact xfz (by rw [show (3 : Nat) = a from ha.symm]; exact hf)
    obtain ⟨hx, hbc, -, hr, hlk, -⟩ := X
    refine W.widen hI.2.2.2.2.1 hI.2.2.2.2.2 ?_
    exact W.zret hx hbc (hr.trans hrt) hnr (fun t ht _ => ⟨hL.F ht, env, hp, n, some x, h, hI.1, by rw [ht]; exact hI.2.2.2.1, Or.inr ⟨x, _, rfl, hgx, rfl⟩⟩) hL.2.2 hd hlk
  | (lv, [], r), h => exact absurd h (by simp [xo_iret])
  | (lv, _ :: _ :: _, r), h => exact absurd h (by simp [xo_iret])
theorem xl_lret (hd : decode me.2.1 pc = .ok (.lreturn, 1)) (hrt : me.2.2.2.1 = some .long) (ha : a = 2) (h : xo_iret ih me cs a b l A k = true) : xGd ρ base F Ts Ns cl tys D dA la me pc A k := by
  match A, h with
  | (lv, [x], env, hp, n, uc, us), h =>
    unfold xo_iret at h
    obtain ⟨hf, h⟩ := xcond h
    intro p e s m args below meth c X H locs ls stc hI hL
    obtain ⟨vx, stc, rfl, hgx, hst⟩ := xSR_cons hI.2.2.1
    rw [xSR_nil hst]
    obtain ⟨z, rfl⟩ := xg_long hgx (xfl (by rw [← ha]; exact hf))
    obtain ⟨hx, hbc, -, hr, hlk, -⟩ := X
    refine W.widen hI.2.2.2.2.1 hI.2.2.2.2.2 ?_
    exact W.lret hx hbc (hr.trans hrt) (fun t ht _ => ⟨hL.F ht, env, hp, n, some x, h, hI.1, by rw [ht]; exact hI.2.2.2.1, Or.inr ⟨x, _, rfl, hgx, rfl⟩⟩) hL.2.2 hd hlk
  | (lv, [], r), h => exact absurd h (by simp [xo_iret])
  | (lv, _ :: _ :: _, r), h => exact absurd h (by simp [xo_iret])
theorem xfr {x : xV} (h : xfits 1 x = true) : xis x = 1 := by
  match x, h with
  | .inr (.inr (.inl _)), _ => rfl
theorem xl_aret {rt : FieldType} (hd : decode me.2.1 pc = .ok (.areturn, 1)) (hrt : me.2.2.2.1 = some rt) (hr1 : (∃ n, rt = .object n) ∨ ∃ t, rt = .array t) (ha : a = 1) (h : xo_iret ih me cs a b l A k = true) : xGd ρ base F Ts Ns cl tys D dA la me pc A k := by
  match A, h with
  | (lv, [x], env, hp, n, uc, us), h =>
    unfold xo_iret at h
    obtain ⟨hf, h⟩ := xcond h
    intro p e s m args below meth c X H locs ls stc hI hL
    obtain ⟨vx, stc, rfl, hgx, hst⟩ := xSR_cons hI.2.2.1
    rw [xSR_nil hst]
    have hv := xg_ref hgx (xfr (by rw [← ha]; exact hf))
    obtain ⟨hx, hbc, -, hr, hlk, -⟩ := X
    refine W.widen hI.2.2.2.2.1 hI.2.2.2.2.2 ?_
    exact W.aret hx hbc (hr.trans hrt) hr1 hv (fun t ht _ => ⟨hL.F ht, env, hp, n, some x, h, hI.1, by rw [ht]; exact hI.2.2.2.1, Or.inr ⟨x, _, rfl, hgx, rfl⟩⟩) hL.2.2 hd hlk
  | (lv, [], r), h => exact absurd h (by simp [xo_iret])
  | (lv, _ :: _ :: _, r), h => exact absurd h (by simp [xo_iret])
theorem xl_ret (hd : decode me.2.1 pc = .ok (.return_, 1)) (hrt : me.2.2.2.1 = none) (h : xo_ret ih me cs a b l A k = true) : xGd ρ base F Ts Ns cl tys D dA la me pc A k := by
  match A, h with
  | (lv, [], env, hp, n, uc, us), h =>
    unfold xo_ret at h
    intro p e s m args below meth c X H locs ls stc hI hL
    rw [xSR_nil hI.2.2.1]
    obtain ⟨hx, hbc, -, hr, hlk, -⟩ := X
    refine W.widen hI.2.2.2.2.1 hI.2.2.2.2.2 ?_
    exact W.vret hx hbc (hr.trans hrt) (fun t ht _ => ⟨hL.F ht, env, hp, n, none, h, hI.1, by rw [ht]; exact hI.2.2.2.1, Or.inl ⟨rfl, rfl⟩⟩) hL.2.2 hd hlk
  | (lv, _ :: _, r), h => exact absurd h (by simp [xo_ret])
end XC
end
section
/-! calls -/
section XM
variable {ρ : Nat → Int32} {base : Nat} {F : Nat → Prop} {Ts Ns : List Jvm.Cond} {cl : List vw_C} {tys : List FieldType} {D : va_G} {dA : Nat → ClassId} {la : Launch} {okc : xM → List xI → Bool} {Ms : List xM} {ih : xIh} {me : xM} {cs : List xI} {a b : Nat} {l : List Nat} {A : xA} {k : xK} {pc : Nat}
theorem xpop_of : ∀ {n : Nat} {st acc : List xV} {k : List xV → List xV → Bool}, xpop n st acc k = true → ∃ top rest, st = top ++ rest ∧ top.length = n ∧ k (top.reverse ++ acc) rest = true := by
  intro n
  induction n with
  | zero => intro st acc k h; exact ⟨[], st, rfl, rfl, h⟩
  | succ n ih =>
    intro st acc k h
    cases st with
    | nil => exact absurd h (by change ¬ (false = true); decide)
    | cons v st =>
      obtain ⟨top, rest, h1, h2, h3⟩ := ih (st := st) (acc := v :: acc) (k := k) h
      refine ⟨v :: top, rest, by rw [h1]; rfl, by simp [h2], ?_⟩
      simpa using h3
theorem xargs_of : ∀ {vs : List xV} {vc : List Value} {i : Nat} {K : xL → Bool}, xSR ρ base vs vc → xargs vs i K = true → ∃ lv, K lv = true ∧ xLR ρ base lv (lv_args i vc) := by
  intro vs
  induction vs with
  | nil => intro vc i K hv h; rw [xSR_nil hv]; exact ⟨[], h, trivial⟩
  | cons v vs ih =>
    intro vc i K hv h
    obtain ⟨w, r, rfl, h1, h2⟩ := xSR_cons hv
    have h := xfN_of (n := cond (Nat.beq (xis v) 2) (Nat.succ (Nat.succ i)) (Nat.succ i)) (k := fun j => xargs vs j (fun l => K ((i, v) :: l))) h
    obtain ⟨lv, h3, h4⟩ := ih h2 h
    refine ⟨(i, v) :: lv, h3, ⟨rfl, h1⟩, ?_⟩
    have e : (cond (Nat.beq (xis v) 2) (Nat.succ (Nat.succ i)) (Nat.succ i)) = (if w.category = 2 then i + 2 else i + 1) := by
      rw [xcat2 h1]
      by_cases c : w.category = 2
      · simp [c]
      · have c' : (w.category == 2) = false := by simpa using c
        rw [c', if_neg c]
        rfl
    rw [e] at h4
    exact h4
theorem xcats_of : ∀ {vs : List xV} {vc : List Value}, xSR ρ base vs vc → xcats vs = (vc.map fun v => v.category).sum ∧ xcats vs = (lg_sl vc).length := by
  intro vs
  induction vs with
  | nil => intro vc hv; rw [xSR_nil hv]; exact ⟨rfl, rfl⟩
  | cons v vs ih =>
    intro vc hv
    obtain ⟨w, r, rfl, h1, h2⟩ := xSR_cons hv
    obtain ⟨e1, e2⟩ := ih h2
    have e : (cond (Nat.beq (xis v) 2) 2 1) = w.category := by
      rw [xcat2 h1]
      rcases lv_cat w with c | c
      · simp [c]
      · simp [c]
    have e0 : xcats (v :: vs) = w.category + xcats vs := by show Nat.add (cond (Nat.beq (xis v) 2) 2 1) (xcats vs) = _; rw [e]; rfl
    refine ⟨by rw [e0, e1]; simp, ?_⟩
    rw [e0, e2]
    unfold lg_sl
    rw [List.flatMap_cons, List.length_append]
    rcases lv_cat w with c | c
    · simp [c]
    · simp [c]
def xPc (ρ : Nat → Int32) (base : Nat) (F : Nat → Prop) (Ns : List Jvm.Cond) (cl : List vw_C) (tys : List FieldType) (D : va_G) (dA : Nat → ClassId) (vc : List Value) (h : xH) (n : Nat) : Array Value → State → Prop := fun v U => v = vc.toArray ∧ xHR ρ base F D dA tys cl h n U.heap ∧ (∀ w ∈ Ns, va_Nw w U) ∧ va_K D cl [] U ∧ xKA dA tys U
theorem xPc_blind (hN : ∀ w ∈ Ns, xNw w = true) {vc : List Value} {h : xH} {n : Nat} : FrameBlind (xPc ρ base F Ns cl tys D dA vc h n) := fun a U g mk q => ⟨q.1, q.2.1, fun w hw => va_Nw.same (u := U) (U := U.calling g mk a) (xNw_on (hN w hw)) rfl (q.2.2.1 w hw), va_K.moved (u := U) (U := U.calling g mk a) (Vm.Alike.refl U.vm) q.2.2.2.1, xKA.same (u := U) (U := U.calling g mk a) rfl rfl q.2.2.2.2⟩
/-- A METHOD THAT IS EXPLORED FROM ITS ENTRY MEETS ITS CONTRACT -/
theorem xMet (IH : xIH ρ base F Ts Ns cl tys D dA la okc Ms ih) (hme : me ∈ Ms) (hok : okc me (xcd me) = true) (hat : xatp 0 (xcd me)) (hpl : plainName me.1.cls = true) {vs : List xV} {vc : List Value} {env : xE} {h : xH} {n : Nat} (hv : xSR ρ base vs vc) (hr : xρ ρ env) (hlen : (lg_sl vc).length ≤ me.2.2.1) (hh : xargs vs 0 (fun lv => ih me (xcd me) (lv, [], env, h, n, 0, 0) k) = true) :
    Met la me.1 (xWs Ts me) (xR me) (xPc ρ base F Ns cl tys D dA vc h n) (xQ ρ base F D dA tys cl k) (xR me).cells (xR me).slots F := by
  obtain ⟨lv, hh, hlv⟩ := xargs_of hv hh
  refine Met.ofW (cc := me.2.1) (maxL := me.2.2.1) (ret := me.2.2.2.1) hpl rfl ?_
  intro p e s m args below meth c s₁ B hml hP
  obtain ⟨rfl, hH, hN, hK, hKA⟩ := hP
  have X : xCx Ts Ns cl tys D dA p s m vc.toArray meth c me := ⟨B.exec, B.bytes, hml, B.returns, B.notSynchronized, (name_of_methodNamed B.named B.method).1, findClass_of_methodNamed B.named, atoms_spec (ws := xWs Ts me) B.pre, hN, hK, hKA⟩
  have hl := lv_entry vc (n := me.2.2.1) hlen
  rw [lg_entry_eq]
  exact IH me (xcd me) (lv, [], env, h, n, 0, 0) k 0 hme hh hok hat p e s m vc.toArray below meth c X s.heap [] _ [] ⟨hr, ⟨_, hl, hlv⟩, trivial, hH, Nat.zero_le _, Nat.zero_le _⟩ va_S.rf
/-- behind a call -/
theorem xl_after (IH : xIH ρ base F Ts Ns cl tys D dA la okc Ms ih) (hme : me ∈ Ms) (hok : okc me cs = true) (hn : xatp (pc + 3) cs) {lv : xL} {st : List xV} {uc us uc' us' : Nat} {p : Program} {e : Env} {s : State} {m : MethodId} {args : Array Value} {below : List Frame} {meth : Method} {c : Code} (X : xCx Ts Ns cl tys D dA p s m args meth c me) {H : Heap} {locs : List Loc} {ls : Array Slot} {st0 rest : List Value} {av : Array Value} {mc ms : Nat}
    (hr : va_Run p la e (xR me) s m args below meth c H locs uc us mc ms (F0 m pc ls st0) rest (xQ ρ base F D dA tys cl (xafter ih me cs lv st uc' us' k) av) F) (hc : uc + mc = uc') (hs : us + ms = us') (hlv : ∃ lvc, lv_has ls me.2.2.1 lvc ∧ xLR ρ base lv lvc) (hst : xSR ρ base st rest) (h1 : uc' ≤ (xR me).cells) (h2 : us' ≤ (xR me).slots) (hL : va_S F s.heap H locs) :
    W p la e (xR me) s m args below meth c H locs uc us (MQ below (xQ ρ base F D dA tys cl k) args s (xR me).cells (xR me).slots F) (F0 m pc ls st0) := by
  intro T hT S
  obtain ⟨v, st₀, t, T', L, h0, X', hL', e1, e2, ⟨⟨hz, hfr⟩, env, h, n, r, hk, hρ, hH, hv⟩, go⟩ := hr T hT S
  subst hc; subst hs
  rw [h0] at hz hfr
  have hLL : va_S F s.heap t.heap (locs ++ L) := ⟨Nat.le_trans hL.1 hz, fun q g1 g2 => (hfr q (Nat.lt_of_lt_of_le g1 hL.1) g2).trans (hL.2.1 q g1 g2), t_lL hL.2.2 hL'⟩
  rcases hv with ⟨rfl, hv⟩ | ⟨x, w, rfl, hg, hv⟩
  · cases hv
    have g := IH me cs (lv, st, env, h, n, uc + mc, us + ms) k (pc + 3) hme hk hok hn p e s m args below meth c X t.heap (locs ++ L) ls rest ⟨hρ, hlv, hst, hH, h1, h2⟩ hLL
    obtain ⟨t2, a1, b1⟩ := g T' e1 X'
    exact ⟨t2, go t2 a1, b1⟩
  · cases hv
    have g := IH me cs (lv, x :: st, env, h, n, uc + mc, us + ms) k (pc + 3) hme hk hok hn p e s m args below meth c X t.heap (locs ++ L) ls (w :: rest) ⟨hρ, hlv, ⟨hg, hst⟩, hH, h1, h2⟩ hLL
    obtain ⟨t2, a1, b1⟩ := g T' e1 X'
    exact ⟨t2, go t2 a1, b1⟩
theorem xGoodIn {mc : xM} (hTg : ∀ w ∈ Ts, goodWord w = true) (hc : Jvm.Cond.code mc.1 mc.2.1 mc.2.2.1 mc.2.2.2.1 ∈ Ts) : GoodIn (xWs Ts me) (xWs Ts mc) := by
  intro w hw
  rcases List.mem_cons.mp hw with rfl | hw
  · exact ⟨List.mem_cons_of_mem _ hc, good_of_word (hTg _ hc)⟩
  · exact ⟨List.mem_cons_of_mem _ hw, good_of_word (hTg _ hw)⟩
/-- what is to hold of a callee, whatever the kind of call -/
def xCal (Ts : List Jvm.Cond) (okc : xM → List xI → Bool) (me mc : xM) (n : Nat) : Prop := plainName mc.1.cls = true ∧ okc mc (xcd mc) = true ∧ xatp 0 (xcd mc) ∧ Jvm.Cond.code mc.1 mc.2.1 mc.2.2.1 mc.2.2.2.1 ∈ Ts ∧ Jvm.Cond.initialized mc.1.cls ∈ Ts ∧ (mc.1.cls ≠ "java/lang/invoke/MethodHandle" ∧ mc.1.cls ≠ "java/lang/invoke/VarHandle" ∧ (parseMethodDescriptor mc.1.desc).map (fun d => d.parameters.length) = some n) ∧ ((xR mc).frames + 1 ≤ (xR me).frames ∧ 8 + (mc.2.2.1 + 11) + (xR mc).locals ≤ (xR me).locals)
/-- 0 static, 1 virtual, 2 <init>; the same with a nest mate's words -/
def xKind (Ts Ns : List Jvm.Cond) (cl : List vw_C) (me mc : xM) (idx a : Nat) (l : List Nat) (n kind : Nat) (ins : Instr) : Prop :=
  (kind = 0 ∧ ins = .invokestatic idx ∧ a = n ∧ Jvm.Cond.static mc.1 ∈ Ts ∧ (Jvm.Cond.methodLink me.1.cls idx mc.1 ∈ Ts ∨ ∃ host, Jvm.Cond.methodLinkNest me.1.cls idx mc.1 host ∈ Ns)) ∨
  (kind = 1 ∧ ins = .invokevirtual idx ∧ a = n + 1 ∧ Jvm.Cond.instanceMethod mc.1 ∈ Ts ∧ Jvm.Cond.selects mc.1.cls mc.1 mc.1 ∈ Ts ∧ (∃ ci T N, l.getD 0 0 = ci + 1 ∧ ci < 100 ∧ cl[ci]? = some (mc.1.cls, T, N)) ∧ (Jvm.Cond.methodLink me.1.cls idx mc.1 ∈ Ts ∨ ∃ host, Jvm.Cond.methodLinkNest me.1.cls idx mc.1 host ∈ Ns)) ∨
  (kind = 2 ∧ ins = .invokespecial idx ∧ a = n + 1 ∧ mc.2.2.2.1 = none ∧ mc.1.name = "<init>" ∧ Jvm.Cond.instanceMethod mc.1 ∈ Ts ∧ (∃ ci T N, l.getD 0 0 = ci + 1 ∧ ci < 100 ∧ cl[ci]? = some (mc.1.cls, T, N)) ∧ (Jvm.Cond.methodLink me.1.cls idx mc.1 ∈ Ts ∨ ∃ host, Jvm.Cond.methodLinkNest me.1.cls idx mc.1 host ∈ Ns))
theorem xsplit {n : Nat} {top rest : List xV} {stc : List Value} (h : xSR ρ base (top ++ rest) stc) (hn : top.length = n) : ∃ tc rc, stc = tc ++ rc ∧ xSR ρ base top tc ∧ xSR ρ base rest rc := by
  induction top generalizing stc n with
  | nil => exact ⟨[], stc, rfl, trivial, h⟩
  | cons x top ih =>
    obtain ⟨v, r, rfl, h1, h2⟩ := xSR_cons h
    obtain ⟨tc, rc, rfl, h3, h4⟩ := ih h2 rfl
    exact ⟨v :: tc, rc, rfl, ⟨h1, h3⟩, h4⟩
theorem xl_call {idx n kind : Nat} {ins : Instr} {mc : xM} (hTg : ∀ w ∈ Ts, goodWord w = true) (hNg : ∀ w ∈ Ns, xNw w = true) (IH : xIH ρ base F Ts Ns cl tys D dA la okc Ms ih) (hme : me ∈ Ms) (hok : okc me cs = true) (hn : xatp (pc + 3) cs) (hd : decode me.2.1 pc = .ok (ins, 3)) (hmc : Ms[b]? = some mc) (hcal : xCal Ts okc me mc n) (hkd : xKind Ts Ns cl me mc idx a l n kind ins) (h : xo_call Ms ih me cs a b l A k = true) : xGd ρ base F Ts Ns cl tys D dA la me pc A k := by
  obtain ⟨lv, st, env, hp, nn, uc, us⟩ := A
  unfold xo_call at h
  obtain ⟨mc', hmc', h⟩ := xnth_of h
  cases hmc.symm.trans hmc'
  obtain ⟨top, rest, rfl, htop, h⟩ := xpop_of h
  rw [List.append_nil] at h
  obtain ⟨hcat, h⟩ := xcond h
  have hcat1 := Nat.le_of_ble_eq_true (xand hcat).1
  have hcat2 := Nat.le_of_ble_eq_true (xand hcat).2
  have h := xfN_of h
  have h := xfN_of h
  obtain ⟨hrm, h⟩ := xcond h
  have hrm1 := Nat.le_of_ble_eq_true (xand hrm).1
  have hrm2 := Nat.le_of_ble_eq_true (xand hrm).2
  obtain ⟨hrc, h⟩ := xcond h
  obtain ⟨hpl, hokc, hat, hcode, hini, hmh, hroom⟩ := hcal
  have hmem : mc ∈ Ms := List.mem_of_getElem? hmc
  intro p e s m args below meth c X H locs ls stc hI hL
  obtain ⟨tc, rc, rfl, htc, hrest⟩ := xsplit hI.2.2.1 htop
  have hvs : xSR ρ base top.reverse tc.reverse := xSR_rev htc
  have hlenT : tc.length = a := by rw [xSR_len htc]; exact htop
  have hM := xMet (k := xafter ih me cs lv rest (uc + (xR mc).cells) (us + (xR mc).slots) k) IH hmem hokc hat hpl hvs hI.1 (by rw [← (xcats_of hvs).2]; exact hcat2) h
  have X' := X
  obtain ⟨hx, hbc, hml, -, -, -, hown, hts, hns, hK, hKA⟩ := X'
  have hG : GoodIn (xWs Ts me) (xWs Ts mc) := xGoodIn hTg hcode
  have hw : ∀ w ∈ Ts, w.before args s = true := fun w q => hts w (List.mem_cons_of_mem _ q)
  have hS : CallFix p m c me.2.1 me.2.2.1 s args (xWs Ts me) me.1.cls := ⟨hx, hbc, hml, hown, hts⟩
  have hsize : ls.size = me.2.2.1 := by obtain ⟨lvc, hl, -⟩ := hI.2.1; exact hl.1
  have hW : 2 * (F0 m pc ls (tc ++ rc)).monitorRoom + (rc.map fun v => v.category).sum ≤ 8 := lv_room (by rw [← (xcats_of hrest).1]; exact hcat1)
  have hpre : PreS s H (xPc ρ base F Ns cl tys D dA tc.reverse hp nn) tc.reverse := ⟨xPc_blind hNg, fun U hU hWm => ⟨rfl, by rw [hU]; exact hI.2.2.2.1, fun w q => xNw_warm (hNg w q) hWm (hns w q), va_K.moved hWm.alike hK, xKA.warm hWm (fun q g1 g2 => by rw [hU]; exact hL.2.1 q g1 (fun f => g2 (hI.2.2.2.1.1.2.2.2 q f))) hKA⟩⟩
  have fin := fun (av : Array Value) (hr : va_Run p la e (xR me) s m args below meth c H locs uc us (xR mc).cells (xR mc).slots (F0 m pc ls (tc ++ rc)) rc (xQ ρ base F D dA tys cl (xafter ih me cs lv rest (uc + (xR mc).cells) (us + (xR mc).slots) k) av) F) => xl_after IH hme hok hn X hr rfl rfl hI.2.1 hrest hrm1 hrm2 hL
  -- a receiver, where there is one
  have hrcv : ∀ (ci : Nat) (T : u_T) (N : Nat), a = n + 1 → l.getD 0 0 = ci + 1 → ci < 100 → cl[ci]? = some (mc.1.cls, T, N) → ∃ (o : Nat) (As : List Value), tc.reverse = .ref o :: As ∧ As.length = n ∧ tc ++ rc = As.reverse ++ .ref o :: rc ∧ (∃ cell : Cell, H[o]? = some cell ∧ cell.vm.isStatics = false ∧ s.vm.findClass mc.1.cls = some cell.cls) := by
    intro ci T N han hci hc100 hcl
    rw [xnthD_eq, hci] at hrc
    have hrc : (match top.reverse with | .inr (.inr (.inl (some o))) :: _ => xhget hp o (fun c => Nat.beq c.1 ci) | _ => false) = true := hrc
    obtain ⟨o, vr, hvr⟩ : ∃ o vr, top.reverse = .inr (.inr (.inl (some o))) :: vr := by
      generalize top.reverse = tr at hrc
      match tr, hrc with
      | .inr (.inr (.inl (some o))) :: vr, _ => exact ⟨o, vr, rfl⟩
      | [], q => exact absurd q (by simp)
      | .inl _ :: _, q => exact absurd q (by simp)
      | .inr (.inl _) :: _, q => exact absurd q (by simp)
      | .inr (.inr (.inl none)) :: _, q => exact absurd q (by simp)
      | .inr (.inr (.inr _)) :: _, q => exact absurd q (by simp)
    rw [hvr] at hrc
    have hvs2 : xSR ρ base (.inr (.inr (.inl (some o))) :: vr) tc.reverse := by rw [← hvr]; exact hvs
    obtain ⟨c0, hc0, hcc⟩ := xhget_of hrc
    have hcc := Nat.eq_of_beq_eq_true hcc
    obtain ⟨v0, As, hAs, hv0, -⟩ := xSR_cons hvs2
    cases hv0
    obtain ⟨fs, -, hat0⟩ := xobj (hI.2.2.2.1.2 o c0 hc0) (by rw [hcc]; exact hc100)
    rw [hcc] at hat0
    have htcs : tc = As.reverse ++ [.ref (base + o)] := by
      have := congrArg List.reverse hAs
      rw [List.reverse_reverse, List.reverse_cons] at this
      exact this
    refine ⟨base + o, As, hAs, ?_, by rw [htcs]; simp, va_recv hK (xP1 hat0) hcl (q0 := 0) rfl⟩
    have := congrArg List.length htcs
    simp at this
    omega
  rcases hkd with ⟨-, rfl, han, hst, hlk⟩ | ⟨-, rfl, han, him, hsel, ⟨ci, T, N, hci, hc100, hcl⟩, hlk⟩ | ⟨-, rfl, han, hnone, hnm, him, ⟨ci, T, N, hci, hc100, hcl⟩, hlk⟩
  · rcases hlk with hlk | ⟨host, hlk⟩
    · exact fin _ (va_runS hS hM ⟨callB_of n hts hG rfl rfl rfl (hw _ hini) (hw _ hlk) hmh hroom, hw _ hst⟩ hpre rfl (by rw [List.length_reverse, hlenT, han]) hsize (by rw [List.reverse_reverse]) hW hd ⟨hrm1, hrm2⟩)
    · exact fin _ (va_runSN hS hM ⟨va_cnB n hts hG rfl rfl rfl (hns _ hlk) (hw _ hini) hmh hroom, hw _ hst, trivial⟩ hpre rfl (by rw [List.length_reverse, hlenT, han]) hsize (by rw [List.reverse_reverse]) hW hd ⟨hrm1, hrm2⟩)
  · obtain ⟨o, As, hAs, hAl, hstk, hrv⟩ := hrcv ci T N han hci hc100 hcl
    rw [hAs] at hM hpre
    rcases hlk with hlk | ⟨host, hlk⟩
    · exact fin _ (va_runV hS hM ⟨callB_of n hts hG rfl rfl rfl (hw _ hini) (hw _ hlk) hmh hroom, hw _ him, hw _ hsel⟩ ⟨hpre.1, hrv, hpre.2⟩ rfl hAl hsize hstk hW hd ⟨hrm1, hrm2⟩)
    · exact fin _ (va_runVN hS hM ⟨va_cnB n hts hG rfl rfl rfl (hns _ hlk) (hw _ hini) hmh hroom, hw _ him, hw _ hsel⟩ ⟨hpre.1, hrv, hpre.2⟩ rfl hAl hsize hstk hW hd ⟨hrm1, hrm2⟩)
  · obtain ⟨o, As, hAs, hAl, hstk, hrv⟩ := hrcv ci T N han hci hc100 hcl
    rw [hAs] at hM hpre
    rcases hlk with hlk | ⟨host, hlk⟩
    · exact fin _ (va_runI hS hM ⟨callB_of n hts hG (by rw [xWs, hnone]) rfl rfl (hw _ hini) (hw _ hlk) hmh hroom, hnm, hw _ him⟩ hpre rfl hAl hsize hstk hW hd ⟨hrm1, hrm2⟩)
    · exact fin _ (va_runIN hS hM ⟨va_cnB n hts hG (by rw [xWs, hnone]) rfl rfl (hns _ hlk) (hw _ hini) hmh hroom, hnm, hw _ him⟩ hpre rfl hAl hsize hstk hW hd ⟨hrm1, hrm2⟩)
end XM
end
section
/-! Object's constructor, the switch -/
section XO
variable {ρ : Nat → Int32} {base : Nat} {F : Nat → Prop} {Ts Ns : List Jvm.Cond} {cl : List vw_C} {tys : List FieldType} {D : va_G} {dA : Nat → ClassId} {la : Launch} {okc : xM → List xI → Bool} {Ms : List xM} {ih : xIh} {me : xM} {cs : List xI} {a b : Nat} {l : List Nat} {A : xA} {k : xK} {pc : Nat}
theorem xl_oinit {idx : Nat} (IH : xIH ρ base F Ts Ns cl tys D dA la okc Ms ih) (hme : me ∈ Ms) (hok : okc me cs = true) (hn : xatp (pc + 3) cs) (hd : decode me.2.1 pc = .ok (.invokespecial idx, 3)) (h1 : Jvm.Cond.methodLink me.1.cls idx Lib.objectInit ∈ Ts) (h2 : Jvm.Cond.instanceMethod Lib.objectInit ∈ Ts) (h3 : Jvm.Cond.code Lib.objectInit ⟨#[0xb1]⟩ 1 none ∈ Ts) (hf : 1 ≤ (xR me).frames) (h : xo_oinit ih me cs a b l A k = true) : xGd ρ base F Ts Ns cl tys D dA la me pc A k := by
  match A, h with
  | (lv, .inr (.inr (.inl (some o))) :: st, r), h =>
    unfold xo_oinit at h
    obtain ⟨hr, h⟩ := xcond h
    have hr := Nat.le_of_ble_eq_true hr
    intro p e s m args below meth c X H locs ls stc hI hL
    obtain ⟨vo, stc, rfl, ho, hst⟩ := xSR_cons hI.2.2.1
    cases ho
    have g := IH me cs (lv, st, r) k (pc + 3) hme h hok hn p e s m args below meth c X H locs ls stc ⟨hI.1, hI.2.1, hst, hI.2.2.2⟩ hL
    obtain ⟨hx, hbc, hml, -, -, -, hown, hts, -⟩ := X
    have hsize : ls.size = me.2.2.1 := by obtain ⟨lvc, hl, -⟩ := hI.2.1; exact hl.1
    refine W.objInit hx hbc hown (hts _ (List.mem_cons_of_mem _ h1)) (hts _ (List.mem_cons_of_mem _ h2)) (hts _ (List.mem_cons_of_mem _ h3)) rfl (by rw [hml]; exact hsize) rfl hd hf ?_ (W.eq (g2 := F0 m (pc + 3) ls stc) rfl g)
    have hr : xcats st + 12 ≤ (xR me).locals := hr
    rw [(xcats_of hst).1] at hr
    show 2 * 0 + _ + 12 ≤ _
    omega
  | (lv, [], r), h => exact absurd h (by simp [xo_oinit])
  | (lv, .inl _ :: _, r), h => exact absurd h (by simp [xo_oinit])
  | (lv, .inr (.inl _) :: _, r), h => exact absurd h (by simp [xo_oinit])
  | (lv, .inr (.inr (.inl none)) :: _, r), h => exact absurd h (by simp [xo_oinit])
  | (lv, .inr (.inr (.inr _)) :: _, r), h => exact absurd h (by simp [xo_oinit])
/-- a table: its lowest number biased, its targets -/
def xTab (pc a b : Nat) (l : List Nat) (dflt lo hi : Int) (offs : Array Int) : Prop := (a : Int) = lo + 2147483648 ∧ (pc : Int) + dflt = (b : Int) ∧ hi = lo + (l.length : Int) - 1 ∧ offs.toList.map (fun o => (pc : Int) + o) = l.map (fun t : Nat => (t : Int))
theorem xl_tab1 {dflt lo hi : Int} {offs : Array Int} {len : Nat} (hd : decode me.2.1 pc = .ok (.tableswitch dflt lo hi offs, len)) (ht : xTab pc a b l dflt lo hi offs) {p : Program} {e : Env} {s : State} {m : MethodId} {args : Array Value} {below : List Frame} {meth : Method} {c : Code} {R : Room} {cells slots : Nat} {Q : State → Prop} (X : xCx Ts Ns cl tys D dA p s m args meth c me) {H : Heap} {locs : List Loc} {ls : Array Slot} {rest : List Value} {x : Int32}
    (g : W p la e R s m args below meth c H locs cells slots Q (F0 m (xtab a b l (xb x)) ls rest)) : W p la e R s m args below meth c H locs cells slots Q (F0 m pc ls (.int x :: rest)) := by
  obtain ⟨h1, h2, h3, h4⟩ := ht
  have hxi := xb_int x
  unfold xtab at g
  by_cases c1 : Nat.blt (xb x) a = true
  · rw [c1] at g
    have c1 := xblt.mp c1
    exact lv_tableOut X.1 X.2.1 hd (Or.inl (by omega)) h2 g
  · have c1' : Nat.blt (xb x) a = false := xnf c1
    rw [c1'] at g
    have c1 : a ≤ xb x := by
      rcases Nat.lt_or_ge (xb x) a with q | q
      · exact absurd (xblt.mpr q) c1
      · exact q
    have g : W p la e R s m args below meth c H locs cells slots Q (F0 m (xnthD l b (xb x - a)) ls rest) := g
    rw [xnthD_eq] at g
    by_cases c2 : xb x - a < l.length
    · have h5 : l[xb x - a]? = some l[xb x - a] := List.getElem?_eq_getElem c2
      rw [List.getD_eq_getElem?_getD, h5] at g
      have h6 := congrArg (fun z => z[xb x - a]?) h4
      simp only [List.getElem?_map, h5, Option.map_some] at h6
      obtain ⟨off, h7, h8⟩ := Option.map_eq_some_iff.mp h6
      refine lv_tableIn X.1 X.2.1 hd (off := off) (by omega) (by omega) ?_ h8 g
      rw [show (x.toInt - lo).toNat = xb x - a by omega]
      rw [← Array.getElem?_toList]
      exact h7
    · rw [List.getD_eq_getElem?_getD, List.getElem?_eq_none (by omega)] at g
      exact lv_tableOut X.1 X.2.1 hd (Or.inr (by omega)) h2 g
theorem xl_table {dflt lo hi : Int} {offs : Array Int} {len : Nat} (hj : ∀ i r, (i :: r) <:+ xcd me → okc me (i :: r) = true) (IH : xIH ρ base F Ts Ns cl tys D dA la okc Ms ih) (hme : me ∈ Ms) (hd : decode me.2.1 pc = .ok (.tableswitch dflt lo hi offs, len)) (ht : xTab pc a b l dflt lo hi offs) (h : xo_table ih me cs a b l A k = true) : xGd ρ base F Ts Ns cl tys D dA la me pc A k := by
  match A, h with
  | (lv, .inl u :: st, env, r), h =>
    unfold xo_table at h
    have h := xfN_of h
    intro p e s m args below meth c X H locs ls stc hI hL
    obtain ⟨v, stc, rfl, hv, hst⟩ := xSR_cons hI.2.2.1
    cases hv
    rw [xbc_eq] at h
    exact xl_tab1 hd ht X (xl_jmp hj IH hme h p e s m args below meth c X H locs ls stc ⟨hI.1, hI.2.1, hst, hI.2.2.2⟩ hL)
  | (lv, .inr (.inl (some i)) :: st, env, r), h =>
    unfold xo_table at h
    intro p e s m args below meth c X H locs ls stc hI hL
    obtain ⟨v, stc, rfl, hv, hst⟩ := xSR_cons hI.2.2.1
    cases hv
    refine xl_tab1 hd ht X ?_
    rcases xcut_of h hI.1 with ⟨c1, e1, he1, h⟩ | ⟨c1, e1, he1, h⟩
    · have e0 : xtab a b l (xb (ρ i)) = b := by
        unfold xtab
        rw [xblt.mpr c1]; rfl
      rw [e0]
      exact xl_jmp hj IH hme h p e s m args below meth c X H locs ls stc ⟨he1, hI.2.1, hst, hI.2.2.2⟩ hL
    · rcases xcut_of h he1 with ⟨c2, e2, he2, h⟩ | ⟨c2, e2, he2, h⟩
      · obtain ⟨e3, u, he3, hu, h⟩ := xall_of he2 h
        have h := xfN_of h
        rw [xbc_eq, ← hu] at h
        exact xl_jmp hj IH hme h p e s m args below meth c X H locs ls stc ⟨he3, hI.2.1, hst, hI.2.2.2⟩ hL
      · have c2 : a + l.length ≤ xb (ρ i) := by rw [← xlen_eq]; exact c2
        have e0 : xtab a b l (xb (ρ i)) = b := by
          unfold xtab
          have q : Nat.blt (xb (ρ i)) a = false := by
            cases hq : Nat.blt (xb (ρ i)) a with
            | false => rfl
            | true => exact absurd (xblt.mp hq) (by omega)
          rw [q]
          show xnthD l b (xb (ρ i) - a) = b
          rw [xnthD_eq, List.getD_eq_getElem?_getD, List.getElem?_eq_none (by omega)]
          rfl
        rw [e0]
        exact xl_jmp hj IH hme h p e s m args below meth c X H locs ls stc ⟨he2, hI.2.1, hst, hI.2.2.2⟩ hL
  | (lv, [], r), h => exact absurd h (by simp [xo_table])
  | (lv, .inr (.inl none) :: _, r), h => exact absurd h (by simp [xo_table])
  | (lv, .inr (.inr _) :: _, r), h => exact absurd h (by simp [xo_table])
end XO
end
section
/-! Math.min and max, System.arraycopy of a whole row, new int[n][k] -/
def xmm (a u v : Nat) : Nat := cond (Nat.beq a 0) (cond (Nat.blt (xbc v) (xbc u)) v u) (cond (Nat.blt (xbc u) (xbc v)) v u)
noncomputable def xo_mm : xHd := fun ih me cs a _ _ A k => match A with
  | (lv, y :: x :: st, env, r) => cond (Nat.ble (Nat.add (xcats st) 13) me.2.2.2.2.2.locals) (xci env (fun e u => xci e (fun e v => xfN (xmm a u v) (fun w => ih me cs (lv, .inl w :: st, e, r) k)) (ih me cs (lv, xTop :: st, e, r) k) y) (cond (Nat.beq (xis y) 0) (ih me cs (lv, xTop :: st, env, r) k) false) x) false
  | _ => false
/-- a whole int[] over another of its length -/
noncomputable def xo_copy : xHd := fun ih me cs _ _ _ A k => match A with
  | (lv, .inl n :: .inl dp :: .inr (.inr (.inl (some d))) :: .inl sp :: .inr (.inr (.inl (some o))) :: st, env, h, r) => cond (Bool.and (Bool.and (Nat.beq sp 0) (Nat.beq dp 0)) (Bool.and (Nat.blt n 100000) (Nat.ble (Nat.add (xcats st) 64) me.2.2.2.2.2.locals))) (xhget h o (fun c => xhget h d (fun c2 => cond (Bool.and (Bool.and (Nat.beq c.1 100) (Nat.beq c2.1 100)) (Bool.and (Nat.beq c.2.1 n) (Nat.beq c2.2.1 n))) (xhset h d (100, n, c.2.2) (fun h => ih me cs (lv, st, env, h, r) k)) false))) false
  | _ => false
/-- the rows of a grid, one behind the other -/
noncomputable def xgrid (c : xC) (m : Nat) : xH → Nat → (xH → Nat → Bool) → Bool := Nat.rec (motive := fun _ => xH → Nat → (xH → Nat → Bool) → Bool) (fun h n k => k h n) (fun _ ih h n k => xhpush h n c (fun h => xfN (Nat.succ n) (fun n => ih h n k))) m
noncomputable def xrefs (m : Nat) : Nat → (List xV → Bool) → Bool := Nat.rec (motive := fun _ => Nat → (List xV → Bool) → Bool) (fun _ k => k []) (fun _ ih a k => xfN (Nat.succ a) (fun a' => ih a' (fun l => k (xRef a :: l)))) m
/-- new int[n][k], n at most 64 here twice over: rows of references -/
noncomputable def xo_mna : xHd := fun ih me cs _ _ _ A k => match A with
  | (lv, .inl w :: .inl m :: st, env, h, n, uc, us) => cond (Bool.and (Bool.and (Nat.blt w 1000) (Nat.blt m 128)) (Bool.and (Nat.ble (Nat.add uc (Nat.succ m)) me.2.2.2.2.2.cells) (Nat.ble (Nat.add us (Nat.add m (Nat.mul m w))) me.2.2.2.2.2.slots)))
      (xrefs (cond (Nat.ble m 64) m 64) (Nat.succ n) (fun r1 => xrefs (Nat.sub m 64) (Nat.add (Nat.succ n) 64) (fun r2 => xhpush h n (102, m, [r1, r2]) (fun h => xrows (.inl 0) w (fun fs => xgrid (100, w, fs) m h (Nat.succ n) (fun h n' => xfN (Nat.add uc (Nat.succ m)) (fun uc => xfN (Nat.add us (Nat.add m (Nat.mul m w))) (fun us => xfN n' (fun n' => ih me cs (lv, xRef n :: st, env, h, n', uc, us) k)))))))) ) false
  | _ => false
section XJ
variable {ρ : Nat → Int32} {base : Nat} {F : Nat → Prop} {Ts Ns : List Jvm.Cond} {cl : List vw_C} {tys : List FieldType} {D : va_G} {dA : Nat → ClassId} {la : Launch} {okc : xM → List xI → Bool} {Ms : List xM} {ih : xIh} {me : xM} {cs : List xI} {a b : Nat} {l : List Nat} {A : xA} {k : xK} {pc : Nat}
theorem xmm_of (u v : Nat) : nI (xmm 0 u v) = (if nI v < nI u then nI v else nI u) ∧ nI (xmm 1 u v) = (if nI u < nI v then nI v else nI u) := by
  constructor
  · unfold xmm
    rw [show Nat.beq 0 0 = true from rfl, cond_true]
    by_cases c : Nat.blt (xbc v) (xbc u) = true
    · rw [c, if_pos (by rw [xb_lt, ← xbc_eq, ← xbc_eq]; exact xblt.mp c)]; rfl
    · rw [xnf c, if_neg (fun q => c (by rw [xblt, xbc_eq, xbc_eq]; exact xb_lt.mp q))]; rfl
  · unfold xmm
    rw [show Nat.beq 1 0 = false from rfl, cond_false]
    by_cases c : Nat.blt (xbc u) (xbc v) = true
    · rw [c, if_pos (by rw [xb_lt, ← xbc_eq, ← xbc_eq]; exact xblt.mp c)]; rfl
    · rw [xnf c, if_neg (fun q => c (by rw [xblt, xbc_eq, xbc_eq]; exact xb_lt.mp q))]; rfl
def xmmI : Nat → Int32 → Int32 → Int32
  | 0, x, y => if y < x then y else x
  | _, x, y => if x < y then y else x
theorem xl_mm0 (ha : a = 0 ∨ a = 1) (IH : xIH ρ base F Ts Ns cl tys D dA la okc Ms ih) (hme : me ∈ Ms) (hok : okc me cs = true) (hn : xatp (pc + 3) cs) (h : xo_mm ih me cs a b l A k = true)
    {p : Program} {e : Env} {s : State} {m : MethodId} {args : Array Value} {below : List Frame} {meth : Method} {c : Code} (C : xCx Ts Ns cl tys D dA p s m args meth c me) {H : Heap} {locs : List Loc} {ls : Array Slot} {stc : List Value} (hI : xIn ρ base F D dA tys cl me A H ls stc) (hL : va_S F s.heap H locs) :
    ∃ (x y : Int32) (rest : List Value), stc = .int y :: .int x :: rest ∧ (rest.map fun v => v.category).sum + 13 ≤ (xR me).locals ∧ W p la e (xR me) s m args below meth c H locs A.2.2.2.2.2.1 A.2.2.2.2.2.2 (MQ below (xQ ρ base F D dA tys cl k) args s (xR me).cells (xR me).slots F) (F0 m (pc + 3) ls (.int (xmmI a x y) :: rest)) := by
  match A, h, hI with
  | (lv, y :: x :: st, env, r), h, hI =>
    unfold xo_mm at h
    obtain ⟨hr, h⟩ := xcond h
    have hr : xcats st + 13 ≤ (xR me).locals := Nat.le_of_ble_eq_true hr
    obtain ⟨vy, stc, rfl, hy, hst0⟩ := xSR_cons hI.2.2.1
    obtain ⟨vx, stc, rfl, hx, hst⟩ := xSR_cons hst0
    rw [(xcats_of hst).1] at hr
    obtain ⟨x', rfl, h⟩ := xci_of hI.1 hx h
    rcases h with ⟨env', u, he, hu, h⟩ | h
    · obtain ⟨y', rfl, h⟩ := xci_of he hy h
      rcases h with ⟨env', v, he, hv, h⟩ | h
      · have ee : nI (xmm a u v) = xmmI a x' y' := by
          rw [hu, hv]
          rcases ha with rfl | rfl
          · exact (xmm_of u v).1
          · exact (xmm_of u v).2
        exact ⟨x', y', stc, rfl, hr, IH me cs _ k (pc + 3) hme (xfN_of h) hok hn p e s m args below meth c C H locs ls _ ⟨he, hI.2.1, ⟨by show _ = Value.int (nI (xmm a u v)); rw [ee], hst⟩, hI.2.2.2⟩ hL⟩
      · exact ⟨x', y', stc, rfl, hr, IH me cs _ k (pc + 3) hme h hok hn p e s m args below meth c C H locs ls _ ⟨he, hI.2.1, ⟨⟨_, rfl⟩, hst⟩, hI.2.2.2⟩ hL⟩
    · obtain ⟨hk, h⟩ := xcond h
      obtain ⟨y', rfl⟩ := xg_int hy (Nat.eq_of_beq_eq_true hk)
      exact ⟨x', y', stc, rfl, hr, IH me cs _ k (pc + 3) hme h hok hn p e s m args below meth c C H locs ls _ ⟨hI.1, hI.2.1, ⟨⟨_, rfl⟩, hst⟩, hI.2.2.2⟩ hL⟩
  | (lv, [], env, r), h, hI => exact absurd h (by simp [xo_mm])
  | (lv, [_], env, r), h, hI => exact absurd h (by simp [xo_mm])
theorem xl_mm {idx : Nat} (IH : xIH ρ base F Ts Ns cl tys D dA la okc Ms ih) (hme : me ∈ Ms) (hok : okc me cs = true) (hn : xatp (pc + 3) cs) (hd : decode me.2.1 pc = .ok (.invokestatic idx, 3))
    (hw : (a = 0 ∧ Jvm.Cond.methodLink me.1.cls idx Lib.Math.min.name ∈ Ts ∧ Jvm.Cond.static Lib.Math.min.name ∈ Ts ∧ Jvm.Cond.code Lib.Math.min.name Lib.Math.min.code 2 (some .int) ∈ Ts) ∨ (a = 1 ∧ Jvm.Cond.methodLink me.1.cls idx Lib.Math.max.name ∈ Ts ∧ Jvm.Cond.static Lib.Math.max.name ∈ Ts ∧ Jvm.Cond.code Lib.Math.max.name Lib.Math.max.code 2 (some .int) ∈ Ts)) (hini : Jvm.Cond.initialized "java/lang/Math" ∈ Ts) (hf : 1 ≤ (xR me).frames) (h : xo_mm ih me cs a b l A k = true) : xGd ρ base F Ts Ns cl tys D dA la me pc A k := by
  intro p e s m args below meth c X H locs ls stc hI hL
  obtain ⟨x, y, rest, rfl, hr, g⟩ := xl_mm0 (e := e) (below := below) (hw.imp (fun q => q.1) (fun q => q.1)) IH hme hok hn h X hI hL
  have hsize : ls.size = me.2.2.1 := by obtain ⟨lvc, hl, -⟩ := hI.2.1; exact hl.1
  obtain ⟨hx, hbc, hml, _, _, _, hown, hts, _⟩ := X
  rcases hw with ⟨rfl, w1, w2, w3⟩ | ⟨rfl, w1, w2, w3⟩
  · exact va_mmin hx hbc (by rw [hml, hsize]) hown (hts _ (List.mem_cons_of_mem _ w1)) (hts _ (List.mem_cons_of_mem _ w2)) (hts _ (List.mem_cons_of_mem _ hini)) (hts _ (List.mem_cons_of_mem _ w3)) hf hr hI.2.2.2.2.1 hI.2.2.2.2.2 hd g
  · exact va_mmax hx hbc (by rw [hml, hsize]) hown (hts _ (List.mem_cons_of_mem _ w1)) (hts _ (List.mem_cons_of_mem _ w2)) (hts _ (List.mem_cons_of_mem _ hini)) (hts _ (List.mem_cons_of_mem _ w3)) hf hr hI.2.2.2.2.1 hI.2.2.2.2.2 hd g
theorem xcopied {c0 c1 : ClassId} {fs gs : List Value} (hl : gs.length = fs.length) (n : Int32) (hn : n.toNatClampNeg = fs.length) : copied (arrV c0 fs.length (vp_V fs)) (arrV c1 gs.length (vp_V gs)) 0 0 n = arrV c1 fs.length (vp_V fs) := by
  have e := va_copied (fun z : Value => z) c0 c1 (n0 := fs.length) (n1 := gs.length) (sp := 0) (dp := 0) (n := n.toNatClampNeg) (vp_V fs) (vp_V gs) (by omega)
  refine Eq.trans e ?_
  rw [hl]
  unfold arrV
  congr 1
  apply Array.ext
  · simp
  · intro i h1 h2
    have hi : i < fs.length := by simpa using h1
    simp [va_cpy, hn, hi]
theorem xl_copy {idx : Nat} (IH : xIH ρ base F Ts Ns cl tys D dA la okc Ms ih) (hme : me ∈ Ms) (hok : okc me cs = true) (hn : xatp (pc + 3) cs) (hd : decode me.2.1 pc = .ok (.invokestatic idx, 3)) (hty : tys[0]? = some .int) (h1 : Jvm.Cond.methodLink me.1.cls idx arraycopyName ∈ Ts) (h2 : Jvm.Cond.native arraycopyName ∈ Ts) (h3 : Jvm.Cond.static arraycopyName ∈ Ts) (h4 : Jvm.Cond.initialized "java/lang/System" ∈ Ts) (hf : 1 ≤ (xR me).frames) (h : xo_copy ih me cs a b l A k = true) : xGd ρ base F Ts Ns cl tys D dA la me pc A k := by
  obtain ⟨lv, st0, env, hp, nn, uc, us⟩ := A
  match st0, h with
  | .inl n :: .inl dp :: .inr (.inr (.inl (some d))) :: .inl sp :: .inr (.inr (.inl (some o))) :: st, h =>
    unfold xo_copy at h
    obtain ⟨hr, h0⟩ := xcond h
    clear h
    have e1 := Nat.eq_of_beq_eq_true (xand (xand hr).1).1
    have e2 := Nat.eq_of_beq_eq_true (xand (xand hr).1).2
    have hnl := xblt.mp (xand (xand hr).2).1
    have hrm : xcats st + 64 ≤ (xR me).locals := Nat.le_of_ble_eq_true (xand (xand hr).2).2
    subst e1; subst e2
    obtain ⟨c1, hc1, h⟩ := xhget_of h0
    obtain ⟨c2, hc2, h⟩ := xhget_of h
    obtain ⟨hk, h⟩ := xcond h
    have k1 := Nat.eq_of_beq_eq_true (xand (xand hk).1).1
    have k2 := Nat.eq_of_beq_eq_true (xand (xand hk).1).2
    have l1 := Nat.eq_of_beq_eq_true (xand (xand hk).2).1
    have l2 := Nat.eq_of_beq_eq_true (xand (xand hk).2).2
    obtain ⟨hp', h, -, r1, r2⟩ := xhset_of h
    intro p e s m args below meth c X H locs ls stc hI hL
    obtain ⟨v1, stc, rfl, g1, hst1⟩ := xSR_cons hI.2.2.1
    obtain ⟨v2, stc, rfl, g2, hst2⟩ := xSR_cons hst1
    obtain ⟨v3, stc, rfl, g3, hst3⟩ := xSR_cons hst2
    obtain ⟨v4, stc, rfl, g4, hst4⟩ := xSR_cons hst3
    obtain ⟨v5, stc, rfl, g5, hst⟩ := xSR_cons hst4
    cases g1; cases g2; cases g3; cases g4; cases g5
    obtain ⟨fs, hfs, hat, ty1, ht1, hfit1⟩ := xarr (hI.2.2.2.1.2 o c1 hc1) (by omega)
    obtain ⟨gs, hgs, hat2, ty2, ht2, -⟩ := xarr (hI.2.2.2.1.2 d c2 hc2) (by omega)
    rw [k1] at hat ht1
    rw [k2] at hat2 ht2
    have et : ty1 = .int := Option.some.inj (ht1.symm.trans hty)
    subst et
    have lf : fs.length = n := by rw [hfs.1, l1]
    have lg : gs.length = n := by rw [hgs.1, l2]
    have X0 := X
    obtain ⟨hx, hbc, hml, _, _, _, hown, hts, _, _, hKA⟩ := X
    have hsize : ls.size = me.2.2.1 := by obtain ⟨lvc, hl, -⟩ := hI.2.1; exact hl.1
    have hcl := xclamp (show n < 2147483648 by omega)
    have hz : (nI 0) = (0 : Int32) := rfl
    obtain ⟨-, k0, hk0, cm0, hkk0⟩ := (hKA.1 _ _ hty).1 fs.length (vp_V fs)
    obtain ⟨-, k1', hk1, cm1, hkk1⟩ := (hKA.1 _ _ hty).1 gs.length (vp_V gs)
    intro T hT S
    rw [hz]
    have hni : (nI n).toInt = (n : Int) := nI_toInt (by omega)
    obtain ⟨vm', X', step⟩ := S.arraycopy hx hown (hts _ (List.mem_cons_of_mem _ h1)) (hts _ (List.mem_cons_of_mem _ h2)) (hts _ (List.mem_cons_of_mem _ h3)) (hts _ (List.mem_cons_of_mem _ h4)) (src := base + o) (dst := base + d) (cs := arrV (dA (100 - 100)) fs.length (vp_V fs)) (cd := arrV (dA (100 - 100)) gs.length (vp_V gs)) (srcPos := 0) (destPos := 0) (n := nI n) (by rw [hT]; exact hat) (by rw [hT]; exact hat2)
      (fun _ h => by cases h) (fun _ h => by cases h) (fun h => by cases h) (fun h => by cases h) hk0 hk1 hkk0 hkk1 (by decide) (by decide) (by decide) (xneg (by omega))
      (by rw [hni, arrV_size, lf, Int32.toInt_zero]; omega)
      (by rw [hni, arrV_size, lg, Int32.toInt_zero]; omega)
      (fun vm₁ _ i hi => by
        have hil : i < fs.length := by rw [lf, ← hcl]; exact hi
        have ee : (arrV (dA (100 - 100)) fs.length (vp_V fs)).slots.getD ((0 : Int32).toNatClampNeg + i) .null = vp_V fs i := by
          rw [show (0 : Int32).toNatClampNeg + i = i by rw [sb_cl0]; omega, Array.getD_eq_getD_getElem?, arrV_read _ _ hil]
          rfl
        have hmem : vp_V fs i ∈ fs := by
          unfold vp_V
          rw [List.getD_eq_getElem?_getD, List.getElem?_eq_getElem hil]
          exact List.getElem_mem hil
        have hfi := hfit1 _ hmem
        rw [ee]
        refine ⟨hfi, ?_⟩
        generalize vp_V fs i = w at hfi
        cases w <;> first | trivial | exact absurd hfi (by simp [fits]))
      (g := F0 m pc ls (.int (nI n) :: .int 0 :: .ref (base + d) :: .int 0 :: .ref (base + o) :: stc)) rfl (by rw [hml]; exact hsize) (rest := stc) rfl (by rw [hbc]; exact hd) hf (by
        have q := (xcats_of hst).1
        have hw : nativeFrameWords "java/lang/System" "arraycopy" 5 + 11 ≤ 64 := by decide +kernel
        show 2 * 0 + _ + _ ≤ _
        omega)
    rw [xcopied (by rw [lf, lg]) _ (by rw [hcl, lf])] at X' step
    have hlt : base + d < H.size := (Array.getElem?_eq_some_iff.mp hat2).1
    generalize hH1 : ((T.setVm vm').setCell (base + d) (arrV (dA (100 - 100)) fs.length (vp_V fs))).heap = H1
    have hH2 : H1 = H.setIfInBounds (base + d) (arrV (dA (100 - 100)) fs.length (vp_V fs)) := by rw [← hH1, ← hT]; rfl
    have q1 : H1[base + d]? = some (arrV (dA (100 - 100)) fs.length (vp_V fs)) := by rw [hH2]; simp [Array.getElem?_setIfInBounds, hlt]
    have q2 : H1.size = H.size := by rw [hH2]; simp
    have q3 : ∀ q : Nat, q ≠ base + d → H1[q]? = H[q]? := fun q hq => by rw [hH2]; simp [Array.getElem?_setIfInBounds, Ne.symm hq]
    have g := IH me cs (lv, st, env, hp', nn, uc, us) k (pc + 3) hme h hok hn p e s m args below meth c X0 H1 (locs ++ ((arrV (dA (100 - 100)) fs.length (vp_V fs)).stretch (0 : Int32).toNatClampNeg (nI n).toNatClampNeg).zipIdx.map fun q => ⟨base + d, (0 : Int32).toNatClampNeg + q.2⟩) ls stc ⟨hI.1, hI.2.1, hst, hI.2.2.2.1.put (c := (100, n, c1.2.2)) (hI.2.2.2.1.1.2.1 d c2 hc2) q2 q3 ⟨fs, by rw [← l1]; exact hfs, Or.inr ⟨Nat.le_refl _, q1, _, ht1, hfit1⟩⟩ r1 r2, hI.2.2.2.2⟩ (xSput hL (hI.2.2.2.1.1.2.1 d c2 hc2) q2 q3 (fun l hl => by
      obtain ⟨z, -, hz⟩ := List.mem_map.mp hl
      rw [← hz]))
    obtain ⟨t, a1, b1⟩ := g _ hH1 X'
    exact ⟨t, step t a1, b1⟩
end XJ
end
section
/-! new int[n][k] (vr_outer is NAMES.whole's row) -/
theorem vr_outer (c : ClassId) (N h0 : Nat) : ∀ i : Nat, Jvm.Free.Multi.outerC c N h0 i = arrV c N (fun j => va_rf (if j < i then some (h0 + 1 + j) else none))
  | 0 => by
    show ({ cls := c, slots := Array.replicate N .null, vm := .none } : Cell) = _
    rw [arrV_new]
    refine congrArg (arrV c N) (funext fun j => ?_)
    simp [va_rf]
  | i + 1 => by
    show (Jvm.Free.Multi.outerC c N h0 i).setSlot i (.ref (h0 + 1 + i)) = _
    rw [vr_outer c N h0 i, arrV_store]
    refine congrArg (arrV c N) (funext fun j => ?_)
    by_cases e : j = i
    · subst e
      simp [updV, va_rf]
    · by_cases h : j < i
      · simp [updV, e, h, Nat.lt_succ_of_lt h]
      · simp [updV, e, h, show ¬ j < i + 1 by omega]
theorem xrefs_of : ∀ {m a : Nat} {k : List xV → Bool}, xrefs m a k = true → ∃ r : List xV, k r = true ∧ r.length = m ∧ ∀ i x, r[i]? = some x → i < m ∧ x = xRef (a + i) := by
  intro m
  induction m with
  | zero => intro a k h; exact ⟨[], h, rfl, fun i x hx => by simp at hx⟩
  | succ m ih =>
    intro a k h
    have h := xfN_of (n := Nat.succ a) (k := fun a' => xrefs m a' (fun l => k (xRef a :: l))) h
    obtain ⟨r, h1, h2, h3⟩ := ih h
    refine ⟨xRef a :: r, h1, by simp [h2], fun i x hx => ?_⟩
    cases i with
    | zero => simp at hx; exact ⟨by omega, by rw [← hx]; rfl⟩
    | succ i =>
      obtain ⟨q1, q2⟩ := h3 i x (by simpa using hx)
      exact ⟨by omega, by rw [q2, show Nat.succ a + i = a + (i + 1) by omega]⟩
theorem xgrid_of {c : xC} : ∀ {m : Nat} {h : xH} {n : Nat} {k : xH → Nat → Bool}, xgrid c m h n k = true → ∃ h' : xH, k h' (n + m) = true ∧ (∀ i, i < m → xat h' (n + i) = some c) ∧ ∀ b, (b < n ∨ n + m ≤ b) → xat h' b = xat h b := by
  intro m
  induction m with
  | zero => intro h n k e; exact ⟨h, e, fun i hi => absurd hi (by omega), fun b _ => rfl⟩
  | succ m ih =>
    intro h n k e
    obtain ⟨h1, e, a1, a2⟩ := xhpush_of (h := h) (n := n) (c := c) (k := fun h => xfN (Nat.succ n) (fun n => xgrid c m h n k)) e
    have e := xfN_of (n := Nat.succ n) (k := fun n => xgrid c m h1 n k) e
    obtain ⟨h2, b1, b2, b3⟩ := ih e
    refine ⟨h2, by rw [show n + (m + 1) = Nat.succ n + m by omega]; exact b1, fun i hi => ?_, fun b hb => ?_⟩
    · cases i with
      | zero => rw [b3 (n + 0) (Or.inl (by omega))]; exact a1
      | succ i => rw [show n + (i + 1) = Nat.succ n + i by omega]; exact b2 i (by omega)
    · rw [b3 b (by omega), a2 b (by omega)]
section XG
variable {ρ : Nat → Int32} {base : Nat} {F : Nat → Prop} {Ts Ns : List Jvm.Cond} {cl : List vw_C} {tys : List FieldType} {D : va_G} {dA : Nat → ClassId} {la : Launch} {okc : xM → List xI → Bool} {Ms : List xM} {ih : xIh} {me : xM} {cs : List xI} {a b : Nat} {l : List Nat} {A : xA} {k : xK} {pc : Nat}
theorem xl_mna {idx : Nat} (IH : xIH ρ base F Ts Ns cl tys D dA la okc Ms ih) (hme : me ∈ Ms) (hok : okc me cs = true) (hn : xatp (pc + 4) cs) (hd : decode me.2.1 pc = .ok (.multianewarray idx 2, 4)) (hty : tys[0]? = some .int) (hty2 : tys[2]? = some (.array .int)) (h1 : Jvm.Cond.classLink me.1.cls idx ("[" ++ (FieldType.array .int).toString) ∈ Ts) (h2 : Jvm.Cond.arrayClass .int ∈ Ts) (h : xo_mna ih me cs a b l A k = true) : xGd ρ base F Ts Ns cl tys D dA la me pc A k := by
  obtain ⟨lv, st0, env, hp, n, uc, us⟩ := A
  match st0, h with
  | .inl w :: .inl m' :: st, h =>
    unfold xo_mna at h
    obtain ⟨hr, h0⟩ := xcond h
    clear h
    have hw := xblt.mp (xand (xand hr).1).1
    have hm := xblt.mp (xand (xand hr).1).2
    have hc : uc + (m' + 1) ≤ (xR me).cells := Nat.le_of_ble_eq_true (xand (xand hr).2).1
    have hs : us + (m' + m' * w) ≤ (xR me).slots := Nat.le_of_ble_eq_true (xand (xand hr).2).2
    obtain ⟨r1, h, l1, f1⟩ := xrefs_of h0
    obtain ⟨r2, h, l2, f2⟩ := xrefs_of h
    obtain ⟨hp1, h, a1, a2⟩ := xhpush_of h
    obtain ⟨fs0, h, hfs0⟩ := xrows_of h
    obtain ⟨hp2, h, b1, b2⟩ := xgrid_of h
    have h := xfN_of h
    have h := xfN_of h
    have h := xfN_of h
    intro p e s m args below meth c X H locs ls stc hI hL
    obtain ⟨v1, stc, rfl, g1, hst1⟩ := xSR_cons hI.2.2.1
    obtain ⟨v2, stc, rfl, g2, hst⟩ := xSR_cons hst1
    cases g1; cases g2
    have X0 := X
    obtain ⟨hx, hbc, hml, _, _, _, hown, hts, _, _, hKA⟩ := X
    have hsz : H.size = base + n := hI.2.2.2.1.1.1
    have cw := xclamp (show w < 2147483648 by omega)
    have cm := xclamp (show m' < 2147483648 by omega)
    intro T hT S
    have hmw : m' * w ≤ 128 * 1000 := Nat.mul_le_mul (by omega) (by omega)
    obtain ⟨vm₁, cA, comp, -, fA, fC, -, -, X', step⟩ := S.multianewarray2F hx (ty := .int) hown (hts _ (List.mem_cons_of_mem _ h1)) (xAO.use hKA.2.1) (hts _ (List.mem_cons_of_mem _ h2)) (g := F0 m pc ls (.int (nI w) :: .int (nI m') :: stc)) rfl (by rw [hbc]; exact hd) rfl (xneg (by omega)) (xneg (by omega)) (by rw [cm]; omega) (by rw [cw]; show w * 4 ≤ _; omega) (by rw [cw]; omega) rfl rfl (by rw [cm]; show uc + (1 + m') ≤ _; omega) (by rw [cm, cw]; exact hs)
    rw [cm, cw] at X' step
    have ecA : cA = dA 2 := Option.some.inj (fA.symm.trans (hKA.1 _ _ hty2).2)
    have ecp : comp = dA 0 := Option.some.inj (fC.symm.trans (hKA.1 _ _ hty).2)
    subst ecA
    subst ecp
    generalize hF : Jvm.Free.Multi.fill (T.setVm vm₁) (dA 2) (dA 0) m' w (defaultValue .int) m' = G9 at X' step
    have hTh : (T.setVm vm₁).heap = H := hT
    obtain ⟨z1, z2, -, -⟩ := Jvm.Free.Multi.fill_facts (T.setVm vm₁) (dA 2) (dA 0) m' w (defaultValue .int) m'
    rw [hF, hTh] at z1 z2
    have hold : ∀ x : Nat, x < H.size → G9.heap[x]? = H[x]? := fun x hx => by
      have := Jvm.Free.Multi.fill_old (T.setVm vm₁) (dA 2) (dA 0) m' w (defaultValue .int) (a := x) (by rw [hTh]; exact hx) m'
      rw [hF, hTh] at this
      exact this
    have hrow : ∀ j : Nat, j < m' → G9.heap[H.size + 1 + j]? = some (arrV (dA 0) (List.replicate w (Value.int 0)).length (vp_V (List.replicate w (Value.int 0)))) := fun j hj => by
      have := Jvm.Free.Multi.fill_inner (T.setVm vm₁) (dA 2) (dA 0) m' w (defaultValue .int) m' j hj
      rw [hF, hTh] at this
      rw [this]
      exact congrArg some (xrepV w (.int 0) (dA 0))
    let fsO : List Value := (List.range m').map (fun j => Value.ref (H.size + 1 + j))
    have hfl : fsO.length = m' := by simp [fsO]
    have hout : G9.heap[H.size]? = some (arrV (dA 2) fsO.length (vp_V fsO)) := by
      rw [z2, vr_outer, hfl]
      refine congrArg some ?_
      unfold arrV
      congr 1
      apply Array.ext
      · simp
      · intro i q1 q2
        have hi : i < m' := by simpa using q1
        simp [hi, va_rf, vp_V, fsO]
    have hH1 : xHR ρ base F D dA tys cl hp2 (n + 1 + m') G9.heap := by
      refine ⟨⟨by rw [z1, hsz]; omega, fun b d hb => ?_, fun q hq => hI.2.2.2.1.1.2.2.1 q (by show base + n ≤ q; omega), hI.2.2.2.1.1.2.2.2⟩, fun b d hb => ?_⟩
      · rcases Nat.lt_or_ge b n with q | q
        · rw [b2 b (Or.inl (by show b < n + 1; omega)), a2 b (by omega)] at hb
          exact hI.2.2.2.1.1.2.1 b d hb
        · exact hI.2.2.2.1.1.2.2.1 _ (by show base + n ≤ base + b; omega)
      rcases Nat.lt_or_ge b n with q | q
      · rw [b2 b (Or.inl (by show b < n + 1; omega)), a2 b (by omega)] at hb
        have h3 := hI.2.2.2.1.2 b d hb
        exact h3.kept (hold _ h3.lt)
      · rcases Nat.lt_or_ge b (n + 1) with q2 | q2
        · have e : b = n := by omega
          subst e
          rw [b2 b (Or.inl (by show b < b + 1; omega)), a1] at hb
          cases hb
          refine ⟨fsO, ⟨hfl, fun i x hx => ?_⟩, Or.inr ⟨by show 100 ≤ 102; omega, by rw [← hsz]; exact hout, _, hty2, fun v hv => ?_⟩⟩
          · have hx : (([r1, r2] : List (List xV))[i / 64]?).bind (fun r => r[i % 64]?) = some x := hx
            have e2 := xdm i
            have hm64 := Nat.mod_lt i (show 0 < 64 by decide)
            have key : i < m' ∧ x = xRef (b + 1 + i) := by
              rcases Nat.lt_or_ge (i / 64) 1 with q3 | q3
              · rw [show i / 64 = 0 by omega] at hx
                obtain ⟨k1, k2⟩ := f1 (i % 64) x hx
                have k1 : i % 64 < (cond (Nat.ble m' 64) m' 64) := k1
                refine ⟨?_, by rw [k2, show Nat.succ b + i % 64 = b + 1 + i by omega]⟩
                cases hb6 : Nat.ble m' 64 with
                | true => rw [hb6] at k1; have k1 : i % 64 < m' := k1; omega
                | false =>
                  have : ¬ m' ≤ 64 := fun q => by rw [Nat.ble_eq_true_of_le q] at hb6; cases hb6
                  omega
              · rcases Nat.lt_or_ge (i / 64) 2 with q4 | q4
                · rw [show i / 64 = 1 by omega] at hx
                  obtain ⟨k1, k2⟩ := f2 (i % 64) x hx
                  have k1 : i % 64 < m' - 64 := k1
                  exact ⟨by omega, by rw [k2, show Nat.add (Nat.succ b) 64 + i % 64 = b + 1 + i by show b + 1 + 64 + i % 64 = _; omega]⟩
                · rw [List.getElem?_eq_none (by simpa using q4)] at hx
                  cases hx
            obtain ⟨k1, rfl⟩ := key
            exact ⟨.ref (H.size + 1 + i), by simp [fsO, k1], by show Value.ref (H.size + 1 + i) = .ref (base + (b + 1 + i)); exact congrArg Value.ref (show (H.size + 1 + i : Nat) = base + (b + 1 + i) by omega)⟩
          · obtain ⟨j, -, rfl⟩ := List.mem_map.mp hv
            rfl
        · rcases Nat.lt_or_ge b (n + 1 + m') with q3 | q3
          · have e : b = n + 1 + (b - (n + 1)) := by omega
            have hb9 := b1 (b - (n + 1)) (by omega)
            have hb9 : xat hp2 (n + 1 + (b - (n + 1))) = some (100, w, fs0) := hb9
            rw [← e] at hb9
            rw [hb9] at hb
            cases hb
            have hr9 := hrow (b - (n + 1)) (by omega)
            rw [show H.size + 1 + (b - (n + 1)) = base + b by omega] at hr9
            exact ⟨_, xFR_rep hfs0 rfl, Or.inr ⟨Nat.le_refl _, hr9, _, hty, fun v hv => by rw [List.eq_of_mem_replicate hv]; rfl⟩⟩
          · rw [b2 b (Or.inr (by show n + 1 + m' ≤ b; omega)), a2 b (by omega)] at hb
            have h3 := hI.2.2.2.1.2 b d hb
            have := h3.lt
            omega
    have g := IH me cs (lv, xRef n :: st, env, hp2, n + 1 + m', uc + (m' + 1), us + (m' + m' * w)) k (pc + 4) hme h hok hn p e s m args below meth c X0 G9.heap locs ls (.ref (base + n) :: stc) ⟨hI.1, hI.2.1, ⟨rfl, hst⟩, hH1, hc, hs⟩ (xSpush hL (by rw [z1]; omega) hold)
    have X'' : Stand p la e (xR me) s m args below meth c G9 locs (uc + (m' + 1)) (us + (m' + m' * w)) := by
      rw [show uc + (m' + 1) = uc + 1 + m' by omega, show us + (m' + m' * w) = us + m' + m' * w by omega]
      exact X'
    obtain ⟨t, c1, c2⟩ := g G9 rfl X''
    refine ⟨t, step t ?_, c2⟩
    have eh : T.heap.size = base + n := by rw [hT, hsz]
    rw [eh]
    exact c1
  | [], h => exact absurd h (by simp [xo_mna])
  | [_], h => exact absurd h (by simp [xo_mna])
  | .inr _ :: _ :: _, h => exact absurd h (by simp [xo_mna])
  | .inl _ :: .inr _ :: _, h => exact absurd h (by simp [xo_mna])
end XG
end
section
/-! the code tables are the machine's code; the run; what it gives -/
def xTs (Tc : List (List Jvm.Cond)) : List Jvm.Cond := (Tc.map (fun r => r.filter goodWord)).flatten
def xNs (Tc : List (List Jvm.Cond)) : List Jvm.Cond := (Tc.map (fun r => r.filter xNw)).flatten
def xwd (Tc : List (List Jvm.Cond)) (i : Nat) (w : Jvm.Cond) : Bool := decide ((Tc[i / 1024]?).bind (fun r => r[i % 1024]?) = some w)
def xwg (Tc : List (List Jvm.Cond)) (i : Nat) (w : Jvm.Cond) : Bool := xwd Tc i w && goodWord w
def xwn (Tc : List (List Jvm.Cond)) (i : Nat) (w : Jvm.Cond) : Bool := xwd Tc i w && xNw w
theorem xwd_of {Tc : List (List Jvm.Cond)} {i : Nat} {w : Jvm.Cond} (h : xwd Tc i w = true) : ∃ r ∈ Tc, w ∈ r := by
  have h := of_decide_eq_true h
  obtain ⟨r, h1, h2⟩ := Option.bind_eq_some_iff.mp h
  exact ⟨r, List.mem_of_getElem? h1, List.mem_of_getElem? h2⟩
theorem xwg_of {Tc : List (List Jvm.Cond)} {i : Nat} {w : Jvm.Cond} (h : xwg Tc i w = true) : w ∈ xTs Tc := by
  obtain ⟨h1, h2⟩ := Bool.and_eq_true_iff.mp h
  obtain ⟨r, q1, q2⟩ := xwd_of h1
  exact List.mem_flatten.mpr ⟨_, List.mem_map.mpr ⟨r, q1, rfl⟩, List.mem_filter.mpr ⟨q2, h2⟩⟩
theorem xwn_of {Tc : List (List Jvm.Cond)} {i : Nat} {w : Jvm.Cond} (h : xwn Tc i w = true) : w ∈ xNs Tc := by
  obtain ⟨h1, h2⟩ := Bool.and_eq_true_iff.mp h
  obtain ⟨r, q1, q2⟩ := xwd_of h1
  exact List.mem_flatten.mpr ⟨_, List.mem_map.mpr ⟨r, q1, rfl⟩, List.mem_filter.mpr ⟨q2, h2⟩⟩
theorem xTs_good (Tc : List (List Jvm.Cond)) : ∀ w ∈ xTs Tc, goodWord w = true := by
  intro w hw
  obtain ⟨r, h1, h2⟩ := List.mem_flatten.mp hw
  obtain ⟨q, -, rfl⟩ := List.mem_map.mp h1
  exact (List.mem_filter.mp h2).2
theorem xNs_good (Tc : List (List Jvm.Cond)) : ∀ w ∈ xNs Tc, xNw w = true := by
  intro w hw
  obtain ⟨r, h1, h2⟩ := List.mem_flatten.mp hw
  obtain ⟨q, -, rfl⟩ := List.mem_map.mp h1
  exact (List.mem_filter.mp h2).2
/-- which of the three words of 'new' stands where: packed in one number -/
def xb1 (b : Nat) : Nat := b % 1048576
def xb2 (b : Nat) : Nat := b / 1048576 % 1048576
def xb3 (b : Nat) : Nat := b / 1099511627776
def xcnd : Jvm.ClassFile.Cond → Nat
  | .eq => 0
  | .ne => 1
  | .lt => 2
  | .ge => 3
  | .gt => 4
  | .le => 5
/-- the callee's part of a call's check -/
def xokCall (Tc : List (List Jvm.Cond)) (Ms : List xM) (cl : List vw_C) (me : xM) (ins : Instr) (idx kind a b : Nat) (l : List Nat) : Bool := match Ms[b]? with
  | none => false
  | some mc => match parseMethodDescriptor mc.1.desc with
    | none => false
    | some sg => decide (l.getD 1 9 = kind) && decide (mc.1.cls ≠ "java/lang/invoke/MethodHandle" ∧ mc.1.cls ≠ "java/lang/invoke/VarHandle") && decide ((xR mc).frames + 1 ≤ (xR me).frames ∧ 8 + (mc.2.2.1 + 11) + (xR mc).locals ≤ (xR me).locals) && xwg Tc (l.getD 6 0) (.code mc.1 mc.2.1 mc.2.2.1 mc.2.2.2.1) && xwg Tc (l.getD 7 0) (.initialized mc.1.cls)
      && (if l.getD 3 0 = 0 then xwg Tc (l.getD 2 0) (.methodLink me.1.cls idx mc.1) else xwn Tc (l.getD 2 0) (.methodLinkNest me.1.cls idx mc.1 "AcidCity"))
      && (if kind = 0 then decide (a = sg.parameters.length) && xwg Tc (l.getD 4 0) (.static mc.1)
          else decide (a = sg.parameters.length + 1) && xwg Tc (l.getD 4 0) (.instanceMethod mc.1) && decide (l.getD 0 0 ≠ 0 ∧ l.getD 0 0 ≤ 100) && (match cl[l.getD 0 0 - 1]? with | some q => decide (q.1 = mc.1.cls) | none => false)
            && (if kind = 1 then xwg Tc (l.getD 5 0) (.selects mc.1.cls mc.1 mc.1) else decide (mc.2.2.2.1 = none ∧ mc.1.name = "<init>")))
def xokNew (Tc : List (List Jvm.Cond)) (cl : List vw_C) (me : xM) (idx a b : Nat) (l : List Nat) : Bool := match cl[a]? with
  | none => false
  | some q => decide (l.length = q.2.2 ∧ q.2.2 ≤ 64) && (List.range q.2.2).all (fun k => match parseFieldDescriptor (q.2.1 k).2.2.1 with | some ty => decide (l[k]? = some (xkt ty) ∧ xkt ty ≠ 9) | none => false) && xwg Tc (xb1 b) (.classLink me.1.cls idx q.1) && xwg Tc (xb2 b) (.instantiable q.1 q.2.2) && xwg Tc (xb3 b) (.initialized q.1)
def xokGet (Tc : List (List Jvm.Cond)) (cl : List vw_C) (me : xM) (idx a b : Nat) (l : List Nat) : Bool := match cl[a]? with
  | none => false
  | some q => decide (b < q.2.2) && xwg Tc (l.getD 0 0) (.fieldLink me.1.cls idx (q.2.1 b).1 (q.2.1 b).2.1 (q.2.1 b).2.2.1)
def xokPut (Tc : List (List Jvm.Cond)) (cl : List vw_C) (me : xM) (idx a b : Nat) (l : List Nat) : Bool := match cl[a]? with
  | none => false
  | some q => match parseFieldDescriptor (q.2.1 b).2.2.1 with
    | none => false
    | some ty => decide (b < q.2.2) && xwg Tc (l.getD 1 0) (.fieldLink me.1.cls idx (q.2.1 b).1 (q.2.1 b).2.1 (q.2.1 b).2.2.1) && decide ((q.2.1 b).2.2.2 = false ∨ ((q.2.1 b).2.2.2 = true ∧ me.1.name = "<init>" ∧ (q.2.1 b).1 = me.1.cls)) && decide (l.getD 0 9 = xkt ty)
def xokTab (pc a b : Nat) (l : List Nat) (dflt lo hi : Int) (offs : Array Int) : Bool := decide ((a : Int) = lo + 2147483648 ∧ (pc : Int) + dflt = (b : Int) ∧ hi = lo + (l.length : Int) - 1 ∧ offs.toList.map (fun o => (pc : Int) + o) = l.map (fun t : Nat => (t : Int)))
theorem xokTab_of {pc a b : Nat} {l : List Nat} {dflt lo hi : Int} {offs : Array Int} (h : xokTab pc a b l dflt lo hi offs = true) : xTab pc a b l dflt lo hi offs := by
  unfold xokTab at h
  have h := of_decide_eq_true h
  exact h
/-- op, operands and the machine's instruction fit -/
def xokI (Tc : List (List Jvm.Cond)) (Ms : List xM) (cl : List vw_C) (tys : List FieldType) (me : xM) (pc : Nat) (ins : Instr) (len op a b : Nat) (l : List Nat) : Bool := match ins with
  | .iconst i => decide (op = 0 ∧ len = 1) && (decide (Int32.ofInt i = nI a))
  | .bipush i => decide (op = 0 ∧ len = 2) && (decide ((Int8.ofInt i).toInt32 = nI a))
  | .sipush i => decide (op = 0 ∧ len = 3) && (decide ((Int16.ofInt i).toInt32 = nI a))
  | .ldc i => decide (op = 0 ∧ len = 2) && (xwg Tc (l.getD 0 0) (.constant me.1.cls i (nI a)))
  | .ldc_w i => decide (op = 0 ∧ len = 3) && (xwg Tc (l.getD 0 0) (.constant me.1.cls i (nI a)))
  | .lconst i => decide (op = 1 ∧ len = 1) && (decide (Int64.ofNat (i : Nat) = lN a))
  | .ldc2_w i => decide (op = 1 ∧ len = 3) && (xwg Tc (l.getD 0 0) (.constantLong me.1.cls i (lN a)))
  | .aconst_null => decide (op = 2 ∧ len = 1)
  | .iload i => decide (op = 3 ∧ len = 2) && (decide (i = a ∧ b = 0))
  | .iload_n i => decide (op = 3 ∧ len = 1) && (decide ((i : Nat) = a ∧ b = 0))
  | .lload i => decide (op = 3 ∧ len = 2) && (decide (i = a ∧ b = 2))
  | .lload_n i => decide (op = 3 ∧ len = 1) && (decide ((i : Nat) = a ∧ b = 2))
  | .aload i => decide (op = 3 ∧ len = 2) && (decide (i = a ∧ b = 1))
  | .aload_n i => decide (op = 3 ∧ len = 1) && (decide ((i : Nat) = a ∧ b = 1))
  | .istore i => decide (op = 4 ∧ len = 2) && (decide (i = a ∧ b = 0 ∧ a < me.2.2.1))
  | .istore_n i => decide (op = 4 ∧ len = 1) && (decide ((i : Nat) = a ∧ b = 0 ∧ a < me.2.2.1))
  | .lstore i => decide (op = 4 ∧ len = 2) && (decide (i = a ∧ b = 2 ∧ a + 1 < me.2.2.1))
  | .lstore_n i => decide (op = 4 ∧ len = 1) && (decide ((i : Nat) = a ∧ b = 2 ∧ a + 1 < me.2.2.1))
  | .astore i => decide (op = 4 ∧ len = 2) && (decide (i = a ∧ b = 1 ∧ a < me.2.2.1))
  | .astore_n i => decide (op = 4 ∧ len = 1) && (decide ((i : Nat) = a ∧ b = 1 ∧ a < me.2.2.1))
  | .iinc i n => decide (op = 5 ∧ len = 3) && (decide (i = a ∧ Int32.ofInt n = nI b ∧ a < me.2.2.1))
  | .iadd => decide (op = 6 ∧ len = 1) && (decide (a = 0))
  | .isub => decide (op = 6 ∧ len = 1) && (decide (a = 1))
  | .imul => decide (op = 6 ∧ len = 1) && (decide (a = 2))
  | .iand => decide (op = 6 ∧ len = 1) && (decide (a = 3))
  | .ior => decide (op = 6 ∧ len = 1) && (decide (a = 4))
  | .ixor => decide (op = 6 ∧ len = 1) && (decide (a = 5))
  | .ishl => decide (op = 6 ∧ len = 1) && (decide (a = 6))
  | .ishr => decide (op = 6 ∧ len = 1) && (decide (a = 7))
  | .iushr => decide (op = 6 ∧ len = 1) && (decide (a = 8))
  | .idiv => decide (op = 7 ∧ len = 1) && (decide (a = 0))
  | .irem => decide (op = 7 ∧ len = 1) && (decide (a = 1))
  | .ineg => decide (op = 8 ∧ len = 1) && (decide (a = 0))
  | .i2b => decide (op = 8 ∧ len = 1) && (decide (a = 1))
  | .i2s => decide (op = 8 ∧ len = 1) && (decide (a = 2))
  | .i2c => decide (op = 8 ∧ len = 1) && (decide (a = 3))
  | .i2l => decide (op = 9 ∧ len = 1)
  | .l2i => decide (op = 10 ∧ len = 1)
  | .ladd => decide (op = 11 ∧ len = 1) && (decide (a = 0))
  | .lsub => decide (op = 11 ∧ len = 1) && (decide (a = 1))
  | .lmul => decide (op = 11 ∧ len = 1) && (decide (a = 2))
  | .land => decide (op = 11 ∧ len = 1) && (decide (a = 3))
  | .lor => decide (op = 11 ∧ len = 1) && (decide (a = 4))
  | .lxor => decide (op = 11 ∧ len = 1) && (decide (a = 5))
  | .ldiv => decide (op = 12 ∧ len = 1) && (decide (a = 0))
  | .lrem => decide (op = 12 ∧ len = 1) && (decide (a = 1))
  | .lshl => decide (op = 13 ∧ len = 1) && (decide (a = 0))
  | .lshr => decide (op = 13 ∧ len = 1) && (decide (a = 1))
  | .lushr => decide (op = 13 ∧ len = 1) && (decide (a = 2))
  | .lcmp => decide (op = 14 ∧ len = 1)
  | .dup => decide (op = 15 ∧ len = 1)
  | .pop => decide (op = 16 ∧ len = 1)
  | .dup_x1 => decide (op = 17 ∧ len = 1)
  | .dup_x2 => decide (op = 18 ∧ len = 1)
  | .dup2 => decide (op = 19 ∧ len = 1)
  | .ifCond .eq o => decide (op = 20 ∧ len = 3) && (decide ((pc : Int) + o = (b : Int) ∧ a = 0))
  | .ifCond .ne o => decide (op = 20 ∧ len = 3) && (decide ((pc : Int) + o = (b : Int) ∧ a = 1))
  | .ifCond .lt o => decide (op = 20 ∧ len = 3) && (decide ((pc : Int) + o = (b : Int) ∧ a = 2))
  | .ifCond .ge o => decide (op = 20 ∧ len = 3) && (decide ((pc : Int) + o = (b : Int) ∧ a = 3))
  | .ifCond .gt o => decide (op = 20 ∧ len = 3) && (decide ((pc : Int) + o = (b : Int) ∧ a = 4))
  | .ifCond .le o => decide (op = 20 ∧ len = 3) && (decide ((pc : Int) + o = (b : Int) ∧ a = 5))
  | .if_icmp .eq o => decide (op = 21 ∧ len = 3) && (decide ((pc : Int) + o = (b : Int) ∧ a = 0))
  | .if_icmp .ne o => decide (op = 21 ∧ len = 3) && (decide ((pc : Int) + o = (b : Int) ∧ a = 1))
  | .if_icmp .lt o => decide (op = 21 ∧ len = 3) && (decide ((pc : Int) + o = (b : Int) ∧ a = 2))
  | .if_icmp .ge o => decide (op = 21 ∧ len = 3) && (decide ((pc : Int) + o = (b : Int) ∧ a = 3))
  | .if_icmp .gt o => decide (op = 21 ∧ len = 3) && (decide ((pc : Int) + o = (b : Int) ∧ a = 4))
  | .if_icmp .le o => decide (op = 21 ∧ len = 3) && (decide ((pc : Int) + o = (b : Int) ∧ a = 5))
  | .goto o => decide (op = 22 ∧ len = 3) && (decide ((pc : Int) + o = (b : Int)))
  | .ifnull o => decide (op = 23 ∧ len = 3) && (decide ((pc : Int) + o = (b : Int) ∧ a = 0))
  | .ifnonnull o => decide (op = 23 ∧ len = 3) && (decide ((pc : Int) + o = (b : Int) ∧ a = 1))
  | .tableswitch dflt lo hi offs => decide (op = 24) && (xokTab pc a b l dflt lo hi offs)
  | .getfield i => decide (op = 25 ∧ len = 3) && (decide (a < 100) && xokGet Tc cl me i a b l)
  | .putfield i => decide (op = 26 ∧ len = 3) && (decide (a < 100) && xokPut Tc cl me i a b l)
  | .new i => decide (op = 27 ∧ len = 3) && (decide (a < 100) && xokNew Tc cl me i a b l)
  | .newarray t => decide (op = 28 ∧ len = 2) && (decide (100 ≤ a ∧ tys[a - 100]? = some (Jvm.Op.newarray.typeOf t) ∧ b = xkt (Jvm.Op.newarray.typeOf t) ∧ b ≠ 9 ∧ componentBytes (Jvm.Op.newarray.typeOf t) ≤ 8) && xwg Tc (l.getD 0 0) (.arrayClass (Jvm.Op.newarray.typeOf t)))
  | .multianewarray i d => decide (op = 29 ∧ len = 4) && (decide (d = 2 ∧ tys[0]? = some .int ∧ tys[2]? = some (.array .int)) && xwg Tc (l.getD 0 0) (.classLink me.1.cls i ("[" ++ (FieldType.array .int).toString)) && xwg Tc (l.getD 1 0) (.arrayClass .int))
  | .arraylength => decide (op = 30 ∧ len = 1) && (decide (b = 100 + tys.length))
  | .iaload => decide (op = 31 ∧ len = 1) && (decide (100 ≤ a ∧ tys[a - 100]? = some .int))
  | .laload => decide (op = 31 ∧ len = 1) && (decide (100 ≤ a ∧ tys[a - 100]? = some .long))
  | .aaload => decide (op = 31 ∧ len = 1) && (decide (100 ≤ a ∧ tys[a - 100]? = some (.array .int)))
  | .iastore => decide (op = 32 ∧ len = 1) && (decide (100 ≤ a ∧ tys[a - 100]? = some .int ∧ b = 0))
  | .lastore => decide (op = 32 ∧ len = 1) && (decide (100 ≤ a ∧ tys[a - 100]? = some .long ∧ b = 2))
  | .ireturn => decide (op = 35 ∧ len = 1) && (decide ((me.2.2.2.1 = some .int ∧ a = 0) ∨ (me.2.2.2.1 = some .boolean ∧ a = 3)))
  | .lreturn => decide (op = 35 ∧ len = 1) && (decide (me.2.2.2.1 = some .long ∧ a = 2))
  | .return_ => decide (op = 36 ∧ len = 1) && (decide (me.2.2.2.1 = none))
  | .invokestatic i => decide (len = 3) && ((decide (op = 33) && xokCall Tc Ms cl me (.invokestatic i) i 0 a b l) || (decide (op = 37 ∧ 1 ≤ (xR me).frames) && ((decide (a = 0) && xwg Tc (l.getD 0 0) (.methodLink me.1.cls i Lib.Math.min.name) && xwg Tc (l.getD 1 0) (.static Lib.Math.min.name) && xwg Tc (l.getD 2 0) (.code Lib.Math.min.name Lib.Math.min.code 2 (some .int))) || (decide (a = 1) && xwg Tc (l.getD 0 0) (.methodLink me.1.cls i Lib.Math.max.name) && xwg Tc (l.getD 1 0) (.static Lib.Math.max.name) && xwg Tc (l.getD 2 0) (.code Lib.Math.max.name Lib.Math.max.code 2 (some .int)))) && xwg Tc (l.getD 3 0) (.initialized "java/lang/Math")) || (decide (op = 38 ∧ 1 ≤ (xR me).frames ∧ tys[0]? = some .int) && xwg Tc (l.getD 0 0) (.methodLink me.1.cls i arraycopyName) && xwg Tc (l.getD 1 0) (.native arraycopyName) && xwg Tc (l.getD 2 0) (.static arraycopyName) && xwg Tc (l.getD 3 0) (.initialized "java/lang/System")))
  | .invokevirtual i => decide (len = 3) && (decide (op = 33) && xokCall Tc Ms cl me (.invokevirtual i) i 1 a b l)
  | .invokespecial i => decide (len = 3) && ((decide (op = 33) && xokCall Tc Ms cl me (.invokespecial i) i 2 a b l) || (decide (op = 34 ∧ 1 ≤ (xR me).frames) && xwg Tc (l.getD 0 0) (.methodLink me.1.cls i Lib.objectInit) && xwg Tc (l.getD 1 0) (.instanceMethod Lib.objectInit) && xwg Tc (l.getD 2 0) (.code Lib.objectInit ⟨#[0xb1]⟩ 1 none)))
  | _ => false
/-- an entry of a code table: op 60 is never carried out -/
def xoke (Tc : List (List Jvm.Cond)) (Ms : List xM) (cl : List vw_C) (tys : List FieldType) (me : xM) (i : xI) (cs : List xI) : Bool := match decode me.2.1 i.1 with
  | .ok (ins, len) => (Nat.beq i.2.1 60 || xokI Tc Ms cl tys me i.1 ins len i.2.1 i.2.2.1 i.2.2.2.1 i.2.2.2.2) && (match cs with | [] => true | j :: _ => Nat.beq j.1 (i.1 + len))
  | .error _ => false
def xokc (Tc : List (List Jvm.Cond)) (Ms : List xM) (cl : List vw_C) (tys : List FieldType) (me : xM) : List xI → Bool
  | [] => true
  | i :: cs => xoke Tc Ms cl tys me i cs && xokc Tc Ms cl tys me cs
theorem xokc_suf {Tc : List (List Jvm.Cond)} {Ms : List xM} {cl : List vw_C} {tys : List FieldType} {me : xM} {c r : List xI} (h : xokc Tc Ms cl tys me c = true) (hs : r <:+ c) : xokc Tc Ms cl tys me r = true := by
  induction c with
  | nil => rw [List.suffix_nil.mp hs]; rfl
  | cons i c ih =>
    rcases List.suffix_cons_iff.mp hs with rfl | hs
    · exact h
    · exact ih (Bool.and_eq_true_iff.mp h).2 hs
noncomputable def xhs (Ms : List xM) : List (List xHd) := [[xo_iconst, xo_lconst, xo_null, xo_load, xo_store, xo_iinc, xo_ibin, xo_idiv], [xo_iun, xo_i2l, xo_l2i, xo_lbin, xo_ldiv, xo_lsh, xo_lcmp, xo_dup], [xo_pop, xo_dupx1, xo_dupx2, xo_dup2, xo_if, xo_icmp, xo_goto, xo_ifnull], [xo_table, xo_getf, xo_putf, xo_new, xo_newa, xo_mna, xo_alen, xo_ald], [xo_ast, xo_call Ms, xo_oinit, xo_iret, xo_ret, xo_mm, xo_copy]]
noncomputable def xstep (Ms : List xM) (ih : xIh) : xIh := fun me cs A k => match cs with
  | [] => false
  | i :: cs => xnth (xhs Ms) (fun r => xnth r (fun f => f ih me cs i.2.2.1 i.2.2.2.1 i.2.2.2.2 A k) (Nat.mod i.2.1 8)) (Nat.div i.2.1 8)
noncomputable def xrun (Ms : List xM) (n : Nat) : xIh := Nat.rec (motive := fun _ => xIh) (fun _ _ _ _ => false) (fun _ ih => xstep Ms ih) n
/-- what is to hold of the tables -/
def xGl (Tc : List (List Jvm.Cond)) (Ms : List xM) (cl : List vw_C) (tys : List FieldType) : Prop := (∀ (ci : Nat) (C : String) (T : u_T) (N : Nat), cl[ci]? = some (C, T, N) → xTb (xTs Tc) C T N) ∧ ∀ mc ∈ Ms, plainName mc.1.cls = true ∧ xokc Tc Ms cl tys mc (xcd mc) = true ∧ xatp 0 (xcd mc)
section XS
variable {ρ : Nat → Int32} {base : Nat} {F : Nat → Prop} {Tc : List (List Jvm.Cond)} {cl : List vw_C} {tys : List FieldType} {D : va_G} {dA : Nat → ClassId} {la : Launch} {Ms : List xM} {ih : xIh} {me : xM} {cs : List xI} {a b : Nat} {l : List Nat} {A : xA} {k : xK} {pc : Nat}
theorem xs_call {ins : Instr} {idx kind : Nat} (hkd : kind < 3) (hins : ins = (if kind = 0 then .invokestatic idx else if kind = 1 then .invokevirtual idx else .invokespecial idx)) (hG : xGl Tc Ms cl tys) (IH : xIH ρ base F (xTs Tc) (xNs Tc) cl tys D dA la (xokc Tc Ms cl tys) Ms ih) (hme : me ∈ Ms) (hok : xokc Tc Ms cl tys me cs = true) (hnx : xatp (pc + 3) cs) (hd : decode me.2.1 pc = .ok (ins, 3)) (hq : xokCall Tc Ms cl me ins idx kind a b l = true) (h : xo_call Ms ih me cs a b l A k = true) : xGd ρ base F (xTs Tc) (xNs Tc) cl tys D dA la me pc A k := by
  unfold xokCall at hq
  cases hmc : Ms[b]? with
  | none => rw [hmc] at hq; exact absurd hq (by simp)
  | some mc =>
    rw [hmc] at hq
    simp only [] at hq
    cases hsg : parseMethodDescriptor mc.1.desc with
    | none => rw [hsg] at hq; exact absurd hq (by simp)
    | some sg =>
      rw [hsg] at hq
      simp only [Bool.and_eq_true] at hq
      obtain ⟨⟨⟨⟨⟨⟨q1, q2⟩, q3⟩, q4⟩, q5⟩, q6⟩, q7⟩ := hq
      have q2 := of_decide_eq_true q2
      have q3 := of_decide_eq_true q3
      obtain ⟨g1, g2, g3⟩ := hG.2 mc (List.mem_of_getElem? hmc)
      have hlk : Jvm.Cond.methodLink me.1.cls idx mc.1 ∈ xTs Tc ∨ ∃ host, Jvm.Cond.methodLinkNest me.1.cls idx mc.1 host ∈ xNs Tc := by
        split at q6
        · exact Or.inl (xwg_of q6)
        · exact Or.inr ⟨_, xwn_of q6⟩
      refine xl_call (idx := idx) (n := sg.parameters.length) (kind := kind) (xTs_good Tc) (xNs_good Tc) IH hme hok hnx hd hmc ⟨g1, g2, g3, xwg_of q4, xwg_of q5, ⟨q2.1, q2.2, by rw [hsg]; rfl⟩, q3⟩ ?_ h
      by_cases c0 : kind = 0
      · rw [if_pos c0] at q7
        simp only [Bool.and_eq_true] at q7
        exact Or.inl ⟨c0, by rw [hins, if_pos c0], of_decide_eq_true q7.1, xwg_of q7.2, hlk⟩
      · rw [if_neg c0] at q7
        simp only [Bool.and_eq_true] at q7
        obtain ⟨⟨⟨⟨r1, r2⟩, r3⟩, r4⟩, r5⟩ := q7
        have r3 := of_decide_eq_true r3
        have hrc : ∃ ci T N, l.getD 0 0 = ci + 1 ∧ ci < 100 ∧ cl[ci]? = some (mc.1.cls, T, N) := by
          cases hc : cl[l.getD 0 0 - 1]? with
          | none => rw [hc] at r4; exact absurd r4 (by simp)
          | some q =>
            rw [hc] at r4
            have r4 : q.1 = mc.1.cls := of_decide_eq_true r4
            exact ⟨l.getD 0 0 - 1, q.2.1, q.2.2, by omega, by omega, by rw [hc, ← r4]⟩
        by_cases c1 : kind = 1
        · rw [if_pos c1] at r5
          exact Or.inr (Or.inl ⟨c1, by rw [hins, if_neg c0, if_pos c1], of_decide_eq_true r1, xwg_of r2, xwg_of r5, hrc, hlk⟩)
        · rw [if_neg c1] at r5
          have r5 := of_decide_eq_true r5
          exact Or.inr (Or.inr ⟨by omega, by rw [hins, if_neg c0, if_neg c1], of_decide_eq_true r1, r5.1, r5.2, xwg_of r2, hrc, hlk⟩)
theorem xs_get {idx : Nat} (hG : xGl Tc Ms cl tys) (IH : xIH ρ base F (xTs Tc) (xNs Tc) cl tys D dA la (xokc Tc Ms cl tys) Ms ih) (hme : me ∈ Ms) (hok : xokc Tc Ms cl tys me cs = true) (hnx : xatp (pc + 3) cs) (hd : decode me.2.1 pc = .ok (.getfield idx, 3)) (ha : a < 100) (hq : xokGet Tc cl me idx a b l = true) (h : xo_getf ih me cs a b l A k = true) : xGd ρ base F (xTs Tc) (xNs Tc) cl tys D dA la me pc A k := by
  unfold xokGet at hq
  cases hc : cl[a]? with
  | none => rw [hc] at hq; exact absurd hq (by simp)
  | some q =>
    obtain ⟨C, T, N⟩ := q
    rw [hc] at hq
    simp only [Bool.and_eq_true] at hq
    exact xl_getf IH hme hok hnx hd ha hc (of_decide_eq_true hq.1) (hG.1 a C T N hc).1 (xwg_of hq.2) h
theorem xs_put {idx : Nat} (hG : xGl Tc Ms cl tys) (IH : xIH ρ base F (xTs Tc) (xNs Tc) cl tys D dA la (xokc Tc Ms cl tys) Ms ih) (hme : me ∈ Ms) (hok : xokc Tc Ms cl tys me cs = true) (hnx : xatp (pc + 3) cs) (hd : decode me.2.1 pc = .ok (.putfield idx, 3)) (ha : a < 100) (hq : xokPut Tc cl me idx a b l = true) (h : xo_putf ih me cs a b l A k = true) : xGd ρ base F (xTs Tc) (xNs Tc) cl tys D dA la me pc A k := by
  unfold xokPut at hq
  cases hc : cl[a]? with
  | none => rw [hc] at hq; exact absurd hq (by simp)
  | some q =>
    obtain ⟨C, T, N⟩ := q
    rw [hc] at hq
    simp only [] at hq
    cases hp : parseFieldDescriptor (T b).2.2.1 with
    | none => rw [hp] at hq; exact absurd hq (by simp)
    | some ty =>
      rw [hp] at hq
      simp only [Bool.and_eq_true] at hq
      obtain ⟨⟨⟨r1, r2⟩, r3⟩, r4⟩ := hq
      exact xl_putf IH hme hok hnx hd ha hc (of_decide_eq_true r1) (hG.1 a C T N hc) (Or.inl ⟨xwg_of r2, of_decide_eq_true r3⟩) hp (of_decide_eq_true r4) h
theorem xs_new {idx : Nat} (hG : xGl Tc Ms cl tys) (IH : xIH ρ base F (xTs Tc) (xNs Tc) cl tys D dA la (xokc Tc Ms cl tys) Ms ih) (hme : me ∈ Ms) (hok : xokc Tc Ms cl tys me cs = true) (hnx : xatp (pc + 3) cs) (hd : decode me.2.1 pc = .ok (.new idx, 3)) (ha : a < 100) (hq : xokNew Tc cl me idx a b l = true) (h : xo_new ih me cs a b l A k = true) : xGd ρ base F (xTs Tc) (xNs Tc) cl tys D dA la me pc A k := by
  unfold xokNew at hq
  cases hc : cl[a]? with
  | none => rw [hc] at hq; exact absurd hq (by simp)
  | some q =>
    obtain ⟨C, T, N⟩ := q
    rw [hc] at hq
    simp only [Bool.and_eq_true] at hq
    obtain ⟨⟨⟨⟨r1, r2⟩, r3⟩, r4⟩, r5⟩ := hq
    have r1 := of_decide_eq_true r1
    obtain ⟨hu, ⟨ty, hty⟩, -⟩ := hG.1 a C T N hc
    refine xl_new ty IH hme hok hnx hd ha hc hu hty r1.1 r1.2 (fun j hj => ?_) (xwg_of r3) (xwg_of r4) (xwg_of r5) h
    have := List.all_eq_true.mp r2 j (List.mem_range.mpr hj)
    rw [hty j hj] at this
    exact of_decide_eq_true this
set_option maxHeartbeats 4000000 in
theorem xstep_ok (hG : xGl Tc Ms cl tys) (IH : xIH ρ base F (xTs Tc) (xNs Tc) cl tys D dA la (xokc Tc Ms cl tys) Ms ih) : xIH ρ base F (xTs Tc) (xNs Tc) cl tys D dA la (xokc Tc Ms cl tys) Ms (xstep Ms ih) := by
  intro me cs A k pc hme h0 hokc hat
  cases cs with
  | nil => exact absurd h0 (by simp [xstep])
  | cons i cs =>
    obtain ⟨pc', op, a, b, l⟩ := i
    have hpc : pc' = pc := hat _ _ rfl
    obtain rfl : pc = pc' := hpc.symm
    have h : xnth (xhs Ms) (fun r => xnth r (fun f => f ih me cs a b l A k) (Nat.mod op 8)) (Nat.div op 8) = true := h0
    obtain ⟨hoke, hok⟩ := Bool.and_eq_true_iff.mp hokc
    have hj : ∀ i r, (i :: r) <:+ xcd me → xokc Tc Ms cl tys me (i :: r) = true := fun i r hs => xokc_suf (hG.2 me hme).2.1 hs
    unfold xoke at hoke
    simp only [] at hoke
    split at hoke
    · next ins len hd =>
      obtain ⟨hI0, hnx0⟩ := Bool.and_eq_true_iff.mp hoke
      have hnx : xatp (pc + len) cs := by
        intro j r e
        subst e
        exact Nat.eq_of_beq_eq_true hnx0
      rcases Bool.or_eq_true_iff.mp hI0 with q60 | hI
      · have e60 := Nat.eq_of_beq_eq_true q60
        subst e60
        exact absurd h (by change ¬ (false = true); decide)
      · clear hI0 hoke h0
        cases ins
        case iconst i =>
          obtain ⟨hq0, hq⟩ := Bool.and_eq_true_iff.mp (show (decide (op = 0 ∧ len = 1) && (decide (Int32.ofInt i = nI a))) = true from hI)
          obtain ⟨rfl, rfl⟩ := of_decide_eq_true hq0
          exact xl_iconst (a := a) (b := b) (l := l) IH hme hok hnx hd (of_decide_eq_true hq) h
        case bipush i =>
          obtain ⟨hq0, hq⟩ := Bool.and_eq_true_iff.mp (show (decide (op = 0 ∧ len = 2) && (decide ((Int8.ofInt i).toInt32 = nI a))) = true from hI)
          obtain ⟨rfl, rfl⟩ := of_decide_eq_true hq0
          exact xl_bipush (a := a) (b := b) (l := l) IH hme hok hnx hd (of_decide_eq_true hq) h
        case sipush i =>
          obtain ⟨hq0, hq⟩ := Bool.and_eq_true_iff.mp (show (decide (op = 0 ∧ len = 3) && (decide ((Int16.ofInt i).toInt32 = nI a))) = true from hI)
          obtain ⟨rfl, rfl⟩ := of_decide_eq_true hq0
          exact xl_sipush (a := a) (b := b) (l := l) IH hme hok hnx hd (of_decide_eq_true hq) h
        case ldc i =>
          obtain ⟨hq0, hq⟩ := Bool.and_eq_true_iff.mp (show (decide (op = 0 ∧ len = 2) && (xwg Tc (l.getD 0 0) (.constant me.1.cls i (nI a)))) = true from hI)
          obtain ⟨rfl, rfl⟩ := of_decide_eq_true hq0
          exact xl_ldc (a := a) (b := b) (l := l) IH hme hok hnx hd (xwg_of hq) h
        case ldc_w i =>
          obtain ⟨hq0, hq⟩ := Bool.and_eq_true_iff.mp (show (decide (op = 0 ∧ len = 3) && (xwg Tc (l.getD 0 0) (.constant me.1.cls i (nI a)))) = true from hI)
          obtain ⟨rfl, rfl⟩ := of_decide_eq_true hq0
          exact xl_ldcw (a := a) (b := b) (l := l) IH hme hok hnx hd (xwg_of hq) h
        case lconst i =>
          obtain ⟨hq0, hq⟩ := Bool.and_eq_true_iff.mp (show (decide (op = 1 ∧ len = 1) && (decide (Int64.ofNat (i : Nat) = lN a))) = true from hI)
          obtain ⟨rfl, rfl⟩ := of_decide_eq_true hq0
          exact xl_lconst (a := a) (b := b) (l := l) IH hme hok hnx hd (of_decide_eq_true hq) h
        case ldc2_w i =>
          obtain ⟨hq0, hq⟩ := Bool.and_eq_true_iff.mp (show (decide (op = 1 ∧ len = 3) && (xwg Tc (l.getD 0 0) (.constantLong me.1.cls i (lN a)))) = true from hI)
          obtain ⟨rfl, rfl⟩ := of_decide_eq_true hq0
          exact xl_ldc2 (a := a) (b := b) (l := l) IH hme hok hnx hd (xwg_of hq) h
        case aconst_null =>
          obtain ⟨rfl, rfl⟩ := of_decide_eq_true (show decide (op = 2 ∧ len = 1) = true from hI)
          exact xl_null (a := a) (b := b) (l := l) IH hme hok hnx hd h
        case iload i =>
          obtain ⟨hq0, hq⟩ := Bool.and_eq_true_iff.mp (show (decide (op = 3 ∧ len = 2) && (decide (i = a ∧ b = 0))) = true from hI)
          obtain ⟨rfl, rfl⟩ := of_decide_eq_true hq0
          exact xl_iload (a := a) (b := b) (l := l) IH hme hok hnx hd (of_decide_eq_true hq).1 (of_decide_eq_true hq).2 h
        case iload_n i =>
          obtain ⟨hq0, hq⟩ := Bool.and_eq_true_iff.mp (show (decide (op = 3 ∧ len = 1) && (decide ((i : Nat) = a ∧ b = 0))) = true from hI)
          obtain ⟨rfl, rfl⟩ := of_decide_eq_true hq0
          exact xl_iload_n (a := a) (b := b) (l := l) IH hme hok hnx hd (of_decide_eq_true hq).1 (of_decide_eq_true hq).2 h
        case lload i =>
          obtain ⟨hq0, hq⟩ := Bool.and_eq_true_iff.mp (show (decide (op = 3 ∧ len = 2) && (decide (i = a ∧ b = 2))) = true from hI)
          obtain ⟨rfl, rfl⟩ := of_decide_eq_true hq0
          exact xl_lload (a := a) (b := b) (l := l) IH hme hok hnx hd (of_decide_eq_true hq).1 (of_decide_eq_true hq).2 h
        case lload_n i =>
          obtain ⟨hq0, hq⟩ := Bool.and_eq_true_iff.mp (show (decide (op = 3 ∧ len = 1) && (decide ((i : Nat) = a ∧ b = 2))) = true from hI)
          obtain ⟨rfl, rfl⟩ := of_decide_eq_true hq0
          exact xl_lload_n (a := a) (b := b) (l := l) IH hme hok hnx hd (of_decide_eq_true hq).1 (of_decide_eq_true hq).2 h
        case aload i =>
          obtain ⟨hq0, hq⟩ := Bool.and_eq_true_iff.mp (show (decide (op = 3 ∧ len = 2) && (decide (i = a ∧ b = 1))) = true from hI)
          obtain ⟨rfl, rfl⟩ := of_decide_eq_true hq0
          exact xl_aload (a := a) (b := b) (l := l) IH hme hok hnx hd (of_decide_eq_true hq).1 (of_decide_eq_true hq).2 h
        case aload_n i =>
          obtain ⟨hq0, hq⟩ := Bool.and_eq_true_iff.mp (show (decide (op = 3 ∧ len = 1) && (decide ((i : Nat) = a ∧ b = 1))) = true from hI)
          obtain ⟨rfl, rfl⟩ := of_decide_eq_true hq0
          exact xl_aload_n (a := a) (b := b) (l := l) IH hme hok hnx hd (of_decide_eq_true hq).1 (of_decide_eq_true hq).2 h
        case istore i =>
          obtain ⟨hq0, hq⟩ := Bool.and_eq_true_iff.mp (show (decide (op = 4 ∧ len = 2) && (decide (i = a ∧ b = 0 ∧ a < me.2.2.1))) = true from hI)
          obtain ⟨rfl, rfl⟩ := of_decide_eq_true hq0
          exact xl_istore (a := a) (b := b) (l := l) IH hme hok hnx ((of_decide_eq_true hq).1 ▸ hd) (of_decide_eq_true hq).2.1 (of_decide_eq_true hq).2.2 h
        case istore_n i =>
          obtain ⟨hq0, hq⟩ := Bool.and_eq_true_iff.mp (show (decide (op = 4 ∧ len = 1) && (decide ((i : Nat) = a ∧ b = 0 ∧ a < me.2.2.1))) = true from hI)
          obtain ⟨rfl, rfl⟩ := of_decide_eq_true hq0
          exact xl_istore_n (a := a) (b := b) (l := l) IH hme hok hnx hd (of_decide_eq_true hq).1 (of_decide_eq_true hq).2.1 (of_decide_eq_true hq).2.2 h
        case lstore i =>
          obtain ⟨hq0, hq⟩ := Bool.and_eq_true_iff.mp (show (decide (op = 4 ∧ len = 2) && (decide (i = a ∧ b = 2 ∧ a + 1 < me.2.2.1))) = true from hI)
          obtain ⟨rfl, rfl⟩ := of_decide_eq_true hq0
          exact xl_lstore (a := a) (b := b) (l := l) IH hme hok hnx ((of_decide_eq_true hq).1 ▸ hd) (of_decide_eq_true hq).2.1 (of_decide_eq_true hq).2.2 h
        case lstore_n i =>
          obtain ⟨hq0, hq⟩ := Bool.and_eq_true_iff.mp (show (decide (op = 4 ∧ len = 1) && (decide ((i : Nat) = a ∧ b = 2 ∧ a + 1 < me.2.2.1))) = true from hI)
          obtain ⟨rfl, rfl⟩ := of_decide_eq_true hq0
          exact xl_lstore_n (a := a) (b := b) (l := l) IH hme hok hnx hd (of_decide_eq_true hq).1 (of_decide_eq_true hq).2.1 (of_decide_eq_true hq).2.2 h
        case astore i =>
          obtain ⟨hq0, hq⟩ := Bool.and_eq_true_iff.mp (show (decide (op = 4 ∧ len = 2) && (decide (i = a ∧ b = 1 ∧ a < me.2.2.1))) = true from hI)
          obtain ⟨rfl, rfl⟩ := of_decide_eq_true hq0
          exact xl_astore (a := a) (b := b) (l := l) IH hme hok hnx ((of_decide_eq_true hq).1 ▸ hd) (of_decide_eq_true hq).2.1 (of_decide_eq_true hq).2.2 h
        case astore_n i =>
          obtain ⟨hq0, hq⟩ := Bool.and_eq_true_iff.mp (show (decide (op = 4 ∧ len = 1) && (decide ((i : Nat) = a ∧ b = 1 ∧ a < me.2.2.1))) = true from hI)
          obtain ⟨rfl, rfl⟩ := of_decide_eq_true hq0
          exact xl_astore_n (a := a) (b := b) (l := l) IH hme hok hnx hd (of_decide_eq_true hq).1 (of_decide_eq_true hq).2.1 (of_decide_eq_true hq).2.2 h
        case iinc i n =>
          obtain ⟨hq0, hq⟩ := Bool.and_eq_true_iff.mp (show (decide (op = 5 ∧ len = 3) && (decide (i = a ∧ Int32.ofInt n = nI b ∧ a < me.2.2.1))) = true from hI)
          obtain ⟨rfl, rfl⟩ := of_decide_eq_true hq0
          exact xl_iinc (a := a) (b := b) (l := l) IH hme hok hnx ((of_decide_eq_true hq).1 ▸ hd) (of_decide_eq_true hq).2.1 (of_decide_eq_true hq).2.2 h
        case iadd =>
          obtain ⟨hq0, hq⟩ := Bool.and_eq_true_iff.mp (show (decide (op = 6 ∧ len = 1) && (decide (a = 0))) = true from hI)
          obtain ⟨rfl, rfl⟩ := of_decide_eq_true hq0
          exact xl_iadd (a := a) (b := b) (l := l) IH hme hok hnx hd (of_decide_eq_true hq) h
        case isub =>
          obtain ⟨hq0, hq⟩ := Bool.and_eq_true_iff.mp (show (decide (op = 6 ∧ len = 1) && (decide (a = 1))) = true from hI)
          obtain ⟨rfl, rfl⟩ := of_decide_eq_true hq0
          exact xl_isub (a := a) (b := b) (l := l) IH hme hok hnx hd (of_decide_eq_true hq) h
        case imul =>
          obtain ⟨hq0, hq⟩ := Bool.and_eq_true_iff.mp (show (decide (op = 6 ∧ len = 1) && (decide (a = 2))) = true from hI)
          obtain ⟨rfl, rfl⟩ := of_decide_eq_true hq0
          exact xl_imul (a := a) (b := b) (l := l) IH hme hok hnx hd (of_decide_eq_true hq) h
        case iand =>
          obtain ⟨hq0, hq⟩ := Bool.and_eq_true_iff.mp (show (decide (op = 6 ∧ len = 1) && (decide (a = 3))) = true from hI)
          obtain ⟨rfl, rfl⟩ := of_decide_eq_true hq0
          exact xl_iand (a := a) (b := b) (l := l) IH hme hok hnx hd (of_decide_eq_true hq) h
        case ior =>
          obtain ⟨hq0, hq⟩ := Bool.and_eq_true_iff.mp (show (decide (op = 6 ∧ len = 1) && (decide (a = 4))) = true from hI)
          obtain ⟨rfl, rfl⟩ := of_decide_eq_true hq0
          exact xl_ior (a := a) (b := b) (l := l) IH hme hok hnx hd (of_decide_eq_true hq) h
        case ixor =>
          obtain ⟨hq0, hq⟩ := Bool.and_eq_true_iff.mp (show (decide (op = 6 ∧ len = 1) && (decide (a = 5))) = true from hI)
          obtain ⟨rfl, rfl⟩ := of_decide_eq_true hq0
          exact xl_ixor (a := a) (b := b) (l := l) IH hme hok hnx hd (of_decide_eq_true hq) h
        case ishl =>
          obtain ⟨hq0, hq⟩ := Bool.and_eq_true_iff.mp (show (decide (op = 6 ∧ len = 1) && (decide (a = 6))) = true from hI)
          obtain ⟨rfl, rfl⟩ := of_decide_eq_true hq0
          exact xl_ishl (a := a) (b := b) (l := l) IH hme hok hnx hd (of_decide_eq_true hq) h
        case ishr =>
          obtain ⟨hq0, hq⟩ := Bool.and_eq_true_iff.mp (show (decide (op = 6 ∧ len = 1) && (decide (a = 7))) = true from hI)
          obtain ⟨rfl, rfl⟩ := of_decide_eq_true hq0
          exact xl_ishr (a := a) (b := b) (l := l) IH hme hok hnx hd (of_decide_eq_true hq) h
        case iushr =>
          obtain ⟨hq0, hq⟩ := Bool.and_eq_true_iff.mp (show (decide (op = 6 ∧ len = 1) && (decide (a = 8))) = true from hI)
          obtain ⟨rfl, rfl⟩ := of_decide_eq_true hq0
          exact xl_iushr (a := a) (b := b) (l := l) IH hme hok hnx hd (of_decide_eq_true hq) h
        case idiv =>
          obtain ⟨hq0, hq⟩ := Bool.and_eq_true_iff.mp (show (decide (op = 7 ∧ len = 1) && (decide (a = 0))) = true from hI)
          obtain ⟨rfl, rfl⟩ := of_decide_eq_true hq0
          exact xl_idiv (a := a) (b := b) (l := l) IH hme hok hnx hd (of_decide_eq_true hq) h
        case irem =>
          obtain ⟨hq0, hq⟩ := Bool.and_eq_true_iff.mp (show (decide (op = 7 ∧ len = 1) && (decide (a = 1))) = true from hI)
          obtain ⟨rfl, rfl⟩ := of_decide_eq_true hq0
          exact xl_irem (a := a) (b := b) (l := l) IH hme hok hnx hd (of_decide_eq_true hq) h
        case ineg =>
          obtain ⟨hq0, hq⟩ := Bool.and_eq_true_iff.mp (show (decide (op = 8 ∧ len = 1) && (decide (a = 0))) = true from hI)
          obtain ⟨rfl, rfl⟩ := of_decide_eq_true hq0
          exact xl_ineg (a := a) (b := b) (l := l) IH hme hok hnx hd (of_decide_eq_true hq) h
        case i2b =>
          obtain ⟨hq0, hq⟩ := Bool.and_eq_true_iff.mp (show (decide (op = 8 ∧ len = 1) && (decide (a = 1))) = true from hI)
          obtain ⟨rfl, rfl⟩ := of_decide_eq_true hq0
          exact xl_i2b (a := a) (b := b) (l := l) IH hme hok hnx hd (of_decide_eq_true hq) h
        case i2s =>
          obtain ⟨hq0, hq⟩ := Bool.and_eq_true_iff.mp (show (decide (op = 8 ∧ len = 1) && (decide (a = 2))) = true from hI)
          obtain ⟨rfl, rfl⟩ := of_decide_eq_true hq0
          exact xl_i2s (a := a) (b := b) (l := l) IH hme hok hnx hd (of_decide_eq_true hq) h
        case i2c =>
          obtain ⟨hq0, hq⟩ := Bool.and_eq_true_iff.mp (show (decide (op = 8 ∧ len = 1) && (decide (a = 3))) = true from hI)
          obtain ⟨rfl, rfl⟩ := of_decide_eq_true hq0
          exact xl_i2c (a := a) (b := b) (l := l) IH hme hok hnx hd (of_decide_eq_true hq) h
        case i2l =>
          obtain ⟨rfl, rfl⟩ := of_decide_eq_true (show decide (op = 9 ∧ len = 1) = true from hI)
          exact xl_i2l (a := a) (b := b) (l := l) IH hme hok hnx hd h
        case l2i =>
          obtain ⟨rfl, rfl⟩ := of_decide_eq_true (show decide (op = 10 ∧ len = 1) = true from hI)
          exact xl_l2i (a := a) (b := b) (l := l) IH hme hok hnx hd h
        case ladd =>
          obtain ⟨hq0, hq⟩ := Bool.and_eq_true_iff.mp (show (decide (op = 11 ∧ len = 1) && (decide (a = 0))) = true from hI)
          obtain ⟨rfl, rfl⟩ := of_decide_eq_true hq0
          exact xl_ladd (a := a) (b := b) (l := l) IH hme hok hnx hd (of_decide_eq_true hq) h
        case lsub =>
          obtain ⟨hq0, hq⟩ := Bool.and_eq_true_iff.mp (show (decide (op = 11 ∧ len = 1) && (decide (a = 1))) = true from hI)
          obtain ⟨rfl, rfl⟩ := of_decide_eq_true hq0
          exact xl_lsub (a := a) (b := b) (l := l) IH hme hok hnx hd (of_decide_eq_true hq) h
        case lmul =>
          obtain ⟨hq0, hq⟩ := Bool.and_eq_true_iff.mp (show (decide (op = 11 ∧ len = 1) && (decide (a = 2))) = true from hI)
          obtain ⟨rfl, rfl⟩ := of_decide_eq_true hq0
          exact xl_lmul (a := a) (b := b) (l := l) IH hme hok hnx hd (of_decide_eq_true hq) h
        case land =>
          obtain ⟨hq0, hq⟩ := Bool.and_eq_true_iff.mp (show (decide (op = 11 ∧ len = 1) && (decide (a = 3))) = true from hI)
          obtain ⟨rfl, rfl⟩ := of_decide_eq_true hq0
          exact xl_land (a := a) (b := b) (l := l) IH hme hok hnx hd (of_decide_eq_true hq) h
        case lor =>
          obtain ⟨hq0, hq⟩ := Bool.and_eq_true_iff.mp (show (decide (op = 11 ∧ len = 1) && (decide (a = 4))) = true from hI)
          obtain ⟨rfl, rfl⟩ := of_decide_eq_true hq0
          exact xl_lor (a := a) (b := b) (l := l) IH hme hok hnx hd (of_decide_eq_true hq) h
        case lxor =>
          obtain ⟨hq0, hq⟩ := Bool.and_eq_true_iff.mp (show (decide (op = 11 ∧ len = 1) && (decide (a = 5))) = true from hI)
          obtain ⟨rfl, rfl⟩ := of_decide_eq_true hq0
          exact xl_lxor (a := a) (b := b) (l := l) IH hme hok hnx hd (of_decide_eq_true hq) h
        case ldiv =>
          obtain ⟨hq0, hq⟩ := Bool.and_eq_true_iff.mp (show (decide (op = 12 ∧ len = 1) && (decide (a = 0))) = true from hI)
          obtain ⟨rfl, rfl⟩ := of_decide_eq_true hq0
          exact xl_ldiv (a := a) (b := b) (l := l) IH hme hok hnx hd (of_decide_eq_true hq) h
        case lrem =>
          obtain ⟨hq0, hq⟩ := Bool.and_eq_true_iff.mp (show (decide (op = 12 ∧ len = 1) && (decide (a = 1))) = true from hI)
          obtain ⟨rfl, rfl⟩ := of_decide_eq_true hq0
          exact xl_lrem (a := a) (b := b) (l := l) IH hme hok hnx hd (of_decide_eq_true hq) h
        case lshl =>
          obtain ⟨hq0, hq⟩ := Bool.and_eq_true_iff.mp (show (decide (op = 13 ∧ len = 1) && (decide (a = 0))) = true from hI)
          obtain ⟨rfl, rfl⟩ := of_decide_eq_true hq0
          exact xl_lshl (a := a) (b := b) (l := l) IH hme hok hnx hd (of_decide_eq_true hq) h
        case lshr =>
          obtain ⟨hq0, hq⟩ := Bool.and_eq_true_iff.mp (show (decide (op = 13 ∧ len = 1) && (decide (a = 1))) = true from hI)
          obtain ⟨rfl, rfl⟩ := of_decide_eq_true hq0
          exact xl_lshr (a := a) (b := b) (l := l) IH hme hok hnx hd (of_decide_eq_true hq) h
        case lushr =>
          obtain ⟨hq0, hq⟩ := Bool.and_eq_true_iff.mp (show (decide (op = 13 ∧ len = 1) && (decide (a = 2))) = true from hI)
          obtain ⟨rfl, rfl⟩ := of_decide_eq_true hq0
          exact xl_lushr (a := a) (b := b) (l := l) IH hme hok hnx hd (of_decide_eq_true hq) h
        case lcmp =>
          obtain ⟨rfl, rfl⟩ := of_decide_eq_true (show decide (op = 14 ∧ len = 1) = true from hI)
          exact xl_lcmp (a := a) (b := b) (l := l) IH hme hok hnx hd h
        case dup =>
          obtain ⟨rfl, rfl⟩ := of_decide_eq_true (show decide (op = 15 ∧ len = 1) = true from hI)
          exact xl_dup (a := a) (b := b) (l := l) IH hme hok hnx hd h
        case pop =>
          obtain ⟨rfl, rfl⟩ := of_decide_eq_true (show decide (op = 16 ∧ len = 1) = true from hI)
          exact xl_pop (a := a) (b := b) (l := l) IH hme hok hnx hd h
        case dup_x1 =>
          obtain ⟨rfl, rfl⟩ := of_decide_eq_true (show decide (op = 17 ∧ len = 1) = true from hI)
          exact xl_dupx1 (a := a) (b := b) (l := l) IH hme hok hnx hd h
        case dup_x2 =>
          obtain ⟨rfl, rfl⟩ := of_decide_eq_true (show decide (op = 18 ∧ len = 1) = true from hI)
          exact xl_dupx2 (a := a) (b := b) (l := l) IH hme hok hnx hd h
        case dup2 =>
          obtain ⟨rfl, rfl⟩ := of_decide_eq_true (show decide (op = 19 ∧ len = 1) = true from hI)
          exact xl_dup2 (a := a) (b := b) (l := l) IH hme hok hnx hd h
        case ifCond cnd o =>
          cases cnd
          case eq =>
            obtain ⟨hq0, hq⟩ := Bool.and_eq_true_iff.mp (show (decide (op = 20 ∧ len = 3) && (decide ((pc : Int) + o = (b : Int) ∧ a = 0))) = true from hI)
            obtain ⟨rfl, rfl⟩ := of_decide_eq_true hq0
            exact xl_if_eq (a := a) (b := b) (l := l) hj IH hme hok hnx hd (of_decide_eq_true hq).1 (of_decide_eq_true hq).2 h
          case ne =>
            obtain ⟨hq0, hq⟩ := Bool.and_eq_true_iff.mp (show (decide (op = 20 ∧ len = 3) && (decide ((pc : Int) + o = (b : Int) ∧ a = 1))) = true from hI)
            obtain ⟨rfl, rfl⟩ := of_decide_eq_true hq0
            exact xl_if_ne (a := a) (b := b) (l := l) hj IH hme hok hnx hd (of_decide_eq_true hq).1 (of_decide_eq_true hq).2 h
          case lt =>
            obtain ⟨hq0, hq⟩ := Bool.and_eq_true_iff.mp (show (decide (op = 20 ∧ len = 3) && (decide ((pc : Int) + o = (b : Int) ∧ a = 2))) = true from hI)
            obtain ⟨rfl, rfl⟩ := of_decide_eq_true hq0
            exact xl_if_lt (a := a) (b := b) (l := l) hj IH hme hok hnx hd (of_decide_eq_true hq).1 (of_decide_eq_true hq).2 h
          case ge =>
            obtain ⟨hq0, hq⟩ := Bool.and_eq_true_iff.mp (show (decide (op = 20 ∧ len = 3) && (decide ((pc : Int) + o = (b : Int) ∧ a = 3))) = true from hI)
            obtain ⟨rfl, rfl⟩ := of_decide_eq_true hq0
            exact xl_if_ge (a := a) (b := b) (l := l) hj IH hme hok hnx hd (of_decide_eq_true hq).1 (of_decide_eq_true hq).2 h
          case gt =>
            obtain ⟨hq0, hq⟩ := Bool.and_eq_true_iff.mp (show (decide (op = 20 ∧ len = 3) && (decide ((pc : Int) + o = (b : Int) ∧ a = 4))) = true from hI)
            obtain ⟨rfl, rfl⟩ := of_decide_eq_true hq0
            exact xl_if_gt (a := a) (b := b) (l := l) hj IH hme hok hnx hd (of_decide_eq_true hq).1 (of_decide_eq_true hq).2 h
          case le =>
            obtain ⟨hq0, hq⟩ := Bool.and_eq_true_iff.mp (show (decide (op = 20 ∧ len = 3) && (decide ((pc : Int) + o = (b : Int) ∧ a = 5))) = true from hI)
            obtain ⟨rfl, rfl⟩ := of_decide_eq_true hq0
            exact xl_if_le (a := a) (b := b) (l := l) hj IH hme hok hnx hd (of_decide_eq_true hq).1 (of_decide_eq_true hq).2 h
        case if_icmp cnd o =>
          cases cnd
          case eq =>
            obtain ⟨hq0, hq⟩ := Bool.and_eq_true_iff.mp (show (decide (op = 21 ∧ len = 3) && (decide ((pc : Int) + o = (b : Int) ∧ a = 0))) = true from hI)
            obtain ⟨rfl, rfl⟩ := of_decide_eq_true hq0
            exact xl_icmp_eq (a := a) (b := b) (l := l) hj IH hme hok hnx hd (of_decide_eq_true hq).1 (of_decide_eq_true hq).2 h
          case ne =>
            obtain ⟨hq0, hq⟩ := Bool.and_eq_true_iff.mp (show (decide (op = 21 ∧ len = 3) && (decide ((pc : Int) + o = (b : Int) ∧ a = 1))) = true from hI)
            obtain ⟨rfl, rfl⟩ := of_decide_eq_true hq0
            exact xl_icmp_ne (a := a) (b := b) (l := l) hj IH hme hok hnx hd (of_decide_eq_true hq).1 (of_decide_eq_true hq).2 h
          case lt =>
            obtain ⟨hq0, hq⟩ := Bool.and_eq_true_iff.mp (show (decide (op = 21 ∧ len = 3) && (decide ((pc : Int) + o = (b : Int) ∧ a = 2))) = true from hI)
            obtain ⟨rfl, rfl⟩ := of_decide_eq_true hq0
            exact xl_icmp_lt (a := a) (b := b) (l := l) hj IH hme hok hnx hd (of_decide_eq_true hq).1 (of_decide_eq_true hq).2 h
          case ge =>
            obtain ⟨hq0, hq⟩ := Bool.and_eq_true_iff.mp (show (decide (op = 21 ∧ len = 3) && (decide ((pc : Int) + o = (b : Int) ∧ a = 3))) = true from hI)
            obtain ⟨rfl, rfl⟩ := of_decide_eq_true hq0
            exact xl_icmp_ge (a := a) (b := b) (l := l) hj IH hme hok hnx hd (of_decide_eq_true hq).1 (of_decide_eq_true hq).2 h
          case gt =>
            obtain ⟨hq0, hq⟩ := Bool.and_eq_true_iff.mp (show (decide (op = 21 ∧ len = 3) && (decide ((pc : Int) + o = (b : Int) ∧ a = 4))) = true from hI)
            obtain ⟨rfl, rfl⟩ := of_decide_eq_true hq0
            exact xl_icmp_gt (a := a) (b := b) (l := l) hj IH hme hok hnx hd (of_decide_eq_true hq).1 (of_decide_eq_true hq).2 h
          case le =>
            obtain ⟨hq0, hq⟩ := Bool.and_eq_true_iff.mp (show (decide (op = 21 ∧ len = 3) && (decide ((pc : Int) + o = (b : Int) ∧ a = 5))) = true from hI)
            obtain ⟨rfl, rfl⟩ := of_decide_eq_true hq0
            exact xl_icmp_le (a := a) (b := b) (l := l) hj IH hme hok hnx hd (of_decide_eq_true hq).1 (of_decide_eq_true hq).2 h
        case goto o =>
          obtain ⟨hq0, hq⟩ := Bool.and_eq_true_iff.mp (show (decide (op = 22 ∧ len = 3) && (decide ((pc : Int) + o = (b : Int)))) = true from hI)
          obtain ⟨rfl, rfl⟩ := of_decide_eq_true hq0
          exact xl_goto (a := a) (b := b) (l := l) (cs := cs) hj IH hme hd (of_decide_eq_true hq) h
        case ifnull o =>
          obtain ⟨hq0, hq⟩ := Bool.and_eq_true_iff.mp (show (decide (op = 23 ∧ len = 3) && (decide ((pc : Int) + o = (b : Int) ∧ a = 0))) = true from hI)
          obtain ⟨rfl, rfl⟩ := of_decide_eq_true hq0
          exact xl_ifnull (a := a) (b := b) (l := l) hj IH hme hok hnx hd (of_decide_eq_true hq).1 (of_decide_eq_true hq).2 h
        case ifnonnull o =>
          obtain ⟨hq0, hq⟩ := Bool.and_eq_true_iff.mp (show (decide (op = 23 ∧ len = 3) && (decide ((pc : Int) + o = (b : Int) ∧ a = 1))) = true from hI)
          obtain ⟨rfl, rfl⟩ := of_decide_eq_true hq0
          exact xl_ifnonnull (a := a) (b := b) (l := l) hj IH hme hok hnx hd (of_decide_eq_true hq).1 (of_decide_eq_true hq).2 h
        case tableswitch dflt lo hi offs =>
          obtain ⟨hq0, hq⟩ := Bool.and_eq_true_iff.mp (show (decide (op = 24) && (xokTab pc a b l dflt lo hi offs)) = true from hI)
          obtain rfl := of_decide_eq_true hq0
          exact xl_table (a := a) (b := b) (l := l) (cs := cs) hj IH hme hd (xokTab_of hq) h
        case getfield i =>
          obtain ⟨hq0, hq⟩ := Bool.and_eq_true_iff.mp (show (decide (op = 25 ∧ len = 3) && (decide (a < 100) && xokGet Tc cl me i a b l)) = true from hI)
          obtain ⟨rfl, rfl⟩ := of_decide_eq_true hq0
          exact xs_get (a := a) (b := b) (l := l) hG IH hme hok hnx hd (of_decide_eq_true (Bool.and_eq_true_iff.mp hq).1) (Bool.and_eq_true_iff.mp hq).2 h
        case putfield i =>
          obtain ⟨hq0, hq⟩ := Bool.and_eq_true_iff.mp (show (decide (op = 26 ∧ len = 3) && (decide (a < 100) && xokPut Tc cl me i a b l)) = true from hI)
          obtain ⟨rfl, rfl⟩ := of_decide_eq_true hq0
          exact xs_put (a := a) (b := b) (l := l) hG IH hme hok hnx hd (of_decide_eq_true (Bool.and_eq_true_iff.mp hq).1) (Bool.and_eq_true_iff.mp hq).2 h
        case new i =>
          obtain ⟨hq0, hq⟩ := Bool.and_eq_true_iff.mp (show (decide (op = 27 ∧ len = 3) && (decide (a < 100) && xokNew Tc cl me i a b l)) = true from hI)
          obtain ⟨rfl, rfl⟩ := of_decide_eq_true hq0
          exact xs_new (a := a) (b := b) (l := l) hG IH hme hok hnx hd (of_decide_eq_true (Bool.and_eq_true_iff.mp hq).1) (Bool.and_eq_true_iff.mp hq).2 h
        case newarray t =>
          obtain ⟨hq0, hq⟩ := Bool.and_eq_true_iff.mp (show (decide (op = 28 ∧ len = 2) && (decide (100 ≤ a ∧ tys[a - 100]? = some (Jvm.Op.newarray.typeOf t) ∧ b = xkt (Jvm.Op.newarray.typeOf t) ∧ b ≠ 9 ∧ componentBytes (Jvm.Op.newarray.typeOf t) ≤ 8) && xwg Tc (l.getD 0 0) (.arrayClass (Jvm.Op.newarray.typeOf t)))) = true from hI)
          obtain ⟨rfl, rfl⟩ := of_decide_eq_true hq0
          obtain ⟨r1, r2⟩ := Bool.and_eq_true_iff.mp hq
          obtain ⟨s1, s2, s3, s4, s5⟩ := of_decide_eq_true r1
          exact xl_newa (a := a) (b := b) (l := l) IH hme hok hnx hd s1 s2 s3 s4 s5 (xwg_of r2) h
        case multianewarray i d =>
          obtain ⟨hq0, hq⟩ := Bool.and_eq_true_iff.mp (show (decide (op = 29 ∧ len = 4) && (decide (d = 2 ∧ tys[0]? = some .int ∧ tys[2]? = some (.array .int)) && xwg Tc (l.getD 0 0) (.classLink me.1.cls i ("[" ++ (FieldType.array .int).toString)) && xwg Tc (l.getD 1 0) (.arrayClass .int))) = true from hI)
          obtain ⟨rfl, rfl⟩ := of_decide_eq_true hq0
          obtain ⟨r12, r3⟩ := Bool.and_eq_true_iff.mp hq
          obtain ⟨r1, r2⟩ := Bool.and_eq_true_iff.mp r12
          obtain ⟨rfl, s2, s3⟩ := of_decide_eq_true r1
          exact xl_mna (a := a) (b := b) (l := l) IH hme hok hnx hd s2 s3 (xwg_of r2) (xwg_of r3) h
        case arraylength =>
          obtain ⟨hq0, hq⟩ := Bool.and_eq_true_iff.mp (show (decide (op = 30 ∧ len = 1) && (decide (b = 100 + tys.length))) = true from hI)
          obtain ⟨rfl, rfl⟩ := of_decide_eq_true hq0
          exact xl_alen (a := a) (b := b) (l := l) IH hme hok hnx hd (of_decide_eq_true hq) h
        case iaload =>
          obtain ⟨hq0, hq⟩ := Bool.and_eq_true_iff.mp (show (decide (op = 31 ∧ len = 1) && (decide (100 ≤ a ∧ tys[a - 100]? = some .int))) = true from hI)
          obtain ⟨rfl, rfl⟩ := of_decide_eq_true hq0
          exact xl_iald (a := a) (b := b) (l := l) IH hme hok hnx hd (of_decide_eq_true hq).1 (of_decide_eq_true hq).2 h
        case laload =>
          obtain ⟨hq0, hq⟩ := Bool.and_eq_true_iff.mp (show (decide (op = 31 ∧ len = 1) && (decide (100 ≤ a ∧ tys[a - 100]? = some .long))) = true from hI)
          obtain ⟨rfl, rfl⟩ := of_decide_eq_true hq0
          exact xl_lald (a := a) (b := b) (l := l) IH hme hok hnx hd (of_decide_eq_true hq).1 (of_decide_eq_true hq).2 h
        case aaload =>
          obtain ⟨hq0, hq⟩ := Bool.and_eq_true_iff.mp (show (decide (op = 31 ∧ len = 1) && (decide (100 ≤ a ∧ tys[a - 100]? = some (.array .int)))) = true from hI)
          obtain ⟨rfl, rfl⟩ := of_decide_eq_true hq0
          exact xl_aald (a := a) (b := b) (l := l) IH hme hok hnx hd (of_decide_eq_true hq).1 (of_decide_eq_true hq).2 rfl h
        case iastore =>
          obtain ⟨hq0, hq⟩ := Bool.and_eq_true_iff.mp (show (decide (op = 32 ∧ len = 1) && (decide (100 ≤ a ∧ tys[a - 100]? = some .int ∧ b = 0))) = true from hI)
          obtain ⟨rfl, rfl⟩ := of_decide_eq_true hq0
          exact xl_iast (a := a) (b := b) (l := l) IH hme hok hnx hd (of_decide_eq_true hq).1 (of_decide_eq_true hq).2.1 (of_decide_eq_true hq).2.2 h
        case lastore =>
          obtain ⟨hq0, hq⟩ := Bool.and_eq_true_iff.mp (show (decide (op = 32 ∧ len = 1) && (decide (100 ≤ a ∧ tys[a - 100]? = some .long ∧ b = 2))) = true from hI)
          obtain ⟨rfl, rfl⟩ := of_decide_eq_true hq0
          exact xl_last (a := a) (b := b) (l := l) IH hme hok hnx hd (of_decide_eq_true hq).1 (of_decide_eq_true hq).2.1 (of_decide_eq_true hq).2.2 h
        case ireturn =>
          obtain ⟨hq0, hq⟩ := Bool.and_eq_true_iff.mp (show (decide (op = 35 ∧ len = 1) && (decide ((me.2.2.2.1 = some .int ∧ a = 0) ∨ (me.2.2.2.1 = some .boolean ∧ a = 3)))) = true from hI)
          obtain ⟨rfl, rfl⟩ := of_decide_eq_true hq0
          rcases of_decide_eq_true hq with ⟨s1, s2⟩ | ⟨s1, s2⟩
          · exact xl_iret (a := a) (b := b) (l := l) (ih := ih) (cs := cs) hd s1 s2 (Or.inl rfl) h
          · exact xl_iret (a := a) (b := b) (l := l) (ih := ih) (cs := cs) hd s1 s2 (Or.inr rfl) h
        case lreturn =>
          obtain ⟨hq0, hq⟩ := Bool.and_eq_true_iff.mp (show (decide (op = 35 ∧ len = 1) && (decide (me.2.2.2.1 = some .long ∧ a = 2))) = true from hI)
          obtain ⟨rfl, rfl⟩ := of_decide_eq_true hq0
          exact xl_lret (a := a) (b := b) (l := l) (ih := ih) (cs := cs) hd (of_decide_eq_true hq).1 (of_decide_eq_true hq).2 h
        case return_ =>
          obtain ⟨hq0, hq⟩ := Bool.and_eq_true_iff.mp (show (decide (op = 36 ∧ len = 1) && (decide (me.2.2.2.1 = none))) = true from hI)
          obtain ⟨rfl, rfl⟩ := of_decide_eq_true hq0
          exact xl_ret (a := a) (b := b) (l := l) (ih := ih) (cs := cs) hd (of_decide_eq_true hq) h
        case invokestatic i =>
          obtain ⟨hq0, hq⟩ := Bool.and_eq_true_iff.mp (show (decide (len = 3) && ((decide (op = 33) && xokCall Tc Ms cl me (.invokestatic i) i 0 a b l) || (decide (op = 37 ∧ 1 ≤ (xR me).frames) && ((decide (a = 0) && xwg Tc (l.getD 0 0) (.methodLink me.1.cls i Lib.Math.min.name) && xwg Tc (l.getD 1 0) (.static Lib.Math.min.name) && xwg Tc (l.getD 2 0) (.code Lib.Math.min.name Lib.Math.min.code 2 (some .int))) || (decide (a = 1) && xwg Tc (l.getD 0 0) (.methodLink me.1.cls i Lib.Math.max.name) && xwg Tc (l.getD 1 0) (.static Lib.Math.max.name) && xwg Tc (l.getD 2 0) (.code Lib.Math.max.name Lib.Math.max.code 2 (some .int)))) && xwg Tc (l.getD 3 0) (.initialized "java/lang/Math")) || (decide (op = 38 ∧ 1 ≤ (xR me).frames ∧ tys[0]? = some .int) && xwg Tc (l.getD 0 0) (.methodLink me.1.cls i arraycopyName) && xwg Tc (l.getD 1 0) (.native arraycopyName) && xwg Tc (l.getD 2 0) (.static arraycopyName) && xwg Tc (l.getD 3 0) (.initialized "java/lang/System")))) = true from hI)
          obtain rfl := of_decide_eq_true hq0
          rcases Bool.or_eq_true_iff.mp hq with hq | hq
          · rcases Bool.or_eq_true_iff.mp hq with hq | hq
            · obtain ⟨r1, r2⟩ := Bool.and_eq_true_iff.mp hq
              obtain rfl := of_decide_eq_true r1
              exact xs_call (a := a) (b := b) (l := l) (kind := 0) (by decide) rfl hG IH hme hok hnx hd r2 h
            · simp only [Bool.and_eq_true, Bool.or_eq_true] at hq
              obtain ⟨⟨r1, r2⟩, r3⟩ := hq
              obtain ⟨rfl, s2⟩ := of_decide_eq_true r1
              refine xl_mm (a := a) (b := b) (l := l) IH hme hok hnx hd ?_ (xwg_of r3) s2 h
              rcases r2 with ⟨⟨⟨t1, t2⟩, t3⟩, t4⟩ | ⟨⟨⟨t1, t2⟩, t3⟩, t4⟩
              · exact Or.inl ⟨of_decide_eq_true t1, xwg_of t2, xwg_of t3, xwg_of t4⟩
              · exact Or.inr ⟨of_decide_eq_true t1, xwg_of t2, xwg_of t3, xwg_of t4⟩
          · simp only [Bool.and_eq_true] at hq
            obtain ⟨⟨⟨⟨r1, r2⟩, r3⟩, r4⟩, r5⟩ := hq
            obtain ⟨rfl, s2, s3⟩ := of_decide_eq_true r1
            exact xl_copy (a := a) (b := b) (l := l) IH hme hok hnx hd s3 (xwg_of r2) (xwg_of r3) (xwg_of r4) (xwg_of r5) s2 h
        case invokevirtual i =>
          obtain ⟨hq0, hq⟩ := Bool.and_eq_true_iff.mp (show (decide (len = 3) && (decide (op = 33) && xokCall Tc Ms cl me (.invokevirtual i) i 1 a b l)) = true from hI)
          obtain rfl := of_decide_eq_true hq0
          obtain ⟨r1, r2⟩ := Bool.and_eq_true_iff.mp hq
          obtain rfl := of_decide_eq_true r1
          exact xs_call (a := a) (b := b) (l := l) (kind := 1) (by decide) rfl hG IH hme hok hnx hd r2 h
        case invokespecial i =>
          obtain ⟨hq0, hq⟩ := Bool.and_eq_true_iff.mp (show (decide (len = 3) && ((decide (op = 33) && xokCall Tc Ms cl me (.invokespecial i) i 2 a b l) || (decide (op = 34 ∧ 1 ≤ (xR me).frames) && xwg Tc (l.getD 0 0) (.methodLink me.1.cls i Lib.objectInit) && xwg Tc (l.getD 1 0) (.instanceMethod Lib.objectInit) && xwg Tc (l.getD 2 0) (.code Lib.objectInit ⟨#[0xb1]⟩ 1 none)))) = true from hI)
          obtain rfl := of_decide_eq_true hq0
          rcases Bool.or_eq_true_iff.mp hq with hq | hq
          · obtain ⟨r1, r2⟩ := Bool.and_eq_true_iff.mp hq
            obtain rfl := of_decide_eq_true r1
            exact xs_call (a := a) (b := b) (l := l) (kind := 2) (by decide) rfl hG IH hme hok hnx hd r2 h
          · simp only [Bool.and_eq_true] at hq
            obtain ⟨⟨⟨r1, r2⟩, r3⟩, r4⟩ := hq
            obtain ⟨rfl, s2⟩ := of_decide_eq_true r1
            exact xl_oinit (a := a) (b := b) (l := l) IH hme hok hnx hd (xwg_of r2) (xwg_of r3) (xwg_of r4) s2 h
        all_goals exact absurd (show false = true from hI) (by decide)
    · exact absurd hoke (by simp)
/-- THE RUN IS SOUND -/
theorem xrun_ok (hG : xGl Tc Ms cl tys) : ∀ n : Nat, xIH ρ base F (xTs Tc) (xNs Tc) cl tys D dA la (xokc Tc Ms cl tys) Ms (xrun Ms n) := by
  intro n
  induction n with
  | zero => intro me cs A k pc _ h; exact absurd h (by change ¬ (false = true); decide)
  | succ n ih => exact xstep_ok hG ih
end XS
end
section
/-! equality of abstract heaps -/
noncomputable def xeqL {α : Type} (f : α → α → Bool) (l : List α) : List α → Bool := List.rec (motive := fun _ => List α → Bool) (fun m => match m with | [] => true | _ :: _ => false) (fun a _ ih m => match m with | [] => false | b :: m => cond (f a b) (ih m) false) l
theorem xeqL_of {α : Type} {f : α → α → Bool} (hf : ∀ a b, f a b = true → a = b) : ∀ {l m : List α}, xeqL f l m = true → l = m := by
  intro l
  induction l with
  | nil =>
    intro m h
    cases m with
    | nil => rfl
    | cons b m => exact absurd h (by change ¬ (false = true); decide)
  | cons a l ih =>
    intro m h
    cases m with
    | nil => exact absurd h (by change ¬ (false = true); decide)
    | cons b m =>
      obtain ⟨h1, h2⟩ := xcond (b := f a b) (x := xeqL f l m) h
      rw [hf a b h1, ih h2]
def xeqO : Option Nat → Option Nat → Bool
  | none, none => true
  | some a, some b => Nat.beq a b
  | _, _ => false
theorem xeqO_of : ∀ a b, xeqO a b = true → a = b
  | none, none, _ => rfl
  | some a, some b, h => by rw [Nat.eq_of_beq_eq_true (show Nat.beq a b = true from h)]
  | none, some _, h => by cases h
  | some _, none, h => by cases h
def xeqV : xV → xV → Bool
  | .inl a, .inl b => Nat.beq a b
  | .inr (.inl a), .inr (.inl b) => xeqO a b
  | .inr (.inr (.inl a)), .inr (.inr (.inl b)) => xeqO a b
  | .inr (.inr (.inr (.inl a))), .inr (.inr (.inr (.inl b))) => Nat.beq a b
  | .inr (.inr (.inr (.inr a))), .inr (.inr (.inr (.inr b))) => xeqO a b
  | _, _ => false
theorem xeqV_of (a b : xV) (h : xeqV a b = true) : a = b := by
  rcases a with a | a | a | a | a <;> rcases b with b | b | b | b | b <;> first | (rw [Nat.eq_of_beq_eq_true (show Nat.beq a b = true from h)]) | (rw [xeqO_of a b h]) | exact absurd h (by simp [xeqV])
noncomputable def xeqC (a b : xC) : Bool := cond (Bool.and (Nat.beq a.1 b.1) (Nat.beq a.2.1 b.2.1)) (xeqL (xeqL xeqV) a.2.2 b.2.2) false
theorem xeqC_of (a b : xC) (h : xeqC a b = true) : a = b := by
  obtain ⟨a1, a2, a3⟩ := a
  obtain ⟨b1, b2, b3⟩ := b
  obtain ⟨h1, h2⟩ := xcond h
  have e1 : a1 = b1 := Nat.eq_of_beq_eq_true (xand h1).1
  have e2 : a2 = b2 := Nat.eq_of_beq_eq_true (xand h1).2
  have e3 : a3 = b3 := xeqL_of (fun _ _ => xeqL_of xeqV_of) h2
  rw [e1, e2, e3]
noncomputable def xeqH (a b : xH) : Bool := xeqL (xeqL xeqC) a b
theorem xeqH_of {a b : xH} (h : xeqH a b = true) : a = b := xeqL_of (fun _ _ => xeqL_of xeqC_of) h
end
section
/-! two runs with one answer: the second is explored at every end of the first -/
noncomputable def xres (env : xE) (k : Nat → Bool) : xV → Bool
  | .inl u => k u
  | .inr (.inl (some i)) => xnth env (fun q => cond (Nat.beq q.1 q.2) (k (xub q.1)) false) i
  | _ => false
theorem xres_of {ρ : Nat → Int32} {base : Nat} {env : xE} {k : Nat → Bool} (hr : xρ ρ env) {x : xV} {v : Value} (hg : xg ρ base x v) (h : xres env k x = true) : ∃ u, v = .int (nI u) ∧ k u = true := by
  match x, hg, h with
  | .inl u, hg, h => exact ⟨u, hg, h⟩
  | .inr (.inl (some i)), hg, h =>
    obtain ⟨q, hq, h⟩ := xnth_of h
    obtain ⟨h1, h2⟩ := xcond h
    have h1 := Nat.eq_of_beq_eq_true h1
    have hb := hr.2 i q hq
    have e : ρ i = nI (xub q.1) := xub_of (by omega)
    exact ⟨_, by rw [← e]; exact hg, h2⟩
  | .inr (.inl none), _, h => exact absurd h (by simp [xres])
  | .inr (.inr _), _, h => exact absurd h (by simp [xres])
noncomputable def xKm (r : Option xV) : xK := fun env _ _ r' => match r, r' with
  | some v, some v' => xres env (fun u => xres env (fun u' => Nat.beq (Nat.mod u 4294967296) (Nat.mod u' 4294967296)) v') v
  | _, _ => false
theorem xKm_of {ρ : Nat → Int32} {base base' : Nat} {env : xE} {h : xH} {n : Nat} {x x' : xV} {v v' : Value} (hr : xρ ρ env) (hg : xg ρ base x v) (hg' : xg ρ base' x' v') (hk : xKm (some x) env h n (some x') = true) : ∃ z : Int32, v = .int z ∧ v' = .int z := by
  have hk : xres env (fun u => xres env (fun u' => Nat.beq (Nat.mod u 4294967296) (Nat.mod u' 4294967296)) x') x = true := hk
  obtain ⟨u, e1, hk⟩ := xres_of hr hg hk
  obtain ⟨u', e2, hk⟩ := xres_of hr hg' hk
  have hk : u % 4294967296 = u' % 4294967296 := Nat.eq_of_beq_eq_true hk
  exact ⟨nI u, e1, by rw [e2, ← xn_mod u, hk, xn_mod]⟩
/-- the receiver and the first n variables -/
def xvs (n : Nat) : List xV := xRef 0 :: (List.range n).map (fun i => .inr (.inl (some (i + 1))))
noncomputable def xKx (Ms : List xM) (f : Nat) (mm : xM) (hm : xH) (nm na : Nat) : xK := fun env _ _ r => match r with
  | none => false
  | some v => xargs (xvs na) 0 (fun lv => xrun Ms f mm (xcd mm) (lv, [], env, hm, nm, 0, 0) (xKm (some v)))
def xenv0 : xE := List.replicate 6 (0, 4294967295)
theorem xenv0_of {ρ : Nat → Int32} (hl : xLin ρ) : xρ ρ xenv0 := by
  refine ⟨hl, ?_⟩
  intro k q hq
  have hm := List.eq_of_mem_replicate (List.mem_of_getElem? hq)
  subst hm
  exact ⟨Nat.zero_le _, by have := xb_max (ρ k); show xb (ρ k) ≤ 4294967295; omega⟩
theorem xvs_of (ρ : Nat → Int32) (base n : Nat) : xSR ρ base (xvs n) (.ref base :: (List.range n).map (fun i => .int (ρ (i + 1)))) := by
  refine ⟨rfl, ?_⟩
  generalize List.range n = l
  induction l with
  | nil => exact trivial
  | cons i l ih => exact ⟨rfl, ih⟩
end
section
/-! what a method does from a place on, known beforehand -/
abbrev xSm : Type := xM → List xI → xA → xK → Bool → Bool
noncomputable def xrunS (Ms : List xM) (S : xSm) (n : Nat) : xIh := Nat.rec (motive := fun _ => xIh) (fun _ _ _ _ => false) (fun _ ih me cs A k => S me cs A k (xstep Ms ih me cs A k)) n
/-- a heap without variables -/
def xnv : xV → Bool
  | .inl _ => true
  | .inr (.inl _) => false
  | .inr (.inr (.inl _)) => true
  | .inr (.inr (.inr (.inl _))) => true
  | .inr (.inr (.inr (.inr _))) => false
def xnvH (h : xH) : Bool := h.all (fun r => r.all (fun c => c.2.2.all (fun r => r.all xnv)))
theorem xnv_g {ρ ρ' : Nat → Int32} {base : Nat} {x : xV} {v : Value} (h : xnv x = true) (hg : xg ρ base x v) : xg ρ' base x v := by
  rcases x with a | a | a | a | a
  · exact hg
  · exact absurd h (by simp [xnv])
  · cases a <;> exact hg
  · exact hg
  · exact absurd h (by simp [xnv])
theorem xat_mem {α : Type} {h : List (List α)} {a : Nat} {c : α} (e : xat h a = some c) : ∃ r ∈ h, c ∈ r := by
  unfold xat at e
  cases hr : h[a / 64]? with
  | none => rw [hr] at e; cases e
  | some r => rw [hr] at e; exact ⟨r, List.mem_of_getElem? hr, List.mem_of_getElem? e⟩
theorem xHR_nv {ρ ρ' : Nat → Int32} {base : Nat} {F : Nat → Prop} {D : va_G} {dA : Nat → ClassId} {tys : List FieldType} {cl : List vw_C} {h : xH} {n : Nat} {H : Heap} (hn : xnvH h = true) (hh : xHR ρ base F D dA tys cl h n H) : xHR ρ' base F D dA tys cl h n H := by
  refine ⟨hh.1, fun a c hc => ?_⟩
  obtain ⟨fs, h1, h2⟩ := hh.2 a c hc
  refine ⟨fs, ⟨h1.1, fun i x hx => ?_⟩, h2⟩
  obtain ⟨v, h3, h4⟩ := h1.2 i x hx
  obtain ⟨r, hr1, hr2⟩ := xat_mem hc
  obtain ⟨q, hq1, hq2⟩ := xat_mem hx
  have e1 := List.all_eq_true.mp hn r hr1
  have e2 := List.all_eq_true.mp e1 c hr2
  have e3 := List.all_eq_true.mp e2 q hq1
  exact ⟨v, h3, xnv_g (List.all_eq_true.mp e3 x hq2) h4⟩
/-- a place is found in the locals -/
noncomputable def xmt (lv : xL) (pat : List (Nat × (xV → Bool))) : Bool := List.rec (motive := fun _ => Bool) true (fun q _ ih => cond (xfind lv q.1 q.2) ih false) pat
theorem xmt_of {lv : xL} : ∀ {pat : List (Nat × (xV → Bool))}, xmt lv pat = true → ∀ q ∈ pat, ∃ (j : Nat) (x : xV), lv[j]? = some (q.1, x) ∧ q.2 x = true := by
  intro pat
  induction pat with
  | nil => intro _ q hq; cases hq
  | cons p pat ih =>
    intro h q hq
    obtain ⟨h1, h2⟩ := xcond (b := xfind lv p.1 p.2) (x := xmt lv pat) h
    rcases List.mem_cons.mp hq with rfl | hq
    · exact xfind_of h1
    · exact ih h2 q hq
noncomputable def xacc (nm : MethodName) (pcH : Nat) (pat : List (Nat × (xV → Bool))) (te : xE → Bool) (h0 : xH) (n0 : Nat) (r : xV) : xSm := fun me cs A k d => match cs with
  | [] => d
  | i :: _ => cond (Nat.beq i.1 pcH) (cond (xmt A.1 pat) (cond (Bool.and (Nat.beq A.2.2.2.2.1 n0) (Bool.and (Nat.beq A.2.2.2.2.2.1 0) (Nat.beq A.2.2.2.2.2.2 0))) (cond (Bool.and (decide (me.1 = nm)) (Bool.and (List.isEmpty A.2.1) (te A.2.2.1))) (cond (xeqH A.2.2.2.1 h0) (k A.2.2.1 h0 n0 (some r)) d) d) d) d) d
section XSU
variable {ρ ρ' : Nat → Int32} {base : Nat} {F : Nat → Prop} {Tc : List (List Jvm.Cond)} {Ts Ns : List Jvm.Cond} {cl : List vw_C} {tys : List FieldType} {D : va_G} {dA : Nat → ClassId} {la : Launch} {okc : xM → List xI → Bool} {Ms : List xM} {mi : xM} {k : xK} {pc : Nat}
def xSok (ρ : Nat → Int32) (base : Nat) (F : Nat → Prop) (Ts Ns : List Jvm.Cond) (cl : List vw_C) (tys : List FieldType) (D : va_G) (dA : Nat → ClassId) (la : Launch) (Ms : List xM) (S : xSm) : Prop :=
  ∀ (me : xM) (cs : List xI) (A : xA) (k : xK) (d : Bool) (pc : Nat), me ∈ Ms → xatp pc cs → S me cs A k d = true → d = true ∨ xGd ρ base F Ts Ns cl tys D dA la me pc A k
theorem xrunS_ok {S : xSm} (hG : xGl Tc Ms cl tys) (hS : xSok ρ base F (xTs Tc) (xNs Tc) cl tys D dA la Ms S) : ∀ n : Nat, xIH ρ base F (xTs Tc) (xNs Tc) cl tys D dA la (xokc Tc Ms cl tys) Ms (xrunS Ms S n) := by
  intro n
  induction n with
  | zero => intro me cs A k pc _ h; exact absurd h (by change ¬ (false = true); decide)
  | succ n ih =>
    intro me cs A k pc hme h hok hat
    rcases hS me cs A k _ pc hme hat h with h | h
    · exact xstep_ok hG ih me cs A k pc hme h hok hat
    · exact h
theorem xSok_both {S S' : xSm} (h : xSok ρ base F Ts Ns cl tys D dA la Ms S) (h' : xSok ρ base F Ts Ns cl tys D dA la Ms S') : xSok ρ base F Ts Ns cl tys D dA la Ms (fun me cs A k d => S me cs A k (S' me cs A k d)) := by
  intro me cs A k d pc hme hat hs
  rcases h me cs A k _ pc hme hat hs with h1 | h1
  · exact h' me cs A k d pc hme hat h1
  · exact Or.inr h1
theorem xcondd {b x d : Bool} (h : cond b x d = true) : d = true ∨ (b = true ∧ x = true) := by cases b <;> simp_all
theorem xacc_ok {nm : MethodName} {pcH n0 : Nat} {pat : List (Nat × (xV → Bool))} {te : xE → Bool} {h0 : xH} {r : xV} (hu : ∀ me ∈ Ms, me.1 = nm → me = mi) (hacc : ∀ (lv : xL) (env : xE) (k : xK), xmt lv pat = true → te env = true → k env h0 n0 (some r) = true → xGd ρ base F Ts Ns cl tys D dA la mi pcH (lv, [], env, h0, n0, 0, 0) k) : xSok ρ base F Ts Ns cl tys D dA la Ms (xacc nm pcH pat te h0 n0 r) := by
  intro me cs A k d pc hme hat h
  cases cs with
  | nil => exact Or.inl h
  | cons i cs =>
    have hpc := hat i cs rfl
    rcases xcondd h with h | ⟨h1, h⟩
    · exact Or.inl h
    rcases xcondd h with h | ⟨h2, h⟩
    · exact Or.inl h
    rcases xcondd h with h | ⟨h3, h⟩
    · exact Or.inl h
    rcases xcondd h with h | ⟨h4, h⟩
    · exact Or.inl h
    rcases xcondd h with h | ⟨h5, h⟩
    · exact Or.inl h
    refine Or.inr ?_
    obtain ⟨lv, st, env, hp, n, uc, us⟩ := A
    have e1 : i.1 = pcH := Nat.eq_of_beq_eq_true h1
    have e2 : n = n0 := Nat.eq_of_beq_eq_true (xand h3).1
    have e3 : uc = 0 := Nat.eq_of_beq_eq_true (xand (xand h3).2).1
    have e4 : us = 0 := Nat.eq_of_beq_eq_true (xand (xand h3).2).2
    have e5 : me = mi := hu me hme (of_decide_eq_true (xand h4).1)
    have e6 : st = [] := List.isEmpty_iff.mp (xand (xand h4).2).1
    have e7 : hp = h0 := xeqH_of h5
    rw [← hpc, e1, e5]
    subst e2; subst e3; subst e4; subst e6; subst e7
    exact hacc lv env k h2 (xand (xand h4).2).2 h
theorem xpat {lv : xL} {lvc : List (Nat × Value)} {ls : Array Slot} {ml : Nat} (hl : lv_has ls ml lvc) (hr : xLR ρ base lv lvc) : ∀ (L : xL), (∀ q ∈ L, ∃ (j : Nat) (x : xV), lv[j]? = some (q.1, x) ∧ ∀ v, xg ρ base x v → xg ρ' base q.2 v) → ∃ lvc', lv_has ls ml lvc' ∧ xLR ρ' base L lvc' := by
  intro L
  induction L with
  | nil => intro _; exact ⟨[], ⟨hl.1, hl.2.1, fun q hq => absurd hq List.not_mem_nil⟩, trivial⟩
  | cons q L ih =>
    intro h
    obtain ⟨lvc', h1, h2⟩ := ih (fun q' hq => h q' (List.mem_cons_of_mem _ hq))
    obtain ⟨j, x, h3, h4⟩ := h q List.mem_cons_self
    obtain ⟨v, h5, h6⟩ := xLR_get hr h3
    refine ⟨(q.1, v) :: lvc', ⟨h1.1, h1.2.1, fun q' hq => ?_⟩, ⟨rfl, h4 v h6⟩, h2⟩
    rcases List.mem_cons.mp hq with rfl | hq
    · exact lv_at hl j h5
    · exact h1.2.2 q' hq
noncomputable def xK0 (h0 : xH) (n0 : Nat) (r0 : Nat) : xK := fun _ h n r => match r with
  | some (.inl u) => cond (Bool.and (Nat.beq u r0) (Nat.beq n n0)) (xeqH h h0) false
  | _ => false
theorem xK0_of {h0 h : xH} {n0 n r0 : Nat} {env : xE} {r : Option xV} (e : xK0 h0 n0 r0 env h n r = true) : r = some (.inl r0) ∧ n = n0 ∧ h = h0 := by
  cases r with
  | none => exact absurd e (by simp [xK0])
  | some x =>
    cases x with
    | inr _ => exact absurd e (by simp [xK0])
    | inl u =>
      obtain ⟨h1, h2⟩ := xcond (show cond (Bool.and (Nat.beq u r0) (Nat.beq n n0)) (xeqH h h0) false = true from e)
      rw [Nat.eq_of_beq_eq_true (xand h1).1]
      exact ⟨rfl, Nat.eq_of_beq_eq_true (xand h1).2, xeqH_of h2⟩
theorem xMQ {below : List Frame} {Q Q' : Array Value → State → Outcome → State → Prop} {a : Array Value} {s : State} {mc ms : Nat} {F : Addr → Prop} (h : ∀ o t, Q a s o t → Q' a s o t) {t : State} (q : MQ below Q a s mc ms F t) : MQ below Q' a s mc ms F t := by
  unfold MQ at q ⊢
  first
    | (obtain ⟨o, L, h1, h2, h3, h4, h5⟩ := q; exact ⟨o, L, h1, h2, h o t h3, h4, h5⟩)
    | (obtain ⟨o, L, h1, h2, h3, h4, h5⟩ := q; exact ⟨o, L, h1, h2, h3, h o t h4, h5⟩)
    | (obtain ⟨o, h1, h2, h3, h4⟩ := q; exact ⟨o, h1, h2, h o t h3, h4⟩)
/-- what holds from an invariant state on holds from every state that it covers -/
theorem xtr {h0 : xH} {n0 r0 : Nat} (hnv : xnvH h0 = true) {L lv : xL} {E env : xE} (hG : xGd ρ' base F Ts Ns cl tys D dA la mi pc (L, [], E, h0, n0, 0, 0) (xK0 h0 n0 r0)) (hE : xρ ρ env → xρ ρ' E) (hL : ∀ q ∈ L, ∃ (j : Nat) (x : xV), lv[j]? = some (q.1, x) ∧ ∀ v, xg ρ base x v → xg ρ' base q.2 v) (hk : k env h0 n0 (some (.inl r0)) = true) : xGd ρ base F Ts Ns cl tys D dA la mi pc (lv, [], env, h0, n0, 0, 0) k := by
  intro p e s m args below meth c C H locs ls stc hI hS
  obtain ⟨lvc, hl, hlr⟩ := hI.2.1
  obtain ⟨lvc', hl', hlr'⟩ := xpat hl hlr L hL
  have hst : stc = [] := xSR_nil hI.2.2.1
  have g := hG p e s m args below meth c C H locs ls stc ⟨hE hI.1, ⟨lvc', hl', hlr'⟩, by rw [hst]; exact trivial, xHR_nv hnv hI.2.2.2.1, Nat.zero_le _, Nat.zero_le _⟩ hS
  intro T hT X
  obtain ⟨t, a1, b1⟩ := g T hT X
  refine ⟨t, a1, xMQ (fun o t q => ?_) b1⟩
  obtain ⟨q1, env', h', n', r, q2, q3, q4, q5⟩ := q
  obtain ⟨rfl, rfl, rfl⟩ := xK0_of q2
  refine ⟨q1, env, h', n', _, hk, hI.1, xHR_nv hnv q4, Or.inr ?_⟩
  rcases q5 with ⟨q5, -⟩ | ⟨x, v, q5, q6, q7⟩
  · cases q5
  · cases q5
    exact ⟨_, v, rfl, q6, q7⟩
end XSU
/-- the line through given values -/
def xext (σ : Nat → Int32) : Nat → Int32 := fun j => σ (j % 64) + nI (j / 64)
theorem xext_lin (σ : Nat → Int32) : xLin (xext σ) := by
  intro k c hk
  show σ ((k + 64 * c) % 64) + nI ((k + 64 * c) / 64) = σ (k % 64) + nI (k / 64) + nI c
  rw [show (k + 64 * c) % 64 = k % 64 by omega, show (k + 64 * c) / 64 = c by omega, show k / 64 = 0 by omega, show nI 0 = 0 from rfl, Int32.add_zero]
theorem xext_at (σ : Nat → Int32) {k : Nat} (hk : k < 64) : xext σ k = σ k := by
  show σ (k % 64) + nI (k / 64) = σ k
  rw [show k % 64 = k by omega, show k / 64 = 0 by omega, show nI 0 = 0 from rfl, Int32.add_zero]
/-- bounds of one variable -/
noncomputable def xbd (k lo hi : Nat) (env : xE) : Bool := xnth env (fun q => Bool.and (Nat.ble lo q.1) (Nat.ble q.2 hi)) k
theorem xbd_of {ρ : Nat → Int32} {k lo hi : Nat} {env : xE} (h : xbd k lo hi env = true) (hr : xρ ρ env) : lo ≤ xb (ρ k) ∧ xb (ρ k) ≤ hi := by
  obtain ⟨q, h1, h2⟩ := xnth_of h
  have h3 := Nat.le_of_ble_eq_true (xand h2).1
  have h4 := Nat.le_of_ble_eq_true (xand h2).2
  have := hr.2 k q h1
  omega
/-- an int within bounds: known, or a variable -/
noncomputable def xrg (env : xE) (lo hi : Nat) : xV → Bool
  | .inl u => Bool.and (Nat.ble lo (xbc u)) (Nat.ble (xbc u) hi)
  | .inr (.inl (some k)) => xbd k lo hi env
  | _ => false
theorem xrg_of {ρ : Nat → Int32} {base lo hi : Nat} {env : xE} {x : xV} {v : Value} (h : xrg env lo hi x = true) (hr : xρ ρ env) (hg : xg ρ base x v) : ∃ z : Int32, v = .int z ∧ lo ≤ xb z ∧ xb z ≤ hi := by
  rcases x with u | o | a | a | a
  · have h : Bool.and (Nat.ble lo (xbc u)) (Nat.ble (xbc u) hi) = true := h
    exact ⟨nI u, hg, by rw [← xbc_eq]; exact Nat.le_of_ble_eq_true (xand h).1, by rw [← xbc_eq]; exact Nat.le_of_ble_eq_true (xand h).2⟩
  · cases o with
    | none => exact absurd h (by simp [xrg])
    | some k => exact ⟨ρ k, hg, xbd_of h hr⟩
  · exact absurd h (by simp [xrg])
  · exact absurd h (by simp [xrg])
  · exact absurd h (by simp [xrg])
theorem xb_up {x : Int32} {c : Nat} (h : xb x + c < 4294967296) : xb (x + nI c) = xb x + c := by
  have e : x = nI (xub (xb x)) := xub_of rfl
  have hx := xb_max x
  generalize hz : xb x = z at e h hx
  rw [e, nI_add, ← xbc_eq]
  show ((z + 2147483648) % 4294967296 + c + 2147483648) % 4294967296 = z + c
  omega
theorem xb_dn {x : Int32} (h : 0 < xb x) : xb (x + nI 4294967295) = xb x - 1 := by
  have e : x = nI (xub (xb x)) := xub_of rfl
  have hx := xb_max x
  generalize hz : xb x = z at e h hx
  rw [e, nI_add, ← xbc_eq]
  show ((z + 2147483648) % 4294967296 + 4294967295 + 2147483648) % 4294967296 = z - 1
  omega
end

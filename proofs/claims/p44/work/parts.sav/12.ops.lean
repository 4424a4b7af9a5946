set_option linter.all false
/-! values, comparisons, the handlers of the instructions -/
def xg (ρ : Nat → Int32) (base : Nat) : xV → Value → Prop
  | .inl u, v => v = .int (nI u)
  | .inr (.inl none), v => ∃ x : Int32, v = .int x
  | .inr (.inl (some k)), v => v = .int (ρ k)
  | .inr (.inr (.inl none)), v => v = .null
  | .inr (.inr (.inl (some a))), v => v = .ref (base + a)
  | .inr (.inr (.inr (.inl u))), v => v = .long (lN u)
  | .inr (.inr (.inr (.inr none))), v => ∃ x : Int64, v = .long x
  | .inr (.inr (.inr (.inr (some k)))), v => v = .long (ρ k).toInt64
def xis : xV → Nat
  | .inl _ => 0
  | .inr (.inl _) => 0
  | .inr (.inr (.inl _)) => 1
  | .inr (.inr (.inr _)) => 2
theorem xg_int {ρ : Nat → Int32} {base : Nat} {x : xV} {v : Value} (h : xg ρ base x v) (hk : xis x = 0) : ∃ i : Int32, v = .int i := by
  match x, h, hk with
  | .inl u, h, _ => exact ⟨_, h⟩
  | .inr (.inl none), h, _ => exact h
  | .inr (.inl (some k)), h, _ => exact ⟨_, h⟩
theorem xg_long {ρ : Nat → Int32} {base : Nat} {x : xV} {v : Value} (h : xg ρ base x v) (hk : xis x = 2) : ∃ i : Int64, v = .long i := by
  match x, h, hk with
  | .inr (.inr (.inr (.inl u))), h, _ => exact ⟨_, h⟩
  | .inr (.inr (.inr (.inr none))), h, _ => exact h
  | .inr (.inr (.inr (.inr (some k)))), h, _ => exact ⟨_, h⟩
theorem xg_ref {ρ : Nat → Int32} {base : Nat} {x : xV} {v : Value} (h : xg ρ base x v) (hk : xis x = 1) : v = .null ∨ ∃ a : Nat, v = .ref a := by
  match x, h, hk with
  | .inr (.inr (.inl none)), h, _ => exact Or.inl h
  | .inr (.inr (.inl (some k))), h, _ => exact Or.inr ⟨_, h⟩
theorem xg_cat {ρ : Nat → Int32} {base : Nat} {x : xV} {v : Value} (h : xg ρ base x v) : v.category = if xis x = 2 then 2 else 1 := by
  match x, h with
  | .inl u, h => cases h; rfl
  | .inr (.inl none), h => obtain ⟨i, rfl⟩ := h; rfl
  | .inr (.inl (some k)), h => cases h; rfl
  | .inr (.inr (.inl none)), h => cases h; rfl
  | .inr (.inr (.inl (some a))), h => cases h; rfl
  | .inr (.inr (.inr (.inl u))), h => cases h; rfl
  | .inr (.inr (.inr (.inr none))), h => obtain ⟨i, rfl⟩ := h; rfl
  | .inr (.inr (.inr (.inr (some k)))), h => cases h; rfl
/-- conditions: 0 eq, 1 ne, 2 lt, 3 ge, 4 gt, 5 le -/
def xP : Nat → Int32 → Int32 → Prop
  | 0, x, y => x = y
  | 1, x, y => ¬ x = y
  | 2, x, y => x < y
  | 3, x, y => y ≤ x
  | 4, x, y => y < x
  | _, x, y => x ≤ y
def xcc : Nat → Nat → Nat → Bool
  | 0, x, y => Nat.beq x y
  | 1, x, y => Bool.not (Nat.beq x y)
  | 2, x, y => Nat.blt x y
  | 3, x, y => Nat.ble y x
  | 4, x, y => Nat.blt y x
  | _, x, y => Nat.ble x y
theorem xblt {a b : Nat} : Nat.blt a b = true ↔ a < b := by simp [Nat.blt]; omega
theorem xble {a b : Nat} : Nat.ble a b = true ↔ a ≤ b := by simp
theorem xbeq {a b : Nat} : Nat.beq a b = true ↔ a = b := by simp
theorem xcc_of (c : Nat) (x y : Int32) : xcc c (xb x) (xb y) = true ↔ xP c x y := by
  match c with
  | 0 => rw [xcc, xP, xbeq, xb_eq]
  | 1 =>
    rw [xcc, xP, xb_eq, ← xbeq]
    generalize Nat.beq (xb x) (xb y) = q
    cases q <;> simp
  | 2 => rw [xcc, xP, xblt, xb_lt]
  | 3 => rw [xcc, xP, xble, xb_le]
  | 4 => rw [xcc, xP, xblt, xb_lt]
  | n + 5 => rw [show xcc (n + 5) (xb x) (xb y) = Nat.ble (xb x) (xb y) from rfl, show xP (n + 5) x y = (x ≤ y) from rfl, xble, xb_le]
noncomputable def xcv (env : xE) (k z : Nat) (kk : xE → Bool → Bool) : Nat → Bool
  | 0 => xcut env k z (fun e => kk e false) (fun e => xcut e k (Nat.succ z) (fun e => kk e true) (fun e => kk e false))
  | 1 => xcut env k z (fun e => kk e true) (fun e => xcut e k (Nat.succ z) (fun e => kk e false) (fun e => kk e true))
  | 2 => xcut env k z (fun e => kk e true) (fun e => kk e false)
  | 3 => xcut env k z (fun e => kk e false) (fun e => kk e true)
  | 4 => xcut env k (Nat.succ z) (fun e => kk e false) (fun e => kk e true)
  | _ => xcut env k (Nat.succ z) (fun e => kk e true) (fun e => kk e false)
theorem xiff_true {P : Prop} (h : P) : true = true ↔ P := ⟨fun _ => h, fun _ => rfl⟩
theorem xiff_false {P : Prop} (h : ¬ P) : false = true ↔ P := ⟨fun q => Bool.noConfusion q, fun q => absurd q h⟩
theorem xcv_of {ρ : Nat → Int32} {env : xE} {k : Nat} {y : Int32} {kk : xE → Bool → Bool} (hr : xρ ρ env) (c : Nat) (h : xcv env k (xb y) kk c = true) : ∃ env' b, xρ ρ env' ∧ kk env' b = true ∧ (b = true ↔ xP c (ρ k) y) := by
  match c, h with
  | 0, h =>
    rw [xcv] at h
    rcases xcut_of h hr with ⟨a, e, he, h⟩ | ⟨a, e, he, h⟩
    · exact ⟨e, false, he, h, xiff_false (by show ¬ ρ k = y; rw [xb_eq]; omega)⟩
    · rcases xcut_of h he with ⟨a', e, he, h⟩ | ⟨a', e, he, h⟩
      · exact ⟨e, true, he, h, xiff_true (by show ρ k = y; rw [xb_eq]; omega)⟩
      · exact ⟨e, false, he, h, xiff_false (by show ¬ ρ k = y; rw [xb_eq]; omega)⟩
  | 1, h =>
    rw [xcv] at h
    rcases xcut_of h hr with ⟨a, e, he, h⟩ | ⟨a, e, he, h⟩
    · exact ⟨e, true, he, h, xiff_true (by show ¬ ρ k = y; rw [xb_eq]; omega)⟩
    · rcases xcut_of h he with ⟨a', e, he, h⟩ | ⟨a', e, he, h⟩
      · exact ⟨e, false, he, h, xiff_false (by show ¬ ¬ ρ k = y; rw [xb_eq]; omega)⟩
      · exact ⟨e, true, he, h, xiff_true (by show ¬ ρ k = y; rw [xb_eq]; omega)⟩
  | 2, h =>
    rw [xcv] at h
    rcases xcut_of h hr with ⟨a, e, he, h⟩ | ⟨a, e, he, h⟩
    · exact ⟨e, true, he, h, xiff_true (by show ρ k < y; rw [xb_lt]; omega)⟩
    · exact ⟨e, false, he, h, xiff_false (by show ¬ ρ k < y; rw [xb_lt]; omega)⟩
  | 3, h =>
    rw [xcv] at h
    rcases xcut_of h hr with ⟨a, e, he, h⟩ | ⟨a, e, he, h⟩
    · exact ⟨e, false, he, h, xiff_false (by show ¬ y ≤ ρ k; rw [xb_le]; omega)⟩
    · exact ⟨e, true, he, h, xiff_true (by show y ≤ ρ k; rw [xb_le]; omega)⟩
  | 4, h =>
    rw [xcv] at h
    rcases xcut_of h hr with ⟨a, e, he, h⟩ | ⟨a, e, he, h⟩
    · exact ⟨e, false, he, h, xiff_false (by show ¬ y < ρ k; rw [xb_lt]; omega)⟩
    · exact ⟨e, true, he, h, xiff_true (by show y < ρ k; rw [xb_lt]; omega)⟩
  | n + 5, h =>
    have h : xcut env k (Nat.succ (xb y)) (fun e => kk e true) (fun e => kk e false) = true := h
    rcases xcut_of h hr with ⟨a, e, he, h⟩ | ⟨a, e, he, h⟩
    · exact ⟨e, true, he, h, xiff_true (by show ρ k ≤ y; rw [xb_le]; omega)⟩
    · exact ⟨e, false, he, h, xiff_false (by show ¬ ρ k ≤ y; rw [xb_le]; omega)⟩
def xsw : Nat → Nat
  | 0 => 0
  | 1 => 1
  | 2 => 4
  | 3 => 5
  | 4 => 2
  | _ => 3
theorem xsw_of (c : Nat) (x y : Int32) : xP (xsw c) y x ↔ xP c x y := by
  match c with
  | 0 => exact eq_comm
  | 1 => exact not_congr eq_comm
  | 2 => exact Iff.rfl
  | 3 => exact Iff.rfl
  | 4 => exact Iff.rfl
  | _ + 5 => exact Iff.rfl
/-- the first is at most the second -/
noncomputable def xcap (env : xE) (i j : Nat) (k : xE → Bool) : Bool := xnth env (fun p => xnth env (fun q => xset env (p.1, cond (Nat.ble p.2 q.2) p.2 q.2) i k) j) i
theorem xcap_of {ρ : Nat → Int32} {env : xE} {i j : Nat} {k : xE → Bool} (h : xcap env i j k = true) (hr : xρ ρ env) (hle : ρ i ≤ ρ j) : ∃ env', xρ ρ env' ∧ k env' = true := by
  obtain ⟨p, hp, h⟩ := xnth_of h
  obtain ⟨q, hq, h⟩ := xnth_of h
  have h1 := hr.2 i p hp
  have h2 := hr.2 j q hq
  have h3 := xb_le.mp hle
  refine ⟨_, xρ_set hr h1.1 ?_, (xset_of h).2⟩
  by_cases c : Nat.ble p.2 q.2 = true
  · rw [c]; exact h1.2
  · rw [xnf c]; exact Nat.le_trans h3 h2.2
noncomputable def xcmp (env : xE) (c : Nat) (kk : xE → Bool → Bool) : xV → xV → Bool
  | .inl u, .inl v => kk env (xcc c (xbc u) (xbc v))
  | .inr (.inl (some k)), .inl v => cond (Nat.blt k 64) (xfN (xbc v) (fun z => xcv env k z kk c)) (cond (kk env true) (kk env false) false)
  | .inl u, .inr (.inl (some k)) => cond (Nat.blt k 64) (xfN (xbc u) (fun z => xcv env k z kk (xsw c))) (cond (kk env true) (kk env false) false)
  | .inr (.inl (some i)), .inr (.inl (some j)) => cond (Bool.and (Nat.beq c 4) (Bool.and (Nat.blt i 64) (Nat.blt j 64))) (cond (kk env true) (xcap env i j (fun e => kk e false)) false) (cond (kk env true) (kk env false) false)
  | .inr (.inl _), .inl _ => cond (kk env true) (kk env false) false
  | .inl _, .inr (.inl _) => cond (kk env true) (kk env false) false
  | .inr (.inl _), .inr (.inl _) => cond (kk env true) (kk env false) false
  | _, _ => false
theorem xcmp_any {ρ : Nat → Int32} {env : xE} {c : Nat} {kk : xE → Bool → Bool} (hr : xρ ρ env) (x y : Int32) (h : cond (kk env true) (kk env false) false = true) : ∃ env' b, xρ ρ env' ∧ kk env' b = true ∧ (b = true ↔ xP c x y) := by
  obtain ⟨h1, h2⟩ := xcond h
  by_cases hp : xP c x y
  · exact ⟨env, true, hr, h1, by simp [hp]⟩
  · exact ⟨env, false, hr, h2, by simp [hp]⟩
theorem xcmp_of {ρ : Nat → Int32} {base : Nat} {env : xE} {c : Nat} {kk : xE → Bool → Bool} {a b : xV} {va vb : Value} (hr : xρ ρ env) (ha : xg ρ base a va) (hb : xg ρ base b vb) (h : xcmp env c kk a b = true) :
    ∃ x y : Int32, va = .int x ∧ vb = .int y ∧ ∃ env' r, xρ ρ env' ∧ kk env' r = true ∧ (r = true ↔ xP c x y) := by
  cases a with
  | inl u =>
    cases b with
    | inl v =>
      refine ⟨_, _, ha, hb, env, xcc c (xbc u) (xbc v), hr, h, ?_⟩
      rw [xbc_eq, xbc_eq]; exact xcc_of c _ _
    | inr b =>
      cases b with
      | inl o =>
        cases o with
        | none => obtain ⟨x, hb⟩ := hb; exact ⟨_, _, ha, hb, xcmp_any hr _ _ h⟩
        | some k =>
          have h : cond (Nat.blt k 64) (xfN (xbc u) (fun z => xcv env k z kk (xsw c))) (cond (kk env true) (kk env false) false) = true := h
          by_cases c64 : Nat.blt k 64 = true
          · rw [c64, cond_true] at h
            have h := xfN_of h
            rw [xbc_eq] at h
            obtain ⟨e, r, h1, h2, h3⟩ := xcv_of hr (xsw c) h
            exact ⟨_, _, ha, hb, e, r, h1, h2, h3.trans (xsw_of c _ _)⟩
          · rw [xnf c64, cond_false] at h
            exact ⟨_, _, ha, hb, xcmp_any hr _ _ h⟩
      | inr b => exact absurd h (by simp [xcmp])
  | inr a =>
    cases a with
    | inl o =>
      cases b with
      | inl v =>
        cases o with
        | none => obtain ⟨x, ha⟩ := ha; exact ⟨_, _, ha, hb, xcmp_any hr _ _ h⟩
        | some k =>
          have h : cond (Nat.blt k 64) (xfN (xbc v) (fun z => xcv env k z kk c)) (cond (kk env true) (kk env false) false) = true := h
          by_cases c64 : Nat.blt k 64 = true
          · rw [c64, cond_true] at h
            have h := xfN_of h
            rw [xbc_eq] at h
            exact ⟨_, _, ha, hb, xcv_of hr c h⟩
          · rw [xnf c64, cond_false] at h
            exact ⟨_, _, ha, hb, xcmp_any hr _ _ h⟩
      | inr b =>
        cases b with
        | inl o' =>
          obtain ⟨x, hx⟩ := xg_int ha rfl
          obtain ⟨y, hy⟩ := xg_int hb rfl
          cases o with
          | none => exact ⟨x, y, hx, hy, xcmp_any hr _ _ (by cases o' <;> exact h)⟩
          | some i =>
            cases o' with
            | none => exact ⟨x, y, hx, hy, xcmp_any hr _ _ h⟩
            | some j =>
              have h : cond (Bool.and (Nat.beq c 4) (Bool.and (Nat.blt i 64) (Nat.blt j 64))) (cond (kk env true) (xcap env i j (fun e => kk e false)) false) (cond (kk env true) (kk env false) false) = true := h
              by_cases c4 : Bool.and (Nat.beq c 4) (Bool.and (Nat.blt i 64) (Nat.blt j 64)) = true
              · rw [c4, cond_true] at h
                obtain ⟨h1, h2⟩ := xcond h
                have e4 : c = 4 := Nat.eq_of_beq_eq_true (by cases hq : Nat.beq c 4 with | true => rfl | false => rw [hq] at c4; cases c4)
                subst e4
                have ex : x = ρ i := by cases hx; cases ha; rfl
                have ey : y = ρ j := by cases hy; cases hb; rfl
                by_cases hp : xP 4 x y
                · exact ⟨x, y, hx, hy, env, true, hr, h1, by simp [hp]⟩
                · have hle : ρ i ≤ ρ j := by
                    have hp : ¬ y < x := hp
                    rw [← ex, ← ey]
                    exact Int32.not_lt.mp hp
                  obtain ⟨e, h3, h4⟩ := xcap_of h2 hr hle
                  exact ⟨x, y, hx, hy, e, false, h3, h4, by simp [hp]⟩
              · rw [xnf c4, cond_false] at h
                exact ⟨x, y, hx, hy, xcmp_any hr _ _ h⟩
        | inr b => exact absurd h (by cases o <;> simp [xcmp])
    | inr a =>
      exact absurd h (by
        cases b with
        | inl v => simp [xcmp]
        | inr b =>
          cases b with
          | inl o => cases o <;> simp [xcmp]
          | inr b => simp [xcmp])
/-- an int that is used: known, or all that a variable within narrow bounds may be, or any -/
noncomputable def xci (env : xE) (kc : xE → Nat → Bool) (kt : Bool) : xV → Bool
  | .inl u => kc env u
  | .inr (.inl none) => kt
  | .inr (.inl (some k)) => cond (Nat.blt k 64) (xnth env (fun q => cond (Nat.ble q.2 (Nat.add q.1 127)) (xall env k kc) kt) k) kt
  | _ => false
theorem xci_of {ρ : Nat → Int32} {base : Nat} {env : xE} {kc : xE → Nat → Bool} {kt : Bool} {a : xV} {va : Value} (hr : xρ ρ env) (ha : xg ρ base a va) (h : xci env kc kt a = true) :
    ∃ x : Int32, va = .int x ∧ ((∃ env' u, xρ ρ env' ∧ x = nI u ∧ kc env' u = true) ∨ kt = true) := by
  match a, ha, h with
  | .inl u, ha, h => exact ⟨_, ha, Or.inl ⟨env, u, hr, rfl, h⟩⟩
  | .inr (.inl none), ha, h => obtain ⟨x, ha⟩ := ha; exact ⟨x, ha, Or.inr h⟩
  | .inr (.inl (some k)), ha, h =>
    refine ⟨_, ha, ?_⟩
    have h : cond (Nat.blt k 64) (xnth env (fun q => cond (Nat.ble q.2 (Nat.add q.1 127)) (xall env k kc) kt) k) kt = true := h
    by_cases c64 : ¬ Nat.blt k 64 = true
    · rw [xnf c64, cond_false] at h
      exact Or.inr h
    have c64 : Nat.blt k 64 = true := Classical.not_not.mp c64
    rw [c64, cond_true] at h
    obtain ⟨q, -, h⟩ := xnth_of h
    by_cases c : Nat.ble q.2 (Nat.add q.1 127) = true
    · rw [c] at h
      obtain ⟨e, u, h1, h2, h3⟩ := xall_of hr h
      exact Or.inl ⟨e, u, h1, h2, h3⟩
    · have c : Nat.ble q.2 (Nat.add q.1 127) = false := xnf c
      rw [c] at h
      exact Or.inr h
/-- two-operand ints: 0 add, 1 sub, 2 mul, 3 and, 4 or, 5 xor, 6 shl, 7 shr, 8 ushr -/
def xio : Nat → Int32 → Int32 → Int32
  | 0, x, y => x + y
  | 1, x, y => x - y
  | 2, x, y => x * y
  | 3, x, y => x &&& y
  | 4, x, y => x ||| y
  | 5, x, y => x ^^^ y
  | 6, x, y => x <<< (y &&& 31)
  | 7, x, y => x >>> (y &&& 31)
  | _, x, y => (x.toUInt32 >>> (y.toUInt32 &&& Int32.toUInt32 31)).toInt32
def xioc : Nat → Nat → Nat → Nat
  | 0, x, y => Nat.mod (Nat.add x y) 4294967296
  | 1, x, y => Nat.mod (Nat.add x (Nat.sub 4294967296 (Nat.mod y 4294967296))) 4294967296
  | 2, x, y => Nat.mod (Nat.mul x y) 4294967296
  | 3, x, y => Nat.land x y
  | 4, x, y => Nat.lor x y
  | f, x, y => xcode (xio f (nI x) (nI y))
theorem xioc_of (f u v : Nat) : nI (xioc f u v) = xio f (nI u) (nI v) := by
  match f with
  | 0 => show nI ((u + v) % 4294967296) = nI u + nI v; rw [xn_mod, nI_add]
  | 1 =>
    show nI ((u + (4294967296 - v % 4294967296)) % 4294967296) = nI u - nI v
    apply xn_inj
    rw [Int32.toBitVec_sub, BitVec.toNat_sub, xn_tn, xn_tn, xn_tn]
    omega
  | 2 => show nI ((u * v) % 4294967296) = nI u * nI v; rw [xn_mod, pk_mul]
  | 3 =>
    show nI (u &&& v) = nI u &&& nI v
    apply xn_inj
    rw [Int32.toBitVec_and, BitVec.toNat_and, xn_tn, xn_tn, xn_tn]
    exact Nat.and_mod_two_pow (n := 32)
  | 4 =>
    show nI (u ||| v) = nI u ||| nI v
    apply xn_inj
    rw [Int32.toBitVec_or, BitVec.toNat_or, xn_tn, xn_tn, xn_tn]
    exact Nat.or_mod_two_pow (n := 32)
  | f + 5 => exact xn_code _
/-- one-operand ints: 0 neg, 1 i2b, 2 i2s, 3 i2c -/
def xiu : Nat → Int32 → Int32
  | 0, x => -x
  | 1, x => x.toInt8.toInt32
  | 2, x => x.toInt16.toInt32
  | _, x => (x.toUInt32 % 65536).toInt32
/-- longs: 0 add, 1 sub, 2 mul, 3 and, 4 or, 5 xor -/
def xlo : Nat → Int64 → Int64 → Int64
  | 0, x, y => x + y
  | 1, x, y => x - y
  | 2, x, y => x * y
  | 3, x, y => x &&& y
  | 4, x, y => x ||| y
  | _, x, y => x ^^^ y
def xls : Nat → Int64 → Int32 → Int64
  | 0, x, y => x <<< (y.toInt64 &&& 63)
  | 1, x, y => x >>> (y.toInt64 &&& 63)
  | _, x, y => (x.toUInt64 >>> (y.toInt64.toUInt64 &&& Int64.toUInt64 63)).toInt64
/-- the rest of the code from a target on -/
noncomputable def xjmp (c : List xI) (t : Nat) (k : List xI → Bool) : Bool := List.rec (motive := fun _ => Bool) false (fun i c ih => cond (Nat.beq i.1 t) (k (i :: c)) ih) c
theorem xjmp_of {c : List xI} {t : Nat} {k : List xI → Bool} (h : xjmp c t k = true) : ∃ i r, i.1 = t ∧ (i :: r) <:+ c ∧ k (i :: r) = true := by
  induction c with
  | nil => exact absurd h (by change ¬ (false = true); decide)
  | cons i c ih =>
    have h : cond (Nat.beq i.1 t) (k (i :: c)) (xjmp c t k) = true := h
    by_cases e : Nat.beq i.1 t = true
    · rw [e] at h
      exact ⟨i, c, Nat.eq_of_beq_eq_true e, List.suffix_refl _, h⟩
    · have e : Nat.beq i.1 t = false := xnf e
      rw [e] at h
      obtain ⟨j, r, h1, h2, h3⟩ := ih h
      exact ⟨j, r, h1, h2.trans (List.suffix_cons _ _), h3⟩

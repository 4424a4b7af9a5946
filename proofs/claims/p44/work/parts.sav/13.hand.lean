set_option linter.all false
/-! the handlers: what an instruction does to the abstract state -/
abbrev xIh : Type := xM → List xI → xA → xK → Bool
abbrev xHd : Type := xIh → xM → List xI → Nat → Nat → List Nat → xA → xK → Bool
abbrev xTop : xV := .inr (.inl none)
abbrev xTopL : xV := .inr (.inr (.inr (.inr none)))
abbrev xLc (u : Nat) : xV := .inr (.inr (.inr (.inl u)))
abbrev xRef (a : Nat) : xV := .inr (.inr (.inl (some a)))
noncomputable def xfind (lv : xL) (i : Nat) (k : xV → Bool) : Bool := List.rec (motive := fun _ => Bool) false (fun q _ ih => cond (Nat.beq q.1 i) (k q.2) ih) lv
theorem xfind_of {lv : xL} {i : Nat} {k : xV → Bool} (h : xfind lv i k = true) : ∃ (j : Nat) (v : xV), lv[j]? = some (i, v) ∧ k v = true := by
  induction lv with
  | nil => exact absurd h (by change ¬ (false = true); decide)
  | cons q lv ih =>
    have h : cond (Nat.beq q.1 i) (k q.2) (xfind lv i k) = true := h
    by_cases e : Nat.beq q.1 i = true
    · rw [e] at h
      exact ⟨0, q.2, by rw [← Nat.eq_of_beq_eq_true e]; rfl, h⟩
    · have e : Nat.beq q.1 i = false := xnf e
      rw [e] at h
      obtain ⟨j, v, h1, h2⟩ := ih h
      exact ⟨j + 1, v, h1, h2⟩
/-- does a store of kind b at i take this local away? -/
def xdrop (i b : Nat) (q : Nat × xV) : Bool := Bool.or (Nat.beq q.1 i) (Bool.or (Bool.and (Nat.beq (Nat.succ q.1) i) (Nat.beq (xis q.2) 2)) (Bool.and (Nat.beq b 2) (Nat.beq q.1 (Nat.succ i))))
noncomputable def xfil (i b : Nat) (lv : xL) : (xL → Bool) → Bool := List.rec (motive := fun _ => (xL → Bool) → Bool) (fun k => k []) (fun q _ ih k => cond (xdrop i b q) (ih k) (ih (fun l => k (q :: l)))) lv
theorem xfil_of {i b : Nat} {lv : xL} : ∀ {k : xL → Bool}, xfil i b lv k = true → k (lv.filter (fun q => !xdrop i b q)) = true := by
  induction lv with
  | nil => intro k h; exact h
  | cons q lv ih =>
    intro k h
    have h : cond (xdrop i b q) (xfil i b lv k) (xfil i b lv (fun l => k (q :: l))) = true := h
    by_cases e : xdrop i b q = true
    · rw [e] at h
      have := ih h
      simpa [List.filter_cons, e] using this
    · have e : xdrop i b q = false := xnf e
      rw [e] at h
      have := ih (k := fun l => k (q :: l)) h
      simpa [List.filter_cons, e] using this
noncomputable def xo_iconst : xHd := fun ih me cs a _ _ A k => match A with | (lv, st, r) => ih me cs (lv, .inl a :: st, r) k
noncomputable def xo_lconst : xHd := fun ih me cs a _ _ A k => match A with | (lv, st, r) => ih me cs (lv, xLc a :: st, r) k
noncomputable def xo_null : xHd := fun ih me cs _ _ _ A k => match A with | (lv, st, r) => ih me cs (lv, .inr (.inr (.inl none)) :: st, r) k
noncomputable def xo_load : xHd := fun ih me cs a b _ A k => match A with | (lv, st, r) => xfind lv a (fun v => cond (Nat.beq (xis v) b) (ih me cs (lv, v :: st, r) k) false)
noncomputable def xo_store : xHd := fun ih me cs a b _ A k => match A with
  | (lv, v :: st, r) => cond (Nat.beq (xis v) b) (xfil a b lv (fun l => ih me cs ((a, v) :: l, st, r) k)) false
  | (_, [], _) => false
/-- what is known of a sum or difference with one of the variables -/
def xsum (a : Nat) : xV → xV → xV
  | .inl u, .inr (.inl (some k)) => cond (Bool.and (Nat.beq a 0) (Nat.blt k 64)) (.inr (.inl (some (Nat.add k (Nat.mul 64 u))))) xTop
  | .inr (.inl (some k)), .inl v => cond (Nat.blt k 64) (cond (Nat.beq a 0) (.inr (.inl (some (Nat.add k (Nat.mul 64 v))))) (cond (Nat.beq a 1) (.inr (.inl (some (Nat.add k (Nat.mul 64 (Nat.mod (Nat.sub 4294967296 (Nat.mod v 4294967296)) 4294967296)))))) xTop)) xTop
  | _, _ => xTop
theorem xneg2 (v : Nat) (z : Int32) : z - nI v = z + nI ((4294967296 - v % 4294967296) % 4294967296) := by
  apply xn_inj
  rw [Int32.toBitVec_sub, BitVec.toNat_sub, Int32.toBitVec_add, BitVec.toNat_add, xn_tn, xn_tn]
  have := z.toBitVec.isLt
  omega
theorem xsum_of {ρ : Nat → Int32} {base a : Nat} {x y : xV} {x' y' : Int32} (hl : xLin ρ) (hx : xg ρ base x (.int x')) (hy : xg ρ base y (.int y')) : xg ρ base (xsum a x y) (.int (xio a x' y')) := by
  have top : xg ρ base xTop (.int (xio a x' y')) := ⟨_, rfl⟩
  cases x with
  | inl u =>
    cases y with
    | inl v => exact top
    | inr y =>
      cases y with
      | inr y => exact top
      | inl o =>
        cases o with
        | none => exact top
        | some k =>
          have ex : x' = nI u := by injection hx
          have ey : y' = ρ k := by injection hy
          show xg ρ base (cond (Bool.and (Nat.beq a 0) (Nat.blt k 64)) _ xTop) _
          cases hc : Bool.and (Nat.beq a 0) (Nat.blt k 64) with
          | false => exact top
          | true =>
            have h0 : a = 0 := Nat.eq_of_beq_eq_true (by cases hq : Nat.beq a 0 with | true => rfl | false => rw [hq] at hc; cases hc)
            have h1 : Nat.blt k 64 = true := by cases hq : Nat.blt k 64 with | true => rfl | false => rw [hq] at hc; cases hr : Nat.beq a 0 <;> rw [hr] at hc <;> cases hc
            have h1 := xblt.mp h1
            subst h0
            show Value.int (x' + y') = Value.int (ρ (k + 64 * u))
            rw [hl k u h1, ex, ey, Int32.add_comm]
  | inr x =>
    cases x with
    | inr x => exact top
    | inl o =>
      cases o with
      | none => exact top
      | some k =>
        cases y with
        | inr y => exact top
        | inl v =>
          have ex : x' = ρ k := by injection hx
          have ey : y' = nI v := by injection hy
          show xg ρ base (cond (Nat.blt k 64) (cond (Nat.beq a 0) _ (cond (Nat.beq a 1) _ xTop)) xTop) _
          cases hc : Nat.blt k 64 with
          | false => exact top
          | true =>
            have h1 := xblt.mp hc
            cases h0 : Nat.beq a 0 with
            | true =>
              have h0 := Nat.eq_of_beq_eq_true h0
              subst h0
              show Value.int (x' + y') = Value.int (ρ (k + 64 * v))
              rw [hl k v h1, ex, ey]
            | false =>
              cases h2 : Nat.beq a 1 with
              | false => exact top
              | true =>
                have h2 := Nat.eq_of_beq_eq_true h2
                subst h2
                show Value.int (x' - y') = Value.int (ρ (k + 64 * ((4294967296 - v % 4294967296) % 4294967296)))
                rw [hl k _ h1, ex, ey, xneg2]
/-- an array all of whose places hold the same -/
def xsame : xV → xV → Bool
  | .inl a, .inl b => Nat.beq a b
  | .inr (.inr (.inr (.inl a))), .inr (.inr (.inr (.inl b))) => Nat.beq a b
  | _, _ => false
theorem xsame_of {x y : xV} (h : xsame x y = true) : x = y := by
  rcases x with a | a | a | a | a <;> rcases y with b | b | b | b | b <;> first | (rw [Nat.eq_of_beq_eq_true (show Nat.beq a b = true from h)]) | exact absurd h (by simp [xsame])
noncomputable def xallr (v : xV) (r : List xV) : Bool := List.rec (motive := fun _ => Bool) true (fun a _ ih => cond (xsame v a) ih false) r
theorem xallr_of {v : xV} : ∀ {r : List xV}, xallr v r = true → ∀ i, i < r.length → r[i]? = some v := by
  intro r
  induction r with
  | nil => intro _ i hi; exact absurd hi (by simp)
  | cons a r ih =>
    intro h i hi
    obtain ⟨h1, h2⟩ := xcond (b := xsame v a) (x := xallr v r) h
    cases i with
    | zero => rw [xsame_of h1]; rfl
    | succ i => simpa using ih h2 i (by simpa using hi)
noncomputable def xunif (v : xV) (rows : List (List xV)) : Nat → Bool := List.rec (motive := fun _ => Nat → Bool) (fun n => Nat.beq n 0) (fun r _ ih n => cond (xallr v r) (cond (Nat.ble 64 n) (cond (Nat.beq (xlen r) 64) (ih (Nat.sub n 64)) false) (Nat.beq (xlen r) n)) false) rows
theorem xat_cons {α : Type} (r : List α) (h : List (List α)) (i : Nat) : xat (r :: h) i = if i < 64 then r[i]? else xat h (i - 64) := by
  unfold xat
  split
  · next q => rw [show i / 64 = 0 by omega, show i % 64 = i by omega]; rfl
  · next q => rw [show i / 64 = (i - 64) / 64 + 1 by omega, show i % 64 = (i - 64) % 64 by omega]; simp
theorem xunif_of {v : xV} : ∀ {rows : List (List xV)} {n : Nat}, xunif v rows n = true → ∀ i, i < n → xat rows i = some v := by
  intro rows
  induction rows with
  | nil => intro n h i hi; have h : n = 0 := Nat.eq_of_beq_eq_true h; omega
  | cons r rows ih =>
    intro n h i hi
    obtain ⟨h1, h2⟩ := xcond (b := xallr v r) (x := cond (Nat.ble 64 n) (cond (Nat.beq (xlen r) 64) (xunif v rows (Nat.sub n 64)) false) (Nat.beq (xlen r) n)) h
    rw [xat_cons]
    by_cases c : Nat.ble 64 n = true
    · rw [c] at h2
      obtain ⟨h3, h4⟩ := xcond h2
      have h3 := Nat.eq_of_beq_eq_true h3
      rw [xlen_eq] at h3
      split
      · exact xallr_of h1 i (by omega)
      · exact ih h4 (i - 64) (by show i - 64 < n - 64; omega)
    · rw [xnf c] at h2
      have h3 : xlen r = n := Nat.eq_of_beq_eq_true h2
      rw [xlen_eq] at h3
      have h5 : n < 64 := by
        rcases Nat.lt_or_ge n 64 with q | q
        · exact q
        · exact absurd (by simpa using q) c
      rw [if_pos (by omega)]
      exact xallr_of h1 i (by omega)
noncomputable def xidx (env : xE) (n k : Nat) : Bool := xnth env (fun q => Bool.and (Nat.ble 2147483648 (Nat.add q.1 (Nat.div k 64))) (Nat.blt (Nat.add q.2 (Nat.div k 64)) (Nat.add 2147483648 n))) (Nat.mod k 64)
theorem xidx_of {ρ : Nat → Int32} {env : xE} {n k : Nat} (hr : xρ ρ env) (hn : n ≤ 2147483648) (h : xidx env n k = true) : ∃ u, ρ k = nI u ∧ u < n ∧ u < 2147483648 := by
  obtain ⟨q, hq, h⟩ := xnth_of h
  have hb := hr.2 (k % 64) q hq
  have h1 : Nat.ble 2147483648 (q.1 + k / 64) = true := by cases hc : Nat.ble 2147483648 (q.1 + k / 64) with | true => rfl | false => exact absurd (show Bool.and (Nat.ble 2147483648 (q.1 + k / 64)) _ = true from h) (by rw [hc]; simp)
  have h2 : Nat.blt (q.2 + k / 64) (2147483648 + n) = true := by cases hc : Nat.blt (q.2 + k / 64) (2147483648 + n) with | true => rfl | false => exact absurd (show Bool.and _ (Nat.blt (q.2 + k / 64) (2147483648 + n)) = true from h) (by rw [hc]; simp)
  have h1 := Nat.le_of_ble_eq_true h1
  have h2 := xblt.mp h2
  have e := hr.1 (k % 64) (k / 64) (Nat.mod_lt _ (by decide))
  rw [show k % 64 + 64 * (k / 64) = k by omega] at e
  have e3 : ρ (k % 64) = nI ((xb (ρ (k % 64)) + 2147483648) % 4294967296) := xub_of (x := ρ (k % 64)) rfl
  generalize xb (ρ (k % 64)) = z at hb e3
  refine ⟨z + k / 64 - 2147483648, ?_, by omega, by omega⟩
  have e4 : (z + 2147483648 + k / 64) % 4294967296 = (z + k / 64 - 2147483648) % 4294967296 := by omega
  rw [e, e3, xn_mod, nI_add, ← xn_mod (z + 2147483648 + k / 64), e4, xn_mod]
noncomputable def xuld (env : xE) (h : xH) (o a : Nat) (k : xV → Bool) : xV → Bool
  | .inr (.inl (some j)) => xhget h o (fun c => cond (Nat.beq c.1 a) (xhget c.2.2 0 (fun v => cond (Bool.and (Nat.ble c.2.1 2147483648) (xidx env c.2.1 j)) (cond (xunif v c.2.2 c.2.1) (k v) false) false)) false)
  | _ => false
noncomputable def xust (env : xE) (h : xH) (o a : Nat) (v : xV) (k : Bool) : xV → Bool
  | .inr (.inl (some j)) => xhget h o (fun c => cond (Nat.beq c.1 a) (cond (Bool.and (Nat.ble c.2.1 2147483648) (xidx env c.2.1 j)) (cond (xunif v c.2.2 c.2.1) k false) false) false)
  | _ => false
noncomputable def xo_iinc : xHd := fun ih me cs a b _ A k => match A with
  | (lv, st, env, r) => xfind lv a (fun v => xci env (fun e u => xfN (xioc 0 u b) (fun w => xfil a 0 lv (fun l => ih me cs ((a, .inl w) :: l, st, e, r) k))) (xfil a 0 lv (fun l => ih me cs ((a, xsum 0 v (.inl b)) :: l, st, env, r) k)) v)
def xz : xV → Bool
  | .inl u => Nat.beq u 0
  | _ => false
noncomputable def xo_ibin : xHd := fun ih me cs a _ _ A k => match A with
  | (lv, y :: x :: st, env, r) => cond (Bool.and (Nat.beq a 0) (Bool.and (xz y) (Nat.beq (xis x) 0))) (ih me cs (lv, x :: st, env, r) k) (cond (Bool.and (Nat.beq a 0) (Bool.and (xz x) (Nat.beq (xis y) 0))) (ih me cs (lv, y :: st, env, r) k) (xci env (fun e u => xci e (fun e v => xfN (xioc a u v) (fun w => ih me cs (lv, .inl w :: st, e, r) k)) (ih me cs (lv, xsum a (.inl u) y :: st, e, r) k) y) (cond (Nat.beq (xis y) 0) (ih me cs (lv, xsum a x y :: st, env, r) k) false) x))
  | _ => false
/-- 0 div, 1 rem -/
def xdv : Nat → Int32 → Int32 → Int32
  | 0, x, y => x / y
  | _, x, y => x - x / y * y
def xdvc (a u v : Nat) : Nat := cond (Bool.and (Nat.blt u 2147483648) (Nat.blt v 2147483648)) (Nat.rec (motive := fun _ => Nat) (Nat.div u v) (fun _ _ => Nat.mod u v) a) (xcode (xdv a (nI u) (nI v)))
noncomputable def xo_idiv : xHd := fun ih me cs a _ _ A k => match A with
  | (lv, y :: x :: st, env, r) => xci env (fun e v => cond (Nat.beq (Nat.mod v 4294967296) 0) false (xci e (fun e u => xfN (xdvc a u v) (fun w => ih me cs (lv, .inl w :: st, e, r) k)) (ih me cs (lv, xTop :: st, e, r) k) x)) false y
  | _ => false
noncomputable def xo_iun : xHd := fun ih me cs a _ _ A k => match A with
  | (lv, x :: st, env, r) => xci env (fun e u => xfN (xcode (xiu a (nI u))) (fun w => ih me cs (lv, .inl w :: st, e, r) k)) (ih me cs (lv, xTop :: st, env, r) k) x
  | _ => false
noncomputable def xo_i2l : xHd := fun ih me cs _ _ _ A k => match A with
  | (lv, x :: st, r) => match x with
    | .inl u => xfN (xcodeL (nI u).toInt64) (fun w => ih me cs (lv, xLc w :: st, r) k)
    | .inr (.inl none) => ih me cs (lv, xTopL :: st, r) k
    | .inr (.inl (some i)) => cond (Nat.blt i 64) (ih me cs (lv, .inr (.inr (.inr (.inr (some i)))) :: st, r) k) (ih me cs (lv, xTopL :: st, r) k)
    | .inr (.inr _) => false
  | _ => false
noncomputable def xo_l2i : xHd := fun ih me cs _ _ _ A k => match A with
  | (lv, x :: st, r) => match x with
    | .inr (.inr (.inr (.inl u))) => xfN (xcode (lN u).toInt32) (fun w => ih me cs (lv, .inl w :: st, r) k)
    | .inr (.inr (.inr (.inr _))) => ih me cs (lv, xTop :: st, r) k
    | _ => false
  | _ => false
/-- the known long, or not -/
def xlc : xV → Option Nat
  | .inr (.inr (.inr (.inl u))) => some u
  | _ => none
noncomputable def xo_lbin : xHd := fun ih me cs a _ _ A k => match A with
  | (lv, y :: x :: st, r) => cond (Bool.and (Nat.beq (xis y) 2) (Nat.beq (xis x) 2)) (match xlc x, xlc y with
    | some u, some v => xfN (xcodeL (xlo a (lN u) (lN v))) (fun w => ih me cs (lv, xLc w :: st, r) k)
    | _, _ => ih me cs (lv, xTopL :: st, r) k) false
  | _ => false
/-- 0 div, 1 rem; the divisor known and not 0 -/
def xldv : Nat → Int64 → Int64 → Int64
  | 0, x, y => x / y
  | _, x, y => x - x / y * y
noncomputable def xo_ldiv : xHd := fun ih me cs a _ _ A k => match A with
  | (lv, y :: x :: st, r) => cond (Nat.beq (xis x) 2) (match xlc y with
    | some v => cond (Nat.beq (Nat.mod v 18446744073709551616) 0) false (match xlc x with
      | some u => xfN (xcodeL (xldv a (lN u) (lN v))) (fun w => ih me cs (lv, xLc w :: st, r) k)
      | none => ih me cs (lv, xTopL :: st, r) k)
    | none => false) false
  | _ => false
noncomputable def xo_lsh : xHd := fun ih me cs a _ _ A k => match A with
  | (lv, y :: x :: st, r) => cond (Bool.and (Nat.beq (xis y) 0) (Nat.beq (xis x) 2)) (match xlc x, y with
    | some u, .inl v => xfN (xcodeL (xls a (lN u) (nI v))) (fun w => ih me cs (lv, xLc w :: st, r) k)
    | _, _ => ih me cs (lv, xTopL :: st, r) k) false
  | _ => false
/-- is this long the long of this int? -/
def xwide (u : Nat) : Bool := Nat.beq (xcodeL (nI (Nat.mod u 4294967296)).toInt64) (Nat.mod u 18446744073709551616)
noncomputable def xo_lcmp : xHd := fun ih me cs _ _ _ A k => match A with
  | (lv, y :: x :: st, env, r) => match x, y with
    | .inr (.inr (.inr (.inl u))), .inr (.inr (.inr (.inl v))) => xfN (xcode (lg_cmp (lN u) (lN v))) (fun w => ih me cs (lv, .inl w :: st, env, r) k)
    | .inr (.inr (.inr (.inr (some i)))), .inr (.inr (.inr (.inl v))) => cond (xwide v) (xfN (xbc (Nat.mod v 4294967296)) (fun z => xcut env i z (fun e => ih me cs (lv, .inl 4294967295 :: st, e, r) k) (fun e => xcut e i (Nat.succ z) (fun e => ih me cs (lv, .inl 0 :: st, e, r) k) (fun e => ih me cs (lv, .inl 1 :: st, e, r) k)))) (ih me cs (lv, xTop :: st, env, r) k)
    | .inr (.inr (.inr _)), .inr (.inr (.inr _)) => ih me cs (lv, xTop :: st, env, r) k
    | _, _ => false
  | _ => false
noncomputable def xo_dup : xHd := fun ih me cs _ _ _ A k => match A with
  | (lv, v :: st, r) => cond (Nat.blt (xis v) 2) (ih me cs (lv, v :: v :: st, r) k) false
  | _ => false
noncomputable def xo_pop : xHd := fun ih me cs _ _ _ A k => match A with
  | (lv, v :: st, r) => cond (Nat.blt (xis v) 2) (ih me cs (lv, st, r) k) false
  | _ => false
noncomputable def xo_dupx1 : xHd := fun ih me cs _ _ _ A k => match A with
  | (lv, v :: w :: st, r) => cond (Bool.and (Nat.blt (xis v) 2) (Nat.blt (xis w) 2)) (ih me cs (lv, v :: w :: v :: st, r) k) false
  | _ => false
noncomputable def xo_dupx2 : xHd := fun ih me cs _ _ _ A k => match A with
  | (lv, v :: w :: z :: st, r) => cond (Bool.and (Nat.blt (xis v) 2) (Bool.and (Nat.blt (xis w) 2) (Nat.blt (xis z) 2))) (ih me cs (lv, v :: w :: z :: v :: st, r) k) false
  | _ => false
noncomputable def xo_dup2 : xHd := fun ih me cs _ _ _ A k => match A with
  | (lv, v :: w :: st, r) => cond (Bool.and (Nat.blt (xis v) 2) (Nat.blt (xis w) 2)) (ih me cs (lv, v :: w :: v :: w :: st, r) k) false
  | _ => false
noncomputable def xo_if : xHd := fun ih me cs a b _ A k => match A with
  | (lv, x :: st, env, r) => xcmp env a (fun e t => cond t (xjmp me.2.2.2.2.1 b (fun cs => ih me cs (lv, st, e, r) k)) (ih me cs (lv, st, e, r) k)) x (.inl 0)
  | _ => false
noncomputable def xo_icmp : xHd := fun ih me cs a b _ A k => match A with
  | (lv, y :: x :: st, env, r) => xcmp env a (fun e t => cond t (xjmp me.2.2.2.2.1 b (fun cs => ih me cs (lv, st, e, r) k)) (ih me cs (lv, st, e, r) k)) x y
  | _ => false
noncomputable def xo_goto : xHd := fun ih me _ _ b _ A k => xjmp me.2.2.2.2.1 b (fun cs => ih me cs A k)
/-- 0 ifnull, 1 ifnonnull -/
noncomputable def xo_ifnull : xHd := fun ih me cs a b _ A k => match A with
  | (lv, .inr (.inr (.inl none)) :: st, r) => cond (Nat.beq a 0) (xjmp me.2.2.2.2.1 b (fun cs => ih me cs (lv, st, r) k)) (ih me cs (lv, st, r) k)
  | (lv, .inr (.inr (.inl (some _))) :: st, r) => cond (Nat.beq a 0) (ih me cs (lv, st, r) k) (xjmp me.2.2.2.2.1 b (fun cs => ih me cs (lv, st, r) k))
  | _ => false
/-- a place in a table, or what else -/
noncomputable def xnthD (l : List Nat) (d : Nat) : Nat → Nat := List.rec (motive := fun _ => Nat → Nat) (fun _ => d) (fun a _ ih n => Nat.rec (motive := fun _ => Nat) a (fun m _ => ih m) n) l
theorem xnthD_eq (l : List Nat) (d : Nat) : ∀ n, xnthD l d n = l.getD n d := by
  induction l with
  | nil => intro n; rfl
  | cons a l ih =>
    intro n
    cases n with
    | zero => rfl
    | succ m => show xnthD l d m = _; rw [ih m]; rfl
noncomputable def xtab (a b : Nat) (l : List Nat) (z : Nat) : Nat := cond (Nat.blt z a) b (xnthD l b (Nat.sub z a))
noncomputable def xo_table : xHd := fun ih me _ a b l A k => match A with
  | (lv, v :: st, env, r) => match v with
    | .inl u => xfN (xtab a b l (xbc u)) (fun t => xjmp me.2.2.2.2.1 t (fun cs => ih me cs (lv, st, env, r) k))
    | .inr (.inl (some i)) => xcut env i a (fun e => xjmp me.2.2.2.2.1 b (fun cs => ih me cs (lv, st, e, r) k)) (fun e => xcut e i (Nat.add a (xlen l)) (fun e => xall e i (fun e u => xfN (xtab a b l (xbc u)) (fun t => xjmp me.2.2.2.2.1 t (fun cs => ih me cs (lv, st, e, r) k)))) (fun e => xjmp me.2.2.2.2.1 b (fun cs => ih me cs (lv, st, e, r) k)))
    | _ => false
  | _ => false
noncomputable def xo_getf : xHd := fun ih me cs a b _ A k => match A with
  | (lv, .inr (.inr (.inl (some o))) :: st, env, h, r) => xhget h o (fun c => cond (Nat.beq c.1 a) (xhget c.2.2 b (fun v => ih me cs (lv, v :: st, env, h, r) k)) false)
  | _ => false
/-- may a variable of this kind hold it? 0 int, 1 reference, 2 long, 3 boolean -/
def xfits (t : Nat) (v : xV) : Bool := match t, v with
  | 0, .inl _ => true
  | 0, .inr (.inl _) => true
  | 1, .inr (.inr (.inl _)) => true
  | 2, .inr (.inr (.inr _)) => true
  | 3, .inl u => Nat.blt u 2
  | _, _ => false
noncomputable def xo_putf : xHd := fun ih me cs a b l A k => match A with
  | (lv, v :: .inr (.inr (.inl (some o))) :: st, env, h, r) => cond (xfits (xnthD l 9 0) v) (xhget h o (fun c => cond (Nat.beq c.1 a) (xhset c.2.2 b v (fun fs => xhset h o (a, c.2.1, fs) (fun h => ih me cs (lv, st, env, h, r) k))) false)) false
  | _ => false
def xdef : Nat → xV
  | 1 => .inr (.inr (.inl none))
  | 2 => xLc 0
  | _ => .inl 0
/-- new: a the class, l the kinds of its fields -/
noncomputable def xo_new : xHd := fun ih me cs a _ l A k => match A with
  | (lv, st, env, h, n, uc, us) => xfN (Nat.succ uc) (fun uc => xfN (Nat.add us (xlen l)) (fun us => cond (Bool.and (Nat.ble uc me.2.2.2.2.2.cells) (Nat.ble us me.2.2.2.2.2.slots)) (xhpush h n (a, xlen l, [l.map xdef]) (fun h => xfN (Nat.succ n) (fun n' => ih me cs (lv, xRef n :: st, env, h, n', uc, us) k))) false))
/-- newarray: a the kind of array (100 + its place in the list of types), b the kind of its elements -/
noncomputable def xo_newa : xHd := fun ih me cs a b _ A k => match A with
  | (lv, .inl u :: st, env, h, n, uc, us) => xfN (Nat.succ uc) (fun uc => xfN (Nat.add us u) (fun us => cond (Bool.and (Nat.blt u 100000) (Bool.and (Nat.ble uc me.2.2.2.2.2.cells) (Nat.ble us me.2.2.2.2.2.slots))) (xrows (xdef b) u (fun fs => xhpush h n (a, u, fs) (fun h => xfN (Nat.succ n) (fun n' => ih me cs (lv, xRef n :: st, env, h, n', uc, us) k)))) false))
  | _ => false
/-- arraylength: b is 100 and how many types of arrays there are -/
noncomputable def xo_alen : xHd := fun ih me cs _ b _ A k => match A with
  | (lv, .inr (.inr (.inl (some o))) :: st, env, h, r) => xhget h o (fun c => cond (Bool.and (Nat.ble 100 c.1) (Nat.blt c.1 b)) (xfN c.2.1 (fun w => ih me cs (lv, .inl w :: st, env, h, r) k)) false)
  | _ => false
/-- array loads: a the kind of array -/
noncomputable def xo_ald : xHd := fun ih me cs a _ _ A k => match A with
  | (lv, i :: .inr (.inr (.inl (some o))) :: st, env, h, r) => xci env (fun e u => cond (Nat.blt u 2147483648) (xhget h o (fun c => cond (Nat.beq c.1 a) (xhget c.2.2 u (fun v => ih me cs (lv, v :: st, e, h, r) k)) false)) false) (xuld env h o a (fun v => ih me cs (lv, v :: st, env, h, r) k) i) i
  | _ => false
/-- array stores: a the kind of array, b the kind of its elements -/
noncomputable def xo_ast : xHd := fun ih me cs a b _ A k => match A with
  | (lv, v :: i :: .inr (.inr (.inl (some o))) :: st, env, h, r) => cond (xfits b v) (xci env (fun e u => cond (Nat.blt u 2147483648) (xhget h o (fun c => cond (Nat.beq c.1 a) (xhset c.2.2 u v (fun fs => xhset h o (a, c.2.1, fs) (fun h => ih me cs (lv, st, e, h, r) k))) false)) false) (xust env h o a v (ih me cs (lv, st, env, h, r) k) i) i) false
  | _ => false
/-- the arguments of a call off the stack -/
noncomputable def xpop (n : Nat) : List xV → List xV → (List xV → List xV → Bool) → Bool := Nat.rec (motive := fun _ => List xV → List xV → (List xV → List xV → Bool) → Bool) (fun st acc k => k acc st) (fun _ ih st acc k => match st with | v :: st => ih st (v :: acc) k | [] => false) n
noncomputable def xargs (vs : List xV) : Nat → (xL → Bool) → Bool := List.rec (motive := fun _ => Nat → (xL → Bool) → Bool) (fun _ k => k []) (fun v _ ih i k => xfN (cond (Nat.beq (xis v) 2) (Nat.succ (Nat.succ i)) (Nat.succ i)) (fun j => ih j (fun l => k ((i, v) :: l)))) vs
noncomputable def xcats (st : List xV) : Nat := List.rec (motive := fun _ => Nat) 0 (fun v _ ih => Nat.add (cond (Nat.beq (xis v) 2) 2 1) ih) st
/-- the receiver is of class number ci: t is ci + 1, or 0 where none is looked at -/
noncomputable def xrecv (h : xH) (vs : List xV) (t : Nat) : Bool := Nat.rec (motive := fun _ => Bool) true (fun ci _ => match vs with | .inr (.inr (.inl (some o))) :: _ => xhget h o (fun c => Nat.beq c.1 ci) | _ => false) t
/-- what goes on behind a call -/
noncomputable def xafter (ih : xIh) (me : xM) (cs : List xI) (lv : xL) (st : List xV) (uc us : Nat) (k : xK) : xK := fun e h n r => match r with
  | none => ih me cs (lv, st, e, h, n, uc, us) k
  | some v => ih me cs (lv, v :: st, e, h, n, uc, us) k
/-- a call: a how many arguments (the receiver counts), b which method; l: 0 the receiver's class + 1, 0 for none -/
noncomputable def xo_call (Ms : List xM) : xHd := fun ih me cs a b l A k => match A with
  | (lv, st, env, h, n, uc, us) => xnth Ms (fun mc => xpop a st [] (fun vs st => cond (Bool.and (Nat.ble (xcats st) 8) (Nat.ble (xcats vs) mc.2.2.1)) (xfN (Nat.add uc mc.2.2.2.2.2.cells) (fun uc => xfN (Nat.add us mc.2.2.2.2.2.slots) (fun us => cond (Bool.and (Nat.ble uc me.2.2.2.2.2.cells) (Nat.ble us me.2.2.2.2.2.slots)) (cond (xrecv h vs (xnthD l 0 0)) (xargs vs 0 (fun lv' => ih mc mc.2.2.2.2.1 (lv', [], env, h, n, 0, 0) (xafter ih me cs lv st uc us k))) false) false))) false)) b
noncomputable def xo_oinit : xHd := fun ih me cs _ _ _ A k => match A with
  | (lv, .inr (.inr (.inl (some _))) :: st, r) => cond (Nat.ble (Nat.add (xcats st) 12) me.2.2.2.2.2.locals) (ih me cs (lv, st, r) k) false
  | _ => false
noncomputable def xo_iret : xHd := fun _ _ _ a _ _ A k => match A with
  | (_, v :: [], env, h, n, _, _) => cond (xfits a v) (k env h n (some v)) false
  | _ => false
noncomputable def xo_ret : xHd := fun _ _ _ _ _ _ A k => match A with
  | (_, [], env, h, n, _, _) => k env h n none
  | _ => false

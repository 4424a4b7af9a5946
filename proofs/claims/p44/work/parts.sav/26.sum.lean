set_option linter.all false
/-! what a method does from a place on, known beforehand -/
abbrev xSm : Type := xM → List xI → xA → xK → Bool → Bool
noncomputable def xrunS (Ms : List xM) (S : xSm) (n : Nat) : xIh := Nat.rec (motive := fun _ => xIh) (fun _ _ _ _ => false) (fun _ ih me cs A k => S me cs A k (xstep Ms ih me cs A k)) n
/-- a heap without variables -/
def xnv : xV → Bool
  | .inl _ => true
  | .inr (.inl _) => false
  | .inr (.inr (.inl _)) => true
  | .inr (.inr (.inr (.inl _))) => true
  | .inr (.inr (.inr (.inr _))) => false
def xnvH (h : xH) : Bool := h.all (fun r => r.all (fun c => c.2.2.all (fun r => r.all xnv)))
theorem xnv_g {ρ ρ' : Nat → Int32} {base : Nat} {x : xV} {v : Value} (h : xnv x = true) (hg : xg ρ base x v) : xg ρ' base x v := by
  rcases x with a | a | a | a | a
  · exact hg
  · exact absurd h (by simp [xnv])
  · cases a <;> exact hg
  · exact hg
  · exact absurd h (by simp [xnv])
theorem xat_mem {α : Type} {h : List (List α)} {a : Nat} {c : α} (e : xat h a = some c) : ∃ r ∈ h, c ∈ r := by
  unfold xat at e
  cases hr : h[a / 64]? with
  | none => rw [hr] at e; cases e
  | some r => rw [hr] at e; exact ⟨r, List.mem_of_getElem? hr, List.mem_of_getElem? e⟩
theorem xHR_nv {ρ ρ' : Nat → Int32} {base : Nat} {F : Nat → Prop} {D : va_G} {dA : Nat → ClassId} {tys : List FieldType} {cl : List vw_C} {h : xH} {n : Nat} {H : Heap} (hn : xnvH h = true) (hh : xHR ρ base F D dA tys cl h n H) : xHR ρ' base F D dA tys cl h n H := by
  refine ⟨hh.1, fun a c hc => ?_⟩
  obtain ⟨fs, h1, h2⟩ := hh.2 a c hc
  refine ⟨fs, ⟨h1.1, fun i x hx => ?_⟩, h2⟩
  obtain ⟨v, h3, h4⟩ := h1.2 i x hx
  obtain ⟨r, hr1, hr2⟩ := xat_mem hc
  obtain ⟨q, hq1, hq2⟩ := xat_mem hx
  have e1 := List.all_eq_true.mp hn r hr1
  have e2 := List.all_eq_true.mp e1 c hr2
  have e3 := List.all_eq_true.mp e2 q hq1
  exact ⟨v, h3, xnv_g (List.all_eq_true.mp e3 x hq2) h4⟩
/-- a place is found in the locals -/
noncomputable def xmt (lv : xL) (pat : List (Nat × (xV → Bool))) : Bool := List.rec (motive := fun _ => Bool) true (fun q _ ih => cond (xfind lv q.1 q.2) ih false) pat
theorem xmt_of {lv : xL} : ∀ {pat : List (Nat × (xV → Bool))}, xmt lv pat = true → ∀ q ∈ pat, ∃ (j : Nat) (x : xV), lv[j]? = some (q.1, x) ∧ q.2 x = true := by
  intro pat
  induction pat with
  | nil => intro _ q hq; cases hq
  | cons p pat ih =>
    intro h q hq
    obtain ⟨h1, h2⟩ := xcond (b := xfind lv p.1 p.2) (x := xmt lv pat) h
    rcases List.mem_cons.mp hq with rfl | hq
    · exact xfind_of h1
    · exact ih h2 q hq
noncomputable def xacc (nm : MethodName) (pcH : Nat) (pat : List (Nat × (xV → Bool))) (te : xE → Bool) (h0 : xH) (n0 : Nat) (r : xV) : xSm := fun me cs A k d => match cs with
  | [] => d
  | i :: _ => cond (Nat.beq i.1 pcH) (cond (xmt A.1 pat) (cond (Bool.and (Nat.beq A.2.2.2.2.1 n0) (Bool.and (Nat.beq A.2.2.2.2.2.1 0) (Nat.beq A.2.2.2.2.2.2 0))) (cond (Bool.and (decide (me.1 = nm)) (Bool.and (List.isEmpty A.2.1) (te A.2.2.1))) (cond (xeqH A.2.2.2.1 h0) (k A.2.2.1 h0 n0 (some r)) d) d) d) d) d
section XSU
variable {ρ ρ' : Nat → Int32} {base : Nat} {F : Nat → Prop} {Tc : List (List Jvm.Cond)} {Ts Ns : List Jvm.Cond} {cl : List vw_C} {tys : List FieldType} {D : va_G} {dA : Nat → ClassId} {la : Launch} {okc : xM → List xI → Bool} {Ms : List xM} {mi : xM} {k : xK} {pc : Nat}
def xSok (ρ : Nat → Int32) (base : Nat) (F : Nat → Prop) (Ts Ns : List Jvm.Cond) (cl : List vw_C) (tys : List FieldType) (D : va_G) (dA : Nat → ClassId) (la : Launch) (Ms : List xM) (S : xSm) : Prop :=
  ∀ (me : xM) (cs : List xI) (A : xA) (k : xK) (d : Bool) (pc : Nat), me ∈ Ms → xatp pc cs → S me cs A k d = true → d = true ∨ xGd ρ base F Ts Ns cl tys D dA la me pc A k
theorem xrunS_ok {S : xSm} (hG : xGl Tc Ms cl tys) (hS : xSok ρ base F (xTs Tc) (xNs Tc) cl tys D dA la Ms S) : ∀ n : Nat, xIH ρ base F (xTs Tc) (xNs Tc) cl tys D dA la (xokc Tc Ms cl tys) Ms (xrunS Ms S n) := by
  intro n
  induction n with
  | zero => intro me cs A k pc _ h; exact absurd h (by change ¬ (false = true); decide)
  | succ n ih =>
    intro me cs A k pc hme h hok hat
    rcases hS me cs A k _ pc hme hat h with h | h
    · exact xstep_ok hG ih me cs A k pc hme h hok hat
    · exact h
theorem xSok_both {S S' : xSm} (h : xSok ρ base F Ts Ns cl tys D dA la Ms S) (h' : xSok ρ base F Ts Ns cl tys D dA la Ms S') : xSok ρ base F Ts Ns cl tys D dA la Ms (fun me cs A k d => S me cs A k (S' me cs A k d)) := by
  intro me cs A k d pc hme hat hs
  rcases h me cs A k _ pc hme hat hs with h1 | h1
  · exact h' me cs A k d pc hme hat h1
  · exact Or.inr h1
theorem xcondd {b x d : Bool} (h : cond b x d = true) : d = true ∨ (b = true ∧ x = true) := by cases b <;> simp_all
theorem xacc_ok {nm : MethodName} {pcH n0 : Nat} {pat : List (Nat × (xV → Bool))} {te : xE → Bool} {h0 : xH} {r : xV} (hu : ∀ me ∈ Ms, me.1 = nm → me = mi) (hacc : ∀ (lv : xL) (env : xE) (k : xK), xmt lv pat = true → te env = true → k env h0 n0 (some r) = true → xGd ρ base F Ts Ns cl tys D dA la mi pcH (lv, [], env, h0, n0, 0, 0) k) : xSok ρ base F Ts Ns cl tys D dA la Ms (xacc nm pcH pat te h0 n0 r) := by
  intro me cs A k d pc hme hat h
  cases cs with
  | nil => exact Or.inl h
  | cons i cs =>
    have hpc := hat i cs rfl
    rcases xcondd h with h | ⟨h1, h⟩
    · exact Or.inl h
    rcases xcondd h with h | ⟨h2, h⟩
    · exact Or.inl h
    rcases xcondd h with h | ⟨h3, h⟩
    · exact Or.inl h
    rcases xcondd h with h | ⟨h4, h⟩
    · exact Or.inl h
    rcases xcondd h with h | ⟨h5, h⟩
    · exact Or.inl h
    refine Or.inr ?_
    obtain ⟨lv, st, env, hp, n, uc, us⟩ := A
    have e1 : i.1 = pcH := Nat.eq_of_beq_eq_true h1
    have e2 : n = n0 := Nat.eq_of_beq_eq_true (xand h3).1
    have e3 : uc = 0 := Nat.eq_of_beq_eq_true (xand (xand h3).2).1
    have e4 : us = 0 := Nat.eq_of_beq_eq_true (xand (xand h3).2).2
    have e5 : me = mi := hu me hme (of_decide_eq_true (xand h4).1)
    have e6 : st = [] := List.isEmpty_iff.mp (xand (xand h4).2).1
    have e7 : hp = h0 := xeqH_of h5
    rw [← hpc, e1, e5]
    subst e2; subst e3; subst e4; subst e6; subst e7
    exact hacc lv env k h2 (xand (xand h4).2).2 h
theorem xpat {lv : xL} {lvc : List (Nat × Value)} {ls : Array Slot} {ml : Nat} (hl : lv_has ls ml lvc) (hr : xLR ρ base lv lvc) : ∀ (L : xL), (∀ q ∈ L, ∃ (j : Nat) (x : xV), lv[j]? = some (q.1, x) ∧ ∀ v, xg ρ base x v → xg ρ' base q.2 v) → ∃ lvc', lv_has ls ml lvc' ∧ xLR ρ' base L lvc' := by
  intro L
  induction L with
  | nil => intro _; exact ⟨[], ⟨hl.1, hl.2.1, fun q hq => absurd hq List.not_mem_nil⟩, trivial⟩
  | cons q L ih =>
    intro h
    obtain ⟨lvc', h1, h2⟩ := ih (fun q' hq => h q' (List.mem_cons_of_mem _ hq))
    obtain ⟨j, x, h3, h4⟩ := h q List.mem_cons_self
    obtain ⟨v, h5, h6⟩ := xLR_get hr h3
    refine ⟨(q.1, v) :: lvc', ⟨h1.1, h1.2.1, fun q' hq => ?_⟩, ⟨rfl, h4 v h6⟩, h2⟩
    rcases List.mem_cons.mp hq with rfl | hq
    · exact lv_at hl j h5
    · exact h1.2.2 q' hq
noncomputable def xK0 (h0 : xH) (n0 : Nat) (r0 : Nat) : xK := fun _ h n r => match r with
  | some (.inl u) => cond (Bool.and (Nat.beq u r0) (Nat.beq n n0)) (xeqH h h0) false
  | _ => false
theorem xK0_of {h0 h : xH} {n0 n r0 : Nat} {env : xE} {r : Option xV} (e : xK0 h0 n0 r0 env h n r = true) : r = some (.inl r0) ∧ n = n0 ∧ h = h0 := by
  cases r with
  | none => exact absurd e (by simp [xK0])
  | some x =>
    cases x with
    | inr _ => exact absurd e (by simp [xK0])
    | inl u =>
      obtain ⟨h1, h2⟩ := xcond (show cond (Bool.and (Nat.beq u r0) (Nat.beq n n0)) (xeqH h h0) false = true from e)
      rw [Nat.eq_of_beq_eq_true (xand h1).1]
      exact ⟨rfl, Nat.eq_of_beq_eq_true (xand h1).2, xeqH_of h2⟩
theorem xMQ {below : List Frame} {Q Q' : Array Value → State → Outcome → State → Prop} {a : Array Value} {s : State} {mc ms : Nat} {F : Addr → Prop} (h : ∀ o t, Q a s o t → Q' a s o t) {t : State} (q : MQ below Q a s mc ms F t) : MQ below Q' a s mc ms F t := by
  unfold MQ at q ⊢
  first
    | (obtain ⟨o, L, h1, h2, h3, h4, h5⟩ := q; exact ⟨o, L, h1, h2, h o t h3, h4, h5⟩)
    | (obtain ⟨o, L, h1, h2, h3, h4, h5⟩ := q; exact ⟨o, L, h1, h2, h3, h o t h4, h5⟩)
    | (obtain ⟨o, h1, h2, h3, h4⟩ := q; exact ⟨o, h1, h2, h o t h3, h4⟩)
/-- what holds from an invariant state on holds from every state that it covers -/
theorem xtr {h0 : xH} {n0 r0 : Nat} (hnv : xnvH h0 = true) {L lv : xL} {E env : xE} (hG : xGd ρ' base F Ts Ns cl tys D dA la mi pc (L, [], E, h0, n0, 0, 0) (xK0 h0 n0 r0)) (hE : xρ ρ env → xρ ρ' E) (hL : ∀ q ∈ L, ∃ (j : Nat) (x : xV), lv[j]? = some (q.1, x) ∧ ∀ v, xg ρ base x v → xg ρ' base q.2 v) (hk : k env h0 n0 (some (.inl r0)) = true) : xGd ρ base F Ts Ns cl tys D dA la mi pc (lv, [], env, h0, n0, 0, 0) k := by
  intro p e s m args below meth c C H locs ls stc hI hS
  obtain ⟨lvc, hl, hlr⟩ := hI.2.1
  obtain ⟨lvc', hl', hlr'⟩ := xpat hl hlr L hL
  have hst : stc = [] := xSR_nil hI.2.2.1
  have g := hG p e s m args below meth c C H locs ls stc ⟨hE hI.1, ⟨lvc', hl', hlr'⟩, by rw [hst]; exact trivial, xHR_nv hnv hI.2.2.2.1, Nat.zero_le _, Nat.zero_le _⟩ hS
  intro T hT X
  obtain ⟨t, a1, b1⟩ := g T hT X
  refine ⟨t, a1, xMQ (fun o t q => ?_) b1⟩
  obtain ⟨q1, env', h', n', r, q2, q3, q4, q5⟩ := q
  obtain ⟨rfl, rfl, rfl⟩ := xK0_of q2
  refine ⟨q1, env, h', n', _, hk, hI.1, xHR_nv hnv q4, Or.inr ?_⟩
  rcases q5 with ⟨q5, -⟩ | ⟨x, v, q5, q6, q7⟩
  · cases q5
  · cases q5
    exact ⟨_, v, rfl, q6, q7⟩
end XSU
/-- the line through given values -/
def xext (σ : Nat → Int32) : Nat → Int32 := fun j => σ (j % 64) + nI (j / 64)
theorem xext_lin (σ : Nat → Int32) : xLin (xext σ) := by
  intro k c hk
  show σ ((k + 64 * c) % 64) + nI ((k + 64 * c) / 64) = σ (k % 64) + nI (k / 64) + nI c
  rw [show (k + 64 * c) % 64 = k % 64 by omega, show (k + 64 * c) / 64 = c by omega, show k / 64 = 0 by omega, show nI 0 = 0 from rfl, Int32.add_zero]
theorem xext_at (σ : Nat → Int32) {k : Nat} (hk : k < 64) : xext σ k = σ k := by
  show σ (k % 64) + nI (k / 64) = σ k
  rw [show k % 64 = k by omega, show k / 64 = 0 by omega, show nI 0 = 0 from rfl, Int32.add_zero]
/-- bounds of one variable -/
noncomputable def xbd (k lo hi : Nat) (env : xE) : Bool := xnth env (fun q => Bool.and (Nat.ble lo q.1) (Nat.ble q.2 hi)) k
theorem xbd_of {ρ : Nat → Int32} {k lo hi : Nat} {env : xE} (h : xbd k lo hi env = true) (hr : xρ ρ env) : lo ≤ xb (ρ k) ∧ xb (ρ k) ≤ hi := by
  obtain ⟨q, h1, h2⟩ := xnth_of h
  have h3 := Nat.le_of_ble_eq_true (xand h2).1
  have h4 := Nat.le_of_ble_eq_true (xand h2).2
  have := hr.2 k q h1
  omega
/-- an int within bounds: known, or a variable -/
noncomputable def xrg (env : xE) (lo hi : Nat) : xV → Bool
  | .inl u => Bool.and (Nat.ble lo (xbc u)) (Nat.ble (xbc u) hi)
  | .inr (.inl (some k)) => xbd k lo hi env
  | _ => false
theorem xrg_of {ρ : Nat → Int32} {base lo hi : Nat} {env : xE} {x : xV} {v : Value} (h : xrg env lo hi x = true) (hr : xρ ρ env) (hg : xg ρ base x v) : ∃ z : Int32, v = .int z ∧ lo ≤ xb z ∧ xb z ≤ hi := by
  rcases x with u | o | a | a | a
  · have h : Bool.and (Nat.ble lo (xbc u)) (Nat.ble (xbc u) hi) = true := h
    exact ⟨nI u, hg, by rw [← xbc_eq]; exact Nat.le_of_ble_eq_true (xand h).1, by rw [← xbc_eq]; exact Nat.le_of_ble_eq_true (xand h).2⟩
  · cases o with
    | none => exact absurd h (by simp [xrg])
    | some k => exact ⟨ρ k, hg, xbd_of h hr⟩
  · exact absurd h (by simp [xrg])
  · exact absurd h (by simp [xrg])
  · exact absurd h (by simp [xrg])
theorem xb_up {x : Int32} {c : Nat} (h : xb x + c < 4294967296) : xb (x + nI c) = xb x + c := by
  have e : x = nI (xub (xb x)) := xub_of rfl
  have hx := xb_max x
  generalize hz : xb x = z at e h hx
  rw [e, nI_add, ← xbc_eq]
  show ((z + 2147483648) % 4294967296 + c + 2147483648) % 4294967296 = z + c
  omega
theorem xb_dn {x : Int32} (h : 0 < xb x) : xb (x + nI 4294967295) = xb x - 1 := by
  have e : x = nI (xub (xb x)) := xub_of rfl
  have hx := xb_max x
  generalize hz : xb x = z at e h hx
  rw [e, nI_add, ← xbc_eq]
  show ((z + 2147483648) % 4294967296 + 4294967295 + 2147483648) % 4294967296 = z - 1
  omega

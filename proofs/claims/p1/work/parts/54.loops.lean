/-! loops that are not explored to their ends: leastHarm, findLoads (written by gen39.py) -/
noncomputable def xaccE (nm : MethodName) (pcH : Nat) (pat : xE → List (Nat × (xV → Bool))) (h0 : xH) (n0 : Nat) (r : xV) : xSm := fun me cs A k d => match cs with
  | [] => d
  | i :: _ => cond (Nat.beq i.1 pcH) (cond (xmt A.1 (pat A.2.2.1)) (cond (Bool.and (Nat.beq A.2.2.2.2.1 n0) (Bool.and (Nat.beq A.2.2.2.2.2.1 0) (Nat.beq A.2.2.2.2.2.2 0))) (cond (Bool.and (decide (me.1 = nm)) (List.isEmpty A.2.1)) (cond (xeqH A.2.2.2.1 h0) (k A.2.2.1 h0 n0 (some r)) d) d) d) d) d
abbrev xv (k : Nat) : xV := .inr (.inl (some k))
def xF : Nat × Nat := (0, 4294967295)
def xqN : Nat × Nat := (2147483649, 2147483672)
def xqB : Nat × Nat := (2147483648, 2147483948)
def xqU : Nat × Nat := (2147483648, 2147483949)
def xqD : Nat × Nat := (2147483647, 2147483948)
def xE5 (q1 q2 q3 q4 q5 : Nat × Nat) : xE := [xF, q1, q2, q3, q4, q5, xF, xF]
theorem xfull (ρ : Nat → Int32) (k : Nat) : xF.1 ≤ xb (ρ k) ∧ xb (ρ k) ≤ xF.2 := ⟨Nat.zero_le _, by have := xb_max (ρ k); show _ ≤ 4294967295; omega⟩
theorem xρ8 {ρ : Nat → Int32} (hl : xLin ρ) {q1 q2 q3 q4 q5 : Nat × Nat} (h1 : q1.1 ≤ xb (ρ 1) ∧ xb (ρ 1) ≤ q1.2) (h2 : q2.1 ≤ xb (ρ 2) ∧ xb (ρ 2) ≤ q2.2) (h3 : q3.1 ≤ xb (ρ 3) ∧ xb (ρ 3) ≤ q3.2) (h4 : q4.1 ≤ xb (ρ 4) ∧ xb (ρ 4) ≤ q4.2) (h5 : q5.1 ≤ xb (ρ 5) ∧ xb (ρ 5) ≤ q5.2) : xρ ρ (xE5 q1 q2 q3 q4 q5) := by
  refine ⟨hl, fun k q hq => ?_⟩
  match k, hq with
  | 0, hq => cases hq; exact xfull ρ 0
  | 1, hq => cases hq; exact h1
  | 2, hq => cases hq; exact h2
  | 3, hq => cases hq; exact h3
  | 4, hq => cases hq; exact h4
  | 5, hq => cases hq; exact h5
  | 6, hq => cases hq; exact xfull ρ 6
  | 7, hq => cases hq; exact xfull ρ 7
  | k + 8, hq => cases hq
def xupd (ρ : Nat → Int32) (i : Nat) (w : Int32) : Nat → Int32 := xext (fun k => if k = i then w else ρ k)
theorem xupd_at {ρ : Nat → Int32} {i : Nat} {w : Int32} (hi : i < 64) : xupd ρ i w i = w := by
  show xext _ i = w
  rw [xext_at _ hi]
  simp
theorem xupd_ne {ρ : Nat → Int32} {i k : Nat} {w : Int32} (hk : k < 64) (h : k ≠ i) : xupd ρ i w k = ρ k := by
  show xext _ k = ρ k
  rw [xext_at _ hk]
  simp [h]
theorem xmt_cons {lv : xL} {i : Nat} {t : xV → Bool} {l : List (Nat × (xV → Bool))} (h : xmt lv ((i, t) :: l) = true) : (∃ (j : Nat) (x : xV), lv[j]? = some (i, x) ∧ t x = true) ∧ xmt lv l = true := by
  obtain ⟨h1, h2⟩ := xcond (b := xfind lv i t) (x := xmt lv l) h
  exact ⟨xfind_of h1, h2⟩
theorem xans_var {ρ : Nat → Int32} {env : xE} {lo hi base : Nat} {x : xV} (h : xrg env lo hi x = true) (hr : xρ ρ env) : (∀ v, xg ρ base x v → v = .int (xans ρ x)) ∧ lo ≤ xb (xans ρ x) ∧ xb (xans ρ x) ≤ hi := by
  have hg : xg ρ base x (.int (xans ρ x)) := by
    rcases x with u | q | a | a | a
    · exact rfl
    · cases q with
      | none => exact absurd h (by simp [xrg])
      | some k => exact rfl
    · exact absurd h (by simp [xrg])
    · exact absurd h (by simp [xrg])
    · exact absurd h (by simp [xrg])
  obtain ⟨z, h1, h2, h3⟩ := xrg_of h hr hg
  have e : xans ρ x = z := by injection h1
  rw [e]
  refine ⟨fun v hv => ?_, h2, h3⟩
  rcases x with u | q | a | a | a
  · rw [← e]; exact hv
  · cases q with
    | none => exact absurd h (by simp [xrg])
    | some k => rw [← e]; exact hv
  · exact absurd h (by simp [xrg])
  · exact absurd h (by simp [xrg])
  · exact absurd h (by simp [xrg])
section XLO
variable {ρ ρ' : Nat → Int32} {base : Nat} {F : Nat → Prop} {Ts Ns : List Jvm.Cond} {cl : List vw_C} {tys : List FieldType} {D : va_G} {dA : Nat → ClassId} {la : Launch} {me : xM} {k : xK} {pc : Nat} {A : xA}
theorem xGd_env (h : xρ ρ A.2.2.1 → xGd ρ base F Ts Ns cl tys D dA la me pc A k) : xGd ρ base F Ts Ns cl tys D dA la me pc A k := fun p e s m args below meth c C H locs ls stc hI hS => h hI.1 p e s m args below meth c C H locs ls stc hI hS
theorem xaccE_ok {Ms : List xM} {mi : xM} {nm : MethodName} {pcH n0 : Nat} {pat : xE → List (Nat × (xV → Bool))} {h0 : xH} {r : xV} (hu : ∀ me ∈ Ms, me.1 = nm → me = mi) (hacc : ∀ (lv : xL) (env : xE) (k : xK), xmt lv (pat env) = true → k env h0 n0 (some r) = true → xGd ρ base F Ts Ns cl tys D dA la mi pcH (lv, [], env, h0, n0, 0, 0) k) : xSok ρ base F Ts Ns cl tys D dA la Ms (xaccE nm pcH pat h0 n0 r) := by
  intro me cs A k d pc hme hat h
  cases cs with
  | nil => exact Or.inl h
  | cons i cs =>
    have hpc := hat i cs rfl
    rcases xcondd h with h | ⟨h1, h⟩
    · exact Or.inl h
    rcases xcondd h with h | ⟨h2, h⟩
    · exact Or.inl h
    rcases xcondd h with h | ⟨h3, h⟩
    · exact Or.inl h
    rcases xcondd h with h | ⟨h4, h⟩
    · exact Or.inl h
    rcases xcondd h with h | ⟨h5, h⟩
    · exact Or.inl h
    refine Or.inr ?_
    obtain ⟨lv, st, env, hp, n, uc, us⟩ := A
    have e1 : i.1 = pcH := Nat.eq_of_beq_eq_true h1
    have e2 : n = n0 := Nat.eq_of_beq_eq_true (xand h3).1
    have e3 : uc = 0 := Nat.eq_of_beq_eq_true (xand (xand h3).2).1
    have e4 : us = 0 := Nat.eq_of_beq_eq_true (xand (xand h3).2).2
    have e5 : me = mi := hu me hme (of_decide_eq_true (xand h4).1)
    have e6 : st = [] := List.isEmpty_iff.mp (xand h4).2
    have e7 : hp = h0 := xeqH_of h5
    rw [← hpc, e1, e5]
    subst e2; subst e3; subst e4; subst e6; subst e7
    exact hacc lv env k h2 h
theorem xgo {S : xSm} (hme : me ∈ xMs) (hS : xSok ρ base F (xTs xTc) (xNs xTc) vwCl xTys D dA la xMs S) {f : Nat} (h : xjmp (xcd me) pc (fun cs => xrunS xMs S f me cs A k) = true) : xGd ρ base F (xTs xTc) (xNs xTc) vwCl xTys D dA la me pc A k := by
  obtain ⟨i, r, h1, h2, h3⟩ := xjmp_of h
  obtain ⟨p1, p2, p3⟩ := xG2 me hme
  exact xrunS_ok xG hS f me (i :: r) A k pc hme h3 (xokc_suf p2 h2) (fun j q e => by cases e; exact h1)
theorem xe_same {lv : xL} {i : Nat} {p y : xV} (h : ∃ (j : Nat) (x : xV), lv[j]? = some (i, x) ∧ xeqV p x = true) (hp : ∀ v, xg ρ base p v → xg ρ' base y v) : ∃ (j : Nat) (x : xV), lv[j]? = some (((i, y) : Nat × xV).1, x) ∧ ∀ v, xg ρ base x v → xg ρ' base y v := by
  obtain ⟨j, x, h1, h2⟩ := h
  have e := xeqV_of _ _ h2
  subst e
  exact ⟨j, _, h1, hp⟩
theorem xe_var {a b : Nat} (e : ρ' b = ρ a) (v : Value) (h : xg ρ base (xv a) v) : xg ρ' base (xv b) v := by
  have h : v = .int (ρ a) := h
  show v = .int (ρ' b)
  rw [h, e]
theorem xe_con {u b : Nat} (e : ρ' b = nI u) (v : Value) (h : xg ρ base (.inl u) v) : xg ρ' base (xv b) v := by
  have h : v = .int (nI u) := h
  show v = .int (ρ' b)
  rw [h, e]
theorem xe_nil {P : Nat × xV → Prop} : ∀ q ∈ ([] : xL), P q := fun _ h => absurd h List.not_mem_nil
end XLO
theorem xb_zero : xb (nI 0) = 2147483648 := by rw [← xbc_eq]; rfl
theorem dk_uq : ∀ me ∈ xMs, me.1 = xm_31.1 → me = xm_31 := by
  intro me hm hn
  obtain ⟨j, hj⟩ := List.getElem?_of_mem hm
  have hl : j < xMs.length := (List.getElem?_eq_some_iff.mp hj).1
  rw [(by decide +kernel : xMs.length = 262)] at hl
  have h2 := (by decide +kernel : ∀ j, j < 262 → (xMs.map (fun q => q.1))[j]? = some xm_31.1 → j = 31) j hl (by rw [List.getElem?_map, hj, Option.map_some, hn])
  subst h2
  exact Option.some.inj (hj.symm.trans (show xMs[31]? = some xm_31 from rfl))
theorem dk_in : xm_31 ∈ xMs := List.mem_of_getElem? (i := 31) rfl
theorem fl_uq : ∀ me ∈ xMs, me.1 = xm_5.1 → me = xm_5 := by
  intro me hm hn
  obtain ⟨j, hj⟩ := List.getElem?_of_mem hm
  have hl : j < xMs.length := (List.getElem?_eq_some_iff.mp hj).1
  rw [(by decide +kernel : xMs.length = 262)] at hl
  have h2 := (by decide +kernel : ∀ j, j < 262 → (xMs.map (fun q => q.1))[j]? = some xm_5.1 → j = 5) j hl (by rw [List.getElem?_map, hj, Option.map_some, hn])
  subst h2
  exact Option.some.inj (hj.symm.trans (show xMs[5]? = some xm_5 from rfl))
theorem fl_in : xm_5 ∈ xMs := List.mem_of_getElem? (i := 5) rfl
theorem kb_uq : ∀ me ∈ xMs, me.1 = xm_85.1 → me = xm_85 := by
  intro me hm hn
  obtain ⟨j, hj⟩ := List.getElem?_of_mem hm
  have hl : j < xMs.length := (List.getElem?_eq_some_iff.mp hj).1
  rw [(by decide +kernel : xMs.length = 262)] at hl
  have h2 := (by decide +kernel : ∀ j, j < 262 → (xMs.map (fun q => q.1))[j]? = some xm_85.1 → j = 85) j hl (by rw [List.getElem?_map, hj, Option.map_some, hn])
  subst h2
  exact Option.some.inj (hj.symm.trans (show xMs[85]? = some xm_85 from rfl))
theorem kb_in : xm_85 ∈ xMs := List.mem_of_getElem? (i := 85) rfl
def dkL (l : xL) : xL := (0, xRef 732) :: (1, xRef 211) :: (2, xv 2) :: (3, xv 3) :: l
def dkP (l : List (Nat × (xV → Bool))) : List (Nat × (xV → Bool)) := (0, xeqV (xRef 732)) :: (1, xeqV (xRef 211)) :: (2, xeqV (xv 2)) :: (3, xeqV (xv 3)) :: l
noncomputable def dkT (e : xE) : Bool := Bool.and (xbd 2 2147483649 2147483672 e) (xbd 3 2147483648 2147483948 e)
noncomputable def dkS0 : xSm := xacc xm_31.1 3 (dkP [(4, xeqV (.inl 0))]) dkT xSX 761 (.inl 0)
noncomputable def dkS1 : xSm := xacc xm_31.1 3 (dkP [(4, xeqV (xv 68))]) (fun e => Bool.and (dkT e) (xbd 4 2147483648 2147483948 e)) xSX 761 (.inl 0)
def dkC : xV → Bool
  | .inl u => Nat.blt u 24
  | _ => false
noncomputable def dkS2 : xSm := xacc xm_31.1 36 (dkP [(4, dkC)]) dkT xSX 761 (.inl 0)
noncomputable def dkS3 (u : Nat) : xSm := xacc xm_31.1 44 (dkP [(4, xeqV (.inl u)), (5, xeqV (xv 3))]) dkT xSX 761 (.inl 0)
noncomputable def dkS4 (u : Nat) : xSm := xacc xm_31.1 44 (dkP [(4, xeqV (.inl u)), (5, xeqV (xv 274877906885))]) (fun e => Bool.and (dkT e) (xbd 5 2147483648 2147483948 e)) xSX 761 (.inl 0)
def dkD (u : Nat) : xV → Bool
  | .inl w => Nat.beq (Nat.succ w) u
  | _ => false
noncomputable def dkS5 (u : Nat) : xSm := xacc xm_31.1 36 (dkP [(4, dkD u)]) dkT xSX 761 (.inl 0)
theorem dk_f0 : xjmp (xcd xm_31) 0 (fun cs => xrunS xMs dkS0 100 xm_31 cs (dkL [], [], (xE5 xF xqN xqB xF xF), xSX, 761, 0, 0) (xK0 xSX 761 0)) = true := by decide +kernel
theorem dk_f1 : xjmp (xcd xm_31) 3 (fun cs => xrunS xMs (fun me cs A k d => dkS1 me cs A k (dkS2 me cs A k d)) 1000 xm_31 cs (dkL [(4, xv 4)], [], (xE5 xF xqN xqB xqU xF), xSX, 761, 0, 0) (xK0 xSX 761 0)) = true := by decide +kernel
theorem dk_f2 : (List.range 24).all (fun u => xjmp (xcd xm_31) 36 (fun cs => xrunS xMs (dkS3 u) 100 xm_31 cs (dkL [(4, .inl u)], [], (xE5 xF xqN xqB xF xF), xSX, 761, 0, 0) (xK0 xSX 761 0))) = true := by decide +kernel
theorem dk_f3 : (List.range 24).all (fun u => xjmp (xcd xm_31) 44 (fun cs => xrunS xMs (fun me cs A k d => dkS4 u me cs A k (dkS5 u me cs A k d)) 3000 xm_31 cs (dkL [(4, .inl u), (5, xv 5)], [], (xE5 xF xqN xqB xF xqD), xSX, 761, 0, 0) (xK0 xSX 761 0))) = true := by decide +kernel
theorem dk_nv : xnvH xSX = true := by decide +kernel
section XL_dk
variable {ρ ρ' : Nat → Int32} {base : Nat} {F : Nat → Prop} {D : va_G} {dA : Nat → ClassId} {la : Launch}
theorem dk_go {pc : Nat} {L lv : xL} {E env : xE} {k : xK} {l : List (Nat × (xV → Bool))} (c1 : ρ' 2 = ρ 2) (c2 : ρ' 3 = ρ 3) (hm : xmt lv (dkP l) = true) (hG : xGd ρ' base F (xTs xTc) (xNs xTc) vwCl xTys D dA la xm_31 pc (dkL L, [], E, xSX, 761, 0, 0) (xK0 xSX 761 0)) (hE : xρ ρ' E) (hL : ∀ q ∈ L, ∃ (j : Nat) (x : xV), lv[j]? = some (q.1, x) ∧ ∀ v, xg ρ base x v → xg ρ' base q.2 v) (hk : k env xSX 761 (some (.inl 0)) = true) : xGd ρ base F (xTs xTc) (xNs xTc) vwCl xTys D dA la xm_31 pc (lv, [], env, xSX, 761, 0, 0) k := by
  obtain ⟨a0, hm⟩ := xmt_cons hm
  obtain ⟨a1, hm⟩ := xmt_cons hm
  obtain ⟨an, hm⟩ := xmt_cons hm
  obtain ⟨ab, hm⟩ := xmt_cons hm
  refine xtr dk_nv hG (fun _ => hE) ?_ hk
  exact List.forall_mem_cons.mpr ⟨xe_same a0 (fun v h => h), List.forall_mem_cons.mpr ⟨xe_same a1 (fun v h => h), List.forall_mem_cons.mpr ⟨xe_same an (xe_var c1), List.forall_mem_cons.mpr ⟨xe_same ab (xe_var c2), hL⟩⟩⟩⟩
theorem dk_rest {lv : xL} {l : List (Nat × (xV → Bool))} (hm : xmt lv (dkP l) = true) : xmt lv l = true := by
  obtain ⟨-, hm⟩ := xmt_cons hm
  obtain ⟨-, hm⟩ := xmt_cons hm
  obtain ⟨-, hm⟩ := xmt_cons hm
  obtain ⟨-, hm⟩ := xmt_cons hm
  exact hm
theorem dk_I (u : Nat) (hu : u < 24) (prev : ∀ w, w + 1 = u → ∀ ρ : Nat → Int32, xLin ρ → xGd ρ base F (xTs xTc) (xNs xTc) vwCl xTys D dA la xm_31 36 (dkL [(4, .inl w)], [], (xE5 xF xqN xqB xF xF), xSX, 761, 0, 0) (xK0 xSX 761 0)) : ∀ (j : Nat) (ρ : Nat → Int32), xLin ρ → xb (ρ 5) + 1 ≤ 2147483648 + j → xGd ρ base F (xTs xTc) (xNs xTc) vwCl xTys D dA la xm_31 44 (dkL [(4, .inl u), (5, xv 5)], [], (xE5 xF xqN xqB xF xqD), xSX, 761, 0, 0) (xK0 xSX 761 0) := by
  intro j
  induction j with
  | zero =>
    intro ρ hl hj
    refine xgo dk_in (xSok_both (xacc_ok dk_uq (fun lv env k hm ht hk => xGd_env (fun hρ => ?_))) (xacc_ok dk_uq (fun lv env k hm ht hk => xGd_env (fun hρ => ?_)))) (List.all_eq_true.mp dk_f3 u (List.mem_range.mpr hu))
    · have bn := xbd_of (xand (xand ht).1).1 hρ
      have bb := xbd_of (xand (xand ht).1).2 hρ
      have b5 := xbd_of (xand ht).2 hρ
      exact absurd hj (by omega)
    · have bn' := xbd_of (xand ht).1 hρ
      have bb' := xbd_of (xand ht).2 hρ
      obtain ⟨⟨j0, x, h1, h2⟩, -⟩ := xmt_cons (dk_rest hm)
      cases x with
      | inr x => exact absurd h2 (by simp [dkD])
      | inl w =>
        have hw : w + 1 = u := Nat.eq_of_beq_eq_true h2
        exact dk_go rfl rfl hm (prev w hw ρ hl) (xρ8 hl (xfull _ 1) bn' bb' (xfull _ 4) (xfull _ 5)) (List.forall_mem_cons.mpr ⟨⟨j0, _, h1, fun v h => h⟩, xe_nil⟩) hk
  | succ j ih =>
    intro ρ hl hj
    refine xgo dk_in (xSok_both (xacc_ok dk_uq (fun lv env k hm ht hk => xGd_env (fun hρ => ?_))) (xacc_ok dk_uq (fun lv env k hm ht hk => xGd_env (fun hρ => ?_)))) (List.all_eq_true.mp dk_f3 u (List.mem_range.mpr hu))
    · have bn := xbd_of (xand (xand ht).1).1 hρ
      have bb := xbd_of (xand (xand ht).1).2 hρ
      have b5 := xbd_of (xand ht).2 hρ
      have e5 : ρ 274877906885 = ρ 5 + nI 4294967295 := hl 5 4294967295 (by decide)
      have m5 : xb (ρ 274877906885) = xb (ρ 5) - 1 := by rw [e5]; exact xb_dn (by omega)
      have u5 : xupd ρ 5 (ρ 274877906885) 5 = ρ 274877906885 := xupd_at (by decide)
      have c1 : xupd ρ 5 (ρ 274877906885) 2 = ρ 2 := xupd_ne (by decide) (by decide)
      have c2 : xupd ρ 5 (ρ 274877906885) 3 = ρ 3 := xupd_ne (by decide) (by decide)
      have bn' := bn
      have bb' := bb
      rw [← c1] at bn'
      rw [← c2] at bb'
      obtain ⟨a4, hm5⟩ := xmt_cons (dk_rest hm)
      obtain ⟨a5, -⟩ := xmt_cons hm5
      refine dk_go c1 c2 hm (ih (xupd ρ 5 (ρ 274877906885)) (xext_lin _) (by rw [u5, m5]; omega)) (xρ8 (ρ := xupd ρ 5 (ρ 274877906885)) (xext_lin _) (xfull _ 1) bn' bb' (xfull _ 4) (by rw [u5, m5]; show 2147483647 ≤ xb (ρ 5) - 1 ∧ xb (ρ 5) - 1 ≤ 2147483948; omega)) (List.forall_mem_cons.mpr ⟨xe_same a4 (fun v h => h), List.forall_mem_cons.mpr ⟨xe_same a5 (xe_var u5), xe_nil⟩⟩) hk
    · have bn' := xbd_of (xand ht).1 hρ
      have bb' := xbd_of (xand ht).2 hρ
      obtain ⟨⟨j0, x, h1, h2⟩, -⟩ := xmt_cons (dk_rest hm)
      cases x with
      | inr x => exact absurd h2 (by simp [dkD])
      | inl w =>
        have hw : w + 1 = u := Nat.eq_of_beq_eq_true h2
        exact dk_go rfl rfl hm (prev w hw ρ hl) (xρ8 hl (xfull _ 1) bn' bb' (xfull _ 4) (xfull _ 5)) (List.forall_mem_cons.mpr ⟨⟨j0, _, h1, fun v h => h⟩, xe_nil⟩) hk
theorem dk_step (u : Nat) (hu : u < 24) (prev : ∀ w, w + 1 = u → ∀ ρ : Nat → Int32, xLin ρ → xGd ρ base F (xTs xTc) (xNs xTc) vwCl xTys D dA la xm_31 36 (dkL [(4, .inl w)], [], (xE5 xF xqN xqB xF xF), xSX, 761, 0, 0) (xK0 xSX 761 0)) (ρ : Nat → Int32) (hl : xLin ρ) : xGd ρ base F (xTs xTc) (xNs xTc) vwCl xTys D dA la xm_31 36 (dkL [(4, .inl u)], [], (xE5 xF xqN xqB xF xF), xSX, 761, 0, 0) (xK0 xSX 761 0) := by
  refine xgo dk_in (xacc_ok dk_uq (fun lv env k hm ht hk => xGd_env (fun hρ => ?_))) (List.all_eq_true.mp dk_f2 u (List.mem_range.mpr hu))
  have bn := xbd_of (xand ht).1 hρ
  have bb := xbd_of (xand ht).2 hρ
  have u5 : xupd ρ 5 (ρ 3) 5 = (ρ 3) := xupd_at (by decide)
  have c1 : xupd ρ 5 (ρ 3) 2 = ρ 2 := xupd_ne (by decide) (by decide)
  have c2 : xupd ρ 5 (ρ 3) 3 = ρ 3 := xupd_ne (by decide) (by decide)
  have bn' := bn
  have bb' := bb
  rw [← c1] at bn'
  rw [← c2] at bb'
  obtain ⟨a4, hm5⟩ := xmt_cons (dk_rest hm)
  obtain ⟨a5, -⟩ := xmt_cons hm5
  refine dk_go c1 c2 hm (dk_I u hu prev 301 (xupd ρ 5 (ρ 3)) (xext_lin _) (by rw [u5]; omega)) (xρ8 (ρ := xupd ρ 5 (ρ 3)) (xext_lin _) (xfull _ 1) bn' bb' (xfull _ 4) (by rw [u5]; show 2147483647 ≤ xb (ρ 3) ∧ xb (ρ 3) ≤ 2147483948; omega)) (List.forall_mem_cons.mpr ⟨xe_same a4 (fun v h => h), List.forall_mem_cons.mpr ⟨xe_same a5 (xe_var u5), xe_nil⟩⟩) hk
theorem dk_T : ∀ u, u < 24 → ∀ ρ : Nat → Int32, xLin ρ → xGd ρ base F (xTs xTc) (xNs xTc) vwCl xTys D dA la xm_31 36 (dkL [(4, .inl u)], [], (xE5 xF xqN xqB xF xF), xSX, 761, 0, 0) (xK0 xSX 761 0) := by
  intro u
  induction u with
  | zero => exact fun hu => dk_step 0 hu (fun w h => absurd h (Nat.succ_ne_zero w))
  | succ u ih => exact fun hu => dk_step (u + 1) hu (fun w h => by obtain rfl := Nat.succ.inj h; exact ih (by omega))
theorem dk_H1 : ∀ (j : Nat) (ρ : Nat → Int32), xLin ρ → 2147483949 ≤ xb (ρ 4) + j → xGd ρ base F (xTs xTc) (xNs xTc) vwCl xTys D dA la xm_31 3 (dkL [(4, xv 4)], [], (xE5 xF xqN xqB xqU xF), xSX, 761, 0, 0) (xK0 xSX 761 0) := by
  intro j
  induction j with
  | zero =>
    intro ρ hl hj
    refine xgo dk_in (xSok_both (xacc_ok dk_uq (fun lv env k hm ht hk => xGd_env (fun hρ => ?_))) (xacc_ok dk_uq (fun lv env k hm ht hk => xGd_env (fun hρ => ?_)))) dk_f1
    · have bn := xbd_of (xand (xand ht).1).1 hρ
      have bb := xbd_of (xand (xand ht).1).2 hρ
      have b5 := xbd_of (xand ht).2 hρ
      exact absurd hj (by omega)
    · have bn' := xbd_of (xand ht).1 hρ
      have bb' := xbd_of (xand ht).2 hρ
      obtain ⟨⟨j0, x, h1, h2⟩, -⟩ := xmt_cons (dk_rest hm)
      cases x with
      | inr x => exact absurd h2 (by simp [dkC])
      | inl w => exact dk_go rfl rfl hm (dk_T w (xblt.mp h2) ρ hl) (xρ8 hl (xfull _ 1) bn' bb' (xfull _ 4) (xfull _ 5)) (List.forall_mem_cons.mpr ⟨⟨j0, _, h1, fun v h => h⟩, xe_nil⟩) hk
  | succ j ih =>
    intro ρ hl hj
    refine xgo dk_in (xSok_both (xacc_ok dk_uq (fun lv env k hm ht hk => xGd_env (fun hρ => ?_))) (xacc_ok dk_uq (fun lv env k hm ht hk => xGd_env (fun hρ => ?_)))) dk_f1
    · have bn := xbd_of (xand (xand ht).1).1 hρ
      have bb := xbd_of (xand (xand ht).1).2 hρ
      have b5 := xbd_of (xand ht).2 hρ
      have e5 : ρ 68 = ρ 4 + nI 1 := hl 4 1 (by decide)
      have m5 : xb (ρ 68) = xb (ρ 4) + 1 := by rw [e5]; exact xb_up (by omega)
      have u5 : xupd ρ 4 (ρ 68) 4 = ρ 68 := xupd_at (by decide)
      have c1 : xupd ρ 4 (ρ 68) 2 = ρ 2 := xupd_ne (by decide) (by decide)
      have c2 : xupd ρ 4 (ρ 68) 3 = ρ 3 := xupd_ne (by decide) (by decide)
      have bn' := bn
      have bb' := bb
      rw [← c1] at bn'
      rw [← c2] at bb'
      obtain ⟨a4, -⟩ := xmt_cons (dk_rest hm)
      refine dk_go c1 c2 hm (ih (xupd ρ 4 (ρ 68)) (xext_lin _) (by rw [u5, m5]; omega)) (xρ8 (ρ := xupd ρ 4 (ρ 68)) (xext_lin _) (xfull _ 1) bn' bb' (by rw [u5, m5]; show 2147483648 ≤ xb (ρ 4) + 1 ∧ xb (ρ 4) + 1 ≤ 2147483949; omega) (xfull _ 5)) (List.forall_mem_cons.mpr ⟨xe_same a4 (xe_var u5), xe_nil⟩) hk
    · have bn' := xbd_of (xand ht).1 hρ
      have bb' := xbd_of (xand ht).2 hρ
      obtain ⟨⟨j0, x, h1, h2⟩, -⟩ := xmt_cons (dk_rest hm)
      cases x with
      | inr x => exact absurd h2 (by simp [dkC])
      | inl w => exact dk_go rfl rfl hm (dk_T w (xblt.mp h2) ρ hl) (xρ8 hl (xfull _ 1) bn' bb' (xfull _ 4) (xfull _ 5)) (List.forall_mem_cons.mpr ⟨⟨j0, _, h1, fun v h => h⟩, xe_nil⟩) hk
theorem dk_en (ρ : Nat → Int32) (hl : xLin ρ) : xGd ρ base F (xTs xTc) (xNs xTc) vwCl xTys D dA la xm_31 0 (dkL [], [], (xE5 xF xqN xqB xF xF), xSX, 761, 0, 0) (xK0 xSX 761 0) := by
  refine xgo dk_in (xacc_ok dk_uq (fun lv env k hm ht hk => xGd_env (fun hρ => ?_))) dk_f0
  have bn := xbd_of (xand ht).1 hρ
  have bb := xbd_of (xand ht).2 hρ
  have u5 : xupd ρ 4 (nI 0) 4 = nI 0 := xupd_at (by decide)
  have c1 : xupd ρ 4 (nI 0) 2 = ρ 2 := xupd_ne (by decide) (by decide)
  have c2 : xupd ρ 4 (nI 0) 3 = ρ 3 := xupd_ne (by decide) (by decide)
  have bn' := bn
  have bb' := bb
  rw [← c1] at bn'
  rw [← c2] at bb'
  obtain ⟨a4, -⟩ := xmt_cons (dk_rest hm)
  refine dk_go c1 c2 hm (dk_H1 301 (xupd ρ 4 (nI 0)) (xext_lin _) (by rw [u5, xb_zero]; omega)) (xρ8 (ρ := xupd ρ 4 (nI 0)) (xext_lin _) (xfull _ 1) bn' bb' (by rw [u5, xb_zero]; decide) (xfull _ 5)) (List.forall_mem_cons.mpr ⟨xe_same a4 (xe_con u5), xe_nil⟩) hk
noncomputable def dkSum : xSm := xaccE xm_31.1 0 (fun e => (0, xeqV (xRef 732)) :: (1, xeqV (xRef 211)) :: [(2, xrg e 2147483649 2147483672), (3, xrg e 2147483648 2147483948)]) xSX 761 (.inl 0)
theorem dk_sum : xSok ρ base F (xTs xTc) (xNs xTc) vwCl xTys D dA la xMs dkSum := by
  refine xaccE_ok dk_uq (fun lv env k hm hk => xGd_env (fun hρ => ?_))
  obtain ⟨a0, hm⟩ := xmt_cons hm
  obtain ⟨a1, hm⟩ := xmt_cons hm
  obtain ⟨⟨jn, x, hn1, hn2⟩, hm⟩ := xmt_cons hm
  obtain ⟨⟨jb, y, hb1, hb2⟩, -⟩ := xmt_cons hm
  obtain ⟨gx, bn⟩ := xans_var (ρ := ρ) (base := base) hn2 hρ
  obtain ⟨gy, bb⟩ := xans_var (ρ := ρ) (base := base) hb2 hρ
  have cn : xext (fun k => if k = 2 then xans ρ x else if k = 3 then xans ρ y else 0) 2 = xans ρ x := by rw [xext_at _ (by decide)]; simp
  have cb : xext (fun k => if k = 2 then xans ρ x else if k = 3 then xans ρ y else 0) 3 = xans ρ y := by rw [xext_at _ (by decide)]; simp
  have bn' := bn
  have bb' := bb
  rw [← cn] at bn'
  rw [← cb] at bb'
  refine xtr dk_nv (dk_en _ (xext_lin (fun k => if k = 2 then xans ρ x else if k = 3 then xans ρ y else 0))) (fun _ => (xρ8 (xext_lin _) (xfull _ 1) bn' bb' (xfull _ 4) (xfull _ 5))) ?_ hk
  exact List.forall_mem_cons.mpr ⟨xe_same a0 (fun v h => h), List.forall_mem_cons.mpr ⟨xe_same a1 (fun v h => h), List.forall_mem_cons.mpr ⟨⟨jn, x, hn1, fun v h => by rw [gx v h]; exact congrArg Value.int cn.symm⟩, List.forall_mem_cons.mpr ⟨⟨jb, y, hb1, fun v h => by rw [gy v h]; exact congrArg Value.int cb.symm⟩, xe_nil⟩⟩⟩⟩
end XL_dk
def flL (l : xL) : xL := (0, xRef 0) :: (1, xv 1) :: (2, xv 2) :: l
def flP (l : List (Nat × (xV → Bool))) : List (Nat × (xV → Bool)) := (0, xeqV (xRef 0)) :: (1, xeqV (xv 1)) :: (2, xeqV (xv 2)) :: l
noncomputable def flT (e : xE) : Bool := Bool.and (xbd 1 2147483649 2147483672 e) (xbd 2 2147483648 2147483948 e)
noncomputable def flS0 : xSm := xacc xm_5.1 2 (flP [(3, xeqV (.inl 0))]) flT xSM 21 (.inl 0)
noncomputable def flS1 : xSm := xacc xm_5.1 2 (flP [(3, xeqV (xv 67))]) (fun e => Bool.and (flT e) (xbd 3 2147483648 2147483948 e)) xSM 21 (.inl 0)
def flC : xV → Bool
  | .inl u => Nat.blt u 24
  | _ => false
noncomputable def flS2 : xSm := xacc xm_5.1 30 (flP [(3, flC)]) flT xSM 21 (.inl 0)
noncomputable def flS3 (u : Nat) : xSm := xacc xm_5.1 37 (flP [(3, xeqV (.inl u)), (4, xeqV (.inl 0))]) flT xSM 21 (.inl 0)
noncomputable def flS4 (u : Nat) : xSm := xacc xm_5.1 37 (flP [(3, xeqV (.inl u)), (4, xeqV (xv 68))]) (fun e => Bool.and (flT e) (xbd 4 2147483648 2147483948 e)) xSM 21 (.inl 0)
def flD (u : Nat) : xV → Bool
  | .inl w => Nat.beq (Nat.succ w) u
  | _ => false
noncomputable def flS5 (u : Nat) : xSm := xacc xm_5.1 30 (flP [(3, flD u)]) flT xSM 21 (.inl 0)
theorem fl_f0 : xjmp (xcd xm_5) 0 (fun cs => xrunS xMs flS0 100 xm_5 cs (flL [], [], (xE5 xqN xqB xF xF xF), xSM, 21, 0, 0) (xK0 xSM 21 0)) = true := by decide +kernel
theorem fl_f1 : xjmp (xcd xm_5) 2 (fun cs => xrunS xMs (fun me cs A k d => flS1 me cs A k (flS2 me cs A k d)) 1000 xm_5 cs (flL [(3, xv 3)], [], (xE5 xqN xqB xqU xF xF), xSM, 21, 0, 0) (xK0 xSM 21 0)) = true := by decide +kernel
theorem fl_f2 : (List.range 24).all (fun u => xjmp (xcd xm_5) 30 (fun cs => xrunS xMs (flS3 u) 100 xm_5 cs (flL [(3, .inl u)], [], (xE5 xqN xqB xF xF xF), xSM, 21, 0, 0) (xK0 xSM 21 0))) = true := by decide +kernel
theorem fl_f3 : (List.range 24).all (fun u => xjmp (xcd xm_5) 37 (fun cs => xrunS xMs (fun me cs A k d => flS4 u me cs A k (flS5 u me cs A k d)) 3000 xm_5 cs (flL [(3, .inl u), (4, xv 4)], [], (xE5 xqN xqB xF xqU xF), xSM, 21, 0, 0) (xK0 xSM 21 0))) = true := by decide +kernel
theorem fl_nv : xnvH xSM = true := by decide +kernel
section XL_fl
variable {ρ ρ' : Nat → Int32} {base : Nat} {F : Nat → Prop} {D : va_G} {dA : Nat → ClassId} {la : Launch}
theorem fl_go {pc : Nat} {L lv : xL} {E env : xE} {k : xK} {l : List (Nat × (xV → Bool))} (c1 : ρ' 1 = ρ 1) (c2 : ρ' 2 = ρ 2) (hm : xmt lv (flP l) = true) (hG : xGd ρ' base F (xTs xTc) (xNs xTc) vwCl xTys D dA la xm_5 pc (flL L, [], E, xSM, 21, 0, 0) (xK0 xSM 21 0)) (hE : xρ ρ' E) (hL : ∀ q ∈ L, ∃ (j : Nat) (x : xV), lv[j]? = some (q.1, x) ∧ ∀ v, xg ρ base x v → xg ρ' base q.2 v) (hk : k env xSM 21 (some (.inl 0)) = true) : xGd ρ base F (xTs xTc) (xNs xTc) vwCl xTys D dA la xm_5 pc (lv, [], env, xSM, 21, 0, 0) k := by
  obtain ⟨a0, hm⟩ := xmt_cons hm
  obtain ⟨an, hm⟩ := xmt_cons hm
  obtain ⟨ab, hm⟩ := xmt_cons hm
  refine xtr fl_nv hG (fun _ => hE) ?_ hk
  exact List.forall_mem_cons.mpr ⟨xe_same a0 (fun v h => h), List.forall_mem_cons.mpr ⟨xe_same an (xe_var c1), List.forall_mem_cons.mpr ⟨xe_same ab (xe_var c2), hL⟩⟩⟩
theorem fl_rest {lv : xL} {l : List (Nat × (xV → Bool))} (hm : xmt lv (flP l) = true) : xmt lv l = true := by
  obtain ⟨-, hm⟩ := xmt_cons hm
  obtain ⟨-, hm⟩ := xmt_cons hm
  obtain ⟨-, hm⟩ := xmt_cons hm
  exact hm
theorem fl_I (u : Nat) (hu : u < 24) (prev : ∀ w, w + 1 = u → ∀ ρ : Nat → Int32, xLin ρ → xGd ρ base F (xTs xTc) (xNs xTc) vwCl xTys D dA la xm_5 30 (flL [(3, .inl w)], [], (xE5 xqN xqB xF xF xF), xSM, 21, 0, 0) (xK0 xSM 21 0)) : ∀ (j : Nat) (ρ : Nat → Int32), xLin ρ → 2147483949 ≤ xb (ρ 4) + j → xGd ρ base F (xTs xTc) (xNs xTc) vwCl xTys D dA la xm_5 37 (flL [(3, .inl u), (4, xv 4)], [], (xE5 xqN xqB xF xqU xF), xSM, 21, 0, 0) (xK0 xSM 21 0) := by
  intro j
  induction j with
  | zero =>
    intro ρ hl hj
    refine xgo fl_in (xSok_both (xacc_ok fl_uq (fun lv env k hm ht hk => xGd_env (fun hρ => ?_))) (xacc_ok fl_uq (fun lv env k hm ht hk => xGd_env (fun hρ => ?_)))) (List.all_eq_true.mp fl_f3 u (List.mem_range.mpr hu))
    · have bn := xbd_of (xand (xand ht).1).1 hρ
      have bb := xbd_of (xand (xand ht).1).2 hρ
      have b5 := xbd_of (xand ht).2 hρ
      exact absurd hj (by omega)
    · have bn' := xbd_of (xand ht).1 hρ
      have bb' := xbd_of (xand ht).2 hρ
      obtain ⟨⟨j0, x, h1, h2⟩, -⟩ := xmt_cons (fl_rest hm)
      cases x with
      | inr x => exact absurd h2 (by simp [flD])
      | inl w =>
        have hw : w + 1 = u := Nat.eq_of_beq_eq_true h2
        exact fl_go rfl rfl hm (prev w hw ρ hl) (xρ8 hl bn' bb' (xfull _ 3) (xfull _ 4) (xfull _ 5)) (List.forall_mem_cons.mpr ⟨⟨j0, _, h1, fun v h => h⟩, xe_nil⟩) hk
  | succ j ih =>
    intro ρ hl hj
    refine xgo fl_in (xSok_both (xacc_ok fl_uq (fun lv env k hm ht hk => xGd_env (fun hρ => ?_))) (xacc_ok fl_uq (fun lv env k hm ht hk => xGd_env (fun hρ => ?_)))) (List.all_eq_true.mp fl_f3 u (List.mem_range.mpr hu))
    · have bn := xbd_of (xand (xand ht).1).1 hρ
      have bb := xbd_of (xand (xand ht).1).2 hρ
      have b5 := xbd_of (xand ht).2 hρ
      have e5 : ρ 68 = ρ 4 + nI 1 := hl 4 1 (by decide)
      have m5 : xb (ρ 68) = xb (ρ 4) + 1 := by rw [e5]; exact xb_up (by omega)
      have u5 : xupd ρ 4 (ρ 68) 4 = ρ 68 := xupd_at (by decide)
      have c1 : xupd ρ 4 (ρ 68) 1 = ρ 1 := xupd_ne (by decide) (by decide)
      have c2 : xupd ρ 4 (ρ 68) 2 = ρ 2 := xupd_ne (by decide) (by decide)
      have bn' := bn
      have bb' := bb
      rw [← c1] at bn'
      rw [← c2] at bb'
      obtain ⟨a4, hm5⟩ := xmt_cons (fl_rest hm)
      obtain ⟨a5, -⟩ := xmt_cons hm5
      refine fl_go c1 c2 hm (ih (xupd ρ 4 (ρ 68)) (xext_lin _) (by rw [u5, m5]; omega)) (xρ8 (ρ := xupd ρ 4 (ρ 68)) (xext_lin _) bn' bb' (xfull _ 3) (by rw [u5, m5]; show 2147483648 ≤ xb (ρ 4) + 1 ∧ xb (ρ 4) + 1 ≤ 2147483949; omega) (xfull _ 5)) (List.forall_mem_cons.mpr ⟨xe_same a4 (fun v h => h), List.forall_mem_cons.mpr ⟨xe_same a5 (xe_var u5), xe_nil⟩⟩) hk
    · have bn' := xbd_of (xand ht).1 hρ
      have bb' := xbd_of (xand ht).2 hρ
      obtain ⟨⟨j0, x, h1, h2⟩, -⟩ := xmt_cons (fl_rest hm)
      cases x with
      | inr x => exact absurd h2 (by simp [flD])
      | inl w =>
        have hw : w + 1 = u := Nat.eq_of_beq_eq_true h2
        exact fl_go rfl rfl hm (prev w hw ρ hl) (xρ8 hl bn' bb' (xfull _ 3) (xfull _ 4) (xfull _ 5)) (List.forall_mem_cons.mpr ⟨⟨j0, _, h1, fun v h => h⟩, xe_nil⟩) hk
theorem fl_step (u : Nat) (hu : u < 24) (prev : ∀ w, w + 1 = u → ∀ ρ : Nat → Int32, xLin ρ → xGd ρ base F (xTs xTc) (xNs xTc) vwCl xTys D dA la xm_5 30 (flL [(3, .inl w)], [], (xE5 xqN xqB xF xF xF), xSM, 21, 0, 0) (xK0 xSM 21 0)) (ρ : Nat → Int32) (hl : xLin ρ) : xGd ρ base F (xTs xTc) (xNs xTc) vwCl xTys D dA la xm_5 30 (flL [(3, .inl u)], [], (xE5 xqN xqB xF xF xF), xSM, 21, 0, 0) (xK0 xSM 21 0) := by
  refine xgo fl_in (xacc_ok fl_uq (fun lv env k hm ht hk => xGd_env (fun hρ => ?_))) (List.all_eq_true.mp fl_f2 u (List.mem_range.mpr hu))
  have bn := xbd_of (xand ht).1 hρ
  have bb := xbd_of (xand ht).2 hρ
  have u5 : xupd ρ 4 (nI 0) 4 = (nI 0) := xupd_at (by decide)
  have c1 : xupd ρ 4 (nI 0) 1 = ρ 1 := xupd_ne (by decide) (by decide)
  have c2 : xupd ρ 4 (nI 0) 2 = ρ 2 := xupd_ne (by decide) (by decide)
  have bn' := bn
  have bb' := bb
  rw [← c1] at bn'
  rw [← c2] at bb'
  obtain ⟨a4, hm5⟩ := xmt_cons (fl_rest hm)
  obtain ⟨a5, -⟩ := xmt_cons hm5
  refine fl_go c1 c2 hm (fl_I u hu prev 301 (xupd ρ 4 (nI 0)) (xext_lin _) (by rw [u5, xb_zero]; omega)) (xρ8 (ρ := xupd ρ 4 (nI 0)) (xext_lin _) bn' bb' (xfull _ 3) (by rw [u5, xb_zero]; decide) (xfull _ 5)) (List.forall_mem_cons.mpr ⟨xe_same a4 (fun v h => h), List.forall_mem_cons.mpr ⟨xe_same a5 (xe_con u5), xe_nil⟩⟩) hk
theorem fl_T : ∀ u, u < 24 → ∀ ρ : Nat → Int32, xLin ρ → xGd ρ base F (xTs xTc) (xNs xTc) vwCl xTys D dA la xm_5 30 (flL [(3, .inl u)], [], (xE5 xqN xqB xF xF xF), xSM, 21, 0, 0) (xK0 xSM 21 0) := by
  intro u
  induction u with
  | zero => exact fun hu => fl_step 0 hu (fun w h => absurd h (Nat.succ_ne_zero w))
  | succ u ih => exact fun hu => fl_step (u + 1) hu (fun w h => by obtain rfl := Nat.succ.inj h; exact ih (by omega))
theorem fl_H1 : ∀ (j : Nat) (ρ : Nat → Int32), xLin ρ → 2147483949 ≤ xb (ρ 3) + j → xGd ρ base F (xTs xTc) (xNs xTc) vwCl xTys D dA la xm_5 2 (flL [(3, xv 3)], [], (xE5 xqN xqB xqU xF xF), xSM, 21, 0, 0) (xK0 xSM 21 0) := by
  intro j
  induction j with
  | zero =>
    intro ρ hl hj
    refine xgo fl_in (xSok_both (xacc_ok fl_uq (fun lv env k hm ht hk => xGd_env (fun hρ => ?_))) (xacc_ok fl_uq (fun lv env k hm ht hk => xGd_env (fun hρ => ?_)))) fl_f1
    · have bn := xbd_of (xand (xand ht).1).1 hρ
      have bb := xbd_of (xand (xand ht).1).2 hρ
      have b5 := xbd_of (xand ht).2 hρ
      exact absurd hj (by omega)
    · have bn' := xbd_of (xand ht).1 hρ
      have bb' := xbd_of (xand ht).2 hρ
      obtain ⟨⟨j0, x, h1, h2⟩, -⟩ := xmt_cons (fl_rest hm)
      cases x with
      | inr x => exact absurd h2 (by simp [flC])
      | inl w => exact fl_go rfl rfl hm (fl_T w (xblt.mp h2) ρ hl) (xρ8 hl bn' bb' (xfull _ 3) (xfull _ 4) (xfull _ 5)) (List.forall_mem_cons.mpr ⟨⟨j0, _, h1, fun v h => h⟩, xe_nil⟩) hk
  | succ j ih =>
    intro ρ hl hj
    refine xgo fl_in (xSok_both (xacc_ok fl_uq (fun lv env k hm ht hk => xGd_env (fun hρ => ?_))) (xacc_ok fl_uq (fun lv env k hm ht hk => xGd_env (fun hρ => ?_)))) fl_f1
    · have bn := xbd_of (xand (xand ht).1).1 hρ
      have bb := xbd_of (xand (xand ht).1).2 hρ
      have b5 := xbd_of (xand ht).2 hρ
      have e5 : ρ 67 = ρ 3 + nI 1 := hl 3 1 (by decide)
      have m5 : xb (ρ 67) = xb (ρ 3) + 1 := by rw [e5]; exact xb_up (by omega)
      have u5 : xupd ρ 3 (ρ 67) 3 = ρ 67 := xupd_at (by decide)
      have c1 : xupd ρ 3 (ρ 67) 1 = ρ 1 := xupd_ne (by decide) (by decide)
      have c2 : xupd ρ 3 (ρ 67) 2 = ρ 2 := xupd_ne (by decide) (by decide)
      have bn' := bn
      have bb' := bb
      rw [← c1] at bn'
      rw [← c2] at bb'
      obtain ⟨a4, -⟩ := xmt_cons (fl_rest hm)
      refine fl_go c1 c2 hm (ih (xupd ρ 3 (ρ 67)) (xext_lin _) (by rw [u5, m5]; omega)) (xρ8 (ρ := xupd ρ 3 (ρ 67)) (xext_lin _) bn' bb' (by rw [u5, m5]; show 2147483648 ≤ xb (ρ 3) + 1 ∧ xb (ρ 3) + 1 ≤ 2147483949; omega) (xfull _ 4) (xfull _ 5)) (List.forall_mem_cons.mpr ⟨xe_same a4 (xe_var u5), xe_nil⟩) hk
    · have bn' := xbd_of (xand ht).1 hρ
      have bb' := xbd_of (xand ht).2 hρ
      obtain ⟨⟨j0, x, h1, h2⟩, -⟩ := xmt_cons (fl_rest hm)
      cases x with
      | inr x => exact absurd h2 (by simp [flC])
      | inl w => exact fl_go rfl rfl hm (fl_T w (xblt.mp h2) ρ hl) (xρ8 hl bn' bb' (xfull _ 3) (xfull _ 4) (xfull _ 5)) (List.forall_mem_cons.mpr ⟨⟨j0, _, h1, fun v h => h⟩, xe_nil⟩) hk
theorem fl_en (ρ : Nat → Int32) (hl : xLin ρ) : xGd ρ base F (xTs xTc) (xNs xTc) vwCl xTys D dA la xm_5 0 (flL [], [], (xE5 xqN xqB xF xF xF), xSM, 21, 0, 0) (xK0 xSM 21 0) := by
  refine xgo fl_in (xacc_ok fl_uq (fun lv env k hm ht hk => xGd_env (fun hρ => ?_))) fl_f0
  have bn := xbd_of (xand ht).1 hρ
  have bb := xbd_of (xand ht).2 hρ
  have u5 : xupd ρ 3 (nI 0) 3 = nI 0 := xupd_at (by decide)
  have c1 : xupd ρ 3 (nI 0) 1 = ρ 1 := xupd_ne (by decide) (by decide)
  have c2 : xupd ρ 3 (nI 0) 2 = ρ 2 := xupd_ne (by decide) (by decide)
  have bn' := bn
  have bb' := bb
  rw [← c1] at bn'
  rw [← c2] at bb'
  obtain ⟨a4, -⟩ := xmt_cons (fl_rest hm)
  refine fl_go c1 c2 hm (fl_H1 301 (xupd ρ 3 (nI 0)) (xext_lin _) (by rw [u5, xb_zero]; omega)) (xρ8 (ρ := xupd ρ 3 (nI 0)) (xext_lin _) bn' bb' (by rw [u5, xb_zero]; decide) (xfull _ 4) (xfull _ 5)) (List.forall_mem_cons.mpr ⟨xe_same a4 (xe_con u5), xe_nil⟩) hk
noncomputable def flSum : xSm := xaccE xm_5.1 0 (fun e => (0, xeqV (xRef 0)) :: [(1, xrg e 2147483649 2147483672), (2, xrg e 2147483648 2147483948)]) xSM 21 (.inl 0)
theorem fl_sum : xSok ρ base F (xTs xTc) (xNs xTc) vwCl xTys D dA la xMs flSum := by
  refine xaccE_ok fl_uq (fun lv env k hm hk => xGd_env (fun hρ => ?_))
  obtain ⟨a0, hm⟩ := xmt_cons hm
  obtain ⟨⟨jn, x, hn1, hn2⟩, hm⟩ := xmt_cons hm
  obtain ⟨⟨jb, y, hb1, hb2⟩, -⟩ := xmt_cons hm
  obtain ⟨gx, bn⟩ := xans_var (ρ := ρ) (base := base) hn2 hρ
  obtain ⟨gy, bb⟩ := xans_var (ρ := ρ) (base := base) hb2 hρ
  have cn : xext (fun k => if k = 1 then xans ρ x else if k = 2 then xans ρ y else 0) 1 = xans ρ x := by rw [xext_at _ (by decide)]; simp
  have cb : xext (fun k => if k = 1 then xans ρ x else if k = 2 then xans ρ y else 0) 2 = xans ρ y := by rw [xext_at _ (by decide)]; simp
  have bn' := bn
  have bb' := bb
  rw [← cn] at bn'
  rw [← cb] at bb'
  refine xtr fl_nv (fl_en _ (xext_lin (fun k => if k = 1 then xans ρ x else if k = 2 then xans ρ y else 0))) (fun _ => (xρ8 (xext_lin _) bn' bb' (xfull _ 3) (xfull _ 4) (xfull _ 5))) ?_ hk
  exact List.forall_mem_cons.mpr ⟨xe_same a0 (fun v h => h), List.forall_mem_cons.mpr ⟨⟨jn, x, hn1, fun v h => by rw [gx v h]; exact congrArg Value.int cn.symm⟩, List.forall_mem_cons.mpr ⟨⟨jb, y, hb1, fun v h => by rw [gy v h]; exact congrArg Value.int cb.symm⟩, xe_nil⟩⟩⟩
end XL_fl

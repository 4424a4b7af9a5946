noncomputable def xRw (i : Nat) : List (List xV) := match xSM_0[i]? with
  | some c => c.2.2
  | none => []
noncomputable def xhmid : xH := [(xSM_0.set 0 (12, 40, [[.inr (.inr (.inl (some 1))), .inr (.inr (.inl (some 2))), .inr (.inr (.inl (some 3))), .inl 1, .inr (.inr (.inl (some 4))), .inr (.inr (.inl (some 5))), .inr (.inr (.inl (some 6))), .inr (.inr (.inl (some 7)))] ++ (List.replicate 11 (.inl 0)) ++ [.inr (.inr (.inl (some 8))), .inr (.inr (.inl (some 9))), .inr (.inr (.inl (some 10))), .inr (.inr (.inl (some 11))), .inr (.inr (.inl (some 12))), .inr (.inr (.inl (some 13))), .inr (.inr (.inl (some 14))), .inr (.inr (.inl (some 15))), .inl 0, .inl 0, .inl 0, .inr (.inr (.inl (some 16))), .inr (.inr (.inl (some 17))), .inr (.inr (.inl (some 18))), .inl 0, .inl 0, .inl 0, .inr (.inr (.inl (some 19))), .inl 0, .inr (.inr (.inl (some 20))), .inl 0]])).set 2 (100, 4900, (xRw 1).take 38 ++ (xRw 2).drop 38)]
noncomputable def xhend : xH := [(xSM_0.set 0 (12, 40, [[.inr (.inr (.inl (some 1))), .inr (.inr (.inl (some 2))), .inr (.inr (.inl (some 3))), .inl 1, .inr (.inr (.inl (some 4))), .inr (.inr (.inl (some 5))), .inr (.inr (.inl (some 6))), .inr (.inr (.inl (some 7)))] ++ (List.replicate 11 (.inl 0)) ++ [.inr (.inr (.inl (some 8))), .inr (.inr (.inl (some 9))), .inr (.inr (.inl (some 10))), .inr (.inr (.inl (some 11))), .inr (.inr (.inl (some 12))), .inr (.inr (.inl (some 13))), .inr (.inr (.inl (some 14))), .inr (.inr (.inl (some 15))), .inl 0, .inl 0, .inl 0, .inr (.inr (.inl (some 16))), .inr (.inr (.inl (some 17))), .inr (.inr (.inl (some 18))), .inl 0, .inl 0, .inl 0, .inr (.inr (.inl (some 19))), .inl 0, .inr (.inr (.inl (some 20))), .inl 0]])).set 2 (100, 4900, xRw 1)]
noncomputable def xaccH (nm : MethodName) (pcH : Nat) (pat : List (Nat × (xV → Bool))) (h0 : xH) (n0 : Nat) (g1 : xH) (r : xV) : xSm := fun me cs A k d => match cs with
  | [] => d
  | i :: _ => cond (Nat.beq i.1 pcH) (cond (xmt A.1 pat) (cond (Bool.and (Nat.beq A.2.2.2.2.1 n0) (Bool.and (Nat.beq A.2.2.2.2.2.1 0) (Nat.beq A.2.2.2.2.2.2 0))) (cond (Bool.and (decide (me.1 = nm)) (List.isEmpty A.2.1)) (cond (xeqH A.2.2.2.1 h0) (k A.2.2.1 g1 n0 (some r)) d) d) d) d) d
section XKP
variable {ρ : Nat → Int32} {base : Nat} {F : Nat → Prop} {Ts Ns : List Jvm.Cond} {cl : List vw_C} {tys : List FieldType} {D : va_G} {dA : Nat → ClassId} {la : Launch} {k : xK} {pc : Nat}
theorem xc5 {b1 b2 b3 b4 b5 x d : Bool} (h : cond b1 (cond b2 (cond b3 (cond b4 (cond b5 x d) d) d) d) d = true) : d = true ∨ (b1 = true ∧ b2 = true ∧ b3 = true ∧ b4 = true ∧ b5 = true ∧ x = true) := by cases b1 <;> cases b2 <;> cases b3 <;> cases b4 <;> cases b5 <;> simp_all
theorem xaccH_ok {Ms : List xM} {mi : xM} {nm : MethodName} {pcH n0 : Nat} {pat : List (Nat × (xV → Bool))} {h0 g1 : xH} {r : xV} (hu : ∀ me ∈ Ms, me.1 = nm → me = mi) (hacc : ∀ (lv : xL) (env : xE) (k : xK), xmt lv pat = true → k env g1 n0 (some r) = true → xGd ρ base F Ts Ns cl tys D dA la mi pcH (lv, [], env, h0, n0, 0, 0) k) : xSok ρ base F Ts Ns cl tys D dA la Ms (xaccH nm pcH pat h0 n0 g1 r) := by
  intro me cs A k d pc hme hat h
  cases cs with
  | nil => exact Or.inl h
  | cons i cs =>
    have hpc := hat i cs rfl
    have h : cond (Nat.beq i.1 pcH) (cond (xmt A.1 pat) (cond (Bool.and (Nat.beq A.2.2.2.2.1 n0) (Bool.and (Nat.beq A.2.2.2.2.2.1 0) (Nat.beq A.2.2.2.2.2.2 0))) (cond (Bool.and (decide (me.1 = nm)) (List.isEmpty A.2.1)) (cond (xeqH A.2.2.2.1 h0) (k A.2.2.1 g1 n0 (some r)) d) d) d) d) d = true := h
    rcases xc5 h with h | ⟨h1, h2, h3, h4, h5, hz⟩
    · exact Or.inl h
    refine Or.inr ?_
    obtain ⟨lv, st, env, hp, n, uc, us⟩ := A
    have e1 : i.1 = pcH := Nat.eq_of_beq_eq_true h1
    have e2 : n = n0 := Nat.eq_of_beq_eq_true (xand h3).1
    have e3 : uc = 0 := Nat.eq_of_beq_eq_true (xand (xand h3).2).1
    have e4 : us = 0 := Nat.eq_of_beq_eq_true (xand (xand h3).2).2
    have e5 : me = mi := hu me hme (of_decide_eq_true (xand h4).1)
    have e6 : st = [] := List.isEmpty_iff.mp (xand h4).2
    have e7 : hp = h0 := xeqH_of h5
    rw [← hpc, e1, e5]
    subst e2; subst e3; subst e4; subst e6; subst e7
    exact hacc lv env k h2 hz
theorem xtrH {mi : xM} {h0 h1 : xH} {n0 r0 : Nat} (hnv : xnvH h1 = true) {L lv : xL} {E env : xE} (hG : xGd ρ base F Ts Ns cl tys D dA la mi pc (L, [], E, h0, n0, 0, 0) (xK0 h1 n0 r0)) (hE : xρ ρ env → xρ ρ E) (hL : ∀ q ∈ L, ∃ (j : Nat) (x : xV), lv[j]? = some (q.1, x) ∧ ∀ v, xg ρ base x v → xg ρ base q.2 v) (hk : k env h1 n0 (some (.inl r0)) = true) : xGd ρ base F Ts Ns cl tys D dA la mi pc (lv, [], env, h0, n0, 0, 0) k := by
  intro p e s m args below meth c C H locs ls stc hI hS
  obtain ⟨lvc, hl, hlr⟩ := hI.2.1
  obtain ⟨lvc', hl', hlr'⟩ := xpat hl hlr L hL
  have hst : stc = [] := xSR_nil hI.2.2.1
  have g := hG p e s m args below meth c C H locs ls stc ⟨hE hI.1, ⟨lvc', hl', hlr'⟩, by rw [hst]; exact trivial, hI.2.2.2.1, Nat.zero_le _, Nat.zero_le _⟩ hS
  intro T hT X
  obtain ⟨t, a1, b1⟩ := g T hT X
  refine ⟨t, a1, xMQ (fun o t q => ?_) b1⟩
  obtain ⟨q1, env', h', n', r, q2, q3, q4, q5⟩ := q
  obtain ⟨rfl, rfl, rfl⟩ := xK0_of q2
  refine ⟨q1, env, h', n', _, hk, hI.1, xHR_nv hnv q4, Or.inr ?_⟩
  rcases q5 with ⟨q5, -⟩ | ⟨x, v, q5, q6, q7⟩
  · cases q5
  · cases q5
    exact ⟨_, v, rfl, q6, q7⟩
end XKP
theorem xnv_end : xnvH xhend = true := by decide +kernel
theorem xkp_f : xjmp (xcd xm_249) 7 (fun cs => xrunS xMs (fun _ _ _ _ d => d) 100000 xm_249 cs ([(0, xRef 0), (1, .inl 2432)], [], xenv0, xhmid, 21, 0, 0) (xK0 xhend 21 0)) = true := by decide +kernel
noncomputable def kpSum : xSm := xaccH xm_249.1 7 [(0, xeqV (xRef 0)), (1, xeqV (.inl 2432))] xhmid 21 xhend (.inl 0)
theorem kp_uq : ∀ me ∈ xMs, me.1 = xm_249.1 → me = xm_249 := by
  intro me hm hn
  obtain ⟨j, hj⟩ := List.getElem?_of_mem hm
  have hl : j < xMs.length := (List.getElem?_eq_some_iff.mp hj).1
  rw [(by decide +kernel : xMs.length = 262)] at hl
  have h2 := (by decide +kernel : ∀ j, j < 262 → (xMs.map (fun q => q.1))[j]? = some xm_249.1 → j = 249) j hl (by rw [List.getElem?_map, hj, Option.map_some, hn])
  subst h2
  exact Option.some.inj (hj.symm.trans (show xMs[249]? = some xm_249 from rfl))
theorem kp_in : xm_249 ∈ xMs := List.mem_of_getElem? (i := 249) rfl
theorem xenv0_le {ρ : Nat → Int32} {env : xE} (h : xρ ρ env) : xρ ρ xenv0 := xenv0_of h.1
theorem kp_sum {ρ : Nat → Int32} {base : Nat} {F : Nat → Prop} {D : va_G} {dA : Nat → ClassId} {la : Launch} : xSok ρ base F (xTs xTc) (xNs xTc) vwCl xTys D dA la xMs kpSum := by
  refine xaccH_ok kp_uq (fun lv env k hm hk => ?_)
  obtain ⟨a0, hm⟩ := xmt_cons hm
  obtain ⟨a1, -⟩ := xmt_cons hm
  exact xtrH xnv_end (xgo kp_in (fun _ _ _ _ d _ _ _ h => Or.inl h) xkp_f) xenv0_le (List.forall_mem_cons.mpr ⟨xe_same a0 (fun v h => h), List.forall_mem_cons.mpr ⟨xe_same a1 (fun v h => h), xe_nil⟩⟩) hk
def xbs_61 : List xBx := [([], .inl 0)]
theorem xsx_61 : xargs (xvs 0) 0 (fun lv => xrun xMs 200000 xm_248 (xcd xm_248) (lv, [], xenv0, xSX, 761, 0, 0) (xKs xbs_61 761)) = true := by decide +kernel
theorem xsm_61 : xargs (xvs 0) 0 (fun lv => xrunS xMs kpSum 200000 xm_249 (xcd xm_249) (lv, [], xenv0, xSM, 21, 0, 0) (xKs xbs_61 21)) = true := by decide +kernel

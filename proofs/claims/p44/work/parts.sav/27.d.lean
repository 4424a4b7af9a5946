set_option linter.all false
/-! one instruction, all instructions, cuts -/
section FE
variable {ih : xIh} {me : xM} {cs : List xI} {a b : Nat} {l : List Nat} {lx : xL} {sx : List xV} {k : xK} {env : xE} {u v : Nat} {r : xE × (xH × (Nat × (Nat × Nat)))} {q : xH × (Nat × (Nat × Nat))}
theorem h_load : xo_load ih me cs a b l (lx, sx, r) k = xfind lx a (fun v => cond (Nat.beq (xis v) b) (ih me cs (lx, v :: sx, r) k) false) := rfl
theorem h_iinc : xo_iinc ih me cs a b l (lx, sx, env, q) k = xfind lx a (fun v => xci env (fun e u => xfN (xioc 0 u b) (fun w => xfil a 0 lx (fun l => ih me cs ((a, .inl w) :: l, sx, e, q) k))) (xfil a 0 lx (fun l => ih me cs ((a, xsum 0 v (.inl b)) :: l, sx, env, q) k)) v) := rfl
theorem h_idiv : xo_idiv ih me cs a b l (lx, .inl v :: .inl u :: sx, env, q) k = cond (Nat.beq (Nat.mod v 4294967296) 0) false (xfN (xdvc a u v) (fun w => ih me cs (lx, .inl w :: sx, env, q) k)) := rfl
theorem h_iun : xo_iun ih me cs a b l (lx, .inl u :: sx, env, q) k = xfN (xcode (xiu a (nI u))) (fun w => ih me cs (lx, .inl w :: sx, env, q) k) := rfl
theorem h_i2l : xo_i2l ih me cs a b l (lx, .inl u :: sx, r) k = xfN (xcodeL (nI u).toInt64) (fun w => ih me cs (lx, xLc w :: sx, r) k) := rfl
theorem h_l2i : xo_l2i ih me cs a b l (lx, xLc u :: sx, r) k = xfN (xcode (lN u).toInt32) (fun w => ih me cs (lx, .inl w :: sx, r) k) := rfl
theorem h_lbin : xo_lbin ih me cs a b l (lx, xLc v :: xLc u :: sx, r) k = xfN (xcodeL (xlo a (lN u) (lN v))) (fun w => ih me cs (lx, xLc w :: sx, r) k) := rfl
theorem h_lsh : xo_lsh ih me cs a b l (lx, .inl v :: xLc u :: sx, r) k = xfN (xcodeL (xls a (lN u) (nI v))) (fun w => ih me cs (lx, xLc w :: sx, r) k) := rfl
theorem h_lcmp : xo_lcmp ih me cs a b l (lx, xLc v :: xLc u :: sx, env, q) k = xfN (xcode (lg_cmp (lN u) (lN v))) (fun w => ih me cs (lx, .inl w :: sx, env, q) k) := rfl
theorem h_if {x : xV} : xo_if ih me cs a b l (lx, x :: sx, env, q) k = xcmp env a (fun e t => cond t (xjmp me.2.2.2.2.1 b (fun cs => ih me cs (lx, sx, e, q) k)) (ih me cs (lx, sx, e, q) k)) x (.inl 0) := rfl
theorem h_icmp {x y : xV} : xo_icmp ih me cs a b l (lx, y :: x :: sx, env, q) k = xcmp env a (fun e t => cond t (xjmp me.2.2.2.2.1 b (fun cs => ih me cs (lx, sx, e, q) k)) (ih me cs (lx, sx, e, q) k)) x y := rfl
theorem h_ald {o : Nat} {h : xH} {t : Nat × (Nat × Nat)} : xo_ald ih me cs a b l (lx, .inl u :: xRef o :: sx, env, h, t) k = cond (Nat.blt u 2147483648) (xhget h o (fun c => cond (Nat.beq c.1 a) (xhget c.2.2 u (fun v => ih me cs (lx, v :: sx, env, h, t) k)) false)) false := rfl
theorem h_ast {o : Nat} {h : xH} {t : Nat × (Nat × Nat)} {x : xV} : xo_ast ih me cs a b l (lx, x :: .inl u :: xRef o :: sx, env, h, t) k = cond (xfits b x) (cond (Nat.blt u 2147483648) (xhget h o (fun c => cond (Nat.beq c.1 a) (xhset c.2.2 u x (fun fs => xhset h o (a, c.2.1, fs) (fun h => ih me cs (lx, sx, env, h, t) k))) false)) false) false := rfl
theorem h_mm : xo_mm ih me cs a b l (lx, .inl v :: .inl u :: sx, env, q) k = cond (Nat.ble (Nat.add (xcats sx) 13) me.2.2.2.2.2.locals) (xfN (xmm a u v) (fun w => ih me cs (lx, .inl w :: sx, env, q) k)) false := rfl
theorem h_table : xo_table ih me cs a b l (lx, .inl u :: sx, env, q) k = xfN (xtab a b l (xbc u)) (fun t => xjmp me.2.2.2.2.1 t (fun cs => ih me cs (lx, sx, env, q) k)) := rfl
end FE
section FS
variable {ρ : Nat → Int32} {base n : Nat} {F : Nat → Prop} {Tc : List (List Jvm.Cond)} {cl : List vw_C} {tys : List FieldType} {D : va_G} {dA : Nat → ClassId} {la : Launch} {Ms : List xM} {me : xM} {cs : List xI} {g : fG} {bd : Nat → Nat → Int × Int} {rb : Nat → Option Nat} {C : xM → List fV → fH → (fH → Option fV → Prop) → Prop} {lv : fL} {st : List fV} {I : fH} {P : fH → Option fV → Prop} {k : xK} {pc op a b : Nat} {l : List Nat} {hp : xH} {go : List xI → fL → List fV → fH → Prop}
theorem f_env {A : xL} {B : List xV} {e : xE} {r : xH × (Nat × (Nat × Nat))} (h : fih ρ base F Tc cl tys D dA la me cs (A, B, [], r) k = true) : fih ρ base F Tc cl tys D dA la me cs (A, B, e, r) k = true := by
  refine fih_mk (fun pc hat p e' s' m args below meth c C H locs ls stc hI hS => ?_)
  exact fih_of h pc hat p e' s' m args below meth c C H locs ls stc ⟨⟨hI.1.1, fun i q hq => by cases hq⟩, hI.2⟩ hS
theorem f_k {A : xA} {k1 k2 : xK} (hk : ∀ e h n r, k1 e h n r = true → k2 e h n r = true) (h : fih ρ base F Tc cl tys D dA la me cs A k1 = true) : fih ρ base F Tc cl tys D dA la me cs A k2 = true := by
  refine fih_mk (fun pc hat p e' s' m args below meth c C H locs ls stc hI hS => ?_)
  intro T hT X
  obtain ⟨t, a1, b1⟩ := fih_of h pc hat p e' s' m args below meth c C H locs ls stc hI hS T hT X
  refine ⟨t, a1, xMQ (fun o t q => ?_) b1⟩
  obtain ⟨q1, env, h', n', r, q2, q3⟩ := q
  exact ⟨q1, env, h', n', r, hk _ _ _ _ q2, q3⟩
theorem f_at {A : xA} {i i' : xI} {c c' : List xI} (e : i.1 = i'.1) (h : fih ρ base F Tc cl tys D dA la me (i' :: c') A k = true) : fih ρ base F Tc cl tys D dA la me (i :: c) A k = true := by
  refine fih_mk (fun pc hat => fih_of h pc ?_)
  intro j r q
  cases q
  rw [← e]
  exact hat _ _ rfl
theorem fpop_of {K : List fV → List fV → Prop} : ∀ {m : Nat} {st acc : List fV}, fpop m st acc K → ∃ vs rest, K vs rest ∧ ∀ q : List xV → List xV → Bool, xpop m (feS st) (feS acc) q = q (feS vs) (feS rest) := by
  intro m
  induction m with
  | zero => intro st acc h; exact ⟨acc, st, h, fun q => rfl⟩
  | succ m ih =>
    intro st acc h
    cases st with
    | nil => exact h.elim
    | cons v st =>
      obtain ⟨vs, rest, h1, h2⟩ := ih (st := st) (acc := v :: acc) h
      exact ⟨vs, rest, h1, fun q => h2 q⟩
theorem fnth_of {α : Type} {K : α → Prop} : ∀ {l : List α} {i : Nat}, fnth l i K → ∃ x, l[i]? = some x ∧ K x := by
  intro l
  induction l with
  | nil => intro i h; exact h.elim
  | cons x l ih =>
    intro i h
    cases i with
    | zero => exact ⟨x, rfl, h⟩
    | succ i =>
      obtain ⟨y, h1, h2⟩ := ih h
      exact ⟨y, by simpa using h1, h2⟩
theorem fcats_eq (st : List fV) : xcats (feS st) = fcats st := by
  induction st with
  | nil => rfl
  | cons v st ih =>
    show Nat.add (cond (Nat.beq (xis (fe v)) 2) 2 1) (xcats (feS st)) = _
    rw [ih, fe_is]
    match v with
    | .inl _ => rfl
    | .inr (.inl _) => rfl
    | .inr (.inr _) => rfl
theorem fargs_eq : ∀ (vs : List fV) (i : Nat) (K : xL → Bool), xargs (feS vs) i K = K (feL (fargs i vs)) := by
  intro vs
  induction vs with
  | nil => intro i K; rfl
  | cons v vs ih =>
    intro i K
    show xfN (cond (Nat.beq (xis (fe v)) 2) (Nat.succ (Nat.succ i)) (Nat.succ i)) (fun j => xargs (feS vs) j (fun l => K ((i, fe v) :: l))) = _
    rw [xfN_eq, ih, fe_is]
    show K ((i, fe v) :: feL (fargs (cond (Nat.beq (fis v) 2) (Nat.succ (Nat.succ i)) (Nat.succ i)) vs)) = K ((i, fe v) :: feL (fargs (match Nat.beq (fis v) 2 with | true => i + 2 | false => i + 1) vs))
    cases Nat.beq (fis v) 2 <;> rfl
theorem fhr_upd {a j k len : Nat} {z : Int} {h' : xH} {rows rows' : List (List xV)} (hh : fhr g I hp) (hs : g.1 a = some (k, len)) (hr : g.2 a j = none) (hx : xat hp a = some (k, len, rows)) (hrow : ∀ i, i < len → xat rows i = some (fe (fcl g k I a i))) (e1 : xat h' a = some (k, len, rows')) (e2 : ∀ b, b ≠ a → xat h' b = xat hp b) (r1 : xat rows' j = some (fe (fcl g k (fupd I a j z) a j))) (r2 : ∀ i, i ≠ j → xat rows' i = xat rows i) : fhr g (fupd I a j z) h' := by
  intro a' k' len' hs'
  by_cases e : a' = a
  · subst e
    cases hs.symm.trans hs'
    refine ⟨rows', e1, fun i hi => ?_⟩
    by_cases e3 : i = j
    · subst e3
      exact r1
    · rw [r2 i e3, hrow i hi]
      have q : fupd I a' j z a' i = I a' i := if_neg (fun q => e3 q.2)
      unfold fcl
      rw [q]
  · obtain ⟨rw0, h1, h2⟩ := hh a' k' len' hs'
    refine ⟨rw0, by rw [e2 a' e, h1], fun i hi => ?_⟩
    rw [h2 i hi]
    have q : fupd I a j z a' i = I a' i := if_neg (fun q => e q.1)
    unfold fcl
    rw [q]
theorem fB_upd {a j : Nat} {z : Int} (hB : fB bd I) (h : (bd a j).1 ≤ z ∧ z ≤ (bd a j).2) : fB bd (fupd I a j z) := by
  intro a' j'
  unfold fupd
  split
  · next e => rw [e.1, e.2]; exact h
  · exact hB a' j'
theorem fcl_int {k a j : Nat} (hr : g.2 a j = none) (hk : k ≠ 101) : fcl g k I a j = .inl (I a j) := by unfold fcl; rw [hr]; exact if_neg hk
theorem fcl_long {a j : Nat} (hr : g.2 a j = none) : fcl g 101 I a j = .inr (.inl (I a j)) := by unfold fcl; rw [hr]; exact if_pos rfl
theorem fcl_ref {k a j r : Nat} (hr : g.2 a j = some r) : fcl g k I a j = .inr (.inr (some r)) := by unfold fcl; rw [hr]
theorem ic_idx {i : Int} (h0 : 0 ≤ i) (h1 : i < 2147483648) : ic i = i.toNat := ic_small h0 (by omega)
/-- what is asked of the continuation -/
def fGo (ρ : Nat → Int32) (base n : Nat) (F : Nat → Prop) (Tc : List (List Jvm.Cond)) (cl : List vw_C) (tys : List FieldType) (D : va_G) (dA : Nat → ClassId) (la : Launch) (g : fG) (bd : Nat → Nat → Int × Int) (me : xM) (k : xK) (go : List xI → fL → List fV → fH → Prop) : Prop := ∀ cs lv st I hp, fhr g I hp → fB bd I → cs <:+ xcd me → go cs lv st I → fih ρ base F Tc cl tys D dA la me cs (feL lv, feS st, [], hp, n, 0, 0) k = true
def fOkC (ρ : Nat → Int32) (base n : Nat) (F : Nat → Prop) (Tc : List (List Jvm.Cond)) (cl : List vw_C) (tys : List FieldType) (D : va_G) (dA : Nat → ClassId) (la : Launch) (g : fG) (bd : Nat → Nat → Int × Int) (C : xM → List fV → fH → (fH → Option fV → Prop) → Prop) : Prop := ∀ mc vs I Q, fB bd I → C mc vs I Q → fW ρ base n F Tc cl tys D dA la g mc (xcd mc) (fargs 0 vs) [] I (fun I' r => fB bd I' ∧ Q I' r)
def fOkR (g : fG) (rb : Nat → Option Nat) : Prop := (∀ o r0 len, rb o = some r0 → g.1 o = some (102, len) → ∀ j, j < len → g.2 o j = some (r0 + j)) ∧ (∀ o k len, g.1 o = some (k, len) → len ≤ 100000)
theorem f_table (hgo : fGo ρ base n F Tc cl tys D dA la g bd me k go) (hh : fhr g I hp) (hB : fB bd I) {z : Int} (hz : fin32 z) : ∀ {l : List Nat} {lo : Int}, ftab (fun t => fjmp (xcd me) t (fun cs => go cs lv st I)) z lo l → ∀ (j t : Nat), l[j]? = some t → z = lo + (j : Int) → xjmp (xcd me) t (fun cs => fih ρ base F Tc cl tys D dA la me cs (feL lv, feS st, [], hp, n, 0, 0) k) = true := by
  intro l
  induction l with
  | nil => intro lo _ j t h; cases h
  | cons t0 l ih =>
    intro lo h j t hj hz'
    obtain ⟨h1, h2⟩ := h
    cases j with
    | zero =>
      cases hj
      exact fjmp_of (h1 (by simpa using hz')) (fun cs' q1 q2 => hgo cs' lv st I hp hh hB q1 q2)
    | succ j => exact ih h2 j t (by simpa using hj) (by rw [hz']; omega)
theorem f_hd {ih : xIh} {A : xA} (h : xnth (xhs Ms) (fun r => xnth r (fun f => f ih me cs a b l A k) (Nat.mod op 8)) (Nat.div op 8) = true) : xstep Ms ih me ((pc, op, a, b, l) :: cs) A k = true := h
theorem fald_of {x y z : Prop} (h : fald a x y z) : (a = 102 ∧ x) ∨ (a = 101 ∧ y) ∨ z := by
  unfold fald at h
  split at h
  · exact Or.inl ⟨rfl, h⟩
  · exact Or.inr (Or.inl ⟨rfl, h⟩)
  · exact Or.inr (Or.inr h)
theorem fbr_of {c : Nat} {x y : Int} {T N : Prop} (h : fbr c x y T N) : (fcmp c x y → T) ∧ (¬ fcmp c x y → N) := by
  unfold fbr at h
  split at h
  · exact h
  · exact ⟨h.1, fun q => h.2 (Classical.not_not.mp q)⟩
  · exact ⟨h.1, fun q => h.2 (Int.not_lt.mp q)⟩
  · exact ⟨h.1, fun q => h.2 (Int.not_le.mp q)⟩
  · exact ⟨h.1, fun q => h.2 (Int.not_lt.mp q)⟩
  · next h0 h1 h2 h3 h4 =>
    have e : fcmp c x y = (x ≤ y) := by
      unfold fcmp
      split <;> first | rfl | contradiction
    rw [e]
    exact ⟨h.1, fun q => h.2 (Int.not_le.mp q)⟩
theorem f_cmpk {x y : Int} {c : Nat} (hx : fin32 x) (hy : fin32 y) {q : xE → Bool → Bool} {e : xE} (h1 : fcmp c x y → q e true = true) (h2 : ¬ fcmp c x y → q e false = true) : xcmp e c q (.inl (ic x)) (.inl (ic y)) = true := by
  show q e (xcc c (xbc (ic x)) (xbc (ic y))) = true
  rw [xbc_eq, xbc_eq, nI_ic, nI_ic]
  have hc := (xcc_of c (iI x) (iI y)).trans (fcmp_of c hx hy)
  by_cases c1 : fcmp c x y
  · rw [hc.mpr c1]; exact h1 c1
  · rw [xnf (fun q => c1 (hc.mp q))]; exact h2 c1
set_option maxHeartbeats 4000000 in
theorem fstep_ok (hop : op ≠ 60) (hGo : fGo ρ base n F Tc cl tys D dA la g bd me k go) (hC : fOkC ρ base n F Tc cl tys D dA la g bd C) (hR : fOkR g rb) (hk : ∀ I r hp, fhr g I hp → fB bd I → P I r → k [] hp n (Option.map fe r) = true) (hs : cs <:+ xcd me) (hh : fhr g I hp) (hB : fB bd I) (h : fstep g bd rb C Ms go me pc op a b l cs lv st I P) : xstep Ms (fih ρ base F Tc cl tys D dA la) me ((pc, op, a, b, l) :: cs) (feL lv, feS st, [], hp, n, 0, 0) k = true := by
  match op, hop, h with
  | 0, _, h =>
    refine f_hd (op := 0) ?_
    show xo_iconst (fih ρ base F Tc cl tys D dA la) me cs a b l (feL lv, feS st, [], hp, n, 0, 0) k = true
    obtain ⟨z, e, h⟩ := fcst_of (K := fun z => go cs lv (.inl z :: st) I) h
    exact f_st (by rw [nI_ic, e]) (hGo cs lv (.inl z :: st) I hp hh hB hs h)
  | 1, _, h =>
    refine f_hd (op := 1) ?_
    show xo_lconst (fih ρ base F Tc cl tys D dA la) me cs a b l (feL lv, feS st, [], hp, n, 0, 0) k = true
    obtain ⟨z, e, h⟩ := fcstL_of (K := fun z => go cs lv (.inr (.inl z) :: st) I) h
    exact f_stL (by rw [lN_lc, e]) (hGo cs lv (.inr (.inl z) :: st) I hp hh hB hs h)
  | 2, _, h =>
    refine f_hd (op := 2) ?_
    show xo_null (fih ρ base F Tc cl tys D dA la) me cs a b l (feL lv, feS st, [], hp, n, 0, 0) k = true
    exact hGo cs lv (.inr (.inr none) :: st) I hp hh hB hs h
  | 3, _, h =>
    refine f_hd (op := 3) ?_
    show xo_load (fih ρ base F Tc cl tys D dA la) me cs a b l (feL lv, feS st, [], hp, n, 0, 0) k = true
    obtain ⟨v, h, e⟩ := flget_of (K := fun v => fyes (Nat.beq (fis v) b) (go cs lv (v :: st) I)) h
    obtain ⟨h1, h⟩ := fyes_of h
    rw [h_load, e, fe_is, h1]
    exact hGo cs lv (v :: st) I hp hh hB hs h
  | 4, _, h =>
    refine f_hd (op := 4) ?_
    show xo_store (fih ρ base F Tc cl tys D dA la) me cs a b l (feL lv, feS st, [], hp, n, 0, 0) k = true
    match st, h with
    | v :: st, h =>
      obtain ⟨h1, h⟩ := fyes_of (p := flfil a b lv (fun l => go cs ((a, v) :: l) st I)) h
      obtain ⟨l', h, e⟩ := flfil_of h
      show cond (Nat.beq (xis (fe v)) b) (xfil a b (feL lv) _) false = true
      rw [fe_is, h1, cond_true, e]
      exact hGo cs ((a, v) :: l') st I hp hh hB hs h
    | [], h => exact (show False from h).elim
  | 5, _, h =>
    refine f_hd (op := 5) ?_
    show xo_iinc (fih ρ base F Tc cl tys D dA la) me cs a b l (feL lv, feS st, [], hp, n, 0, 0) k = true
    obtain ⟨v, h, e⟩ := flget_of (K := fun v => match v with
      | .inl z => fcst b (fun c => flfil a 0 lv (fun lw => fiw l (z + c) (fun y => go cs ((a, .inl y) :: lw) st I)))
      | _ => False) h
    rw [h_iinc, e]
    match v, h with
    | .inl z, h =>
      obtain ⟨c, e2, h⟩ := fcst_of (K := fun c => flfil a 0 lv (fun lw => fiw l (z + c) (fun y => go cs ((a, .inl y) :: lw) st I))) h
      obtain ⟨l', h, e3⟩ := flfil_of h
      show xfN (xioc 0 (ic z) b) (fun w => xfil a 0 (feL lv) (fun l => fih ρ base F Tc cl tys D dA la me cs ((a, .inl w) :: l, feS st, [], hp, n, 0, 0) k)) = true
      rw [xfN_eq, e3]
      unfold fiw at h
      split at h
      · refine f_lv ?_ (hGo cs ((a, .inl (z + c)) :: l') st I hp hh hB hs h)
        rw [xioc_of, nI_ic, nI_ic, ← e2]
        exact iI_add z c
      · refine f_lv ?_ (hGo cs ((a, .inl (iI (z + c)).toInt) :: l') st I hp hh hB hs (h _ (fin_toInt _) (fun q => iI_int q)))
        rw [xioc_of, nI_ic, nI_ic, ← e2, iI_toInt]
        exact iI_add z c
    | .inr _, h => exact (show False from h).elim
  | 6, _, h =>
    refine f_hd (op := 6) ?_
    show xo_ibin (fih ρ base F Tc cl tys D dA la) me cs a b l (feL lv, feS st, [], hp, n, 0, 0) k = true
    match st, h with
    | .inl y :: .inl x :: st, h =>
      refine f_ibin (fun w hw => ?_)
      have h : fibin a b x y (fun z => go cs lv (.inl z :: st) I) := h
      unfold fibin at h
      split at h
      · exact f_st (by rw [hw, nI_ic]; exact iI_add x y) (hGo cs lv (.inl (x + y) :: st) I hp hh hB hs h)
      · exact f_st (by rw [hw, nI_ic]; exact iI_sub x y) (hGo cs lv (.inl (x - y) :: st) I hp hh hB hs h)
      · exact f_st (by rw [hw, nI_ic]; exact iI_mul x y) (hGo cs lv (.inl (x * y) :: st) I hp hh hB hs h)
      · have e : iI (nI w).toInt = iI x &&& iI y := by rw [iI_toInt, hw]; rfl
        exact f_st (by rw [nI_ic, iI_toInt]) (hGo cs lv (.inl (nI w).toInt :: st) I hp hh hB hs (h _ (fin_toInt _) e (fmask (fin_toInt _) e)))
      · have e : iI (nI w).toInt = iI x + iI y := by rw [iI_toInt, hw]; rfl
        exact f_st (by rw [nI_ic, iI_toInt]) (hGo cs lv (.inl (nI w).toInt :: st) I hp hh hB hs (h _ (fin_toInt _) e (fun q => (iI_eq (fin_toInt _) q).mp (e.trans (iI_add x y)))))
      · have e : iI (nI w).toInt = iI x - iI y := by rw [iI_toInt, hw]; rfl
        exact f_st (by rw [nI_ic, iI_toInt]) (hGo cs lv (.inl (nI w).toInt :: st) I hp hh hB hs (h _ (fin_toInt _) e (fun q => (iI_eq (fin_toInt _) q).mp (e.trans (iI_sub x y)))))
      · have e : iI (nI w).toInt = iI x * iI y := by rw [iI_toInt, hw]; rfl
        exact f_st (by rw [nI_ic, iI_toInt]) (hGo cs lv (.inl (nI w).toInt :: st) I hp hh hB hs (h _ (fin_toInt _) e (fun q => (iI_eq (fin_toInt _) q).mp (e.trans (iI_mul x y)))))
      · exact f_st (by rw [nI_ic, iI_toInt]) (hGo cs lv (.inl (nI w).toInt :: st) I hp hh hB hs (h _ (fin_toInt _) (by rw [iI_toInt, hw])))
    | [], h => exact (show False from h).elim
    | [.inl _], h => exact (show False from h).elim
    | .inr _ :: _, h => exact (show False from h).elim
    | .inl _ :: .inr _ :: _, h => exact (show False from h).elim
  | 7, _, h =>
    refine f_hd (op := 7) ?_
    show xo_idiv (fih ρ base F Tc cl tys D dA la) me cs a b l (feL lv, feS st, [], hp, n, 0, 0) k = true
    match st, h with
    | .inl y :: .inl x :: st, h =>
      obtain ⟨⟨hx, hy, h0, ha⟩, h⟩ := h
      have ha := xblt.mp ha
      refine h_idiv.trans ?_
      have hne : ¬ ic y % 4294967296 = 0 := by
        rw [Nat.mod_eq_of_lt (ic_lt y)]
        intro q
        apply h0
        have q2 : iI y = iI 0 := by rw [← nI_ic, q]; rfl
        exact (iI_eq hy ⟨by decide, by decide⟩).mp q2
      rw [xnf (b := Nat.beq (Nat.mod (ic y) 4294967296) 0) (fun q => hne (Nat.eq_of_beq_eq_true q)), cond_false, xfN_eq]
      have e := xdv_of (a := a) (u := ic x) (v := ic y) ha hne
      rw [nI_ic, nI_ic] at e
      have e2 : iI (xdv a (iI x) (iI y)).toInt = xdv a (iI x) (iI y) := iI_toInt _
      exact f_st (by rw [nI_ic, e2, e]) (hGo cs lv (.inl (xdv a (iI x) (iI y)).toInt :: st) I hp hh hB hs (h _ (fin_toInt _) e2 (fun q1 q2 => fdivs ha hx hy (fin_toInt _) e2 q1 q2)))
    | [], h => exact (show False from h).elim
    | [.inl _], h => exact (show False from h).elim
    | .inr _ :: _, h => exact (show False from h).elim
    | .inl _ :: .inr _ :: _, h => exact (show False from h).elim
  | 8, _, h =>
    refine f_hd (op := 8) ?_
    show xo_iun (fih ρ base F Tc cl tys D dA la) me cs a b l (feL lv, feS st, [], hp, n, 0, 0) k = true
    match st, h with
    | .inl x :: st, h =>
      refine h_iun.trans ?_
      rw [xfN_eq, nI_ic]
      refine f_st (by rw [xn_code, nI_ic, iI_toInt]) (hGo cs lv (.inl (xiu a (iI x)).toInt :: st) I hp hh hB hs (h _ (fin_toInt _) (iI_toInt _) (fun q1 q2 => ?_)))
      subst q1
      exact (iI_eq (fin_toInt _) q2).mp ((iI_toInt _).trans (iI_neg x))
    | [], h => exact (show False from h).elim
    | .inr _ :: _, h => exact (show False from h).elim
  | 9, _, h =>
    refine f_hd (op := 9) ?_
    show xo_i2l (fih ρ base F Tc cl tys D dA la) me cs a b l (feL lv, feS st, [], hp, n, 0, 0) k = true
    match st, h with
    | .inl x :: st, h =>
      refine h_i2l.trans ?_
      rw [xfN_eq, nI_ic]
      refine f_stL ?_ (hGo cs lv (.inr (.inl x) :: st) I hp hh hB hs h.2)
      rw [xl_code, lN_lc]
      apply Int64.toInt_inj.mp
      rw [Int32.toInt_toInt64, iI_int h.1, iL_int ⟨by have := h.1.1; omega, by have := h.1.2; omega⟩]
    | [], h => exact (show False from h).elim
    | .inr _ :: _, h => exact (show False from h).elim
  | 10, _, h =>
    refine f_hd (op := 10) ?_
    show xo_l2i (fih ρ base F Tc cl tys D dA la) me cs a b l (feL lv, feS st, [], hp, n, 0, 0) k = true
    match st, h with
    | .inr (.inl x) :: st, h =>
      refine h_l2i.trans ?_
      rw [xfN_eq, lN_lc]
      have e : (iL x).toInt32 = iI x := Int64.toInt32_ofInt
      rw [e]
      exact f_st (by rw [xn_code, nI_ic, iI_toInt]) (hGo cs lv (.inl (iI x).toInt :: st) I hp hh hB hs (h _ (fin_toInt _) (iI_toInt _) (fun q => iI_int q)))
    | [], h => exact (show False from h).elim
    | .inl _ :: _, h => exact (show False from h).elim
    | .inr (.inr _) :: _, h => exact (show False from h).elim
  | 11, _, h =>
    refine f_hd (op := 11) ?_
    show xo_lbin (fih ρ base F Tc cl tys D dA la) me cs a b l (feL lv, feS st, [], hp, n, 0, 0) k = true
    match st, h with
    | .inr (.inl y) :: .inr (.inl x) :: st, h =>
      refine h_lbin.trans ?_
      rw [xfN_eq, lN_lc, lN_lc]
      have h : flbin a b x y (fun z => go cs lv (.inr (.inl z) :: st) I) := h
      unfold flbin at h
      split at h
      · exact f_stL (by rw [xl_code, lN_lc]; exact iL_add x y) (hGo cs lv (.inr (.inl (x + y)) :: st) I hp hh hB hs h)
      · exact f_stL (by rw [xl_code, lN_lc]; exact iL_sub x y) (hGo cs lv (.inr (.inl (x - y)) :: st) I hp hh hB hs h)
      · exact f_stL (by rw [xl_code, lN_lc]; exact iL_mul x y) (hGo cs lv (.inr (.inl (x * y)) :: st) I hp hh hB hs h)
      · exact f_stL (by rw [xl_code, lN_lc, iL_toInt]) (hGo cs lv (.inr (.inl (xlo 3 (iL x) (iL y)).toInt) :: st) I hp hh hB hs (h _ (fin_toIntL _) (iL_toInt _) (fmaskL (fin_toIntL _) (iL_toInt _))))
      · exact f_stL (by rw [xl_code, lN_lc, iL_toInt]) (hGo cs lv (.inr (.inl (xlo 0 (iL x) (iL y)).toInt) :: st) I hp hh hB hs (h _ (fin_toIntL _) (iL_toInt _) (fun q => iL_eq (fin_toIntL _) q ((iL_toInt _).trans (iL_add x y)))))
      · exact f_stL (by rw [xl_code, lN_lc, iL_toInt]) (hGo cs lv (.inr (.inl (xlo 1 (iL x) (iL y)).toInt) :: st) I hp hh hB hs (h _ (fin_toIntL _) (iL_toInt _) (fun q => iL_eq (fin_toIntL _) q ((iL_toInt _).trans (iL_sub x y)))))
      · exact f_stL (by rw [xl_code, lN_lc, iL_toInt]) (hGo cs lv (.inr (.inl (xlo 2 (iL x) (iL y)).toInt) :: st) I hp hh hB hs (h _ (fin_toIntL _) (iL_toInt _) (fun q => iL_eq (fin_toIntL _) q ((iL_toInt _).trans (iL_mul x y)))))
      · exact f_stL (by rw [xl_code, lN_lc, iL_toInt]) (hGo cs lv (.inr (.inl (xlo _ (iL x) (iL y)).toInt) :: st) I hp hh hB hs (h _ (fin_toIntL _) (iL_toInt _)))
    | [], h => exact (show False from h).elim
    | .inl _ :: _, h => exact (show False from h).elim
    | .inr (.inr _) :: _, h => exact (show False from h).elim
    | [.inr (.inl _)], h => exact (show False from h).elim
    | .inr (.inl _) :: .inl _ :: _, h => exact (show False from h).elim
    | .inr (.inl _) :: .inr (.inr _) :: _, h => exact (show False from h).elim
  | 12, _, h =>
    refine f_hd (op := 12) ?_
    show xo_ldiv (fih ρ base F Tc cl tys D dA la) me cs a b l (feL lv, feS st, [], hp, n, 0, 0) k = true
    match st, h with
    | .inr (.inl y) :: .inr (.inl x) :: st, h =>
      obtain ⟨⟨hy, h0⟩, h⟩ := h
      show cond (Nat.beq (Nat.mod (lc y) 18446744073709551616) 0) false (xfN (xcodeL (xldv a (lN (lc x)) (lN (lc y)))) _) = true
      have hne : ¬ lc y % 18446744073709551616 = 0 := by
        intro q
        apply h0
        have := hy.1
        have := hy.2
        unfold lc at q
        omega
      rw [xnf (b := Nat.beq (Nat.mod (lc y) 18446744073709551616) 0) (fun q => hne (Nat.eq_of_beq_eq_true q)), cond_false, xfN_eq, lN_lc, lN_lc]
      exact f_stL (by rw [xl_code, lN_lc, iL_toInt]) (hGo cs lv (.inr (.inl (xldv a (iL x) (iL y)).toInt) :: st) I hp hh hB hs (h _ (fin_toIntL _) (iL_toInt _)))
    | [], h => exact (show False from h).elim
    | .inl _ :: _, h => exact (show False from h).elim
    | .inr (.inr _) :: _, h => exact (show False from h).elim
    | [.inr (.inl _)], h => exact (show False from h).elim
    | .inr (.inl _) :: .inl _ :: _, h => exact (show False from h).elim
    | .inr (.inl _) :: .inr (.inr _) :: _, h => exact (show False from h).elim
  | 13, _, h =>
    refine f_hd (op := 13) ?_
    show xo_lsh (fih ρ base F Tc cl tys D dA la) me cs a b l (feL lv, feS st, [], hp, n, 0, 0) k = true
    match st, h with
    | .inl y :: .inr (.inl x) :: st, h =>
      refine h_lsh.trans ?_
      rw [xfN_eq, lN_lc, nI_ic]
      exact f_stL (by rw [xl_code, lN_lc, iL_toInt]) (hGo cs lv (.inr (.inl (xls a (iL x) (iI y)).toInt) :: st) I hp hh hB hs (h _ (fin_toIntL _) (iL_toInt _)))
    | [], h => exact (show False from h).elim
    | .inr _ :: _, h => exact (show False from h).elim
    | [.inl _], h => exact (show False from h).elim
    | .inl _ :: .inl _ :: _, h => exact (show False from h).elim
    | .inl _ :: .inr (.inr _) :: _, h => exact (show False from h).elim
  | 14, _, h =>
    refine f_hd (op := 14) ?_
    show xo_lcmp (fih ρ base F Tc cl tys D dA la) me cs a b l (feL lv, feS st, [], hp, n, 0, 0) k = true
    match st, h with
    | .inr (.inl y) :: .inr (.inl x) :: st, h =>
      obtain ⟨⟨hx, hy⟩, h⟩ := h
      refine h_lcmp.trans ?_
      rw [xfN_eq, lN_lc, lN_lc]
      have e : ∃ z : Int, iI z = lg_cmp (iL x) (iL y) ∧ ((x < y ∧ z = -1) ∨ (x = y ∧ z = 0) ∨ (y < x ∧ z = 1)) := by
        unfold lg_cmp
        have c1 : iL x > iL y ↔ y < x := by show iL y < iL x ↔ _; rw [Int64.lt_iff_toInt_lt, iL_int hx, iL_int hy]
        have c2 : iL x = iL y ↔ x = y := by rw [← Int64.toInt_inj, iL_int hx, iL_int hy]
        by_cases q1 : y < x
        · exact ⟨1, by rw [if_pos (c1.mpr q1)]; rfl, Or.inr (Or.inr ⟨q1, rfl⟩)⟩
        · rw [if_neg (fun q => q1 (c1.mp q))]
          by_cases q2 : x = y
          · exact ⟨0, by rw [if_pos (c2.mpr q2)]; rfl, Or.inr (Or.inl ⟨q2, rfl⟩)⟩
          · exact ⟨-1, by rw [if_neg (fun q => q2 (c2.mp q))]; rfl, Or.inl ⟨by omega, rfl⟩⟩
      obtain ⟨z, e1, e2⟩ := e
      exact f_st (by rw [xn_code, nI_ic, e1]) (hGo cs lv (.inl z :: st) I hp hh hB hs (h z e2))
    | [], h => exact (show False from h).elim
    | .inl _ :: _, h => exact (show False from h).elim
    | .inr (.inr _) :: _, h => exact (show False from h).elim
    | [.inr (.inl _)], h => exact (show False from h).elim
    | .inr (.inl _) :: .inl _ :: _, h => exact (show False from h).elim
    | .inr (.inl _) :: .inr (.inr _) :: _, h => exact (show False from h).elim
  | 15, _, h =>
    refine f_hd (op := 15) ?_
    show xo_dup (fih ρ base F Tc cl tys D dA la) me cs a b l (feL lv, feS st, [], hp, n, 0, 0) k = true
    match st, h with
    | v :: st, h =>
      obtain ⟨h1, h⟩ := fyes_of (p := go cs lv (v :: v :: st) I) h
      show cond (Nat.blt (xis (fe v)) 2) _ false = true
      rw [fe_is, h1]
      exact hGo cs lv (v :: v :: st) I hp hh hB hs h
    | [], h => exact (show False from h).elim
  | 16, _, h =>
    refine f_hd (op := 16) ?_
    show xo_pop (fih ρ base F Tc cl tys D dA la) me cs a b l (feL lv, feS st, [], hp, n, 0, 0) k = true
    match st, h with
    | v :: st, h =>
      obtain ⟨h1, h⟩ := fyes_of (p := go cs lv st I) h
      show cond (Nat.blt (xis (fe v)) 2) _ false = true
      rw [fe_is, h1]
      exact hGo cs lv st I hp hh hB hs h
    | [], h => exact (show False from h).elim
  | 17, _, h => exact (show False from h).elim
  | 18, _, h => exact (show False from h).elim
  | 19, _, h =>
    refine f_hd (op := 19) ?_
    show xo_dup2 (fih ρ base F Tc cl tys D dA la) me cs a b l (feL lv, feS st, [], hp, n, 0, 0) k = true
    match st, h with
    | v :: w :: st, h =>
      obtain ⟨h1, h⟩ := fyes_of (p := go cs lv (v :: w :: v :: w :: st) I) h
      show cond (Bool.and (Nat.blt (xis (fe v)) 2) (Nat.blt (xis (fe w)) 2)) _ false = true
      rw [fe_is, fe_is, h1]
      exact hGo cs lv (v :: w :: v :: w :: st) I hp hh hB hs h
    | [], h => exact (show False from h).elim
    | [_], h => exact (show False from h).elim
  | 20, _, h =>
    refine f_hd (op := 20) ?_
    show xo_if (fih ρ base F Tc cl tys D dA la) me cs a b l (feL lv, feS st, [], hp, n, 0, 0) k = true
    match st, h with
    | .inl x :: st, h =>
      obtain ⟨hx, h1, h2⟩ := (show fin32 x ∧ (fcmp a x 0 → _) ∧ (¬ fcmp a x 0 → _) from ⟨h.1, fbr_of h.2⟩)
      refine h_if.trans ?_
      exact f_cmpk (y := 0) hx ⟨by decide, by decide⟩ (fun q => fjmp_of (h1 q) (fun cs' q1 q2 => hGo cs' lv st I hp hh hB q1 q2)) (fun q => hGo cs lv st I hp hh hB hs (h2 q))
    | [], h => exact (show False from h).elim
    | .inr _ :: _, h => exact (show False from h).elim
  | 21, _, h =>
    refine f_hd (op := 21) ?_
    show xo_icmp (fih ρ base F Tc cl tys D dA la) me cs a b l (feL lv, feS st, [], hp, n, 0, 0) k = true
    match st, h with
    | .inl y :: .inl x :: st, h =>
      obtain ⟨⟨hx, hy⟩, h1, h2⟩ := (show (fin32 x ∧ fin32 y) ∧ (fcmp a x y → _) ∧ (¬ fcmp a x y → _) from ⟨h.1, fbr_of h.2⟩)
      refine h_icmp.trans ?_
      exact f_cmpk hx hy (fun q => fjmp_of (h1 q) (fun cs' q1 q2 => hGo cs' lv st I hp hh hB q1 q2)) (fun q => hGo cs lv st I hp hh hB hs (h2 q))
    | [], h => exact (show False from h).elim
    | [.inl _], h => exact (show False from h).elim
    | .inr _ :: _, h => exact (show False from h).elim
    | .inl _ :: .inr _ :: _, h => exact (show False from h).elim
  | 22, _, h =>
    refine f_hd (op := 22) ?_
    show xo_goto (fih ρ base F Tc cl tys D dA la) me cs a b l (feL lv, feS st, [], hp, n, 0, 0) k = true
    exact fjmp_of h (fun cs' q1 q2 => hGo cs' lv st I hp hh hB q1 q2)
  | 23, _, h => exact (show False from h).elim
  | 24, _, h =>
    refine f_hd (op := 24) ?_
    show xo_table (fih ρ base F Tc cl tys D dA la) me cs a b l (feL lv, feS st, [], hp, n, 0, 0) k = true
    match st, h with
    | .inl z :: st, h =>
      obtain ⟨hz, h1, h2⟩ := h
      refine h_table.trans ?_
      rw [xfN_eq, xbc_eq, nI_ic]
      have hb := xb_int (iI z)
      rw [iI_int hz] at hb
      unfold xtab
      by_cases c1 : Nat.blt (xb (iI z)) a = true
      · rw [c1, cond_true]
        have c1 := xblt.mp c1
        exact fjmp_of (h2 (Or.inl (by omega))) (fun cs' q1 q2 => hGo cs' lv st I hp hh hB q1 q2)
      · rw [xnf c1, cond_false, xnthD_eq]
        have c1 : ¬ xb (iI z) < a := fun q => c1 (xblt.mpr q)
        show xjmp (xcd me) (l.getD (xb (iI z) - a) b) _ = true
        by_cases c2 : xb (iI z) - a < l.length
        · have e : l[xb (iI z) - a]? = some l[xb (iI z) - a] := List.getElem?_eq_getElem c2
          rw [List.getD_eq_getElem?_getD, e]
          exact f_table hGo hh hB hz h1 _ _ e (by omega)
        · rw [List.getD_eq_getElem?_getD, List.getElem?_eq_none (by omega)]
          exact fjmp_of (h2 (Or.inr (by omega))) (fun cs' q1 q2 => hGo cs' lv st I hp hh hB q1 q2)
    | [], h => exact (show False from h).elim
    | .inr _ :: _, h => exact (show False from h).elim
  | 25, _, h =>
    refine f_hd (op := 25) ?_
    show xo_getf (fih ρ base F Tc cl tys D dA la) me cs a b l (feL lv, feS st, [], hp, n, 0, 0) k = true
    match st, h with
    | .inr (.inr (some o)) :: st, h =>
      obtain ⟨q, hq, ⟨h1, h2, h3⟩, hz⟩ := fopt_of (K := fun (q : Nat × Nat) => (q.1 = a ∧ b < q.2 ∧ q.1 < 100) ∧ match g.2 o b with
        | some r => go cs lv (.inr (.inr (some r)) :: st) I
        | none => ∀ z, z = I o b → go cs lv (.inl z :: st) I) h
      obtain ⟨kk, len⟩ := q
      have h1 : kk = a := h1
      subst h1
      obtain ⟨rows, x1, x2⟩ := hh o kk len hq
      show xhget hp o (fun c => cond (Nat.beq c.1 kk) (xhget c.2.2 b _) false) = true
      rw [fxhget x1]
      show cond (Nat.beq kk kk) (xhget rows b _) false = true
      rw [Nat.beq_refl, cond_true, fxhget (x2 b h2)]
      split at hz
      · next r hr =>
        rw [fcl_ref hr]
        exact hGo cs lv (.inr (.inr (some r)) :: st) I hp hh hB hs hz
      · next hr =>
        have h3 : kk < 100 := h3
        rw [fcl_int hr (by omega)]
        exact hGo cs lv (.inl (I o b) :: st) I hp hh hB hs (hz (I o b) rfl)
    | [], h => exact (show False from h).elim
    | .inl _ :: _, h => exact (show False from h).elim
    | .inr (.inl _) :: _, h => exact (show False from h).elim
    | .inr (.inr none) :: _, h => exact (show False from h).elim
  | 26, _, h =>
    refine f_hd (op := 26) ?_
    show xo_putf (fih ρ base F Tc cl tys D dA la) me cs a b l (feL lv, feS st, [], hp, n, 0, 0) k = true
    match st, h with
    | .inl v :: .inr (.inr (some o)) :: st, h =>
      obtain ⟨q, hq, ⟨h1, h2, h3⟩, h4, h5, hz⟩ := fopt_of (K := fun (q : Nat × Nat) => (q.1 = a ∧ b < q.2 ∧ q.1 < 100) ∧ g.2 o b = none ∧ (xnthD l 9 0 = 0 ∨ (xnthD l 9 0 = 3 ∧ 0 ≤ v ∧ v ≤ 1)) ∧ ((bd o b).1 ≤ v ∧ v ≤ (bd o b).2) ∧ ∀ I', I' = fupd I o b v → fB bd I' → go cs lv st I') h
      obtain ⟨kk, len⟩ := q
      have h1 : kk = a := h1
      subst h1
      obtain ⟨h6, hz⟩ := hz
      obtain ⟨rows, x1, x2⟩ := hh o kk len hq
      have h3 : kk < 100 := h3
      obtain ⟨rows', y1, y2, y3⟩ := fxhset (c := fe (.inl v)) (x2 b h2)
      obtain ⟨hp', w1, w2, w3⟩ := fxhset (c := (kk, len, rows')) x1
      have hf : xfits (xnthD l 9 0) (fe (.inl v)) = true := by
        rcases h5 with h5 | ⟨h5, h7, h8⟩
        · rw [h5]; rfl
        · rw [h5]
          show Nat.blt (ic v) 2 = true
          rw [ic_small h7 (by omega), xblt]
          omega
      show cond (xfits (xnthD l 9 0) (fe (.inl v))) (xhget hp o (fun c => cond (Nat.beq c.1 kk) (xhset c.2.2 b (fe (.inl v)) (fun fs => xhset hp o (kk, c.2.1, fs) _)) false)) false = true
      rw [hf, cond_true, fxhget x1]
      show cond (Nat.beq kk kk) (xhset rows b (fe (.inl v)) (fun fs => xhset hp o (kk, len, fs) _)) false = true
      rw [Nat.beq_refl, cond_true, y1, w1]
      have hh' : fhr g (fupd I o b v) hp' := fhr_upd hh hq h4 x1 x2 w2 w3 (by rw [y2, fcl_int h4 (by omega)]; unfold fupd; rw [if_pos ⟨rfl, rfl⟩]) y3
      have hB' : fB bd (fupd I o b v) := fB_upd hB h6
      exact hGo cs lv st _ hp' hh' hB' hs (hz _ rfl hB')
    | [], h => exact (show False from h).elim
    | [.inl _], h => exact (show False from h).elim
    | .inr _ :: _, h => exact (show False from h).elim
    | .inl _ :: .inl _ :: _, h => exact (show False from h).elim
    | .inl _ :: .inr (.inl _) :: _, h => exact (show False from h).elim
    | .inl _ :: .inr (.inr none) :: _, h => exact (show False from h).elim
  | 27, _, h => exact (show False from h).elim
  | 28, _, h => exact (show False from h).elim
  | 29, _, h => exact (show False from h).elim
  | 30, _, h =>
    refine f_hd (op := 30) ?_
    show xo_alen (fih ρ base F Tc cl tys D dA la) me cs a b l (feL lv, feS st, [], hp, n, 0, 0) k = true
    match st, h with
    | .inr (.inr (some o)) :: st, h =>
      obtain ⟨kk, len, hq, ⟨h1, h2, h3⟩, h⟩ := h
      obtain ⟨rows, x1, x2⟩ := hh o kk len hq
      show xhget hp o (fun c => cond (Bool.and (Nat.ble 100 c.1) (Nat.blt c.1 b)) (xfN c.2.1 _) false) = true
      rw [fxhget x1]
      show cond (Bool.and (Nat.ble 100 kk) (Nat.blt kk b)) (xfN len _) false = true
      rw [Nat.ble_eq_true_of_le h1, xblt.mpr h2, show Bool.and true true = true from rfl, cond_true, xfN_eq]
      exact f_st (by rw [nI_ic, iI_nat]) (hGo cs lv (.inl (len : Int) :: st) I hp hh hB hs h)
    | [], h => exact (show False from h).elim
    | .inl _ :: _, h => exact (show False from h).elim
    | .inr (.inl _) :: _, h => exact (show False from h).elim
    | .inr (.inr none) :: _, h => exact (show False from h).elim
  | 33, _, h =>
    refine f_hd (op := 33) ?_
    show xo_call Ms (fih ρ base F Tc cl tys D dA la) me cs a b l (feL lv, feS st, [], hp, n, 0, 0) k = true
    obtain ⟨mc, hm, h⟩ := h
    obtain ⟨vs, rest, ⟨⟨h1, h2, h3, h4⟩, h5, h⟩, e⟩ := fpop_of h
    show xnth Ms (fun mc => xpop a (feS st) (feS []) _) b = true
    rw [fxnth hm, e, fcats_eq, fcats_eq, h1, h2]
    show xfN (Nat.add 0 (xR mc).cells) (fun uc => xfN (Nat.add 0 (xR mc).slots) (fun us => cond (Bool.and (Nat.ble uc (xR me).cells) (Nat.ble us (xR me).slots)) (cond (xrecv hp (feS vs) (xnthD l 0 0)) (xargs (feS vs) 0 (fun lv' => fih ρ base F Tc cl tys D dA la mc (xcd mc) (lv', [], [], hp, n, 0, 0) (xafter (fih ρ base F Tc cl tys D dA la) me cs (feL lv) (feS rest) uc us k))) false) false)) = true
    rw [xfN_eq, xfN_eq, h3, h4]
    show cond (xrecv hp (feS vs) (xnthD l 0 0)) (xargs (feS vs) 0 _) false = true
    have hr : xrecv hp (feS vs) (xnthD l 0 0) = true := by
      generalize xnthD l 0 0 = t at h5
      cases t with
      | zero => rfl
      | succ ci =>
        match vs, h5 with
        | .inr (.inr (some o)) :: vs, h5 =>
          obtain ⟨q, hq, hc⟩ := fopt_of h5
          obtain ⟨rows, x1, -⟩ := hh o q.1 q.2 hq
          show xhget hp o (fun c => Nat.beq c.1 ci) = true
          rw [fxhget x1]
          show Nat.beq q.1 ci = true
          rw [hc, Nat.beq_refl]
        | [], h5 => exact h5.elim
        | .inl _ :: _, h5 => exact h5.elim
        | .inr (.inl _) :: _, h5 => exact h5.elim
        | .inr (.inr none) :: _, h5 => exact h5.elim
    rw [hr, cond_true, fargs_eq]
    refine f_k (fun e' h' n' r' q => ?_) (hC mc vs I _ hB h hp hh)
    obtain ⟨q1, I', r, q2, q3, q4, q5⟩ := @of_decide_eq_true _ (Classical.propDecidable _) q
    subst q1
    cases r with
    | none =>
      cases q3
      exact f_env (hGo cs lv rest I' h' q2 q4 hs q5)
    | some v =>
      cases q3
      exact f_env (hGo cs lv (v :: rest) I' h' q2 q4 hs q5)
  | 34, _, h => exact (show False from h).elim
  | 35, _, h =>
    refine f_hd (op := 35) ?_
    show xo_iret (fih ρ base F Tc cl tys D dA la) me cs a b l (feL lv, feS st, [], hp, n, 0, 0) k = true
    match st, h with
    | [v], h =>
      obtain ⟨h1, h⟩ := h
      have hf : xfits a (fe v) = true := by
        match v, a, h1 with
        | .inl _, 0, _ => rfl
        | .inl z, 3, h1 =>
          have h1 : 0 ≤ z ∧ z ≤ 1 := h1
          show Nat.blt (ic z) 2 = true
          rw [ic_small h1.1 (by omega), xblt]
          omega
        | .inr (.inl _), 2, _ => rfl
      show cond (xfits a (fe v)) (k [] hp n (some (fe v))) false = true
      rw [hf]
      exact hk I (some v) hp hh hB h
    | [], h => exact (show False from h).elim
    | _ :: _ :: _, h => exact (show False from h).elim
  | 36, _, h =>
    refine f_hd (op := 36) ?_
    show xo_ret (fih ρ base F Tc cl tys D dA la) me cs a b l (feL lv, feS st, [], hp, n, 0, 0) k = true
    match st, h with
    | [], h => exact hk I none hp hh hB h
    | _ :: _, h => exact (show False from h).elim
  | 37, _, h =>
    refine f_hd (op := 37) ?_
    show xo_mm (fih ρ base F Tc cl tys D dA la) me cs a b l (feL lv, feS st, [], hp, n, 0, 0) k = true
    match st, h with
    | .inl y :: .inl x :: st, h =>
      obtain ⟨⟨hx, hy, hl⟩, h⟩ := h
      refine h_mm.trans ?_
      rw [show List.map fe st = feS st from rfl, fcats_eq, hl, cond_true, xfN_eq]
      have e : ∀ (u v : Int), fin32 u → fin32 v → (Nat.blt (xbc (ic u)) (xbc (ic v)) = true ↔ u < v) := fun u v hu hv => by
        rw [xblt, xbc_eq, xbc_eq, nI_ic, nI_ic, ← xb_lt]
        exact iI_lt hu hv
      unfold xmm
      split at h
      · rw [show Nat.beq 0 0 = true from rfl, cond_true]
        by_cases c1 : y < x
        · rw [(e y x hy hx).mpr c1]
          exact hGo cs lv (.inl y :: st) I hp hh hB hs (h y (Or.inr ⟨rfl, by omega⟩))
        · rw [xnf (fun q => c1 ((e y x hy hx).mp q))]
          exact hGo cs lv (.inl x :: st) I hp hh hB hs (h x (Or.inl ⟨rfl, by omega⟩))
      · next hna =>
        rw [show Nat.beq a 0 = false from xnf (fun q => hna (Nat.eq_of_beq_eq_true q)), cond_false]
        by_cases c1 : x < y
        · rw [(e x y hx hy).mpr c1]
          exact hGo cs lv (.inl y :: st) I hp hh hB hs (h y (Or.inr ⟨rfl, by omega⟩))
        · rw [xnf (fun q => c1 ((e x y hx hy).mp q))]
          exact hGo cs lv (.inl x :: st) I hp hh hB hs (h x (Or.inl ⟨rfl, by omega⟩))
    | [], h => exact (show False from h).elim
    | [.inl _], h => exact (show False from h).elim
    | .inr _ :: _, h => exact (show False from h).elim
    | .inl _ :: .inr _ :: _, h => exact (show False from h).elim
  | 31, _, h =>
    refine f_hd (op := 31) ?_
    show xo_ald (fih ρ base F Tc cl tys D dA la) me cs a b l (feL lv, feS st, [], hp, n, 0, 0) k = true
    match st, h with
    | .inl i :: .inr (.inr (some o)) :: st, h =>
      refine h_ald.trans ?_
      have key : ∀ (kk len : Nat) (v : fV), kk = a → g.1 o = some (kk, len) → 0 ≤ i → i < (len : Int) → len ≤ 2147483648 → fcl g kk I o i.toNat = v → go cs lv (v :: st) I → cond (Nat.blt (ic i) 2147483648) (xhget hp o (fun c => cond (Nat.beq c.1 a) (xhget c.2.2 (ic i) (fun v => fih ρ base F Tc cl tys D dA la me cs (feL lv, v :: feS st, [], hp, n, 0, 0) k)) false)) false = true := by
        intro kk len v e1 hq i0 i1 hl e2 hg
        obtain ⟨rows, x1, x2⟩ := hh o kk len hq
        rw [ic_idx i0 (by omega), xblt.mpr (by omega), cond_true, fxhget x1]
        show cond (Nat.beq kk a) (xhget rows i.toNat (fun v => fih ρ base F Tc cl tys D dA la me cs (feL lv, v :: feS st, [], hp, n, 0, 0) k)) false = true
        rw [e1, Nat.beq_refl, cond_true, fxhget (x2 i.toNat (by omega)), e2]
        exact hGo cs lv (v :: st) I hp hh hB hs hg
      rcases fald_of h with ⟨ha, hz⟩ | ⟨ha, hz⟩ | hz
      · obtain ⟨r0, hr0, hz⟩ := fopt_of hz
        obtain ⟨q, hq, ⟨h1, h2⟩, ⟨h3, h4⟩, hz⟩ := fopt_of hz
        obtain ⟨kk, len⟩ := q
        have h1 : kk = 102 := h1
        have hq2 : g.1 o = some (102, len) := by rw [← h1]; exact hq
        exact key 102 len _ ha.symm hq2 h3 h4 h2 (fcl_ref (hR.1 o r0 len hr0 hq2 i.toNat (by have : i < (len : Int) := h4; omega))) hz
      · obtain ⟨⟨i0, ⟨len, hq, hj⟩, h2⟩, hz⟩ := hz
        have h4 := hR.2 o 101 len hq
        exact key 101 len _ ha.symm hq i0 (by omega) (by omega) (fcl_long h2) (hz _ rfl)
      · obtain ⟨ha, hz⟩ := fyes_of hz
        have ha := Nat.eq_of_beq_eq_true ha
        obtain ⟨⟨i0, ⟨len, hq, hj⟩, h2⟩, hz⟩ := hz
        have h4 := hR.2 o 100 len hq
        exact key 100 len _ ha.symm hq i0 (by omega) (by omega) (fcl_int h2 (by decide)) (hz _ rfl)
    | [], h => exact (show False from h).elim
    | [.inl _], h => exact (show False from h).elim
    | .inr _ :: _, h => exact (show False from h).elim
    | .inl _ :: .inl _ :: _, h => exact (show False from h).elim
    | .inl _ :: .inr (.inl _) :: _, h => exact (show False from h).elim
    | .inl _ :: .inr (.inr none) :: _, h => exact (show False from h).elim
  | 32, _, h =>
    refine f_hd (op := 32) ?_
    show xo_ast (fih ρ base F Tc cl tys D dA la) me cs a b l (feL lv, feS st, [], hp, n, 0, 0) k = true
    have key : ∀ (kk len : Nat) (v : fV) (z i : Int) (o : Nat) (st : List fV), kk = a → g.1 o = some (kk, len) → 0 ≤ i → i < (len : Int) → len ≤ 2147483648 → g.2 o i.toNat = none → xfits b (fe v) = true → fcl g kk (fupd I o i.toNat z) o i.toNat = v → fB bd (fupd I o i.toNat z) → go cs lv st (fupd I o i.toNat z) → xo_ast (fih ρ base F Tc cl tys D dA la) me cs a b l (feL lv, feS (v :: .inl i :: .inr (.inr (some o)) :: st), [], hp, n, 0, 0) k = true := by
      intro kk len v z i o st e1 hq i0 i1 hl hr hf e2 hB' hg
      subst e1
      obtain ⟨rows, x1, x2⟩ := hh o kk len hq
      obtain ⟨rows', y1, y2, y3⟩ := fxhset (c := fe v) (x2 i.toNat (by omega))
      obtain ⟨hp', w1, w2, w3⟩ := fxhset (c := (kk, len, rows')) x1
      refine h_ast.trans ?_
      rw [hf, cond_true, ic_idx i0 (by omega), xblt.mpr (by omega), cond_true, fxhget x1]
      show cond (Nat.beq kk kk) (xhset rows i.toNat (fe v) (fun fs => xhset hp o (kk, len, fs) (fun h => fih ρ base F Tc cl tys D dA la me cs (feL lv, feS st, [], h, n, 0, 0) k))) false = true
      rw [Nat.beq_refl, cond_true, y1, w1]
      exact hGo cs lv st _ hp' (fhr_upd hh hq hr x1 x2 w2 w3 (by rw [y2, e2]) y3) hB' hs hg
    match st, h with
    | .inl v :: .inl i :: .inr (.inr (some o)) :: st, h =>
      obtain ⟨ha, h⟩ := fyes_of (p := fyes (Nat.beq b 0) (fsh g 100 o i ∧ ((bd o i.toNat).1 ≤ v ∧ v ≤ (bd o i.toNat).2) ∧ ∀ I', I' = fupd I o i.toNat v → fB bd I' → go cs lv st I')) h
      obtain ⟨hb0, h⟩ := fyes_of h
      have ha := Nat.eq_of_beq_eq_true ha
      have hb0 := Nat.eq_of_beq_eq_true hb0
      obtain ⟨⟨i0, ⟨len, hq, hj⟩, h2⟩, h5, h⟩ := h
      have h4 := hR.2 o 100 len hq
      have hB' : fB bd (fupd I o i.toNat v) := fB_upd hB h5
      exact key 100 len (.inl v) v i o st ha.symm hq i0 (by omega) (by omega) h2 (by rw [hb0]; rfl) (by rw [fcl_int h2 (by decide)]; unfold fupd; rw [if_pos ⟨rfl, rfl⟩]) hB' (h _ rfl hB')
    | .inr (.inl v) :: .inl i :: .inr (.inr (some o)) :: st, h =>
      obtain ⟨ha, h⟩ := fyes_of (p := fyes (Nat.beq b 2) (fsh g 101 o i ∧ ((bd o i.toNat).1 ≤ v ∧ v ≤ (bd o i.toNat).2) ∧ ∀ I', I' = fupd I o i.toNat v → fB bd I' → go cs lv st I')) h
      obtain ⟨hb0, h⟩ := fyes_of h
      have ha := Nat.eq_of_beq_eq_true ha
      have hb0 := Nat.eq_of_beq_eq_true hb0
      obtain ⟨⟨i0, ⟨len, hq, hj⟩, h2⟩, h5, h⟩ := h
      have h4 := hR.2 o 101 len hq
      have hB' : fB bd (fupd I o i.toNat v) := fB_upd hB h5
      exact key 101 len (.inr (.inl v)) v i o st ha.symm hq i0 (by omega) (by omega) h2 (by rw [hb0]; rfl) (by rw [fcl_long h2]; unfold fupd; rw [if_pos ⟨rfl, rfl⟩]) hB' (h _ rfl hB')
    | [], h => exact (show False from h).elim
    | [.inl _], h => exact (show False from h).elim
    | [.inr (.inl _)], h => exact (show False from h).elim
    | .inr (.inr _) :: _, h => exact (show False from h).elim
    | .inl _ :: .inr _ :: _, h => exact (show False from h).elim
    | [.inl _, .inl _], h => exact (show False from h).elim
    | .inl _ :: .inl _ :: .inl _ :: _, h => exact (show False from h).elim
    | .inl _ :: .inl _ :: .inr (.inl _) :: _, h => exact (show False from h).elim
    | .inl _ :: .inl _ :: .inr (.inr none) :: _, h => exact (show False from h).elim
    | .inr (.inl _) :: .inr _ :: _, h => exact (show False from h).elim
    | [.inr (.inl _), .inl _], h => exact (show False from h).elim
    | .inr (.inl _) :: .inl _ :: .inl _ :: _, h => exact (show False from h).elim
    | .inr (.inl _) :: .inl _ :: .inr (.inl _) :: _, h => exact (show False from h).elim
    | .inr (.inl _) :: .inl _ :: .inr (.inr none) :: _, h => exact (show False from h).elim
  | 38, _, h => exact (show False from h).elim
  | m + 39, hop, h =>
    exfalso
    unfold fstep at h
    split at h <;> first | omega | exact h
end FS

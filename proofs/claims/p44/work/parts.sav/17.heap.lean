set_option linter.all false
/-! rows of the instructions: fields, new, arrays, answers -/
section XF
variable {ρ : Nat → Int32} {base : Nat} {F : Nat → Prop} {Ts Ns : List Jvm.Cond} {cl : List vw_C} {tys : List FieldType} {D : va_G} {dA : Nat → ClassId} {la : Launch} {okc : xM → List xI → Bool} {Ms : List xM} {ih : xIh} {me : xM} {cs : List xI} {a b : Nat} {l : List Nat} {A : xA} {k : xK} {pc : Nat}
theorem xP1 {q : Nat × va_E} {H : Heap} (h : va_at D cl q H) : va_P D cl [q] H := by
  intro i x hx
  have hz : i < 1 := (List.getElem?_eq_some_iff.mp hx).1
  rw [show i = 0 by omega] at hx
  cases hx
  exact h
theorem xobj {o : Nat} {c : xC} {H : Heap} (h : xCR ρ base D dA tys cl o c H) (hc : c.1 < 100) : ∃ fs : List Value, xFR ρ base c.2.1 c.2.2 fs ∧ va_at D cl (base + o, .inr (c.1, fs)) H := by
  obtain ⟨fs, h1, h2⟩ := h
  rcases h2 with ⟨-, h3⟩ | ⟨h3, -⟩
  · exact ⟨fs, h1, h3⟩
  · exact absurd hc (by omega)
theorem xarr {o : Nat} {c : xC} {H : Heap} (h : xCR ρ base D dA tys cl o c H) (hc : 100 ≤ c.1) : ∃ fs : List Value, xFR ρ base c.2.1 c.2.2 fs ∧ H[base + o]? = some (arrV (dA (c.1 - 100)) fs.length (vp_V fs)) ∧ ∃ ty, tys[c.1 - 100]? = some ty ∧ ∀ v ∈ fs, fits ty v = true := by
  obtain ⟨fs, h1, h2⟩ := h
  rcases h2 with ⟨h3, -⟩ | ⟨-, h3⟩
  · exact absurd hc (by omega)
  · exact ⟨fs, h1, h3⟩
theorem xl_getf0 (IH : xIH ρ base F Ts Ns cl tys D dA la okc Ms ih) (hme : me ∈ Ms) (hok : okc me cs = true) (hn : xatp (pc + 3) cs) (ha : a < 100) (h : xo_getf ih me cs a b l A k = true)
    {p : Program} {e : Env} {s : State} {m : MethodId} {args : Array Value} {below : List Frame} {meth : Method} {c : Code} (C : xCx Ts Ns cl tys D dA p s m args meth c me) {H : Heap} {locs : List Loc} {ls : Array Slot} {stc : List Value} (hI : xIn ρ base F D dA tys cl me A H ls stc) (hL : va_S F s.heap H locs) :
    ∃ (o : Nat) (rest fs : List Value) (v : Value), stc = .ref o :: rest ∧ va_P D cl [(o, .inr (a, fs))] H ∧ fs[b]? = some v ∧ W p la e (xR me) s m args below meth c H locs A.2.2.2.2.2.1 A.2.2.2.2.2.2 (MQ below (xQ ρ base F D dA tys cl k) args s (xR me).cells (xR me).slots F) (F0 m (pc + 3) ls (v :: rest)) := by
  match A, h, hI with
  | (lv, .inr (.inr (.inl (some o))) :: st, env, hp, r), h, hI =>
    unfold xo_getf at h
    obtain ⟨vo, stc, rfl, ho, hst⟩ := xSR_cons hI.2.2.1
    cases ho
    obtain ⟨c0, hc, h⟩ := xhget_of h
    obtain ⟨hk, h⟩ := xcond h
    have hk := Nat.eq_of_beq_eq_true hk
    obtain ⟨x, hx, h⟩ := xhget_of h
    obtain ⟨fs, hfs, hat⟩ := xobj (hI.2.2.2.1.2 o c0 hc) (by rw [hk]; exact ha)
    obtain ⟨v, hv, hg⟩ := hfs.2 b x hx
    rw [hk] at hat
    exact ⟨base + o, stc, fs, v, rfl, xP1 hat, hv, IH me cs _ k (pc + 3) hme h hok hn p e s m args below meth c C H locs ls _ ⟨hI.1, hI.2.1, ⟨hg, hst⟩, hI.2.2.2⟩ hL⟩
  | (lv, [], r), h, hI => exact absurd h (by simp [xo_getf])
  | (lv, .inl _ :: _, r), h, hI => exact absurd h (by simp [xo_getf])
  | (lv, .inr (.inl _) :: _, r), h, hI => exact absurd h (by simp [xo_getf])
  | (lv, .inr (.inr (.inl none)) :: _, r), h, hI => exact absurd h (by simp [xo_getf])
  | (lv, .inr (.inr (.inr _)) :: _, r), h, hI => exact absurd h (by simp [xo_getf])
theorem xl_getf {idx : Nat} {C : String} {T : u_T} {N : Nat} (IH : xIH ρ base F Ts Ns cl tys D dA la okc Ms ih) (hme : me ∈ Ms) (hok : okc me cs = true) (hn : xatp (pc + 3) cs) (hd : decode me.2.1 pc = .ok (.getfield idx, 3)) (ha : a < 100) (hcl : cl[a]? = some (C, T, N)) (hb : b < N) (hu : ∀ w ∈ u_ws C T N, w ∈ Ts) (hlk : Jvm.Cond.fieldLink me.1.cls idx (T b).1 (T b).2.1 (T b).2.2.1 ∈ Ts) (h : xo_getf ih me cs a b l A k = true) : xGd ρ base F Ts Ns cl tys D dA la me pc A k := by
  intro p e s m args below meth c X H locs ls stc hI hL
  obtain ⟨o, rest, fs, v, rfl, hP, hv, g⟩ := xl_getf0 IH hme hok hn ha h X hI hL
  obtain ⟨hx, hbc, _, _, _, _, hown, hts, _, hK, _⟩ := X
  exact va_get (D := D) (ci := a) (v := v) (C := C) (T := T) (N := N) hx hbc hts (fun w hw => List.mem_cons_of_mem _ (hu w hw)) hown hK hP 0 rfl hcl b hb (hts _ (List.mem_cons_of_mem _ hlk)) (fun _ h9 => h9) hv hd g
theorem xl_getfN {idx : Nat} {C host : String} {T : u_T} {N : Nat} (IH : xIH ρ base F Ts Ns cl tys D dA la okc Ms ih) (hme : me ∈ Ms) (hok : okc me cs = true) (hn : xatp (pc + 3) cs) (hd : decode me.2.1 pc = .ok (.getfield idx, 3)) (ha : a < 100) (hcl : cl[a]? = some (C, T, N)) (hb : b < N) (hu : ∀ w ∈ u_ws C T N, w ∈ Ts) (hlk : Jvm.Cond.fieldLinkNest me.1.cls idx (T b).1 (T b).2.1 (T b).2.2.1 host ∈ Ns) (h : xo_getf ih me cs a b l A k = true) : xGd ρ base F Ts Ns cl tys D dA la me pc A k := by
  intro p e s m args below meth c X H locs ls stc hI hL
  obtain ⟨o, rest, fs, v, rfl, hP, hv, g⟩ := xl_getf0 IH hme hok hn ha h X hI hL
  obtain ⟨hx, hbc, _, _, _, _, hown, hts, hns, hK, _⟩ := X
  exact va_getN (D := D) (ci := a) (v := v) (C := C) (T := T) (N := N) hx hbc hts (fun w hw => List.mem_cons_of_mem _ (hu w hw)) hown hK hP 0 rfl hcl b hb (va_Nw.use rfl (hns _ hlk)) (fun _ h9 => h9) hv hd g
/-- kinds of types -/
def xkt : FieldType → Nat
  | .int => 0
  | .long => 2
  | .boolean => 3
  | .object _ => 1
  | .array _ => 1
  | _ => 9
theorem xfits_of {ty : FieldType} {x : xV} {v : Value} (h : xfits (xkt ty) x = true) (hg : xg ρ base x v) : narrow ty v = v ∧ fits ty v = true := by
  cases ty <;> (
    match x, h, hg with
    | .inl u, h, hg => first | (cases hg; exact ⟨rfl, rfl⟩) | (
        have hu : u < 2 := xblt.mp h
        cases hg
        rcases (show u = 0 ∨ u = 1 by omega) with rfl | rfl <;> exact ⟨rfl, rfl⟩) | (exact absurd h (by simp [xfits, xkt]))
    | .inr (.inl none), h, hg => first | (obtain ⟨z, rfl⟩ := hg; exact ⟨rfl, rfl⟩) | (exact absurd h (by simp [xfits, xkt]))
    | .inr (.inl (some _)), h, hg => first | (cases hg; exact ⟨rfl, rfl⟩) | (exact absurd h (by simp [xfits, xkt]))
    | .inr (.inr (.inl none)), h, hg => first | (cases hg; exact ⟨rfl, rfl⟩) | (exact absurd h (by simp [xfits, xkt]))
    | .inr (.inr (.inl (some _))), h, hg => first | (cases hg; exact ⟨rfl, rfl⟩) | (exact absurd h (by simp [xfits, xkt]))
    | .inr (.inr (.inr (.inl _))), h, hg => first | (cases hg; exact ⟨rfl, rfl⟩) | (exact absurd h (by simp [xfits, xkt]))
    | .inr (.inr (.inr (.inr none))), h, hg => first | (obtain ⟨z, rfl⟩ := hg; exact ⟨rfl, rfl⟩) | (exact absurd h (by simp [xfits, xkt]))
    | .inr (.inr (.inr (.inr (some _)))), h, hg => first | (cases hg; exact ⟨rfl, rfl⟩) | (exact absurd h (by simp [xfits, xkt])))
/-- what the tables say of a class -/
def xTb (Ts : List Jvm.Cond) (C : String) (T : u_T) (N : Nat) : Prop := (∀ w ∈ u_ws C T N, w ∈ Ts) ∧ (∃ ty : Nat → FieldType, ∀ k, k < N → parseFieldDescriptor (T k).2.2.1 = some (ty k)) ∧ (∀ a, a < N → ∀ b, b < N → a ≠ b → (T a).2.1 ≠ (T b).2.1)
theorem xl_putf {idx : Nat} {C : String} {T : u_T} {N : Nat} {ty : FieldType} (IH : xIH ρ base F Ts Ns cl tys D dA la okc Ms ih) (hme : me ∈ Ms) (hok : okc me cs = true) (hn : xatp (pc + 3) cs) (hd : decode me.2.1 pc = .ok (.putfield idx, 3)) (ha : a < 100) (hcl : cl[a]? = some (C, T, N)) (hb : b < N) (hT : xTb Ts C T N)
    (hlk : (Jvm.Cond.fieldLink me.1.cls idx (T b).1 (T b).2.1 (T b).2.2.1 ∈ Ts ∧ ((T b).2.2.2 = false ∨ ((T b).2.2.2 = true ∧ me.1.name = "<init>" ∧ (T b).1 = me.1.cls))) ∨ ((T b).2.2.2 = false ∧ ∃ host, Jvm.Cond.fieldLinkNest me.1.cls idx (T b).1 (T b).2.1 (T b).2.2.1 host ∈ Ns)) (hty : parseFieldDescriptor (T b).2.2.1 = some ty) (hl : l.getD 0 9 = xkt ty) (h : xo_putf ih me cs a b l A k = true) : xGd ρ base F Ts Ns cl tys D dA la me pc A k := by
  intro p e s m args below meth c X H locs ls stc hI hL
  match A, h, hI with
  | (lv, x :: .inr (.inr (.inl (some o))) :: st, env, hp, n, uc, us), h, hI =>
    unfold xo_putf at h
    obtain ⟨vx, stc, rfl, hgx, hst0⟩ := xSR_cons hI.2.2.1
    obtain ⟨vo, stc, rfl, ho, hst⟩ := xSR_cons hst0
    cases ho
    obtain ⟨hf, h⟩ := xcond h
    rw [xnthD_eq, hl] at hf
    obtain ⟨hnr, hft⟩ := xfits_of hf hgx
    obtain ⟨c0, hc, h⟩ := xhget_of h
    obtain ⟨hk, h⟩ := xcond h
    have hk := Nat.eq_of_beq_eq_true hk
    obtain ⟨rw', h, r0, r1, r2⟩ := xhset_of h
    obtain ⟨hp', h, -, e1', e2'⟩ := xhset_of h
    obtain ⟨fs, hfs, hat⟩ := xobj (hI.2.2.2.1.2 o c0 hc) (by rw [hk]; exact ha)
    rw [hk] at hat
    obtain ⟨hlf, hfs'⟩ := xFR_set hfs r0 r1 r2 hgx
    have X0 := X
    obtain ⟨hx, hbc, _, _, _, hnm, hown, hts, hns, hK, _⟩ := X
    obtain ⟨hu, ⟨ty0, hty0⟩, hnd⟩ := hT
    have hin : ∀ w ∈ u_ws C T N, w ∈ xWs Ts me := fun w hw => List.mem_cons_of_mem _ (hu w hw)
    have hap := va_apart (own := me.1.cls) hts hin ty0 hty0 hnd hK hcl
    obtain ⟨r, h1, cell, q1, q2, q3, q4⟩ := hat
    have hr : r = (C, T, N) := Option.some.inj (h1.symm.trans hcl)
    subst hr
    obtain ⟨hS, hfc, kC, hkC, hkind⟩ := hK.1 a _ hcl
    obtain ⟨cf, kf, fi, f, hi, hsl⟩ := hS b hb
    have hlay := u_lays hts hin hb
    have hstt := (u_facts hfc hkC hlay hi).1
    have h6 := u_fits hfc hkC hkind hlay hi hty hnr hft
    have fin : ∀ H' : Heap, H'[base + o]? = some (cell.setSlot f.slot vx) → H'.size = H.size → (∀ q, q ≠ base + o → H'[q]? = H[q]?) → W p la e (xR me) s m args below meth c H' (locs ++ [⟨base + o, f.slot⟩]) uc us (MQ below (xQ ρ base F D dA tys cl k) args s (xR me).cells (xR me).slots F) (F0 m (pc + 3) ls stc) := by
      intro H' e1 e2 e3
      rw [hsl] at e1 ⊢
      refine IH me cs (lv, st, env, hp', n, uc, us) k (pc + 3) hme h hok hn p e s m args below meth c X0 H' _ ls stc ⟨hI.1, hI.2.1, hst, hI.2.2.2.1.put (c := (a, c0.2.1, rw')) (hI.2.2.2.1.1.2.1 o c0 hc) e2 e3 ⟨fs.set b vx, hfs', Or.inl ⟨ha, ⟨_, hcl, t_OB.to (V := updV (vp_V fs) b vx) ⟨_, e1, q2, q3, t_set q4 hap hb vx⟩ (fun j _ => vp_updV_set hlf vx j)⟩⟩⟩ e1' e2', hI.2.2.2.2⟩ (xSput hL (hI.2.2.2.1.1.2.1 o c0 hc) e2 e3 (fun l hl => by rw [List.mem_singleton.mp hl]))
    rcases hlk with ⟨hlk, hfn⟩ | ⟨hfn, host, hlk⟩
    · rcases hfn with hfn | ⟨hfn, hini, hdc⟩
      · have hlay2 := hts _ (hin _ (u_in_lay hb))
        unfold u_lay at hlay2
        rw [if_neg (by rw [hfn]; decide)] at hlay2
        have h7 := u_store hfc hkC hkind hlay2 hi hty hnr hft
        exact W.putK hx hbc (f := f) ⟨hown, hts _ (List.mem_cons_of_mem _ hlk), ⟨_, _, _, hi⟩, hstt⟩ (by rw [q2]; exact h7) q1 q3 (by rw [hsl]; exact k2_hasslot (q4 b hb)) rfl rfl hd fin
      · have hlay2 := hts _ (hin _ (u_in_lay hb))
        unfold u_lay at hlay2
        rw [if_pos hfn] at hlay2
        have hcf : m.cls = cf := by
          obtain ⟨_, _, c', _, _, _, -, -, hf', -, -, -, hown2, -⟩ := Cond.laysFinal_spec hlay2
          have e1 : c' = cf := by have := hi.symm.trans hf'; simp at this; exact this.1.symm
          rw [hdc] at hown2
          rw [← e1]; exact Option.some.inj (hown.symm.trans hown2)
        exact W.putFinK hx hbc hown (hts _ (List.mem_cons_of_mem _ hlk)) hi hstt hcf (by rw [hnm]; exact hini) (by rw [q2]; exact h6) q1 q3 (by rw [hsl]; exact k2_hasslot (q4 b hb)) rfl rfl hd fin
    · have hlay2 := hts _ (hin _ (u_in_lay hb))
      unfold u_lay at hlay2
      rw [if_neg (by rw [hfn]; decide)] at hlay2
      have h7 := u_store hfc hkC hkind hlay2 hi hty hnr hft
      exact va_WputK hx hbc (f := f) hown (va_Nw.use rfl (hns _ hlk)) hi hstt (by rw [q2]; exact h7) q1 q3 (by rw [hsl]; exact k2_hasslot (q4 b hb)) rfl rfl hd fin
  | (lv, [], r), h, hI => exact absurd h (by simp [xo_putf])
  | (lv, [_], r), h, hI => exact absurd h (by simp [xo_putf])
  | (lv, _ :: .inl _ :: _, r), h, hI => exact absurd h (by simp [xo_putf])
  | (lv, _ :: .inr (.inl _) :: _, r), h, hI => exact absurd h (by simp [xo_putf])
  | (lv, _ :: .inr (.inr (.inl none)) :: _, r), h, hI => exact absurd h (by simp [xo_putf])
  | (lv, _ :: .inr (.inr (.inr _)) :: _, r), h, hI => exact absurd h (by simp [xo_putf])
def xdefV : Nat → Value
  | 1 => .null
  | 2 => .long 0
  | _ => .int 0
theorem xdef_of : ∀ t : Nat, xg ρ base (xdef t) (xdefV t)
  | 0 => rfl
  | 1 => rfl
  | 2 => rfl
  | _ + 3 => rfl
theorem xdefs_of : ∀ l : List Nat, xSR ρ base (l.map xdef) (l.map xdefV)
  | [] => trivial
  | t :: l => ⟨xdef_of t, xdefs_of l⟩
theorem xdefT {ty : FieldType} (h : xkt ty ≠ 9) : defaultValue ty = xdefV (xkt ty) := by
  cases ty <;> first | rfl | exact absurd rfl h
theorem xdfit {ty : FieldType} (h : xkt ty ≠ 9) : fits ty (defaultValue ty) = true := by
  cases ty <;> first | rfl | exact absurd rfl h
theorem xl_new {idx : Nat} {C : String} {T : u_T} {N : Nat} (ty : Nat → FieldType) (IH : xIH ρ base F Ts Ns cl tys D dA la okc Ms ih) (hme : me ∈ Ms) (hok : okc me cs = true) (hn : xatp (pc + 3) cs) (hd : decode me.2.1 pc = .ok (.new idx, 3)) (ha : a < 100) (hcl : cl[a]? = some (C, T, N)) (hu : ∀ w ∈ u_ws C T N, w ∈ Ts) (hty : ∀ k, k < N → parseFieldDescriptor (T k).2.2.1 = some (ty k)) (hln : l.length = N) (hN : N ≤ 64) (hl : ∀ k, k < N → l[k]? = some (xkt (ty k)) ∧ xkt (ty k) ≠ 9)
    (h1 : Jvm.Cond.classLink me.1.cls idx C ∈ Ts) (h2 : Jvm.Cond.instantiable C N ∈ Ts) (h3 : Jvm.Cond.initialized C ∈ Ts) (h : xo_new ih me cs a b l A k = true) : xGd ρ base F Ts Ns cl tys D dA la me pc A k := by
  obtain ⟨lv, st, env, hp, n, uc, us⟩ := A
  unfold xo_new at h
  have h := xfN_of h
  have h := xfN_of h
  obtain ⟨hr, h⟩ := xcond h
  have hr1 := Nat.le_of_ble_eq_true (xand hr).1
  have hr2 := Nat.le_of_ble_eq_true (xand hr).2
  obtain ⟨hp', h, e1', e2'⟩ := xhpush_of h
  have h := xfN_of h
  rw [xlen_eq] at hr2 h
  intro p e s m args below meth c X H locs ls stc hI hL
  have X' := X
  obtain ⟨hx, hbc, -, -, -, -, hown, hts, -, hK, -⟩ := X'
  have hKn := hK.1 a _ hcl
  have hw : ∀ w ∈ Ts, w.before args s = true := fun w q => hts w (List.mem_cons_of_mem _ q)
  have hsz := hI.2.2.2.1.1.1
  refine W.newcK hx hbc hown (hw _ h1) (hw _ h2) (hw _ h3) rfl hd hr1 (by rw [← hln]; exact hr2) hKn.2.1 rfl fun H1 kC hkC e1 z1 o1 => ?_
  have hfs : ∀ j, j < N → defaultValue (ty j) = vp_V (l.map xdefV) j := by
    intro j hj
    rw [xdefT (hl j hj).2]
    simp [vp_V, (hl j hj).1]
  have hob := (u_born ty hts (fun w q => List.mem_cons_of_mem _ (hu w q)) hKn hkC e1 hty).to hfs
  rw [hsz] at hob e1
  have g := IH me cs (lv, xRef n :: st, env, hp', n + 1, uc + 1, us + l.length) k (pc + 3) hme h hok hn p e s m args below meth c X H1 locs ls (.ref (base + n) :: stc) ⟨hI.1, hI.2.1, ⟨rfl, hI.2.2.1⟩, hI.2.2.2.1.push (c := (a, xlen l, [l.map xdef])) z1 o1 ⟨l.map xdefV, by rw [xlen_eq, show l.length = (l.map xdef).length by simp]; exact xFR_one (xdefs_of l) (by simp; omega), Or.inl ⟨ha, ⟨_, hcl, hob⟩⟩⟩ e1' e2', hr1, hr2⟩ (xSpush hL (by rw [z1]; omega) o1)
  rw [hln] at g
  rw [hsz]
  exact g
/-! arrays -/
theorem xarr_set {cA : ClassId} {fs : List Value} {i : Nat} {v : Value} (hi : i < fs.length) : (arrV cA fs.length (vp_V fs)).setSlot i v = arrV cA (fs.set i v).length (vp_V (fs.set i v)) := by
  rw [arrV_store, List.length_set]
  congr 1
  funext j
  exact vp_updV_set hi v j
theorem xclamp {u : Nat} (h : u < 2147483648) : (nI u).toNatClampNeg = u := nI_clamp h
theorem xneg {u : Nat} (h : u < 2147483648) : ¬ nI u < 0 := nI_pos h
theorem xrepV (n : Nat) (v : Value) (cA : ClassId) : ({ cls := cA, slots := Array.replicate n v, vm := .none } : Cell) = arrV cA (List.replicate n v).length (vp_V (List.replicate n v)) := by
  rw [arrV_new, List.length_replicate]
  unfold arrV
  congr 1
  apply Array.ext
  · simp
  · intro i h1 h2
    have hi : i < n := by simpa using h1
    simp [vp_V, hi]
theorem xl_newa {atype : ArrayType} (IH : xIH ρ base F Ts Ns cl tys D dA la okc Ms ih) (hme : me ∈ Ms) (hok : okc me cs = true) (hn : xatp (pc + 2) cs) (hd : decode me.2.1 pc = .ok (.newarray atype, 2)) (ha : 100 ≤ a) (hty : tys[a - 100]? = some (Jvm.Op.newarray.typeOf atype)) (hb : b = xkt (Jvm.Op.newarray.typeOf atype)) (hb9 : b ≠ 9) (hbytes : componentBytes (Jvm.Op.newarray.typeOf atype) ≤ 8)
    (h1 : Jvm.Cond.arrayClass (Jvm.Op.newarray.typeOf atype) ∈ Ts) (h : xo_newa ih me cs a b l A k = true) : xGd ρ base F Ts Ns cl tys D dA la me pc A k := by
  match A, h with
  | (lv, .inl u :: st, env, hp, n, uc, us), h =>
    unfold xo_newa at h
    have h := xfN_of h
    have h := xfN_of h
    obtain ⟨hr, h⟩ := xcond h
    have hu := xblt.mp (xand hr).1
    have hr1 := Nat.le_of_ble_eq_true (xand (xand hr).2).1
    have hr2 := Nat.le_of_ble_eq_true (xand (xand hr).2).2
    obtain ⟨fs0, h, hfs0⟩ := xrows_of h
    obtain ⟨hp', h, e1', e2'⟩ := xhpush_of h
    have h := xfN_of h
    intro p e s m args below meth c X H locs ls stc hI hL
    obtain ⟨vu, stc, rfl, hvu, hst⟩ := xSR_cons hI.2.2.1
    cases hvu
    have X' := X
    obtain ⟨hx, hbc, -, -, -, -, hown, hts, -, hK, hKA⟩ := X'
    have hsz := hI.2.2.2.1.1.1
    have hcl := xclamp (show u < 2147483648 by omega)
    have hA := hKA.1 _ _ hty
    refine W.newa hx hbc (hts _ (List.mem_cons_of_mem _ h1)) rfl hd rfl (xneg (by omega)) (by rw [hcl]; calc u * componentBytes _ ≤ u * 8 := Nat.mul_le_mul_left _ hbytes
      _ ≤ 536870912 := by omega) hr1 (by rw [hcl]; exact hr2) fun cA kA comp f1 f2 f3 => ?_
    have hcA : cA = dA (a - 100) := Option.some.inj (f1.symm.trans hA.2)
    rw [hcl, hcA]
    have hdv : defaultValue (Jvm.Op.newarray.typeOf atype) = xdefV b := by rw [hb]; exact xdefT (by rw [← hb]; exact hb9)
    rw [hdv, xrepV]
    generalize hH1 : H.push (arrV (dA (a - 100)) (List.replicate u (xdefV b)).length (vp_V (List.replicate u (xdefV b)))) = H1
    have z1 : H1.size = H.size + 1 := by rw [← hH1, Array.size_push]
    have e1 : H1[H.size]? = some (arrV (dA (a - 100)) (List.replicate u (xdefV b)).length (vp_V (List.replicate u (xdefV b)))) := by rw [← hH1, Array.getElem?_push_size]
    have o1 : ∀ q : Nat, q < H.size → H1[q]? = H[q]? := fun q hq => by rw [← hH1, Array.getElem?_push, if_neg (Nat.ne_of_lt hq)]
    rw [hsz] at e1
    have g := IH me cs (lv, xRef n :: st, env, hp', n + 1, uc + 1, us + u) k (pc + 2) hme h hok hn p e s m args below meth c X H1 locs ls (.ref (base + n) :: stc) ⟨hI.1, hI.2.1, ⟨rfl, hst⟩, hI.2.2.2.1.push (c := (a, u, fs0)) z1 o1 ⟨_, xFR_rep hfs0 (xdef_of b), Or.inr ⟨ha, e1, _, hty, fun v hv => by rw [List.eq_of_mem_replicate hv, ← hdv]; exact xdfit (by rw [← hb]; exact hb9)⟩⟩ e1' e2', hr1, hr2⟩ (xSpush hL (by rw [z1]; omega) o1)
    rw [hsz]
    exact g
  | (lv, [], r), h => exact absurd h (by simp [xo_newa])
  | (lv, .inr _ :: _, r), h => exact absurd h (by simp [xo_newa])
theorem xl_alen (IH : xIH ρ base F Ts Ns cl tys D dA la okc Ms ih) (hme : me ∈ Ms) (hok : okc me cs = true) (hn : xatp (pc + 1) cs) (hd : decode me.2.1 pc = .ok (.arraylength, 1)) (hb : b = 100 + tys.length) (h : xo_alen ih me cs a b l A k = true) : xGd ρ base F Ts Ns cl tys D dA la me pc A k := by
  match A, h with
  | (lv, .inr (.inr (.inl (some o))) :: st, env, hp, r), h =>
    unfold xo_alen at h
    obtain ⟨c0, hc, h⟩ := xhget_of h
    obtain ⟨hk, h⟩ := xcond h
    have hk2 := xblt.mp (xand hk).2
    have hk := Nat.le_of_ble_eq_true (xand hk).1
    have h := xfN_of h
    intro p e s m args below meth c X H locs ls stc hI hL
    obtain ⟨vo, stc, rfl, ho, hst⟩ := xSR_cons hI.2.2.1
    cases ho
    obtain ⟨fs, hfs, hat, -⟩ := xarr (hI.2.2.2.1.2 o c0 hc) hk
    obtain ⟨ty, hty⟩ : ∃ ty, tys[c0.1 - 100]? = some ty := ⟨_, List.getElem?_eq_getElem (by omega)⟩
    have hA := X.2.2.2.2.2.2.2.2.2.2.1 _ _ hty
    refine W.alen X.1 X.2.1 hat (hA.1 _ _) (n := nI c0.2.1) (by rw [arrV_size, hfs.1]; rfl) rfl rfl hd ?_
    exact IH me cs _ k (pc + 1) hme h hok hn p e s m args below meth c X H locs ls _ ⟨hI.1, hI.2.1, ⟨rfl, hst⟩, hI.2.2.2⟩ hL
  | (lv, [], r), h => exact absurd h (by simp [xo_alen])
  | (lv, .inl _ :: _, r), h => exact absurd h (by simp [xo_alen])
  | (lv, .inr (.inl _) :: _, r), h => exact absurd h (by simp [xo_alen])
  | (lv, .inr (.inr (.inl none)) :: _, r), h => exact absurd h (by simp [xo_alen])
  | (lv, .inr (.inr (.inr _)) :: _, r), h => exact absurd h (by simp [xo_alen])
end XF

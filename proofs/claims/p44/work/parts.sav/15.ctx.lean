set_option linter.all false
/-! the machine's side: what holds within a method, and what a state of the abstract machine that is explored to its ends gives -/
def xNw : Jvm.Cond → Bool
  | .fieldLinkNest .. => true
  | .methodLinkNest .. => true
  | _ => false
theorem xNw_warm {w : Jvm.Cond} (h : xNw w = true) {s U : State} (hW : s.WarmedH U.vm) (hz : va_Nw w s) : va_Nw w U := by
  cases w <;> first | exact va_Nw.warmF hW hz | exact va_Nw.warmM hW hz | exact absurd h (by simp [xNw])
theorem xNw_on {w : Jvm.Cond} (h : xNw w = true) : w.onTables = true := by
  cases w <;> first | rfl | exact absurd h (by simp [xNw])
abbrev xR (me : xM) : Room := me.2.2.2.2.2
abbrev xcd (me : xM) : List xI := me.2.2.2.2.1
def xWs (Ts : List Jvm.Cond) (me : xM) : List Jvm.Cond := Jvm.Cond.code me.1 me.2.1 me.2.2.1 me.2.2.2.1 :: Ts
def xCx (Ts Ns : List Jvm.Cond) (cl : List vw_C) (tys : List FieldType) (D : va_G) (dA : Nat → ClassId) (p : Program) (s : State) (m : MethodId) (args : Array Value) (meth : Method) (c : Code) (me : xM) : Prop :=
  p.tables.exec = Jvm.exec ∧ c.code = me.2.1 ∧ c.maxLocals = me.2.2.1 ∧ meth.sig.returnType = me.2.2.2.1 ∧ meth.locks = false ∧ meth.name = me.1.name ∧ s.vm.findClass me.1.cls = some m.cls ∧ (∀ w ∈ xWs Ts me, w.before args s = true) ∧ (∀ w ∈ Ns, va_Nw w s) ∧ va_K D cl [] s ∧ xKA dA tys s
def xIn (ρ : Nat → Int32) (base : Nat) (F : Nat → Prop) (D : va_G) (dA : Nat → ClassId) (tys : List FieldType) (cl : List vw_C) (me : xM) (A : xA) (H : Heap) (ls : Array Slot) (stc : List Value) : Prop :=
  xρ ρ A.2.2.1 ∧ (∃ lvc, lv_has ls me.2.2.1 lvc ∧ xLR ρ base A.1 lvc) ∧ xSR ρ base A.2.1 stc ∧ xHR ρ base F D dA tys cl A.2.2.2.1 A.2.2.2.2.1 H ∧ A.2.2.2.2.2.1 ≤ (xR me).cells ∧ A.2.2.2.2.2.2 ≤ (xR me).slots
def xQ (ρ : Nat → Int32) (base : Nat) (F : Nat → Prop) (D : va_G) (dA : Nat → ClassId) (tys : List FieldType) (cl : List vw_C) (k : xK) : Array Value → State → Outcome → State → Prop := fun _ st o t => va_F F st t ∧
  ∃ (env : xE) (h : xH) (n : Nat) (r : Option xV), k env h n r = true ∧ xρ ρ env ∧ xHR ρ base F D dA tys cl h n t.heap ∧ ((r = none ∧ o = .returned none) ∨ ∃ (x : xV) (v : Value), r = some x ∧ xg ρ base x v ∧ o = .returned (some v))
def xGd (ρ : Nat → Int32) (base : Nat) (F : Nat → Prop) (Ts Ns : List Jvm.Cond) (cl : List vw_C) (tys : List FieldType) (D : va_G) (dA : Nat → ClassId) (la : Launch) (me : xM) (pc : Nat) (A : xA) (k : xK) : Prop :=
  ∀ (p : Program) (e : Env) (s : State) (m : MethodId) (args : Array Value) (below : List Frame) (meth : Method) (c : Code), xCx Ts Ns cl tys D dA p s m args meth c me → ∀ (H : Heap) (locs : List Loc) (ls : Array Slot) (stc : List Value), xIn ρ base F D dA tys cl me A H ls stc → va_S F s.heap H locs →
    W p la e (xR me) s m args below meth c H locs A.2.2.2.2.2.1 A.2.2.2.2.2.2 (MQ below (xQ ρ base F D dA tys cl k) args s (xR me).cells (xR me).slots F) (F0 m pc ls stc)
def xatp (pc : Nat) (cs : List xI) : Prop := ∀ i r, cs = i :: r → i.1 = pc
/-- a word of the tables by its place -/
def xw (Ts : List Jvm.Cond) (i : Nat) (w : Jvm.Cond) : Bool := decide (Ts[i]? = some w)
theorem xw_of {Ts : List Jvm.Cond} {i : Nat} {w : Jvm.Cond} (h : xw Ts i w = true) : w ∈ Ts := List.mem_of_getElem? (of_decide_eq_true h)
section XL
variable {ρ : Nat → Int32} {base : Nat} {F : Nat → Prop} {Ts Ns : List Jvm.Cond} {cl : List vw_C} {tys : List FieldType} {D : va_G} {dA : Nat → ClassId} {la : Launch} {okc : xM → List xI → Bool} {Ms : List xM} {ih : xIh} {me : xM} {cs : List xI} {a b : Nat} {l : List Nat} {A : xA} {k : xK} {pc : Nat}
/-- what the exploration by 'ih' gives -/
def xIH (ρ : Nat → Int32) (base : Nat) (F : Nat → Prop) (Ts Ns : List Jvm.Cond) (cl : List vw_C) (tys : List FieldType) (D : va_G) (dA : Nat → ClassId) (la : Launch) (okc : xM → List xI → Bool) (Ms : List xM) (ih : xIh) : Prop :=
  ∀ (me : xM) (cs : List xI) (A : xA) (k : xK) (pc : Nat), me ∈ Ms → ih me cs A k = true → okc me cs = true → xatp pc cs → xGd ρ base F Ts Ns cl tys D dA la me pc A k
theorem xl_iconst {i : Int} (IH : xIH ρ base F Ts Ns cl tys D dA la okc Ms ih) (hme : me ∈ Ms) (hok : okc me cs = true) (hn : xatp (pc + 1) cs) (hd : decode me.2.1 pc = .ok (.iconst i, 1)) (hv : Int32.ofInt i = nI a) (h : xo_iconst ih me cs a b l A k = true) : xGd ρ base F Ts Ns cl tys D dA la me pc A k := by
  obtain ⟨lv, st, r⟩ := A
  intro p e s m args below meth c C H locs ls stc hI hL
  have g := IH me cs (lv, .inl a :: st, r) k (pc + 1) hme h hok hn p e s m args below meth c C H locs ls (.int (nI a) :: stc) ⟨hI.1, hI.2.1, ⟨rfl, hI.2.2.1⟩, hI.2.2.2⟩ hL
  exact lv_iconst C.1 C.2.1 hd hv g
theorem xl_bipush {i : Int} (IH : xIH ρ base F Ts Ns cl tys D dA la okc Ms ih) (hme : me ∈ Ms) (hok : okc me cs = true) (hn : xatp (pc + 2) cs) (hd : decode me.2.1 pc = .ok (.bipush i, 2)) (hv : (Int8.ofInt i).toInt32 = nI a) (h : xo_iconst ih me cs a b l A k = true) : xGd ρ base F Ts Ns cl tys D dA la me pc A k := by
  obtain ⟨lv, st, r⟩ := A
  intro p e s m args below meth c C H locs ls stc hI hL
  have g := IH me cs (lv, .inl a :: st, r) k (pc + 2) hme h hok hn p e s m args below meth c C H locs ls (.int (nI a) :: stc) ⟨hI.1, hI.2.1, ⟨rfl, hI.2.2.1⟩, hI.2.2.2⟩ hL
  exact lv_bipush C.1 C.2.1 hd hv g
theorem xl_sipush {i : Int} (IH : xIH ρ base F Ts Ns cl tys D dA la okc Ms ih) (hme : me ∈ Ms) (hok : okc me cs = true) (hn : xatp (pc + 3) cs) (hd : decode me.2.1 pc = .ok (.sipush i, 3)) (hv : (Int16.ofInt i).toInt32 = nI a) (h : xo_iconst ih me cs a b l A k = true) : xGd ρ base F Ts Ns cl tys D dA la me pc A k := by
  obtain ⟨lv, st, r⟩ := A
  intro p e s m args below meth c C H locs ls stc hI hL
  have g := IH me cs (lv, .inl a :: st, r) k (pc + 3) hme h hok hn p e s m args below meth c C H locs ls (.int (nI a) :: stc) ⟨hI.1, hI.2.1, ⟨rfl, hI.2.2.1⟩, hI.2.2.2⟩ hL
  exact lv_sipush C.1 C.2.1 hd hv g
theorem xl_ldc {i : Nat} (IH : xIH ρ base F Ts Ns cl tys D dA la okc Ms ih) (hme : me ∈ Ms) (hok : okc me cs = true) (hn : xatp (pc + 2) cs) (hd : decode me.2.1 pc = .ok (.ldc i, 2)) (hv : Jvm.Cond.constant me.1.cls i (nI a) ∈ Ts) (h : xo_iconst ih me cs a b l A k = true) : xGd ρ base F Ts Ns cl tys D dA la me pc A k := by
  obtain ⟨lv, st, r⟩ := A
  intro p e s m args below meth c C H locs ls stc hI hL
  have g := IH me cs (lv, .inl a :: st, r) k (pc + 2) hme h hok hn p e s m args below meth c C H locs ls (.int (nI a) :: stc) ⟨hI.1, hI.2.1, ⟨rfl, hI.2.2.1⟩, hI.2.2.2⟩ hL
  obtain ⟨hx, hb, -, -, -, -, hown, hts, -⟩ := C
  exact lv_ldc hx hb hown (hts _ (List.mem_cons_of_mem _ hv)) hd g
theorem xl_ldcw {i : Nat} (IH : xIH ρ base F Ts Ns cl tys D dA la okc Ms ih) (hme : me ∈ Ms) (hok : okc me cs = true) (hn : xatp (pc + 3) cs) (hd : decode me.2.1 pc = .ok (.ldc_w i, 3)) (hv : Jvm.Cond.constant me.1.cls i (nI a) ∈ Ts) (h : xo_iconst ih me cs a b l A k = true) : xGd ρ base F Ts Ns cl tys D dA la me pc A k := by
  obtain ⟨lv, st, r⟩ := A
  intro p e s m args below meth c C H locs ls stc hI hL
  have g := IH me cs (lv, .inl a :: st, r) k (pc + 3) hme h hok hn p e s m args below meth c C H locs ls (.int (nI a) :: stc) ⟨hI.1, hI.2.1, ⟨rfl, hI.2.2.1⟩, hI.2.2.2⟩ hL
  obtain ⟨hx, hb, _, _, _, _, hown, hts, _⟩ := C
  intro T hT S
  obtain ⟨t, a1, b1⟩ := g T hT S
  exact ⟨t, va_ldcwI S hx hown (hts _ (List.mem_cons_of_mem _ hv)) (g := F0 m pc ls stc) rfl (by rw [hb]; exact hd) t a1, b1⟩
theorem xl_lconst {i : Fin 2} (IH : xIH ρ base F Ts Ns cl tys D dA la okc Ms ih) (hme : me ∈ Ms) (hok : okc me cs = true) (hn : xatp (pc + 1) cs) (hd : decode me.2.1 pc = .ok (.lconst i, 1)) (hv : Int64.ofNat (i : Nat) = lN a) (h : xo_lconst ih me cs a b l A k = true) : xGd ρ base F Ts Ns cl tys D dA la me pc A k := by
  obtain ⟨lv, st, r⟩ := A
  intro p e s m args below meth c C H locs ls stc hI hL
  have g := IH me cs (lv, xLc a :: st, r) k (pc + 1) hme h hok hn p e s m args below meth c C H locs ls (.long (lN a) :: stc) ⟨hI.1, hI.2.1, ⟨rfl, hI.2.2.1⟩, hI.2.2.2⟩ hL
  exact lv_lconst C.1 C.2.1 hd hv g
theorem xl_ldc2 {i : Nat} (IH : xIH ρ base F Ts Ns cl tys D dA la okc Ms ih) (hme : me ∈ Ms) (hok : okc me cs = true) (hn : xatp (pc + 3) cs) (hd : decode me.2.1 pc = .ok (.ldc2_w i, 3)) (hv : Jvm.Cond.constantLong me.1.cls i (lN a) ∈ Ts) (h : xo_lconst ih me cs a b l A k = true) : xGd ρ base F Ts Ns cl tys D dA la me pc A k := by
  obtain ⟨lv, st, r⟩ := A
  intro p e s m args below meth c C H locs ls stc hI hL
  have g := IH me cs (lv, xLc a :: st, r) k (pc + 3) hme h hok hn p e s m args below meth c C H locs ls (.long (lN a) :: stc) ⟨hI.1, hI.2.1, ⟨rfl, hI.2.2.1⟩, hI.2.2.2⟩ hL
  obtain ⟨hx, hb, -, -, -, -, hown, hts, -⟩ := C
  exact lv_ldc2 hx hb hown (hts _ (List.mem_cons_of_mem _ hv)) hd g
theorem xl_null (IH : xIH ρ base F Ts Ns cl tys D dA la okc Ms ih) (hme : me ∈ Ms) (hok : okc me cs = true) (hn : xatp (pc + 1) cs) (hd : decode me.2.1 pc = .ok (.aconst_null, 1)) (h : xo_null ih me cs a b l A k = true) : xGd ρ base F Ts Ns cl tys D dA la me pc A k := by
  obtain ⟨lv, st, r⟩ := A
  intro p e s m args below meth c C H locs ls stc hI hL
  have g := IH me cs (lv, .inr (.inr (.inl none)) :: st, r) k (pc + 1) hme h hok hn p e s m args below meth c C H locs ls (.null :: stc) ⟨hI.1, hI.2.1, ⟨rfl, hI.2.2.1⟩, hI.2.2.2⟩ hL
  exact lv_null C.1 C.2.1 hd g
/-- a load: the local's value, its kind, and the goal behind it -/
theorem xl_load0 {len : Nat} (IH : xIH ρ base F Ts Ns cl tys D dA la okc Ms ih) (hme : me ∈ Ms) (hok : okc me cs = true) (hn : xatp (pc + len) cs) (h : xo_load ih me cs a b l A k = true)
    {p : Program} {e : Env} {s : State} {m : MethodId} {args : Array Value} {below : List Frame} {meth : Method} {c : Code} (C : xCx Ts Ns cl tys D dA p s m args meth c me) {H : Heap} {locs : List Loc} {ls : Array Slot} {stc : List Value} (hI : xIn ρ base F D dA tys cl me A H ls stc) (hL : va_S F s.heap H locs) :
    ∃ (x : xV) (v : Value), xis x = b ∧ xg ρ base x v ∧ ls[a]? = some (.val v) ∧ W p la e (xR me) s m args below meth c H locs A.2.2.2.2.2.1 A.2.2.2.2.2.2 (MQ below (xQ ρ base F D dA tys cl k) args s (xR me).cells (xR me).slots F) (F0 m (pc + len) ls (v :: stc)) := by
  obtain ⟨lv, st, r⟩ := A
  unfold xo_load at h
  obtain ⟨j, x, hx, h⟩ := xfind_of h
  obtain ⟨hb, h⟩ := xcond h
  obtain ⟨lvc, hl, hlr⟩ := hI.2.1
  obtain ⟨v, hv, hg⟩ := xLR_get hlr hx
  exact ⟨x, v, Nat.eq_of_beq_eq_true hb, hg, lv_at hl j hv, IH me cs (lv, x :: st, r) k (pc + len) hme h hok hn p e s m args below meth c C H locs ls (v :: stc) ⟨hI.1, hI.2.1, ⟨hg, hI.2.2.1⟩, hI.2.2.2⟩ hL⟩
theorem xl_iload {i : Nat} (IH : xIH ρ base F Ts Ns cl tys D dA la okc Ms ih) (hme : me ∈ Ms) (hok : okc me cs = true) (hn : xatp (pc + 2) cs) (hd : decode me.2.1 pc = .ok (.iload i, 2)) (hi : i = a) (hb : b = 0) (h : xo_load ih me cs a b l A k = true) : xGd ρ base F Ts Ns cl tys D dA la me pc A k := by
  subst hi; subst hb
  intro p e s m args below meth c C H locs ls stc hI hL
  obtain ⟨x, v, h1, h2, h3, g⟩ := xl_load0 IH hme hok hn h C hI hL
  obtain ⟨z, rfl⟩ := xg_int h2 h1
  exact lv_iload C.1 C.2.1 hd h3 g
theorem xl_iload_n {i : Fin 4} (IH : xIH ρ base F Ts Ns cl tys D dA la okc Ms ih) (hme : me ∈ Ms) (hok : okc me cs = true) (hn : xatp (pc + 1) cs) (hd : decode me.2.1 pc = .ok (.iload_n i, 1)) (hi : (i : Nat) = a) (hb : b = 0) (h : xo_load ih me cs a b l A k = true) : xGd ρ base F Ts Ns cl tys D dA la me pc A k := by
  subst hb
  intro p e s m args below meth c C H locs ls stc hI hL
  obtain ⟨x, v, h1, h2, h3, g⟩ := xl_load0 IH hme hok hn h C hI hL
  obtain ⟨z, rfl⟩ := xg_int h2 h1
  exact lv_iload_n C.1 C.2.1 hd hi h3 g
theorem xl_lload {i : Nat} (IH : xIH ρ base F Ts Ns cl tys D dA la okc Ms ih) (hme : me ∈ Ms) (hok : okc me cs = true) (hn : xatp (pc + 2) cs) (hd : decode me.2.1 pc = .ok (.lload i, 2)) (hi : i = a) (hb : b = 2) (h : xo_load ih me cs a b l A k = true) : xGd ρ base F Ts Ns cl tys D dA la me pc A k := by
  subst hi; subst hb
  intro p e s m args below meth c C H locs ls stc hI hL
  obtain ⟨x, v, h1, h2, h3, g⟩ := xl_load0 IH hme hok hn h C hI hL
  obtain ⟨z, rfl⟩ := xg_long h2 h1
  exact lv_lload C.1 C.2.1 hd h3 g
theorem xl_lload_n {i : Fin 4} (IH : xIH ρ base F Ts Ns cl tys D dA la okc Ms ih) (hme : me ∈ Ms) (hok : okc me cs = true) (hn : xatp (pc + 1) cs) (hd : decode me.2.1 pc = .ok (.lload_n i, 1)) (hi : (i : Nat) = a) (hb : b = 2) (h : xo_load ih me cs a b l A k = true) : xGd ρ base F Ts Ns cl tys D dA la me pc A k := by
  subst hb
  intro p e s m args below meth c C H locs ls stc hI hL
  obtain ⟨x, v, h1, h2, h3, g⟩ := xl_load0 IH hme hok hn h C hI hL
  obtain ⟨z, rfl⟩ := xg_long h2 h1
  exact lv_lload_n C.1 C.2.1 hd hi h3 g
theorem xl_aload {i : Nat} (IH : xIH ρ base F Ts Ns cl tys D dA la okc Ms ih) (hme : me ∈ Ms) (hok : okc me cs = true) (hn : xatp (pc + 2) cs) (hd : decode me.2.1 pc = .ok (.aload i, 2)) (hi : i = a) (hb : b = 1) (h : xo_load ih me cs a b l A k = true) : xGd ρ base F Ts Ns cl tys D dA la me pc A k := by
  subst hi; subst hb
  intro p e s m args below meth c C H locs ls stc hI hL
  obtain ⟨x, v, h1, h2, h3, g⟩ := xl_load0 IH hme hok hn h C hI hL
  rcases xg_ref h2 h1 with rfl | ⟨z, rfl⟩
  · exact lv_aloadN C.1 C.2.1 hd h3 g
  · exact lv_aload C.1 C.2.1 hd h3 g
theorem xl_aload_n {i : Fin 4} (IH : xIH ρ base F Ts Ns cl tys D dA la okc Ms ih) (hme : me ∈ Ms) (hok : okc me cs = true) (hn : xatp (pc + 1) cs) (hd : decode me.2.1 pc = .ok (.aload_n i, 1)) (hi : (i : Nat) = a) (hb : b = 1) (h : xo_load ih me cs a b l A k = true) : xGd ρ base F Ts Ns cl tys D dA la me pc A k := by
  subst hb
  intro p e s m args below meth c C H locs ls stc hI hL
  obtain ⟨x, v, h1, h2, h3, g⟩ := xl_load0 IH hme hok hn h C hI hL
  rcases xg_ref h2 h1 with rfl | ⟨z, rfl⟩
  · exact lv_aload_nN C.1 C.2.1 hd hi h3 g
  · exact lv_aload_n C.1 C.2.1 hd hi h3 g
end XL

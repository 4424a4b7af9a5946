set_option linter.all false
/-! calls -/
section XM
variable {ρ : Nat → Int32} {base : Nat} {F : Nat → Prop} {Ts Ns : List Jvm.Cond} {cl : List vw_C} {tys : List FieldType} {D : va_G} {dA : Nat → ClassId} {la : Launch} {okc : xM → List xI → Bool} {Ms : List xM} {ih : xIh} {me : xM} {cs : List xI} {a b : Nat} {l : List Nat} {A : xA} {k : xK} {pc : Nat}
theorem xpop_of : ∀ {n : Nat} {st acc : List xV} {k : List xV → List xV → Bool}, xpop n st acc k = true → ∃ top rest, st = top ++ rest ∧ top.length = n ∧ k (top.reverse ++ acc) rest = true := by
  intro n
  induction n with
  | zero => intro st acc k h; exact ⟨[], st, rfl, rfl, h⟩
  | succ n ih =>
    intro st acc k h
    cases st with
    | nil => exact absurd h (by change ¬ (false = true); decide)
    | cons v st =>
      obtain ⟨top, rest, h1, h2, h3⟩ := ih (st := st) (acc := v :: acc) (k := k) h
      refine ⟨v :: top, rest, by rw [h1]; rfl, by simp [h2], ?_⟩
      simpa using h3
theorem xargs_of : ∀ {vs : List xV} {vc : List Value} {i : Nat} {K : xL → Bool}, xSR ρ base vs vc → xargs vs i K = true → ∃ lv, K lv = true ∧ xLR ρ base lv (lv_args i vc) := by
  intro vs
  induction vs with
  | nil => intro vc i K hv h; rw [xSR_nil hv]; exact ⟨[], h, trivial⟩
  | cons v vs ih =>
    intro vc i K hv h
    obtain ⟨w, r, rfl, h1, h2⟩ := xSR_cons hv
    have h := xfN_of (n := cond (Nat.beq (xis v) 2) (Nat.succ (Nat.succ i)) (Nat.succ i)) (k := fun j => xargs vs j (fun l => K ((i, v) :: l))) h
    obtain ⟨lv, h3, h4⟩ := ih h2 h
    refine ⟨(i, v) :: lv, h3, ⟨rfl, h1⟩, ?_⟩
    have e : (cond (Nat.beq (xis v) 2) (Nat.succ (Nat.succ i)) (Nat.succ i)) = (if w.category = 2 then i + 2 else i + 1) := by
      rw [xcat2 h1]
      by_cases c : w.category = 2
      · simp [c]
      · have c' : (w.category == 2) = false := by simpa using c
        rw [c', if_neg c]
        rfl
    rw [e] at h4
    exact h4
theorem xcats_of : ∀ {vs : List xV} {vc : List Value}, xSR ρ base vs vc → xcats vs = (vc.map fun v => v.category).sum ∧ xcats vs = (lg_sl vc).length := by
  intro vs
  induction vs with
  | nil => intro vc hv; rw [xSR_nil hv]; exact ⟨rfl, rfl⟩
  | cons v vs ih =>
    intro vc hv
    obtain ⟨w, r, rfl, h1, h2⟩ := xSR_cons hv
    obtain ⟨e1, e2⟩ := ih h2
    have e : (cond (Nat.beq (xis v) 2) 2 1) = w.category := by
      rw [xcat2 h1]
      rcases lv_cat w with c | c
      · simp [c]
      · simp [c]
    have e0 : xcats (v :: vs) = w.category + xcats vs := by show Nat.add (cond (Nat.beq (xis v) 2) 2 1) (xcats vs) = _; rw [e]; rfl
    refine ⟨by rw [e0, e1]; simp, ?_⟩
    rw [e0, e2]
    unfold lg_sl
    rw [List.flatMap_cons, List.length_append]
    rcases lv_cat w with c | c
    · simp [c]
    · simp [c]
def xPc (ρ : Nat → Int32) (base : Nat) (F : Nat → Prop) (Ns : List Jvm.Cond) (cl : List vw_C) (tys : List FieldType) (D : va_G) (dA : Nat → ClassId) (vc : List Value) (h : xH) (n : Nat) : Array Value → State → Prop := fun v U => v = vc.toArray ∧ xHR ρ base F D dA tys cl h n U.heap ∧ (∀ w ∈ Ns, va_Nw w U) ∧ va_K D cl [] U ∧ xKA dA tys U
theorem xPc_blind (hN : ∀ w ∈ Ns, xNw w = true) {vc : List Value} {h : xH} {n : Nat} : FrameBlind (xPc ρ base F Ns cl tys D dA vc h n) := fun a U g mk q => ⟨q.1, q.2.1, fun w hw => va_Nw.same (u := U) (U := U.calling g mk a) (xNw_on (hN w hw)) rfl (q.2.2.1 w hw), va_K.moved (u := U) (U := U.calling g mk a) (Vm.Alike.refl U.vm) q.2.2.2.1, xKA.same (u := U) (U := U.calling g mk a) rfl rfl q.2.2.2.2⟩
/-- a method by its walk, where no entry of the table of natives runs in its place -/
theorem xofW {la : Launch} {y : MethodName} {ws ws' : List Jvm.Cond} {rm : Room} {P0 : Array Value → State → Prop} {Q0 : Array Value → State → Outcome → State → Prop} {mc ms : Nat} {fr : Addr → Prop} {cc : ByteArray} {maxL : Nat} {ret : Option FieldType} (hy : plainFor y = true) (hw : ws = Jvm.Cond.code y cc maxL ret :: ws')
    (hb : ∀ p e s m args below meth c s₁, BodyLoose p la y (headSpec ws rm) cc maxL ret e s m args below meth c s₁ → c.maxLocals = maxL → P0 args s → W p la e (headSpec ws rm).room s m args below meth c s.heap [] 0 0 (MQ below Q0 args s mc ms fr) (entryFrame m args maxL)) : Met la y ws rm P0 Q0 mc ms fr := by
  refine MetFree.of_bodySF (code := cc) (maxLocals := maxL) (ret := ret) hy (fun args s m h hn => ?_) (fun p e s m args below meth c s₁ B hml hP _ => ?_)
  · obtain ⟨meth, c, h1, h2, h3, h4, h5, h6, -⟩ := Cond.code_spec hn (atoms_spec (ws := ws) h _ (by rw [hw]; exact List.mem_cons_self))
    exact ⟨meth, c, h1, h2, h3, h4, h5, h6⟩
  · obtain ⟨t, g, o, h1, h2, h3⟩ := hb p e s m args below meth c s₁ B hml hP s₁ (by rw [B.state]; rfl) (Stand.of_body B)
    exact ⟨t, o, g, h1, h2, h3.1, h3.2⟩
/-- A METHOD THAT IS EXPLORED FROM ITS ENTRY MEETS ITS CONTRACT -/
theorem xMet (IH : xIH ρ base F Ts Ns cl tys D dA la okc Ms ih) (hme : me ∈ Ms) (hok : okc me (xcd me) = true) (hat : xatp 0 (xcd me)) (hpl : plainFor me.1 = true) {vs : List xV} {vc : List Value} {env : xE} {h : xH} {n : Nat} (hv : xSR ρ base vs vc) (hr : xρ ρ env) (hlen : (lg_sl vc).length ≤ me.2.2.1) (hh : xargs vs 0 (fun lv => ih me (xcd me) (lv, [], env, h, n, 0, 0) k) = true) :
    Met la me.1 (xWs Ts me) (xR me) (xPc ρ base F Ns cl tys D dA vc h n) (xQ ρ base F D dA tys cl k) (xR me).cells (xR me).slots F := by
  obtain ⟨lv, hh, hlv⟩ := xargs_of hv hh
  refine xofW (cc := me.2.1) (maxL := me.2.2.1) (ret := me.2.2.2.1) hpl rfl ?_
  intro p e s m args below meth c s₁ B hml hP
  obtain ⟨rfl, hH, hN, hK, hKA⟩ := hP
  have X : xCx Ts Ns cl tys D dA p s m vc.toArray meth c me := ⟨B.exec, B.bytes, hml, B.returns, B.notSynchronized, (name_of_methodNamed B.named B.method).1, findClass_of_methodNamed B.named, atoms_spec (ws := xWs Ts me) B.pre, hN, hK, hKA⟩
  have hl := lv_entry vc (n := me.2.2.1) hlen
  rw [lg_entry_eq]
  exact IH me (xcd me) (lv, [], env, h, n, 0, 0) k 0 hme hh hok hat p e s m vc.toArray below meth c X s.heap [] _ [] ⟨hr, ⟨_, hl, hlv⟩, trivial, hH, Nat.zero_le _, Nat.zero_le _⟩ va_S.rf
/-- behind a call -/
theorem xl_after (IH : xIH ρ base F Ts Ns cl tys D dA la okc Ms ih) (hme : me ∈ Ms) (hok : okc me cs = true) (hn : xatp (pc + 3) cs) {lv : xL} {st : List xV} {uc us uc' us' : Nat} {p : Program} {e : Env} {s : State} {m : MethodId} {args : Array Value} {below : List Frame} {meth : Method} {c : Code} (X : xCx Ts Ns cl tys D dA p s m args meth c me) {H : Heap} {locs : List Loc} {ls : Array Slot} {st0 rest : List Value} {av : Array Value} {mc ms : Nat}
    (hr : va_Run p la e (xR me) s m args below meth c H locs uc us mc ms (F0 m pc ls st0) rest (xQ ρ base F D dA tys cl (xafter ih me cs lv st uc' us' k) av) F) (hc : uc + mc = uc') (hs : us + ms = us') (hlv : ∃ lvc, lv_has ls me.2.2.1 lvc ∧ xLR ρ base lv lvc) (hst : xSR ρ base st rest) (h1 : uc' ≤ (xR me).cells) (h2 : us' ≤ (xR me).slots) (hL : va_S F s.heap H locs) :
    W p la e (xR me) s m args below meth c H locs uc us (MQ below (xQ ρ base F D dA tys cl k) args s (xR me).cells (xR me).slots F) (F0 m pc ls st0) := by
  intro T hT S
  obtain ⟨v, st₀, t, T', L, h0, X', hL', e1, e2, ⟨⟨hz, hfr⟩, env, h, n, r, hk, hρ, hH, hv⟩, go⟩ := hr T hT S
  subst hc; subst hs
  rw [h0] at hz hfr
  have hLL : va_S F s.heap t.heap (locs ++ L) := ⟨Nat.le_trans hL.1 hz, fun q g1 g2 => (hfr q (Nat.lt_of_lt_of_le g1 hL.1) g2).trans (hL.2.1 q g1 g2), t_lL hL.2.2 hL'⟩
  rcases hv with ⟨rfl, hv⟩ | ⟨x, w, rfl, hg, hv⟩
  · cases hv
    have g := IH me cs (lv, st, env, h, n, uc + mc, us + ms) k (pc + 3) hme hk hok hn p e s m args below meth c X t.heap (locs ++ L) ls rest ⟨hρ, hlv, hst, hH, h1, h2⟩ hLL
    obtain ⟨t2, a1, b1⟩ := g T' e1 X'
    exact ⟨t2, go t2 a1, b1⟩
  · cases hv
    have g := IH me cs (lv, x :: st, env, h, n, uc + mc, us + ms) k (pc + 3) hme hk hok hn p e s m args below meth c X t.heap (locs ++ L) ls (w :: rest) ⟨hρ, hlv, ⟨hg, hst⟩, hH, h1, h2⟩ hLL
    obtain ⟨t2, a1, b1⟩ := g T' e1 X'
    exact ⟨t2, go t2 a1, b1⟩
theorem xGoodIn {mc : xM} (hTg : ∀ w ∈ Ts, goodWord w = true) (hc : Jvm.Cond.code mc.1 mc.2.1 mc.2.2.1 mc.2.2.2.1 ∈ Ts) : GoodIn (xWs Ts me) (xWs Ts mc) := by
  intro w hw
  rcases List.mem_cons.mp hw with rfl | hw
  · exact ⟨List.mem_cons_of_mem _ hc, good_of_word (hTg _ hc)⟩
  · exact ⟨List.mem_cons_of_mem _ hw, good_of_word (hTg _ hw)⟩
/-- what is to hold of a callee, whatever the kind of call -/
def xCal (Ts : List Jvm.Cond) (okc : xM → List xI → Bool) (me mc : xM) (n : Nat) : Prop := plainFor mc.1 = true ∧ okc mc (xcd mc) = true ∧ xatp 0 (xcd mc) ∧ Jvm.Cond.code mc.1 mc.2.1 mc.2.2.1 mc.2.2.2.1 ∈ Ts ∧ Jvm.Cond.initialized mc.1.cls ∈ Ts ∧ (mc.1.cls ≠ "java/lang/invoke/MethodHandle" ∧ mc.1.cls ≠ "java/lang/invoke/VarHandle" ∧ (parseMethodDescriptor mc.1.desc).map (fun d => d.parameters.length) = some n) ∧ ((xR mc).frames + 1 ≤ (xR me).frames ∧ 8 + (mc.2.2.1 + 11) + (xR mc).locals ≤ (xR me).locals)
/-- 0 static, 1 virtual, 2 <init>; the same with a nest mate's words -/
def xKind (Ts Ns : List Jvm.Cond) (cl : List vw_C) (me mc : xM) (idx a : Nat) (l : List Nat) (n kind : Nat) (ins : Instr) : Prop :=
  (kind = 0 ∧ ins = .invokestatic idx ∧ a = n ∧ Jvm.Cond.static mc.1 ∈ Ts ∧ (Jvm.Cond.methodLink me.1.cls idx mc.1 ∈ Ts ∨ ∃ host, Jvm.Cond.methodLinkNest me.1.cls idx mc.1 host ∈ Ns)) ∨
  (kind = 1 ∧ ins = .invokevirtual idx ∧ a = n + 1 ∧ Jvm.Cond.instanceMethod mc.1 ∈ Ts ∧ Jvm.Cond.selects mc.1.cls mc.1 mc.1 ∈ Ts ∧ (∃ ci T N, l.getD 0 0 = ci + 1 ∧ ci < 100 ∧ cl[ci]? = some (mc.1.cls, T, N)) ∧ (Jvm.Cond.methodLink me.1.cls idx mc.1 ∈ Ts ∨ ∃ host, Jvm.Cond.methodLinkNest me.1.cls idx mc.1 host ∈ Ns)) ∨
  (kind = 2 ∧ ins = .invokespecial idx ∧ a = n + 1 ∧ mc.2.2.2.1 = none ∧ mc.1.name = "<init>" ∧ Jvm.Cond.instanceMethod mc.1 ∈ Ts ∧ (∃ ci T N, l.getD 0 0 = ci + 1 ∧ ci < 100 ∧ cl[ci]? = some (mc.1.cls, T, N)) ∧ (Jvm.Cond.methodLink me.1.cls idx mc.1 ∈ Ts ∨ ∃ host, Jvm.Cond.methodLinkNest me.1.cls idx mc.1 host ∈ Ns))
theorem xsplit {n : Nat} {top rest : List xV} {stc : List Value} (h : xSR ρ base (top ++ rest) stc) (hn : top.length = n) : ∃ tc rc, stc = tc ++ rc ∧ xSR ρ base top tc ∧ xSR ρ base rest rc := by
  induction top generalizing stc n with
  | nil => exact ⟨[], stc, rfl, trivial, h⟩
  | cons x top ih =>
    obtain ⟨v, r, rfl, h1, h2⟩ := xSR_cons h
    obtain ⟨tc, rc, rfl, h3, h4⟩ := ih h2 rfl
    exact ⟨v :: tc, rc, rfl, ⟨h1, h3⟩, h4⟩
theorem xl_call {idx n kind : Nat} {ins : Instr} {mc : xM} (hTg : ∀ w ∈ Ts, goodWord w = true) (hNg : ∀ w ∈ Ns, xNw w = true) (IH : xIH ρ base F Ts Ns cl tys D dA la okc Ms ih) (hme : me ∈ Ms) (hok : okc me cs = true) (hn : xatp (pc + 3) cs) (hd : decode me.2.1 pc = .ok (ins, 3)) (hmc : Ms[b]? = some mc) (hcal : xCal Ts okc me mc n) (hkd : xKind Ts Ns cl me mc idx a l n kind ins) (h : xo_call Ms ih me cs a b l A k = true) : xGd ρ base F Ts Ns cl tys D dA la me pc A k := by
  obtain ⟨lv, st, env, hp, nn, uc, us⟩ := A
  unfold xo_call at h
  obtain ⟨mc', hmc', h⟩ := xnth_of h
  cases hmc.symm.trans hmc'
  obtain ⟨top, rest, rfl, htop, h⟩ := xpop_of h
  rw [List.append_nil] at h
  obtain ⟨hcat, h⟩ := xcond h
  have hcat1 := Nat.le_of_ble_eq_true (xand hcat).1
  have hcat2 := Nat.le_of_ble_eq_true (xand hcat).2
  have h := xfN_of h
  have h := xfN_of h
  obtain ⟨hrm, h⟩ := xcond h
  have hrm1 := Nat.le_of_ble_eq_true (xand hrm).1
  have hrm2 := Nat.le_of_ble_eq_true (xand hrm).2
  obtain ⟨hrc, h⟩ := xcond h
  obtain ⟨hpl, hokc, hat, hcode, hini, hmh, hroom⟩ := hcal
  have hmem : mc ∈ Ms := List.mem_of_getElem? hmc
  intro p e s m args below meth c X H locs ls stc hI hL
  obtain ⟨tc, rc, rfl, htc, hrest⟩ := xsplit hI.2.2.1 htop
  have hvs : xSR ρ base top.reverse tc.reverse := xSR_rev htc
  have hlenT : tc.length = a := by rw [xSR_len htc]; exact htop
  have hM := xMet (k := xafter ih me cs lv rest (uc + (xR mc).cells) (us + (xR mc).slots) k) IH hmem hokc hat hpl hvs hI.1 (by rw [← (xcats_of hvs).2]; exact hcat2) h
  have X' := X
  obtain ⟨hx, hbc, hml, -, -, -, hown, hts, hns, hK, hKA⟩ := X'
  have hG : GoodIn (xWs Ts me) (xWs Ts mc) := xGoodIn hTg hcode
  have hw : ∀ w ∈ Ts, w.before args s = true := fun w q => hts w (List.mem_cons_of_mem _ q)
  have hS : CallFix p m c me.2.1 me.2.2.1 s args (xWs Ts me) me.1.cls := ⟨hx, hbc, hml, hown, hts⟩
  have hsize : ls.size = me.2.2.1 := by obtain ⟨lvc, hl, -⟩ := hI.2.1; exact hl.1
  have hW : 2 * (F0 m pc ls (tc ++ rc)).monitorRoom + (rc.map fun v => v.category).sum ≤ 8 := lv_room (by rw [← (xcats_of hrest).1]; exact hcat1)
  have hpre : PreS s H (xPc ρ base F Ns cl tys D dA tc.reverse hp nn) tc.reverse := ⟨xPc_blind hNg, fun U hU hWm => ⟨rfl, by rw [hU]; exact hI.2.2.2.1, fun w q => xNw_warm (hNg w q) hWm (hns w q), va_K.moved hWm.alike hK, xKA.warm hWm (fun q g1 g2 => by rw [hU]; exact hL.2.1 q g1 (fun f => g2 (hI.2.2.2.1.1.2.2.2 q f))) hKA⟩⟩
  have fin := fun (av : Array Value) (hr : va_Run p la e (xR me) s m args below meth c H locs uc us (xR mc).cells (xR mc).slots (F0 m pc ls (tc ++ rc)) rc (xQ ρ base F D dA tys cl (xafter ih me cs lv rest (uc + (xR mc).cells) (us + (xR mc).slots) k) av) F) => xl_after IH hme hok hn X hr rfl rfl hI.2.1 hrest hrm1 hrm2 hL
  -- a receiver, where there is one
  have hrcv : ∀ (ci : Nat) (T : u_T) (N : Nat), a = n + 1 → l.getD 0 0 = ci + 1 → ci < 100 → cl[ci]? = some (mc.1.cls, T, N) → ∃ (o : Nat) (As : List Value), tc.reverse = .ref o :: As ∧ As.length = n ∧ tc ++ rc = As.reverse ++ .ref o :: rc ∧ (∃ cell : Cell, H[o]? = some cell ∧ cell.vm.isStatics = false ∧ s.vm.findClass mc.1.cls = some cell.cls) := by
    intro ci T N han hci hc100 hcl
    rw [xnthD_eq, hci] at hrc
    have hrc : (match top.reverse with | .inr (.inr (.inl (some o))) :: _ => xhget hp o (fun c => Nat.beq c.1 ci) | _ => false) = true := hrc
    obtain ⟨o, vr, hvr⟩ : ∃ o vr, top.reverse = .inr (.inr (.inl (some o))) :: vr := by
      generalize top.reverse = tr at hrc
      match tr, hrc with
      | .inr (.inr (.inl (some o))) :: vr, _ => exact ⟨o, vr, rfl⟩
      | [], q => exact absurd q (by simp)
      | .inl _ :: _, q => exact absurd q (by simp)
      | .inr (.inl _) :: _, q => exact absurd q (by simp)
      | .inr (.inr (.inl none)) :: _, q => exact absurd q (by simp)
      | .inr (.inr (.inr _)) :: _, q => exact absurd q (by simp)
    rw [hvr] at hrc
    have hvs2 : xSR ρ base (.inr (.inr (.inl (some o))) :: vr) tc.reverse := by rw [← hvr]; exact hvs
    obtain ⟨c0, hc0, hcc⟩ := xhget_of hrc
    have hcc := Nat.eq_of_beq_eq_true hcc
    obtain ⟨v0, As, hAs, hv0, -⟩ := xSR_cons hvs2
    cases hv0
    obtain ⟨fs, -, hat0⟩ := xobj (hI.2.2.2.1.2 o c0 hc0) (by rw [hcc]; exact hc100)
    rw [hcc] at hat0
    have htcs : tc = As.reverse ++ [.ref (base + o)] := by
      have := congrArg List.reverse hAs
      rw [List.reverse_reverse, List.reverse_cons] at this
      exact this
    refine ⟨base + o, As, hAs, ?_, by rw [htcs]; simp, va_recv hK (xP1 hat0) hcl (q0 := 0) rfl⟩
    have := congrArg List.length htcs
    simp at this
    omega
  rcases hkd with ⟨-, rfl, han, hst, hlk⟩ | ⟨-, rfl, han, him, hsel, ⟨ci, T, N, hci, hc100, hcl⟩, hlk⟩ | ⟨-, rfl, han, hnone, hnm, him, ⟨ci, T, N, hci, hc100, hcl⟩, hlk⟩
  · rcases hlk with hlk | ⟨host, hlk⟩
    · exact fin _ (va_runS hS hM ⟨callB_of n hts hG rfl rfl rfl (hw _ hini) (hw _ hlk) hmh hroom, hw _ hst⟩ hpre rfl (by rw [List.length_reverse, hlenT, han]) hsize (by rw [List.reverse_reverse]) hW hd ⟨hrm1, hrm2⟩)
    · exact fin _ (va_runSN hS hM ⟨va_cnB n hts hG rfl rfl rfl (hns _ hlk) (hw _ hini) hmh hroom, hw _ hst, trivial⟩ hpre rfl (by rw [List.length_reverse, hlenT, han]) hsize (by rw [List.reverse_reverse]) hW hd ⟨hrm1, hrm2⟩)
  · obtain ⟨o, As, hAs, hAl, hstk, hrv⟩ := hrcv ci T N han hci hc100 hcl
    rw [hAs] at hM hpre
    rcases hlk with hlk | ⟨host, hlk⟩
    · exact fin _ (va_runV hS hM ⟨callB_of n hts hG rfl rfl rfl (hw _ hini) (hw _ hlk) hmh hroom, hw _ him, hw _ hsel⟩ ⟨hpre.1, hrv, hpre.2⟩ rfl hAl hsize hstk hW hd ⟨hrm1, hrm2⟩)
    · exact fin _ (va_runVN hS hM ⟨va_cnB n hts hG rfl rfl rfl (hns _ hlk) (hw _ hini) hmh hroom, hw _ him, hw _ hsel⟩ ⟨hpre.1, hrv, hpre.2⟩ rfl hAl hsize hstk hW hd ⟨hrm1, hrm2⟩)
  · obtain ⟨o, As, hAs, hAl, hstk, hrv⟩ := hrcv ci T N han hci hc100 hcl
    rw [hAs] at hM hpre
    rcases hlk with hlk | ⟨host, hlk⟩
    · exact fin _ (va_runI hS hM ⟨callB_of n hts hG (by rw [xWs, hnone]) rfl rfl (hw _ hini) (hw _ hlk) hmh hroom, hnm, hw _ him⟩ hpre rfl hAl hsize hstk hW hd ⟨hrm1, hrm2⟩)
    · exact fin _ (va_runIN hS hM ⟨va_cnB n hts hG (by rw [xWs, hnone]) rfl rfl (hns _ hlk) (hw _ hini) hmh hroom, hnm, hw _ him⟩ hpre rfl hAl hsize hstk hW hd ⟨hrm1, hrm2⟩)
end XM

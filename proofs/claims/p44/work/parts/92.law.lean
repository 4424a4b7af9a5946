set_option linter.all false
/-! the law's walk (written by gen91.py) -/
def R_law : String := "AcidCityLaw"
def xFx (base : Nat) : Nat → Prop := fun q => (base ≤ q ∧ q < base + 740) ∨ base + 761 ≤ q
def xFm (base : Nat) : Nat → Prop := fun q => base + 740 ≤ q
def lw_P (b : Addr) (xs : List Int32) (args : Array Value) (s : State) : Prop := args = #[.ref b] ∧ s.IntsAt b xs ∧ xs.length ≤ 384 ∧ (Jvm.Cond.and given_1 narrow_1).before args s = true
def lw_Q (_ : Array Value) (s : State) (o : Outcome) (t : State) : Prop := o = .returned (some (.int 1)) ∧ Framed s o t [] 600000 7302250
def lw_Z (below : List Frame) (a : Array Value) (s : State) : State → Prop := fun t => ∃ o, t.status = .running ∧ Ended t below o ∧ lw_Q a s o t
/-- the law's own end, with 1 on the stack, nothing written that was there before, its room as the claim has it -/
theorem lw_ret {p : Program} {l : Launch} {e : Env} {s : State} {m : MethodId} {below : List Frame} {meth : Method} {c : Code} {b : Nat} (hx : p.tables.exec = Jvm.exec) (hb : c.code = code) (hr : meth.sig.returnType = ret) (hlocks : meth.locks = false) {pc : Nat} {H : Heap} {ls : Array Slot} (hdg : decode code pc = .ok (.ireturn, 1)) : W p l e room_1 s m #[Value.ref b] below meth c H [] 600000 7302250 (lw_Z below #[Value.ref b] s) (F0 m pc ls [.int 1]) := by
  intro T hT X
  obtain ⟨fs, hret, hrun, hended, hW, hframe⟩ := X.leave (v := some (.int 1)) (hlocks := hlocks) (fun h => by rw [hr] at h; cases h)
  have hmeth' : T.vm.method? m = some meth := X.method'
  refine ⟨T.setFrames fs, ?_, .returned (some (.int 1)), hrun, hended, rfl, ⟨_, rfl⟩, hW, hframe⟩
  jvm_step X.here [X.here.top, hx, hb, hdg, hmeth', hr, ret, narrow_b1]
  (try refine ⟨rfl, ?_⟩); (try refine ⟨rfl, ?_⟩)
  first | (intro acts; rw [hret _ acts rfl rfl rfl]) | rw [hret _ _ rfl rfl rfl]
  exact Steps.refl _
/-- what holds at the law's entry: the machine, the code, the tables' words (any of lw_tbl by 'hts w (by decide +kernel)'), the script of L ints xs at the cell b, what the Statement gives of the start (any of its parts by flat_of_before) -/
def lw_At (p : Program) (s : State) (m : MethodId) (meth : Method) (c : Code) (b L : Nat) (xs : Nat → Int32) : Prop :=
  p.tables.exec = Jvm.exec ∧ c.code = code ∧ meth.sig.returnType = ret ∧ c.maxLocals = 4 ∧ s.vm.findClass R_law = some m.cls ∧ (∀ w ∈ lw_tbl, w.before #[Value.ref b] s = true) ∧ va_X b L xs s s.heap ∧ b < s.heap.size ∧ meth.locks = false ∧ (Jvm.Cond.and given_1 narrow_1).before #[Value.ref b] s = true
section LWA
variable {p : Program} {e : Env} {s : State} {m : MethodId} {below : List Frame} {meth : Method} {c : Code} {la : Launch} {b L : Nat} {xs : Nat → Int32} {D : va_G} {dA : Nat → ClassId} {ρ : Nat → Int32} {Q : State → Prop}
/-- what holds in the law's own frame -/
def lw_Cx (p : Program) (s : State) (m : MethodId) (meth : Method) (c : Code) (b L : Nat) (xs : Nat → Int32) (D : va_G) (dA : Nat → ClassId) : Prop := lw_At p s m meth c b L xs ∧ va_K D vwCl [] s ∧ xKA dA xTys s
theorem lw_good {mc : xM} (hc : Jvm.Cond.code mc.1 mc.2.1 mc.2.2.1 mc.2.2.2.1 ∈ xTs xTc) : GoodIn lw_tbl (xWs (xTs xTc) mc) := by
  intro w hw
  rcases List.mem_cons.mp hw with rfl | hw
  · exact ⟨xTs_in _ hc, good_of_word (xTs_good _ _ hc)⟩
  · exact ⟨xTs_in _ hw, good_of_word (xTs_good _ _ hw)⟩
/-- what is asked of a method that the law calls -/
def lw_Ok (mc : xM) (n : Nat) : Prop := Jvm.Cond.code mc.1 mc.2.1 mc.2.2.1 mc.2.2.2.1 ∈ xTs xTc ∧ Jvm.Cond.initialized mc.1.cls ∈ lw_tbl ∧ Jvm.Cond.instanceMethod mc.1 ∈ lw_tbl ∧ (mc.1.cls ≠ "java/lang/invoke/MethodHandle" ∧ mc.1.cls ≠ "java/lang/invoke/VarHandle" ∧ (parseMethodDescriptor mc.1.desc).map (fun d => d.parameters.length) = some n) ∧ ((xR mc).frames + 1 ≤ room_1.frames ∧ 8 + (mc.2.2.1 + 11) + (xR mc).locals ≤ room_1.locals)
theorem lw_pre (C : lw_Cx p s m meth c b L xs D dA) {locs : List Loc} {bs nn : Nat} {F : Nat → Prop} {As : List Value} {h : xH} {H : Heap} (hH : xHR ρ bs F D dA xTys vwCl h nn H) (hS : va_S (fun q => s.heap.size ≤ q) s.heap H locs) : PreS s H (xPc ρ bs F (xNs xTc) vwCl xTys D dA As h nn) As := ⟨xPc_blind (xNs_good xTc), fun U hU hWm => ⟨rfl, by rw [hU]; exact hH, fun w q => xNw_warm (xNs_good xTc w q) hWm (va_Nw.of (xNw_on (xNs_good xTc w q)) (C.1.2.2.2.2.2.1 w (xNs_in w q))), va_K.moved hWm.alike C.2.1, xKA.warm hWm (fun q g1 _ => by rw [hU]; exact hS.2.1 q g1 (Nat.not_le.mpr g1)) C.2.2⟩⟩
/-- a call on the joint heap -/
theorem lw_callJ {mc : xM} {idx na o bs pc cells slots ci : Nat} {F : Nat → Prop} {vs : List fV} {I : fH} {P : fH → Option fV → Prop} {As rest : List Value} {hp : xH} {H : Heap} {locs : List Loc} {ls : Array Slot} {T : u_T} {NN len : Nat} (C : lw_Cx p s m meth c b L xs D dA) (hlin : xLin ρ) (ok : lw_Ok mc na) (hlk : Jvm.Cond.methodLink R_law idx mc.1 ∈ lw_tbl ∧ Jvm.Cond.selects mc.1.cls mc.1 mc.1 ∈ lw_tbl) (hcl : vwCl[ci]? = some (mc.1.cls, T, NN)) (hci : ci < 100) (ho : gJ.1 o = some (ci, len)) (hh : fhr gJ I hp) (hin : mc ∈ xMs) (hv : xSR ρ bs (feS vs) As) (hlen : Nat.ble (fcats (.inr (.inr (some o)) :: vs)) mc.2.2.1 = true) (hC : fC ρ bs 761 F xTc vwCl xTys D dA la gJ bsJ mc (.inr (.inr (some o)) :: vs) I P) (hnone : ∀ I', ¬ P I' none) (hH : xHR ρ bs F D dA xTys vwCl hp 761 H) (hS : va_S (fun q => s.heap.size ≤ q) s.heap H locs) (hFA : ∀ q, F q → s.heap.size ≤ q) (hAs : As.length = na) (hls : ls.size = 4) (hrm : (rest.map fun v => v.category).sum ≤ 8) (hd : decode code pc = .ok (.invokevirtual idx, 3)) (hz : (xR mc).cells = 0 ∧ (xR mc).slots = 0) (hf : cells ≤ room_1.cells ∧ slots ≤ room_1.slots)
    (kk : ∀ (I' : fH) (r : fV) (hp' : xH) (v : Value) (H' : Heap) (locs' : List Loc), fhr gJ I' hp' → fB bsJ I' → P I' (some r) → xg ρ bs (fe r) v → xHR ρ bs F D dA xTys vwCl hp' 761 H' → va_S (fun q => s.heap.size ≤ q) s.heap H' locs' → W p la e room_1 s m #[Value.ref b] below meth c H' locs' cells slots Q (F0 m (pc + 3) ls (v :: rest))) : W p la e room_1 s m #[Value.ref b] below meth c H locs cells slots Q (F0 m pc ls (As.reverse ++ .ref (bs + o) :: rest)) := by
  have hM := f_met hlin xG hin (vc := .ref (bs + o) :: As) (show xSR ρ bs (feS (.inr (.inr (some o)) :: vs)) (.ref (bs + o) :: As) from ⟨rfl, hv⟩) hlen hh hC
  obtain ⟨ok1, ok2, ok3, ok4, ok5⟩ := ok
  have C0 := C
  obtain ⟨⟨hx, hb, hr, hml, hown, hts, hX, hbl, hlocks, hgv⟩, hK, hKA⟩ := C
  obtain ⟨rows, h0, -⟩ := hh o ci len ho
  obtain ⟨fs, -, hat⟩ := xobj (hH.2 o _ h0) hci
  have hrv := va_recv hK (xP1 hat) hcl (q0 := 0) rfl
  have hpre := lw_pre (As := .ref (bs + o) :: As) C0 hH hS
  have hrun := va_runV (meth := meth) (e := e) (below := below) (locs := locs) (rest := rest) (g := F0 m pc ls (As.reverse ++ .ref (bs + o) :: rest)) (cells := cells) (slots := slots) (Ts := lw_tbl) (own := R_law) (C := mc.1.cls) (index := idx) (n := na) ⟨hx, hb, hml, hown, hts⟩ hM ⟨callB_of na hts (lw_good ok1) rfl rfl rfl (hts _ ok2) (hts _ hlk.1) ok4 ok5, hts _ ok3, hts _ hlk.2⟩ ⟨hpre.1, hrv, hpre.2⟩ rfl hAs hls rfl (lv_room hrm) hd (by rw [hz.1, hz.2]; exact hf)
  intro T0 hT X
  obtain ⟨v, st₀, t, T', L', h0', X', hL', e1, e2, ⟨⟨hzz, hfr⟩, env, h', n', r, hk1, hρ, hH', hv'⟩, go⟩ := hrun T0 hT X
  rw [h0'] at hzz hfr
  obtain ⟨k1, I', r', k2, k3, k4, k5⟩ := @of_decide_eq_true _ (Classical.propDecidable _) hk1
  subst k1
  rcases hv' with ⟨rfl, hv'⟩ | ⟨x, w, rfl, hg, hv'⟩
  · cases r' with
    | none => exact absurd k5 (hnone I')
    | some r' => cases k3
  · cases hv'
    cases r' with
    | none => cases k3
    | some r' =>
      have k3 : x = fe r' := Option.some.inj k3
      subst k3
      have hLL : va_S (fun q => s.heap.size ≤ q) s.heap t.heap (locs ++ L') := ⟨Nat.le_trans hS.1 hzz, fun q g1 g2 => (hfr q (Nat.lt_of_lt_of_le g1 hS.1) (fun f => g2 (hFA q f))).trans (hS.2.1 q g1 g2), fun l hl => (List.mem_append.mp hl).elim (hS.2.2 l) (fun q => hFA _ (hL' l q))⟩
      rw [hz.1, hz.2] at X'
      obtain ⟨t2, a1, b1⟩ := kk I' r' h' w t.heap _ k2 k4 k5 hg hH' hLL T' e1 X'
      exact ⟨t2, go t2 a1, b1⟩
/-- a constructor -/
theorem lw_init {mc : xM} {idx bs nn pc cells slots : Nat} {F : Nat → Prop} {rest : List Value} {h : xH} {k : xK} {H : Heap} {locs : List Loc} {ls : Array Slot} (C : lw_Cx p s m meth c b L xs D dA) (ok : lw_Ok mc 0) (hret : mc.2.2.2.1 = none) (hnm : mc.1.name = "<init>") (hlk : Jvm.Cond.methodLink R_law idx mc.1 ∈ lw_tbl)
    (hM : Met la mc.1 (xWs (xTs xTc) mc) (xR mc) (xPc ρ bs F (xNs xTc) vwCl xTys D dA [.ref bs] h nn) (xQ ρ bs F D dA xTys vwCl k) (xR mc).cells (xR mc).slots F) (hk : ∀ env h n x, k env h n (some x) = false) (hH : xHR ρ bs F D dA xTys vwCl h nn H) (hS : va_S (fun q => s.heap.size ≤ q) s.heap H locs) (hFA : ∀ q, F q → s.heap.size ≤ q) (hls : ls.size = 4) (hrm : (rest.map fun v => v.category).sum ≤ 8) (hd : decode code pc = .ok (.invokespecial idx, 3)) (hf : cells + (xR mc).cells ≤ room_1.cells ∧ slots + (xR mc).slots ≤ room_1.slots)
    (kk : ∀ (env : xE) (h' : xH) (n' : Nat) (H' : Heap) (locs' : List Loc), k env h' n' none = true → xHR ρ bs F D dA xTys vwCl h' n' H' → va_S (fun q => s.heap.size ≤ q) s.heap H' locs' → H.size ≤ H'.size → (∀ q, q < H.size → ¬ F q → H'[q]? = H[q]?) → W p la e room_1 s m #[Value.ref b] below meth c H' locs' (cells + (xR mc).cells) (slots + (xR mc).slots) Q (F0 m (pc + 3) ls rest)) : W p la e room_1 s m #[Value.ref b] below meth c H locs cells slots Q (F0 m pc ls (.ref bs :: rest)) := by
  obtain ⟨ok1, ok2, ok3, ok4, ok5⟩ := ok
  have C0 := C
  obtain ⟨⟨hx, hb, hr, hml, hown, hts, hX, hbl, hlocks, hgv⟩, hK, hKA⟩ := C
  have hpre := lw_pre (As := [.ref bs]) C0 hH hS
  have hrun := va_runI (meth := meth) (e := e) (below := below) (locs := locs) (rest := rest) (As := []) (g := F0 m pc ls (.ref bs :: rest)) (cells := cells) (slots := slots) (Ts := lw_tbl) (own := R_law) (index := idx) (n := 0) ⟨hx, hb, hml, hown, hts⟩ hM ⟨callB_of 0 hts (lw_good ok1) (by rw [xWs, hret]) rfl rfl (hts _ ok2) (hts _ hlk) ok4 ok5, hnm, hts _ ok3⟩ hpre rfl rfl hls rfl (lv_room hrm) hd hf
  intro T0 hT X
  obtain ⟨v, st₀, t, T', L', h0', X', hL', e1, e2, ⟨⟨hz, hfr⟩, env, h', n', r, hk1, hρ, hH', hv⟩, go⟩ := hrun T0 hT X
  rw [h0'] at hz hfr
  rcases hv with ⟨rfl, hv⟩ | ⟨x, w, rfl, hg, hv⟩
  · cases hv
    have hLL : va_S (fun q => s.heap.size ≤ q) s.heap t.heap (locs ++ L') := ⟨Nat.le_trans hS.1 hz, fun q g1 g2 => (hfr q (Nat.lt_of_lt_of_le g1 hS.1) (fun f => g2 (hFA q f))).trans (hS.2.1 q g1 g2), fun l hl => (List.mem_append.mp hl).elim (hS.2.2 l) (fun q => hFA _ (hL' l q))⟩
    obtain ⟨t2, a1, b1⟩ := kk env h' n' t.heap _ hk1 hH' hLL hz hfr T' e1 X'
    exact ⟨t2, go t2 a1, b1⟩
  · rw [hk] at hk1; cases hk1
end LWA


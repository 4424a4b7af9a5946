set_option linter.all false
/-! Math.min and max, System.arraycopy of a whole row, new int[n][k] -/
def xmm (a u v : Nat) : Nat := cond (Nat.beq a 0) (cond (Nat.blt (xbc v) (xbc u)) v u) (cond (Nat.blt (xbc u) (xbc v)) v u)
noncomputable def xo_mm : xHd := fun ih me cs a _ _ A k => match A with
  | (lv, y :: x :: st, env, r) => cond (Nat.ble (Nat.add (xcats st) 13) me.2.2.2.2.2.locals) (xci env (fun e u => xci e (fun e v => xfN (xmm a u v) (fun w => ih me cs (lv, .inl w :: st, e, r) k)) (ih me cs (lv, xTop :: st, e, r) k) y) (cond (Nat.beq (xis y) 0) (ih me cs (lv, xTop :: st, env, r) k) false) x) false
  | _ => false
/-- a whole int[] over another of its length -/
noncomputable def xo_copy : xHd := fun ih me cs _ _ _ A k => match A with
  | (lv, .inl n :: .inl dp :: .inr (.inr (.inl (some d))) :: .inl sp :: .inr (.inr (.inl (some o))) :: st, env, h, r) => cond (Bool.and (Bool.and (Nat.beq sp 0) (Nat.beq dp 0)) (Bool.and (Nat.blt n 100000) (Nat.ble (Nat.add (xcats st) 64) me.2.2.2.2.2.locals))) (xhget h o (fun c => xhget h d (fun c2 => cond (Bool.and (Bool.and (Nat.beq c.1 100) (Nat.beq c2.1 100)) (Bool.and (Nat.beq c.2.1 n) (Nat.beq c2.2.1 n))) (xhset h d (100, n, c.2.2) (fun h => ih me cs (lv, st, env, h, r) k)) false))) false
  | _ => false
/-- the rows of a grid, one behind the other -/
noncomputable def xgrid (c : xC) (m : Nat) : xH → Nat → (xH → Nat → Bool) → Bool := Nat.rec (motive := fun _ => xH → Nat → (xH → Nat → Bool) → Bool) (fun h n k => k h n) (fun _ ih h n k => xhpush h n c (fun h => xfN (Nat.succ n) (fun n => ih h n k))) m
noncomputable def xrefs (m : Nat) : Nat → (List xV → Bool) → Bool := Nat.rec (motive := fun _ => Nat → (List xV → Bool) → Bool) (fun _ k => k []) (fun _ ih a k => xfN (Nat.succ a) (fun a' => ih a' (fun l => k (xRef a :: l)))) m
/-- new int[n][k], n at most 64 here twice over: rows of references -/
noncomputable def xo_mna : xHd := fun ih me cs _ _ _ A k => match A with
  | (lv, .inl w :: .inl m :: st, env, h, n, uc, us) => cond (Bool.and (Bool.and (Nat.blt w 1000) (Nat.blt m 128)) (Bool.and (Nat.ble (Nat.add uc (Nat.succ m)) me.2.2.2.2.2.cells) (Nat.ble (Nat.add us (Nat.add m (Nat.mul m w))) me.2.2.2.2.2.slots)))
      (xrefs (cond (Nat.ble m 64) m 64) (Nat.succ n) (fun r1 => xrefs (Nat.sub m 64) (Nat.add (Nat.succ n) 64) (fun r2 => xhpush h n (102, m, [r1, r2]) (fun h => xrows (.inl 0) w (fun fs => xgrid (100, w, fs) m h (Nat.succ n) (fun h n' => xfN (Nat.add uc (Nat.succ m)) (fun uc => xfN (Nat.add us (Nat.add m (Nat.mul m w))) (fun us => xfN n' (fun n' => ih me cs (lv, xRef n :: st, env, h, n', uc, us) k)))))))) ) false
  | _ => false
section XJ
variable {ρ : Nat → Int32} {base : Nat} {F : Nat → Prop} {Ts Ns : List Jvm.Cond} {cl : List vw_C} {tys : List FieldType} {D : va_G} {dA : Nat → ClassId} {la : Launch} {okc : xM → List xI → Bool} {Ms : List xM} {ih : xIh} {me : xM} {cs : List xI} {a b : Nat} {l : List Nat} {A : xA} {k : xK} {pc : Nat}
theorem xmm_of (u v : Nat) : nI (xmm 0 u v) = (if nI v < nI u then nI v else nI u) ∧ nI (xmm 1 u v) = (if nI u < nI v then nI v else nI u) := by
  constructor
  · unfold xmm
    rw [show Nat.beq 0 0 = true from rfl, cond_true]
    by_cases c : Nat.blt (xbc v) (xbc u) = true
    · rw [c, if_pos (by rw [xb_lt, ← xbc_eq, ← xbc_eq]; exact xblt.mp c)]; rfl
    · rw [xnf c, if_neg (fun q => c (by rw [xblt, xbc_eq, xbc_eq]; exact xb_lt.mp q))]; rfl
  · unfold xmm
    rw [show Nat.beq 1 0 = false from rfl, cond_false]
    by_cases c : Nat.blt (xbc u) (xbc v) = true
    · rw [c, if_pos (by rw [xb_lt, ← xbc_eq, ← xbc_eq]; exact xblt.mp c)]; rfl
    · rw [xnf c, if_neg (fun q => c (by rw [xblt, xbc_eq, xbc_eq]; exact xb_lt.mp q))]; rfl
def xmmI : Nat → Int32 → Int32 → Int32
  | 0, x, y => if y < x then y else x
  | _, x, y => if x < y then y else x
theorem xl_mm0 (ha : a = 0 ∨ a = 1) (IH : xIH ρ base F Ts Ns cl tys D dA la okc Ms ih) (hme : me ∈ Ms) (hok : okc me cs = true) (hn : xatp (pc + 3) cs) (h : xo_mm ih me cs a b l A k = true)
    {p : Program} {e : Env} {s : State} {m : MethodId} {args : Array Value} {below : List Frame} {meth : Method} {c : Code} (C : xCx Ts Ns cl tys D dA p s m args meth c me) {H : Heap} {locs : List Loc} {ls : Array Slot} {stc : List Value} (hI : xIn ρ base F D dA tys cl me A H ls stc) (hL : va_S F s.heap H locs) :
    ∃ (x y : Int32) (rest : List Value), stc = .int y :: .int x :: rest ∧ (rest.map fun v => v.category).sum + 13 ≤ (xR me).locals ∧ W p la e (xR me) s m args below meth c H locs A.2.2.2.2.2.1 A.2.2.2.2.2.2 (MQ below (xQ ρ base F D dA tys cl k) args s (xR me).cells (xR me).slots F) (F0 m (pc + 3) ls (.int (xmmI a x y) :: rest)) := by
  match A, h, hI with
  | (lv, y :: x :: st, env, r), h, hI =>
    unfold xo_mm at h
    obtain ⟨hr, h⟩ := xcond h
    have hr : xcats st + 13 ≤ (xR me).locals := Nat.le_of_ble_eq_true hr
    obtain ⟨vy, stc, rfl, hy, hst0⟩ := xSR_cons hI.2.2.1
    obtain ⟨vx, stc, rfl, hx, hst⟩ := xSR_cons hst0
    rw [(xcats_of hst).1] at hr
    obtain ⟨x', rfl, h⟩ := xci_of hI.1 hx h
    rcases h with ⟨env', u, he, hu, h⟩ | h
    · obtain ⟨y', rfl, h⟩ := xci_of he hy h
      rcases h with ⟨env', v, he, hv, h⟩ | h
      · have ee : nI (xmm a u v) = xmmI a x' y' := by
          rw [hu, hv]
          rcases ha with rfl | rfl
          · exact (xmm_of u v).1
          · exact (xmm_of u v).2
        exact ⟨x', y', stc, rfl, hr, IH me cs _ k (pc + 3) hme (xfN_of h) hok hn p e s m args below meth c C H locs ls _ ⟨he, hI.2.1, ⟨by show _ = Value.int (nI (xmm a u v)); rw [ee], hst⟩, hI.2.2.2⟩ hL⟩
      · exact ⟨x', y', stc, rfl, hr, IH me cs _ k (pc + 3) hme h hok hn p e s m args below meth c C H locs ls _ ⟨he, hI.2.1, ⟨⟨_, rfl⟩, hst⟩, hI.2.2.2⟩ hL⟩
    · obtain ⟨hk, h⟩ := xcond h
      obtain ⟨y', rfl⟩ := xg_int hy (Nat.eq_of_beq_eq_true hk)
      exact ⟨x', y', stc, rfl, hr, IH me cs _ k (pc + 3) hme h hok hn p e s m args below meth c C H locs ls _ ⟨hI.1, hI.2.1, ⟨⟨_, rfl⟩, hst⟩, hI.2.2.2⟩ hL⟩
  | (lv, [], env, r), h, hI => exact absurd h (by simp [xo_mm])
  | (lv, [_], env, r), h, hI => exact absurd h (by simp [xo_mm])
theorem xl_mm {idx : Nat} (IH : xIH ρ base F Ts Ns cl tys D dA la okc Ms ih) (hme : me ∈ Ms) (hok : okc me cs = true) (hn : xatp (pc + 3) cs) (hd : decode me.2.1 pc = .ok (.invokestatic idx, 3))
    (hw : (a = 0 ∧ Jvm.Cond.methodLink me.1.cls idx Lib.Math.min.name ∈ Ts ∧ Jvm.Cond.static Lib.Math.min.name ∈ Ts ∧ Jvm.Cond.code Lib.Math.min.name Lib.Math.min.code 2 (some .int) ∈ Ts) ∨ (a = 1 ∧ Jvm.Cond.methodLink me.1.cls idx Lib.Math.max.name ∈ Ts ∧ Jvm.Cond.static Lib.Math.max.name ∈ Ts ∧ Jvm.Cond.code Lib.Math.max.name Lib.Math.max.code 2 (some .int) ∈ Ts)) (hini : Jvm.Cond.initialized "java/lang/Math" ∈ Ts) (hf : 1 ≤ (xR me).frames) (h : xo_mm ih me cs a b l A k = true) : xGd ρ base F Ts Ns cl tys D dA la me pc A k := by
  intro p e s m args below meth c X H locs ls stc hI hL
  obtain ⟨x, y, rest, rfl, hr, g⟩ := xl_mm0 (e := e) (below := below) (hw.imp (fun q => q.1) (fun q => q.1)) IH hme hok hn h X hI hL
  have hsize : ls.size = me.2.2.1 := by obtain ⟨lvc, hl, -⟩ := hI.2.1; exact hl.1
  obtain ⟨hx, hbc, hml, _, _, _, hown, hts, _⟩ := X
  rcases hw with ⟨rfl, w1, w2, w3⟩ | ⟨rfl, w1, w2, w3⟩
  · exact va_mmin hx hbc (by rw [hml, hsize]) hown (hts _ (List.mem_cons_of_mem _ w1)) (hts _ (List.mem_cons_of_mem _ w2)) (hts _ (List.mem_cons_of_mem _ hini)) (hts _ (List.mem_cons_of_mem _ w3)) hf hr hI.2.2.2.2.1 hI.2.2.2.2.2 hd g
  · exact va_mmax hx hbc (by rw [hml, hsize]) hown (hts _ (List.mem_cons_of_mem _ w1)) (hts _ (List.mem_cons_of_mem _ w2)) (hts _ (List.mem_cons_of_mem _ hini)) (hts _ (List.mem_cons_of_mem _ w3)) hf hr hI.2.2.2.2.1 hI.2.2.2.2.2 hd g
theorem xcopied {c0 c1 : ClassId} {fs gs : List Value} (hl : gs.length = fs.length) (n : Int32) (hn : n.toNatClampNeg = fs.length) : copied (arrV c0 fs.length (vp_V fs)) (arrV c1 gs.length (vp_V gs)) 0 0 n = arrV c1 fs.length (vp_V fs) := by
  have e := va_copied (fun z : Value => z) c0 c1 (n0 := fs.length) (n1 := gs.length) (sp := 0) (dp := 0) (n := n.toNatClampNeg) (vp_V fs) (vp_V gs) (by omega)
  refine Eq.trans e ?_
  rw [hl]
  unfold arrV
  congr 1
  apply Array.ext
  · simp
  · intro i h1 h2
    have hi : i < fs.length := by simpa using h1
    simp [va_cpy, hn, hi]
theorem xl_copy {idx : Nat} (IH : xIH ρ base F Ts Ns cl tys D dA la okc Ms ih) (hme : me ∈ Ms) (hok : okc me cs = true) (hn : xatp (pc + 3) cs) (hd : decode me.2.1 pc = .ok (.invokestatic idx, 3)) (hty : tys[0]? = some .int) (h1 : Jvm.Cond.methodLink me.1.cls idx arraycopyName ∈ Ts) (h2 : Jvm.Cond.native arraycopyName ∈ Ts) (h3 : Jvm.Cond.static arraycopyName ∈ Ts) (h4 : Jvm.Cond.initialized "java/lang/System" ∈ Ts) (hf : 1 ≤ (xR me).frames) (h : xo_copy ih me cs a b l A k = true) : xGd ρ base F Ts Ns cl tys D dA la me pc A k := by
  obtain ⟨lv, st0, env, hp, nn, uc, us⟩ := A
  match st0, h with
  | .inl n :: .inl dp :: .inr (.inr (.inl (some d))) :: .inl sp :: .inr (.inr (.inl (some o))) :: st, h =>
    unfold xo_copy at h
    obtain ⟨hr, h0⟩ := xcond h
    clear h
    have e1 := Nat.eq_of_beq_eq_true (xand (xand hr).1).1
    have e2 := Nat.eq_of_beq_eq_true (xand (xand hr).1).2
    have hnl := xblt.mp (xand (xand hr).2).1
    have hrm : xcats st + 64 ≤ (xR me).locals := Nat.le_of_ble_eq_true (xand (xand hr).2).2
    subst e1; subst e2
    obtain ⟨c1, hc1, h⟩ := xhget_of h0
    obtain ⟨c2, hc2, h⟩ := xhget_of h
    obtain ⟨hk, h⟩ := xcond h
    have k1 := Nat.eq_of_beq_eq_true (xand (xand hk).1).1
    have k2 := Nat.eq_of_beq_eq_true (xand (xand hk).1).2
    have l1 := Nat.eq_of_beq_eq_true (xand (xand hk).2).1
    have l2 := Nat.eq_of_beq_eq_true (xand (xand hk).2).2
    obtain ⟨hp', h, -, r1, r2⟩ := xhset_of h
    intro p e s m args below meth c X H locs ls stc hI hL
    obtain ⟨v1, stc, rfl, g1, hst1⟩ := xSR_cons hI.2.2.1
    obtain ⟨v2, stc, rfl, g2, hst2⟩ := xSR_cons hst1
    obtain ⟨v3, stc, rfl, g3, hst3⟩ := xSR_cons hst2
    obtain ⟨v4, stc, rfl, g4, hst4⟩ := xSR_cons hst3
    obtain ⟨v5, stc, rfl, g5, hst⟩ := xSR_cons hst4
    cases g1; cases g2; cases g3; cases g4; cases g5
    obtain ⟨fs, hfs, hat, ty1, ht1, hfit1⟩ := xarr (hI.2.2.2.1.2 o c1 hc1) (by omega)
    obtain ⟨gs, hgs, hat2, ty2, ht2, -⟩ := xarr (hI.2.2.2.1.2 d c2 hc2) (by omega)
    rw [k1] at hat ht1
    rw [k2] at hat2 ht2
    have et : ty1 = .int := Option.some.inj (ht1.symm.trans hty)
    subst et
    have lf : fs.length = n := by rw [hfs.1, l1]
    have lg : gs.length = n := by rw [hgs.1, l2]
    have X0 := X
    obtain ⟨hx, hbc, hml, _, _, _, hown, hts, _, _, hKA⟩ := X
    have hsize : ls.size = me.2.2.1 := by obtain ⟨lvc, hl, -⟩ := hI.2.1; exact hl.1
    have hcl := xclamp (show n < 2147483648 by omega)
    have hz : (nI 0) = (0 : Int32) := rfl
    obtain ⟨-, k0, hk0, cm0, hkk0⟩ := (hKA.1 _ _ hty).1 fs.length (vp_V fs)
    obtain ⟨-, k1', hk1, cm1, hkk1⟩ := (hKA.1 _ _ hty).1 gs.length (vp_V gs)
    intro T hT S
    rw [hz]
    have hni : (nI n).toInt = (n : Int) := nI_toInt (by omega)
    obtain ⟨vm', X', step⟩ := S.arraycopy hx hown (hts _ (List.mem_cons_of_mem _ h1)) (hts _ (List.mem_cons_of_mem _ h2)) (hts _ (List.mem_cons_of_mem _ h3)) (hts _ (List.mem_cons_of_mem _ h4)) (src := base + o) (dst := base + d) (cs := arrV (dA (100 - 100)) fs.length (vp_V fs)) (cd := arrV (dA (100 - 100)) gs.length (vp_V gs)) (srcPos := 0) (destPos := 0) (n := nI n) (by rw [hT]; exact hat) (by rw [hT]; exact hat2)
      (fun _ h => by cases h) (fun _ h => by cases h) (fun h => by cases h) (fun h => by cases h) hk0 hk1 hkk0 hkk1 (by decide) (by decide) (by decide) (xneg (by omega))
      (by rw [hni, arrV_size, lf, Int32.toInt_zero]; omega)
      (by rw [hni, arrV_size, lg, Int32.toInt_zero]; omega)
      (fun vm₁ _ i hi => by
        have hil : i < fs.length := by rw [lf, ← hcl]; exact hi
        have ee : (arrV (dA (100 - 100)) fs.length (vp_V fs)).slots.getD ((0 : Int32).toNatClampNeg + i) .null = vp_V fs i := by
          rw [show (0 : Int32).toNatClampNeg + i = i by rw [sb_cl0]; omega, Array.getD_eq_getD_getElem?, arrV_read _ _ hil]
          rfl
        have hmem : vp_V fs i ∈ fs := by
          unfold vp_V
          rw [List.getD_eq_getElem?_getD, List.getElem?_eq_getElem hil]
          exact List.getElem_mem hil
        have hfi := hfit1 _ hmem
        rw [ee]
        refine ⟨hfi, ?_⟩
        generalize vp_V fs i = w at hfi
        cases w <;> first | trivial | exact absurd hfi (by simp [fits]))
      (g := F0 m pc ls (.int (nI n) :: .int 0 :: .ref (base + d) :: .int 0 :: .ref (base + o) :: stc)) rfl (by rw [hml]; exact hsize) (rest := stc) rfl (by rw [hbc]; exact hd) hf (by
        have q := (xcats_of hst).1
        have hw : nativeFrameWords "java/lang/System" "arraycopy" 5 + 11 ≤ 64 := by decide +kernel
        show 2 * 0 + _ + _ ≤ _
        omega)
    rw [xcopied (by rw [lf, lg]) _ (by rw [hcl, lf])] at X' step
    have hlt : base + d < H.size := (Array.getElem?_eq_some_iff.mp hat2).1
    generalize hH1 : ((T.setVm vm').setCell (base + d) (arrV (dA (100 - 100)) fs.length (vp_V fs))).heap = H1
    have hH2 : H1 = H.setIfInBounds (base + d) (arrV (dA (100 - 100)) fs.length (vp_V fs)) := by rw [← hH1, ← hT]; rfl
    have q1 : H1[base + d]? = some (arrV (dA (100 - 100)) fs.length (vp_V fs)) := by rw [hH2]; simp [Array.getElem?_setIfInBounds, hlt]
    have q2 : H1.size = H.size := by rw [hH2]; simp
    have q3 : ∀ q : Nat, q ≠ base + d → H1[q]? = H[q]? := fun q hq => by rw [hH2]; simp [Array.getElem?_setIfInBounds, Ne.symm hq]
    have g := IH me cs (lv, st, env, hp', nn, uc, us) k (pc + 3) hme h hok hn p e s m args below meth c X0 H1 (locs ++ ((arrV (dA (100 - 100)) fs.length (vp_V fs)).stretch (0 : Int32).toNatClampNeg (nI n).toNatClampNeg).zipIdx.map fun q => ⟨base + d, (0 : Int32).toNatClampNeg + q.2⟩) ls stc ⟨hI.1, hI.2.1, hst, hI.2.2.2.1.put (c := (100, n, c1.2.2)) (hI.2.2.2.1.1.2.1 d c2 hc2) q2 q3 ⟨fs, by rw [← l1]; exact hfs, Or.inr ⟨Nat.le_refl _, q1, _, ht1, hfit1⟩⟩ r1 r2, hI.2.2.2.2⟩ (xSput hL (hI.2.2.2.1.1.2.1 d c2 hc2) q2 q3 (fun l hl => by
      obtain ⟨z, -, hz⟩ := List.mem_map.mp hl
      rw [← hz]))
    obtain ⟨t, a1, b1⟩ := g _ hH1 X'
    exact ⟨t, step t a1, b1⟩
end XJ

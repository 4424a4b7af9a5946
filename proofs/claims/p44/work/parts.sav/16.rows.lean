set_option linter.all false
/-! rows of the instructions: stores, arithmetic, stack, branches (written by gen16.py) -/
section XR
variable {ρ : Nat → Int32} {base : Nat} {F : Nat → Prop} {Ts Ns : List Jvm.Cond} {cl : List vw_C} {tys : List FieldType} {D : va_G} {dA : Nat → ClassId} {la : Launch} {okc : xM → List xI → Bool} {Ms : List xM} {ih : xIh} {me : xM} {cs : List xI} {a b : Nat} {l : List Nat} {A : xA} {k : xK} {pc : Nat}
theorem xand {a b : Bool} (h : Bool.and a b = true) : a = true ∧ b = true := by cases a <;> cases b <;> simp_all
theorem xl_istore (IH : xIH ρ base F Ts Ns cl tys D dA la okc Ms ih) (hme : me ∈ Ms) (hok : okc me cs = true) (hn : xatp (pc + 2) cs) (hd : decode me.2.1 pc = .ok (.istore a, 2)) (hb : b = 0) (ha : a < me.2.2.1) (h : xo_store ih me cs a b l A k = true) : xGd ρ base F Ts Ns cl tys D dA la me pc A k := by
  subst hb
  obtain ⟨lv, st, r⟩ := A
  cases st with
  | nil => exact absurd h (by simp [xo_store])
  | cons v st =>
    unfold xo_store at h
    obtain ⟨hk, h⟩ := xcond h
    have h := xfil_of h
    intro p e s m args below meth c C H locs ls stc hI hL
    obtain ⟨w, stc, rfl, hw, hst⟩ := xSR_cons hI.2.2.1
    obtain ⟨z, rfl⟩ := xg_int hw (Nat.eq_of_beq_eq_true hk)
    obtain ⟨lvc, hl, hlr⟩ := hI.2.1
    refine lv_istore C.1 C.2.1 hd hl ha rfl (fun ls' hl' => ?_)
    exact IH me cs _ k (pc + 2) hme h hok hn p e s m args below meth c C H locs ls' stc ⟨hI.1, ⟨_, hl', ⟨⟨rfl, hw⟩, xLR_fil hlr⟩⟩, hst, hI.2.2.2⟩ hL
theorem xl_istore_n {i : Fin 4} (IH : xIH ρ base F Ts Ns cl tys D dA la okc Ms ih) (hme : me ∈ Ms) (hok : okc me cs = true) (hn : xatp (pc + 1) cs) (hd : decode me.2.1 pc = .ok (.istore_n i, 1)) (hi : (i : Nat) = a) (hb : b = 0) (ha : a < me.2.2.1) (h : xo_store ih me cs a b l A k = true) : xGd ρ base F Ts Ns cl tys D dA la me pc A k := by
  subst hb
  obtain ⟨lv, st, r⟩ := A
  cases st with
  | nil => exact absurd h (by simp [xo_store])
  | cons v st =>
    unfold xo_store at h
    obtain ⟨hk, h⟩ := xcond h
    have h := xfil_of h
    intro p e s m args below meth c C H locs ls stc hI hL
    obtain ⟨w, stc, rfl, hw, hst⟩ := xSR_cons hI.2.2.1
    obtain ⟨z, rfl⟩ := xg_int hw (Nat.eq_of_beq_eq_true hk)
    obtain ⟨lvc, hl, hlr⟩ := hI.2.1
    refine lv_istore_n C.1 C.2.1 hd hi hl ha rfl (fun ls' hl' => ?_)
    exact IH me cs _ k (pc + 1) hme h hok hn p e s m args below meth c C H locs ls' stc ⟨hI.1, ⟨_, hl', ⟨⟨rfl, hw⟩, xLR_fil hlr⟩⟩, hst, hI.2.2.2⟩ hL
theorem xl_lstore (IH : xIH ρ base F Ts Ns cl tys D dA la okc Ms ih) (hme : me ∈ Ms) (hok : okc me cs = true) (hn : xatp (pc + 2) cs) (hd : decode me.2.1 pc = .ok (.lstore a, 2)) (hb : b = 2) (ha : a + 1 < me.2.2.1) (h : xo_store ih me cs a b l A k = true) : xGd ρ base F Ts Ns cl tys D dA la me pc A k := by
  subst hb
  obtain ⟨lv, st, r⟩ := A
  cases st with
  | nil => exact absurd h (by simp [xo_store])
  | cons v st =>
    unfold xo_store at h
    obtain ⟨hk, h⟩ := xcond h
    have h := xfil_of h
    intro p e s m args below meth c C H locs ls stc hI hL
    obtain ⟨w, stc, rfl, hw, hst⟩ := xSR_cons hI.2.2.1
    obtain ⟨z, rfl⟩ := xg_long hw (Nat.eq_of_beq_eq_true hk)
    obtain ⟨lvc, hl, hlr⟩ := hI.2.1
    refine lv_lstore C.1 C.2.1 hd hl ha rfl (fun ls' hl' => ?_)
    exact IH me cs _ k (pc + 2) hme h hok hn p e s m args below meth c C H locs ls' stc ⟨hI.1, ⟨_, hl', ⟨⟨rfl, hw⟩, xLR_filL hlr⟩⟩, hst, hI.2.2.2⟩ hL
theorem xl_lstore_n {i : Fin 4} (IH : xIH ρ base F Ts Ns cl tys D dA la okc Ms ih) (hme : me ∈ Ms) (hok : okc me cs = true) (hn : xatp (pc + 1) cs) (hd : decode me.2.1 pc = .ok (.lstore_n i, 1)) (hi : (i : Nat) = a) (hb : b = 2) (ha : a + 1 < me.2.2.1) (h : xo_store ih me cs a b l A k = true) : xGd ρ base F Ts Ns cl tys D dA la me pc A k := by
  subst hb
  obtain ⟨lv, st, r⟩ := A
  cases st with
  | nil => exact absurd h (by simp [xo_store])
  | cons v st =>
    unfold xo_store at h
    obtain ⟨hk, h⟩ := xcond h
    have h := xfil_of h
    intro p e s m args below meth c C H locs ls stc hI hL
    obtain ⟨w, stc, rfl, hw, hst⟩ := xSR_cons hI.2.2.1
    obtain ⟨z, rfl⟩ := xg_long hw (Nat.eq_of_beq_eq_true hk)
    obtain ⟨lvc, hl, hlr⟩ := hI.2.1
    refine lv_lstore_n C.1 C.2.1 hd hi hl ha rfl (fun ls' hl' => ?_)
    exact IH me cs _ k (pc + 1) hme h hok hn p e s m args below meth c C H locs ls' stc ⟨hI.1, ⟨_, hl', ⟨⟨rfl, hw⟩, xLR_filL hlr⟩⟩, hst, hI.2.2.2⟩ hL
theorem xl_astore (IH : xIH ρ base F Ts Ns cl tys D dA la okc Ms ih) (hme : me ∈ Ms) (hok : okc me cs = true) (hn : xatp (pc + 2) cs) (hd : decode me.2.1 pc = .ok (.astore a, 2)) (hb : b = 1) (ha : a < me.2.2.1) (h : xo_store ih me cs a b l A k = true) : xGd ρ base F Ts Ns cl tys D dA la me pc A k := by
  subst hb
  obtain ⟨lv, st, r⟩ := A
  cases st with
  | nil => exact absurd h (by simp [xo_store])
  | cons v st =>
    unfold xo_store at h
    obtain ⟨hk, h⟩ := xcond h
    have h := xfil_of h
    intro p e s m args below meth c C H locs ls stc hI hL
    obtain ⟨w, stc, rfl, hw, hst⟩ := xSR_cons hI.2.2.1
    obtain ⟨lvc, hl, hlr⟩ := hI.2.1
    rcases xg_ref hw (Nat.eq_of_beq_eq_true hk) with rfl | ⟨z, rfl⟩
    · refine lv_astoreN C.1 C.2.1 hd hl ha rfl (fun ls' hl' => ?_)
      exact IH me cs _ k (pc + 2) hme h hok hn p e s m args below meth c C H locs ls' stc ⟨hI.1, ⟨_, hl', ⟨⟨rfl, hw⟩, xLR_filR hlr⟩⟩, hst, hI.2.2.2⟩ hL
    · refine lv_astore C.1 C.2.1 hd hl ha rfl (fun ls' hl' => ?_)
      exact IH me cs _ k (pc + 2) hme h hok hn p e s m args below meth c C H locs ls' stc ⟨hI.1, ⟨_, hl', ⟨⟨rfl, hw⟩, xLR_filR hlr⟩⟩, hst, hI.2.2.2⟩ hL
theorem xl_astore_n {i : Fin 4} (IH : xIH ρ base F Ts Ns cl tys D dA la okc Ms ih) (hme : me ∈ Ms) (hok : okc me cs = true) (hn : xatp (pc + 1) cs) (hd : decode me.2.1 pc = .ok (.astore_n i, 1)) (hi : (i : Nat) = a) (hb : b = 1) (ha : a < me.2.2.1) (h : xo_store ih me cs a b l A k = true) : xGd ρ base F Ts Ns cl tys D dA la me pc A k := by
  subst hb
  obtain ⟨lv, st, r⟩ := A
  cases st with
  | nil => exact absurd h (by simp [xo_store])
  | cons v st =>
    unfold xo_store at h
    obtain ⟨hk, h⟩ := xcond h
    have h := xfil_of h
    intro p e s m args below meth c C H locs ls stc hI hL
    obtain ⟨w, stc, rfl, hw, hst⟩ := xSR_cons hI.2.2.1
    obtain ⟨lvc, hl, hlr⟩ := hI.2.1
    rcases xg_ref hw (Nat.eq_of_beq_eq_true hk) with rfl | ⟨z, rfl⟩
    · refine lv_astore_nN C.1 C.2.1 hd hi hl ha rfl (fun ls' hl' => ?_)
      exact IH me cs _ k (pc + 1) hme h hok hn p e s m args below meth c C H locs ls' stc ⟨hI.1, ⟨_, hl', ⟨⟨rfl, hw⟩, xLR_filR hlr⟩⟩, hst, hI.2.2.2⟩ hL
    · refine lv_astore_n C.1 C.2.1 hd hi hl ha rfl (fun ls' hl' => ?_)
      exact IH me cs _ k (pc + 1) hme h hok hn p e s m args below meth c C H locs ls' stc ⟨hI.1, ⟨_, hl', ⟨⟨rfl, hw⟩, xLR_filR hlr⟩⟩, hst, hI.2.2.2⟩ hL
theorem xl_iinc {i : Int} (IH : xIH ρ base F Ts Ns cl tys D dA la okc Ms ih) (hme : me ∈ Ms) (hok : okc me cs = true) (hn : xatp (pc + 3) cs) (hd : decode me.2.1 pc = .ok (.iinc a i, 3)) (hi : Int32.ofInt i = nI b) (ha : a < me.2.2.1) (h : xo_iinc ih me cs a b l A k = true) : xGd ρ base F Ts Ns cl tys D dA la me pc A k := by
  obtain ⟨lv, st, env, r⟩ := A
  unfold xo_iinc at h
  obtain ⟨j, x, hx, h⟩ := xfind_of h
  intro p e s m args below meth c C H locs ls stc hI hL
  obtain ⟨lvc, hl, hlr⟩ := hI.2.1
  obtain ⟨v, hv, hg⟩ := xLR_get hlr hx
  obtain ⟨z, rfl, h⟩ := xci_of hI.1 hg h
  refine lv_iinc C.1 C.2.1 hd hl hv rfl ha rfl (fun ls' hl' => ?_)
  rcases h with ⟨env', u, he, hz, h⟩ | h
  · have h := xfil_of (xfN_of h)
    exact IH me cs _ k (pc + 3) hme h hok hn p e s m args below meth c C H locs ls' stc ⟨he, ⟨_, hl', ⟨⟨rfl, by show _ = Value.int (nI (xioc 0 u b)); rw [xioc_of, hz, hi]; rfl⟩, xLR_fil hlr⟩⟩, hI.2.2.1, hI.2.2.2⟩ hL
  · have h := xfil_of h
    exact IH me cs _ k (pc + 3) hme h hok hn p e s m args below meth c C H locs ls' stc ⟨hI.1, ⟨_, hl', ⟨⟨rfl, by rw [hi]; exact xsum_of hI.1.1 hg rfl⟩, xLR_fil hlr⟩⟩, hI.2.2.1, hI.2.2.2⟩ hL
theorem xcond3 {a b x y z : Bool} (h : cond a x (cond b y z) = true) : (a = true ∧ x = true) ∨ (b = true ∧ y = true) ∨ z = true := by cases a <;> cases b <;> simp_all
theorem xz_of {x : xV} {v : Value} (h : xz x = true) (hg : xg ρ base x v) : v = .int 0 := by
  match x, h, hg with
  | .inl u, h, hg =>
    have e := Nat.eq_of_beq_eq_true h
    subst e
    exact hg
  | .inr _, h, _ => exact absurd h (by simp [xz])
/-- a two-operand int instruction, its row given -/
theorem xl_ibin0 {len : Nat} (IH : xIH ρ base F Ts Ns cl tys D dA la okc Ms ih) (hme : me ∈ Ms) (hok : okc me cs = true) (hn : xatp (pc + len) cs) (h : xo_ibin ih me cs a b l A k = true)
    {p : Program} {e : Env} {s : State} {m : MethodId} {args : Array Value} {below : List Frame} {meth : Method} {c : Code} (C : xCx Ts Ns cl tys D dA p s m args meth c me) {H : Heap} {locs : List Loc} {ls : Array Slot} {stc : List Value} (hI : xIn ρ base F D dA tys cl me A H ls stc) (hL : va_S F s.heap H locs) :
    ∃ (x y : Int32) (rest : List Value), stc = .int y :: .int x :: rest ∧ W p la e (xR me) s m args below meth c H locs A.2.2.2.2.2.1 A.2.2.2.2.2.2 (MQ below (xQ ρ base F D dA tys cl k) args s (xR me).cells (xR me).slots F) (F0 m (pc + len) ls (.int (xio a x y) :: rest)) := by
  match A, h, hI with
  | (lv, y :: x :: st, env, r), h, hI =>
    unfold xo_ibin at h
    obtain ⟨vy, stc, rfl, hy, hst0⟩ := xSR_cons hI.2.2.1
    obtain ⟨vx, stc, rfl, hx, hst⟩ := xSR_cons hst0
    rcases xcond3 h with ⟨hz, h⟩ | ⟨hz, h⟩ | h
    · obtain ⟨x', rfl⟩ := xg_int hx (Nat.eq_of_beq_eq_true (xand (xand hz).2).2)
      have ey := xz_of (xand (xand hz).2).1 hy
      subst ey
      refine ⟨x', 0, stc, rfl, ?_⟩
      rw [Nat.eq_of_beq_eq_true (xand hz).1, show xio 0 x' 0 = x' from Int32.add_zero x']
      exact IH me cs _ k (pc + len) hme h hok hn p e s m args below meth c C H locs ls _ ⟨hI.1, hI.2.1, ⟨hx, hst⟩, hI.2.2.2⟩ hL
    · obtain ⟨y', rfl⟩ := xg_int hy (Nat.eq_of_beq_eq_true (xand (xand hz).2).2)
      have ex := xz_of (xand (xand hz).2).1 hx
      subst ex
      refine ⟨0, y', stc, rfl, ?_⟩
      rw [Nat.eq_of_beq_eq_true (xand hz).1, show xio 0 0 y' = y' from Int32.zero_add y']
      exact IH me cs _ k (pc + len) hme h hok hn p e s m args below meth c C H locs ls _ ⟨hI.1, hI.2.1, ⟨hy, hst⟩, hI.2.2.2⟩ hL
    obtain ⟨x', rfl, h⟩ := xci_of hI.1 hx h
    rcases h with ⟨env', u, he, hu, h⟩ | h
    · obtain ⟨y', rfl, h⟩ := xci_of he hy h
      rcases h with ⟨env', v, he, hv, h⟩ | h
      · exact ⟨x', y', stc, rfl, IH me cs _ k (pc + len) hme (xfN_of h) hok hn p e s m args below meth c C H locs ls _ ⟨he, hI.2.1, ⟨by show _ = Value.int (nI (xioc a u v)); rw [xioc_of, hu, hv], hst⟩, hI.2.2.2⟩ hL⟩
      · exact ⟨x', y', stc, rfl, IH me cs _ k (pc + len) hme h hok hn p e s m args below meth c C H locs ls _ ⟨he, hI.2.1, ⟨xsum_of he.1 (by rw [hu]; exact rfl) hy, hst⟩, hI.2.2.2⟩ hL⟩
    · obtain ⟨hk, h⟩ := xcond h
      obtain ⟨y', rfl⟩ := xg_int hy (Nat.eq_of_beq_eq_true hk)
      exact ⟨x', y', stc, rfl, IH me cs _ k (pc + len) hme h hok hn p e s m args below meth c C H locs ls _ ⟨hI.1, hI.2.1, ⟨xsum_of hI.1.1 hx hy, hst⟩, hI.2.2.2⟩ hL⟩
  | (lv, [], env, r), h, hI => exact absurd h (by simp [xo_ibin])
  | (lv, [_], env, r), h, hI => exact absurd h (by simp [xo_ibin])
theorem xl_iadd (IH : xIH ρ base F Ts Ns cl tys D dA la okc Ms ih) (hme : me ∈ Ms) (hok : okc me cs = true) (hn : xatp (pc + 1) cs) (hd : decode me.2.1 pc = .ok (.iadd, 1)) (ha : a = 0) (h : xo_ibin ih me cs a b l A k = true) : xGd ρ base F Ts Ns cl tys D dA la me pc A k := by
  subst ha
  intro p e s m args below meth c C H locs ls stc hI hL
  obtain ⟨x, y, rest, rfl, g⟩ := xl_ibin0 IH hme hok hn h C hI hL
  exact lv_iadd C.1 C.2.1 hd g
theorem xl_isub (IH : xIH ρ base F Ts Ns cl tys D dA la okc Ms ih) (hme : me ∈ Ms) (hok : okc me cs = true) (hn : xatp (pc + 1) cs) (hd : decode me.2.1 pc = .ok (.isub, 1)) (ha : a = 1) (h : xo_ibin ih me cs a b l A k = true) : xGd ρ base F Ts Ns cl tys D dA la me pc A k := by
  subst ha
  intro p e s m args below meth c C H locs ls stc hI hL
  obtain ⟨x, y, rest, rfl, g⟩ := xl_ibin0 IH hme hok hn h C hI hL
  exact lv_isub C.1 C.2.1 hd g
theorem xl_imul (IH : xIH ρ base F Ts Ns cl tys D dA la okc Ms ih) (hme : me ∈ Ms) (hok : okc me cs = true) (hn : xatp (pc + 1) cs) (hd : decode me.2.1 pc = .ok (.imul, 1)) (ha : a = 2) (h : xo_ibin ih me cs a b l A k = true) : xGd ρ base F Ts Ns cl tys D dA la me pc A k := by
  subst ha
  intro p e s m args below meth c C H locs ls stc hI hL
  obtain ⟨x, y, rest, rfl, g⟩ := xl_ibin0 IH hme hok hn h C hI hL
  exact lv_imul C.1 C.2.1 hd g
theorem xl_iand (IH : xIH ρ base F Ts Ns cl tys D dA la okc Ms ih) (hme : me ∈ Ms) (hok : okc me cs = true) (hn : xatp (pc + 1) cs) (hd : decode me.2.1 pc = .ok (.iand, 1)) (ha : a = 3) (h : xo_ibin ih me cs a b l A k = true) : xGd ρ base F Ts Ns cl tys D dA la me pc A k := by
  subst ha
  intro p e s m args below meth c C H locs ls stc hI hL
  obtain ⟨x, y, rest, rfl, g⟩ := xl_ibin0 IH hme hok hn h C hI hL
  exact lv_iand C.1 C.2.1 hd g
theorem xl_ior (IH : xIH ρ base F Ts Ns cl tys D dA la okc Ms ih) (hme : me ∈ Ms) (hok : okc me cs = true) (hn : xatp (pc + 1) cs) (hd : decode me.2.1 pc = .ok (.ior, 1)) (ha : a = 4) (h : xo_ibin ih me cs a b l A k = true) : xGd ρ base F Ts Ns cl tys D dA la me pc A k := by
  subst ha
  intro p e s m args below meth c C H locs ls stc hI hL
  obtain ⟨x, y, rest, rfl, g⟩ := xl_ibin0 IH hme hok hn h C hI hL
  exact lv_ior C.1 C.2.1 hd g
theorem xl_ixor (IH : xIH ρ base F Ts Ns cl tys D dA la okc Ms ih) (hme : me ∈ Ms) (hok : okc me cs = true) (hn : xatp (pc + 1) cs) (hd : decode me.2.1 pc = .ok (.ixor, 1)) (ha : a = 5) (h : xo_ibin ih me cs a b l A k = true) : xGd ρ base F Ts Ns cl tys D dA la me pc A k := by
  subst ha
  intro p e s m args below meth c C H locs ls stc hI hL
  obtain ⟨x, y, rest, rfl, g⟩ := xl_ibin0 IH hme hok hn h C hI hL
  exact lv_ixor C.1 C.2.1 hd g
theorem xl_ishl (IH : xIH ρ base F Ts Ns cl tys D dA la okc Ms ih) (hme : me ∈ Ms) (hok : okc me cs = true) (hn : xatp (pc + 1) cs) (hd : decode me.2.1 pc = .ok (.ishl, 1)) (ha : a = 6) (h : xo_ibin ih me cs a b l A k = true) : xGd ρ base F Ts Ns cl tys D dA la me pc A k := by
  subst ha
  intro p e s m args below meth c C H locs ls stc hI hL
  obtain ⟨x, y, rest, rfl, g⟩ := xl_ibin0 IH hme hok hn h C hI hL
  exact lv_ishl C.1 C.2.1 hd g
theorem xl_ishr (IH : xIH ρ base F Ts Ns cl tys D dA la okc Ms ih) (hme : me ∈ Ms) (hok : okc me cs = true) (hn : xatp (pc + 1) cs) (hd : decode me.2.1 pc = .ok (.ishr, 1)) (ha : a = 7) (h : xo_ibin ih me cs a b l A k = true) : xGd ρ base F Ts Ns cl tys D dA la me pc A k := by
  subst ha
  intro p e s m args below meth c C H locs ls stc hI hL
  obtain ⟨x, y, rest, rfl, g⟩ := xl_ibin0 IH hme hok hn h C hI hL
  exact lv_ishr C.1 C.2.1 hd g
theorem xl_iushr (IH : xIH ρ base F Ts Ns cl tys D dA la okc Ms ih) (hme : me ∈ Ms) (hok : okc me cs = true) (hn : xatp (pc + 1) cs) (hd : decode me.2.1 pc = .ok (.iushr, 1)) (ha : a = 8) (h : xo_ibin ih me cs a b l A k = true) : xGd ρ base F Ts Ns cl tys D dA la me pc A k := by
  subst ha
  intro p e s m args below meth c C H locs ls stc hI hL
  obtain ⟨x, y, rest, rfl, g⟩ := xl_ibin0 IH hme hok hn h C hI hL
  exact lv_iushr C.1 C.2.1 hd rfl g
theorem xdv_of {a u v : Nat} (ha : a < 2) (hv : ¬ v % 4294967296 = 0) : nI (xdvc a u v) = xdv a (nI u) (nI v) := by
  unfold xdvc
  by_cases c : Bool.and (Nat.blt u 2147483648) (Nat.blt v 2147483648) = true
  · rw [c]
    have c1 : Nat.blt u 2147483648 = true := by revert c; cases Nat.blt u 2147483648 <;> simp
    have c2 : Nat.blt v 2147483648 = true := by revert c; cases Nat.blt v 2147483648 <;> simp
    have c1 := xblt.mp c1
    have c2 := xblt.mp c2
    have h0 : 0 < v := by
      rcases Nat.eq_zero_or_pos v with q | q
      · exact absurd (by rw [q]) hv
      · exact q
    match a, ha with
    | 0, _ => show nI (u / v) = nI u / nI v; rw [pk_div c1 h0 c2]
    | 1, _ => show nI (u % v) = nI u - nI u / nI v * nI v; rw [pk_rem c1 h0 c2]
  · have c : Bool.and (Nat.blt u 2147483648) (Nat.blt v 2147483648) = false := xnf c
    rw [c]
    exact xn_code _
theorem xl_idiv0 {len : Nat} (IH : xIH ρ base F Ts Ns cl tys D dA la okc Ms ih) (hme : me ∈ Ms) (hok : okc me cs = true) (hn : xatp (pc + len) cs) (ha : a < 2) (h : xo_idiv ih me cs a b l A k = true)
    {p : Program} {e : Env} {s : State} {m : MethodId} {args : Array Value} {below : List Frame} {meth : Method} {c : Code} (C : xCx Ts Ns cl tys D dA p s m args meth c me) {H : Heap} {locs : List Loc} {ls : Array Slot} {stc : List Value} (hI : xIn ρ base F D dA tys cl me A H ls stc) (hL : va_S F s.heap H locs) :
    ∃ (x y : Int32) (rest : List Value), stc = .int y :: .int x :: rest ∧ ¬ y = 0 ∧ W p la e (xR me) s m args below meth c H locs A.2.2.2.2.2.1 A.2.2.2.2.2.2 (MQ below (xQ ρ base F D dA tys cl k) args s (xR me).cells (xR me).slots F) (F0 m (pc + len) ls (.int (xdv a x y) :: rest)) := by
  match A, h, hI with
  | (lv, y :: x :: st, env, r), h, hI =>
    unfold xo_idiv at h
    obtain ⟨vy, stc, rfl, hy, hst0⟩ := xSR_cons hI.2.2.1
    obtain ⟨vx, stc, rfl, hx, hst⟩ := xSR_cons hst0
    obtain ⟨y', rfl, h⟩ := xci_of hI.1 hy h
    rcases h with ⟨env', v, he, hv, h⟩ | h
    · obtain ⟨c0, h⟩ := xcondn h
      · have hne : ¬ v % 4294967296 = 0 := fun q => by
          have : Nat.beq (v % 4294967296) 0 = true := by rw [q]; rfl
          rw [show Nat.beq (v % 4294967296) 0 = false from c0] at this
          cases this
        have hy0 : ¬ y' = 0 := fun q => hne (by have := xn_tn v; rw [← hv, q] at this; exact this.symm)
        obtain ⟨x', rfl, h⟩ := xci_of he hx h
        rcases h with ⟨env', u, he, hu, h⟩ | h
        · exact ⟨x', y', stc, rfl, hy0, IH me cs _ k (pc + len) hme (xfN_of h) hok hn p e s m args below meth c C H locs ls _ ⟨he, hI.2.1, ⟨by show _ = Value.int (nI (xdvc a u v)); rw [xdv_of ha hne, hu, hv], hst⟩, hI.2.2.2⟩ hL⟩
        · exact ⟨x', y', stc, rfl, hy0, IH me cs _ k (pc + len) hme h hok hn p e s m args below meth c C H locs ls _ ⟨he, hI.2.1, ⟨⟨_, rfl⟩, hst⟩, hI.2.2.2⟩ hL⟩
    · exact absurd h (by simp)
  | (lv, [], env, r), h, hI => exact absurd h (by simp [xo_idiv])
  | (lv, [_], env, r), h, hI => exact absurd h (by simp [xo_idiv])
theorem xl_idiv (IH : xIH ρ base F Ts Ns cl tys D dA la okc Ms ih) (hme : me ∈ Ms) (hok : okc me cs = true) (hn : xatp (pc + 1) cs) (hd : decode me.2.1 pc = .ok (.idiv, 1)) (ha : a = 0) (h : xo_idiv ih me cs a b l A k = true) : xGd ρ base F Ts Ns cl tys D dA la me pc A k := by
  subst ha
  intro p e s m args below meth c C H locs ls stc hI hL
  obtain ⟨x, y, rest, rfl, h0, g⟩ := xl_idiv0 IH hme hok hn (by decide) h C hI hL
  exact lv_idiv C.1 C.2.1 hd h0 g
theorem xl_irem (IH : xIH ρ base F Ts Ns cl tys D dA la okc Ms ih) (hme : me ∈ Ms) (hok : okc me cs = true) (hn : xatp (pc + 1) cs) (hd : decode me.2.1 pc = .ok (.irem, 1)) (ha : a = 1) (h : xo_idiv ih me cs a b l A k = true) : xGd ρ base F Ts Ns cl tys D dA la me pc A k := by
  subst ha
  intro p e s m args below meth c C H locs ls stc hI hL
  obtain ⟨x, y, rest, rfl, h0, g⟩ := xl_idiv0 IH hme hok hn (by decide) h C hI hL
  exact lv_irem C.1 C.2.1 hd h0 g
theorem xl_iun0 {len : Nat} (IH : xIH ρ base F Ts Ns cl tys D dA la okc Ms ih) (hme : me ∈ Ms) (hok : okc me cs = true) (hn : xatp (pc + len) cs) (h : xo_iun ih me cs a b l A k = true)
    {p : Program} {e : Env} {s : State} {m : MethodId} {args : Array Value} {below : List Frame} {meth : Method} {c : Code} (C : xCx Ts Ns cl tys D dA p s m args meth c me) {H : Heap} {locs : List Loc} {ls : Array Slot} {stc : List Value} (hI : xIn ρ base F D dA tys cl me A H ls stc) (hL : va_S F s.heap H locs) :
    ∃ (x : Int32) (rest : List Value), stc = .int x :: rest ∧ W p la e (xR me) s m args below meth c H locs A.2.2.2.2.2.1 A.2.2.2.2.2.2 (MQ below (xQ ρ base F D dA tys cl k) args s (xR me).cells (xR me).slots F) (F0 m (pc + len) ls (.int (xiu a x) :: rest)) := by
  match A, h, hI with
  | (lv, x :: st, env, r), h, hI =>
    unfold xo_iun at h
    obtain ⟨vx, stc, rfl, hx, hst⟩ := xSR_cons hI.2.2.1
    obtain ⟨x', rfl, h⟩ := xci_of hI.1 hx h
    rcases h with ⟨env', u, he, hu, h⟩ | h
    · exact ⟨x', stc, rfl, IH me cs _ k (pc + len) hme (xfN_of h) hok hn p e s m args below meth c C H locs ls _ ⟨he, hI.2.1, ⟨by show _ = Value.int (nI (xcode (xiu a (nI u)))); rw [xn_code, hu], hst⟩, hI.2.2.2⟩ hL⟩
    · exact ⟨x', stc, rfl, IH me cs _ k (pc + len) hme h hok hn p e s m args below meth c C H locs ls _ ⟨hI.1, hI.2.1, ⟨⟨_, rfl⟩, hst⟩, hI.2.2.2⟩ hL⟩
  | (lv, [], env, r), h, hI => exact absurd h (by simp [xo_iun])
theorem xl_ineg (IH : xIH ρ base F Ts Ns cl tys D dA la okc Ms ih) (hme : me ∈ Ms) (hok : okc me cs = true) (hn : xatp (pc + 1) cs) (hd : decode me.2.1 pc = .ok (.ineg, 1)) (ha : a = 0) (h : xo_iun ih me cs a b l A k = true) : xGd ρ base F Ts Ns cl tys D dA la me pc A k := by
  subst ha
  intro p e s m args below meth c C H locs ls stc hI hL
  obtain ⟨x, rest, rfl, g⟩ := xl_iun0 IH hme hok hn h C hI hL
  exact lv_ineg C.1 C.2.1 hd g
theorem xl_i2b (IH : xIH ρ base F Ts Ns cl tys D dA la okc Ms ih) (hme : me ∈ Ms) (hok : okc me cs = true) (hn : xatp (pc + 1) cs) (hd : decode me.2.1 pc = .ok (.i2b, 1)) (ha : a = 1) (h : xo_iun ih me cs a b l A k = true) : xGd ρ base F Ts Ns cl tys D dA la me pc A k := by
  subst ha
  intro p e s m args below meth c C H locs ls stc hI hL
  obtain ⟨x, rest, rfl, g⟩ := xl_iun0 IH hme hok hn h C hI hL
  exact lv_i2b C.1 C.2.1 hd rfl g
theorem xl_i2s (IH : xIH ρ base F Ts Ns cl tys D dA la okc Ms ih) (hme : me ∈ Ms) (hok : okc me cs = true) (hn : xatp (pc + 1) cs) (hd : decode me.2.1 pc = .ok (.i2s, 1)) (ha : a = 2) (h : xo_iun ih me cs a b l A k = true) : xGd ρ base F Ts Ns cl tys D dA la me pc A k := by
  subst ha
  intro p e s m args below meth c C H locs ls stc hI hL
  obtain ⟨x, rest, rfl, g⟩ := xl_iun0 IH hme hok hn h C hI hL
  exact lv_i2s C.1 C.2.1 hd rfl g
theorem xl_i2c (IH : xIH ρ base F Ts Ns cl tys D dA la okc Ms ih) (hme : me ∈ Ms) (hok : okc me cs = true) (hn : xatp (pc + 1) cs) (hd : decode me.2.1 pc = .ok (.i2c, 1)) (ha : a = 3) (h : xo_iun ih me cs a b l A k = true) : xGd ρ base F Ts Ns cl tys D dA la me pc A k := by
  subst ha
  intro p e s m args below meth c C H locs ls stc hI hL
  obtain ⟨x, rest, rfl, g⟩ := xl_iun0 IH hme hok hn h C hI hL
  exact lv_i2c C.1 C.2.1 hd rfl g
theorem xl_i2l (IH : xIH ρ base F Ts Ns cl tys D dA la okc Ms ih) (hme : me ∈ Ms) (hok : okc me cs = true) (hn : xatp (pc + 1) cs) (hd : decode me.2.1 pc = .ok (.i2l, 1)) (h : xo_i2l ih me cs a b l A k = true) : xGd ρ base F Ts Ns cl tys D dA la me pc A k := by
  match A, h with
  | (lv, .inl u :: st, r), h =>
    unfold xo_i2l at h
    intro p e s m args below meth c C H locs ls stc hI hL
    obtain ⟨vx, stc, rfl, hx, hst⟩ := xSR_cons hI.2.2.1
    cases hx
    exact lv_i2l C.1 C.2.1 hd rfl (IH me cs _ k (pc + 1) hme (xfN_of h) hok hn p e s m args below meth c C H locs ls _ ⟨hI.1, hI.2.1, ⟨by show _ = Value.long (lN (xcodeL (nI u).toInt64)); rw [xl_code], hst⟩, hI.2.2.2⟩ hL)
  | (lv, .inr (.inl none) :: st, r), h =>
    unfold xo_i2l at h
    intro p e s m args below meth c C H locs ls stc hI hL
    obtain ⟨vx, stc, rfl, hx, hst⟩ := xSR_cons hI.2.2.1
    obtain ⟨z, rfl⟩ := hx
    exact lv_i2l C.1 C.2.1 hd rfl (IH me cs _ k (pc + 1) hme h hok hn p e s m args below meth c C H locs ls _ ⟨hI.1, hI.2.1, ⟨⟨_, rfl⟩, hst⟩, hI.2.2.2⟩ hL)
  | (lv, .inr (.inl (some i)) :: st, r), h =>
    unfold xo_i2l at h
    intro p e s m args below meth c C H locs ls stc hI hL
    obtain ⟨vx, stc, rfl, hx, hst⟩ := xSR_cons hI.2.2.1
    cases hx
    have h : cond (Nat.blt i 64) (ih me cs (lv, .inr (.inr (.inr (.inr (some i)))) :: st, r) k) (ih me cs (lv, xTopL :: st, r) k) = true := h
    by_cases c64 : Nat.blt i 64 = true
    · rw [c64, cond_true] at h
      exact lv_i2l C.1 C.2.1 hd rfl (IH me cs _ k (pc + 1) hme h hok hn p e s m args below meth c C H locs ls _ ⟨hI.1, hI.2.1, ⟨rfl, hst⟩, hI.2.2.2⟩ hL)
    · rw [xnf c64, cond_false] at h
      exact lv_i2l C.1 C.2.1 hd rfl (IH me cs _ k (pc + 1) hme h hok hn p e s m args below meth c C H locs ls _ ⟨hI.1, hI.2.1, ⟨⟨_, rfl⟩, hst⟩, hI.2.2.2⟩ hL)
  | (lv, .inr (.inr _) :: st, r), h => exact absurd h (by simp [xo_i2l])
  | (lv, [], r), h => exact absurd h (by simp [xo_i2l])
theorem xl_l2i (IH : xIH ρ base F Ts Ns cl tys D dA la okc Ms ih) (hme : me ∈ Ms) (hok : okc me cs = true) (hn : xatp (pc + 1) cs) (hd : decode me.2.1 pc = .ok (.l2i, 1)) (h : xo_l2i ih me cs a b l A k = true) : xGd ρ base F Ts Ns cl tys D dA la me pc A k := by
  match A, h with
  | (lv, .inr (.inr (.inr (.inl u))) :: st, r), h =>
    unfold xo_l2i at h
    intro p e s m args below meth c C H locs ls stc hI hL
    obtain ⟨vx, stc, rfl, hx, hst⟩ := xSR_cons hI.2.2.1
    cases hx
    exact lv_l2i C.1 C.2.1 hd rfl (IH me cs _ k (pc + 1) hme (xfN_of h) hok hn p e s m args below meth c C H locs ls _ ⟨hI.1, hI.2.1, ⟨by show _ = Value.int (nI (xcode (lN u).toInt32)); rw [xn_code], hst⟩, hI.2.2.2⟩ hL)
  | (lv, .inr (.inr (.inr (.inr o))) :: st, r), h =>
    unfold xo_l2i at h
    intro p e s m args below meth c C H locs ls stc hI hL
    obtain ⟨vx, stc, rfl, hx, hst⟩ := xSR_cons hI.2.2.1
    obtain ⟨z, rfl⟩ := xg_long hx rfl
    exact lv_l2i C.1 C.2.1 hd rfl (IH me cs _ k (pc + 1) hme h hok hn p e s m args below meth c C H locs ls _ ⟨hI.1, hI.2.1, ⟨⟨_, rfl⟩, hst⟩, hI.2.2.2⟩ hL)
  | (lv, .inl _ :: st, r), h => exact absurd h (by simp [xo_l2i])
  | (lv, .inr (.inl _) :: st, r), h => exact absurd h (by simp [xo_l2i])
  | (lv, .inr (.inr (.inl _)) :: st, r), h => exact absurd h (by simp [xo_l2i])
  | (lv, [], r), h => exact absurd h (by simp [xo_l2i])
theorem xlc_of {x : xV} {v : Value} {u : Nat} (h : xlc x = some u) (hg : xg ρ base x v) : v = .long (lN u) := by
  match x, h, hg with
  | .inr (.inr (.inr (.inl w))), h, hg => cases h; exact hg
theorem xl_lbin0 {len : Nat} (IH : xIH ρ base F Ts Ns cl tys D dA la okc Ms ih) (hme : me ∈ Ms) (hok : okc me cs = true) (hn : xatp (pc + len) cs) (h : xo_lbin ih me cs a b l A k = true)
    {p : Program} {e : Env} {s : State} {m : MethodId} {args : Array Value} {below : List Frame} {meth : Method} {c : Code} (C : xCx Ts Ns cl tys D dA p s m args meth c me) {H : Heap} {locs : List Loc} {ls : Array Slot} {stc : List Value} (hI : xIn ρ base F D dA tys cl me A H ls stc) (hL : va_S F s.heap H locs) :
    ∃ (x y : Int64) (rest : List Value), stc = .long y :: .long x :: rest ∧ W p la e (xR me) s m args below meth c H locs A.2.2.2.2.2.1 A.2.2.2.2.2.2 (MQ below (xQ ρ base F D dA tys cl k) args s (xR me).cells (xR me).slots F) (F0 m (pc + len) ls (.long (xlo a x y) :: rest)) := by
  match A, h, hI with
  | (lv, y :: x :: st, r), h, hI =>
    unfold xo_lbin at h
    obtain ⟨vy, stc, rfl, hy, hst0⟩ := xSR_cons hI.2.2.1
    obtain ⟨vx, stc, rfl, hx, hst⟩ := xSR_cons hst0
    obtain ⟨hk, h⟩ := xcond h
    obtain ⟨y', rfl⟩ := xg_long hy (Nat.eq_of_beq_eq_true (xand hk).1)
    obtain ⟨x', rfl⟩ := xg_long hx (Nat.eq_of_beq_eq_true (xand hk).2)
    refine ⟨x', y', stc, rfl, ?_⟩
    cases ex : xlc x with
    | none =>
      rw [ex] at h
      exact IH me cs _ k (pc + len) hme h hok hn p e s m args below meth c C H locs ls _ ⟨hI.1, hI.2.1, ⟨⟨_, rfl⟩, hst⟩, hI.2.2.2⟩ hL
    | some u =>
      cases ey : xlc y with
      | none =>
        rw [ex, ey] at h
        exact IH me cs _ k (pc + len) hme h hok hn p e s m args below meth c C H locs ls _ ⟨hI.1, hI.2.1, ⟨⟨_, rfl⟩, hst⟩, hI.2.2.2⟩ hL
      | some v =>
        rw [ex, ey] at h
        have h1 := xlc_of ex hx
        have h2 := xlc_of ey hy
        cases h1
        cases h2
        exact IH me cs _ k (pc + len) hme (xfN_of h) hok hn p e s m args below meth c C H locs ls _ ⟨hI.1, hI.2.1, ⟨by show _ = Value.long (lN (xcodeL (xlo a (lN u) (lN v)))); rw [xl_code], hst⟩, hI.2.2.2⟩ hL
  | (lv, [], r), h, hI => exact absurd h (by simp [xo_lbin])
  | (lv, [_], r), h, hI => exact absurd h (by simp [xo_lbin])
theorem xl_ladd (IH : xIH ρ base F Ts Ns cl tys D dA la okc Ms ih) (hme : me ∈ Ms) (hok : okc me cs = true) (hn : xatp (pc + 1) cs) (hd : decode me.2.1 pc = .ok (.ladd, 1)) (ha : a = 0) (h : xo_lbin ih me cs a b l A k = true) : xGd ρ base F Ts Ns cl tys D dA la me pc A k := by
  subst ha
  intro p e s m args below meth c C H locs ls stc hI hL
  obtain ⟨x, y, rest, rfl, g⟩ := xl_lbin0 IH hme hok hn h C hI hL
  exact lv_ladd C.1 C.2.1 hd g
theorem xl_lsub (IH : xIH ρ base F Ts Ns cl tys D dA la okc Ms ih) (hme : me ∈ Ms) (hok : okc me cs = true) (hn : xatp (pc + 1) cs) (hd : decode me.2.1 pc = .ok (.lsub, 1)) (ha : a = 1) (h : xo_lbin ih me cs a b l A k = true) : xGd ρ base F Ts Ns cl tys D dA la me pc A k := by
  subst ha
  intro p e s m args below meth c C H locs ls stc hI hL
  obtain ⟨x, y, rest, rfl, g⟩ := xl_lbin0 IH hme hok hn h C hI hL
  exact lv_lsub C.1 C.2.1 hd g
theorem xl_lmul (IH : xIH ρ base F Ts Ns cl tys D dA la okc Ms ih) (hme : me ∈ Ms) (hok : okc me cs = true) (hn : xatp (pc + 1) cs) (hd : decode me.2.1 pc = .ok (.lmul, 1)) (ha : a = 2) (h : xo_lbin ih me cs a b l A k = true) : xGd ρ base F Ts Ns cl tys D dA la me pc A k := by
  subst ha
  intro p e s m args below meth c C H locs ls stc hI hL
  obtain ⟨x, y, rest, rfl, g⟩ := xl_lbin0 IH hme hok hn h C hI hL
  exact lv_lmul C.1 C.2.1 hd g
theorem xl_land (IH : xIH ρ base F Ts Ns cl tys D dA la okc Ms ih) (hme : me ∈ Ms) (hok : okc me cs = true) (hn : xatp (pc + 1) cs) (hd : decode me.2.1 pc = .ok (.land, 1)) (ha : a = 3) (h : xo_lbin ih me cs a b l A k = true) : xGd ρ base F Ts Ns cl tys D dA la me pc A k := by
  subst ha
  intro p e s m args below meth c C H locs ls stc hI hL
  obtain ⟨x, y, rest, rfl, g⟩ := xl_lbin0 IH hme hok hn h C hI hL
  exact lv_land C.1 C.2.1 hd g
theorem xl_lor (IH : xIH ρ base F Ts Ns cl tys D dA la okc Ms ih) (hme : me ∈ Ms) (hok : okc me cs = true) (hn : xatp (pc + 1) cs) (hd : decode me.2.1 pc = .ok (.lor, 1)) (ha : a = 4) (h : xo_lbin ih me cs a b l A k = true) : xGd ρ base F Ts Ns cl tys D dA la me pc A k := by
  subst ha
  intro p e s m args below meth c C H locs ls stc hI hL
  obtain ⟨x, y, rest, rfl, g⟩ := xl_lbin0 IH hme hok hn h C hI hL
  exact lv_lor C.1 C.2.1 hd g
theorem xl_lxor (IH : xIH ρ base F Ts Ns cl tys D dA la okc Ms ih) (hme : me ∈ Ms) (hok : okc me cs = true) (hn : xatp (pc + 1) cs) (hd : decode me.2.1 pc = .ok (.lxor, 1)) (ha : a = 5) (h : xo_lbin ih me cs a b l A k = true) : xGd ρ base F Ts Ns cl tys D dA la me pc A k := by
  subst ha
  intro p e s m args below meth c C H locs ls stc hI hL
  obtain ⟨x, y, rest, rfl, g⟩ := xl_lbin0 IH hme hok hn h C hI hL
  exact lv_lxor C.1 C.2.1 hd g
theorem xl_ldiv0 {len : Nat} (IH : xIH ρ base F Ts Ns cl tys D dA la okc Ms ih) (hme : me ∈ Ms) (hok : okc me cs = true) (hn : xatp (pc + len) cs) (h : xo_ldiv ih me cs a b l A k = true)
    {p : Program} {e : Env} {s : State} {m : MethodId} {args : Array Value} {below : List Frame} {meth : Method} {c : Code} (C : xCx Ts Ns cl tys D dA p s m args meth c me) {H : Heap} {locs : List Loc} {ls : Array Slot} {stc : List Value} (hI : xIn ρ base F D dA tys cl me A H ls stc) (hL : va_S F s.heap H locs) :
    ∃ (x y : Int64) (rest : List Value), stc = .long y :: .long x :: rest ∧ ¬ y = 0 ∧ W p la e (xR me) s m args below meth c H locs A.2.2.2.2.2.1 A.2.2.2.2.2.2 (MQ below (xQ ρ base F D dA tys cl k) args s (xR me).cells (xR me).slots F) (F0 m (pc + len) ls (.long (xldv a x y) :: rest)) := by
  match A, h, hI with
  | (lv, y :: x :: st, r), h, hI =>
    unfold xo_ldiv at h
    obtain ⟨vy, stc, rfl, hy, hst0⟩ := xSR_cons hI.2.2.1
    obtain ⟨vx, stc, rfl, hx, hst⟩ := xSR_cons hst0
    obtain ⟨hk, h⟩ := xcond h
    obtain ⟨x', rfl⟩ := xg_long hx (Nat.eq_of_beq_eq_true hk)
    cases ey : xlc y with
    | none => rw [ey] at h; exact absurd h (by simp)
    | some v =>
      rw [ey] at h
      have h2 := xlc_of ey hy
      subst h2
      obtain ⟨c0, h⟩ := xcondn h
      · have hy0 : ¬ lN v = 0 := fun q => by
          have h3 := xl_tn v
          rw [q] at h3
          have h4 : Nat.beq (v % 18446744073709551616) 0 = true := by rw [← h3]; rfl
          rw [show Nat.beq (v % 18446744073709551616) 0 = false from c0] at h4
          cases h4
        refine ⟨x', lN v, stc, rfl, hy0, ?_⟩
        cases ex : xlc x with
        | none =>
          rw [ex] at h
          exact IH me cs _ k (pc + len) hme h hok hn p e s m args below meth c C H locs ls _ ⟨hI.1, hI.2.1, ⟨⟨_, rfl⟩, hst⟩, hI.2.2.2⟩ hL
        | some u =>
          rw [ex] at h
          have h1 := xlc_of ex hx
          cases h1
          exact IH me cs _ k (pc + len) hme (xfN_of h) hok hn p e s m args below meth c C H locs ls _ ⟨hI.1, hI.2.1, ⟨by show _ = Value.long (lN (xcodeL (xldv a (lN u) (lN v)))); rw [xl_code], hst⟩, hI.2.2.2⟩ hL
  | (lv, [], r), h, hI => exact absurd h (by simp [xo_ldiv])
  | (lv, [_], r), h, hI => exact absurd h (by simp [xo_ldiv])
theorem xl_ldiv (IH : xIH ρ base F Ts Ns cl tys D dA la okc Ms ih) (hme : me ∈ Ms) (hok : okc me cs = true) (hn : xatp (pc + 1) cs) (hd : decode me.2.1 pc = .ok (.ldiv, 1)) (ha : a = 0) (h : xo_ldiv ih me cs a b l A k = true) : xGd ρ base F Ts Ns cl tys D dA la me pc A k := by
  subst ha
  intro p e s m args below meth c C H locs ls stc hI hL
  obtain ⟨x, y, rest, rfl, h0, g⟩ := xl_ldiv0 IH hme hok hn h C hI hL
  exact lv_ldiv C.1 C.2.1 hd h0 g
theorem xl_lrem (IH : xIH ρ base F Ts Ns cl tys D dA la okc Ms ih) (hme : me ∈ Ms) (hok : okc me cs = true) (hn : xatp (pc + 1) cs) (hd : decode me.2.1 pc = .ok (.lrem, 1)) (ha : a = 1) (h : xo_ldiv ih me cs a b l A k = true) : xGd ρ base F Ts Ns cl tys D dA la me pc A k := by
  subst ha
  intro p e s m args below meth c C H locs ls stc hI hL
  obtain ⟨x, y, rest, rfl, h0, g⟩ := xl_ldiv0 IH hme hok hn h C hI hL
  exact lv_lrem C.1 C.2.1 hd h0 g
theorem xl_lsh0 {len : Nat} (IH : xIH ρ base F Ts Ns cl tys D dA la okc Ms ih) (hme : me ∈ Ms) (hok : okc me cs = true) (hn : xatp (pc + len) cs) (h : xo_lsh ih me cs a b l A k = true)
    {p : Program} {e : Env} {s : State} {m : MethodId} {args : Array Value} {below : List Frame} {meth : Method} {c : Code} (C : xCx Ts Ns cl tys D dA p s m args meth c me) {H : Heap} {locs : List Loc} {ls : Array Slot} {stc : List Value} (hI : xIn ρ base F D dA tys cl me A H ls stc) (hL : va_S F s.heap H locs) :
    ∃ (x : Int64) (y : Int32) (rest : List Value), stc = .int y :: .long x :: rest ∧ W p la e (xR me) s m args below meth c H locs A.2.2.2.2.2.1 A.2.2.2.2.2.2 (MQ below (xQ ρ base F D dA tys cl k) args s (xR me).cells (xR me).slots F) (F0 m (pc + len) ls (.long (xls a x y) :: rest)) := by
  match A, h, hI with
  | (lv, y :: x :: st, r), h, hI =>
    unfold xo_lsh at h
    obtain ⟨vy, stc, rfl, hy, hst0⟩ := xSR_cons hI.2.2.1
    obtain ⟨vx, stc, rfl, hx, hst⟩ := xSR_cons hst0
    obtain ⟨hk, h⟩ := xcond h
    obtain ⟨y', rfl⟩ := xg_int hy (Nat.eq_of_beq_eq_true (xand hk).1)
    obtain ⟨x', rfl⟩ := xg_long hx (Nat.eq_of_beq_eq_true (xand hk).2)
    refine ⟨x', y', stc, rfl, ?_⟩
    have any : ih me cs (lv, xTopL :: st, r) k = true → W p la e (xR me) s m args below meth c H locs r.2.2.2.1 r.2.2.2.2 (MQ below (xQ ρ base F D dA tys cl k) args s (xR me).cells (xR me).slots F) (F0 m (pc + len) ls (.long (xls a x' y') :: stc)) := fun h => IH me cs _ k (pc + len) hme h hok hn p e s m args below meth c C H locs ls _ ⟨hI.1, hI.2.1, ⟨⟨_, rfl⟩, hst⟩, hI.2.2.2⟩ hL
    cases ex : xlc x with
    | none => rw [ex] at h; exact any h
    | some u =>
      rw [ex] at h
      match y, hy, h with
      | .inl v, hy, h =>
        have h1 := xlc_of ex hx
        cases h1
        cases hy
        exact IH me cs _ k (pc + len) hme (xfN_of h) hok hn p e s m args below meth c C H locs ls _ ⟨hI.1, hI.2.1, ⟨by show _ = Value.long (lN (xcodeL (xls a (lN u) (nI v)))); rw [xl_code], hst⟩, hI.2.2.2⟩ hL
      | .inr _, hy, h => exact any h
  | (lv, [], r), h, hI => exact absurd h (by simp [xo_lsh])
  | (lv, [_], r), h, hI => exact absurd h (by simp [xo_lsh])
theorem xl_lshl (IH : xIH ρ base F Ts Ns cl tys D dA la okc Ms ih) (hme : me ∈ Ms) (hok : okc me cs = true) (hn : xatp (pc + 1) cs) (hd : decode me.2.1 pc = .ok (.lshl, 1)) (ha : a = 0) (h : xo_lsh ih me cs a b l A k = true) : xGd ρ base F Ts Ns cl tys D dA la me pc A k := by
  subst ha
  intro p e s m args below meth c C H locs ls stc hI hL
  obtain ⟨x, y, rest, rfl, g⟩ := xl_lsh0 IH hme hok hn h C hI hL
  exact lv_lshl C.1 C.2.1 hd rfl g
theorem xl_lshr (IH : xIH ρ base F Ts Ns cl tys D dA la okc Ms ih) (hme : me ∈ Ms) (hok : okc me cs = true) (hn : xatp (pc + 1) cs) (hd : decode me.2.1 pc = .ok (.lshr, 1)) (ha : a = 1) (h : xo_lsh ih me cs a b l A k = true) : xGd ρ base F Ts Ns cl tys D dA la me pc A k := by
  subst ha
  intro p e s m args below meth c C H locs ls stc hI hL
  obtain ⟨x, y, rest, rfl, g⟩ := xl_lsh0 IH hme hok hn h C hI hL
  exact lv_lshr C.1 C.2.1 hd rfl g
theorem xl_lushr (IH : xIH ρ base F Ts Ns cl tys D dA la okc Ms ih) (hme : me ∈ Ms) (hok : okc me cs = true) (hn : xatp (pc + 1) cs) (hd : decode me.2.1 pc = .ok (.lushr, 1)) (ha : a = 2) (h : xo_lsh ih me cs a b l A k = true) : xGd ρ base F Ts Ns cl tys D dA la me pc A k := by
  subst ha
  intro p e s m args below meth c C H locs ls stc hI hL
  obtain ⟨x, y, rest, rfl, g⟩ := xl_lsh0 IH hme hok hn h C hI hL
  exact lv_lushr C.1 C.2.1 hd rfl g
theorem xwide_of {u : Nat} (h : xwide u = true) : lN u = (nI (u % 4294967296)).toInt64 := by
  have h := Nat.eq_of_beq_eq_true h
  apply xl_inj
  rw [xl_tn]
  exact h.symm
theorem xw_lt {x y : Int32} : x.toInt64 < y.toInt64 ↔ xb x < xb y := by
  rw [Int64.lt_iff_toInt_lt, Int32.toInt_toInt64, Int32.toInt_toInt64, xb_int, xb_int]; omega
theorem xw_eq {x y : Int32} : x.toInt64 = y.toInt64 ↔ xb x = xb y := by
  rw [← Int64.toInt_inj, Int32.toInt_toInt64, Int32.toInt_toInt64, xb_int, xb_int]; omega
theorem xl_lcmp (IH : xIH ρ base F Ts Ns cl tys D dA la okc Ms ih) (hme : me ∈ Ms) (hok : okc me cs = true) (hn : xatp (pc + 1) cs) (hd : decode me.2.1 pc = .ok (.lcmp, 1)) (h : xo_lcmp ih me cs a b l A k = true) : xGd ρ base F Ts Ns cl tys D dA la me pc A k := by
  match A, h with
  | (lv, y :: x :: st, env, r), h =>
    unfold xo_lcmp at h
    intro p e s m args below meth c C H locs ls stc hI hL
    obtain ⟨vy, stc, rfl, hy, hst0⟩ := xSR_cons hI.2.2.1
    obtain ⟨vx, stc, rfl, hx, hst⟩ := xSR_cons hst0
    have any : ih me cs (lv, xTop :: st, env, r) k = true → ∀ z : Int32, W p la e (xR me) s m args below meth c H locs r.2.2.1 r.2.2.2 (MQ below (xQ ρ base F D dA tys cl k) args s (xR me).cells (xR me).slots F) (F0 m (pc + 1) ls (.int z :: stc)) := fun h z => IH me cs _ k (pc + 1) hme h hok hn p e s m args below meth c C H locs ls _ ⟨hI.1, hI.2.1, ⟨⟨_, rfl⟩, hst⟩, hI.2.2.2⟩ hL
    match x, y, hx, hy, h with
    | .inr (.inr (.inr (.inl u))), .inr (.inr (.inr (.inl v))), hx, hy, h =>
      cases hx; cases hy
      exact W.lcmp C.1 C.2.1 hd (IH me cs _ k (pc + 1) hme (xfN_of h) hok hn p e s m args below meth c C H locs ls _ ⟨hI.1, hI.2.1, ⟨by show _ = Value.int (nI (xcode (lg_cmp (lN u) (lN v)))); rw [xn_code], hst⟩, hI.2.2.2⟩ hL)
    | .inr (.inr (.inr (.inr (some i)))), .inr (.inr (.inr (.inl v))), hx, hy, h =>
      cases hx; cases hy
      refine W.lcmp C.1 C.2.1 hd ?_
      have h : cond (xwide v) _ _ = true := h
      cases hw : xwide v with
      | false => rw [hw] at h; exact any h _
      | true =>
        rw [hw, cond_true] at h
        have h := xfN_of h
        rw [xbc_eq] at h
        have hv : lN v = (nI (Nat.mod v 4294967296)).toInt64 := xwide_of hw
        rw [hv]
        generalize nI (Nat.mod v 4294967296) = y at h
        have hlt : (ρ i).toInt64 < y.toInt64 ↔ xb (ρ i) < xb y := xw_lt
        have hgt : y.toInt64 < (ρ i).toInt64 ↔ xb y < xb (ρ i) := xw_lt
        have heq : (ρ i).toInt64 = y.toInt64 ↔ xb (ρ i) = xb y := xw_eq
        rcases xcut_of h hI.1 with ⟨c1, e1, he1, h⟩ | ⟨c1, e1, he1, h⟩
        · have e0 : lg_cmp (ρ i).toInt64 y.toInt64 = nI 4294967295 := by
            unfold lg_cmp
            rw [if_neg (fun q => by have := hgt.mp q; omega), if_neg (fun q => by have := heq.mp q; omega)]
            rfl
          rw [e0]
          exact IH me cs _ k (pc + 1) hme h hok hn p e s m args below meth c C H locs ls _ ⟨he1, hI.2.1, ⟨rfl, hst⟩, hI.2.2.2⟩ hL
        · rcases xcut_of h he1 with ⟨c2, e2, he2, h⟩ | ⟨c2, e2, he2, h⟩
          · have e0 : lg_cmp (ρ i).toInt64 y.toInt64 = nI 0 := by
              unfold lg_cmp
              rw [if_neg (fun q => by have := hgt.mp q; omega), if_pos (heq.mpr (by omega))]
              rfl
            rw [e0]
            exact IH me cs _ k (pc + 1) hme h hok hn p e s m args below meth c C H locs ls _ ⟨he2, hI.2.1, ⟨rfl, hst⟩, hI.2.2.2⟩ hL
          · have e0 : lg_cmp (ρ i).toInt64 y.toInt64 = nI 1 := by
              unfold lg_cmp
              rw [if_pos (hgt.mpr (by omega))]
              rfl
            rw [e0]
            exact IH me cs _ k (pc + 1) hme h hok hn p e s m args below meth c C H locs ls _ ⟨he2, hI.2.1, ⟨rfl, hst⟩, hI.2.2.2⟩ hL
    | .inr (.inr (.inr (.inr none))), .inr (.inr (.inr _)), hx, hy, h =>
      obtain ⟨x', rfl⟩ := xg_long hx rfl
      obtain ⟨y', rfl⟩ := xg_long hy rfl
      exact W.lcmp C.1 C.2.1 hd (any h _)
    | .inr (.inr (.inr (.inr (some _)))), .inr (.inr (.inr (.inr _))), hx, hy, h =>
      obtain ⟨x', rfl⟩ := xg_long hx rfl
      obtain ⟨y', rfl⟩ := xg_long hy rfl
      exact W.lcmp C.1 C.2.1 hd (any h _)
    | .inr (.inr (.inr (.inl _))), .inr (.inr (.inr (.inr _))), hx, hy, h =>
      obtain ⟨x', rfl⟩ := xg_long hx rfl
      obtain ⟨y', rfl⟩ := xg_long hy rfl
      exact W.lcmp C.1 C.2.1 hd (any h _)
    | .inl _, _, _, _, h => exact absurd h (by simp [xo_lcmp])
    | .inr (.inl _), _, _, _, h => exact absurd h (by simp [xo_lcmp])
    | .inr (.inr (.inl _)), _, _, _, h => exact absurd h (by simp [xo_lcmp])
    | .inr (.inr (.inr (.inl _))), .inl _, _, _, h => exact absurd h (by simp [xo_lcmp])
    | .inr (.inr (.inr (.inl _))), .inr (.inl _), _, _, h => exact absurd h (by simp [xo_lcmp])
    | .inr (.inr (.inr (.inl _))), .inr (.inr (.inl _)), _, _, h => exact absurd h (by simp [xo_lcmp])
    | .inr (.inr (.inr (.inr o))), .inl _, _, _, h => exact absurd h (by cases o <;> simp [xo_lcmp])
    | .inr (.inr (.inr (.inr o))), .inr (.inl _), _, _, h => exact absurd h (by cases o <;> simp [xo_lcmp])
    | .inr (.inr (.inr (.inr o))), .inr (.inr (.inl _)), _, _, h => exact absurd h (by cases o <;> simp [xo_lcmp])
  | (lv, [], r), h => exact absurd h (by simp [xo_lcmp])
  | (lv, [_], r), h => exact absurd h (by simp [xo_lcmp])
theorem xcat1 {x : xV} {v : Value} (h : xg ρ base x v) (hk : xis x < 2) : v.category = 1 := by rw [xg_cat h, if_neg (by omega)]
theorem xl_dup (IH : xIH ρ base F Ts Ns cl tys D dA la okc Ms ih) (hme : me ∈ Ms) (hok : okc me cs = true) (hn : xatp (pc + 1) cs) (hd : decode me.2.1 pc = .ok (.dup, 1)) (h : xo_dup ih me cs a b l A k = true) : xGd ρ base F Ts Ns cl tys D dA la me pc A k := by
  match A, h with
  | (lv, v :: st, r), h =>
    unfold xo_dup at h
    obtain ⟨hk, h⟩ := xcond h
    have k1 := xblt.mp hk
    intro p e s m args below meth c C H locs ls stc hI hL
    obtain ⟨cv, stc, rfl, hv, hst⟩ := xSR_cons hI.2.2.1
    exact lv_dup C.1 C.2.1 hd (xcat1 hv k1) (IH me cs _ k (pc + 1) hme h hok hn p e s m args below meth c C H locs ls _ ⟨hI.1, hI.2.1, ⟨hv, ⟨hv, hst⟩⟩, hI.2.2.2⟩ hL)
  | (lv, [], r), h => exact absurd h (by simp [xo_dup])
theorem xl_pop (IH : xIH ρ base F Ts Ns cl tys D dA la okc Ms ih) (hme : me ∈ Ms) (hok : okc me cs = true) (hn : xatp (pc + 1) cs) (hd : decode me.2.1 pc = .ok (.pop, 1)) (h : xo_pop ih me cs a b l A k = true) : xGd ρ base F Ts Ns cl tys D dA la me pc A k := by
  match A, h with
  | (lv, v :: st, r), h =>
    unfold xo_pop at h
    obtain ⟨hk, h⟩ := xcond h
    have k1 := xblt.mp hk
    intro p e s m args below meth c C H locs ls stc hI hL
    obtain ⟨cv, stc, rfl, hv, hst⟩ := xSR_cons hI.2.2.1
    exact lv_pop C.1 C.2.1 hd (xcat1 hv k1) (IH me cs _ k (pc + 1) hme h hok hn p e s m args below meth c C H locs ls _ ⟨hI.1, hI.2.1, hst, hI.2.2.2⟩ hL)
  | (lv, [], r), h => exact absurd h (by simp [xo_pop])
theorem xl_dupx1 (IH : xIH ρ base F Ts Ns cl tys D dA la okc Ms ih) (hme : me ∈ Ms) (hok : okc me cs = true) (hn : xatp (pc + 1) cs) (hd : decode me.2.1 pc = .ok (.dup_x1, 1)) (h : xo_dupx1 ih me cs a b l A k = true) : xGd ρ base F Ts Ns cl tys D dA la me pc A k := by
  match A, h with
  | (lv, v :: w :: st, r), h =>
    unfold xo_dupx1 at h
    obtain ⟨hk, h⟩ := xcond h
    have k1 := xblt.mp (xand hk).1
    have k2 := xblt.mp (xand hk).2
    intro p e s m args below meth c C H locs ls stc hI hL
    obtain ⟨cv, stc, rfl, hv, hst0⟩ := xSR_cons hI.2.2.1
    obtain ⟨cw, stc, rfl, hw, hst⟩ := xSR_cons hst0
    exact lv_dup_x1 C.1 C.2.1 hd (xcat1 hv k1) (xcat1 hw k2) (IH me cs _ k (pc + 1) hme h hok hn p e s m args below meth c C H locs ls _ ⟨hI.1, hI.2.1, ⟨hv, ⟨hw, ⟨hv, hst⟩⟩⟩, hI.2.2.2⟩ hL)
  | (lv, [], r), h => exact absurd h (by simp [xo_dupx1])
  | (lv, [_], r), h => exact absurd h (by simp [xo_dupx1])
theorem xl_dupx2 (IH : xIH ρ base F Ts Ns cl tys D dA la okc Ms ih) (hme : me ∈ Ms) (hok : okc me cs = true) (hn : xatp (pc + 1) cs) (hd : decode me.2.1 pc = .ok (.dup_x2, 1)) (h : xo_dupx2 ih me cs a b l A k = true) : xGd ρ base F Ts Ns cl tys D dA la me pc A k := by
  match A, h with
  | (lv, v :: w :: z :: st, r), h =>
    unfold xo_dupx2 at h
    obtain ⟨hk, h⟩ := xcond h
    have k1 := xblt.mp (xand hk).1
    have k2 := xblt.mp (xand (xand hk).2).1
    have k3 := xblt.mp (xand (xand hk).2).2
    intro p e s m args below meth c C H locs ls stc hI hL
    obtain ⟨cv, stc, rfl, hv, hst0⟩ := xSR_cons hI.2.2.1
    obtain ⟨cw, stc, rfl, hw, hst1⟩ := xSR_cons hst0
    obtain ⟨cz, stc, rfl, hz, hst⟩ := xSR_cons hst1
    exact lv_dup_x2 C.1 C.2.1 hd (xcat1 hv k1) (xcat1 hw k2) (xcat1 hz k3) (IH me cs _ k (pc + 1) hme h hok hn p e s m args below meth c C H locs ls _ ⟨hI.1, hI.2.1, ⟨hv, ⟨hw, ⟨hz, ⟨hv, hst⟩⟩⟩⟩, hI.2.2.2⟩ hL)
  | (lv, [], r), h => exact absurd h (by simp [xo_dupx2])
  | (lv, [_], r), h => exact absurd h (by simp [xo_dupx2])
  | (lv, [_, _], r), h => exact absurd h (by simp [xo_dupx2])
theorem xl_dup2 (IH : xIH ρ base F Ts Ns cl tys D dA la okc Ms ih) (hme : me ∈ Ms) (hok : okc me cs = true) (hn : xatp (pc + 1) cs) (hd : decode me.2.1 pc = .ok (.dup2, 1)) (h : xo_dup2 ih me cs a b l A k = true) : xGd ρ base F Ts Ns cl tys D dA la me pc A k := by
  match A, h with
  | (lv, v :: w :: st, r), h =>
    unfold xo_dup2 at h
    obtain ⟨hk, h⟩ := xcond h
    have k1 := xblt.mp (xand hk).1
    have k2 := xblt.mp (xand hk).2
    intro p e s m args below meth c C H locs ls stc hI hL
    obtain ⟨cv, stc, rfl, hv, hst0⟩ := xSR_cons hI.2.2.1
    obtain ⟨cw, stc, rfl, hw, hst⟩ := xSR_cons hst0
    exact lv_dup2_11 C.1 C.2.1 hd (xcat1 hv k1) (xcat1 hw k2) (IH me cs _ k (pc + 1) hme h hok hn p e s m args below meth c C H locs ls _ ⟨hI.1, hI.2.1, ⟨hv, ⟨hw, ⟨hv, ⟨hw, hst⟩⟩⟩⟩, hI.2.2.2⟩ hL)
  | (lv, [], r), h => exact absurd h (by simp [xo_dup2])
  | (lv, [_], r), h => exact absurd h (by simp [xo_dup2])
/-- a jump: where it goes, the code is explored -/
theorem xl_jmp (hj : ∀ i r, (i :: r) <:+ xcd me → okc me (i :: r) = true) (IH : xIH ρ base F Ts Ns cl tys D dA la okc Ms ih) (hme : me ∈ Ms) {t : Nat} {A' : xA} (h : xjmp (xcd me) t (fun cs => ih me cs A' k) = true) : xGd ρ base F Ts Ns cl tys D dA la me t A' k := by
  obtain ⟨i, r, h1, h2, h3⟩ := xjmp_of h
  exact IH me (i :: r) A' k t hme h3 (hj i r h2) (fun i' r' e => by cases e; exact h1)
theorem xl_icmp0 (hj : ∀ i r, (i :: r) <:+ xcd me → okc me (i :: r) = true) (IH : xIH ρ base F Ts Ns cl tys D dA la okc Ms ih) (hme : me ∈ Ms) (hok : okc me cs = true) (hn : xatp (pc + 3) cs) (h : xo_icmp ih me cs a b l A k = true)
    {p : Program} {e : Env} {s : State} {m : MethodId} {args : Array Value} {below : List Frame} {meth : Method} {c : Code} (C : xCx Ts Ns cl tys D dA p s m args meth c me) {H : Heap} {locs : List Loc} {ls : Array Slot} {stc : List Value} (hI : xIn ρ base F D dA tys cl me A H ls stc) (hL : va_S F s.heap H locs) :
    ∃ (x y : Int32) (rest : List Value), stc = .int y :: .int x :: rest ∧ (xP a x y → W p la e (xR me) s m args below meth c H locs A.2.2.2.2.2.1 A.2.2.2.2.2.2 (MQ below (xQ ρ base F D dA tys cl k) args s (xR me).cells (xR me).slots F) (F0 m b ls rest)) ∧ (¬ xP a x y → W p la e (xR me) s m args below meth c H locs A.2.2.2.2.2.1 A.2.2.2.2.2.2 (MQ below (xQ ρ base F D dA tys cl k) args s (xR me).cells (xR me).slots F) (F0 m (pc + 3) ls rest)) := by
  match A, h, hI with
  | (lv, y :: x :: st, env, r), h, hI =>
    unfold xo_icmp at h
    obtain ⟨vy, stc, rfl, hy, hst0⟩ := xSR_cons hI.2.2.1
    obtain ⟨vx, stc, rfl, hx, hst⟩ := xSR_cons hst0
    obtain ⟨x', y', rfl, rfl, env', t, he, h, ht⟩ := xcmp_of hI.1 hx hy h
    refine ⟨x', y', stc, rfl, fun hp => ?_, fun hp => ?_⟩
    · rw [ht.mpr hp] at h
      exact xl_jmp hj IH hme h p e s m args below meth c C H locs ls _ ⟨he, hI.2.1, hst, hI.2.2.2⟩ hL
    · have ht : t = false := by
        cases t with
        | false => rfl
        | true => exact absurd (ht.mp rfl) hp
      rw [ht] at h
      exact IH me cs _ k (pc + 3) hme h hok hn p e s m args below meth c C H locs ls _ ⟨he, hI.2.1, hst, hI.2.2.2⟩ hL
  | (lv, [], env, r), h, hI => exact absurd h (by simp [xo_icmp])
  | (lv, [_], env, r), h, hI => exact absurd h (by simp [xo_icmp])
theorem xl_if0 (hj : ∀ i r, (i :: r) <:+ xcd me → okc me (i :: r) = true) (IH : xIH ρ base F Ts Ns cl tys D dA la okc Ms ih) (hme : me ∈ Ms) (hok : okc me cs = true) (hn : xatp (pc + 3) cs) (h : xo_if ih me cs a b l A k = true)
    {p : Program} {e : Env} {s : State} {m : MethodId} {args : Array Value} {below : List Frame} {meth : Method} {c : Code} (C : xCx Ts Ns cl tys D dA p s m args meth c me) {H : Heap} {locs : List Loc} {ls : Array Slot} {stc : List Value} (hI : xIn ρ base F D dA tys cl me A H ls stc) (hL : va_S F s.heap H locs) :
    ∃ (x : Int32) (rest : List Value), stc = .int x :: rest ∧ (xP a x 0 → W p la e (xR me) s m args below meth c H locs A.2.2.2.2.2.1 A.2.2.2.2.2.2 (MQ below (xQ ρ base F D dA tys cl k) args s (xR me).cells (xR me).slots F) (F0 m b ls rest)) ∧ (¬ xP a x 0 → W p la e (xR me) s m args below meth c H locs A.2.2.2.2.2.1 A.2.2.2.2.2.2 (MQ below (xQ ρ base F D dA tys cl k) args s (xR me).cells (xR me).slots F) (F0 m (pc + 3) ls rest)) := by
  match A, h, hI with
  | (lv, x :: st, env, r), h, hI =>
    unfold xo_if at h
    obtain ⟨vx, stc, rfl, hx, hst⟩ := xSR_cons hI.2.2.1
    obtain ⟨x', y', rfl, hy', env', t, he, h, ht⟩ := xcmp_of (b := .inl 0) (vb := .int (nI 0)) hI.1 hx rfl h
    have hy0 : y' = 0 := by cases hy'; rfl
    subst hy0
    refine ⟨x', stc, rfl, fun hp => ?_, fun hp => ?_⟩
    · rw [ht.mpr hp] at h
      exact xl_jmp hj IH hme h p e s m args below meth c C H locs ls _ ⟨he, hI.2.1, hst, hI.2.2.2⟩ hL
    · have ht : t = false := by
        cases t with
        | false => rfl
        | true => exact absurd (ht.mp rfl) hp
      rw [ht] at h
      exact IH me cs _ k (pc + 3) hme h hok hn p e s m args below meth c C H locs ls _ ⟨he, hI.2.1, hst, hI.2.2.2⟩ hL
  | (lv, [], env, r), h, hI => exact absurd h (by simp [xo_if])
theorem xl_icmp_eq {o : Int} (hj : ∀ i r, (i :: r) <:+ xcd me → okc me (i :: r) = true) (IH : xIH ρ base F Ts Ns cl tys D dA la okc Ms ih) (hme : me ∈ Ms) (hok : okc me cs = true) (hn : xatp (pc + 3) cs) (hd : decode me.2.1 pc = .ok (.if_icmp .eq o, 3)) (ht : (pc : Int) + o = (b : Int)) (ha : a = 0) (h : xo_icmp ih me cs a b l A k = true) : xGd ρ base F Ts Ns cl tys D dA la me pc A k := by
  subst ha
  intro p e s m args below meth c C H locs ls stc hI hL
  obtain ⟨x, y, rest, rfl, g1, g2⟩ := xl_icmp0 hj IH hme hok hn h C hI hL
  exact lv_icmp_eq C.1 C.2.1 hd ht g1 (g2)
theorem xl_if_eq {o : Int} (hj : ∀ i r, (i :: r) <:+ xcd me → okc me (i :: r) = true) (IH : xIH ρ base F Ts Ns cl tys D dA la okc Ms ih) (hme : me ∈ Ms) (hok : okc me cs = true) (hn : xatp (pc + 3) cs) (hd : decode me.2.1 pc = .ok (.ifCond .eq o, 3)) (ht : (pc : Int) + o = (b : Int)) (ha : a = 0) (h : xo_if ih me cs a b l A k = true) : xGd ρ base F Ts Ns cl tys D dA la me pc A k := by
  subst ha
  intro p e s m args below meth c C H locs ls stc hI hL
  obtain ⟨x, rest, rfl, g1, g2⟩ := xl_if0 hj IH hme hok hn h C hI hL
  exact lv_if_eq C.1 C.2.1 hd ht g1 (g2)
theorem xl_icmp_ne {o : Int} (hj : ∀ i r, (i :: r) <:+ xcd me → okc me (i :: r) = true) (IH : xIH ρ base F Ts Ns cl tys D dA la okc Ms ih) (hme : me ∈ Ms) (hok : okc me cs = true) (hn : xatp (pc + 3) cs) (hd : decode me.2.1 pc = .ok (.if_icmp .ne o, 3)) (ht : (pc : Int) + o = (b : Int)) (ha : a = 1) (h : xo_icmp ih me cs a b l A k = true) : xGd ρ base F Ts Ns cl tys D dA la me pc A k := by
  subst ha
  intro p e s m args below meth c C H locs ls stc hI hL
  obtain ⟨x, y, rest, rfl, g1, g2⟩ := xl_icmp0 hj IH hme hok hn h C hI hL
  exact lv_icmp_ne C.1 C.2.1 hd ht g1 (fun q => g2 (fun r => r q))
theorem xl_if_ne {o : Int} (hj : ∀ i r, (i :: r) <:+ xcd me → okc me (i :: r) = true) (IH : xIH ρ base F Ts Ns cl tys D dA la okc Ms ih) (hme : me ∈ Ms) (hok : okc me cs = true) (hn : xatp (pc + 3) cs) (hd : decode me.2.1 pc = .ok (.ifCond .ne o, 3)) (ht : (pc : Int) + o = (b : Int)) (ha : a = 1) (h : xo_if ih me cs a b l A k = true) : xGd ρ base F Ts Ns cl tys D dA la me pc A k := by
  subst ha
  intro p e s m args below meth c C H locs ls stc hI hL
  obtain ⟨x, rest, rfl, g1, g2⟩ := xl_if0 hj IH hme hok hn h C hI hL
  exact lv_if_ne C.1 C.2.1 hd ht g1 (fun q => g2 (fun r => r q))
theorem xl_icmp_lt {o : Int} (hj : ∀ i r, (i :: r) <:+ xcd me → okc me (i :: r) = true) (IH : xIH ρ base F Ts Ns cl tys D dA la okc Ms ih) (hme : me ∈ Ms) (hok : okc me cs = true) (hn : xatp (pc + 3) cs) (hd : decode me.2.1 pc = .ok (.if_icmp .lt o, 3)) (ht : (pc : Int) + o = (b : Int)) (ha : a = 2) (h : xo_icmp ih me cs a b l A k = true) : xGd ρ base F Ts Ns cl tys D dA la me pc A k := by
  subst ha
  intro p e s m args below meth c C H locs ls stc hI hL
  obtain ⟨x, y, rest, rfl, g1, g2⟩ := xl_icmp0 hj IH hme hok hn h C hI hL
  exact lv_icmp_lt C.1 C.2.1 hd ht g1 (g2)
theorem xl_if_lt {o : Int} (hj : ∀ i r, (i :: r) <:+ xcd me → okc me (i :: r) = true) (IH : xIH ρ base F Ts Ns cl tys D dA la okc Ms ih) (hme : me ∈ Ms) (hok : okc me cs = true) (hn : xatp (pc + 3) cs) (hd : decode me.2.1 pc = .ok (.ifCond .lt o, 3)) (ht : (pc : Int) + o = (b : Int)) (ha : a = 2) (h : xo_if ih me cs a b l A k = true) : xGd ρ base F Ts Ns cl tys D dA la me pc A k := by
  subst ha
  intro p e s m args below meth c C H locs ls stc hI hL
  obtain ⟨x, rest, rfl, g1, g2⟩ := xl_if0 hj IH hme hok hn h C hI hL
  exact lv_if_lt C.1 C.2.1 hd ht g1 (g2)
theorem xl_icmp_ge {o : Int} (hj : ∀ i r, (i :: r) <:+ xcd me → okc me (i :: r) = true) (IH : xIH ρ base F Ts Ns cl tys D dA la okc Ms ih) (hme : me ∈ Ms) (hok : okc me cs = true) (hn : xatp (pc + 3) cs) (hd : decode me.2.1 pc = .ok (.if_icmp .ge o, 3)) (ht : (pc : Int) + o = (b : Int)) (ha : a = 3) (h : xo_icmp ih me cs a b l A k = true) : xGd ρ base F Ts Ns cl tys D dA la me pc A k := by
  subst ha
  intro p e s m args below meth c C H locs ls stc hI hL
  obtain ⟨x, y, rest, rfl, g1, g2⟩ := xl_icmp0 hj IH hme hok hn h C hI hL
  exact lv_icmp_ge C.1 C.2.1 hd ht g1 (g2)
theorem xl_if_ge {o : Int} (hj : ∀ i r, (i :: r) <:+ xcd me → okc me (i :: r) = true) (IH : xIH ρ base F Ts Ns cl tys D dA la okc Ms ih) (hme : me ∈ Ms) (hok : okc me cs = true) (hn : xatp (pc + 3) cs) (hd : decode me.2.1 pc = .ok (.ifCond .ge o, 3)) (ht : (pc : Int) + o = (b : Int)) (ha : a = 3) (h : xo_if ih me cs a b l A k = true) : xGd ρ base F Ts Ns cl tys D dA la me pc A k := by
  subst ha
  intro p e s m args below meth c C H locs ls stc hI hL
  obtain ⟨x, rest, rfl, g1, g2⟩ := xl_if0 hj IH hme hok hn h C hI hL
  exact lv_if_ge C.1 C.2.1 hd ht g1 (g2)
theorem xl_icmp_gt {o : Int} (hj : ∀ i r, (i :: r) <:+ xcd me → okc me (i :: r) = true) (IH : xIH ρ base F Ts Ns cl tys D dA la okc Ms ih) (hme : me ∈ Ms) (hok : okc me cs = true) (hn : xatp (pc + 3) cs) (hd : decode me.2.1 pc = .ok (.if_icmp .gt o, 3)) (ht : (pc : Int) + o = (b : Int)) (ha : a = 4) (h : xo_icmp ih me cs a b l A k = true) : xGd ρ base F Ts Ns cl tys D dA la me pc A k := by
  subst ha
  intro p e s m args below meth c C H locs ls stc hI hL
  obtain ⟨x, y, rest, rfl, g1, g2⟩ := xl_icmp0 hj IH hme hok hn h C hI hL
  exact lv_icmp_gt C.1 C.2.1 hd ht g1 (g2)
theorem xl_if_gt {o : Int} (hj : ∀ i r, (i :: r) <:+ xcd me → okc me (i :: r) = true) (IH : xIH ρ base F Ts Ns cl tys D dA la okc Ms ih) (hme : me ∈ Ms) (hok : okc me cs = true) (hn : xatp (pc + 3) cs) (hd : decode me.2.1 pc = .ok (.ifCond .gt o, 3)) (ht : (pc : Int) + o = (b : Int)) (ha : a = 4) (h : xo_if ih me cs a b l A k = true) : xGd ρ base F Ts Ns cl tys D dA la me pc A k := by
  subst ha
  intro p e s m args below meth c C H locs ls stc hI hL
  obtain ⟨x, rest, rfl, g1, g2⟩ := xl_if0 hj IH hme hok hn h C hI hL
  exact lv_if_gt C.1 C.2.1 hd ht g1 (g2)
theorem xl_icmp_le {o : Int} (hj : ∀ i r, (i :: r) <:+ xcd me → okc me (i :: r) = true) (IH : xIH ρ base F Ts Ns cl tys D dA la okc Ms ih) (hme : me ∈ Ms) (hok : okc me cs = true) (hn : xatp (pc + 3) cs) (hd : decode me.2.1 pc = .ok (.if_icmp .le o, 3)) (ht : (pc : Int) + o = (b : Int)) (ha : a = 5) (h : xo_icmp ih me cs a b l A k = true) : xGd ρ base F Ts Ns cl tys D dA la me pc A k := by
  subst ha
  intro p e s m args below meth c C H locs ls stc hI hL
  obtain ⟨x, y, rest, rfl, g1, g2⟩ := xl_icmp0 hj IH hme hok hn h C hI hL
  exact lv_icmp_le C.1 C.2.1 hd ht g1 (g2)
theorem xl_if_le {o : Int} (hj : ∀ i r, (i :: r) <:+ xcd me → okc me (i :: r) = true) (IH : xIH ρ base F Ts Ns cl tys D dA la okc Ms ih) (hme : me ∈ Ms) (hok : okc me cs = true) (hn : xatp (pc + 3) cs) (hd : decode me.2.1 pc = .ok (.ifCond .le o, 3)) (ht : (pc : Int) + o = (b : Int)) (ha : a = 5) (h : xo_if ih me cs a b l A k = true) : xGd ρ base F Ts Ns cl tys D dA la me pc A k := by
  subst ha
  intro p e s m args below meth c C H locs ls stc hI hL
  obtain ⟨x, rest, rfl, g1, g2⟩ := xl_if0 hj IH hme hok hn h C hI hL
  exact lv_if_le C.1 C.2.1 hd ht g1 (g2)
theorem xl_goto {o : Int} (hj : ∀ i r, (i :: r) <:+ xcd me → okc me (i :: r) = true) (IH : xIH ρ base F Ts Ns cl tys D dA la okc Ms ih) (hme : me ∈ Ms) (hd : decode me.2.1 pc = .ok (.goto o, 3)) (ht : (pc : Int) + o = (b : Int)) (h : xo_goto ih me cs a b l A k = true) : xGd ρ base F Ts Ns cl tys D dA la me pc A k := by
  intro p e s m args below meth c C H locs ls stc hI hL
  exact lv_goto C.1 C.2.1 hd ht (xl_jmp hj IH hme h p e s m args below meth c C H locs ls stc hI hL)
theorem xl_ifnull {o : Int} (hj : ∀ i r, (i :: r) <:+ xcd me → okc me (i :: r) = true) (IH : xIH ρ base F Ts Ns cl tys D dA la okc Ms ih) (hme : me ∈ Ms) (hok : okc me cs = true) (hn : xatp (pc + 3) cs) (hd : decode me.2.1 pc = .ok (.ifnull o, 3)) (ht : (pc : Int) + o = (b : Int)) (ha : a = 0) (h : xo_ifnull ih me cs a b l A k = true) : xGd ρ base F Ts Ns cl tys D dA la me pc A k := by
  subst ha
  match A, h with
  | (lv, .inr (.inr (.inl none)) :: st, r), h =>
    unfold xo_ifnull at h
    intro p e s m args below meth c C H locs ls stc hI hL
    obtain ⟨v, stc, rfl, hv, hst⟩ := xSR_cons hI.2.2.1
    cases hv
    exact lv_ifnullN C.1 C.2.1 hd ht (xl_jmp hj IH hme h p e s m args below meth c C H locs ls _ ⟨hI.1, hI.2.1, hst, hI.2.2.2⟩ hL)
  | (lv, .inr (.inr (.inl (some _))) :: st, r), h =>
    unfold xo_ifnull at h
    intro p e s m args below meth c C H locs ls stc hI hL
    obtain ⟨v, stc, rfl, hv, hst⟩ := xSR_cons hI.2.2.1
    cases hv
    exact lv_ifnull C.1 C.2.1 hd (IH me cs _ k (pc + 3) hme h hok hn p e s m args below meth c C H locs ls _ ⟨hI.1, hI.2.1, hst, hI.2.2.2⟩ hL)
  | (lv, [], r), h => exact absurd h (by simp [xo_ifnull])
  | (lv, .inl _ :: _, r), h => exact absurd h (by simp [xo_ifnull])
  | (lv, .inr (.inl _) :: _, r), h => exact absurd h (by simp [xo_ifnull])
  | (lv, .inr (.inr (.inr _)) :: _, r), h => exact absurd h (by simp [xo_ifnull])
theorem xl_ifnonnull {o : Int} (hj : ∀ i r, (i :: r) <:+ xcd me → okc me (i :: r) = true) (IH : xIH ρ base F Ts Ns cl tys D dA la okc Ms ih) (hme : me ∈ Ms) (hok : okc me cs = true) (hn : xatp (pc + 3) cs) (hd : decode me.2.1 pc = .ok (.ifnonnull o, 3)) (ht : (pc : Int) + o = (b : Int)) (ha : a = 1) (h : xo_ifnull ih me cs a b l A k = true) : xGd ρ base F Ts Ns cl tys D dA la me pc A k := by
  subst ha
  match A, h with
  | (lv, .inr (.inr (.inl none)) :: st, r), h =>
    unfold xo_ifnull at h
    intro p e s m args below meth c C H locs ls stc hI hL
    obtain ⟨v, stc, rfl, hv, hst⟩ := xSR_cons hI.2.2.1
    cases hv
    exact lv_ifnonnullN C.1 C.2.1 hd (IH me cs _ k (pc + 3) hme h hok hn p e s m args below meth c C H locs ls _ ⟨hI.1, hI.2.1, hst, hI.2.2.2⟩ hL)
  | (lv, .inr (.inr (.inl (some _))) :: st, r), h =>
    unfold xo_ifnull at h
    intro p e s m args below meth c C H locs ls stc hI hL
    obtain ⟨v, stc, rfl, hv, hst⟩ := xSR_cons hI.2.2.1
    cases hv
    exact lv_ifnonnull C.1 C.2.1 hd ht (xl_jmp hj IH hme h p e s m args below meth c C H locs ls _ ⟨hI.1, hI.2.1, hst, hI.2.2.2⟩ hL)
  | (lv, [], r), h => exact absurd h (by simp [xo_ifnull])
  | (lv, .inl _ :: _, r), h => exact absurd h (by simp [xo_ifnull])
  | (lv, .inr (.inl _) :: _, r), h => exact absurd h (by simp [xo_ifnull])
  | (lv, .inr (.inr (.inr _)) :: _, r), h => exact absurd h (by simp [xo_ifnull])
end XR

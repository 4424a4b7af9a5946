set_option linter.all false
/-! rows of the instructions: array loads and stores, answers, calls -/
section XC
variable {ρ : Nat → Int32} {base : Nat} {F : Nat → Prop} {Ts Ns : List Jvm.Cond} {cl : List vw_C} {tys : List FieldType} {D : va_G} {dA : Nat → ClassId} {la : Launch} {okc : xM → List xI → Bool} {Ms : List xM} {ih : xIh} {me : xM} {cs : List xI} {a b : Nat} {l : List Nat} {A : xA} {k : xK} {pc : Nat}
theorem xuld_of {env : xE} {h : xH} {o : Nat} {i : xV} {kk : xV → Bool} (hr : xρ ρ env) (e : xuld env h o a kk i = true) : ∃ (j : Nat) (c : xC) (v : xV) (u : Nat), i = .inr (.inl (some j)) ∧ xat h o = some c ∧ c.1 = a ∧ xat c.2.2 0 = some v ∧ xat c.2.2 u = some v ∧ ρ j = nI u ∧ u < c.2.1 ∧ u < 2147483648 ∧ kk v = true := by
  cases i with
  | inl _ => exact absurd e (by simp [xuld])
  | inr i =>
    cases i with
    | inr _ => exact absurd e (by simp [xuld])
    | inl x =>
      cases x with
      | none => exact absurd e (by simp [xuld])
      | some j =>
        unfold xuld at e
        obtain ⟨c, hc, e⟩ := xhget_of e
        obtain ⟨hk, e⟩ := xcond e
        obtain ⟨v, hv, e⟩ := xhget_of e
        obtain ⟨h1, e⟩ := xcond e
        obtain ⟨h2, e⟩ := xcond e
        obtain ⟨h3, h4⟩ := xand h1
        obtain ⟨u, hu, hlt, hlt2⟩ := xidx_of hr (Nat.le_of_ble_eq_true h3) h4
        exact ⟨j, c, v, u, rfl, hc, Nat.eq_of_beq_eq_true hk, hv, xunif_of h2 u hlt, hu, hlt, hlt2, e⟩
theorem xust_of {env : xE} {h : xH} {o : Nat} {i v : xV} {kk : Bool} (hr : xρ ρ env) (e : xust env h o a v kk i = true) : ∃ (j : Nat) (c : xC) (u : Nat), i = .inr (.inl (some j)) ∧ xat h o = some c ∧ c.1 = a ∧ xat c.2.2 u = some v ∧ ρ j = nI u ∧ u < c.2.1 ∧ u < 2147483648 ∧ kk = true := by
  cases i with
  | inl _ => exact absurd e (by simp [xust])
  | inr i =>
    cases i with
    | inr _ => exact absurd e (by simp [xust])
    | inl x =>
      cases x with
      | none => exact absurd e (by simp [xust])
      | some j =>
        unfold xust at e
        obtain ⟨c, hc, e⟩ := xhget_of e
        obtain ⟨hk, e⟩ := xcond e
        obtain ⟨h1, e⟩ := xcond e
        obtain ⟨h2, e⟩ := xcond e
        obtain ⟨h3, h4⟩ := xand h1
        obtain ⟨u, hu, hlt, hlt2⟩ := xidx_of hr (Nat.le_of_ble_eq_true h3) h4
        exact ⟨j, c, u, rfl, hc, Nat.eq_of_beq_eq_true hk, xunif_of h2 u hlt, hu, hlt, hlt2, e⟩
theorem xl_ald0 (IH : xIH ρ base F Ts Ns cl tys D dA la okc Ms ih) (hme : me ∈ Ms) (hok : okc me cs = true) (hn : xatp (pc + 1) cs) (ha : 100 ≤ a) (h : xo_ald ih me cs a b l A k = true)
    {p : Program} {e : Env} {s : State} {m : MethodId} {args : Array Value} {below : List Frame} {meth : Method} {c : Code} (C : xCx Ts Ns cl tys D dA p s m args meth c me) {H : Heap} {locs : List Loc} {ls : Array Slot} {stc : List Value} (hI : xIn ρ base F D dA tys cl me A H ls stc) (hL : va_S F s.heap H locs) :
    ∃ (o : Nat) (i : Int32) (rest fs : List Value) (x : xV) (v : Value), stc = .int i :: .ref o :: rest ∧ H[o]? = some (arrV (dA (a - 100)) fs.length (vp_V fs)) ∧ ¬ (i < 0 ∨ (arrV (dA (a - 100)) fs.length (vp_V fs)).slots.size ≤ i.toNatClampNeg) ∧ (arrV (dA (a - 100)) fs.length (vp_V fs)).slots[i.toNatClampNeg]? = some v ∧ xg ρ base x v ∧ W p la e (xR me) s m args below meth c H locs A.2.2.2.2.2.1 A.2.2.2.2.2.2 (MQ below (xQ ρ base F D dA tys cl k) args s (xR me).cells (xR me).slots F) (F0 m (pc + 1) ls (v :: rest)) := by
  match A, h, hI with
  | (lv, i :: .inr (.inr (.inl (some o))) :: st, env, hp, r), h, hI =>
    unfold xo_ald at h
    obtain ⟨vi, stc, rfl, hi, hst0⟩ := xSR_cons hI.2.2.1
    obtain ⟨vo, stc, rfl, ho, hst⟩ := xSR_cons hst0
    cases ho
    obtain ⟨i', rfl, h⟩ := xci_of hI.1 hi h
    rcases h with ⟨env', u, he, hu, h⟩ | h
    · obtain ⟨hlt, h⟩ := xcond h
      have hlt := xblt.mp hlt
      obtain ⟨c0, hc, h⟩ := xhget_of h
      obtain ⟨hk, h⟩ := xcond h
      have hk := Nat.eq_of_beq_eq_true hk
      obtain ⟨x, hx, h⟩ := xhget_of h
      obtain ⟨fs, hfs, hat, -⟩ := xarr (hI.2.2.2.1.2 o c0 hc) (by rw [hk]; exact ha)
      obtain ⟨v, hv, hg⟩ := hfs.2 u x hx
      rw [hk] at hat
      have hul : u < fs.length := (List.getElem?_eq_some_iff.mp hv).1
      subst hu
      refine ⟨base + o, nI u, stc, fs, x, v, rfl, hat, ?_, ?_, hg, IH me cs _ k (pc + 1) hme h hok hn p e s m args below meth c C H locs ls _ ⟨he, hI.2.1, ⟨hg, hst⟩, hI.2.2.2⟩ hL⟩
      · rw [arrV_size, xclamp hlt]
        intro q
        rcases q with q | q
        · exact xneg hlt q
        · omega
      · rw [xclamp hlt, arrV_read _ _ hul]
        simp [vp_V, hv]
    · obtain ⟨j, c0, v0, u, rfl, hc, hk, hv0, hx, hu, hul0, hlt, h⟩ := xuld_of hI.1 h
      obtain ⟨fs, hfs, hat, -⟩ := xarr (hI.2.2.2.1.2 o c0 hc) (by rw [hk]; exact ha)
      obtain ⟨v, hv, hg⟩ := hfs.2 u v0 hx
      rw [hk] at hat
      have hul : u < fs.length := (List.getElem?_eq_some_iff.mp hv).1
      have hi : Value.int i' = Value.int (ρ j) := hi
      have hu : i' = nI u := by injection hi with hi; rw [hi, hu]
      subst hu
      refine ⟨base + o, nI u, stc, fs, v0, v, rfl, hat, ?_, ?_, hg, IH me cs _ k (pc + 1) hme h hok hn p e s m args below meth c C H locs ls _ ⟨hI.1, hI.2.1, ⟨hg, hst⟩, hI.2.2.2⟩ hL⟩
      · rw [arrV_size, xclamp hlt]
        intro q
        rcases q with q | q
        · exact xneg hlt q
        · omega
      · rw [xclamp hlt, arrV_read _ _ hul]
        simp [vp_V, hv]
  | (lv, [], r), h, hI => exact absurd h (by simp [xo_ald])
  | (lv, [_], r), h, hI => exact absurd h (by simp [xo_ald])
  | (lv, _ :: .inl _ :: _, r), h, hI => exact absurd h (by simp [xo_ald])
  | (lv, _ :: .inr (.inl _) :: _, r), h, hI => exact absurd h (by simp [xo_ald])
  | (lv, _ :: .inr (.inr (.inl none)) :: _, r), h, hI => exact absurd h (by simp [xo_ald])
  | (lv, _ :: .inr (.inr (.inr _)) :: _, r), h, hI => exact absurd h (by simp [xo_ald])
theorem xl_iald (IH : xIH ρ base F Ts Ns cl tys D dA la okc Ms ih) (hme : me ∈ Ms) (hok : okc me cs = true) (hn : xatp (pc + 1) cs) (hd : decode me.2.1 pc = .ok (.iaload, 1)) (ha : 100 ≤ a) (hty : tys[a - 100]? = some .int) (h : xo_ald ih me cs a b l A k = true) : xGd ρ base F Ts Ns cl tys D dA la me pc A k := by
  intro p e s m args below meth c X H locs ls stc hI hL
  obtain ⟨o, i, rest, fs, x, v, rfl, h1, h2, h3, -, g⟩ := xl_ald0 IH hme hok hn ha h X hI hL
  exact W.iald X.1 X.2.1 h1 ((X.2.2.2.2.2.2.2.2.2.2.1 _ _ hty).1 _ _) (fun q => by cases q) h2 h3 rfl rfl hd g
theorem xl_lald (IH : xIH ρ base F Ts Ns cl tys D dA la okc Ms ih) (hme : me ∈ Ms) (hok : okc me cs = true) (hn : xatp (pc + 1) cs) (hd : decode me.2.1 pc = .ok (.laload, 1)) (ha : 100 ≤ a) (hty : tys[a - 100]? = some .long) (h : xo_ald ih me cs a b l A k = true) : xGd ρ base F Ts Ns cl tys D dA la me pc A k := by
  intro p e s m args below meth c X H locs ls stc hI hL
  obtain ⟨o, i, rest, fs, x, v, rfl, h1, h2, h3, -, g⟩ := xl_ald0 IH hme hok hn ha h X hI hL
  exact W.lald X.1 X.2.1 h1 ((X.2.2.2.2.2.2.2.2.2.2.1 _ _ hty).1 _ _) (fun q => by cases q) h2 h3 rfl rfl hd g
theorem xl_zald (IH : xIH ρ base F Ts Ns cl tys D dA la okc Ms ih) (hme : me ∈ Ms) (hok : okc me cs = true) (hn : xatp (pc + 1) cs) (hd : decode me.2.1 pc = .ok (.baload, 1)) (ha : 100 ≤ a) (hty : tys[a - 100]? = some .boolean) (h : xo_ald ih me cs a b l A k = true) : xGd ρ base F Ts Ns cl tys D dA la me pc A k := by
  intro p e s m args below meth c X H locs ls stc hI hL
  obtain ⟨o, i, rest, fs, x, v, rfl, h1, h2, h3, -, g⟩ := xl_ald0 IH hme hok hn ha h X hI hL
  exact W.zald X.1 X.2.1 h1 ((X.2.2.2.2.2.2.2.2.2.2.1 _ _ hty).1 _ _) (fun q => by cases q) h2 h3 rfl rfl hd g
theorem xl_aald {ty : FieldType} (IH : xIH ρ base F Ts Ns cl tys D dA la okc Ms ih) (hme : me ∈ Ms) (hok : okc me cs = true) (hn : xatp (pc + 1) cs) (hd : decode me.2.1 pc = .ok (.aaload, 1)) (ha : 100 ≤ a) (hty : tys[a - 100]? = some ty) (hr : ty.isReference = true) (h : xo_ald ih me cs a b l A k = true) : xGd ρ base F Ts Ns cl tys D dA la me pc A k := by
  intro p e s m args below meth c X H locs ls stc hI hL
  obtain ⟨o, i, rest, fs, x, v, rfl, h1, h2, h3, -, g⟩ := xl_ald0 IH hme hok hn ha h X hI hL
  exact W.aald X.1 X.2.1 h1 ((X.2.2.2.2.2.2.2.2.2.2.1 _ _ hty).1 _ _) hr (fun q => by cases q) h2 h3 rfl rfl hd g
theorem xl_ast0 (IH : xIH ρ base F Ts Ns cl tys D dA la okc Ms ih) (hme : me ∈ Ms) (hok : okc me cs = true) (hn : xatp (pc + 1) cs) (ha : 100 ≤ a) {ty : FieldType} (hty : tys[a - 100]? = some ty) (hb : b = xkt ty) (h : xo_ast ih me cs a b l A k = true)
    {p : Program} {e : Env} {s : State} {m : MethodId} {args : Array Value} {below : List Frame} {meth : Method} {c : Code} (C : xCx Ts Ns cl tys D dA p s m args meth c me) {H : Heap} {locs : List Loc} {ls : Array Slot} {stc : List Value} (hI : xIn ρ base F D dA tys cl me A H ls stc) (hL : va_S F s.heap H locs) :
    ∃ (o : Nat) (i : Int32) (rest fs : List Value) (x : xV) (v : Value), stc = v :: .int i :: .ref o :: rest ∧ xfits b x = true ∧ xg ρ base x v ∧ narrow ty v = v ∧ H[o]? = some (arrV (dA (a - 100)) fs.length (vp_V fs)) ∧ ¬ (i < 0 ∨ (arrV (dA (a - 100)) fs.length (vp_V fs)).slots.size ≤ i.toNatClampNeg) ∧ ∀ H' : Heap, H'[o]? = some ((arrV (dA (a - 100)) fs.length (vp_V fs)).setSlot i.toNatClampNeg v) → H'.size = H.size → (∀ q, q ≠ o → H'[q]? = H[q]?) → W p la e (xR me) s m args below meth c H' (locs ++ [⟨o, i.toNatClampNeg⟩]) A.2.2.2.2.2.1 A.2.2.2.2.2.2 (MQ below (xQ ρ base F D dA tys cl k) args s (xR me).cells (xR me).slots F) (F0 m (pc + 1) ls rest) := by
  match A, h, hI with
  | (lv, x :: i :: .inr (.inr (.inl (some o))) :: st, env, hp, n, uc, us), h, hI =>
    unfold xo_ast at h
    obtain ⟨vx, stc, rfl, hgx, hst0⟩ := xSR_cons hI.2.2.1
    obtain ⟨vi, stc, rfl, hi, hst1⟩ := xSR_cons hst0
    obtain ⟨vo, stc, rfl, ho, hst⟩ := xSR_cons hst1
    cases ho
    obtain ⟨hf, h⟩ := xcond h
    have hnr := (xfits_of (ty := ty) (by rw [← hb]; exact hf) hgx).1
    obtain ⟨i', rfl, h⟩ := xci_of hI.1 hi h
    rcases h with ⟨env', u, he, hu, h⟩ | h
    · obtain ⟨hlt, h⟩ := xcond h
      have hlt := xblt.mp hlt
      obtain ⟨c0, hc, h⟩ := xhget_of h
      obtain ⟨hk, h⟩ := xcond h
      have hk := Nat.eq_of_beq_eq_true hk
      obtain ⟨rw', h, r0, r1, r2⟩ := xhset_of h
      obtain ⟨hp', h, -, e1', e2'⟩ := xhset_of h
      obtain ⟨fs, hfs, hat, ty', hty', hfit⟩ := xarr (hI.2.2.2.1.2 o c0 hc) (by rw [hk]; exact ha)
      rw [hk] at hat hty'
      obtain ⟨hul, hfs'⟩ := xFR_set hfs r0 r1 r2 hgx
      subst hu
      refine ⟨base + o, nI u, stc, fs, x, vx, rfl, hf, hgx, hnr, hat, ?_, fun H' e1 e2 e3 => ?_⟩
      · rw [arrV_size, xclamp hlt]
        intro q
        rcases q with q | q
        · exact xneg hlt q
        · omega
      · rw [xclamp hlt, xarr_set hul] at e1
        exact IH me cs (lv, st, env', hp', n, uc, us) k (pc + 1) hme h hok hn p e s m args below meth c C H' _ ls stc ⟨he, hI.2.1, hst, hI.2.2.2.1.put (c := (a, c0.2.1, rw')) (hI.2.2.2.1.1.2.1 o c0 hc) e2 e3 ⟨fs.set u vx, hfs', Or.inr ⟨ha, e1, ty, hty, fun w hw => by
          have he9 : ty' = ty := Option.some.inj (hty'.symm.trans hty)
          rcases List.mem_or_eq_of_mem_set hw with q | q
          · rw [← he9]; exact hfit w q
          · rw [q]; exact (xfits_of (ty := ty) (by rw [← hb]; exact hf) hgx).2⟩⟩ e1' e2', hI.2.2.2.2⟩ (xSput hL (hI.2.2.2.1.1.2.1 o c0 hc) e2 e3 (fun l hl => by rw [List.mem_singleton.mp hl]))
    · obtain ⟨j, c0, u, rfl, hc, hk, hx, hu, hul0, hlt, h⟩ := xust_of hI.1 h
      obtain ⟨fs, hfs, hat, ty', hty', hfit⟩ := xarr (hI.2.2.2.1.2 o c0 hc) (by rw [hk]; exact ha)
      have hat0 := hat
      rw [hk] at hat hty'
      obtain ⟨hul, hfs'⟩ := xFR_set hfs ⟨_, hx⟩ hx (fun _ _ => rfl) hgx
      have hi : Value.int i' = Value.int (ρ j) := hi
      have hu : i' = nI u := by injection hi with hi; rw [hi, hu]
      subst hu
      refine ⟨base + o, nI u, stc, fs, x, vx, rfl, hf, hgx, hnr, hat, ?_, fun H' e1 e2 e3 => ?_⟩
      · rw [arrV_size, xclamp hlt]
        intro q
        rcases q with q | q
        · exact xneg hlt q
        · omega
      · rw [xclamp hlt, xarr_set hul] at e1
        exact IH me cs (lv, st, env, hp, n, uc, us) k (pc + 1) hme h hok hn p e s m args below meth c C H' _ ls stc ⟨hI.1, hI.2.1, hst, hI.2.2.2.1.put (c := c0) (hI.2.2.2.1.1.2.1 o c0 hc) e2 e3 ⟨fs.set u vx, hfs', Or.inr ⟨by rw [hk]; exact ha, by rw [hk]; exact e1, ty, by rw [hk]; exact hty, fun w hw => by
          have he9 : ty' = ty := Option.some.inj (hty'.symm.trans hty)
          rcases List.mem_or_eq_of_mem_set hw with q | q
          · rw [← he9]; exact hfit w q
          · rw [q]; exact (xfits_of (ty := ty) (by rw [← hb]; exact hf) hgx).2⟩⟩ hc (fun _ _ => rfl), hI.2.2.2.2⟩ (xSput hL (hI.2.2.2.1.1.2.1 o c0 hc) e2 e3 (fun l hl => by rw [List.mem_singleton.mp hl]))
  | (lv, [], r), h, hI => exact absurd h (by simp [xo_ast])
  | (lv, [_], r), h, hI => exact absurd h (by simp [xo_ast])
  | (lv, [_, _], r), h, hI => exact absurd h (by simp [xo_ast])
  | (lv, _ :: _ :: .inl _ :: _, r), h, hI => exact absurd h (by simp [xo_ast])
  | (lv, _ :: _ :: .inr (.inl _) :: _, r), h, hI => exact absurd h (by simp [xo_ast])
  | (lv, _ :: _ :: .inr (.inr (.inl none)) :: _, r), h, hI => exact absurd h (by simp [xo_ast])
  | (lv, _ :: _ :: .inr (.inr (.inr _)) :: _, r), h, hI => exact absurd h (by simp [xo_ast])
theorem xfi {x : xV} (h : xfits 0 x = true) : xis x = 0 := by
  match x, h with
  | .inl _, _ => rfl
  | .inr (.inl _), _ => rfl
theorem xfl {x : xV} (h : xfits 2 x = true) : xis x = 2 := by
  match x, h with
  | .inr (.inr (.inr _)), _ => rfl
theorem xfz {x : xV} (h : xfits 3 x = true) : xis x = 0 := by
  match x, h with
  | .inl _, _ => rfl
theorem xl_iast (IH : xIH ρ base F Ts Ns cl tys D dA la okc Ms ih) (hme : me ∈ Ms) (hok : okc me cs = true) (hn : xatp (pc + 1) cs) (hd : decode me.2.1 pc = .ok (.iastore, 1)) (ha : 100 ≤ a) (hty : tys[a - 100]? = some .int) (hb : b = 0) (h : xo_ast ih me cs a b l A k = true) : xGd ρ base F Ts Ns cl tys D dA la me pc A k := by
  intro p e s m args below meth c X H locs ls stc hI hL
  obtain ⟨o, i, rest, fs, x, v, rfl, hf, hg, -, h1, h2, g⟩ := xl_ast0 (ty := .int) IH hme hok hn ha hty hb h X hI hL
  obtain ⟨z, rfl⟩ := xg_int hg (xfi (by rw [← hb]; exact hf))
  exact W.iast X.1 X.2.1 h1 ((X.2.2.2.2.2.2.2.2.2.2.1 _ _ hty).1 _ _) (fun q => by cases q) h2 rfl rfl hd g
theorem xl_last (IH : xIH ρ base F Ts Ns cl tys D dA la okc Ms ih) (hme : me ∈ Ms) (hok : okc me cs = true) (hn : xatp (pc + 1) cs) (hd : decode me.2.1 pc = .ok (.lastore, 1)) (ha : 100 ≤ a) (hty : tys[a - 100]? = some .long) (hb : b = 2) (h : xo_ast ih me cs a b l A k = true) : xGd ρ base F Ts Ns cl tys D dA la me pc A k := by
  intro p e s m args below meth c X H locs ls stc hI hL
  obtain ⟨o, i, rest, fs, x, v, rfl, hf, hg, -, h1, h2, g⟩ := xl_ast0 (ty := .long) IH hme hok hn ha hty hb h X hI hL
  obtain ⟨z, rfl⟩ := xg_long hg (xfl (by rw [← hb]; exact hf))
  exact W.last X.1 X.2.1 h1 ((X.2.2.2.2.2.2.2.2.2.2.1 _ _ hty).1 _ _) (fun q => by cases q) h2 rfl rfl hd g
theorem xl_zast (IH : xIH ρ base F Ts Ns cl tys D dA la okc Ms ih) (hme : me ∈ Ms) (hok : okc me cs = true) (hn : xatp (pc + 1) cs) (hd : decode me.2.1 pc = .ok (.bastore, 1)) (ha : 100 ≤ a) (hty : tys[a - 100]? = some .boolean) (hb : b = 3) (h : xo_ast ih me cs a b l A k = true) : xGd ρ base F Ts Ns cl tys D dA la me pc A k := by
  intro p e s m args below meth c X H locs ls stc hI hL
  obtain ⟨o, i, rest, fs, x, v, rfl, hf, hg, hnr, h1, h2, g⟩ := xl_ast0 (ty := .boolean) IH hme hok hn ha hty hb h X hI hL
  obtain ⟨z, rfl⟩ := xg_int hg (xfz (by rw [← hb]; exact hf))
  exact W.zast X.1 X.2.1 h1 ((X.2.2.2.2.2.2.2.2.2.2.1 _ _ hty).1 _ _) (fun q => by cases q) h2 rfl rfl hd (by rw [hnr]; exact g)
/-! answers -/
theorem xl_iret {rt : FieldType} (hd : decode me.2.1 pc = .ok (.ireturn, 1)) (hrt : me.2.2.2.1 = some rt) (ha : a = xkt rt) (hri : rt = .int ∨ rt = .boolean) (h : xo_iret ih me cs a b l A k = true) : xGd ρ base F Ts Ns cl tys D dA la me pc A k := by
  match A, h with
  | (lv, [x], env, hp, n, uc, us), h =>
    unfold xo_iret at h
    obtain ⟨hf, h⟩ := xcond h
    intro p e s m args below meth c X H locs ls stc hI hL
    obtain ⟨vx, stc, rfl, hgx, hst⟩ := xSR_cons hI.2.2.1
    rw [xSR_nil hst]
    have hnr := (xfits_of (ty := rt) (by rw [← ha]; exact hf) hgx).1
    obtain ⟨z, rfl⟩ : ∃ z : Int32, vx = .int z := by
      refine xg_int hgx ?_
      rcases hri with rfl | rfl
      · exact xfi (by rw [show (0 : Nat) = a from ha.symm]; exact hf)
      · exact xfz (by rw [show (3 : Nat) = a from ha.symm]; exact hf)
    obtain ⟨hx, hbc, -, hr, hlk, -⟩ := X
    refine W.widen hI.2.2.2.2.1 hI.2.2.2.2.2 ?_
    exact W.zret hx hbc (hr.trans hrt) hnr (fun t ht _ => ⟨hL.F ht, env, hp, n, some x, h, hI.1, by rw [ht]; exact hI.2.2.2.1, Or.inr ⟨x, _, rfl, hgx, rfl⟩⟩) hL.2.2 hd hlk
  | (lv, [], r), h => exact absurd h (by simp [xo_iret])
  | (lv, _ :: _ :: _, r), h => exact absurd h (by simp [xo_iret])
theorem xl_lret (hd : decode me.2.1 pc = .ok (.lreturn, 1)) (hrt : me.2.2.2.1 = some .long) (ha : a = 2) (h : xo_iret ih me cs a b l A k = true) : xGd ρ base F Ts Ns cl tys D dA la me pc A k := by
  match A, h with
  | (lv, [x], env, hp, n, uc, us), h =>
    unfold xo_iret at h
    obtain ⟨hf, h⟩ := xcond h
    intro p e s m args below meth c X H locs ls stc hI hL
    obtain ⟨vx, stc, rfl, hgx, hst⟩ := xSR_cons hI.2.2.1
    rw [xSR_nil hst]
    obtain ⟨z, rfl⟩ := xg_long hgx (xfl (by rw [← ha]; exact hf))
    obtain ⟨hx, hbc, -, hr, hlk, -⟩ := X
    refine W.widen hI.2.2.2.2.1 hI.2.2.2.2.2 ?_
    exact W.lret hx hbc (hr.trans hrt) (fun t ht _ => ⟨hL.F ht, env, hp, n, some x, h, hI.1, by rw [ht]; exact hI.2.2.2.1, Or.inr ⟨x, _, rfl, hgx, rfl⟩⟩) hL.2.2 hd hlk
  | (lv, [], r), h => exact absurd h (by simp [xo_iret])
  | (lv, _ :: _ :: _, r), h => exact absurd h (by simp [xo_iret])
theorem xfr {x : xV} (h : xfits 1 x = true) : xis x = 1 := by
  match x, h with
  | .inr (.inr (.inl _)), _ => rfl
theorem xl_aret {rt : FieldType} (hd : decode me.2.1 pc = .ok (.areturn, 1)) (hrt : me.2.2.2.1 = some rt) (hr1 : (∃ n, rt = .object n) ∨ ∃ t, rt = .array t) (ha : a = 1) (h : xo_iret ih me cs a b l A k = true) : xGd ρ base F Ts Ns cl tys D dA la me pc A k := by
  match A, h with
  | (lv, [x], env, hp, n, uc, us), h =>
    unfold xo_iret at h
    obtain ⟨hf, h⟩ := xcond h
    intro p e s m args below meth c X H locs ls stc hI hL
    obtain ⟨vx, stc, rfl, hgx, hst⟩ := xSR_cons hI.2.2.1
    rw [xSR_nil hst]
    have hv := xg_ref hgx (xfr (by rw [← ha]; exact hf))
    obtain ⟨hx, hbc, -, hr, hlk, -⟩ := X
    refine W.widen hI.2.2.2.2.1 hI.2.2.2.2.2 ?_
    exact W.aret hx hbc (hr.trans hrt) hr1 hv (fun t ht _ => ⟨hL.F ht, env, hp, n, some x, h, hI.1, by rw [ht]; exact hI.2.2.2.1, Or.inr ⟨x, _, rfl, hgx, rfl⟩⟩) hL.2.2 hd hlk
  | (lv, [], r), h => exact absurd h (by simp [xo_iret])
  | (lv, _ :: _ :: _, r), h => exact absurd h (by simp [xo_iret])
theorem xl_ret (hd : decode me.2.1 pc = .ok (.return_, 1)) (hrt : me.2.2.2.1 = none) (h : xo_ret ih me cs a b l A k = true) : xGd ρ base F Ts Ns cl tys D dA la me pc A k := by
  match A, h with
  | (lv, [], env, hp, n, uc, us), h =>
    unfold xo_ret at h
    intro p e s m args below meth c X H locs ls stc hI hL
    rw [xSR_nil hI.2.2.1]
    obtain ⟨hx, hbc, -, hr, hlk, -⟩ := X
    refine W.widen hI.2.2.2.2.1 hI.2.2.2.2.2 ?_
    exact W.vret hx hbc (hr.trans hrt) (fun t ht _ => ⟨hL.F ht, env, hp, n, none, h, hI.1, by rw [ht]; exact hI.2.2.2.1, Or.inl ⟨rfl, rfl⟩⟩) hL.2.2 hd hlk
  | (lv, _ :: _, r), h => exact absurd h (by simp [xo_ret])
end XC

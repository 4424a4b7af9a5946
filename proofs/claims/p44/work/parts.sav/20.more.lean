set_option linter.all false
/-! Object's constructor, the switch -/
section XO
variable {ρ : Nat → Int32} {base : Nat} {F : Nat → Prop} {Ts Ns : List Jvm.Cond} {cl : List vw_C} {tys : List FieldType} {D : va_G} {dA : Nat → ClassId} {la : Launch} {okc : xM → List xI → Bool} {Ms : List xM} {ih : xIh} {me : xM} {cs : List xI} {a b : Nat} {l : List Nat} {A : xA} {k : xK} {pc : Nat}
theorem xl_oinit {idx : Nat} (IH : xIH ρ base F Ts Ns cl tys D dA la okc Ms ih) (hme : me ∈ Ms) (hok : okc me cs = true) (hn : xatp (pc + 3) cs) (hd : decode me.2.1 pc = .ok (.invokespecial idx, 3)) (h1 : Jvm.Cond.methodLink me.1.cls idx Lib.objectInit ∈ Ts) (h2 : Jvm.Cond.instanceMethod Lib.objectInit ∈ Ts) (h3 : Jvm.Cond.code Lib.objectInit ⟨#[0xb1]⟩ 1 none ∈ Ts) (hf : 1 ≤ (xR me).frames) (h : xo_oinit ih me cs a b l A k = true) : xGd ρ base F Ts Ns cl tys D dA la me pc A k := by
  match A, h with
  | (lv, .inr (.inr (.inl (some o))) :: st, r), h =>
    unfold xo_oinit at h
    obtain ⟨hr, h⟩ := xcond h
    have hr := Nat.le_of_ble_eq_true hr
    intro p e s m args below meth c X H locs ls stc hI hL
    obtain ⟨vo, stc, rfl, ho, hst⟩ := xSR_cons hI.2.2.1
    cases ho
    have g := IH me cs (lv, st, r) k (pc + 3) hme h hok hn p e s m args below meth c X H locs ls stc ⟨hI.1, hI.2.1, hst, hI.2.2.2⟩ hL
    obtain ⟨hx, hbc, hml, -, -, -, hown, hts, -⟩ := X
    have hsize : ls.size = me.2.2.1 := by obtain ⟨lvc, hl, -⟩ := hI.2.1; exact hl.1
    refine W.objInit hx hbc hown (hts _ (List.mem_cons_of_mem _ h1)) (hts _ (List.mem_cons_of_mem _ h2)) (hts _ (List.mem_cons_of_mem _ h3)) rfl (by rw [hml]; exact hsize) rfl hd hf ?_ (W.eq (g2 := F0 m (pc + 3) ls stc) rfl g)
    have hr : xcats st + 12 ≤ (xR me).locals := hr
    rw [(xcats_of hst).1] at hr
    show 2 * 0 + _ + 12 ≤ _
    omega
  | (lv, [], r), h => exact absurd h (by simp [xo_oinit])
  | (lv, .inl _ :: _, r), h => exact absurd h (by simp [xo_oinit])
  | (lv, .inr (.inl _) :: _, r), h => exact absurd h (by simp [xo_oinit])
  | (lv, .inr (.inr (.inl none)) :: _, r), h => exact absurd h (by simp [xo_oinit])
  | (lv, .inr (.inr (.inr _)) :: _, r), h => exact absurd h (by simp [xo_oinit])
/-- a table: its lowest number biased, its targets -/
def xTab (pc a b : Nat) (l : List Nat) (dflt lo hi : Int) (offs : Array Int) : Prop := (a : Int) = lo + 2147483648 ∧ (pc : Int) + dflt = (b : Int) ∧ hi = lo + (l.length : Int) - 1 ∧ offs.toList.map (fun o => (pc : Int) + o) = l.map (fun t : Nat => (t : Int))
theorem xl_tab1 {dflt lo hi : Int} {offs : Array Int} {len : Nat} (hd : decode me.2.1 pc = .ok (.tableswitch dflt lo hi offs, len)) (ht : xTab pc a b l dflt lo hi offs) {p : Program} {e : Env} {s : State} {m : MethodId} {args : Array Value} {below : List Frame} {meth : Method} {c : Code} {R : Room} {cells slots : Nat} {Q : State → Prop} (X : xCx Ts Ns cl tys D dA p s m args meth c me) {H : Heap} {locs : List Loc} {ls : Array Slot} {rest : List Value} {x : Int32}
    (g : W p la e R s m args below meth c H locs cells slots Q (F0 m (xtab a b l (xb x)) ls rest)) : W p la e R s m args below meth c H locs cells slots Q (F0 m pc ls (.int x :: rest)) := by
  obtain ⟨h1, h2, h3, h4⟩ := ht
  have hxi := xb_int x
  unfold xtab at g
  by_cases c1 : Nat.blt (xb x) a = true
  · rw [c1] at g
    have c1 := xblt.mp c1
    exact lv_tableOut X.1 X.2.1 hd (Or.inl (by omega)) h2 g
  · have c1' : Nat.blt (xb x) a = false := xnf c1
    rw [c1'] at g
    have c1 : a ≤ xb x := by
      rcases Nat.lt_or_ge (xb x) a with q | q
      · exact absurd (xblt.mpr q) c1
      · exact q
    have g : W p la e R s m args below meth c H locs cells slots Q (F0 m (xnthD l b (xb x - a)) ls rest) := g
    rw [xnthD_eq] at g
    by_cases c2 : xb x - a < l.length
    · have h5 : l[xb x - a]? = some l[xb x - a] := List.getElem?_eq_getElem c2
      rw [List.getD_eq_getElem?_getD, h5] at g
      have h6 := congrArg (fun z => z[xb x - a]?) h4
      simp only [List.getElem?_map, h5, Option.map_some] at h6
      obtain ⟨off, h7, h8⟩ := Option.map_eq_some_iff.mp h6
      refine lv_tableIn X.1 X.2.1 hd (off := off) (by omega) (by omega) ?_ h8 g
      rw [show (x.toInt - lo).toNat = xb x - a by omega]
      rw [← Array.getElem?_toList]
      exact h7
    · rw [List.getD_eq_getElem?_getD, List.getElem?_eq_none (by omega)] at g
      exact lv_tableOut X.1 X.2.1 hd (Or.inr (by omega)) h2 g
theorem xl_table {dflt lo hi : Int} {offs : Array Int} {len : Nat} (hj : ∀ i r, (i :: r) <:+ xcd me → okc me (i :: r) = true) (IH : xIH ρ base F Ts Ns cl tys D dA la okc Ms ih) (hme : me ∈ Ms) (hd : decode me.2.1 pc = .ok (.tableswitch dflt lo hi offs, len)) (ht : xTab pc a b l dflt lo hi offs) (h : xo_table ih me cs a b l A k = true) : xGd ρ base F Ts Ns cl tys D dA la me pc A k := by
  match A, h with
  | (lv, .inl u :: st, env, r), h =>
    unfold xo_table at h
    have h := xfN_of h
    intro p e s m args below meth c X H locs ls stc hI hL
    obtain ⟨v, stc, rfl, hv, hst⟩ := xSR_cons hI.2.2.1
    cases hv
    rw [xbc_eq] at h
    exact xl_tab1 hd ht X (xl_jmp hj IH hme h p e s m args below meth c X H locs ls stc ⟨hI.1, hI.2.1, hst, hI.2.2.2⟩ hL)
  | (lv, .inr (.inl (some i)) :: st, env, r), h =>
    unfold xo_table at h
    intro p e s m args below meth c X H locs ls stc hI hL
    obtain ⟨v, stc, rfl, hv, hst⟩ := xSR_cons hI.2.2.1
    cases hv
    refine xl_tab1 hd ht X ?_
    rcases xcut_of h hI.1 with ⟨c1, e1, he1, h⟩ | ⟨c1, e1, he1, h⟩
    · have e0 : xtab a b l (xb (ρ i)) = b := by
        unfold xtab
        rw [xblt.mpr c1]; rfl
      rw [e0]
      exact xl_jmp hj IH hme h p e s m args below meth c X H locs ls stc ⟨he1, hI.2.1, hst, hI.2.2.2⟩ hL
    · rcases xcut_of h he1 with ⟨c2, e2, he2, h⟩ | ⟨c2, e2, he2, h⟩
      · obtain ⟨e3, u, he3, hu, h⟩ := xall_of he2 h
        have h := xfN_of h
        rw [xbc_eq, ← hu] at h
        exact xl_jmp hj IH hme h p e s m args below meth c X H locs ls stc ⟨he3, hI.2.1, hst, hI.2.2.2⟩ hL
      · have c2 : a + l.length ≤ xb (ρ i) := by rw [← xlen_eq]; exact c2
        have e0 : xtab a b l (xb (ρ i)) = b := by
          unfold xtab
          have q : Nat.blt (xb (ρ i)) a = false := by
            cases hq : Nat.blt (xb (ρ i)) a with
            | false => rfl
            | true => exact absurd (xblt.mp hq) (by omega)
          rw [q]
          show xnthD l b (xb (ρ i) - a) = b
          rw [xnthD_eq, List.getD_eq_getElem?_getD, List.getElem?_eq_none (by omega)]
          rfl
        rw [e0]
        exact xl_jmp hj IH hme h p e s m args below meth c X H locs ls stc ⟨he2, hI.2.1, hst, hI.2.2.2⟩ hL
  | (lv, [], r), h => exact absurd h (by simp [xo_table])
  | (lv, .inr (.inl none) :: _, r), h => exact absurd h (by simp [xo_table])
  | (lv, .inr (.inr _) :: _, r), h => exact absurd h (by simp [xo_table])
end XO

set_option linter.all false
/-! entries that the machine's own tables leave to this layer: lookupswitch, System.arraycopy of a part of a row -/
def f60k (pc : Nat) : List (Int × Int) → List Nat → Bool
  | [], [] => true
  | (k, o) :: ps, a :: t :: l => decide (k = (a : Int) - 2147483648 ∧ (pc : Int) + o = (t : Int)) && f60k pc ps l
  | _, _ => false
def f60 (Tc : List (List Jvm.Cond)) (tys : List FieldType) (me : xM) (i : xI) : Bool := match i.2.1, i.2.2.1 with
  | 60, 39 => match decode me.2.1 i.1 with
    | .ok (.lookupswitch d ps, _) => (ps.toList.zip (ps.toList.drop 1)).all (fun (a, next) => a.1 < next.1) && decide ((i.1 : Int) + d = (i.2.2.2.1 : Int)) && f60k i.1 ps.toList i.2.2.2.2
    | _ => false
  | 60, 38 => match decode me.2.1 i.1 with
    | .ok (.invokestatic x, 3) => decide (1 ≤ (xR me).frames ∧ tys[0]? = some .int) && xwg Tc (i.2.2.2.2.getD 0 0) (.methodLink me.1.cls x arraycopyName) && xwg Tc (i.2.2.2.2.getD 1 0) (.native arraycopyName) && xwg Tc (i.2.2.2.2.getD 2 0) (.static arraycopyName) && xwg Tc (i.2.2.2.2.getD 3 0) (.initialized "java/lang/System")
    | _ => false
  | _, _ => true
/-- all such entries of a code are right -/
def f60c (Tc : List (List Jvm.Cond)) (tys : List FieldType) (me : xM) : Bool := (xcd me).all (f60 Tc tys me)
section FY
variable {ρ : Nat → Int32} {base n : Nat} {F : Nat → Prop} {Tc : List (List Jvm.Cond)} {cl : List vw_C} {tys : List FieldType} {D : va_G} {dA : Nat → ClassId} {la : Launch} {Ms : List xM} {me : xM} {cs : List xI} {g : fG} {bd : Nat → Nat → Int × Int} {rb : Nat → Option Nat} {C : xM → List fV → fH → (fH → Option fV → Prop) → Prop} {lv : fL} {st : List fV} {I : fH} {P : fH → Option fV → Prop} {k : xK} {pc op a b : Nat} {l : List Nat} {hp : xH} {go : List xI → fL → List fV → fH → Prop}
theorem flook_of {jump : Nat → Prop} {z : Int} {d : Nat} {dflt : Int} (hd : (pc : Int) + dflt = (d : Int)) : ∀ {ps : List (Int × Int)} {l : List Nat}, f60k pc ps l = true → flook jump z d l → ∃ t : Nat, jump t ∧ (pc : Int) + Op.lookupswitch.offset ps dflt z = (t : Int) := by
  intro ps
  induction ps with
  | nil =>
    intro l hl h
    match l, hl, h with
    | [], _, h => exact ⟨d, h, hd⟩
  | cons q ps ih =>
    intro l hl h
    obtain ⟨kk, o⟩ := q
    match l, hl, h with
    | x :: t :: l, hl, h =>
      obtain ⟨h1, h2⟩ := Bool.and_eq_true_iff.mp (show (decide (kk = (x : Int) - 2147483648 ∧ (pc : Int) + o = (t : Int)) && f60k pc ps l) = true from hl)
      obtain ⟨h3, h4⟩ := of_decide_eq_true h1
      have h : (z = (x : Int) - 2147483648 → jump t) ∧ (¬ z = (x : Int) - 2147483648 → flook jump z d l) := h
      rw [Op.lookupswitch.offset_cons]
      by_cases e : kk = z
      · rw [if_pos e]
        exact ⟨t, h.1 (by rw [← e, h3]), h4⟩
      · rw [if_neg e]
        exact ih h2 (h.2 (fun q => e (by rw [q, h3])))
    | [_], hl, h => cases hl
    | [], hl, h => cases hl
theorem fat_of {i : xI} {r : List xI} {A : xA} (h : fih ρ base F Tc cl tys D dA la me (i :: r) A k = true) : xGd ρ base F (xTs Tc) (xNs Tc) cl tys D dA la me i.1 A k := fih_of h i.1 (fun j s q => by cases q; rfl)
theorem f60_look {z : Int} (hGo : fGo ρ base n F Tc cl tys D dA la g bd me k go) (hh : fhr g I hp) (hB : fB bd I) (h6 : f60 Tc tys me (pc, 60, 39, b, l) = true) (hz : fin32 z) (h : flook (fun t => fjmp (xcd me) t (fun cs => go cs lv st I)) z b l) : xGd ρ base F (xTs Tc) (xNs Tc) cl tys D dA la me pc (feL lv, feS (.inl z :: st), [], hp, n, 0, 0) k := by
  unfold f60 at h6
  simp only [] at h6
  split at h6
  · next d ps len hd =>
    obtain ⟨h7, h3⟩ := Bool.and_eq_true_iff.mp h6
    obtain ⟨h1, h2⟩ := Bool.and_eq_true_iff.mp h7
    obtain ⟨t, ht, e⟩ := flook_of (of_decide_eq_true h2) h3 h
    obtain ⟨i, r, e1, e2, e3⟩ : ∃ i r, i.1 = t ∧ (i :: r) <:+ xcd me ∧ go (i :: r) lv st I := by
      generalize xcd me = c at ht
      induction c with
      | nil => exact ht.elim
      | cons i c ih =>
        unfold fjmp at ht
        split at ht
        · next e => exact ⟨i, c, Nat.eq_of_beq_eq_true e, List.suffix_refl _, ht⟩
        · obtain ⟨j, r, q1, q2, q3⟩ := ih ht
          exact ⟨j, r, q1, q2.trans (List.suffix_cons _ _), q3⟩
    have g1 := fat_of (hGo (i :: r) lv st I hp hh hB e2 e3)
    rw [e1] at g1
    intro p e' s m args below meth c X H locs ls stc hI hL
    obtain ⟨v, stc, rfl, hv, hst⟩ := xSR_cons hI.2.2.1
    have hv : v = Value.int (nI (ic z)) := hv
    rw [hv, nI_ic]
    refine lv_lookup X.1 X.2.1 hd h1 (off := Op.lookupswitch.offset ps.toList d z) (by rw [iI_int hz]) e ?_
    exact g1 p e' s m args below meth c X H locs ls stc ⟨hI.1, hI.2.1, hst, hI.2.2.2⟩ hL
  · cases h6
theorem fgrid {len : Nat} (f : Nat → xV) : ∃ rows : List (List xV), (∀ j, j < len → xat rows j = some (f j)) ∧ ∀ j x, xat rows j = some x → j < len ∧ x = f j := by
  have key : ∀ j, xat ((List.range (len / 64 + 1)).map (fun q => (List.range (min 64 (len - 64 * q))).map (fun r => f (64 * q + r)))) j = if j < len then some (f j) else none := by
    intro j
    unfold xat
    rw [List.getElem?_map]
    by_cases h1 : j / 64 < len / 64 + 1
    · rw [List.getElem?_range h1]
      show ((List.range (min 64 (len - 64 * (j / 64)))).map (fun r => f (64 * (j / 64) + r)))[j % 64]? = _
      rw [List.getElem?_map]
      by_cases h2 : j < len
      · rw [if_pos h2, List.getElem?_range (by omega)]
        show some (f (64 * (j / 64) + j % 64)) = _
        rw [Nat.div_add_mod]
      · rw [if_neg h2, List.getElem?_eq_none (by rw [List.length_range]; omega)]
        rfl
    · rw [List.getElem?_eq_none (by rw [List.length_range]; omega), if_neg (by omega)]
      rfl
  exact ⟨_, fun j hj => by rw [key, if_pos hj], fun j x hx => by
    rw [key] at hx
    split at hx
    · next hj => cases hx; exact ⟨hj, rfl⟩
    · cases hx⟩
theorem fclamp {z : Int} (h0 : 0 ≤ z) (h1 : z < 2147483648) : (iI z).toNatClampNeg = z.toNat := by
  rw [← nI_ic, ic_small h0 (by omega)]
  exact xclamp (by omega)
theorem fneg {z : Int} (h0 : 0 ≤ z) (h1 : z < 2147483648) : ¬ iI z < 0 := by
  rw [← nI_ic, ic_small h0 (by omega)]
  exact xneg (by omega)
theorem f60_copy {nn dp sp : Int} {d o : Nat} (hR : fOkR g rb) (hGo : fGo ρ base n F Tc cl tys D dA la g bd me k go) (hs : cs <:+ xcd me) (hn : xatp (pc + 3) cs) (hh : fhr g I hp) (hB : fB bd I) (h6 : f60 Tc tys me (pc, 60, 38, b, l) = true) (hc : fcpc g bd I o sp d dp nn) (hm : Nat.ble (Nat.add (fcats st) 64) me.2.2.2.2.2.locals = true) (h : ∀ I', I' = fcpy I o sp d dp nn → fB bd I' → go cs lv st I') : xGd ρ base F (xTs Tc) (xNs Tc) cl tys D dA la me pc (feL lv, feS (.inl nn :: .inl dp :: .inr (.inr (some d)) :: .inl sp :: .inr (.inr (some o)) :: st), [], hp, n, 0, 0) k := by
  obtain ⟨lo, ld, g1, g2, ⟨s0, d0, n0, s1, d1⟩, r1, r2, hbd⟩ := hc
  have l1 := hR.2 o 100 lo g1
  have l2 := hR.2 d 100 ld g2
  unfold f60 at h6
  simp only [] at h6
  split at h6
  · next x hd =>
    obtain ⟨h7, w4⟩ := Bool.and_eq_true_iff.mp h6
    obtain ⟨h7, w3⟩ := Bool.and_eq_true_iff.mp h7
    obtain ⟨h7, w2⟩ := Bool.and_eq_true_iff.mp h7
    obtain ⟨h7, w1⟩ := Bool.and_eq_true_iff.mp h7
    obtain ⟨hf, hty⟩ := of_decide_eq_true h7
    have w1 := xwg_of w1
    have w2 := xwg_of w2
    have w3 := xwg_of w3
    have w4 := xwg_of w4
    have hB' : fB bd (fcpy I o sp d dp nn) := by
      intro a j
      unfold fcpy
      split
      · next e => rw [e.1]; exact hbd j e.2.1 e.2.2
      · exact hB a j
    have hz := h _ rfl hB'
    obtain ⟨ro, x1, x2⟩ := hh o 100 lo g1
    obtain ⟨rd, y1, y2⟩ := hh d 100 ld g2
    obtain ⟨rows, z1, z2⟩ := fgrid (len := ld) (fun j => fe (.inl (fcpy I o sp d dp nn d j)))
    obtain ⟨hp', -, q1, q2⟩ := fxhset (c := (100, ld, rows)) y1
    have hh' : fhr g (fcpy I o sp d dp nn) hp' := by
      intro a kk len ha
      by_cases e : a = d
      · subst e
        cases g2.symm.trans ha
        refine ⟨rows, q1, fun j hj => ?_⟩
        rw [z1 j hj, fcl_int (r2 j hj) (by decide)]
      · obtain ⟨rw0, v1, v2⟩ := hh a kk len ha
        refine ⟨rw0, by rw [q2 a e, v1], fun j hj => ?_⟩
        rw [v2 j hj]
        have q : fcpy I o sp d dp nn a j = I a j := if_neg (fun q => e q.1)
        unfold fcl
        rw [q]
    have hk := hGo cs lv st _ hp' hh' hB' hs hz
    intro p e s m args below meth c X H locs ls stc hI hL
    obtain ⟨v1, stc, rfl, t1, hst1⟩ := xSR_cons hI.2.2.1
    obtain ⟨v2, stc, rfl, t2, hst2⟩ := xSR_cons hst1
    obtain ⟨v3, stc, rfl, t3, hst3⟩ := xSR_cons hst2
    obtain ⟨v4, stc, rfl, t4, hst4⟩ := xSR_cons hst3
    obtain ⟨v5, stc, rfl, t5, hst⟩ := xSR_cons hst4
    have t1 : v1 = .int (nI (ic nn)) := t1
    have t2 : v2 = .int (nI (ic dp)) := t2
    have t4 : v4 = .int (nI (ic sp)) := t4
    rw [nI_ic] at t1 t2 t4
    subst t1; subst t2; subst t4; cases t3; cases t5
    obtain ⟨fs, hfs, hat, ty1, ht1, hfit1⟩ := xarr (hI.2.2.2.1.2 o _ x1) (Nat.le_refl 100)
    obtain ⟨gs, hgs, hat2, ty2, ht2, hfit2⟩ := xarr (hI.2.2.2.1.2 d _ y1) (Nat.le_refl 100)
    have et : ty1 = .int := Option.some.inj (ht1.symm.trans hty)
    subst et
    have et : ty2 = .int := Option.some.inj (ht2.symm.trans hty)
    subst et
    have lf : fs.length = lo := hfs.1
    have lg : gs.length = ld := hgs.1
    have X0 := X
    obtain ⟨hx, hbc, hml, _, _, _, hown, hts, _, _, hKA⟩ := X
    have hsize : ls.size = me.2.2.1 := by obtain ⟨lvc, hl, -⟩ := hI.2.1; exact hl.1
    have cn := fclamp (z := nn) n0 (by omega)
    have cs' := fclamp (z := sp) s0 (by omega)
    have cd := fclamp (z := dp) d0 (by omega)
    have in1 := iI_int (z := nn) ⟨by omega, by omega⟩
    have in2 := iI_int (z := sp) ⟨by omega, by omega⟩
    have in3 := iI_int (z := dp) ⟨by omega, by omega⟩
    obtain ⟨-, k0, hk0, cm0, hkk0⟩ := (hKA.1 _ _ hty).1 fs.length (vp_V fs)
    obtain ⟨-, k1', hk1, cm1, hkk1⟩ := (hKA.1 _ _ hty).1 gs.length (vp_V gs)
    have hget : ∀ i, i < fs.length → vp_V fs i ∈ fs := fun i hi => by
      unfold vp_V
      rw [List.getD_eq_getElem?_getD, List.getElem?_eq_getElem hi]
      exact List.getElem_mem hi
    have hget2 : ∀ i, i < gs.length → vp_V gs i ∈ gs := fun i hi => by
      unfold vp_V
      rw [List.getD_eq_getElem?_getD, List.getElem?_eq_getElem hi]
      exact List.getElem_mem hi
    intro T hT S
    obtain ⟨vm', X', step⟩ := S.arraycopy hx hown (hts _ (List.mem_cons_of_mem _ w1)) (hts _ (List.mem_cons_of_mem _ w2)) (hts _ (List.mem_cons_of_mem _ w3)) (hts _ (List.mem_cons_of_mem _ w4)) (src := base + o) (dst := base + d) (cs := arrV (dA (100 - 100)) fs.length (vp_V fs)) (cd := arrV (dA (100 - 100)) gs.length (vp_V gs)) (srcPos := iI sp) (destPos := iI dp) (n := iI nn) (by rw [hT]; exact hat) (by rw [hT]; exact hat2)
      (fun _ h => by cases h) (fun _ h => by cases h) (fun h => by cases h) (fun h => by cases h) hk0 hk1 hkk0 hkk1 (by decide) (fneg s0 (by omega)) (fneg d0 (by omega)) (fneg n0 (by omega))
      (by rw [in1, in2, arrV_size, lf]; omega)
      (by rw [in1, in3, arrV_size, lg]; omega)
      (fun vm₁ _ i hi => by
        rw [cn] at hi
        have hil : sp.toNat + i < fs.length := by rw [lf]; omega
        have ee : (arrV (dA (100 - 100)) fs.length (vp_V fs)).slots.getD ((iI sp).toNatClampNeg + i) .null = vp_V fs (sp.toNat + i) := by
          rw [cs', Array.getD_eq_getD_getElem?, arrV_read _ _ hil]
          rfl
        have hfi := hfit1 _ (hget _ hil)
        rw [ee]
        refine ⟨hfi, ?_⟩
        generalize vp_V fs (sp.toNat + i) = w at hfi
        cases w <;> first | trivial | exact absurd hfi (by simp [fits]))
      (g := F0 m pc ls (.int (iI nn) :: .int (iI dp) :: .ref (base + d) :: .int (iI sp) :: .ref (base + o) :: stc)) rfl (by rw [hml]; exact hsize) (rest := stc) rfl (by rw [hbc]; exact hd) hf (by
        have q := (xcats_of hst).1
        have hm := Nat.le_of_ble_eq_true hm
        rw [← fcats_eq] at hm
        have hm : xcats (feS st) + 64 ≤ (xR me).locals := hm
        have q : xcats (feS st) = _ := q
        have hw : nativeFrameWords "java/lang/System" "arraycopy" 5 + 11 ≤ 64 := by decide +kernel
        show 2 * 0 + _ + _ ≤ _
        omega)
    let gs' : List Value := (List.range gs.length).map (va_cpy (vp_V fs) (vp_V gs) sp.toNat dp.toNat nn.toNat)
    have lg' : gs'.length = gs.length := by show (List.map _ _).length = _; rw [List.length_map, List.length_range]
    have vg' : ∀ i, i < gs.length → vp_V gs' i = va_cpy (vp_V fs) (vp_V gs) sp.toNat dp.toNat nn.toNat i := fun i hi => by
      unfold vp_V
      show (List.map _ _).getD i _ = _
      rw [List.getD_eq_getElem?_getD, List.getElem?_map, List.getElem?_range hi]
      rfl
    have hcp : copied (arrV (dA (100 - 100)) fs.length (vp_V fs)) (arrV (dA (100 - 100)) gs.length (vp_V gs)) (iI sp) (iI dp) (iI nn) = arrV (dA (100 - 100)) gs'.length (vp_V gs') := by
      have e := va_copied (fun z : Value => z) (dA (100 - 100)) (dA (100 - 100)) (n0 := fs.length) (n1 := gs.length) (sp := (iI sp).toNatClampNeg) (dp := (iI dp).toNatClampNeg) (n := (iI nn).toNatClampNeg) (vp_V fs) (vp_V gs) (by rw [cn, cs', lf]; omega)
      refine Eq.trans e ?_
      rw [cn, cs', cd, lg']
      unfold arrV
      congr 1
      apply Array.ext
      · simp
      · intro i h1 h2
        have hi : i < gs.length := by simpa using h1
        simp [vg' i hi]
    rw [hcp] at X' step
    have hlt : base + d < H.size := (Array.getElem?_eq_some_iff.mp hat2).1
    generalize hH1 : ((T.setVm vm').setCell (base + d) (arrV (dA (100 - 100)) gs'.length (vp_V gs'))).heap = H1
    have hH2 : H1 = H.setIfInBounds (base + d) (arrV (dA (100 - 100)) gs'.length (vp_V gs')) := by rw [← hH1, ← hT]; rfl
    have p1 : H1[base + d]? = some (arrV (dA (100 - 100)) gs'.length (vp_V gs')) := by rw [hH2]; simp [Array.getElem?_setIfInBounds, hlt]
    have p2 : H1.size = H.size := by rw [hH2]; simp
    have p3 : ∀ q : Nat, q ≠ base + d → H1[q]? = H[q]? := fun q hq => by rw [hH2]; simp [Array.getElem?_setIfInBounds, Ne.symm hq]
    have hfr : xFR ρ base ld rows gs' := by
      refine ⟨by rw [lg', lg], fun j y hy => ?_⟩
      obtain ⟨hj, rfl⟩ := z2 j y hy
      refine ⟨va_cpy (vp_V fs) (vp_V gs) sp.toNat dp.toNat nn.toNat j, ?_, ?_⟩
      · show (List.map _ _)[j]? = _
        rw [List.getElem?_map, List.getElem?_range (by rw [lg]; exact hj)]
        rfl
      · unfold va_cpy fcpy
        by_cases e1 : dp ≤ (j : Int) ∧ (j : Int) < dp + nn
        · rw [if_pos ⟨rfl, e1⟩, if_pos (by omega)]
          have hq : (sp + ((j : Int) - dp)).toNat = sp.toNat + (j - dp.toNat) := by omega
          rw [hq]
          obtain ⟨w, hw, hg⟩ := hfs.2 _ _ (x2 (sp.toNat + (j - dp.toNat)) (by omega))
          rw [fcl_int (r1 _ (by omega)) (by decide)] at hg
          unfold vp_V
          rw [List.getD_eq_getElem?_getD, hw]
          exact hg
        · rw [if_neg (fun q => e1 q.2), if_neg (by omega)]
          obtain ⟨w, hw, hg⟩ := hgs.2 _ _ (y2 j hj)
          rw [fcl_int (r2 _ hj) (by decide)] at hg
          unfold vp_V
          rw [List.getD_eq_getElem?_getD, hw]
          exact hg
    have hfit' : ∀ v ∈ gs', fits .int v = true := by
      intro v hv
      obtain ⟨j, hj, rfl⟩ := List.mem_map.mp hv
      have hj := List.mem_range.mp hj
      unfold va_cpy
      split
      · exact hfit1 _ (hget _ (by rw [lf]; omega))
      · exact hfit2 _ (hget2 _ hj)
    have g := fih_of hk (pc + 3) hn p e s m args below meth c X0 H1 (locs ++ ((arrV (dA (100 - 100)) fs.length (vp_V fs)).stretch (iI sp).toNatClampNeg (iI nn).toNatClampNeg).zipIdx.map fun q => ⟨base + d, (iI dp).toNatClampNeg + q.2⟩) ls stc ⟨hI.1, hI.2.1, hst, hI.2.2.2.1.put (c := (100, ld, rows)) (hI.2.2.2.1.1.2.1 d _ y1) p2 p3 ⟨gs', hfr, Or.inr ⟨Nat.le_refl _, p1, _, hty, hfit'⟩⟩ q1 q2, hI.2.2.2.2⟩ (xSput hL (hI.2.2.2.1.1.2.1 d _ y1) p2 p3 (fun l hl => by
      obtain ⟨z, -, hz⟩ := List.mem_map.mp hl
      rw [← hz]))
    obtain ⟨t, a1, b1⟩ := g _ hH1 X'
    exact ⟨t, step t a1, b1⟩
  · cases h6
theorem f60_nx (h6 : f60 Tc tys me (pc, 60, 38, b, l) = true) (ho : xokc Tc Ms cl tys me ((pc, 60, 38, b, l) :: cs) = true) : xatp (pc + 3) cs := by
  unfold f60 at h6
  simp only [] at h6
  split at h6
  · next x hd =>
    have h1 := (Bool.and_eq_true_iff.mp ho).1
    unfold xoke at h1
    rw [show decode me.2.1 (pc, 60, 38, b, l).1 = _ from hd] at h1
    have h1 := (Bool.and_eq_true_iff.mp h1).2
    intro i r e
    subst e
    exact Nat.eq_of_beq_eq_true h1
  · cases h6
theorem f60_ok (hG : xGl Tc Ms cl tys) (hme : me ∈ Ms) (h6 : f60c Tc tys me = true) (hGo : fGo ρ base n F Tc cl tys D dA la g bd me k go) (hR : fOkR g rb) (hs : ((pc, 60, a, b, l) :: cs) <:+ xcd me) (hh : fhr g I hp) (hB : fB bd I) (h : fstep g bd rb C Ms go me pc 60 a b l cs lv st I P) : fih ρ base F Tc cl tys D dA la me ((pc, 60, a, b, l) :: cs) (feL lv, feS st, [], hp, n, 0, 0) k = true := by
  have h6 : f60 Tc tys me (pc, 60, a, b, l) = true := List.all_eq_true.mp h6 _ (hs.subset List.mem_cons_self)
  have ho := xokc_suf (hG.2 me hme).2.1 hs
  have hs' := (List.suffix_cons _ _).trans hs
  refine fih_mk (fun pc' hat => ?_)
  have e : pc = pc' := hat _ _ rfl
  subst e
  by_cases a1 : a = 39
  · subst a1
    match st, h with
    | .inl z :: st, h => exact f60_look hGo hh hB h6 h.1 h.2
    | [], h => exact (show False from h).elim
    | .inr _ :: _, h => exact (show False from h).elim
  by_cases a2 : a = 38
  · subst a2
    match st, h with
    | .inl nn :: .inl dp :: .inr (.inr (some d)) :: .inl sp :: .inr (.inr (some o)) :: st, h => exact f60_copy hR hGo hs' (f60_nx h6 ho) hh hB h6 h.1 h.2.1 h.2.2
    | [], h => exact (show False from h).elim
    | .inr _ :: _, h => exact (show False from h).elim
    | [.inl _], h => exact (show False from h).elim
    | .inl _ :: .inr _ :: _, h => exact (show False from h).elim
    | [.inl _, .inl _], h => exact (show False from h).elim
    | .inl _ :: .inl _ :: .inl _ :: _, h => exact (show False from h).elim
    | .inl _ :: .inl _ :: .inr (.inl _) :: _, h => exact (show False from h).elim
    | .inl _ :: .inl _ :: .inr (.inr none) :: _, h => exact (show False from h).elim
    | [.inl _, .inl _, .inr (.inr (some _))], h => exact (show False from h).elim
    | .inl _ :: .inl _ :: .inr (.inr (some _)) :: .inr _ :: _, h => exact (show False from h).elim
    | [.inl _, .inl _, .inr (.inr (some _)), .inl _], h => exact (show False from h).elim
    | .inl _ :: .inl _ :: .inr (.inr (some _)) :: .inl _ :: .inl _ :: _, h => exact (show False from h).elim
    | .inl _ :: .inl _ :: .inr (.inr (some _)) :: .inl _ :: .inr (.inl _) :: _, h => exact (show False from h).elim
    | .inl _ :: .inl _ :: .inr (.inr (some _)) :: .inl _ :: .inr (.inr none) :: _, h => exact (show False from h).elim
  · exfalso
    unfold fstep at h
    simp only [] at h
end FY

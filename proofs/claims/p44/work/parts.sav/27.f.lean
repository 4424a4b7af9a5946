set_option linter.all false
/-! cuts: loops and joins -/
section FC
variable {ρ : Nat → Int32} {base n : Nat} {F : Nat → Prop} {Tc : List (List Jvm.Cond)} {cl : List vw_C} {tys : List FieldType} {D : va_G} {dA : Nat → ClassId} {la : Launch} {Ms : List xM} {me : xM} {cs : List xI} {g : fG} {bd : Nat → Nat → Int × Int} {rb : Nat → Option Nat} {C : xM → List fV → fH → (fH → Option fV → Prop) → Prop} {lv : fL} {st : List fV} {I : fH} {P : fH → Option fV → Prop} {J : List (Nat × (Nat → fL → List fV → fH → Prop))} {f0 : Nat}
theorem fjmp_ex {t : Nat} {K : List xI → Prop} : ∀ {c : List xI}, fjmp c t K → ∃ i r, i.1 = t ∧ (i :: r) <:+ c ∧ K (i :: r) := by
  intro c
  induction c with
  | nil => intro h; exact h.elim
  | cons i c ih =>
    intro h
    unfold fjmp at h
    split at h
    · next e => exact ⟨i, c, Nat.eq_of_beq_eq_true e, List.suffix_refl _, h⟩
    · obtain ⟨j, r, h1, h2, h3⟩ := ih h
      exact ⟨j, r, h1, h2.trans (List.suffix_cons _ _), h3⟩
theorem fgo_of {N : Nat} {go : List xI → fL → List fV → fH → Prop} {i : xI} (h : fgo J N go (i :: cs) lv st I) : (∃ j, fcut J i.1 = some j ∧ ∃ m, m < N ∧ ∃ lv', fsub lv' lv ∧ j m lv' st I) ∨ go (i :: cs) lv st I := by
  have h : (match fcut J i.1 with
    | some j => ∃ m, m < N ∧ ∃ lv', fsub lv' lv ∧ j m lv' st I
    | none => go (i :: cs) lv st I) := h
  cases hc : fcut J i.1 with
  | none => rw [hc] at h; exact Or.inr h
  | some j => rw [hc] at h; exact Or.inl ⟨j, rfl, h⟩
theorem flget_mem {a : Nat} {K : fV → Prop} : ∀ {lv : fL}, flget lv a K → ∃ v, K v ∧ (a, v) ∈ lv := by
  intro lv
  induction lv with
  | nil => intro h; exact h.elim
  | cons p lv ih =>
    intro h
    unfold flget at h
    split at h
    · next e =>
      have e := Nat.eq_of_beq_eq_true e
      exact ⟨p.2, h, by rw [← e]; exact List.mem_cons_self⟩
    · obtain ⟨v, h1, h2⟩ := ih h
      exact ⟨v, h1, List.mem_cons_of_mem _ h2⟩
theorem fsub_mem : ∀ {lv' : fL}, fsub lv' lv → ∀ q ∈ lv', q ∈ lv := by
  intro lv'
  induction lv' with
  | nil => intro _ q h; cases h
  | cons p lv' ih =>
    intro h q hq
    obtain ⟨h1, h2⟩ := h
    rcases List.mem_cons.mp hq with rfl | hq
    · obtain ⟨v, e, hm⟩ := flget_mem h1
      rw [e] at hm
      exact hm
    · exact ih h2 q hq
theorem f_sub {lv' : fL} {B : List xV} {k : xK} {r : xE × (xH × (Nat × (Nat × Nat)))} (hsub : fsub lv' lv) (h : fih ρ base F Tc cl tys D dA la me cs (feL lv', B, r) k = true) : fih ρ base F Tc cl tys D dA la me cs (feL lv, B, r) k = true := by
  refine fih_mk (fun pc hat p e' s' m args below meth c C H locs ls stc hI hS => ?_)
  obtain ⟨lvc, hl, hlr⟩ := hI.2.1
  obtain ⟨lvc', hl', hlr'⟩ := xpat hl hlr (feL lv') (fun q hq => by
    obtain ⟨p, hp, rfl⟩ := List.mem_map.mp hq
    obtain ⟨j, hj⟩ := List.getElem?_of_mem (fsub_mem hsub p hp)
    exact ⟨j, fe p.2, by unfold feL; rw [List.getElem?_map, hj]; rfl, fun v hv => hv⟩)
  exact fih_of h pc hat p e' s' m args below meth c C H locs ls stc ⟨hI.1, ⟨lvc', hl', hlr'⟩, hI.2.2⟩ hS
theorem fwp_ok (hG : xGl Tc Ms cl tys) (hme : me ∈ Ms) (h6 : f60c Tc tys me = true) (hC : fOkC ρ base n F Tc cl tys D dA la g bd C) (hR : fOkR g rb) (hJ : ∀ q ∈ J, ∀ m lv st I, fB bd I → q.2 m lv st I → fjmp (xcd me) q.1 (fun cs => fwp g bd rb C Ms J m me P f0 cs lv st I)) : ∀ (N f : Nat) (cs : List xI) (lv : fL) (st : List fV) (I : fH), cs <:+ xcd me → fB bd I → fwp g bd rb C Ms J N me P f cs lv st I → fW ρ base n F Tc cl tys D dA la g me cs lv st I (fun I' r => fB bd I' ∧ P I' r) := by
  intro N
  induction N using Nat.strongRecOn with
  | _ N ihN =>
    intro f
    induction f with
    | zero => intro cs lv st I _ _ h; exact h.elim
    | succ f ihf =>
      intro cs lv st I hs hB h hp hh
      cases cs with
      | nil => exact h.elim
      | cons i cs =>
        obtain ⟨pc, op, a, b, l⟩ := i
        suffices hgo : fGo ρ base n F Tc cl tys D dA la g bd me (fk g n (fun I' r => fB bd I' ∧ P I' r)) (fgo J N (fwp g bd rb C Ms J N me P f)) by
          by_cases ho : op = 60
          · subst ho
            exact f60_ok hG hme h6 hgo hR hs hh hB h
          · exact fih_mk (f_one hG hme hs (fstep_ok (go := fgo J N (fwp g bd rb C Ms J N me P f)) ho hgo hC hR (fun I r hp h1 h2 h3 => @decide_eq_true _ (Classical.propDecidable _) ⟨rfl, I, r, h1, rfl, h2, h3⟩) ((List.suffix_cons _ _).trans hs) hh hB h))
        intro cs lv st I hp hh hB hs h
        cases cs with
        | nil => exact h.elim
        | cons i cs =>
          rcases fgo_of h with ⟨j, hcut, m, hm, lv', hsub, hj⟩ | h
          · obtain ⟨i', r, e1, e2, e3⟩ := fjmp_ex (hJ _ (fcut_mem hcut) m lv' st I hB hj)
            exact f_sub hsub (f_at e1.symm (ihN m hm f0 (i' :: r) lv' st I e2 hB e3 hp hh))
          · exact ihf (i :: cs) lv st I hs hB h hp hh
/-- a method that is shown so -/
def fC (ρ : Nat → Int32) (base n : Nat) (F : Nat → Prop) (Tc : List (List Jvm.Cond)) (cl : List vw_C) (tys : List FieldType) (D : va_G) (dA : Nat → ClassId) (la : Launch) (g : fG) (bd : Nat → Nat → Int × Int) : xM → List fV → fH → (fH → Option fV → Prop) → Prop := fun mc vs I Q => fW ρ base n F Tc cl tys D dA la g mc (xcd mc) (fargs 0 vs) [] I (fun I' r => fB bd I' ∧ Q I' r)
theorem fC_ok : fOkC ρ base n F Tc cl tys D dA la g bd (fC ρ base n F Tc cl tys D dA la g bd) := fun _ _ _ _ _ h => h
theorem fC_mono {mc : xM} {vs : List fV} {Q Q' : fH → Option fV → Prop} (h : fC ρ base n F Tc cl tys D dA la g bd mc vs I Q) (hq : ∀ I' r, fB bd I' → Q I' r → Q' I' r) : fC ρ base n F Tc cl tys D dA la g bd mc vs I Q' := by
  intro hp hh
  refine f_k (fun e h' n' r' q => ?_) (h hp hh)
  obtain ⟨q1, I', r, q2, q3, q4, q5⟩ := @of_decide_eq_true _ (Classical.propDecidable _) q
  exact @decide_eq_true _ (Classical.propDecidable _) ⟨q1, I', r, q2, q3, q4, hq I' r q4 q5⟩
theorem f_meth {vs : List fV} (N f : Nat) (hG : xGl Tc Ms cl tys) (hme : me ∈ Ms) (h6 : f60c Tc tys me = true) (hR : fOkR g rb) (hB : fB bd I) (hJ : ∀ q ∈ J, ∀ m lv st I, fB bd I → q.2 m lv st I → fjmp (xcd me) q.1 (fun cs => fwp g bd rb (fC ρ base n F Tc cl tys D dA la g bd) Ms J m me P f cs lv st I)) (h : fwp g bd rb (fC ρ base n F Tc cl tys D dA la g bd) Ms J N me P f (xcd me) (fargs 0 vs) [] I) : fC ρ base n F Tc cl tys D dA la g bd me vs I P := fwp_ok hG hme h6 fC_ok hR hJ N f (xcd me) (fargs 0 vs) [] I (List.suffix_refl _) hB h
/-- the contract of the machine -/
theorem f_met {vs : List fV} {vc : List Value} {hp : xH} (hlin : xLin ρ) (hG : xGl Tc Ms cl tys) (hme : me ∈ Ms) (hv : xSR ρ base (feS vs) vc) (hlen : Nat.ble (fcats vs) me.2.2.1 = true) (hh : fhr g I hp) (h : fC ρ base n F Tc cl tys D dA la g bd me vs I P) : Met la me.1 (xWs (xTs Tc) me) (xR me) (xPc ρ base F (xNs Tc) cl tys D dA vc hp n) (xQ ρ base F D dA tys cl (fk g n (fun I' r => fB bd I' ∧ P I' r))) (xR me).cells (xR me).slots F := by
  obtain ⟨p1, p2, p3, -⟩ := hG.2 me hme
  refine xMet (env := []) (Ms := Ms) (okc := xokc Tc Ms cl tys) (ih := fih ρ base F Tc cl tys D dA la) fih_ok hme p2 p3 p1 hv ⟨hlin, fun i q hq => by cases hq⟩ (by rw [← (xcats_of hv).2, fcats_eq]; exact Nat.le_of_ble_eq_true hlen) ?_
  rw [fargs_eq]
  exact h hp hh
end FC

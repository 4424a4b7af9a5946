set_option linter.all false
/-! cuts that are shown from outside -/
section FX2
variable {ρ : Nat → Int32} {base n : Nat} {F : Nat → Prop} {Tc : List (List Jvm.Cond)} {cl : List vw_C} {tys : List FieldType} {D : va_G} {dA : Nat → ClassId} {la : Launch} {Ms : List xM} {me : xM} {g : fG} {bd : Nat → Nat → Int × Int} {rb : Nat → Option Nat} {C : xM → List fV → fH → (fH → Option fV → Prop) → Prop} {P : fH → Option fV → Prop} {J : List (Nat × (Nat → fL → List fV → fH → Prop))} {f0 : Nat}
/-- from this place on, wherever it stands in the code -/
def fWat (ρ : Nat → Int32) (base n : Nat) (F : Nat → Prop) (Tc : List (List Jvm.Cond)) (cl : List vw_C) (tys : List FieldType) (D : va_G) (dA : Nat → ClassId) (la : Launch) (g : fG) (bd : Nat → Nat → Int × Int) (me : xM) (P : fH → Option fV → Prop) (pc : Nat) (lv : fL) (st : List fV) (I : fH) : Prop := ∀ i r, i.1 = pc → (i :: r) <:+ xcd me → fW ρ base n F Tc cl tys D dA la g me (i :: r) lv st I (fun I' r => fB bd I' ∧ P I' r)
theorem fwp_cut (hG : xGl Tc Ms cl tys) (hme : me ∈ Ms) (h6 : f60c Tc tys me = true) (hC : fOkC ρ base n F Tc cl tys D dA la g bd C) (hR : fOkR g rb) (N : Nat) (hJ : ∀ q ∈ J, ∀ m lv st I, m < N → fB bd I → q.2 m lv st I → fWat ρ base n F Tc cl tys D dA la g bd me P q.1 lv st I) : ∀ (f : Nat) (cs : List xI) (lv : fL) (st : List fV) (I : fH), cs <:+ xcd me → fB bd I → fwp g bd rb C Ms J N me P f cs lv st I → fW ρ base n F Tc cl tys D dA la g me cs lv st I (fun I' r => fB bd I' ∧ P I' r) := by
  intro f
  induction f with
  | zero => intro cs lv st I _ _ h; exact h.elim
  | succ f ihf =>
    intro cs lv st I hs hB h hp hh
    cases cs with
    | nil => exact h.elim
    | cons i cs =>
      obtain ⟨pc, op, a, b, l⟩ := i
      suffices hgo : fGo ρ base n F Tc cl tys D dA la g bd me (fk g n (fun I' r => fB bd I' ∧ P I' r)) (fgo J N (fwp g bd rb C Ms J N me P f)) by
        by_cases ho : op = 60
        · subst ho
          exact f60_ok hG hme h6 hgo hR hs hh hB h
        · exact fih_mk (f_one hG hme hs (fstep_ok (go := fgo J N (fwp g bd rb C Ms J N me P f)) ho hgo hC hR (fun I r hp h1 h2 h3 => @decide_eq_true _ (Classical.propDecidable _) ⟨rfl, I, r, h1, rfl, h2, h3⟩) ((List.suffix_cons _ _).trans hs) hh hB h))
      intro cs lv st I hp hh hB hs h
      cases cs with
      | nil => exact h.elim
      | cons i cs =>
        rcases fgo_of h with ⟨j, hcut, m, hm, lv', hsub, hj⟩ | h
        · exact f_sub hsub (hJ _ (fcut_mem hcut) m lv' st I hm hB hj i cs rfl hs hp hh)
        · exact ihf (i :: cs) lv st I hs hB h hp hh
/-- some cuts are gone on from by the machine's steps, the others by what is shown of them -/
theorem fwp_okx (hG : xGl Tc Ms cl tys) (hme : me ∈ Ms) (h6 : f60c Tc tys me = true) (hC : fOkC ρ base n F Tc cl tys D dA la g bd C) (hR : fOkR g rb) (hJ : ∀ q ∈ J, ∀ m lv st I, fB bd I → q.2 m lv st I → fjmp (xcd me) q.1 (fun cs => fwp g bd rb C Ms J m me P f0 cs lv st I) ∨ ((∀ q' ∈ J, ∀ m' lv' st' I', m' < m → fB bd I' → q'.2 m' lv' st' I' → fWat ρ base n F Tc cl tys D dA la g bd me P q'.1 lv' st' I') → fWat ρ base n F Tc cl tys D dA la g bd me P q.1 lv st I)) : ∀ (m : Nat), ∀ q ∈ J, ∀ lv st I, fB bd I → q.2 m lv st I → fWat ρ base n F Tc cl tys D dA la g bd me P q.1 lv st I := by
  intro m
  induction m using Nat.strongRecOn with
  | _ m ih =>
    intro q hq lv st I hB h
    rcases hJ q hq m lv st I hB h with h1 | h1
    · intro i r e hs hp hh
      obtain ⟨i', r', e1, e2, e3⟩ := fjmp_ex h1
      exact f_at (e.trans e1.symm) (fwp_cut hG hme h6 hC hR m (fun q' hq' m' lv' st' I' hm hB' hj => ih m' hm q' hq' lv' st' I' hB' hj) f0 (i' :: r') lv st I e2 hB e3 hp hh)
    · exact h1 (fun q' hq' m' lv' st' I' hm hB' hj => ih m' hm q' hq' lv' st' I' hB' hj)
theorem f_methx {vs : List fV} {I : fH} (N f : Nat) (hG : xGl Tc Ms cl tys) (hme : me ∈ Ms) (h6 : f60c Tc tys me = true) (hR : fOkR g rb) (hB : fB bd I) (hJ : ∀ q ∈ J, ∀ m lv st I, fB bd I → q.2 m lv st I → fjmp (xcd me) q.1 (fun cs => fwp g bd rb (fC ρ base n F Tc cl tys D dA la g bd) Ms J m me P f cs lv st I) ∨ ((∀ q' ∈ J, ∀ m' lv' st' I', m' < m → fB bd I' → q'.2 m' lv' st' I' → fWat ρ base n F Tc cl tys D dA la g bd me P q'.1 lv' st' I') → fWat ρ base n F Tc cl tys D dA la g bd me P q.1 lv st I)) (h : fwp g bd rb (fC ρ base n F Tc cl tys D dA la g bd) Ms J N me P f (xcd me) (fargs 0 vs) [] I) : fC ρ base n F Tc cl tys D dA la g bd me vs I P := fwp_cut hG hme h6 fC_ok hR N (fun q hq m lv st I _ hB hj => fwp_okx hG hme h6 fC_ok hR hJ m q hq lv st I hB hj) f (xcd me) (fargs 0 vs) [] I (List.suffix_refl _) hB h
end FX2

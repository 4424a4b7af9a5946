set_option linter.all false
/-! what is shown so holds of the machine -/
section FO
variable {ρ : Nat → Int32} {base n : Nat} {F : Nat → Prop} {Tc : List (List Jvm.Cond)} {cl : List vw_C} {tys : List FieldType} {D : va_G} {dA : Nat → ClassId} {la : Launch} {Ms : List xM} {me : xM} {cs : List xI} {g : fG} {lv : fL} {st : List fV} {I : fH} {P : fH → Option fV → Prop} {k : xK} {a b : Nat} {l : List Nat} {hp : xH} {r : Nat × (Nat × Nat)}
theorem fand {x y : Bool} (h : Bool.and x y = true) : x = true ∧ y = true := by cases x <;> cases y <;> simp_all
theorem iI_nat (a : Nat) : iI (a : Int) = nI a := by
  rw [← nI_ic, ← xn_mod a]
  apply congrArg
  unfold ic
  omega
theorem iI_nat2 (a : Nat) : iI ((a : Int) - 4294967296) = nI a := by
  rw [← nI_ic, ← xn_mod a]
  apply congrArg
  unfold ic
  omega
theorem iL_nat (a : Nat) : iL (a : Int) = lN a := by
  rw [← lN_lc]
  apply xl_inj
  rw [xl_tn, xl_tn]
  unfold lc
  omega
theorem iL_nat2 (a : Nat) : iL ((a : Int) - 18446744073709551616) = lN a := by
  rw [← lN_lc]
  apply xl_inj
  rw [xl_tn, xl_tn]
  unfold lc
  omega
theorem fcst_of {K : Int → Prop} (h : fcst a K) : ∃ z, iI z = nI a ∧ K z := by
  unfold fcst at h
  split at h
  · exact ⟨_, iI_nat a, h⟩
  · exact ⟨_, iI_nat2 a, h⟩
theorem fcstL_of {K : Int → Prop} (h : fcstL a K) : ∃ z, iL z = lN a ∧ K z := by
  unfold fcstL at h
  split at h
  · exact ⟨_, iL_nat a, h⟩
  · exact ⟨_, iL_nat2 a, h⟩
theorem flget_of {K : fV → Prop} : ∀ {lv : fL}, flget lv a K → ∃ v, K v ∧ ∀ q : xV → Bool, xfind (feL lv) a q = q (fe v) := by
  intro lv
  induction lv with
  | nil => intro h; exact h.elim
  | cons p lv ih =>
    intro h
    unfold flget at h
    split at h
    · next e => exact ⟨p.2, h, fun q => by show cond (Nat.beq p.1 a) _ _ = _; rw [e]; rfl⟩
    · next e =>
      obtain ⟨v, h1, h2⟩ := ih h
      exact ⟨v, h1, fun q => by show cond (Nat.beq p.1 a) _ (xfind (feL lv) a q) = _; rw [e, cond_false, h2]⟩
theorem fldrop_eq (i b : Nat) (q : Nat × fV) : xdrop i b (q.1, fe q.2) = fldrop i b q := by unfold xdrop fldrop; rw [fe_is]
theorem flfil_of : ∀ {lv : fL} {K : fL → Prop}, flfil a b lv K → ∃ l, K l ∧ ∀ q : xL → Bool, xfil a b (feL lv) q = q (feL l) := by
  intro lv
  induction lv with
  | nil => intro K h; exact ⟨[], h, fun q => rfl⟩
  | cons p lv ih =>
    intro K h
    unfold flfil at h
    split at h
    · next e =>
      obtain ⟨l, h1, h2⟩ := ih h
      exact ⟨l, h1, fun q => by show cond (xdrop a b (p.1, fe p.2)) (xfil a b (feL lv) q) _ = _; rw [fldrop_eq, e, cond_true, h2]⟩
    · next e =>
      obtain ⟨l, h1, h2⟩ := ih h
      exact ⟨p :: l, h1, fun q => by show cond (xdrop a b (p.1, fe p.2)) _ (xfil a b (feL lv) (fun l => q ((p.1, fe p.2) :: l))) = _; rw [fldrop_eq, e, cond_false, h2]; rfl⟩
theorem fjmp_of {t : Nat} {K : List xI → Prop} {q : List xI → Bool} : ∀ {c : List xI}, fjmp c t K → (∀ cs', cs' <:+ c → K cs' → q cs' = true) → xjmp c t q = true := by
  intro c
  induction c with
  | nil => intro h _; exact h.elim
  | cons i c ih =>
    intro h hq
    unfold fjmp at h
    show cond (Nat.beq i.1 t) (q (i :: c)) (xjmp c t q) = true
    split at h
    · next e => rw [e]; exact hq _ (List.suffix_refl _) h
    · next e => rw [e]; exact ih h (fun cs' h1 h2 => hq cs' (h1.trans (List.suffix_cons _ _)) h2)
theorem fyes_of {x : Bool} {p : Prop} (h : fyes x p) : x = true ∧ p := by
  unfold fyes at h
  split at h
  · exact ⟨rfl, h⟩
  · exact h.elim
theorem fopt_of {α : Type} {o : Option α} {K : α → Prop} (h : fopt o K) : ∃ x, o = some x ∧ K x := by
  unfold fopt at h
  split at h
  · exact ⟨_, rfl, h⟩
  · exact h.elim
theorem fbd2_of {p : Int × Int} {K : Int → Int → Prop} (h : fbd2 p K) : K p.1 p.2 := by
  unfold fbd2 at h
  exact h
theorem fcut_mem {α : Type} {q : α} : ∀ {J : List (Nat × α)} {i : Nat}, fcut J i = some q → (i, q) ∈ J := by
  intro J
  induction J with
  | nil => intro i h; cases h
  | cons p J ih =>
    intro i h
    unfold fcut at h
    split at h
    · next e =>
      have e := Nat.eq_of_beq_eq_true e
      cases h
      rw [← e]
      exact List.mem_cons_self
    · exact List.mem_cons_of_mem _ (ih h)
/-- a known pair of ints -/
theorem f_ibin {x y : Int} {s : List xV} {lx : xL} {env : xE} {rr : xH × (Nat × (Nat × Nat))} {ih : xIh} (h : ∀ w, nI w = xio a (iI x) (iI y) → ih me cs (lx, .inl w :: s, env, rr) k = true) : xo_ibin ih me cs a b l (lx, .inl (ic y) :: .inl (ic x) :: s, env, rr) k = true := by
  show cond (Bool.and (Nat.beq a 0) (Bool.and (Nat.beq (ic y) 0) true)) (ih me cs (lx, .inl (ic x) :: s, env, rr) k) (cond (Bool.and (Nat.beq a 0) (Bool.and (Nat.beq (ic x) 0) true)) (ih me cs (lx, .inl (ic y) :: s, env, rr) k) (xfN (xioc a (ic x) (ic y)) (fun w => ih me cs (lx, .inl w :: s, env, rr) k))) = true
  have z0 : ∀ z : Int, ic z = 0 → iI z = 0 := fun z hz => by rw [← nI_ic, hz]; rfl
  by_cases c1 : Bool.and (Nat.beq a 0) (Bool.and (Nat.beq (ic y) 0) true) = true
  · rw [c1, cond_true]
    obtain ⟨e1, e2⟩ := fand c1
    have e1 := Nat.eq_of_beq_eq_true e1
    have e2 := z0 y (Nat.eq_of_beq_eq_true (fand e2).1)
    refine h _ ?_
    rw [nI_ic, e1, e2]
    show iI x = iI x + 0
    rw [Int32.add_zero]
  · rw [xnf c1, cond_false]
    by_cases c2 : Bool.and (Nat.beq a 0) (Bool.and (Nat.beq (ic x) 0) true) = true
    · rw [c2, cond_true]
      obtain ⟨e1, e2⟩ := fand c2
      have e1 := Nat.eq_of_beq_eq_true e1
      have e2 := z0 x (Nat.eq_of_beq_eq_true (fand e2).1)
      refine h _ ?_
      rw [nI_ic, e1, e2]
      show iI y = 0 + iI y
      rw [Int32.zero_add]
    · rw [xnf c2, cond_false, xfN_eq]
      exact h _ (by rw [xioc_of, nI_ic, nI_ic])
theorem fmask {x y z : Int} (hz : fin32 z) (he : iI z = iI x &&& iI y) (hy : 0 ≤ y ∧ y < 2147483648) : 0 ≤ z ∧ z ≤ y := by
  have e1 : iI z = nI (ic x &&& ic y) := by
    rw [he, ← nI_ic x, ← nI_ic y]
    exact (xioc_of 3 (ic x) (ic y)).symm
  have hle : ic x &&& ic y ≤ ic y := Nat.and_le_right
  have hy2 : ic y = y.toNat := ic_small hy.1 (by omega)
  have e2 : iI z = iI ((ic x &&& ic y : Nat) : Int) := by rw [iI_nat]; exact e1
  have e3 := (iI_eq hz ⟨by omega, by omega⟩).mp e2
  omega
theorem iL_eq {a b : Int} (ha : fin64 a) (hb : fin64 b) (h : iL a = iL b) : a = b := by
  have e := congrArg Int64.toInt h
  rw [iL_int ha, iL_int hb] at e
  exact e
theorem fmaskL {x y z : Int} (hz : fin64 z) (he : iL z = xlo 3 (iL x) (iL y)) (hy : 0 ≤ y ∧ y < 9223372036854775808) : 0 ≤ z ∧ z ≤ y := by
  have he : iL z = iL x &&& iL y := he
  have e1 : (iL z).toBitVec.toNat = (iL x).toBitVec.toNat &&& (iL y).toBitVec.toNat := by
    rw [he]
    exact BitVec.toNat_and _ _
  have hle : (iL x).toBitVec.toNat &&& (iL y).toBitVec.toNat ≤ (iL y).toBitVec.toNat := Nat.and_le_right
  have ey : (iL y).toBitVec.toNat = (y % 18446744073709551616).toNat := by
    show (BitVec.ofInt 64 y).toNat = _
    rw [BitVec.toNat_ofInt]
    rfl
  have ez : (iL z).toBitVec.toNat = (z % 18446744073709551616).toNat := by
    show (BitVec.ofInt 64 z).toNat = _
    rw [BitVec.toNat_ofInt]
    rfl
  rw [← e1, ey, ez] at hle
  have h1 := hz.1
  have h2 := hz.2
  omega
theorem fdivs {x y z : Int} (ha : a < 2) (hx : fin32 x) (hy : fin32 y) (hz : fin32 z) (he : iI z = xdv a (iI x) (iI y)) (h0 : 0 ≤ x) (h1 : 0 < y) : z = fdr a x y := by
  have ex : ic x = x.toNat := ic_small h0 (by have := hx.2; omega)
  have ey : ic y = y.toNat := ic_small (by omega) (by have := hy.2; omega)
  have h2 := hx.2
  have h3 := hy.2
  have e0 := xdv_of (a := a) (u := ic x) (v := ic y) ha (by rw [ey]; omega)
  rw [nI_ic, nI_ic, ← he] at e0
  have hb : Bool.and (Nat.blt (ic x) 2147483648) (Nat.blt (ic y) 2147483648) = true := by
    rw [xblt.mpr (by omega), xblt.mpr (by omega)]
    rfl
  unfold xdvc at e0
  rw [hb, cond_true] at e0
  rcases (show a = 0 ∨ a = 1 by omega) with rfl | rfl
  · have e0 : nI (ic x / ic y) = iI z := e0
    rw [← iI_nat] at e0
    have h4 : ((ic x / ic y : Nat) : Int) = x / y := by rw [ex, ey, Int.natCast_ediv, Int.toNat_of_nonneg h0, Int.toNat_of_nonneg (by omega)]
    rw [h4] at e0
    have h5 : 0 ≤ x / y := Int.ediv_nonneg h0 (by omega)
    have h6 : x / y ≤ x := Int.ediv_le_self _ h0
    exact ((iI_eq ⟨by omega, by omega⟩ hz).mp e0).symm
  · have e0 : nI (ic x % ic y) = iI z := e0
    rw [← iI_nat] at e0
    have h4 : ((ic x % ic y : Nat) : Int) = x % y := by rw [ex, ey, Int.natCast_emod, Int.toNat_of_nonneg h0, Int.toNat_of_nonneg (by omega)]
    rw [h4] at e0
    have h5 : 0 ≤ x % y := Int.emod_nonneg _ (by omega)
    have h6 : x % y < y := Int.emod_lt_of_pos _ h1
    exact ((iI_eq ⟨by omega, by omega⟩ hz).mp e0).symm
theorem fcmp_of (c : Nat) {x y : Int} (hx : fin32 x) (hy : fin32 y) : xP c (iI x) (iI y) ↔ fcmp c x y := by
  match c with
  | 0 => exact iI_eq hx hy
  | 1 => exact not_congr (iI_eq hx hy)
  | 2 => exact iI_lt hx hy
  | 3 => exact iI_le hy hx
  | 4 => exact iI_lt hy hx
  | _ + 5 => exact iI_le hx hy
end FO

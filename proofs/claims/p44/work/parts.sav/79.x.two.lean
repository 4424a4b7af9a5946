set_option linter.all false
/-! the two objects' city and charter are the same -/
/-- who isn't there has said nothing -/
def okSd (r : Rw) (L : Lw) : Prop := ∀ p : Nat, gt r 8 ≤ (p : Int) → L.said p = 0
def oCn (I : fH) : Prop := (cR 0 I = mR I ∧ cLw 0 I = mLw 741 I) ∧ okR (mR I) ∧ okL (mLw 741 I) ∧ okE 741 I ∧ (-1 ≤ (mLw 741 I).vote ∧ (mLw 741 I).vote < (mLw 741 I).n) ∧ okSd (mR I) (mLw 741 I)
def oCk (I : fH) : Prop := ((cR 256 I = iR I ∧ okMi (iR I)) ∧ cLw 256 I = mLw 742 I) ∧ okR (iR I) ∧ okL (mLw 742 I) ∧ okE 742 I ∧ (-1 ≤ (mLw 742 I).vote ∧ (mLw 742 I).vote < (mLw 742 I).n) ∧ okSd (iR I) (mLw 742 I)
def oCC (I : fH) : Prop := oCn I ∧ (I 0 6 = 1 → oCk I)
theorem z742 : ∀ j, znJ 742 j = znJ 742 0 := fun j => by
  have h : frg zvJ 742 = none := by decide +kernel
  have e : ∀ j, znJ 742 j = 742 := fun j => by
    show fzt zvJ 742 j = 742
    unfold fzt
    rw [h]
  rw [e, e]
theorem iLw_fr {W : List Nat} {I I' : fH} (f : fFr znJ W I I') (h : zin W (znJ 742 0) = true) : mLw 742 I' = mLw 742 I := mLw_two (fun j _ => f 742 j (by rw [z742]; exact zin_el h))
theorem iE_fr {W : List Nat} {I I' : fH} (f : fFr znJ W I I') (h : zin W (znJ 742 0) = true) (k : okE 742 I) : okE 742 I' := okE_two (fun j _ => f 742 j (by rw [z742]; exact zin_el h)) k
def mNZ (W : List Nat) : Bool := mZ.all (fun z => zin W z) && mLZ.all (fun z => zin W z)
def cNZ (W : List Nat) : Bool := cZ0.all (fun z => zin W z) && lZ0.all (fun z => zin W z)
def kNZ (W : List Nat) : Bool := (cZ256.all (fun z => zin W z) && lZ256.all (fun z => zin W z)) && (zin W (znJ 742 0) && zin W (znJ 0 6))
theorem oCk_fr {W : List Nat} {I I' : fH} (h : oCk I) (f : fFr znJ W I I') (w : kNZ W = true) : oCk I' := by
  obtain ⟨w1, w2⟩ := Bool.and_eq_true_iff.mp w
  obtain ⟨w3, w4⟩ := Bool.and_eq_true_iff.mp w1
  obtain ⟨w5, w6⟩ := Bool.and_eq_true_iff.mp w2
  obtain ⟨⟨⟨h1, h0⟩, h2⟩, h3, h4, h5, h6, h7⟩ := h
  have eR := iR_fr f w5 z742
  have eL := iLw_fr f w5
  exact ⟨⟨⟨by rw [cR_fr (d := 256) cZ256_ok f w3, h1, eR], by rw [eR]; exact h0⟩, by rw [cLw_fr lZ256_ok f w4, h2, eL]⟩, by rw [eR]; exact h3, by rw [eL]; exact h4, iE_fr f w5 h5, by rw [eL]; exact h6, by rw [eR, eL]; exact h7⟩
/-- what was kept stays through both calls -/
theorem oCC_k {W1 W2 : List Nat} {I I1 I2 : fH} (h : oCC I) (f1 : fFr znJ W1 I I1) (f2 : fFr znJ W2 I1 I2) (w1 : kNZ W1 = true) (w2 : kNZ W2 = true) : I2 0 6 = 1 → oCk I2 := fun q => by
  have e1 : I1 0 6 = I 0 6 := f1 0 6 (zin_el (Bool.and_eq_true_iff.mp (Bool.and_eq_true_iff.mp w1).2).2)
  have e2 : I2 0 6 = I1 0 6 := f2 0 6 (zin_el (Bool.and_eq_true_iff.mp (Bool.and_eq_true_iff.mp w2).2).2)
  exact oCk_fr (oCk_fr (h.2 (by rw [← e1, ← e2]; exact q)) f1 w1) f2 w2
theorem oCC_fr {W : List Nat} {I I' : fH} (h : oCC I) (f : fFr znJ W I I') (w1 : mNZ W = true) (w2 : cNZ W = true) (w3 : kNZ W = true) : oCC I' := by
  obtain ⟨a1, a2⟩ := Bool.and_eq_true_iff.mp w1
  obtain ⟨b1, b2⟩ := Bool.and_eq_true_iff.mp w2
  obtain ⟨⟨⟨h1, h2⟩, h3, h4, h5, h6, h7⟩, hk⟩ := h
  have eR := mR_fr f a1
  have eL := mLw_fr f a2
  have e0 : I' 0 6 = I 0 6 := f 0 6 (zin_el (Bool.and_eq_true_iff.mp (Bool.and_eq_true_iff.mp w3).2).2)
  exact ⟨⟨⟨by rw [cR_fr (d := 0) cZ0_ok f b1, h1, eR], by rw [cLw_fr lZ0_ok f b2, h2, eL]⟩, by rw [eR]; exact h3, by rw [eL]; exact h4, okE_fr f a2 h5, by rw [eL]; exact h6, by rw [eR, eL]; exact h7⟩, fun q => oCk_fr (hk (by rw [← e0]; exact q)) f w3⟩
/-- the row changes alike on both sides, the charter stays -/
theorem oCC_row {W1 W2 : List Nat} {I I1 I2 : fH} {z1 z2 : Int} {A : Rw × Int} (h : oCC I) (f1 : fFr znJ W1 I I1) (f2 : fFr znJ W2 I1 I2) (u : (cR 0 I1, z1) = A) (v : (mR I2, z2) = A) (a : lZ0.all (fun z => zin W1 z) = true) (b : mLZ.all (fun z => zin W1 z) = true) (c : cNZ W2 = true) (d : mLw 741 I2 = mLw 741 I1) (dE : okE 741 I1 → okE 741 I2) (w1 : kNZ W1 = true) (w2 : kNZ W2 = true) (ok : okR A.1) (k8 : gt (mR I) 8 ≤ gt A.1 8) : oCC I2 ∧ z1 = z2 := by
  obtain ⟨c1, c2⟩ := Bool.and_eq_true_iff.mp c
  have e := u.trans v.symm
  have er : cR 0 I1 = mR I2 := congrArg Prod.fst e
  have eL := mLw_fr f1 b
  have eL2 := d.trans eL
  have eA : mR I2 = A.1 := congrArg Prod.fst v
  obtain ⟨⟨⟨h1, h2⟩, h3, h4, h5, h6, h7⟩, -⟩ := id h
  exact ⟨⟨⟨⟨(cR_fr (d := 0) cZ0_ok f2 c1).trans er, by rw [cLw_fr lZ0_ok f2 c2, cLw_fr lZ0_ok f1 a, h2, eL2]⟩, by rw [eA]; exact ok, by rw [eL2]; exact h4, dE (okE_fr f1 b h5), by rw [eL2]; exact h6, by rw [eL2, eA]; exact fun p hp => h7 p (Int.le_trans k8 hp)⟩, oCC_k h f1 f2 w1 w2⟩, congrArg Prod.snd e⟩
theorem mR_8 {I : fH} : gt (mR I) 8 = I 741 8 := mR_ld (k := 8) rfl
/-- the people stay as many -/
theorem k8_fr {W1 W2 : List Nat} {I I1 I2 : fH} {A : Rw} (f1 : fFr znJ W1 I I1) (f2 : fFr znJ W2 I1 I2) (v : mR I2 = A) (a : zin W1 (znJ 741 8) = true) (b : zin W2 (znJ 741 8) = true) : gt (mR I) 8 ≤ gt A 8 := by
  rw [← v, mR_8, mR_8, f2 741 8 (zin_el b), f1 741 8 (zin_el a)]
  exact Int.le_refl _
theorem k8_pers1 {r : Rw} {a c s : Int} (h : 0 ≤ gt r 8) : gt r 8 ≤ gt (oPers1 r a c s).1 8 := by
  unfold oPers1
  split
  · show gt r 8 ≤ gt (rud _ 8 (gt r 8 + 1)) 8
    rw [gt_same (by decide) rfl]
    omega
  · exact Int.le_refl _
theorem k8_pers {r : Rw} {a c s : Int} (h : 0 ≤ gt r 8) : gt r 8 ≤ gt (oPers r a c s).1 8 := by
  unfold oPers
  split
  · exact k8_pers1 h
  · exact Int.le_refl _
theorem k8_birth {r : Rw} {L : Lw} {c : Int} (h : 0 ≤ gt r 8) : gt r 8 ≤ gt (oBirth r L c).1 8 := by
  unfold oBirth
  split
  · by_cases d : alw L 3 (sHr r) (nmB r)
    · rw [cI_pos d]
      exact k8_pers1 h
    · rw [cI_neg d]
      exact Int.le_refl _
  · exact Int.le_refl _
/-- of the charter's places one becomes 0: what a new person has said -/
def mNew (I K : fH) : Prop := ∀ j : Nat, lwb j = true → K 741 j = I 741 j ∨ ((j : Int) = 874 + 6 * I 741 8 ∧ K 741 j = 0)
theorem lwb_of {j : Nat} (h : lwb j = true) : j = 9 ∨ j = 14 ∨ j = 15 ∨ j = 16 ∨ ((870 ≤ j ∧ j ≤ 1013) ∧ (j - 870) % 6 = 4) ∨ (1210 ≤ j ∧ j ≤ 3609) := by
  unfold lwb at h
  simp only [Bool.or_eq_true, Bool.and_eq_true, Nat.beq_eq, Nat.ble_eq] at h
  omega
theorem mNew_of {I A B C D E K : fH} {n a1 a2 a3 a4 a5 v1 v2 v3 v4 v5 v6 : Int} (e1 : A = fupd I 741 a1.toNat v1) (e2 : B = fupd A 741 a2.toNat v2) (e3 : C = fupd B 741 a3.toNat v3) (e4 : D = fupd C 741 a4.toNat v4) (e5 : E = fupd D 741 a5.toNat v5) (e6 : K = fupd E 741 8 v6) (ha : a1 = 870 + 6 * n ∧ a2 = 871 + 6 * n ∧ a3 = 872 + 6 * n ∧ a4 = 873 + 6 * n ∧ a5 = 874 + 6 * n) (hn : n = I 741 8) (h0 : 0 ≤ n ∧ n < 24) (hv : v5 = 0) : mNew I K := fun j hj => by
  have q := lwb_of hj
  rw [e6, fup_ne (Or.inr (by omega))]
  by_cases c : (j : Int) = a5
  · refine Or.inr ⟨by omega, ?_⟩
    rw [e5, show j = a5.toNat by omega, fup_eq]
    exact hv
  · refine Or.inl ?_
    rw [e5, fup_ne (Or.inr (by omega)), e4, fup_ne (Or.inr (by omega)), e3, fup_ne (Or.inr (by omega)), e2, fup_ne (Or.inr (by omega)), e1, fup_ne (Or.inr (by omega))]
theorem mNew_fr {W : List Nat} {I P K : fH} (f : fFr znJ W I P) (w : W.all (fun z => Bool.and (Nat.blt z 20000) (Bool.not (Nat.beq z 741))) = true) (h : mNew P K) : mNew I K := fun j hj => by
  rcases h j hj with q | ⟨q1, q2⟩
  · exact Or.inl (q.trans (fFr_S f w j))
  · exact Or.inr ⟨by rw [← fFr_S f w 8]; exact q1, q2⟩
theorem mNew_z {W : List Nat} {I P : fH} (f : fFr znJ W I P) (w : W.all (fun z => Bool.and (Nat.blt z 20000) (Bool.not (Nat.beq z 741))) = true) : mNew I P := fun j _ => Or.inl (fFr_S f w j)
theorem mNew_L {I K : fH} (h : mNew I K) (s : okSd (mR I) (mLw 741 I)) (b : 0 ≤ I 741 8 ∧ I 741 8 ≤ 24) : mLw 741 K = mLw 741 I := by
  have o : ∀ j : Nat, lwb j = true → (j < 870 ∨ 1020 < j) → K 741 j = I 741 j := fun j hj hq => (h j hj).elim id (fun q => by have q1 := q.1; omega)
  have e9 := o 9 (by decide) (by decide)
  have e14 := o 14 (by decide) (by decide)
  have e15 := o 15 (by decide) (by decide)
  have e16 := o 16 (by decide) (by decide)
  have a3 : (fun p => if K 741 14 < 0 ∨ 24 ≤ p then 0 else K 741 (874 + 6 * p)) = (fun p => if I 741 14 < 0 ∨ 24 ≤ p then 0 else I 741 (874 + 6 * p)) := funext (fun p => by
    rw [e14]
    by_cases c : I 741 14 < 0 ∨ 24 ≤ p
    · rw [if_pos c, if_pos c]
    · rw [if_neg c, if_neg c]
      rcases h _ (lwb_s (p := p) (by omega)) with q | ⟨q1, q2⟩
      · exact q
      · have sp := s p (by rw [mR_8]; omega)
        have e : (mLw 741 I).said p = I 741 (874 + 6 * p) := if_neg c
        rw [q2, ← e, sp])
  have a4 : mFd 741 K = mFd 741 I := funext (fun t => funext (fun k => by
    unfold mFd
    rw [e9]
    by_cases c : ((t : Int) < I 741 9 ∧ t < 12) ∧ k ≤ 4
    · rw [if_pos c, if_pos c, o _ (lwb_t (by omega) (by omega)) (by omega)]
    · rw [if_neg c, if_neg c]))
  have a5 : mCd 741 K = mCd 741 I := funext (fun t => funext (fun i => by
    unfold mCd
    rw [e9]
    by_cases c0 : t < 12
    · rw [o (1214 + 200 * t) (lwb_t (by omega) (by omega)) (by omega)]
      by_cases c : (((t : Int) < I 741 9 ∧ t < 12) ∧ (i : Int) < I 741 (1214 + 200 * t)) ∧ i < 96
      · rw [if_pos c, if_pos c, o _ (lwb_t (by omega) (by omega)) (by omega), o _ (lwb_t (by omega) (by omega)) (by omega)]
      · rw [if_neg c, if_neg c]
    · rw [if_neg (fun q => c0 q.1.1.2), if_neg (fun q => c0 q.1.1.2)]))
  unfold mLw
  rw [a3, e9, e14, e15, e16, a4, a5]
theorem mNew_E {I K : fH} (h : mNew I K) (b : 0 ≤ I 741 8 ∧ I 741 8 ≤ 24) (k : okE 741 I) : okE 741 K := by
  have o : ∀ j : Nat, lwb j = true → (j < 870 ∨ 1020 < j) → K 741 j = I 741 j := fun j hj hq => (h j hj).elim id (fun q => by have q1 := q.1; omega)
  intro t i ht hi
  rw [o 9 (by decide) (by decide)] at ht
  rw [o (1214 + 200 * t) (lwb_t (by omega) (by omega)) (by omega)] at hi
  rw [o (1215 + 200 * t + 2 * i) (lwb_t (by omega) (by omega)) (by omega), o (1215 + 200 * t + 2 * i + 1) (lwb_t (by omega) (by omega)) (by omega)]
  exact k t i ht hi
/-- the charter changes alike on both sides, the row stays -/
theorem oCC_law {W1 W2 : List Nat} {I I1 I2 : fH} {z1 z2 : Int} {A : Lw × Int} (h : oCC I) (f1 : fFr znJ W1 I I1) (f2 : fFr znJ W2 I1 I2) (u : (cLw 0 I1, z1) = A) (v : (mLw 741 I2, z2) = A) (r1 : cR 0 I1 = cR 0 I) (r2 : mR I2 = mR I1) (b : mZ.all (fun z => zin W1 z) = true) (c : cNZ W2 = true) (w1 : kNZ W1 = true) (w2 : kNZ W2 = true) (ok : okL A.1) (okE2 : okE 741 I2) (okV : -1 ≤ A.1.vote ∧ A.1.vote < A.1.n) (oS : okSd (mR I) A.1) : oCC I2 ∧ z1 = z2 := by
  obtain ⟨c1, c2⟩ := Bool.and_eq_true_iff.mp c
  have e := u.trans v.symm
  have er : cLw 0 I1 = mLw 741 I2 := congrArg Prod.fst e
  have eR := r2.trans (mR_fr f1 b)
  have eA : mLw 741 I2 = A.1 := congrArg Prod.fst v
  obtain ⟨⟨⟨h1, h2⟩, h3, h4, h5, h6, h7⟩, -⟩ := id h
  exact ⟨⟨⟨⟨by rw [cR_fr (d := 0) cZ0_ok f2 c1, r1, h1, eR], (cLw_fr lZ0_ok f2 c2).trans er⟩, by rw [eR]; exact h3, by rw [eA]; exact ok, okE2, by rw [eA]; exact okV, by rw [eR, eA]; exact oS⟩, oCC_k h f1 f2 w1 w2⟩, congrArg Prod.snd e⟩
/-- votes keep the charter in order -/
theorem okL_eq {L L' : Lw} (h : okL L) (n : L'.n = L.n) (f : L'.2.2.1 = L.2.2.1) (c : L'.2.2.2 = L.2.2.2) : okL L' := by
  obtain ⟨⟨n1, v1, y1, o1, b1⟩, s1, f1, c1⟩ := L
  obtain ⟨⟨n2, v2, y2, o2, b2⟩, s2, f2, c2⟩ := L'
  cases n
  cases f
  cases c
  exact h
theorem okL_hold {L : Lw} {t : Int} (h : okL L) : okL (oHold L t).1 := by
  unfold oHold
  split
  · split
    · exact h
    · exact okL_eq h rfl rfl rfl
  · exact h
theorem okV_hold {L : Lw} {t : Int} (h : -1 ≤ L.vote ∧ L.vote < L.n) : -1 ≤ (oHold L t).1.vote ∧ (oHold L t).1.vote < (oHold L t).1.n := by
  unfold oHold
  split
  · next q =>
    split
    · exact h
    · exact ⟨by show -1 ≤ t; omega, q.2⟩
  · exact h
theorem okL_say {r : Rw} {L : Lw} {p y : Int} (h : okL L) : okL (oSay r L p y).1 := by
  unfold oSay
  split
  · by_cases c : 0 ≤ L.vote ∧ ¬ sDd r p ∧ L.said p.toNat ≠ 1 ∧ alw L 4 (sHr r) (nmO r p 0)
    · rw [cI_pos c]
      exact okL_eq h rfl rfl rfl
    · rw [cI_neg c]
      exact h
  · exact h
theorem okV_say {r : Rw} {L : Lw} {p y : Int} (h : -1 ≤ L.vote ∧ L.vote < L.n) : -1 ≤ (oSay r L p y).1.vote ∧ (oSay r L p y).1.vote < (oSay r L p y).1.n := by
  unfold oSay
  split
  · by_cases c : 0 ≤ L.vote ∧ ¬ sDd r p ∧ L.said p.toNat ≠ 1 ∧ alw L 4 (sHr r) (nmO r p 0)
    · rw [cI_pos c]
      exact h
    · rw [cI_neg c]
      exact h
  · exact h
theorem okL_tal {r : Rw} {L : Lw} (h : okL L) (h0 : 0 ≤ sHr r) : okL (oTal r L).1 := by
  unfold oTal
  split
  · by_cases c : oPas r L
    · rw [cI_pos c]
      show okL (lPass L (sHr r + 1))
      intro t ht
      have q := h t ht
      have e0 : (lPass L (sHr r + 1)).fld t 0 = L.fld t 0 := if_neg (fun w => by have w2 := w.2; split at w2 <;> omega)
      have e4 : (lPass L (sHr r + 1)).fld t 4 = L.fld t 4 := if_neg (fun w => by have w2 := w.2; split at w2 <;> omega)
      have e1 : -1 ≤ (lPass L (sHr r + 1)).fld t 1 := by
        show -1 ≤ (if t = L.vote.toNat ∧ 1 = (if L.fld t 1 < 0 then 1 else 2) then sHr r + 1 else L.fld t 1)
        generalize (if L.fld t 1 < 0 then (1 : Nat) else 2) = m
        split
        · omega
        · exact q.1.2.1
      have e2 : -1 ≤ (lPass L (sHr r + 1)).fld t 2 := by
        show -1 ≤ (if t = L.vote.toNat ∧ 2 = (if L.fld t 1 < 0 then 1 else 2) then sHr r + 1 else L.fld t 2)
        generalize (if L.fld t 1 < 0 then (1 : Nat) else 2) = m
        split
        · omega
        · exact q.1.2.2
      rw [e0, e4]
      exact ⟨⟨q.1.1, e1, e2⟩, q.2⟩
    · rw [cI_neg c]
      exact okL_eq h rfl rfl rfl
  · exact h
theorem okV_tal {r : Rw} {L : Lw} (h : -1 ≤ L.vote ∧ L.vote < L.n) (n0 : 0 ≤ L.n) : -1 ≤ (oTal r L).1.vote ∧ (oTal r L).1.vote < (oTal r L).1.n := by
  unfold oTal
  split
  · by_cases c : oPas r L
    · rw [cI_pos c]
      exact ⟨by show (-1 : Int) ≤ -1; decide, by show (-1 : Int) < L.n; omega⟩
    · rw [cI_neg c]
      exact ⟨by show (-1 : Int) ≤ -1; decide, by show (-1 : Int) < L.n; omega⟩
  · exact h
theorem okSd_hold {r : Rw} {L : Lw} {t : Int} (h : okSd r L) : okSd r (oHold L t).1 := by
  unfold oHold
  split
  · split
    · exact h
    · exact fun p _ => rfl
  · exact h
theorem okSd_say {r : Rw} {L : Lw} {p y : Int} (h : okSd r L) : okSd r (oSay r L p y).1 := by
  unfold oSay
  split
  · next q =>
    by_cases c : 0 ≤ L.vote ∧ ¬ sDd r p ∧ L.said p.toNat ≠ 1 ∧ alw L 4 (sHr r) (nmO r p 0)
    · rw [cI_pos c]
      have q1 := q.1
      unfold oP at q1
      intro j hj
      show (if j = p.toNat then (1 : Int) else L.said j) = 0
      rw [if_neg (by omega)]
      exact h j hj
    · rw [cI_neg c]
      exact h
  · exact h
theorem okSd_tal {r : Rw} {L : Lw} (h : okSd r L) : okSd r (oTal r L).1 := by
  unfold oTal
  split
  · by_cases c : oPas r L
    · rw [cI_pos c]
      exact fun p _ => rfl
    · rw [cI_neg c]
      exact fun p _ => rfl
  · exact h
theorem okE_hold {I K : fH} {A : Lw × Int} (h : okE 741 I) (e : ∀ j : Nat, 1210 ≤ j → j ≤ 3609 → (j - 1210) % 200 ≥ 4 → K 741 j = I 741 j) (e9 : K 741 9 = I 741 9) : okE 741 K := by
  intro t i ht hi
  rw [e9] at ht
  rw [e (1214 + 200 * t) (by omega) (by omega) (by omega)] at hi
  rw [e (1215 + 200 * t + 2 * i) (by omega) (by omega) (by omega), e (1215 + 200 * t + 2 * i + 1) (by omega) (by omega) (by omega)]
  exact h t i ht hi
def mEZ : List Nat := [20009, 20604, 20605]
theorem mEZ_ok : (List.range 3610).all (fun j => !(Nat.beq j 9 || (Nat.ble 1210 j && Nat.ble 4 ((j - 1210) % 200))) || mEZ.elem (znJ 741 j)) = true := by decide +kernel
theorem okE_z {W : List Nat} {I K : fH} (h : okE 741 I) (f : fFr znJ W I K) (w : mEZ.all (fun z => zin W z) = true) : okE 741 K := by
  have g : ∀ j : Nat, j < 3610 → (j = 9 ∨ (1210 ≤ j ∧ 4 ≤ (j - 1210) % 200)) → K 741 j = I 741 j := fun j l q => f _ _ (zin_of w (bor_of (List.all_eq_true.mp mEZ_ok j (List.mem_range.mpr l)) (by
    rcases q with q | q
    · rw [q]
      decide
    · rw [Nat.ble_eq_true_of_le q.1, Nat.ble_eq_true_of_le q.2]
      simp)))
  exact okE_hold (A := (mLw 741 I, 0)) h (fun j a b c => g j (by omega) (Or.inr ⟨a, c⟩)) (g 9 (by decide) (Or.inl rfl))
/-- the text that is taken -/
theorem oCC_txt {W1 W2 : List Nat} {I I1 I2 : fH} {z1 z2 n : Int} {tp : Nat → Int} (h : oCC I) (hn : 0 ≤ n) (f1 : fFr znJ W1 I I1) (f2 : fFr znJ W2 I1 I2) (u : txL tp n (cLw 0 I) z1 (cLw 0 I1)) (v : txL tp n (mLw 741 I1) z2 (mLw 741 I2)) (n0 : 0 ≤ (mLw 741 I).n) (r1 : cR 0 I1 = cR 0 I) (r2 : mR I2 = mR I1) (b : mNZ W1 = true) (c : cNZ W2 = true) (w1 : kNZ W1 = true) (w2 : kNZ W2 = true) (okE2 : okE 741 I2) : oCC I2 ∧ z1 = z2 := by
  obtain ⟨c1, c2⟩ := Bool.and_eq_true_iff.mp c
  obtain ⟨b1, b2⟩ := Bool.and_eq_true_iff.mp b
  obtain ⟨⟨⟨h1, h2⟩, h3, h4, h5, h6, h7⟩, -⟩ := id h
  rw [h2] at u
  rw [mLw_fr f1 b2] at v
  obtain ⟨e1, e2⟩ := txL_one u v
  have eR := r2.trans (mR_fr f1 b1)
  have vt : (mLw 741 I2).vote = (mLw 741 I).vote ∧ (mLw 741 I).n ≤ (mLw 741 I2).n ∧ (mLw 741 I2).said = (mLw 741 I).said := by
    obtain ⟨f, cd, lv, key, a1, a2⟩ := v
    rcases a2 with ⟨p1, p2, p3⟩ | ⟨p1, p2, p3, p4, p5⟩ | ⟨p1, p2, p3, p4⟩
    · rw [p3]
      exact ⟨rfl, Int.le_refl _, rfl⟩
    · rw [p4]
      exact ⟨rfl, by show (mLw 741 I).n ≤ (mLw 741 I).n + 1; omega, rfl⟩
    · rw [p4]
      exact ⟨rfl, Int.le_refl _, rfl⟩
  exact ⟨⟨⟨⟨by rw [cR_fr (d := 0) cZ0_ok f2 c1, r1, h1, eR], (cLw_fr lZ0_ok f2 c2).trans e2⟩, by rw [eR]; exact h3, txL_ok hn v h4 n0, okE2, by rw [vt.1]; exact ⟨h6.1, Int.lt_of_lt_of_le h6.2 vt.2.1⟩, fun p hp => by rw [vt.2.2]; exact h7 p (by rw [← eR]; exact hp)⟩, oCC_k h f1 f2 w1 w2⟩, e1⟩
/-- the minutes -/
theorem oCC_run {W1 W2 : List Nat} {I I1 I2 : fH} {A : Rw} (h : oCC I) (f1 : fFr znJ W1 I I1) (f2 : fFr znJ W2 I1 I2) (u : cR 0 I1 = A) (v : mR I2 = A) (ok : okR A) (a : lZ0.all (fun z => zin W1 z) = true) (b : mLZ.all (fun z => zin W1 z) = true) (c : cNZ W2 = true) (d : mLZ.all (fun z => zin W2 z) = true) (w1 : kNZ W1 = true) (w2 : kNZ W2 = true) (n1 : zin W1 (znJ 741 8) = true) (n2 : zin W2 (znJ 741 8) = true) : oCC I2 :=
  (oCC_row (z1 := 0) (z2 := 0) (A := (A, 0)) h f1 f2 (by rw [u]) (by rw [v]) a b c (mLw_fr f2 d) (okE_fr f2 d) w1 w2 ok (k8_fr f1 f2 v n1 n2)).1
theorem mR_two {I K : fH} (h : ∀ j : Nat, j < 4900 → K 741 j = I 741 j) : mR K = mR I := by
  funext r
  show (if covb r = true then K 741 r else 0) = (if covb r = true then I 741 r else 0)
  by_cases c : covb r = true
  · rw [if_pos c, if_pos c, h r (by
      by_cases l : r < 4900
      · exact l
      · exfalso
        unfold covb at c
        simp only [Bool.or_eq_true, Bool.and_eq_true, Nat.ble_eq, Nat.blt_eq, Nat.beq_eq] at c
        omega)]
  · rw [if_neg c, if_neg c]
/-- the reference works aside and comes back -/
theorem oCC_chk {W1 W2 : List Nat} {I I1 I2 : fH} (h : oCC I) (f1 : fFr znJ W1 I I1) (f2 : fFr znJ W2 I1 I2) (v : ∀ j : Nat, j < 4900 → I2 741 j = I1 741 j) (w1 : mNZ W1 = true) (w2 : cNZ W1 = true) (w3 : kNZ W1 = true) (c : cNZ W2 = true) (k : kNZ W2 = true) : oCC I2 := by
  obtain ⟨⟨⟨h1, h2⟩, h3, h4, h5, h6, h7⟩, hk⟩ := oCC_fr h f1 w1 w2 w3
  obtain ⟨c1, c2⟩ := Bool.and_eq_true_iff.mp c
  have eR : mR I2 = mR I1 := mR_two v
  have eL : mLw 741 I2 = mLw 741 I1 := mLw_two v
  have e0 : I2 0 6 = I1 0 6 := f2 0 6 (zin_el (Bool.and_eq_true_iff.mp (Bool.and_eq_true_iff.mp k).2).2)
  exact ⟨⟨⟨by rw [cR_fr (d := 0) cZ0_ok f2 c1, h1, eR], by rw [cLw_fr lZ0_ok f2 c2, h2, eL]⟩, by rw [eR]; exact h3, by rw [eL]; exact h4, okE_two v h5, by rw [eL]; exact h6, by rw [eR, eL]; exact h7⟩, fun q => oCk_fr (hk (by rw [← e0]; exact q)) f2 k⟩
theorem oCx_Mi' {I : fH} (h : cR 0 I = mR I) (b : fB bsJ I) : okMi (cR 0 I) := by
  rw [h]
  show 0 ≤ gt (mR I) 0 ∧ gt (mR I) 0 ≤ 22000
  rw [show gt (mR I) 0 = I 741 0 from mR_ld (k := 0) rfl]
  exact fBd (show bsJ 741 0 = (0, 22000) by decide +kernel) b
/-- the image -/
theorem oCC_keep {W1 W2 : List Nat} {I I1 I2 : fH} (b0 : fB bsJ I) (h : oCC I) (f1 : fFr znJ W1 I I1) (f2 : fFr znJ W2 I1 I2) (u1 : cR 256 I1 = cR 0 I) (u2 : cR 0 I1 = cR 0 I) (u3 : cLw 256 I1 = cLw 0 I) (u4 : cLw 0 I1 = cLw 0 I) (v : ∀ j : Nat, j < 4900 → I2 742 j = I1 741 j) (b : mNZ W1 = true) (c : cNZ W2 = true) (d : mNZ W2 = true) (e : cZ256.all (fun z => zin W2 z) = true) (g : lZ256.all (fun z => zin W2 z) = true) : oCC I2 := by
  obtain ⟨c1, c2⟩ := Bool.and_eq_true_iff.mp c
  obtain ⟨b1, b2⟩ := Bool.and_eq_true_iff.mp b
  obtain ⟨d1, d2⟩ := Bool.and_eq_true_iff.mp d
  obtain ⟨⟨⟨h1, h2⟩, h3, h4, h5, h6, h7⟩, -⟩ := h
  have eR := (mR_fr f2 d1).trans (mR_fr f1 b1)
  have eL := (mLw_fr f2 d2).trans (mLw_fr f1 b2)
  have iR2 : iR I2 = mR I := (iR_to (K := I2) (I := I1) v).trans (mR_fr f1 b1)
  have iL2 : mLw 742 I2 = mLw 741 I := (mLw_two v).trans (mLw_fr f1 b2)
  exact ⟨⟨⟨by rw [cR_fr (d := 0) cZ0_ok f2 c1, u2, h1, eR], by rw [cLw_fr lZ0_ok f2 c2, u4, h2, eL]⟩, by rw [eR]; exact h3, by rw [eL]; exact h4, okE_fr f2 d2 (okE_fr f1 b2 h5), by rw [eL]; exact h6, by rw [eR, eL]; exact h7⟩, fun _ => ⟨⟨⟨by rw [cR_fr (d := 256) cZ256_ok f2 e, u1, h1, iR2], by rw [iR2, ← h1]; exact oCx_Mi' h1 b0⟩, by rw [cLw_fr lZ256_ok f2 g, u3, h2, iL2]⟩, by rw [iR2]; exact h3, by rw [iL2]; exact h4, okE_two v (okE_fr f1 b2 h5), by rw [iL2]; exact h6, by rw [iR2, iL2]; exact h7⟩⟩
/-- and gone on from -/
theorem oCC_back {W1 W2 : List Nat} {I I1 I2 : fH} (h : oCC I) (f1 : fFr znJ W1 I I1) (f2 : fFr znJ W2 I1 I2) (k : I 0 6 = 1) (u1 : cR 0 I1 = cR 256 I) (u2 : cR 256 I1 = cR 256 I) (u3 : cLw 0 I1 = cLw 256 I) (u4 : cLw 256 I1 = cLw 256 I) (v : ∀ j : Nat, j < 4900 → I2 741 j = I1 742 j) (b : zin W1 (znJ 742 0) = true) (c : cNZ W2 = true) (w2 : kNZ W2 = true) : oCC I2 := by
  obtain ⟨c1, c2⟩ := Bool.and_eq_true_iff.mp c
  obtain ⟨⟨⟨h1, h0⟩, h2⟩, h3, h4, h5, h6, h7⟩ := h.2 k
  have eR := iR_fr f1 b z742
  have eL := iLw_fr f1 b
  have mR2 : mR I2 = iR I := (iR_from (K := I2) (I := I1) v).trans eR
  have mL2 : mLw 741 I2 = mLw 742 I := (mLw_two v).trans eL
  have k1 : oCk I1 := ⟨⟨⟨by rw [u2, h1, eR], by rw [eR]; exact h0⟩, by rw [u4, h2, eL]⟩, by rw [eR]; exact h3, by rw [eL]; exact h4, iE_fr f1 b h5, by rw [eL]; exact h6, by rw [eR, eL]; exact h7⟩
  exact ⟨⟨⟨by rw [cR_fr (d := 0) cZ0_ok f2 c1, u1, h1, mR2], by rw [cLw_fr lZ0_ok f2 c2, u3, h2, mL2]⟩, by rw [mR2]; exact h3, by rw [mL2]; exact h4, okE_two v (iE_fr f1 b h5), by rw [mL2]; exact h6, by rw [mR2, mL2]; exact h7⟩, fun _ => oCk_fr k1 f2 w2⟩

/-- nothing was kept: all stays -/
theorem oCC_same {W2 : List Nat} {I I2 : fH} (h : oCC I) (f2 : fFr znJ W2 I I2) (v : ∀ j : Nat, I2 741 j = I 741 j) (c : cNZ W2 = true) (k : I2 0 6 ≠ 1) : oCC I2 := by
  obtain ⟨c1, c2⟩ := Bool.and_eq_true_iff.mp c
  obtain ⟨⟨⟨h1, h2⟩, h3, h4, h5, h6, h7⟩, -⟩ := h
  have eR : mR I2 = mR I := mR_two (fun j _ => v j)
  have eL : mLw 741 I2 = mLw 741 I := mLw_two (fun j _ => v j)
  exact ⟨⟨⟨by rw [cR_fr (d := 0) cZ0_ok f2 c1, h1, eR], by rw [cLw_fr lZ0_ok f2 c2, h2, eL]⟩, by rw [eR]; exact h3, by rw [eL]; exact h4, okE_two (fun j _ => v j) h5, by rw [eL]; exact h6, by rw [eR, eL]; exact h7⟩, fun q => absurd q k⟩
/-- what the class's calls ask for -/
theorem oCx_L {I : fH} (h : oCC I) : okL (cLw 0 I) := by rw [h.1.1.2]; exact h.1.2.2.1
theorem oCx_A {I : fH} (h : oCC I) : okA (cR 0 I) := by rw [h.1.1.1]; exact h.1.2.1.1
theorem oCx_B {I : fH} (h : oCC I) : okB (cR 0 I) := by rw [h.1.1.1]; exact h.1.2.1.2
theorem oCx_K {I : fH} (h : oCC I) : okKn (cR 0 I) := fun c j c0 c1 j0 j1 => by
  have q := ((oCx_B h).1 c.toNat (by omega)).2
  rw [Int.toNat_of_nonneg c0] at q
  refine ⟨q.1, fun e => ?_⟩
  by_cases x : j = 5
  · rw [x, show 42 + 20 * c + 5 = 47 + 20 * c by omega]
    exact q.1
  · rw [q.2 e j j0 (by omega)]
    decide
theorem oCx_V {I : fH} (h : oCC I) : -1 ≤ (cLw 0 I).vote ∧ (cLw 0 I).vote < (cLw 0 I).n := by rw [h.1.1.2]; exact h.1.2.2.2.2.1
theorem oCx_bad {I : fH} (h : oCC I) : (cLw 0 I).bad = 0 := by rw [h.1.1.2]; rfl
theorem oCx_12 {I : fH} (h : oCC I) (b : fB bsJ I) : (cLw 0 I).vote < 12 := Int.lt_of_lt_of_le (oCx_V h).2 (fBd (show bsJ 187 6 = (0, 12) by decide +kernel) b).2
theorem oCx_k12 {I : fH} (h : oCC I) (b : fB bsJ I) (k : I 0 6 = 1) : (cLw 256 I).vote < 12 := by
  have q := (h.2 k).2.2.2.2.1.2
  rw [← (h.2 k).1.2] at q
  exact Int.lt_of_lt_of_le q (fBd (show bsJ 443 6 = (0, 12) by decide +kernel) b).2
theorem oCx_Mi {I : fH} (h : oCC I) (b : fB bsJ I) : okMi (cR 0 I) := oCx_Mi' h.1.1.1 b
/-- bounds of the row -/
theorem mB0 {I : fH} (b : fB bsJ I) : 0 ≤ gt (mR I) 0 := by
  rw [show gt (mR I) 0 = I 741 0 from mR_ld (k := 0) rfl]
  exact (fBd (show bsJ 741 0 = (0, 22000) by decide +kernel) b).1
theorem mB1 {I : fH} (b : fB bsJ I) : 0 ≤ gt (mR I) 1 := by
  rw [show gt (mR I) 1 = I 741 1 from mR_ld (k := 1) rfl]
  exact (fBd (show bsJ 741 1 = (0, 600) by decide +kernel) b).1
theorem mB5 {I : fH} (b : fB bsJ I) : 0 ≤ gt (mR I) 5 ∧ gt (mR I) 5 ≤ 20 := by
  rw [show gt (mR I) 5 = I 741 5 from mR_ld (k := 5) rfl]
  exact fBd (show bsJ 741 5 = (0, 20) by decide +kernel) b
theorem mB6 {I : fH} (b : fB bsJ I) : 0 ≤ gt (mR I) 6 ∧ gt (mR I) 6 ≤ 24 := by
  rw [show gt (mR I) 6 = I 741 6 from mR_ld (k := 6) rfl]
  exact fBd (show bsJ 741 6 = (0, 24) by decide +kernel) b
theorem mB7 {I : fH} (b : fB bsJ I) : 0 ≤ gt (mR I) 7 ∧ gt (mR I) 7 ≤ 24 := by
  rw [show gt (mR I) 7 = I 741 7 from mR_ld (k := 7) rfl]
  exact fBd (show bsJ 741 7 = (0, 24) by decide +kernel) b
theorem mB8 {I : fH} (b : fB bsJ I) : 0 ≤ gt (mR I) 8 ∧ gt (mR I) 8 ≤ 24 := by
  rw [mR_8]
  exact fBd (show bsJ 741 8 = (0, 24) by decide +kernel) b
theorem mB13 {I : fH} (b : fB bsJ I) : gt (mR I) 13 ≤ 90 := by
  rw [show gt (mR I) 13 = I 741 13 from mR_ld (k := 13) rfl]
  exact (fBd (show bsJ 741 13 = (0, 90) by decide +kernel) b).2
theorem mBc {I : fH} (b : fB bsJ I) : ∀ w : Int, 0 ≤ w → w < 24 → 0 ≤ gt (mR I) (531 + 14 * w) ∧ gt (mR I) (531 + 14 * w) ≤ 19 := fun w h0 h1 => by
  have q : (List.range 24).all (fun w => Bool.and (covb (531 + 14 * w)) (decide (bsJ 741 (531 + 14 * w) = (0, 19)))) = true := by decide +kernel
  obtain ⟨q1, q2⟩ := Bool.and_eq_true_iff.mp (List.all_eq_true.mp q w.toNat (List.mem_range.mpr (by omega)))
  rw [show 531 + 14 * w = ((531 + 14 * w.toNat : Nat) : Int) by omega, show gt (mR I) ((531 + 14 * w.toNat : Nat) : Int) = I 741 (531 + 14 * w.toNat) from mR_ld (k := 531 + 14 * w.toNat) q1]
  exact fBd (of_decide_eq_true q2) b

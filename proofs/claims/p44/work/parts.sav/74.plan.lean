set_option linter.all false
/-! the order of builds, sought: tries left, the most, the best row -/
abbrev sSt : Type := Int × Int × (Nat → Int)
def sTk (p : Nat → Int) (sum : Int) (s : sSt) : sSt := if s.2.1 = -1000000002 ∨ s.2.1 < sum then (s.1, sum, p) else s
def sDn (d : Int) (b : Nat) : Int := (iI d ||| (iI 1 <<< (iI (b : Int) &&& 31))).toInt
def sAh (a d : Int) : Int := (iI a &&& (iI d ^^^ iI (-1))).toInt
def sMo (span e m : Int) : Int := if span ≤ e then 0 else m * (span - e)
def sUp (p : Nat → Int) (k : Nat) (v : Int) : Nat → Int := fun i => if i = k then v else p i
def sGo (yr mo ah : Nat → Int) (span : Int) (go : Nat → Int → Int → Int → (Nat → Int) → sSt → sSt) (k : Nat) (d e sum : Int) (p : Nat → Int) (b : Nat) (s : sSt) : sSt := if s.1 < 0 then s else if bt d b = 0 ∧ sAh (ah b) d = 0 then (if s.1 - 1 < 0 then (s.1 - 1, s.2) else go (k + 1) (sDn d b) (e + yr b) (sum + sMo span (e + yr b) (mo b)) (sUp p k (b : Int)) (s.1 - 1, s.2)) else s
def sSk (N : Nat) (yr mo ah : Nat → Int) (span : Int) : Nat → Nat → Int → Int → Int → (Nat → Int) → sSt → sSt
  | 0, _, _, _, sum, p, s => sTk p sum s
  | f + 1, k, d, e, sum, p, s => if N ≤ k then sTk p sum s else nf (sGo yr mo ah span (sSk N yr mo ah span f) k d e sum p) s N
theorem sk_tk {N : Nat} {yr mo ah : Nat → Int} {span : Int} {f k : Nat} {d e sum : Int} {p : Nat → Int} {s : sSt} (h : N ≤ k) : sSk N yr mo ah span f k d e sum p s = sTk p sum s := by
  cases f with
  | zero => rfl
  | succ f => exact if_pos h
theorem sk_go {N : Nat} {yr mo ah : Nat → Int} {span : Int} {f k : Nat} {d e sum : Int} {p : Nat → Int} {s : sSt} (h : ¬ N ≤ k) : sSk N yr mo ah span (f + 1) k d e sum p s = nf (sGo yr mo ah span (sSk N yr mo ah span f) k d e sum p) s N := if_neg h
theorem sAh_of {a d x w : Int} (hw : fin32 w) (e1 : iI x = xio 5 (iI d) (iI (-1))) (e2 : iI w = xio 3 (iI a) (iI x)) : w = sAh a d := by
  refine of_iI hw ?_
  rw [e2, e1]
  rfl
theorem sDn_of {d b x w : Int} (hw : fin32 w) (hb : 0 ≤ b) (e1 : iI x = xio 6 (iI 1) (iI b)) (e2 : iI w = xio 4 (iI d) (iI x)) : w = sDn d b.toNat := by
  unfold sDn
  rw [Int.toNat_of_nonneg hb]
  refine of_iI hw ?_
  rw [e2, e1]
  rfl
/-- the class holds this state -/
def skR (N : Nat) (s : sSt) (I : fH) : Prop := I 735 3 = s.1 ∧ I 735 4 = s.2.1 ∧ (s.2.1 ≠ -1000000002 → ∀ i : Nat, i < N → I 736 i = s.2.2 i)
theorem tk_no {N : Nat} {p : Nat → Int} {s : sSt} {I : fH} {x : Int} (h : skR N s I) (c : ¬ (I 735 4 = -1000000002 ∨ I 735 4 < x)) : skR N (sTk p x s) I := by
  obtain ⟨a, b, d⟩ := h
  unfold sTk
  rw [if_neg (by rw [← b]; exact c)]
  exact ⟨a, b, d⟩
theorem tk_yes {N : Nat} {p : Nat → Int} {s : sSt} {I I2 I3 : fH} {x : Int} (hN : N ≤ 7) (hp : ∀ i : Nat, i < N → I 737 i = p i) (h : skR N s I) (c : I 735 4 = -1000000002 ∨ I 735 4 < x) (e1 : I2 = fupd I 735 4 x) (e2 : I3 = fcpy I2 737 0 736 0 ((7 : Nat) : Int)) : skR N (sTk p x s) I3 := by
  obtain ⟨a, b, d⟩ := h
  unfold sTk
  rw [if_pos (by rw [← b]; exact c)]
  refine ⟨?_, ?_, fun hn i hi => ?_⟩
  · rw [e2, fcpy_ne (by decide), fup_other e1 735 3 (Or.inr (by decide))]
    exact a
  · rw [e2, fcpy_ne (by decide)]
    exact fup_self e1
  · rw [e2, fcpy_at (by omega), fup_other e1 737 i (Or.inl (by decide))]
    exact hp i hi
theorem go_no {N : Nat} {yr mo ah : Nat → Int} {span : Int} {go : Nat → Int → Int → Int → (Nat → Int) → sSt → sSt} {k b : Nat} {d e sum : Int} {p : Nat → Int} {s : sSt} {I : fH} (h : skR N s I) (c : ¬ (bt d b = 0 ∧ sAh (ah b) d = 0)) : skR N (sGo yr mo ah span go k d e sum p b s) I := by
  unfold sGo
  by_cases t : s.1 < 0
  · rw [if_pos t]; exact h
  · rw [if_neg t, if_neg c]; exact h
theorem go_spent {N : Nat} {yr mo ah : Nat → Int} {span : Int} {go : Nat → Int → Int → Int → (Nat → Int) → sSt → sSt} {k b r : Nat} {d e sum t v : Int} {p : Nat → Int} {s : sSt} {I I2 I3 : fH} (h : skR N s I) (t0 : 0 ≤ I 735 3) (c : bt d b = 0 ∧ sAh (ah b) d = 0) (ht : t = I 735 3 - 1) (t1 : t < 0) (e1 : I2 = fupd I 735 3 t) (e2 : I3 = fupd I2 737 r v) : skR N (sGo yr mo ah span go k d e sum p b s) I3 := by
  obtain ⟨h1, h2, h3⟩ := h
  unfold sGo
  rw [if_neg (by omega), if_pos c, if_pos (by omega)]
  refine ⟨?_, ?_, fun hn i hi => ?_⟩
  · rw [fup_other e2 735 3 (Or.inl (by decide)), fup_self e1]
    show t = s.1 - 1
    omega
  · rw [fup_other e2 735 4 (Or.inl (by decide)), fup_other e1 735 4 (Or.inr (by decide))]
    exact h2
  · rw [fup_other e2 736 i (Or.inl (by decide)), fup_other e1 736 i (Or.inl (by decide))]
    exact h3 hn i hi
theorem go_in {N : Nat} {r : Nat} {t v : Int} {s : sSt} {I I2 I3 : fH} (h : skR N s I) (ht : t = I 735 3 - 1) (e1 : I2 = fupd I 735 3 t) (e2 : I3 = fupd I2 737 r v) : skR N (s.1 - 1, s.2) I3 := by
  obtain ⟨h1, h2, h3⟩ := h
  refine ⟨?_, ?_, fun hn i hi => ?_⟩
  · rw [fup_other e2 735 3 (Or.inl (by decide)), fup_self e1]
    show t = s.1 - 1
    omega
  · rw [fup_other e2 735 4 (Or.inl (by decide)), fup_other e1 735 4 (Or.inr (by decide))]
    exact h2
  · rw [fup_other e2 736 i (Or.inl (by decide)), fup_other e1 736 i (Or.inl (by decide))]
    exact h3 hn i hi
theorem go_rec {N : Nat} {yr mo ah : Nat → Int} {span : Int} {go : Nat → Int → Int → Int → (Nat → Int) → sSt → sSt} {k b : Nat} {d e sum : Int} {p : Nat → Int} {s : sSt} {I I4 : fH} (h : skR N s I) (t0 : 1 ≤ I 735 3) (c : bt d b = 0 ∧ sAh (ah b) d = 0) (r : skR N (go (k + 1) (sDn d b) (e + yr b) (sum + sMo span (e + yr b) (mo b)) (sUp p k (b : Int)) (s.1 - 1, s.2)) I4) : skR N (sGo yr mo ah span go k d e sum p b s) I4 := by
  obtain ⟨h1, h2, h3⟩ := h
  unfold sGo
  rw [if_neg (by omega), if_pos c, if_neg (by omega)]
  exact r
theorem nf_skR {N : Nat} {I : fH} {f : Nat → sSt → sSt} {a : sSt} {m m' : Int} (h : skR N (f m.toNat (nf f a m.toNat)) I) (hm : 0 ≤ m) (hm' : m' = m + 1) : skR N (nf f a m'.toNat) I := by
  rw [← nf_step (m := m) rfl hm hm']
  exact h
theorem mul_fin {a b : Int} (ha : 0 ≤ a ∧ a ≤ 99) (hb : 0 ≤ b ∧ b ≤ 60) : fin32 (a * b) := by
  have h1 := Int.mul_nonneg ha.1 hb.1
  have h2 : a * b ≤ 99 * 60 := Int.mul_le_mul ha.2 hb.2 hb.1 (by omega)
  exact ⟨by omega, by omega⟩
theorem mul_bd {a b : Int} (ha : 0 ≤ a ∧ a ≤ 99) (hb : 0 ≤ b ∧ b ≤ 60) : 0 ≤ a * b ∧ a * b ≤ 5940 := by
  have h1 := Int.mul_nonneg ha.1 hb.1
  have h2 : a * b ≤ 99 * 60 := Int.mul_le_mul ha.2 hb.2 hb.1 (by omega)
  exact ⟨by omega, by omega⟩
theorem mo_of {span e m x z : Int} (h : z = m * x) (hx : (x = 0 ∧ span ≤ e) ∨ (x = span - e ∧ e ≤ span)) : z = sMo span e m := by
  unfold sMo
  split
  · next c =>
    have e0 : x = 0 := by omega
    rw [h, e0, Int.mul_zero]
  · next c =>
    have e0 : x = span - e := by omega
    rw [h, e0]
theorem path_up {I1 I2 I3 : fH} {p : Nat → Int} {x2 x' y v t : Int} (e1 : I2 = fupd I1 735 3 t) (e2 : I3 = fupd I2 737 x2.toNat y) (h : ∀ i : Nat, (i : Int) < x2 → I1 737 i = p i) (hx : 0 ≤ x2) (hx' : x' = x2 + 1) (hy : y = v) : ∀ i : Nat, (i : Int) < x' → I3 737 i = sUp p x2.toNat v i := fun i hi => by
  unfold sUp
  by_cases c : i = x2.toNat
  · rw [if_pos c, ← hy]
    exact fup_at e2 i c
  · rw [if_neg c, fup_other e2 737 i (Or.inr c), fup_other e1 737 i (Or.inl (by decide))]
    exact h i (by omega)
theorem sk_stop {yr mo ah : Nat → Int} {span : Int} {go : Nat → Int → Int → Int → (Nat → Int) → sSt → sSt} {k : Nat} {d e sum : Int} {p : Nat → Int} {s : sSt} {m : Nat} (h : (nf (sGo yr mo ah span go k d e sum p) s m).1 < 0) : ∀ j : Nat, nf (sGo yr mo ah span go k d e sum p) s (m + j) = nf (sGo yr mo ah span go k d e sum p) s m
  | 0 => rfl
  | j + 1 => by
    show sGo yr mo ah span go k d e sum p (m + j) (nf (sGo yr mo ah span go k d e sum p) s (m + j)) = _
    rw [sk_stop h j]
    exact if_pos h
theorem sk_end {N : Nat} {yr mo ah : Nat → Int} {span : Int} {go : Nat → Int → Int → Int → (Nat → Int) → sSt → sSt} {k : Nat} {d e sum : Int} {p : Nat → Int} {s : sSt} {m : Nat} {I : fH} (h : skR N (nf (sGo yr mo ah span go k d e sum p) s m) I) (hm : m ≤ N) (c : m = N ∨ I 735 3 < 0) : skR N (nf (sGo yr mo ah span go k d e sum p) s N) I := by
  rcases c with c | c
  · rw [c] at h; exact h
  · have q := sk_stop (m := m) (by rw [← h.1]; exact c) (N - m)
    rw [show m + (N - m) = N by omega] at q
    rw [q]
    exact h
def bsF (N : Nat) (yr mo ah : Nat → Int) (span tries : Int) : sSt := sSk N yr mo ah span 7 0 0 0 0 (fun _ => 0) (tries, -1000000002, fun _ => 0)
def bsZ (s : sSt) : Int := if s.1 < 0 then (-1000000004) else s.2.1
theorem bs_z {N : Nat} {s : sSt} {I : fH} {z : Int} (h : skR N s I) (hz : (I 735 3 < 0 ∧ z = -1000000004) ∨ (¬ I 735 3 < 0 ∧ z = I 735 4)) : z = bsZ s := by
  obtain ⟨h1, h2, -⟩ := h
  unfold bsZ
  rw [← h1, ← h2]
  split <;> omega
theorem bs_in {N : Nat} {x : Int} {I : fH} (h1 : I 735 3 = x) (h2 : I 735 4 = -1000000002) : skR N (x, -1000000002, fun _ => 0) I := ⟨h1, h2, fun h => absurd rfl h⟩
theorem bs_ok {s : sSt} (h : 0 ≤ bsZ s) : s.2.1 ≠ -1000000002 := fun e => by
  unfold bsZ at h
  split at h <;> omega
/-- the reference holds this state -/
def skQ (N : Nat) (s : sSt) (I : fH) : Prop := ((I 740 35 = 1 ∧ s.1 = -1) ∨ (I 740 35 = 0 ∧ s.1 = I 740 34 ∧ 0 ≤ I 740 34)) ∧ ((I 740 33 = -1 ∧ s.2.1 = -1000000002) ∨ (0 ≤ I 740 33 ∧ s.2.1 = I 740 33)) ∧ (s.2.1 ≠ -1000000002 → ∀ i : Nat, i < N → I 758 i = s.2.2 i)
theorem tq_no {N : Nat} {p : Nat → Int} {s : sSt} {I : fH} {x : Int} (h : skQ N s I) (x0 : 0 ≤ x) (c : x ≤ I 740 33) : skQ N (sTk p x s) I := by
  have h2 := h.2.1
  unfold sTk
  rw [if_neg (by omega)]
  exact h
theorem tq_yes {N : Nat} {p : Nat → Int} {s : sSt} {I I' : fH} {x : Int} (h : skQ N s I) (x0 : 0 ≤ x) (c : I 740 33 < x) (hp : ∀ i : Nat, i < N → I 757 i = p i) (r3 : I' 740 33 = x) (r4 : I' 740 34 = I 740 34) (r5 : I' 740 35 = I 740 35) (r8 : ∀ i : Nat, i < N → I' 758 i = I 757 i) : skQ N (sTk p x s) I' := by
  obtain ⟨h1, h2, h3⟩ := h
  unfold sTk
  rw [if_pos (by omega)]
  refine ⟨?_, Or.inr ⟨by omega, r3.symm⟩, fun _ i hi => (r8 i hi).trans (hp i hi)⟩
  show (I' 740 35 = 1 ∧ s.1 = -1) ∨ (I' 740 35 = 0 ∧ s.1 = I' 740 34 ∧ 0 ≤ I' 740 34)
  rw [r4, r5]
  exact h1
theorem qo_no {N : Nat} {yr mo ah : Nat → Int} {span : Int} {go : Nat → Int → Int → Int → (Nat → Int) → sSt → sSt} {k b : Nat} {d e sum : Int} {p : Nat → Int} {s : sSt} {I : fH} (h : skQ N s I) (c : ¬ (bt d b = 0 ∧ sAh (ah b) d = 0)) : skQ N (sGo yr mo ah span go k d e sum p b s) I := by
  unfold sGo
  by_cases t : s.1 < 0
  · rw [if_pos t]; exact h
  · rw [if_neg t, if_neg c]; exact h
theorem qo_spent {N : Nat} {yr mo ah : Nat → Int} {span : Int} {go : Nat → Int → Int → Int → (Nat → Int) → sSt → sSt} {k b : Nat} {d e sum v : Int} {p : Nat → Int} {s : sSt} {I I2 : fH} (h : skQ N s I) (z0 : I 740 35 = 0) (t0 : I 740 34 = 0) (c : bt d b = 0 ∧ sAh (ah b) d = 0) (hv : v = 1) (e1 : I2 = fupd I 740 35 v) : skQ N (sGo yr mo ah span go k d e sum p b s) I2 := by
  obtain ⟨h1, h2, h3⟩ := h
  unfold sGo
  rw [if_neg (by omega), if_pos c, if_pos (by omega)]
  refine ⟨Or.inl ⟨by rw [fup_self e1]; exact hv, show s.1 - 1 = -1 by omega⟩, ?_, fun hn i hi => ?_⟩
  · rw [fup_other e1 740 33 (Or.inr (by decide))]
    exact h2
  · rw [fup_other e1 758 i (Or.inl (by decide))]
    exact h3 hn i hi
theorem qo_in {N : Nat} {r : Nat} {t u v : Int} {s : sSt} {I I2 I3 I4 : fH} (h : skQ N s I) (z0 : I 740 35 = 0) (t0 : 1 ≤ I 740 34) (hu : u = 0) (ht : t = I 740 34 - 1) (e1 : I2 = fupd I 740 35 u) (e2 : I3 = fupd I2 740 34 t) (e3 : I4 = fupd I3 757 r v) : skQ N (s.1 - 1, s.2) I4 := by
  obtain ⟨h1, h2, h3⟩ := h
  have r5 : I4 740 35 = 0 := by rw [fup_other e3 740 35 (Or.inl (by decide)), fup_other e2 740 35 (Or.inr (by decide)), fup_self e1]; exact hu
  have r4 : I4 740 34 = I 740 34 - 1 := by rw [fup_other e3 740 34 (Or.inl (by decide)), fup_self e2]; exact ht
  have r3 : I4 740 33 = I 740 33 := by rw [fup_other e3 740 33 (Or.inl (by decide)), fup_other e2 740 33 (Or.inr (by decide)), fup_other e1 740 33 (Or.inr (by decide))]
  refine ⟨Or.inr ⟨r5, show s.1 - 1 = I4 740 34 by omega, by omega⟩, ?_, fun hn i hi => ?_⟩
  · rw [r3]; exact h2
  · rw [fup_other e3 758 i (Or.inl (by decide)), fup_other e2 758 i (Or.inl (by decide)), fup_other e1 758 i (Or.inl (by decide))]
    exact h3 hn i hi
theorem qo_rec {N : Nat} {yr mo ah : Nat → Int} {span : Int} {go : Nat → Int → Int → Int → (Nat → Int) → sSt → sSt} {k b : Nat} {d e sum : Int} {p : Nat → Int} {s : sSt} {I I4 : fH} (h : skQ N s I) (z0 : I 740 35 = 0) (t0 : 1 ≤ I 740 34) (c : bt d b = 0 ∧ sAh (ah b) d = 0) (r : skQ N (go (k + 1) (sDn d b) (e + yr b) (sum + sMo span (e + yr b) (mo b)) (sUp p k (b : Int)) (s.1 - 1, s.2)) I4) : skQ N (sGo yr mo ah span go k d e sum p b s) I4 := by
  obtain ⟨h1, h2, h3⟩ := h
  unfold sGo
  rw [if_neg (by omega), if_pos c, if_neg (by omega)]
  exact r
theorem nf_skQ {N : Nat} {I : fH} {f : Nat → sSt → sSt} {a : sSt} {m m' : Int} (h : skQ N (f m.toNat (nf f a m.toNat)) I) (hm : 0 ≤ m) (hm' : m' = m + 1) : skQ N (nf f a m'.toNat) I := by
  rw [← nf_step (m := m) rfl hm hm']
  exact h
theorem path_uq {I1 I2 I3 I4 : fH} {p : Nat → Int} {x2 x' y v t u : Int} (e1 : I2 = fupd I1 740 35 u) (e2 : I3 = fupd I2 740 34 t) (e3 : I4 = fupd I3 757 x2.toNat y) (h : ∀ i : Nat, (i : Int) < x2 → I1 757 i = p i) (hx : 0 ≤ x2) (hx' : x' = x2 + 1) (hy : y = v) : ∀ i : Nat, (i : Int) < x' → I4 757 i = sUp p x2.toNat v i := fun i hi => by
  unfold sUp
  by_cases c : i = x2.toNat
  · rw [if_pos c, ← hy]
    exact fup_at e3 i c
  · rw [if_neg c, fup_other e3 757 i (Or.inr c), fup_other e2 757 i (Or.inl (by decide)), fup_other e1 757 i (Or.inl (by decide))]
    exact h i (by omega)
theorem sq_end {N : Nat} {yr mo ah : Nat → Int} {span : Int} {go : Nat → Int → Int → Int → (Nat → Int) → sSt → sSt} {k : Nat} {d e sum : Int} {p : Nat → Int} {s : sSt} {m : Nat} {I : fH} (h : skQ N (nf (sGo yr mo ah span go k d e sum p) s m) I) (hm : m ≤ N) (c : m = N ∨ I 740 35 = 1) : skQ N (nf (sGo yr mo ah span go k d e sum p) s N) I := by
  rcases c with c | c
  · rw [c] at h; exact h
  · have h1 := h.1
    have h0 : (nf (sGo yr mo ah span go k d e sum p) s m).1 < 0 := by omega
    have q := sk_stop (m := m) h0 (N - m)
    rw [show m + (N - m) = N by omega] at q
    rw [q]
    exact h
theorem bq_z {N : Nat} {s : sSt} {I : fH} {z : Int} (h : skQ N s I) (hz : (I 740 35 = 1 ∧ z = -1000000004) ∨ (I 740 35 = 0 ∧ I 740 33 < 0 ∧ z = -1000000002) ∨ (I 740 35 = 0 ∧ 0 ≤ I 740 33 ∧ z = I 740 33)) : z = bsZ s := by
  obtain ⟨h1, h2, -⟩ := h
  unfold bsZ
  split <;> omega
theorem bq_in {N : Nat} {x : Int} {I : fH} (x0 : 0 ≤ x) (h1 : I 740 35 = 0) (h2 : I 740 34 = x) (h3 : I 740 33 = -1) : skQ N (x, -1000000002, fun _ => 0) I := ⟨Or.inr ⟨h1, h2.symm, by omega⟩, Or.inl ⟨h3, rfl⟩, fun h => absurd rfl h⟩
theorem sSk_congr {N : Nat} {yr yr' mo mo' ah ah' : Nat → Int} {span : Int} (h1 : ∀ b, b < N → yr b = yr' b) (h2 : ∀ b, b < N → mo b = mo' b) (h3 : ∀ b, b < N → ah b = ah' b) : ∀ (f k : Nat) (d e sum : Int) (p : Nat → Int) (s : sSt), sSk N yr mo ah span f k d e sum p s = sSk N yr' mo' ah' span f k d e sum p s
  | 0, _, _, _, _, _, _ => rfl
  | f + 1, k, d, e, sum, p, s => by
    have q : nf (sGo yr mo ah span (sSk N yr mo ah span f) k d e sum p) s N = nf (sGo yr' mo' ah' span (sSk N yr' mo' ah' span f) k d e sum p) s N := nf_congr (fun b x hb => by
      unfold sGo
      rw [h1 b hb, h2 b hb, h3 b hb, sSk_congr h1 h2 h3 f])
    show (if N ≤ k then sTk p sum s else nf (sGo yr mo ah span (sSk N yr mo ah span f) k d e sum p) s N) = (if N ≤ k then sTk p sum s else nf (sGo yr' mo' ah' span (sSk N yr' mo' ah' span f) k d e sum p) s N)
    rw [q]

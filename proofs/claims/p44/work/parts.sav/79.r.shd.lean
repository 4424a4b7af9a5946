set_option linter.all false
/-! what is shed -/
/-- the names of a work -/
noncomputable def nmS (r : Rw) (w : Int) : Nat → Int := fun i => if i = 10 then gt r (530 + 14 * w) else if i = 12 then gt r (532 + 14 * w) else if i = 6 then (if gt r (530 + 14 * w) = 1 then gt r (536 + 14 * w) else 0) else if i = 11 then (if gt r (530 + 14 * w) = 1 then gt r (535 + 14 * w) else 0) else if i = 5 then gt r (534 + 14 * w) else if i = 15 then sm (sLc r (gt r (531 + 14 * w))) (gt r 8).toNat else sLv r
noncomputable def sRw (r : Rw) (L : Lw) (i : Nat) : Int := if cnT L 2 (sHr r) < 0 then gt r (532 + 14 * (i : Int)) else wthT L (nmS r (i : Int)) (cnT L 2 (sHr r))
noncomputable def sRk (r : Rw) (L : Lw) (i : Nat) : Int := if gt r (538 + 14 * (i : Int)) = 1 then 0 else sRw r L i
theorem nmK_2 {i : Nat} (h : nmK 2 i = true) : i = 7 ∨ i = 10 ∨ i = 12 ∨ i = 6 ∨ i = 11 ∨ i = 5 ∨ i = 15 := by
  unfold nmK at h
  simp only [Bool.or_eq_true, Bool.and_eq_true, beq_iff_eq] at h
  omega
theorem skin_v {r : Rw} {w k x v : Int} {p : Int} (hk : k = gt r (530 + 14 * w)) (hv : (k = 1 ∧ v = x ∧ x = gt r p) ∨ (k ≠ 1 ∧ v = 0)) : v = if gt r (530 + 14 * w) = 1 then gt r p else 0 := by
  rw [← hk]
  rcases hv with ⟨a, b, c⟩ | ⟨a, b⟩
  · rw [if_pos a, b, c]
  · rw [if_neg a, b]
theorem nmS_c {r : Rw} {w a m g l f p v : Int} {b b1 b2 b3 b4 b5 b6 b7 : Nat → Int} {k1 k2 k3 k4 k5 k6 k7 : Nat} (e1 : b1 = pn b k1 a) (e2 : b2 = pn b1 k2 m) (e3 : b3 = pn b2 k3 g) (e4 : b4 = pn b3 k4 l) (e5 : b5 = pn b4 k5 f) (e6 : b6 = pn b5 k6 p) (e7 : b7 = pn b6 k7 v) (h1 : k1 = 10) (h2 : k2 = 12) (h3 : k3 = 6) (h4 : k4 = 11) (h5 : k5 = 5) (h6 : k6 = 15) (h7 : k7 = 7) (ha : a = gt r (530 + 14 * w)) (hm : m = gt r (532 + 14 * w)) (hg : g = if gt r (530 + 14 * w) = 1 then gt r (536 + 14 * w) else 0) (hl : l = if gt r (530 + 14 * w) = 1 then gt r (535 + 14 * w) else 0) (hf : f = gt r (534 + 14 * w)) (hp : p = sm (sLc r (gt r (531 + 14 * w))) (gt r 8).toNat) (hv : v = sLv r) : ∀ i, nmK 2 i = true → b7 i = nmS r w i := by
  intro i h
  rw [e7, e6, e5, e4, e3, e2, e1, h1, h2, h3, h4, h5, h6, h7, ha, hm, hg, hl, hf, hp, hv]
  rcases nmK_2 h with h | h | h | h | h | h | h <;> subst h <;> rfl
theorem nmS_m {r : Rw} {w a m g l f p : Int} {b b1 b2 b3 b4 b5 : Nat → Int} {K : fH} (er : mR K = r) (e1 : b1 = pn b 107 a) (e2 : b2 = pn b1 109 m) (e3 : b3 = pn b2 103 g) (e4 : b4 = pn b3 108 l) (e5 : b5 = pn b4 102 f) (e6 : K 748 = pn b5 112 p) (ha : a = gt r (530 + 14 * w)) (hm : m = gt r (532 + 14 * w)) (hg : g = if gt r (530 + 14 * w) = 1 then gt r (536 + 14 * w) else 0) (hl : l = if gt r (530 + 14 * w) = 1 then gt r (535 + 14 * w) else 0) (hf : f = gt r (534 + 14 * w)) (hp : p = sm (sLc r (gt r (531 + 14 * w))) (gt r 8).toNat) : ∀ i, nmK 2 i = true → nmW K i = nmS r w i := by
  intro i h
  unfold nmW
  rw [e6, e5, e4, e3, e2, e1, er, ha, hm, hg, hl, hf, hp]
  rcases nmK_2 h with h | h | h | h | h | h | h <;> subst h <;> rfl
theorem rwk_0 {r : Rw} {L : Lw} {c w z x p : Int} {i : Nat} (hu : w = (i : Int)) (g : c = cnT L 2 (sHr r)) (hc : c < 0) (hz : z = x) (hx : x = gt r p) (hp : p = 532 + 14 * w) : z = sRw r L i := by
  subst hu
  unfold sRw
  rw [← g, if_pos hc, hz, hx, hp]
theorem rwk_1 {r : Rw} {L L' : Lw} {c w z : Int} {nm : Nat → Int} {i : Nat} (hu : w = (i : Int)) (g : c = cnT L 2 (sHr r)) (hc : 0 ≤ c) (eL : L' = L) (ok : okL L) (hz : z = wthT L' nm c) (n : ∀ i, nmK 2 i = true → nm i = nmS r w i) : z = sRw r L i := by
  subst hu
  subst eL
  unfold sRw
  rw [← g, if_neg (by omega), hz, wthT_key ok g hc n]
theorem rk_0 {r : Rw} {L : Lw} {w z : Int} {i : Nat} (hu : w = (i : Int)) (g : gt r (538 + 14 * w) = 1) (hz : z = 0) : z = sRk r L i := by
  subst hu
  unfold sRk
  rw [if_pos g, hz]
theorem rk_1 {r : Rw} {L : Lw} {w z : Int} {i : Nat} (hu : w = (i : Int)) (g : gt r (538 + 14 * w) = 0) (hz : z = sRw r L i) : z = sRk r L i := by
  subst hu
  unfold sRk
  rw [if_neg (by omega), hz]
/-- what stands in the array so far -/
theorem ar_0 {A P : Nat → Int} {y : Int} (hy : y = 0) : ∀ i : Nat, (i : Int) < y → A i = P i := fun i h => absurd h (by omega)
theorem ar_S {A B P : Nat → Int} {y y' v : Int} {q : Nat} (h : ∀ i : Nat, (i : Int) < y → A i = P i) (e : B = pn A q v) (hq : (q : Int) = y) (hy : y' = y + 1) (hv : v = P q) : ∀ i : Nat, (i : Int) < y' → B i = P i := fun i l => by
  rw [e]
  show (if i = q then v else A i) = P i
  by_cases c : i = q
  · rw [if_pos c, hv, c]
  · rw [if_neg c]
    exact h i (by omega)
/-- the class's search for the greatest -/
def pkI (c : Nat → Int) (f m y : Int) : Prop := (f = -1000000005 ∧ m = 0 ∧ ∀ i : Nat, (i : Int) < y → c i ≤ 0) ∨ (0 ≤ f ∧ f < y ∧ m = c f.toNat ∧ 0 < m ∧ ∀ i : Nat, (i : Int) < y → c i ≤ m ∧ (c i = m → f ≤ (i : Int)))
theorem pk_0 {c : Nat → Int} {f m y : Int} (hf : f = -1000000005) (hm : m = 0) (hy : y = 0) : pkI c f m y := Or.inl ⟨hf, hm, fun i h => absurd h (by omega)⟩
theorem pk_y {c : Nat → Int} {f m y f' m' y' x : Int} (g : pkI c f m y) (h0 : 0 ≤ y) (hx : x = c y.toNat) (l : m < x) (hf : f' = y) (hm : m' = x) (hy : y' = y + 1) : pkI c f' m' y' := by
  subst hf
  subst hm
  refine Or.inr ⟨h0, by omega, hx, ?_, fun i h => ?_⟩
  · rcases g with a | a
    · omega
    · omega
  · by_cases e : (i : Int) = f'
    · have e2 : i = f'.toNat := by omega
      rw [e2, ← hx]
      exact ⟨Int.le_refl _, fun _ => by omega⟩
    · rcases g with a | a
      · have b := a.2.2 i (by omega)
        exact ⟨by omega, fun q => by omega⟩
      · have b := a.2.2.2.2 i (by omega)
        exact ⟨by omega, fun q => by omega⟩
theorem pk_n {c : Nat → Int} {f m y y' x : Int} (g : pkI c f m y) (h0 : 0 ≤ y) (hx : x = c y.toNat) (l : x ≤ m) (hy : y' = y + 1) : pkI c f m y' := by
  rcases g with a | a
  · refine Or.inl ⟨a.1, a.2.1, fun i h => ?_⟩
    by_cases e : (i : Int) = y
    · have e2 : i = y.toNat := by omega
      rw [e2, ← hx]
      omega
    · exact a.2.2 i (by omega)
  · refine Or.inr ⟨a.1, by omega, a.2.2.1, a.2.2.2.1, fun i h => ?_⟩
    by_cases e : (i : Int) = y
    · have e2 : i = y.toNat := by omega
      rw [e2, ← hx]
      exact ⟨l, fun _ => by omega⟩
    · exact a.2.2.2.2 i (by omega)
def pkS (c c' : Nat → Int) (n z : Int) : Prop := (z = -1000000005 ∧ ∀ i : Nat, (i : Int) < n → c i ≤ 0) ∨ (0 ≤ z ∧ z < n ∧ 0 < c z.toNat ∧ (∀ i : Nat, (i : Int) < n → c i ≤ c z.toNat ∧ (c i = c z.toNat → z ≤ (i : Int))) ∧ c' = pn c z.toNat 0)
theorem pk_e0 {c c' : Nat → Int} {f m y n z : Int} (g : pkI c f m y) (hy : y = n) (hf : f = -1000000005) (hz : z = f) : pkS c c' n z := by
  subst hy
  exact Or.inl ⟨by omega, g.elim (fun a => a.2.2) (fun a => absurd a.1 (by omega))⟩
theorem pk_e1 {c c0 c' : Nat → Int} {f m y n z v : Int} {q : Nat} (g : pkI c f m y) (hy : y = n) (hf : f ≠ -1000000005) (hz : z = f) (e0 : c0 = c) (e : c' = pn c0 q v) (hv : v = 0) (hq : (q : Int) = z) : pkS c c' n z := by
  subst hy
  subst hv
  subst e0
  rcases g with a | ⟨a1, a2, a3, a4, a5⟩
  · exact absurd a.1 hf
  · subst hz
    refine Or.inr ⟨a1, a2, by omega, fun i h => ?_, ?_⟩
    · rw [← a3]
      exact a5 i h
    · rw [e, show q = z.toNat by omega]
theorem pk_od {R c c' : Nat → Int} {N : Nat} {n j j' z : Int} (s : srI R N c j) (g : pkS c c' n z) (hn : n = (N : Int)) (hj : j' = j + 1) : z = od R N j ∧ ((z = -1000000005 ∧ cp R N ≤ j) ∨ (0 ≤ z ∧ z < n ∧ srI R N c' j')) := by
  subst hn
  rcases g with ⟨a, b⟩ | ⟨a, b, d, e, f⟩
  · have k := sr_none s (fun i l => b i (by omega))
    exact ⟨od_n k a, Or.inl ⟨a, k⟩⟩
  · have k := sr_pick s (w := z.toNat) (z := z) (by omega) d (fun i l => by
      have q := e i (by omega)
      exact ⟨q.1, fun w => by have := q.2 w; omega⟩) (by omega) f rfl hj
    exact ⟨k.1, Or.inr ⟨a, b, k.2⟩⟩
noncomputable def oOrder (r : Rw) (L : Lw) (i : Int) : Int := if i < 0 then cBAD else od (sRk r L) (gt r 7).toNat i
/-- the work that goes -/
def sShd (r : Rw) (w : Int) : Rw := rud (if gt r (530 + 14 * w) = 1 then sLs r w (gt r (536 + 14 * w)) else r) (538 + 14 * w) 1
noncomputable def oShed (r : Rw) (L : Lw) : Rw × Int := if od (sRk r L) (gt r 7).toNat 0 < 0 then (r, cNO) else (sShd r (od (sRk r L) (gt r 7).toNat 0), od (sRk r L) (gt r 7).toNat 0)
theorem shd_1 {r R : Rw} {w k g : Int} (hk : k = gt r (530 + 14 * w)) (h1 : k = 1) (e : R = sLs r w g) (hg : g = gt r (536 + 14 * w)) {p v : Int} (hp : p = 538 + 14 * w) (hv : v = 1) : rud R p v = sShd r w := by
  unfold sShd
  rw [← hk, if_pos h1, e, hg, hp, hv]
theorem shd_0 {r : Rw} {w k p v : Int} (hk : k = gt r (530 + 14 * w)) (h1 : k ≠ 1) (hp : p = 538 + 14 * w) (hv : v = 1) : rud r p v = sShd r w := by
  unfold sShd
  rw [← hk, if_neg h1, hp, hv]
theorem shd_y {r : Rw} {L : Lw} {R : Rw} {z y : Int} (g : z = od (sRk r L) (gt r 7).toNat 0) (h0 : 0 ≤ z) (e : R = sShd r z) (hy : y = z) : (R, y) = oShed r L := by
  subst hy
  unfold oShed
  rw [← g, if_neg (by omega), e]
theorem shd_n {r : Rw} {L : Lw} {R : Rw} {z y : Int} (g : z = od (sRk r L) (gt r 7).toNat 0) (h0 : z < 0) (e : R = r) (hy : y = cNO) : (R, y) = oShed r L := by
  unfold oShed
  rw [← g, if_pos h0, e, hy]
/-- how many are enough: fuel, so many, what it is too heavy by -/
noncomputable def enF (wg li : Nat → Int) (o : Int → Int) : Nat → Int → Int → Int
  | 0, _, _ => cNO
  | f + 1, k, d => if d ≤ 0 then k else if o k < 0 then cNO else enF wg li o f (k + 1) (d - wg (o k).toNat + li (o k).toNat)
noncomputable def oEnough (r : Rw) (L : Lw) : Int := enF (sWg r) (sLi r) (od (sRk r L) (gt r 7).toNat) 25 0 (sWeight r - sLift r)
theorem enF_y {wg li : Nat → Int} {o : Int → Int} {f : Nat} {k d z : Int} (hf : 1 ≤ f) (h : d ≤ 0) (hz : z = k) : z = enF wg li o f k d := by
  obtain ⟨n, rfl⟩ : ∃ n, f = n + 1 := ⟨f - 1, by omega⟩
  rw [hz]
  exact (if_pos h).symm
theorem enF_n {wg li : Nat → Int} {o : Int → Int} {f : Nat} {k d z w : Int} (h : 0 < d) (g : w = o k) (h0 : w < 0) (hz : z = -1000000002) : z = enF wg li o f k d := by
  rw [hz]
  match f with
  | 0 => rfl
  | n + 1 =>
    show (-1000000002 : Int) = if d ≤ 0 then k else if o k < 0 then cNO else _
    rw [if_neg (by omega), ← g, if_pos h0]
theorem enF_0 {wg li : Nat → Int} {o : Int → Int} {f : Nat} {k d z : Int} (hf : f = 0) (hz : z = -1000000002) : z = enF wg li o f k d := by
  subst hf
  exact hz
theorem enF_S {wg li : Nat → Int} {o : Int → Int} {A k k' d d' w a b : Int} {f : Int} (h : A = enF wg li o f.toNat k d) (hf : 1 ≤ f) (hd : 0 < d) (g : w = o k) (h0 : 0 ≤ w) (ha : a = wg w.toNat) (hb : b = li w.toNat) (hk : k' = k + 1) (hd' : d' = d - a + b) {f' : Int} (hf' : f' = f - 1) : A = enF wg li o f'.toNat k' d' := by
  rw [h, show f.toNat = f'.toNat + 1 by omega, hk, hd', ha, hb, g]
  show (if d ≤ 0 then k else if o k < 0 then cNO else enF wg li o f'.toNat (k + 1) (d - wg (o k).toNat + li (o k).toNat)) = _
  rw [if_neg (by omega), if_neg (by omega)]
theorem rk_live {r : Rw} {L : Lw} {w : Nat} (h : 0 < sRk r L w) : gt r (538 + 14 * (w : Int)) ≠ 1 := fun q => by
  unfold sRk at h
  rw [if_pos q] at h
  exact absurd h (by decide)
theorem od_live {r : Rw} {L : Lw} {n : Nat} {k z : Int} (g : z = od (sRk r L) n k) (h : 0 ≤ z) : z < (n : Int) ∧ gt r (538 + 14 * z) ≠ 1 := by
  rcases od_b (R := sRk r L) (n := n) (k := k) with a | a
  · rw [← g] at a
    exact absurd a (by omega)
  · rw [← g] at a
    have q := rk_live a.2.2
    rw [show ((z.toNat : Nat) : Int) = z by omega] at q
    exact ⟨a.2.1, q⟩
/-! the reference's list -/
theorem en_cast {R s v : Nat → Int} {n n' m m' : Nat} (h : enI R n m s v) (hn : n = n') (hm : m = m') : enI R n' m' s v := by
  subst hn
  subst hm
  exact h
theorem en_sk {R s v : Nat → Int} {y y' : Int} {m : Nat} (h : enI R y.toNat m s v) (h0 : 0 ≤ y) (hy : y' = y + 1) (r : R y.toNat ≤ 0) : enI R y'.toNat m s v := en_cast (en_skip h r) (by omega) rfl
theorem od_e {R s v : Nat → Int} {n m : Nat} {k z : Int} (h : enI R n m s v) (h0 : 0 ≤ k) (hk : k < (m : Int)) (hz : z = s k.toNat) : z = od R n k := by
  have e := en_od h (k := k.toNat) (by omega) hz
  rw [show ((k.toNat : Nat) : Int) = k by omega] at e
  exact e
theorem rk_g {r : Rw} {L : Lw} {w : Int} (h0 : 0 ≤ w) (g : gt r (538 + 14 * w) = 1) : sRk r L w.toNat = 0 := (rk_0 (w := w) (by omega) g rfl).symm
theorem rk_r {r : Rw} {L : Lw} {w z : Int} (h0 : 0 ≤ w) (g : gt r (538 + 14 * w) = 0) (hz : z = sRw r L w.toNat) : z = sRk r L w.toNat := rk_1 (w := w) (by omega) g hz
/-- what the reference does to the row of what goes -/
theorem shd_m {r : Rw} {w b c x q1 q2 q3 p u v t k : Int} (hw : 0 ≤ w ∧ w < 24) (hc : 0 ≤ c ∧ c < 20) (h1 : k = gt r (530 + 14 * w)) (hk : k = 1) (hcc : c = gt (rud r q1 u) p) (hp : p = 531 + 14 * w) (e1 : q1 = 538 + 14 * w) (hu : u = 1) (hx : x = gt (rud r q1 u) q2) (e2 : q2 = 38 + 20 * c) (hb : b = gt (rud r q1 u) q3) (e3 : q3 = 536 + 14 * w) (hv : v = wr (x + b)) (ht : t = 0) : rud (rud (rud r q1 u) q2 v) q3 t = sShd r w := by
  subst e1
  subst e2
  subst e3
  subst hp
  subst hu
  subst ht
  have b1 := gt_n (by omega) (by omega) hb
  have x1 := gt_n (by omega) (by omega) hx
  have c1 := gt_n (by omega) (by omega) hcc
  unfold sShd sLs
  rw [← h1, if_pos hk, ← b1, ← c1, ← x1, Int.sub_self, ← hv]
  rw [rud_comm (r := rud r (538 + 14 * w) 1) (k := 38 + 20 * c) (k' := 536 + 14 * w) (by omega), rud_comm (r := r) (k := 538 + 14 * w) (k' := 536 + 14 * w) (by omega), rud_comm (r := rud r (536 + 14 * w) 0) (k := 538 + 14 * w) (k' := 38 + 20 * c) (by omega)]

set_option linter.all false
/-! what is worked out of rows: folds -/
def nf {α : Type} (f : Nat → α → α) (a : α) : Nat → α
  | 0 => a
  | n + 1 => f n (nf f a n)
theorem nf_congr {α : Type} {f g : Nat → α → α} {a : α} : ∀ {n : Nat}, (∀ i x, i < n → f i x = g i x) → nf f a n = nf g a n
  | 0, _ => rfl
  | n + 1, h => by
    show f n (nf f a n) = g n (nf g a n)
    rw [nf_congr (n := n) (fun i x hi => h i x (by omega)), h n _ (by omega)]
theorem nf_step {α : Type} {f : Nat → α → α} {a y : α} {m m' : Int} (h : y = nf f a m.toNat) (hm : 0 ≤ m) (hm' : m' = m + 1) : f m.toNat y = nf f a m'.toNat := by
  have e : m'.toNat = m.toNat + 1 := by omega
  rw [e, h]
  rfl
noncomputable def cI {α : Type} (p : Prop) (a b : α) : α := @ite α p (Classical.propDecidable p) a b
theorem cI_pos {α : Type} {p : Prop} {a b : α} (h : p) : cI p a b = a := @if_pos p (Classical.propDecidable p) h α a b
theorem cI_neg {α : Type} {p : Prop} {a b : α} (h : ¬ p) : cI p a b = b := @if_neg p (Classical.propDecidable p) h α a b
theorem of_iI {z : Int} {w : Int32} (hz : fin32 z) (e : iI z = w) : z = w.toInt := by rw [← e, iI_int hz]
theorem iI_0 : iI 0 = 0 := by decide
theorem iI_1 : iI 1 = 1 := by decide
/-- a bit of a number -/
def bt (x : Int) (k : Nat) : Int := ((iI x >>> (iI (k : Int) &&& 31)) &&& 1).toInt
theorem bt_of {x y z w : Int} (hw : fin32 w) (e1 : iI z = xio 7 (iI x) (iI y)) (e2 : iI w = xio 3 (iI z) (iI 1)) (hy : 0 ≤ y) : w = bt x y.toNat := by
  unfold bt
  rw [Int.toNat_of_nonneg hy]
  refine of_iI hw ?_
  rw [e2, e1, iI_1]
  rfl
def smF (row : Nat → Int) (set : Int) (n : Nat) : Int32 := nf (fun k s => if bt set k = 1 then s + iI (row k) else s) 0 n
theorem smF_congr {r r' : Nat → Int} {set : Int} {n : Nat} (h : ∀ k, k < n → r k = r' k) : smF r set n = smF r' set n := nf_congr (fun i x hi => by rw [h i hi])
theorem sm_no {row : Nat → Int} {set s m m' : Int} (h : iI s = smF row set m.toNat) (hm : 0 ≤ m) (hm' : m' = m + 1) (hb : bt set m.toNat ≠ 1) : iI s = smF row set m'.toNat := by
  have q := nf_step h hm hm'
  simp only [if_neg hb] at q
  exact q
theorem sm_yes {row : Nat → Int} {set s z v m m' : Int} (h : iI s = smF row set m.toNat) (hm : 0 ≤ m) (hm' : m' = m + 1) (hb : bt set m.toNat = 1) (e : iI z = xio 0 (iI s) (iI v)) (hv : v = row m.toNat) : iI z = smF row set m'.toNat := by
  have q := nf_step h hm hm'
  simp only [if_pos hb] at q
  rw [e, hv]
  exact q
/-- bit times number -/
theorem sm_mul {row : Nat → Int} {set s z w b v m m' : Int} (h : iI s = smF row set m.toNat) (hm : 0 ≤ m) (hm' : m' = m + 1) (hb : b = bt set m.toNat) (hb1 : 0 ≤ b ∧ b ≤ 1) (e1 : iI w = xio 2 (iI b) (iI v)) (e : iI z = xio 0 (iI s) (iI w)) (hv : v = row m.toNat) : iI z = smF row set m'.toNat := by
  have e : iI z = iI s + iI w := e
  have e1 : iI w = iI b * iI v := e1
  by_cases c : b = 1
  · refine sm_yes (v := v) h hm hm' (by omega) ?_ hv
    show iI z = iI s + iI v
    rw [e, e1, c, iI_1, Int32.one_mul]
  · have c0 : b = 0 := by omega
    have q := sm_no h hm hm' (by omega : bt set m.toNat ≠ 1)
    rw [← q, e, e1, c0, iI_0, Int32.zero_mul, Int32.add_zero]
def tw (L : Int) : Int := (iI 1 <<< (iI L &&& 31)).toInt
theorem tw_of {z L : Int} (hz : fin32 z) (e : iI z = xio 6 (iI 1) (iI L)) : z = tw L := of_iI hz e
theorem tw_1 {L : Int} (h : 0 ≤ L ∧ L ≤ 10) : 1 ≤ tw L := by
  have q : ∀ n : Nat, n < 11 → 1 ≤ tw (n : Int) := by decide
  have e := q L.toNat (by omega)
  rw [Int.toNat_of_nonneg h.1] at e
  exact e
/-- the best load: its bits, worth, mass -/
def cgF (mr wr : Nat → Int) (L : Nat) (most : Int) (k : Nat) (q : Int × Int × Int) : Int × Int × Int := if (smF mr ((k : Int) + 1) L).toInt ≤ most ∧ (q.2.1 < (smF wr ((k : Int) + 1) L).toInt ∨ ((smF wr ((k : Int) + 1) L).toInt = q.2.1 ∧ (smF mr ((k : Int) + 1) L).toInt < q.2.2)) then ((k : Int) + 1, (smF wr ((k : Int) + 1) L).toInt, (smF mr ((k : Int) + 1) L).toInt) else q
theorem cgF_congr {mr wr mr' wr' : Nat → Int} {L : Nat} {most : Int} {n : Nat} (h1 : ∀ k, k < L → mr k = mr' k) (h2 : ∀ k, k < L → wr k = wr' k) : nf (cgF mr wr L most) (0, 0, 0) n = nf (cgF mr' wr' L most) (0, 0, 0) n := nf_congr (fun i x _ => by unfold cgF; rw [smF_congr h1, smF_congr h2])
theorem cg_at {mr wr : Nat → Int} {L : Nat} {most b w m s s' sm sw : Int} (h : (b, w, m) = nf (cgF mr wr L most) (0, 0, 0) (s - 1).toNat) (hs : 1 ≤ s) (hs' : s' = s + 1) (h1 : fin32 sm) (h2 : fin32 sw) (e1 : iI sm = smF mr s L) (e2 : iI sw = smF wr s L) : (if sm ≤ most ∧ (w < sw ∨ (sw = w ∧ sm < m)) then (s, sw, sm) else (b, w, m)) = nf (cgF mr wr L most) (0, 0, 0) (s' - 1).toNat := by
  have q := nf_step (m' := s' - 1) h (by omega) (by omega)
  have e : (((s - 1).toNat : Nat) : Int) + 1 = s := by omega
  unfold cgF at q
  rw [e, ← of_iI h1 e1, ← of_iI h2 e2] at q
  exact q
theorem cg_yes {mr wr : Nat → Int} {L : Nat} {most b w m s s' sm sw : Int} (h : (b, w, m) = nf (cgF mr wr L most) (0, 0, 0) (s - 1).toNat) (hs : 1 ≤ s) (hs' : s' = s + 1) (h1 : fin32 sm) (h2 : fin32 sw) (e1 : iI sm = smF mr s L) (e2 : iI sw = smF wr s L) (c : sm ≤ most ∧ (w < sw ∨ (sw = w ∧ sm < m))) : (s, sw, sm) = nf (cgF mr wr L most) (0, 0, 0) (s' - 1).toNat := by
  have q := cg_at h hs hs' h1 h2 e1 e2
  rw [if_pos c] at q
  exact q
theorem cg_no {mr wr : Nat → Int} {L : Nat} {most b w m s s' sm sw : Int} (h : (b, w, m) = nf (cgF mr wr L most) (0, 0, 0) (s - 1).toNat) (hs : 1 ≤ s) (hs' : s' = s + 1) (h1 : fin32 sm) (h2 : fin32 sw) (e1 : iI sm = smF mr s L) (e2 : iI sw = smF wr s L) (c : ¬ (sm ≤ most ∧ (w < sw ∨ (sw = w ∧ sm < m)))) : (b, w, m) = nf (cgF mr wr L most) (0, 0, 0) (s' - 1).toNat := by
  have q := cg_at h hs hs' h1 h2 e1 e2
  rw [if_neg c] at q
  exact q
/-- what was tested agrees with a fault -/
def agP (sn : Nat → Int) (sh : Nat → Nat → Int) (f n : Nat) : Prop := ∀ t : Nat, t < n → sn t < 0 ∨ sn t = sh t f
theorem agP_congr {sn sn' : Nat → Int} {sh sh' : Nat → Nat → Int} {f : Nat} (h1 : ∀ t, t < 8 → sn t = sn' t) (h2 : ∀ t, t < 8 → sh t f = sh' t f) : agP sn sh f 8 = agP sn' sh' f 8 := propext ⟨fun h t ht => by rw [← h1 t ht, ← h2 t ht]; exact h t ht, fun h t ht => by rw [h1 t ht, h2 t ht]; exact h t ht⟩
theorem agP_go {sn : Nat → Int} {sh : Nat → Nat → Int} {f : Nat} {m m' : Int} (h : agP sn sh f m.toNat) (hm : 0 ≤ m) (hm' : m' = m + 1) (c : sn m.toNat < 0 ∨ sn m.toNat = sh m.toNat f) : agP sn sh f m'.toNat := fun t ht => by
  by_cases e : t = m.toNat
  · rw [e]; exact c
  · exact h t (by omega)
theorem agP_no {sn : Nat → Int} {sh : Nat → Nat → Int} {f n : Nat} {m : Int} (hm : 0 ≤ m) (hn : m.toNat < n) (c : ¬ (sn m.toNat < 0 ∨ sn m.toNat = sh m.toNat f)) : ¬ agP sn sh f n := fun h => c (h m.toNat hn)
noncomputable def lfF (sn : Nat → Int) (sh : Nat → Nat → Int) (n : Nat) : Int32 := nf (fun f s => cI (agP sn sh f 8) (s ||| (iI 1 <<< (iI (f : Int) &&& 31))) s) 0 n
theorem lfF_congr {sn sn' : Nat → Int} {sh sh' : Nat → Nat → Int} {n : Nat} (h1 : ∀ t, t < 8 → sn t = sn' t) (h2 : ∀ t f, t < 8 → f < n → sh t f = sh' t f) : lfF sn sh n = lfF sn' sh' n := nf_congr (fun i x hi => by rw [agP_congr h1 (fun t ht => h2 t i ht hi)])
theorem lf_no {sn : Nat → Int} {sh : Nat → Nat → Int} {s m m' : Int} (h : iI s = lfF sn sh m.toNat) (hm : 0 ≤ m) (hm' : m' = m + 1) (c : ¬ agP sn sh m.toNat 8) : iI s = lfF sn sh m'.toNat := by
  have q := nf_step h hm hm'
  simp only [cI_neg c] at q
  exact q
theorem lf_yes {sn : Nat → Int} {sh : Nat → Nat → Int} {s z w m m' : Int} (h : iI s = lfF sn sh m.toNat) (hm : 0 ≤ m) (hm' : m' = m + 1) (c : agP sn sh m.toNat 8) (e1 : iI w = xio 6 (iI 1) (iI m)) (e : iI z = xio 4 (iI s) (iI w)) : iI z = lfF sn sh m'.toNat := by
  have q := nf_step h hm hm'
  simp only [cI_pos c] at q
  rw [Int.toNat_of_nonneg hm] at q
  refine Eq.trans ?_ q
  rw [e, e1]
  rfl
theorem lf_or0 {sn : Nat → Int} {sh : Nat → Nat → Int} {s z m : Int} (h : iI s = lfF sn sh m.toNat) (e : iI z = xio 4 (iI s) (iI 0)) : iI z = lfF sn sh m.toNat := by
  rw [e, ← h]
  show iI s ||| iI 0 = iI s
  rw [iI_0, Int32.or_zero]
theorem lf_lt {sn : Nat → Int} {sh : Nat → Nat → Int} : ∀ n : Nat, n ≤ 12 → ∃ k : Nat, k < 2 ^ n ∧ lfF sn sh n = nI k
  | 0, _ => ⟨0, by decide, rfl⟩
  | n + 1, hn => by
    obtain ⟨k, hk, e⟩ := lf_lt (sn := sn) (sh := sh) n (by omega)
    have hp : 2 ^ (n + 1) = 2 ^ n + 2 ^ n := by rw [Nat.pow_succ]; omega
    show ∃ k, k < 2 ^ (n + 1) ∧ cI (agP sn sh n 8) (lfF sn sh n ||| (iI 1 <<< (iI (n : Int) &&& 31))) (lfF sn sh n) = nI k
    by_cases c : agP sn sh n 8
    · rw [cI_pos c, e]
      have q : ∀ n : Nat, n < 12 → (iI 1 <<< (iI (n : Int) &&& 31)) = nI (2 ^ n) := by decide
      rw [q n (by omega)]
      refine ⟨k ||| 2 ^ n, Nat.or_lt_two_pow (by omega) (by rw [hp]; have : 0 < 2 ^ n := Nat.two_pow_pos n; omega), ?_⟩
      exact (xioc_of 4 k (2 ^ n)).symm
    · rw [cI_neg c, e]
      exact ⟨k, by omega, rfl⟩
/-- how many bits are set: the library's way, and one by one -/
def bc32 (x0 : Int32) : Int32 :=
  let x1 := x0 - (xio 8 x0 (iI 1) &&& iI 1431655765)
  let x2 := (x1 &&& iI 858993459) + (xio 8 x1 (iI 2) &&& iI 858993459)
  let x3 := (x2 + xio 8 x2 (iI 4)) &&& iI 252645135
  let x4 := x3 + xio 8 x3 (iI 8)
  let x5 := x4 + xio 8 x4 (iI 16)
  x5 &&& iI 63
def onI (x : Int) (n : Nat) : Int := nf (fun k s => s + bt x k) 0 n
/-- the same on the machine's codes -/
def bcN (k : Nat) : Nat :=
  let x1 := xioc 1 k (xioc 3 (xioc 8 k 1) 1431655765)
  let x2 := xioc 0 (xioc 3 x1 858993459) (xioc 3 (xioc 8 x1 2) 858993459)
  let x3 := xioc 3 (xioc 0 x2 (xioc 8 x2 4)) 252645135
  let x4 := xioc 0 x3 (xioc 8 x3 8)
  let x5 := xioc 0 x4 (xioc 8 x4 16)
  xioc 3 x5 63
theorem bcN_of (k : Nat) : nI (bcN k) = bc32 (nI k) := by
  have e1 : nI 1 = iI 1 := by decide
  have e2 : nI 1431655765 = iI 1431655765 := by decide
  have e3 : nI 858993459 = iI 858993459 := by decide
  have e4 : nI 2 = iI 2 := by decide
  have e5 : nI 4 = iI 4 := by decide
  have e6 : nI 252645135 = iI 252645135 := by decide
  have e7 : nI 8 = iI 8 := by decide
  have e8 : nI 16 = iI 16 := by decide
  have e9 : nI 63 = iI 63 := by decide
  unfold bcN bc32
  simp only [xioc_of, e1, e2, e3, e4, e5, e6, e7, e8, e9]
  rfl
theorem bt_N {k i : Nat} (h : xioc 3 (xioc 7 k i) 1 ≤ 1) : bt (nI k).toInt i = ((xioc 3 (xioc 7 k i) 1 : Nat) : Int) := by
  have e : nI (xioc 3 (xioc 7 k i) 1) = ((iI (nI k).toInt >>> (iI (i : Int) &&& 31)) &&& 1) := by
    rw [xioc_of, xioc_of, iI_toInt, iI_nat, show nI 1 = 1 by decide]
    rfl
  unfold bt
  rw [← e]
  obtain q | q : xioc 3 (xioc 7 k i) 1 = 0 ∨ xioc 3 (xioc 7 k i) 1 = 1 := by omega
  · rw [q]
    decide
  · rw [q]
    decide
def onN (k : Nat) : Nat → Nat
  | 0 => 0
  | n + 1 => onN k n + xioc 3 (xioc 7 k n) 1
theorem onI_N {k : Nat} : ∀ n : Nat, (∀ i, i < n → xioc 3 (xioc 7 k i) 1 ≤ 1) → onI (nI k).toInt n = ((onN k n : Nat) : Int)
  | 0, _ => rfl
  | n + 1, h => by
    show onI (nI k).toInt n + bt (nI k).toInt n = ((onN k n + xioc 3 (xioc 7 k n) 1 : Nat) : Int)
    rw [onI_N n (fun i hi => h i (by omega)), bt_N (h n (by omega)), Int.natCast_add]
def bcC (k : Nat) : Bool := (List.range 12).all (fun i => Nat.ble (xioc 3 (xioc 7 k i) 1) 1) && (Nat.beq (bcN k) (onN k 12) && Nat.ble (bcN k) 12)
theorem bc_ones {k : Nat} (h : k < 4096) : (bc32 (nI k)).toInt = onI (nI k).toInt 12 := by
  have q : (List.range 64).all (fun a => (List.range 64).all (fun b => bcC (64 * a + b))) = true := by decide +kernel
  have e := List.all_eq_true.mp (List.all_eq_true.mp q (k / 64) (List.mem_range.mpr (by omega))) (k % 64) (List.mem_range.mpr (by omega))
  rw [Nat.div_add_mod] at e
  unfold bcC at e
  obtain ⟨e1, e⟩ := Bool.and_eq_true_iff.mp e
  obtain ⟨e2, e3⟩ := Bool.and_eq_true_iff.mp e
  have e2 := Nat.eq_of_beq_eq_true e2
  have e3 := Nat.le_of_ble_eq_true e3
  have t : ∀ n : Nat, n < 13 → (nI n).toInt = (n : Int) := by decide
  rw [← bcN_of, onI_N 12 (fun i hi => Nat.le_of_ble_eq_true (List.all_eq_true.mp e1 i (List.mem_range.mpr hi))), t _ (by omega), e2]
/-- how many of a set show alike -/
def cnF (row : Nat → Int) (set v : Int) (n : Nat) : Int := nf (fun f s => if bt set f = 1 ∧ row f = v then s + 1 else s) 0 n
def alF (row : Nat → Int) (set : Int) (n : Nat) : Int := nf (fun v s => if s < cnF row set (v : Int) 12 then cnF row set (v : Int) 12 else s) 0 n
theorem cnF_congr {r r' : Nat → Int} {set v : Int} (h : ∀ k, k < 12 → r k = r' k) : cnF r set v 12 = cnF r' set v 12 := nf_congr (fun i x hi => by rw [h i hi])
theorem alF_congr {r r' : Nat → Int} {set : Int} {n : Nat} (h : ∀ k, k < 12 → r k = r' k) : alF r set n = alF r' set n := nf_congr (fun i x _ => by rw [cnF_congr h])
theorem cn_no {row : Nat → Int} {set v s m m' : Int} (h : s = cnF row set v m.toNat) (hm : 0 ≤ m) (hm' : m' = m + 1) (c : ¬ (bt set m.toNat = 1 ∧ row m.toNat = v)) : s = cnF row set v m'.toNat := by
  have q := nf_step h hm hm'
  simp only [if_neg c] at q
  exact q
theorem cn_yes {row : Nat → Int} {set v s z m m' : Int} (h : s = cnF row set v m.toNat) (hm : 0 ≤ m) (hm' : m' = m + 1) (c : bt set m.toNat = 1 ∧ row m.toNat = v) (hz : z = s + 1) : z = cnF row set v m'.toNat := by
  have q := nf_step h hm hm'
  simp only [if_pos c] at q
  rw [hz]
  exact q
theorem al_go {row : Nat → Int} {set s z c m m' : Int} (h : s = alF row set m.toNat) (hm : 0 ≤ m) (hm' : m' = m + 1) (hc : c = cnF row set m 12) (hz : (z = c ∧ s ≤ c) ∨ (z = s ∧ c ≤ s)) : z = alF row set m'.toNat := by
  have q := nf_step h hm hm'
  rw [Int.toNat_of_nonneg hm, ← hc] at q
  refine Eq.trans ?_ q
  split <;> omega
/-- the next test: which, and how many it leaves -/
def ntF (sn : Nat → Int) (al : Nat → Int) (t : Nat) (q : Int × Int) : Int × Int := if sn t < 0 ∧ al t < q.2 then ((t : Int), al t) else q
theorem ntF_congr {sn sn' al al' : Nat → Int} {a : Int × Int} {n : Nat} (h1 : ∀ t, t < n → sn t = sn' t) (h2 : ∀ t, t < n → al t = al' t) : nf (ntF sn al) a n = nf (ntF sn' al') a n := nf_congr (fun i x hi => by unfold ntF; rw [h1 i hi, h2 i hi])
theorem nt_no {sn al : Nat → Int} {a : Int × Int} {b l m m' : Int} (h : (b, l) = nf (ntF sn al) a m.toNat) (hm : 0 ≤ m) (hm' : m' = m + 1) (c : ¬ (sn m.toNat < 0 ∧ al m.toNat < l)) : (b, l) = nf (ntF sn al) a m'.toNat := by
  have q := nf_step h hm hm'
  unfold ntF at q
  rw [if_neg c] at q
  exact q
theorem nt_yes {sn al : Nat → Int} {a : Int × Int} {b l z m m' : Int} (h : (b, l) = nf (ntF sn al) a m.toNat) (hm : 0 ≤ m) (hm' : m' = m + 1) (hz : z = al m.toNat) (c : sn m.toNat < 0 ∧ z < l) : (m, z) = nf (ntF sn al) a m'.toNat := by
  have q := nf_step h hm hm'
  unfold ntF at q
  rw [← hz, if_pos c, Int.toNat_of_nonneg hm] at q
  exact q
/-- what is left, and how many: hidden from omega -/
def lfX (sn : Nat → Int) (sh : Nat → Nat → Int) (z : Int) : Prop := ∃ s, fin32 s ∧ iI s = lfF sn sh 12 ∧ iI z = bc32 (iI s)
def lfM (sn : Nat → Int) (sh : Nat → Nat → Int) (z : Int) : Prop := ∃ s, fin32 s ∧ iI s = lfF sn sh 12 ∧ z = onI s 12
def ntX (sn : Nat → Int) (sh : Nat → Nat → Int) (z : Int) : Prop := ∃ s, fin32 s ∧ iI s = lfF sn sh 12 ∧ z = (nf (ntF sn (fun t => alF (sh t) s 4)) (-1000000005, (bc32 (iI s)).toInt) 8).1
def ntM (sn : Nat → Int) (sh : Nat → Nat → Int) (z : Int) : Prop := ∃ s, fin32 s ∧ iI s = lfF sn sh 12 ∧ z = (nf (ntF sn (fun t => alF (sh t) s 4)) (-1000000005, onI s 12) 8).1
theorem lfX_mk {sn : Nat → Int} {sh : Nat → Nat → Int} {z s : Int} (h1 : fin32 s) (h2 : iI s = lfF sn sh 12) (h3 : iI z = bc32 (iI s)) : lfX sn sh z := ⟨s, h1, h2, h3⟩
theorem lfM_mk {sn : Nat → Int} {sh : Nat → Nat → Int} {z s : Int} (h1 : fin32 s) (h2 : iI s = lfF sn sh 12) (h3 : z = onI s 12) : lfM sn sh z := ⟨s, h1, h2, h3⟩
theorem ntX_mk {sn : Nat → Int} {sh : Nat → Nat → Int} {z s : Int} (h1 : fin32 s) (h2 : iI s = lfF sn sh 12) (h3 : z = (nf (ntF sn (fun t => alF (sh t) s 4)) (-1000000005, (bc32 (iI s)).toInt) 8).1) : ntX sn sh z := ⟨s, h1, h2, h3⟩
theorem ntM_mk {sn : Nat → Int} {sh : Nat → Nat → Int} {z s : Int} (h1 : fin32 s) (h2 : iI s = lfF sn sh 12) (h3 : z = (nf (ntF sn (fun t => alF (sh t) s 4)) (-1000000005, onI s 12) 8).1) : ntM sn sh z := ⟨s, h1, h2, h3⟩
/-- a work of this kind can be made: numbers a, b; how many works there are, and the kind of the one that a names -/
def wFit (n k x a b : Int) : Prop := (x = 0 ∧ a = 0 ∧ b = 0) ∨ (x = 1 ∧ 1 ≤ a ∧ a ≤ 9 ∧ 0 ≤ b ∧ b ≤ 99999) ∨ (2 ≤ x ∧ x ≤ 4 ∧ 1 ≤ a ∧ a ≤ 99 ∧ b = 0) ∨ (x = 5 ∧ 0 ≤ a ∧ a < n ∧ k = 1 ∧ 1 ≤ b ∧ b ≤ 9999) ∨ (x = 6 ∧ 1 ≤ a ∧ a ≤ 99999 ∧ b = 0)
theorem wFit_congr {n n' k k' x a b : Int} (hn : n = n') (hk : 0 ≤ a → a < n → k = k') (h : wFit n k x a b) : wFit n' k' x a b := by
  unfold wFit at h ⊢
  omega
/-- what gauge answers -/
def gzF (n x y v : Int) : Int := if ¬ (0 ≤ x ∧ x < n ∧ (-1) ≤ y ∧ y ≤ 1) then (-1000000001) else if y = (-1) then 0 else if 30 < v then (-1000000001) else if v < 0 then (-1000000014) else v

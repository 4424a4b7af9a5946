set_option linter.all false
/-! power through the dark: harm and loads by hours left and bank -/
theorem nf_ind {α : Type} {f : Nat → α → α} {a : α} {P : Nat → α → Prop} (h0 : P 0 a) : ∀ {n : Nat}, (∀ i x, i < n → P i x → P (i + 1) (f i x)) → P n (nf f a n)
  | 0, _ => h0
  | n + 1, hs => hs n _ (by omega) (nf_ind h0 (n := n) (fun i x hi => hs i x (by omega)))
/-- what is taken, what it harms, harm and loads of the hours behind by banks, the bank; a load more -/
def dkF (tk hr : Nat → Int) (P : Nat → Int × Int) (b : Int) (l : Nat) (q : Int × Int) : Int × Int := if (0 ≤ b - tk l ∧ (P (b - tk l).toNat).1 ≠ -1000000005) ∧ (q.1 = -1000000005 ∨ (P (b - tk l).toNat).1 + hr l < q.1) then ((P (b - tk l).toNat).1 + hr l, 4 * (P (b - tk l).toNat).2 + (l : Int)) else q
def dkP (tk : Nat → Int) (hm : Nat → Nat → Int) (n : Nat) : Nat → Nat → Int × Int
  | 0, _ => (0, 0)
  | k + 1, b => nf (dkF tk (hm (n - 1 - k)) (dkP tk hm n k) (b : Int)) (-1000000005, 0) 4
theorem dkF_congr {tk hr hr' : Nat → Int} {P P' : Nat → Int × Int} {b : Int} {a : Int × Int} (h0 : ∀ l, l < 4 → hr l = hr' l) (h : ∀ l, l < 4 → 0 ≤ b - tk l → P (b - tk l).toNat = P' (b - tk l).toNat) : nf (dkF tk hr P b) a 4 = nf (dkF tk hr' P' b) a 4 := nf_congr (fun l q hl => by
  unfold dkF
  rw [← h0 l hl]
  by_cases c : 0 ≤ b - tk l
  · rw [h l hl c]
  · rw [if_neg (fun z => c z.1.1), if_neg (fun z => c z.1.1)])
/-- harm within so many hours, loads as digits by 4 -/
def dkB (k : Nat) (q : Int × Int) : Prop := (q.1 = -1000000005 ∨ (0 ≤ q.1 ∧ q.1 ≤ 999 * (k : Int))) ∧ 0 ≤ q.2 ∧ q.2 < 4 ^ k
theorem dk_bd {tk : Nat → Int} {hm : Nat → Nat → Int} {n : Nat} (hn : 1 ≤ n ∧ n ≤ 24) (hh : ∀ i l, i < 24 → l < 4 → 0 ≤ hm i l ∧ hm i l ≤ 999) : ∀ (k b : Nat), dkB k (dkP tk hm n k b)
  | 0, b => (⟨Or.inr ⟨by decide, by decide⟩, by decide, by decide⟩ : dkB 0 (0, 0))
  | k + 1, b => by
    show dkB (k + 1) (nf (dkF tk (hm (n - 1 - k)) (dkP tk hm n k) (b : Int)) (-1000000005, 0) 4)
    have p4 : (4 : Int) ^ (k + 1) = 4 ^ k * 4 := Int.pow_succ 4 k
    have p0 : (0 : Int) < 4 ^ k := Int.pow_pos (by decide)
    refine nf_ind (P := fun _ q => dkB (k + 1) q) ⟨Or.inl rfl, by decide, by rw [p4]; show (0 : Int) < _; omega⟩ (fun l q hl hq => ?_)
    unfold dkF
    split
    · next c =>
      obtain ⟨q1, q2, q3⟩ := dk_bd (tk := tk) (n := n) hn hh k ((b : Int) - tk l).toNat
      have q4 := hh (n - 1 - k) l (by omega) hl
      have c1 := c.1.2
      refine ⟨Or.inr ?_, ?_, ?_⟩
      · show 0 ≤ (dkP tk hm n k ((b : Int) - tk l).toNat).1 + hm (n - 1 - k) l ∧ (dkP tk hm n k ((b : Int) - tk l).toNat).1 + hm (n - 1 - k) l ≤ 999 * ((k + 1 : Nat) : Int)
        omega
      · show 0 ≤ 4 * (dkP tk hm n k ((b : Int) - tk l).toNat).2 + (l : Int)
        omega
      · show 4 * (dkP tk hm n k ((b : Int) - tk l).toNat).2 + (l : Int) < 4 ^ (k + 1)
        rw [p4]
        omega
    · exact hq
theorem dk_yes {tk hr : Nat → Int} {P : Nat → Int × Int} {x b r t v w c s k m m' : Int} {a : Int × Int} (h : (b, r) = nf (dkF tk hr P x) a m.toNat) (hm : 0 ≤ m) (hm' : m' = m + 1) (ht : t = tk m.toNat) (hv : v = (P (x - t).toNat).1) (hw : w = hr m.toNat) (hc : c = (P (x - t).toNat).2) (hs : s = v + w) (hk : k = 4 * c + m) (cd : (0 ≤ x - t ∧ v ≠ -1000000005) ∧ (b = -1000000005 ∨ s < b)) : (s, k) = nf (dkF tk hr P x) a m'.toNat := by
  refine Eq.trans ?_ (nf_step h hm hm')
  unfold dkF
  rw [if_pos (by rw [← ht, ← hv, ← hw, ← hs]; exact cd), ← ht, ← hv, ← hw, ← hc, Int.toNat_of_nonneg hm, hs, hk]
theorem dk_n1 {tk hr : Nat → Int} {P : Nat → Int × Int} {x b r t m m' : Int} {a : Int × Int} (h : (b, r) = nf (dkF tk hr P x) a m.toNat) (hm : 0 ≤ m) (hm' : m' = m + 1) (ht : t = tk m.toNat) (cd : x - t < 0) : (b, r) = nf (dkF tk hr P x) a m'.toNat := by
  refine Eq.trans ?_ (nf_step h hm hm')
  unfold dkF
  rw [if_neg (by rw [← ht]; intro q; have := q.1.1; omega)]
theorem dk_n2 {tk hr : Nat → Int} {P : Nat → Int × Int} {x b r t v m m' : Int} {a : Int × Int} (h : (b, r) = nf (dkF tk hr P x) a m.toNat) (hm : 0 ≤ m) (hm' : m' = m + 1) (ht : t = tk m.toNat) (hv : v = (P (x - t).toNat).1) (cd : v = -1000000005) : (b, r) = nf (dkF tk hr P x) a m'.toNat := by
  refine Eq.trans ?_ (nf_step h hm hm')
  unfold dkF
  rw [if_neg (by rw [← ht, ← hv]; intro q; exact q.1.2 cd)]
theorem dk_n3 {tk hr : Nat → Int} {P : Nat → Int × Int} {x b r t v w m m' : Int} {a : Int × Int} (h : (b, r) = nf (dkF tk hr P x) a m.toNat) (hm : 0 ≤ m) (hm' : m' = m + 1) (ht : t = tk m.toNat) (hv : v = (P (x - t).toNat).1) (hw : w = hr m.toNat) (cd : ¬ (b = -1000000005 ∨ v + w < b)) : (b, r) = nf (dkF tk hr P x) a m'.toNat := by
  refine Eq.trans ?_ (nf_step h hm hm')
  unfold dkF
  rw [if_neg (by rw [← ht, ← hv, ← hw]; intro q; exact cd q.2)]
theorem iL_tn {q : Nat} (h : q < 9223372036854775808) : (iL (q : Int)).toBitVec.toNat = q := by
  rw [← lN_lc, xl_tn]
  unfold lc
  omega
/-- two bits more -/
theorem shl_or {x k z w : Int} (hx : 0 ≤ x ∧ x < 70368744177664) (hk : 0 ≤ k ∧ k < 4) (hw : fin64 w) (e1 : iL z = xls 0 (iL x) (iI 2)) (e2 : iL w = xlo 4 (iL z) (iL k)) : w = 4 * x + k := by
  have e3 : ((iI 2).toInt64 &&& 63).toBitVec.smod 64 = 2#64 := by decide
  obtain ⟨n, rfl⟩ : ∃ n : Nat, x = (n : Int) := ⟨x.toNat, by omega⟩
  obtain ⟨m, rfl⟩ : ∃ m : Nat, k = (m : Int) := ⟨k.toNat, by omega⟩
  have e : iL w = iL ((4 * n + m : Nat) : Int) := by
    apply xl_inj
    rw [iL_tn (q := 4 * n + m) (by omega), e2]
    show ((iL z).toBitVec ||| (iL (m : Int)).toBitVec).toNat = 4 * n + m
    rw [BitVec.toNat_or, iL_tn (q := m) (by omega), e1]
    show ((iL (n : Int)).toBitVec <<< (((iI 2).toInt64 &&& 63).toBitVec.smod 64)).toNat ||| m = 4 * n + m
    rw [e3, BitVec.shiftLeft_eq', BitVec.toNat_shiftLeft, iL_tn (q := n) (by omega)]
    show (n <<< 2) % 18446744073709551616 ||| m = 4 * n + m
    have s : n <<< 2 = 4 * n := by rw [Nat.shiftLeft_eq]; omega
    rw [Nat.mod_eq_of_lt (by rw [s]; omega), ← Nat.shiftLeft_add_eq_or_of_lt (show m < 2 ^ 2 by omega), s]
  have q := iL_eq hw ⟨by omega, by omega⟩ e
  omega
/-- a digit by 4 -/
theorem shr_and {c z w h : Int} (hc : 0 ≤ c ∧ c < 281474976710656) (hh : 0 ≤ h ∧ h < 24) (hw : fin64 w) (e1 : iL z = xls 1 (iL c) (iI (2 * h))) (e2 : iL w = xlo 3 (iL z) (iL 3)) : w = c / 4 ^ h.toNat % 4 := by
  have e3 : ∀ q : Nat, q < 24 → ((iI (2 * (q : Int))).toInt64 &&& 63).toBitVec.smod 64 = BitVec.ofNat 64 (2 * q) := by decide
  obtain ⟨n, rfl⟩ : ∃ n : Nat, c = (n : Int) := ⟨c.toNat, by omega⟩
  obtain ⟨m, rfl⟩ : ∃ m : Nat, h = (m : Int) := ⟨h.toNat, by omega⟩
  have pw : (4 : Nat) ^ m = 2 ^ (2 * m) := by rw [Nat.pow_mul]
  have e : iL w = iL ((n / 4 ^ m % 4 : Nat) : Int) := by
    apply xl_inj
    have l4 : n / 4 ^ m % 4 < 4 := Nat.mod_lt _ (by decide)
    rw [iL_tn (q := n / 4 ^ m % 4) (by omega), e2]
    show ((iL z).toBitVec &&& (iL ((3 : Nat) : Int)).toBitVec).toNat = n / 4 ^ m % 4
    rw [BitVec.toNat_and, iL_tn (q := 3) (by omega), e1]
    show (BitVec.sshiftRight' (iL (n : Int)).toBitVec (((iI (2 * (m : Int))).toInt64 &&& 63).toBitVec.smod 64)).toNat &&& 3 = n / 4 ^ m % 4
    rw [e3 m (by omega)]
    show (BitVec.sshiftRight (iL (n : Int)).toBitVec (BitVec.ofNat 64 (2 * m)).toNat).toNat &&& 3 = n / 4 ^ m % 4
    have t2 : (BitVec.ofNat 64 (2 * m)).toNat = 2 * m := by rw [BitVec.toNat_ofNat]; exact Nat.mod_eq_of_lt (by omega)
    rw [t2, BitVec.sshiftRight_eq_of_msb_false (BitVec.msb_eq_false_iff_two_mul_lt.mpr (by rw [iL_tn (q := n) (by omega)]; omega)), BitVec.toNat_ushiftRight, iL_tn (q := n) (by omega), Nat.shiftRight_eq_div_pow, pw]
    exact Nat.and_two_pow_sub_one_eq_mod _ 2
  have l4 : n / 4 ^ m % 4 < 4 := Nat.mod_lt _ (by decide)
  have q := iL_eq hw ⟨by omega, by omega⟩ e
  rw [q]
  show ((n / 4 ^ m % 4 : Nat) : Int) = (n : Int) / 4 ^ (m : Int).toNat % 4
  rw [Int.toNat_natCast]
  push_cast
  rfl
/-- a load can be -/
def dkG (tk : Nat → Int) (P : Nat → Int × Int) (b : Int) (l : Nat) : Prop := 0 ≤ b - tk l ∧ (P (b - tk l).toNat).1 ≠ -1000000005
/-- the first of the best -/
def dkM (tk hr : Nat → Int) (P : Nat → Int × Int) (b : Int) (m : Nat) (q : Int × Int) : Prop := (q = (-1000000005, 0) ∧ ∀ l, l < m → ¬ dkG tk P b l) ∨ ∃ l, l < m ∧ dkG tk P b l ∧ q = ((P (b - tk l).toNat).1 + hr l, 4 * (P (b - tk l).toNat).2 + (l : Int)) ∧ (∀ k, k < l → dkG tk P b k → (P (b - tk l).toNat).1 + hr l < (P (b - tk k).toNat).1 + hr k) ∧ ∀ k, k < m → dkG tk P b k → (P (b - tk l).toNat).1 + hr l ≤ (P (b - tk k).toNat).1 + hr k
theorem dk_dig {tk hr : Nat → Int} {P : Nat → Int × Int} {b : Int} (hp : ∀ l, l < 4 → dkG tk P b l → 0 ≤ (P (b - tk l).toNat).1 + hr l) : dkM tk hr P b 4 (nf (dkF tk hr P b) (-1000000005, 0) 4) := by
  refine nf_ind (P := fun m q => dkM tk hr P b m q) (Or.inl ⟨rfl, fun l h => absurd h (Nat.not_lt_zero _)⟩) (fun m q hm hq => ?_)
  unfold dkF
  split
  · next c =>
    have g : dkG tk P b m := c.1
    have g0 := hp m hm g
    refine Or.inr ⟨m, by omega, g, rfl, ?_, ?_⟩
    · intro k hk gk
      rcases hq with ⟨e, no⟩ | ⟨l, hl, gl, e, h1, h2⟩
      · exact absurd gk (no k hk)
      · have c2 := c.2
        rw [e] at c2
        have gl0 := hp l (by omega) gl
        have := h2 k hk gk
        simp only [] at c2
        omega
    · intro k hk gk
      by_cases ek : k = m
      · subst ek; exact Int.le_refl _
      · rcases hq with ⟨e, no⟩ | ⟨l, hl, gl, e, h1, h2⟩
        · exact absurd gk (no k (by omega))
        · have c2 := c.2
          rw [e] at c2
          have gl0 := hp l (by omega) gl
          have := h2 k (by omega) gk
          simp only [] at c2
          omega
  · next c =>
    rcases hq with ⟨e, no⟩ | ⟨l, hl, gl, e, h1, h2⟩
    · refine Or.inl ⟨e, fun l hl gl => ?_⟩
      by_cases el : l = m
      · subst el
        exact c ⟨gl, Or.inl (by rw [e])⟩
      · exact no l (by omega) gl
    · refine Or.inr ⟨l, by omega, gl, e, h1, fun k hk gk => ?_⟩
      by_cases ek : k = m
      · subst ek
        have c2 : ¬ (P (b - tk k).toNat).1 + hr k < q.1 := fun z => c ⟨gk, Or.inr z⟩
        rw [e] at c2
        simp only [] at c2
        omega
      · exact h2 k (by omega) gk
def toF (v : Int) : Int := if v = -1000000005 then 1000000 else v
/-- the reference's rows of the dark -/
def rTk (I : fH) (l : Nat) : Int := I 741 (4560 + l)
def rHm (I : fH) (i l : Nat) : Int := I 741 (4570 + 4 * i + l)
/-- the table's last row, its loads, its leasts -/
def dTb (I : fH) (n bank : Int) : Prop := (∀ b : Int, 0 ≤ b → b ≤ bank → I 756 (301 * n + b).toNat = 0) ∧ (∀ i b : Int, 0 ≤ i → i < n → 0 ≤ b → b ≤ bank → sLd I i b) ∧ ∀ i b l : Int, 0 ≤ i → i < n → 0 ≤ b → b ≤ bank → 0 ≤ l → l < 4 → I 756 (301 * i + b).toNat ≤ hbv I i b l
theorem hbv_at {I : fH} {P : Nat → Int × Int} {i b : Int} {l : Nat} {k : Nat} (hi : 0 ≤ i) (hl : l < 4) (tk0 : 0 ≤ rTk I l) (hm0 : 0 ≤ rHm I i.toNat l ∧ rHm I i.toNat l ≤ 999) (hk : k ≤ 23) (hP : ∀ t : Int, 0 ≤ t → t ≤ b → I 756 (301 * (i + 1) + t).toNat = toF (P t.toNat).1 ∧ dkB k (P t.toNat)) : (dkG (rTk I) P b l → hbv I i b (l : Int) = (P (b - rTk I l).toNat).1 + rHm I i.toNat l ∧ 0 ≤ (P (b - rTk I l).toNat).1 + rHm I i.toNat l ∧ (P (b - rTk I l).toNat).1 + rHm I i.toNat l < 1000000) ∧ (¬ dkG (rTk I) P b l → hbv I i b (l : Int) = 1000000) := by
  have e1 : I 741 (4560 + (l : Int)).toNat = rTk I l := fld_ix (by omega)
  have e2 : I 741 (4570 + 4 * i + (l : Int)).toNat = rHm I i.toNat l := fld_ix (by omega)
  have ev : hbv I i b (l : Int) = if b - rTk I l < 0 then 1000000 else (if 1000000 < rHm I i.toNat l + I 756 (301 * (i + 1) + (b - rTk I l)).toNat then 1000000 else rHm I i.toNat l + I 756 (301 * (i + 1) + (b - rTk I l)).toNat) := by unfold hbv; rw [e1, e2]
  constructor
  · intro g
    obtain ⟨g1, g2⟩ := g
    obtain ⟨q1, q2⟩ := hP (b - rTk I l) g1 (by omega)
    have q3 := q2.1
    unfold toF at q1
    rw [if_neg g2] at q1
    rw [ev, if_neg (by omega), q1, if_neg (by omega)]
    omega
  · intro g
    rw [ev]
    by_cases c : b - rTk I l < 0
    · rw [if_pos c]
    · obtain ⟨q1, q2⟩ := hP (b - rTk I l) (by omega) (by omega)
      have q3 : (P (b - rTk I l).toNat).1 = -1000000005 := Decidable.byContradiction (fun z => g ⟨by omega, z⟩)
      unfold toF at q1
      rw [if_pos q3] at q1
      rw [if_neg c, q1]
      split <;> omega
theorem tbl_eq {I : fH} {n bank : Int} (hn : 1 ≤ n ∧ n ≤ 24) (T : dTb I n bank) (tk0 : ∀ l, l < 4 → 0 ≤ rTk I l) (hm0 : ∀ i l, i < 24 → l < 4 → 0 ≤ rHm I i l ∧ rHm I i l ≤ 999) : ∀ k : Nat, (k : Int) ≤ n → ∀ b : Int, 0 ≤ b → b ≤ bank → I 756 (301 * (n - k) + b).toNat = toF (dkP (rTk I) (rHm I) n.toNat k b.toNat).1
  | 0, _, b, h1, h2 => by
    have q := T.1 b h1 h2
    rw [show n - ((0 : Nat) : Int) = n by omega, q]
    rfl
  | k + 1, hk, b, h1, h2 => by
    have ih := tbl_eq hn T tk0 hm0 k (by omega)
    have bd := dk_bd (tk := rTk I) (hm := rHm I) (n := n.toNat) (by omega) hm0 k
    have ei : n.toNat - 1 - k = (n - ((k + 1 : Nat) : Int)).toNat := by omega
    have hv : ∀ l, l < 4 → _ := fun l hl => hbv_at (I := I) (P := dkP (rTk I) (rHm I) n.toNat k) (i := n - ((k + 1 : Nat) : Int)) (b := b) (l := l) (k := k) (by omega) hl (tk0 l hl) (hm0 _ l (by omega) hl) (by omega) (fun t t1 t2 => ⟨by rw [show n - ((k + 1 : Nat) : Int) + 1 = n - (k : Int) by omega]; exact ih t t1 (by omega), bd t.toNat⟩)
    have dg := dk_dig (tk := rTk I) (hr := rHm I (n.toNat - 1 - k)) (P := dkP (rTk I) (rHm I) n.toNat k) (b := b) (fun l hl g => by rw [ei]; exact ((hv l hl).1 g).2.1)
    have eb : ((b.toNat : Nat) : Int) = b := Int.toNat_of_nonneg h1
    have eq : dkP (rTk I) (rHm I) n.toNat (k + 1) b.toNat = nf (dkF (rTk I) (rHm I (n.toNat - 1 - k)) (dkP (rTk I) (rHm I) n.toNat k) b) (-1000000005, 0) 4 := by
      show nf (dkF (rTk I) (rHm I (n.toNat - 1 - k)) (dkP (rTk I) (rHm I) n.toNat k) ((b.toNat : Nat) : Int)) (-1000000005, 0) 4 = _
      rw [eb]
    rw [eq]
    obtain ⟨l1, hl1, he1⟩ := T.2.1 (n - ((k + 1 : Nat) : Int)) b (by omega) (by omega) h1 h2
    have hv1 := hv l1.toNat (by omega)
    rw [Int.toNat_of_nonneg hl1.1] at hv1
    rcases dg with ⟨e, no⟩ | ⟨l, hl, gl, e, f1, f2⟩
    · rw [e]
      show _ = (1000000 : Int)
      rw [← he1]
      exact hv1.2 (no _ (by omega))
    · rw [e]
      have m1 := T.2.2 (n - ((k + 1 : Nat) : Int)) b (l : Int) (by omega) (by omega) h1 h2 (by omega) (by omega)
      obtain ⟨v1, v2, v3⟩ := (hv l hl).1 gl
      rw [v1] at m1
      unfold toF
      rw [ei] at f2 ⊢
      simp only []
      rw [if_neg (by omega)]
      by_cases g1 : dkG (rTk I) (dkP (rTk I) (rHm I) n.toNat k) b l1.toNat
      · have w := (hv1.1 g1).1
        have f3 := f2 l1.toNat (by omega) g1
        omega
      · have w := hv1.2 g1
        omega
theorem dk_k0 {tk : Nat → Int} {hm : Nat → Nat → Int} {n k b : Nat} {u v : Int} (hk : k = 0) (h1 : u = 0) (h2 : v = 0) : (u, v) = dkP tk hm n k b := by
  subst hk h1 h2
  rfl
theorem dk_cast {tk : Nat → Int} {hm : Nat → Nat → Int} {n k k' b : Nat} {q : Int × Int} (h : q = dkP tk hm n k b) (e : k' = k) : q = dkP tk hm n k' b := by rw [e]; exact h
theorem ch_ne {I I' : fH} {r : Nat} {v w : Int} (e : I' = fupd (fupd I 733 r v) 734 r w) {b : Nat} (hb : b ≠ r) : (I' 733 b, I' 734 b) = (I 733 b, I 734 b) := by
  rw [e, fup_ne (Or.inl (by decide)), fup_ne (Or.inr hb), fup_ne (Or.inr hb), fup_ne (Or.inl (by decide))]
theorem ch_eq {I I' : fH} {r : Nat} {q : Int × Int} (e : I' = fupd (fupd I 733 r q.1) 734 r q.2) : (I' 733 r, I' 734 r) = q := by
  rw [e, fup_ne (Or.inl (by decide)), fup_eq, fup_eq]
theorem ch_pre {u v : Int} {q : Int × Int} {k : Nat} (h : (u, v) = q) (hq : dkB k q) (hk : k ≤ 23) : (u = -1000000005 ∨ (0 ≤ u ∧ u ≤ 30000)) ∧ 0 ≤ v ∧ v < 70368744177664 := by
  subst h
  obtain ⟨q1, q2, q3⟩ := hq
  have p : (4 : Int) ^ k ≤ 4 ^ 23 := by
    have z : (4 : Nat) ^ k ≤ 4 ^ 23 := Nat.pow_le_pow_right (by decide) hk
    exact_mod_cast z
  have e : (4 : Int) ^ 23 = 70368744177664 := by decide
  simp only [] at q1 q2 q3
  omega
theorem dk_code {q : Int × Int} {k : Nat} (hq : dkB k q) (hk : k ≤ 24) : 0 ≤ q.2 ∧ q.2 < 281474976710656 := by
  obtain ⟨q1, q2, q3⟩ := hq
  have p : (4 : Int) ^ k ≤ 4 ^ 24 := by
    have z : (4 : Nat) ^ k ≤ 4 ^ 24 := Nat.pow_le_pow_right (by decide) hk
    exact_mod_cast z
  have e : (4 : Int) ^ 24 = 281474976710656 := by decide
  omega
theorem dk_next {tk tk' hr : Nat → Int} {P : Nat → Int × Int} {hm : Nat → Nat → Int} {n k k' : Nat} {b : Int} (htk : ∀ l, l < 4 → tk l = tk' l) (hhr : ∀ l, l < 4 → hr l = hm (n - 1 - k) l) (hP : ∀ t : Int, 0 ≤ t → t ≤ b → P t.toNat = dkP tk' hm n k t.toNat) (t0 : ∀ l, l < 4 → 0 ≤ tk' l) (hb : 0 ≤ b) (hk : k' = k + 1) : nf (dkF tk hr P b) (-1000000005, 0) 4 = dkP tk' hm n k' b.toNat := by
  subst hk
  show _ = nf (dkF tk' (hm (n - 1 - k)) (dkP tk' hm n k) ((b.toNat : Nat) : Int)) (-1000000005, 0) 4
  rw [Int.toNat_of_nonneg hb]
  refine nf_congr (fun l q hl => ?_)
  unfold dkF
  rw [htk l hl, hhr l hl]
  by_cases c : 0 ≤ b - tk' l
  · rw [hP (b - tk' l) c (by have := t0 l hl; omega)]
  · rw [if_neg (fun z => c z.1.1), if_neg (fun z => c z.1.1)]
theorem dkP_congr {tk tk' : Nat → Int} {hm hm' : Nat → Nat → Int} {n : Nat} (hn : 1 ≤ n ∧ n ≤ 24) (h1 : ∀ l, l < 4 → tk l = tk' l) (h2 : ∀ i l, i < 24 → l < 4 → hm i l = hm' i l) : ∀ k b : Nat, dkP tk hm n k b = dkP tk' hm' n k b
  | 0, _ => rfl
  | k + 1, b => by
    show nf (dkF tk (hm (n - 1 - k)) (dkP tk hm n k) (b : Int)) (-1000000005, 0) 4 = nf (dkF tk' (hm' (n - 1 - k)) (dkP tk' hm' n k) (b : Int)) (-1000000005, 0) 4
    have e : dkP tk hm n k = dkP tk' hm' n k := funext (dkP_congr hn h1 h2 k)
    rw [e]
    refine nf_congr (fun l q hl => ?_)
    unfold dkF
    rw [h1 l hl, h2 _ l (by omega) hl]
theorem dark_val {I : fH} {n bank z : Int} (hn : 1 ≤ n ∧ n ≤ 24) (hb : 0 ≤ bank) (T : dTb I n bank) (tk0 : ∀ l, l < 4 → 0 ≤ rTk I l) (hm0 : ∀ i l, i < 24 → l < 4 → 0 ≤ rHm I i l ∧ rHm I i l ≤ 999) (hz : z = if I 756 bank.toNat = 1000000 then (-1000000005) else I 756 bank.toNat) : z = (dkP (rTk I) (rHm I) n.toNat n.toNat bank.toNat).1 := by
  have q := tbl_eq hn T tk0 hm0 n.toNat (by omega) bank hb (Int.le_refl _)
  rw [show (301 * (n - ((n.toNat : Nat) : Int)) + bank).toNat = bank.toNat by omega] at q
  have bd := (dk_bd (tk := rTk I) (hm := rHm I) (n := n.toNat) (by omega) hm0 n.toNat bank.toNat).1
  rw [hz, q]
  unfold toF
  by_cases c : (dkP (rTk I) (rHm I) n.toNat n.toNat bank.toNat).1 = -1000000005
  · rw [if_pos c, if_pos rfl, c]
  · rw [if_neg c, if_neg (by omega)]
/-- the first load that gives what stands there is the code's last digit -/
theorem walk_step {I : fH} {n bank i b l : Int} (hn : 1 ≤ n ∧ n ≤ 24) (T : dTb I n bank) (tk0 : ∀ l, l < 4 → 0 ≤ rTk I l) (hm0 : ∀ i l, i < 24 → l < 4 → 0 ≤ rHm I i l ∧ rHm I i l ≤ 999) (hi : 0 ≤ i ∧ i < n) (hb : 0 ≤ b ∧ b ≤ bank) (hne : I 756 (301 * i + b).toNat ≠ 1000000) (hl : 0 ≤ l ∧ l < 4) (h1 : hbv I i b l = I 756 (301 * i + b).toNat) (h2 : ∀ k : Int, 0 ≤ k → k < l → hbv I i b k ≠ I 756 (301 * i + b).toNat) : (dkP (rTk I) (rHm I) n.toNat (n - i).toNat b.toNat).2 = 4 * (dkP (rTk I) (rHm I) n.toNat (n - i - 1).toNat (b - I 741 (4560 + l).toNat).toNat).2 + l := by
  obtain ⟨k, hk⟩ : ∃ k : Nat, (n - i - 1).toNat = k := ⟨_, rfl⟩
  have ek : (n - i).toNat = k + 1 := by omega
  have ei : i = n - ((k + 1 : Nat) : Int) := by omega
  rw [hk, ek]
  have ih := tbl_eq hn T tk0 hm0 k (by omega)
  have bd := dk_bd (tk := rTk I) (hm := rHm I) (n := n.toNat) (by omega) hm0 k
  have en : n.toNat - 1 - k = i.toNat := by omega
  have hv : ∀ l, l < 4 → _ := fun l hl => hbv_at (I := I) (P := dkP (rTk I) (rHm I) n.toNat k) (i := i) (b := b) (l := l) (k := k) hi.1 hl (tk0 l hl) (hm0 _ l (by omega) hl) (by omega) (fun t t1 t2 => ⟨by rw [show i + 1 = n - (k : Int) by omega]; exact ih t t1 (by omega), bd t.toNat⟩)
  have dg := dk_dig (tk := rTk I) (hr := rHm I i.toNat) (P := dkP (rTk I) (rHm I) n.toNat k) (b := b) (fun l hl g => ((hv l hl).1 g).2.1)
  have eq : dkP (rTk I) (rHm I) n.toNat (k + 1) b.toNat = nf (dkF (rTk I) (rHm I i.toNat) (dkP (rTk I) (rHm I) n.toNat k) b) (-1000000005, 0) 4 := by
    show nf (dkF (rTk I) (rHm I (n.toNat - 1 - k)) (dkP (rTk I) (rHm I) n.toNat k) ((b.toNat : Nat) : Int)) (-1000000005, 0) 4 = _
    rw [Int.toNat_of_nonneg hb.1, en]
  have el : ((l.toNat : Nat) : Int) = l := Int.toNat_of_nonneg hl.1
  have hvl := hv l.toNat (by omega)
  rw [el] at hvl
  have gl : dkG (rTk I) (dkP (rTk I) (rHm I) n.toNat k) b l.toNat := Classical.byContradiction (fun g => hne (h1.symm.trans (hvl.2 g)))
  obtain ⟨w1, w2, w3⟩ := hvl.1 gl
  rw [eq]
  rcases dg with ⟨e, no⟩ | ⟨l0, hl0, g0, e, f1, f2⟩
  · exact absurd gl (no _ (by omega))
  · obtain ⟨v1, v2, v3⟩ := (hv l0 hl0).1 g0
    have m1 := T.2.2 i b (l0 : Int) hi.1 hi.2 hb.1 hb.2 (by omega) (by omega)
    have f3 := f2 l.toNat (by omega) gl
    have el0 : l0 = l.toNat := by
      by_cases c : l0 < l.toNat
      · exact absurd (by omega : hbv I i b (l0 : Int) = I 756 (301 * i + b).toNat) (h2 (l0 : Int) (by omega) (by omega))
      · by_cases c2 : l.toNat < l0
        · have f4 := f1 l.toNat c2 gl
          omega
        · omega
    rw [e, el0]
    show 4 * (dkP (rTk I) (rHm I) n.toNat k (b - rTk I l.toNat).toNat).2 + ((l.toNat : Nat) : Int) = 4 * (dkP (rTk I) (rHm I) n.toNat k (b - I 741 (4560 + l).toNat).toNat).2 + l
    rw [el, show rTk I l.toNat = I 741 (4560 + l).toNat from fld_ix (by omega)]
theorem code_0 {c : Int} : c / 4 ^ (0 : Nat) = c := by rw [Int.pow_zero, Int.ediv_one]
theorem code_go {c d e l : Int} {i : Nat} (h : c / 4 ^ i = d) (hd : d = 4 * e + l) (hl : 0 ≤ l ∧ l < 4) : c / 4 ^ (i + 1) = e := by
  rw [Int.pow_succ, ← Int.ediv_ediv_of_nonneg (Int.le_of_lt (Int.pow_pos (by decide))), h, hd]
  omega
theorem load_val {I : fH} {n bank z1 z2 : Int} {i : Nat} {q : Int × Int} (hn : 1 ≤ n ∧ n ≤ 24) (hb : 0 ≤ bank) (T : dTb I n bank) (tk0 : ∀ l, l < 4 → 0 ≤ rTk I l) (hm0 : ∀ i l, i < 24 → l < 4 → 0 ≤ rHm I i l ∧ rHm I i l ≤ 999) (eq : q = dkP (rTk I) (rHm I) n.toNat n.toNat bank.toNat) (u : (q.1 = -1000000005 ∧ z1 = -1000000005) ∨ (q.1 ≠ -1000000005 ∧ z1 = q.2 / 4 ^ i % 4)) (v : (I 756 bank.toNat = 1000000 ∧ z2 = -1000000005) ∨ (I 756 bank.toNat ≠ 1000000 ∧ z2 = (dkP (rTk I) (rHm I) n.toNat n.toNat bank.toNat).2 / 4 ^ i % 4)) : z1 = z2 := by
  have t := tbl_eq hn T tk0 hm0 n.toNat (by omega) bank hb (Int.le_refl _)
  rw [show (301 * (n - ((n.toNat : Nat) : Int)) + bank).toNat = bank.toNat by omega, ← eq] at t
  have bd := (dk_bd (tk := rTk I) (hm := rHm I) (n := n.toNat) (by omega) hm0 n.toNat bank.toNat).1
  rw [← eq] at bd v
  unfold toF at t
  rcases u with ⟨u1, u2⟩ | ⟨u1, u2⟩
  · rw [if_pos u1] at t
    rcases v with ⟨v1, v2⟩ | ⟨v1, v2⟩
    · rw [u2, v2]
    · exact absurd t v1
  · rw [if_neg u1] at t
    rcases v with ⟨v1, v2⟩ | ⟨v1, v2⟩
    · exfalso; omega
    · rw [u2, v2]

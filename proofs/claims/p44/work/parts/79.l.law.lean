set_option linter.all false
/-! the charter: what its texts are worth -/
/-- two numbers joined by a sign -/
def jn (s x y : Int) : Int :=
  if s = 124 then (if x ≠ 0 ∨ y ≠ 0 then 1 else 0)
  else if s = 38 then (if x ≠ 0 ∧ y ≠ 0 then 1 else 0)
  else if s = 60 then (if x < y then 1 else 0)
  else if s = 61 then (if x = y then 1 else 0)
  else if s = 62 then (if y < x then 1 else 0)
  else if s = 43 then wr (x + y)
  else if s = 45 then wr (x - y)
  else if s = 42 then wr (x * y)
  else if y = 0 then 0 else wr (Int.tdiv x y)
/-- one code on the pile -/
def ms (nm : Nat → Int) (v : Int) (A : Rw × Int) : Rw × Int :=
  if v < 20000 then (rud A.1 A.2 (if v < 10000 then v else nm (v - 10000).toNat), A.2 + 1)
  else if v = 20033 then (rud A.1 (A.2 - 1) (if gt A.1 (A.2 - 1) = 0 then 1 else 0), A.2)
  else (rud A.1 (A.2 - 2) (jn (v - 20000) (gt A.1 (A.2 - 2)) (gt A.1 (A.2 - 1))), A.2 - 1)
def mv (nm : Nat → Int) (c : Nat → Int) : Nat → Rw × Int
  | 0 => (fun _ => 0, 0)
  | n + 1 => ms nm (c n) (mv nm c n)
/-- how high the pile is -/
def ht (c : Nat → Int) : Nat → Int
  | 0 => 0
  | n + 1 => if c n < 20000 then ht c n + 1 else if c n = 20033 then ht c n else ht c n - 1
/-- each code finds what it needs; one number is left -/
def wfT (c : Nat → Int) (n : Nat) : Prop := (∀ i, i < n → (20000 ≤ c i → 1 ≤ ht c i) ∧ (20000 ≤ c i → c i ≠ 20033 → 2 ≤ ht c i)) ∧ ht c n = 1
theorem mv_ht {nm c : Nat → Int} : ∀ {n : Nat}, (mv nm c n).2 = ht c n
  | 0 => rfl
  | n + 1 => by
    show (ms nm (c n) (mv nm c n)).2 = (if c n < 20000 then ht c n + 1 else if c n = 20033 then ht c n else ht c n - 1)
    unfold ms
    rw [← mv_ht (nm := nm) (c := c) (n := n)]
    split
    · rfl
    · split <;> rfl
theorem ht_le {c : Nat → Int} : ∀ {n : Nat}, ht c n ≤ (n : Int)
  | 0 => Int.le_refl _
  | n + 1 => by
    have h := ht_le (c := c) (n := n)
    show (if c n < 20000 then ht c n + 1 else if c n = 20033 then ht c n else ht c n - 1) ≤ ((n + 1 : Nat) : Int)
    split
    · omega
    · split <;> omega
theorem ht_ge {c : Nat → Int} {m : Nat} (h : wfT c m) : ∀ {n : Nat}, n ≤ m → 0 ≤ ht c n
  | 0, _ => Int.le_refl _
  | n + 1, l => by
    have h0 := ht_ge h (n := n) (by omega)
    obtain ⟨h1, h2⟩ := h.1 n (by omega)
    show 0 ≤ (if c n < 20000 then ht c n + 1 else if c n = 20033 then ht c n else ht c n - 1)
    by_cases a : c n < 20000
    · rw [if_pos a]
      omega
    · rw [if_neg a]
      by_cases b : c n = 20033
      · rw [if_pos b]
        exact h0
      · rw [if_neg b]
        have h3 := h2 (by omega) b
        omega
/-- names that don't stand there don't matter -/
theorem mv_cg {nm nm' c : Nat → Int} : ∀ {n : Nat}, (∀ i, i < n → 10000 ≤ c i → c i < 20000 → nm (c i - 10000).toNat = nm' (c i - 10000).toNat) → mv nm c n = mv nm' c n
  | 0, _ => rfl
  | n + 1, h => by
    show ms nm (c n) (mv nm c n) = ms nm' (c n) (mv nm' c n)
    rw [mv_cg (fun i l => h i (by omega))]
    unfold ms
    by_cases a : c n < 20000
    · rw [if_pos a, if_pos a]
      by_cases b : c n < 10000
      · rw [if_pos b, if_pos b]
      · rw [if_neg b, if_neg b, h n (by omega) (by omega) a]
    · rw [if_neg a, if_neg a]
theorem mv_code {nm c c' : Nat → Int} : ∀ {n : Nat}, (∀ i, i < n → c i = c' i) → mv nm c n = mv nm c' n
  | 0, _ => rfl
  | n + 1, h => by
    show ms nm (c n) (mv nm c n) = ms nm (c' n) (mv nm c' n)
    rw [mv_code (fun i l => h i (by omega)), h n (by omega)]
/-- the pile lies in a row of numbers -/
def plA (P : Nat → Int) (A : Rw × Int) (h : Int) : Prop := A.2 = h ∧ ∀ j : Nat, (j : Int) < h → P j = A.1 j
section LAW
variable {P Q : Nat → Int} {A : Rw × Int} {nm c : Nat → Int} {h h' i i' k n p q s v x y z w : Int}
theorem pl_0 (hh : h = 0) (hi : i = 0) : plA P (mv nm c i.toNat) h := by
  rw [hi, hh]
  exact ⟨rfl, fun j q => absurd q (by omega)⟩
theorem pl_push (g : plA P (mv nm c i.toNat) h) (h0 : 0 ≤ h) (hi : 0 ≤ i) (hi' : i' = i + 1) (hv : v = c i.toNat) (lv : v < 20000) (hw : w = if v < 10000 then v else nm (v - 10000).toNat) (hQ : ∀ j : Nat, Q j = if j = k.toNat then w else P j) (hk : k = h) (hh : h' = h + 1) : plA Q (mv nm c i'.toNat) h' := by
  rw [show i'.toNat = i.toNat + 1 by omega]
  show plA Q (ms nm (c i.toNat) (mv nm c i.toNat)) h'
  rw [← hv]
  unfold ms
  rw [if_pos lv, ← hw]
  refine ⟨by rw [hh, ← g.1], fun j l => ?_⟩
  show Q j = rud (mv nm c i.toNat).1 (mv nm c i.toNat).2 w j
  rw [hQ, g.1]
  by_cases e : j = k.toNat
  · rw [if_pos e, rud_at (by omega)]
  · rw [if_neg e, rud_no (by omega), g.2 j (by omega)]
theorem pl_not (g : plA P (mv nm c i.toNat) h) (h0 : 1 ≤ h) (hi : 0 ≤ i) (hi' : i' = i + 1) (hv : v = c i.toNat) (lv : v = 20033) (hx : x = P p.toNat) (hp : p = h - 1) (hw : (x = 0 ∧ w = 1) ∨ (x ≠ 0 ∧ w = 0)) (hQ : ∀ j : Nat, Q j = if j = k.toNat then w else P j) (hk : k = h - 1) (hh : h' = h) : plA Q (mv nm c i'.toNat) h' := by
  rw [show i'.toNat = i.toNat + 1 by omega]
  show plA Q (ms nm (c i.toNat) (mv nm c i.toNat)) h'
  rw [← hv]
  unfold ms
  have ex : gt (mv nm c i.toNat).1 ((mv nm c i.toNat).2 - 1) = x := by
    rw [g.1, hx, g.2 _ (by omega), hp]
  rw [if_neg (by omega), if_pos lv, ex, show (if x = 0 then (1 : Int) else 0) = w from hw.elim (fun q => by rw [if_pos q.1, q.2]) (fun q => by rw [if_neg q.1, q.2])]
  refine ⟨by rw [hh]; exact g.1, fun j l => ?_⟩
  show Q j = rud (mv nm c i.toNat).1 ((mv nm c i.toNat).2 - 1) w j
  rw [hQ, g.1]
  by_cases e : j = k.toNat
  · rw [if_pos e, rud_at (by omega)]
  · rw [if_neg e, rud_no (by omega), g.2 j (by omega)]
theorem pl_join (g : plA P (mv nm c i.toNat) h) (h0 : 2 ≤ h) (hi : 0 ≤ i) (hi' : i' = i + 1) (hv : v = c i.toNat) (lv : 20000 ≤ v) (nv : v ≠ 20033) (hx : x = P p.toNat) (hp : p = h - 2) (hy : y = P q.toNat) (hq : q = h - 1) (hw : w = jn s x y) (hs : s = v - 20000) (hQ : ∀ j : Nat, Q j = if j = k.toNat then w else P j) (hk : k = h - 2) (hh : h' = h - 1) : plA Q (mv nm c i'.toNat) h' := by
  rw [show i'.toNat = i.toNat + 1 by omega]
  show plA Q (ms nm (c i.toNat) (mv nm c i.toNat)) h'
  rw [← hv]
  unfold ms
  have ex : gt (mv nm c i.toNat).1 ((mv nm c i.toNat).2 - 2) = x := by
    rw [g.1, hx, g.2 _ (by omega), hp]
  have ey : gt (mv nm c i.toNat).1 ((mv nm c i.toNat).2 - 1) = y := by
    rw [g.1, hy, g.2 _ (by omega), hq]
  rw [if_neg (by omega), if_neg nv, ex, ey, ← hs, ← hw]
  refine ⟨by rw [hh, ← g.1], fun j l => ?_⟩
  show Q j = rud (mv nm c i.toNat).1 ((mv nm c i.toNat).2 - 2) w j
  rw [hQ, g.1]
  by_cases e : j = k.toNat
  · rw [if_pos e, rud_at (by omega)]
  · rw [if_neg e, rud_no (by omega), g.2 j (by omega)]
/-- what a text is worth -/
def wth (nm c : Nat → Int) (n : Int) : Int := (mv nm c n.toNat).1 0
theorem wth_of (g : plA P (mv nm c i.toNat) h) (hw : wfT c n.toNat) (hi : i = n) (hz : z = P 0) : z = wth nm c n := by
  subst hi
  have e : h = 1 := by rw [← g.1, mv_ht]; exact hw.2
  rw [hz]
  exact g.2 0 (by omega)
theorem jn_124 (hs : s = 124) (h : ((x ≠ 0 ∨ y ≠ 0) ∧ z = 1) ∨ (¬ (x ≠ 0 ∨ y ≠ 0) ∧ z = 0)) : z = jn s x y := by
  subst hs
  unfold jn
  rw [if_pos rfl]
  rcases h with ⟨a, b⟩ | ⟨a, b⟩
  · rw [if_pos a, b]
  · rw [if_neg a, b]
theorem jn_38 (hs : s = 38) (h : ((x ≠ 0 ∧ y ≠ 0) ∧ z = 1) ∨ (¬ (x ≠ 0 ∧ y ≠ 0) ∧ z = 0)) : z = jn s x y := by
  subst hs
  unfold jn
  rw [if_neg (by decide), if_pos rfl]
  rcases h with ⟨a, b⟩ | ⟨a, b⟩
  · rw [if_pos a, b]
  · rw [if_neg a, b]
theorem jn_60 (hs : s = 60) (h : (x < y ∧ z = 1) ∨ (¬ (x < y) ∧ z = 0)) : z = jn s x y := by
  subst hs
  unfold jn
  rw [if_neg (by decide), if_neg (by decide), if_pos rfl]
  rcases h with ⟨a, b⟩ | ⟨a, b⟩
  · rw [if_pos a, b]
  · rw [if_neg a, b]
theorem jn_61 (hs : s = 61) (h : (x = y ∧ z = 1) ∨ (¬ (x = y) ∧ z = 0)) : z = jn s x y := by
  subst hs
  unfold jn
  rw [if_neg (by decide), if_neg (by decide), if_neg (by decide), if_pos rfl]
  rcases h with ⟨a, b⟩ | ⟨a, b⟩
  · rw [if_pos a, b]
  · rw [if_neg a, b]
theorem jn_62 (hs : s = 62) (h : (y < x ∧ z = 1) ∨ (¬ (y < x) ∧ z = 0)) : z = jn s x y := by
  subst hs
  unfold jn
  rw [if_neg (by decide), if_neg (by decide), if_neg (by decide), if_neg (by decide), if_pos rfl]
  rcases h with ⟨a, b⟩ | ⟨a, b⟩
  · rw [if_pos a, b]
  · rw [if_neg a, b]
theorem jn_43 (hs : s = 43) (h : z = wr (x + y)) : z = jn s x y := by
  subst hs
  unfold jn
  rw [if_neg (by decide), if_neg (by decide), if_neg (by decide), if_neg (by decide), if_neg (by decide), if_pos rfl]
  exact h
theorem jn_45 (hs : s = 45) (h : z = wr (x - y)) : z = jn s x y := by
  subst hs
  unfold jn
  rw [if_neg (by decide), if_neg (by decide), if_neg (by decide), if_neg (by decide), if_neg (by decide), if_neg (by decide), if_pos rfl]
  exact h
theorem jn_42 (hs : s = 42) (h : z = wr (x * y)) : z = jn s x y := by
  subst hs
  unfold jn
  rw [if_neg (by decide), if_neg (by decide), if_neg (by decide), if_neg (by decide), if_neg (by decide), if_neg (by decide), if_neg (by decide), if_pos rfl]
  exact h
theorem jn_47 (hs : s ≠ 124 ∧ s ≠ 38 ∧ s ≠ 60 ∧ s ≠ 61 ∧ s ≠ 62 ∧ s ≠ 43 ∧ s ≠ 45 ∧ s ≠ 42) (h : (y = 0 ∧ z = 0) ∨ (y ≠ 0 ∧ z = wr (Int.tdiv x y))) : z = jn s x y := by
  unfold jn
  rw [if_neg (show ¬ s = 124 by omega), if_neg (show ¬ s = 38 by omega), if_neg (show ¬ s = 60 by omega), if_neg (show ¬ s = 61 by omega), if_neg (show ¬ s = 62 by omega), if_neg (show ¬ s = 43 by omega), if_neg (show ¬ s = 45 by omega), if_neg (show ¬ s = 42 by omega)]
  rcases h with ⟨a, b⟩ | ⟨a, b⟩
  · rw [if_pos a, b]
  · rw [if_neg a, b]
theorem wr_mul {z a b : Int} (hz : fin32 z) (e : iI z = xio 2 (iI a) (iI b)) : z = wr (a * b) := by
  refine wr_of hz (e.trans ?_)
  show iI a * iI b = iI (a * b)
  exact (Int32.ofInt_mul a b).symm
theorem wr_div {x y z : Int} (hx : fin32 x) (hy : fin32 y) (hz : fin32 z) (e : iI z = xdv 0 (iI x) (iI y)) : z = wr (Int.tdiv x y) := by
  have e1 : (iI x / iI y).toInt = ((iI x).toInt.tdiv (iI y).toInt).bmod (2 ^ 32) := Int32.toInt_div (iI x) (iI y)
  have e3 : iI z = iI x / iI y := e
  have e2 : z = (iI x / iI y).toInt := by rw [← e3, iI_int hz]
  rw [e2, e1, iI_int hx, iI_int hy]
  exact Int32.toInt_ofInt.symm
theorem wr_neg {x y z : Int} (hy : y = -1) (hz : fin32 z) (e : iI z = -iI x) : z = wr (Int.tdiv x y) := by
  rw [hy]
  refine wr_of hz (e.trans ?_)
  rw [show Int.tdiv x (-1) = -x by rw [Int.tdiv_neg, Int.tdiv_one]]
  exact iI_neg x
end LAW
/-- the charter: how many texts, which is voted on (-1: none), how many said yes, no, whether what is to become of it stands amiss; who has said, what the texts are, their codes -/
abbrev Lw : Type := (Int × Int × Int × Int × Int) × (Nat → Int) × (Nat → Nat → Int) × (Nat → Nat → Int)
abbrev Lw.n (L : Lw) : Int := L.1.1
abbrev Lw.vote (L : Lw) : Int := L.1.2.1
abbrev Lw.yes (L : Lw) : Int := L.1.2.2.1
abbrev Lw.no (L : Lw) : Int := L.1.2.2.2.1
abbrev Lw.bad (L : Lw) : Int := L.1.2.2.2.2
abbrev Lw.said (L : Lw) : Nat → Int := L.2.1
abbrev Lw.fld (L : Lw) : Nat → Nat → Int := L.2.2.1
abbrev Lw.code (L : Lw) : Nat → Nat → Int := L.2.2.2
def cnt1 (f : Nat → Int) (v : Int) : Int := sm (fun j => if f j = v then 1 else 0) 24
def cYes (d : Nat) (I : fH) (v : Int) : Int := if I (187 + d) 7 = -1000000005 then 0 else cnt1 (I (206 + d)) v
def cBd (d : Nat) (I : fH) : Int := if I (187 + d) 7 = -1000000005 then 0 else if (I (187 + d) 8 = 0 ∧ I (189 + d) (I (187 + d) 7).toNat = -1000000005) ∨ (I (187 + d) 8 = 1 ∧ I (189 + d) (I (187 + d) 7).toNat ≠ -1000000005) then 0 else 1
def cSd (d : Nat) (I : fH) (p : Nat) : Int := if I (187 + d) 7 = -1000000005 ∨ 24 ≤ p ∨ I (206 + d) p = -1000000005 then 0 else 1
def cFv (d : Nat) (I : fH) (t : Nat) : Nat → Int
  | 0 => I (188 + d) t
  | 1 => nv (I (189 + d) t)
  | 2 => nv (I (190 + d) t)
  | 3 => I (191 + d) t
  | 4 => I (192 + d) t
  | _ + 5 => 0
def cFd (d : Nat) (I : fH) (t k : Nat) : Int := if (t : Int) < I (187 + d) 6 ∧ t < 12 then cFv d I t k else 0
def cCd (d : Nat) (I : fH) (t i : Nat) : Int := if (((t : Int) < I (187 + d) 6 ∧ t < 12) ∧ (i : Int) < I (192 + d) t) ∧ i < 96 then I (194 + t + d) i else 0
/-- the class's (0: now, 256: kept) -/
def cLw (d : Nat) (I : fH) : Lw := ((I (187 + d) 6, nv (I (187 + d) 7), cYes d I 1, cYes d I 0, cBd d I), cSd d I, cFd d I, cCd d I)
/-- a step of the reference as the class's code -/
def enc (k v : Int) : Int := if k = 0 then v else if k = 1 then 10000 + (v - 97) else 20000 + v
def mFd (s : Nat) (I : fH) (t k : Nat) : Int := if ((t : Int) < I s 9 ∧ t < 12) ∧ k ≤ 4 then I s (1210 + 200 * t + k) else 0
def mCd (s : Nat) (I : fH) (t i : Nat) : Int := if (((t : Int) < I s 9 ∧ t < 12) ∧ (i : Int) < I s (1214 + 200 * t)) ∧ i < 96 then enc (I s (1215 + 200 * t + 2 * i)) (I s (1215 + 200 * t + 2 * i + 1)) else 0
/-- the reference's (741: now, 742: kept) -/
def mLw (s : Nat) (I : fH) : Lw := ((I s 9, I s 14, if I s 14 < 0 then 0 else I s 15, if I s 14 < 0 then 0 else I s 16, 0), fun p => if I s 14 < 0 ∨ 24 ≤ p then 0 else I s (874 + 6 * p), mFd s I, mCd s I)
theorem cLw_cg {d : Nat} {I K : fH} (h6 : K (187 + d) 6 = I (187 + d) 6) (h7 : K (187 + d) 7 = I (187 + d) 7) (h8 : K (187 + d) 8 = I (187 + d) 8) (hp : ∀ k j, k < 5 → K (188 + k + d) j = I (188 + k + d) j) (hs : ∀ j, K (206 + d) j = I (206 + d) j) (hr : ∀ t j, t < 12 → j < 96 → K (194 + t + d) j = I (194 + t + d) j) : cLw d K = cLw d I := by
  have e6 : K (206 + d) = I (206 + d) := funext hs
  have p0 : ∀ j, K (188 + d) j = I (188 + d) j := fun j => hp 0 j (by omega)
  have p1 : ∀ j, K (189 + d) j = I (189 + d) j := fun j => hp 1 j (by omega)
  have p2 : ∀ j, K (190 + d) j = I (190 + d) j := fun j => hp 2 j (by omega)
  have p3 : ∀ j, K (191 + d) j = I (191 + d) j := fun j => hp 3 j (by omega)
  have p4 : ∀ j, K (192 + d) j = I (192 + d) j := fun j => hp 4 j (by omega)
  have a1 : ∀ v, cYes d K v = cYes d I v := fun v => by unfold cYes; rw [h7, e6]
  have a2 : cBd d K = cBd d I := by unfold cBd; rw [h7, h8, p1]
  have a3 : cSd d K = cSd d I := funext (fun p => by unfold cSd; rw [h7, e6])
  have a4 : cFd d K = cFd d I := funext (fun t => funext (fun k => by
    have e : cFv d K t k = cFv d I t k := match k with
      | 0 => p0 t
      | 1 => congrArg nv (p1 t)
      | 2 => congrArg nv (p2 t)
      | 3 => p3 t
      | 4 => p4 t
      | _ + 5 => rfl
    unfold cFd
    rw [h6, e]))
  have a5 : cCd d K = cCd d I := funext (fun t => funext (fun i => by
    unfold cCd
    rw [h6, p4]
    by_cases c : (((t : Int) < I (187 + d) 6 ∧ t < 12) ∧ (i : Int) < I (192 + d) t) ∧ i < 96
    · rw [if_pos c, if_pos c, hr t i (by omega) (by omega)]
    · rw [if_neg c, if_neg c]))
  unfold cLw
  rw [h6, h7, a1, a1, a2, a3, a4, a5]
theorem mLw_cg {s : Nat} {I K : fH} (h : ∀ j, K s j = I s j) : mLw s K = mLw s I := by
  have e : K s = I s := funext h
  unfold mLw mFd mCd
  rw [e]
/-- in force at an hour -/
abbrev inF (L : Lw) (h : Int) (t : Nat) : Prop := 0 ≤ L.fld t 1 ∧ L.fld t 1 ≤ h ∧ (L.fld t 2 < 0 ∨ h < L.fld t 2)
/-- the text of a key that counts, or -1 -/
def cnS (L : Lw) (k h : Int) (t : Nat) (f : Int) : Int := if L.fld t 0 = k ∧ inF L h t ∧ (f < 0 ∨ L.fld f.toNat 1 ≤ L.fld t 1) then (t : Int) else f
def cnL (L : Lw) (k h : Int) : Nat → Int
  | 0 => -1
  | n + 1 => cnS L k h n (cnL L k h n)
def cnT (L : Lw) (k h : Int) : Int := cnL L k h L.n.toNat
/-- which names a key knows: a c s, n, k m g l f, p, o u, y e; h all -/
def nmK (k : Int) (i : Nat) : Bool := i == 7 || ((i == 0 || i == 2 || i == 18) && (k == 0 || k == 1 || k == 4)) || (i == 13 && (k == 1 || k == 5)) || ((i == 10 || i == 12 || i == 6 || i == 11 || i == 5) && k == 2) || (i == 15 && (k == 2 || k == 3)) || ((i == 14 || i == 20) && k == 3) || ((i == 24 || i == 4) && k == 5)
/-- the signs there are -/
def sgK (v : Int) : Bool := v == 33 || v == 124 || v == 38 || v == 60 || v == 61 || v == 62 || v == 43 || v == 45 || v == 42 || v == 47
theorem sgK_of {v : Int} (h : sgK v = true) : v = 33 ∨ v = 124 ∨ v = 38 ∨ v = 60 ∨ v = 61 ∨ v = 62 ∨ v = 43 ∨ v = 45 ∨ v = 42 ∨ v = 47 := by
  unfold sgK at h
  simp only [Bool.or_eq_true, beq_iff_eq] at h
  omega
theorem nmK_lt {k : Int} {i : Nat} (h : nmK k i = true) : i < 26 := by
  unfold nmK at h
  simp only [Bool.or_eq_true, Bool.and_eq_true, beq_iff_eq] at h
  omega
/-- the texts are well formed, know their names -/
def okL (L : Lw) : Prop := ∀ t : Nat, (t : Int) < L.n → ((0 ≤ L.fld t 4 ∧ L.fld t 4 ≤ 96) ∧ -1 ≤ L.fld t 1 ∧ -1 ≤ L.fld t 2) ∧ wfT (L.code t) (L.fld t 4).toNat ∧ ∀ i : Nat, (i : Int) < L.fld t 4 → 0 ≤ L.code t i ∧ (10000 ≤ L.code t i → L.code t i < 20000 → nmK (L.fld t 0) (L.code t i - 10000).toNat = true) ∧ (20000 ≤ L.code t i → sgK (L.code t i - 20000) = true)
/-- what the text t is worth, by names -/
def wthT (L : Lw) (nm : Nat → Int) (t : Int) : Int := wth nm (L.code t.toNat) (L.fld t.toNat 4)
theorem wthT_cg {L : Lw} {nm nm' : Nat → Int} {t : Int} (h : okL L) (ht : 0 ≤ t ∧ t < L.n) (hn : ∀ i, nmK (L.fld t.toNat 0) i = true → nm i = nm' i) : wthT L nm t = wthT L nm' t := by
  obtain ⟨h1, -, h2⟩ := h t.toNat (by omega)
  unfold wthT wth
  rw [mv_cg (fun i l a b => hn _ ((h2 i (by omega)).2.1 a b))]
/-- does the key let it be -/
noncomputable def alw (L : Lw) (k h : Int) (nm : Nat → Int) : Prop := cnT L k h < 0 ∨ wthT L nm (cnT L k h) ≠ 0
/-- names put: of a person, of births, of a vote, of a work -/
def nmO (r : Rw) (p n : Int) : Nat → Int := fun i => if i = 0 then gt r (870 + 6 * p) else if i = 2 then gt r (871 + 6 * p) else if i = 18 then gt r (873 + 6 * p) else if i = 13 then n else sLv r
/-- what is known of a code at its turn -/
theorem okL_at {L : Lw} {t i h v : Int} (k : okL L) (hT : 0 ≤ t ∧ t < L.n) (hi : 0 ≤ i ∧ i < L.fld t.toNat 4) (hh : h = ht (L.code t.toNat) i.toNat) (hv : v = L.code t.toNat i.toNat) : (0 ≤ h ∧ h ≤ i ∧ i ≤ 95) ∧ 0 ≤ v ∧ (20000 ≤ v → 1 ≤ h ∧ (v ≠ 20033 → 2 ≤ h)) ∧ (10000 ≤ v → v < 20000 → v - 10000 < 26) ∧ (20000 ≤ v → sgK (v - 20000) = true) := by
  obtain ⟨h1, h2, h3⟩ := k t.toNat (by omega)
  have a1 := h2.1 i.toNat (by omega)
  have a2 := h3 i.toNat (by omega)
  have a3 := ht_ge h2 (n := i.toNat) (by omega)
  have a4 := ht_le (c := L.code t.toNat) (n := i.toNat)
  rw [← hv] at a1 a2
  rw [← hh] at a1 a3 a4
  refine ⟨⟨a3, by omega, by omega⟩, a2.1, fun q => ⟨a1.1 q, a1.2 q⟩, fun q1 q2 => ?_, a2.2.2⟩
  have := nmK_lt (a2.2.1 q1 q2)
  omega
theorem ht_S {c : Nat → Int} {i i' h h' v : Int} (hh : h = ht c i.toNat) (hi : 0 ≤ i) (hi' : i' = i + 1) (hv : v = c i.toNat) (e : (v < 20000 ∧ h' = h + 1) ∨ (v = 20033 ∧ h' = h) ∨ (20000 ≤ v ∧ v ≠ 20033 ∧ h' = h - 1)) : h' = ht c i'.toNat := by
  rw [show i'.toNat = i.toNat + 1 by omega]
  show h' = (if c i.toNat < 20000 then ht c i.toNat + 1 else if c i.toNat = 20033 then ht c i.toNat else ht c i.toNat - 1)
  rw [← hv, ← hh]
  rcases e with ⟨a, b⟩ | ⟨a, b⟩ | ⟨a, b, d⟩
  · rw [if_pos a, b]
  · rw [if_neg (by omega), if_pos a, b]
  · rw [if_neg (by omega), if_neg b, d]
/-- the class's text's codes, length -/
theorem cLw_len {d : Nat} {I : fH} {t z : Int} (q : z = I (192 + d) t.toNat) (ht : 0 ≤ t ∧ t < 12) (hn : t < (cLw d I).n) : z = (cLw d I).fld t.toNat 4 := by
  rw [q]
  exact (if_pos (show ((t.toNat : Nat) : Int) < I (187 + d) 6 ∧ t.toNat < 12 from ⟨by show _ < (cLw d I).n; omega, by omega⟩)).symm
theorem cLw_code {d : Nat} {I : fH} {t i z : Int} (k : okL (cLw d I)) (q : z = I (194 + d + t.toNat) i.toNat) (ht : 0 ≤ t ∧ t < 12) (hn : t < (cLw d I).n) (hi : 0 ≤ i ∧ i < (cLw d I).fld t.toNat 4) : z = (cLw d I).code t.toNat i.toNat := by
  have e := cLw_len (d := d) (I := I) (t := t) rfl ht hn
  rw [← e] at hi
  have h96 := (k t.toNat (by omega)).1.1
  rw [q, show 194 + d + t.toNat = 194 + t.toNat + d by omega]
  exact (if_pos (show ((((t.toNat : Nat) : Int) < I (187 + d) 6 ∧ t.toNat < 12) ∧ ((i.toNat : Nat) : Int) < I (192 + d) t.toNat) ∧ i.toNat < 96 from ⟨⟨⟨by show _ < (cLw d I).n; omega, by omega⟩, by omega⟩, by omega⟩)).symm
theorem okT_wf {L : Lw} {t : Int} (k : okL L) (hT : 0 ≤ t ∧ t < L.n) : wfT (L.code t.toNat) (L.fld t.toNat 4).toNat := (k t.toNat (by omega)).2.1
/-- the reference's steps are numbers, names, signs -/
def okE (s : Nat) (I : fH) : Prop := ∀ t i : Nat, ((t : Int) < I s 9 ∧ t < 12) → ((i : Int) < I s (1214 + 200 * t) ∧ i < 96) → (I s (1215 + 200 * t + 2 * i) = 0 ∧ 0 ≤ I s (1215 + 200 * t + 2 * i + 1) ∧ I s (1215 + 200 * t + 2 * i + 1) ≤ 9999) ∨ (I s (1215 + 200 * t + 2 * i) = 1 ∧ 97 ≤ I s (1215 + 200 * t + 2 * i + 1) ∧ I s (1215 + 200 * t + 2 * i + 1) ≤ 122) ∨ (I s (1215 + 200 * t + 2 * i) = 2 ∧ sgK (I s (1215 + 200 * t + 2 * i + 1)) = true)
theorem mLw_len {s : Nat} {I : fH} {t z : Int} (q : z = I s (1214 + 200 * t.toNat)) (hT : 0 ≤ t ∧ t < 12) (hn : t < (mLw s I).n) : z = (mLw s I).fld t.toNat 4 := by
  show z = mFd s I t.toNat 4
  unfold mFd
  rw [if_pos ⟨⟨by show _ < (mLw s I).n; omega, by omega⟩, by omega⟩, q]
  congr 1
  omega
theorem mLw_code {s : Nat} {I : fH} {t i k v : Int} (ok : okL (mLw s I)) (q : k = I s (1215 + 200 * t.toNat + 2 * (0 + i.toNat))) (q2 : v = I s (1215 + 200 * t.toNat + 2 * (0 + i.toNat) + 1)) (hT : 0 ≤ t ∧ t < 12) (hn : t < (mLw s I).n) (hi : 0 ≤ i ∧ i < (mLw s I).fld t.toNat 4) : enc k v = (mLw s I).code t.toNat i.toNat := by
  have e := mLw_len (s := s) (I := I) (t := t) rfl hT hn
  rw [← e] at hi
  rw [Nat.zero_add] at q q2
  have h96 := (ok t.toNat (by omega)).1.1
  rw [q, q2]
  exact (if_pos (show ((((t.toNat : Nat) : Int) < I s 9 ∧ t.toNat < 12) ∧ ((i.toNat : Nat) : Int) < I s (1214 + 200 * t.toNat)) ∧ i.toNat < 96 from ⟨⟨⟨by show _ < (mLw s I).n; omega, by omega⟩, by omega⟩, by omega⟩)).symm
theorem okE_at {s : Nat} {I : fH} {t i k v : Int} (ok : okL (mLw s I)) (h : okE s I) (q : k = I s (1215 + 200 * t.toNat + 2 * (0 + i.toNat))) (q2 : v = I s (1215 + 200 * t.toNat + 2 * (0 + i.toNat) + 1)) (hT : 0 ≤ t ∧ t < 12) (hn : t < (mLw s I).n) (hi : 0 ≤ i ∧ i < (mLw s I).fld t.toNat 4) : ((k = 0 ∧ 0 ≤ v ∧ v ≤ 9999) ∧ enc k v = v) ∨ ((k = 1 ∧ 97 ≤ v ∧ v ≤ 122) ∧ enc k v = v + 9903) ∨ ((k = 2 ∧ (v = 33 ∨ v = 124 ∨ v = 38 ∨ v = 60 ∨ v = 61 ∨ v = 62 ∨ v = 43 ∨ v = 45 ∨ v = 42 ∨ v = 47)) ∧ enc k v = 20000 + v) := by
  have e := mLw_len (s := s) (I := I) (t := t) rfl hT hn
  rw [← e] at hi
  rw [Nat.zero_add] at q q2
  have h96 := (ok t.toNat (by omega)).1.1
  have a := h t.toNat i.toNat ⟨by show _ < (mLw s I).n; omega, by omega⟩ ⟨by omega, by omega⟩
  rw [← q, ← q2] at a
  unfold enc
  rcases a with ⟨a1, a2⟩ | ⟨a1, a2⟩ | ⟨a1, a2⟩
  · exact Or.inl ⟨⟨a1, a2⟩, by rw [if_pos a1]⟩
  · exact Or.inr (Or.inl ⟨⟨a1, a2⟩, by rw [if_neg (by omega), if_pos a1]; omega⟩)
  · exact Or.inr (Or.inr ⟨⟨a1, sgK_of a2⟩, by rw [if_neg (by omega), if_neg (by omega)]⟩)
/-- the reference's names as they are put, the level last -/
def nmW (I : fH) (i : Nat) : Int := if i = 7 then sLv (mR I) else I 748 (97 + i)
theorem nmW_0 {I K : fH} {p v : Int} (e : K = fupd I 748 p.toNat v) (hp : p = 104) (hv : v = sLv (mR I)) : ∀ i : Nat, K 748 (97 + i) = nmW I i := by
  intro i
  rw [e, hp, hv]
  show (if 748 = 748 ∧ 97 + i = (104 : Int).toNat then sLv (mR I) else I 748 (97 + i)) = (if i = 7 then sLv (mR I) else I 748 (97 + i))
  by_cases c : i = 7
  · rw [if_pos ⟨rfl, by omega⟩, if_pos c]
  · rw [if_neg (fun q => c (by have q2 := q.2; omega)), if_neg c]
theorem nmW_at {I K : fH} {v z w : Int} (h : ∀ i : Nat, K 748 (97 + i) = nmW I i) (q : z = K 748 v.toNat) (hv : 97 ≤ v) (hw : w = v + 9903) : z = nmW I (w - 10000).toNat := by
  rw [q, ← h]
  congr 1
  omega
theorem sgK_v {v : Int} (h : v = 33 ∨ v = 124 ∨ v = 38 ∨ v = 60 ∨ v = 61 ∨ v = 62 ∨ v = 43 ∨ v = 45 ∨ v = 42 ∨ v = 47) : sgK v = true := by
  rcases h with h | h | h | h | h | h | h | h | h | h <;> subst h <;> decide

set_option linter.all false
/-! votes -/
theorem iy {α : Type} {C : Prop} [Decidable C] {A B x : α} (h : C) (e : x = A) : x = if C then A else B := by rw [if_pos h, e]
theorem ino {α : Type} {C : Prop} [Decidable C] {A B x : α} (h : ¬ C) (e : x = B) : x = if C then A else B := by rw [if_neg h, e]
theorem cy {α : Type} {C : Prop} {A B x : α} (h : C) (e : x = A) : x = cI C A B := by rw [cI_pos h, e]
theorem cno {α : Type} {C : Prop} {A B x : α} (h : ¬ C) (e : x = B) : x = cI C A B := by rw [cI_neg h, e]
theorem lz {L M : Lw} {y z : Int} (e1 : L = M) (e2 : y = z) : (L, y) = (M, z) := by rw [e1, e2]
def lHold (L : Lw) (t : Int) : Lw := ((L.n, t, 0, 0, 0), fun _ => 0, L.2.2.1, L.2.2.2)
def oHold (L : Lw) (t : Int) : Lw × Int := if 0 ≤ t ∧ t < L.n then (if 0 ≤ L.vote ∨ 0 ≤ L.fld t.toNat 2 then (L, cNO) else (lHold L t, if L.fld t.toNat 1 < 0 then 0 else 1)) else (L, cBAD)
def lSay (L : Lw) (p y : Int) : Lw := ((L.n, L.vote, if y = 1 then wr (L.yes + 1) else L.yes, if y = 1 then L.no else wr (L.no + 1), L.bad), fun q => if q = p.toNat then 1 else L.said q, L.2.2.1, L.2.2.2)
noncomputable def oSay (r : Rw) (L : Lw) (p y : Int) : Lw × Int := if oP r p ∧ 0 ≤ y ∧ y ≤ 1 then cI (0 ≤ L.vote ∧ ¬ sDd r p ∧ L.said p.toNat ≠ 1 ∧ alw L 4 (sHr r) (nmO r p 0)) (lSay L p y, if y = 1 then wr (L.yes + 1) else wr (L.no + 1)) (L, cNO) else (L, cBAD)
def lEnd (L : Lw) : Lw := ((L.n, -1, 0, 0, 0), fun _ => 0, L.2.2.1, L.2.2.2)
def lPass (L : Lw) (h : Int) : Lw := ((L.n, -1, 0, 0, 0), fun _ => 0, fun t k => if t = L.vote.toNat ∧ k = (if L.fld t 1 < 0 then 1 else 2) then h else L.fld t k, L.2.2.2)
def nmV (r : Rw) (L : Lw) (e : Int) : Nat → Int := fun i => if i = 24 then L.yes else if i = 13 then L.no else if i = 4 then e else sLv r
noncomputable def sVo (r : Rw) (L : Lw) (i : Nat) : Int := cI (¬ sDd r (i : Int) ∧ alw L 4 (sHr r) (nmO r (i : Int) 0)) 1 0
noncomputable def oPas (r : Rw) (L : Lw) : Prop := (cnT L 5 (sHr r) < 0 ∧ L.no < L.yes) ∨ (0 ≤ cnT L 5 (sHr r) ∧ wthT L (nmV r L (sm (sVo r L) (gt r 8).toNat)) (cnT L 5 (sHr r)) ≠ 0)
noncomputable def oTal (r : Rw) (L : Lw) : Lw × Int := if 0 ≤ L.vote then cI (oPas r L) (lPass L (sHr r + 1), 1) (lEnd L, 0) else (L, cNO)
/-- the minute in its bounds -/
def okMi (r : Rw) : Prop := 0 ≤ gt r 0 ∧ gt r 0 ≤ 22000
theorem okMi_h {r : Rw} (h : okMi r) : 0 ≤ sHr r ∧ sHr r ≤ 366 := by
  unfold sHr
  rw [Int.tdiv_eq_ediv_of_nonneg h.1]
  have h1 := h.1
  have h2 := h.2
  omega
theorem sm_zero {f : Nat → Int} : ∀ {n : Nat}, (∀ i, i < n → f i = 0) → sm f n = 0
  | 0, _ => rfl
  | n + 1, h => by
    show sm f n + f n = 0
    rw [sm_zero (fun i q => h i (by omega)), h n (by omega)]
    rfl
theorem sm_cg {f g : Nat → Int} : ∀ {n : Nat}, (∀ i, i < n → f i = g i) → sm f n = sm g n
  | 0, _ => rfl
  | n + 1, h => by
    show sm f n + f n = sm g n + g n
    rw [sm_cg (fun i q => h i (by omega)), h n (by omega)]
theorem sm_one {f g : Nat → Int} {p : Nat} {v : Int} : ∀ {n : Nat}, (∀ i, i ≠ p → f i = g i) → f p = g p + v → p < n → sm f n = sm g n + v
  | 0, _, _, h => absurd h (by omega)
  | n + 1, h, e, l => by
    show sm f n + f n = sm g n + g n + v
    by_cases c : p = n
    · subst c
      rw [e, sm_cg (fun i q => h i (by omega))]
      omega
    · rw [sm_one h e (by omega), h n (fun q => c q.symm)]
      omega
/-- counted -/
theorem cnt1_0 {f : Nat → Int} {v : Int} (h : ∀ i, i < 24 → f i ≠ v) : cnt1 f v = 0 := sm_zero (fun i q => if_neg (h i q))
theorem cnt1_y {f g : Nat → Int} {p : Nat} {v : Int} (h : ∀ i, i ≠ p → f i = g i) (e : f p = v) (n : g p ≠ v) (l : p < 24) : cnt1 f v = cnt1 g v + 1 := by
  unfold cnt1
  refine sm_one (p := p) (fun i q => ?_) ?_ l
  · show (if f i = v then (1 : Int) else 0) = (if g i = v then 1 else 0)
    rw [h i q]
  · show (if f p = v then (1 : Int) else 0) = (if g p = v then 1 else 0) + 1
    rw [if_pos e, if_neg n]
    rfl
theorem cnt1_n {f g : Nat → Int} {p : Nat} {v : Int} (h : ∀ i, i ≠ p → f i = g i) (e : f p ≠ v) (n : g p ≠ v) : cnt1 f v = cnt1 g v := by
  unfold cnt1
  refine sm_cg (fun i _ => ?_)
  show (if f i = v then (1 : Int) else 0) = (if g i = v then 1 else 0)
  by_cases c : i = p
  · subst c
    rw [if_neg e, if_neg n]
  · rw [h i c]
theorem cnt1_b {f : Nat → Int} {v : Int} : 0 ≤ cnt1 f v ∧ cnt1 f v ≤ 24 := by
  have q := sm_bd (f := fun j => if f j = v then (1 : Int) else 0) (lo := 0) (hi := 1) (n := 24) (fun i _ => by
    show 0 ≤ (if f i = v then (1 : Int) else 0) ∧ (if f i = v then (1 : Int) else 0) ≤ 1
    split <;> omega)
  unfold cnt1
  omega
theorem cnt1_s {f : Nat → Int} {v x y y' i i' : Int} (h : y = sm (fun j => if f j = v then 1 else 0) i.toNat) (hi : 0 ≤ i) (hi' : i' = i + 1) (hx : x = f i.toNat) (hy : (x = v ∧ y' = y + 1) ∨ (x ≠ v ∧ y' = y)) : y' = sm (fun j => if f j = v then 1 else 0) i'.toNat := by
  rcases hy with ⟨a, b⟩ | ⟨a, b⟩
  · exact sm_at (v := 1) h hi hi' (if_pos (by rw [← hx]; exact a)).symm b
  · exact sm_at (v := 0) h hi hi' (if_neg (by rw [← hx]; exact a)).symm (by omega)
/-- a vote begins, the class's -/
theorem cLw_begin {I I1 I2 K : fH} {t s v x : Int} (e1 : I1 = fupd I 187 7 t) (e2 : I2 = fupd I1 187 8 s) (g : ∀ a j, K a j = if a = 206 ∧ j < 24 then v else I2 a j) (hv : v = -1000000005) (hx : x = I1 189 t.toNat) (hs : (s = 0 ∧ x = -1000000005) ∨ (s = 1 ∧ x ≠ -1000000005)) (ht : 0 ≤ t) : cLw 0 K = lHold (cLw 0 I) t := by
  subst hv
  have o : ∀ a j, a ≠ 187 → a ≠ 206 → K a j = I a j := fun a j h h2 => by
    rw [g, if_neg (fun q => h2 q.1), e2, fup_ne (Or.inl h), e1, fup_ne (Or.inl h)]
  have k6 : K 187 6 = I 187 6 := by rw [g, if_neg (by decide), e2, fup_ne (Or.inr (by decide)), e1, fup_ne (Or.inr (by decide))]
  have k7 : K 187 7 = t := by rw [g, if_neg (by decide), e2, fup_ne (Or.inr (by decide)), e1, fup_eq]
  have k8 : K 187 8 = s := by rw [g, if_neg (by decide), e2, fup_eq]
  have kx : K 189 t.toNat = x := by rw [hx, g, if_neg (by omega), e2, fup_ne (Or.inl (by decide))]
  have k206 : ∀ j, j < 24 → K 206 j = -1000000005 := fun j q => by rw [g, if_pos ⟨rfl, q⟩]
  have nt : ¬ (t = -1000000005) := by omega
  have y0 : ∀ v, v ≠ -1000000005 → cYes 0 K v = 0 := fun v n => by
    unfold cYes
    show (if K 187 7 = -1000000005 then 0 else cnt1 (K 206) v) = 0
    rw [k7, if_neg nt]
    exact cnt1_0 (fun i q w => n (by rw [← w, k206 i q]))
  have b0 : cBd 0 K = 0 := by
    unfold cBd
    show (if K 187 7 = -1000000005 then (0 : Int) else if (K 187 8 = 0 ∧ K 189 (K 187 7).toNat = -1000000005) ∨ (K 187 8 = 1 ∧ K 189 (K 187 7).toNat ≠ -1000000005) then 0 else 1) = 0
    rw [k7, if_neg nt, k8, kx, if_pos hs]
  have s0 : cSd 0 K = fun _ => 0 := funext (fun p => by
    unfold cSd
    by_cases c : 24 ≤ p
    · rw [if_pos (Or.inr (Or.inl c))]
    · rw [if_pos (Or.inr (Or.inr (k206 p (by omega))))])
  have f0 : cFd 0 K = cFd 0 I := funext (fun a => funext (fun k => by
    have e : cFv 0 K a k = cFv 0 I a k := match k with
      | 0 => o _ _ (by decide) (by decide)
      | 1 => congrArg nv (o 189 _ (by decide) (by decide))
      | 2 => congrArg nv (o 190 _ (by decide) (by decide))
      | 3 => o _ _ (by decide) (by decide)
      | 4 => o _ _ (by decide) (by decide)
      | _ + 5 => rfl
    unfold cFd
    rw [e]
    show (if (a : Int) < K 187 6 ∧ a < 12 then cFv 0 I a k else 0) = (if (a : Int) < I 187 6 ∧ a < 12 then cFv 0 I a k else 0)
    rw [k6]))
  have c0 : cCd 0 K = cCd 0 I := funext (fun a => funext (fun i => by
    unfold cCd
    show (if (((a : Int) < K 187 6 ∧ a < 12) ∧ (i : Int) < K 192 a) ∧ i < 96 then K (194 + a) i else 0) = (if (((a : Int) < I 187 6 ∧ a < 12) ∧ (i : Int) < I 192 a) ∧ i < 96 then I (194 + a) i else 0)
    rw [k6, o 192 _ (by decide) (by decide)]
    by_cases c : (((a : Int) < I 187 6 ∧ a < 12) ∧ (i : Int) < I 192 a) ∧ i < 96
    · rw [if_pos c, if_pos c, o _ _ (by omega) (by omega)]
    · rw [if_neg c, if_neg c]))
  show ((K 187 6, nv (K 187 7), cYes 0 K 1, cYes 0 K 0, cBd 0 K), cSd 0 K, cFd 0 K, cCd 0 K) = lHold (cLw 0 I) t
  rw [k6, k7, y0 1 (by decide), y0 0 (by decide), b0, s0, f0, c0, nv_id ht]
  rfl
theorem cL_on {d : Nat} {I : fH} (h : 0 ≤ (cLw d I).vote) : I (187 + d) 7 ≠ -1000000005 ∧ (cLw d I).vote = I (187 + d) 7 ∧ (cLw d I).yes = cnt1 (I (206 + d)) 1 ∧ (cLw d I).no = cnt1 (I (206 + d)) 0 := by
  have n : I (187 + d) 7 ≠ -1000000005 := fun e => by
    have q : (cLw d I).vote = nv (I (187 + d) 7) := rfl
    rw [q, e, nv_no] at h
    exact absurd h (by decide)
  have q : 0 ≤ nv (I (187 + d) 7) := h
  exact ⟨n, (nv_ne n (by omega)).2, if_neg n, if_neg n⟩
theorem cL_off {d : Nat} {I : fH} {v : Int} (q : v = I (187 + d) 7) (h : v = -1000000005) : (cLw d I).vote = -1 := by
  show nv (I (187 + d) 7) = -1
  rw [← q, h, nv_no]
theorem cL_onv {d : Nat} {I : fH} {v : Int} (q : v = I (187 + d) 7) (h : v ≠ -1000000005) (b : -1 ≤ (cLw d I).vote) : 0 ≤ (cLw d I).vote := by
  have e : (cLw d I).vote = nv (I (187 + d) 7) := rfl
  rw [e] at b ⊢
  exact (nv_ne (by rw [← q]; exact h) b).1
/-- somebody says, the class's -/
theorem cLw_say {I K : fH} {p y x : Int} (e : K = fupd I 206 p.toNat y) (hp : 0 ≤ p ∧ p < 24) (hx : x = I 206 p.toNat) (hn : x = -1000000005) (hy : y = 0 ∨ y = 1) (on : 0 ≤ (cLw 0 I).vote) : cLw 0 K = lSay (cLw 0 I) p y := by
  obtain ⟨n', e1, e2, e3⟩ := cL_on on
  have n : I 187 7 ≠ -1000000005 := n'
  have o : ∀ a j, a ≠ 206 → K a j = I a j := fun a j h => by rw [e, fup_ne (Or.inl h)]
  have o2 : ∀ i, i ≠ p.toNat → K 206 i = I 206 i := fun i h => by rw [e, fup_ne (Or.inr h)]
  have kp : K 206 p.toNat = y := by rw [e, fup_eq]
  have ip : I 206 p.toNat = -1000000005 := by rw [← hx, hn]
  have c1 : ∀ v, v ≠ -1000000005 → cYes 0 K v = if y = v then wr (cYes 0 I v + 1) else cYes 0 I v := fun v nv' => by
    unfold cYes
    show (if K 187 7 = -1000000005 then 0 else cnt1 (K 206) v) = if y = v then wr ((if I 187 7 = -1000000005 then 0 else cnt1 (I 206) v) + 1) else (if I 187 7 = -1000000005 then 0 else cnt1 (I 206) v)
    rw [o 187 7 (by decide), if_neg n, if_neg n]
    by_cases c : y = v
    · have b := cnt1_b (f := I 206) (v := v)
      rw [if_pos c, wr_id ⟨by omega, by omega⟩]
      exact cnt1_y o2 (by rw [kp, c]) (by rw [ip]; exact fun w => nv' w.symm) (by omega)
    · rw [if_neg c]
      exact cnt1_n o2 (by rw [kp]; exact c) (by rw [ip]; exact fun w => nv' w.symm)
  have b0 : cBd 0 K = cBd 0 I := by
    unfold cBd
    show (if K 187 7 = -1000000005 then (0 : Int) else if (K 187 8 = 0 ∧ K 189 (K 187 7).toNat = -1000000005) ∨ (K 187 8 = 1 ∧ K 189 (K 187 7).toNat ≠ -1000000005) then 0 else 1) = (if I 187 7 = -1000000005 then (0 : Int) else if (I 187 8 = 0 ∧ I 189 (I 187 7).toNat = -1000000005) ∨ (I 187 8 = 1 ∧ I 189 (I 187 7).toNat ≠ -1000000005) then 0 else 1)
    rw [o 187 7 (by decide), o 187 8 (by decide), o 189 _ (by decide)]
  have s0 : cSd 0 K = fun q => if q = p.toNat then 1 else cSd 0 I q := funext (fun q => by
    unfold cSd
    show (if K 187 7 = -1000000005 ∨ 24 ≤ q ∨ K 206 q = -1000000005 then (0 : Int) else 1) = if q = p.toNat then 1 else (if I 187 7 = -1000000005 ∨ 24 ≤ q ∨ I 206 q = -1000000005 then 0 else 1)
    rw [o 187 7 (by decide)]
    by_cases c : q = p.toNat
    · subst c
      rw [if_pos rfl, kp, if_neg (by omega)]
    · rw [if_neg c, o2 q c])
  have f0 : cFd 0 K = cFd 0 I := funext (fun a => funext (fun k => by
    have e : cFv 0 K a k = cFv 0 I a k := match k with
      | 0 => o _ _ (by decide)
      | 1 => congrArg nv (o 189 _ (by decide))
      | 2 => congrArg nv (o 190 _ (by decide))
      | 3 => o _ _ (by decide)
      | 4 => o _ _ (by decide)
      | _ + 5 => rfl
    unfold cFd
    rw [e]
    show (if (a : Int) < K 187 6 ∧ a < 12 then cFv 0 I a k else 0) = (if (a : Int) < I 187 6 ∧ a < 12 then cFv 0 I a k else 0)
    rw [o 187 6 (by decide)]))
  have c0 : cCd 0 K = cCd 0 I := funext (fun a => funext (fun i => by
    unfold cCd
    show (if (((a : Int) < K 187 6 ∧ a < 12) ∧ (i : Int) < K 192 a) ∧ i < 96 then K (194 + a) i else 0) = (if (((a : Int) < I 187 6 ∧ a < 12) ∧ (i : Int) < I 192 a) ∧ i < 96 then I (194 + a) i else 0)
    rw [o 187 6 (by decide), o 192 _ (by decide)]
    by_cases c : (((a : Int) < I 187 6 ∧ a < 12) ∧ (i : Int) < I 192 a) ∧ i < 96
    · rw [if_pos c, if_pos c, o _ _ (by omega)]
    · rw [if_neg c, if_neg c]))
  show ((K 187 6, nv (K 187 7), cYes 0 K 1, cYes 0 K 0, cBd 0 K), cSd 0 K, cFd 0 K, cCd 0 K) = ((I 187 6, nv (I 187 7), (if y = 1 then wr (cYes 0 I 1 + 1) else cYes 0 I 1), (if y = 1 then cYes 0 I 0 else wr (cYes 0 I 0 + 1)), cBd 0 I), (fun q => if q = p.toNat then 1 else cSd 0 I q), cFd 0 I, cCd 0 I)
  rw [o 187 6 (by decide), o 187 7 (by decide), c1 1 (by decide), c1 0 (by decide), b0, s0, f0, c0]
  rcases hy with h | h
  · subst h
    rfl
  · subst h
    rfl
theorem say_z {I K : fH} {p y z : Int} (e : cLw 0 K = lSay (cLw 0 I) p y) (on : 0 ≤ (cLw 0 I).vote) (hz : z = cnt1 (K 206) y) (hy : y = 0 ∨ y = 1) : z = if y = 1 then wr ((cLw 0 I).yes + 1) else wr ((cLw 0 I).no + 1) := by
  have v : 0 ≤ (cLw 0 K).vote := by rw [e]; exact on
  obtain ⟨-, -, y1, y0⟩ := cL_on v
  have q1 : (cLw 0 K).yes = if y = 1 then wr ((cLw 0 I).yes + 1) else (cLw 0 I).yes := by rw [e]; rfl
  have q0 : (cLw 0 K).no = if y = 1 then (cLw 0 I).no else wr ((cLw 0 I).no + 1) := by rw [e]; rfl
  rcases hy with h | h
  · subst h
    rw [if_neg (by decide)] at q0 ⊢
    rw [hz, ← q0, y0]
  · subst h
    rw [if_pos rfl] at q1 ⊢
    rw [hz, ← q1, y1]
/-- a vote ends, the class's -/
theorem cLw_end {I K : fH} {v : Int} (e : K = fupd I 187 7 v) (hv : v = -1000000005) : cLw 0 K = lEnd (cLw 0 I) := by
  subst hv
  have o : ∀ a j, a ≠ 187 → K a j = I a j := fun a j h => by rw [e, fup_ne (Or.inl h)]
  have k6 : K 187 6 = I 187 6 := by rw [e, fup_ne (Or.inr (by decide))]
  have k7 : K 187 7 = -1000000005 := by rw [e, fup_eq]
  have y0 : ∀ v, cYes 0 K v = 0 := fun v => if_pos k7
  have b0 : cBd 0 K = 0 := if_pos k7
  have s0 : cSd 0 K = fun _ => 0 := funext (fun p => if_pos (Or.inl k7))
  have f0 : cFd 0 K = cFd 0 I := funext (fun a => funext (fun k => by
    have e : cFv 0 K a k = cFv 0 I a k := match k with
      | 0 => o _ _ (by decide)
      | 1 => congrArg nv (o 189 _ (by decide))
      | 2 => congrArg nv (o 190 _ (by decide))
      | 3 => o _ _ (by decide)
      | 4 => o _ _ (by decide)
      | _ + 5 => rfl
    unfold cFd
    rw [e]
    show (if (a : Int) < K 187 6 ∧ a < 12 then cFv 0 I a k else 0) = (if (a : Int) < I 187 6 ∧ a < 12 then cFv 0 I a k else 0)
    rw [k6]))
  have c0 : cCd 0 K = cCd 0 I := funext (fun a => funext (fun i => by
    unfold cCd
    show (if (((a : Int) < K 187 6 ∧ a < 12) ∧ (i : Int) < K 192 a) ∧ i < 96 then K (194 + a) i else 0) = (if (((a : Int) < I 187 6 ∧ a < 12) ∧ (i : Int) < I 192 a) ∧ i < 96 then I (194 + a) i else 0)
    rw [k6, o 192 _ (by decide)]
    by_cases c : (((a : Int) < I 187 6 ∧ a < 12) ∧ (i : Int) < I 192 a) ∧ i < 96
    · rw [if_pos c, if_pos c, o _ _ (by omega)]
    · rw [if_neg c, if_neg c]))
  show ((K 187 6, nv (K 187 7), cYes 0 K 1, cYes 0 K 0, cBd 0 K), cSd 0 K, cFd 0 K, cCd 0 K) = lEnd (cLw 0 I)
  rw [k6, k7, y0, y0, b0, s0, f0, c0, nv_no]
  rfl
theorem cLw_pass {I I1 K : fH} {b s t v h : Int} (e1 : I1 = fupd I b.toNat t.toNat h) (e2 : K = fupd I1 187 7 v) (hv : v = -1000000005) (ok : okL (cLw 0 I)) (bad : (cLw 0 I).bad = 0) (on : 0 ≤ (cLw 0 I).vote ∧ (cLw 0 I).vote < (cLw 0 I).n) (n12 : (cLw 0 I).n ≤ 12) (ht : t = I 187 7) (hs : s = I 187 8) (hb : (s = 1 ∧ b = 190) ∨ (s = 0 ∧ b = 189)) (hh : 0 ≤ h) : cLw 0 K = lPass (cLw 0 I) h := by
  obtain ⟨n, v1, -, -⟩ := cL_on on.1
  have tv : t = (cLw 0 I).vote := by rw [ht, v1]
  have tl : ((t.toNat : Nat) : Int) < I 187 6 ∧ t.toNat < 12 := ⟨by show _ < (cLw 0 I).n; omega, by omega⟩
  have ft : ∀ k, (cLw 0 I).fld t.toNat k = cFv 0 I t.toNat k := fun k => if_pos tl
  have b1 : cBd 0 I = 0 := bad
  unfold cBd at b1
  have b2 : ((s = 0 ∧ I 189 t.toNat = -1000000005) ∨ (s = 1 ∧ I 189 t.toNat ≠ -1000000005)) := by
    by_cases c : (I 187 8 = 0 ∧ I 189 (I 187 7).toNat = -1000000005) ∨ (I 187 8 = 1 ∧ I 189 (I 187 7).toNat ≠ -1000000005)
    · rw [hs, ht]
      exact c
    · exfalso
      have q : (if I 187 7 = -1000000005 then (0 : Int) else if (I 187 8 = 0 ∧ I 189 (I 187 7).toNat = -1000000005) ∨ (I 187 8 = 1 ∧ I 189 (I 187 7).toNat ≠ -1000000005) then 0 else 1) = 0 := b1
      rw [if_neg n, if_neg c] at q
      exact absurd q (by decide)
  have f1 : -1 ≤ (cLw 0 I).fld t.toNat 1 := (okL_f ok (t := t) ⟨by omega, by omega⟩).1
  have k1 : s = 0 ↔ (cLw 0 I).fld t.toNat 1 < 0 := by
    have q : (cLw 0 I).fld t.toNat 1 = nv (I 189 t.toNat) := ft 1
    rcases nvc q f1 with ⟨a, c⟩ | ⟨a, c⟩
    · rw [c]
      omega
    · rw [c]
      omega
  rw [cLw_end e2 hv]
  have o : ∀ a j, (a ≠ 189 ∧ a ≠ 190) ∨ j ≠ t.toNat → I1 a j = I a j := fun a j w => by rw [e1, fup_ne (w.elim (fun x => Or.inl (by omega)) (fun x => Or.inr x))]
  have f0 : cFd 0 I1 = fun a k => if a = (cLw 0 I).vote.toNat ∧ k = (if (cLw 0 I).fld a 1 < 0 then 1 else 2) then h else (cLw 0 I).fld a k := funext (fun a => funext (fun k => by
    show (if (a : Int) < I1 187 6 ∧ a < 12 then cFv 0 I1 a k else 0) = _
    rw [o 187 6 (Or.inl (by decide)), ← tv]
    by_cases c : a = t.toNat
    · subst c
      rw [if_pos tl]
      rcases hb with ⟨s1, hb⟩ | ⟨s0, hb⟩
      · have w : ¬ ((cLw 0 I).fld t.toNat 1 < 0) := fun w => by have := k1.mpr w; omega
        rw [if_neg w]
        subst hb
        match k with
        | 0 => rw [if_neg (by omega), ft]; exact o _ _ (Or.inl (by decide))
        | 1 => rw [if_neg (by omega), ft]; exact congrArg nv (by rw [e1]; exact fup_ne (Or.inl (by decide)))
        | 2 => rw [if_pos ⟨rfl, rfl⟩]; exact (congrArg nv (by rw [e1]; exact fup_eq)).trans (nv_id hh)
        | 3 => rw [if_neg (by omega), ft]; exact o _ _ (Or.inl (by decide))
        | 4 => rw [if_neg (by omega), ft]; exact o _ _ (Or.inl (by decide))
        | k + 5 => rw [if_neg (by omega), ft]; rfl
      · have w : (cLw 0 I).fld t.toNat 1 < 0 := k1.mp s0
        rw [if_pos w]
        subst hb
        match k with
        | 0 => rw [if_neg (by omega), ft]; exact o _ _ (Or.inl (by decide))
        | 1 => rw [if_pos ⟨rfl, rfl⟩]; exact (congrArg nv (by rw [e1]; exact fup_eq)).trans (nv_id hh)
        | 2 => rw [if_neg (by omega), ft]; exact congrArg nv (by rw [e1]; exact fup_ne (Or.inl (by decide)))
        | 3 => rw [if_neg (by omega), ft]; exact o _ _ (Or.inl (by decide))
        | 4 => rw [if_neg (by omega), ft]; exact o _ _ (Or.inl (by decide))
        | k + 5 => rw [if_neg (by omega), ft]; rfl
    · refine Eq.trans ?_ (if_neg (fun w => c w.1)).symm
      show (if (a : Int) < I 187 6 ∧ a < 12 then cFv 0 I1 a k else 0) = (if (a : Int) < I 187 6 ∧ a < 12 then cFv 0 I a k else 0)
      have e : cFv 0 I1 a k = cFv 0 I a k := match k with
        | 0 => o _ _ (Or.inr c)
        | 1 => congrArg nv (o 189 _ (Or.inr c))
        | 2 => congrArg nv (o 190 _ (Or.inr c))
        | 3 => o _ _ (Or.inr c)
        | 4 => o _ _ (Or.inr c)
        | _ + 5 => rfl
      rw [e]))
  have c0 : cCd 0 I1 = cCd 0 I := funext (fun a => funext (fun i => by
    unfold cCd
    show (if (((a : Int) < I1 187 6 ∧ a < 12) ∧ (i : Int) < I1 192 a) ∧ i < 96 then I1 (194 + a) i else 0) = (if (((a : Int) < I 187 6 ∧ a < 12) ∧ (i : Int) < I 192 a) ∧ i < 96 then I (194 + a) i else 0)
    rw [o 187 6 (Or.inl (by decide)), o 192 _ (Or.inl (by decide)), o (194 + a) _ (Or.inl (by omega))]))
  show ((I1 187 6, -1, 0, 0, 0), (fun _ => 0), cFd 0 I1, cCd 0 I1) = ((I 187 6, -1, 0, 0, 0), (fun _ => 0), _, cCd 0 I)
  rw [o 187 6 (Or.inl (by decide)), f0, c0]
/-! the reference's votes -/
def hdF (b : Nat → Int) (t m : Int) : Nat → Int := fun j => if j = 14 then t else if j = 15 ∨ j = 16 then 0 else if (870 ≤ j ∧ (j : Int) < 870 + 6 * m) ∧ (j - 870) % 6 = 4 then 0 else b j
theorem hd_0 {b b1 b2 b3 : Nat → Int} {t v w m : Int} (e1 : b1 = pn b 14 t) (e2 : b2 = pn b1 15 v) (e3 : b3 = pn b2 16 w) (hv : v = 0) (hw : w = 0) (hm : m = 0) : b3 = hdF b t m := by
  subst hv
  subst hw
  subst hm
  funext j
  rw [e3, e2, e1]
  show (if j = 16 then (0 : Int) else if j = 15 then 0 else if j = 14 then t else b j) = (if j = 14 then t else if j = 15 ∨ j = 16 then 0 else if (870 ≤ j ∧ (j : Int) < 870 + 6 * 0) ∧ (j - 870) % 6 = 4 then 0 else b j)
  by_cases c : j = 14
  · rw [if_pos c, if_neg (by omega), if_neg (by omega), if_pos c]
  · rw [if_neg c]
    by_cases c2 : j = 15 ∨ j = 16
    · rw [if_pos c2, if_neg c]
      rcases c2 with q | q
      · rw [if_neg (by omega), if_pos q]
      · rw [if_pos q]
    · rw [if_neg c2, if_neg (by omega), if_neg (by omega), if_neg (by omega), if_neg (by omega)]
theorem hd_S {b c c' : Nat → Int} {t m m' v : Int} {q : Nat} (g : c = hdF b t m) (e : c' = pn c q v) (hq : q = (874 + 6 * m).toNat) (hm : 0 ≤ m) (hm' : m' = m + 1) (hv : v = 0) : c' = hdF b t m' := by
  subst hv
  subst hm'
  funext j
  rw [e, g]
  show (if j = q then (0 : Int) else if j = 14 then t else if j = 15 ∨ j = 16 then 0 else if (870 ≤ j ∧ (j : Int) < 870 + 6 * m) ∧ (j - 870) % 6 = 4 then 0 else b j) = (if j = 14 then t else if j = 15 ∨ j = 16 then 0 else if (870 ≤ j ∧ (j : Int) < 870 + 6 * (m + 1)) ∧ (j - 870) % 6 = 4 then 0 else b j)
  by_cases c : j = q
  · rw [if_pos c, if_neg (by omega), if_neg (by omega), if_pos (by omega)]
  · rw [if_neg c]
    by_cases c1 : j = 14
    · rw [if_pos c1, if_pos c1]
    · rw [if_neg c1, if_neg c1]
      by_cases c2 : j = 15 ∨ j = 16
      · rw [if_pos c2, if_pos c2]
      · rw [if_neg c2, if_neg c2]
        by_cases c3 : (870 ≤ j ∧ (j : Int) < 870 + 6 * m) ∧ (j - 870) % 6 = 4
        · rw [if_pos c3, if_pos (by omega)]
        · rw [if_neg c3, if_neg (by omega)]
theorem hdF_o {b : Nat → Int} {t m : Int} {j : Nat} (h : j ≠ 14 ∧ j ≠ 15 ∧ j ≠ 16) (h2 : (j : Int) < 870 ∨ 870 + 6 * m ≤ (j : Int)) : hdF b t m j = b j := by
  show (if j = 14 then t else if j = 15 ∨ j = 16 then 0 else if (870 ≤ j ∧ (j : Int) < 870 + 6 * m) ∧ (j - 870) % 6 = 4 then 0 else b j) = b j
  rw [if_neg h.1, if_neg (by omega), if_neg (by omega)]
theorem mFd_cg {I K : fH} (h9 : K 741 9 = I 741 9) (h : ∀ j, 1210 ≤ j → j ≤ 3609 → K 741 j = I 741 j) : mFd 741 K = mFd 741 I := funext (fun t => funext (fun k => by
  unfold mFd
  rw [h9]
  by_cases c : ((t : Int) < I 741 9 ∧ t < 12) ∧ k ≤ 4
  · rw [if_pos c, if_pos c, h _ (by omega) (by omega)]
  · rw [if_neg c, if_neg c]))
theorem mCd_cg {I K : fH} (h9 : K 741 9 = I 741 9) (h : ∀ j, 1210 ≤ j → j ≤ 3609 → (j - 1210) % 200 ≥ 4 → K 741 j = I 741 j) : mCd 741 K = mCd 741 I := funext (fun t => funext (fun i => by
  unfold mCd
  rw [h9]
  by_cases c0 : t < 12
  · rw [h (1214 + 200 * t) (by omega) (by omega) (by omega)]
    by_cases c : (((t : Int) < I 741 9 ∧ t < 12) ∧ (i : Int) < I 741 (1214 + 200 * t)) ∧ i < 96
    · rw [if_pos c, if_pos c, h _ (by omega) (by omega) (by omega), h _ (by omega) (by omega) (by omega)]
    · rw [if_neg c, if_neg c]
  · rw [if_neg (fun q => c0 q.1.1.2), if_neg (fun q => c0 q.1.1.2)]))
theorem mLw_hold {I K : fH} {t m : Int} (e : K 741 = hdF (I 741) t m) (hm : m = 24) (ht : 0 ≤ t) : mLw 741 K = lHold (mLw 741 I) t := by
  subst hm
  have k14 : K 741 14 = t := by rw [e]; rfl
  have k9 : K 741 9 = I 741 9 := by rw [e]; exact hdF_o (by decide) (by omega)
  have nt : ¬ (t < 0) := by omega
  have k15 : K 741 15 = 0 := by rw [e]; rfl
  have k16 : K 741 16 = 0 := by rw [e]; rfl
  have s0 : (fun p => if K 741 14 < 0 ∨ 24 ≤ p then 0 else K 741 (874 + 6 * p)) = fun _ => 0 := funext (fun p => by
    by_cases c : K 741 14 < 0 ∨ 24 ≤ p
    · rw [if_pos c]
    · rw [if_neg c, e]
      show (if 874 + 6 * p = 14 then t else if 874 + 6 * p = 15 ∨ 874 + 6 * p = 16 then 0 else if (870 ≤ 874 + 6 * p ∧ ((874 + 6 * p : Nat) : Int) < 870 + 6 * 24) ∧ (874 + 6 * p - 870) % 6 = 4 then 0 else I 741 (874 + 6 * p)) = 0
      rw [if_neg (by omega), if_neg (by omega), if_pos (by omega)])
  have o : ∀ j, 1210 ≤ j → j ≤ 3609 → K 741 j = I 741 j := fun j h1 h2 => by rw [e]; exact hdF_o (by omega) (by omega)
  show ((K 741 9, K 741 14, if K 741 14 < 0 then 0 else K 741 15, if K 741 14 < 0 then 0 else K 741 16, 0), (fun p => if K 741 14 < 0 ∨ 24 ≤ p then 0 else K 741 (874 + 6 * p)), mFd 741 K, mCd 741 K) = lHold (mLw 741 I) t
  rw [s0, k9, k14, if_neg nt, if_neg nt, k15, k16, mFd_cg k9 o, mCd_cg k9 (fun j a b _ => o j a b)]
  rfl
theorem mLw_say {I I1 K : fH} {p y x v w : Int} {q1 q2 : Nat} (e1 : I1 741 = pn (I 741) q1 w) (hw : w = 1) (h1 : q1 = (874 + 6 * p).toNat) (e2 : K 741 = pn (I1 741) q2 v) (hq : (y = 1 ∧ q2 = 15) ∨ (y = 0 ∧ q2 = 16)) (hx : x = I1 741 q2) (hv : v = wr (x + 1)) (on : 0 ≤ I 741 14) (hp : 0 ≤ p ∧ p < 24) : mLw 741 K = lSay (mLw 741 I) p y := by
  subst hw
  have o : ∀ j, j ≠ q1 → j ≠ q2 → K 741 j = I 741 j := fun j a b => by
    rw [e2, e1]
    show (if j = q2 then v else if j = q1 then 1 else I 741 j) = I 741 j
    rw [if_neg b, if_neg a]
  have kq : K 741 q2 = v := by
    rw [e2]
    exact if_pos rfl
  have x2 : x = I 741 q2 := by
    rw [hx, e1]
    exact if_neg (by omega)
  have kp : K 741 q1 = 1 := by
    rw [e2, e1]
    show (if q1 = q2 then v else if q1 = q1 then 1 else I 741 q1) = 1
    rw [if_neg (by omega), if_pos rfl]
  have k9 := o 9 (by omega) (by omega)
  have k14 := o 14 (by omega) (by omega)
  have n14 : ¬ (I 741 14 < 0) := by omega
  have s0 : (fun p => if K 741 14 < 0 ∨ 24 ≤ p then 0 else K 741 (874 + 6 * p)) = fun q => if q = p.toNat then 1 else (if I 741 14 < 0 ∨ 24 ≤ q then 0 else I 741 (874 + 6 * q)) := funext (fun q => by
    show (if K 741 14 < 0 ∨ 24 ≤ q then 0 else K 741 (874 + 6 * q)) = _
    rw [k14]
    by_cases c : q = p.toNat
    · rw [if_pos c, if_neg (by omega), show 874 + 6 * q = q1 by omega, kp]
    · rw [if_neg c]
      by_cases c2 : I 741 14 < 0 ∨ 24 ≤ q
      · rw [if_pos c2, if_pos c2]
      · rw [if_neg c2, if_neg c2, o _ (by omega) (by omega)])
  have f := mFd_cg (I := I) (K := K) k9 (fun j a b => o j (by omega) (by omega))
  have c := mCd_cg (I := I) (K := K) k9 (fun j a b _ => o j (by omega) (by omega))
  show ((K 741 9, K 741 14, if K 741 14 < 0 then 0 else K 741 15, if K 741 14 < 0 then 0 else K 741 16, 0), (fun p => if K 741 14 < 0 ∨ 24 ≤ p then 0 else K 741 (874 + 6 * p)), mFd 741 K, mCd 741 K) = ((I 741 9, I 741 14, (if y = 1 then wr ((if I 741 14 < 0 then 0 else I 741 15) + 1) else (if I 741 14 < 0 then 0 else I 741 15)), (if y = 1 then (if I 741 14 < 0 then 0 else I 741 16) else wr ((if I 741 14 < 0 then 0 else I 741 16) + 1)), 0), (fun q => if q = p.toNat then 1 else (if I 741 14 < 0 ∨ 24 ≤ q then 0 else I 741 (874 + 6 * q))), mFd 741 I, mCd 741 I)
  rw [s0, f, c, k9, k14, if_neg n14, if_neg n14, if_neg n14, if_neg n14]
  rcases hq with ⟨a, b⟩ | ⟨a, b⟩
  · rw [if_pos a, if_pos a, o 16 (by omega) (by omega), ← b, kq, hv, x2]
  · rw [if_neg (by omega), if_neg (by omega), o 15 (by omega) (by omega), ← b, kq, hv, x2]
theorem mLw_end {I K : fH} {v : Int} (e : K 741 = pn (I 741) 14 v) (hv : v = -1) : mLw 741 K = lEnd (mLw 741 I) := by
  subst hv
  have o : ∀ j, j ≠ 14 → K 741 j = I 741 j := fun j h => by
    rw [e]
    exact if_neg h
  have k14 : K 741 14 = -1 := by
    rw [e]
    rfl
  have s0 : (fun p => if K 741 14 < 0 ∨ 24 ≤ p then 0 else K 741 (874 + 6 * p)) = fun _ => 0 := funext (fun p => if_pos (Or.inl (by rw [k14]; decide)))
  show ((K 741 9, K 741 14, if K 741 14 < 0 then 0 else K 741 15, if K 741 14 < 0 then 0 else K 741 16, 0), (fun p => if K 741 14 < 0 ∨ 24 ≤ p then 0 else K 741 (874 + 6 * p)), mFd 741 K, mCd 741 K) = lEnd (mLw 741 I)
  rw [s0, k14, if_pos (by decide), if_pos (by decide), o 9 (by decide), mFd_cg (o 9 (by decide)) (fun j a _ => o j (by omega)), mCd_cg (o 9 (by decide)) (fun j a _ _ => o j (by omega))]
  rfl
theorem mLw_pass {I I1 K : fH} {v t f h : Int} {q : Nat} (e1 : I1 741 = pn (I 741) 14 v) (hv : v = -1) (e2 : K 741 = pn (I1 741) q h) (on : 0 ≤ (mLw 741 I).vote ∧ (mLw 741 I).vote < (mLw 741 I).n) (n12 : (mLw 741 I).n ≤ 12) (ht : t = (mLw 741 I).vote) (hf : f = (mLw 741 I).fld t.toNat 1) (hq : (f < 0 ∧ (q : Int) = 1211 + 200 * t) ∨ (0 ≤ f ∧ (q : Int) = 1212 + 200 * t)) : mLw 741 K = lPass (mLw 741 I) h := by
  have e3 := mLw_end e1 hv
  have o : ∀ j, j ≠ q → K 741 j = I1 741 j := fun j w => by
    rw [e2]
    exact if_neg w
  have kq : K 741 q = h := by
    rw [e2]
    exact if_pos rfl
  have f0 : mFd 741 K = fun a k => if a = (mLw 741 I).vote.toNat ∧ k = (if (mLw 741 I).fld a 1 < 0 then 1 else 2) then h else (mLw 741 I).fld a k := funext (fun a => funext (fun k => by
    have e4 : mFd 741 I1 a k = (mLw 741 I).fld a k := congrFun (congrFun (congrArg (fun L : Lw => L.2.2.1) e3) a) k
    rw [← e4, ← ht]
    have n9 : I1 741 9 = I 741 9 := by
      rw [e1]
      rfl
    have ln : t < I 741 9 := by
      rw [ht]
      exact on.2
    have l0 : 0 ≤ t := by
      rw [ht]
      exact on.1
    have l12 : I 741 9 ≤ 12 := n12
    show (if ((a : Int) < K 741 9 ∧ a < 12) ∧ k ≤ 4 then K 741 (1210 + 200 * a + k) else 0) = _
    by_cases c : a = t.toNat ∧ k = (if (mLw 741 I).fld a 1 < 0 then 1 else 2)
    · rw [if_pos c]
      have c2 := c.2
      rw [c.1, ← hf] at c2
      rw [o 9 (by omega), n9]
      by_cases w : f < 0
      · rw [if_pos w] at c2
        rw [if_pos (by omega), show 1210 + 200 * a + k = q by omega, kq]
      · rw [if_neg w] at c2
        rw [if_pos (by omega), show 1210 + 200 * a + k = q by omega, kq]
    · rw [if_neg c]
      show _ = (if ((a : Int) < I1 741 9 ∧ a < 12) ∧ k ≤ 4 then I1 741 (1210 + 200 * a + k) else 0)
      rw [o 9 (by omega)]
      by_cases c3 : ((a : Int) < I1 741 9 ∧ a < 12) ∧ k ≤ 4
      · rw [if_pos c3, if_pos c3, o _ (fun w => c (by
          have a1 : a = t.toNat := by omega
          refine ⟨a1, ?_⟩
          rw [a1, ← hf]
          by_cases w2 : f < 0
          · rw [if_pos w2]
            omega
          · rw [if_neg w2]
            omega))]
      · rw [if_neg c3, if_neg c3]))
  have c0 : mCd 741 K = mCd 741 I1 := mCd_cg (o 9 (by omega)) (fun j a b c => o j (by omega))
  have g14 : K 741 14 = I1 741 14 := o 14 (by omega)
  have k14 : I1 741 14 = -1 := by
    rw [e1, hv]
    rfl
  have s0 : (fun p => if K 741 14 < 0 ∨ 24 ≤ p then 0 else K 741 (874 + 6 * p)) = fun _ => 0 := funext (fun p => if_pos (Or.inl (by rw [g14, k14]; decide)))
  have c1 : mCd 741 I1 = (mLw 741 I).2.2.2 := congrArg (fun L : Lw => L.2.2.2) e3
  have n1 : I1 741 9 = (mLw 741 I).n := congrArg (fun L : Lw => L.1.1) e3
  show ((K 741 9, K 741 14, if K 741 14 < 0 then 0 else K 741 15, if K 741 14 < 0 then 0 else K 741 16, 0), (fun p => if K 741 14 < 0 ∨ 24 ≤ p then 0 else K 741 (874 + 6 * p)), mFd 741 K, mCd 741 K) = lPass (mLw 741 I) h
  rw [s0, g14, k14, if_pos (by decide), if_pos (by decide), o 9 (by omega), n1, f0, c0, c1]
  rfl
/-! who may vote; what passes -/
theorem sVo_y {r : Rw} {L : Lw} {w z : Int} {i : Nat} (hu : w = (i : Int)) (hd : ¬ sDd r w) (ha : alw L 4 (sHr r) (nmO r w 0)) (hz : z = 1) : z = sVo r L i := by
  subst hu
  unfold sVo
  rw [cI_pos ⟨hd, ha⟩, hz]
theorem sVo_n {r : Rw} {L : Lw} {w z : Int} {i : Nat} (hu : w = (i : Int)) (h : ¬ (¬ sDd r w ∧ alw L 4 (sHr r) (nmO r w 0))) (hz : z = 0) : z = sVo r L i := by
  subst hu
  unfold sVo
  rw [cI_neg h, hz]
theorem nmK_5 {i : Nat} (h : nmK 5 i = true) : i = 7 ∨ i = 24 ∨ i = 13 ∨ i = 4 := by
  unfold nmK at h
  simp only [Bool.or_eq_true, Bool.and_eq_true, beq_iff_eq] at h
  omega
theorem nmV_c {r : Rw} {L : Lw} {y n e l e' : Int} {b b1 b2 b3 b4 : Nat → Int} {k1 k2 k3 k4 : Nat} (e1 : b1 = pn b k1 y) (e2 : b2 = pn b1 k2 n) (e3 : b3 = pn b2 k3 e) (e4 : b4 = pn b3 k4 l) (h1 : k1 = 24) (h2 : k2 = 13) (h3 : k3 = 4) (h4 : k4 = 7) (hy : y = L.yes) (hn : n = L.no) (he : e = e') (hl : l = sLv r) : ∀ i, nmK 5 i = true → b4 i = nmV r L e' i := by
  intro i h
  rw [e4, e3, e2, e1, h1, h2, h3, h4, hy, hn, he, hl]
  rcases nmK_5 h with h | h | h | h <;> subst h <;> rfl
theorem nmV_m {r : Rw} {L : Lw} {y n e e' : Int} {b b1 b2 : Nat → Int} {K : fH} (er : mR K = r) (e1 : b1 = pn b 121 y) (e2 : b2 = pn b1 110 n) (e3 : K 748 = pn b2 101 e) (hy : y = L.yes) (hn : n = L.no) (he : e = e') : ∀ i, nmK 5 i = true → nmW K i = nmV r L e' i := by
  intro i h
  unfold nmW
  rw [e3, e2, e1, er, hy, hn, he]
  rcases nmK_5 h with h | h | h | h <;> subst h <;> rfl
theorem pas_0 {r : Rw} {L : Lw} {a b c z : Int} (g : c = cnT L 5 (sHr r)) (hc : c < 0) (hy : a = L.yes) (hn : b = L.no) (hz : (z = 1 ∧ b < a) ∨ (z = 0 ∧ a ≤ b)) : (z = 1 ∧ oPas r L) ∨ (z = 0 ∧ ¬ oPas r L) := by
  unfold oPas
  rw [← g, ← hy, ← hn]
  rcases hz with ⟨h1, h2⟩ | ⟨h1, h2⟩
  · exact Or.inl ⟨h1, Or.inl ⟨hc, h2⟩⟩
  · exact Or.inr ⟨h1, fun q => q.elim (fun w => absurd w.2 (by omega)) (fun w => absurd w.1 (by omega))⟩
theorem pas_1 {r : Rw} {L L' : Lw} {c w e z : Int} {nm : Nat → Int} (g : c = cnT L 5 (sHr r)) (hc : 0 ≤ c) (eL : L' = L) (ok : okL L) (hw : w = wthT L' nm c) (n : ∀ i, nmK 5 i = true → nm i = nmV r L e i) (he : e = sm (sVo r L) (gt r 8).toNat) (hz : (z = 1 ∧ w ≠ 0) ∨ (z = 0 ∧ w = 0)) : (z = 1 ∧ oPas r L) ∨ (z = 0 ∧ ¬ oPas r L) := by
  subst eL
  subst he
  rw [wthT_key ok g hc n] at hw
  unfold oPas
  rw [← g, ← hw]
  rcases hz with ⟨h1, h2⟩ | ⟨h1, h2⟩
  · exact Or.inl ⟨h1, Or.inr ⟨hc, h2⟩⟩
  · exact Or.inr ⟨h1, fun q => q.elim (fun w => absurd w.1 (by omega)) (fun w => w.2 h2)⟩
theorem tal_y {r : Rw} {L K : Lw} {h p z : Int} (on : 0 ≤ L.vote) (g : (p = 1 ∧ oPas r L) ∨ (p = 0 ∧ ¬ oPas r L)) (hp : p = 1) (e : K = lPass L h) (hh : h = sHr r + 1) (hz : z = 1) : (K, z) = oTal r L := by
  subst hz
  subst hh
  exact iy on (cy (g.elim (fun q => q.2) (fun q => absurd q.1 (by omega))) (by rw [e]))
theorem tal_n {r : Rw} {L K : Lw} {p z : Int} (on : 0 ≤ L.vote) (g : (p = 1 ∧ oPas r L) ∨ (p = 0 ∧ ¬ oPas r L)) (hp : p = 0) (e : K = lEnd L) (hz : z = 0) : (K, z) = oTal r L := by
  subst hz
  exact iy on (cno (g.elim (fun q => absurd q.1 (by omega)) (fun q => q.2)) (by rw [e]))
theorem tal_of {r : Rw} {L K : Lw} {p h z : Int} (on : 0 ≤ L.vote) (g : (p = 1 ∧ oPas r L) ∨ (p = 0 ∧ ¬ oPas r L)) (e : K = if p = 1 then lPass L h else lEnd L) (hh : h = sHr r + 1) (hz : z = p) : (K, z) = oTal r L := by
  by_cases c : p = 1
  · rw [if_pos c] at e
    exact tal_y on g c e hh (by omega)
  · rw [if_neg c] at e
    exact tal_n on g (g.elim (fun q => absurd q.1 c) (fun q => q.1)) e (by rw [hz]; exact g.elim (fun q => absurd q.1 c) (fun q => q.1))
theorem cSd_no {I : fH} {p x : Int} (q : x = I 206 p.toNat) (h : x = -1000000005) : (cLw 0 I).said p.toNat ≠ 1 := by
  have e : (cLw 0 I).said p.toNat = 0 := if_pos (Or.inr (Or.inr (by rw [← h, q])))
  rw [e]
  decide
theorem cSd_yes {I : fH} {p x : Int} (q : x = I 206 p.toNat) (h : x ≠ -1000000005) (hp : 0 ≤ p ∧ p < 24) (on : 0 ≤ (cLw 0 I).vote) : (cLw 0 I).said p.toNat = 1 := if_neg (fun w => by
  rcases w with w | w | w
  · exact (cL_on on).1 w
  · omega
  · exact h (by rw [q]; exact w))
theorem mSd_of {I : fH} {p x : Int} (q : x = I 741 (874 + 6 * p.toNat)) (hp : 0 ≤ p ∧ p < 24) (on : 0 ≤ I 741 14) : (mLw 741 I).said p.toNat = x := by
  rw [q]
  exact if_neg (by omega)
theorem hold_z {L L' : Lw} {t x z : Int} (e : L' = lHold L t) (f : L'.fld t.toNat 1 = x) (hz : (x < 0 ∧ z = 0) ∨ (0 ≤ x ∧ z = 1)) : z = if L.fld t.toNat 1 < 0 then 0 else 1 := by
  subst e
  have f2 : L.fld t.toNat 1 = x := f
  rw [f2]
  rcases hz with ⟨a, b⟩ | ⟨a, b⟩
  · rw [if_pos a, b]
  · rw [if_neg (by omega), b]
theorem say_m {I K : fH} {p y z : Int} {q : Nat} (e : mLw 741 K = lSay (mLw 741 I) p y) (on : 0 ≤ I 741 14) (hz : z = K 741 q) (hq : (y = 1 ∧ q = 15) ∨ (y = 0 ∧ q = 16)) : z = if y = 1 then wr ((mLw 741 I).yes + 1) else wr ((mLw 741 I).no + 1) := by
  have v : (mLw 741 K).vote = (mLw 741 I).vote := by rw [e]; rfl
  have v2 : K 741 14 = I 741 14 := v
  have n : ¬ (K 741 14 < 0) := by omega
  have q1 : (mLw 741 K).yes = if y = 1 then wr ((mLw 741 I).yes + 1) else (mLw 741 I).yes := by rw [e]; rfl
  have q0 : (mLw 741 K).no = if y = 1 then (mLw 741 I).no else wr ((mLw 741 I).no + 1) := by rw [e]; rfl
  have w1 : (mLw 741 K).yes = K 741 15 := if_neg n
  have w0 : (mLw 741 K).no = K 741 16 := if_neg n
  rcases hq with ⟨a, b⟩ | ⟨a, b⟩
  · rw [if_pos a] at q1 ⊢
    rw [← q1, w1, hz, b]
  · rw [if_neg (by omega)] at q0 ⊢
    rw [← q0, w0, hz, b]
theorem mL_on {I : fH} (h : 0 ≤ I 741 14) : (mLw 741 I).yes = I 741 15 ∧ (mLw 741 I).no = I 741 16 := ⟨if_neg (by omega), if_neg (by omega)⟩

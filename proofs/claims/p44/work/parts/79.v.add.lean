set_option linter.all false
/-! the charter takes a text -/
def lF (key lv m : Int) (k : Nat) : Int := if k = 0 then key else if k = 1 ∨ k = 2 then -1 else if k = 3 then lv else if k = 4 then m else 0
def lAdd (L : Lw) (key lv : Int) (cd : List Int) : Lw := ((L.n + 1, L.vote, L.yes, L.no, L.bad), L.said, fun t k => if t = L.n.toNat then lF key lv (cd.length : Int) k else L.fld t k, fun t i => if t = L.n.toNat then cf cd i else L.code t i)
/-- what text answers, what becomes of the charter -/
def txL (tp : Nat → Int) (n : Int) (L : Lw) (z : Int) (L' : Lw) : Prop := ∃ (f : Int) (cd : List Int) (lv key : Int), cpX tp n f cd lv key ∧ ((f ≠ -1000000005 ∧ z = -100 - f ∧ L' = L) ∨ (f = -1000000005 ∧ L.n < 12 ∧ z = L.n ∧ L' = lAdd L key lv cd ∧ cd.length ≤ 96) ∨ (f = -1000000005 ∧ 12 ≤ L.n ∧ z = -1000000003 ∧ L' = L))
theorem txL_one {tp : Nat → Int} {n z z' : Int} {L L1 L2 : Lw} (h : txL tp n L z L1) (h' : txL tp n L z' L2) : z = z' ∧ L1 = L2 := by
  obtain ⟨f, cd, lv, key, a1, a2⟩ := h
  obtain ⟨f', cd', lv', key', b1, b2⟩ := h'
  have e := cpX_one a1 b1
  subst e
  rcases a2 with ⟨p1, p2, p3⟩ | ⟨p1, p2, p3, p4, p5⟩ | ⟨p1, p2, p3, p4⟩
  · rcases b2 with ⟨q1, q2, q3⟩ | ⟨q1, q2, q3, q4, q5⟩ | ⟨q1, q2, q3, q4⟩
    · exact ⟨by omega, by rw [p3, q3]⟩
    · exact absurd q1 p1
    · exact absurd q1 p1
  · rcases b2 with ⟨q1, q2, q3⟩ | ⟨q1, q2, q3, q4, q5⟩ | ⟨q1, q2, q3, q4⟩
    · exact absurd p1 q1
    · subst p1
      obtain ⟨e1, e2, e3⟩ := cpX_eq a1 b1
      exact ⟨by omega, by rw [p4, q4, e1, e2, e3]⟩
    · omega
  · rcases b2 with ⟨q1, q2, q3⟩ | ⟨q1, q2, q3, q4, q5⟩ | ⟨q1, q2, q3, q4⟩
    · exact absurd p1 q1
    · omega
    · exact ⟨by omega, by rw [p4, q4]⟩
theorem okL_add {L : Lw} {key lv : Int} {cd : List Int} (h : okL L) (n0 : 0 ≤ L.n) (w : wL key cd) (h1 : hL cd = 1) (l : cd.length ≤ 96) : okL (lAdd L key lv cd) := by
  intro t ht
  have ht2 : (t : Int) < L.n + 1 := ht
  by_cases c : t = L.n.toNat
  · have ef : ∀ k, (lAdd L key lv cd).fld t k = lF key lv (cd.length : Int) k := fun k => if_pos c
    have ec : (lAdd L key lv cd).code t = cf cd := funext (fun i => if_pos c)
    rw [ef, ef, ef, ef, ec]
    show ((0 ≤ ((cd.length : Nat) : Int) ∧ ((cd.length : Nat) : Int) ≤ 96) ∧ (-1 : Int) ≤ -1 ∧ (-1 : Int) ≤ -1) ∧ wfT (cf cd) ((cd.length : Nat) : Int).toNat ∧ ∀ i : Nat, (i : Int) < ((cd.length : Nat) : Int) → 0 ≤ cf cd i ∧ (10000 ≤ cf cd i → cf cd i < 20000 → nmK key (cf cd i - 10000).toNat = true) ∧ (20000 ≤ cf cd i → sgK (cf cd i - 20000) = true)
    rw [Int.toNat_natCast]
    refine ⟨⟨⟨by omega, by omega⟩, by decide, by decide⟩, ⟨fun i li => (wL_at w i li).2, by rw [ht_cf, h1]⟩, fun i li => (wL_at w i (by omega)).1⟩
  · have ef : ∀ k, (lAdd L key lv cd).fld t k = L.fld t k := fun k => if_neg c
    have ec : (lAdd L key lv cd).code t = L.code t := funext (fun i => if_neg c)
    rw [ef, ef, ef, ef, ec]
    exact h t (by omega)
theorem txL_ok {tp : Nat → Int} {n z : Int} {L L' : Lw} (hn : 0 ≤ n) (h : txL tp n L z L') (ok : okL L) (n0 : 0 ≤ L.n) : okL L' := by
  obtain ⟨f, cd, lv, key, a1, a2⟩ := h
  rcases a2 with ⟨p1, p2, p3⟩ | ⟨p1, p2, p3, p4, p5⟩ | ⟨p1, p2, p3, p4⟩
  · rw [p3]
    exact ok
  · subst p1
    obtain ⟨-, w1, w2⟩ := cpX_wl hn a1
    rw [p4]
    exact okL_add ok n0 w1 w2 p5
  · rw [p4]
    exact ok
/-- the class's -/
theorem cLw_add {I I1 I2 I3 I4 I5 I6 K : fH} {n key lv len v1 v2 n' : Int} {q : Nat} {B : Nat} (e1 : I1 = fupd I 188 q key) (e2 : I2 = fupd I1 189 q v1) (e3 : I3 = fupd I2 190 q v2) (e4 : I4 = fupd I3 191 q lv) (e5 : I5 = fupd I4 192 q len) (e6 : I6 = fcpy I5 701 0 B 0 96) (e7 : K = fupd I6 187 6 n') (hn : n = I 187 6) (hb : 0 ≤ n ∧ n < 12) (hq : q = n.toNat) (hB : B = 194 + n.toNat) (h1 : v1 = -1000000005) (h2 : v2 = -1000000005) (hn' : n' = n + 1) (on : -1 ≤ (cLw 0 I).vote ∧ (cLw 0 I).vote < n) (hl : 0 ≤ len ∧ len ≤ 96) : cLw 0 K = lAdd (cLw 0 I) key lv (rdl (I 701) len.toNat) := by
  subst hq
  subst hB
  subst h1
  subst h2
  subst hn'
  have O : ∀ a j, (a ≠ 187 ∨ j ≠ 6) → ((a < 188 ∨ 192 < a) ∨ j ≠ n.toNat) → a ≠ 194 + n.toNat → K a j = I a j := fun a j x1 x2 x3 => by
    rw [e7, fup_ne x1, fcpy_oth e6 x3, e5, fup_ne (by omega), e4, fup_ne (by omega), e3, fup_ne (by omega), e2, fup_ne (by omega), e1, fup_ne (by omega)]
  have k6 : K 187 6 = n + 1 := by rw [e7, fup_eq]
  have k7 : K 187 7 = I 187 7 := O _ _ (Or.inr (by decide)) (Or.inl (Or.inl (by decide))) (by omega)
  have k8 : K 187 8 = I 187 8 := O _ _ (Or.inr (by decide)) (Or.inl (Or.inl (by decide))) (by omega)
  have ks : ∀ j, K 206 j = I 206 j := fun j => O _ _ (Or.inl (by decide)) (Or.inl (Or.inr (by decide))) (by omega)
  have A : ∀ a, a ≠ 187 → a ≠ 194 + n.toNat → ∀ j, K a j = I5 a j := fun a x1 x2 j => by rw [e7, fup_ne (Or.inl x1), fcpy_oth e6 x2]
  have f0 : K 188 n.toNat = key := by rw [A _ (by decide) (by omega), e5, fup_ne (Or.inl (by decide)), e4, fup_ne (Or.inl (by decide)), e3, fup_ne (Or.inl (by decide)), e2, fup_ne (Or.inl (by decide)), e1, fup_eq]
  have f1 : K 189 n.toNat = -1000000005 := by rw [A _ (by decide) (by omega), e5, fup_ne (Or.inl (by decide)), e4, fup_ne (Or.inl (by decide)), e3, fup_ne (Or.inl (by decide)), e2, fup_eq]
  have f2 : K 190 n.toNat = -1000000005 := by rw [A _ (by decide) (by omega), e5, fup_ne (Or.inl (by decide)), e4, fup_ne (Or.inl (by decide)), e3, fup_eq]
  have f3 : K 191 n.toNat = lv := by rw [A _ (by decide) (by omega), e5, fup_ne (Or.inl (by decide)), e4, fup_eq]
  have f4 : K 192 n.toNat = len := by rw [A _ (by decide) (by omega), e5, fup_eq]
  have fc : ∀ i, i < 96 → K (194 + n.toNat) i = I 701 i := fun i l => by
    rw [e7, fup_ne (Or.inl (by omega)), fcpy_in e6 (by omega), e5, fup_ne (Or.inl (by decide)), e4, fup_ne (Or.inl (by decide)), e3, fup_ne (Or.inl (by decide)), e2, fup_ne (Or.inl (by decide)), e1, fup_ne (Or.inl (by decide))]
  have y : ∀ v, cYes 0 K v = cYes 0 I v := fun v => by
    have e : K 206 = I 206 := funext ks
    unfold cYes
    show (if K 187 7 = -1000000005 then 0 else cnt1 (K 206) v) = (if I 187 7 = -1000000005 then 0 else cnt1 (I 206) v)
    rw [k7, e]
  have b : cBd 0 K = cBd 0 I := by
    unfold cBd
    show (if K 187 7 = -1000000005 then (0 : Int) else if (K 187 8 = 0 ∧ K 189 (K 187 7).toNat = -1000000005) ∨ (K 187 8 = 1 ∧ K 189 (K 187 7).toNat ≠ -1000000005) then 0 else 1) = (if I 187 7 = -1000000005 then (0 : Int) else if (I 187 8 = 0 ∧ I 189 (I 187 7).toNat = -1000000005) ∨ (I 187 8 = 1 ∧ I 189 (I 187 7).toNat ≠ -1000000005) then 0 else 1)
    rw [k7, k8]
    by_cases x : I 187 7 = -1000000005
    · rw [if_pos x, if_pos x]
    · rw [if_neg x, if_neg x]
      by_cases x2 : (I 187 7).toNat = n.toNat
      · exfalso
        have v : -1 ≤ nv (I 187 7) ∧ nv (I 187 7) < n := on
        have w := nv_ne x v.1
        omega
      · rw [O 189 _ (Or.inl (by decide)) (Or.inr x2) (by omega)]
  have s : cSd 0 K = cSd 0 I := funext (fun p => by
    unfold cSd
    show (if K 187 7 = -1000000005 ∨ 24 ≤ p ∨ K 206 p = -1000000005 then (0 : Int) else 1) = (if I 187 7 = -1000000005 ∨ 24 ≤ p ∨ I 206 p = -1000000005 then 0 else 1)
    rw [k7, ks])
  have f : cFd 0 K = fun t k => if t = (cLw 0 I).n.toNat then lF key lv ((rdl (I 701) len.toNat).length : Int) k else (cLw 0 I).fld t k := funext (fun t => funext (fun k => by
    have en : (cLw 0 I).n = n := hn.symm
    rw [en]
    show (if (t : Int) < K 187 6 ∧ t < 12 then cFv 0 K t k else 0) = _
    rw [k6]
    by_cases c : t = n.toNat
    · subst c
      rw [if_pos ⟨by omega, by omega⟩, if_pos rfl, rdl_len]
      match k with
      | 0 => exact f0
      | 1 => exact (congrArg nv f1).trans nv_no
      | 2 => exact (congrArg nv f2).trans nv_no
      | 3 => exact f3
      | 4 => exact f4.trans (Int.toNat_of_nonneg hl.1).symm
      | k + 5 =>
        show (0 : Int) = (if k + 5 = 0 then key else if k + 5 = 1 ∨ k + 5 = 2 then -1 else if k + 5 = 3 then lv else if k + 5 = 4 then ((len.toNat : Nat) : Int) else 0)
        rw [if_neg (by omega), if_neg (by omega), if_neg (by omega), if_neg (by omega)]
    · rw [if_neg c]
      show (if (t : Int) < n + 1 ∧ t < 12 then cFv 0 K t k else 0) = (if (t : Int) < I 187 6 ∧ t < 12 then cFv 0 I t k else 0)
      rw [← hn]
      by_cases c2 : (t : Int) < n ∧ t < 12
      · rw [if_pos c2, if_pos ⟨by omega, c2.2⟩]
        match k with
        | 0 => exact O _ _ (Or.inl (by decide)) (Or.inr c) (by omega)
        | 1 => exact congrArg nv (O 189 _ (Or.inl (by decide)) (Or.inr c) (by omega))
        | 2 => exact congrArg nv (O 190 _ (Or.inl (by decide)) (Or.inr c) (by omega))
        | 3 => exact O _ _ (Or.inl (by decide)) (Or.inr c) (by omega)
        | 4 => exact O _ _ (Or.inl (by decide)) (Or.inr c) (by omega)
        | _ + 5 => rfl
      · rw [if_neg c2, if_neg (fun w => c2 ⟨by omega, w.2⟩)]))
  have g : cCd 0 K = fun t i => if t = (cLw 0 I).n.toNat then cf (rdl (I 701) len.toNat) i else (cLw 0 I).code t i := funext (fun t => funext (fun i => by
    have en : (cLw 0 I).n = n := hn.symm
    rw [en]
    show (if (((t : Int) < K 187 6 ∧ t < 12) ∧ (i : Int) < K 192 t) ∧ i < 96 then K (194 + t) i else 0) = _
    rw [k6]
    by_cases c : t = n.toNat
    · subst c
      rw [if_pos rfl, f4]
      by_cases l : (i : Int) < len
      · rw [if_pos ⟨⟨⟨by omega, by omega⟩, l⟩, by omega⟩, fc i (by omega)]
        exact (cf_rdl (by omega)).symm
      · rw [if_neg (fun w => l w.1.2)]
        exact (cf_out (by rw [rdl_len]; omega)).symm
    · rw [if_neg c]
      show _ = (if (((t : Int) < I 187 6 ∧ t < 12) ∧ (i : Int) < I 192 t) ∧ i < 96 then I (194 + t) i else 0)
      rw [← hn, O 192 t (Or.inl (by decide)) (Or.inr c) (by omega)]
      by_cases c2 : (((t : Int) < n ∧ t < 12) ∧ (i : Int) < I 192 t) ∧ i < 96
      · rw [if_pos c2, if_pos ⟨⟨⟨by omega, c2.1.1.2⟩, c2.1.2⟩, c2.2⟩]
        exact O _ _ (Or.inl (by omega)) (Or.inl (Or.inr (by omega))) (by omega)
      · rw [if_neg c2, if_neg (fun w => c2 ⟨⟨⟨by omega, w.1.1.2⟩, w.1.2⟩, w.2⟩)]))
  show ((K 187 6, nv (K 187 7), cYes 0 K 1, cYes 0 K 0, cBd 0 K), cSd 0 K, cFd 0 K, cCd 0 K) = ((I 187 6 + 1, nv (I 187 7), cYes 0 I 1, cYes 0 I 0, cBd 0 I), cSd 0 I, _, _)
  rw [k6, k7, y, y, b, s, f, g, hn]
/-- the reference's -/
theorem mLw_lo {I P : fH} {n : Int} (hn : n = I 741 9) (h : ∀ j : Nat, (j : Int) < 1215 + 200 * n → P 741 j = I 741 j) (n0 : 0 ≤ n) : mLw 741 P = mLw 741 I := by
  have e9 := h 9 (by omega)
  have e14 := h 14 (by omega)
  have a3 : (fun p => if P 741 14 < 0 ∨ 24 ≤ p then 0 else P 741 (874 + 6 * p)) = (fun p => if I 741 14 < 0 ∨ 24 ≤ p then 0 else I 741 (874 + 6 * p)) := funext (fun p => by
    rw [e14]
    by_cases c : I 741 14 < 0 ∨ 24 ≤ p
    · rw [if_pos c, if_pos c]
    · rw [if_neg c, if_neg c, h _ (by omega)])
  have a4 : mFd 741 P = mFd 741 I := funext (fun t => funext (fun k => by
    unfold mFd
    rw [e9]
    by_cases c : ((t : Int) < I 741 9 ∧ t < 12) ∧ k ≤ 4
    · rw [if_pos c, if_pos c, h _ (by omega)]
    · rw [if_neg c, if_neg c]))
  have a5 : mCd 741 P = mCd 741 I := funext (fun t => funext (fun i => by
    unfold mCd
    rw [e9]
    by_cases c0 : (t : Int) < I 741 9 ∧ t < 12
    · rw [h (1214 + 200 * t) (by omega)]
      by_cases c : (((t : Int) < I 741 9 ∧ t < 12) ∧ (i : Int) < I 741 (1214 + 200 * t)) ∧ i < 96
      · rw [if_pos c, if_pos c, h _ (by omega), h _ (by omega)]
      · rw [if_neg c, if_neg c]
    · rw [if_neg (fun q => c0 q.1.1), if_neg (fun q => c0 q.1.1)]))
  unfold mLw
  rw [a3, e9, e14, h 15 (by omega), h 16 (by omega), a4, a5]
theorem okE_lo {I P : fH} {n : Int} (hn : n = I 741 9) (h : ∀ j : Nat, (j : Int) < 1215 + 200 * n → P 741 j = I 741 j) (n0 : 0 ≤ n) (k : okE 741 I) : okE 741 P := by
  intro t i ht hi
  rw [h 9 (by omega)] at ht
  rw [h (1214 + 200 * t) (by omega)] at hi
  rw [h (1215 + 200 * t + 2 * i) (by omega), h (1215 + 200 * t + 2 * i + 1) (by omega)]
  exact k t i ht hi
theorem enc_of {w v : Int} (h : 0 ≤ rdc w v) : rdc w v = enc w v ∧ ((w = 0 ∧ 0 ≤ v ∧ v ≤ 9999) ∨ (w = 1 ∧ 97 ≤ v ∧ v ≤ 122) ∨ (w = 2 ∧ sgK v = true)) := by
  unfold rdc at h ⊢
  unfold enc
  by_cases a : w = 0 ∧ 0 ≤ v ∧ v ≤ 9999
  · rw [if_pos a, if_pos a.1]
    exact ⟨rfl, Or.inl a⟩
  · rw [if_neg a] at h ⊢
    by_cases b : w = 1 ∧ 97 ≤ v ∧ v ≤ 122
    · rw [if_pos b, if_neg (by omega), if_pos b.1]
      exact ⟨by omega, Or.inr (Or.inl b)⟩
    · rw [if_neg b] at h ⊢
      by_cases c : w = 2 ∧ (v = 33 ∨ rdG v ≠ 0)
      · rw [if_pos c, if_neg (by omega), if_neg (by omega)]
        refine ⟨rfl, Or.inr (Or.inr ⟨c.1, sgK_v ?_⟩)⟩
        rcases c.2 with q | q
        · exact Or.inl q
        · have := rdG_sg q
          omega
      · rw [if_neg c] at h
        omega
theorem wL_0 {key : Int} : ∀ {c : List Int}, wL key c → ∀ i, i < c.length → 0 ≤ cf c i := fun w i l => (wL_at w i l).1.1
theorem mLw_add {I P P1 P2 P3 P4 P5 K : fH} {n key lv m v1 v2 n' a1 a2 a3 a4 a5 : Int} (h : ∀ j : Nat, (j : Int) < 1215 + 200 * n → P 741 j = I 741 j) (e1 : P1 = fupd P 741 a1.toNat key) (e2 : P2 = fupd P1 741 a2.toNat v1) (e3 : P3 = fupd P2 741 a3.toNat v2) (e4 : P4 = fupd P3 741 a4.toNat lv) (e5 : P5 = fupd P4 741 a5.toNat m) (e6 : K = fupd P5 741 9 n') (ha : a1 = 1210 + 200 * n ∧ a2 = 1211 + 200 * n ∧ a3 = 1212 + 200 * n ∧ a4 = 1213 + 200 * n ∧ a5 = 1214 + 200 * n) (hn : n = I 741 9) (hb : 0 ≤ n ∧ n < 12) (h1 : v1 = -1) (h2 : v2 = -1) (hn' : n' = n + 1) (hm : 0 ≤ m ∧ m ≤ 96) (A : Int) (hA : A = 1215 + 200 * n) {kk : Int} (w : wL kk (rds (P 741) A m.toNat)) : mLw 741 K = lAdd (mLw 741 I) key lv (rds (P 741) A m.toNat) := by
  obtain ⟨b1, b2, b3, b4, b5⟩ := ha
  subst h1
  subst h2
  subst hn'
  subst hA
  have O : ∀ j : Nat, j ≠ 9 → ((j : Int) < 1210 + 200 * n ∨ 1214 + 200 * n < (j : Int)) → K 741 j = P 741 j := fun j x1 x2 => by
    rw [e6, fup_ne (Or.inr x1), e5, fup_ne (Or.inr (by omega)), e4, fup_ne (Or.inr (by omega)), e3, fup_ne (Or.inr (by omega)), e2, fup_ne (Or.inr (by omega)), e1, fup_ne (Or.inr (by omega))]
  have OI : ∀ j : Nat, j ≠ 9 → (j : Int) < 1210 + 200 * n → K 741 j = I 741 j := fun j x1 x2 => (O j x1 (Or.inl x2)).trans (h j (by omega))
  have k9 : K 741 9 = n + 1 := by rw [e6, fup_eq]
  have f0 : K 741 (1210 + 200 * n.toNat) = key := by
    rw [e6, fup_ne (Or.inr (by omega)), e5, fup_ne (Or.inr (by omega)), e4, fup_ne (Or.inr (by omega)), e3, fup_ne (Or.inr (by omega)), e2, fup_ne (Or.inr (by omega)), e1, show 1210 + 200 * n.toNat = a1.toNat by omega, fup_eq]
  have f1 : K 741 (1211 + 200 * n.toNat) = -1 := by
    rw [e6, fup_ne (Or.inr (by omega)), e5, fup_ne (Or.inr (by omega)), e4, fup_ne (Or.inr (by omega)), e3, fup_ne (Or.inr (by omega)), e2, show 1211 + 200 * n.toNat = a2.toNat by omega, fup_eq]
  have f2 : K 741 (1212 + 200 * n.toNat) = -1 := by
    rw [e6, fup_ne (Or.inr (by omega)), e5, fup_ne (Or.inr (by omega)), e4, fup_ne (Or.inr (by omega)), e3, show 1212 + 200 * n.toNat = a3.toNat by omega, fup_eq]
  have f3 : K 741 (1213 + 200 * n.toNat) = lv := by
    rw [e6, fup_ne (Or.inr (by omega)), e5, fup_ne (Or.inr (by omega)), e4, show 1213 + 200 * n.toNat = a4.toNat by omega, fup_eq]
  have f4 : K 741 (1214 + 200 * n.toNat) = m := by
    rw [e6, fup_ne (Or.inr (by omega)), e5, show 1214 + 200 * n.toNat = a5.toNat by omega, fup_eq]
  have g14 := OI 14 (by decide) (by omega)
  have s : (fun p => if K 741 14 < 0 ∨ 24 ≤ p then 0 else K 741 (874 + 6 * p)) = (fun p => if I 741 14 < 0 ∨ 24 ≤ p then 0 else I 741 (874 + 6 * p)) := funext (fun p => by
    rw [g14]
    by_cases c : I 741 14 < 0 ∨ 24 ≤ p
    · rw [if_pos c, if_pos c]
    · rw [if_neg c, if_neg c, OI _ (by omega) (by omega)])
  have f : mFd 741 K = fun t k => if t = (mLw 741 I).n.toNat then lF key lv ((rds (P 741) (1215 + 200 * n) m.toNat).length : Int) k else (mLw 741 I).fld t k := funext (fun t => funext (fun k => by
    have en : (mLw 741 I).n = n := hn.symm
    rw [en]
    show (if ((t : Int) < K 741 9 ∧ t < 12) ∧ k ≤ 4 then K 741 (1210 + 200 * t + k) else 0) = _
    rw [k9]
    by_cases c : t = n.toNat
    · subst c
      rw [if_pos rfl, rds_len]
      match k with
      | 0 => rw [if_pos (by omega)]; exact f0
      | 1 => rw [if_pos (by omega), show 1210 + 200 * n.toNat + 1 = 1211 + 200 * n.toNat by omega]; exact f1
      | 2 => rw [if_pos (by omega), show 1210 + 200 * n.toNat + 2 = 1212 + 200 * n.toNat by omega]; exact f2
      | 3 => rw [if_pos (by omega), show 1210 + 200 * n.toNat + 3 = 1213 + 200 * n.toNat by omega]; exact f3
      | 4 => rw [if_pos (by omega), show 1210 + 200 * n.toNat + 4 = 1214 + 200 * n.toNat by omega]; exact f4.trans (Int.toNat_of_nonneg hm.1).symm
      | k + 5 =>
        rw [if_neg (by omega)]
        show (0 : Int) = (if k + 5 = 0 then key else if k + 5 = 1 ∨ k + 5 = 2 then -1 else if k + 5 = 3 then lv else if k + 5 = 4 then ((m.toNat : Nat) : Int) else 0)
        rw [if_neg (by omega), if_neg (by omega), if_neg (by omega), if_neg (by omega)]
    · rw [if_neg c]
      show _ = (if ((t : Int) < I 741 9 ∧ t < 12) ∧ k ≤ 4 then I 741 (1210 + 200 * t + k) else 0)
      rw [← hn]
      by_cases c2 : ((t : Int) < n ∧ t < 12) ∧ k ≤ 4
      · rw [if_pos c2, if_pos ⟨⟨by omega, c2.1.2⟩, c2.2⟩]
        exact OI _ (by omega) (by omega)
      · rw [if_neg c2, if_neg (fun q => c2 ⟨⟨by omega, q.1.2⟩, q.2⟩)]))
  have ws := wL_0 w
  rw [rds_len] at ws
  have g : mCd 741 K = fun t i => if t = (mLw 741 I).n.toNat then cf (rds (P 741) (1215 + 200 * n) m.toNat) i else (mLw 741 I).code t i := funext (fun t => funext (fun i => by
    have en : (mLw 741 I).n = n := hn.symm
    rw [en]
    show (if (((t : Int) < K 741 9 ∧ t < 12) ∧ (i : Int) < K 741 (1214 + 200 * t)) ∧ i < 96 then enc (K 741 (1215 + 200 * t + 2 * i)) (K 741 (1215 + 200 * t + 2 * i + 1)) else 0) = _
    rw [k9]
    by_cases c : t = n.toNat
    · subst c
      rw [if_pos rfl, f4]
      by_cases l : (i : Int) < m
      · rw [if_pos ⟨⟨⟨by omega, by omega⟩, l⟩, by omega⟩, O _ (by omega) (by omega), O _ (by omega) (by omega)]
        have z := ws i (by omega)
        rw [cf_rds (by omega)] at z ⊢
        rw [(enc_of z).1, show (1215 + 200 * n + 2 * (i : Int)).toNat = 1215 + 200 * n.toNat + 2 * i by omega, show (1215 + 200 * n + 2 * (i : Int) + 1).toNat = 1215 + 200 * n.toNat + 2 * i + 1 by omega]
      · rw [if_neg (fun q => l q.1.2)]
        exact (cf_out (by rw [rds_len]; omega)).symm
    · rw [if_neg c]
      show _ = (if (((t : Int) < I 741 9 ∧ t < 12) ∧ (i : Int) < I 741 (1214 + 200 * t)) ∧ i < 96 then enc (I 741 (1215 + 200 * t + 2 * i)) (I 741 (1215 + 200 * t + 2 * i + 1)) else 0)
      rw [← hn]
      by_cases c1 : (t : Int) < n ∧ t < 12
      · rw [OI (1214 + 200 * t) (by omega) (by omega)]
        by_cases c2 : (((t : Int) < n ∧ t < 12) ∧ (i : Int) < I 741 (1214 + 200 * t)) ∧ i < 96
        · rw [if_pos c2, if_pos ⟨⟨⟨by omega, c2.1.1.2⟩, c2.1.2⟩, c2.2⟩, OI _ (by omega) (by omega), OI _ (by omega) (by omega)]
        · rw [if_neg c2, if_neg (fun q => c2 ⟨⟨⟨by omega, q.1.1.2⟩, q.1.2⟩, q.2⟩)]
      · rw [if_neg (fun q => c1 ⟨by omega, q.1.1.2⟩), if_neg (fun q => c1 q.1.1)]))
  show ((K 741 9, K 741 14, if K 741 14 < 0 then 0 else K 741 15, if K 741 14 < 0 then 0 else K 741 16, 0), (fun p => if K 741 14 < 0 ∨ 24 ≤ p then 0 else K 741 (874 + 6 * p)), mFd 741 K, mCd 741 K) = ((I 741 9 + 1, I 741 14, if I 741 14 < 0 then 0 else I 741 15, if I 741 14 < 0 then 0 else I 741 16, 0), (fun p => if I 741 14 < 0 ∨ 24 ≤ p then 0 else I 741 (874 + 6 * p)), _, _)
  rw [s, k9, g14, OI 15 (by decide) (by omega), OI 16 (by decide) (by omega), f, g, hn]
theorem okE_add {I P P1 P2 P3 P4 P5 K : fH} {n key lv m v1 v2 n' a1 a2 a3 a4 a5 : Int} (h : ∀ j : Nat, (j : Int) < 1215 + 200 * n → P 741 j = I 741 j) (e1 : P1 = fupd P 741 a1.toNat key) (e2 : P2 = fupd P1 741 a2.toNat v1) (e3 : P3 = fupd P2 741 a3.toNat v2) (e4 : P4 = fupd P3 741 a4.toNat lv) (e5 : P5 = fupd P4 741 a5.toNat m) (e6 : K = fupd P5 741 9 n') (ha : a1 = 1210 + 200 * n ∧ a2 = 1211 + 200 * n ∧ a3 = 1212 + 200 * n ∧ a4 = 1213 + 200 * n ∧ a5 = 1214 + 200 * n) (hn : n = I 741 9) (hb : 0 ≤ n ∧ n < 12) (hn' : n' = n + 1) (hm : 0 ≤ m ∧ m ≤ 96) (A : Int) (hA : A = 1215 + 200 * n) {kk : Int} (w : wL kk (rds (P 741) A m.toNat)) (k : okE 741 I) : okE 741 K := by
  obtain ⟨b1, b2, b3, b4, b5⟩ := ha
  subst hn'
  subst hA
  have O : ∀ j : Nat, j ≠ 9 → ((j : Int) < 1210 + 200 * n ∨ 1214 + 200 * n < (j : Int)) → K 741 j = P 741 j := fun j x1 x2 => by
    rw [e6, fup_ne (Or.inr x1), e5, fup_ne (Or.inr (by omega)), e4, fup_ne (Or.inr (by omega)), e3, fup_ne (Or.inr (by omega)), e2, fup_ne (Or.inr (by omega)), e1, fup_ne (Or.inr (by omega))]
  have OI : ∀ j : Nat, j ≠ 9 → (j : Int) < 1210 + 200 * n → K 741 j = I 741 j := fun j x1 x2 => (O j x1 (Or.inl x2)).trans (h j (by omega))
  have k9 : K 741 9 = n + 1 := by rw [e6, fup_eq]
  have f4 : K 741 (1214 + 200 * n.toNat) = m := by
    rw [e6, fup_ne (Or.inr (by omega)), e5, show 1214 + 200 * n.toNat = a5.toNat by omega, fup_eq]
  have ws := wL_0 w
  rw [rds_len] at ws
  intro t i ht hi
  rw [k9] at ht
  by_cases c : t = n.toNat
  · subst c
    rw [f4] at hi
    have z := ws i (by omega)
    rw [cf_rds (by omega)] at z
    have q := (enc_of z).2
    rw [show (1215 + 200 * n + 2 * (i : Int)).toNat = 1215 + 200 * n.toNat + 2 * i by omega, show (1215 + 200 * n + 2 * (i : Int) + 1).toNat = 1215 + 200 * n.toNat + 2 * i + 1 by omega] at q
    rw [O _ (by omega) (by omega), O _ (by omega) (by omega)]
    exact q
  · rw [OI (1214 + 200 * t) (by omega) (by omega)] at hi
    rw [OI _ (by omega) (by omega), OI _ (by omega) (by omega)]
    exact k t i ⟨by omega, ht.2⟩ hi
theorem cLw_u0 {I K : fH} {a j : Nat} {v : Int} (e : K = fupd I a j v) (h : a < 187 ∨ 206 < a) : cLw 0 K = cLw 0 I :=
  cLw_cg (by rw [e]; exact fup_ne (Or.inl (by omega))) (by rw [e]; exact fup_ne (Or.inl (by omega))) (by rw [e]; exact fup_ne (Or.inl (by omega))) (fun k j _ => by rw [e]; exact fup_ne (Or.inl (by omega))) (fun j => by rw [e]; exact fup_ne (Or.inl (by omega))) (fun t j _ _ => by rw [e]; exact fup_ne (Or.inl (by omega)))
theorem tx_bad {tp : Nat → Int} {n f z lv key : Int} {cd : List Int} {L L' : Lw} (h : cpX tp n f cd lv key) (hf : f ≠ -1000000005) (hz : z = -100 - f) (e : L' = L) : txL tp n L z L' := ⟨f, cd, lv, key, h, Or.inl ⟨hf, hz, e⟩⟩
theorem tx_c {I A B K : fH} {tp : Nat → Int} {n f v z : Int} (h : cpX tp n f (cdX A) (A 699 5) (A 699 2)) (hf : f = -1000000005) (e : B = fupd A 699 1 v) (eL : cLw 0 B = cLw 0 I) (g : (12 ≤ B 187 6 ∧ cLw 0 K = cLw 0 B) ∨ (B 187 6 < 12 ∧ cLw 0 K = lAdd (cLw 0 B) (B 699 2) (B 699 5) (rdl (B 701) (B 699 4).toNat))) (hz : (B 187 6 < 12 → z = B 187 6) ∧ (12 ≤ B 187 6 → z = -1000000003)) (hl : B 699 4 ≤ 96) : txL tp n (cLw 0 I) z (cLw 0 K) := by
  have b2 : B 699 2 = A 699 2 := by rw [e, fup_ne (Or.inr (by decide))]
  have b5 : B 699 5 = A 699 5 := by rw [e, fup_ne (Or.inr (by decide))]
  have b4 : B 699 4 = A 699 4 := by rw [e, fup_ne (Or.inr (by decide))]
  have b7 : B 701 = A 701 := funext (fun j => by rw [e, fup_ne (Or.inl (by decide))])
  have en : (cLw 0 I).n = B 187 6 := by
    rw [← eL]
    rfl
  refine ⟨f, cdX A, A 699 5, A 699 2, h, Or.inr ?_⟩
  rcases g with ⟨g1, g2⟩ | ⟨g1, g2⟩
  · exact Or.inr ⟨hf, by omega, hz.2 g1, by rw [g2, eL]⟩
  · refine Or.inl ⟨hf, by omega, by rw [en]; exact hz.1 g1, ?_, ?_⟩
    · rw [g2, eL, b2, b5, b7, b4]
    · show (rdl (A 701) (A 699 4).toNat).length ≤ 96
      rw [rdl_len]
      omega
theorem lo_of {I P : fH} (g : (I 741 9 < 12 → sBe I P (1215 + 200 * I 741 9) 0) ∧ (12 ≤ I 741 9 → sBe I P 4700 0)) (h : I 741 9 ≤ 12) : ∀ j : Nat, (j : Int) < 1215 + 200 * I 741 9 → P 741 j = I 741 j := fun j l => by
  by_cases c : I 741 9 < 12
  · exact g.1 c j (by omega)
  · exact g.2 (by omega) j (by omega)
theorem tx_m {I P P1 P2 P3 P4 P5 K : fH} {tp : Nat → Int} {n0 n key lv m v1 v2 n' a1 a2 a3 a4 a5 z : Int} (c : cpX tp n0 (-1000000005) (rds (P 741) (P 740 17) (P 740 16).toNat) (P 740 18) key) (n00 : 0 ≤ n0) (h : ∀ j : Nat, (j : Int) < 1215 + 200 * I 741 9 → P 741 j = I 741 j) (e1 : P1 = fupd P 741 a1.toNat key) (e2 : P2 = fupd P1 741 a2.toNat v1) (e3 : P3 = fupd P2 741 a3.toNat v2) (e4 : P4 = fupd P3 741 a4.toNat lv) (e5 : P5 = fupd P4 741 a5.toNat m) (e6 : K = fupd P5 741 9 n') (ha : a1 = 1210 + 200 * n ∧ a2 = 1211 + 200 * n ∧ a3 = 1212 + 200 * n ∧ a4 = 1213 + 200 * n ∧ a5 = 1214 + 200 * n) (hn : n = I 741 9) (hb : 0 ≤ n ∧ n < 12) (h1 : v1 = -1) (h2 : v2 = -1) (hn' : n' = n + 1) (hm : 0 ≤ m ∧ m ≤ 96) (hlv : lv = P 740 18) (hmm : m = P 740 16) (hA : P 740 17 = 1215 + 200 * n) (hz : z = n) (k : okE 741 I) : txL tp n0 (mLw 741 I) z (mLw 741 K) ∧ okE 741 K := by
  rw [← hn] at h
  obtain ⟨-, w, -⟩ := cpX_wl n00 c
  rw [← hmm] at c w
  have e := mLw_add h e1 e2 e3 e4 e5 e6 ha hn hb h1 h2 hn' hm (P 740 17) hA w
  refine ⟨⟨-1000000005, _, _, _, c, Or.inr (Or.inl ⟨rfl, ?_, ?_, by rw [e, hlv], ?_⟩)⟩, okE_add h e1 e2 e3 e4 e5 e6 ha hn hb hn' hm (P 740 17) hA w k⟩
  · show I 741 9 < 12
    omega
  · show z = I 741 9
    omega
  · rw [rds_len]
    omega
theorem tx_full {tp : Nat → Int} {n z lv key : Int} {cd : List Int} {L L' : Lw} (h : cpX tp n (-1000000005) cd lv key) (hn : 12 ≤ L.n) (hz : z = -1000000003) (e : L' = L) : txL tp n L z L' := ⟨_, cd, lv, key, h, Or.inr (Or.inr ⟨rfl, hn, hz, e⟩)⟩

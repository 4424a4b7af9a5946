set_option linter.all false
/-! new cells, locks, people, works; probes -/
theorem fl_S {J I1 K : fH} {a0 : Nat} {m m' i v : Int} (h : ∀ a j, I1 a j = if a = a0 ∧ j < m.toNat then v else J a j) (e : K = fupd I1 a0 i.toNat v) (hi : i = m) (hm : 0 ≤ m) (h' : m' = m + 1) : ∀ a j, K a j = if a = a0 ∧ j < m'.toNat then v else J a j := by
  intro a j
  rw [e]
  show (if a = a0 ∧ j = i.toNat then v else I1 a j) = _
  by_cases c : a = a0 ∧ j = i.toNat
  · rw [if_pos c, if_pos ⟨c.1, by omega⟩]
  · rw [if_neg c, h]
    by_cases c2 : a = a0 ∧ j < m.toNat
    · rw [if_pos c2, if_pos ⟨c2.1, by omega⟩]
    · rw [if_neg c2, if_neg (fun q => (Decidable.em (j = i.toNat)).elim (fun w => c ⟨q.1, w⟩) (fun w => c2 ⟨q.1, by have q2 := q.2; omega⟩))]
theorem fl_0 {J : fH} {a0 : Nat} {m v : Int} (hm : m = 0) : ∀ a j, J a j = if a = a0 ∧ j < m.toNat then v else J a j := fun a j => (if_neg (fun q => by have q1 := q.2; omega)).symm
theorem fl_E {J K : fH} {a0 b0 n : Nat} {m v w : Int} (h : ∀ a j, K a j = if a = a0 ∧ j < m.toNat then v else J a j) (ha : a0 = b0) (hv : v = w) (hm : m.toNat = n) : ∀ a j, K a j = if a = b0 ∧ j < n then w else J a j := by
  subst ha
  subst hv
  subst hm
  exact h
theorem rwAJ_ai {c k : Nat} (hc : c < 20) (hk : k < 5) : (rwAJ (31 + 20 * c + k) = (6 + c, k) ∧ covb (31 + 20 * c + k) = true) ∧ (rwAJ (37 + 20 * c + k) = (27 + c, k) ∧ covb (37 + 20 * c + k) = true) := by
  have q : (List.range 20).all (fun c => (List.range 5).all (fun k => (decide (rwAJ (31 + 20 * c + k) = (6 + c, k)) && covb (31 + 20 * c + k)) && (decide (rwAJ (37 + 20 * c + k) = (27 + c, k)) && covb (37 + 20 * c + k)))) = true := by decide +kernel
  have e := Bool.and_eq_true_iff.mp (List.all_eq_true.mp (List.all_eq_true.mp q c (List.mem_range.mpr hc)) k (List.mem_range.mpr hk))
  have e1 := Bool.and_eq_true_iff.mp e.1
  have e2 := Bool.and_eq_true_iff.mp e.2
  exact ⟨⟨of_decide_eq_true e1.1, e1.2⟩, of_decide_eq_true e2.1, e2.2⟩
theorem rw_inv2 {q : Nat} (h : covb q = true) : (6 ≤ (rwAJ q).1 ∧ (rwAJ q).1 ≤ 25 → q = 31 + 20 * ((rwAJ q).1 - 6) + (rwAJ q).2 ∧ (rwAJ q).2 < 5) ∧ (27 ≤ (rwAJ q).1 ∧ (rwAJ q).1 ≤ 46 → q = 37 + 20 * ((rwAJ q).1 - 27) + (rwAJ q).2 ∧ (rwAJ q).2 < 5) := by
  have t : (List.range 4330).all (fun q => !covb q || (decide (6 ≤ (rwAJ q).1 ∧ (rwAJ q).1 ≤ 25 → q = 31 + 20 * ((rwAJ q).1 - 6) + (rwAJ q).2 ∧ (rwAJ q).2 < 5) && decide (27 ≤ (rwAJ q).1 ∧ (rwAJ q).1 ≤ 46 → q = 37 + 20 * ((rwAJ q).1 - 27) + (rwAJ q).2 ∧ (rwAJ q).2 < 5))) = true := by decide +kernel
  have e := Bool.and_eq_true_iff.mp (bor_of (List.all_eq_true.mp t q (List.mem_range.mpr (covb_lt h))) h)
  exact ⟨of_decide_eq_true e.1, of_decide_eq_true e.2⟩
/-- a row of a cell is filled -/
theorem cR_fl {d a b c : Nat} {I K : fH} {a0 : Nat} {v p : Int} (hab : (a = 6 ∧ b = 31) ∨ (a = 27 ∧ b = 37)) (e : ∀ a' j, K a' j = if a' = a0 ∧ j < 5 then v else I a' j) (ha : a0 = a + c + d) (hc : c < 20) (hp : p = (b : Int) + 20 * (c : Int)) : cR d K = cpy (cR d I) p (fun _ => v) 5 := by
  subst hp
  subst ha
  have ho : ∀ a' j, a' ≠ a + c → K (a' + d) j = I (a' + d) j := fun a' j h => (e _ _).trans (if_neg (fun q => h (by have q1 := q.1; omega)))
  have hw : ∀ j, j < 5 → K (a + c + d) j = v := fun j h => (e _ _).trans (if_pos ⟨rfl, h⟩)
  have hk : ∀ k, k < 5 → rwAJ (b + 20 * c + k) = (a + c, k) ∧ covb (b + 20 * c + k) = true := fun k h => by
    rcases hab with ⟨ha, hb⟩ | ⟨ha, hb⟩
    · subst ha
      subst hb
      exact (rwAJ_ai hc h).1
    · subst ha
      subst hb
      exact (rwAJ_ai hc h).2
  funext q
  by_cases cr : b + 20 * c ≤ q ∧ q < b + 20 * c + 5
  · obtain ⟨k, rfl⟩ : ∃ k, q = b + 20 * c + k := ⟨q - (b + 20 * c), by omega⟩
    obtain ⟨e1, e2⟩ := hk k (by omega)
    rw [cpy_at ⟨by omega, by omega⟩]
    unfold cR
    rw [if_pos e2, e1, if_neg (show ¬ (a + c = 175) by omega), if_neg (show ¬ (48 ≤ a + c ∧ a + c ≤ 67) by omega)]
    exact hw k (by omega)
  · rw [cpy_ne (by omega)]
    by_cases cq : covb q = true
    · have ne : (rwAJ q).1 ≠ a + c := fun w => cr (by
        rcases hab with ⟨ha, hb⟩ | ⟨ha, hb⟩
        · have t := (rw_inv2 cq).1 (by omega)
          omega
        · have t := (rw_inv2 cq).2 (by omega)
          omega)
      unfold cR
      rw [if_pos cq, if_pos cq]
      by_cases s1 : (rwAJ q).1 = 175
      · rw [if_pos s1, if_pos s1, ho 175 _ (by omega)]
      · rw [if_neg s1, if_neg s1]
        by_cases s2 : 48 ≤ (rwAJ q).1 ∧ (rwAJ q).1 ≤ 67
        · rw [if_pos s2, if_pos s2, ho _ 5 ne, ho _ _ ne]
        · rw [if_neg s2, if_neg s2, ho _ _ ne]
    · have l1 : cR d K q = 0 := if_neg cq
      have l2 : cR d I q = 0 := if_neg cq
      rw [l1, l2]
/-- KNOWN of a cell is nothing -/
theorem cR_hn {d c : Nat} {I K : fH} {a0 : Nat} {v n : Int} (e : ∀ a' j, K a' j = if a' = a0 ∧ j < 6 then v else I a' j) (hv : v = -1000000005) (ha : a0 = 48 + c + d) (hc : c < 20) (hn : n = (c : Int)) : cR d K = sKn (cR d I) n (fun _ => 0) (-1) := by
  subst hn
  subst ha
  have ho : ∀ a' j', a' ≠ 48 + c → K (a' + d) j' = I (a' + d) j' := fun a' j h => (e _ _).trans (if_neg (fun q => h (by have q1 := q.1; omega)))
  have hw : ∀ j, j < 6 → K (48 + c + d) j = -1000000005 := fun j h => ((e _ _).trans (if_pos ⟨rfl, h⟩)).trans hv
  have h5 := hw 5 (by decide)
  funext q
  by_cases cq : covb q = true
  · by_cases e : (rwAJ q).1 = 48 + c
    · obtain ⟨e1, e2⟩ := (rw_inv cq).1 (by omega)
      rw [e] at e1
      have l : cR d K q = if (rwAJ q).2 = 5 then -1 else 0 := by
        unfold cR
        rw [if_pos cq, if_neg (show ¬ (rwAJ q).1 = 175 by omega), if_pos (show 48 ≤ (rwAJ q).1 ∧ (rwAJ q).1 ≤ 67 by omega), e, if_pos h5, if_pos (show K (48 + c + d) (rwAJ q).2 = -1000000005 from hw _ e2)]
      rw [l]
      unfold sKn
      by_cases e5 : (rwAJ q).2 = 5
      · rw [if_pos e5, rud_at (by omega)]
      · rw [if_neg e5, rud_no (by omega), cpy_at ⟨by omega, by omega⟩]
    · have l : cR d K q = cR d I q := by
        unfold cR
        rw [if_pos cq, if_pos cq]
        by_cases s1 : (rwAJ q).1 = 175
        · rw [if_pos s1, if_pos s1, ho 175 _ (by omega)]
        · rw [if_neg s1, if_neg s1]
          by_cases s2 : 48 ≤ (rwAJ q).1 ∧ (rwAJ q).1 ≤ 67
          · rw [if_pos s2, if_pos s2, ho _ 5 e, ho _ _ e]
          · rw [if_neg s2, if_neg s2, ho _ _ e]
      rw [l]
      unfold sKn
      have no : ¬ (42 + 20 * c ≤ q ∧ q < 48 + 20 * c) := fun w => by
        have e1 := (rwAJ_kn (c := c) (k := q - (42 + 20 * c)) hc (by omega)).1
        rw [show 42 + 20 * c + (q - (42 + 20 * c)) = q by omega] at e1
        exact e (by rw [e1])
      rw [rud_no (by omega), cpy_ne (by omega)]
  · have l1 : cR d K q = 0 := if_neg cq
    have l2 : cR d I q = 0 := if_neg cq
    have no : ¬ (42 + 20 * c ≤ q ∧ q < 48 + 20 * c) := fun w => by
      have e1 := (rwAJ_kn (c := c) (k := q - (42 + 20 * c)) hc (by omega)).2
      rw [show 42 + 20 * c + (q - (42 + 20 * c)) = q by omega] at e1
      exact cq e1
    unfold sKn
    rw [l1, rud_no (by omega), cpy_ne (by omega), l2]
theorem rud_c {R R' : Rw} {p q v w : Int} (hr : R = R') (hp : p = q) (hv : v = w) : rud R p v = rud R' q w := by rw [hr, hp, hv]
theorem cpy_0' {r : Rw} {lo : Int} {g : Nat → Int} {m : Int} (h : m ≤ 0) : r = cpy r lo g m.toNat := by
  rw [show m.toNat = 0 by omega]
  exact cpy_0.symm
theorem ci_y {C : Prop} {A B : Rw × Int} {R : Rw} {z : Int} (h : C) (e : (R, z) = A) : (R, z) = cI C A B := by rw [cI_pos h, e]
theorem ci_n {C : Prop} {A B : Rw × Int} {R : Rw} {z : Int} (h : ¬ C) (e : (R, z) = B) : (R, z) = cI C A B := by rw [cI_neg h, e]
theorem mwo_k {x : Int} (h : 0 ≤ x ∧ x < 24) : covb (530 + 14 * x).toNat = true := rwD_of (i0 := 530) (i1 := 852) (m := 14) (q := 0) (by decide +kernel) (by omega)
def zmn (m k : Int) : Int := if m ≤ k then m else k
theorem mR_un {I K : fH} {k : Nat} {v : Int} (e : K = fupd I 741 k v) (h : covb k = false) : mR K = mR I := by
  funext q
  show (if covb q = true then K 741 q else 0) = (if covb q = true then I 741 q else 0)
  by_cases w : covb q = true
  · rw [if_pos w, if_pos w, e]
    exact if_neg (fun u => by rw [u.2, h] at w; cases w)
  · rw [if_neg w, if_neg w]
theorem mce_cov {n k : Nat} (hn : n < 20) (hk : k < 20) : covb (30 + 20 * n + k) = decide (k < 18) := by
  have q : (List.range 20).all (fun n => (List.range 20).all (fun k => decide (covb (30 + 20 * n + k) = decide (k < 18)))) = true := by decide +kernel
  exact of_decide_eq_true (List.all_eq_true.mp (List.all_eq_true.mp q n (List.mem_range.mpr hn)) k (List.mem_range.mpr hk))
theorem mce_S {r : Rw} {I1 K : fH} {n p m m' i v : Int} (h : mR I1 = cpy r p (fun _ => 0) (zmn m 18).toNat) (e : K = fupd I1 741 i.toNat v) (hi : i = p + m) (hp : p = 30 + 20 * n) (hn : 0 ≤ n ∧ n < 20) (hm : 0 ≤ m ∧ m < 20) (hm' : m' = m + 1) (hv : v = 0) : mR K = cpy r p (fun _ => 0) (zmn m' 18).toNat := by
  have hc := mce_cov (n := n.toNat) (k := m.toNat) (by omega) (by omega)
  rw [show 30 + 20 * n.toNat + m.toNat = i.toNat by omega] at hc
  by_cases c : m < 18
  · rw [decide_eq_true (show m.toNat < 18 by omega)] at hc
    rw [mR_st e hc, h, show zmn m 18 = m from if_pos (by omega), show zmn m' 18 = m' from if_pos (by omega), show m'.toNat = m.toNat + 1 by omega]
    exact cpy_S (by omega) (by omega) hv
  · rw [decide_eq_false (show ¬ m.toNat < 18 by omega)] at hc
    rw [mR_un e hc, h]
    congr 1
    unfold zmn
    split <;> split <;> omega
theorem mwo_cov {n k : Nat} (hn : n < 24) (hk : k < 14) : covb (530 + 14 * n + k) = decide (k < 13) := by
  have q : (List.range 24).all (fun n => (List.range 14).all (fun k => decide (covb (530 + 14 * n + k) = decide (k < 13)))) = true := by decide +kernel
  exact of_decide_eq_true (List.all_eq_true.mp (List.all_eq_true.mp q n (List.mem_range.mpr hn)) k (List.mem_range.mpr hk))
theorem mwo_S {r : Rw} {I1 K : fH} {n p m m' i v : Int} (h : mR I1 = cpy r p (fun _ => 0) (zmn m 13).toNat) (e : K = fupd I1 741 i.toNat v) (hi : i = p + m) (hp : p = 530 + 14 * n) (hn : 0 ≤ n ∧ n < 24) (hm : 0 ≤ m ∧ m < 14) (hm' : m' = m + 1) (hv : v = 0) : mR K = cpy r p (fun _ => 0) (zmn m' 13).toNat := by
  have hc := mwo_cov (n := n.toNat) (k := m.toNat) (by omega) (by omega)
  rw [show 530 + 14 * n.toNat + m.toNat = i.toNat by omega] at hc
  by_cases c : m < 13
  · rw [decide_eq_true (show m.toNat < 13 by omega)] at hc
    rw [mR_st e hc, h, show zmn m 13 = m from if_pos (by omega), show zmn m' 13 = m' from if_pos (by omega), show m'.toNat = m.toNat + 1 by omega]
    exact cpy_S (by omega) (by omega) hv
  · rw [decide_eq_false (show ¬ m.toNat < 13 by omega)] at hc
    rw [mR_un e hc, h]
    congr 1
    unfold zmn
    split <;> split <;> omega
def oNewC (r : Rw) (v : Int) : Rw × Int := if gt r 5 < 20 then (oCell1 r v, gt r 5) else (r, cFULL)
def oNewL (r : Rw) (a b v : Int) : Rw × Int := if gt r 6 < 24 then (rud (rud (rud (rud (rud r (430 + 4 * gt r 6) a) (431 + 4 * gt r 6) b) (432 + 4 * gt r 6) v) (433 + 4 * gt r 6) 0) 6 (gt r 6 + 1), gt r 6) else (r, cFULL)
def oNewW (r : Rw) (k c m a b : Int) : Rw × Int := if gt r 7 < 24 then (oWork1 r k c m a b, gt r 7) else (r, cFULL)
def oLock (r : Rw) (a b v : Int) : Rw × Int := if oC r a ∧ oC r b ∧ a ≠ b ∧ 1 ≤ v ∧ v ≤ 9 then oNewL r a b v else (r, cBAD)
def oCell (r : Rw) (v : Int) : Rw × Int := if 1 ≤ v ∧ v ≤ 999 then oNewC r v else (r, cBAD)
noncomputable def oWork (r : Rw) (k c m a b : Int) : Rw × Int := cI ((oC r c ∧ 1 ≤ m ∧ m ≤ 9999) ∧ wFit (gt r 7) (gt r (530 + 14 * a)) k a b) (oNewW r k c m a b) (r, cBAD)
section NEW
variable {r R : Rw} {a b c k n m p q v w x z t v1 v2 v3 v4 v5 v6 v7 v8 v9 u1 u2 u3 u4 u5 p1 p2 p3 p4 p5 p6 p7 p8 p9 q1 q2 q3 q4 q5 : Int}
theorem mce_end (h : R = cpy r p (fun _ => 0) (zmn m 18).toNat) (hm : m = 20) (hp : p = 30 + 20 * gt r 5) (h1 : p1 = p) (e1 : v1 = v) (h2 : p2 = p + 17) (e2 : v2 = -1) (h3 : p3 = 5) (e3 : v3 = gt r 5 + 1) : rud (rud (rud R p1 v1) p2 v2) p3 v3 = oCell1 r v := by
  rw [h, hm, h1, e1, show p2 = 47 + 20 * gt r 5 by omega, e2, h3, e3, hp]
  rfl
theorem mwo_end (h : R = cpy r p (fun _ => 0) (zmn m 13).toNat) (hm : m = 14) (hp : p = 530 + 14 * gt r 7) (h1 : p1 = p) (e1 : v1 = k) (h2 : p2 = p + 1) (e2 : v2 = c) (h3 : p3 = p + 2) (e3 : v3 = n) (h4 : p4 = p + 3) (e4 : v4 = 1) (h5 : p5 = p + 5) (e5 : v5 = a) (h6 : p6 = p + 6) (e6 : v6 = b) (h7 : p7 = p + 9) (e7 : v7 = -1) (h8 : p8 = 7) (e8 : v8 = gt r 7 + 1) : rud (rud (rud (rud (rud (rud (rud (rud R p1 v1) p2 v2) p3 v3) p4 v4) p5 v5) p6 v6) p7 v7) p8 v8 = oWork1 r k c n a b := by
  rw [h, hm, h1, e1, show p2 = 531 + 14 * gt r 7 by omega, e2, show p3 = 532 + 14 * gt r 7 by omega, e3, show p4 = 533 + 14 * gt r 7 by omega, e4, show p5 = 535 + 14 * gt r 7 by omega, e5, show p6 = 536 + 14 * gt r 7 by omega, e6, show p7 = 539 + 14 * gt r 7 by omega, e7, h8, e8, hp]
  rfl
theorem ce_cl (hn : n = gt r 5) (h0 : 0 ≤ n) (h1 : p1 = 30 + 20 * n) (e1 : v1 = v) (h2 : p2 = 36 + 20 * n) (e2 : v2 = 0) (h3 : p3 = 31 + 20 * n) (h4 : p4 = 37 + 20 * n) (h5 : q = n) (h6 : p6 = 5) (e6 : v6 = n + 1) : rud (sKn (cpy (cpy (rud (rud r p1 v1) p2 v2) p3 (fun _ => 0) 5) p4 (fun _ => 0) 5) q (fun _ => 0) (-1)) p6 v6 = oCell1 r v := by
  unfold oCell1 sKn
  rw [← hn, h1, e1, h2, e2, h3, h4, h5, h6, e6]
  funext j
  by_cases c0 : (j : Int) = 5
  · rw [rud_at c0, rud_at c0]
  rw [rud_no c0, rud_no c0]
  by_cases c1 : (j : Int) = 47 + 20 * n
  · rw [rud_at c1, rud_at c1]
  rw [rud_no c1, rud_no c1]
  by_cases c2 : (j : Int) = 30 + 20 * n
  · simp (disch := omega) only [rud_at, rud_no, cpy_ne]
  by_cases c3 : 30 + 20 * n < (j : Int) ∧ (j : Int) < 47 + 20 * n
  · rw [rud_no c2, cpy_at (lo := 30 + 20 * n) ⟨by omega, by omega⟩]
    by_cases c4 : (j : Int) = 36 + 20 * n
    · simp (disch := omega) only [rud_at, cpy_ne]
    by_cases c5 : (j : Int) < 36 + 20 * n
    · simp (disch := omega) only [cpy_at, cpy_ne]
    by_cases c6 : (j : Int) < 42 + 20 * n
    · simp (disch := omega) only [cpy_at, cpy_ne]
    · simp (disch := omega) only [cpy_at, cpy_ne]
  · simp (disch := omega) only [rud_no, cpy_ne]
theorem wo_cl (hn : n = gt r 7) (h0 : 0 ≤ n) : rud (rud (rud (rud (rud (rud (rud (rud (rud (rud (rud (rud (rud (rud r (530 + 14 * n) k) (531 + 14 * n) c) (532 + 14 * n) m) (533 + 14 * n) 1) (534 + 14 * n) 0) (541 + 14 * n) 0) (542 + 14 * n) 0) (535 + 14 * n) a) (536 + 14 * n) b) (537 + 14 * n) 0) (538 + 14 * n) 0) (539 + 14 * n) (-1)) (540 + 14 * n) 0) 7 (n + 1) = oWork1 r k c m a b := by
  unfold oWork1
  rw [← hn]
  funext j
  by_cases c0 : (j : Int) = 7
  · rw [rud_at c0, rud_at c0]
  rw [rud_no c0, rud_no c0]
  by_cases cr : 530 + 14 * n ≤ (j : Int) ∧ (j : Int) < 543 + 14 * n
  · have cs : (j : Int) = 530 + 14 * n ∨ (j : Int) = 531 + 14 * n ∨ (j : Int) = 532 + 14 * n ∨ (j : Int) = 533 + 14 * n ∨ (j : Int) = 534 + 14 * n ∨ (j : Int) = 535 + 14 * n ∨ (j : Int) = 536 + 14 * n ∨ (j : Int) = 537 + 14 * n ∨ (j : Int) = 538 + 14 * n ∨ (j : Int) = 539 + 14 * n ∨ (j : Int) = 540 + 14 * n ∨ (j : Int) = 541 + 14 * n ∨ (j : Int) = 542 + 14 * n := by omega
    rcases cs with c1 | c1 | c1 | c1 | c1 | c1 | c1 | c1 | c1 | c1 | c1 | c1 | c1 <;> simp (disch := omega) only [rud_at, rud_no, cpy_at]
  · simp (disch := omega) only [rud_no, cpy_ne]
/-- why a probe can't be dropped -/
theorem st_b (h : ¬ oW r w) (e : z = cBAD) : z = oStop r w := by
  unfold oStop
  rw [if_neg h, e]
theorem st_k (h : oW r w) (hk : gt r (530 + 14 * w) ≠ 6) (e : z = cKIND) : z = oStop r w := by
  unfold oStop
  rw [if_pos h, if_pos hk, e]
theorem st_n (h : oW r w) (hk : gt r (530 + 14 * w) = 6) (o : gt r (538 + 14 * w) = 1 ∨ 0 ≤ gt r (539 + 14 * w)) (e : z = cNO) : z = oStop r w := by
  unfold oStop
  rw [if_pos h, if_neg (fun q => q hk), if_pos o, e]
theorem st_0 (h : oW r w) (hk : gt r (530 + 14 * w) = 6) (o : ¬ (gt r (538 + 14 * w) = 1 ∨ 0 ≤ gt r (539 + 14 * w))) (e : z = 0) : z = oStop r w := by
  unfold oStop
  rw [if_pos h, if_neg (fun q => q hk), if_neg o, e]
theorem dr_n (e : t = oStop r w) (h : t ≠ 0) (hz : z = t) : (r, z) = oDrop r w := by
  unfold oDrop
  rw [if_pos (by rw [← e]; exact h), hz, e]
theorem dr_y (e : t = oStop r w) (h : t = 0) (hR : R = rud r (539 + 14 * w) (sLv r)) (hz : z = sLv r) : (R, z) = oDrop r w := by
  unfold oDrop
  rw [if_neg (fun q => q (by rw [← e]; exact h)), hR, hz]
theorem lv_ne (e : z = sLv (rud r p v)) (h : p ≠ 1) : z = sLv r := by
  rw [e]
  unfold sLv
  rw [gt_ne (by decide) (fun q => h q.symm)]
/-- minutes till a probe is lost -/
def nl (l : Int) : Int := if 0 < l then l - 1 else l
def nDep (r : Rw) (a : Int) : Nat → Int → Int → Int → Int
  | 0, _, _, _ => 1000
  | n + 1, i, l, f => if a < f + gt r (1081 + nl l) then i else nDep r a n (i + 1) (nl l) (f + gt r (1081 + nl l))
def oDepth (r : Rw) (w : Int) : Int := if oStop r w ≠ 0 then oStop r w else nDep r (gt r (535 + 14 * w)) 1000 1 (sLv r) 0
theorem dp_n (e : t = oStop r w) (h : t ≠ 0) (hz : z = t) : z = oDepth r w := by
  unfold oDepth
  rw [if_pos (by rw [← e]; exact h), hz, e]
theorem dp_y (e : t = oStop r w) (h : t = 0) (hz : z = nDep r x 1000 1 (sLv r) 0) (hx : x = gt r p) (hp : p = 535 + 14 * w) : z = oDepth r w := by
  unfold oDepth
  rw [if_neg (fun q => q (by rw [← e]; exact h)), hz, hx, hp]
theorem nD_z {i l f : Int} {N : Int} (h : N = nDep r a (1001 - i).toNat i l f) (hi : i = 1001) (hz : z = 1000) : z = N := by
  rw [h, hi, hz]
  rfl
theorem nD_S {i i' l l' f f' N x : Int} (h : N = nDep r a (1001 - i).toNat i l f) (hi : 1 ≤ i ∧ i ≤ 1000) (hl : l' = nl l) (hx : x = gt r p) (hp : p = 1081 + l') (hf : f' = f + x) (hc : ¬ a < f') (hi' : i' = i + 1) : N = nDep r a (1001 - i').toNat i' l' f' := by
  rw [h, show (1001 - i).toNat = (1001 - i').toNat + 1 by omega]
  show (if a < f + gt r (1081 + nl l) then i else nDep r a (1001 - i').toNat (i + 1) (nl l) (f + gt r (1081 + nl l))) = _
  rw [← hl, ← hp, ← hx, ← hf, if_neg hc, hi']
theorem nD_T {i l l' f f' N x : Int} (h : N = nDep r a (1001 - i).toNat i l f) (hi : 1 ≤ i ∧ i ≤ 1000) (hl : l' = nl l) (hx : x = gt r p) (hp : p = 1081 + l') (hf : f' = f + x) (hc : a < f') (hz : z = i) : z = N := by
  rw [h, show (1001 - i).toNat = (1000 - i).toNat + 1 by omega]
  show _ = (if a < f + gt r (1081 + nl l) then i else nDep r a (1000 - i).toNat (i + 1) (nl l) (f + gt r (1081 + nl l)))
  rw [← hl, ← hp, ← hx, ← hf, if_pos hc, hz]
/-- what is told of works, people, cells -/
def orN (v : Int) : Int := if v < 0 then -1000000005 else v
def oTell (r : Rw) (w k : Int) : Int := if 0 ≤ k ∧ k ≤ 10 then (if k = 9 then orN (gt r (539 + 14 * w)) else gt r (530 + 14 * w + k)) else cBAD
def oHas (r : Rw) (w k : Int) : Int := if oW r w then oTell r w k else cBAD
abbrev asOk (k x : Int) : Prop := k = 0 ∨ k = x ∨ (k = 3 ∧ x = 4) ∨ (k = 1 ∧ x = 5)
def oAs (r : Rw) (w k : Int) : Int := if oW r w ∧ 0 ≤ k ∧ k ≤ 6 then (if asOk k (gt r (530 + 14 * w)) then gt r (535 + 14 * w) else cKIND) else cBAD
noncomputable def oIs (r : Rw) (p k : Int) : Int := if oP r p ∧ 0 ≤ k ∧ k ≤ 4 then (if k = 4 then cI (sDd r p) 1 0 else gt r (870 + 6 * p + k)) else cBAD
def oKnown (r : Rw) (c k : Int) : Int := if oC r c ∧ 0 ≤ k ∧ k ≤ 5 then (if gt r (47 + 20 * c) < 0 then cNONE else gt r (42 + 20 * c + k)) else cBAD
theorem if_y {C : Prop} [Decidable C] {x y z : Int} (h : C) (e : z = x) : z = if C then x else y := by rw [if_pos h, e]
theorem if_n {C : Prop} [Decidable C] {x y z : Int} (h : ¬ C) (e : z = y) : z = if C then x else y := by rw [if_neg h, e]
theorem gt_to (hx : x = gt r p) (h : p = q) : x = gt r q := by rw [hx, h]
theorem tl_9 (hk : k = 9) (h : z = orN (gt r (539 + 14 * w))) : z = oTell r w k := by
  unfold oTell
  rw [if_pos (by omega), if_pos hk, h]
theorem tl_k (hk : 0 ≤ k ∧ k ≤ 10) (h9 : k ≠ 9) (hx : z = gt r p) (hp : p = 530 + 14 * w + k) : z = oTell r w k := by
  unfold oTell
  rw [if_pos hk, if_neg h9, hx, hp]
theorem tl_b (h : ¬ (0 ≤ k ∧ k ≤ 10)) (hz : z = cBAD) : z = oTell r w k := by
  unfold oTell
  rw [if_neg h, hz]
theorem orN_of (h : okA r) (hw : 0 ≤ w ∧ w < 24) (hx : gt r (539 + 14 * w) = nv x) : x = orN (gt r (539 + 14 * w)) := by
  have q := (okA_at h hw).1
  rw [hx] at q ⊢
  unfold orN
  by_cases e : x = -1000000005
  · rw [e, nv_no]
    rfl
  · have w := nv_ne e q
    rw [if_neg (by omega), w.2]
/-- what is known is nothing, or no less than 0 -/
def okKn (r : Rw) : Prop := ∀ c j : Int, 0 ≤ c → c < 20 → 0 ≤ j → j ≤ 5 → -1 ≤ gt r (47 + 20 * c) ∧ (gt r (47 + 20 * c) = -1 → -1 ≤ gt r (42 + 20 * c + j))
theorem nD_0 {l l0 i f : Int} (h : l = l0) (hi : i = 1) (hf : f = 0) : nDep r a 1000 1 l0 0 = nDep r a (1001 - i).toNat i l f := by
  rw [h, hi, hf]
  rfl
theorem kn_of {d : Nat} {I : fH} {i j : Int} (q : z = I (48 + d + i.toNat) j.toNat) (hi : 0 ≤ i ∧ i < 20) (hj : 0 ≤ j ∧ j ≤ 5) (hm : okKn (cR d I)) : z = if gt (cR d I) (47 + 20 * i) < 0 then cNONE else gt (cR d I) (42 + 20 * i + j) := by
  have e5 := gR_kn (d := d) (I := I) (c := i.toNat) (q := 47 + 20 * i) (by omega) (by omega)
  obtain ⟨e1, e2⟩ := rwAJ_kn (c := i.toNat) (k := j.toNat) (by omega) (by omega)
  obtain ⟨m0, m⟩ := hm i j hi.1 hi.2 hj.1 hj.2
  have ej : gt (cR d I) (42 + 20 * i + j) = if I (48 + i.toNat + d) 5 = -1000000005 then (if j.toNat = 5 then -1 else if I (48 + i.toNat + d) j.toNat = -1000000005 then 0 else -2) else if I (48 + i.toNat + d) 5 < 0 then -2 else I (48 + i.toNat + d) j.toNat := by
    show cR d I (42 + 20 * i + j).toNat = _
    rw [show (42 + 20 * i + j).toNat = 42 + 20 * i.toNat + j.toNat by omega]
    unfold cR
    rw [if_pos e2, e1, if_neg (show ¬ 48 + i.toNat = 175 by omega), if_pos (show 48 ≤ 48 + i.toNat ∧ 48 + i.toNat ≤ 67 by omega)]
  rw [show 48 + d + i.toNat = 48 + i.toNat + d by omega] at q
  rw [ej] at m ⊢
  rw [e5] at m0 m ⊢
  by_cases c : I (48 + i.toNat + d) 5 = -1000000005
  · rw [if_pos c, if_pos (by decide)]
    rw [if_pos c, if_pos c] at m
    have m := m rfl
    by_cases cj : j.toNat = 5
    · rw [q, cj, c]
    · rw [if_neg cj] at m
      by_cases cv : I (48 + i.toNat + d) j.toNat = -1000000005
      · rw [q, cv]
      · rw [if_neg cv] at m
        omega
  · by_cases c2 : I (48 + i.toNat + d) 5 < 0
    · rw [if_neg c, if_pos c2] at m0
      omega
    · rw [if_neg c, if_neg c2, if_neg (by omega), if_neg c, if_neg c2, q]
/-- who lives, what stands in a cell; what is told of it -/
noncomputable def sLc (r : Rw) (c : Int) (i : Nat) : Int := cI (gt r (872 + 6 * (i : Int)) = c ∧ ¬ sDd r (i : Int)) 1 0
def sSc (r : Rw) (c : Int) (i : Nat) : Int := if gt r (531 + 14 * (i : Int)) = c ∧ gt r (538 + 14 * (i : Int)) = 0 then 1 else 0
def sOv (r : Rw) (c g : Nat) (y : Int) : Int := wr (y + gt r (37 + 20 * (c : Int) + (g : Int)))
def sOu (r : Rw) (c : Nat) (y : Int) : Int := nf (sOv r c) y 4
theorem nf_z {f : Nat → Int → Int} {m n y a : Int} (h : y = nf f a m.toNat) (e : m = n) : y = nf f a n.toNat := by rw [h, e]
theorem cou_k {x : Int} (h : ((37 : Int) ≤ x ∧ x ≤ 420) ∧ (x - 37) % 20 ≤ 3) : covb x.toNat = true := rwD_of (i0 := 37) (i1 := 420) (m := 20) (q := 3) (by decide +kernel) h
theorem ou_g {a g g' y : Int} (h : y = nf (sOv r c.toNat) a g.toNat) (hc : 0 ≤ c) (hg : 0 ≤ g) (hg' : g' = g + 1) (hz : fin32 z) (e : iI z = xio 0 (iI y) (iI x)) (hx : x = gt r p) (hp : p = 37 + 20 * c + g) : z = nf (sOv r c.toNat) a g'.toNat := by
  rw [← nf_step h hg hg', wr_add hz e, hx, hp]
  unfold sOv
  rw [Int.toNat_of_nonneg hc, Int.toNat_of_nonneg hg]
theorem ou_c {c' g y : Int} (h : y = nf (sOv r c.toNat) (nf (sOu r) 0 c.toNat) g.toNat) (hg : g = 4) (hc : 0 ≤ c) (hc' : c' = c + 1) : y = nf (sOu r) 0 c'.toNat := by
  rw [hg] at h
  rw [← nf_step (f := sOu r) (a := 0) (m := c) rfl hc hc']
  exact h
theorem sLc_y {i : Nat} (hw : w = (i : Int)) (hx : x = gt r p) (hp : p = 872 + 6 * w) (hc : x = c) (hd : ¬ sDd r w) (hv : v = 1) : v = sLc r c i := by
  subst hw
  rw [hv]
  exact (cI_pos ⟨by rw [← hp, ← hx]; exact hc, hd⟩).symm
theorem sLc_n {i : Nat} (hw : w = (i : Int)) (hx : x = gt r p) (hp : p = 872 + 6 * w) (hc : x ≠ c) (hv : v = 0) : v = sLc r c i := by
  subst hw
  rw [hv]
  exact (cI_neg (fun q => hc (by rw [hx, hp]; exact q.1))).symm
theorem sLc_d {i : Nat} (hw : w = (i : Int)) (hd : sDd r w) (hv : v = 0) : v = sLc r c i := by
  subst hw
  rw [hv]
  exact (cI_neg (fun q => q.2 hd)).symm
theorem sSc_y {i : Nat} (hw : w = (i : Int)) (hx : x = gt r p) (hp : p = 531 + 14 * w) (hc : x = c) (hg : gt r (538 + 14 * w) = 0) (hv : v = 1) : v = sSc r c i := by
  subst hw
  rw [hv]
  exact (if_pos ⟨by rw [← hp, ← hx]; exact hc, hg⟩).symm
theorem sSc_n {i : Nat} (hw : w = (i : Int)) (hx : x = gt r p) (hp : p = 531 + 14 * w) (hc : x ≠ c) (hv : v = 0) : v = sSc r c i := by
  subst hw
  rw [hv]
  exact (if_neg (fun q => hc (by rw [hx, hp]; exact q.1))).symm
theorem sSc_g {i : Nat} (hw : w = (i : Int)) (hg : gt r (538 + 14 * w) ≠ 0) (hv : v = 0) : v = sSc r c i := by
  subst hw
  rw [hv]
  exact (if_neg (fun q => hg q.2)).symm
noncomputable def oTold (r : Rw) (c k : Int) : Int := if oC r c ∧ ((0 ≤ k ∧ k ≤ 8) ∨ (10 ≤ k ∧ k ≤ 14)) then (if k ≤ 5 then gt r (31 + 20 * c + k) else if k = 6 then gt r (30 + 20 * c) else if k = 7 then sm (sLc r c) (gt r 8).toNat else if k = 8 then sm (sSc r c) (gt r 7).toNat else gt r (27 + 20 * c + k)) else cBAD
noncomputable def oCity (r : Rw) (k : Int) : Int := if k = 0 then gt r 1 else if k = 1 then sLv r else if k = 2 then sLift r else if k = 3 then sWeight r else if k = 4 then cI (dyP (gt r 2) (gt r 3)) 1 0 else if k = 5 then gt r 2 else if k = 6 then gt r 0 else if k = 7 then nf (sOu r) 0 (gt r 5).toNat else if 8 ≤ k ∧ k ≤ 13 then gt r (9 + k) else cBAD
end NEW

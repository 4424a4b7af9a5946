set_option linter.all false
/-! reports -/
theorem rwAJ_kn {c k : Nat} (hc : c < 20) (hk : k < 6) : rwAJ (42 + 20 * c + k) = (48 + c, k) ∧ covb (42 + 20 * c + k) = true := by
  have q : (List.range 20).all (fun c => (List.range 6).all (fun k => decide (rwAJ (42 + 20 * c + k) = (48 + c, k)) && covb (42 + 20 * c + k))) = true := by decide +kernel
  have e := Bool.and_eq_true_iff.mp (List.all_eq_true.mp (List.all_eq_true.mp q c (List.mem_range.mpr hc)) k (List.mem_range.mpr hk))
  exact ⟨of_decide_eq_true e.1, e.2⟩
theorem rwAJ_rp {i k : Nat} (hi : i < 90) (hk : k < 8) : rwAJ (3610 + 8 * i + k) = (73 + i, if k = 0 then 7 else k - 1) ∧ covb (3610 + 8 * i + k) = true := by
  have q : (List.range 90).all (fun i => (List.range 8).all (fun k => decide (rwAJ (3610 + 8 * i + k) = (73 + i, if k = 0 then 7 else k - 1)) && covb (3610 + 8 * i + k))) = true := by decide +kernel
  have e := Bool.and_eq_true_iff.mp (List.all_eq_true.mp (List.all_eq_true.mp q i (List.mem_range.mpr hi)) k (List.mem_range.mpr hk))
  exact ⟨of_decide_eq_true e.1, e.2⟩
/-- where a place of KNOWN, of a report lies -/
theorem rw_inv {q : Nat} (h : covb q = true) : (48 ≤ (rwAJ q).1 ∧ (rwAJ q).1 ≤ 67 → q = 42 + 20 * ((rwAJ q).1 - 48) + (rwAJ q).2 ∧ (rwAJ q).2 < 6) ∧ (73 ≤ (rwAJ q).1 ∧ (rwAJ q).1 ≤ 162 → q = 3610 + 8 * ((rwAJ q).1 - 73) + (if (rwAJ q).2 = 7 then 0 else (rwAJ q).2 + 1) ∧ (rwAJ q).2 < 8) := by
  have t : (List.range 4330).all (fun q => !covb q || (decide (48 ≤ (rwAJ q).1 ∧ (rwAJ q).1 ≤ 67 → q = 42 + 20 * ((rwAJ q).1 - 48) + (rwAJ q).2 ∧ (rwAJ q).2 < 6) && decide (73 ≤ (rwAJ q).1 ∧ (rwAJ q).1 ≤ 162 → q = 3610 + 8 * ((rwAJ q).1 - 73) + (if (rwAJ q).2 = 7 then 0 else (rwAJ q).2 + 1) ∧ (rwAJ q).2 < 8))) = true := by decide +kernel
  have e := Bool.and_eq_true_iff.mp (bor_of (List.all_eq_true.mp t q (List.mem_range.mpr (covb_lt h))) h)
  exact ⟨of_decide_eq_true e.1, of_decide_eq_true e.2⟩
/-- KNOWN of one cell changes -/
theorem cR_hd {d c : Nat} {I K : fH} {w : Nat → Int} {t : Int} (hc : c < 20) (ho : ∀ a' j', a' ≠ 48 + c → K (a' + d) j' = I (a' + d) j') (h5 : K (48 + c + d) 5 = t) (ht : 0 ≤ t) (hw : ∀ j, j < 5 → K (48 + c + d) j = w j) : cR d K = sKn (cR d I) (c : Int) w t := by
  funext q
  by_cases cq : covb q = true
  · by_cases e : (rwAJ q).1 = 48 + c
    · obtain ⟨e1, e2⟩ := (rw_inv cq).1 (by omega)
      rw [e] at e1
      have l : cR d K q = K (48 + c + d) (rwAJ q).2 := by
        unfold cR
        rw [if_pos cq, if_neg (show ¬ (rwAJ q).1 = 175 by omega), if_pos (show 48 ≤ (rwAJ q).1 ∧ (rwAJ q).1 ≤ 67 by omega), e, if_neg (show ¬ K (48 + c + d) 5 = -1000000005 by omega), if_neg (show ¬ K (48 + c + d) 5 < 0 by omega)]
      rw [l]
      unfold sKn
      by_cases e5 : (rwAJ q).2 = 5
      · rw [e5, h5, rud_at (by omega)]
      · rw [rud_no (by omega), cpy_at ⟨by omega, by omega⟩, hw _ (by omega)]
        congr 1
        omega
    · have l : cR d K q = cR d I q := by
        unfold cR
        rw [if_pos cq, if_pos cq]
        by_cases s1 : (rwAJ q).1 = 175
        · rw [if_pos s1, if_pos s1, ho 175 _ (by omega)]
        · rw [if_neg s1, if_neg s1]
          by_cases s2 : 48 ≤ (rwAJ q).1 ∧ (rwAJ q).1 ≤ 67
          · rw [if_pos s2, if_pos s2, ho _ 5 e, ho _ _ e]
          · rw [if_neg s2, if_neg s2, ho _ _ e]
      rw [l]
      unfold sKn
      have no : ¬ (42 + 20 * c ≤ q ∧ q < 48 + 20 * c) := fun w => by
        have e1 := (rwAJ_kn (c := c) (k := q - (42 + 20 * c)) hc (by omega)).1
        rw [show 42 + 20 * c + (q - (42 + 20 * c)) = q by omega] at e1
        exact e (by rw [e1])
      rw [rud_no (by omega), cpy_ne (by omega)]
  · have l1 : cR d K q = 0 := if_neg cq
    have l2 : cR d I q = 0 := if_neg cq
    have no : ¬ (42 + 20 * c ≤ q ∧ q < 48 + 20 * c) := fun w => by
      have e1 := (rwAJ_kn (c := c) (k := q - (42 + 20 * c)) hc (by omega)).2
      rw [show 42 + 20 * c + (q - (42 + 20 * c)) = q by omega] at e1
      exact cq e1
    unfold sKn
    rw [l1, rud_no (by omega), cpy_ne (by omega), l2]
theorem cR_rp {d i k : Nat} {I : fH} (hi : i < 90) (hk : k < 8) : cR d I (3610 + 8 * i + k) = I (73 + i + d) (if k = 0 then 7 else k - 1) := by
  obtain ⟨e1, e2⟩ := rwAJ_rp hi hk
  unfold cR
  rw [if_pos e2, e1, if_neg (show ¬ 73 + i = 175 by omega), if_neg (show ¬ (48 ≤ 73 + i ∧ 73 + i ≤ 67) by omega)]
theorem gR_rp {d i k : Nat} {I : fH} {q : Int} (hi : i < 90) (hk : k < 8) (hq : q = 3610 + 8 * (i : Int) + (k : Int)) : gt (cR d I) q = I (73 + i + d) (if k = 0 then 7 else k - 1) := by
  have e := cR_rp (d := d) (I := I) hi hk
  rw [← e]
  show cR d I q.toNat = _
  rw [show q.toNat = 3610 + 8 * i + k by omega]
theorem gR_kn {d c : Nat} {I : fH} {q : Int} (hc : c < 20) (hq : q = 47 + 20 * (c : Int)) : gt (cR d I) q = if I (48 + c + d) 5 = -1000000005 then -1 else if I (48 + c + d) 5 < 0 then -2 else I (48 + c + d) 5 := by
  obtain ⟨e1, e2⟩ := rwAJ_kn (c := c) (k := 5) hc (by omega)
  show cR d I q.toNat = _
  rw [show q.toNat = 42 + 20 * c + 5 by omega]
  unfold cR
  rw [if_pos e2, e1, if_neg (show ¬ 48 + c = 175 by omega), if_pos (show 48 ≤ 48 + c ∧ 48 + c ≤ 67 by omega)]
  split
  · exact if_pos rfl
  · rfl
theorem gR_ai {d c k : Nat} {I : fH} {q : Int} (hc : c < 20) (hk : k < 5) (hq : q = 31 + 20 * (c : Int) + (k : Int)) : gt (cR d I) q = I (6 + c + d) k := by
  have h : rwB 6 20 5 31 20 1 = true := by decide +kernel
  have e := cR_ld (d := d) (I := I) (rwB_of h hc hk) (show rwN (6 + c) from ⟨by omega, by omega⟩)
  rw [← e]
  show cR d I q.toNat = _
  rw [show q.toNat = 31 + 20 * c + 1 * k by omega]
theorem cR_rq {d s : Nat} {I K : fH} (hs : s < 90) (ho : ∀ a' j', a' ≠ 73 + s → K (a' + d) j' = I (a' + d) j') {q : Nat} (hq : q < 3610 + 8 * s ∨ 3618 + 8 * s ≤ q) : cR d K q = cR d I q := by
  unfold cR
  by_cases cq : covb q = true
  · rw [if_pos cq, if_pos cq]
    have e : (rwAJ q).1 ≠ 73 + s := fun e => by
      obtain ⟨e1, e2⟩ := (rw_inv cq).2 (by omega)
      rw [e] at e1
      split at e1 <;> omega
    by_cases s1 : (rwAJ q).1 = 175
    · rw [if_pos s1, if_pos s1, ho 175 _ (by omega)]
    · rw [if_neg s1, if_neg s1]
      by_cases s2 : 48 ≤ (rwAJ q).1 ∧ (rwAJ q).1 ≤ 67
      · rw [if_pos s2, if_pos s2, ho _ 5 e, ho _ _ e]
      · rw [if_neg s2, if_neg s2, ho _ _ e]
  · rw [if_neg cq, if_neg cq]
theorem fcpy_oth {I K : fH} {A B : Nat} {n : Int} (e : K = fcpy I A 0 B 0 n) {a j : Nat} (h : a ≠ B) : K a j = I a j := by
  rw [e]
  exact if_neg (fun q => h q.1)
theorem fcpy_in {I K : fH} {A B j : Nat} {n : Int} (e : K = fcpy I A 0 B 0 n) (h : (j : Int) < n) : K B j = I A j := by
  rw [e]
  show (if B = B ∧ (0 : Int) ≤ (j : Int) ∧ (j : Int) < 0 + n then I A (0 + ((j : Int) - 0)).toNat else _) = _
  rw [if_pos ⟨rfl, by omega, by omega⟩]
  congr 1
  omega
theorem fcpy_out {I K : fH} {A B j : Nat} {n : Int} (e : K = fcpy I A 0 B 0 n) (h : n ≤ (j : Int)) : K B j = I B j := by
  rw [e]
  exact if_neg (fun q => by have q1 := q.2.2; omega)
/-- a report is copied to where it stays -/
theorem cR_mv {d i s : Nat} {I K : fH} {A B : Nat} {n : Int} (e : K = fcpy I A 0 B 0 n) (hn : n = 8) (hA : A = 73 + i + d) (hB : B = 73 + s + d) (hi : i < 90) (hs : s < 90) {lo a : Int} (hlo : lo = 3610 + 8 * (s : Int)) (ha : a = 3610 + 8 * (i : Int)) : cR d K = cpy (cR d I) lo (fun k => gt (cR d I) (a + (k : Int))) 8 := by
  subst hA
  subst hB
  subst hn
  funext q
  by_cases w : 3610 + 8 * s ≤ q ∧ q < 3618 + 8 * s
  · rw [cpy_at ⟨by omega, by omega⟩]
    have e1 := cR_rp (d := d) (I := K) (k := q - (3610 + 8 * s)) hs (by omega)
    rw [show 3610 + 8 * s + (q - (3610 + 8 * s)) = q by omega] at e1
    have hb : (if q - (3610 + 8 * s) = 0 then 7 else q - (3610 + 8 * s) - 1) < 8 := by split <;> omega
    rw [e1, gR_rp (i := i) (k := q - (3610 + 8 * s)) hi (by omega) (by omega), fcpy_in e (by omega)]
  · rw [cpy_ne (by omega)]
    exact cR_rq hs (fun a' j' h => fcpy_oth e (by omega)) (by omega)
/-- air of a cell comes into a report -/
theorem cR_ra {d c s : Nat} {I K : fH} {A B : Nat} {n : Int} (e : K = fcpy I A 0 B 0 n) (hn : n = 5) (hA : A = 6 + c + d) (hB : B = 73 + s + d) (hc : c < 20) (hs : s < 90) {lo a : Int} (hlo : lo = 3611 + 8 * (s : Int)) (ha : a = 31 + 20 * (c : Int)) : cR d K = cpy (cR d I) lo (fun k => gt (cR d I) (a + (k : Int))) 5 := by
  subst hA
  subst hB
  subst hn
  funext q
  by_cases w : 3610 + 8 * s ≤ q ∧ q < 3618 + 8 * s
  · have e1 := cR_rp (d := d) (I := K) (k := q - (3610 + 8 * s)) hs (by omega)
    rw [show 3610 + 8 * s + (q - (3610 + 8 * s)) = q by omega] at e1
    have e2 := cR_rp (d := d) (I := I) (k := q - (3610 + 8 * s)) hs (by omega)
    rw [show 3610 + 8 * s + (q - (3610 + 8 * s)) = q by omega] at e2
    by_cases w2 : 3611 + 8 * s ≤ q ∧ q < 3616 + 8 * s
    · rw [cpy_at ⟨by omega, by omega⟩, e1, if_neg (by omega), fcpy_in e (by omega)]
      exact (gR_ai hc (by omega) (by omega)).symm
    · rw [cpy_ne (by omega), e1, e2]
      refine fcpy_out e ?_
      split <;> omega
  · rw [cpy_ne (by omega)]
    exact cR_rq hs (fun a' j' h => fcpy_oth e (by omega)) (by omega)
/-- a report is heard -/
theorem cR_he {d c i : Nat} {I K : fH} {A B : Nat} {n : Int} (e : K = fcpy I A 0 B 0 n) (hn : n = 6) (hA : A = 73 + i + d) (hB : B = 48 + c + d) (hc : c < 20) (hi : i < 90) (ht : 0 ≤ I (73 + i + d) 5) {b t : Int} (hb : b = 3611 + 8 * (i : Int)) (htt : t = gt (cR d I) (3616 + 8 * (i : Int))) : cR d K = sKn (cR d I) (c : Int) (fun k => gt (cR d I) (b + (k : Int))) t := by
  subst hA
  subst hB
  subst hn
  have e5 : t = I (73 + i + d) 5 := htt.trans (gR_rp (k := 6) hi (by omega) (by omega))
  refine cR_hd hc (fun a' j' h => fcpy_oth e (by omega)) ((fcpy_in e (by omega)).trans e5.symm) (by omega) (fun j hj => ?_)
  rw [fcpy_in e (by omega)]
  have q := gR_rp (d := d) (I := I) (i := i) (k := j + 1) (q := b + (j : Int)) hi (by omega) (by omega)
  rw [if_neg (by omega), show j + 1 - 1 = j by omega] at q
  exact q.symm
/-- a cell's air is known at once -/
theorem cR_no {d c : Nat} {I J K : fH} {A B B2 j : Nat} {n m : Int} (e : J = fcpy I A 0 B 0 n) (hn : n = 5) (hA : A = 6 + c + d) (hB : B = 48 + c + d) (e2 : K = fupd J B2 j m) (hB2 : B2 = 48 + c + d) (hj : j = 5) (hc : c < 20) (hm : 0 ≤ m) {a : Int} (ha : a = 31 + 20 * (c : Int)) : cR d K = sKn (cR d I) (c : Int) (fun k => gt (cR d I) (a + (k : Int))) m := by
  subst hA
  subst hB
  subst hn
  subst hB2
  subst hj
  refine cR_hd hc (fun a' j' h => ?_) ?_ (by omega) (fun j hj => ?_)
  · rw [e2]
    show (if a' + d = 48 + c + d ∧ j' = 5 then m else J (a' + d) j') = _
    rw [if_neg (fun q => h (by omega))]
    exact fcpy_oth e (by omega)
  · rw [e2]
    exact if_pos ⟨rfl, rfl⟩
  · rw [e2]
    show (if 48 + c + d = 48 + c + d ∧ j = 5 then m else J (48 + c + d) j) = _
    rw [if_neg (fun q => by omega), fcpy_in e (by omega)]
    exact (gR_ai hc hj (by omega)).symm
section RW6
variable {r : Rw} {c g n p q v w x y a b l z s t d k m u o e f : Int}
theorem sKn1_n {F : Nat → Int} (hx : x = gt r p) (hp : p = 47 + 20 * c) (h : t < x) : r = sKn1 r c F t := by
  unfold sKn1
  rw [if_pos (by rw [← hp, ← hx]; exact h)]
theorem sKn1_y {F : Nat → Int} (h : ¬ t < gt r (47 + 20 * c)) : sKn r c F t = sKn1 r c F t := by
  unfold sKn1
  rw [if_neg h]
/-- what is known of a cell: nothing of it, or of a minute -/
def okN (r : Rw) (c : Int) : Prop := -1 ≤ gt r (47 + 20 * c) ∧ (gt r (47 + 20 * c) = -1 → ∀ k : Int, 0 ≤ k → k < 5 → gt r (42 + 20 * c + k) = 0)
theorem okN_cg {r r' : Rw} {c : Int} (h : okN r c) (e : ∀ k : Int, 0 ≤ k → k < 6 → gt r' (42 + 20 * c + k) = gt r (42 + 20 * c + k)) : okN r' c := by
  have e5 := e 5 (by omega) (by omega)
  rw [show 42 + 20 * c + 5 = 47 + 20 * c by omega] at e5
  refine ⟨by rw [e5]; exact h.1, fun q k h0 h1 => ?_⟩
  rw [e k h0 (by omega)]
  rw [e5] at q
  exact h.2 q k h0 h1
theorem okN_t {r : Rw} {c : Int} (h : 0 ≤ gt r (47 + 20 * c)) : okN r c := ⟨by omega, fun q => by omega⟩
/-- what is known was sent before -/
def okM (r : Rw) : Prop := ∀ c : Nat, c < 20 → gt r (47 + 20 * (c : Int)) ≤ gt r 0 ∧ okN r (c : Int)
theorem kn_end {R1 : Rw} {F : Nat → Int} (h : R1 = cpy r (42 + 20 * c) F m.toNat) (hm : m = 5) (hp : p = 47 + 20 * c) (hv : v = t) : rud R1 p v = sKn r c F t := by
  rw [h, hm, hp, hv]
  rfl
theorem kn1_cg {R : Rw} {F G : Nat → Int} {c' t' : Int} (h : R = sKn1 r c F t) (hc : c = c') (ht : t = t') (hf : ∀ k, F k = G k) : R = sKn1 r c' G t' := by
  rw [h, hc, ht, show F = G from funext hf]
/-- one report: it comes -/
theorem cmr_old {R1 R2 : Rw} {A : Int × Rw} {m' : Int} {F : Nat → Int} (h : (y, R1) = nf sCm A m.toNat) (hm : 0 ≤ m) (hm' : m' = m + 1) (hd : x = gt R1 p) (ep : p = 3617 + 8 * m) (hy : z = gt R1 q) (eq : q = 0) (hle : x ≤ z) (hR : R2 = sKn1 R1 c F t) (hc : c = gt R1 a) (ea : a = 3610 + 8 * m) (ht : t = gt R1 b) (eb : b = 3616 + 8 * m) (hF : ∀ k : Nat, F k = gt R1 (3611 + 8 * m + (k : Int))) : (y, R2) = nf sCm A m'.toNat := by
  have e := nf_step h hm hm'
  rw [← e]
  unfold sCm
  have em : ((m.toNat : Nat) : Int) = m := Int.toNat_of_nonneg hm
  have h1 : gt R1 (3617 + 8 * m) ≤ gt R1 0 := by rw [← ep, ← hd, ← eq, ← hy]; exact hle
  rw [em]
  show (y, R2) = (if gt R1 (3617 + 8 * m) ≤ gt R1 0 then (y, sKn1 R1 (gt R1 (3610 + 8 * m)) (fun k => gt R1 (3611 + 8 * m + (k : Int))) (gt R1 (3616 + 8 * m))) else _)
  rw [if_pos h1, hR, hc, ea, ht, eb, show F = (fun k : Nat => gt R1 (3611 + 8 * m + (k : Int))) from funext hF]
theorem cmr_due {R1 : Rw} {A : Int × Rw} (h : (y, R1) = A) (hd : x = gt R1 p) (ep : p = 3617 + 8 * m) (hy : z = gt R1 q) (eq : q = 0) (hle : ¬ x ≤ z) : ¬ gt A.2 (3617 + 8 * m) ≤ gt A.2 0 := by
  rw [← h]
  show ¬ gt R1 (3617 + 8 * m) ≤ gt R1 0
  rw [← ep, ← hd, ← eq, ← hy]
  exact hle
/-- it stays -/
theorem cmr_new0 {R1 : Rw} {A : Int × Rw} {m' y' : Int} (h1 : y = (nf sCm A m.toNat).1) (h2 : R1 = cpy (nf sCm A m.toNat).2 (3610 + 8 * y) (fun k : Nat => gt (nf sCm A m.toNat).2 (3610 + 8 * m + (k : Int))) d.toNat) (h3 : ¬ gt (nf sCm A m.toNat).2 (3617 + 8 * m) ≤ gt (nf sCm A m.toNat).2 0) (hd : d = 8) (hm : 0 ≤ m) (hm' : m' = m + 1) (hy : y' = y + 1) : (y', R1) = nf sCm A m'.toNat := by
  have e : sCm m.toNat (nf sCm A m.toNat) = nf sCm A m'.toNat := nf_step (f := sCm) (a := A) rfl hm hm'
  rw [← e]
  clear e
  generalize nf sCm A m.toNat = Q at h1 h2 h3 ⊢
  unfold sCm
  rw [Int.toNat_of_nonneg hm, if_neg h3, h2, hy, hd, h1]
  rfl
theorem cmr_new {R1 R2 : Rw} {A : Int × Rw} {m' y' lo : Int} {F : Nat → Int} (h : (y, R1) = nf sCm A m.toNat) (hd : x = gt R1 p) (ep : p = 3617 + 8 * m) (hy : z = gt R1 q) (eq : q = 0) (hle : ¬ x ≤ z) (hR : R2 = cpy R1 lo F 8) (hlo : lo = 3610 + 8 * y) (hF : ∀ k : Nat, F k = gt R1 (3610 + 8 * m + (k : Int))) (hm : 0 ≤ m) (hm' : m' = m + 1) (hy' : y' = y + 1) : (y', R2) = nf sCm A m'.toNat := by
  have e1 : y = (nf sCm A m.toNat).1 := congrArg Prod.fst h
  have e2 : R1 = (nf sCm A m.toNat).2 := congrArg Prod.snd h
  refine cmr_new0 (d := 8) e1 ?_ (cmr_due h hd ep hy eq hle) rfl hm hm' hy'
  rw [hR, hlo, show F = (fun k : Nat => gt R1 (3610 + 8 * m + (k : Int))) from funext hF, ← e2]
  rfl
theorem cmr_end {R1 : Rw} (h : (y, R1) = nf sCm (0, r) m.toNat) (hm : m = gt r 13) (hp : p = 13) (hv : v = y) : rud R1 p v = sCome r := by
  unfold sCome
  rw [← hm, ← h, hp, hv]
/-- one cell's report -/
theorem sSe_n {i : Nat} (hu : u = (i : Int)) (h : ¬ sWat r u) : r = sSe i r := by
  subst hu
  exact (cI_neg h).symm
theorem sSe_y {i : Nat} {R : Rw} (hu : u = (i : Int)) (h : sWat r u) (e : R = sSe1 r u) : R = sSe i r := by
  subst hu
  rw [e]
  exact (cI_pos h).symm
theorem se_0 {R : Rw} {F : Nat → Int} (hl : l = gt r p) (ep : p = 4) (h0 : l = 0) (ht : t = gt r q) (eq : q = 0) (hM : okM r) (hu : 0 ≤ u ∧ u < 20) (hF : ∀ k : Nat, F k = gt r (31 + 20 * u + (k : Int))) (hR : R = sKn1 r u F t) : R = sSe1 r u := by
  have h := (hM u.toNat (by omega)).1
  rw [Int.toNat_of_nonneg hu.1] at h
  have e : t = gt r 0 := by rw [ht, eq]
  unfold sSe1 sSx
  rw [if_pos (by rw [← ep, ← hl]; exact h0), hR, show F = (fun k : Nat => gt r (31 + 20 * u + (k : Int))) from funext hF, e]
  exact (sKn1_y (by omega)).symm
theorem se_f (hl : l = gt r p) (ep : p = 4) (h0 : l ≠ 0) (hn : n = gt r q) (eq : q = 13) (h : ¬ n < 90) : r = sSe1 r u := by
  unfold sSe1 sSx
  rw [if_neg (by rw [← ep, ← hl]; exact h0), if_neg (by rw [← eq, ← hn]; exact h)]
theorem se_1 {R1 N : Rw} {lo : Int} {F : Nat → Int} (h : R1 = N) (hp : p = q) (hv : v = u) : rud R1 p v = cpy (rud N q u) lo F 0 := by
  rw [h, hp, hv]
  exact cpy_0.symm
theorem se_2 {R1 N : Rw} {p1 p2 p3 v1 v2 v3 x1 x2 x3 x4 q1 q2 q3 q4 : Int} (h : R1 = cpy (rud N (3610 + 8 * gt N 13) u) (3611 + 8 * gt N 13) (fun k : Nat => gt N (31 + 20 * u + (k : Int))) m.toNat) (hm : m = 5) (hu : 0 ≤ u ∧ u < 20) (hn : 0 ≤ gt N 13 ∧ gt N 13 < 90) (hl : gt N 4 ≠ 0) (h1 : x1 = gt R1 q1) (e1 : q1 = 0) (hp1 : p1 = 3616 + 8 * gt N 13) (hv1 : v1 = x1) (h2 : x2 = gt (rud R1 p1 v1) q2) (e2 : q2 = 0) (h3 : x3 = gt (rud R1 p1 v1) q3) (e3 : q3 = 4) (hp2 : p2 = 3617 + 8 * gt N 13) (hw : v2 = wr (x2 + x3)) (h4 : x4 = gt (rud (rud R1 p1 v1) p2 v2) q4) (e4 : q4 = 13) (hp3 : p3 = 13) (hv3 : v3 = x4 + 1) : rud (rud (rud R1 p1 v1) p2 v2) p3 v3 = sSe1 N u := by
  have g (k : Int) (hk : 0 ≤ k) (hk2 : k < 3610) : gt R1 k = gt N k := by rw [h, gt_cpy hk (by omega), gt_ne hk (by omega)]
  have a1 : x1 = gt N 0 := by rw [h1, e1, g 0 (by omega) (by omega)]
  have a2 : x2 = gt N 0 := by rw [h2, e2, gt_ne (by omega) (by omega), g 0 (by omega) (by omega)]
  have a3 : x3 = gt N 4 := by rw [h3, e3, gt_ne (by omega) (by omega), g 4 (by omega) (by omega)]
  have a4 : x4 = gt N 13 := by rw [h4, e4, gt_ne (by omega) (by omega), gt_ne (by omega) (by omega), g 13 (by omega) (by omega)]
  unfold sSe1 sSx sRow
  rw [if_neg hl, if_pos hn.2, hp3, hv3, a4, hp2, hw, a2, a3, hp1, hv1, a1, h, hm]
  rfl
theorem sSx_0 {R : Rw} (hl : l = 0) (hR : R = sKn r u (fun k : Nat => gt r (31 + 20 * u + (k : Int))) t) : R = sSx r u t l := by
  unfold sSx
  rw [if_pos hl, hR]
theorem sSx_f (hl : l ≠ 0) (hn : n = gt r q) (eq : q = 13) (h : ¬ n < 90) : r = sSx r u t l := by
  unfold sSx
  rw [if_neg hl, if_neg (by rw [← eq, ← hn]; exact h)]
/-- the class writes who sent it last -/
theorem sRow_cl {F : Nat → Int} (hn : 0 ≤ n) : rud (rud (rud (cpy r (3611 + 8 * n) F 5) (3616 + 8 * n) t) (3617 + 8 * n) s) (3610 + 8 * n) u = sRow r n u F t s := by
  unfold sRow
  funext j
  by_cases c0 : (j : Int) = 3610 + 8 * n
  · rw [rud_at c0, rud_no (by omega), rud_no (by omega), cpy_ne (by omega), rud_at c0]
  · rw [rud_no c0]
    by_cases c2 : (j : Int) = 3617 + 8 * n
    · rw [rud_at c2, rud_at c2]
    · rw [rud_no c2, rud_no c2]
      by_cases c1 : (j : Int) = 3616 + 8 * n
      · rw [rud_at c1, rud_at c1]
      · rw [rud_no c1, rud_no c1]
        by_cases c : 3611 + 8 * n ≤ (j : Int) ∧ (j : Int) < 3611 + 8 * n + ((5 : Nat) : Int)
        · rw [cpy_at c, cpy_at c]
        · rw [cpy_ne c, cpy_ne c, rud_no c0]
theorem sSx_2 {lo p1 p2 p3 p4 v2 v4 x4 q4 q : Int} {F : Nat → Int} (hl : l ≠ 0) (hn : n = gt r q) (eq : q = 13) (h : n < 90) (h0 : 0 ≤ n) (hlo : lo = 3611 + 8 * n) (hF : ∀ k : Nat, F k = gt r (31 + 20 * u + (k : Int))) (hp1 : p1 = 3616 + 8 * n) (hp2 : p2 = 3617 + 8 * n) (hz : fin32 v2) (he : iI v2 = xio 0 (iI t) (iI l)) (hp3 : p3 = 3610 + 8 * n) (hx4 : x4 = gt (rud (rud (rud (cpy r lo F 5) p1 t) p2 v2) p3 u) q4) (e4 : q4 = 13) (hp4 : p4 = 13) (hv4 : v4 = x4 + 1) : rud (rud (rud (rud (cpy r lo F 5) p1 t) p2 v2) p3 u) p4 v4 = sSx r u t l := by
  have a4 : x4 = gt r 13 := by rw [hx4, e4, gt_ne (by omega) (by omega), gt_ne (by omega) (by omega), gt_ne (by omega) (by omega), gt_cpy (by omega) (by omega)]
  have en : gt r 13 = n := by rw [hn, eq]
  unfold sSx
  rw [if_neg hl, en, if_pos h, hp4, hv4, a4, en, hp3, hp2, hp1, hlo, wr_add hz he, sRow_cl h0, show F = (fun k : Nat => gt r (31 + 20 * u + (k : Int))) from funext hF]
end RW6
/-- a report is heard, or something later is known -/
theorem he_1 {d c i : Nat} {I K : fH} {A B : Nat} {n z : Int} (e : K = fcpy I A 0 B 0 n) (hn : n = 6) (hA : A = 73 + i + d) (hB : B = 48 + c + d) (hc : c < 20) (hi : i < 90) (hs : 0 ≤ gt (cR d I) (3616 + 8 * (i : Int))) (hz : z = I (48 + c + d) 5) (hg : z < I (73 + i + d) 5) : cR d K = sKn1 (cR d I) (c : Int) (fun k => gt (cR d I) (3611 + 8 * (i : Int) + (k : Int))) (gt (cR d I) (3616 + 8 * (i : Int))) := by
  have e6 := gR_rp (d := d) (I := I) (i := i) (k := 6) (q := 3616 + 8 * (i : Int)) hi (by omega) (by omega)
  rw [if_neg (by omega)] at e6
  have ek := gR_kn (d := d) (I := I) (q := 47 + 20 * (c : Int)) hc rfl
  have e6 : gt (cR d I) (3616 + 8 * (i : Int)) = I (73 + i + d) 5 := e6
  rw [e6] at hs
  rw [cR_he e hn hA hB hc hi hs rfl rfl]
  refine sKn1_y ?_
  rw [ek, e6]
  split
  · omega
  · split <;> omega
theorem he_0 {d c i : Nat} {I : fH} {z : Int} {F : Nat → Int} (hc : c < 20) (hi : i < 90) (hs : 0 ≤ gt (cR d I) (3616 + 8 * (i : Int))) (hne : gt (cR d I) (47 + 20 * (c : Int)) ≠ gt (cR d I) (3616 + 8 * (i : Int))) (hz : z = I (48 + c + d) 5) (hg : ¬ z < I (73 + i + d) 5) : cR d I = sKn1 (cR d I) (c : Int) F (gt (cR d I) (3616 + 8 * (i : Int))) := by
  have e6 := gR_rp (d := d) (I := I) (i := i) (k := 6) (q := 3616 + 8 * (i : Int)) hi (by omega) (by omega)
  rw [if_neg (by omega)] at e6
  have ek := gR_kn (d := d) (I := I) (q := 47 + 20 * (c : Int)) hc rfl
  have e6' : gt (cR d I) (3616 + 8 * (i : Int)) = I (73 + i + d) 5 := e6
  rw [e6'] at hs hne
  have q : ¬ I (48 + c + d) 5 < 0 := by omega
  rw [if_neg (by omega), if_neg q] at ek
  refine sKn1_n (x := gt (cR d I) (47 + 20 * (c : Int))) rfl rfl ?_
  rw [e6', ek]
  rw [ek] at hne
  omega
/-- is there one -/
def anU (P : Nat → Prop) (y b : Int) : Prop := (b = 1 ∧ ∃ w : Nat, (w : Int) < y ∧ P w) ∨ (b = 0 ∧ ∀ w : Nat, (w : Int) < y → ¬ P w)
section ANU
variable {P : Nat → Prop} {y b y' b' : Int}
theorem anU_0 (hy : y ≤ 0) (hb : b = 0) : anU P y b := Or.inr ⟨hb, fun w h => absurd h (by omega)⟩
theorem anU_no (h : anU P y b) (h0 : 0 ≤ y) (hy : y' = y + 1) (hb : b' = b) (hn : ¬ P y.toNat) : anU P y' b' := by
  rcases h with ⟨h1, w, h2, h3⟩ | ⟨h1, h2⟩
  · exact Or.inl ⟨by omega, w, by omega, h3⟩
  · refine Or.inr ⟨by omega, fun w hw hc => ?_⟩
    by_cases e : (w : Int) < y
    · exact h2 w e hc
    · exact hn (by rw [show y.toNat = w by omega]; exact hc)
theorem anU_yes (h0 : 0 ≤ y) (hy : y' = y + 1) (hb : b' = 1) (hn : P y.toNat) : anU P y' b' := Or.inl ⟨hb, y.toNat, by omega, hn⟩
theorem anU_was (h : anU P y b) (h1 : b = 1) (hy : y' = y + 1) (hb : b' = 1) : anU P y' b' := by
  rcases h with ⟨h1, w, h2, h3⟩ | ⟨h1, h2⟩
  · exact Or.inl ⟨hb, w, by omega, h3⟩
  · exact absurd h1 (by omega)
theorem anU_end (h : anU P y b) : (b = 1 ∧ ∃ w : Nat, (w : Int) < y ∧ P w) ∨ (b = 0 ∧ ¬ ∃ w : Nat, (w : Int) < y ∧ P w) := by
  rcases h with ⟨h1, h2⟩ | ⟨h1, h2⟩
  · exact Or.inl ⟨h1, h2⟩
  · exact Or.inr ⟨h1, fun ⟨w, q1, q2⟩ => h2 w q1 q2⟩
end ANU
/-- one who watches a cell -/
def wt1 (r : Rw) (c : Int) (p : Nat) : Prop := gt r (871 + 6 * (p : Int)) = 3 ∧ gt r (872 + 6 * (p : Int)) = c ∧ ¬ sDd r (p : Int)
section WT
variable {r : Rw} {c y b u x x1 x2 p p1 p2 : Int} {i : Nat}
theorem wt1_of (hu : u = (i : Int)) (h1 : x1 = gt r p1) (e1 : p1 = 871 + 6 * u) (h3 : x1 = 3) (h2 : x2 = gt r p2) (e2 : p2 = 872 + 6 * u) (hc : x2 = c) (hd : ¬ sDd r u) : wt1 r c i := by
  subst hu
  subst e1
  subst e2
  exact ⟨by omega, by omega, hd⟩
theorem wt1_a (hu : u = (i : Int)) (hx : x = gt r p) (e : (p = 872 + 6 * u ∧ x ≠ c) ∨ (p = 871 + 6 * u ∧ x ≠ 3)) : ¬ wt1 r c i := fun h => by
  subst hu
  rcases e with ⟨rfl, q⟩ | ⟨rfl, q⟩
  · exact q (hx.trans h.2.1)
  · exact q (hx.trans h.1)
theorem wt1_d (hu : u = (i : Int)) (h : sDd r u) : ¬ wt1 r c i := fun q => by
  subst hu
  exact q.2.2 h
theorem wt_yes (h0 : 0 ≤ y) (hy : y < gt r 8) (h : wt1 r c y.toNat) : sWat r c := ⟨y.toNat, by omega, h⟩
theorem wt_end (h : anU (wt1 r c) y b) (hy : y = gt r 8) : (b = 1 ∧ sWat r c) ∨ (b = 0 ∧ ¬ sWat r c) := by
  subst hy
  exact anU_end h
end WT
/-- a cell's report leaves what is known sent before -/
theorem okM_cg {r r' : Rw} (h : okM r) (h0 : gt r' 0 = gt r 0) (hk : ∀ c : Nat, c < 20 → (∀ k : Int, 0 ≤ k → k < 6 → gt r' (42 + 20 * (c : Int) + k) = gt r (42 + 20 * (c : Int) + k)) ∨ (gt r' (47 + 20 * (c : Int)) = gt r 0 ∧ 0 ≤ gt r 0)) : okM r' := fun c hc => by
  rw [h0]
  rcases hk c hc with e | ⟨e, e'⟩
  · have e5 := e 5 (by omega) (by omega)
    rw [show 42 + 20 * (c : Int) + 5 = 47 + 20 * (c : Int) by omega] at e5
    exact ⟨by rw [e5]; exact (h c hc).1, okN_cg (h c hc).2 e⟩
  · exact ⟨by omega, okN_t (by omega)⟩
theorem okM_cg' {r r' : Rw} (h : okM r) (h0 : gt r' 0 = gt r 0) (hk : ∀ c : Nat, c < 20 → (∀ k : Int, 0 ≤ k → k < 6 → gt r' (42 + 20 * (c : Int) + k) = gt r (42 + 20 * (c : Int) + k)) ∨ (gt r' (47 + 20 * (c : Int)) ≤ gt r 0 ∧ okN r' (c : Int))) : okM r' := fun c hc => by
  rw [h0]
  rcases hk c hc with e | e
  · have e5 := e 5 (by omega) (by omega)
    rw [show 42 + 20 * (c : Int) + 5 = 47 + 20 * (c : Int) by omega] at e5
    exact ⟨by rw [e5]; exact (h c hc).1, okN_cg (h c hc).2 e⟩
  · exact e
theorem gt_sKn {r : Rw} {c t q : Int} {F : Nat → Int} (hq : 0 ≤ q) (h : q < 42 + 20 * c ∨ 48 + 20 * c ≤ q) : gt (sKn r c F t) q = gt r q := by
  unfold sKn
  rw [gt_ne hq (by omega), gt_cpy hq (by omega)]
theorem gt_sKn7 {r : Rw} {c t q : Int} {F : Nat → Int} (hc : 0 ≤ c) (h : q = 47 + 20 * c) : gt (sKn r c F t) q = t := by
  unfold sKn
  exact gt_same (by omega) h
theorem gt_sRow {r : Rw} {n s t u q : Int} {F : Nat → Int} (hq : 0 ≤ q) (h : q < 3610 + 8 * n ∨ 3618 + 8 * n ≤ q) : gt (sRow r n s F t u) q = gt r q := by
  unfold sRow
  rw [gt_ne hq (by omega), gt_ne hq (by omega), gt_cpy hq (by omega), gt_ne hq (by omega)]

set_option linter.all false
/-! the city as one row of numbers, laid out as the reference's row -/
abbrev Rw : Type := Nat → Int
def rud (r : Rw) (k v : Int) : Rw := fun j => if (j : Int) = k then v else r j
abbrev gt (r : Rw) (k : Int) : Int := r k.toNat
theorem gt_same {r : Rw} {k k' v : Int} (h0 : 0 ≤ k) (h : k' = k) : gt (rud r k v) k' = v := by
  subst h
  show (if ((k'.toNat : Nat) : Int) = k' then v else _) = v
  rw [if_pos (by omega)]
theorem gt_ne {r : Rw} {k k' v : Int} (h0 : 0 ≤ k') (h : k' ≠ k) : gt (rud r k v) k' = gt r k' := by
  show (if ((k'.toNat : Nat) : Int) = k then v else _) = _
  rw [if_neg (by omega)]
theorem rud_id {r : Rw} {k v : Int} (h0 : 0 ≤ k) (h : v = gt r k) : rud r k v = r := by
  funext j
  show (if (j : Int) = k then v else r j) = r j
  split
  · rename_i q
    rw [h, ← q]
    rfl
  · rfl
theorem rud_upd {r : Rw} {k k' v v' : Int} (h : k = k') : rud (rud r k v) k' v' = rud r k' v' := by
  subst h
  funext j
  show (if (j : Int) = k then v' else if (j : Int) = k then v else r j) = if (j : Int) = k then v' else r j
  split <;> rfl
theorem rud_comm {r : Rw} {k k' v v' : Int} (h : k ≠ k') : rud (rud r k v) k' v' = rud (rud r k' v') k v := by
  funext j
  show (if (j : Int) = k' then v' else if (j : Int) = k then v else r j) = if (j : Int) = k then v else if (j : Int) = k' then v' else r j
  by_cases e : (j : Int) = k'
  · rw [if_pos e, if_neg (by omega), if_pos e]
  · rw [if_neg e, if_neg e]
/-- what is left of a sum in 32 bits -/
def wr (z : Int) : Int := (iI z).toInt
theorem wr_id {z : Int} (h : fin32 z) : wr z = z := iI_int h
theorem wr_of {z w : Int} (hz : fin32 z) (e : iI z = iI w) : z = wr w := by
  unfold wr
  rw [← e, iI_int hz]
/-- which places the row covers -/
def covb (r : Nat) : Bool := Nat.ble r 8 || Nat.beq r 13 || (Nat.ble 17 r && Nat.ble r 22) || (Nat.ble 30 r && Nat.blt r 430 && Nat.ble ((r - 30) % 20) 17) || (Nat.ble 430 r && Nat.blt r 526) || (Nat.ble 530 r && Nat.blt r 866 && Nat.ble ((r - 530) % 14) 12) || (Nat.ble 870 r && Nat.blt r 1014 && Nat.ble ((r - 870) % 6) 3) || (Nat.ble 1020 r && Nat.blt r 1203) || (Nat.ble 3610 r && Nat.blt r 4330)
/-- the class's cell and place -/
def rwAJ (r : Nat) : Nat × Nat :=
  if r < 30 then (if r = 0 then (1, 9) else if r ≤ 4 then (1, r + 4) else if r = 5 then (2, 5) else if r = 6 then (2, 10) else if r = 7 then (163, 13) else if r = 8 then (177, 4) else if r = 13 then (2, 12) else (182, r - 17))
  else if r < 430 then (let c := (r - 30) / 20; let k := (r - 30) % 20; if k = 0 then (3, c) else if k ≤ 5 then (6 + c, k - 1) else if k = 6 then (4, c) else if k ≤ 11 then (27 + c, k - 7) else (48 + c, k - 12))
  else if r < 530 then (68 + (r - 430) % 4, (r - 430) / 4)
  else if r < 870 then (let w := (r - 530) / 14; let k := (r - 530) % 14; (if k ≤ 4 then 164 + k else if k ≤ 10 then 166 + k else 158 + k, w))
  else if r < 1020 then (178 + (r - 870) % 6, (r - 870) / 6)
  else if r < 1203 then (184 + (r - 1020) / 61, (r - 1020) % 61)
  else (let i := (r - 3610) / 8; let k := (r - 3610) % 8; (73 + i, if k = 0 then 7 else if k ≤ 5 then k - 1 else k - 1))
/-- the row's place of a cell's place -/
def rwP0 (a j : Nat) : Option Nat :=
  if a = 1 then (if j = 9 then some 0 else if 5 ≤ j ∧ j ≤ 8 then some (j - 4) else none)
  else if a = 2 then (if j = 5 then some 5 else if j = 10 then some 6 else if j = 12 then some 13 else none)
  else if a = 3 then (if j < 20 then some (30 + 20 * j) else none)
  else if a = 4 then (if j < 20 then some (36 + 20 * j) else none)
  else if 6 ≤ a ∧ a ≤ 25 then (if j < 5 then some (31 + 20 * (a - 6) + j) else none)
  else if 27 ≤ a ∧ a ≤ 46 then (if j < 5 then some (37 + 20 * (a - 27) + j) else none)
  else if 48 ≤ a ∧ a ≤ 67 then (if j < 6 then some (42 + 20 * (a - 48) + j) else none)
  else if 68 ≤ a ∧ a ≤ 71 then (if j < 24 then some (430 + 4 * j + (a - 68)) else none)
  else if 73 ≤ a ∧ a ≤ 162 then (if j < 8 then some (3610 + 8 * (a - 73) + (if j = 7 then 0 else j + 1)) else none)
  else if a = 163 then (if j = 13 then some 7 else none)
  else if 164 ≤ a ∧ a ≤ 168 then (if j < 24 then some (530 + 14 * j + (a - 164)) else none)
  else if a = 169 ∨ a = 170 then (if j < 24 then some (530 + 14 * j + (a - 158)) else none)
  else if 171 ≤ a ∧ a ≤ 176 then (if j < 24 then some (530 + 14 * j + (a - 166)) else none)
  else if a = 177 then (if j = 4 then some 8 else none)
  else if 178 ≤ a ∧ a ≤ 181 then (if j < 24 then some (870 + 6 * j + (a - 178)) else none)
  else if a = 182 then (if j < 6 then some (17 + j) else none)
  else if 184 ≤ a ∧ a ≤ 186 then (if j < 61 then some (1020 + 61 * (a - 184) + j) else none)
  else none
def rwP (a j : Nat) : Option Nat := if a < 187 ∧ j < 62 then rwP0 a j else none
theorem rwP_lt {a j r : Nat} (h : rwP a j = some r) : a < 187 ∧ j < 62 := by
  by_cases c : a < 187 ∧ j < 62
  · exact c
  · unfold rwP at h
    rw [if_neg c] at h
    cases h
theorem rw_1 {r : Nat} (h : covb r = true) : rwP (rwAJ r).1 (rwAJ r).2 = some r := by
  have q : (List.range 4330).all (fun r => !covb r || decide (rwP (rwAJ r).1 (rwAJ r).2 = some r)) = true := by decide +kernel
  have hr : r < 4330 := by
    unfold covb at h
    simp only [Bool.or_eq_true, Bool.and_eq_true, Nat.ble_eq, Nat.blt_eq, Nat.beq_eq] at h
    omega
  have e := List.all_eq_true.mp q r (List.mem_range.mpr hr)
  rw [h] at e
  exact of_decide_eq_true (by simpa using e)
theorem rw_2 {a j r : Nat} (h : rwP a j = some r) : covb r = true ∧ rwAJ r = (a, j) := by
  have q : (List.range 187).all (fun a => (List.range 62).all (fun j => (match rwP a j with | none => true | some r => covb r && decide (rwAJ r = (a, j))))) = true := by decide +kernel
  have hj : a < 187 ∧ j < 62 := rwP_lt h
  have e := List.all_eq_true.mp (List.all_eq_true.mp q a (List.mem_range.mpr hj.1)) j (List.mem_range.mpr hj.2)
  rw [h] at e
  obtain ⟨e1, e2⟩ := Bool.and_eq_true_iff.mp e
  exact ⟨e1, of_decide_eq_true e2⟩
def nv (v : Int) : Int := if v = -1000000005 then -1 else if v < 0 then -2 else v
/-- the class's city (0: now, 256: kept, 512: foretold) -/
def cR (d : Nat) (I : fH) : Rw := fun r => if covb r = true then (if (rwAJ r).1 = 175 then nv (I (175 + d) (rwAJ r).2) else if 48 ≤ (rwAJ r).1 ∧ (rwAJ r).1 ≤ 67 then (if I ((rwAJ r).1 + d) 5 = -1000000005 then (if (rwAJ r).2 = 5 then -1 else if I ((rwAJ r).1 + d) (rwAJ r).2 = -1000000005 then 0 else -2) else if I ((rwAJ r).1 + d) 5 < 0 then -2 else I ((rwAJ r).1 + d) (rwAJ r).2) else I ((rwAJ r).1 + d) (rwAJ r).2) else 0
/-- the reference's -/
def mR (I : fH) : Rw := fun r => if covb r = true then I 741 r else 0
abbrev rwN (a : Nat) : Prop := a ≠ 175 ∧ ¬ (48 ≤ a ∧ a ≤ 67)
theorem cR_ld {d a j r : Nat} {I : fH} (h : rwP a j = some r) (hn : rwN a) : cR d I r = I (a + d) j := by
  obtain ⟨h1, h2⟩ := rw_2 h
  unfold cR
  rw [if_pos h1, h2, if_neg hn.1, if_neg hn.2]
theorem cR_lv {d j r : Nat} {I : fH} (h : rwP 175 j = some r) : cR d I r = nv (I (175 + d) j) := by
  obtain ⟨h1, h2⟩ := rw_2 h
  unfold cR
  rw [if_pos h1, h2, if_pos rfl]
theorem cR_one {d a j r : Nat} {I K : fH} (h : rwP a j = some r) (hk : ¬ (48 ≤ a ∧ a ≤ 67)) (ho : ∀ a' j', a' ≠ a ∨ j' ≠ j → K (a' + d) j' = I (a' + d) j') (q : Nat) (hq : q ≠ r) : cR d K q = cR d I q := by
  unfold cR
  by_cases c : covb q = true
  · rw [if_pos c, if_pos c]
    have hp := rw_1 c
    have ne : (rwAJ q).1 ≠ a ∨ (rwAJ q).2 ≠ j := by
      by_cases s1 : (rwAJ q).1 = a
      · by_cases s2 : (rwAJ q).2 = j
        · exfalso
          rw [s1, s2, h] at hp
          exact hq (Option.some.inj hp).symm
        · exact Or.inr s2
      · exact Or.inl s1
    by_cases s1 : (rwAJ q).1 = 175
    · rw [if_pos s1, if_pos s1, ho 175 _ (by rw [← s1]; exact ne)]
    · rw [if_neg s1, if_neg s1]
      by_cases s2 : 48 ≤ (rwAJ q).1 ∧ (rwAJ q).1 ≤ 67
      · rw [if_pos s2, if_pos s2, ho _ 5 (Or.inl (fun e => hk (by rw [← e]; exact s2))), ho _ _ ne]
      · rw [if_neg s2, if_neg s2, ho _ _ ne]
  · rw [if_neg c, if_neg c]
theorem fupd_oth {I K : fH} {a d j : Nat} {v : Int} (e : K = fupd I (a + d) j v) (a' j' : Nat) (h : a' ≠ a ∨ j' ≠ j) : K (a' + d) j' = I (a' + d) j' := by
  rw [e]
  exact if_neg (fun w => by have w1 := w.1; have w2 := w.2; omega)
theorem cR_st {d a j r : Nat} {I K : fH} {v : Int} (e : K = fupd I (a + d) j v) (h : rwP a j = some r) (hn : rwN a) : cR d K = rud (cR d I) (r : Int) v := by
  funext q
  by_cases hq : q = r
  · subst hq
    rw [cR_ld h hn, e]
    show (if a + d = a + d ∧ j = j then v else _) = (if ((q : Nat) : Int) = (q : Int) then v else _)
    rw [if_pos ⟨rfl, rfl⟩, if_pos rfl]
  · exact (cR_one h hn.2 (fupd_oth e) q hq).trans (if_neg (by omega)).symm
theorem cR_sl {d j r : Nat} {I K : fH} {v : Int} (e : K = fupd I (175 + d) j v) (h : rwP 175 j = some r) : cR d K = rud (cR d I) (r : Int) (nv v) := by
  funext q
  by_cases hq : q = r
  · subst hq
    rw [cR_lv h, e]
    show nv (if 175 + d = 175 + d ∧ j = j then v else _) = (if ((q : Nat) : Int) = (q : Int) then nv v else _)
    rw [if_pos ⟨rfl, rfl⟩, if_pos rfl]
  · exact (cR_one h (by omega) (fupd_oth e) q hq).trans (if_neg (by omega)).symm
theorem mR_ld {k : Nat} {I : fH} (h : covb k = true) : mR I k = I 741 k := if_pos h
theorem mR_st {k : Nat} {I K : fH} {v : Int} (e : K = fupd I 741 k v) (h : covb k = true) : mR K = rud (mR I) (k : Int) v := by
  funext q
  show (if covb q = true then K 741 q else 0) = (if ((q : Nat) : Int) = (k : Int) then v else if covb q = true then I 741 q else 0)
  by_cases hq : q = k
  · subst hq
    rw [if_pos h, if_pos (rfl : ((q : Nat) : Int) = (q : Int)), e]
    exact if_pos ⟨rfl, rfl⟩
  · rw [if_neg (show ¬ ((q : Nat) : Int) = (k : Int) by omega)]
    by_cases c : covb q = true
    · rw [if_pos c, if_pos c, e]
      exact if_neg (fun w => hq w.2)
    · rw [if_neg c, if_neg c]
/-! stores -/
section RST
variable {d a n b m : Nat} {I K : fH} {i v p z : Int}
def rwA (a n b m : Nat) : Bool := (List.range n).all (fun j => decide (rwP a j = some (b + m * j)))
theorem rwA_of (h : rwA a n b m = true) {j : Nat} (hj : j < n) : rwP a j = some (b + m * j) := of_decide_eq_true (List.all_eq_true.mp h j (List.mem_range.mpr hj))
theorem cS_a (h : rwA a n b m = true) (hn : rwN a) (e : K = fupd I (a + d) i.toNat v) (hi : 0 ≤ i ∧ i < (n : Int)) (hp : p = (b : Int) + (m : Int) * i) : cR d K = rud (cR d I) p v := by
  have q := cR_st e (rwA_of h (j := i.toNat) (by omega)) hn
  rw [q, hp]
  congr 1
  rw [Int.natCast_add, Int.natCast_mul, Int.toNat_of_nonneg hi.1]
theorem cS_f {j r : Nat} (h : rwP a j = some r) (hn : rwN a) (e : K = fupd I (a + d) j v) (hp : p = (r : Int)) : cR d K = rud (cR d I) p v := by
  rw [hp]
  exact cR_st e h hn
def rwB (a nr n b mr m : Nat) : Bool := (List.range nr).all (fun c => (List.range n).all (fun j => decide (rwP (a + c) j = some (b + mr * c + m * j))))
theorem rwB_of {nr mr : Nat} (h : rwB a nr n b mr m = true) {c j : Nat} (hc : c < nr) (hj : j < n) : rwP (a + c) j = some (b + mr * c + m * j) := of_decide_eq_true (List.all_eq_true.mp (List.all_eq_true.mp h c (List.mem_range.mpr hc)) j (List.mem_range.mpr hj))
theorem cS_r {nr mr : Nat} {c : Int} (h : rwB a nr n b mr m = true) (hn : a + nr ≤ 48 ∨ (68 ≤ a ∧ a + nr ≤ 175) ∨ 176 ≤ a) (e : K = fupd I (a + d + c.toNat) i.toNat v) (hc : 0 ≤ c ∧ c < (nr : Int)) (hi : 0 ≤ i ∧ i < (n : Int)) (hp : p = (b : Int) + (mr : Int) * c + (m : Int) * i) : cR d K = rud (cR d I) p v := by
  have e2 : K = fupd I (a + c.toNat + d) i.toNat v := by rw [e, show a + c.toNat + d = a + d + c.toNat by omega]
  have q := cR_st (a := a + c.toNat) (d := d) (j := i.toNat) e2 (rwB_of h (c := c.toNat) (by omega) (by omega)) (by unfold rwN; omega)
  rw [q, hp]
  congr 1
  rw [Int.natCast_add, Int.natCast_add, Int.natCast_mul, Int.natCast_mul, Int.toNat_of_nonneg hi.1, Int.toNat_of_nonneg hc.1]
/-- one place of each row -/
def rwC (a nr j b mr : Nat) : Bool := (List.range nr).all (fun c => decide (rwP (a + c) j = some (b + mr * c)))
theorem rwC_of {nr j mr : Nat} (h : rwC a nr j b mr = true) {c : Nat} (hc : c < nr) : rwP (a + c) j = some (b + mr * c) := of_decide_eq_true (List.all_eq_true.mp h c (List.mem_range.mpr hc))
theorem cS_c {nr j mr : Nat} {c : Int} (h : rwC a nr j b mr = true) (hn : a + nr ≤ 48 ∨ (68 ≤ a ∧ a + nr ≤ 175) ∨ 176 ≤ a) (e : K = fupd I (a + d + c.toNat) i.toNat v) (hi : i.toNat = j) (hc : 0 ≤ c ∧ c < (nr : Int)) (hp : p = (b : Int) + (mr : Int) * c) : cR d K = rud (cR d I) p v := by
  have e2 : K = fupd I (a + c.toNat + d) j v := by rw [e, hi, show a + c.toNat + d = a + d + c.toNat by omega]
  have q := cR_st (a := a + c.toNat) (d := d) (j := j) e2 (rwC_of h (c := c.toNat) (by omega)) (by unfold rwN; omega)
  rw [q, hp]
  congr 1
  rw [Int.natCast_add, Int.natCast_mul, Int.toNat_of_nonneg hc.1]
theorem rud_cast {r : Rw} {k : Nat} {p v : Int} (h : (k : Int) = p) : rud r (k : Int) v = rud r p v := by rw [h]
/-- loads -/
theorem cL_a (h : rwA a n b m = true) (hn : rwN a) (q : z = I (a + d) i.toNat) (hi : 0 ≤ i ∧ i < (n : Int)) (hp : p = (b : Int) + (m : Int) * i) : z = gt (cR d I) p := by
  rw [q, hp]
  show _ = cR d I ((b : Int) + (m : Int) * i).toNat
  rw [show ((b : Int) + (m : Int) * i).toNat = b + m * i.toNat by
    have e : ((b + m * i.toNat : Nat) : Int) = (b : Int) + (m : Int) * i := by rw [Int.natCast_add, Int.natCast_mul, Int.toNat_of_nonneg hi.1]
    rw [← e, Int.toNat_natCast]]
  exact (cR_ld (rwA_of h (by omega)) hn).symm
theorem cL_f {j r : Nat} (h : rwP a j = some r) (hn : rwN a) (q : z = I (a + d) j) (hp : p = (r : Int)) : z = gt (cR d I) p := by
  rw [q, hp]
  show _ = cR d I ((r : Int)).toNat
  rw [Int.toNat_natCast]
  exact (cR_ld h hn).symm
theorem cL_r {nr mr : Nat} {c : Int} (h : rwB a nr n b mr m = true) (hn : a + nr ≤ 48 ∨ (68 ≤ a ∧ a + nr ≤ 175) ∨ 176 ≤ a) (q : z = I (a + d + c.toNat) i.toNat) (hc : 0 ≤ c ∧ c < (nr : Int)) (hi : 0 ≤ i ∧ i < (n : Int)) (hp : p = (b : Int) + (mr : Int) * c + (m : Int) * i) : z = gt (cR d I) p := by
  rw [q, hp]
  show _ = cR d I ((b : Int) + (mr : Int) * c + (m : Int) * i).toNat
  rw [show ((b : Int) + (mr : Int) * c + (m : Int) * i).toNat = b + mr * c.toNat + m * i.toNat by
    have e : ((b + mr * c.toNat + m * i.toNat : Nat) : Int) = (b : Int) + (mr : Int) * c + (m : Int) * i := by rw [Int.natCast_add, Int.natCast_add, Int.natCast_mul, Int.natCast_mul, Int.toNat_of_nonneg hi.1, Int.toNat_of_nonneg hc.1]
    rw [← e, Int.toNat_natCast]]
  rw [cR_ld (rwB_of h (c := c.toNat) (j := i.toNat) (by omega) (by omega)) (by unfold rwN; omega), show a + c.toNat + d = a + d + c.toNat by omega]
/-- the reference's -/
def rwD (i0 i1 m q : Nat) : Bool := (List.range (i1 + 1)).all (fun k => Nat.blt k i0 || (Nat.blt q ((k - i0) % m) || covb k))
theorem rwD_of {i0 i1 m q : Nat} (h : rwD i0 i1 m q = true) {i : Int} (hi : ((i0 : Int) ≤ i ∧ i ≤ (i1 : Int)) ∧ (i - (i0 : Int)) % (m : Int) ≤ (q : Int)) : covb i.toNat = true := by
  have e := List.all_eq_true.mp h i.toNat (List.mem_range.mpr (by omega))
  have h2 : (i.toNat - i0) % m ≤ q := by
    have e2 : (((i.toNat - i0) % m : Nat) : Int) = (i - (i0 : Int)) % (m : Int) := by
      rw [Int.natCast_emod, show ((i.toNat - i0 : Nat) : Int) = i - (i0 : Int) by omega]
    omega
  rw [show Nat.blt i.toNat i0 = false from by
    cases hb : Nat.blt i.toNat i0 with
    | false => rfl
    | true => exact absurd (Nat.blt_eq.mp hb) (by omega), show Nat.blt q ((i.toNat - i0) % m) = false from by
    cases hb : Nat.blt q ((i.toNat - i0) % m) with
    | false => rfl
    | true => exact absurd (Nat.blt_eq.mp hb) (by omega)] at e
  simpa using e
theorem mS_r {i0 i1 m q : Nat} (h : rwD i0 i1 m q = true) (e : K = fupd I 741 i.toNat v) (hi : ((i0 : Int) ≤ i ∧ i ≤ (i1 : Int)) ∧ (i - (i0 : Int)) % (m : Int) ≤ (q : Int)) (hp : p = i) : mR K = rud (mR I) p v := by
  rw [mR_st e (rwD_of h hi), hp, Int.toNat_of_nonneg (by omega)]
theorem mL_r {i0 i1 m q : Nat} (h : rwD i0 i1 m q = true) (e : z = I 741 i.toNat) (hi : ((i0 : Int) ≤ i ∧ i ≤ (i1 : Int)) ∧ (i - (i0 : Int)) % (m : Int) ≤ (q : Int)) (hp : p = i) : z = gt (mR I) p := by
  rw [e, hp]
  exact (mR_ld (rwD_of h hi)).symm
theorem mR_eq (h : ∀ j, K 741 j = I 741 j) : mR K = mR I := by
  funext q
  show (if covb q = true then K 741 q else 0) = (if covb q = true then I 741 q else 0)
  rw [h]
theorem mR_ot {o j : Nat} (e : K = fupd I o j v) (h : o ≠ 741) : mR K = mR I := mR_eq (fun q => by rw [e]; exact if_neg (fun w => h w.1.symm))
theorem cR_eq (h : ∀ a' j, a' < 187 → K (a' + d) j = I (a' + d) j) : cR d K = cR d I := by
  funext q
  unfold cR
  by_cases c : covb q = true
  · have hp := rw_1 c
    have ha : (rwAJ q).1 < 187 := (rwP_lt hp).1
    rw [if_pos c, if_pos c, h 175 _ (by omega), h _ 5 ha, h _ _ ha]
  · rw [if_neg c, if_neg c]
theorem cR_ot {o j : Nat} (e : K = fupd I o j v) (h : o < d ∨ 187 + d ≤ o) : cR d K = cR d I := cR_eq (fun a' q ha => by rw [e]; exact if_neg (fun w => by have w1 := w.1; omega))
theorem cL_l (q : z = I (175 + d) i.toNat) (hi : 0 ≤ i ∧ i < 24) (hp : p = 539 + 14 * i) : gt (cR d I) p = nv z := by
  have h : rwA 175 24 539 14 = true := by decide +kernel
  rw [q, hp]
  show cR d I (539 + 14 * i).toNat = _
  rw [show (539 + 14 * i).toNat = 539 + 14 * i.toNat by omega]
  exact cR_lv (rwA_of h (by omega))
theorem cS_l (e : K = fupd I (175 + d) i.toNat v) (hi : 0 ≤ i ∧ i < 24) (hp : p = 539 + 14 * i) : cR d K = rud (cR d I) p (nv v) := by
  have h : rwA 175 24 539 14 = true := by decide +kernel
  rw [cR_sl e (rwA_of h (j := i.toNat) (by omega)), hp]
  congr 1
  omega
theorem cL_c {nr j mr : Nat} {c : Int} (h : rwC a nr j b mr = true) (hn : a + nr ≤ 48 ∨ (68 ≤ a ∧ a + nr ≤ 175) ∨ 176 ≤ a) (q : z = I (a + d + c.toNat) i.toNat) (hi : i.toNat = j) (hc : 0 ≤ c ∧ c < (nr : Int)) (hp : p = (b : Int) + (mr : Int) * c) : z = gt (cR d I) p := by
  rw [q, hp, hi]
  show _ = cR d I ((b : Int) + (mr : Int) * c).toNat
  rw [show ((b : Int) + (mr : Int) * c).toNat = b + mr * c.toNat by
    have e : ((b + mr * c.toNat : Nat) : Int) = (b : Int) + (mr : Int) * c := by rw [Int.natCast_add, Int.natCast_mul, Int.toNat_of_nonneg hc.1]
    rw [← e, Int.toNat_natCast]]
  rw [cR_ld (rwC_of h (c := c.toNat) (by omega)) (by unfold rwN; omega), show a + c.toNat + d = a + d + c.toNat by omega]
def rwE (i0 i1 m q : Nat) : Bool := (List.range (i1 + 1)).all (fun k => Nat.blt k i0 || (Nat.blt q ((k - i0) % m) || Bool.not (covb k)))
theorem mR_nc {i0 i1 m q : Nat} (h : rwE i0 i1 m q = true) (e : K = fupd I 741 i.toNat v) (hi : ((i0 : Int) ≤ i ∧ i ≤ (i1 : Int)) ∧ (i - (i0 : Int)) % (m : Int) ≤ (q : Int)) : mR K = mR I := by
  have e1 := List.all_eq_true.mp h i.toNat (List.mem_range.mpr (by omega))
  have h2 : (i.toNat - i0) % m ≤ q := by
    have e2 : (((i.toNat - i0) % m : Nat) : Int) = (i - (i0 : Int)) % (m : Int) := by
      rw [Int.natCast_emod, show ((i.toNat - i0 : Nat) : Int) = i - (i0 : Int) by omega]
    omega
  rw [show Nat.blt i.toNat i0 = false from by
    cases hb : Nat.blt i.toNat i0 with
    | false => rfl
    | true => exact absurd (Nat.blt_eq.mp hb) (by omega), show Nat.blt q ((i.toNat - i0) % m) = false from by
    cases hb : Nat.blt q ((i.toNat - i0) % m) with
    | false => rfl
    | true => exact absurd (Nat.blt_eq.mp hb) (by omega)] at e1
  have hc : covb i.toNat = false := by simpa using e1
  funext k
  show (if covb k = true then K 741 k else 0) = (if covb k = true then I 741 k else 0)
  by_cases c : covb k = true
  · rw [if_pos c, if_pos c, e]
    refine if_neg (fun w => ?_)
    rw [← w.2, c] at hc
    cases hc
  · rw [if_neg c, if_neg c]
end RST

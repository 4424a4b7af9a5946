set_option linter.all false
/-! frames of the city's row; its numbers are ints -/
def cKb (d : Nat) (f : Nat → Nat → Bool) : Bool := (List.range 4330).all (fun r => !covb r || f ((rwAJ r).1 + d) (rwAJ r).2) && (List.range 20).all (fun c => f (48 + c + d) 5)
theorem covb_lt {r : Nat} (h : covb r = true) : r < 4330 := by
  unfold covb at h
  simp only [Bool.or_eq_true, Bool.and_eq_true, Nat.ble_eq, Nat.blt_eq, Nat.beq_eq] at h
  omega
theorem bor_of {a b : Bool} (h : (!a || b) = true) (ha : a = true) : b = true := by rw [ha] at h; exact h
theorem cKb_1 {d : Nat} {f : Nat → Nat → Bool} (h : cKb d f = true) {r : Nat} (hr : covb r = true) : f ((rwAJ r).1 + d) (rwAJ r).2 = true :=
  bor_of (List.all_eq_true.mp (Bool.and_eq_true_iff.mp h).1 r (List.mem_range.mpr (covb_lt hr))) hr
theorem cKb_2 {d : Nat} {f : Nat → Nat → Bool} (h : cKb d f = true) {a : Nat} (ha : 48 ≤ a ∧ a ≤ 67) : f (a + d) 5 = true := by
  have q := List.all_eq_true.mp (Bool.and_eq_true_iff.mp h).2 (a - 48) (List.mem_range.mpr (by omega))
  rw [show 48 + (a - 48) + d = a + d by omega] at q
  exact q
theorem cR_cg {d : Nat} {I K : fH} (h1 : ∀ r, covb r = true → K ((rwAJ r).1 + d) (rwAJ r).2 = I ((rwAJ r).1 + d) (rwAJ r).2) (h2 : ∀ a, 48 ≤ a ∧ a ≤ 67 → K (a + d) 5 = I (a + d) 5) : cR d K = cR d I := by
  funext r
  unfold cR
  by_cases c : covb r = true
  · rw [if_pos c, if_pos c]
    have e1 := h1 r c
    by_cases s1 : (rwAJ r).1 = 175
    · rw [if_pos s1, if_pos s1, ← s1, e1]
    · rw [if_neg s1, if_neg s1]
      by_cases s2 : 48 ≤ (rwAJ r).1 ∧ (rwAJ r).1 ≤ 67
      · rw [if_pos s2, if_pos s2, h2 _ s2, e1]
      · rw [if_neg s2, if_neg s2, e1]
  · rw [if_neg c, if_neg c]
def zin (W : List Nat) (z : Nat) : Bool := Bool.not (W.elem z)
theorem zin_of {Z W : List Nat} (h : Z.all (fun z => zin W z) = true) {z : Nat} (hz : Z.elem z = true) : W.elem z = false := by
  have q := List.all_eq_true.mp h z (List.elem_iff.mp hz)
  unfold zin at q
  cases c : W.elem z with
  | false => rfl
  | true => rw [c] at q; cases q
theorem cR_fr {d : Nat} {Z W : List Nat} {I I' : fH} (hz : cKb d (fun a j => Z.elem (znJ a j)) = true) (f : fFr znJ W I I') (h : Z.all (fun z => zin W z) = true) : cR d I' = cR d I :=
  cR_cg (fun _ hr => f _ _ (zin_of h (cKb_1 hz hr))) (fun _ ha => f _ _ (zin_of h (cKb_2 hz ha)))
def finb (a j : Nat) : Bool := decide (-2147483648 ≤ (bsJ a j).1) && decide ((bsJ a j).2 < 2147483648)
theorem finb_of {I : fH} (h0 : fB bsJ I) {a j : Nat} (h : finb a j = true) : fin32 (I a j) := by
  have q := Bool.and_eq_true_iff.mp h
  have q1 := of_decide_eq_true q.1
  have q2 := of_decide_eq_true q.2
  have b := h0 a j
  exact ⟨by omega, by omega⟩
theorem nv_fin {v : Int} (h : fin32 v) : fin32 (nv v) := by
  unfold nv
  split
  · exact ⟨by decide, by decide⟩
  · split
    · exact ⟨by decide, by decide⟩
    · exact h
theorem cR_fin {d : Nat} {I : fH} (hk : cKb d finb = true) (h0 : fB bsJ I) (k : Int) : fin32 (gt (cR d I) k) := by
  show fin32 (cR d I k.toNat)
  unfold cR
  by_cases c : covb k.toNat = true
  · have e1 := finb_of h0 (cKb_1 hk c)
    rw [if_pos c]
    split
    · rename_i s
      exact nv_fin (by rw [← s]; exact e1)
    · split
      · split
        · split
          · exact ⟨by decide, by decide⟩
          · split <;> exact ⟨by decide, by decide⟩
        · split
          · exact ⟨by decide, by decide⟩
          · exact e1
      · exact e1
  · rw [if_neg c]
    exact ⟨by decide, by decide⟩
def cZ0 : List Nat := [3, 4, 5, 26, 47, 68, 69, 70, 71, 72, 164, 165, 166, 167, 168, 169, 170, 171, 172, 173, 174, 175, 176, 178, 179, 180, 181, 182, 183, 10105, 10106, 10107, 10108, 10109, 10205, 10210, 10212, 10313, 10404]
theorem cZ0_ok : cKb 0 (fun a j => cZ0.elem (znJ a j)) = true := by decide +kernel
theorem cF0_ok : cKb 0 finb = true := by decide +kernel
def cZ256 : List Nat := [259, 260, 261, 282, 303, 324, 325, 326, 327, 328, 420, 421, 422, 423, 424, 425, 426, 427, 428, 429, 430, 431, 432, 434, 435, 436, 437, 438, 439, 10705, 10706, 10707, 10708, 10709, 10805, 10810, 10812, 10913, 11004]
theorem cZ256_ok : cKb 256 (fun a j => cZ256.elem (znJ a j)) = true := by decide +kernel
theorem cF256_ok : cKb 256 finb = true := by decide +kernel
def cZ512 : List Nat := [515, 516, 517, 538, 559, 580, 581, 582, 583, 584, 676, 677, 678, 679, 680, 681, 682, 683, 684, 685, 686, 687, 688, 690, 691, 692, 693, 694, 695, 11305, 11306, 11307, 11308, 11309, 11405, 11410, 11412, 11513, 11604]
theorem cZ512_ok : cKb 512 (fun a j => cZ512.elem (znJ a j)) = true := by decide +kernel
theorem cF512_ok : cKb 512 finb = true := by decide +kernel
def mZ : List Nat := [20000, 20001, 20002, 20003, 20004, 20005, 20006, 20007, 20008, 20013, 20017, 20018, 20019, 20020, 20021, 20022, 20100, 20101, 20102, 20103, 20104, 20105, 20106, 20107, 20108, 20109, 20110, 20111, 20112, 20113, 20114, 20115, 20116, 20117, 20200, 20201, 20202, 20203, 20300, 20301, 20302, 20303, 20304, 20305, 20306, 20307, 20308, 20309, 20310, 20311, 20312, 20400, 20401, 20402, 20403, 20500, 20700, 20701, 20702, 20703, 20704, 20705, 20706, 20707]
theorem mZ_ok : (List.range 4330).all (fun r => !covb r || mZ.elem (znJ 741 r)) = true := by decide +kernel
theorem mF_ok : (List.range 4330).all (fun r => !covb r || finb 741 r) = true := by decide +kernel
theorem mR_fr {W : List Nat} {I I' : fH} (f : fFr znJ W I I') (h : mZ.all (fun z => zin W z) = true) : mR I' = mR I := by
  funext r
  show (if covb r = true then I' 741 r else 0) = (if covb r = true then I 741 r else 0)
  by_cases c : covb r = true
  · rw [if_pos c, if_pos c]
    exact f _ _ (zin_of h (bor_of (List.all_eq_true.mp mZ_ok r (List.mem_range.mpr (covb_lt c))) c))
  · rw [if_neg c, if_neg c]
theorem mR_fin {I : fH} (h0 : fB bsJ I) (k : Int) : fin32 (gt (mR I) k) := by
  show fin32 (if covb k.toNat = true then I 741 k.toNat else 0)
  by_cases c : covb k.toNat = true
  · rw [if_pos c]
    exact finb_of h0 (bor_of (List.all_eq_true.mp mF_ok _ (List.mem_range.mpr (covb_lt c))) c)
  · rw [if_neg c]
    exact ⟨by decide, by decide⟩
/-! bounds of the row's places, and regions that a frame leaves -/
def rgn (i0 i1 m q k : Nat) : Bool := Nat.ble i0 k && Nat.ble k i1 && Nat.ble ((k - i0) % m) q
theorem rgn_of {i0 i1 m q : Nat} {i : Int} (hi : ((i0 : Int) ≤ i ∧ i ≤ (i1 : Int)) ∧ (i - (i0 : Int)) % (m : Int) ≤ (q : Int)) : rgn i0 i1 m q i.toNat = true ∧ i.toNat < i1 + 1 := by
  have h2 : (i.toNat - i0) % m ≤ q := by
    have e2 : (((i.toNat - i0) % m : Nat) : Int) = (i - (i0 : Int)) % (m : Int) := by
      rw [Int.natCast_emod, show ((i.toNat - i0 : Nat) : Int) = i - (i0 : Int) by omega]
    omega
  refine ⟨?_, by omega⟩
  unfold rgn
  rw [Nat.ble_eq.mpr (show i0 ≤ i.toNat by omega), Nat.ble_eq.mpr (show i.toNat ≤ i1 by omega), Nat.ble_eq.mpr h2]
  rfl
def bndb (lo hi : Int) (a j : Nat) : Bool := decide (lo ≤ (bsJ a j).1) && decide ((bsJ a j).2 ≤ hi)
theorem bndb_of {I : fH} (h0 : fB bsJ I) {lo hi : Int} {a j : Nat} (h : bndb lo hi a j = true) : lo ≤ I a j ∧ I a j ≤ hi := by
  have q := Bool.and_eq_true_iff.mp h
  have q1 := of_decide_eq_true q.1
  have q2 := of_decide_eq_true q.2
  have b := h0 a j
  exact ⟨by omega, by omega⟩
def plainb (a : Nat) : Bool := !(Nat.beq a 175) && !(Nat.ble 48 a && Nat.ble a 67)
theorem plainb_of {a : Nat} (h : plainb a = true) : rwN a := by
  unfold plainb at h
  simp only [Bool.and_eq_true, Bool.not_eq_true', Bool.and_eq_false_iff] at h
  refine ⟨fun e => ?_, fun e => ?_⟩
  · subst e
    exact absurd h.1 (by decide)
  · rcases h.2 with q | q
    · rw [Nat.ble_eq.mpr e.1] at q
      cases q
    · rw [Nat.ble_eq.mpr e.2] at q
      cases q
def cBb (d i0 i1 m q : Nat) (lo hi : Int) : Bool := (List.range (i1 + 1)).all (fun k => !rgn i0 i1 m q k || (covb k && plainb (rwAJ k).1 && bndb lo hi ((rwAJ k).1 + d) (rwAJ k).2))
theorem cR_rng {d i0 i1 m q : Nat} {lo hi : Int} {I : fH} {i : Int} (h : cBb d i0 i1 m q lo hi = true) (h0 : fB bsJ I) (hi' : ((i0 : Int) ≤ i ∧ i ≤ (i1 : Int)) ∧ (i - (i0 : Int)) % (m : Int) ≤ (q : Int)) : lo ≤ gt (cR d I) i ∧ gt (cR d I) i ≤ hi := by
  obtain ⟨e1, e2⟩ := rgn_of hi'
  have e3 := bor_of (List.all_eq_true.mp h i.toNat (List.mem_range.mpr e2)) e1
  obtain ⟨e4, e5⟩ := Bool.and_eq_true_iff.mp e3
  obtain ⟨e6, e7⟩ := Bool.and_eq_true_iff.mp e4
  have e8 : gt (cR d I) i = I ((rwAJ i.toNat).1 + d) (rwAJ i.toNat).2 := cR_ld (rw_1 e6) (plainb_of e7)
  rw [e8]
  exact bndb_of h0 e5
def mBb (i0 i1 m q : Nat) (lo hi : Int) : Bool := (List.range (i1 + 1)).all (fun k => !rgn i0 i1 m q k || (covb k && bndb lo hi 741 k))
theorem mR_rng {i0 i1 m q : Nat} {lo hi : Int} {I : fH} {i : Int} (h : mBb i0 i1 m q lo hi = true) (h0 : fB bsJ I) (hi' : ((i0 : Int) ≤ i ∧ i ≤ (i1 : Int)) ∧ (i - (i0 : Int)) % (m : Int) ≤ (q : Int)) : lo ≤ gt (mR I) i ∧ gt (mR I) i ≤ hi := by
  obtain ⟨e1, e2⟩ := rgn_of hi'
  have e3 := bor_of (List.all_eq_true.mp h i.toNat (List.mem_range.mpr e2)) e1
  obtain ⟨e4, e5⟩ := Bool.and_eq_true_iff.mp e3
  have e8 : gt (mR I) i = I 741 i.toNat := mR_ld e4
  rw [e8]
  exact bndb_of h0 e5
def cZb (d : Nat) (W : List Nat) (i0 i1 m q : Nat) : Bool := (List.range (i1 + 1)).all (fun k => !rgn i0 i1 m q k || (covb k && plainb (rwAJ k).1 && zin W (znJ ((rwAJ k).1 + d) (rwAJ k).2)))
theorem zin_el {W : List Nat} {z : Nat} (h : zin W z = true) : W.elem z = false := by
  unfold zin at h
  cases c : W.elem z with
  | false => rfl
  | true => rw [c] at h; cases h
/-- a place of the row that a frame leaves -/
theorem cG_fr {d i0 i1 m q : Nat} {W : List Nat} {I K : fH} {i : Int} (h : cZb d W i0 i1 m q = true) (f : fFr znJ W I K) (hi' : ((i0 : Int) ≤ i ∧ i ≤ (i1 : Int)) ∧ (i - (i0 : Int)) % (m : Int) ≤ (q : Int)) : gt (cR d K) i = gt (cR d I) i := by
  obtain ⟨e1, e2⟩ := rgn_of hi'
  have e3 := bor_of (List.all_eq_true.mp h i.toNat (List.mem_range.mpr e2)) e1
  obtain ⟨e4, e5⟩ := Bool.and_eq_true_iff.mp e3
  obtain ⟨e6, e7⟩ := Bool.and_eq_true_iff.mp e4
  have e8 : gt (cR d K) i = K ((rwAJ i.toNat).1 + d) (rwAJ i.toNat).2 := cR_ld (rw_1 e6) (plainb_of e7)
  have e9 : gt (cR d I) i = I ((rwAJ i.toNat).1 + d) (rwAJ i.toNat).2 := cR_ld (rw_1 e6) (plainb_of e7)
  rw [e8, e9]
  exact f _ _ (zin_el e5)
def mZb (W : List Nat) (i0 i1 m q : Nat) : Bool := (List.range (i1 + 1)).all (fun k => !rgn i0 i1 m q k || (covb k && zin W (znJ 741 k)))
theorem mG_fr {i0 i1 m q : Nat} {W : List Nat} {I K : fH} {i : Int} (h : mZb W i0 i1 m q = true) (f : fFr znJ W I K) (hi' : ((i0 : Int) ≤ i ∧ i ≤ (i1 : Int)) ∧ (i - (i0 : Int)) % (m : Int) ≤ (q : Int)) : gt (mR K) i = gt (mR I) i := by
  obtain ⟨e1, e2⟩ := rgn_of hi'
  have e3 := bor_of (List.all_eq_true.mp h i.toNat (List.mem_range.mpr e2)) e1
  obtain ⟨e4, e5⟩ := Bool.and_eq_true_iff.mp e3
  have e8 : gt (mR K) i = K 741 i.toNat := mR_ld e4
  have e9 : gt (mR I) i = I 741 i.toNat := mR_ld e4
  rw [e8, e9]
  exact f _ _ (zin_el e5)
theorem gt_at {r : Rw} {p q x : Int} (hx : x = gt r p) (h : p = q) : x = gt r q := by rw [hx, h]
theorem mG_at {i0 i1 m q : Nat} {I : fH} {i : Int} {j : Nat} (h : mBb i0 i1 m q (-2147483648) 2147483647 = true) (hi' : ((i0 : Int) ≤ i ∧ i ≤ (i1 : Int)) ∧ (i - (i0 : Int)) % (m : Int) ≤ (q : Int)) (hj : i.toNat = j) : gt (mR I) i = I 741 j := by
  obtain ⟨e1, e2⟩ := rgn_of hi'
  have e3 := bor_of (List.all_eq_true.mp h i.toNat (List.mem_range.mpr e2)) e1
  obtain ⟨e4, e5⟩ := Bool.and_eq_true_iff.mp e3
  rw [← hj]
  exact mR_ld e4
theorem mL_cov {I : fH} {i z : Int} (h : covb i.toNat = true) (e : z = I 741 i.toNat) : z = gt (mR I) i := e.trans (mR_ld h).symm
theorem kn_cov {i : Int} (h : ((31 ≤ i ∧ i ≤ 415) ∧ (i - 31) % 20 ≤ 4) ∨ (3610 ≤ i ∧ i ≤ 4329)) : covb i.toNat = true := by
  have t : (List.range 4330).all (fun k => !((Nat.ble 31 k && Nat.ble k 415 && Nat.ble ((k - 31) % 20) 4) || (Nat.ble 3610 k && Nat.ble k 4329)) || covb k) = true := by decide +kernel
  refine bor_of (List.all_eq_true.mp t i.toNat (List.mem_range.mpr (by omega))) ?_
  rcases h with ⟨⟨h1, h2⟩, h3⟩ | ⟨h1, h2⟩
  · rw [Nat.ble_eq.mpr (show 31 ≤ i.toNat by omega), Nat.ble_eq.mpr (show i.toNat ≤ 415 by omega), Nat.ble_eq.mpr (show (i.toNat - 31) % 20 ≤ 4 by omega)]
    rfl
  · rw [Nat.ble_eq.mpr (show 3610 ≤ i.toNat by omega), Nat.ble_eq.mpr (show i.toNat ≤ 4329 by omega)]
    simp

set_option linter.all false
/-! bytes of a number -/
def fyX (v s : Int) : Int := (xio 3 (xio 8 (iI v) (iI s)) (iI 255)).toInt
def fyM (v s : Int) : Int := (xio 3 (xio 7 (iI v) (iI s)) (iI 255)).toInt
theorem fy_8 (x : Int32) {s : Nat} (hs : s = 0 ∨ s = 8 ∨ s = 16 ∨ s = 24) : (xio 8 x (iI (s : Int))).toBitVec = x.toBitVec >>> s := by
  have e : ((iI (s : Int)).toUInt32 &&& Int32.toUInt32 31).toBitVec % 32 = BitVec.ofNat 32 s := by
    rcases hs with rfl | rfl | rfl | rfl <;> decide
  show (x.toUInt32 >>> ((iI (s : Int)).toUInt32 &&& Int32.toUInt32 31)).toBitVec = x.toBitVec >>> s
  rw [UInt32.toBitVec_shiftRight, e, BitVec.ushiftRight_eq']
  rcases hs with rfl | rfl | rfl | rfl <;> rfl
theorem fy_7 (x : Int32) {s : Nat} (hs : s = 0 ∨ s = 8 ∨ s = 16 ∨ s = 24) : (xio 7 x (iI (s : Int))).toBitVec = x.toBitVec.sshiftRight s := by
  have e : (iI (s : Int) &&& 31).toBitVec.smod 32 = BitVec.ofNat 32 s := by
    rcases hs with rfl | rfl | rfl | rfl <;> decide
  show (x >>> (iI (s : Int) &&& 31)).toBitVec = x.toBitVec.sshiftRight s
  rw [Int32.toBitVec_shiftRight, e]
  rcases hs with rfl | rfl | rfl | rfl <;> rfl
theorem fy_eq {v s : Int} (hs : s = 0 ∨ s = 8 ∨ s = 16 ∨ s = 24) : fyX v s = fyM v s := by
  unfold fyX fyM
  congr 1
  obtain ⟨k, rfl, hk⟩ : ∃ k : Nat, s = (k : Int) ∧ (k = 0 ∨ k = 8 ∨ k = 16 ∨ k = 24) := ⟨s.toNat, by omega, by omega⟩
  apply Int32.toBitVec_inj.mp
  show (xio 8 (iI v) (iI (k : Int)) &&& iI 255).toBitVec = (xio 7 (iI v) (iI (k : Int)) &&& iI 255).toBitVec
  rw [Int32.toBitVec_and, Int32.toBitVec_and, fy_8 _ hk, fy_7 _ hk]
  apply BitVec.eq_of_getLsbD_eq
  intro i hi
  rw [BitVec.getLsbD_and, BitVec.getLsbD_and, BitVec.getLsbD_ushiftRight, BitVec.getLsbD_sshiftRight]
  by_cases h : i < 8
  · have h1 : k + i < 32 := by omega
    have h2 : ¬ 32 ≤ i := by omega
    rw [if_pos h1, decide_eq_false h2]
    rfl
  · have h3 : ∀ i, i < 32 → ¬ i < 8 → (iI 255).toBitVec.getLsbD i = false := by decide
    rw [h3 i hi h, Bool.and_false, Bool.and_false]
/-- m bytes of v from place n on -/
def fbk (r : Nat → Int) (n v m : Int) : Nat → Int := fun j => if n ≤ (j : Int) ∧ (j : Int) < n + m then fyX v (24 - 8 * ((j : Int) - n)) else r j
def fbw (a b c i : Int) : Int := if i < 4 then a else if i < 8 then b else c
def fbm (r : Nat → Int) (n a b c m : Int) : Nat → Int := fun j => if n ≤ (j : Int) ∧ (j : Int) < n + m then fyM (fbw a b c ((j : Int) - n)) (24 - 8 * (((j : Int) - n) % 4)) else r j
theorem fbk_0 {r : Nat → Int} {n v m : Int} (h : m = 0) (j : Nat) : r j = fbk r n v m j := by
  unfold fbk
  rw [if_neg (by omega)]
theorem fbm_0 {r : Nat → Int} {n a b c m : Int} (h : m = 0) (j : Nat) : r j = fbm r n a b c m j := by
  unfold fbm
  rw [if_neg (by omega)]
theorem fbk_go {r : Nat → Int} {J K K' : fH} {n v m m' l s y w : Int} {o f : Nat} {u : Int} (h : ∀ j, J 700 j = fbk r n v m j) (hm : 0 ≤ m) (hm' : m' = m + 1) (hn : 0 ≤ n) (e1 : K = fupd J 700 l.toNat y) (e2 : K' = fupd K o f u) (ho : (700 : Nat) ≠ o) (hl : l = n + m) (hs : s = 24 - 8 * m) (hw : iI w = xio 8 (iI v) (iI s)) (hy : fin32 y) (hy' : iI y = iI w &&& iI 255) : ∀ j, K' 700 j = fbk r n v m' j := fun j => by
  rw [fup_other e2 700 j (Or.inl ho), fup_if e1 j]
  by_cases q : j = l.toNat
  · rw [if_pos q]
    unfold fbk
    rw [if_pos (by omega), of_iI hy hy']
    unfold fyX
    rw [show 24 - 8 * ((j : Int) - n) = s by omega, ← hw]
    rfl
  · rw [if_neg q, h j]
    unfold fbk
    by_cases q2 : n ≤ (j : Int) ∧ (j : Int) < n + m
    · rw [if_pos q2, if_pos (by omega)]
    · rw [if_neg q2, if_neg (by omega)]
theorem fbm_go {r : Nat → Int} {J K K' : fH} {n a b c m m' l s y w v : Int} {u : Int} (h : ∀ j, J 747 j = fbm r n a b c m j) (hm : 0 ≤ m) (hm' : m' = m + 1) (hn : 0 ≤ n) (e1 : K = fupd J 747 l.toNat y) (e2 : K' = fupd K 740 8 u) (hl : l = n + m) (hv : v = fbw a b c m) (hs : s = 24 - 8 * (m % 4)) (hw : iI w = xio 7 (iI v) (iI s)) (hy : fin32 y) (hy' : iI y = iI w &&& iI 255) : ∀ j, K' 747 j = fbm r n a b c m' j := fun j => by
  rw [fup_other e2 747 j (Or.inl (by decide)), fup_if e1 j]
  by_cases q : j = l.toNat
  · rw [if_pos q]
    unfold fbm
    rw [if_pos (by omega), of_iI hy hy']
    have em : (j : Int) - n = m := by omega
    unfold fyM
    rw [em, ← hs, ← hv, ← hw]
    rfl
  · rw [if_neg q, h j]
    unfold fbm
    by_cases q2 : n ≤ (j : Int) ∧ (j : Int) < n + m
    · rw [if_pos q2, if_pos (by omega)]
    · rw [if_neg q2, if_neg (by omega)]
theorem fb_eq {r : Nat → Int} {n a b c : Int} (j : Nat) : fbk (fbk (fbk r n a 4) (n + 4) b 4) (n + 8) c 4 j = fbm r n a b c 12 j := by
  unfold fbm fbw
  by_cases q : n ≤ (j : Int) ∧ (j : Int) < n + 12
  · rw [if_pos q]
    by_cases q1 : (j : Int) - n < 4
    · rw [if_pos q1]
      unfold fbk
      rw [if_neg (by omega), if_neg (by omega), if_pos (by omega), fy_eq (by omega)]
      rw [show 24 - 8 * ((j : Int) - n) = 24 - 8 * (((j : Int) - n) % 4) by omega]
    · rw [if_neg q1]
      by_cases q2 : (j : Int) - n < 8
      · rw [if_pos q2]
        unfold fbk
        rw [if_neg (by omega), if_pos (by omega), fy_eq (by omega)]
        rw [show 24 - 8 * ((j : Int) - (n + 4)) = 24 - 8 * (((j : Int) - n) % 4) by omega]
      · rw [if_neg q2]
        unfold fbk
        rw [if_pos (by omega), fy_eq (by omega)]
        rw [show 24 - 8 * ((j : Int) - (n + 8)) = 24 - 8 * (((j : Int) - n) % 4) by omega]
  · rw [if_neg q]
    unfold fbk
    rw [if_neg (by omega), if_neg (by omega), if_neg (by omega)]

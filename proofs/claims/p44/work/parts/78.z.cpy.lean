set_option linter.all false
/-! places that are copied -/
def cpy (r : Rw) (lo : Int) (g : Nat → Int) (n : Nat) : Rw := fun j => if lo ≤ (j : Int) ∧ (j : Int) < lo + (n : Int) then g ((j : Int) - lo).toNat else r j
theorem cpy_0 {r : Rw} {lo : Int} {g : Nat → Int} : cpy r lo g 0 = r := by
  funext j
  exact if_neg (fun q => by have q1 := q.1; have q2 := q.2; omega)
theorem cpy_S {r : Rw} {lo k v : Int} {g : Nat → Int} {n : Nat} (h0 : 0 ≤ lo) (hk : k = lo + (n : Int)) (hv : v = g n) : rud (cpy r lo g n) k v = cpy r lo g (n + 1) := by
  funext j
  show (if (j : Int) = k then v else if lo ≤ (j : Int) ∧ (j : Int) < lo + (n : Int) then g ((j : Int) - lo).toNat else r j) = (if lo ≤ (j : Int) ∧ (j : Int) < lo + ((n + 1 : Nat) : Int) then g ((j : Int) - lo).toNat else r j)
  by_cases c : (j : Int) = k
  · rw [if_pos c, if_pos ⟨by omega, by omega⟩, hv, show ((j : Int) - lo).toNat = n by omega]
  · rw [if_neg c]
    by_cases c2 : lo ≤ (j : Int) ∧ (j : Int) < lo + (n : Int)
    · rw [if_pos c2, if_pos ⟨c2.1, by omega⟩]
    · rw [if_neg c2, if_neg (fun q => c2 ⟨q.1, by omega⟩)]
theorem gt_cpy {r : Rw} {lo q : Int} {g : Nat → Int} {n : Nat} (hq : 0 ≤ q) (h : q < lo ∨ lo + (n : Int) ≤ q) : gt (cpy r lo g n) q = gt r q := by
  show (if lo ≤ ((q.toNat : Nat) : Int) ∧ ((q.toNat : Nat) : Int) < lo + (n : Int) then _ else _) = _
  exact if_neg (fun w => by have w1 := w.1; have w2 := w.2; omega)
theorem cpy_at {r : Rw} {lo : Int} {g : Nat → Int} {n j : Nat} (h : lo ≤ (j : Int) ∧ (j : Int) < lo + (n : Int)) : cpy r lo g n j = g ((j : Int) - lo).toNat := if_pos h
theorem cpy_ne {r : Rw} {lo : Int} {g : Nat → Int} {n j : Nat} (h : ¬ (lo ≤ (j : Int) ∧ (j : Int) < lo + (n : Int))) : cpy r lo g n j = r j := if_neg h
theorem rud_at {r : Rw} {k v : Int} {j : Nat} (h : (j : Int) = k) : rud r k v j = v := if_pos h
theorem rud_no {r : Rw} {k v : Int} {j : Nat} (h : (j : Int) ≠ k) : rud r k v j = r j := if_neg h
/-- a copying loop, one place more -/
theorem cpy_go {r R1 : Rw} {lo a m m' p x k v : Int} {g : Nat → Int} (h : R1 = cpy r lo g m.toNat) (hm : 0 ≤ m) (hm' : m' = m + 1) (h0 : 0 ≤ lo) (hx : x = gt R1 p) (hp : p = a + m) (hp0 : 0 ≤ p) (ho : p < lo ∨ lo + m ≤ p) (hg : ∀ k : Nat, g k = gt r (a + (k : Int))) (hk : k = lo + m) (hv : v = x) : rud R1 k v = cpy r lo g m'.toNat := by
  have e : x = g m.toNat := by rw [hx, h, gt_cpy hp0 (by omega), hg, hp, Int.toNat_of_nonneg hm]
  rw [h, show m'.toNat = m.toNat + 1 by omega]
  exact cpy_S h0 (by omega) (by rw [hv, e])
theorem cpy_gm {r R1 : Rw} {lo a m m' p x k v : Int} {g : Nat → Int} (h : R1 = cpy r lo g m.toNat) (hm : 0 ≤ m) (hm' : m' = m + 1) (h0 : 0 ≤ lo) (hx : x = gt R1 p) (hp : p = a + m) (hp0 : 0 ≤ p) (ho : p < lo ∨ lo + m ≤ p) (hg : gt r (a + m) = g m.toNat) (hk : k = lo + m) (hv : v = x) : rud R1 k v = cpy r lo g m'.toNat := by
  have e : x = g m.toNat := by rw [hx, h, gt_cpy hp0 (by omega), hp, hg]
  rw [h, show m'.toNat = m.toNat + 1 by omega]
  exact cpy_S h0 (by omega) (by rw [hv, e])

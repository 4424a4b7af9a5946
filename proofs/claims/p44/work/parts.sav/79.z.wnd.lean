set_option linter.all false
/-! when a ship meets -/
/-- what is left over a round, never below 0 -/
def flo (a b : Int) : Int := if (xdv 1 (iI a) (iI b)).toInt < 0 then (xdv 1 (iI a) (iI b)).toInt + b else (xdv 1 (iI a) (iI b)).toInt
theorem flo_cg {a a' b b' : Int} (ha : a = a') (hb : b = b') : flo a b = flo a' b' := by rw [ha, hb]
theorem flo_m {a b y z : Int} (e : iI y = xdv 1 (iI a) (iI b)) (f : fin32 y) (h : (0 ≤ y ∧ z = y) ∨ (y < 0 ∧ z = y + b)) : z = flo a b := by
  have q : (xdv 1 (iI a) (iI b)).toInt = y := by rw [← e, iI_int f]
  unfold flo
  rw [q]
  split <;> omega
theorem xor_neg {x y z : Int} (fy : fin32 y) (fx : fin32 x) (fz : fin32 z) (e : iI z = iI y ^^^ iI x) (hx : 0 ≤ x) : z < 0 ↔ y < 0 := by
  have t : ∀ w : Int32, w.toBitVec.msb = decide (w.toInt < 0) := fun w => BitVec.msb_eq_toInt
  have m : (iI z).toBitVec.msb = ((iI y).toBitVec.msb ^^ (iI x).toBitVec.msb) := by
    rw [e, Int32.toBitVec_xor, BitVec.msb_xor]
  rw [t, t, t, iI_int fz, iI_int fy, iI_int fx, show decide (x < 0) = false from decide_eq_false (by omega), Bool.xor_false] at m
  exact decide_eq_decide.mp m
theorem tm_sg {x y : Int} (hy : 0 < y) : (0 ≤ x → 0 ≤ Int.tmod x y ∧ Int.tmod x y < y) ∧ (x < 0 → -y < Int.tmod x y ∧ Int.tmod x y ≤ 0) := by
  refine ⟨fun h => ?_, fun h => ?_⟩
  · rw [Int.tmod_eq_emod_of_nonneg h]
    exact ⟨Int.emod_nonneg _ (by omega), Int.emod_lt_of_pos _ hy⟩
  · have e : Int.tmod x y = -((-x) % y) := by
      rw [← Int.tmod_eq_emod_of_nonneg (show 0 ≤ -x by omega), Int.neg_tmod, Int.neg_neg]
    have a := Int.emod_nonneg (-x) (show y ≠ 0 by omega)
    have b := Int.emod_lt_of_pos (-x) hy
    rw [e]
    omega
theorem xdv1_t {x y z : Int} (hx : fin32 x) (hy : fin32 y) (hp : 0 < y) (hz : fin32 z) (e : iI z = xdv 1 (iI x) (iI y)) : z = Int.tmod x y := by
  have q := xdv_t (z := (iI x / iI y).toInt) hx hy hp (fin_toInt _) (iI_toInt _)
  have e1 : iI z = iI (x - Int.tdiv x y * y) := by
    rw [e]
    show iI x - iI x / iI y * iI y = _
    rw [← iI_sub, ← iI_mul, ← q, iI_toInt]
  have e2 : x - Int.tdiv x y * y = Int.tmod x y := by rw [Int.tmod_def, Int.mul_comm]
  have s := tm_sg (x := x) hp
  rw [e2] at e1
  have f : fin32 (Int.tmod x y) := by
    have hy2 := hy.2
    by_cases c : 0 ≤ x
    · have := s.1 c
      exact ⟨by omega, by omega⟩
    · have := s.2 (by omega)
      exact ⟨by omega, by omega⟩
  exact (iI_eq hz f).mp e1
theorem flo_j {a b y w z : Int} (e : iI y = xdv 1 (iI a) (iI b)) (f : fin32 y) (e2 : iI w = xio 5 (iI a) (iI b)) (f2 : fin32 w) (fa : fin32 a) (hb : 1 ≤ b ∧ b ≤ 9999) (h : (w < 0 ∧ y ≠ 0 ∧ (fin32 (y + b) → z = y + b)) ∨ ((0 ≤ w ∨ y = 0) ∧ z = y)) : z = flo a b := by
  have fb : fin32 b := ⟨by omega, by omega⟩
  have q := xor_neg fa fb f2 e2 (by omega)
  have t := xdv1_t fa fb (by omega) f e
  have s := tm_sg (x := a) (y := b) (by omega)
  rw [← t] at s
  refine flo_m e f ?_
  rcases h with ⟨h1, h2, h3⟩ | ⟨h1, h2⟩
  · have := s.2 (q.mp h1)
    have f0 := f.1
    exact Or.inr ⟨by omega, h3 ⟨by omega, by omega⟩⟩
  · refine Or.inl ⟨?_, h2⟩
    rcases h1 with h1 | h1
    · by_cases c : a < 0
      · have := q.mpr c
        omega
      · exact (s.1 (by omega)).1
    · omega
def wnP (m b o p ph rd : Int) (k : Nat) : Prop := flo (m + (k : Int) - b) o < p ∧ dyP (wr (ph + (k : Int))) rd
def wnR (P : Nat → Prop) (m z : Int) : Prop := (∃ k : Nat, k ≤ 12000 ∧ P k ∧ (∀ j : Nat, j < k → ¬ P j) ∧ z = m + (k : Int)) ∨ ((∀ j : Nat, j ≤ 12000 → ¬ P j) ∧ z = -1000000005)
theorem wnR_one {P : Nat → Prop} {m z z' : Int} (h : wnR P m z) (h' : wnR P m z') : z = z' := by
  rcases h with ⟨k, a1, a2, a3, a4⟩ | ⟨a1, a2⟩ <;> rcases h' with ⟨l, b1, b2, b3, b4⟩ | ⟨b1, b2⟩
  · rcases Nat.lt_trichotomy k l with c | c | c
    · exact absurd a2 (b3 k c)
    · rw [a4, b4, c]
    · exact absurd b2 (a3 l c)
  · exact absurd a2 (b1 k a1)
  · exact absurd b2 (a1 l b1)
  · rw [a2, b2]
theorem wn_S {P : Nat → Prop} {y y' : Int} (h : ∀ j : Nat, (j : Int) < y → ¬ P j) (h0 : 0 ≤ y) (hy : y' = y + 1) (n : ¬ P y.toNat) : ∀ j : Nat, (j : Int) < y' → ¬ P j := fun j hj => by
  by_cases c : (j : Int) < y
  · exact h j c
  · rw [show j = y.toNat by omega]
    exact n
theorem wnr_add {x y y' z : Int} (hz : fin32 z) (e : iI z = iI x + iI y) (hy : y' = y) : wr (x + y') = z := by
  rw [hy]
  exact (wr_of hz (e.trans (iI_add x y))).symm
theorem wn_y {P : Nat → Prop} {m y z : Int} (h : ∀ j : Nat, (j : Int) < y → ¬ P j) (h0 : 0 ≤ y ∧ y ≤ 12000) (p : P y.toNat) (hz : z = m + y) : wnR P m z := Or.inl ⟨y.toNat, by omega, p, fun j hj => h j (by omega), by omega⟩
theorem wn_n {P : Nat → Prop} {m y z : Int} (h : ∀ j : Nat, (j : Int) < y → ¬ P j) (h0 : 12000 < y) (hz : z = -1000000005) : wnR P m z := Or.inr ⟨fun j hj => h j (by omega), hz⟩

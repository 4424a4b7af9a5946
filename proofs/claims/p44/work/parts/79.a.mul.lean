set_option linter.all false
/-! products and quotients -/
theorem mul_rng {x y A B : Int} (hx : 0 ≤ x) (hA : x ≤ A) (hy : 0 ≤ y) (hB : y ≤ B) : 0 ≤ x * y ∧ x * y ≤ A * B :=
  ⟨Int.mul_nonneg hx hy, Int.le_trans (Int.mul_le_mul_of_nonneg_right hA hy) (Int.mul_le_mul_of_nonneg_left hB (Int.le_trans hx hA))⟩
theorem tdv_le {n b a : Int} (hb : 0 < b) (ha : 0 ≤ a) (h : n ≤ a * b) : Int.tdiv n b ≤ a := by
  by_cases q : 0 ≤ n
  · rw [Int.tdiv_eq_ediv_of_nonneg q]
    exact Int.ediv_le_of_le_mul hb h
  · have e := Int.tdiv_nonneg (a := -n) (b := b) (by omega) (by omega)
    rw [Int.neg_tdiv] at e
    omega
theorem tdv_ge {n b a : Int} (hb : 0 < b) (ha : 0 ≤ a) (h : -(a * b) ≤ n) : -a ≤ Int.tdiv n b := by
  have e := tdv_le (n := -n) hb ha (by omega)
  rw [Int.neg_tdiv] at e
  omega
/-- what flows: of two cells' amounts and volumes -/
theorem fl_al {a1 a2 v1 v2 n b : Int} (h1 : 0 ≤ a1) (h2 : 0 ≤ a2) (w1 : 0 ≤ v1) (w2 : 0 ≤ v2) (hb : 0 < b) (eb : b = v1 + v2) (en : n = a1 * v2 - a2 * v1) : -a2 ≤ Int.tdiv n b ∧ Int.tdiv n b ≤ a1 := by
  have p1 := Int.mul_nonneg h1 w1
  have p2 := Int.mul_nonneg h1 w2
  have p3 := Int.mul_nonneg h2 w1
  have p4 := Int.mul_nonneg h2 w2
  have e1 : a1 * b = a1 * v1 + a1 * v2 := by rw [eb, Int.mul_add]
  have e2 : a2 * b = a2 * v1 + a2 * v2 := by rw [eb, Int.mul_add]
  exact ⟨tdv_ge hb h2 (by omega), tdv_le hb h1 (by omega)⟩
theorem fl_go {x w a1 a2 : Int} (h1 : 0 ≤ a1) (h2 : 0 ≤ a2) (hx : -a2 ≤ x ∧ x ≤ a1) (hw : 0 ≤ w ∧ w ≤ 9) : (-(a2 * 9) ≤ x * w ∧ x * w ≤ a1 * 9) ∧ -a2 ≤ Int.tdiv (x * w) 10 ∧ Int.tdiv (x * w) 10 ≤ a1 := by
  have q1 := Int.mul_le_mul_of_nonneg_right hx.2 hw.1
  have q2 := Int.mul_le_mul_of_nonneg_left hw.2 h1
  have q3 := Int.mul_le_mul_of_nonneg_right hx.1 hw.1
  have q4 := Int.mul_le_mul_of_nonneg_left hw.2 h2
  rw [Int.neg_mul] at q3
  exact ⟨⟨by omega, by omega⟩, tdv_ge (by decide) h2 (by omega), tdv_le (by decide) h1 (by omega)⟩
theorem bm_id {x : Int} (h : fin32 x) : x.bmod (2 ^ 32) = x := by
  have h1 := h.1
  have h2 := h.2
  exact Int.bmod_eq_of_le (by omega) (by omega)
/-- the machine's quotient, of either sign -/
theorem xdv_t {x y z : Int} (hx : fin32 x) (hy : fin32 y) (hp : 0 < y) (hz : fin32 z) (e : iI z = xdv 0 (iI x) (iI y)) : z = Int.tdiv x y := by
  have e1 : (iI x / iI y).toInt = ((iI x).toInt.tdiv (iI y).toInt).bmod (2 ^ 32) := Int32.toInt_div (iI x) (iI y)
  have e2 : z = (iI x / iI y).toInt := by
    have e3 : iI z = iI x / iI y := e
    rw [← e3, iI_int hz]
  rw [e2, e1, iI_int hx, iI_int hy]
  have h1 := hx.1
  have h2 := hx.2
  have p1 : Int.tdiv x y ≤ 2147483647 := tdv_le hp (by decide) (by have := Int.mul_le_mul_of_nonneg_left (c := 2147483647) (show 1 ≤ y by omega) (by decide); omega)
  have p2 : -2147483648 ≤ Int.tdiv x y := tdv_ge hp (by decide) (by have := Int.mul_le_mul_of_nonneg_left (c := 2147483648) (show 1 ≤ y by omega) (by decide); omega)
  exact bm_id ⟨p2, by omega⟩
theorem wFit_bd {n k x a b : Int} (h : wFit n k x a b) (hn : n ≤ 24) : (0 ≤ x ∧ x ≤ 6) ∧ (0 ≤ a ∧ a ≤ 99999) ∧ (0 ≤ b ∧ b ≤ 99999) := by
  unfold wFit at h
  omega
theorem bl_id {x : Int} (h : fin64 x) : x.bmod (2 ^ 64) = x := by
  have h1 := h.1
  have h2 := h.2
  exact Int.bmod_eq_of_le (by omega) (by omega)
theorem xldv_t {x y z : Int} (hx : fin64 x) (hy : fin64 y) (hp : 0 < y) (hz : fin64 z) (e : iL z = xldv 0 (iL x) (iL y)) : z = Int.tdiv x y := by
  have e1 : (iL x / iL y).toInt = ((iL x).toInt.tdiv (iL y).toInt).bmod (2 ^ 64) := Int64.toInt_div (iL x) (iL y)
  have e2 : z = (iL x / iL y).toInt := by
    have e3 : iL z = iL x / iL y := e
    rw [← e3, iL_int hz]
  rw [e2, e1, iL_int hx, iL_int hy]
  have h1 := hx.1
  have h2 := hx.2
  have p1 : Int.tdiv x y ≤ 9223372036854775807 := tdv_le hp (by decide) (by have := Int.mul_le_mul_of_nonneg_left (c := 9223372036854775807) (show 1 ≤ y by omega) (by decide); omega)
  have p2 : -9223372036854775808 ≤ Int.tdiv x y := tdv_ge hp (by decide) (by have := Int.mul_le_mul_of_nonneg_left (c := 9223372036854775808) (show 1 ≤ y by omega) (by decide); omega)
  exact bl_id ⟨p2, by omega⟩

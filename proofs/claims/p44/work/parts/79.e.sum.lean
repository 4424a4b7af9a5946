set_option linter.all false
/-! sums: lift, weight; the city rises -/
section RW4
variable {r : Rw} {c g n p q v w x y a b l z s t d k m u o e f : Int}
theorem sm_at {f : Nat → Int} {m' v y' : Int} (h : y = sm f m.toNat) (hm : 0 ≤ m) (hm' : m' = m + 1) (hv : v = f m.toNat) (hy : y' = y + v) : y' = sm f m'.toNat := by
  rw [show m'.toNat = m.toNat + 1 by omega, hy, h, hv]
  rfl
/-- the same with what stands ahead of it -/
theorem sm_atp {f : Nat → Int} {m' v y' : Int} (h : y = a + sm f m.toNat) (hm : 0 ≤ m) (hm' : m' = m + 1) (hv : v = f m.toNat) (hy : y' = y + v) : y' = a + sm f m'.toNat := by
  have q := sm_at (f := f) (y := sm f m.toNat) (y' := sm f m.toNat + v) rfl hm hm' hv rfl
  omega
theorem sm_fin {f : Nat → Int} (h : y = sm f m.toNat) (e : m = k) : y = sm f k.toNat := by rw [h, e]
theorem sm_bd {f : Nat → Int} {lo hi : Int} : ∀ {n : Nat}, (∀ i, i < n → lo ≤ f i ∧ f i ≤ hi) → lo * (n : Int) ≤ sm f n ∧ sm f n ≤ hi * (n : Int)
  | 0, _ => ⟨by show lo * 0 ≤ 0; omega, by show (0 : Int) ≤ hi * 0; omega⟩
  | n + 1, h => by
    have q := sm_bd (n := n) (fun i hi => h i (by omega))
    have e := h n (by omega)
    have e1 : lo * ((n + 1 : Nat) : Int) = lo * (n : Int) + lo := by rw [Int.natCast_add, Int.mul_add, show ((1 : Nat) : Int) = 1 by rfl, Int.mul_one]
    have e2 : hi * ((n + 1 : Nat) : Int) = hi * (n : Int) + hi := by rw [Int.natCast_add, Int.mul_add, show ((1 : Nat) : Int) = 1 by rfl, Int.mul_one]
    have e3 : sm f (n + 1) = sm f n + f n := rfl
    omega
theorem sLi_y {i : Nat} (hu : w = (i : Int)) (hk : gt r (530 + 14 * w) = 1) (hg : gt r (538 + 14 * w) = 0) (hx : x = gt r p) (hp : p = 536 + 14 * w) (hy : y = sTb r 0 (sLv r)) (hm : m = x * y) (hz : z = m / 100) : z = sLi r i := by
  subst hu
  unfold sLi
  rw [if_pos ⟨hk, by omega⟩, ← hp, ← hx, ← hy, ← hm, hz]
theorem sLi_n {i : Nat} (hu : w = (i : Int)) (h : ¬ (gt r (530 + 14 * w) = 1 ∧ gt r (538 + 14 * w) = 0)) (hb : 0 ≤ gt r (538 + 14 * w) ∧ gt r (538 + 14 * w) ≤ 1) (hz : z = 0) : z = sLi r i := by
  subst hu
  unfold sLi
  rw [if_neg (fun q => h ⟨q.1, by omega⟩), hz]
theorem sWg_y {i : Nat} (hu : w = (i : Int)) (hg : gt r (538 + 14 * w) = 0) (hl : gt r (539 + 14 * w) < 0) (hx : z = gt r p) (hp : p = 532 + 14 * w) : z = sWg r i := by
  subst hu
  unfold sWg
  rw [if_pos ⟨by omega, hl⟩, ← hp, ← hx]
theorem sWg_n {i : Nat} (hu : w = (i : Int)) (h : gt r (538 + 14 * w) = 1 ∨ 0 ≤ gt r (539 + 14 * w)) (hz : z = 0) : z = sWg r i := by
  subst hu
  unfold sWg
  rw [if_neg (fun q => by omega), hz]
theorem sLiv_d {i : Nat} (hu : w = (i : Int)) (h : sDd r w) (hz : z = 0) : z = sLiv r i := by
  subst hu
  unfold sLiv
  rw [cI_pos h, hz]
theorem sLiv_l {i : Nat} (hu : w = (i : Int)) (h : ¬ sDd r w) (hz : z = 1) : z = sLiv r i := by
  subst hu
  unfold sLiv
  rw [cI_neg h, hz]
theorem sGs_of {i : Nat} (h : y = a + sm (fun g => gt r (31 + 20 * w + (g : Int))) m.toNat) (hm : m = 4) (hu : w = (i : Int)) : y = a + sGs r i := by
  subst hu
  rw [h, hm]
  rfl
theorem sRi_of {L W : Int} (hl : L = sLift r) (hw : W = sWeight r) (ht : t = L - W) (hd : d = Int.tdiv t 10) (hn : n = if d > 9 then 9 else if d < -9 then -9 else d) (hx : x = gt r p) (hp : p = 1) (hq : q = 1) (hv : v = if x + n < 0 then 0 else mn 600 (x + n)) : rud r q v = sRi r := by
  have h1 : d = sRiB r := by
    unfold sRiB
    rw [← hl, ← hw, ← ht]
    exact hd
  unfold sRi
  rw [← h1, ← hn, ← hp, ← hx, ← hv, hq, hp]
end RW4
section RW5
variable {r : Rw} {c g n p q v w x y a b l z s t d k m u o e f : Int}
theorem sm_60 {f : Nat → Int} {m' v y' : Int} (h : y = a + 60 * sm f m.toNat) (hm : 0 ≤ m) (hm' : m' = m + 1) (hv : v = f m.toNat) (hy : y' = y + 60 * v) : y' = a + 60 * sm f m'.toNat := by
  have q := sm_at (f := f) (y := sm f m.toNat) (y' := sm f m.toNat + v) rfl hm hm' hv rfl
  omega
theorem sW_0 {f : Nat → Int} {A G L : Int} (hL : L = A) (hq : g = G) (hd : d = g / 100) (hy : y = 60 * L + d) : y = (60 * A + G / 100) + sm f 0 := by
  have e : sm f 0 = 0 := rfl
  rw [e, ← hL, ← hq]
  omega
theorem sW_of (h : z = (60 * sm (sLiv r) (gt r 8).toNat + (sm (sGs r) (gt r 5).toNat + sm (fun k => gt r (17 + (k : Int))) 5) / 100) + sm (sWg r) m.toNat) (hm : m = gt r 7) : z = sWeight r := by
  unfold sWeight
  rw [h, hm, Int.add_comm (sm (sGs r) (gt r 5).toNat)]
  omega
theorem sW_ofm (h1 : x = sm (sWg r) (gt r 7).toNat + 60 * sm (sLiv r) (gt r 8).toNat) (h2 : y = sm (fun k => gt r (17 + (k : Int))) 5 + sm (sGs r) m.toNat) (hm : m = gt r 5) (hz : z = x + y / 100) : z = sWeight r := by
  unfold sWeight
  rw [hz, h1, h2, hm]
end RW5

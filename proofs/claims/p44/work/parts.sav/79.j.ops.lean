set_option linter.all false
/-! calls: what they answer, what becomes of the city's row -/
theorem pr_y {C : Prop} [Decidable C] {A B : Rw × Int} {R : Rw} {z : Int} (h : C) (e1 : R = A.1) (e2 : z = A.2) : (R, z) = if C then A else B := by
  rw [if_pos h, e1, e2]
theorem pr_n {C : Prop} [Decidable C] {A B : Rw × Int} {R : Rw} {z : Int} (h : ¬ C) (e : (R, z) = B) : (R, z) = if C then A else B := by
  rw [if_neg h, e]
theorem pr_i {C : Prop} [Decidable C] {A B : Rw × Int} {R : Rw} {z : Int} (h : C) (e : (R, z) = A) : (R, z) = if C then A else B := by
  rw [if_pos h, e]
theorem pr_e {R R' : Rw} {z z' : Int} (e1 : R = R') (e2 : z = z') : (R, z) = (R', z') := by rw [e1, e2]
abbrev cBAD : Int := -1000000001
abbrev cNO : Int := -1000000002
abbrev cFULL : Int := -1000000003
abbrev cNONE : Int := -1000000005
abbrev cKIND : Int := -1000000012
abbrev oC (r : Rw) (c : Int) : Prop := 0 ≤ c ∧ c < gt r 5
abbrev oW (r : Rw) (w : Int) : Prop := 0 ≤ w ∧ w < gt r 7
abbrev oP (r : Rw) (p : Int) : Prop := 0 ≤ p ∧ p < gt r 8
abbrev oL (r : Rw) (l : Int) : Prop := 0 ≤ l ∧ l < gt r 6
def oStore (r : Rw) (a v : Int) : Rw × Int := if (0 ≤ a ∧ a ≤ 5) ∧ 0 ≤ v ∧ v ≤ 999999 then (rud r (17 + a) v, gt r (17 + a)) else (r, cBAD)
def oAir (r : Rw) (c g v : Int) : Rw × Int := if oC r c ∧ (0 ≤ g ∧ g ≤ 5) ∧ 0 ≤ v ∧ v ≤ (if g = 5 then 99 else 999999) then (rud r (31 + 20 * c + g) v, gt r (31 + 20 * c + g)) else (r, cBAD)
def oTable (r : Rw) (k l v : Int) : Rw × Int := if (0 ≤ k ∧ k ≤ 2) ∧ (0 ≤ l ∧ l ≤ 60) ∧ 0 ≤ v ∧ v ≤ 9999 then (rud r (1020 + 61 * k + l) v, gt r (1020 + 61 * k + l)) else (r, cBAD)
def oTune (r : Rw) (w k v : Int) : Rw × Int := if oW r w ∧ (0 ≤ k ∧ k ≤ 1) ∧ 0 ≤ v ∧ v ≤ (if k = 0 then 1 else 99) then (if gt r (538 + 14 * w) = 1 then (r, cNO) else (rud r ((if k = 0 then 533 else 541) + 14 * w) v, gt r ((if k = 0 then 533 else 541) + 14 * w))) else (r, cBAD)
def oClean (r : Rw) (w : Int) : Rw × Int := if oW r w then (if gt r (538 + 14 * w) = 1 then (r, cNO) else (rud r (534 + 14 * w) 0, gt r (534 + 14 * w))) else (r, cBAD)
def oSew (r : Rw) (w : Int) : Rw × Int := if oW r w then (if gt r (530 + 14 * w) ≠ 1 then (r, cKIND) else if gt r (538 + 14 * w) = 1 ∨ 9 ≤ gt r (535 + 14 * w) ∨ gt r 21 < 1 then (r, cNO) else (rud (rud r 21 (gt r 21 - 1)) (535 + 14 * w) (gt r (535 + 14 * w) + 1), gt r (535 + 14 * w) + 1)) else (r, cBAD)
def oGiA (c k : Int) : Int := 31 + 20 * c + (if k = 5 then 4 else k)
def oGive (r : Rw) (k c g : Int) : Rw × Int := if ((0 ≤ k ∧ k ≤ 5) ∧ k ≠ 4) ∧ oC r c ∧ 1 ≤ g ∧ g ≤ 999999 then (if gt r (17 + k) < g ∨ 999999 < gt r (oGiA c k) + g then (r, cNO) else (rud (rud r (17 + k) (gt r (17 + k) - g)) (oGiA c k) (gt r (oGiA c k) + g), gt r (17 + k) - g)) else (r, cBAD)
def oSet (r : Rw) (k v : Int) : Rw × Int := if (k = 0 ∧ 0 ≤ v ∧ v ≤ 600) ∨ (k = 1 ∧ 0 ≤ v ∧ v ≤ 99999) ∨ (k = 2 ∧ 2 ≤ v ∧ v ≤ 9999) ∨ (k = 3 ∧ 0 ≤ v ∧ v ≤ 99) then (rud r (1 + k) v, gt r (1 + k)) else (r, cBAD)
def oBe (r : Rw) (p k v : Int) : Rw × Int := if oP r p ∧ ((k = 0 ∧ 0 ≤ v ∧ v ≤ 99) ∨ (k = 1 ∧ 0 ≤ v ∧ v ≤ 3) ∨ (k = 2 ∧ oC r v) ∨ (k = 3 ∧ 0 ≤ v ∧ v ≤ 100)) then (rud r (870 + 6 * p + k) v, gt r (870 + 6 * p + k)) else (r, cBAD)
/-- why a probe can't be dropped -/
def oStop (r : Rw) (w : Int) : Int := if oW r w then (if gt r (530 + 14 * w) ≠ 6 then cKIND else if gt r (538 + 14 * w) = 1 ∨ 0 ≤ gt r (539 + 14 * w) then cNO else 0) else cBAD
def oDrop (r : Rw) (w : Int) : Rw × Int := if oStop r w ≠ 0 then (r, oStop r w) else (rud r (539 + 14 * w) (sLv r), sLv r)
def oPers1 (r : Rw) (a c h : Int) : Rw × Int := if gt r 8 < 24 then (rud (rud (rud (rud (rud r (870 + 6 * gt r 8) a) (871 + 6 * gt r 8) c) (872 + 6 * gt r 8) h) (873 + 6 * gt r 8) 0) 8 (gt r 8 + 1), gt r 8) else (r, cFULL)
def oPers (r : Rw) (a c h : Int) : Rw × Int := if (0 ≤ a ∧ a ≤ 99) ∧ (0 ≤ c ∧ c ≤ 3) ∧ oC r h then oPers1 r a c h else (r, cBAD)
def oCell1 (r : Rw) (v : Int) : Rw := rud (rud (rud (cpy r (30 + 20 * gt r 5) (fun _ => 0) 18) (30 + 20 * gt r 5) v) (47 + 20 * gt r 5) (-1)) 5 (gt r 5 + 1)
def oWork1 (r : Rw) (k c m a b : Int) : Rw := rud (rud (rud (rud (rud (rud (rud (rud (cpy r (530 + 14 * gt r 7) (fun _ => 0) 13) (530 + 14 * gt r 7) k) (531 + 14 * gt r 7) c) (532 + 14 * gt r 7) m) (533 + 14 * gt r 7) 1) (535 + 14 * gt r 7) a) (536 + 14 * gt r 7) b) (539 + 14 * gt r 7) (-1)) 7 (gt r 7 + 1)
theorem mV_rng {i0 i1 m q : Nat} {lo hi z i : Int} {I : fH} (hz : z = gt (mR I) i) (h : mBb i0 i1 m q lo hi = true) (h0 : fB bsJ I) (hi' : ((i0 : Int) ≤ i ∧ i ≤ (i1 : Int)) ∧ (i - (i0 : Int)) % (m : Int) ≤ (q : Int)) : lo ≤ z ∧ z ≤ hi := by
  rw [hz]
  exact mR_rng h h0 hi'
section OPS
variable {r : Rw} {a b c g k n p q s t v w x y z : Int}
/-- a store gives, a cell gets -/
theorem gi_of (hk : 0 ≤ k ∧ k ≤ 5) (hc : 0 ≤ c ∧ c ≤ 19) (hP : p = oGiA c k) (hq : q = 17 + k) (hx : x = gt r q) (hv : v = x - g) (hy : y = gt (rud r q v) p) (hw : w = y + g) : rud (rud r q v) p w = rud (rud r (17 + k) (gt r (17 + k) - g)) (oGiA c k) (gt r (oGiA c k) + g) := by
  have h1 : 31 ≤ p := by
    rw [hP]
    unfold oGiA
    split <;> omega
  have h2 := gt_n (by omega) (by omega) hy
  rw [hw, h2, hv, hx, ← hP, hq]
theorem gi_ofm (hk : 0 ≤ k ∧ k ≤ 5) (hc : 0 ≤ c ∧ c ≤ 19) (hP : p = oGiA c k) (hq : q = 17 + k) (hx : x = gt r p) (hv : v = x + g) (hy : y = gt (rud r p v) q) (hw : w = y - g) : rud (rud r p v) q w = rud (rud r (17 + k) (gt r (17 + k) - g)) (oGiA c k) (gt r (oGiA c k) + g) := by
  have h1 : 31 ≤ p := by
    rw [hP]
    unfold oGiA
    split <;> omega
  have h2 := gt_n (by omega) (by omega) hy
  rw [hw, h2, hv, hx, ← hP, hq, rud_comm (by omega)]
theorem se_of (hw : 0 ≤ w) (hx : x = gt r p) (hp : p = 21) (hv : v = x - 1) (hy : y = gt (rud r p v) q) (hq : q = 535 + 14 * w) (hs : s = q) (ht : t = y + 1) : rud (rud r p v) s t = rud (rud r 21 (gt r 21 - 1)) (535 + 14 * w) (gt r (535 + 14 * w) + 1) := by
  have h2 := gt_n (by omega) (by omega) hy
  rw [hs, ht, h2, hv, hx, hp, hq]
end OPS

set_option linter.all false
/-! works: patches, skins, gardens, stills, rotors, probes -/
section RW3
variable {r : Rw} {c g n p q v w x y a b l z s t d k m u o e f : Int}
theorem sFl1_y {i : Nat} (hx : x = gt r p) (hp : p = 433 + 4 * u) (hu : u = (i : Int)) (h : x = 1) : sFl r u = sFl1 i r := by
  unfold sFl1
  subst hu
  rw [if_pos (by rw [← hp, ← hx]; exact h)]
theorem sFl1_n {i : Nat} (hx : x = gt r p) (hp : p = 433 + 4 * u) (hu : u = (i : Int)) (h : x ≠ 1) : r = sFl1 i r := by
  unfold sFl1
  subst hu
  rw [if_neg (by rw [← hp, ← hx]; exact h)]
theorem sLk_end {i : Nat} {R1 : Rw} (h : R1 = nf (sLkg w) r m.toNat) (hm : m = 5) (hw : w = (i : Int)) : R1 = sLk i r := by
  rw [h, hm, hw]
  rfl
theorem sFo1_y {i : Nat} (hx : x = gt r p) (hp : p = 538 + 14 * u) (hu : u = (i : Int)) (h : x ≠ 1) : sFo r u = sFo1 i r := by
  unfold sFo1
  subst hu
  rw [if_neg (by rw [← hp, ← hx]; exact h)]
theorem sFo1_n {i : Nat} (hx : x = gt r p) (hp : p = 538 + 14 * u) (hu : u = (i : Int)) (h : x = 1) : r = sFo1 i r := by
  unfold sFo1
  subst hu
  rw [if_pos (by rw [← hp, ← hx]; exact h)]
theorem nf_end {f : Nat → Rw → Rw} {R1 : Rw} (h : R1 = nf f r m.toNat) (e : m = gt r k) : R1 = nf f r (gt r k).toNat := by rw [h, e]
/-- one patch -/
def cv1 (r : Rw) (s : Int) (w : Nat) : Prop := gt r (530 + 14 * (w : Int)) = 5 ∧ gt r (535 + 14 * (w : Int)) = s ∧ gt r (533 + 14 * (w : Int)) = 1 ∧ gt r (538 + 14 * (w : Int)) = 0
def cvU (r : Rw) (s y b : Int) : Prop := (b = 1 ∧ ∃ w : Nat, (w : Int) < y ∧ cv1 r s w) ∨ (b = 0 ∧ ∀ w : Nat, (w : Int) < y → ¬ cv1 r s w)
theorem cvU_0 (hy : y ≤ 0) (hb : b = 0) : cvU r s y b := Or.inr ⟨hb, fun w h => absurd h (by omega)⟩
theorem cv1_of {i : Nat} {x1 x2 x3 x4 p1 p2 p3 p4 : Int} (hu : u = (i : Int)) (h1 : x1 = gt r p1) (e1 : p1 = 530 + 14 * u) (h2 : x2 = gt r p2) (e2 : p2 = 535 + 14 * u) (h3 : x3 = gt r p3) (e3 : p3 = 533 + 14 * u) (h4 : x4 = gt r p4) (e4 : p4 = 538 + 14 * u) (h : x1 = 5 ∧ x2 = s ∧ x3 = 1 ∧ x4 = 0) : cv1 r s i := by
  subst hu
  subst e1
  subst e2
  subst e3
  subst e4
  exact ⟨by omega, by omega, by omega, by omega⟩
theorem cv1_a {i : Nat} (hu : u = (i : Int)) (hx : x = gt r p) (e : (p = 530 + 14 * u ∧ x ≠ 5) ∨ (p = 535 + 14 * u ∧ x ≠ s) ∨ (p = 533 + 14 * u ∧ x ≠ 1) ∨ (p = 538 + 14 * u ∧ x ≠ 0)) : ¬ cv1 r s i := fun h => by
  obtain ⟨h1, h2, h3, h4⟩ := h
  subst hu
  rcases e with ⟨rfl, q⟩ | ⟨rfl, q⟩ | ⟨rfl, q⟩ | ⟨rfl, q⟩ <;> omega
theorem cvU_no {y' b' : Int} (h : cvU r s y b) (h0 : 0 ≤ y) (hy : y' = y + 1) (hb : b' = b) (hn : ¬ cv1 r s y.toNat) : cvU r s y' b' := by
  rcases h with ⟨h1, w, h2, h3⟩ | ⟨h1, h2⟩
  · exact Or.inl ⟨by omega, w, by omega, h3⟩
  · refine Or.inr ⟨by omega, fun w hw hc => ?_⟩
    by_cases e : (w : Int) < y
    · exact h2 w e hc
    · exact hn (by rw [show y.toNat = w by omega]; exact hc)
theorem cvU_yes {y' b' : Int} (h0 : 0 ≤ y) (hy : y' = y + 1) (hb : b' = 1) (hn : cv1 r s y.toNat) : cvU r s y' b' := Or.inl ⟨hb, y.toNat, by omega, hn⟩
theorem cvU_was {y' b' : Int} (h : cvU r s y b) (h1 : b = 1) (hy : y' = y + 1) (hb : b' = 1) : cvU r s y' b' := by
  rcases h with ⟨h1, w, h2, h3⟩ | ⟨h1, h2⟩
  · exact Or.inl ⟨hb, w, by omega, h3⟩
  · exact absurd h1 (by omega)
theorem cvU_end (h : cvU r s y b) (hy : y = gt r 7) : (b = 1 ∧ sCv r s) ∨ (b = 0 ∧ ¬ sCv r s) := by
  rcases h with ⟨h1, w, h2, h3⟩ | ⟨h1, h2⟩
  · exact Or.inl ⟨h1, w, by omega, h3⟩
  · exact Or.inr ⟨h1, fun ⟨w, q1, q2⟩ => h2 w (by omega) q2⟩
theorem cv_yes (h0 : 0 ≤ y) (hy : y < gt r 7) (hn : cv1 r s y.toNat) : sCv r s := ⟨y.toNat, by omega, hn⟩
/-- gas -/
theorem sLs_of (hw : 0 ≤ w) (hp : p = 536 + 14 * w) (hv : v = gt r p - n) (hc : c = gt (rud r p v) k) (ek : k = 531 + 14 * w) (hc1 : 0 ≤ c ∧ c ≤ 19) (hq : q = 38 + 20 * c) (hz : fin32 z) (he : iI z = xio 0 (iI x) (iI n)) (hx : x = gt (rud r p v) q) : rud (rud r p v) q z = sLs r w n := by
  have h1 := gt_n (by omega) (by omega) hc
  have h2 := gt_n (by omega) (by omega) hx
  unfold sLs
  rw [← ek, ← h1, ← hq, wr_add hz he, h2, hv, hp]
theorem sSk2_n (hx : x = gt r p) (hp : p = 535 + 14 * w) (h : x ≠ 0) : r = sSk2 r w := by
  unfold sSk2
  rw [if_neg (by rw [← hp, ← hx]; exact h)]
theorem sSk2_y (hx : x = gt r p) (hp : p = 535 + 14 * w) (h : x = 0) (hy : y = gt r q) (hq : q = 536 + 14 * w) (hn : n = mn y (1 + y / 50)) : sLs r w n = sSk2 r w := by
  unfold sSk2
  rw [if_pos (by rw [← hp, ← hx]; exact h), ← hq, ← hy, ← hn]
theorem sSk_y (h : sCv r w) : r = sSki r w := (cI_pos h).symm
theorem sSk_n {R : Rw} (h : ¬ sCv r w) (hs : s = sTb r 2 (sLv r)) (e : R = sSk2 (sWe r w (gt r (537 + 14 * w) + s / 10)) w) : R = sSki r w := by
  unfold sSki
  rw [cI_neg h, e, hs]
/-- day -/
theorem sPt_rud (hw : 0 ≤ w) (h1 : p ≠ 535 + 14 * w) (h2 : p ≠ 534 + 14 * w) : sPt (rud r p v) w = sPt r w := by
  unfold sPt
  rw [gt_ne (by omega) (by omega), gt_ne (by omega) (by omega)]
theorem sGa_n (h : ¬ dyP (gt r 2) (gt r 3)) : r = sGa r w := by
  unfold sGa
  exact (cI_neg h).symm
theorem sGa_y (h : dyP (gt r 2) (gt r 3)) (hc : c = gt r k) (ek : k = 531 + 14 * w) (hp : p = 33 + 20 * c) (hn : n = mn (sPt r w) (gt r p)) (hv : v = gt r p - n) (ho : o = 0) : sCo (rud r p v) c o n = sGa r w := by
  unfold sGa
  rw [cI_pos h, ← ek, ← hc, ← hp, ← hn, hv, ho]
/-- by night nothing goes -/
theorem sGa_z (h : ¬ dyP (gt r 2) (gt r 3)) (hc1 : 0 ≤ c) (hp : p = 33 + 20 * c) (hn : n = 0) (hv : v = gt r p - n) (ho : o = 0) (hf : fin32 (gt r (37 + 20 * c + 0))) (hs : gt r (31 + 20 * c + 0) ≤ 999999) : sCo (rud r p v) c o n = sGa r w := by
  rw [hn, ho, show rud r p v = r from rud_id (by omega) (by omega), sCo_0 hf hc1 (by omega) hs]
  exact sGa_n h
theorem sSt_n (hx : x = gt r p) (hp : p = 22) (h : x < 1) : r = sSti r w := by
  unfold sSti
  rw [if_pos (by rw [← hp, ← hx]; exact h)]
theorem sSt_y {p1 v1 n2 n1 o2 o1 c1 c2 : Int} (hw : 0 ≤ w) (hx : x = gt r p1) (hp1 : p1 = 22) (h : ¬ x < 1) (hv1 : v1 = gt r p1 - 1) (hc : c = gt (rud r p1 v1) k) (ek : k = 531 + 14 * w) (hc0 : 0 ≤ c) (hp : p = 34 + 20 * c) (hn : n = mn (sPt (rud r p1 v1) w) (gt (rud r p1 v1) p)) (hv : v = gt (rud r p1 v1) p - n) (e1 : n2 = n / 2) (e2 : n1 = n - n / 2) (e3 : o2 = 2) (e4 : o1 = 1) (e5 : c1 = c) (e6 : c2 = c) : sCo (sCo (rud (rud r p1 v1) p v) c1 o2 n2) c2 o1 n1 = sSti r w := by
  have h1 := gt_n (by omega) (by omega) hc
  have h2 : gt (rud r p1 v1) p = gt r p := gt_ne (by omega) (by omega)
  have h3 : sPt (rud r p1 v1) w = sPt r w := sPt_rud hw (by omega) (by omega)
  have h4 : gt r 22 = x := by rw [hx, hp1]
  rw [h2, h3] at hn
  rw [h2] at hv
  unfold sSti
  rw [if_neg (by rw [h4]; exact h)]
  unfold sSti1
  rw [← ek, ← h1, ← hp, ← hn, e1, e2, e3, e4, e5, e6, hv, hv1, hp1]
theorem sRo_n (hx : x = gt r p) (hp : p = 22) (hy : y = gt r q) (hq : q = 535 + 14 * w) (h : ¬ y ≤ x) : r = sRo r w := by
  unfold sRo
  rw [if_neg (by rw [← hp, ← hx, ← hq, ← hy]; exact h)]
theorem sRo_y (hx : x = gt r p) (hp : p = 22) (hy : y = gt r q) (hq : q = 535 + 14 * w) (h : y ≤ x) {p1 v1 p2 v2 x2 : Int} (hp1 : p1 = 22) (hv1 : v1 = x - y) (hp2 : p2 = 2) (hz : fin32 v2) (he : iI v2 = xio 0 (iI x2) (iI 1)) (hx2 : x2 = gt (rud r p1 v1) p2) : rud (rud r p1 v1) p2 v2 = sRo r w := by
  have h1 := gt_n (by omega) (by omega) hx2
  have h4 : gt r 22 = x := by rw [hx, hp]
  have h5 : gt r (535 + 14 * w) = y := by rw [hy, hq]
  have h6 : v2 = wr (gt r 2 + 1) := by rw [wr_add hz he, h1, hp2]
  unfold sRo
  rw [h4, h5, if_pos h, hp1, hv1, hp2, h6]
theorem sPa_of (hw : 0 ≤ w) (hx : x = gt r p) (hp : p = 536 + 14 * w) (hp1 : q = 536 + 14 * w) (hv : v = x - 1) (hy : y = gt (rud r q v) k) (ek : k = 536 + 14 * w) (hu : u = 538 + 14 * w) (hz : z = if y ≤ 0 then 1 else 0) : rud (rud r q v) u z = sPa r w := by
  have h1 := gt_e (by omega) (by omega) hy
  unfold sPa
  rw [hp1, hu, hz, h1, hv, hx, hp]
  congr 1
  by_cases c : gt r (536 + 14 * w) ≤ 1
  · rw [if_pos c, if_pos (by omega)]
  · rw [if_neg c, if_neg (by omega)]
theorem sPr_n (hx : x = gt r p) (hp : p = 539 + 14 * w) (h : x < 0) : r = sPr r w := by
  unfold sPr
  rw [if_pos (by rw [← hp, ← hx]; exact h)]
/-- a probe falls: class and reference -/
theorem sPr_y (hw : 0 ≤ w) {p1 v1 p2 v2 p3 v3 q2 q3 q5 x2 x3 x4 x5 : Int} (hx : x = gt r p) (hp : p = 539 + 14 * w) (h : 0 ≤ x) (hp1 : p1 = 539 + 14 * w) (hl : v1 = if 0 < x then x - 1 else 0) (hx2 : x2 = gt (rud r p1 v1) q2) (e2 : q2 = 540 + 14 * w) (hx3 : x3 = gt (rud r p1 v1) q3) (e3 : q3 = 1081 + v1) (hv1 : 0 ≤ v1) (hv60 : q3 ≤ 1141) (hq3 : w ≤ 23) (hp2 : p2 = 540 + 14 * w) (hz : fin32 v2) (he : iI v2 = xio 0 (iI x2) (iI x3)) (hx4 : x4 = v2) (hx5 : x5 = gt r q5) (e5 : q5 = 535 + 14 * w) (hp3 : p3 = 538 + 14 * w) (hv3 : v3 = if x5 < x4 then 1 else 0) : rud (rud (rud r p1 v1) p2 v2) p3 v3 = sPr r w := by
  have h2 := gt_n (by omega) (by omega) hx2
  have h3 := gt_n (by omega) (by omega) hx3
  have h4 : gt r (539 + 14 * w) = x := by rw [hx, hp]
  have h6 : v2 = wr (gt r (540 + 14 * w) + sTb r 1 v1) := by
    rw [wr_add hz he, h2, h3, e2, e3]
    unfold sTb
    rw [show (1020 : Int) + 61 * 1 + v1 = 1081 + v1 by omega]
  unfold sPr
  rw [h4, if_neg (by omega), ← hl]
  unfold sPr1
  rw [← e5, ← hx5, ← h6, ← hx4, ← hv3, hx4, hp1, hp2, hp3]
/-- works by kind -/
theorem sWk_at (hx : x = gt r p) (hp : p = 530 + 14 * w) : (x = 1 → sSki r w = sWk r w) ∧ (x = 2 → sGa r w = sWk r w) ∧ (x = 3 → sSti r w = sWk r w) ∧ (x = 4 → sRo r w = sWk r w) ∧ (x = 5 → sPa r w = sWk r w) ∧ (x = 6 → sPr r w = sWk r w) ∧ ((x < 1 ∨ 6 < x) → r = sWk r w) := by
  have h : gt r (530 + 14 * w) = x := by rw [hx, hp]
  unfold sWk
  rw [h]
  refine ⟨fun q => ?_, fun q => ?_, fun q => ?_, fun q => ?_, fun q => ?_, fun q => ?_, fun q => ?_⟩
  · rw [if_pos q]
  · rw [if_neg (by omega), if_pos q]
  · rw [if_neg (by omega), if_neg (by omega), if_pos q]
  · rw [if_neg (by omega), if_neg (by omega), if_neg (by omega), if_pos q]
  · rw [if_neg (by omega), if_neg (by omega), if_neg (by omega), if_neg (by omega), if_pos q]
  · rw [if_neg (by omega), if_neg (by omega), if_neg (by omega), if_neg (by omega), if_neg (by omega), if_pos q]
  · rw [if_neg (by omega), if_neg (by omega), if_neg (by omega), if_neg (by omega), if_neg (by omega), if_neg (by omega)]
theorem sWk1_y {i : Nat} (hu : u = (i : Int)) (hx : x = gt r p) (hp : p = 533 + 14 * u) (h : x = 1) (hn : gt r (538 + 14 * u) ≠ 1) : sWk r u = sWk1 i r := by
  unfold sWk1
  subst hu
  rw [if_pos ⟨by rw [← hp, ← hx]; exact h, hn⟩]
theorem sWk1_n {i : Nat} (hu : u = (i : Int)) (h : (∃ x, x = gt r p ∧ p = 533 + 14 * u ∧ x ≠ 1) ∨ gt r (538 + 14 * u) = 1) : r = sWk1 i r := by
  unfold sWk1
  subst hu
  rw [if_neg]
  rintro ⟨q1, q2⟩
  rcases h with ⟨x, rfl, rfl, h⟩ | h
  · exact h q1
  · exact q2 h
/-- people -/
theorem sBr_of {p1 v1 c1 c2 o1 o2 n1 n2 q1 x1 q2 q3 x2 x3 : Int} {R2 : Rw} (hc : c = gt r k) (ek : k = 872 + 6 * w) (hd : d = sNd r w) (hp1 : p1 = 31 + 20 * c) (hn : n = mn d (gt r p1)) (hv1 : v1 = gt r p1 - n) (e1 : n1 = n / 2) (e2 : n2 = n - n / 2) (e3 : o1 = 1) (e4 : o2 = 2) (e5 : c1 = c) (e6 : c2 = c) (hR : R2 = sCo (sCo (rud r p1 v1) c1 o1 n1) c2 o2 n2) (hx2 : x2 = gt R2 q2) (eq2 : q2 = 34 + 20 * c) (hx3 : x3 = gt R2 q3) (eq3 : q3 = 30 + 20 * c) (hm : m = (if n < d then 5 else 0) + (if x3 < x2 then 3 else 0)) (hx1 : x1 = gt R2 q1) (eq1 : q1 = 873 + 6 * w) (hp : p = 873 + 6 * w) (hv : v = mn 100 (if x1 + (if m = 0 then -1 else m) < 0 then 0 else x1 + (if m = 0 then -1 else m))) : rud R2 p v = sBr r w := by
  have h1 : R2 = sBr1 r c n := by
    unfold sBr1
    rw [hR, e1, e2, e3, e4, e5, e6, hv1, hp1]
  unfold sBr
  rw [← ek, ← hc, ← hp1, ← hd, ← hn, ← h1]
  unfold sBr2 sBrm
  rw [← eq2, ← eq3, ← hx2, ← hx3, ← hm, ← eq1, ← hx1, ← hv, hp, eq1]
theorem sNd_of (hx : x = gt r p) (hp : p = 870 + 6 * w) (h : (z = 1 ∧ x < 12) ∨ (z = 2 ∧ 12 ≤ x)) : z = sNd r w := by
  unfold sNd
  rw [← hp, ← hx]
  split <;> omega
theorem nd_same {R : Rw} {z' : Int} (h1 : z = sNd R w) (e : gt R (870 + 6 * w) = gt r (870 + 6 * w)) (h2 : z' = sNd r w) : z = z' := by
  rw [h1, h2]
  unfold sNd
  rw [e]
theorem sDd_of (hx : x = gt r p) (hp : p = 873 + 6 * w) (h : (z = 1 ∧ x = 100) ∨ (z = 0 ∧ x ≠ 100)) : (z = 1 ∧ sDd r w) ∨ (z = 0 ∧ ¬ sDd r w) := by
  unfold sDd
  rw [← hp, ← hx]
  exact h
theorem sBr0_y {i : Nat} (hu : u = (i : Int)) (h : sDd r u) : r = sBr0 i r := by
  subst hu
  exact (cI_pos h).symm
theorem sBr0_n {i : Nat} (hu : u = (i : Int)) (h : ¬ sDd r u) : sBr r u = sBr0 i r := by
  subst hu
  exact (cI_neg h).symm
theorem gt_co {x : Int} (hx : x = gt (sCo r c g n) q) (hc : 0 ≤ c) (hg : 0 ≤ g ∧ g ≤ 4) (hq : 0 ≤ q) (h1 : q ≠ 31 + 20 * c + g) (h2 : q ≠ 37 + 20 * c + g) : x = gt r q := hx.trans (gt_sCo hc hg hq h1 h2)
theorem mn_of (h : n = mn x y) (hx : x = a) (hy : y = b) : n = mn a b := by rw [h, hx, hy]
theorem gn_of (hx : x = gt r p) (hp : p = 538 + 14 * w) (h : (z = 1 ∧ x = 1) ∨ (z = 0 ∧ x = 0)) : (z = 1 ∧ gt r (538 + 14 * w) = 1) ∨ (z = 0 ∧ gt r (538 + 14 * w) = 0) := by
  rw [← hp, ← hx]
  exact h
theorem sk_of (hx : x = gt r p) (hp : p = 530 + 14 * w) (h : (z = 1 ∧ x = 1 ∧ ∃ y q, y = gt r q ∧ q = 538 + 14 * w ∧ y = 0) ∨ (z = 0 ∧ (x ≠ 1 ∨ ∃ y q, y = gt r q ∧ q = 538 + 14 * w ∧ y ≠ 0))) : (z = 1 ∧ gt r (530 + 14 * w) = 1 ∧ gt r (538 + 14 * w) = 0) ∨ (z = 0 ∧ ¬ (gt r (530 + 14 * w) = 1 ∧ gt r (538 + 14 * w) = 0)) := by
  rw [← hp, ← hx]
  rcases h with ⟨h1, h2, y, q, h3, h4, h5⟩ | ⟨h1, h2 | ⟨y, q, h3, h4, h5⟩⟩
  · exact Or.inl ⟨h1, h2, by rw [← h4, ← h3]; exact h5⟩
  · exact Or.inr ⟨h1, fun q => h2 q.1⟩
  · exact Or.inr ⟨h1, fun q => h5 (by rw [h3, h4]; exact q.2)⟩
theorem okA_pat (h : okA r) (hx : x = gt r p) (hp : p = 530 + 14 * w) (h5 : x = 5) (hg : gt r (538 + 14 * w) = 0) (hy : y = gt r q) (hq : q = 536 + 14 * w) (hw : 0 ≤ w ∧ w < 24) : 1 ≤ y := by
  have e := (okA_at h hw).2.1 (by rw [← hp, ← hx]; exact h5) hg
  rw [← hq, ← hy] at e
  exact e
theorem nv_id (h : 0 ≤ v) : nv v = v := by
  unfold nv
  rw [if_neg (by omega), if_neg (by omega)]
theorem nv_pos (h : 0 ≤ nv v) : 0 ≤ v := by
  unfold nv at h
  split at h
  · omega
  · split at h <;> omega
theorem nv_no : nv (-1000000005) = -1 := if_pos rfl
theorem nv_ne (h : v ≠ -1000000005) (h1 : -1 ≤ nv v) : 0 ≤ nv v ∧ nv v = v := by
  unfold nv at h1
  rw [if_neg h] at h1
  split at h1
  · omega
  · rw [nv_id (by omega)]
    exact ⟨by omega, rfl⟩
/-- dropped: class -/
theorem dr_of (h : okA r) (hw : 0 ≤ w ∧ w < 24) (hx : gt r (539 + 14 * w) = nv x) (hz : (z = 1 ∧ x ≠ -1000000005) ∨ (z = 0 ∧ x = -1000000005)) : (z = 1 ∧ 0 ≤ gt r (539 + 14 * w)) ∨ (z = 0 ∧ gt r (539 + 14 * w) < 0) := by
  have q := (okA_at h hw).1
  rw [hx] at q ⊢
  rcases hz with ⟨h1, h2⟩ | ⟨h1, h2⟩
  · exact Or.inl ⟨h1, (nv_ne h2 q).1⟩
  · refine Or.inr ⟨h1, ?_⟩
    rw [h2, nv_no]
    decide
theorem sTb_of {L : Int} (hx : x = gt r p) (hl : l = L) (hp : p = 1020 + 61 * k + l) : x = sTb r k L := by
  unfold sTb
  rw [← hl, ← hp]
  exact hx
theorem sLv_of (hx : x = gt r p) (hp : p = 1) (hz : z = x / 10) : z = sLv r := by
  unfold sLv
  rw [hz, hx, hp]
/-- day -/
theorem dy_of (hz : fin32 z) (he : iI z = xdv 1 (iI x) (iI y)) (hy : y = gt r q) (hq : q = 3) (h : (b = 1 ∧ z < y / 2) ∨ (b = 0 ∧ ¬ z < y / 2)) : (b = 1 ∧ dyP x (gt r 3)) ∨ (b = 0 ∧ ¬ dyP x (gt r 3)) := by
  have e : z = (xdv 1 (iI x) (iI y)).toInt := of_iI hz he
  unfold dyP
  rw [← hq, ← hy, ← e]
  exact h
theorem dy_ph (h : (b = 1 ∧ dyP x y) ∨ (b = 0 ∧ ¬ dyP x y)) (hx : x = gt r p) (hp : p = 2) : (b = 1 ∧ dyP (gt r 2) y) ∨ (b = 0 ∧ ¬ dyP (gt r 2) y) := by
  rw [← hp, ← hx]
  exact h
/-- one gets sicker -/
def sSi (r : Rw) (p m : Int) : Rw := rud r (873 + 6 * p) (mn 100 (if gt r (873 + 6 * p) + m < 0 then 0 else gt r (873 + 6 * p) + m))
theorem sSi_of (hx : x = gt r p) (hp : p = 873 + 6 * w) (hq : q = 873 + 6 * w) (hv : v = mn 100 (if x + m < 0 then 0 else x + m)) : rud r q v = sSi r w m := by
  unfold sSi
  rw [← hp, ← hx, ← hv, hp, hq]
theorem sBr_cl {p1 v1 c1 c2 o1 o2 n1 n2 q2 q3 x2 x3 : Int} (hc : c = gt r k) (ek : k = 872 + 6 * w) (hd : d = sNd r w) (hp1 : p1 = 31 + 20 * c) (hn : n = mn d (gt r p1)) (hv1 : v1 = gt r p1 - n) (e1 : n1 = n / 2) (e2 : n2 = n - n / 2) (e3 : o1 = 1) (e4 : o2 = 2) (e5 : c1 = c) (e6 : c2 = c) (hx2 : x2 = gt (sCo (sCo (rud r p1 v1) c1 o1 n1) c2 o2 n2) q2) (eq2 : q2 = 34 + 20 * c) (hx3 : x3 = gt (sCo (sCo (rud r p1 v1) c1 o1 n1) c2 o2 n2) q3) (eq3 : q3 = 30 + 20 * c) (hm : m = (if n < d then 5 else 0) + (if x3 < x2 then 3 else 0)) (hu : u = if m = 0 then -1 else m) : sSi (sCo (sCo (rud r p1 v1) c1 o1 n1) c2 o2 n2) w u = sBr r w := by
  rw [← sBr_of (p := 873 + 6 * w) hc ek hd hp1 hn hv1 e1 e2 e3 e4 e5 e6 rfl hx2 eq2 hx3 eq3 hm rfl rfl rfl rfl]
  unfold sSi
  rw [hu]
/-- a probe that is not lost -/
theorem sPr_z (hw : 0 ≤ w) {p1 v1 p2 v2 q2 q3 q5 x2 x3 x4 x5 : Int} (hx : x = gt r p) (hp : p = 539 + 14 * w) (h : 0 ≤ x) (hp1 : p1 = 539 + 14 * w) (hl : v1 = if 0 < x then x - 1 else 0) (hx2 : x2 = gt (rud r p1 v1) q2) (e2 : q2 = 540 + 14 * w) (hx3 : x3 = gt (rud r p1 v1) q3) (e3 : q3 = 1081 + v1) (hv1 : 0 ≤ v1) (hv60 : q3 ≤ 1141) (hq3 : w ≤ 23) (hp2 : p2 = 540 + 14 * w) (hz : fin32 v2) (he : iI v2 = xio 0 (iI x2) (iI x3)) (hx4 : x4 = v2) (hx5 : x5 = gt r q5) (e5 : q5 = 535 + 14 * w) (hn : ¬ x5 < x4) (hg : gt r (538 + 14 * w) = 0) : rud (rud r p1 v1) p2 v2 = sPr r w := by
  rw [← sPr_y (p3 := 538 + 14 * w) (v3 := 0) hw hx hp h hp1 hl hx2 e2 hx3 e3 hv1 hv60 hq3 hp2 hz he hx4 hx5 e5 rfl (by rw [if_neg hn])]
  exact (rud_id (by omega) (by rw [gt_ne (by omega) (by omega), gt_ne (by omega) (by omega)]; exact hg.symm)).symm
end RW3

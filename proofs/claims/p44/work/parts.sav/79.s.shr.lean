set_option linter.all false
/-! whose share is what -/
def clp (v : Int) : Int := if v < 0 then 0 else if v < 9999 then v else 9999
theorem clp_b {v : Int} : 0 ≤ clp v ∧ clp v ≤ 9999 := by
  unfold clp
  (repeat' split) <;> omega
noncomputable def sPz (r : Rw) (L : Lw) (i : Nat) : Int := cI (sDd r (i : Int)) 0 (if cnT L 0 (sHr r) < 0 then 1 else clp (wthT L (nmO r (i : Int) 0) (cnT L 0 (sHr r))))
theorem sPz_b {r : Rw} {L : Lw} {i : Nat} : 0 ≤ sPz r L i ∧ sPz r L i ≤ 9999 := by
  unfold sPz
  by_cases c : sDd r (i : Int)
  · rw [cI_pos c]
    decide
  · rw [cI_neg c]
    split
    · decide
    · exact clp_b
theorem pt_d {r : Rw} {L : Lw} {w z : Int} {i : Nat} (hu : w = (i : Int)) (h : sDd r w) (hz : z = 0) : z = sPz r L i := by
  subst hu
  unfold sPz
  rw [cI_pos h, hz]
theorem pt_1 {r : Rw} {L : Lw} {w c z : Int} {i : Nat} (hu : w = (i : Int)) (h : ¬ sDd r w) (g : c = cnT L 0 (sHr r)) (hc : c < 0) (hz : z = 1) : z = sPz r L i := by
  subst hu
  unfold sPz
  rw [cI_neg h, ← g, if_pos hc, hz]
theorem pt_w {r : Rw} {L L' : Lw} {w c v z : Int} {nm : Nat → Int} {i : Nat} (hu : w = (i : Int)) (h : ¬ sDd r w) (g : c = cnT L 0 (sHr r)) (hc : 0 ≤ c) (eL : L' = L) (ok : okL L) (hw : v = wthT L' nm c) (n : ∀ i, nmK 0 i = true → nm i = nmO r w 0 i) (hz : z = clp v) : z = sPz r L i := by
  subst hu
  subst eL
  unfold sPz
  rw [cI_neg h, ← g, if_neg (by omega), hz, hw, wthT_key ok g hc n]
theorem sm_ge {P : Nat → Int} {m i : Nat} (h : ∀ i, 0 ≤ P i) (l : i < m) : P i ≤ sm P m ∧ 0 ≤ sm P m := by
  have a := sm_le (f := fun j => if j = i then P i else 0) (g := P) (n := m) (fun j _ => by
    show (if j = i then P i else 0) ≤ P j
    by_cases c : j = i
    · rw [if_pos c, c]
      exact Int.le_refl _
    · rw [if_neg c]
      exact h j)
  have b := sm_one (f := fun j => if j = i then P i else 0) (g := fun _ => 0) (p := i) (v := P i) (n := m) (fun j q => if_neg q) (by
    show (if i = i then P i else 0) = 0 + P i
    rw [if_pos rfl]
    omega) l
  have z : sm (fun _ => (0 : Int)) m = 0 := sm_zero (fun _ _ => rfl)
  have p := h i
  omega
theorem sm_nn {P : Nat → Int} (h : ∀ i, 0 ≤ P i) (m : Nat) : 0 ≤ sm P m := by
  have a := sm_le (f := fun _ => 0) (g := P) (n := m) (fun j _ => h j)
  have z : sm (fun _ => (0 : Int)) m = 0 := sm_zero (fun _ _ => rfl)
  omega
theorem qt_le {n p a : Int} (hn : 0 ≤ n) (hp : 0 ≤ p) (hpa : p ≤ a) (ha : 0 < a) : 0 ≤ n * p / a ∧ n * p / a ≤ n := ⟨Int.ediv_nonneg (Int.mul_nonneg hn hp) (by omega), Int.ediv_le_of_le_mul ha (Int.mul_le_mul_of_nonneg_left hpa hn)⟩
def qS (n a : Int) (P : Nat → Int) (i : Nat) : Int := n * P i / a
def ahS (p : Int) (P : Nat → Int) (i : Nat) : Int := if (i : Int) < p ∧ 0 < P i then 1 else 0
def sSh (P : Nat → Int) (m : Nat) (p n : Int) : Int := if sm P m = 0 then 0 else n * P p.toNat / sm P m + (if 0 < P p.toNat ∧ sm (ahS p P) m < n - sm (qS n (sm P m) P) m then 1 else 0)
noncomputable def oShare (r : Rw) (L : Lw) (p n : Int) : Int := if oP r p ∧ 0 ≤ n ∧ n ≤ 999999 then cI (sDd r p) cNO (sSh (sPz r L) (gt r 8).toNat p n) else cBAD
theorem sh_0 {P : Nat → Int} {m : Nat} {p n a z : Int} (ha : a = sm P m) (h : a = 0) (hz : z = 0) : z = sSh P m p n := by
  unfold sSh
  rw [← ha, if_pos h, hz]
theorem sh_p {P : Nat → Int} {m : Nat} {p n a x z : Int} (ha : a = sm P m) (hx : x = P p.toNat) (h : x = 0) (hz : z = 0) : z = sSh P m p n := by
  unfold sSh
  by_cases c : sm P m = 0
  · rw [if_pos c, hz]
  · rw [if_neg c, ← hx, h, if_neg (fun q => absurd q.1 (by decide)), Int.mul_zero, Int.zero_ediv, hz]
    rfl
theorem sh_of {P : Nat → Int} {m : Nat} {p n a x w l k z : Int} (ha : a = sm P m) (h : a ≠ 0) (hx : x = P p.toNat) (hw : w = n * x / a) (hl : l = n - sm (qS n a P) m) (hk : k = sm (ahS p P) m) (hz : ((0 < x ∧ k < l) ∧ z = w + 1) ∨ (¬ (0 < x ∧ k < l) ∧ z = w)) : z = sSh P m p n := by
  subst ha
  unfold sSh
  rw [if_neg h, ← hx, ← hw, ← hl, ← hk]
  rcases hz with ⟨a, b⟩ | ⟨a, b⟩
  · rw [if_pos a, b]
  · rw [if_neg a, b]
    omega
theorem sh_l {P : Nat → Int} {n a i i' y y' x q : Int} (h : y = n - sm (qS n a P) i.toNat) (h0 : 0 ≤ i) (hi : i' = i + 1) (hx : x = P i.toNat) (hq : q = n * x / a) (hy : y' = y - q) : y' = n - sm (qS n a P) i'.toNat := by
  have e := sm_at (f := qS n a P) (y := sm (qS n a P) i.toNat) (m := i) (m' := i') (v := q) (y' := sm (qS n a P) i.toNat + q) rfl h0 hi (by rw [hq, hx]; rfl) rfl
  omega
theorem sh_k {P : Nat → Int} {p i i' y y' x : Int} (h : y = sm (ahS p P) i.toNat) (h0 : 0 ≤ i) (hi : i' = i + 1) (hx : i < p → x = P i.toNat) (hy : (i < p ∧ 0 < x ∧ y' = y + 1) ∨ (¬ (i < p ∧ 0 < x) ∧ y' = y)) : y' = sm (ahS p P) i'.toNat := by
  have ei : ((i.toNat : Nat) : Int) = i := Int.toNat_of_nonneg h0
  rcases hy with ⟨a, b, c⟩ | ⟨a, c⟩
  · exact sm_at (v := 1) h h0 hi (if_pos ⟨by omega, by rw [← hx a]; exact b⟩).symm c
  · refine sm_at (v := 0) h h0 hi (if_neg (fun q => a ⟨by omega, ?_⟩)).symm (by omega)
    rw [hx (by omega)]
    exact q.2
theorem sm_fin_l {f : Nat → Int} {n y m k : Int} (h : y = n - sm f m.toNat) (e : m = k) : y = n - sm f k.toNat := by rw [h, e]

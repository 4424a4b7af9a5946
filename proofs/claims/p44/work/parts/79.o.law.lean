set_option linter.all false
/-! the charter's calls: turn, birth, of, why, may; votes -/
noncomputable def oTurn (r : Rw) (L : Lw) (l p n : Int) : Rw × Int := if oL r l ∧ oP r p ∧ 0 ≤ n ∧ n ≤ 1 then cI (¬ sDd r p ∧ alw L 1 (sHr r) (nmO r p l)) (rud r (433 + 4 * l) n, gt r (433 + 4 * l)) (r, cNO) else (r, cBAD)
noncomputable def oBirth (r : Rw) (L : Lw) (c : Int) : Rw × Int := if oC r c then cI (alw L 3 (sHr r) (nmB r)) (oPers1 r 0 0 c) (r, cNO) else (r, cBAD)
theorem oPers_1 {r : Rw} {c x y : Int} (h : oC r c) (hx : x = 0) (hy : y = 0) : oPers r x y c = oPers1 r 0 0 c := by
  subst hx
  subst hy
  exact if_pos ⟨by decide, by decide, h⟩
theorem oPers1_0 {r : Rw} {c x y : Int} (hx : x = 0) (hy : y = 0) : oPers1 r x y c = oPers1 r 0 0 c := by rw [hx, hy]
def oOf (L : Lw) (t k : Int) : Int := if (0 ≤ t ∧ t < L.n) ∧ 0 ≤ k ∧ k ≤ 3 then (if k = 1 ∨ k = 2 then orN (L.fld t.toNat k.toNat) else L.fld t.toNat k.toNat) else cBAD
theorem of_k {L : Lw} {t k z : Int} {K : Nat} (ht : 0 ≤ t ∧ t < L.n) (hk : k = (K : Int)) (no : K = 0 ∨ K = 3) (h : L.fld t.toNat K = z) : z = oOf L t k := by
  subst hk
  unfold oOf
  rw [if_pos ⟨ht, by omega, by omega⟩, if_neg (by omega), Int.toNat_natCast, h]
theorem of_o {L : Lw} {t k z : Int} {K : Nat} (ht : 0 ≤ t ∧ t < L.n) (hk : k = (K : Int)) (no : K = 1 ∨ K = 2) (h : (z = -1000000005 ∧ L.fld t.toNat K = -1) ∨ (0 ≤ z ∧ L.fld t.toNat K = z)) : z = oOf L t k := by
  subst hk
  unfold oOf
  rw [if_pos ⟨ht, by omega, by omega⟩, if_pos (by omega), Int.toNat_natCast]
  unfold orN
  rcases h with ⟨a, b⟩ | ⟨a, b⟩
  · rw [b, if_pos (by decide), a]
  · rw [b, if_neg (by omega)]
theorem of_m {L : Lw} {t k v z : Int} (ht : 0 ≤ t ∧ t < L.n) (hk : 0 ≤ k ∧ k ≤ 3) (h : L.fld t.toNat k.toNat = v) (hz : ((k = 1 ∨ k = 2) ∧ z = orN v) ∨ (¬ (k = 1 ∨ k = 2) ∧ z = v)) : z = oOf L t k := by
  unfold oOf
  rw [if_pos ⟨ht, hk⟩, h]
  rcases hz with ⟨a, b⟩ | ⟨a, b⟩
  · rw [if_pos a, b]
  · rw [if_neg a, b]
def oWhy (L : Lw) (h k : Int) : Int := if 0 ≤ k ∧ k ≤ 5 then orN (cnT L k h) else cBAD
theorem why_c {L : Lw} {k h h' z : Int} (g : cnZ L k h' z) (eh : h' = h) : z = orN (cnT L k h) := by
  subst eh
  unfold orN
  rcases g with ⟨a, b⟩ | ⟨a, b, c⟩
  · rw [b, if_pos (by decide), a]
  · rw [c, if_neg (by omega)]
noncomputable def oMay (r : Rw) (L : Lw) (p w n : Int) : Int := if w = 2 then cI (alw L 3 (sHr r) (nmB r)) 1 0 else if (0 ≤ w ∧ w ≤ 1) ∧ oP r p then cI (sDd r p) cBAD (if w = 1 then cI (alw L 4 (sHr r) (nmO r p 0)) 1 0 else if oL r n then cI (alw L 1 (sHr r) (nmO r p n)) 1 0 else cBAD) else cBAD
theorem yn_ci {z : Int} {P : Prop} (h : (z = 1 ∧ P) ∨ (z = 0 ∧ ¬ P)) : z = cI P 1 0 := by
  rcases h with ⟨a, b⟩ | ⟨a, b⟩
  · rw [cI_pos b, a]
  · rw [cI_neg b, a]
theorem ma_2 {r : Rw} {L : Lw} {p w n z : Int} (hw : w = 2) (h : z = cI (alw L 3 (sHr r) (nmB r)) 1 0) : z = oMay r L p w n := by
  unfold oMay
  rw [if_pos hw, h]
theorem ma_b {r : Rw} {L : Lw} {p w n z : Int} (hw : w ≠ 2) (h : ¬ ((0 ≤ w ∧ w ≤ 1) ∧ oP r p)) (hz : z = cBAD) : z = oMay r L p w n := by
  unfold oMay
  rw [if_neg hw, if_neg h, hz]
theorem ma_d {r : Rw} {L : Lw} {p w n z : Int} (h : (0 ≤ w ∧ w ≤ 1) ∧ oP r p) (hd : sDd r p) (hz : z = cBAD) : z = oMay r L p w n := by
  unfold oMay
  rw [if_neg (by omega), if_pos h, cI_pos hd, hz]
theorem ma_1 {r : Rw} {L : Lw} {p w n z : Int} (hw : w = 1) (h : oP r p) (hd : ¬ sDd r p) (hz : z = cI (alw L 4 (sHr r) (nmO r p 0)) 1 0) : z = oMay r L p w n := by
  unfold oMay
  rw [if_neg (by omega), if_pos ⟨by omega, h⟩, cI_neg hd, if_pos hw, hz]
theorem ma_l {r : Rw} {L : Lw} {p w n z : Int} (hw : w = 0) (h : oP r p) (hd : ¬ sDd r p) (hl : ¬ oL r n) (hz : z = cBAD) : z = oMay r L p w n := by
  unfold oMay
  rw [if_neg (by omega), if_pos ⟨by omega, h⟩, cI_neg hd, if_neg (by omega), if_neg hl, hz]
theorem ma_0 {r : Rw} {L : Lw} {p w n z : Int} (hw : w = 0) (h : oP r p) (hd : ¬ sDd r p) (hl : oL r n) (hz : z = cI (alw L 1 (sHr r) (nmO r p n)) 1 0) : z = oMay r L p w n := by
  unfold oMay
  rw [if_neg (by omega), if_pos ⟨by omega, h⟩, cI_neg hd, if_neg (by omega), if_pos hl, hz]
/-- the reference leaves the order of the questions to the last -/
theorem ma_x {r : Rw} {L : Lw} {p w n z : Int} (h : ¬ (0 ≤ w ∧ w ≤ 2) ∨ (w < 2 ∧ ¬ oP r p) ∨ (w < 2 ∧ oP r p ∧ sDd r p) ∨ (w = 0 ∧ ¬ oL r n ∧ (oP r p → ¬ sDd r p))) (hz : z = cBAD) : z = oMay r L p w n := by
  by_cases hw : w = 2
  · exact absurd h (by omega)
  · by_cases c : (0 ≤ w ∧ w ≤ 1) ∧ oP r p
    · by_cases d : sDd r p
      · exact ma_d c d hz
      · have e : w = 0 ∧ ¬ oL r n := by
          rcases h with a | a | a | a
          · exact absurd a (by omega)
          · exact absurd c.2 a.2
          · exact absurd a.2.2 d
          · exact ⟨a.1, a.2.1⟩
        exact ma_l e.1 c.2 d e.2 hz
    · exact ma_b hw c hz

set_option linter.all false
/-! what is counted -/
def sGn (r : Rw) (w : Nat) : Int := if gt r (538 + 14 * (w : Int)) = 1 then 1 else 0
noncomputable def sDe (r : Rw) (p : Nat) : Int := cI (sDd r (p : Int)) 1 0
def sIf (L : Lw) (h : Int) (t : Nat) : Int := if inF L h t then 1 else 0
noncomputable def qnV (r : Rw) (L : Lw) : Nat → Int → Prop
  | 0, z => z = gt r 5
  | 1, z => z = gt r 6
  | 2, z => z = gt r 7
  | 3, z => z = sm (sGn r) (gt r 7).toNat
  | 4, z => z = gt r 8
  | 5, z => z = sm (sDe r) (gt r 8).toNat
  | 6, z => z = L.n
  | 7, z => z = sm (sIf L (sHr r)) L.n.toNat
  | 11, z => z = gt r 13
  | 14, z => z = (if L.vote < 0 then 0 else 1)
  | _, _ => True
/-- what count answers to k, by the row and the charter -/
def qnR (r : Rw) (L : Lw) (k z : Int) : Prop := ∀ j : Nat, k = (j : Int) → qnV r L j z
theorem qnR_k {r : Rw} {L : Lw} {k z : Int} {K : Nat} (hk : k = (K : Int)) (h : qnV r L K z) : qnR r L k z := fun j hj => by
  have e : j = K := by omega
  rw [e]
  exact h
theorem qnR_o {r : Rw} {L : Lw} {k z : Int} (hk : ¬ (0 ≤ k ∧ k ≤ 14)) : qnR r L k z := fun j hj => by
  have e : ∃ n : Nat, j = n + 15 := ⟨j - 15, by omega⟩
  obtain ⟨n, e⟩ := e
  rw [e]
  exact True.intro
theorem qnR_one {r : Rw} {L : Lw} {k z z' : Int} (h : qnR r L k z) (h' : qnR r L k z') (hk : (0 ≤ k ∧ k ≤ 7) ∨ k = 11 ∨ k = 14) : z = z' := by
  have q := h k.toNat (by omega)
  have q' := h' k.toNat (by omega)
  have e : k.toNat = 0 ∨ k.toNat = 1 ∨ k.toNat = 2 ∨ k.toNat = 3 ∨ k.toNat = 4 ∨ k.toNat = 5 ∨ k.toNat = 6 ∨ k.toNat = 7 ∨ k.toNat = 11 ∨ k.toNat = 14 := by omega
  rcases e with e | e | e | e | e | e | e | e | e | e <;> (rw [e] at q q'; exact Eq.trans q (Eq.symm q'))
theorem sGn_v {r : Rw} {v p w : Int} (h : v = gt r p) (hp : p = 538 + 14 * w) (hb : 0 ≤ v ∧ v ≤ 1) (w0 : 0 ≤ w) : v = sGn r w.toNat := by
  unfold sGn
  rw [Int.toNat_of_nonneg w0, ← hp, ← h]
  split <;> omega
theorem sGn_1 {r : Rw} {v w : Int} (h : gt r (538 + 14 * w) = 1) (w0 : 0 ≤ w) (hv : v = 1) : v = sGn r w.toNat := by
  unfold sGn
  rw [Int.toNat_of_nonneg w0, if_pos h, hv]
theorem sGn_0 {r : Rw} {v w : Int} (h : gt r (538 + 14 * w) = 0) (w0 : 0 ≤ w) (hv : v = 0) : v = sGn r w.toNat := by
  unfold sGn
  rw [Int.toNat_of_nonneg w0, if_neg (by rw [h]; decide), hv]
theorem sDe_1 {r : Rw} {v w : Int} (h : sDd r w) (w0 : 0 ≤ w) (hv : v = 1) : v = sDe r w.toNat := by
  unfold sDe
  rw [Int.toNat_of_nonneg w0, cI_pos h, hv]
theorem sDe_0 {r : Rw} {v w : Int} (h : ¬ sDd r w) (w0 : 0 ≤ w) (hv : v = 0) : v = sDe r w.toNat := by
  unfold sDe
  rw [Int.toNat_of_nonneg w0, cI_neg h, hv]
theorem sIf_1 {L : Lw} {h v : Int} {t : Nat} (q : inF L h t) (hv : v = 1) : v = sIf L h t := by
  unfold sIf
  rw [if_pos q, hv]
theorem sIf_0 {L : Lw} {h v : Int} {t : Nat} (q : ¬ inF L h t) (hv : v = 0) : v = sIf L h t := by
  unfold sIf
  rw [if_neg q, hv]
theorem sDe_n (r : Rw) : ∀ n : Nat, sm (sDe r) n = (n : Int) - sm (sLiv r) n
  | 0 => rfl
  | n + 1 => by
    have h := sDe_n r n
    show sm (sDe r) n + sDe r n = ((n + 1 : Nat) : Int) - (sm (sLiv r) n + sLiv r n)
    have q : sDe r n = 1 - sLiv r n := by
      unfold sDe sLiv
      by_cases c : sDd r (n : Int)
      · rw [cI_pos c, cI_pos c]
        decide
      · rw [cI_neg c, cI_neg c]
        decide
    rw [h, q]
    omega
theorem qn_5 {r : Rw} {z l n : Int} (h : l = sm (sLiv r) (gt r 8).toNat) (hz : z = n - l) (hn : n = gt r 8) (h0 : 0 ≤ n) : z = sm (sDe r) (gt r 8).toNat := by
  rw [sDe_n, hz, h, hn]
  omega
theorem qn_14n {v : Int} (h : v = -1000000005) : (0 : Int) = (if nv v < 0 then 0 else 1) := by
  rw [h]
  decide
theorem qn_14y {v : Int} (h : v ≠ -1000000005) (p : -1 ≤ nv v) : (1 : Int) = (if nv v < 0 then 0 else 1) := by
  unfold nv at p ⊢
  rw [if_neg h] at p ⊢
  by_cases c : v < 0
  · rw [if_pos c] at p
    omega
  · rw [if_neg c, if_neg c]
/-! minutes counted -/
theorem nMin_z {r R : Rw} {a : Int} (h : R = r) (e : a = 0) : R = nMin r a.toNat := by
  rw [e]
  exact h
theorem nMin_e {r R : Rw} {a b : Int} (h : R = nMin r a.toNat) (e : a = b) : R = nMin r b.toNat := by
  rw [← e]
  exact h
theorem iR_ot {I K : fH} {o j : Nat} {v : Int} (e : K = fupd I o j v) (h : o ≠ 742) : iR K = iR I := by
  funext r
  show (if covb r = true then K 742 r else 0) = (if covb r = true then I 742 r else 0)
  rw [e, fup_ne (Or.inl (fun q => h q.symm))]

set_option linter.all false
/-! the charter kept and gone on from -/
abbrev cpL : copL := [((206, 206), (0, 24)), ((187, 187), (8, 9)), ((187, 187), (7, 8)), ((187, 187), (6, 7)), ((194, 205), (0, 96)), ((192, 192), (0, 12)), ((191, 191), (0, 12)), ((190, 190), (0, 12)), ((189, 189), (0, 12)), ((188, 188), (0, 12))]
theorem cop_at {d1 d2 : Nat} {L : copL} {I K : fH} {x : (Nat × Nat) × (Nat × Nat)} {a j : Nat} (c : cop d1 d2 L I K) (hx : x ∈ L) (h : (x.1.1 ≤ a ∧ a ≤ x.1.2) ∧ x.2.1 ≤ j ∧ j < x.2.2) : K (a + d1) j = I (a + d2) j := by
  refine c a j (List.any_eq_true.mpr ⟨x, hx, ?_⟩)
  unfold copx
  simp only [Bool.and_eq_true, Nat.ble_eq, Nat.blt_eq]
  exact ⟨⟨⟨h.1.1, h.1.2⟩, h.2.1⟩, h.2.2⟩
theorem cLw_cop {d1 d2 : Nat} {I K : fH} (c : cop d1 d2 cpL I K) (hv : (cLw d2 I).vote < 12) : cLw d1 K = cLw d2 I := by
  have h6 : K (187 + d1) 6 = I (187 + d2) 6 := cop_at c (x := ((187, 187), (6, 7))) (by decide) (by decide)
  have h7 : K (187 + d1) 7 = I (187 + d2) 7 := cop_at c (x := ((187, 187), (7, 8))) (by decide) (by decide)
  have h8 : K (187 + d1) 8 = I (187 + d2) 8 := cop_at c (x := ((187, 187), (8, 9))) (by decide) (by decide)
  have hs : ∀ j, j < 24 → K (206 + d1) j = I (206 + d2) j := fun j l => cop_at c (x := ((206, 206), (0, 24))) (by decide) ⟨by decide, Nat.zero_le _, l⟩
  have p0 : ∀ j, j < 12 → K (188 + d1) j = I (188 + d2) j := fun j l => cop_at c (x := ((188, 188), (0, 12))) (by decide) ⟨by decide, Nat.zero_le _, l⟩
  have p1 : ∀ j, j < 12 → K (189 + d1) j = I (189 + d2) j := fun j l => cop_at c (x := ((189, 189), (0, 12))) (by decide) ⟨by decide, Nat.zero_le _, l⟩
  have p2 : ∀ j, j < 12 → K (190 + d1) j = I (190 + d2) j := fun j l => cop_at c (x := ((190, 190), (0, 12))) (by decide) ⟨by decide, Nat.zero_le _, l⟩
  have p3 : ∀ j, j < 12 → K (191 + d1) j = I (191 + d2) j := fun j l => cop_at c (x := ((191, 191), (0, 12))) (by decide) ⟨by decide, Nat.zero_le _, l⟩
  have p4 : ∀ j, j < 12 → K (192 + d1) j = I (192 + d2) j := fun j l => cop_at c (x := ((192, 192), (0, 12))) (by decide) ⟨by decide, Nat.zero_le _, l⟩
  have hr : ∀ t j, t < 12 → j < 96 → K (194 + t + d1) j = I (194 + t + d2) j := fun t j l1 l2 => cop_at c (x := ((194, 205), (0, 96))) (by decide) ⟨⟨by show 194 ≤ 194 + t; omega, by show 194 + t ≤ 205; omega⟩, Nat.zero_le _, l2⟩
  have a1 : ∀ v, cYes d1 K v = cYes d2 I v := fun v => by
    unfold cYes
    rw [h7]
    have e : cnt1 (K (206 + d1)) v = cnt1 (I (206 + d2)) v := sm_cg (fun i l => by
      show (if K (206 + d1) i = v then (1 : Int) else 0) = if I (206 + d2) i = v then 1 else 0
      rw [hs i l])
    rw [e]
  have a2 : cBd d1 K = cBd d2 I := by
    unfold cBd
    rw [h7, h8]
    by_cases n : I (187 + d2) 7 = -1000000005
    · rw [if_pos n, if_pos n]
    · have v : nv (I (187 + d2) 7) < 12 := hv
      have l : (I (187 + d2) 7).toNat < 12 := by
        unfold nv at v
        rw [if_neg n] at v
        by_cases s : I (187 + d2) 7 < 0
        · omega
        · rw [if_neg s] at v
          omega
      rw [p1 _ l]
  have a3 : cSd d1 K = cSd d2 I := funext (fun p => by
    unfold cSd
    rw [h7]
    by_cases l : 24 ≤ p
    · rw [if_pos (Or.inr (Or.inl l)), if_pos (Or.inr (Or.inl l))]
    · rw [hs p (by omega)])
  have a4 : cFd d1 K = cFd d2 I := funext (fun t => funext (fun k => by
    unfold cFd
    rw [h6]
    by_cases l : (t : Int) < I (187 + d2) 6 ∧ t < 12
    · rw [if_pos l, if_pos l]
      match k with
      | 0 => exact p0 t l.2
      | 1 => exact congrArg nv (p1 t l.2)
      | 2 => exact congrArg nv (p2 t l.2)
      | 3 => exact p3 t l.2
      | 4 => exact p4 t l.2
      | _ + 5 => rfl
    · rw [if_neg l, if_neg l]))
  have a5 : cCd d1 K = cCd d2 I := funext (fun t => funext (fun i => by
    unfold cCd
    rw [h6]
    by_cases l : t < 12
    · rw [p4 t l]
      by_cases q : (((t : Int) < I (187 + d2) 6 ∧ t < 12) ∧ (i : Int) < I (192 + d2) t) ∧ i < 96
      · rw [if_pos q, if_pos q, hr t i l q.2]
      · rw [if_neg q, if_neg q]
    · rw [if_neg (fun q => l q.1.1.2), if_neg (fun q => l q.1.1.2)]))
  unfold cLw
  rw [h6, h7, a1, a1, a2, a3, a4, a5]
theorem cLw_o0 {d o j : Nat} {I K : fH} {v : Int} (e : K = fupd I o j v) (h : o < 187) : cLw d K = cLw d I :=
  cLw_cg (by rw [e]; exact fup_ne (Or.inl (by omega))) (by rw [e]; exact fup_ne (Or.inl (by omega))) (by rw [e]; exact fup_ne (Or.inl (by omega))) (fun k j _ => by rw [e]; exact fup_ne (Or.inl (by omega))) (fun j => by rw [e]; exact fup_ne (Or.inl (by omega))) (fun t j _ _ => by rw [e]; exact fup_ne (Or.inl (by omega)))
/-- the reference's row and its image -/
theorem mLw_two {s s' : Nat} {I K : fH} (h : ∀ j, j < 4900 → K s' j = I s j) : mLw s' K = mLw s I := by
  have e9 := h 9 (by decide)
  have e14 := h 14 (by decide)
  have e15 := h 15 (by decide)
  have e16 := h 16 (by decide)
  have a3 : (fun p => if K s' 14 < 0 ∨ 24 ≤ p then 0 else K s' (874 + 6 * p)) = (fun p => if I s 14 < 0 ∨ 24 ≤ p then 0 else I s (874 + 6 * p)) := funext (fun p => by
    rw [e14]
    by_cases c : I s 14 < 0 ∨ 24 ≤ p
    · rw [if_pos c, if_pos c]
    · rw [if_neg c, if_neg c, h _ (by omega)])
  have a4 : mFd s' K = mFd s I := funext (fun t => funext (fun k => by
    unfold mFd
    rw [e9]
    by_cases c : ((t : Int) < I s 9 ∧ t < 12) ∧ k ≤ 4
    · rw [if_pos c, if_pos c, h _ (by omega)]
    · rw [if_neg c, if_neg c]))
  have a5 : mCd s' K = mCd s I := funext (fun t => funext (fun i => by
    unfold mCd
    rw [e9]
    by_cases c0 : t < 12
    · rw [h (1214 + 200 * t) (by omega)]
      by_cases c : (((t : Int) < I s 9 ∧ t < 12) ∧ (i : Int) < I s (1214 + 200 * t)) ∧ i < 96
      · rw [if_pos c, if_pos c, h _ (by omega), h _ (by omega)]
      · rw [if_neg c, if_neg c]
    · rw [if_neg (fun q => c0 q.1.1.2), if_neg (fun q => c0 q.1.1.2)]))
  unfold mLw
  rw [a3, e9, e14, e15, e16, a4, a5]
theorem okE_two {s s' : Nat} {I K : fH} (h : ∀ j, j < 4900 → K s' j = I s j) (k : okE s I) : okE s' K := by
  intro t i ht hi
  rw [h 9 (by decide)] at ht
  rw [h (1214 + 200 * t) (by omega)] at hi
  rw [h (1215 + 200 * t + 2 * i) (by omega), h (1215 + 200 * t + 2 * i + 1) (by omega)]
  exact k t i ht hi

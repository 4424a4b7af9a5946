set_option linter.all false
/-! what calls leave of it -/
theorem sKeepF {W : List Nat} {I I' : fH} (f : fFr znJ W I I') (hz : sZs.all (fun z => Bool.not (W.elem z)) = true) {j : Nat} (h : relb j = true) : I' 741 j = I 741 j := f 741 j (by
  have q := List.all_eq_true.mp hz _ (sZs_of h)
  cases c : W.elem (znJ 741 j) with
  | false => rfl
  | true => rw [c] at q; cases q)
theorem sI_fr {W : List Nat} {I I' : fH} (h : sI I 741) (h0 : fB bsJ I) (f : fFr znJ W I I') (hz : sZs.all (fun z => Bool.not (W.elem z)) = true) : sI I' 741 := sI_congr (sBd_of h0) (fun _ hj => sKeepF f hz hj) h
/-- the image, if there is one -/
def kI (I : fH) : Prop := I 740 3 = 1 → sI I 742 ∧ 2 ≤ I 742 3 ∧ I 742 0 ≤ 20000
theorem kI_congr {I I' : fH} (h0 : fB bsJ I) (h3 : I' 740 3 = I 740 3) (hm : ∀ j, I' 742 j = I 742 j) (h : kI I) : kI I' := by
  intro q
  rw [h3] at q
  obtain ⟨a, b, c⟩ := h q
  refine ⟨sI_congr (sBd_of2 h0) (fun j _ => hm j) a, ?_, ?_⟩
  · rw [hm]; exact b
  · rw [hm]; exact c
theorem kI_keep {W : List Nat} {I0 I : fH} (h : kI I0) (h0 : fB bsJ I0) (hB : fB (fbz bsJ znJ (fKc W) I0) I) (h1 : W.elem (znJ 740 3) = false) (h2 : W.elem 742 = false) : kI I := kI_congr h0 (fFr_of hB 740 3 h1) (sM_keep hB h2) h
theorem kI_fr {W : List Nat} {I I' : fH} (h : kI I) (h0 : fB bsJ I) (f : fFr znJ W I I') (h1 : W.elem (znJ 740 3) = false) (h2 : W.elem 742 = false) : kI I' := kI_congr h0 (f 740 3 h1) (fun j => f 742 j h2) h
/-- one more cell -/
theorem sI_cell {I I' : fH} (b : sBd I 741) (hn : 0 ≤ I 741 5 ∧ I 741 5 ≤ 19) (h1 : ∀ j : Nat, ((j : Int) < 30 + 20 * I 741 5 ∨ 50 + 20 * I 741 5 ≤ (j : Int)) → j ≠ 5 → I' 741 j = I 741 j) (h2 : 1 ≤ I' 741 (30 + 20 * I 741 5).toNat) (h3 : I' 741 5 = I 741 5 + 1) (q : sI I 741) : sI I' 741 := by
  obtain ⟨⟨b1, b2, b3, b4⟩, b5⟩ := b
  obtain ⟨q1, q2, q3, q4⟩ := q
  have hv : ∀ c : Nat, c < 20 → 1 ≤ I 741 (30 + 20 * c) ∨ (c : Int) = I 741 5 → 1 ≤ I' 741 (30 + 20 * c) := by
    intro c hc hq
    by_cases e : (c : Int) = I 741 5
    · rw [← e] at h2
      rw [show (30 + 20 * (c : Int)).toNat = 30 + 20 * c by omega] at h2
      exact h2
    · rw [h1 _ (by omega) (by omega)]
      exact hq.resolve_right e
  refine ⟨fun c hc => ?_, fun l hl => ?_, fun k hk => ?_, fun t ht => ?_⟩
  · rw [h3] at hc
    by_cases e : (c : Int) = I 741 5
    · exact hv c (by omega) (Or.inr e)
    · exact hv c (by omega) (Or.inl (q1 c (by omega)))
  · rw [h1 6 (by omega) (by omega)] at hl
    have z := b5 l (by omega)
    have w := q2 l hl
    rw [h1 (430 + 4 * l) (by omega) (by omega), h1 (431 + 4 * l) (by omega) (by omega)]
    exact ⟨hv _ (by omega) (Or.inl w.1), hv _ (by omega) (Or.inl w.2)⟩
  · rw [h1 10 (by omega) (by omega)] at hk
    rw [h1 _ (by omega) (by omega)]
    exact q3 k hk
  · rw [h1 9 (by omega) (by omega)] at ht
    obtain ⟨z1, z2, z3⟩ := q4 t ht
    have e := h1 (1214 + 200 * t) (by omega) (by omega)
    refine ⟨by rw [e]; exact z1, by rw [e]; exact z2, ?_⟩
    rw [e, hgt_congr (fun j p1 p2 => h1 j (by omega) (by omega))]
    exact z3
/-- one more lock -/
theorem sI_lock {I I' : fH} (b : sBd I 741) (hn : 0 ≤ I 741 6 ∧ I 741 6 ≤ 23) (h1 : ∀ j : Nat, ((j : Int) < 430 + 4 * I 741 6 ∨ 434 + 4 * I 741 6 ≤ (j : Int)) → j ≠ 6 → I' 741 j = I 741 j) (h2 : 0 ≤ I' 741 (430 + 4 * I 741 6).toNat ∧ I' 741 (430 + 4 * I 741 6).toNat < I 741 5) (h3 : 0 ≤ I' 741 (431 + 4 * I 741 6).toNat ∧ I' 741 (431 + 4 * I 741 6).toNat < I 741 5) (h4 : I' 741 6 = I 741 6 + 1) (q : sI I 741) : sI I' 741 := by
  obtain ⟨⟨b1, b2, b3, b4⟩, b5⟩ := b
  obtain ⟨q1, q2, q3, q4⟩ := q
  refine ⟨fun c hc => ?_, fun l hl => ?_, fun k hk => ?_, fun t ht => ?_⟩
  · rw [h1 5 (by omega) (by omega)] at hc
    rw [h1 _ (by omega) (by omega)]
    exact q1 c hc
  · rw [h4] at hl
    by_cases e : (l : Int) = I 741 6
    · rw [← e] at h2 h3
      rw [show (430 + 4 * (l : Int)).toNat = 430 + 4 * l by omega] at h2
      rw [show (431 + 4 * (l : Int)).toNat = 431 + 4 * l by omega] at h3
      have z1 := q1 (I' 741 (430 + 4 * l)).toNat (by omega)
      have z2 := q1 (I' 741 (431 + 4 * l)).toNat (by omega)
      rw [h1 (30 + 20 * (I' 741 (430 + 4 * l)).toNat) (by omega) (by omega), h1 (30 + 20 * (I' 741 (431 + 4 * l)).toNat) (by omega) (by omega)]
      exact ⟨z1, z2⟩
    · have z := b5 l (by omega)
      have w := q2 l (by omega)
      rw [h1 (430 + 4 * l) (by omega) (by omega), h1 (431 + 4 * l) (by omega) (by omega), h1 (30 + 20 * (I 741 (430 + 4 * l)).toNat) (by omega) (by omega), h1 (30 + 20 * (I 741 (431 + 4 * l)).toNat) (by omega) (by omega)]
      exact w
  · rw [h1 10 (by omega) (by omega)] at hk
    rw [h1 _ (by omega) (by omega)]
    exact q3 k hk
  · rw [h1 9 (by omega) (by omega)] at ht
    obtain ⟨z1, z2, z3⟩ := q4 t ht
    have e := h1 (1214 + 200 * t) (by omega) (by omega)
    refine ⟨by rw [e]; exact z1, by rw [e]; exact z2, ?_⟩
    rw [e, hgt_congr (fun j p1 p2 => h1 j (by omega) (by omega))]
    exact z3
/-- one more ship -/
theorem sI_ship {I I' : fH} (b : sBd I 741) (hn : 0 ≤ I 741 10 ∧ I 741 10 ≤ 5) (h1 : ∀ j : Nat, ((j : Int) < 4330 + 3 * I 741 10 ∨ 4333 + 3 * I 741 10 ≤ (j : Int)) → j ≠ 10 → I' 741 j = I 741 j) (h2 : 2 ≤ I' 741 (4330 + 3 * I 741 10).toNat) (h3 : I' 741 10 = I 741 10 + 1) (q : sI I 741) : sI I' 741 := by
  obtain ⟨⟨b1, b2, b3, b4⟩, b5⟩ := b
  obtain ⟨q1, q2, q3, q4⟩ := q
  refine ⟨fun c hc => ?_, fun l hl => ?_, fun k hk => ?_, fun t ht => ?_⟩
  · rw [h1 5 (by omega) (by omega)] at hc
    rw [h1 _ (by omega) (by omega)]
    exact q1 c hc
  · rw [h1 6 (by omega) (by omega)] at hl
    have z := b5 l (by omega)
    have w := q2 l hl
    rw [h1 (430 + 4 * l) (by omega) (by omega), h1 (431 + 4 * l) (by omega) (by omega), h1 (30 + 20 * (I 741 (430 + 4 * l)).toNat) (by omega) (by omega), h1 (30 + 20 * (I 741 (431 + 4 * l)).toNat) (by omega) (by omega)]
    exact w
  · rw [h3] at hk
    by_cases e : (k : Int) = I 741 10
    · rw [← e] at h2
      rw [show (4330 + 3 * (k : Int)).toNat = 4330 + 3 * k by omega] at h2
      exact h2
    · rw [h1 _ (by omega) (by omega)]
      exact q3 k (by omega)
  · rw [h1 9 (by omega) (by omega)] at ht
    obtain ⟨z1, z2, z3⟩ := q4 t ht
    have e := h1 (1214 + 200 * t) (by omega) (by omega)
    refine ⟨by rw [e]; exact z1, by rw [e]; exact z2, ?_⟩
    rw [e, hgt_congr (fun j p1 p2 => h1 j (by omega) (by omega))]
    exact z3
/-- what a reading of a text leaves -/
theorem sI_par {I I' : fH} (b : sBd I 741) (hn : 0 ≤ I 741 9) (h1 : ∀ j : Nat, ((j : Int) < 1210 + 200 * I 741 9 ∨ (4330 ≤ j ∧ j < 4348)) → I' 741 j = I 741 j) (q : sI I 741) : sI I' 741 := by
  obtain ⟨⟨b1, b2, b3, b4⟩, b5⟩ := b
  obtain ⟨q1, q2, q3, q4⟩ := q
  refine ⟨fun c hc => ?_, fun l hl => ?_, fun k hk => ?_, fun t ht => ?_⟩
  · rw [h1 5 (by omega)] at hc
    rw [h1 _ (by omega)]
    exact q1 c hc
  · rw [h1 6 (by omega)] at hl
    have z := b5 l (by omega)
    have w := q2 l hl
    rw [h1 (430 + 4 * l) (by omega), h1 (431 + 4 * l) (by omega), h1 (30 + 20 * (I 741 (430 + 4 * l)).toNat) (by omega), h1 (30 + 20 * (I 741 (431 + 4 * l)).toNat) (by omega)]
    exact w
  · rw [h1 10 (by omega)] at hk
    rw [h1 _ (by omega)]
    exact q3 k hk
  · rw [h1 9 (by omega)] at ht
    obtain ⟨z1, z2, z3⟩ := q4 t ht
    have e := h1 (1214 + 200 * t) (by omega)
    refine ⟨by rw [e]; exact z1, by rw [e]; exact z2, ?_⟩
    rw [e, hgt_congr (fun j p1 p2 => h1 j (by omega))]
    exact z3
/-- one more text -/
theorem sI_text {I I' : fH} (b : sBd I 741) (hn : 0 ≤ I 741 9 ∧ I 741 9 ≤ 11) (h1 : ∀ j : Nat, ((j : Int) < 1210 + 200 * I 741 9 ∨ (4330 ≤ j ∧ j < 4348)) → j ≠ 9 → I' 741 j = I 741 j) (h2 : sT I' 741 (I 741 9).toNat) (h3 : I' 741 9 = I 741 9 + 1) (q : sI I 741) : sI I' 741 := by
  obtain ⟨⟨b1, b2, b3, b4⟩, b5⟩ := b
  obtain ⟨q1, q2, q3, q4⟩ := q
  refine ⟨fun c hc => ?_, fun l hl => ?_, fun k hk => ?_, fun t ht => ?_⟩
  · rw [h1 5 (by omega) (by omega)] at hc
    rw [h1 _ (by omega) (by omega)]
    exact q1 c hc
  · rw [h1 6 (by omega) (by omega)] at hl
    have z := b5 l (by omega)
    have w := q2 l hl
    rw [h1 (430 + 4 * l) (by omega) (by omega), h1 (431 + 4 * l) (by omega) (by omega), h1 (30 + 20 * (I 741 (430 + 4 * l)).toNat) (by omega) (by omega), h1 (30 + 20 * (I 741 (431 + 4 * l)).toNat) (by omega) (by omega)]
    exact w
  · rw [h1 10 (by omega) (by omega)] at hk
    rw [h1 _ (by omega) (by omega)]
    exact q3 k hk
  · rw [h3] at ht
    by_cases e : (t : Int) = I 741 9
    · rw [show (I 741 9).toNat = t by omega] at h2
      exact h2
    · obtain ⟨z1, z2, z3⟩ := q4 t (by omega)
      have e := h1 (1214 + 200 * t) (by omega) (by omega)
      refine ⟨by rw [e]; exact z1, by rw [e]; exact z2, ?_⟩
      rw [e, hgt_congr (fun j p1 p2 => h1 j (by omega) (by omega))]
      exact z3
theorem sOne_to {I : fH} {A L M A' L' M' : Int} (h : sOne I A L M) (eA : A' = A) (eL : L' = L) (eM : M' = M) : sOne I A' L' M' := by
  subst eA; subst eL; subst eM
  exact h
theorem shp_ok : (List.range 18).all (fun k => [20800, 20801, 20802].elem (znJ 741 (4330 + k))) = true := by decide +kernel
theorem shp_keep {W : List Nat} {I0 I : fH} (hB : fB (fbz bsJ znJ (fKc W) I0) I) (hz : [20800, 20801, 20802].all (fun z => Bool.not (W.elem z)) = true) {j : Nat} (h : 4330 ≤ j ∧ j < 4348) : I 741 j = I0 741 j := fFr_of hB 741 j (by
  have q1 := List.elem_iff.mp (List.all_eq_true.mp shp_ok (j - 4330) (List.mem_range.mpr (by omega)))
  rw [show 4330 + (j - 4330) = j by omega] at q1
  have q := List.all_eq_true.mp hz _ q1
  cases c : W.elem (znJ 741 j) with
  | false => rfl
  | true => rw [c] at q; cases q)
theorem sOne_in {I I' : fH} {A L M : Int} (hA : 0 ≤ A) (h : sOne I A L M) (hb : ∀ j : Nat, A + 2 * L ≤ (j : Int) → (j : Int) < A + 2 * M → I' 741 j = I 741 j) : sOne I' A L M := by
  obtain ⟨h1, h2, h3⟩ := h
  refine ⟨h1, h2, ?_⟩
  rw [hgt_congr (fun j q1 q2 => hb j (by omega) (by omega))]
  exact h3
theorem frCy {g : fG} {bs : Nat → Nat → Int × Int} {zn : Nat → Nat → Nat} {W : List Nat} {o a0 a1 len : Nat} (h : (List.range (a1 + 1 - a0)).all (fun x => frCb g bs zn W len o (a0 + x)) = true) {d : Nat} (hd : a0 ≤ d ∧ d ≤ a1) : frC g bs zn W len o d := by
  have q := List.all_eq_true.mp h (d - a0) (List.mem_range.mpr (by omega))
  rw [show a0 + (d - a0) = d by omega] at q
  exact frC_of q

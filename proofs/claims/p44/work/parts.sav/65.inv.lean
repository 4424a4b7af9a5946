set_option linter.all false
/-! what holds of the reference's row beyond bounds -/
/-- one step of a text on a pile of h numbers -/
def hst (I : fH) (s a k h : Nat) : Option Nat := if I s (a + 2 * k) = 2 then (if I s (a + 2 * k + 1) = 33 then (if 1 ≤ h then some h else none) else (if 2 ≤ h then some (h - 1) else none)) else (if I s (a + 2 * k) = 0 ∨ (0 ≤ I s (a + 2 * k + 1) ∧ I s (a + 2 * k + 1) ≤ 127) then some (h + 1) else none)
/-- k steps from step lo on -/
def hgt (I : fH) (s a lo : Nat) : Nat → Nat → Option Nat
  | 0, h => some h
  | k + 1, h => (hgt I s a lo k h).bind (hst I s a (lo + k))
theorem hst_shift {I : fH} {s a k h r : Nat} (e : hst I s a k h = some r) (c : Nat) : hst I s a k (h + c) = some (r + c) := by
  unfold hst at e ⊢
  split at e
  · rw [if_pos ‹_›]
    split at e
    · rw [if_pos ‹_›]
      split at e
      · cases e; rw [if_pos (by omega)]
      · cases e
    · rw [if_neg ‹_›]
      split at e
      · cases e; rw [if_pos (by omega)]; congr 1; omega
      · cases e
  · rw [if_neg ‹_›]
    split at e
    · cases e; rw [if_pos ‹_›]; congr 1; omega
    · cases e
theorem hgt_shift {I : fH} {s a lo : Nat} : ∀ {k h r : Nat}, hgt I s a lo k h = some r → ∀ c, hgt I s a lo k (h + c) = some (r + c) := by
  intro k
  induction k with
  | zero => intro h r e c; cases e; rfl
  | succ k ih =>
    intro h r e c
    obtain ⟨x, e1, e2⟩ := Option.bind_eq_some_iff.mp e
    exact Option.bind_eq_some_iff.mpr ⟨x + c, ih e1 c, hst_shift e2 c⟩
theorem hgt_app {I : fH} {s a lo k : Nat} : ∀ {l h x r : Nat}, hgt I s a lo k h = some x → hgt I s a (lo + k) l x = some r → hgt I s a lo (k + l) h = some r := by
  intro l
  induction l with
  | zero => intro h x r e1 e2; cases e2; exact e1
  | succ l ih =>
    intro h x r e1 e2
    obtain ⟨y, e3, e4⟩ := Option.bind_eq_some_iff.mp e2
    refine Option.bind_eq_some_iff.mpr ⟨y, ih e1 e3, ?_⟩
    show hst I s a (lo + (k + l)) y = some r
    rw [show lo + (k + l) = lo + k + l by omega]
    exact e4
theorem hst_congr {I I' : fH} {s s' a k : Nat} (h1 : I' s' (a + 2 * k) = I s (a + 2 * k)) (h2 : I' s' (a + 2 * k + 1) = I s (a + 2 * k + 1)) (h : Nat) : hst I' s' a k h = hst I s a k h := by
  unfold hst
  rw [h1, h2]
theorem hgt_congr {I I' : fH} {s s' a lo : Nat} : ∀ {k : Nat}, (∀ j, a + 2 * lo ≤ j → j < a + 2 * (lo + k) → I' s' j = I s j) → ∀ h, hgt I' s' a lo k h = hgt I s a lo k h := by
  intro k
  induction k with
  | zero => intro _ h; rfl
  | succ k ih =>
    intro q h
    show (hgt I' s' a lo k h).bind (hst I' s' a (lo + k)) = (hgt I s a lo k h).bind (hst I s a (lo + k))
    rw [ih (fun j h1 h2 => q j h1 (by omega)) h]
    congr 1
    funext x
    exact hst_congr (q _ (by omega) (by omega)) (q _ (by omega) (by omega)) x
theorem hgt_le {I : fH} {s a lo : Nat} : ∀ {k h r : Nat}, hgt I s a lo k h = some r → r ≤ h + k := by
  intro k
  induction k with
  | zero => intro h r e; cases e; omega
  | succ k ih =>
    intro h r e
    obtain ⟨x, e1, e2⟩ := Option.bind_eq_some_iff.mp e
    have := ih e1
    unfold hst at e2
    split at e2
    · split at e2
      · split at e2
        · cases e2; omega
        · cases e2
      · split at e2
        · cases e2; omega
        · cases e2
    · split at e2
      · cases e2; omega
      · cases e2
theorem hgt_pre {I : fH} {s a lo : Nat} : ∀ {l k h r : Nat}, hgt I s a lo (k + l) h = some r → ∃ x, hgt I s a lo k h = some x := by
  intro l
  induction l with
  | zero => intro k h r e; exact ⟨r, e⟩
  | succ l ih =>
    intro k h r e
    obtain ⟨x, e1, -⟩ := Option.bind_eq_some_iff.mp (show (hgt I s a lo (k + l) h).bind (hst I s a (lo + (k + l))) = some r from e)
    exact ih e1
/-- what a step that goes on says of the pile -/
theorem hst_cases {I : fH} {s a k h r : Nat} (e : hst I s a k h = some r) : (I s (a + 2 * k) = 2 ∧ I s (a + 2 * k + 1) = 33 ∧ 1 ≤ h ∧ r = h) ∨ (I s (a + 2 * k) = 2 ∧ I s (a + 2 * k + 1) ≠ 33 ∧ 2 ≤ h ∧ r = h - 1) ∨ (I s (a + 2 * k) ≠ 2 ∧ (I s (a + 2 * k) = 0 ∨ (0 ≤ I s (a + 2 * k + 1) ∧ I s (a + 2 * k + 1) ≤ 127)) ∧ r = h + 1) := by
  unfold hst at e
  split at e
  · split at e
    · split at e
      · cases e; exact Or.inl ⟨‹_›, ‹_›, ‹_›, rfl⟩
      · cases e
    · split at e
      · cases e; exact Or.inr (Or.inl ⟨‹_›, ‹_›, ‹_›, rfl⟩)
      · cases e
  · split at e
    · cases e; exact Or.inr (Or.inr ⟨‹_›, ‹_›, rfl⟩)
    · cases e
theorem hst_leaf {I : fH} {s a k : Nat} (h1 : I s (a + 2 * k) = 0 ∨ (I s (a + 2 * k) ≠ 2 ∧ 0 ≤ I s (a + 2 * k + 1) ∧ I s (a + 2 * k + 1) ≤ 127)) (h : Nat) : hst I s a k h = some (h + 1) := by
  unfold hst
  rw [if_neg (by omega), if_pos (by omega)]
theorem hst_not {I : fH} {s a k : Nat} (h1 : I s (a + 2 * k) = 2) (h2 : I s (a + 2 * k + 1) = 33) {h : Nat} (h3 : 1 ≤ h) : hst I s a k h = some h := by
  unfold hst
  rw [if_pos h1, if_pos h2, if_pos h3]
theorem hst_two {I : fH} {s a k : Nat} (h1 : I s (a + 2 * k) = 2) (h2 : I s (a + 2 * k + 1) ≠ 33) {h : Nat} (h3 : 2 ≤ h) : hst I s a k h = some (h - 1) := by
  unfold hst
  rw [if_pos h1, if_neg h2, if_pos h3]
/-- a text that can be worked out -/
def sT (I : fH) (s t : Nat) : Prop := 0 ≤ I s (1214 + 200 * t) ∧ I s (1214 + 200 * t) ≤ 97 ∧ hgt I s (1215 + 200 * t) 0 (I s (1214 + 200 * t)).toNat 0 = some 1
def sI (I : fH) (s : Nat) : Prop := (∀ c : Nat, (c : Int) < I s 5 → 1 ≤ I s (30 + 20 * c)) ∧ (∀ l : Nat, (l : Int) < I s 6 → 1 ≤ I s (30 + 20 * (I s (430 + 4 * l)).toNat) ∧ 1 ≤ I s (30 + 20 * (I s (431 + 4 * l)).toNat)) ∧ (∀ k : Nat, (k : Int) < I s 10 → 2 ≤ I s (4330 + 3 * k)) ∧ ∀ t : Nat, (t : Int) < I s 9 → sT I s t
/-- the places that it speaks of -/
def relb (j : Nat) : Bool := decide ((j = 5 ∨ j = 6 ∨ j = 9 ∨ j = 10) ∨ (30 ≤ j ∧ j < 430 ∧ (j - 30) % 20 = 0) ∨ (430 ≤ j ∧ j < 526 ∧ (j - 430) % 4 ≤ 1) ∨ (4330 ≤ j ∧ j < 4348 ∧ (j - 4330) % 3 = 0) ∨ (1210 ≤ j ∧ j < 3610 ∧ 4 ≤ (j - 1210) % 200))
theorem relb_of {j : Nat} (h : (j = 5 ∨ j = 6 ∨ j = 9 ∨ j = 10) ∨ (30 ≤ j ∧ j < 430 ∧ (j - 30) % 20 = 0) ∨ (430 ≤ j ∧ j < 526 ∧ (j - 430) % 4 ≤ 1) ∨ (4330 ≤ j ∧ j < 4348 ∧ (j - 4330) % 3 = 0) ∨ (1210 ≤ j ∧ j < 3610 ∧ 4 ≤ (j - 1210) % 200)) : relb j = true := decide_eq_true h
/-- bounds that it needs -/
def sBd (I : fH) (s : Nat) : Prop := (I s 5 ≤ 20 ∧ I s 6 ≤ 24 ∧ I s 9 ≤ 12 ∧ I s 10 ≤ 6) ∧ ∀ l : Nat, l < 24 → I s (430 + 4 * l) ≤ 19 ∧ I s (431 + 4 * l) ≤ 19
theorem sI_congr {I I' : fH} {s s' : Nat} (b : sBd I s) (h : ∀ j, relb j = true → I' s' j = I s j) (q : sI I s) : sI I' s' := by
  obtain ⟨⟨b1, b2, b3, b4⟩, b5⟩ := b
  obtain ⟨q1, q2, q3, q4⟩ := q
  refine ⟨fun c hc => ?_, fun l hl => ?_, fun k hk => ?_, fun t ht => ?_⟩
  · rw [h 5 (relb_of (by omega))] at hc
    rw [h _ (relb_of (by omega))]
    exact q1 c hc
  · rw [h 6 (relb_of (by omega))] at hl
    have z := b5 l (by omega)
    rw [h (430 + 4 * l) (relb_of (by omega)), h (431 + 4 * l) (relb_of (by omega)), h _ (relb_of (by omega)), h _ (relb_of (by omega))]
    exact q2 l hl
  · rw [h 10 (relb_of (by omega))] at hk
    rw [h _ (relb_of (by omega))]
    exact q3 k hk
  · rw [h 9 (relb_of (by omega))] at ht
    obtain ⟨z1, z2, z3⟩ := q4 t ht
    have e := h (1214 + 200 * t) (relb_of (by omega))
    refine ⟨by rw [e]; exact z1, by rw [e]; exact z2, ?_⟩
    rw [e, hgt_congr (fun j h1 h2 => h j (relb_of (by omega)))]
    exact z3
def sZs : List Nat := [20005, 20006, 20009, 20010, 20100, 20200, 20201, 20604, 20605, 20800]
theorem sZs_ok : (List.range 4900).all (fun j => Bool.or (Bool.not (relb j)) (sZs.elem (znJ 741 j))) = true := by decide +kernel
theorem relb_lt {j : Nat} (h : relb j = true) : j < 4900 := by
  have h := of_decide_eq_true h
  omega
theorem sZs_of {j : Nat} (h : relb j = true) : znJ 741 j ∈ sZs := by
  have q := List.all_eq_true.mp sZs_ok j (List.mem_range.mpr (relb_lt h))
  simp only [h, Bool.not_true, Bool.false_or] at q
  exact List.elem_iff.mp q
theorem sBd_ok : (List.range 24).all (fun l => Bool.and (decide ((bsJ 741 (430 + 4 * l)).2 ≤ 19)) (decide ((bsJ 741 (431 + 4 * l)).2 ≤ 19))) = true := by decide +kernel
theorem sBd_ok2 : (List.range 24).all (fun l => Bool.and (decide ((bsJ 742 (430 + 4 * l)).2 ≤ 19)) (decide ((bsJ 742 (431 + 4 * l)).2 ≤ 19))) = true := by decide +kernel
theorem sBd_of {I : fH} (h : fB bsJ I) : sBd I 741 := by
  refine ⟨⟨Int.le_trans (h 741 5).2 (by decide +kernel), Int.le_trans (h 741 6).2 (by decide +kernel), Int.le_trans (h 741 9).2 (by decide +kernel), Int.le_trans (h 741 10).2 (by decide +kernel)⟩, fun l hl => ?_⟩
  obtain ⟨z1, z2⟩ := fand (List.all_eq_true.mp sBd_ok l (List.mem_range.mpr hl))
  exact ⟨Int.le_trans (h 741 _).2 (of_decide_eq_true z1), Int.le_trans (h 741 _).2 (of_decide_eq_true z2)⟩
theorem sBd_of2 {I : fH} (h : fB bsJ I) : sBd I 742 := by
  refine ⟨⟨Int.le_trans (h 742 5).2 (by decide +kernel), Int.le_trans (h 742 6).2 (by decide +kernel), Int.le_trans (h 742 9).2 (by decide +kernel), Int.le_trans (h 742 10).2 (by decide +kernel)⟩, fun l hl => ?_⟩
  obtain ⟨z1, z2⟩ := fand (List.all_eq_true.mp sBd_ok2 l (List.mem_range.mpr hl))
  exact ⟨Int.le_trans (h 742 _).2 (of_decide_eq_true z1), Int.le_trans (h 742 _).2 (of_decide_eq_true z2)⟩
theorem sKeep {W : List Nat} {I0 I : fH} (hB : fB (fbz bsJ znJ (fKc W) I0) I) (hz : sZs.all (fun z => Bool.not (W.elem z)) = true) {j : Nat} (h : relb j = true) : I 741 j = I0 741 j := fFr_of hB 741 j (by
  have q := List.all_eq_true.mp hz _ (sZs_of h)
  cases c : W.elem (znJ 741 j) with
  | false => rfl
  | true => rw [c] at q; cases q)
theorem sI_keep {W : List Nat} {I0 I : fH} (h : sI I0 741) (h0 : fB bsJ I0) (hB : fB (fbz bsJ znJ (fKc W) I0) I) (hz : sZs.all (fun z => Bool.not (W.elem z)) = true) : sI I 741 := sI_congr (sBd_of h0) (fun _ hj => sKeep hB hz hj) h
theorem sI_vol {W : List Nat} {I0 I : fH} (h : sI I0 741) (h0 : fB bsJ I0) (hB : fB (fbz bsJ znJ (fKc W) I0) I) (hz : sZs.all (fun z => Bool.not (W.elem z)) = true) {l : Nat} (hl : (l : Int) < I0 741 6) : 1 ≤ I 741 (30 + 20 * (I0 741 (430 + 4 * l)).toNat) ∧ 1 ≤ I 741 (30 + 20 * (I0 741 (431 + 4 * l)).toNat) := by
  have b := sBd_of h0
  have z := b.2 l (by have := b.1.2.1; omega)
  rw [sKeep hB hz (relb_of (by omega)), sKeep hB hz (relb_of (by omega))]
  exact h.2.1 l hl
theorem rep_bs : (List.range 720).all (fun j => Bool.and (decide (bsJ 741 (3610 + j) = bsJ 741 (3610 + j % 8))) ([20700, 20701, 20702, 20703, 20704, 20705, 20706, 20707].elem (znJ 741 (3610 + j)))) = true := by decide +kernel
theorem rep_st {I : fH} (h0 : fB bsJ I) {p q v : Int} (e : v = I 741 q.toNat) (hp : (3610 ≤ p ∧ p ≤ 4329) ∧ (3610 ≤ q ∧ q ≤ 4329)) (hm : (p - 3610) % 8 = (q - 3610) % 8) : fsh gJ 100 741 p ∧ znJ 741 p.toNat ∈ [20700, 20701, 20702, 20703, 20704, 20705, 20706, 20707] ∧ (bsJ 741 p.toNat).1 ≤ v ∧ v ≤ (bsJ 741 p.toNat).2 := by
  have hs : fsh gJ 100 741 p := (frL_at rL_741_741_0_4899_1_0 h0 (a := 741) (i := p) (by omega)).1
  obtain ⟨z1, z2⟩ := fand (List.all_eq_true.mp rep_bs (p.toNat - 3610) (List.mem_range.mpr (by omega)))
  obtain ⟨z3, z4⟩ := fand (List.all_eq_true.mp rep_bs (q.toNat - 3610) (List.mem_range.mpr (by omega)))
  have z1 := of_decide_eq_true z1
  have z3 := of_decide_eq_true z3
  rw [show 3610 + (p.toNat - 3610) = p.toNat by omega] at z1 z2
  rw [show 3610 + (q.toNat - 3610) = q.toNat by omega] at z3 z4
  rw [show (p.toNat - 3610) % 8 = (q.toNat - 3610) % 8 by omega, ← z3] at z1
  refine ⟨hs, List.elem_iff.mp z2, ?_⟩
  rw [z1, e]
  exact h0 741 q.toNat
theorem fze_ge {z0 b : Nat} : ∀ {l : List fZe}, l.all (fun q => Nat.ble b q.2.2) = true → ∀ j, fze z0 l j = z0 ∨ b ≤ fze z0 l j := by
  intro l
  induction l with
  | nil => intro _ j; exact Or.inl rfl
  | cons q l ih =>
    intro h j
    have h1 := Nat.le_of_ble_eq_true (List.all_eq_true.mp h q List.mem_cons_self)
    unfold fze
    split
    · exact Or.inr (by omega)
    · exact ih (List.all_eq_true.mpr (fun x hx => List.all_eq_true.mp h x (List.mem_cons_of_mem _ hx))) j
def zS741 : Nat × List fZe := match frg zvJ 741 with
  | some q => q
  | none => (741, [])
theorem zS741_ok : frg zvJ 741 = some zS741 ∧ zS741.1 = 741 ∧ zS741.2.all (fun q => Nat.ble 20000 q.2.2) = true := by decide +kernel
theorem zS_ge (j : Nat) : znJ 741 j = 741 ∨ 20000 ≤ znJ 741 j := by
  have e : znJ 741 j = fze zS741.1 zS741.2 j := by
    show fzt zvJ 741 j = _
    unfold fzt
    rw [zS741_ok.1]
  rw [e]
  have h := fze_ge (z0 := zS741.1) zS741_ok.2.2 j
  rw [zS741_ok.2.1] at h ⊢
  exact h
theorem sS_keep {W : List Nat} {I0 I : fH} (hB : fB (fbz bsJ znJ (fKc W) I0) I) (hz : W.all (fun z => Bool.and (Nat.blt z 20000) (Bool.not (Nat.beq z 741))) = true) (j : Nat) : I 741 j = I0 741 j := fFr_of hB 741 j (by
  cases c : W.elem (znJ 741 j) with
  | false => rfl
  | true =>
    obtain ⟨q1, q2⟩ := fand (List.all_eq_true.mp hz _ (List.elem_iff.mp c))
    rcases zS_ge j with h | h
    · rw [h] at q2; cases q2
    · have := xblt.mp q1
      omega)
theorem sM_keep {W : List Nat} {I0 I : fH} (hB : fB (fbz bsJ znJ (fKc W) I0) I) (hz : W.elem 742 = false) (j : Nat) : I 742 j = I0 742 j := fFr_of hB 742 j hz
theorem sA_keep {W : List Nat} {I0 I : fH} (hB : fB (fbz bsJ znJ (fKc W) I0) I) (hz : W.elem 743 = false) (j : Nat) : I 743 j = I0 743 j := fFr_of hB 743 j hz
/-- two lists of bounds, alike but for place 3 -/
def fb3 : List fBe → List fBe → Bool
  | [], [] => true
  | q :: l, p :: m => Bool.and (Bool.or (decide (q = p)) (Bool.and (decide (q.1 = (3, 3))) (decide (p.1 = (3, 3))))) (fb3 l m)
  | _, _ => false
theorem fb3_of {j : Nat} (hj : j ≠ 3) : ∀ {l m : List fBe}, fb3 l m = true → fbe l j = fbe m j := by
  intro l
  induction l with
  | nil => intro m h; cases m with
    | nil => rfl
    | cons _ _ => cases h
  | cons q l ih =>
    intro m h
    cases m with
    | nil => cases h
    | cons p m =>
      obtain ⟨h1, h2⟩ := fand h
      have ih := ih h2
      by_cases e : q = p
      · subst e
        unfold fbe
        rw [ih]
      · have h3 : q.1 = (3, 3) ∧ p.1 = (3, 3) := by
          have z : Bool.and (decide (q.1 = (3, 3))) (decide (p.1 = (3, 3))) = true := by
            cases c : decide (q = p) with
            | true => exact absurd (of_decide_eq_true c) e
            | false => rw [c] at h1; exact h1
          obtain ⟨z1, z2⟩ := fand z
          exact ⟨of_decide_eq_true z1, of_decide_eq_true z2⟩
        have f3 : ∀ (x : fBe) (r : List fBe), x.1 = (3, 3) → fbe (x :: r) j = fbe r j := by
          intro x r hx
          have c : Bool.and (Bool.and (Nat.ble x.1.1 j) (Nat.ble j x.1.2)) (Nat.ble ((j - x.1.1) % x.2.1.1) x.2.1.2) = false := by
            refine xnf (fun c => ?_)
            obtain ⟨c1, -⟩ := fand c
            obtain ⟨c2, c3⟩ := fand c1
            rw [hx] at c2 c3
            have c2 : 3 ≤ j := Nat.le_of_ble_eq_true c2
            have c3 : j ≤ 3 := Nat.le_of_ble_eq_true c3
            omega
          show (match Bool.and (Bool.and (Nat.ble x.1.1 j) (Nat.ble j x.1.2)) (Nat.ble ((j - x.1.1) % x.2.1.1) x.2.1.2) with
            | true => x.2.2
            | false => fbe r j) = fbe r j
          rw [c]
        rw [f3 q l h3.1, f3 p m h3.2, ih]
def bl741 : List fBe := match frg btJ 741 with
  | some q => q
  | none => []
def bl742 : List fBe := match frg btJ 742 with
  | some q => q
  | none => []
theorem bl74_3 : fb3 bl741 bl742 = true := by decide +kernel
theorem bl74_4 : bsJ 741 3 = (2, 9999) := by decide +kernel
theorem bl74_5 : bsJ 742 3 = (0, 9999) := by decide +kernel
theorem bl74_ok : frg btJ 741 = some bl741 ∧ frg btJ 742 = some bl742 ∧ fb3 bl741 bl742 = true ∧ bsJ 741 3 = (2, 9999) ∧ bsJ 742 3 = (0, 9999) := ⟨rfl, rfl, bl74_3, bl74_4, bl74_5⟩
theorem img_bs {j : Nat} (hj : j ≠ 3) : bsJ 741 j = bsJ 742 j := by
  show fbt btJ 741 j = fbt btJ 742 j
  unfold fbt
  rw [bl74_ok.1, bl74_ok.2.1]
  exact fb3_of hj bl74_ok.2.2.1
theorem img_sh {I : fH} (h0 : fB bsJ I) {p : Int} (hp : 0 ≤ p ∧ p ≤ 4899) : fsh gJ 100 742 p := fcel_of (i1 := 4899) (by decide +kernel) (by decide +kernel) hp.1 hp.2
theorem asd_sh {I : fH} (h0 : fB bsJ I) {p : Int} (hp : 0 ≤ p ∧ p ≤ 4899) : fsh gJ 100 743 p := fcel_of (i1 := 4899) (by decide +kernel) (by decide +kernel) hp.1 hp.2
theorem img_st {I : fH} (h0 : fB bsJ I) {p v : Int} (e : v = I 741 p.toNat) (hp : 0 ≤ p ∧ p ≤ 4899) : fsh gJ 100 742 p ∧ znJ 742 p.toNat ∈ [742] ∧ (bsJ 742 p.toNat).1 ≤ v ∧ v ≤ (bsJ 742 p.toNat).2 := by
  refine ⟨img_sh h0 hp, List.mem_cons_self, ?_⟩
  have q := h0 741 p.toNat
  rw [← e] at q
  by_cases h3 : p.toNat = 3
  · rw [h3] at q ⊢
    rw [bl74_ok.2.2.2.1] at q
    rw [bl74_ok.2.2.2.2]
    simp only [] at q ⊢
    omega
  · rw [← img_bs h3]
    exact q
def zSall : List Nat := [20605, 20840, 20500, 20830, 20834, 20700, 20701, 20702, 20703, 20704, 20705, 20706, 20707, 20850, 20832, 20200, 20201, 20202, 20203, 20300, 20301, 20302, 20303, 20304, 20305, 20306, 20307, 20308, 20309, 20310, 20311, 20312, 20313, 20400, 20401, 20402, 20403, 20404, 20405, 20100, 20101, 20102, 20103, 20104, 20105, 20106, 20107, 20108, 20109, 20110, 20111, 20112, 20113, 20114, 20115, 20116, 20117, 20118, 20119, 20600, 20601, 20602, 20603, 20604, 20810, 20811, 20831, 20820, 20821, 20822, 20800, 20801, 20802, 20833, 20000, 20001, 20002, 20003, 20004, 20005, 20006, 20007, 20008, 20009, 20010, 20011, 20012, 20013, 20014, 20015, 20016, 20017, 20018, 20019, 20020, 20021, 20022, 20023, 20024, 20025, 20026, 20027, 20028, 20029]
theorem zSall_ok : (List.range 4900).all (fun j => zSall.elem (znJ 741 j)) = true := by decide +kernel
theorem img_bk {I : fH} (h0 : fB bsJ I) {p v : Int} (e : v = I 742 p.toNat) (hp : 0 ≤ p ∧ p ≤ 4899) (h3 : 2 ≤ I 742 3) : fsh gJ 100 741 p ∧ znJ 741 p.toNat ∈ zSall ∧ (bsJ 741 p.toNat).1 ≤ v ∧ v ≤ (bsJ 741 p.toNat).2 := by
  refine ⟨(frL_at rL_741_741_0_4899_1_0 h0 (a := 741) (i := p) (by omega)).1, List.elem_iff.mp (List.all_eq_true.mp zSall_ok p.toNat (List.mem_range.mpr (by omega))), ?_⟩
  have q := h0 742 p.toNat
  rw [← e] at q
  by_cases c3 : p.toNat = 3
  · rw [c3] at q e ⊢
    rw [bl74_ok.2.2.2.2] at q
    rw [bl74_ok.2.2.2.1]
    simp only [] at q ⊢
    omega
  · rw [img_bs c3]
    exact q
theorem asd_st {I : fH} (h0 : fB bsJ I) {p v : Int} (e : v = I 741 p.toNat) (hp : 0 ≤ p ∧ p ≤ 4899) : fsh gJ 100 743 p ∧ znJ 743 p.toNat ∈ [743] ∧ (bsJ 743 p.toNat).1 ≤ v ∧ v ≤ (bsJ 743 p.toNat).2 := by
  have q := (frL_at rL_741_741_0_4899_1_0 h0 (a := 741) (i := p) (by omega)).2
  refine ⟨asd_sh h0 hp, List.mem_cons_self, ?_⟩
  show -2147483648 ≤ v ∧ v ≤ 2147483647
  omega
theorem asd_bk {I0 I : fH} (h00 : fB bsJ I0) (h0 : fB bsJ I) {p v : Int} (e : v = I 743 p.toNat) (ea : I 743 p.toNat = I0 741 p.toNat) (hp : 0 ≤ p ∧ p ≤ 4899) : fsh gJ 100 741 p ∧ znJ 741 p.toNat ∈ zSall ∧ (bsJ 741 p.toNat).1 ≤ v ∧ v ≤ (bsJ 741 p.toNat).2 := by
  refine ⟨(frL_at rL_741_741_0_4899_1_0 h0 (a := 741) (i := p) (by omega)).1, List.elem_iff.mp (List.all_eq_true.mp zSall_ok p.toNat (List.mem_range.mpr (by omega))), ?_⟩
  rw [e, ea]
  exact h00 741 p.toNat

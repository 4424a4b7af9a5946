set_option linter.all false
/-! rounds of patches: what lack and sewn say -/
/-- what WORN is more by in the first n HOURS -/
def rnS (W : Nat → Int) : Nat → Int
  | 0 => 0
  | n + 1 => rnS W n + 6 * W n / 10
theorem rnS_mono {W : Nat → Int} (hW : ∀ j : Nat, 0 ≤ W j) {a : Nat} : ∀ {b : Nat}, a ≤ b → rnS W a ≤ rnS W b
  | 0, h => by
    have e : a = 0 := by omega
    rw [e]
    exact Int.le_refl _
  | b + 1, h => by
    by_cases c : a = b + 1
    · rw [c]
      exact Int.le_refl _
    · have q := rnS_mono hW (a := a) (b := b) (by omega)
      have w := hW b
      show rnS W a ≤ rnS W b + 6 * W b / 10
      omega
/-- enough behind hour h, if nobody sews from hour a on -/
def rnG (W : Nat → Int) (L o : Int) (a : Nat) (lo : Int) (h : Nat) : Prop := lo ≤ L - (o + rnS W (h + 1) - rnS W a) / 100
noncomputable def rnq (W : Nat → Int) (L o : Int) (a : Nat) (lo : Int) : Nat → Nat → Int
  | h, 0 => (h : Int)
  | h, k + 1 => cI (rnG W L o a lo h) (rnq W L o a lo (h + 1) k) (h : Int)
theorem rnq_of {W : Nat → Int} {L o lo : Int} {a : Nat} {z : Int} : ∀ {k h : Nat}, (h : Int) ≤ z → z ≤ (h : Int) + (k : Int) → (∀ g : Nat, h ≤ g → (g : Int) < z → rnG W L o a lo g) → (z < (h : Int) + (k : Int) → ¬ rnG W L o a lo z.toNat) → z = rnq W L o a lo h k
  | 0, h, h1, h2, _, _ => by
    show z = (h : Int)
    omega
  | k + 1, h, h1, h2, hG, hN => by
    show z = cI (rnG W L o a lo h) (rnq W L o a lo (h + 1) k) (h : Int)
    by_cases c : rnG W L o a lo h
    · rw [cI_pos c]
      refine rnq_of (k := k) (h := h + 1) ?_ (by omega) (fun g q => hG g (by omega)) (fun q => hN (by omega))
      by_cases e : z = (h : Int)
      · exact absurd c (by
          have w := hN (by omega)
          rw [show z.toNat = h by omega] at w
          exact w)
      · omega
    · rw [cI_neg c]
      by_cases e : z = (h : Int)
      · exact e
      · exact absurd (hG h (Nat.le_refl h) (by omega)) c
/-- the HOUR behind which a skin has too few LAYERS; n if none -/
noncomputable def rnf (W : Nat → Int) (L o : Int) (a : Nat) (lo : Int) (n : Nat) : Int := rnq W L o a lo a (n - a)
theorem rnf_of {W : Nat → Int} {L o lo z : Int} {a n : Nat} (han : a ≤ n) (h1 : (a : Int) ≤ z) (h2 : z ≤ (n : Int)) (hG : ∀ g : Nat, a ≤ g → (g : Int) < z → rnG W L o a lo g) (hN : z < (n : Int) → ¬ rnG W L o a lo z.toNat) : z = rnf W L o a lo n := rnq_of h1 (by omega) hG (fun q => hN (by omega))
/-- what one hour more does: layers and worn, hour by hour, are the sum -/
theorem rn_step {L o s c : Int} (hs : 0 ≤ o + s) (hc : 0 ≤ c) : L - (o + s) / 100 - ((o + s) % 100 + c) / 100 = L - (o + (s + c)) / 100 ∧ ((o + s) % 100 + c) % 100 = (o + (s + c)) % 100 := by
  omega
/-- the skin that the next FITTER sews (-1: none), and its hour -/
noncomputable def rnN (sk : Nat → Prop) (W : Nat → Int) (ly wo : Nat → Int) (a : Nat) (lo : Int) (n : Nat) : Nat → Int × Int
  | 0 => (-1, (n : Int))
  | w + 1 => cI ((sk w ∧ ly w < 9) ∧ rnf W (ly w) (wo w) a lo n < (rnN sk W ly wo a lo n w).2) ((w : Int), rnf W (ly w) (wo w) a lo n) (rnN sk W ly wo a lo n w)
theorem rnN_cg {sk : Nat → Prop} {W ly wo ly' wo' : Nat → Int} {a n : Nat} {lo : Int} : ∀ {m : Nat}, (∀ j : Nat, j < m → ly' j = ly j) → (∀ j : Nat, j < m → wo' j = wo j) → rnN sk W ly' wo' a lo n m = rnN sk W ly wo a lo n m
  | 0, _, _ => rfl
  | w + 1, h1, h2 => by
    show cI ((sk w ∧ ly' w < 9) ∧ rnf W (ly' w) (wo' w) a lo n < (rnN sk W ly' wo' a lo n w).2) ((w : Int), rnf W (ly' w) (wo' w) a lo n) (rnN sk W ly' wo' a lo n w) = _
    rw [h1 w (by omega), h2 w (by omega), rnN_cg (m := w) (fun j hj => h1 j (by omega)) (fun j hj => h2 j (by omega))]
    rfl
theorem rnN_le {sk : Nat → Prop} {W ly wo : Nat → Int} {a n : Nat} {lo : Int} : ∀ {m : Nat}, (rnN sk W ly wo a lo n m).2 ≤ (n : Int)
  | 0 => Int.le_refl _
  | w + 1 => by
    have q := rnN_le (sk := sk) (W := W) (ly := ly) (wo := wo) (a := a) (n := n) (lo := lo) (m := w)
    show (cI _ _ _ : Int × Int).2 ≤ (n : Int)
    by_cases c : (sk w ∧ ly w < 9) ∧ rnf W (ly w) (wo w) a lo n < (rnN sk W ly wo a lo n w).2
    · rw [cI_pos c]
      exact Int.le_trans (Int.le_of_lt c.2) q
    · rw [cI_neg c]
      exact q
theorem rnN_y {sk : Nat → Prop} {W ly wo : Nat → Int} {a n w : Nat} {lo b f b' f' : Int} (h : (b, f) = rnN sk W ly wo a lo n w) (hs : sk w) (h9 : ly w < 9) (hf : rnf W (ly w) (wo w) a lo n < f) (eb : b' = (w : Int)) (ef : f' = rnf W (ly w) (wo w) a lo n) : (b', f') = rnN sk W ly wo a lo n (w + 1) := by
  show (b', f') = cI _ _ _
  rw [cI_pos ⟨⟨hs, h9⟩, by rw [← h]; exact hf⟩, eb, ef]
theorem rnN_n {sk : Nat → Prop} {W ly wo : Nat → Int} {a n w : Nat} {lo b f : Int} (h : (b, f) = rnN sk W ly wo a lo n w) (hn : ¬ ((sk w ∧ ly w < 9) ∧ rnf W (ly w) (wo w) a lo n < f)) : (b, f) = rnN sk W ly wo a lo n (w + 1) := by
  show (b, f) = cI _ _ _
  rw [cI_neg (by rw [← h]; exact hn)]
  exact h
/-- one layer more on b -/
def rnU (L : Nat → Int) (b : Int) : Nat → Int := fun j => if (j : Int) = b then L j + 1 else L j
/-- the layers when f have sewn -/
noncomputable def rnP (sk : Nat → Prop) (W : Nat → Int) (wo : Nat → Int) (a : Nat) (lo : Int) (n m : Nat) (ly : Nat → Int) : Nat → Nat → Int
  | 0 => ly
  | f + 1 => rnU (rnP sk W wo a lo n m ly f) (rnN sk W (rnP sk W wo a lo n m ly f) wo a lo n m).1
/-- how many of them sewed to one work -/
noncomputable def rnK (sk : Nat → Prop) (W : Nat → Int) (wo : Nat → Int) (a : Nat) (lo : Int) (n m : Nat) (ly : Nat → Int) (work : Int) : Nat → Int
  | 0 => 0
  | f + 1 => rnK sk W wo a lo n m ly work f + (if (rnN sk W (rnP sk W wo a lo n m ly f) wo a lo n m).1 = work then 1 else 0)
theorem rnK_bd {sk : Nat → Prop} {W wo ly : Nat → Int} {a n m : Nat} {lo work : Int} : ∀ {f : Nat}, 0 ≤ rnK sk W wo a lo n m ly work f ∧ rnK sk W wo a lo n m ly work f ≤ (f : Int)
  | 0 => ⟨Int.le_refl _, Int.le_refl _⟩
  | f + 1 => by
    have q := rnK_bd (sk := sk) (W := W) (wo := wo) (ly := ly) (a := a) (n := n) (m := m) (lo := lo) (work := work) (f := f)
    show 0 ≤ rnK sk W wo a lo n m ly work f + (if (rnN sk W (rnP sk W wo a lo n m ly f) wo a lo n m).1 = work then 1 else 0) ∧ rnK sk W wo a lo n m ly work f + (if (rnN sk W (rnP sk W wo a lo n m ly f) wo a lo n m).1 = work then 1 else 0) ≤ ((f + 1 : Nat) : Int)
    split <;> omega
/-- an hour wears -/
noncomputable def rnL (sk : Nat → Prop) (A : Int) (L o : Nat → Int) : Nat → Int := fun j => cI (sk j) (L j - (o j + A) / 100) (L j)
noncomputable def rnO (sk : Nat → Prop) (A : Int) (o : Nat → Int) : Nat → Int := fun j => cI (sk j) ((o j + A) % 100) (o j)
/-- layers and worn behind h hours -/
noncomputable def rnH (sk : Nat → Prop) (W : Nat → Int) (lo : Int) (n m f : Nat) (l0 o0 : Nat → Int) : Nat → (Nat → Int) × (Nat → Int)
  | 0 => (l0, o0)
  | h + 1 => (rnL sk (6 * W h / 10) (rnP sk W (rnH sk W lo n m f l0 o0 h).2 h lo n m (rnH sk W lo n m f l0 o0 h).1 f) (rnH sk W lo n m f l0 o0 h).2, rnO sk (6 * W h / 10) (rnH sk W lo n m f l0 o0 h).2)
/-- is one of the first w skins below -/
def rnY (sk : Nat → Prop) (L : Nat → Int) (lo : Int) (w : Nat) : Prop := ∃ j : Nat, j < w ∧ sk j ∧ L j < lo
/-- the first hour of lack; -1 -/
noncomputable def rnX (sk : Nat → Prop) (W : Nat → Int) (lo : Int) (n m f : Nat) (l0 o0 : Nat → Int) : Nat → Int
  | 0 => -1
  | h + 1 => cI (rnX sk W lo n m f l0 o0 h < 0 ∧ rnY sk (rnH sk W lo n m f l0 o0 (h + 1)).1 lo m) (h : Int) (rnX sk W lo n m f l0 o0 h)
theorem rnY_no {sk : Nat → Prop} {L : Nat → Int} {lo : Int} {w : Nat} (h : ¬ rnY sk L lo w) (hw : ¬ (sk w ∧ L w < lo)) : ¬ rnY sk L lo (w + 1) := fun ⟨j, q1, q2, q3⟩ => by
  by_cases e : j = w
  · rw [e] at q2 q3
    exact hw ⟨q2, q3⟩
  · exact h ⟨j, by omega, q2, q3⟩
theorem rnY_up {sk : Nat → Prop} {L : Nat → Int} {lo : Int} {w : Nat} (h : rnY sk L lo w) : rnY sk L lo (w + 1) := h.elim fun j q => ⟨j, by omega, q.2.1, q.2.2⟩
theorem rnY_at {sk : Nat → Prop} {L : Nat → Int} {lo : Int} {w : Nat} (q2 : sk w) (q3 : L w < lo) : rnY sk L lo (w + 1) := ⟨w, by omega, q2, q3⟩
theorem rnY_0 {sk : Nat → Prop} {L : Nat → Int} {lo : Int} : ¬ rnY sk L lo 0 := fun ⟨j, q, _⟩ => absurd q (by omega)
theorem rnY_cg {sk : Nat → Prop} {L L' : Nat → Int} {lo : Int} {w : Nat} (e : ∀ j : Nat, j < w → L' j = L j) : rnY sk L' lo w ↔ rnY sk L lo w := ⟨fun ⟨j, q1, q2, q3⟩ => ⟨j, q1, q2, by rw [← e j q1]; exact q3⟩, fun ⟨j, q1, q2, q3⟩ => ⟨j, q1, q2, by rw [e j q1]; exact q3⟩⟩
theorem rnP_cg {sk : Nat → Prop} {W wo wo' ly ly' : Nat → Int} {a n m : Nat} {lo : Int} (h1 : ∀ j : Nat, j < m → ly' j = ly j) (h2 : ∀ j : Nat, j < m → wo' j = wo j) : ∀ {f : Nat} (j : Nat), j < m → rnP sk W wo' a lo n m ly' f j = rnP sk W wo a lo n m ly f j
  | 0, j, hj => h1 j hj
  | f + 1, j, hj => by
    have q := fun (i : Nat) (hi : i < m) => rnP_cg (sk := sk) (W := W) (a := a) (n := n) (lo := lo) h1 h2 (f := f) i hi
    show rnU _ _ j = rnU _ _ j
    unfold rnU
    rw [rnN_cg q h2, q j hj]
/-- the search of the reference, hour by hour -/
def rnI (W : Nat → Int) (L o : Int) (a : Nat) (lo : Int) (y : Nat) (l w : Int) : Prop := (0 ≤ rnS W y - rnS W a ∧ rnS W y - rnS W a ≤ 600 * ((y : Int) - (a : Int))) ∧ l = L - (o + (rnS W y - rnS W a)) / 100 ∧ w = (o + (rnS W y - rnS W a)) % 100 ∧ ∀ g : Nat, a ≤ g → g < y → rnG W L o a lo g
theorem rnI_0 {W : Nat → Int} {L o lo l w : Int} {a y : Nat} (ho : 0 ≤ o ∧ o ≤ 99) (e : y = a) (hl : l = L) (hw : w = o) : rnI W L o a lo y l w := by
  rw [e]
  exact ⟨by omega, by omega, by omega, fun g q1 q2 => absurd q1 (by omega)⟩
theorem rnI_bd {W : Nat → Int} {L o lo l w : Int} {a y : Nat} (h : rnI W L o a lo y l w) (ho : 0 ≤ o ∧ o ≤ 99) (hy : (y : Int) - (a : Int) ≤ 48) : (L - 300 ≤ l ∧ l ≤ L) ∧ (0 ≤ w ∧ w ≤ 99) := by
  obtain ⟨h1, h2, h3, -⟩ := h
  omega
theorem rnI_G {W : Nat → Int} {L o lo l w l' : Int} {a y : Nat} (h : rnI W L o a lo y l w) (ho : 0 ≤ o ∧ o ≤ 99) (c : 0 ≤ W y ∧ W y ≤ 999) (hl : l' = l - (w + 6 * W y / 10) / 100) : rnG W L o a lo y ↔ lo ≤ l' := by
  obtain ⟨h1, h2, h3, -⟩ := h
  have q := (rn_step (L := L) (o := o) (s := rnS W y - rnS W a) (c := 6 * W y / 10) (by omega) (by omega)).1
  have e : l' = L - (o + rnS W (y + 1) - rnS W a) / 100 := by
    rw [hl, h2, h3, q]
    show _ = L - (o + (rnS W y + 6 * W y / 10) - rnS W a) / 100
    rw [show o + (rnS W y - rnS W a + 6 * W y / 10) = o + (rnS W y + 6 * W y / 10) - rnS W a by omega]
  unfold rnG
  rw [← e]
theorem rnI_s {W : Nat → Int} {L o lo l w l' w' : Int} {a y y' : Nat} (h : rnI W L o a lo y l w) (ho : 0 ≤ o ∧ o ≤ 99) (c : 0 ≤ W y ∧ W y ≤ 999) (hl : l' = l - (w + 6 * W y / 10) / 100) (hw : w' = (w + 6 * W y / 10) % 100) (hlo : lo ≤ l') (e : y' = y + 1) : rnI W L o a lo y' l' w' := by
  have g0 := (rnI_G h ho c hl).mpr hlo
  obtain ⟨h1, h2, h3, h4⟩ := h
  have q := rn_step (L := L) (o := o) (s := rnS W y - rnS W a) (c := 6 * W y / 10) (by omega) (by omega)
  have f : rnS W (y + 1) - rnS W a = rnS W y - rnS W a + 6 * W y / 10 := by
    show rnS W y + 6 * W y / 10 - rnS W a = _
    omega
  rw [e]
  refine ⟨by rw [f]; omega, by rw [f, hl, h2, h3, q.1], by rw [f, hw, h3, q.2], fun g q1 q2 => ?_⟩
  by_cases r : g = y
  · rw [r]
    exact g0
  · exact h4 g q1 (by omega)
theorem rnI_end {W : Nat → Int} {L o lo l w z : Int} {a y n : Nat} (h : rnI W L o a lo y l w) (han : a ≤ n) (e : y = n) (hz : z = (n : Int)) : z = rnf W L o a lo n := rnf_of han (by omega) (by omega) (fun g q1 q2 => h.2.2.2 g q1 (by omega)) (fun q => absurd q (by omega))
theorem rnI_stop {W : Nat → Int} {L o lo l w l' z : Int} {a y n : Nat} (h : rnI W L o a lo y l w) (ho : 0 ≤ o ∧ o ≤ 99) (c : 0 ≤ W y ∧ W y ≤ 999) (hl : l' = l - (w + 6 * W y / 10) / 100) (hlo : l' < lo) (ha : a ≤ y) (hn : y < n) (hz : z = (y : Int)) : z = rnf W L o a lo n := rnf_of (by omega) (by omega) (by omega) (fun g q1 q2 => h.2.2.2 g q1 (by omega)) (fun q => by rw [show z.toNat = y by omega]; exact fun g0 => absurd ((rnI_G h ho c hl).mp g0) (by omega))
/-- the sums that the class keeps -/
def rnA (W A : Nat → Int) (n : Int) : Prop := ∀ h : Nat, (h : Int) ≤ n → A h = rnS W h ∧ 0 ≤ rnS W h ∧ rnS W h ≤ 600 * (h : Int) ∧ ∀ g : Nat, g ≤ h → rnS W g ≤ rnS W h
theorem rnA_0 {W A : Nat → Int} (e : A 0 = 0) : rnA W A 0 := fun h q => by
  have e0 : h = 0 := by omega
  rw [e0, e]
  refine ⟨rfl, Int.le_refl _, by show (0 : Int) ≤ _; omega, fun g q2 => ?_⟩
  rw [show g = 0 by omega]
  exact Int.le_refl _
theorem rnA_s {W A A' : Nat → Int} {y y' : Int} (h : rnA W A y) (hy : 0 ≤ y) (c : 0 ≤ W y.toNat ∧ W y.toNat ≤ 999) (ek : ∀ j : Nat, (j : Int) ≤ y → A' j = A j) (es : A' (y.toNat + 1) = A y.toNat + 6 * W y.toNat / 10) (e : y' = y + 1) : rnA W A' y' := fun j q => by
  have hb := h y.toNat (by omega)
  have s : rnS W (y.toNat + 1) = rnS W y.toNat + 6 * W y.toNat / 10 := rfl
  by_cases r : (j : Int) ≤ y
  · rw [ek j r]
    exact h j r
  · have ej : j = y.toNat + 1 := by omega
    rw [ej, es, hb.1, ← s]
    refine ⟨rfl, by omega, by omega, fun g q2 => ?_⟩
    by_cases r2 : g = y.toNat + 1
    · rw [r2]
      exact Int.le_refl _
    · have w := hb.2.2.2 g (by omega)
      omega
/-- the search of the class -/
theorem rnA_G {W A : Nat → Int} {n L o lo b c : Int} {a y : Nat} (hb : b = A (y + 1)) (hc : c = A a) (h : rnA W A n) (hy : (y : Int) + 1 ≤ n) (ha : a ≤ y) (ho : 0 ≤ o) {d : Int} (hd : d = L - (o + b - c) / 100) : (rnG W L o a lo y ↔ lo ≤ d) ∧ 0 ≤ o + b - c := by
  have h1 := h (y + 1) (by omega)
  have h2 := h a (by omega)
  have h3 := h1.2.2.2 a (by omega)
  refine ⟨?_, by rw [hb, hc, h1.1, h2.1]; omega⟩
  unfold rnG
  rw [hd, hb, hc, h1.1, h2.1]
/-- FITTERS who can work -/
noncomputable def sFi (r : Rw) (i : Nat) : Int := cI (gt r (871 + 6 * (i : Int)) = 1 ∧ gt r (873 + 6 * (i : Int)) ≤ 50) 1 0
theorem sFi_y {r : Rw} {p p2 w x y v : Int} {i : Nat} (hw : w = (i : Int)) (hx : x = gt r p) (hp : p = 871 + 6 * w) (hc : x = 1) (hy : y = gt r p2) (hp2 : p2 = 873 + 6 * w) (h5 : y ≤ 50) (hv : v = 1) : v = sFi r i := by
  have e1 : gt r (871 + 6 * (i : Int)) = 1 := by rw [← hw, ← hp, ← hx]; exact hc
  have e2 : gt r (873 + 6 * (i : Int)) ≤ 50 := by rw [← hw, ← hp2, ← hy]; exact h5
  rw [hv]
  exact (cI_pos ⟨e1, e2⟩).symm
theorem sFi_n {r : Rw} {p w x v : Int} {i : Nat} (hw : w = (i : Int)) (hx : x = gt r p) (hp : p = 871 + 6 * w) (hc : x ≠ 1) (hv : v = 0) : v = sFi r i := by
  have e1 : ¬ gt r (871 + 6 * (i : Int)) = 1 := by rw [← hw, ← hp, ← hx]; exact hc
  rw [hv]
  exact (cI_neg (fun q => e1 q.1)).symm
theorem sFi_s {r : Rw} {p2 w y v : Int} {i : Nat} (hw : w = (i : Int)) (hy : y = gt r p2) (hp2 : p2 = 873 + 6 * w) (h5 : 50 < y) (hv : v = 0) : v = sFi r i := by
  have e2 : ¬ gt r (873 + 6 * (i : Int)) ≤ 50 := by rw [← hw, ← hp2, ← hy]; omega
  rw [hv]
  exact (cI_neg (fun q => e2 q.2)).symm
/-- is it a skin that is there -/
def skW (r : Rw) (w : Nat) : Prop := gt r (530 + 14 * (w : Int)) = 1 ∧ gt r (538 + 14 * (w : Int)) = 0
/-- what the class keeps for each work -/
noncomputable def rnw (sk : Nat → Prop) (W : Nat → Int) (ly wo : Nat → Int) (a : Nat) (lo : Int) (n : Nat) (w : Nat) : Int := cI (sk w) (rnf W (ly w) (wo w) a lo n) (n : Int)
theorem rnw_y {sk : Nat → Prop} {W ly wo : Nat → Int} {a n w : Nat} {lo v : Int} (h : sk w) (hv : v = rnf W (ly w) (wo w) a lo n) : v = rnw sk W ly wo a lo n w := hv.trans (cI_pos h).symm
theorem rnw_n {sk : Nat → Prop} {W ly wo : Nat → Int} {a n w : Nat} {lo v : Int} (h : ¬ sk w) (hv : v = (n : Int)) : v = rnw sk W ly wo a lo n w := hv.trans (cI_neg h).symm
theorem rnw_cg {sk : Nat → Prop} {W ly wo ly' wo' : Nat → Int} {a n w : Nat} {lo : Int} (h1 : ly' w = ly w) (h2 : wo' w = wo w) : rnw sk W ly' wo' a lo n w = rnw sk W ly wo a lo n w := by
  unfold rnw
  rw [h1, h2]
theorem rnw_pick {sk : Nat → Prop} {W ly wo : Nat → Int} {a n w : Nat} {lo b f b' f' v : Int} (h : (b, f) = rnN sk W ly wo a lo n w) (e : v = rnw sk W ly wo a lo n w) (hv : v < f) (h9 : ly w < 9) (eb : b' = (w : Int)) (ef : f' = v) : (b', f') = rnN sk W ly wo a lo n (w + 1) := by
  by_cases c : sk w
  · have q : rnw sk W ly wo a lo n w = rnf W (ly w) (wo w) a lo n := cI_pos c
    exact rnN_y h c h9 (by rw [← q, ← e]; exact hv) eb (by rw [ef, e, q])
  · have q : rnw sk W ly wo a lo n w = (n : Int) := cI_neg c
    have l := rnN_le (sk := sk) (W := W) (ly := ly) (wo := wo) (a := a) (n := n) (lo := lo) (m := w)
    rw [← h] at l
    exact absurd hv (by rw [e, q]; exact Int.not_lt.mpr l)
theorem rnw_pass {sk : Nat → Prop} {W ly wo : Nat → Int} {a n w : Nat} {lo b f v : Int} (h : (b, f) = rnN sk W ly wo a lo n w) (e : v = rnw sk W ly wo a lo n w) (hn : ¬ (v < f ∧ ly w < 9)) : (b, f) = rnN sk W ly wo a lo n (w + 1) :=
  rnN_n h (fun q => hn ⟨by
    have q2 : rnw sk W ly wo a lo n w = rnf W (ly w) (wo w) a lo n := cI_pos q.1.1
    rw [e, q2]
    exact q.2, q.1.2⟩)
theorem rnN_at {sk : Nat → Prop} {W ly wo : Nat → Int} {a n m w' : Nat} {lo b f : Int} (h : (b, f) = rnN sk W ly wo a lo n w') (e : w' = m) : b = (rnN sk W ly wo a lo n m).1 := by
  rw [← e, ← h]
/-- bounds -/
def rnB (c : Nat) (ly wo : Nat → Int) (u v : Int) : Prop := ∀ j : Nat, j < c → (0 ≤ wo j ∧ wo j ≤ 99) ∧ (-u ≤ ly j ∧ ly j ≤ v)
theorem rnB_w {ly wo : Nat → Int} {u v u' v' : Int} {c : Nat} (h : rnB c ly wo u v) (hu : u ≤ u') (hv : v ≤ v') : rnB c ly wo u' v' := fun j hj => by
  have q := h j hj
  omega
theorem rnB_cg {ly wo ly' wo' : Nat → Int} {u v : Int} {c : Nat} (h : rnB c ly wo u v) (e1 : ∀ j : Nat, j < c → ly' j = ly j) (e2 : ∀ j : Nat, j < c → wo' j = wo j) : rnB c ly' wo' u v := fun j hj => by
  rw [e1 j hj, e2 j hj]
  exact h j hj
theorem rnB_U {ly wo : Nat → Int} {u v v' b : Int} {c : Nat} (h : rnB c ly wo u v) (e : v' = v + 1) : rnB c (rnU ly b) wo u v' := fun j hj => by
  have q := h j hj
  refine ⟨q.1, ?_⟩
  unfold rnU
  split <;> omega
theorem rnB_L {sk : Nat → Prop} {ly wo : Nat → Int} {u v u' A : Int} {c : Nat} (h : rnB c ly wo u v) (hA : 0 ≤ A ∧ A ≤ 600) (e : u' = u + 7) : rnB c (rnL sk A ly wo) (rnO sk A wo) u' v := fun j hj => by
  have q := h j hj
  unfold rnL rnO
  by_cases d : sk j
  · rw [cI_pos d, cI_pos d]
    omega
  · rw [cI_neg d, cI_neg d]
    omega
theorem rnU_no {L : Nat → Int} {b : Int} (h : b < 0) (j : Nat) : rnU L b j = L j := if_neg (by omega)
theorem rnU_put {L L' : Nat → Int} {b v : Int} (hb : 0 ≤ b) (h : ∀ j : Nat, j ≠ b.toNat → L' j = L j) (e : L' b.toNat = v) (hv : v = L b.toNat + 1) (j : Nat) : L' j = rnU L b j := by
  unfold rnU
  by_cases c : j = b.toNat
  · rw [if_pos (by omega), c, e, hv]
  · rw [if_neg (by omega), h j c]
theorem rnN_to {sk : Nat → Prop} {W ly wo : Nat → Int} {a n w' k : Nat} {lo b f : Int} (h : (b, f) = rnN sk W ly wo a lo n k) (e : w' = k) : (b, f) = rnN sk W ly wo a lo n w' := by rw [e]; exact h
theorem rnN_sk {sk : Nat → Prop} {W ly wo : Nat → Int} {a n : Nat} {lo : Int} : ∀ {m : Nat}, -1 ≤ (rnN sk W ly wo a lo n m).1 ∧ (rnN sk W ly wo a lo n m).1 < (m : Int) ∧ (0 ≤ (rnN sk W ly wo a lo n m).1 → sk (rnN sk W ly wo a lo n m).1.toNat)
  | 0 => ⟨Int.le_refl _, by show (-1 : Int) < _; omega, fun q => absurd q (by show ¬ (0 : Int) ≤ -1; omega)⟩
  | w + 1 => by
    have q := rnN_sk (sk := sk) (W := W) (ly := ly) (wo := wo) (a := a) (n := n) (lo := lo) (m := w)
    show -1 ≤ (cI _ _ _ : Int × Int).1 ∧ (cI _ _ _ : Int × Int).1 < ((w + 1 : Nat) : Int) ∧ (0 ≤ (cI _ _ _ : Int × Int).1 → sk (cI _ _ _ : Int × Int).1.toNat)
    by_cases c : (sk w ∧ ly w < 9) ∧ rnf W (ly w) (wo w) a lo n < (rnN sk W ly wo a lo n w).2
    · rw [cI_pos c]
      refine ⟨?_, ?_, fun _ => ?_⟩
      · show (-1 : Int) ≤ (w : Int)
        omega
      · show (w : Int) < ((w + 1 : Nat) : Int)
        omega
      · show sk ((w : Int).toNat)
        rw [Int.toNat_natCast]
        exact c.1.1
    · rw [cI_neg c]
      exact ⟨q.1, by omega, q.2.2⟩
theorem rnw_new {sk : Nat → Prop} {W ly ly' wo f f' : Nat → Int} {a n m : Nat} {lo b v m' : Int} (hb : b = (rnN sk W ly wo a lo n m).1) (h0 : 0 ≤ b) (old : ∀ w : Nat, (w : Int) < m' → f w = rnw sk W ly wo a lo n w) (e1 : ∀ j : Nat, j ≠ b.toNat → ly' j = ly j) (f1 : ∀ j : Nat, j ≠ b.toNat → f' j = f j) (f2 : f' b.toNat = v) (hv : v = rnf W (ly' b.toNat) (wo b.toNat) a lo n) : ∀ w : Nat, (w : Int) < m' → f' w = rnw sk W ly' wo a lo n w := fun w hw => by
  by_cases c : w = b.toNat
  · have s := (rnN_sk (sk := sk) (W := W) (ly := ly) (wo := wo) (a := a) (n := n) (lo := lo) (m := m)).2.2
    rw [← hb] at s
    rw [c, f2]
    exact rnw_y (s h0) hv
  · rw [f1 w c, old w hw]
    exact (rnw_cg (e1 w c) rfl).symm
/-- some skin has too few behind an hour: where the class and the reference write the hour -/
theorem rnL_at {sk : Nat → Prop} {A : Int} {L o : Nat → Int} {j : Nat} (h : sk j) : rnL sk A L o j = L j - (o j + A) / 100 ∧ rnO sk A o j = (o j + A) % 100 := ⟨cI_pos h, cI_pos h⟩
theorem rnL_no {sk : Nat → Prop} {A : Int} {L o : Nat → Int} {j : Nat} (h : ¬ sk j) : rnL sk A L o j = L j ∧ rnO sk A o j = o j := ⟨cI_neg h, cI_neg h⟩
/-- layers and worn of the first y works are worn, the others not yet -/
def rnM (c : Nat) (sk : Nat → Prop) (A : Int) (L o L' o' : Nat → Int) (y : Int) : Prop := ∀ j : Nat, j < c → ((j : Int) < y → L' j = rnL sk A L o j ∧ o' j = rnO sk A o j) ∧ (y ≤ (j : Int) → L' j = L j ∧ o' j = o j)
theorem rnM_0 {c : Nat} {sk : Nat → Prop} {A : Int} {L o L' o' : Nat → Int} {y : Int} (hy : y = 0) (h1 : ∀ j : Nat, j < c → L' j = L j) (h2 : ∀ j : Nat, j < c → o' j = o j) : rnM c sk A L o L' o' y := fun j hj => ⟨fun q => absurd q (by omega), fun _ => ⟨h1 j hj, h2 j hj⟩⟩
theorem rnM_no {c : Nat} {sk : Nat → Prop} {A : Int} {L o L' o' : Nat → Int} {y y' : Int} (h : rnM c sk A L o L' o' y) (hy : 0 ≤ y) (hs : ¬ sk y.toNat) (e : y' = y + 1) : rnM c sk A L o L' o' y' := fun j hj => ⟨fun q => by
  by_cases d : (j : Int) < y
  · exact (h j hj).1 d
  · have ej : j = y.toNat := by omega
    have w := (h j hj).2 (by omega)
    rw [w.1, w.2]
    rw [ej]
    exact ⟨(rnL_no (A := A) (L := L) (o := o) hs).1.symm, (rnL_no (A := A) (L := L) (o := o) hs).2.symm⟩, fun q => (h j hj).2 (by omega)⟩
theorem rnM_y {c : Nat} {sk : Nat → Prop} {A : Int} {L o L' o' L2 o2 : Nat → Int} {y y' : Int} (h : rnM c sk A L o L' o' y) (hy : 0 ≤ y) (hs : sk y.toNat) (e : y' = y + 1) (h1 : ∀ j : Nat, j ≠ y.toNat → L2 j = L' j) (h2 : ∀ j : Nat, j ≠ y.toNat → o2 j = o' j) (v1 : L2 y.toNat = L' y.toNat - (o' y.toNat + A) / 100) (v2 : o2 y.toNat = (o' y.toNat + A) % 100) : rnM c sk A L o L2 o2 y' := fun j hj => by
  by_cases d : j = y.toNat
  · have w := (h j hj).2 (by omega)
    rw [d] at w ⊢
    refine ⟨fun _ => ?_, fun q => absurd q (by omega)⟩
    rw [v1, v2, w.1, w.2]
    exact ⟨(rnL_at (A := A) (L := L) (o := o) hs).1.symm, (rnL_at (A := A) (L := L) (o := o) hs).2.symm⟩
  · rw [h1 j d, h2 j d]
    exact ⟨fun q => (h j hj).1 (by omega), fun q => (h j hj).2 (by omega)⟩
/-- the first hour: what a number that says it becomes -/
theorem rnY_f {sk : Nat → Prop} {L : Nat → Int} {lo y y' f f' N v : Int} (hy : 0 ≤ y) (h : f' = cI (f = N ∧ rnY sk L lo y.toNat) v f) (hn : ¬ (sk y.toNat ∧ L y.toNat < lo) ∨ f' ≠ N) (hv : v ≠ N) (e : y' = y + 1) : f' = cI (f = N ∧ rnY sk L lo y'.toNat) v f := by
  rw [show y'.toNat = y.toNat + 1 by omega]
  by_cases c : f = N ∧ rnY sk L lo y.toNat
  · rw [cI_pos c] at h
    rw [cI_pos ⟨c.1, rnY_up c.2⟩]
    exact h
  · rw [cI_neg c] at h
    by_cases c2 : f = N ∧ rnY sk L lo (y.toNat + 1)
    · rcases hn with hn | hn
      · exact absurd c2.2 (rnY_no (fun q => c ⟨c2.1, q⟩) hn)
      · exact absurd (h.trans c2.1) hn
    · rw [cI_neg c2]
      exact h
theorem rnY_t {sk : Nat → Prop} {L : Nat → Int} {lo y y' f f' N v f2 : Int} (hy : 0 ≤ y) (h : f' = cI (f = N ∧ rnY sk L lo y.toNat) v f) (hs : sk y.toNat) (hl : L y.toNat < lo) (hf : f' = N) (hv : v ≠ N) (e : y' = y + 1) (e2 : f2 = v) : f2 = cI (f = N ∧ rnY sk L lo y'.toNat) v f := by
  rw [show y'.toNat = y.toNat + 1 by omega]
  by_cases c : f = N ∧ rnY sk L lo y.toNat
  · rw [cI_pos c] at h
    exact absurd (h.symm.trans hf) hv
  · rw [cI_neg c] at h
    rw [cI_pos ⟨h.symm.trans hf, rnY_at hs hl⟩]
    exact e2
theorem rnY_z {sk : Nat → Prop} {L : Nat → Int} {lo y f f' N v : Int} (hy : y = 0) (h : f' = f) : f' = cI (f = N ∧ rnY sk L lo y.toNat) v f := by
  rw [cI_neg (fun q => absurd q.2 (by rw [show y.toNat = 0 by omega]; exact rnY_0))]
  exact h
/-- the weather of 48 hours -/
def rnW (w : Nat → Int) : Nat → Int := fun j => if j < 48 then w j else 0
theorem rnW_at {w : Nat → Int} {j : Nat} (h : j < 48) : rnW w j = w j := if_pos h
theorem rnW_cg {w w' : Nat → Int} (h : ∀ j : Nat, j < 48 → w' j = w j) : rnW w' = rnW w := funext fun j => by
  unfold rnW
  by_cases c : j < 48
  · rw [if_pos c, if_pos c, h j c]
  · rw [if_neg c, if_neg c]
/-! the whole, by the city's row -/
def rn_m (R : Rw) : Nat := (gt R 7).toNat
noncomputable def rn_f (R : Rw) : Nat := (sm (sFi R) (gt R 8).toNat).toNat
def rn_l (R : Rw) : Nat → Int := fun j => gt R (535 + 14 * (j : Int))
def rn_o (R : Rw) : Nat → Int := fun j => gt R (537 + 14 * (j : Int))
noncomputable def rHc (R : Rw) (W : Nat → Int) (lo : Int) (n : Nat) (h : Nat) : (Nat → Int) × (Nat → Int) := rnH (skW R) W lo n (rn_m R) (rn_f R) (rn_l R) (rn_o R) h
noncomputable def rPc (R : Rw) (W : Nat → Int) (lo : Int) (n : Nat) (h f : Nat) : Nat → Int := rnP (skW R) W (rHc R W lo n h).2 h lo n (rn_m R) (rHc R W lo n h).1 f
noncomputable def rKc (R : Rw) (W : Nat → Int) (lo : Int) (n : Nat) (work : Int) (h f : Nat) : Int := rnK (skW R) W (rHc R W lo n h).2 h lo n (rn_m R) (rHc R W lo n h).1 work f
noncomputable def rXc (R : Rw) (W : Nat → Int) (lo : Int) (n : Nat) (h : Nat) : Int := rnX (skW R) W lo n (rn_m R) (rn_f R) (rn_l R) (rn_o R) h
/-- the heap's layers and worn at the beginning of hour h -/
def rHh (R : Rw) (W : Nat → Int) (lo : Int) (n : Nat) (h : Int) (L o : Nat → Int) : Prop := ∀ j : Nat, j < rn_m R → L j = (rHc R W lo n h.toNat).1 j ∧ o j = (rHc R W lo n h.toNat).2 j
/-- and when f of that hour have sewn -/
def rPh (R : Rw) (W : Nat → Int) (lo : Int) (n : Nat) (h f : Int) (L o : Nat → Int) : Prop := ∀ j : Nat, j < rn_m R → L j = rPc R W lo n h.toNat f.toNat j ∧ o j = (rHc R W lo n h.toNat).2 j
theorem rHh_0 {R : Rw} {W : Nat → Int} {lo h : Int} {n : Nat} {L o : Nat → Int} (e : h = 0) (h1 : ∀ j : Nat, j < rn_m R → L j = gt R (535 + 14 * (j : Int))) (h2 : ∀ j : Nat, j < rn_m R → o j = gt R (537 + 14 * (j : Int))) : rHh R W lo n h L o := by
  rw [e]
  exact fun j hj => ⟨h1 j hj, h2 j hj⟩
theorem rPh_0 {R : Rw} {W : Nat → Int} {lo h f : Int} {n : Nat} {L o : Nat → Int} (e : f = 0) (q : rHh R W lo n h L o) : rPh R W lo n h f L o := by
  rw [e]
  exact q
/-- the next one is the same -/
theorem rPh_N {R : Rw} {W : Nat → Int} {lo h f a : Int} {n : Nat} {L o : Nat → Int} (q : rPh R W lo n h f L o) (ea : a = h) {z : Int} (hz : z = (rnN (skW R) W L o a.toNat lo n (rn_m R)).1) : z = (rnN (skW R) W (rPc R W lo n h.toNat f.toNat) (rHc R W lo n h.toNat).2 h.toNat lo n (rn_m R)).1 := by
  rw [hz, ea, rnN_cg (fun j hj => (q j hj).1) (fun j hj => (q j hj).2)]
theorem rPh_s {R : Rw} {W : Nat → Int} {lo h f a f' : Int} {n : Nat} {L o L' o' : Nat → Int} (q : rPh R W lo n h f L o) (ea : a = h) {z : Int} (hz : z = (rnN (skW R) W L o a.toNat lo n (rn_m R)).1) (hf : 0 ≤ f) (ef : f' = f + 1) (e1 : ∀ j : Nat, L' j = rnU L z j) (e2 : ∀ j : Nat, o' j = o j) : rPh R W lo n h f' L' o' := fun j hj => by
  have w := rPh_N q ea hz
  refine ⟨?_, by rw [e2 j]; exact (q j hj).2⟩
  rw [e1 j, show f'.toNat = f.toNat + 1 by omega]
  show rnU L z j = rnU (rPc R W lo n h.toNat f.toNat) _ j
  unfold rnU
  rw [(q j hj).1, w]
  rfl
/-- an hour ends -/
theorem rPh_e {R : Rw} {W : Nat → Int} {lo h f h' A : Int} {n : Nat} {L o L' o' : Nat → Int} (q : rPh R W lo n h f L o) (hf : f.toNat = rn_f R) (hh : 0 ≤ h) (eh : h' = h + 1) {m : Int} (hm : m.toNat = rn_m R) (eA : A = 6 * W h.toNat / 10) {c : Nat} (hc : rn_m R ≤ c) (w : rnM c (skW R) A L o L' o' m) : rHh R W lo n h' L' o' := fun j hj => by
  have k := (w j (by omega)).1 (by omega)
  rw [show h'.toNat = h.toNat + 1 by omega, k.1, k.2]
  show rnL (skW R) A L o j = rnL (skW R) (6 * W h.toNat / 10) (rPc R W lo n h.toNat (rn_f R)) (rHc R W lo n h.toNat).2 j ∧ rnO (skW R) A o j = rnO (skW R) (6 * W h.toNat / 10) (rHc R W lo n h.toNat).2 j
  unfold rnL rnO
  rw [(q j hj).1, (q j hj).2, hf, eA]
  exact ⟨rfl, rfl⟩
/-- the count: zero, one more, the same -/
theorem rKc_0 {R : Rw} {W : Nat → Int} {lo work : Int} {n h : Nat} : rKc R W lo n work h 0 = 0 := rfl
theorem rKc_s {R : Rw} {W : Nat → Int} {lo h f f' z work c c' : Int} {n : Nat} (hz : z = (rnN (skW R) W (rPc R W lo n h.toNat f.toNat) (rHc R W lo n h.toNat).2 h.toNat lo n (rn_m R)).1) (hf : 0 ≤ f) (ef : f' = f + 1) (hc : c = rKc R W lo n work h.toNat f.toNat) (e : (z = work ∧ c' = c + 1) ∨ (z ≠ work ∧ c' = c)) : c' = rKc R W lo n work h.toNat f'.toNat := by
  rw [show f'.toNat = f.toNat + 1 by omega]
  show c' = rKc R W lo n work h.toNat f.toNat + (if (rnN (skW R) W (rPc R W lo n h.toNat f.toNat) (rHc R W lo n h.toNat).2 h.toNat lo n (rn_m R)).1 = work then 1 else 0)
  rw [← hz, ← hc]
  rcases e with e | e
  · rw [if_pos e.1, e.2]
  · rw [if_neg e.1, e.2]
    omega
/-- the first hour of lack, as the class keeps it -/
def rnV (x : Int) : Int := if x < 0 then -1000000005 else x
theorem rXc_0 {R : Rw} {W : Nat → Int} {lo : Int} {n : Nat} : rXc R W lo n 0 = -1 := rfl
theorem rXc_bd {R : Rw} {W : Nat → Int} {lo : Int} {n : Nat} : ∀ {h : Nat}, -1 ≤ rXc R W lo n h ∧ rXc R W lo n h < (h : Int) ∨ rXc R W lo n h = -1
  | 0 => Or.inr rfl
  | h + 1 => by
    have q := rXc_bd (R := R) (W := W) (lo := lo) (n := n) (h := h)
    have e : rXc R W lo n (h + 1) = cI (rXc R W lo n h < 0 ∧ rnY (skW R) (rHc R W lo n (h + 1)).1 lo (rn_m R)) (h : Int) (rXc R W lo n h) := rfl
    rw [e]
    by_cases c : rXc R W lo n h < 0 ∧ rnY (skW R) (rHc R W lo n (h + 1)).1 lo (rn_m R)
    · rw [cI_pos c]
      omega
    · rw [cI_neg c]
      omega
/-- is there lack behind hour h, said of the heap's layers -/
theorem rPh_Y {R : Rw} {W : Nat → Int} {lo h f A : Int} {n m : Nat} {L o : Nat → Int} (q : rPh R W lo n h f L o) (hf : f.toNat = rn_f R) (hm : m = rn_m R) (eA : A = 6 * W h.toNat / 10) : rnY (skW R) (rnL (skW R) A L o) lo m ↔ rnY (skW R) (rHc R W lo n (h.toNat + 1)).1 lo (rn_m R) := by
  rw [hm]
  refine rnY_cg (fun j hj => ?_)
  show rnL (skW R) A L o j = rnL (skW R) (6 * W h.toNat / 10) (rPc R W lo n h.toNat (rn_f R)) (rHc R W lo n h.toNat).2 j
  unfold rnL
  rw [(q j hj).1, (q j hj).2, hf, eA]
theorem rXc_c {R : Rw} {W : Nat → Int} {lo h f A h' x x' : Int} {n m : Nat} {L o : Nat → Int} (q : rPh R W lo n h f L o) (hf : f.toNat = rn_f R) (hm : m = rn_m R) (hh : 0 ≤ h) (eh : h' = h + 1) (eA : A = 6 * W h.toNat / 10) (hx : x = rnV (rXc R W lo n h.toNat)) (e : x' = cI (x = -1000000005 ∧ rnY (skW R) (rnL (skW R) A L o) lo m) h x) : x' = rnV (rXc R W lo n h'.toNat) := by
  have b := rXc_bd (R := R) (W := W) (lo := lo) (n := n) (h := h.toNat)
  rw [show h'.toNat = h.toNat + 1 by omega]
  have s : rXc R W lo n (h.toNat + 1) = cI (rXc R W lo n h.toNat < 0 ∧ rnY (skW R) (rHc R W lo n (h.toNat + 1)).1 lo (rn_m R)) (h.toNat : Int) (rXc R W lo n h.toNat) := rfl
  rw [s, e, hx]
  have hv : (rnV (rXc R W lo n h.toNat) = -1000000005) ↔ rXc R W lo n h.toNat < 0 := by
    unfold rnV
    split <;> omega
  have y := rPh_Y q hf hm eA
  by_cases c : rXc R W lo n h.toNat < 0 ∧ rnY (skW R) (rHc R W lo n (h.toNat + 1)).1 lo (rn_m R)
  · rw [cI_pos c, cI_pos ⟨hv.mpr c.1, y.mpr c.2⟩]
    unfold rnV
    rw [if_neg (by omega)]
    omega
  · rw [cI_neg c, cI_neg (fun w => c ⟨hv.mp w.1, y.mp w.2⟩)]
theorem rnB_M {c : Nat} {sk : Nat → Prop} {ly wo ly' wo' : Nat → Int} {u v u' A m : Int} (h : rnB c ly wo u v) (hA : 0 ≤ A ∧ A ≤ 600) (w : rnM c sk A ly wo ly' wo' m) (e : u' = u + 7) : rnB c ly' wo' u' v := fun j hj => by
  by_cases d : (j : Int) < m
  · have q := rnB_L (sk := sk) h hA e j hj
    have k := (w j hj).1 d
    rw [k.1, k.2]
    exact q
  · have q := h j hj
    have k := (w j hj).2 (by omega)
    rw [k.1, k.2]
    omega
theorem cL_a171 {I : fH} {j : Nat} (hj : j < 24) : I 171 j = gt (cR 0 I) (535 + 14 * (j : Int)) := cL_a (d := 0) (a := 171) (n := 24) (b := 535) (m := 14) (i := (j : Int)) (by decide +kernel) (by decide) (by rw [Int.toNat_natCast]) (by omega) rfl
theorem cL_a173 {I : fH} {j : Nat} (hj : j < 24) : I 173 j = gt (cR 0 I) (537 + 14 * (j : Int)) := cL_a (d := 0) (a := 173) (n := 24) (b := 537) (m := 14) (i := (j : Int)) (by decide +kernel) (by decide) (by rw [Int.toNat_natCast]) (by omega) rfl
/-! the reference keeps the hour of lack by -1 -/
theorem rXc_n {R : Rw} {W : Nat → Int} {lo h h' x' A : Int} {n m : Nat} (hm : m = rn_m R) (hh : 0 ≤ h) (eh : h' = h + 1) (eA : A = 6 * W h.toNat / 10) (e : x' = cI (rXc R W lo n h.toNat = -1 ∧ rnY (skW R) (rnL (skW R) A (rPc R W lo n h.toNat (rn_f R)) (rHc R W lo n h.toNat).2) lo m) h (rXc R W lo n h.toNat)) : x' = rXc R W lo n h'.toNat := by
  have b := rXc_bd (R := R) (W := W) (lo := lo) (n := n) (h := h.toNat)
  rw [show h'.toNat = h.toNat + 1 by omega]
  have s : rXc R W lo n (h.toNat + 1) = cI (rXc R W lo n h.toNat < 0 ∧ rnY (skW R) (rnL (skW R) (6 * W h.toNat / 10) (rPc R W lo n h.toNat (rn_f R)) (rHc R W lo n h.toNat).2) lo (rn_m R)) (h.toNat : Int) (rXc R W lo n h.toNat) := rfl
  rw [s, e, hm, eA]
  by_cases c : rXc R W lo n h.toNat < 0 ∧ rnY (skW R) (rnL (skW R) (6 * W h.toNat / 10) (rPc R W lo n h.toNat (rn_f R)) (rHc R W lo n h.toNat).2) lo (rn_m R)
  · rw [cI_pos c, cI_pos ⟨by omega, c.2⟩]
    omega
  · rw [cI_neg c, cI_neg (fun q => c ⟨by omega, q.2⟩)]
/-- at the end of an hour of sewing, by the names of what is there -/
theorem rPh_at {R : Rw} {W : Nat → Int} {lo h f : Int} {n : Nat} {L o : Nat → Int} (q : rPh R W lo n h f L o) (hf : f.toNat = rn_f R) (j : Nat) (hj : j < rn_m R) : L j = rPc R W lo n h.toNat (rn_f R) j ∧ o j = (rHc R W lo n h.toNat).2 j := by
  have k := q j hj
  rw [hf] at k
  exact k
theorem rHh_e {R : Rw} {W : Nat → Int} {lo h h' A m : Int} {n : Nat} {L' o' : Nat → Int} (hh : 0 ≤ h) (eh : h' = h + 1) (hm : m.toNat = rn_m R) (eA : A = 6 * W h.toNat / 10) (w : rnM (rn_m R) (skW R) A (rPc R W lo n h.toNat (rn_f R)) (rHc R W lo n h.toNat).2 L' o' m) : rHh R W lo n h' L' o' := fun j hj => by
  have k := (w j hj).1 (by omega)
  rw [show h'.toNat = h.toNat + 1 by omega, k.1, k.2, eA]
  exact ⟨rfl, rfl⟩
theorem mL_535 {I : fH} {j : Nat} (hj : j < 24) {i : Int} (e : i = 535 + 14 * (j : Int)) : I 741 i.toNat = gt (mR I) (535 + 14 * (j : Int)) := mL_r (i0 := 535) (i1 := 857) (m := 14) (q := 0) (i := i) (by decide +kernel) rfl (by omega) e.symm
theorem mL_537 {I : fH} {j : Nat} (hj : j < 24) {i : Int} (e : i = 537 + 14 * (j : Int)) : I 741 i.toNat = gt (mR I) (537 + 14 * (j : Int)) := mL_r (i0 := 537) (i1 := 859) (m := 14) (q := 0) (i := i) (by decide +kernel) rfl (by omega) e.symm
/-- worn of the row is below 100 -/
def rnOK (R : Rw) : Prop := ∀ j : Nat, j < 24 → 0 ≤ gt R (537 + 14 * (j : Int)) ∧ gt R (537 + 14 * (j : Int)) ≤ 99
theorem rnOK_of {I : fH} {R : Rw} (h0 : fB bsJ I) (e : cR 0 I = R) : rnOK R := fun j hj => by
  have l : frL gJ bsJ 100 ((173, 173), (0, 23), (1, 0), (0, 99)) := frL_of (by decide +kernel)
  have q := (frL_at l h0 (a := 173) (i := (j : Int)) (by omega)).2
  rw [Int.toNat_natCast] at q
  rw [← e, ← cL_a173 hj]
  exact q

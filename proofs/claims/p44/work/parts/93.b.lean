set_option linter.all false
/-! the joint heap at the law's start, checked -/
theorem jc_0 : jall 0 64 = true := by decide +kernel
theorem jc_64 : jall 64 64 = true := by decide +kernel
theorem jc_128 : jall 128 64 = true := by decide +kernel
theorem jc_192 : jall 192 64 = true := by decide +kernel
theorem jc_256 : jall 256 64 = true := by decide +kernel
theorem jc_320 : jall 320 64 = true := by decide +kernel
theorem jc_384 : jall 384 64 = true := by decide +kernel
theorem jc_448 : jall 448 64 = true := by decide +kernel
theorem jc_512 : jall 512 64 = true := by decide +kernel
theorem jc_576 : jall 576 64 = true := by decide +kernel
theorem jc_640 : jall 640 64 = true := by decide +kernel
theorem jc_704 : jall 704 36 = true := by decide +kernel
theorem jc_740 : jall 740 1 = true := by decide +kernel
theorem jc_741 : jall 741 1 = true := by decide +kernel
theorem jc_742 : jall 742 1 = true := by decide +kernel
theorem jc_743 : jall 743 1 = true := by decide +kernel
theorem jc_744 : jall 744 12 = true := by decide +kernel
theorem jc_756 : jall 756 1 = true := by decide +kernel
theorem jc_757 : jall 757 4 = true := by decide +kernel
theorem jc_all : ∀ a, a < 761 → jcel a = true := by
  intro a ha
  by_cases h0 : a < 64
  · have q := List.all_eq_true.mp jc_0 (a - 0) (List.mem_range.mpr (by omega))
    rw [show 0 + (a - 0) = a by omega] at q
    exact q
  by_cases h64 : a < 128
  · have q := List.all_eq_true.mp jc_64 (a - 64) (List.mem_range.mpr (by omega))
    rw [show 64 + (a - 64) = a by omega] at q
    exact q
  by_cases h128 : a < 192
  · have q := List.all_eq_true.mp jc_128 (a - 128) (List.mem_range.mpr (by omega))
    rw [show 128 + (a - 128) = a by omega] at q
    exact q
  by_cases h192 : a < 256
  · have q := List.all_eq_true.mp jc_192 (a - 192) (List.mem_range.mpr (by omega))
    rw [show 192 + (a - 192) = a by omega] at q
    exact q
  by_cases h256 : a < 320
  · have q := List.all_eq_true.mp jc_256 (a - 256) (List.mem_range.mpr (by omega))
    rw [show 256 + (a - 256) = a by omega] at q
    exact q
  by_cases h320 : a < 384
  · have q := List.all_eq_true.mp jc_320 (a - 320) (List.mem_range.mpr (by omega))
    rw [show 320 + (a - 320) = a by omega] at q
    exact q
  by_cases h384 : a < 448
  · have q := List.all_eq_true.mp jc_384 (a - 384) (List.mem_range.mpr (by omega))
    rw [show 384 + (a - 384) = a by omega] at q
    exact q
  by_cases h448 : a < 512
  · have q := List.all_eq_true.mp jc_448 (a - 448) (List.mem_range.mpr (by omega))
    rw [show 448 + (a - 448) = a by omega] at q
    exact q
  by_cases h512 : a < 576
  · have q := List.all_eq_true.mp jc_512 (a - 512) (List.mem_range.mpr (by omega))
    rw [show 512 + (a - 512) = a by omega] at q
    exact q
  by_cases h576 : a < 640
  · have q := List.all_eq_true.mp jc_576 (a - 576) (List.mem_range.mpr (by omega))
    rw [show 576 + (a - 576) = a by omega] at q
    exact q
  by_cases h640 : a < 704
  · have q := List.all_eq_true.mp jc_640 (a - 640) (List.mem_range.mpr (by omega))
    rw [show 640 + (a - 640) = a by omega] at q
    exact q
  by_cases h704 : a < 740
  · have q := List.all_eq_true.mp jc_704 (a - 704) (List.mem_range.mpr (by omega))
    rw [show 704 + (a - 704) = a by omega] at q
    exact q
  by_cases h740 : a < 741
  · have q := List.all_eq_true.mp jc_740 (a - 740) (List.mem_range.mpr (by omega))
    rw [show 740 + (a - 740) = a by omega] at q
    exact q
  by_cases h741 : a < 742
  · have q := List.all_eq_true.mp jc_741 (a - 741) (List.mem_range.mpr (by omega))
    rw [show 741 + (a - 741) = a by omega] at q
    exact q
  by_cases h742 : a < 743
  · have q := List.all_eq_true.mp jc_742 (a - 742) (List.mem_range.mpr (by omega))
    rw [show 742 + (a - 742) = a by omega] at q
    exact q
  by_cases h743 : a < 744
  · have q := List.all_eq_true.mp jc_743 (a - 743) (List.mem_range.mpr (by omega))
    rw [show 743 + (a - 743) = a by omega] at q
    exact q
  by_cases h744 : a < 756
  · have q := List.all_eq_true.mp jc_744 (a - 744) (List.mem_range.mpr (by omega))
    rw [show 744 + (a - 744) = a by omega] at q
    exact q
  by_cases h756 : a < 757
  · have q := List.all_eq_true.mp jc_756 (a - 756) (List.mem_range.mpr (by omega))
    rw [show 756 + (a - 756) = a by omega] at q
    exact q
  by_cases h757 : a < 761
  · have q := List.all_eq_true.mp jc_757 (a - 757) (List.mem_range.mpr (by omega))
    rw [show 757 + (a - 757) = a by omega] at q
    exact q
  omega
theorem jfar {a : Nat} (ha : ¬ a < 761) : frg btJ a = none ∧ gJ.1 a = none ∧ jcell a = none := by
  have key : ∀ (l : List ((Nat × Nat) × List fBe)), l.all (fun q => Nat.blt q.1.2 761) = true → frg l a = none := by
    intro l
    induction l with
    | nil => intro _; rfl
    | cons q l ih =>
      intro h
      have q1 := xblt.mp (List.all_eq_true.mp h q List.mem_cons_self)
      unfold frg
      have e : Nat.ble a q.1.2 = false := by
        cases e : Nat.ble a q.1.2 with
        | false => rfl
        | true => have := Nat.le_of_ble_eq_true e; omega
      rw [e]
      have e2 : Bool.and (Nat.ble q.1.1 a) false = false := by cases Nat.ble q.1.1 a <;> rfl
      rw [e2]
      exact ih (List.all_eq_true.mpr (fun y hy => List.all_eq_true.mp h y (List.mem_cons_of_mem _ hy)))
  refine ⟨key btJ (by decide +kernel), ?_, ?_⟩
  · show fgs shJ a = none
    unfold fgs
    by_cases h : a / 64 < 12
    · have e : a / 64 = 11 := by omega
      rw [e]
      have hl : (shJ[11]?) = some (shJ.getD 11 []) := by decide +kernel
      rw [hl]
      show (shJ.getD 11 [])[a % 64]? = none
      exact List.getElem?_eq_none (by rw [show (shJ.getD 11 []).length = 57 by decide +kernel]; omega)
    · rw [List.getElem?_eq_none (by rw [show shJ.length = 12 by decide +kernel]; omega)]
  · unfold jcell
    rw [show Nat.blt a 740 = false from xnf (fun z => ha (by have := xblt.mp z; omega)), cond_false]
    unfold xat
    by_cases h : (a - 740) / 64 = 0
    · rw [h]
      show ((xSM_0)[(a - 740) % 64]?) = none
      exact List.getElem?_eq_none (by rw [show xSM_0.length = 21 from rfl]; omega)
    · rw [show xSM[(a - 740) / 64]? = none from List.getElem?_eq_none (by show 1 ≤ _; omega)]
      rfl
theorem j_B : fB bsJ I0 := by
  intro a j
  by_cases ha : a < 761
  · obtain ⟨c, -, -, h1, h2⟩ := jcel_of (jc_all a ha)
    by_cases hj : j < c.2.1
    · obtain ⟨x, -, -, -, h3⟩ := h1 j hj
      exact h3
    · obtain ⟨e, h3⟩ := h2 j hj
      rw [e]
      exact h3
  · obtain ⟨h1, -, h3⟩ := jfar ha
    have hbs : bsJ a j = (-2147483648, 2147483647) := by show fbt btJ a j = _; unfold fbt; rw [h1]
    rw [hbs, show I0 a j = 0 by unfold I0; rw [h3]]
    exact ⟨by decide, by decide⟩
theorem j_at {a j : Nat} {c : xC} {x : xV} (h1 : jcell a = some c) (h2 : Nat.blt j c.2.1 = true) (h3 : xat c.2.2 j = some x) : I0 a j = jz x := by
  unfold I0
  rw [h1]
  simp only [h2, h3, cond_true]
noncomputable def j0 (a j : Nat) : Bool := match jcell a with
  | some c => (match xat c.2.2 j with | some (.inl u) => Nat.beq u 0 | _ => false)
  | none => false
theorem j0_of {a j : Nat} (h : j0 a j = true) : I0 a j = 0 := by
  unfold j0 at h
  unfold I0
  cases hc : jcell a with
  | none => rfl
  | some c =>
    rw [hc] at h
    simp only [] at h ⊢
    cases hx : xat c.2.2 j with
    | none => rw [hx] at h; cases h
    | some x =>
      rw [hx] at h
      match x, h with
      | .inl u, h =>
        have e := Nat.eq_of_beq_eq_true h
        subst e
        cases Nat.blt j c.2.1 <;> rfl
noncomputable def jv (a j : Nat) : Option Nat := match jcell a with
  | some c => cond (Nat.blt j c.2.1) (match xat c.2.2 j with | some (.inl u) => some u | _ => none) none
  | none => none
theorem jv_of {a j u : Nat} (h : jv a j = some u) : I0 a j = jz (.inl u) := by
  unfold jv at h
  cases hc : jcell a with
  | none => rw [hc] at h; cases h
  | some c =>
    rw [hc] at h
    simp only [] at h
    cases hb : Nat.blt j c.2.1 with
    | false => rw [hb] at h; cases h
    | true =>
      rw [hb] at h
      simp only [cond_true] at h
      cases hx : xat c.2.2 j with
      | none => rw [hx] at h; cases h
      | some x =>
        rw [hx] at h
        match x, h with
        | .inl u', h => cases h; exact j_at hc hb hx
noncomputable def jeq (a j b k : Nat) : Bool := match jv a j, jv b k with
  | some u, some v => Nat.beq u v
  | _, _ => false
theorem jeq_of {a j b k : Nat} (h : jeq a j b k = true) : I0 a j = I0 b k := by
  unfold jeq at h
  cases h1 : jv a j with
  | none => rw [h1] at h; cases h
  | some u =>
    cases h2 : jv b k with
    | none => rw [h1, h2] at h; cases h
    | some v =>
      rw [h1, h2] at h
      have e := Nat.eq_of_beq_eq_true h
      subst e
      rw [jv_of h1, jv_of h2]
theorem j_rT {c m n b base s t : Nat} (h : (List.range m).all (fun i => (List.range n).all (fun j => jeq (c + i) j b (base + s * i + t * j))) = true) : rT I0 c m n b base s t := fun i j hi hj => jeq_of (List.all_eq_true.mp (List.all_eq_true.mp h i (List.mem_range.mpr hi)) j (List.mem_range.mpr hj))
theorem j_oI : oI I0 := by
  have e699_1 : I0 699 1 = 0 := j0_of (by decide +kernel)
  have e0_14 : I0 0 14 = 0 := j0_of (by decide +kernel)
  have e0_6 : I0 0 6 = 0 := j0_of (by decide +kernel)
  have e1_9 : I0 1 9 = 0 := j0_of (by decide +kernel)
  have e2_5 : I0 2 5 = 0 := j0_of (by decide +kernel)
  have e2_10 : I0 2 10 = 0 := j0_of (by decide +kernel)
  have e211_8 : I0 211 8 = 0 := j0_of (by decide +kernel)
  have e211_11 : I0 211 11 = 0 := j0_of (by decide +kernel)
  have e211_15 : I0 211 15 = 0 := j0_of (by decide +kernel)
  have e257_9 : I0 257 9 = 0 := j0_of (by decide +kernel)
  have e258_5 : I0 258 5 = 0 := j0_of (by decide +kernel)
  have e258_10 : I0 258 10 = 0 := j0_of (by decide +kernel)
  have e467_8 : I0 467 8 = 0 := j0_of (by decide +kernel)
  have e467_11 : I0 467 11 = 0 := j0_of (by decide +kernel)
  have e467_15 : I0 467 15 = 0 := j0_of (by decide +kernel)
  have e740_8 : I0 740 8 = 0 := j0_of (by decide +kernel)
  have e740_37 : I0 740 37 = 0 := j0_of (by decide +kernel)
  have e740_3 : I0 740 3 = 0 := j0_of (by decide +kernel)
  have e741_0 : I0 741 0 = 0 := j0_of (by decide +kernel)
  have e741_5 : I0 741 5 = 0 := j0_of (by decide +kernel)
  have e741_6 : I0 741 6 = 0 := j0_of (by decide +kernel)
  have e741_10 : I0 741 10 = 0 := j0_of (by decide +kernel)
  have e741_11 : I0 741 11 = 0 := j0_of (by decide +kernel)
  have e741_12 : I0 741 12 = 0 := j0_of (by decide +kernel)
  have e742_0 : I0 742 0 = 0 := j0_of (by decide +kernel)
  have e742_5 : I0 742 5 = 0 := j0_of (by decide +kernel)
  have e742_6 : I0 742 6 = 0 := j0_of (by decide +kernel)
  have e742_10 : I0 742 10 = 0 := j0_of (by decide +kernel)
  have e742_11 : I0 742 11 = 0 := j0_of (by decide +kernel)
  have e742_12 : I0 742 12 = 0 := j0_of (by decide +kernel)
  have e741_9 : I0 741 9 = 0 := j0_of (by decide +kernel)
  have e163_13 : I0 163 13 = 0 := j0_of (by decide +kernel)
  have e419_13 : I0 419 13 = 0 := j0_of (by decide +kernel)
  have e741_7 : I0 741 7 = 0 := j0_of (by decide +kernel)
  have e742_7 : I0 742 7 = 0 := j0_of (by decide +kernel)
  refine ⟨j_B, ⟨fun c h => absurd h (by rw [e741_5]; omega), fun c h => absurd h (by rw [e741_6]; omega), fun c h => absurd h (by rw [e741_10]; omega), fun c h => absurd h (by rw [e741_9]; omega)⟩, fun q => absurd q (by rw [e740_3]; decide), by unfold oP; omega, ⟨j_rT (by decide +kernel), j_rT (by decide +kernel), j_rT (by decide +kernel), j_rT (by decide +kernel), j_rT (by decide +kernel), j_rT (by decide +kernel), j_rT (by decide +kernel), j_rT (by decide +kernel), j_rT (by decide +kernel), j_rT (by decide +kernel), j_rT (by decide +kernel), j_rT (by decide +kernel), j_rT (by decide +kernel), j_rT (by decide +kernel), j_rT (by decide +kernel)⟩, fun q => absurd q (by rw [e0_6]; decide)⟩
theorem jgrid {α : Type} {len : Nat} (f : Nat → α) : ∃ rows : List (List α), (∀ j, j < len → xat rows j = some (f j)) ∧ ∀ j x, xat rows j = some x → j < len ∧ x = f j := by
  have key : ∀ j, xat ((List.range (len / 64 + 1)).map (fun q => (List.range (min 64 (len - 64 * q))).map (fun r => f (64 * q + r)))) j = if j < len then some (f j) else none := by
    intro j
    unfold xat
    rw [List.getElem?_map]
    by_cases h1 : j / 64 < len / 64 + 1
    · rw [List.getElem?_range h1]
      show ((List.range (min 64 (len - 64 * (j / 64)))).map (fun r => f (64 * (j / 64) + r)))[j % 64]? = _
      rw [List.getElem?_map]
      by_cases h2 : j < len
      · rw [if_pos h2, List.getElem?_range (by omega)]
        show some (f (64 * (j / 64) + j % 64)) = _
        rw [Nat.div_add_mod]
      · rw [if_neg h2, List.getElem?_eq_none (by rw [List.length_range]; omega)]
        rfl
    · rw [List.getElem?_eq_none (by rw [List.length_range]; omega), if_neg (by omega)]
      rfl
  exact ⟨_, fun j hj => by rw [key, if_pos hj], fun j x hx => by
    rw [key] at hx
    split at hx
    · next hj => cases hx; exact ⟨hj, rfl⟩
    · cases hx⟩
/-- places of a cell, over another place of their heap -/
theorem j_FR {ρ : Nat → Int32} {base a k len : Nat} {rows rows' : List (List xV)} {fs : List Value} (h : xFR ρ (base + jsh a) len rows fs) (hr : ∀ j x, xat rows' j = some x → j < len ∧ x = fe (fcl gJ k I0 a j)) (hx : ∀ j, j < len → ∃ x, xat rows j = some x ∧ jok (gJ.2 a j) (jsh a) k x = true ∧ I0 a j = jz x) : xFR ρ base len rows' fs := by
  refine ⟨h.1, fun j x hj => ?_⟩
  obtain ⟨h1, rfl⟩ := hr j x hj
  obtain ⟨x, x1, x2, x3⟩ := hx j h1
  obtain ⟨v, v1, v2⟩ := h.2 j x x1
  refine ⟨v, v1, ?_⟩
  rcases jok_fe x2 x3 with ⟨r, e1, e2⟩ | ⟨u, e, e3⟩
  · rw [e1]
    subst e2
    have v2 : v = .ref (base + jsh a + r) := v2
    show v = .ref (base + (jsh a + r))
    rw [v2, Nat.add_assoc]
  · rw [e3]
    rcases e with e | e
    · rw [e] at v2 ⊢; exact v2
    · rw [e] at v2 ⊢; exact v2
theorem jn_joint {xs : Nat → Int32} {base : Nat} {D : va_G} {dA : Nat → ClassId} {H : Heap} (h : lw_Wd xs base D dA H) : lw_Wj xs base D dA H := by
  obtain ⟨hX, hM⟩ := h
  have hrow : ∀ a : Nat, ∃ rows : List (List xV), ∀ k len, gJ.1 a = some (k, len) → (∀ j, j < len → xat rows j = some (fe (fcl gJ k I0 a j))) ∧ ∀ j x, xat rows j = some x → j < len ∧ x = fe (fcl gJ k I0 a j) := by
    intro a
    cases hg : gJ.1 a with
    | none => exact ⟨[], fun k len e => by cases e⟩
    | some q =>
      obtain ⟨rows, r1, r2⟩ := jgrid (len := q.2) (fun j => fe (fcl gJ q.1 I0 a j))
      exact ⟨rows, fun k len e => by cases e; exact ⟨r1, r2⟩⟩
  obtain ⟨rws, hrw⟩ := Classical.axiomOfChoice hrow
  obtain ⟨hp, p1, p2⟩ := jgrid (len := 761) (fun a => ((((gJ.1 a).getD (0, 0)).1, ((gJ.1 a).getD (0, 0)).2, rws a) : xC))
  refine ⟨I0, hp, j_oI, ?_, ⟨hX.1.1, fun a c _ => Nat.le_add_right _ _, fun q hq => Nat.le_trans (Nat.le_add_right _ _) hq, fun q hq => Nat.le_trans (hX.1.2.2.2 base (Or.inl ⟨Nat.le_refl _, by omega⟩)) hq⟩, ?_⟩
  · intro a k len hg
    have ha : a < 761 := by
      by_cases ha : a < 761
      · exact ha
      · have q := (jfar ha).2.1
        rw [q] at hg
        cases hg
    refine ⟨rws a, ?_, (hrw a k len hg).1⟩
    rw [p1 a ha, hg]
    rfl
  · intro a c ha
    obtain ⟨h761, rfl⟩ := p2 a c ha
    obtain ⟨c0, hc, hg, hx, -⟩ := jcel_of (jc_all a h761)
    obtain ⟨-, r2⟩ := hrw a _ _ hg
    rw [hg]
    show xCR (xext xs) base D dA xTys vwCl a (c0.1, c0.2.1, rws a) H
    by_cases h740 : a < 740
    · have e : jcell a = xat xSX a := by unfold jcell; rw [xblt.mpr h740]; rfl
      have es : jsh a = 0 := by unfold jsh; rw [xblt.mpr h740]; rfl
      rw [e] at hc
      obtain ⟨fs, f1, f2⟩ := hX.2 a c0 hc
      exact ⟨fs, j_FR (by rw [es]; exact f1) r2 (fun j hj => by obtain ⟨x, x1, x2, x3, -⟩ := hx j hj; exact ⟨x, x1, x2, x3⟩), f2⟩
    · have hb : Nat.blt a 740 = false := xnf (fun z => h740 (xblt.mp z))
      have e : jcell a = xat xSM (a - 740) := by unfold jcell; rw [hb]; rfl
      have es : jsh a = 740 := by unfold jsh; rw [hb]; rfl
      rw [e] at hc
      obtain ⟨fs, f1, f2⟩ := hM.2 (a - 740) c0 hc
      rw [show base + 740 + (a - 740) = base + a by omega] at f2
      exact ⟨fs, j_FR (by rw [es]; exact f1) r2 (fun j hj => by obtain ⟨x, x1, x2, x3, -⟩ := hx j hj; exact ⟨x, x1, x2, x3⟩), f2⟩

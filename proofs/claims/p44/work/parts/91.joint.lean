set_option linter.all false
/-! the joint heap at the law's start (written by hand) -/
noncomputable def jcell (a : Nat) : Option xC := cond (Nat.blt a 740) (xat xSX a) (xat xSM (a - 740))
noncomputable def jsh (a : Nat) : Nat := cond (Nat.blt a 740) 0 740
noncomputable def jz (x : xV) : Int := match x with
  | .inl u => cond (Nat.blt u 2147483648) (u : Int) ((u : Int) - 4294967296)
  | _ => 0
noncomputable def I0 : fH := fun a j => match jcell a with
  | some c => cond (Nat.blt j c.2.1) (match xat c.2.2 j with | some x => jz x | none => 0) 0
  | none => 0
noncomputable def jchk (f : Nat → xV → Bool) : List xV → Nat → Bool
  | [], _ => true
  | x :: r, j => Bool.and (f j x) (jchk f r (Nat.succ j))
noncomputable def jlen : List xV → Nat → Bool
  | [], n => Nat.beq n 0
  | _ :: r, n => Bool.and (Nat.blt 0 n) (jlen r (Nat.pred n))
noncomputable def jrows (f : Nat → xV → Bool) (len : Nat) : List (List xV) → Nat → Bool
  | [], j => Nat.ble len j
  | r :: rs, j => Bool.and (Bool.and (jlen r (cond (Nat.ble 64 (Nat.sub len j)) 64 (Nat.sub len j))) (jchk f r j)) (jrows f len rs (Nat.add j 64))
theorem jchk_of {f : Nat → xV → Bool} : ∀ {r : List xV} {j : Nat}, jchk f r j = true → ∀ i x, r[i]? = some x → f (j + i) x = true := by
  intro r
  induction r with
  | nil => intro j _ i x h; cases i <;> cases h
  | cons y r ih =>
    intro j h i x hx
    obtain ⟨h1, h2⟩ := fand h
    cases i with
    | zero => simp at hx; subst hx; exact h1
    | succ i => rw [show j + (i + 1) = Nat.succ j + i by omega]; exact ih h2 i x (by simpa using hx)
theorem jlen_of : ∀ {r : List xV} {n : Nat}, jlen r n = true → r.length = n := by
  intro r
  induction r with
  | nil => intro n h; exact (Nat.eq_of_beq_eq_true h).symm
  | cons y r ih =>
    intro n h
    obtain ⟨h1, h2⟩ := fand h
    have h1 := xblt.mp h1
    have := ih h2
    have e : Nat.pred n = n - 1 := rfl
    rw [List.length_cons]
    omega
theorem jrows_of {f : Nat → xV → Bool} {len : Nat} : ∀ {rs : List (List xV)} {q : Nat}, jrows f len rs (64 * q) = true → ∀ j, 64 * q ≤ j → j < len → ∃ x, ((rs[j / 64 - q]?).bind (fun r => r[j % 64]?)) = some x ∧ f j x = true := by
  intro rs
  induction rs with
  | nil => intro q h j h1 h2; have := Nat.le_of_ble_eq_true h; omega
  | cons r rs ih =>
    intro q h j h1 h2
    obtain ⟨h3, h4⟩ := fand h
    obtain ⟨h5, h6⟩ := fand h3
    have h5 := jlen_of h5
    by_cases e : j / 64 = q
    · rw [show j / 64 - q = 0 by omega]
      have hl : j % 64 < r.length := by
        rw [h5]
        have e2 : Nat.sub len (64 * q) = len - 64 * q := rfl
        rw [e2]
        cases c : Nat.ble 64 (len - 64 * q) with
        | true => show j % 64 < 64; omega
        | false => show j % 64 < len - 64 * q; omega
      refine ⟨r[j % 64], by simp [List.getElem?_eq_getElem hl], ?_⟩
      have := jchk_of h6 (j % 64) _ (List.getElem?_eq_getElem hl)
      rw [show 64 * q + j % 64 = j by omega] at this
      exact this
    · have h4 : jrows f len rs (64 * (q + 1)) = true := by rw [show 64 * (q + 1) = 64 * q + 64 by omega]; exact h4
      obtain ⟨x, hx, hf⟩ := ih h4 j (by omega) h2
      refine ⟨x, ?_, hf⟩
      rw [show j / 64 - q = (j / 64 - (q + 1)) + 1 by omega]
      simpa using hx
/-- a place holds what the joint shape says -/
noncomputable def jok (g : Option Nat) (sh k : Nat) (x : xV) : Bool := match g with
  | some r => (match x with | .inr (.inr (.inl (some r'))) => Nat.beq (Nat.add sh r') r | _ => false)
  | none => (match x with | .inl u => Bool.and (Nat.blt u 4294967296) (Bool.not (Nat.beq k 101)) | .inr (.inr (.inr (.inl u))) => Bool.and (Nat.beq u 0) (Nat.beq k 101) | _ => false)
noncomputable def jbd (b : Int × Int) (z : Int) : Bool := Bool.and (decide (b.1 ≤ z)) (decide (z ≤ b.2))
noncomputable def jent (len : Nat) (l : List fBe) : Bool := l.all (fun q => Nat.blt q.1.2 len)
noncomputable def jcel (a : Nat) : Bool := match jcell a with
  | some c => Bool.and (match fgs shJ a with | some q => Bool.and (Nat.beq q.1 c.1) (Nat.beq q.2 c.2.1) | none => false)
      (match frg btJ a with
        | some l => Bool.and (jent c.2.1 l) (cond (fnr rfJ rtJ a) (jrows (fun j x => Bool.and (jok none (jsh a) c.1 x) (jbd (fbe l j) (jz x))) c.2.1 c.2.2 0) (jrows (fun j x => Bool.and (jok (fgr rfJ rtJ a j) (jsh a) c.1 x) (jbd (fbe l j) (jz x))) c.2.1 c.2.2 0))
        | none => cond (fnr rfJ rtJ a) (jrows (fun _ x => jok none (jsh a) c.1 x) c.2.1 c.2.2 0) (jrows (fun j x => jok (fgr rfJ rtJ a j) (jsh a) c.1 x) c.2.1 c.2.2 0))
  | none => false
noncomputable def jall (lo n : Nat) : Bool := (List.range n).all (fun i => jcel (lo + i))
theorem jz_fin {g : Option Nat} {sh k : Nat} {x : xV} (h : jok g sh k x = true) : fin32 (jz x) := by
  unfold jok at h
  unfold jz
  cases g with
  | some r =>
    match x, h with
    | .inr (.inr (.inl (some r'))), h => exact ⟨by show (-2147483648 : Int) ≤ 0; decide, by show (0 : Int) < 2147483648; decide⟩
  | none =>
    match x, h with
    | .inl u, h =>
      have hu := xblt.mp (fand h).1
      simp only []
      cases c : Nat.blt u 2147483648 with
      | true => have c := xblt.mp c; exact ⟨by show (-2147483648 : Int) ≤ (u : Int); omega, by show (u : Int) < 2147483648; omega⟩
      | false =>
        have c : ¬ u < 2147483648 := fun q => by rw [xblt.mpr q] at c; cases c
        exact ⟨by show (-2147483648 : Int) ≤ (u : Int) - 4294967296; omega, by show (u : Int) - 4294967296 < 2147483648; omega⟩
    | .inr (.inr (.inr (.inl u))), h => exact ⟨by show (-2147483648 : Int) ≤ 0; decide, by show (0 : Int) < 2147483648; decide⟩
theorem jok_fe {g : fG} {sh k a j : Nat} {x : xV} {I : fH} (h : jok (g.2 a j) sh k x = true) (hI : I a j = jz x) : (∃ r, fcl g k I a j = .inr (.inr (some (sh + r))) ∧ x = xRef r) ∨ ∃ u, (x = .inl u ∨ x = xLc u) ∧ fe (fcl g k I a j) = x := by
  unfold fcl
  cases hg : g.2 a j with
  | some r =>
    rw [hg] at h
    unfold jok at h
    match x, h with
    | .inr (.inr (.inl (some r'))), h =>
      have e := Nat.eq_of_beq_eq_true h
      exact Or.inl ⟨r', by rw [← e]; rfl, rfl⟩
  | none =>
    rw [hg] at h
    refine Or.inr ?_
    unfold jok at h
    simp only []
    match x, h with
    | .inl u, h =>
      refine ⟨u, Or.inl rfl, ?_⟩
      obtain ⟨h1, h2⟩ := fand h
      have h1 := xblt.mp h1
      have hk : k ≠ 101 := fun e => by rw [e] at h2; cases h2
      rw [if_neg hk, hI]
      show Sum.inl (ic (jz (.inl u))) = Sum.inl u
      congr 1
      unfold ic
      show ((cond (Nat.blt u 2147483648) (u : Int) ((u : Int) - 4294967296)) % 4294967296).toNat = u
      cases c : Nat.blt u 2147483648 with
      | true => have c := xblt.mp c; show ((u : Int) % 4294967296).toNat = u; omega
      | false =>
        have c : ¬ u < 2147483648 := fun q => by rw [xblt.mpr q] at c; cases c
        show (((u : Int) - 4294967296) % 4294967296).toNat = u
        omega
    | .inr (.inr (.inr (.inl u))), h =>
      refine ⟨u, Or.inr rfl, ?_⟩
      obtain ⟨h1, h2⟩ := fand h
      have e := Nat.eq_of_beq_eq_true h1
      have hk := Nat.eq_of_beq_eq_true h2
      subst e
      rw [if_pos hk, hI]
      rfl
/-- what is checked of a cell -/
theorem jcel_of {a : Nat} (h : jcel a = true) : ∃ c, jcell a = some c ∧ gJ.1 a = some (c.1, c.2.1) ∧ (∀ j, j < c.2.1 → ∃ x, xat c.2.2 j = some x ∧ jok (gJ.2 a j) (jsh a) c.1 x = true ∧ I0 a j = jz x ∧ (bsJ a j).1 ≤ I0 a j ∧ I0 a j ≤ (bsJ a j).2) ∧ ∀ j, ¬ j < c.2.1 → I0 a j = 0 ∧ (bsJ a j).1 ≤ 0 ∧ (0 : Int) ≤ (bsJ a j).2 := by
  unfold jcel at h
  cases hc : jcell a with
  | none => rw [hc] at h; cases h
  | some c =>
    rw [hc] at h
    simp only [] at h
    obtain ⟨h1, h2⟩ := fand h
    refine ⟨c, rfl, ?_, ?_, ?_⟩
    · show fgs shJ a = _
      cases hg : fgs shJ a with
      | none => rw [hg] at h1; cases h1
      | some q =>
        rw [hg] at h1
        obtain ⟨z1, z2⟩ := fand h1
        rw [← Nat.eq_of_beq_eq_true z1, ← Nat.eq_of_beq_eq_true z2]
    · intro j hj
      have hI : ∀ x, xat c.2.2 j = some x → I0 a j = jz x := by
        intro x hx
        unfold I0
        rw [hc]
        simp only [hx, xblt.mpr hj, cond_true]
      cases hb : frg btJ a with
      | some l =>
        rw [hb] at h2
        simp only [] at h2
        obtain ⟨-, h2⟩ := fand h2
        have hbs : bsJ a j = fbe l j := by show fbt btJ a j = _; unfold fbt; rw [hb]
        cases hn : fnr rfJ rtJ a with
        | true =>
          rw [hn, cond_true] at h2
          obtain ⟨x, hx, hf⟩ := jrows_of (q := 0) h2 j (Nat.zero_le _) hj
          obtain ⟨f1, f2⟩ := fand hf
          obtain ⟨f3, f4⟩ := fand f2
          refine ⟨x, hx, ?_, hI x hx, ?_⟩
          · rw [show gJ.2 a j = none from fnr_of hn j]; exact f1
          · rw [hI x hx, hbs]; exact ⟨of_decide_eq_true f3, of_decide_eq_true f4⟩
        | false =>
          rw [hn, cond_false] at h2
          obtain ⟨x, hx, hf⟩ := jrows_of (q := 0) h2 j (Nat.zero_le _) hj
          obtain ⟨f1, f2⟩ := fand hf
          obtain ⟨f3, f4⟩ := fand f2
          exact ⟨x, hx, f1, hI x hx, by rw [hI x hx, hbs]; exact ⟨of_decide_eq_true f3, of_decide_eq_true f4⟩⟩
      | none =>
        rw [hb] at h2
        simp only [] at h2
        have hbs : bsJ a j = (-2147483648, 2147483647) := by show fbt btJ a j = _; unfold fbt; rw [hb]
        cases hn : fnr rfJ rtJ a with
        | true =>
          rw [hn, cond_true] at h2
          obtain ⟨x, hx, hf⟩ := jrows_of (q := 0) h2 j (Nat.zero_le _) hj
          have hz := jz_fin hf
          refine ⟨x, hx, ?_, hI x hx, ?_⟩
          · rw [show gJ.2 a j = none from fnr_of hn j]; exact hf
          · rw [hI x hx, hbs]; exact ⟨hz.1, by show jz x ≤ 2147483647; have := hz.2; omega⟩
        | false =>
          rw [hn, cond_false] at h2
          obtain ⟨x, hx, hf⟩ := jrows_of (q := 0) h2 j (Nat.zero_le _) hj
          have hz := jz_fin hf
          exact ⟨x, hx, hf, hI x hx, by rw [hI x hx, hbs]; exact ⟨hz.1, by show jz x ≤ 2147483647; have := hz.2; omega⟩⟩
    · intro j hj
      refine ⟨?_, ?_⟩
      · unfold I0
        rw [hc]
        simp only []
        rw [show Nat.blt j c.2.1 = false from xnf (fun z => hj (xblt.mp z)), cond_false]
      · cases hb : frg btJ a with
        | none =>
          have hbs : bsJ a j = (-2147483648, 2147483647) := by show fbt btJ a j = _; unfold fbt; rw [hb]
          rw [hbs]
          exact ⟨by decide, by decide⟩
        | some l =>
          rw [hb] at h2
          simp only [] at h2
          obtain ⟨h3, -⟩ := fand h2
          have key : ∀ l : List fBe, jent c.2.1 l = true → fbe l j = (-2147483648, 2147483647) := by
            intro l
            induction l with
            | nil => intro _; rfl
            | cons q l ih =>
              intro hl
              have q1 := xblt.mp (List.all_eq_true.mp hl q List.mem_cons_self)
              unfold fbe
              have e : Nat.ble j q.1.2 = false := by
                cases e : Nat.ble j q.1.2 with
                | false => rfl
                | true => have := Nat.le_of_ble_eq_true e; omega
              rw [e]
              have e2 : Bool.and (Bool.and (Nat.ble q.1.1 j) false) (Nat.ble ((j - q.1.1) % q.2.1.1) q.2.1.2) = false := by cases Nat.ble q.1.1 j <;> rfl
              rw [e2]
              exact ih (List.all_eq_true.mpr (fun y hy => List.all_eq_true.mp hl y (List.mem_cons_of_mem _ hy)))
          have hbs : bsJ a j = (-2147483648, 2147483647) := by show fbt btJ a j = _; unfold fbt; rw [hb]; exact key l h3
          rw [hbs]
          exact ⟨by decide, by decide⟩

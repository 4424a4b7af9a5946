set_option linter.all false
/-! what holds of the row between two calls -/
def okR (r : Rw) : Prop := okA r ∧ okB r
section INV
variable {r : Rw} {a b c g k l m n p q s t v w x y z : Int}
theorem okB_rud (h : okB r) (hn : gt r 13 ≤ 90) (hp : p ≠ 0 ∧ p ≠ 13 ∧ (p < 3610 ∨ 4330 ≤ p)) (hk : ¬ (42 ≤ p ∧ p ≤ 427 ∧ (p - 42) % 20 ≤ 5)) : okB (rud r p v) :=
  okB_of h hn (gt_ne (by omega) (fun q => hp.1 q.symm)) (gt_ne (by omega) (fun q => hp.2.1 q.symm)) (fun i hi => gt_ne (by omega) (fun q => hk (by omega))) (fun i hi => gt_ne (by omega) (by omega))
theorem okR_rud (h : okR r) (hn : gt r 13 ≤ 90) (ha : p < 530 ∨ 866 ≤ p ∨ (p - 530) % 14 = 1 ∨ (p - 530) % 14 = 2 ∨ (p - 530) % 14 = 3 ∨ (p - 530) % 14 = 4 ∨ (p - 530) % 14 = 10 ∨ (p - 530) % 14 = 11 ∨ (p - 530) % 14 = 13) (hp : p ≠ 0 ∧ p ≠ 13 ∧ (p < 3610 ∨ 4330 ≤ p)) (hk : ¬ (42 ≤ p ∧ p ≤ 427 ∧ (p - 42) % 20 ≤ 5)) : okR (rud r p v) :=
  ⟨okA_rud h.1 (fun w h0 h1 => by omega), okB_rud h.2 hn hp hk⟩
theorem n13_rud (hn : gt r 13 ≤ 90) (hp : p ≠ 13) : gt (rud r p v) 13 ≤ 90 := by rw [gt_ne (by omega) (fun q => hp q.symm)]; exact hn
theorem okR_store (h : okR r) (hn : gt r 13 ≤ 90) : okR (oStore r a v).1 := by
  unfold oStore
  split
  · exact okR_rud h hn (by omega) (by omega) (by omega)
  · exact h
theorem okR_air (h : okR r) (hn : gt r 13 ≤ 90) (h5 : gt r 5 ≤ 20) : okR (oAir r c g v).1 := by
  unfold oAir
  generalize (if g = 5 then (99 : Int) else 999999) = m
  split
  · next q =>
    obtain ⟨q1, q2, -⟩ := q
    exact okR_rud h hn (by omega) (by omega) (by omega)
  · exact h
theorem okR_table (h : okR r) (hn : gt r 13 ≤ 90) : okR (oTable r k l v).1 := by
  unfold oTable
  split
  · exact okR_rud h hn (by omega) (by omega) (by omega)
  · exact h
theorem okR_tune (h : okR r) (hn : gt r 13 ≤ 90) (h7 : gt r 7 ≤ 24) : okR (oTune r w k v).1 := by
  unfold oTune
  generalize (if k = 0 then (1 : Int) else 99) = m
  generalize hp : (if k = 0 then (533 : Int) else 541) = p
  have hq : p = 533 ∨ p = 541 := by
    by_cases c : k = 0
    · rw [if_pos c] at hp
      omega
    · rw [if_neg c] at hp
      omega
  split
  · next q =>
    obtain ⟨q1, q2, -⟩ := q
    split
    · exact h
    · exact okR_rud h hn (by omega) (by omega) (by omega)
  · exact h
theorem okR_clean (h : okR r) (hn : gt r 13 ≤ 90) (h7 : gt r 7 ≤ 24) : okR (oClean r w).1 := by
  unfold oClean
  split
  · next q =>
    split
    · exact h
    · exact okR_rud h hn (by omega) (by omega) (by omega)
  · exact h
theorem okA_set {y' : Rw} (h : okA r) (hw : 0 ≤ w) (e : ∀ u : Int, 0 ≤ u → u < 24 → u ≠ w → ∀ j : Int, 0 ≤ j → j < 14 → gt y' (530 + 14 * u + j) = gt r (530 + 14 * u + j)) (hs : w < 24 → -1 ≤ gt y' (539 + 14 * w) ∧ (gt y' (530 + 14 * w) = 5 → gt y' (538 + 14 * w) = 0 → 1 ≤ gt y' (536 + 14 * w)) ∧ (0 ≤ gt y' (542 + 14 * w) ∧ gt y' (542 + 14 * w) ≤ 99) ∧ (gt y' (530 + 14 * w) = 1 → gt y' (535 + 14 * w) ≤ 9) ∧ 0 ≤ gt y' (537 + 14 * w) ∧ gt y' (537 + 14 * w) ≤ 99) : okA y' := fun u hu => by
  by_cases c : (u : Int) = w
  · rw [c]
    exact hs (by omega)
  · have q := h u hu
    have f := e (u : Int) (by omega) (by omega) c
    rw [show 539 + 14 * (u : Int) = 530 + 14 * (u : Int) + 9 by omega, show 538 + 14 * (u : Int) = 530 + 14 * (u : Int) + 8 by omega, show 536 + 14 * (u : Int) = 530 + 14 * (u : Int) + 6 by omega, show 542 + 14 * (u : Int) = 530 + 14 * (u : Int) + 12 by omega, show 535 + 14 * (u : Int) = 530 + 14 * (u : Int) + 5 by omega, show 537 + 14 * (u : Int) = 530 + 14 * (u : Int) + 7 by omega] at q ⊢
    have f0 := f 0 (by omega) (by omega)
    rw [Int.add_zero] at f0
    rw [f 9 (by omega) (by omega), f 8 (by omega) (by omega), f 6 (by omega) (by omega), f 12 (by omega) (by omega), f 5 (by omega) (by omega), f 7 (by omega) (by omega), f0]
    exact q
theorem okA_gone (h : okA r) (hw : 0 ≤ w) : okA (rud r (538 + 14 * w) 1) := by
  have e : ∀ i : Int, 0 ≤ i → i ≠ 538 + 14 * w → gt (rud r (538 + 14 * w) 1) i = gt r i := fun i i0 i1 => gt_ne i0 i1
  refine okA_set h hw (fun u u0 u1 u2 j j0 j1 => e _ (by omega) (by omega)) (fun hw2 => ?_)
  have o := okA_at h (w := w) ⟨hw, hw2⟩
  rw [e (539 + 14 * w) (by omega) (by omega), e (530 + 14 * w) (by omega) (by omega), e (536 + 14 * w) (by omega) (by omega), e (542 + 14 * w) (by omega) (by omega), e (535 + 14 * w) (by omega) (by omega), e (537 + 14 * w) (by omega) (by omega), gt_same (by omega) rfl]
  exact ⟨o.1, fun _ q => absurd q (by decide), o.2.2⟩
theorem okR_sew (h : okR r) (hn : gt r 13 ≤ 90) (h7 : gt r 7 ≤ 24) : okR (oSew r w).1 := by
  unfold oSew
  split
  · next q =>
    split
    · exact h
    · split
      · exact h
      · next q2 q3 =>
        have h1 : okR (rud r 21 (gt r 21 - 1)) := okR_rud h hn (by omega) (by omega) (by omega)
        have e : ∀ i : Int, 0 ≤ i → i ≠ 21 → i ≠ 535 + 14 * w → gt (rud (rud r 21 (gt r 21 - 1)) (535 + 14 * w) (gt r (535 + 14 * w) + 1)) i = gt r i := fun i i0 i1 i2 => by rw [gt_ne i0 i2, gt_ne i0 i1]
        refine ⟨okA_set h.1 (w := w) (by omega) (fun u u0 u1 u2 j j0 j1 => e _ (by omega) (by omega) (by omega)) (fun hw => ?_), okB_rud h1.2 (n13_rud hn (by omega)) (by omega) (by omega)⟩
        have o := okA_at h.1 (w := w) ⟨by omega, hw⟩
        rw [e (539 + 14 * w) (by omega) (by omega) (by omega), e (530 + 14 * w) (by omega) (by omega) (by omega), e (538 + 14 * w) (by omega) (by omega) (by omega), e (536 + 14 * w) (by omega) (by omega) (by omega), e (542 + 14 * w) (by omega) (by omega) (by omega), e (537 + 14 * w) (by omega) (by omega) (by omega), gt_same (by omega) rfl]
        exact ⟨o.1, o.2.1, o.2.2.1, fun _ => by omega, o.2.2.2.2⟩
  · exact h
theorem okR_give (h : okR r) (hn : gt r 13 ≤ 90) (h5 : gt r 5 ≤ 20) : okR (oGive r k c g).1 := by
  unfold oGive
  split
  · next q =>
    obtain ⟨q1, q2, -⟩ := q
    split
    · exact h
    · have h1 : okR (rud r (17 + k) (gt r (17 + k) - g)) := okR_rud h hn (by omega) (by omega) (by omega)
      have hp : 31 + 20 * c ≤ oGiA c k ∧ oGiA c k ≤ 35 + 20 * c := by
        unfold oGiA
        split <;> omega
      exact okR_rud h1 (n13_rud hn (by omega)) (by omega) (by omega) (by omega)
  · exact h
theorem okR_set (h : okR r) (hn : gt r 13 ≤ 90) : okR (oSet r k v).1 := by
  unfold oSet
  split
  · exact okR_rud h hn (by omega) (by omega) (by omega)
  · exact h
theorem okR_be (h : okR r) (hn : gt r 13 ≤ 90) (h8 : gt r 8 ≤ 24) : okR (oBe r p k v).1 := by
  unfold oBe
  split
  · exact okR_rud h hn (by omega) (by omega) (by omega)
  · exact h
theorem okR_drop (h : okR r) (hn : gt r 13 ≤ 90) (h7 : gt r 7 ≤ 24) (h1 : 0 ≤ gt r 1) : okR (oDrop r w).1 := by
  unfold oDrop
  split
  · exact h
  · next q =>
    have hw : oW r w := by
      unfold oStop at q
      by_cases c : oW r w
      · exact c
      · rw [if_neg c] at q
        exact absurd (show cBAD ≠ 0 by decide) q
    have l0 : 0 ≤ sLv r := by
      unfold sLv
      omega
    have e : ∀ i : Int, 0 ≤ i → i ≠ 539 + 14 * w → gt (rud r (539 + 14 * w) (sLv r)) i = gt r i := fun i i0 i1 => gt_ne i0 i1
    refine ⟨okA_set h.1 (w := w) (by omega) (fun u u0 u1 u2 j j0 j1 => e _ (by omega) (by omega)) (fun hw2 => ?_), okB_rud h.2 hn (by omega) (by omega)⟩
    have o := okA_at h.1 (w := w) ⟨by omega, hw2⟩
    show -1 ≤ gt (rud r (539 + 14 * w) (sLv r)) (539 + 14 * w) ∧ _
    rw [e (530 + 14 * w) (by omega) (by omega), e (538 + 14 * w) (by omega) (by omega), e (536 + 14 * w) (by omega) (by omega), e (542 + 14 * w) (by omega) (by omega), e (535 + 14 * w) (by omega) (by omega), e (537 + 14 * w) (by omega) (by omega), gt_same (by omega) rfl]
    exact ⟨by omega, o.2⟩
theorem okR_pers1 (h : okR r) (hn : gt r 13 ≤ 90) (h8 : 0 ≤ gt r 8) : okR (oPers1 r a c s).1 := by
  unfold oPers1
  split
  · have g1 : okR (rud r (870 + 6 * gt r 8) a) := okR_rud h hn (by omega) (by omega) (by omega)
    have m1 := n13_rud (r := r) (p := 870 + 6 * gt r 8) (v := a) hn (by omega)
    have g2 := okR_rud (p := 871 + 6 * gt r 8) (v := c) g1 m1 (by omega) (by omega) (by omega)
    have m2 := n13_rud (p := 871 + 6 * gt r 8) (v := c) m1 (by omega)
    have g3 := okR_rud (p := 872 + 6 * gt r 8) (v := s) g2 m2 (by omega) (by omega) (by omega)
    have m3 := n13_rud (p := 872 + 6 * gt r 8) (v := s) m2 (by omega)
    have g4 := okR_rud (p := 873 + 6 * gt r 8) (v := 0) g3 m3 (by omega) (by omega) (by omega)
    have m4 := n13_rud (p := 873 + 6 * gt r 8) (v := 0) m3 (by omega)
    exact okR_rud g4 m4 (by omega) (by omega) (by omega)
  · exact h
theorem okR_pers (h : okR r) (hn : gt r 13 ≤ 90) (h8 : 0 ≤ gt r 8) : okR (oPers r a c s).1 := by
  unfold oPers
  split
  · exact okR_pers1 h hn h8
  · exact h
theorem okR_lock (h : okR r) (hn : gt r 13 ≤ 90) (h6 : 0 ≤ gt r 6) : okR (oLock r a b v).1 := by
  unfold oLock
  split
  · unfold oNewL
    split
    · have g1 : okR (rud r (430 + 4 * gt r 6) a) := okR_rud h hn (by omega) (by omega) (by omega)
      have m1 := n13_rud (r := r) (p := 430 + 4 * gt r 6) (v := a) hn (by omega)
      have g2 := okR_rud (p := 431 + 4 * gt r 6) (v := b) g1 m1 (by omega) (by omega) (by omega)
      have m2 := n13_rud (p := 431 + 4 * gt r 6) (v := b) m1 (by omega)
      have g3 := okR_rud (p := 432 + 4 * gt r 6) (v := v) g2 m2 (by omega) (by omega) (by omega)
      have m3 := n13_rud (p := 432 + 4 * gt r 6) (v := v) m2 (by omega)
      have g4 := okR_rud (p := 433 + 4 * gt r 6) (v := 0) g3 m3 (by omega) (by omega) (by omega)
      have m4 := n13_rud (p := 433 + 4 * gt r 6) (v := 0) m3 (by omega)
      exact okR_rud g4 m4 (by omega) (by omega) (by omega)
    · exact h
  · exact h
theorem okR_turn {L : Lw} (h : okR r) (hn : gt r 13 ≤ 90) (h6 : gt r 6 ≤ 24) : okR (oTurn r L l p n).1 := by
  unfold oTurn
  split
  · next q =>
    by_cases d : ¬ sDd r p ∧ alw L 1 (sHr r) (nmO r p l)
    · rw [cI_pos d]
      exact okR_rud h hn (by omega) (by omega) (by omega)
    · rw [cI_neg d]
      exact h
  · exact h
theorem okR_birth {L : Lw} (h : okR r) (hn : gt r 13 ≤ 90) (h8 : 0 ≤ gt r 8) : okR (oBirth r L c).1 := by
  unfold oBirth
  split
  · by_cases d : alw L 3 (sHr r) (nmB r)
    · rw [cI_pos d]
      exact okR_pers1 h hn h8
    · rw [cI_neg d]
      exact h
  · exact h
theorem okR_cell (h : okR r) (hn : gt r 13 ≤ 90) (h5 : 0 ≤ gt r 5) (h0 : 0 ≤ gt r 0) : okR (oCell r v).1 := by
  unfold oCell
  split
  · unfold oNewC
    split
    · next q =>
      generalize hm : gt r 5 = m at h5 q
      have e : ∀ i : Int, 0 ≤ i → (i < 30 + 20 * m ∨ 48 + 20 * m ≤ i) → i ≠ 5 → gt (oCell1 r v) i = gt r i := fun i i0 i1 i2 => by
        unfold oCell1
        rw [hm, gt_ne i0 i2, gt_ne i0 (by omega), gt_ne i0 (by omega), gt_cpy i0 (by omega)]
      have e7 : gt (oCell1 r v) (47 + 20 * m) = -1 := by
        unfold oCell1
        rw [hm, gt_ne (by omega) (by omega), gt_same (by omega) rfl]
      show okR (oCell1 r v)
      refine ⟨okA_cg h.1 (fun w w0 w1 => ⟨e _ (by omega) (by omega) (by omega), e _ (by omega) (by omega) (by omega), e _ (by omega) (by omega) (by omega), e _ (by omega) (by omega) (by omega), e _ (by omega) (by omega) (by omega), e _ (by omega) (by omega) (by omega), e _ (by omega) (by omega) (by omega)⟩), ?_⟩
      have f0 := e 0 (by omega) (by omega) (by omega)
      have f13 := e 13 (by omega) (by omega) (by omega)
      have k : ∀ c : Int, 0 ≤ c → c < 20 → gt (oCell1 r v) (47 + 20 * c) = gt r (47 + 20 * c) ∨ gt (oCell1 r v) (47 + 20 * c) = -1 := fun c c0 c1 => by
        by_cases x : c = m
        · rw [x]
          exact Or.inr e7
        · exact Or.inl (e _ (by omega) (by omega) (by omega))
      unfold okB
      rw [f13]
      have b := h.2
      unfold okB at b
      have bd : ∀ a : Nat, inS 0 0 (gt r 13) a → (a : Int) < 90 := fun a ha => by
        unfold inS at ha
        omega
      refine ⟨okM_cg' b.1 f0 (fun c hc => ?_), fun a ha => ?_, fun a d ha hd => ?_⟩
      · by_cases x : (c : Int) = m
        · refine Or.inr ?_
          rw [x]
          refine ⟨by rw [e7]; omega, by rw [e7]; decide, fun _ j j0 j1 => ?_⟩
          unfold oCell1
          rw [hm, gt_ne (by omega) (by omega), gt_ne (by omega) (by omega), gt_ne (by omega) (by omega)]
          show cpy r (30 + 20 * m) (fun _ => 0) 18 (42 + 20 * m + j).toNat = 0
          rw [cpy_at ⟨by omega, by omega⟩]
        · exact Or.inl (fun j j0 j1 => e _ (by omega) (by omega) (by omega))
      · have qa := b.2.1 a ha
        have ba := bd a ha
        rw [e (3610 + 8 * (a : Int)) (by omega) (by omega) (by omega), e (3616 + 8 * (a : Int)) (by omega) (by omega) (by omega), f0]
        refine ⟨qa.1, qa.2.1, qa.2.2.1, ?_⟩
        rcases k (gt r (3610 + 8 * (a : Int))) qa.1.1 (by omega) with x | x
        · rw [x]
          exact qa.2.2.2
        · rw [x]
          omega
      · have ba := bd a ha
        have bb := bd d hd
        rw [e (3610 + 8 * (a : Int)) (by omega) (by omega) (by omega), e (3616 + 8 * (a : Int)) (by omega) (by omega) (by omega), e (3610 + 8 * (d : Int)) (by omega) (by omega) (by omega), e (3616 + 8 * (d : Int)) (by omega) (by omega) (by omega)]
        exact b.2.2 a d ha hd
    · exact h
  · exact h
theorem okR_work (h : okR r) (hn : gt r 13 ≤ 90) (h7 : 0 ≤ gt r 7) : okR (oWork r k c m a b).1 := by
  unfold oWork
  by_cases d : (oC r c ∧ 1 ≤ m ∧ m ≤ 9999) ∧ wFit (gt r 7) (gt r (530 + 14 * a)) k a b
  · rw [cI_pos d]
    unfold oNewW
    split
    · next q =>
      have wf := d.2
      generalize hx : gt r (530 + 14 * a) = x at wf
      generalize hm : gt r 7 = n at h7 q wf
      have e : ∀ i : Int, 0 ≤ i → (i < 530 + 14 * n ∨ 543 + 14 * n ≤ i) → i ≠ 7 → gt (oWork1 r k c m a b) i = gt r i := fun i i0 i1 i2 => by
        unfold oWork1
        rw [hm, gt_ne i0 i2, gt_ne i0 (by omega), gt_ne i0 (by omega), gt_ne i0 (by omega), gt_ne i0 (by omega), gt_ne i0 (by omega), gt_ne i0 (by omega), gt_ne i0 (by omega), gt_cpy i0 (by omega)]
      have z : ∀ i : Int, 530 + 14 * n ≤ i → i < 543 + 14 * n → i ≠ 530 + 14 * n → i ≠ 531 + 14 * n → i ≠ 532 + 14 * n → i ≠ 533 + 14 * n → i ≠ 535 + 14 * n → i ≠ 536 + 14 * n → i ≠ 539 + 14 * n → gt (oWork1 r k c m a b) i = 0 := fun i i0 i1 x1 x2 x3 x4 x5 x6 x7 => by
        unfold oWork1
        rw [hm, gt_ne (by omega) (by omega), gt_ne (by omega) x7, gt_ne (by omega) x6, gt_ne (by omega) x5, gt_ne (by omega) x4, gt_ne (by omega) x3, gt_ne (by omega) x2, gt_ne (by omega) x1]
        show cpy r (530 + 14 * n) (fun _ => 0) 13 i.toNat = 0
        rw [cpy_at ⟨by omega, by omega⟩]
      have v0 : gt (oWork1 r k c m a b) (530 + 14 * n) = k := by
        unfold oWork1
        rw [hm, gt_ne (by omega) (by omega), gt_ne (by omega) (by omega), gt_ne (by omega) (by omega), gt_ne (by omega) (by omega), gt_ne (by omega) (by omega), gt_ne (by omega) (by omega), gt_ne (by omega) (by omega), gt_same (by omega) rfl]
      have v5 : gt (oWork1 r k c m a b) (535 + 14 * n) = a := by
        unfold oWork1
        rw [hm, gt_ne (by omega) (by omega), gt_ne (by omega) (by omega), gt_ne (by omega) (by omega), gt_same (by omega) rfl]
      have v6 : gt (oWork1 r k c m a b) (536 + 14 * n) = b := by
        unfold oWork1
        rw [hm, gt_ne (by omega) (by omega), gt_ne (by omega) (by omega), gt_same (by omega) rfl]
      have v9 : gt (oWork1 r k c m a b) (539 + 14 * n) = -1 := by
        unfold oWork1
        rw [hm, gt_ne (by omega) (by omega), gt_same (by omega) rfl]
      refine ⟨okA_set h.1 (w := n) (by omega) (fun u u0 u1 u2 j j0 j1 => e _ (by omega) (by omega) (by omega)) (fun hw => ?_), ?_⟩
      · rw [v9, v0, v6, v5, z (538 + 14 * n) (by omega) (by omega) (by omega) (by omega) (by omega) (by omega) (by omega) (by omega) (by omega), z (542 + 14 * n) (by omega) (by omega) (by omega) (by omega) (by omega) (by omega) (by omega) (by omega) (by omega), z (537 + 14 * n) (by omega) (by omega) (by omega) (by omega) (by omega) (by omega) (by omega) (by omega) (by omega)]
        unfold wFit at wf
        exact ⟨by omega, fun _ _ => by omega, by omega, fun _ => by omega, by omega⟩
      · exact okB_of h.2 hn (e _ (by omega) (by omega) (by omega)) (e _ (by omega) (by omega) (by omega)) (fun i hi => e _ (by omega) (by omega) (by omega)) (fun i hi => e _ (by omega) (by omega) (by omega))
    · exact h
  · rw [cI_neg d]
    exact h
theorem okR_shed {L : Lw} (h : okR r) (hn : gt r 13 ≤ 90) (h7 : 0 ≤ gt r 7 ∧ gt r 7 ≤ 24) (hc : ∀ w : Int, 0 ≤ w → w < 24 → 0 ≤ gt r (531 + 14 * w) ∧ gt r (531 + 14 * w) ≤ 19) : okR (oShed r L).1 := by
  unfold oShed
  split
  · exact h
  · next q =>
    have o := od_live (r := r) (L := L) (n := (gt r 7).toNat) (k := 0) rfl (by omega)
    generalize od (sRk r L) (gt r 7).toNat 0 = w at q o
    have w24 : w < 24 := by omega
    have c := hc w (by omega) w24
    show okR (sShd r w)
    unfold sShd
    by_cases k : gt r (530 + 14 * w) = 1
    · rw [if_pos k]
      have a1 : okA (sLs r w (gt r (536 + 14 * w))) := okA_ls h.1 (by omega) (by omega) c
      have b1 : okB (sLs r w (gt r (536 + 14 * w))) := by
        unfold sLs
        exact okB_rud (okB_rud h.2 hn (by omega) (by omega)) (n13_rud hn (by omega)) (by omega) (by omega)
      have m1 : gt (sLs r w (gt r (536 + 14 * w))) 13 ≤ 90 := by
        unfold sLs
        exact n13_rud (n13_rud hn (by omega)) (by omega)
      exact ⟨okA_gone a1 (by omega), okB_rud b1 m1 (by omega) (by omega)⟩
    · rw [if_neg k]
      exact ⟨okA_gone h.1 (by omega), okB_rud h.2 hn (by omega) (by omega)⟩
end INV

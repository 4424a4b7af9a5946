set_option linter.all false
/-! what holds between two minutes is kept -/
section OKA
variable {r : Rw} {c g n p q v w x y s : Int}
theorem okA_lo (h : okA r) (hp : p < 530) : okA (rud r p v) := okA_rud h (fun w h0 h1 => ⟨by omega, by omega, by omega, by omega, by omega, by omega, by omega⟩)
theorem okA_co (h : okA r) (hc : 0 ≤ c ∧ c ≤ 19) (hg : 0 ≤ g ∧ g ≤ 4) : okA (sCo r c g n) := by
  unfold sCo
  exact okA_lo (okA_lo h (by omega)) (by omega)
theorem okA_we (h : okA r) (hw : 0 ≤ w) (ha : 0 ≤ gt r (535 + 14 * w)) (hs : 0 ≤ s) : okA (sWe r w s) := fun v hv => by
  have q := h v hv
  have e (k : Int) (h0 : 0 ≤ k) (h1 : k ≠ 535 + 14 * w) (h2 : k ≠ 537 + 14 * w) : gt (sWe r w s) k = gt r k := gt_sWe hw h0 h1 h2
  rw [e (539 + 14 * (v : Int)) (by omega) (by omega) (by omega), e (530 + 14 * (v : Int)) (by omega) (by omega) (by omega), e (538 + 14 * (v : Int)) (by omega) (by omega) (by omega), e (536 + 14 * (v : Int)) (by omega) (by omega) (by omega), e (542 + 14 * (v : Int)) (by omega) (by omega) (by omega)]
  refine ⟨q.1, q.2.1, q.2.2.1, fun hk => ?_, ?_⟩
  rotate_left
  · by_cases ev : (v : Int) = w
    · rw [ev]
      have e7 : gt (sWe r w s) (537 + 14 * w) = mn 99 (s - 100 * mn (s / 100) (gt r (535 + 14 * w))) := by
        unfold sWe
        rw [gt_same (by omega) rfl]
      rw [e7]
      unfold mn
      (repeat' split) <;> omega
    · rw [e (537 + 14 * (v : Int)) (by omega) (by omega) (by omega)]
      exact q.2.2.2.2
  by_cases ev : (v : Int) = w
  · have q4 := q.2.2.2.1 hk
    rw [ev] at q4 ⊢
    have e5 : gt (sWe r w s) (535 + 14 * w) = gt r (535 + 14 * w) - mn (s / 100) (gt r (535 + 14 * w)) := by
      unfold sWe
      rw [gt_ne (by omega) (by omega), gt_same (by omega) rfl]
    have m0 : 0 ≤ mn (s / 100) (gt r (535 + 14 * w)) := by
      unfold mn
      split <;> omega
    omega
  · rw [e (535 + 14 * (v : Int)) (by omega) (by omega) (by omega)]
    exact q.2.2.2.1 hk
theorem okA_b (h : okA r) (hw : 0 ≤ w) (hk : gt r (530 + 14 * w) ≠ 5) : okA (rud r (536 + 14 * w) v) := fun u hu => by
  have q := h u hu
  rw [gt_ne (k' := 539 + 14 * (u : Int)) (by omega) (by omega), gt_ne (k' := 530 + 14 * (u : Int)) (by omega) (by omega), gt_ne (k' := 538 + 14 * (u : Int)) (by omega) (by omega), gt_ne (k' := 542 + 14 * (u : Int)) (by omega) (by omega), gt_ne (k' := 535 + 14 * (u : Int)) (by omega) (by omega), gt_ne (k' := 537 + 14 * (u : Int)) (by omega) (by omega)]
  refine ⟨q.1, fun h5 hg => ?_, q.2.2⟩
  by_cases e : (u : Int) = w
  · rw [e] at h5
    exact absurd h5 hk
  · rw [gt_ne (by omega) (by omega)]
    exact q.2.1 h5 hg
theorem okA_ls (h : okA r) (hw : 0 ≤ w) (hk : gt r (530 + 14 * w) ≠ 5) (hc : 0 ≤ gt r (531 + 14 * w) ∧ gt r (531 + 14 * w) ≤ 19) : okA (sLs r w n) := by
  unfold sLs
  exact okA_lo (okA_b h hw hk) (by omega)
theorem okA_wk (h : okA r) (hw : 0 ≤ w ∧ w < 24) (hc : 0 ≤ gt r (531 + 14 * w) ∧ gt r (531 + 14 * w) ≤ 19) (ha : 0 ≤ gt r (535 + 14 * w)) (hs : 0 ≤ gt r (537 + 14 * w) + sTb r 2 (sLv r) / 10) : okA (sWk r w) := by
  unfold sWk
  split
  · rename_i k1
    unfold sSki
    by_cases cv : sCv r w
    · rw [cI_pos cv]
      exact h
    · rw [cI_neg cv]
      have h2 := okA_we (s := gt r (537 + 14 * w) + sTb r 2 (sLv r) / 10) h hw.1 ha hs
      have e (k : Int) (h0 : 0 ≤ k) (h1 : k ≠ 535 + 14 * w) (h2 : k ≠ 537 + 14 * w) : gt (sWe r w (gt r (537 + 14 * w) + sTb r 2 (sLv r) / 10)) k = gt r k := gt_sWe hw.1 h0 h1 h2
      unfold sSk2
      split
      · exact okA_ls h2 hw.1 (by rw [e _ (by omega) (by omega) (by omega)]; omega) (by rw [e _ (by omega) (by omega) (by omega)]; exact hc)
      · exact h2
  · split
    · unfold sGa
      by_cases dy : dyP (gt r 2) (gt r 3)
      · rw [cI_pos dy]
        exact okA_co (okA_lo h (by omega)) hc (by omega)
      · rw [cI_neg dy]
        exact h
    · split
      · unfold sSti
        split
        · exact h
        · unfold sSti1
          exact okA_co (okA_co (okA_lo (okA_lo h (by omega)) (by omega)) hc (by omega)) hc (by omega)
      · split
        · unfold sRo
          split
          · exact okA_lo (okA_lo h (by omega)) (by omega)
          · exact h
        · split
          · intro u hu
            have q := h u hu
            unfold sPa
            rw [gt_ne (k' := 539 + 14 * (u : Int)) (by omega) (by omega), gt_ne (k' := 539 + 14 * (u : Int)) (by omega) (by omega), gt_ne (k' := 530 + 14 * (u : Int)) (by omega) (by omega), gt_ne (k' := 530 + 14 * (u : Int)) (by omega) (by omega), gt_ne (k' := 542 + 14 * (u : Int)) (by omega) (by omega), gt_ne (k' := 542 + 14 * (u : Int)) (by omega) (by omega), gt_ne (k' := 535 + 14 * (u : Int)) (by omega) (by omega), gt_ne (k' := 535 + 14 * (u : Int)) (by omega) (by omega), gt_ne (k' := 537 + 14 * (u : Int)) (by omega) (by omega), gt_ne (k' := 537 + 14 * (u : Int)) (by omega) (by omega)]
            refine ⟨q.1, fun h5 hg => ?_, q.2.2⟩
            rw [gt_ne (k' := 536 + 14 * (u : Int)) (by omega) (by omega)]
            by_cases e : (u : Int) = w
            · rw [e] at hg ⊢
              rw [gt_same (by omega) rfl] at hg
              rw [gt_same (by omega) rfl]
              split at hg <;> omega
            · rw [gt_ne (by omega) (by omega), gt_ne (by omega) (by omega)] at hg
              rw [gt_ne (by omega) (by omega)]
              exact q.2.1 h5 hg
          · split
            · rename_i k1 k2 k3 k4 k5 k6
              unfold sPr
              split
              · exact h
              · intro u hu
                have q := h u hu
                unfold sPr1
                have e3 (k : Int) (h0 : 0 ≤ k) (h1 : k ≠ 539 + 14 * w) (h2 : k ≠ 540 + 14 * w) (h3 : k ≠ 538 + 14 * w) {a b c : Int} : gt (rud (rud (rud r (539 + 14 * w) a) (540 + 14 * w) b) (538 + 14 * w) c) k = gt r k := by rw [gt_ne h0 h3, gt_ne h0 h2, gt_ne h0 h1]
                rw [e3 (530 + 14 * (u : Int)) (by omega) (by omega) (by omega) (by omega), e3 (536 + 14 * (u : Int)) (by omega) (by omega) (by omega) (by omega), e3 (542 + 14 * (u : Int)) (by omega) (by omega) (by omega) (by omega), e3 (535 + 14 * (u : Int)) (by omega) (by omega) (by omega) (by omega), e3 (537 + 14 * (u : Int)) (by omega) (by omega) (by omega) (by omega)]
                by_cases e : (u : Int) = w
                · rw [e] at q ⊢
                  refine ⟨?_, fun h5 => absurd h5 (by omega), q.2.2⟩
                  rw [gt_ne (by omega) (by omega), gt_ne (by omega) (by omega), gt_same (by omega) rfl]
                  split <;> omega
                · rw [e3 (539 + 14 * (u : Int)) (by omega) (by omega) (by omega) (by omega), e3 (538 + 14 * (u : Int)) (by omega) (by omega) (by omega) (by omega)]
                  exact q
            · exact h
theorem okA_wk1 {i : Nat} (h : okA r) (hi : i < 24) (hc : 0 ≤ gt r (531 + 14 * (i : Int)) ∧ gt r (531 + 14 * (i : Int)) ≤ 19) (ha : 0 ≤ gt r (535 + 14 * (i : Int))) (hs : 0 ≤ gt r (537 + 14 * (i : Int)) + sTb r 2 (sLv r) / 10) : okA (sWk1 i r) := by
  unfold sWk1
  split
  · exact okA_wk h ⟨by omega, by omega⟩ hc ha hs
  · exact h
end OKA
/-! reports -/
def inS (l i n : Int) (a : Nat) : Prop := (a : Int) < l ∨ (i ≤ (a : Int) ∧ (a : Int) < n)
/-- reports of the places below l, and from i on below n -/
def okC (r : Rw) (l i n : Int) : Prop := okM r ∧ (∀ a : Nat, inS l i n a → (0 ≤ gt r (3610 + 8 * (a : Int)) ∧ gt r (3610 + 8 * (a : Int)) ≤ 19) ∧ 0 ≤ gt r (3616 + 8 * (a : Int)) ∧ gt r (3616 + 8 * (a : Int)) ≤ gt r 0 ∧ gt r (47 + 20 * gt r (3610 + 8 * (a : Int))) ≠ gt r (3616 + 8 * (a : Int))) ∧ (∀ a b : Nat, inS l i n a → inS l i n b → a ≠ b → gt r (3610 + 8 * (a : Int)) = gt r (3610 + 8 * (b : Int)) → gt r (3616 + 8 * (a : Int)) ≠ gt r (3616 + 8 * (b : Int)))
def okB (r : Rw) : Prop := okC r 0 0 (gt r 13)
section OKB
variable {r : Rw} {c g n p q v w x y s t l i m : Int}
theorem okC_he {u : Int} (h : okC r l i n) (hi : 0 ≤ i ∧ i < n) (e : u = i) : 0 ≤ gt r (3616 + 8 * u) ∧ gt r (47 + 20 * gt r (3610 + 8 * u)) ≠ gt r (3616 + 8 * u) := by
  have q := h.2.1 i.toNat (Or.inr ⟨by omega, by omega⟩)
  rw [Int.toNat_of_nonneg hi.1, ← e] at q
  exact ⟨q.2.1, q.2.2.2⟩
theorem okC_sub {l' i' n' : Int} (h : okC r l i n) (hs : ∀ a, inS l' i' n' a → inS l i n a) : okC r l' i' n' :=
  ⟨h.1, fun a ha => h.2.1 a (hs a ha), fun a b ha hb => h.2.2 a b (hs a ha) (hs b hb)⟩
theorem okC_old {F : Nat → Int} {i' : Int} (h : okC r l i n) (h0 : 0 ≤ l ∧ l ≤ i) (hi : i < n) (hi' : i' = i + 1) : okC (sKn1 r (gt r (3610 + 8 * i)) F (gt r (3616 + 8 * i))) l i' n := by
  have hin : inS l i n i.toNat := Or.inr ⟨by omega, by omega⟩
  have qi := h.2.1 i.toNat hin
  rw [Int.toNat_of_nonneg (by omega)] at qi
  have sub : ∀ a, inS l i' n a → inS l i n a ∧ a ≠ i.toNat := fun a ha => by
    unfold inS at ha ⊢
    exact ⟨by omega, by omega⟩
  unfold sKn1
  split
  · exact okC_sub h (fun a ha => (sub a ha).1)
  · have e (k : Int) (hk : 3610 ≤ k ∨ (0 ≤ k ∧ k < 42)) {c t : Int} (hc : 0 ≤ c ∧ c ≤ 19) : gt (sKn r c F t) k = gt r k := gt_sKn (by omega) (by omega)
    refine ⟨okM_cg' h.1 ?_ (fun c hc => ?_), fun a ha => ?_, fun a b ha hb hn => ?_⟩
    · exact e 0 (by omega) qi.1
    · by_cases ec : (c : Int) = gt r (3610 + 8 * i)
      · refine Or.inr ?_
        have e7 : gt (sKn r (gt r (3610 + 8 * i)) F (gt r (3616 + 8 * i))) (47 + 20 * (c : Int)) = gt r (3616 + 8 * i) := gt_sKn7 qi.1.1 (by omega)
        exact ⟨by rw [e7]; exact qi.2.2.1, okN_t (by rw [e7]; exact qi.2.1)⟩
      · exact Or.inl (fun k k0 k1 => gt_sKn (by omega) (by omega))
    · obtain ⟨s1, s2⟩ := sub a ha
      have qa := h.2.1 a s1
      rw [e _ (by omega) qi.1, e _ (by omega) qi.1, e 0 (by omega) qi.1]
      refine ⟨qa.1, qa.2.1, qa.2.2.1, ?_⟩
      by_cases ec : gt r (3610 + 8 * (a : Int)) = gt r (3610 + 8 * i)
      · rw [ec, gt_sKn7 qi.1.1 rfl]
        have d := h.2.2 a i.toNat s1 hin s2
        rw [Int.toNat_of_nonneg (by omega)] at d
        exact fun z => d ec z.symm
      · rw [gt_sKn (by omega) (by omega)]
        exact qa.2.2.2
    · rw [e _ (by omega) qi.1, e _ (by omega) qi.1, e _ (by omega) qi.1, e _ (by omega) qi.1]
      exact h.2.2 a b (sub a ha).1 (sub b hb).1 hn
theorem okC_new {l' i' : Int} (h : okC r l i n) (h0 : 0 ≤ l ∧ l ≤ i) (hi : i < n) (hl' : l' = l + 1) (hi' : i' = i + 1) : okC (cpy r (3610 + 8 * l) (fun k : Nat => gt r (3610 + 8 * i + (k : Int))) 8) l' i' n := by
  have lo (k : Int) (hk : 0 ≤ k ∧ k < 3610) : gt (cpy r (3610 + 8 * l) (fun k : Nat => gt r (3610 + 8 * i + (k : Int))) 8) k = gt r k := gt_cpy hk.1 (by omega)
  have at_ (a : Nat) (k : Int) (hk : 0 ≤ k ∧ k < 8) : gt (cpy r (3610 + 8 * l) (fun k : Nat => gt r (3610 + 8 * i + (k : Int))) 8) (3610 + 8 * (a : Int) + k) = gt r (3610 + 8 * ((if (a : Int) = l then i.toNat else a : Nat) : Int) + k) := by
    by_cases e : (a : Int) = l
    · rw [if_pos e]
      have q : ((3610 + 8 * (a : Int) + k).toNat : Int) = 3610 + 8 * (a : Int) + k := Int.toNat_of_nonneg (by omega)
      show cpy _ _ _ _ _ = _
      rw [cpy_at ⟨by omega, by omega⟩]
      show gt r _ = _
      congr 1
      omega
    · rw [if_neg e]
      exact gt_cpy (by omega) (by omega)
  have sub : ∀ a, inS l' i' n a → inS l i n (if (a : Int) = l then i.toNat else a) := fun a ha => by
    unfold inS at ha ⊢
    split <;> omega
  have inj : ∀ a b : Nat, inS l' i' n a → inS l' i' n b → a ≠ b → (if (a : Int) = l then i.toNat else a) ≠ (if (b : Int) = l then i.toNat else b) := fun a b ha hb hn => by
    unfold inS at ha hb
    split <;> split <;> omega
  have s0 (a : Nat) : gt (cpy r (3610 + 8 * l) (fun k : Nat => gt r (3610 + 8 * i + (k : Int))) 8) (3610 + 8 * (a : Int)) = gt r (3610 + 8 * ((if (a : Int) = l then i.toNat else a : Nat) : Int)) := by
    have q := at_ a 0 (by omega)
    rw [Int.add_zero, Int.add_zero] at q
    exact q
  have s6 (a : Nat) : gt (cpy r (3610 + 8 * l) (fun k : Nat => gt r (3610 + 8 * i + (k : Int))) 8) (3616 + 8 * (a : Int)) = gt r (3616 + 8 * ((if (a : Int) = l then i.toNat else a : Nat) : Int)) := by
    have q := at_ a 6 (by omega)
    rw [show 3610 + 8 * (a : Int) + 6 = 3616 + 8 * (a : Int) by omega, show 3610 + 8 * ((if (a : Int) = l then i.toNat else a : Nat) : Int) + 6 = 3616 + 8 * ((if (a : Int) = l then i.toNat else a : Nat) : Int) by omega] at q
    exact q
  refine ⟨okM_cg h.1 (lo 0 (by omega)) (fun c hc => Or.inl (fun k k0 k1 => lo _ (by omega))), fun a ha => ?_, fun a b ha hb hn => ?_⟩
  · have qa := h.2.1 _ (sub a ha)
    rw [s0, s6, lo 0 (by omega), lo _ (by omega)]
    exact qa
  · rw [s0, s0, s6, s6]
    exact h.2.2 _ _ (sub a ha) (sub b hb) (inj a b ha hb hn)
/-- through all reports -/
theorem okC_nf (h : okB r) : ∀ k : Nat, (k : Int) ≤ gt r 13 → okC (nf sCm (0, r) k).2 (nf sCm (0, r) k).1 (k : Int) (gt r 13) ∧ 0 ≤ (nf sCm (0, r) k).1 ∧ (nf sCm (0, r) k).1 ≤ (k : Int) ∧ ∀ q, 0 ≤ q → q < 42 → gt (nf sCm (0, r) k).2 q = gt r q
  | 0, _ => ⟨h, Int.le_refl _, Int.le_refl _, fun _ _ _ => rfl⟩
  | k + 1, hk => by
    obtain ⟨q1, q2, q3, q4⟩ := okC_nf h k (by omega)
    show okC (sCm k (nf sCm (0, r) k)).2 (sCm k (nf sCm (0, r) k)).1 _ _ ∧ 0 ≤ (sCm k (nf sCm (0, r) k)).1 ∧ (sCm k (nf sCm (0, r) k)).1 ≤ _ ∧ ∀ q, 0 ≤ q → q < 42 → gt (sCm k (nf sCm (0, r) k)).2 q = gt r q
    generalize nf sCm (0, r) k = A at q1 q2 q3 q4 ⊢
    have qi := q1.2.1 k (Or.inr ⟨Int.le_refl _, by omega⟩)
    unfold sCm
    split
    · refine ⟨okC_old q1 ⟨q2, q3⟩ (by omega) (by omega), q2, by show A.1 ≤ _; omega, fun q h0 h1 => ?_⟩
      show gt (sKn1 A.2 _ _ _) q = _
      unfold sKn1
      split
      · exact q4 q h0 h1
      · rw [gt_sKn h0 (by omega)]
        exact q4 q h0 h1
    · refine ⟨okC_new q1 ⟨q2, q3⟩ (by omega) rfl (by omega), by show 0 ≤ A.1 + 1; omega, by show A.1 + 1 ≤ _; omega, fun q h0 h1 => ?_⟩
      show gt (cpy A.2 (3610 + 8 * A.1) (fun j : Nat => gt A.2 (3610 + 8 * (k : Int) + (j : Int))) 8) q = gt r q
      rw [gt_cpy h0 (by omega)]
      exact q4 q h0 h1
theorem okB_come (h : okB r) (hn : 0 ≤ gt r 13) : okB (sCome r) ∧ ∀ q, 0 ≤ q → q < 42 → q ≠ 13 → gt (sCome r) q = gt r q := by
  obtain ⟨q1, q2, q3, q4⟩ := okC_nf h (gt r 13).toNat (by omega)
  unfold sCome
  generalize nf sCm (0, r) (gt r 13).toNat = A at q1 q2 q3 q4 ⊢
  have e (k : Int) (h0 : 0 ≤ k) (hk : k ≠ 13) : gt (rud A.2 13 A.1) k = gt A.2 k := gt_ne h0 hk
  refine ⟨?_, fun q h0 h1 h2 => by rw [e q h0 h2]; exact q4 q h0 h1⟩
  have e13 : gt (rud A.2 13 A.1) 13 = A.1 := gt_same (by omega) rfl
  unfold okB
  rw [e13]
  refine ⟨okM_cg q1.1 (e 0 (by omega) (by omega)) (fun c hc => Or.inl (fun k k0 k1 => e _ (by omega) (by omega))), fun a ha => ?_, fun a b ha hb => ?_⟩
  · have s : inS A.1 ((gt r 13).toNat : Int) (gt r 13) a := by
      unfold inS at ha ⊢
      omega
    have qa := q1.2.1 a s
    rw [e _ (by omega) (by omega), e _ (by omega) (by omega), e 0 (by omega) (by omega), e _ (by omega) (by omega)]
    exact qa
  · have s : ∀ a, inS 0 0 A.1 a → inS A.1 ((gt r 13).toNat : Int) (gt r 13) a := fun a ha => by
      unfold inS at ha ⊢
      omega
    rw [e _ (by omega) (by omega), e _ (by omega) (by omega), e _ (by omega) (by omega), e _ (by omega) (by omega)]
    exact q1.2.2 a b (s a ha) (s b hb)
end OKB

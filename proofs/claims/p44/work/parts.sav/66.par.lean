set_option linter.all false
/-! the reference's texts: steps laid one behind another -/
theorem hgt_to {I : fH} {s a lo k h r a' lo' k' r' : Nat} (e : hgt I s a lo k h = some r) (ha : a' = a) (hl : lo' = lo) (hk : k' = k) (hr : r' = r) : hgt I s a' lo' k' h = some r' := by
  subst ha; subst hl; subst hk; subst hr
  exact e
theorem fFr_S {W : List Nat} {I I' : fH} (f : fFr znJ W I I') (hz : W.all (fun z => Bool.and (Nat.blt z 20000) (Bool.not (Nat.beq z 741))) = true) (j : Nat) : I' 741 j = I 741 j := f 741 j (by
  cases c : W.elem (znJ 741 j) with
  | false => rfl
  | true =>
    obtain ⟨q1, q2⟩ := fand (List.all_eq_true.mp hz _ (List.elem_iff.mp c))
    rcases zS_ge j with h | h
    · rw [h] at q2; cases q2
    · have := xblt.mp q1
      omega)
/-- the step at L: its two numbers; all others as they were -/
def sPut (I I' : fH) (A L x y : Int) : Prop := (∀ j : Nat, (j : Int) ≠ A + 2 * L → (j : Int) ≠ A + 2 * L + 1 → I' 741 j = I 741 j) ∧ I' 741 (A + 2 * L).toNat = x ∧ I' 741 (A + 2 * L + 1).toNat = y
/-- steps L .. M - 1 make one number -/
def sOne (I : fH) (A L M : Int) : Prop := 0 ≤ L ∧ L ≤ M ∧ hgt I 741 A.toNat L.toNat (M - L).toNat 0 = some 1
/-- all ahead of step L as it was -/
def sBe (I I' : fH) (A L : Int) : Prop := ∀ j : Nat, (j : Int) < A + 2 * L → I' 741 j = I 741 j
theorem sBe_refl {I : fH} {A L : Int} : sBe I I A L := fun _ _ => rfl
theorem sBe_trans {I I' I'' : fH} {A L L' : Int} (h1 : sBe I I' A L) (h2 : sBe I' I'' A L') (h : L ≤ L') : sBe I I'' A L := fun j hj => (h2 j (by omega)).trans (h1 j hj)
theorem sBe_of {I I' : fH} {A L : Int} (h : ∀ j, I' 741 j = I 741 j) : sBe I I' A L := fun j _ => h j
theorem sBe_put {I I' : fH} {A L x y : Int} (h : sPut I I' A L x y) : sBe I I' A L := fun j hj => h.1 j (by omega) (by omega)
theorem sOne_be {I I' : fH} {A L M : Int} (hA : 0 ≤ A) (h : sOne I A L M) (hb : sBe I I' A M) : sOne I' A L M := by
  obtain ⟨h1, h2, h3⟩ := h
  refine ⟨h1, h2, ?_⟩
  rw [hgt_congr (fun j q1 q2 => hb j (by omega))]
  exact h3
theorem sOne_leaf {I I' : fH} {A L x y : Int} (hA : 0 ≤ A) (hL : 0 ≤ L) (h : sPut I I' A L x y) (hx : x = 0 ∨ (x ≠ 2 ∧ 0 ≤ y ∧ y ≤ 127)) : sOne I' A L (L + 1) := by
  refine ⟨hL, by omega, ?_⟩
  rw [show (L + 1 - L).toNat = 1 by omega]
  show (some 0).bind (hst I' 741 A.toNat (L.toNat + 0)) = some 1
  have e1 : I' 741 (A.toNat + 2 * (L.toNat + 0)) = x := by rw [← h.2.1]; congr 1; omega
  have e2 : I' 741 (A.toNat + 2 * (L.toNat + 0) + 1) = y := by rw [← h.2.2]; congr 1; omega
  exact hst_leaf (by rw [e1, e2]; exact hx) 0
theorem sOne_not {I I' : fH} {A L M x y : Int} (hA : 0 ≤ A) (h1 : sOne I A L M) (h : sPut I I' A M x y) (hx : x = 2 ∧ y = 33) : sOne I' A L (M + 1) := by
  have h2 := sOne_be hA h1 (sBe_put h)
  obtain ⟨q1, q2, q3⟩ := h2
  refine ⟨q1, by omega, ?_⟩
  rw [show (M + 1 - L).toNat = (M - L).toNat + 1 by omega]
  refine Option.bind_eq_some_iff.mpr ⟨1, q3, ?_⟩
  have e1 : I' 741 (A.toNat + 2 * (L.toNat + (M - L).toNat)) = x := by rw [← h.2.1]; congr 1; omega
  have e2 : I' 741 (A.toNat + 2 * (L.toNat + (M - L).toNat) + 1) = y := by rw [← h.2.2]; congr 1; omega
  exact hst_not (by rw [e1]; exact hx.1) (by rw [e2]; exact hx.2) (by omega)
theorem sOne_two {I I' : fH} {A L M N x y : Int} (hA : 0 ≤ A) (h1 : sOne I A L M) (h2 : sOne I A M N) (h : sPut I I' A N x y) (hx : x = 2 ∧ y ≠ 33) : sOne I' A L (N + 1) := by
  have hb := sBe_put h
  have a1 := sOne_be hA h1 (fun j hj => hb j (by have := h2.2.1; omega))
  have a2 := sOne_be hA h2 hb
  obtain ⟨p1, p2, p3⟩ := a1
  obtain ⟨q1, q2, q3⟩ := a2
  refine ⟨p1, by omega, ?_⟩
  rw [show (N + 1 - L).toNat = ((M - L).toNat + (N - M).toNat) + 1 by omega]
  have z : hgt I' 741 A.toNat (L.toNat + (M - L).toNat) (N - M).toNat (0 + 1) = some (1 + 1) := hgt_shift (hgt_to q3 rfl (by omega) rfl rfl) 1
  refine Option.bind_eq_some_iff.mpr ⟨2, hgt_app p3 z, ?_⟩
  have e1 : I' 741 (A.toNat + 2 * (L.toNat + ((M - L).toNat + (N - M).toNat))) = x := by rw [← h.2.1]; congr 1; omega
  have e2 : I' 741 (A.toNat + 2 * (L.toNat + ((M - L).toNat + (N - M).toNat)) + 1) = y := by rw [← h.2.2]; congr 1; omega
  exact hst_two (by rw [e1]; exact hx.1) (by rw [e2]; exact hx.2) (by omega)
theorem sT_of {I : fH} {t : Nat} {M : Int} (h : sOne I (1215 + 200 * (t : Int)) 0 M) (hM : M ≤ 97) (e : I 741 (1214 + 200 * t) = M) : sT I 741 t := by
  obtain ⟨h1, h2, h3⟩ := h
  refine ⟨by omega, by omega, ?_⟩
  rw [e]
  exact hgt_to h3 (by omega) rfl (by omega) rfl
theorem par_be0 {I In Iq : fH} {A L A1 L1 : Int} (h2 : ∀ j, In 741 j = I 741 j) (h3 : sBe In Iq A1 L1) (e1 : A1 = A) (l1 : L ≤ L1) : sBe I Iq A L := fun j hj => (h3 j (by omega)).trans (h2 j)
theorem par_bel {I I1 In Iq : fH} {A L A1 L1 : Int} (h1 : sBe I I1 A L) (h2 : ∀ j, In 741 j = I1 741 j) (h3 : sBe In Iq A1 L1) (e1 : A1 = A) (l1 : L ≤ L1) : sBe I Iq A L := fun j hj => (h3 j (by omega)).trans ((h2 j).trans (h1 j hj))
theorem par_be {I I1 In Iq Is : fH} {A L A1 L1 A2 L2 x y : Int} (h1 : sBe I I1 A L) (h2 : ∀ j, In 741 j = I1 741 j) (h3 : sBe In Iq A1 L1) (h4 : sPut Iq Is A2 L2 x y) (e1 : A1 = A) (e2 : A2 = A) (l1 : L ≤ L1) (l2 : L ≤ L2) : sBe I Is A L := fun j hj => (h4.1 j (by omega) (by omega)).trans (par_bel h1 h2 h3 e1 l1 j hj)
theorem par_one {I1 In Iq Is : fH} {A L M1 A1 L1 M2 A2 L2 M3 x y : Int} (hA : 0 ≤ A) (h1 : sOne I1 A L M1) (h2 : ∀ j, In 741 j = I1 741 j) (h3 : sBe In Iq A1 L1) (h3' : sOne Iq A1 L1 M2) (h4 : sPut Iq Is A2 L2 x y) (e1 : A1 = A) (e2 : A2 = A) (e3 : L1 = M1) (e4 : L2 = M2) (e5 : M3 = M2 + 1) (hx : x = 2 ∧ y ≠ 33) : sOne Is A L M3 := by
  subst e1; subst e2; subst e3; subst e4; subst e5
  exact sOne_two hA (sOne_be hA h1 (fun j hj => (h3 j hj).trans (h2 j))) h3' h4 hx
theorem par_leaf {I Is In : fH} {A L M x y : Int} (hA : 0 ≤ A) (hL : 0 ≤ L) (h : sPut I Is A L x y) (h2 : ∀ j, In 741 j = Is 741 j) (hx : x = 0 ∨ (x ≠ 2 ∧ 0 ≤ y ∧ y ≤ 127)) (e : M = L + 1) : sBe I In A L ∧ sOne In A L M := by
  subst e
  exact ⟨fun j hj => (h2 j).trans (sBe_put h j hj), sOne_be hA (sOne_leaf hA hL h hx) (fun j _ => h2 j)⟩
theorem par_not {I In Ip Iu Is : fH} {A L A1 L1 M1 A2 L2 M3 x y : Int} (hA : 0 ≤ A) (h2 : ∀ j, In 741 j = I 741 j) (h3 : sBe In Ip A1 L1) (h3' : sOne Ip A1 L1 M1) (h5 : ∀ j, Iu 741 j = Ip 741 j) (h4 : sPut Iu Is A2 L2 x y) (e1 : A1 = A) (e2 : A2 = A) (e3 : L1 = L) (e4 : L2 = M1) (e5 : M3 = M1 + 1) (hx : x = 2 ∧ y = 33) : sBe I Is A L ∧ sOne Is A L M3 := by
  subst e1; subst e2; subst e3; subst e4; subst e5
  exact ⟨fun j hj => (h4.1 j (by have := h3'.2.1; omega) (by have := h3'.2.1; omega)).trans ((h5 j).trans ((h3 j hj).trans (h2 j))), sOne_not hA (sOne_be hA h3' (fun j _ => h5 j)) h4 hx⟩
theorem par_par {I In Ie Iw : fH} {A L A1 L1 M1 M3 : Int} (hA : 0 ≤ A) (h2 : ∀ j, In 741 j = I 741 j) (h3 : sBe In Ie A1 L1) (h3' : sOne Ie A1 L1 M1) (h5 : ∀ j, Iw 741 j = Ie 741 j) (e1 : A1 = A) (e3 : L1 = L) (e5 : M3 = M1) : sBe I Iw A L ∧ sOne Iw A L M3 := by
  subst e1; subst e3; subst e5
  exact ⟨fun j hj => (h5 j).trans ((h3 j hj).trans (h2 j)), sOne_be hA h3' (fun j _ => h5 j)⟩

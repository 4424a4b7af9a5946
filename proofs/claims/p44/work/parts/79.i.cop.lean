set_option linter.all false
/-! a city becomes as another -/
abbrev copL : Type := List ((Nat × Nat) × (Nat × Nat))
def copx (x : (Nat × Nat) × (Nat × Nat)) (a j : Nat) : Bool := Nat.ble x.1.1 a && Nat.ble a x.1.2 && Nat.ble x.2.1 j && Nat.blt j x.2.2
def cop (d1 d2 : Nat) (L : copL) (I K : fH) : Prop := ∀ a j, L.any (fun x => copx x a j) = true → K (a + d1) j = I (a + d2) j
theorem copx_of {x : (Nat × Nat) × (Nat × Nat)} {a j : Nat} (h : copx x a j = true) : x.1.1 ≤ a ∧ a ≤ x.1.2 ∧ x.2.1 ≤ j ∧ j < x.2.2 := by
  unfold copx at h
  simp only [Bool.and_eq_true, Nat.ble_eq, Nat.blt_eq] at h
  exact ⟨h.1.1.1, h.1.1.2, h.1.2, h.2⟩
theorem cop_nil {d1 d2 : Nat} {I K : fH} : cop d1 d2 [] I K := fun _ _ h => by cases h
theorem any_cons {x : (Nat × Nat) × (Nat × Nat)} {L : copL} {a j : Nat} (h : (x :: L).any (fun x => copx x a j) = true) : copx x a j = true ∨ L.any (fun x => copx x a j) = true := by
  rw [List.any_cons] at h
  exact Bool.or_eq_true_iff.mp h
theorem cop_row {d1 d2 a n A B : Nat} {m : Int} {L : copL} {I J K : fH} (h : cop d1 d2 L I J) (e : K = fcpy J A 0 B 0 m) (hm : m = (n : Int)) (hA : A = a + d2) (hB : B = a + d1) (hs : ∀ j, j < n → J A j = I A j) (hL : L.all (fun x => Nat.blt a x.1.1 || Nat.blt x.1.2 a) = true) : cop d1 d2 (((a, a), (0, n)) :: L) I K := fun a' j hx => by
  subst hA
  subst hB
  rcases any_cons hx with q | q
  · obtain ⟨q1, q2, q3, q4⟩ := copx_of q
    have ea : a' = a := Nat.le_antisymm q2 q1
    subst ea
    rw [fcpy_in e (by rw [hm]; exact Int.ofNat_lt.mpr q4)]
    exact hs j q4
  · obtain ⟨x, hx1, hx2⟩ := List.any_eq_true.mp q
    obtain ⟨q1, q2, q3, q4⟩ := copx_of hx2
    have q5 := List.all_eq_true.mp hL x hx1
    simp only [Bool.or_eq_true, Nat.blt_eq] at q5
    rw [fcpy_oth e (by omega)]
    exact h a' j q
theorem cop_fld {d1 d2 a j0 A : Nat} {v : Int} {L : copL} {I J K : fH} (h : cop d1 d2 L I J) (e : K = fupd J A j0 v) (hA : A = a + d1) (hv : v = I (a + d2) j0) (hL : L.all (fun x => Bool.not (copx x a j0)) = true) : cop d1 d2 (((a, a), (j0, j0 + 1)) :: L) I K := fun a' j hx => by
  subst hA
  rcases any_cons hx with q | q
  · obtain ⟨q1, q2, q3, q4⟩ := copx_of q
    have ea : a' = a := Nat.le_antisymm q2 q1
    have ej : j = j0 := by
      have q3 : j0 ≤ j := q3
      have q4 : j < j0 + 1 := q4
      omega
    subst ea
    subst ej
    rw [e, ← hv]
    exact if_pos ⟨rfl, rfl⟩
  · rw [e]
    have ne : ¬ (a' = a ∧ j = j0) := fun w => by
      obtain ⟨x, hx1, hx2⟩ := List.any_eq_true.mp q
      have q5 := List.all_eq_true.mp hL x hx1
      rw [w.1, w.2] at hx2
      rw [hx2] at q5
      cases q5
    show (if a' + d1 = a + d1 ∧ j = j0 then v else J (a' + d1) j) = _
    rw [if_neg (fun w => ne ⟨by omega, w.2⟩)]
    exact h a' j q
/-- places of a list, all in zones that are not written -/
def copz (W : List Nat) (d : Nat) (L : copL) : Bool := L.all (fun x => (List.range (x.1.2 + 1)).all (fun a => Nat.blt a x.1.1 || (List.range x.2.2).all (fun j => Nat.blt j x.2.1 || zin W (znJ (a + d) j))))
theorem copz_of {W : List Nat} {d : Nat} {L : copL} {a j : Nat} (h : copz W d L = true) (hx : L.any (fun x => copx x a j) = true) : W.elem (znJ (a + d) j) = false := by
  obtain ⟨x, hx1, hx2⟩ := List.any_eq_true.mp hx
  obtain ⟨q1, q2, q3, q4⟩ := copx_of hx2
  have p := List.all_eq_true.mp (List.all_eq_true.mp h x hx1) a (List.mem_range.mpr (by omega))
  rcases Bool.or_eq_true_iff.mp p with p | p
  · exact absurd (Nat.blt_eq.mp p) (by omega)
  · have p2 := List.all_eq_true.mp p j (List.mem_range.mpr (by omega))
    rcases Bool.or_eq_true_iff.mp p2 with p2 | p2
    · exact absurd (Nat.blt_eq.mp p2) (by omega)
    · exact zin_el p2
theorem cop_rows {d1 d2 a m n A B : Nat} {W : List Nat} {L : copL} {I J K : fH} (h : cop d1 d2 L I J) (f : fFr znJ W J K) (e : ∀ i, i < m → ∀ j, j < n → K (B + i) j = J (A + i) j) (hA : A = a + d2) (hB : B = a + d1) (hs : ∀ i j, i < m → j < n → J (A + i) j = I (A + i) j) (hm : 0 < m) (hL : copz W d1 L = true) : cop d1 d2 (((a, a + m - 1), (0, n)) :: L) I K := fun a' j hx => by
  subst hA
  subst hB
  rcases any_cons hx with q | q
  · obtain ⟨q1, q2, q3, q4⟩ := copx_of q
    have q1 : a ≤ a' := q1
    have q2 : a' ≤ a + m - 1 := q2
    have q4 : j < n := q4
    have e1 := e (a' - a) (by omega) j q4
    have e2 := hs (a' - a) j (by omega) q4
    rw [show a + d1 + (a' - a) = a' + d1 by omega] at e1
    rw [show a + d2 + (a' - a) = a' + d2 by omega] at e1 e2
    rw [e1, e2]
  · rw [f _ _ (copz_of hL q)]
    exact h a' j q
/-- two lists, one behind the other -/
theorem cop_add {d1 d2 : Nat} {W0 W : List Nat} {L1 L2 : copL} {I J K : fH} (h : cop d1 d2 L1 I J) (g : cop d1 d2 L2 J K) (f0 : fFr znJ W0 I J) (f : fFr znJ W J K) (c1 : copz W d1 L1 = true) (c2 : copz W0 d2 L2 = true) : cop d1 d2 (L1 ++ L2) I K := fun a j hx => by
  rw [List.any_append] at hx
  rcases Bool.or_eq_true_iff.mp hx with q | q
  · rw [f _ _ (copz_of c1 q)]
    exact h a j q
  · rw [g a j q]
    exact f0 _ _ (copz_of c2 q)
def copc (L : copL) : Bool := (List.range 4330).all (fun r => !covb r || L.any (fun x => copx x (rwAJ r).1 (rwAJ r).2)) && (List.range 20).all (fun c => L.any (fun x => copx x (48 + c) 5))
theorem cR_cop {d1 d2 : Nat} {L : copL} {I K : fH} (h : cop d1 d2 L I K) (hc : copc L = true) : cR d1 K = cR d2 I := by
  obtain ⟨c1, c2⟩ := Bool.and_eq_true_iff.mp hc
  funext r
  unfold cR
  by_cases c : covb r = true
  · have e1 := h _ _ (bor_of (List.all_eq_true.mp c1 r (List.mem_range.mpr (covb_lt c))) c)
    rw [if_pos c, if_pos c]
    by_cases s1 : (rwAJ r).1 = 175
    · rw [if_pos s1, if_pos s1, ← s1, e1]
    · rw [if_neg s1, if_neg s1]
      by_cases s2 : 48 ≤ (rwAJ r).1 ∧ (rwAJ r).1 ≤ 67
      · have e2 := h (rwAJ r).1 5 (by
          have q := List.all_eq_true.mp c2 ((rwAJ r).1 - 48) (List.mem_range.mpr (by omega))
          rw [show 48 + ((rwAJ r).1 - 48) = (rwAJ r).1 by omega] at q
          exact q)
        rw [if_pos s2, if_pos s2, e2, e1]
      · rw [if_neg s2, if_neg s2, e1]
  · rw [if_neg c, if_neg c]
/-- minutes on end -/
noncomputable def nMin (r : Rw) (n : Nat) : Rw := nf (fun _ s => sMin s) r n
theorem nMin_S {r R1 R2 : Rw} {m m' : Int} (h : R1 = nMin r m.toNat) (hm : 0 ≤ m) (hm' : m' = m + 1) (e : R2 = sMin R1) : R2 = nMin r m'.toNat := nf_row h hm hm' e
theorem nMin_add {r : Rw} {a b : Nat} : nMin (nMin r a) b = nMin r (a + b) := by
  induction b with
  | zero => rfl
  | succ b ih =>
    show sMin (nMin (nMin r a) b) = sMin (nMin r (a + b))
    rw [ih]
/-- the image's row -/
def iR (I : fH) : Rw := fun r => if covb r = true then I 742 r else 0
theorem iR_to {I K : fH} (h : ∀ j : Nat, j < 4900 → K 742 j = I 741 j) : iR K = mR I := by
  funext r
  show (if covb r = true then K 742 r else 0) = (if covb r = true then I 741 r else 0)
  by_cases c : covb r = true
  · rw [if_pos c, if_pos c, h r (by have := covb_lt c; omega)]
  · rw [if_neg c, if_neg c]
theorem iR_from {I K : fH} (h : ∀ j : Nat, j < 4900 → K 741 j = I 742 j) : mR K = iR I := by
  funext r
  show (if covb r = true then K 741 r else 0) = (if covb r = true then I 742 r else 0)
  by_cases c : covb r = true
  · rw [if_pos c, if_pos c, h r (by have := covb_lt c; omega)]
  · rw [if_neg c, if_neg c]
theorem iR_fr {W : List Nat} {I I' : fH} (f : fFr znJ W I I') (h : zin W (znJ 742 0) = true) (hz : ∀ j, znJ 742 j = znJ 742 0) : iR I' = iR I := by
  funext r
  show (if covb r = true then I' 742 r else 0) = (if covb r = true then I 742 r else 0)
  rw [f 742 r (by rw [hz]; exact zin_el h)]
theorem rwAJ_pos {r : Nat} (h : covb r = true) : 1 ≤ (rwAJ r).1 := by
  have q : (List.range 4330).all (fun r => !covb r || Nat.ble 1 (rwAJ r).1) = true := by decide +kernel
  exact Nat.ble_eq.mp (bor_of (List.all_eq_true.mp q r (List.mem_range.mpr (covb_lt h))) h)
theorem cR_o0 {d o j : Nat} {I K : fH} {v : Int} (e : K = fupd I o j v) (h : o ≤ d) : cR d K = cR d I :=
  cR_cg (fun r hr => by rw [e]; exact if_neg (fun w => by have w1 := w.1; have p := rwAJ_pos hr; omega)) (fun a ha => by rw [e]; exact if_neg (fun w => by have w1 := w.1; omega))
abbrev cpW : copL := [((163, 163), (13, 14)), ((176, 176), (0, 24)), ((175, 175), (0, 24)), ((174, 174), (0, 24)), ((173, 173), (0, 24)), ((172, 172), (0, 24)), ((171, 171), (0, 24)), ((170, 170), (0, 24)), ((169, 169), (0, 24)), ((168, 168), (0, 24)), ((167, 167), (0, 24)), ((166, 166), (0, 24)), ((165, 165), (0, 24)), ((164, 164), (0, 24))]
abbrev cpP : copL := [((177, 177), (4, 5)), ((181, 181), (0, 24)), ((180, 180), (0, 24)), ((179, 179), (0, 24)), ((178, 178), (0, 24))]
abbrev cpC : copL := [((2, 2), (12, 13)), ((73, 162), (0, 8)), ((2, 2), (10, 11)), ((71, 71), (0, 24)), ((70, 70), (0, 24)), ((69, 69), (0, 24)), ((68, 68), (0, 24)), ((2, 2), (5, 6)), ((48, 67), (0, 6)), ((27, 46), (0, 5)), ((6, 25), (0, 5)), ((4, 4), (0, 20)), ((3, 3), (0, 20))]
abbrev cpA : copL := (((1, 1), (9, 10)) :: (((1, 1), (8, 9)) :: (((1, 1), (7, 8)) :: (((1, 1), (6, 7)) :: (((1, 1), (5, 6)) :: (((184, 186), (0, 61)) :: (((182, 182), (0, 6)) :: ((cpC ++ cpW) ++ cpP))))))))
theorem cpA_ok : copc cpA = true := by decide +kernel

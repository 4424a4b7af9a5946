set_option linter.all false
/-! the law's walk: its calls two by two, round by round (written by gen91.py) -/
section LWB
variable {p : Program} {e : Env} {s : State} {m : MethodId} {below : List Frame} {meth : Method} {c : Code} {la : Launch} {b L : Nat} {xs : Nat → Int32} {D : va_G} {dA : Nat → ClassId}
theorem dl_0 : decode code 0 = .ok (.new 7, 3) := by decide +kernel
theorem dl_3 : decode code 3 = .ok (.dup, 1) := by decide +kernel
theorem dl_4 : decode code 4 = .ok (.invokespecial 9, 3) := by decide +kernel
theorem dl_7 : decode code 7 = .ok (.astore_n 1, 1) := by decide +kernel
theorem dl_8 : decode code 8 = .ok (.new 10, 3) := by decide +kernel
theorem dl_11 : decode code 11 = .ok (.dup, 1) := by decide +kernel
theorem dl_12 : decode code 12 = .ok (.invokespecial 12, 3) := by decide +kernel
theorem dl_15 : decode code 15 = .ok (.astore_n 2, 1) := by decide +kernel
theorem dl_16 : decode code 16 = .ok (.iconst 0, 1) := by decide +kernel
theorem dl_17 : decode code 17 = .ok (.istore_n 3, 1) := by decide +kernel
theorem dl_18 : decode code 18 = .ok (.iload_n 3, 1) := by decide +kernel
theorem dl_19 : decode code 19 = .ok (.aload_n 0, 1) := by decide +kernel
theorem dl_20 : decode code 20 = .ok (.arraylength, 1) := by decide +kernel
theorem dl_21 : decode code 21 = .ok (.bipush 6, 2) := by decide +kernel
theorem dl_23 : decode code 23 = .ok (.isub, 1) := by decide +kernel
theorem dl_24 : decode code 24 = .ok (.if_icmp .gt 2368, 3) := by decide +kernel
theorem dl_27 : decode code 27 = .ok (.aload_n 0, 1) := by decide +kernel
theorem dl_28 : decode code 28 = .ok (.iload_n 3, 1) := by decide +kernel
theorem dl_29 : decode code 29 = .ok (.iaload, 1) := by decide +kernel
theorem dl_30 : decode code 30 = .ok (.bipush 63, 2) := by decide +kernel
theorem dl_32 : decode code 32 = .ok (.iand, 1) := by decide +kernel
theorem dl_33 : decode code 33 = .ok (.tableswitch 2353 0 63 #[271, 294, 337, 370, 413, 456, 489, 532, 595, 628, 661, 704, 727, 750, 773, 796, 839, 872, 895, 918, 961, 1004, 1037, 1060, 1103, 1126, 1139, 1172, 1195, 1228, 1241, 1284, 1307, 1340, 1363, 1376, 1389, 1432, 1475, 1508, 1541, 1604, 1647, 1680, 1703, 1736, 1769, 1822, 1855, 1898, 1931, 1974, 2007, 2050, 2073, 2106, 2129, 2172, 2205, 2238, 2261, 2304, 2317, 2330], 271) := by decide +kernel
theorem dl_2386 : decode code 2386 = .ok (.iinc 3 6, 3) := by decide +kernel
theorem dl_2389 : decode code 2389 = .ok (.goto (-2371), 3) := by decide +kernel
theorem dl_2392 : decode code 2392 = .ok (.iconst 1, 1) := by decide +kernel
theorem dl_2393 : decode code 2393 = .ok (.ireturn, 1) := by decide +kernel
/-- at the head of the loop, the script read -/
theorem lw_exit (C : lw_Cx p s m meth c b L xs D dA) {H : Heap} {locs : List Loc} {cells slots : Nat} {ls : Array Slot} {x3 : Int32} {l3 : List (Nat × Value)} (hS : va_S (fun q => s.heap.size ≤ q) s.heap H locs) (hl : lv_has ls 4 ((3, .int x3) :: (0, .ref b) :: l3)) (hc : cells ≤ 600000) (hs : slots ≤ 7302250) (hgt : Int32.ofNat L - 6 < x3) : W p la e room_1 s m #[Value.ref b] below meth c H locs cells slots (lw_Z below #[Value.ref b] s) (F0 m 18 ls []) := by
  obtain ⟨⟨hx, hb, hr, hml, hown, hts, hX, hbl, hlocks, hgv⟩, hK, hKA⟩ := C
  have hbA : ¬ (fun q : Nat => s.heap.size ≤ q) b := Nat.not_le.mpr hbl
  refine lv_iload_n hx hb dl_18 rfl (lv_at hl 0 rfl) ?_
  refine lv_aload_n hx hb dl_19 rfl (lv_at hl 1 rfl) ?_
  refine va_slen hx hb hX hbl hbA hS dl_20 ?_
  refine lv_bipush (v := 6) hx hb dl_21 (by decide) ?_
  refine lv_isub hx hb dl_23 ?_
  refine lv_icmp_gt (tgt := 2392) hx hb dl_24 (by decide) (fun _ => ?_) (fun q => absurd hgt q)
  refine lv_iconst (v := 1) hx hb dl_2392 (by decide) ?_
  refine va_forget (fun q hq => hS.2.2 q hq) ?_
  refine W.widen (k := 600000) (n := 7302250) hc hs ?_
  exact lw_ret hx hb hr hlocks dl_2393
/-- the two objects -/
def lw_Wd (xs : Nat → Int32) (base : Nat) (D : va_G) (dA : Nat → ClassId) (H : Heap) : Prop := xHR (xext xs) base (xFx base) D dA xTys vwCl xSX 761 H ∧ xHR (xext xs) (base + 740) (xFm base) D dA xTys vwCl xSM 21 H
/-- what both sides count alike -/
def oP (I : fH) : Prop := I 741 0 ≤ 20000 ∧ I 699 1 = I 740 8 ∧ I 0 14 = I 740 37 ∧ I 0 6 = I 740 3 ∧ I 1 9 = I 741 0 ∧ I 2 5 = I 741 5 ∧ I 2 10 = I 741 6 ∧ I 211 8 = I 741 10 ∧ I 211 11 = I 741 11 ∧ I 211 15 = I 741 12 ∧ I 163 13 = I 741 7 ∧ I 257 9 = I 742 0 ∧ I 258 5 = I 742 5 ∧ I 258 10 = I 742 6 ∧ I 467 8 = I 742 10 ∧ I 467 11 = I 742 11 ∧ I 467 15 = I 742 12 ∧ I 419 13 = I 742 7
/-- a table of the class and its place in the reference's row -/
def rT (I : fH) (c m n b base s t : Nat) : Prop := ∀ i j : Nat, i < m → j < n → I (c + i) j = I b (base + s * i + t * j)
def rTz (W : List Nat) (c m n b base s t : Nat) : Bool := (List.range m).all (fun i => (List.range n).all (fun j => Bool.and (Bool.not (W.elem (znJ (c + i) j))) (Bool.not (W.elem (znJ b (base + s * i + t * j))))))
def rTi (Z : List Nat) (c m n b base s t : Nat) : Bool := (List.range m).all (fun i => (List.range n).all (fun j => Bool.and (Z.elem (znJ (c + i) j)) (Z.elem (znJ b (base + s * i + t * j)))))
theorem bnot_el {W : List Nat} {z : Nat} (h : Bool.not (W.elem z) = true) : W.elem z = false := by
  cases c : W.elem z with
  | false => rfl
  | true => rw [c] at h; cases h
theorem rTz_of {W : List Nat} {c m n b base s t i j : Nat} (h : rTz W c m n b base s t = true) (hi : i < m) (hj : j < n) : W.elem (znJ (c + i) j) = false ∧ W.elem (znJ b (base + s * i + t * j)) = false := by
  obtain ⟨q1, q2⟩ := fand (List.all_eq_true.mp (List.all_eq_true.mp h i (List.mem_range.mpr hi)) j (List.mem_range.mpr hj))
  exact ⟨bnot_el q1, bnot_el q2⟩
theorem rTz_sub {W Z : List Nat} {c m n b base s t : Nat} (h : rTi Z c m n b base s t = true) (w : Z.all (fun z => Bool.not (W.elem z)) = true) : rTz W c m n b base s t = true := by
  refine List.all_eq_true.mpr (fun i hi => List.all_eq_true.mpr (fun j hj => ?_))
  obtain ⟨q1, q2⟩ := fand (List.all_eq_true.mp (List.all_eq_true.mp h i hi) j hj)
  rw [List.all_eq_true.mp w _ (List.elem_iff.mp q1), List.all_eq_true.mp w _ (List.elem_iff.mp q2)]
  rfl
theorem rT_fr {W : List Nat} {I I' : fH} {c m n b base s t : Nat} (h : rT I c m n b base s t) (f : fFr znJ W I I') (hz : rTz W c m n b base s t = true) : rT I' c m n b base s t := fun i j hi hj => by
  obtain ⟨z1, z2⟩ := rTz_of hz hi hj
  rw [f _ _ z1, f _ _ z2]
  exact h i j hi hj
/-- one place of both becomes the same -/
theorem rT_set {I I1 I2 : fH} {c m n base s t i0 j0 k0 : Nat} {v : Int} (h : rT I c m n 741 base s t) (e1 : I1 = fupd I (c + i0) j0 v) (e2 : I2 = fupd I1 741 k0 v) (hk : k0 = base + s * i0 + t * j0) (hi : i0 < m) (hj : j0 < n) (hc : c + m ≤ 741) (inj : ∀ i j, i < m → j < n → base + s * i + t * j = base + s * i0 + t * j0 → i = i0 ∧ j = j0) : rT I2 c m n 741 base s t ∧ I (c + i0) j0 = I1 741 k0 := by
  subst hk
  refine ⟨fun i j hi' hj' => ?_, ?_⟩
  · rw [fup_other e2 (c + i) j (Or.inl (by omega))]
    by_cases q : i = i0 ∧ j = j0
    · rw [q.1, q.2, fup_self e1, fup_self e2]
    · rw [fup_other e1 (c + i) j (by omega), fup_other e2 741 _ (Or.inr (fun z => q (inj i j hi' hj' z))), fup_other e1 741 _ (Or.inl (by omega))]
      exact h i j hi' hj'
  · rw [fup_other e1 741 _ (Or.inl (by omega))]
    exact h i0 j0 hi hj
/-- one more of both -/
theorem rT_grow {W1 W2 : List Nat} {I I1 I2 : fH} {c n base t : Nat} {v z1 z2 : Int} (h : rT I c 1 n 741 base 0 t) (f1 : fFr znJ W1 I I1) (f2 : fFr znJ W2 I1 I2) (r1 : ∀ j : Nat, I1 c j = if (j : Int) = z1 then v else I c j) (r2 : ∀ j : Nat, j < n → I2 741 (base + t * j) = if (j : Int) = z2 then v else I1 741 (base + t * j)) (hz : z1 = z2) (w1 : (List.range n).all (fun j => Bool.not (W1.elem (znJ 741 (base + t * j)))) = true) (w2 : (List.range n).all (fun j => Bool.not (W2.elem (znJ c j))) = true) : rT I2 c 1 n 741 base 0 t := fun i j hi hj => by
  have e : i = 0 := by omega
  subst e
  show I2 (c + 0) j = I2 741 (base + 0 * 0 + t * j)
  rw [Nat.add_zero, Nat.mul_zero, Nat.add_zero]
  rw [f2 c j (bnot_el (List.all_eq_true.mp w2 j (List.mem_range.mpr hj))), r1 j, r2 j hj, f1 741 _ (bnot_el (List.all_eq_true.mp w1 j (List.mem_range.mpr hj))), hz]
  have q := h 0 j hi hj
  rw [Nat.add_zero, Nat.mul_zero, Nat.add_zero] at q
  rw [q]
/-- the reference's row is as it was, the class's cells too -/
def rTc (W : List Nat) (c m n : Nat) : Bool := (List.range m).all (fun i => (List.range n).all (fun j => Bool.not (W.elem (znJ (c + i) j))))
theorem rTc_of {W : List Nat} {c m n i j : Nat} (h : rTc W c m n = true) (hi : i < m) (hj : j < n) : W.elem (znJ (c + i) j) = false := bnot_el (List.all_eq_true.mp (List.all_eq_true.mp h i (List.mem_range.mpr hi)) j (List.mem_range.mpr hj))
theorem rT_chk {W1 W2 : List Nat} {I I1 I2 : fH} {c m n base s t : Nat} (h : rT I c m n 741 base s t) (f1 : fFr znJ W1 I I1) (f2 : fFr znJ W2 I1 I2) (w1 : rTz W1 c m n 741 base s t = true) (w2 : rTc W2 c m n = true) (q : ∀ j : Nat, j < 4900 → I2 741 j = I1 741 j) (hb : base + s * m + t * n < 4900) : rT I2 c m n 741 base s t := fun i j hi hj => by
  obtain ⟨z1, z2⟩ := rTz_of w1 hi hj
  have b1 : s * i ≤ s * m := Nat.mul_le_mul_left s (Nat.le_of_lt hi)
  have b2 : t * j ≤ t * n := Nat.mul_le_mul_left t (Nat.le_of_lt hj)
  rw [f2 _ _ (rTc_of w2 hi hj), q _ (by omega), f1 _ _ z1, f1 _ _ z2]
  exact h i j hi hj
/-- an image is kept -/
theorem rT_keep {W1 W2 : List Nat} {I I1 I2 : fH} {c d m n base s t : Nat} (h : rT I c m n 741 base s t) (f2 : fFr znJ W2 I1 I2) (r1 : ∀ i j : Nat, i < m → j < n → I1 (d + i) j = I (c + i) j) (f1 : fFr znJ W1 I I1) (w1 : rTz W1 c m n 741 base s t = true) (w2 : rTc W2 d m n = true) (q : ∀ j : Nat, j < 4900 → I2 742 j = I1 741 j) (hb : base + s * m + t * n < 4900) : rT I2 d m n 742 base s t := fun i j hi hj => by
  obtain ⟨z1, z2⟩ := rTz_of w1 hi hj
  have b1 : s * i ≤ s * m := Nat.mul_le_mul_left s (Nat.le_of_lt hi)
  have b2 : t * j ≤ t * n := Nat.mul_le_mul_left t (Nat.le_of_lt hj)
  rw [f2 _ _ (rTc_of w2 hi hj), q _ (by omega), r1 i j hi hj, f1 _ _ z2]
  exact h i j hi hj
/-- all is as the image -/
theorem rT_back {W1 W2 : List Nat} {I I1 I2 : fH} {c d m n base s t : Nat} (h : rT I d m n 742 base s t) (f2 : fFr znJ W2 I1 I2) (r1 : ∀ i j : Nat, i < m → j < n → I1 (c + i) j = I (d + i) j) (f1 : fFr znJ W1 I I1) (w1 : rTz W1 d m n 742 base s t = true) (w2 : rTc W2 c m n = true) (q : ∀ j : Nat, j < 4900 → I2 741 j = I1 742 j) (hb : base + s * m + t * n < 4900) : rT I2 c m n 741 base s t := fun i j hi hj => by
  obtain ⟨z1, z2⟩ := rTz_of w1 hi hj
  have b1 : s * i ≤ s * m := Nat.mul_le_mul_left s (Nat.le_of_lt hi)
  have b2 : t * j ≤ t * n := Nat.mul_le_mul_left t (Nat.le_of_lt hj)
  rw [f2 _ _ (rTc_of w2 hi hj), q _ (by omega), r1 i j hi hj, f1 _ _ z2]
  exact h i j hi hj
/-- nothing is as the image: the class's cells and the reference's row are as they were -/
theorem rT_same {W2 : List Nat} {I I2 : fH} {c m n base s t : Nat} (h : rT I c m n 741 base s t) (f2 : fFr znJ W2 I I2) (w2 : rTc W2 c m n = true) (q : ∀ j : Nat, I2 741 j = I 741 j) : rT I2 c m n 741 base s t := fun i j hi hj => by
  rw [f2 _ _ (rTc_of w2 hi hj), q]
  exact h i j hi hj
theorem one_row {P : Nat → Nat → Prop} {n : Nat} (h : ∀ j : Nat, j < n → P 0 j) : ∀ i j : Nat, i < 1 → j < n → P i j := fun i j hi hj => by
  have e : i = 0 := by omega
  subst e
  exact h j hj
theorem rT_1 {I : fH} {c n b base t : Nat} (h : rT I c 1 n b base 0 t) {j : Nat} (hj : j < n) : I c j = I b (base + t * j) := by
  have q := h 0 j (by omega) hj
  rw [Nat.add_zero, Nat.mul_zero, Nat.add_zero] at q
  exact q
theorem rT_11 {I : fH} {c n b base : Nat} (h : rT I c 1 n b base 0 1) {j : Nat} (hj : j < n) : I c j = I b (base + j) := by
  have q := rT_1 h hj
  rw [Nat.one_mul] at q
  exact q
theorem rT_2 {I : fH} {c m n b base s : Nat} (h : rT I c m n b base s 1) {i j : Nat} (hi : i < m) (hj : j < n) : I (c + i) j = I b (base + s * i + j) := by
  have q := h i j hi hj
  rw [Nat.one_mul] at q
  exact q
theorem cargo_eq {I : fH} {x : Int} (h1 : rT I 252 1 10 741 4350 0 2) (h2 : rT I 253 1 10 741 4351 0 2) (hL : I 211 11 = I 741 11) (b : 0 ≤ I 211 11 ∧ I 211 11 ≤ 10) : nf (cgF (I 252) (I 253) (I 211 11).toNat x) (0, 0, 0) (tw (I 211 11) - 1).toNat = nf (cgF (fun k => I 741 (4350 + 2 * k)) (fun k => I 741 (4351 + 2 * k)) (I 741 11).toNat x) (0, 0, 0) (tw (I 741 11) - 1).toNat := by
  rw [← hL]
  exact cgF_congr (fun k hk => rT_1 h1 (by omega)) (fun k hk => rT_1 h2 (by omega))
theorem left_eq {I : fH} (h1 : rT I 221 1 8 741 4500 0 1) (h2 : rT I 213 8 12 741 4400 12 1) : lfF (I 221) (fun t => I (213 + t)) 12 = lfF (fun t => I 741 (4500 + t)) (fun t f => I 741 (4400 + 12 * t + f)) 12 := lfF_congr (fun t ht => rT_11 h1 ht) (fun t f ht hf => rT_2 h2 ht hf)
theorem bits_eq {sn : Nat → Int} {sh : Nat → Nat → Int} {s : Int} (hs : fin32 s) (e : iI s = lfF sn sh 12) : (bc32 (iI s)).toInt = onI s 12 := by
  obtain ⟨k, hk, ek⟩ := lf_lt (sn := sn) (sh := sh) 12 (by omega)
  rw [ek] at e
  have q := bc_ones (k := k) hk
  rw [← e, iI_int hs] at q
  exact q
theorem next_eq {I : fH} {s : Int} (h1 : rT I 221 1 8 741 4500 0 1) (h2 : rT I 213 8 12 741 4400 12 1) (hs : fin32 s) (e : iI s = lfF (I 221) (fun t => I (213 + t)) 12) : nf (ntF (I 221) (fun t => alF (I (213 + t)) s 4)) (-1000000005, (bc32 (iI s)).toInt) 8 = nf (ntF (fun t => I 741 (4500 + t)) (fun t => alF (fun f => I 741 (4400 + 12 * t + f)) s 4)) (-1000000005, onI s 12) 8 := by
  rw [bits_eq hs e]
  exact ntF_congr (fun t ht => rT_11 h1 ht) (fun t ht => alF_congr (fun f hf => rT_2 h2 ht hf))
theorem dark_eq {I : fH} (hB : fB bsJ I) {n bank z : Int} (hn : 1 ≤ n ∧ n ≤ 24) (hb : 0 ≤ bank) (h1 : rT I 223 1 4 741 4560 0 1) (h2 : rT I 225 24 4 741 4570 4 1) (T : dTb I n bank) (hz : z = if I 756 bank.toNat = 1000000 then (-1000000005) else I 756 bank.toNat) : z = (dkP (I 223) (fun i => I (225 + i)) n.toNat n.toNat bank.toNat).1 := by
  have e1 : ∀ l, l < 4 → I 223 l = rTk I l := fun l hl => rT_11 h1 hl
  have e2 : ∀ i l, i < 24 → l < 4 → I (225 + i) l = rHm I i l := fun i l hi hl => rT_2 h2 hi hl
  rw [dark_val hn hb T (fun l hl => by have q := (frL_at rL_741_741_4560_4563_1_0 hB (a := 741) (i := ((4560 + l : Nat) : Int)) (by omega)).2.1; rw [Int.toNat_natCast] at q; exact q) (fun i l hi hl => by have q := (frL_at rL_741_741_4570_4665_1_0 hB (a := 741) (i := ((4570 + 4 * i + l : Nat) : Int)) (by omega)).2; rw [Int.toNat_natCast] at q; exact q) hz]
  rw [dkP_congr (by omega) (fun l hl => (e1 l hl).symm) (fun i l hi hl => (e2 i l hi hl).symm)]
theorem load_eq {I : fH} (hB : fB bsJ I) {n bank z1 z2 : Int} {i : Nat} (hn : 1 ≤ n ∧ n ≤ 24) (hb : 0 ≤ bank) (h1 : rT I 223 1 4 741 4560 0 1) (h2 : rT I 225 24 4 741 4570 4 1) (T : dTb I n bank) {q : Int × Int} (eq : q = dkP (I 223) (fun i => I (225 + i)) n.toNat n.toNat bank.toNat) (u : (q.1 = -1000000005 ∧ z1 = -1000000005) ∨ (q.1 ≠ -1000000005 ∧ z1 = q.2 / 4 ^ i % 4)) (v : (I 756 bank.toNat = 1000000 ∧ z2 = -1000000005) ∨ (I 756 bank.toNat ≠ 1000000 ∧ z2 = (dkP (rTk I) (rHm I) n.toNat n.toNat bank.toNat).2 / 4 ^ i % 4)) : z1 = z2 := by
  have e1 : ∀ l, l < 4 → I 223 l = rTk I l := fun l hl => rT_11 h1 hl
  have e2 : ∀ i l, i < 24 → l < 4 → I (225 + i) l = rHm I i l := fun i l hi hl => rT_2 h2 hi hl
  exact load_val hn hb T (fun l hl => by have q := (frL_at rL_741_741_4560_4563_1_0 hB (a := 741) (i := ((4560 + l : Nat) : Int)) (by omega)).2.1; rw [Int.toNat_natCast] at q; exact q) (fun i l hi hl => by have q := (frL_at rL_741_741_4570_4665_1_0 hB (a := 741) (i := ((4570 + 4 * i + l : Nat) : Int)) (by omega)).2; rw [Int.toNat_natCast] at q; exact q) (eq.trans (dkP_congr (by omega) e1 e2 _ _)) u v
theorem plan_eq {I : fH} {a c : Int} (h1 : rT I 254 1 7 741 4370 0 3) (h2 : rT I 255 1 7 741 4371 0 3) (h3 : rT I 256 1 7 741 4372 0 3) (hN : I 211 15 = I 741 12) (b : 0 ≤ I 741 12 ∧ I 741 12 ≤ 7) : bsF (I 211 15).toNat (I 254) (I 255) (I 256) a c = bsF (I 741 12).toNat (fun b => I 741 (4370 + 3 * b)) (fun b => I 741 (4371 + 3 * b)) (fun b => I 741 (4372 + 3 * b)) a c := by
  rw [hN]
  exact sSk_congr (fun b hb => rT_1 h1 (by omega)) (fun b hb => rT_1 h2 (by omega)) (fun b hb => rT_1 h3 (by omega)) _ _ _ _ _ _ _
theorem find_eq {I : fH} {z1 z2 : Int} (h1 : rT I 221 1 8 741 4500 0 1) (h2 : rT I 213 8 12 741 4400 12 1) (u : ntX (I 221) (fun t => I (213 + t)) z1) (v : ntM (fun t => I 741 (4500 + t)) (fun t f => I 741 (4400 + 12 * t + f)) z2) : z1 = z2 := by
  obtain ⟨s, a1, a2, a3⟩ := u
  obtain ⟨s', b1, b2, b3⟩ := v
  have e : s = s' := (iI_eq a1 b1).mp (a2.trans ((left_eq h1 h2).trans b2.symm))
  subst e
  rw [a3, b3, next_eq h1 h2 a1 a2]
theorem tested_eq {I : fH} {z1 z2 : Int} (hz : fin32 z1) (h1 : rT I 221 1 8 741 4500 0 1) (h2 : rT I 213 8 12 741 4400 12 1) (u : lfX (I 221) (fun t => I (213 + t)) z1) (v : lfM (fun t => I 741 (4500 + t)) (fun t f => I 741 (4400 + 12 * t + f)) z2) : z1 = z2 := by
  obtain ⟨s, a1, a2, a3⟩ := u
  obtain ⟨s', b1, b2, b3⟩ := v
  have e : s = s' := (iI_eq a1 b1).mp (a2.trans ((left_eq h1 h2).trans b2.symm))
  subst e
  rw [of_iI hz a3, b3, bits_eq a1 a2]
def oQn (I : fH) : Prop := rT I 184 3 61 741 1020 61 1 ∧ rT I 213 8 12 741 4400 12 1 ∧ rT I 221 1 8 741 4500 0 1 ∧ rT I 222 1 48 741 4510 0 1 ∧ rT I 223 1 4 741 4560 0 1 ∧ rT I 225 24 4 741 4570 4 1 ∧ rT I 249 1 6 741 4330 0 3 ∧ rT I 250 1 6 741 4331 0 3 ∧ rT I 251 1 6 741 4332 0 3 ∧ rT I 252 1 10 741 4350 0 2 ∧ rT I 253 1 10 741 4351 0 2 ∧ rT I 254 1 7 741 4370 0 3 ∧ rT I 255 1 7 741 4371 0 3 ∧ rT I 256 1 7 741 4372 0 3 ∧ rT I 164 1 24 741 530 0 14
def oQi (I : fH) : Prop := rT I 440 3 61 742 1020 61 1 ∧ rT I 469 8 12 742 4400 12 1 ∧ rT I 477 1 8 742 4500 0 1 ∧ rT I 478 1 48 742 4510 0 1 ∧ rT I 479 1 4 742 4560 0 1 ∧ rT I 481 24 4 742 4570 4 1 ∧ rT I 505 1 6 742 4330 0 3 ∧ rT I 506 1 6 742 4331 0 3 ∧ rT I 507 1 6 742 4332 0 3 ∧ rT I 508 1 10 742 4350 0 2 ∧ rT I 509 1 10 742 4351 0 2 ∧ rT I 510 1 7 742 4370 0 3 ∧ rT I 511 1 7 742 4371 0 3 ∧ rT I 512 1 7 742 4372 0 3 ∧ rT I 420 1 24 742 530 0 14
def oQ (I : fH) : Prop := oQn I ∧ (I 0 6 = 1 → oQi I)
/-- what holds between two calls -/
def oI (I : fH) : Prop := fB bsJ I ∧ sI I 741 ∧ kI I ∧ oP I ∧ oQ I
def oF (base : Nat) : Nat → Prop := fun q => base ≤ q
def lw_Wj (xs : Nat → Int32) (base : Nat) (D : va_G) (dA : Nat → ClassId) (H : Heap) : Prop := ∃ (I : fH) (hp : xH), oI I ∧ fhr gJ I hp ∧ xHR (xext xs) base (oF base) D dA xTys vwCl hp 761 H
/-- the class's call, and at each of its ends the reference's -/
def oTwo (la : Launch) (ρ : Nat → Int32) (base : Nat) (D : va_G) (dA : Nat → ClassId) (mx mm : xM) (vs : List fV) (I : fH) (R : Int → Int → Prop) : Prop := fC ρ base 761 (oF base) xTc vwCl xTys D dA la gJ bsJ mx (.inr (.inr (some 0)) :: vs) I (fun I' r => ∃ z, r = some (.inl z) ∧ fC ρ base 761 (oF base) xTc vwCl xTys D dA la gJ bsJ mm (.inr (.inr (some 740)) :: vs) I' (fun I'' r' => ∃ z', r' = some (.inl z') ∧ oI I'' ∧ R z z'))
theorem oint {ρ : Nat → Int32} {bs : Nat} {z : Int} {v : Value} (h : xg ρ bs (fe (.inl z)) v) : v = .int (iI z) := by
  have h : v = Value.int (nI (ic z)) := h
  rw [h, nI_ic]
theorem oarg {ρ : Nat → Int32} {bs : Nat} (x : Int32) : xg ρ bs (fe (.inl x.toInt)) (.int x) := by
  show Value.int x = Value.int (nI (ic x.toInt))
  rw [nI_ic, iI_toInt]
theorem osld {k i : Nat} (hk : 6 * k + 6 ≤ L) (hL : L ≤ 384) (hi : i < 6) : vp_in (nI (6 * k) + nI i) L ∧ (nI (6 * k) + nI i).toNatClampNeg = 6 * k + i := by
  rw [nI_add]
  exact ⟨vp_in_nI (by omega) (by omega), nI_clamp (by omega)⟩
theorem lw_d0 {p0 ix im k : Nat} {off : Int} {mx mm : xM} (C : lw_Cx p s m meth c b L xs D dA) (hk : 6 * k + 6 ≤ L) (hL : L ≤ 384) (okx : lw_Ok mx 0) (okm : lw_Ok mm 0) (lx : Jvm.Cond.methodLink R_law ix mx.1 ∈ lw_tbl ∧ Jvm.Cond.selects mx.1.cls mx.1 mx.1 ∈ lw_tbl) (lm : Jvm.Cond.methodLink R_law im mm.1 ∈ lw_tbl ∧ Jvm.Cond.selects mm.1.cls mm.1 mm.1 ∈ lw_tbl) (kx : vwCl[11]? = some (mx.1.cls, TX11, 16)) (km : vwCl[12]? = some (mm.1.cls, TX12, 40)) (zx : (xR mx).cells = 0 ∧ (xR mx).slots = 0) (zm : (xR mm).cells = 0 ∧ (xR mm).slots = 0) (mx1 : mx ∈ xMs) (mx2 : Nat.ble 1 mx.2.2.1 = true) (mm1 : mm ∈ xMs) (mm2 : Nat.ble 1 mm.2.2.1 = true) (two : ∀ I, oI I → oTwo la (xext xs) s.heap.size D dA mx mm [] I (fun _ _ => True)) (d0 : decode code p0 = .ok (.aload_n 1, 1)) (d1 : decode code (p0 + 1) = .ok (.invokevirtual ix, 3)) (d2 : decode code (p0 + 4) = .ok (.pop, 1)) (d3 : decode code (p0 + 5) = .ok (.aload_n 2, 1)) (d4 : decode code (p0 + 6) = .ok (.invokevirtual im, 3)) (d5 : decode code (p0 + 9) = .ok (.pop, 1)) (d6 : decode code (p0 + 10) = .ok (.goto off, 3)) (ht : ((p0 + 10 : Nat) : Int) + off = ((2386 : Nat) : Int)) {H : Heap} {locs : List Loc} {cells slots : Nat} {ls : Array Slot} (hW : lw_Wj xs s.heap.size D dA H) (hS : va_S (fun q => s.heap.size ≤ q) s.heap H locs) (hl : lv_has ls 4 [(3, .int (nI (6 * k))), (2, .ref (s.heap.size + 740)), (1, .ref s.heap.size), (0, .ref b)]) (hc : cells ≤ 600000) (hs : slots ≤ 7302250) (kk : ∀ H locs, lw_Wj xs s.heap.size D dA H → va_S (fun q => s.heap.size ≤ q) s.heap H locs → W p la e room_1 s m #[Value.ref b] below meth c H locs cells slots (lw_Z below #[Value.ref b] s) (F0 m 2386 ls [])) : W p la e room_1 s m #[Value.ref b] below meth c H locs cells slots (lw_Z below #[Value.ref b] s) (F0 m p0 ls []) := by
  have C0 := C
  obtain ⟨⟨hx, hb, hr, hml, hown, hts, hX, hbl, hlocks, hgv⟩, hK, hKA⟩ := C
  have hbA : ¬ (fun q : Nat => s.heap.size ≤ q) b := Nat.not_le.mpr hbl
  obtain ⟨I, hp, hI, hh, hH⟩ := hW
  have g0 : gJ.1 0 = some (11, 16) := by decide +kernel
  have g1 : gJ.1 740 = some (12, 40) := by decide +kernel
  refine lv_aload_n hx hb d0 rfl (lv_at hl 2 rfl) ?_
  refine lw_callJ (o := 0) (As := []) (vs := []) (rest := []) C0 (xext_lin xs) okx lx kx (by decide) g0 hh mx1 trivial mx2 (two I hI) (fun _ q => by obtain ⟨z, q, -⟩ := q; cases q) hH hS (fun q hq => hq) rfl hl.1 (by decide) d1 zx ⟨hc, hs⟩ (fun I1 r1 hp1 v1 H1 locs1 hh1 hB1 hP1 hg1 hH1 hS1 => ?_)
  obtain ⟨z1, e1, hC1⟩ := hP1
  cases e1
  have hg1 := oint hg1
  subst hg1
  refine lv_pop (va := .int (iI z1)) hx hb d2 rfl ?_
  refine lv_aload_n hx hb d3 rfl (lv_at hl 1 rfl) ?_
  refine lw_callJ (o := 740) (As := []) (vs := []) (rest := []) C0 (xext_lin xs) okm lm km (by decide) g1 hh1 mm1 trivial mm2 hC1 (fun _ q => by obtain ⟨z, q, -⟩ := q; cases q) hH1 hS1 (fun q hq => hq) rfl hl.1 (by decide) d4 zm ⟨hc, hs⟩ (fun I2 r2 hp2 v2 H2 locs2 hh2 hB2 hP2 hg2 hH2 hS2 => ?_)
  obtain ⟨z2, e2, hI2, hR⟩ := hP2
  cases e2
  have hg2 := oint hg2
  subst hg2
  refine lv_pop (va := .int (iI z2)) hx hb d5 rfl ?_
  refine lv_goto (tgt := 2386) hx hb d6 ht ?_
  exact kk H2 locs2 ⟨I2, hp2, hI2, hh2, hH2⟩ hS2
theorem lw_d1 {p0 ix im k : Nat} {off : Int} {mx mm : xM} (C : lw_Cx p s m meth c b L xs D dA) (hk : 6 * k + 6 ≤ L) (hL : L ≤ 384) (okx : lw_Ok mx 1) (okm : lw_Ok mm 1) (lx : Jvm.Cond.methodLink R_law ix mx.1 ∈ lw_tbl ∧ Jvm.Cond.selects mx.1.cls mx.1 mx.1 ∈ lw_tbl) (lm : Jvm.Cond.methodLink R_law im mm.1 ∈ lw_tbl ∧ Jvm.Cond.selects mm.1.cls mm.1 mm.1 ∈ lw_tbl) (kx : vwCl[11]? = some (mx.1.cls, TX11, 16)) (km : vwCl[12]? = some (mm.1.cls, TX12, 40)) (zx : (xR mx).cells = 0 ∧ (xR mx).slots = 0) (zm : (xR mm).cells = 0 ∧ (xR mm).slots = 0) (mx1 : mx ∈ xMs) (mx2 : Nat.ble 2 mx.2.2.1 = true) (mm1 : mm ∈ xMs) (mm2 : Nat.ble 2 mm.2.2.1 = true) (two : ∀ I, oI I → oTwo la (xext xs) s.heap.size D dA mx mm [.inl (xs (6 * k + 1)).toInt] I (fun _ _ => True)) (d0 : decode code p0 = .ok (.aload_n 1, 1)) (d1 : decode code (p0 + 1) = .ok (.aload_n 0, 1)) (d2 : decode code (p0 + 2) = .ok (.iload_n 3, 1)) (d3 : decode code (p0 + 3) = .ok (.iconst 1, 1)) (d4 : decode code (p0 + 4) = .ok (.iadd, 1)) (d5 : decode code (p0 + 5) = .ok (.iaload, 1)) (d6 : decode code (p0 + 6) = .ok (.invokevirtual ix, 3)) (d7 : decode code (p0 + 9) = .ok (.pop, 1)) (d8 : decode code (p0 + 10) = .ok (.aload_n 2, 1)) (d9 : decode code (p0 + 11) = .ok (.aload_n 0, 1)) (d10 : decode code (p0 + 12) = .ok (.iload_n 3, 1)) (d11 : decode code (p0 + 13) = .ok (.iconst 1, 1)) (d12 : decode code (p0 + 14) = .ok (.iadd, 1)) (d13 : decode code (p0 + 15) = .ok (.iaload, 1)) (d14 : decode code (p0 + 16) = .ok (.invokevirtual im, 3)) (d15 : decode code (p0 + 19) = .ok (.pop, 1)) (d16 : decode code (p0 + 20) = .ok (.goto off, 3)) (ht : ((p0 + 20 : Nat) : Int) + off = ((2386 : Nat) : Int)) {H : Heap} {locs : List Loc} {cells slots : Nat} {ls : Array Slot} (hW : lw_Wj xs s.heap.size D dA H) (hS : va_S (fun q => s.heap.size ≤ q) s.heap H locs) (hl : lv_has ls 4 [(3, .int (nI (6 * k))), (2, .ref (s.heap.size + 740)), (1, .ref s.heap.size), (0, .ref b)]) (hc : cells ≤ 600000) (hs : slots ≤ 7302250) (kk : ∀ H locs, lw_Wj xs s.heap.size D dA H → va_S (fun q => s.heap.size ≤ q) s.heap H locs → W p la e room_1 s m #[Value.ref b] below meth c H locs cells slots (lw_Z below #[Value.ref b] s) (F0 m 2386 ls [])) : W p la e room_1 s m #[Value.ref b] below meth c H locs cells slots (lw_Z below #[Value.ref b] s) (F0 m p0 ls []) := by
  have C0 := C
  obtain ⟨⟨hx, hb, hr, hml, hown, hts, hX, hbl, hlocks, hgv⟩, hK, hKA⟩ := C
  have hbA : ¬ (fun q : Nat => s.heap.size ≤ q) b := Nat.not_le.mpr hbl
  obtain ⟨I, hp, hI, hh, hH⟩ := hW
  have g0 : gJ.1 0 = some (11, 16) := by decide +kernel
  have g1 : gJ.1 740 = some (12, 40) := by decide +kernel
  refine lv_aload_n hx hb d0 rfl (lv_at hl 2 rfl) ?_
  refine lv_aload_n hx hb d1 rfl (lv_at hl 3 rfl) ?_
  refine lv_iload_n hx hb d2 rfl (lv_at hl 0 rfl) ?_
  refine lv_iconst (v := nI 1) hx hb d3 (by decide) ?_
  refine lv_iadd hx hb d4 ?_
  refine va_sld hx hb hX hbl hbA hS (osld hk hL (i := 1) (by decide)).1 d5 ?_
  rw [(osld hk hL (i := 1) (by decide)).2]
  refine lw_callJ (o := 0) (As := [.int (xs (6 * k + 1))]) (vs := [.inl (xs (6 * k + 1)).toInt]) (rest := []) C0 (xext_lin xs) okx lx kx (by decide) g0 hh mx1 ⟨oarg _, trivial⟩ mx2 (two I hI) (fun _ q => by obtain ⟨z, q, -⟩ := q; cases q) hH hS (fun q hq => hq) rfl hl.1 (by decide) d6 zx ⟨hc, hs⟩ (fun I1 r1 hp1 v1 H1 locs1 hh1 hB1 hP1 hg1 hH1 hS1 => ?_)
  obtain ⟨z1, e1, hC1⟩ := hP1
  cases e1
  have hg1 := oint hg1
  subst hg1
  refine lv_pop (va := .int (iI z1)) hx hb d7 rfl ?_
  refine lv_aload_n hx hb d8 rfl (lv_at hl 1 rfl) ?_
  refine lv_aload_n hx hb d9 rfl (lv_at hl 3 rfl) ?_
  refine lv_iload_n hx hb d10 rfl (lv_at hl 0 rfl) ?_
  refine lv_iconst (v := nI 1) hx hb d11 (by decide) ?_
  refine lv_iadd hx hb d12 ?_
  refine va_sld hx hb hX hbl hbA hS1 (osld hk hL (i := 1) (by decide)).1 d13 ?_
  rw [(osld hk hL (i := 1) (by decide)).2]
  refine lw_callJ (o := 740) (As := [.int (xs (6 * k + 1))]) (vs := [.inl (xs (6 * k + 1)).toInt]) (rest := []) C0 (xext_lin xs) okm lm km (by decide) g1 hh1 mm1 ⟨oarg _, trivial⟩ mm2 hC1 (fun _ q => by obtain ⟨z, q, -⟩ := q; cases q) hH1 hS1 (fun q hq => hq) rfl hl.1 (by decide) d14 zm ⟨hc, hs⟩ (fun I2 r2 hp2 v2 H2 locs2 hh2 hB2 hP2 hg2 hH2 hS2 => ?_)
  obtain ⟨z2, e2, hI2, hR⟩ := hP2
  cases e2
  have hg2 := oint hg2
  subst hg2
  refine lv_pop (va := .int (iI z2)) hx hb d15 rfl ?_
  refine lv_goto (tgt := 2386) hx hb d16 ht ?_
  exact kk H2 locs2 ⟨I2, hp2, hI2, hh2, hH2⟩ hS2
theorem lw_d2 {p0 ix im k : Nat} {off : Int} {mx mm : xM} (C : lw_Cx p s m meth c b L xs D dA) (hk : 6 * k + 6 ≤ L) (hL : L ≤ 384) (okx : lw_Ok mx 2) (okm : lw_Ok mm 2) (lx : Jvm.Cond.methodLink R_law ix mx.1 ∈ lw_tbl ∧ Jvm.Cond.selects mx.1.cls mx.1 mx.1 ∈ lw_tbl) (lm : Jvm.Cond.methodLink R_law im mm.1 ∈ lw_tbl ∧ Jvm.Cond.selects mm.1.cls mm.1 mm.1 ∈ lw_tbl) (kx : vwCl[11]? = some (mx.1.cls, TX11, 16)) (km : vwCl[12]? = some (mm.1.cls, TX12, 40)) (zx : (xR mx).cells = 0 ∧ (xR mx).slots = 0) (zm : (xR mm).cells = 0 ∧ (xR mm).slots = 0) (mx1 : mx ∈ xMs) (mx2 : Nat.ble 3 mx.2.2.1 = true) (mm1 : mm ∈ xMs) (mm2 : Nat.ble 3 mm.2.2.1 = true) (two : ∀ I, oI I → oTwo la (xext xs) s.heap.size D dA mx mm [.inl (xs (6 * k + 1)).toInt, .inl (xs (6 * k + 2)).toInt] I (fun _ _ => True)) (d0 : decode code p0 = .ok (.aload_n 1, 1)) (d1 : decode code (p0 + 1) = .ok (.aload_n 0, 1)) (d2 : decode code (p0 + 2) = .ok (.iload_n 3, 1)) (d3 : decode code (p0 + 3) = .ok (.iconst 1, 1)) (d4 : decode code (p0 + 4) = .ok (.iadd, 1)) (d5 : decode code (p0 + 5) = .ok (.iaload, 1)) (d6 : decode code (p0 + 6) = .ok (.aload_n 0, 1)) (d7 : decode code (p0 + 7) = .ok (.iload_n 3, 1)) (d8 : decode code (p0 + 8) = .ok (.iconst 2, 1)) (d9 : decode code (p0 + 9) = .ok (.iadd, 1)) (d10 : decode code (p0 + 10) = .ok (.iaload, 1)) (d11 : decode code (p0 + 11) = .ok (.invokevirtual ix, 3)) (d12 : decode code (p0 + 14) = .ok (.pop, 1)) (d13 : decode code (p0 + 15) = .ok (.aload_n 2, 1)) (d14 : decode code (p0 + 16) = .ok (.aload_n 0, 1)) (d15 : decode code (p0 + 17) = .ok (.iload_n 3, 1)) (d16 : decode code (p0 + 18) = .ok (.iconst 1, 1)) (d17 : decode code (p0 + 19) = .ok (.iadd, 1)) (d18 : decode code (p0 + 20) = .ok (.iaload, 1)) (d19 : decode code (p0 + 21) = .ok (.aload_n 0, 1)) (d20 : decode code (p0 + 22) = .ok (.iload_n 3, 1)) (d21 : decode code (p0 + 23) = .ok (.iconst 2, 1)) (d22 : decode code (p0 + 24) = .ok (.iadd, 1)) (d23 : decode code (p0 + 25) = .ok (.iaload, 1)) (d24 : decode code (p0 + 26) = .ok (.invokevirtual im, 3)) (d25 : decode code (p0 + 29) = .ok (.pop, 1)) (d26 : decode code (p0 + 30) = .ok (.goto off, 3)) (ht : ((p0 + 30 : Nat) : Int) + off = ((2386 : Nat) : Int)) {H : Heap} {locs : List Loc} {cells slots : Nat} {ls : Array Slot} (hW : lw_Wj xs s.heap.size D dA H) (hS : va_S (fun q => s.heap.size ≤ q) s.heap H locs) (hl : lv_has ls 4 [(3, .int (nI (6 * k))), (2, .ref (s.heap.size + 740)), (1, .ref s.heap.size), (0, .ref b)]) (hc : cells ≤ 600000) (hs : slots ≤ 7302250) (kk : ∀ H locs, lw_Wj xs s.heap.size D dA H → va_S (fun q => s.heap.size ≤ q) s.heap H locs → W p la e room_1 s m #[Value.ref b] below meth c H locs cells slots (lw_Z below #[Value.ref b] s) (F0 m 2386 ls [])) : W p la e room_1 s m #[Value.ref b] below meth c H locs cells slots (lw_Z below #[Value.ref b] s) (F0 m p0 ls []) := by
  have C0 := C
  obtain ⟨⟨hx, hb, hr, hml, hown, hts, hX, hbl, hlocks, hgv⟩, hK, hKA⟩ := C
  have hbA : ¬ (fun q : Nat => s.heap.size ≤ q) b := Nat.not_le.mpr hbl
  obtain ⟨I, hp, hI, hh, hH⟩ := hW
  have g0 : gJ.1 0 = some (11, 16) := by decide +kernel
  have g1 : gJ.1 740 = some (12, 40) := by decide +kernel
  refine lv_aload_n hx hb d0 rfl (lv_at hl 2 rfl) ?_
  refine lv_aload_n hx hb d1 rfl (lv_at hl 3 rfl) ?_
  refine lv_iload_n hx hb d2 rfl (lv_at hl 0 rfl) ?_
  refine lv_iconst (v := nI 1) hx hb d3 (by decide) ?_
  refine lv_iadd hx hb d4 ?_
  refine va_sld hx hb hX hbl hbA hS (osld hk hL (i := 1) (by decide)).1 d5 ?_
  rw [(osld hk hL (i := 1) (by decide)).2]
  refine lv_aload_n hx hb d6 rfl (lv_at hl 3 rfl) ?_
  refine lv_iload_n hx hb d7 rfl (lv_at hl 0 rfl) ?_
  refine lv_iconst (v := nI 2) hx hb d8 (by decide) ?_
  refine lv_iadd hx hb d9 ?_
  refine va_sld hx hb hX hbl hbA hS (osld hk hL (i := 2) (by decide)).1 d10 ?_
  rw [(osld hk hL (i := 2) (by decide)).2]
  refine lw_callJ (o := 0) (As := [.int (xs (6 * k + 1)), .int (xs (6 * k + 2))]) (vs := [.inl (xs (6 * k + 1)).toInt, .inl (xs (6 * k + 2)).toInt]) (rest := []) C0 (xext_lin xs) okx lx kx (by decide) g0 hh mx1 ⟨oarg _, ⟨oarg _, trivial⟩⟩ mx2 (two I hI) (fun _ q => by obtain ⟨z, q, -⟩ := q; cases q) hH hS (fun q hq => hq) rfl hl.1 (by decide) d11 zx ⟨hc, hs⟩ (fun I1 r1 hp1 v1 H1 locs1 hh1 hB1 hP1 hg1 hH1 hS1 => ?_)
  obtain ⟨z1, e1, hC1⟩ := hP1
  cases e1
  have hg1 := oint hg1
  subst hg1
  refine lv_pop (va := .int (iI z1)) hx hb d12 rfl ?_
  refine lv_aload_n hx hb d13 rfl (lv_at hl 1 rfl) ?_
  refine lv_aload_n hx hb d14 rfl (lv_at hl 3 rfl) ?_
  refine lv_iload_n hx hb d15 rfl (lv_at hl 0 rfl) ?_
  refine lv_iconst (v := nI 1) hx hb d16 (by decide) ?_
  refine lv_iadd hx hb d17 ?_
  refine va_sld hx hb hX hbl hbA hS1 (osld hk hL (i := 1) (by decide)).1 d18 ?_
  rw [(osld hk hL (i := 1) (by decide)).2]
  refine lv_aload_n hx hb d19 rfl (lv_at hl 3 rfl) ?_
  refine lv_iload_n hx hb d20 rfl (lv_at hl 0 rfl) ?_
  refine lv_iconst (v := nI 2) hx hb d21 (by decide) ?_
  refine lv_iadd hx hb d22 ?_
  refine va_sld hx hb hX hbl hbA hS1 (osld hk hL (i := 2) (by decide)).1 d23 ?_
  rw [(osld hk hL (i := 2) (by decide)).2]
  refine lw_callJ (o := 740) (As := [.int (xs (6 * k + 1)), .int (xs (6 * k + 2))]) (vs := [.inl (xs (6 * k + 1)).toInt, .inl (xs (6 * k + 2)).toInt]) (rest := []) C0 (xext_lin xs) okm lm km (by decide) g1 hh1 mm1 ⟨oarg _, ⟨oarg _, trivial⟩⟩ mm2 hC1 (fun _ q => by obtain ⟨z, q, -⟩ := q; cases q) hH1 hS1 (fun q hq => hq) rfl hl.1 (by decide) d24 zm ⟨hc, hs⟩ (fun I2 r2 hp2 v2 H2 locs2 hh2 hB2 hP2 hg2 hH2 hS2 => ?_)
  obtain ⟨z2, e2, hI2, hR⟩ := hP2
  cases e2
  have hg2 := oint hg2
  subst hg2
  refine lv_pop (va := .int (iI z2)) hx hb d25 rfl ?_
  refine lv_goto (tgt := 2386) hx hb d26 ht ?_
  exact kk H2 locs2 ⟨I2, hp2, hI2, hh2, hH2⟩ hS2
theorem lw_c2 {p0 ix im k : Nat} {off : Int} {mx mm : xM} (C : lw_Cx p s m meth c b L xs D dA) (hk : 6 * k + 6 ≤ L) (hL : L ≤ 384) (okx : lw_Ok mx 2) (okm : lw_Ok mm 2) (lx : Jvm.Cond.methodLink R_law ix mx.1 ∈ lw_tbl ∧ Jvm.Cond.selects mx.1.cls mx.1 mx.1 ∈ lw_tbl) (lm : Jvm.Cond.methodLink R_law im mm.1 ∈ lw_tbl ∧ Jvm.Cond.selects mm.1.cls mm.1 mm.1 ∈ lw_tbl) (kx : vwCl[11]? = some (mx.1.cls, TX11, 16)) (km : vwCl[12]? = some (mm.1.cls, TX12, 40)) (zx : (xR mx).cells = 0 ∧ (xR mx).slots = 0) (zm : (xR mm).cells = 0 ∧ (xR mm).slots = 0) (mx1 : mx ∈ xMs) (mx2 : Nat.ble 3 mx.2.2.1 = true) (mm1 : mm ∈ xMs) (mm2 : Nat.ble 3 mm.2.2.1 = true) (two : ∀ I, oI I → oTwo la (xext xs) s.heap.size D dA mx mm [.inl (xs (6 * k + 1)).toInt, .inl (xs (6 * k + 2)).toInt] I (fun z z' => z = z')) (d0 : decode code p0 = .ok (.aload_n 1, 1)) (d1 : decode code (p0 + 1) = .ok (.aload_n 0, 1)) (d2 : decode code (p0 + 2) = .ok (.iload_n 3, 1)) (d3 : decode code (p0 + 3) = .ok (.iconst 1, 1)) (d4 : decode code (p0 + 4) = .ok (.iadd, 1)) (d5 : decode code (p0 + 5) = .ok (.iaload, 1)) (d6 : decode code (p0 + 6) = .ok (.aload_n 0, 1)) (d7 : decode code (p0 + 7) = .ok (.iload_n 3, 1)) (d8 : decode code (p0 + 8) = .ok (.iconst 2, 1)) (d9 : decode code (p0 + 9) = .ok (.iadd, 1)) (d10 : decode code (p0 + 10) = .ok (.iaload, 1)) (d11 : decode code (p0 + 11) = .ok (.invokevirtual ix, 3)) (d12 : decode code (p0 + 14) = .ok (.aload_n 2, 1)) (d13 : decode code (p0 + 15) = .ok (.aload_n 0, 1)) (d14 : decode code (p0 + 16) = .ok (.iload_n 3, 1)) (d15 : decode code (p0 + 17) = .ok (.iconst 1, 1)) (d16 : decode code (p0 + 18) = .ok (.iadd, 1)) (d17 : decode code (p0 + 19) = .ok (.iaload, 1)) (d18 : decode code (p0 + 20) = .ok (.aload_n 0, 1)) (d19 : decode code (p0 + 21) = .ok (.iload_n 3, 1)) (d20 : decode code (p0 + 22) = .ok (.iconst 2, 1)) (d21 : decode code (p0 + 23) = .ok (.iadd, 1)) (d22 : decode code (p0 + 24) = .ok (.iaload, 1)) (d23 : decode code (p0 + 25) = .ok (.invokevirtual im, 3)) (d24 : decode code (p0 + 28) = .ok (.if_icmp .eq off, 3)) (ht : ((p0 + 28 : Nat) : Int) + off = ((2386 : Nat) : Int)) {H : Heap} {locs : List Loc} {cells slots : Nat} {ls : Array Slot} (hW : lw_Wj xs s.heap.size D dA H) (hS : va_S (fun q => s.heap.size ≤ q) s.heap H locs) (hl : lv_has ls 4 [(3, .int (nI (6 * k))), (2, .ref (s.heap.size + 740)), (1, .ref s.heap.size), (0, .ref b)]) (hc : cells ≤ 600000) (hs : slots ≤ 7302250) (kk : ∀ H locs, lw_Wj xs s.heap.size D dA H → va_S (fun q => s.heap.size ≤ q) s.heap H locs → W p la e room_1 s m #[Value.ref b] below meth c H locs cells slots (lw_Z below #[Value.ref b] s) (F0 m 2386 ls [])) : W p la e room_1 s m #[Value.ref b] below meth c H locs cells slots (lw_Z below #[Value.ref b] s) (F0 m p0 ls []) := by
  have C0 := C
  obtain ⟨⟨hx, hb, hr, hml, hown, hts, hX, hbl, hlocks, hgv⟩, hK, hKA⟩ := C
  have hbA : ¬ (fun q : Nat => s.heap.size ≤ q) b := Nat.not_le.mpr hbl
  obtain ⟨I, hp, hI, hh, hH⟩ := hW
  have g0 : gJ.1 0 = some (11, 16) := by decide +kernel
  have g1 : gJ.1 740 = some (12, 40) := by decide +kernel
  refine lv_aload_n hx hb d0 rfl (lv_at hl 2 rfl) ?_
  refine lv_aload_n hx hb d1 rfl (lv_at hl 3 rfl) ?_
  refine lv_iload_n hx hb d2 rfl (lv_at hl 0 rfl) ?_
  refine lv_iconst (v := nI 1) hx hb d3 (by decide) ?_
  refine lv_iadd hx hb d4 ?_
  refine va_sld hx hb hX hbl hbA hS (osld hk hL (i := 1) (by decide)).1 d5 ?_
  rw [(osld hk hL (i := 1) (by decide)).2]
  refine lv_aload_n hx hb d6 rfl (lv_at hl 3 rfl) ?_
  refine lv_iload_n hx hb d7 rfl (lv_at hl 0 rfl) ?_
  refine lv_iconst (v := nI 2) hx hb d8 (by decide) ?_
  refine lv_iadd hx hb d9 ?_
  refine va_sld hx hb hX hbl hbA hS (osld hk hL (i := 2) (by decide)).1 d10 ?_
  rw [(osld hk hL (i := 2) (by decide)).2]
  refine lw_callJ (o := 0) (As := [.int (xs (6 * k + 1)), .int (xs (6 * k + 2))]) (vs := [.inl (xs (6 * k + 1)).toInt, .inl (xs (6 * k + 2)).toInt]) (rest := []) C0 (xext_lin xs) okx lx kx (by decide) g0 hh mx1 ⟨oarg _, ⟨oarg _, trivial⟩⟩ mx2 (two I hI) (fun _ q => by obtain ⟨z, q, -⟩ := q; cases q) hH hS (fun q hq => hq) rfl hl.1 (by decide) d11 zx ⟨hc, hs⟩ (fun I1 r1 hp1 v1 H1 locs1 hh1 hB1 hP1 hg1 hH1 hS1 => ?_)
  obtain ⟨z1, e1, hC1⟩ := hP1
  cases e1
  have hg1 := oint hg1
  subst hg1
  refine lv_aload_n hx hb d12 rfl (lv_at hl 1 rfl) ?_
  refine lv_aload_n hx hb d13 rfl (lv_at hl 3 rfl) ?_
  refine lv_iload_n hx hb d14 rfl (lv_at hl 0 rfl) ?_
  refine lv_iconst (v := nI 1) hx hb d15 (by decide) ?_
  refine lv_iadd hx hb d16 ?_
  refine va_sld hx hb hX hbl hbA hS1 (osld hk hL (i := 1) (by decide)).1 d17 ?_
  rw [(osld hk hL (i := 1) (by decide)).2]
  refine lv_aload_n hx hb d18 rfl (lv_at hl 3 rfl) ?_
  refine lv_iload_n hx hb d19 rfl (lv_at hl 0 rfl) ?_
  refine lv_iconst (v := nI 2) hx hb d20 (by decide) ?_
  refine lv_iadd hx hb d21 ?_
  refine va_sld hx hb hX hbl hbA hS1 (osld hk hL (i := 2) (by decide)).1 d22 ?_
  rw [(osld hk hL (i := 2) (by decide)).2]
  refine lw_callJ (o := 740) (As := [.int (xs (6 * k + 1)), .int (xs (6 * k + 2))]) (vs := [.inl (xs (6 * k + 1)).toInt, .inl (xs (6 * k + 2)).toInt]) (rest := [.int (iI z1)]) C0 (xext_lin xs) okm lm km (by decide) g1 hh1 mm1 ⟨oarg _, ⟨oarg _, trivial⟩⟩ mm2 hC1 (fun _ q => by obtain ⟨z, q, -⟩ := q; cases q) hH1 hS1 (fun q hq => hq) rfl hl.1 (show (1 : Nat) + 0 ≤ 8 by decide) d23 zm ⟨hc, hs⟩ (fun I2 r2 hp2 v2 H2 locs2 hh2 hB2 hP2 hg2 hH2 hS2 => ?_)
  obtain ⟨z2, e2, hI2, hR⟩ := hP2
  cases e2
  have hg2 := oint hg2
  subst hg2
  subst hR
  refine lv_icmp_eq (tgt := 2386) hx hb d24 ht (fun _ => ?_) (fun q => absurd rfl q)
  exact kk H2 locs2 ⟨I2, hp2, hI2, hh2, hH2⟩ hS2
theorem lw_d3 {p0 ix im k : Nat} {off : Int} {mx mm : xM} (C : lw_Cx p s m meth c b L xs D dA) (hk : 6 * k + 6 ≤ L) (hL : L ≤ 384) (okx : lw_Ok mx 3) (okm : lw_Ok mm 3) (lx : Jvm.Cond.methodLink R_law ix mx.1 ∈ lw_tbl ∧ Jvm.Cond.selects mx.1.cls mx.1 mx.1 ∈ lw_tbl) (lm : Jvm.Cond.methodLink R_law im mm.1 ∈ lw_tbl ∧ Jvm.Cond.selects mm.1.cls mm.1 mm.1 ∈ lw_tbl) (kx : vwCl[11]? = some (mx.1.cls, TX11, 16)) (km : vwCl[12]? = some (mm.1.cls, TX12, 40)) (zx : (xR mx).cells = 0 ∧ (xR mx).slots = 0) (zm : (xR mm).cells = 0 ∧ (xR mm).slots = 0) (mx1 : mx ∈ xMs) (mx2 : Nat.ble 4 mx.2.2.1 = true) (mm1 : mm ∈ xMs) (mm2 : Nat.ble 4 mm.2.2.1 = true) (two : ∀ I, oI I → oTwo la (xext xs) s.heap.size D dA mx mm [.inl (xs (6 * k + 1)).toInt, .inl (xs (6 * k + 2)).toInt, .inl (xs (6 * k + 3)).toInt] I (fun _ _ => True)) (d0 : decode code p0 = .ok (.aload_n 1, 1)) (d1 : decode code (p0 + 1) = .ok (.aload_n 0, 1)) (d2 : decode code (p0 + 2) = .ok (.iload_n 3, 1)) (d3 : decode code (p0 + 3) = .ok (.iconst 1, 1)) (d4 : decode code (p0 + 4) = .ok (.iadd, 1)) (d5 : decode code (p0 + 5) = .ok (.iaload, 1)) (d6 : decode code (p0 + 6) = .ok (.aload_n 0, 1)) (d7 : decode code (p0 + 7) = .ok (.iload_n 3, 1)) (d8 : decode code (p0 + 8) = .ok (.iconst 2, 1)) (d9 : decode code (p0 + 9) = .ok (.iadd, 1)) (d10 : decode code (p0 + 10) = .ok (.iaload, 1)) (d11 : decode code (p0 + 11) = .ok (.aload_n 0, 1)) (d12 : decode code (p0 + 12) = .ok (.iload_n 3, 1)) (d13 : decode code (p0 + 13) = .ok (.iconst 3, 1)) (d14 : decode code (p0 + 14) = .ok (.iadd, 1)) (d15 : decode code (p0 + 15) = .ok (.iaload, 1)) (d16 : decode code (p0 + 16) = .ok (.invokevirtual ix, 3)) (d17 : decode code (p0 + 19) = .ok (.pop, 1)) (d18 : decode code (p0 + 20) = .ok (.aload_n 2, 1)) (d19 : decode code (p0 + 21) = .ok (.aload_n 0, 1)) (d20 : decode code (p0 + 22) = .ok (.iload_n 3, 1)) (d21 : decode code (p0 + 23) = .ok (.iconst 1, 1)) (d22 : decode code (p0 + 24) = .ok (.iadd, 1)) (d23 : decode code (p0 + 25) = .ok (.iaload, 1)) (d24 : decode code (p0 + 26) = .ok (.aload_n 0, 1)) (d25 : decode code (p0 + 27) = .ok (.iload_n 3, 1)) (d26 : decode code (p0 + 28) = .ok (.iconst 2, 1)) (d27 : decode code (p0 + 29) = .ok (.iadd, 1)) (d28 : decode code (p0 + 30) = .ok (.iaload, 1)) (d29 : decode code (p0 + 31) = .ok (.aload_n 0, 1)) (d30 : decode code (p0 + 32) = .ok (.iload_n 3, 1)) (d31 : decode code (p0 + 33) = .ok (.iconst 3, 1)) (d32 : decode code (p0 + 34) = .ok (.iadd, 1)) (d33 : decode code (p0 + 35) = .ok (.iaload, 1)) (d34 : decode code (p0 + 36) = .ok (.invokevirtual im, 3)) (d35 : decode code (p0 + 39) = .ok (.pop, 1)) (d36 : decode code (p0 + 40) = .ok (.goto off, 3)) (ht : ((p0 + 40 : Nat) : Int) + off = ((2386 : Nat) : Int)) {H : Heap} {locs : List Loc} {cells slots : Nat} {ls : Array Slot} (hW : lw_Wj xs s.heap.size D dA H) (hS : va_S (fun q => s.heap.size ≤ q) s.heap H locs) (hl : lv_has ls 4 [(3, .int (nI (6 * k))), (2, .ref (s.heap.size + 740)), (1, .ref s.heap.size), (0, .ref b)]) (hc : cells ≤ 600000) (hs : slots ≤ 7302250) (kk : ∀ H locs, lw_Wj xs s.heap.size D dA H → va_S (fun q => s.heap.size ≤ q) s.heap H locs → W p la e room_1 s m #[Value.ref b] below meth c H locs cells slots (lw_Z below #[Value.ref b] s) (F0 m 2386 ls [])) : W p la e room_1 s m #[Value.ref b] below meth c H locs cells slots (lw_Z below #[Value.ref b] s) (F0 m p0 ls []) := by
  have C0 := C
  obtain ⟨⟨hx, hb, hr, hml, hown, hts, hX, hbl, hlocks, hgv⟩, hK, hKA⟩ := C
  have hbA : ¬ (fun q : Nat => s.heap.size ≤ q) b := Nat.not_le.mpr hbl
  obtain ⟨I, hp, hI, hh, hH⟩ := hW
  have g0 : gJ.1 0 = some (11, 16) := by decide +kernel
  have g1 : gJ.1 740 = some (12, 40) := by decide +kernel
  refine lv_aload_n hx hb d0 rfl (lv_at hl 2 rfl) ?_
  refine lv_aload_n hx hb d1 rfl (lv_at hl 3 rfl) ?_
  refine lv_iload_n hx hb d2 rfl (lv_at hl 0 rfl) ?_
  refine lv_iconst (v := nI 1) hx hb d3 (by decide) ?_
  refine lv_iadd hx hb d4 ?_
  refine va_sld hx hb hX hbl hbA hS (osld hk hL (i := 1) (by decide)).1 d5 ?_
  rw [(osld hk hL (i := 1) (by decide)).2]
  refine lv_aload_n hx hb d6 rfl (lv_at hl 3 rfl) ?_
  refine lv_iload_n hx hb d7 rfl (lv_at hl 0 rfl) ?_
  refine lv_iconst (v := nI 2) hx hb d8 (by decide) ?_
  refine lv_iadd hx hb d9 ?_
  refine va_sld hx hb hX hbl hbA hS (osld hk hL (i := 2) (by decide)).1 d10 ?_
  rw [(osld hk hL (i := 2) (by decide)).2]
  refine lv_aload_n hx hb d11 rfl (lv_at hl 3 rfl) ?_
  refine lv_iload_n hx hb d12 rfl (lv_at hl 0 rfl) ?_
  refine lv_iconst (v := nI 3) hx hb d13 (by decide) ?_
  refine lv_iadd hx hb d14 ?_
  refine va_sld hx hb hX hbl hbA hS (osld hk hL (i := 3) (by decide)).1 d15 ?_
  rw [(osld hk hL (i := 3) (by decide)).2]
  refine lw_callJ (o := 0) (As := [.int (xs (6 * k + 1)), .int (xs (6 * k + 2)), .int (xs (6 * k + 3))]) (vs := [.inl (xs (6 * k + 1)).toInt, .inl (xs (6 * k + 2)).toInt, .inl (xs (6 * k + 3)).toInt]) (rest := []) C0 (xext_lin xs) okx lx kx (by decide) g0 hh mx1 ⟨oarg _, ⟨oarg _, ⟨oarg _, trivial⟩⟩⟩ mx2 (two I hI) (fun _ q => by obtain ⟨z, q, -⟩ := q; cases q) hH hS (fun q hq => hq) rfl hl.1 (by decide) d16 zx ⟨hc, hs⟩ (fun I1 r1 hp1 v1 H1 locs1 hh1 hB1 hP1 hg1 hH1 hS1 => ?_)
  obtain ⟨z1, e1, hC1⟩ := hP1
  cases e1
  have hg1 := oint hg1
  subst hg1
  refine lv_pop (va := .int (iI z1)) hx hb d17 rfl ?_
  refine lv_aload_n hx hb d18 rfl (lv_at hl 1 rfl) ?_
  refine lv_aload_n hx hb d19 rfl (lv_at hl 3 rfl) ?_
  refine lv_iload_n hx hb d20 rfl (lv_at hl 0 rfl) ?_
  refine lv_iconst (v := nI 1) hx hb d21 (by decide) ?_
  refine lv_iadd hx hb d22 ?_
  refine va_sld hx hb hX hbl hbA hS1 (osld hk hL (i := 1) (by decide)).1 d23 ?_
  rw [(osld hk hL (i := 1) (by decide)).2]
  refine lv_aload_n hx hb d24 rfl (lv_at hl 3 rfl) ?_
  refine lv_iload_n hx hb d25 rfl (lv_at hl 0 rfl) ?_
  refine lv_iconst (v := nI 2) hx hb d26 (by decide) ?_
  refine lv_iadd hx hb d27 ?_
  refine va_sld hx hb hX hbl hbA hS1 (osld hk hL (i := 2) (by decide)).1 d28 ?_
  rw [(osld hk hL (i := 2) (by decide)).2]
  refine lv_aload_n hx hb d29 rfl (lv_at hl 3 rfl) ?_
  refine lv_iload_n hx hb d30 rfl (lv_at hl 0 rfl) ?_
  refine lv_iconst (v := nI 3) hx hb d31 (by decide) ?_
  refine lv_iadd hx hb d32 ?_
  refine va_sld hx hb hX hbl hbA hS1 (osld hk hL (i := 3) (by decide)).1 d33 ?_
  rw [(osld hk hL (i := 3) (by decide)).2]
  refine lw_callJ (o := 740) (As := [.int (xs (6 * k + 1)), .int (xs (6 * k + 2)), .int (xs (6 * k + 3))]) (vs := [.inl (xs (6 * k + 1)).toInt, .inl (xs (6 * k + 2)).toInt, .inl (xs (6 * k + 3)).toInt]) (rest := []) C0 (xext_lin xs) okm lm km (by decide) g1 hh1 mm1 ⟨oarg _, ⟨oarg _, ⟨oarg _, trivial⟩⟩⟩ mm2 hC1 (fun _ q => by obtain ⟨z, q, -⟩ := q; cases q) hH1 hS1 (fun q hq => hq) rfl hl.1 (by decide) d34 zm ⟨hc, hs⟩ (fun I2 r2 hp2 v2 H2 locs2 hh2 hB2 hP2 hg2 hH2 hS2 => ?_)
  obtain ⟨z2, e2, hI2, hR⟩ := hP2
  cases e2
  have hg2 := oint hg2
  subst hg2
  refine lv_pop (va := .int (iI z2)) hx hb d35 rfl ?_
  refine lv_goto (tgt := 2386) hx hb d36 ht ?_
  exact kk H2 locs2 ⟨I2, hp2, hI2, hh2, hH2⟩ hS2
theorem lw_d4 {p0 ix im k : Nat} {off : Int} {mx mm : xM} (C : lw_Cx p s m meth c b L xs D dA) (hk : 6 * k + 6 ≤ L) (hL : L ≤ 384) (okx : lw_Ok mx 4) (okm : lw_Ok mm 4) (lx : Jvm.Cond.methodLink R_law ix mx.1 ∈ lw_tbl ∧ Jvm.Cond.selects mx.1.cls mx.1 mx.1 ∈ lw_tbl) (lm : Jvm.Cond.methodLink R_law im mm.1 ∈ lw_tbl ∧ Jvm.Cond.selects mm.1.cls mm.1 mm.1 ∈ lw_tbl) (kx : vwCl[11]? = some (mx.1.cls, TX11, 16)) (km : vwCl[12]? = some (mm.1.cls, TX12, 40)) (zx : (xR mx).cells = 0 ∧ (xR mx).slots = 0) (zm : (xR mm).cells = 0 ∧ (xR mm).slots = 0) (mx1 : mx ∈ xMs) (mx2 : Nat.ble 5 mx.2.2.1 = true) (mm1 : mm ∈ xMs) (mm2 : Nat.ble 5 mm.2.2.1 = true) (two : ∀ I, oI I → oTwo la (xext xs) s.heap.size D dA mx mm [.inl (xs (6 * k + 1)).toInt, .inl (xs (6 * k + 2)).toInt, .inl (xs (6 * k + 3)).toInt, .inl (xs (6 * k + 4)).toInt] I (fun _ _ => True)) (d0 : decode code p0 = .ok (.aload_n 1, 1)) (d1 : decode code (p0 + 1) = .ok (.aload_n 0, 1)) (d2 : decode code (p0 + 2) = .ok (.iload_n 3, 1)) (d3 : decode code (p0 + 3) = .ok (.iconst 1, 1)) (d4 : decode code (p0 + 4) = .ok (.iadd, 1)) (d5 : decode code (p0 + 5) = .ok (.iaload, 1)) (d6 : decode code (p0 + 6) = .ok (.aload_n 0, 1)) (d7 : decode code (p0 + 7) = .ok (.iload_n 3, 1)) (d8 : decode code (p0 + 8) = .ok (.iconst 2, 1)) (d9 : decode code (p0 + 9) = .ok (.iadd, 1)) (d10 : decode code (p0 + 10) = .ok (.iaload, 1)) (d11 : decode code (p0 + 11) = .ok (.aload_n 0, 1)) (d12 : decode code (p0 + 12) = .ok (.iload_n 3, 1)) (d13 : decode code (p0 + 13) = .ok (.iconst 3, 1)) (d14 : decode code (p0 + 14) = .ok (.iadd, 1)) (d15 : decode code (p0 + 15) = .ok (.iaload, 1)) (d16 : decode code (p0 + 16) = .ok (.aload_n 0, 1)) (d17 : decode code (p0 + 17) = .ok (.iload_n 3, 1)) (d18 : decode code (p0 + 18) = .ok (.iconst 4, 1)) (d19 : decode code (p0 + 19) = .ok (.iadd, 1)) (d20 : decode code (p0 + 20) = .ok (.iaload, 1)) (d21 : decode code (p0 + 21) = .ok (.invokevirtual ix, 3)) (d22 : decode code (p0 + 24) = .ok (.pop, 1)) (d23 : decode code (p0 + 25) = .ok (.aload_n 2, 1)) (d24 : decode code (p0 + 26) = .ok (.aload_n 0, 1)) (d25 : decode code (p0 + 27) = .ok (.iload_n 3, 1)) (d26 : decode code (p0 + 28) = .ok (.iconst 1, 1)) (d27 : decode code (p0 + 29) = .ok (.iadd, 1)) (d28 : decode code (p0 + 30) = .ok (.iaload, 1)) (d29 : decode code (p0 + 31) = .ok (.aload_n 0, 1)) (d30 : decode code (p0 + 32) = .ok (.iload_n 3, 1)) (d31 : decode code (p0 + 33) = .ok (.iconst 2, 1)) (d32 : decode code (p0 + 34) = .ok (.iadd, 1)) (d33 : decode code (p0 + 35) = .ok (.iaload, 1)) (d34 : decode code (p0 + 36) = .ok (.aload_n 0, 1)) (d35 : decode code (p0 + 37) = .ok (.iload_n 3, 1)) (d36 : decode code (p0 + 38) = .ok (.iconst 3, 1)) (d37 : decode code (p0 + 39) = .ok (.iadd, 1)) (d38 : decode code (p0 + 40) = .ok (.iaload, 1)) (d39 : decode code (p0 + 41) = .ok (.aload_n 0, 1)) (d40 : decode code (p0 + 42) = .ok (.iload_n 3, 1)) (d41 : decode code (p0 + 43) = .ok (.iconst 4, 1)) (d42 : decode code (p0 + 44) = .ok (.iadd, 1)) (d43 : decode code (p0 + 45) = .ok (.iaload, 1)) (d44 : decode code (p0 + 46) = .ok (.invokevirtual im, 3)) (d45 : decode code (p0 + 49) = .ok (.pop, 1)) (d46 : decode code (p0 + 50) = .ok (.goto off, 3)) (ht : ((p0 + 50 : Nat) : Int) + off = ((2386 : Nat) : Int)) {H : Heap} {locs : List Loc} {cells slots : Nat} {ls : Array Slot} (hW : lw_Wj xs s.heap.size D dA H) (hS : va_S (fun q => s.heap.size ≤ q) s.heap H locs) (hl : lv_has ls 4 [(3, .int (nI (6 * k))), (2, .ref (s.heap.size + 740)), (1, .ref s.heap.size), (0, .ref b)]) (hc : cells ≤ 600000) (hs : slots ≤ 7302250) (kk : ∀ H locs, lw_Wj xs s.heap.size D dA H → va_S (fun q => s.heap.size ≤ q) s.heap H locs → W p la e room_1 s m #[Value.ref b] below meth c H locs cells slots (lw_Z below #[Value.ref b] s) (F0 m 2386 ls [])) : W p la e room_1 s m #[Value.ref b] below meth c H locs cells slots (lw_Z below #[Value.ref b] s) (F0 m p0 ls []) := by
  have C0 := C
  obtain ⟨⟨hx, hb, hr, hml, hown, hts, hX, hbl, hlocks, hgv⟩, hK, hKA⟩ := C
  have hbA : ¬ (fun q : Nat => s.heap.size ≤ q) b := Nat.not_le.mpr hbl
  obtain ⟨I, hp, hI, hh, hH⟩ := hW
  have g0 : gJ.1 0 = some (11, 16) := by decide +kernel
  have g1 : gJ.1 740 = some (12, 40) := by decide +kernel
  refine lv_aload_n hx hb d0 rfl (lv_at hl 2 rfl) ?_
  refine lv_aload_n hx hb d1 rfl (lv_at hl 3 rfl) ?_
  refine lv_iload_n hx hb d2 rfl (lv_at hl 0 rfl) ?_
  refine lv_iconst (v := nI 1) hx hb d3 (by decide) ?_
  refine lv_iadd hx hb d4 ?_
  refine va_sld hx hb hX hbl hbA hS (osld hk hL (i := 1) (by decide)).1 d5 ?_
  rw [(osld hk hL (i := 1) (by decide)).2]
  refine lv_aload_n hx hb d6 rfl (lv_at hl 3 rfl) ?_
  refine lv_iload_n hx hb d7 rfl (lv_at hl 0 rfl) ?_
  refine lv_iconst (v := nI 2) hx hb d8 (by decide) ?_
  refine lv_iadd hx hb d9 ?_
  refine va_sld hx hb hX hbl hbA hS (osld hk hL (i := 2) (by decide)).1 d10 ?_
  rw [(osld hk hL (i := 2) (by decide)).2]
  refine lv_aload_n hx hb d11 rfl (lv_at hl 3 rfl) ?_
  refine lv_iload_n hx hb d12 rfl (lv_at hl 0 rfl) ?_
  refine lv_iconst (v := nI 3) hx hb d13 (by decide) ?_
  refine lv_iadd hx hb d14 ?_
  refine va_sld hx hb hX hbl hbA hS (osld hk hL (i := 3) (by decide)).1 d15 ?_
  rw [(osld hk hL (i := 3) (by decide)).2]
  refine lv_aload_n hx hb d16 rfl (lv_at hl 3 rfl) ?_
  refine lv_iload_n hx hb d17 rfl (lv_at hl 0 rfl) ?_
  refine lv_iconst (v := nI 4) hx hb d18 (by decide) ?_
  refine lv_iadd hx hb d19 ?_
  refine va_sld hx hb hX hbl hbA hS (osld hk hL (i := 4) (by decide)).1 d20 ?_
  rw [(osld hk hL (i := 4) (by decide)).2]
  refine lw_callJ (o := 0) (As := [.int (xs (6 * k + 1)), .int (xs (6 * k + 2)), .int (xs (6 * k + 3)), .int (xs (6 * k + 4))]) (vs := [.inl (xs (6 * k + 1)).toInt, .inl (xs (6 * k + 2)).toInt, .inl (xs (6 * k + 3)).toInt, .inl (xs (6 * k + 4)).toInt]) (rest := []) C0 (xext_lin xs) okx lx kx (by decide) g0 hh mx1 ⟨oarg _, ⟨oarg _, ⟨oarg _, ⟨oarg _, trivial⟩⟩⟩⟩ mx2 (two I hI) (fun _ q => by obtain ⟨z, q, -⟩ := q; cases q) hH hS (fun q hq => hq) rfl hl.1 (by decide) d21 zx ⟨hc, hs⟩ (fun I1 r1 hp1 v1 H1 locs1 hh1 hB1 hP1 hg1 hH1 hS1 => ?_)
  obtain ⟨z1, e1, hC1⟩ := hP1
  cases e1
  have hg1 := oint hg1
  subst hg1
  refine lv_pop (va := .int (iI z1)) hx hb d22 rfl ?_
  refine lv_aload_n hx hb d23 rfl (lv_at hl 1 rfl) ?_
  refine lv_aload_n hx hb d24 rfl (lv_at hl 3 rfl) ?_
  refine lv_iload_n hx hb d25 rfl (lv_at hl 0 rfl) ?_
  refine lv_iconst (v := nI 1) hx hb d26 (by decide) ?_
  refine lv_iadd hx hb d27 ?_
  refine va_sld hx hb hX hbl hbA hS1 (osld hk hL (i := 1) (by decide)).1 d28 ?_
  rw [(osld hk hL (i := 1) (by decide)).2]
  refine lv_aload_n hx hb d29 rfl (lv_at hl 3 rfl) ?_
  refine lv_iload_n hx hb d30 rfl (lv_at hl 0 rfl) ?_
  refine lv_iconst (v := nI 2) hx hb d31 (by decide) ?_
  refine lv_iadd hx hb d32 ?_
  refine va_sld hx hb hX hbl hbA hS1 (osld hk hL (i := 2) (by decide)).1 d33 ?_
  rw [(osld hk hL (i := 2) (by decide)).2]
  refine lv_aload_n hx hb d34 rfl (lv_at hl 3 rfl) ?_
  refine lv_iload_n hx hb d35 rfl (lv_at hl 0 rfl) ?_
  refine lv_iconst (v := nI 3) hx hb d36 (by decide) ?_
  refine lv_iadd hx hb d37 ?_
  refine va_sld hx hb hX hbl hbA hS1 (osld hk hL (i := 3) (by decide)).1 d38 ?_
  rw [(osld hk hL (i := 3) (by decide)).2]
  refine lv_aload_n hx hb d39 rfl (lv_at hl 3 rfl) ?_
  refine lv_iload_n hx hb d40 rfl (lv_at hl 0 rfl) ?_
  refine lv_iconst (v := nI 4) hx hb d41 (by decide) ?_
  refine lv_iadd hx hb d42 ?_
  refine va_sld hx hb hX hbl hbA hS1 (osld hk hL (i := 4) (by decide)).1 d43 ?_
  rw [(osld hk hL (i := 4) (by decide)).2]
  refine lw_callJ (o := 740) (As := [.int (xs (6 * k + 1)), .int (xs (6 * k + 2)), .int (xs (6 * k + 3)), .int (xs (6 * k + 4))]) (vs := [.inl (xs (6 * k + 1)).toInt, .inl (xs (6 * k + 2)).toInt, .inl (xs (6 * k + 3)).toInt, .inl (xs (6 * k + 4)).toInt]) (rest := []) C0 (xext_lin xs) okm lm km (by decide) g1 hh1 mm1 ⟨oarg _, ⟨oarg _, ⟨oarg _, ⟨oarg _, trivial⟩⟩⟩⟩ mm2 hC1 (fun _ q => by obtain ⟨z, q, -⟩ := q; cases q) hH1 hS1 (fun q hq => hq) rfl hl.1 (by decide) d44 zm ⟨hc, hs⟩ (fun I2 r2 hp2 v2 H2 locs2 hh2 hB2 hP2 hg2 hH2 hS2 => ?_)
  obtain ⟨z2, e2, hI2, hR⟩ := hP2
  cases e2
  have hg2 := oint hg2
  subst hg2
  refine lv_pop (va := .int (iI z2)) hx hb d45 rfl ?_
  refine lv_goto (tgt := 2386) hx hb d46 ht ?_
  exact kk H2 locs2 ⟨I2, hp2, hI2, hh2, hH2⟩ hS2
theorem lw_d5 {p0 ix im k : Nat} {off : Int} {mx mm : xM} (C : lw_Cx p s m meth c b L xs D dA) (hk : 6 * k + 6 ≤ L) (hL : L ≤ 384) (okx : lw_Ok mx 5) (okm : lw_Ok mm 5) (lx : Jvm.Cond.methodLink R_law ix mx.1 ∈ lw_tbl ∧ Jvm.Cond.selects mx.1.cls mx.1 mx.1 ∈ lw_tbl) (lm : Jvm.Cond.methodLink R_law im mm.1 ∈ lw_tbl ∧ Jvm.Cond.selects mm.1.cls mm.1 mm.1 ∈ lw_tbl) (kx : vwCl[11]? = some (mx.1.cls, TX11, 16)) (km : vwCl[12]? = some (mm.1.cls, TX12, 40)) (zx : (xR mx).cells = 0 ∧ (xR mx).slots = 0) (zm : (xR mm).cells = 0 ∧ (xR mm).slots = 0) (mx1 : mx ∈ xMs) (mx2 : Nat.ble 6 mx.2.2.1 = true) (mm1 : mm ∈ xMs) (mm2 : Nat.ble 6 mm.2.2.1 = true) (two : ∀ I, oI I → oTwo la (xext xs) s.heap.size D dA mx mm [.inl (xs (6 * k + 1)).toInt, .inl (xs (6 * k + 2)).toInt, .inl (xs (6 * k + 3)).toInt, .inl (xs (6 * k + 4)).toInt, .inl (xs (6 * k + 5)).toInt] I (fun _ _ => True)) (d0 : decode code p0 = .ok (.aload_n 1, 1)) (d1 : decode code (p0 + 1) = .ok (.aload_n 0, 1)) (d2 : decode code (p0 + 2) = .ok (.iload_n 3, 1)) (d3 : decode code (p0 + 3) = .ok (.iconst 1, 1)) (d4 : decode code (p0 + 4) = .ok (.iadd, 1)) (d5 : decode code (p0 + 5) = .ok (.iaload, 1)) (d6 : decode code (p0 + 6) = .ok (.aload_n 0, 1)) (d7 : decode code (p0 + 7) = .ok (.iload_n 3, 1)) (d8 : decode code (p0 + 8) = .ok (.iconst 2, 1)) (d9 : decode code (p0 + 9) = .ok (.iadd, 1)) (d10 : decode code (p0 + 10) = .ok (.iaload, 1)) (d11 : decode code (p0 + 11) = .ok (.aload_n 0, 1)) (d12 : decode code (p0 + 12) = .ok (.iload_n 3, 1)) (d13 : decode code (p0 + 13) = .ok (.iconst 3, 1)) (d14 : decode code (p0 + 14) = .ok (.iadd, 1)) (d15 : decode code (p0 + 15) = .ok (.iaload, 1)) (d16 : decode code (p0 + 16) = .ok (.aload_n 0, 1)) (d17 : decode code (p0 + 17) = .ok (.iload_n 3, 1)) (d18 : decode code (p0 + 18) = .ok (.iconst 4, 1)) (d19 : decode code (p0 + 19) = .ok (.iadd, 1)) (d20 : decode code (p0 + 20) = .ok (.iaload, 1)) (d21 : decode code (p0 + 21) = .ok (.aload_n 0, 1)) (d22 : decode code (p0 + 22) = .ok (.iload_n 3, 1)) (d23 : decode code (p0 + 23) = .ok (.iconst 5, 1)) (d24 : decode code (p0 + 24) = .ok (.iadd, 1)) (d25 : decode code (p0 + 25) = .ok (.iaload, 1)) (d26 : decode code (p0 + 26) = .ok (.invokevirtual ix, 3)) (d27 : decode code (p0 + 29) = .ok (.pop, 1)) (d28 : decode code (p0 + 30) = .ok (.aload_n 2, 1)) (d29 : decode code (p0 + 31) = .ok (.aload_n 0, 1)) (d30 : decode code (p0 + 32) = .ok (.iload_n 3, 1)) (d31 : decode code (p0 + 33) = .ok (.iconst 1, 1)) (d32 : decode code (p0 + 34) = .ok (.iadd, 1)) (d33 : decode code (p0 + 35) = .ok (.iaload, 1)) (d34 : decode code (p0 + 36) = .ok (.aload_n 0, 1)) (d35 : decode code (p0 + 37) = .ok (.iload_n 3, 1)) (d36 : decode code (p0 + 38) = .ok (.iconst 2, 1)) (d37 : decode code (p0 + 39) = .ok (.iadd, 1)) (d38 : decode code (p0 + 40) = .ok (.iaload, 1)) (d39 : decode code (p0 + 41) = .ok (.aload_n 0, 1)) (d40 : decode code (p0 + 42) = .ok (.iload_n 3, 1)) (d41 : decode code (p0 + 43) = .ok (.iconst 3, 1)) (d42 : decode code (p0 + 44) = .ok (.iadd, 1)) (d43 : decode code (p0 + 45) = .ok (.iaload, 1)) (d44 : decode code (p0 + 46) = .ok (.aload_n 0, 1)) (d45 : decode code (p0 + 47) = .ok (.iload_n 3, 1)) (d46 : decode code (p0 + 48) = .ok (.iconst 4, 1)) (d47 : decode code (p0 + 49) = .ok (.iadd, 1)) (d48 : decode code (p0 + 50) = .ok (.iaload, 1)) (d49 : decode code (p0 + 51) = .ok (.aload_n 0, 1)) (d50 : decode code (p0 + 52) = .ok (.iload_n 3, 1)) (d51 : decode code (p0 + 53) = .ok (.iconst 5, 1)) (d52 : decode code (p0 + 54) = .ok (.iadd, 1)) (d53 : decode code (p0 + 55) = .ok (.iaload, 1)) (d54 : decode code (p0 + 56) = .ok (.invokevirtual im, 3)) (d55 : decode code (p0 + 59) = .ok (.pop, 1)) (d56 : decode code (p0 + 60) = .ok (.goto off, 3)) (ht : ((p0 + 60 : Nat) : Int) + off = ((2386 : Nat) : Int)) {H : Heap} {locs : List Loc} {cells slots : Nat} {ls : Array Slot} (hW : lw_Wj xs s.heap.size D dA H) (hS : va_S (fun q => s.heap.size ≤ q) s.heap H locs) (hl : lv_has ls 4 [(3, .int (nI (6 * k))), (2, .ref (s.heap.size + 740)), (1, .ref s.heap.size), (0, .ref b)]) (hc : cells ≤ 600000) (hs : slots ≤ 7302250) (kk : ∀ H locs, lw_Wj xs s.heap.size D dA H → va_S (fun q => s.heap.size ≤ q) s.heap H locs → W p la e room_1 s m #[Value.ref b] below meth c H locs cells slots (lw_Z below #[Value.ref b] s) (F0 m 2386 ls [])) : W p la e room_1 s m #[Value.ref b] below meth c H locs cells slots (lw_Z below #[Value.ref b] s) (F0 m p0 ls []) := by
  have C0 := C
  obtain ⟨⟨hx, hb, hr, hml, hown, hts, hX, hbl, hlocks, hgv⟩, hK, hKA⟩ := C
  have hbA : ¬ (fun q : Nat => s.heap.size ≤ q) b := Nat.not_le.mpr hbl
  obtain ⟨I, hp, hI, hh, hH⟩ := hW
  have g0 : gJ.1 0 = some (11, 16) := by decide +kernel
  have g1 : gJ.1 740 = some (12, 40) := by decide +kernel
  refine lv_aload_n hx hb d0 rfl (lv_at hl 2 rfl) ?_
  refine lv_aload_n hx hb d1 rfl (lv_at hl 3 rfl) ?_
  refine lv_iload_n hx hb d2 rfl (lv_at hl 0 rfl) ?_
  refine lv_iconst (v := nI 1) hx hb d3 (by decide) ?_
  refine lv_iadd hx hb d4 ?_
  refine va_sld hx hb hX hbl hbA hS (osld hk hL (i := 1) (by decide)).1 d5 ?_
  rw [(osld hk hL (i := 1) (by decide)).2]
  refine lv_aload_n hx hb d6 rfl (lv_at hl 3 rfl) ?_
  refine lv_iload_n hx hb d7 rfl (lv_at hl 0 rfl) ?_
  refine lv_iconst (v := nI 2) hx hb d8 (by decide) ?_
  refine lv_iadd hx hb d9 ?_
  refine va_sld hx hb hX hbl hbA hS (osld hk hL (i := 2) (by decide)).1 d10 ?_
  rw [(osld hk hL (i := 2) (by decide)).2]
  refine lv_aload_n hx hb d11 rfl (lv_at hl 3 rfl) ?_
  refine lv_iload_n hx hb d12 rfl (lv_at hl 0 rfl) ?_
  refine lv_iconst (v := nI 3) hx hb d13 (by decide) ?_
  refine lv_iadd hx hb d14 ?_
  refine va_sld hx hb hX hbl hbA hS (osld hk hL (i := 3) (by decide)).1 d15 ?_
  rw [(osld hk hL (i := 3) (by decide)).2]
  refine lv_aload_n hx hb d16 rfl (lv_at hl 3 rfl) ?_
  refine lv_iload_n hx hb d17 rfl (lv_at hl 0 rfl) ?_
  refine lv_iconst (v := nI 4) hx hb d18 (by decide) ?_
  refine lv_iadd hx hb d19 ?_
  refine va_sld hx hb hX hbl hbA hS (osld hk hL (i := 4) (by decide)).1 d20 ?_
  rw [(osld hk hL (i := 4) (by decide)).2]
  refine lv_aload_n hx hb d21 rfl (lv_at hl 3 rfl) ?_
  refine lv_iload_n hx hb d22 rfl (lv_at hl 0 rfl) ?_
  refine lv_iconst (v := nI 5) hx hb d23 (by decide) ?_
  refine lv_iadd hx hb d24 ?_
  refine va_sld hx hb hX hbl hbA hS (osld hk hL (i := 5) (by decide)).1 d25 ?_
  rw [(osld hk hL (i := 5) (by decide)).2]
  refine lw_callJ (o := 0) (As := [.int (xs (6 * k + 1)), .int (xs (6 * k + 2)), .int (xs (6 * k + 3)), .int (xs (6 * k + 4)), .int (xs (6 * k + 5))]) (vs := [.inl (xs (6 * k + 1)).toInt, .inl (xs (6 * k + 2)).toInt, .inl (xs (6 * k + 3)).toInt, .inl (xs (6 * k + 4)).toInt, .inl (xs (6 * k + 5)).toInt]) (rest := []) C0 (xext_lin xs) okx lx kx (by decide) g0 hh mx1 ⟨oarg _, ⟨oarg _, ⟨oarg _, ⟨oarg _, ⟨oarg _, trivial⟩⟩⟩⟩⟩ mx2 (two I hI) (fun _ q => by obtain ⟨z, q, -⟩ := q; cases q) hH hS (fun q hq => hq) rfl hl.1 (by decide) d26 zx ⟨hc, hs⟩ (fun I1 r1 hp1 v1 H1 locs1 hh1 hB1 hP1 hg1 hH1 hS1 => ?_)
  obtain ⟨z1, e1, hC1⟩ := hP1
  cases e1
  have hg1 := oint hg1
  subst hg1
  refine lv_pop (va := .int (iI z1)) hx hb d27 rfl ?_
  refine lv_aload_n hx hb d28 rfl (lv_at hl 1 rfl) ?_
  refine lv_aload_n hx hb d29 rfl (lv_at hl 3 rfl) ?_
  refine lv_iload_n hx hb d30 rfl (lv_at hl 0 rfl) ?_
  refine lv_iconst (v := nI 1) hx hb d31 (by decide) ?_
  refine lv_iadd hx hb d32 ?_
  refine va_sld hx hb hX hbl hbA hS1 (osld hk hL (i := 1) (by decide)).1 d33 ?_
  rw [(osld hk hL (i := 1) (by decide)).2]
  refine lv_aload_n hx hb d34 rfl (lv_at hl 3 rfl) ?_
  refine lv_iload_n hx hb d35 rfl (lv_at hl 0 rfl) ?_
  refine lv_iconst (v := nI 2) hx hb d36 (by decide) ?_
  refine lv_iadd hx hb d37 ?_
  refine va_sld hx hb hX hbl hbA hS1 (osld hk hL (i := 2) (by decide)).1 d38 ?_
  rw [(osld hk hL (i := 2) (by decide)).2]
  refine lv_aload_n hx hb d39 rfl (lv_at hl 3 rfl) ?_
  refine lv_iload_n hx hb d40 rfl (lv_at hl 0 rfl) ?_
  refine lv_iconst (v := nI 3) hx hb d41 (by decide) ?_
  refine lv_iadd hx hb d42 ?_
  refine va_sld hx hb hX hbl hbA hS1 (osld hk hL (i := 3) (by decide)).1 d43 ?_
  rw [(osld hk hL (i := 3) (by decide)).2]
  refine lv_aload_n hx hb d44 rfl (lv_at hl 3 rfl) ?_
  refine lv_iload_n hx hb d45 rfl (lv_at hl 0 rfl) ?_
  refine lv_iconst (v := nI 4) hx hb d46 (by decide) ?_
  refine lv_iadd hx hb d47 ?_
  refine va_sld hx hb hX hbl hbA hS1 (osld hk hL (i := 4) (by decide)).1 d48 ?_
  rw [(osld hk hL (i := 4) (by decide)).2]
  refine lv_aload_n hx hb d49 rfl (lv_at hl 3 rfl) ?_
  refine lv_iload_n hx hb d50 rfl (lv_at hl 0 rfl) ?_
  refine lv_iconst (v := nI 5) hx hb d51 (by decide) ?_
  refine lv_iadd hx hb d52 ?_
  refine va_sld hx hb hX hbl hbA hS1 (osld hk hL (i := 5) (by decide)).1 d53 ?_
  rw [(osld hk hL (i := 5) (by decide)).2]
  refine lw_callJ (o := 740) (As := [.int (xs (6 * k + 1)), .int (xs (6 * k + 2)), .int (xs (6 * k + 3)), .int (xs (6 * k + 4)), .int (xs (6 * k + 5))]) (vs := [.inl (xs (6 * k + 1)).toInt, .inl (xs (6 * k + 2)).toInt, .inl (xs (6 * k + 3)).toInt, .inl (xs (6 * k + 4)).toInt, .inl (xs (6 * k + 5)).toInt]) (rest := []) C0 (xext_lin xs) okm lm km (by decide) g1 hh1 mm1 ⟨oarg _, ⟨oarg _, ⟨oarg _, ⟨oarg _, ⟨oarg _, trivial⟩⟩⟩⟩⟩ mm2 hC1 (fun _ q => by obtain ⟨z, q, -⟩ := q; cases q) hH1 hS1 (fun q hq => hq) rfl hl.1 (by decide) d54 zm ⟨hc, hs⟩ (fun I2 r2 hp2 v2 H2 locs2 hh2 hB2 hP2 hg2 hH2 hS2 => ?_)
  obtain ⟨z2, e2, hI2, hR⟩ := hP2
  cases e2
  have hg2 := oint hg2
  subst hg2
  refine lv_pop (va := .int (iI z2)) hx hb d55 rfl ?_
  refine lv_goto (tgt := 2386) hx hb d56 ht ?_
  exact kk H2 locs2 ⟨I2, hp2, hI2, hh2, hH2⟩ hS2
end LWB

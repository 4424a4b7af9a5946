set_option linter.all false
/-! the charter: frames; who may what -/
def lZ0 : List Nat := [10506, 10507, 10508, 188, 189, 190, 191, 192, 193, 206]
def lZ256 : List Nat := [11106, 11107, 11108, 444, 445, 446, 447, 448, 449, 462]
def cLZb (d : Nat) (Z : List Nat) : Bool := Z.elem (znJ (187 + d) 6) && (Z.elem (znJ (187 + d) 7) && (Z.elem (znJ (187 + d) 8) && ((List.range 5).all (fun k => Z.elem (188 + k + d) && (frg zvJ (188 + k + d)).isNone) && ((Z.elem (206 + d) && (frg zvJ (206 + d)).isNone) && (List.range 12).all (fun t => (List.range 96).all (fun j => Z.elem (znJ (194 + t + d) j)))))))
theorem lZ0_ok : cLZb 0 lZ0 = true := by decide +kernel
theorem lZ256_ok : cLZb 256 lZ256 = true := by decide +kernel
theorem cLw_fr {d : Nat} {Z W : List Nat} {I I' : fH} (hz : cLZb d Z = true) (f : fFr znJ W I I') (h : Z.all (fun z => zin W z) = true) : cLw d I' = cLw d I := by
  obtain ⟨h6, hz⟩ := Bool.and_eq_true_iff.mp hz
  obtain ⟨h7, hz⟩ := Bool.and_eq_true_iff.mp hz
  obtain ⟨h8, hz⟩ := Bool.and_eq_true_iff.mp hz
  obtain ⟨hp, hz⟩ := Bool.and_eq_true_iff.mp hz
  obtain ⟨hs, hr⟩ := Bool.and_eq_true_iff.mp hz
  have P : ∀ a, Z.elem a = true → (frg zvJ a).isNone = true → ∀ j, I' a j = I a j := fun a q1 q2 j => f a j (by
    have e : znJ a j = a := by
      show fzt zvJ a j = a
      unfold fzt
      rw [Option.isNone_iff_eq_none.mp q2]
    rw [e]
    exact zin_of h q1)
  refine cLw_cg (f _ _ (zin_of h h6)) (f _ _ (zin_of h h7)) (f _ _ (zin_of h h8)) (fun k j hk => ?_) (fun j => ?_) (fun t j ht hj => f _ _ (zin_of h (List.all_eq_true.mp (List.all_eq_true.mp hr t (List.mem_range.mpr ht)) j (List.mem_range.mpr hj))))
  · have q := Bool.and_eq_true_iff.mp (List.all_eq_true.mp hp k (List.mem_range.mpr hk))
    exact P _ q.1 q.2 j
  · have q := Bool.and_eq_true_iff.mp hs
    exact P _ q.1 q.2 j
def mLZ : List Nat := [20009, 20014, 20015, 20016, 20404, 20600, 20601, 20602, 20603, 20604, 20605]
def lwb (j : Nat) : Bool := Nat.beq j 9 || Nat.beq j 14 || Nat.beq j 15 || Nat.beq j 16 || (Nat.ble 870 j && Nat.ble j 1013 && Nat.beq ((j - 870) % 6) 4) || (Nat.ble 1210 j && Nat.ble j 3609)
theorem mLZ_ok : (List.range 3610).all (fun j => !lwb j || mLZ.elem (znJ 741 j)) = true := by decide +kernel
theorem mLw_at {W : List Nat} {I I' : fH} (f : fFr znJ W I I') (h : mLZ.all (fun z => zin W z) = true) {j : Nat} (q : lwb j = true) (hj : j < 3610) : I' 741 j = I 741 j := f _ _ (zin_of h (bor_of (List.all_eq_true.mp mLZ_ok j (List.mem_range.mpr hj)) q))
theorem lwb_s {p : Nat} (h : p < 24) : lwb (874 + 6 * p) = true := by
  have e : (List.range 24).all (fun p => lwb (874 + 6 * p)) = true := by decide +kernel
  exact List.all_eq_true.mp e p (List.mem_range.mpr h)
theorem lwb_t {j : Nat} (h1 : 1210 ≤ j) (h2 : j ≤ 3609) : lwb j = true := by
  unfold lwb
  rw [Nat.ble_eq_true_of_le h1, Nat.ble_eq_true_of_le h2]
  simp
theorem mLw_cgp {I I' : fH} (h : ∀ j, lwb j = true → j < 3610 → I' 741 j = I 741 j) : mLw 741 I' = mLw 741 I := by
  have e9 := h 9 (by decide) (by decide)
  have e14 := h 14 (by decide) (by decide)
  have e15 := h 15 (by decide) (by decide)
  have e16 := h 16 (by decide) (by decide)
  have a3 : (fun p => if I' 741 14 < 0 ∨ 24 ≤ p then 0 else I' 741 (874 + 6 * p)) = (fun p => if I 741 14 < 0 ∨ 24 ≤ p then 0 else I 741 (874 + 6 * p)) := funext (fun p => by
    rw [e14]
    by_cases c : I 741 14 < 0 ∨ 24 ≤ p
    · rw [if_pos c, if_pos c]
    · rw [if_neg c, if_neg c, h _ (lwb_s (by omega)) (by omega)])
  have a4 : mFd 741 I' = mFd 741 I := funext (fun t => funext (fun k => by
    unfold mFd
    rw [e9]
    by_cases c : ((t : Int) < I 741 9 ∧ t < 12) ∧ k ≤ 4
    · rw [if_pos c, if_pos c, h _ (lwb_t (by omega) (by omega)) (by omega)]
    · rw [if_neg c, if_neg c]))
  have a5 : mCd 741 I' = mCd 741 I := funext (fun t => funext (fun i => by
    unfold mCd
    rw [e9]
    by_cases c0 : t < 12
    · rw [h (1214 + 200 * t) (lwb_t (by omega) (by omega)) (by omega)]
      by_cases c : (((t : Int) < I 741 9 ∧ t < 12) ∧ (i : Int) < I 741 (1214 + 200 * t)) ∧ i < 96
      · rw [if_pos c, if_pos c, h _ (lwb_t (by omega) (by omega)) (by omega), h _ (lwb_t (by omega) (by omega)) (by omega)]
      · rw [if_neg c, if_neg c]
    · rw [if_neg (fun q => c0 q.1.1.2), if_neg (fun q => c0 q.1.1.2)]))
  unfold mLw
  rw [a3, e9, e14, e15, e16, a4, a5]
theorem mLw_fr {W : List Nat} {I I' : fH} (f : fFr znJ W I I') (h : mLZ.all (fun z => zin W z) = true) : mLw 741 I' = mLw 741 I := mLw_cgp (fun _ q hj => mLw_at f h q hj)
theorem okE_cgp {I I' : fH} (h : ∀ j, lwb j = true → j < 3610 → I' 741 j = I 741 j) (k : okE 741 I) : okE 741 I' := by
  intro t i ht hi
  rw [h 9 (by decide) (by decide)] at ht
  rw [h _ (lwb_t (j := 1214 + 200 * t) (by omega) (by omega)) (by omega)] at hi
  rw [h _ (lwb_t (j := 1215 + 200 * t + 2 * i) (by omega) (by omega)) (by omega), h _ (lwb_t (j := 1215 + 200 * t + 2 * i + 1) (by omega) (by omega)) (by omega)]
  exact k t i ht hi
theorem okE_fr {W : List Nat} {I I' : fH} (f : fFr znJ W I I') (h : mLZ.all (fun z => zin W z) = true) (k : okE 741 I) : okE 741 I' := okE_cgp (fun _ q hj => mLw_at f h q hj) k
/-- the hour -/
def sHr (r : Rw) : Int := Int.tdiv (gt r 0) 60
theorem sHr_c {r : Rw} {x y z p : Int} (hx : x = gt r p) (hp : p = 0) (fx : fin32 x) (hz : fin32 z) (e : iI z = xdv 0 (iI x) (iI y)) (hy : y = 60) : z = sHr r := by
  subst hy
  subst hp
  unfold sHr
  rw [← hx]
  exact xdv_t fx ⟨by decide, by decide⟩ (by decide) hz e
theorem sHr_m {r : Rw} {x z p : Int} (hx : x = gt r p) (hp : p = 0) (h0 : 0 ≤ x) (hz : z = x / 60) : z = sHr r := by
  subst hp
  unfold sHr
  rw [← hx, Int.tdiv_eq_ediv_of_nonneg h0]
  exact hz
theorem cnL_z {L : Lw} {k h i f z : Int} (g : f = cnL L k h i.toNat) (hi : i = L.n) (hz : z = f) : z = cnT L k h := by
  subst hz
  subst hi
  exact g
theorem cnL_key {L : Lw} {k h : Int} : ∀ {n : Nat}, 0 ≤ cnL L k h n → L.fld (cnL L k h n).toNat 0 = k ∧ cnL L k h n < (n : Int)
  | 0, q => absurd q (by show ¬ (0 : Int) ≤ -1; decide)
  | n + 1, q => by
    by_cases c : L.fld n 0 = k ∧ inF L h n ∧ (cnL L k h n < 0 ∨ L.fld (cnL L k h n).toNat 1 ≤ L.fld n 1)
    · have e : cnL L k h (n + 1) = (n : Int) := if_pos c
      rw [e]
      exact ⟨by rw [Int.toNat_natCast]; exact c.1, by omega⟩
    · have e : cnL L k h (n + 1) = cnL L k h n := if_neg c
      rw [e] at q ⊢
      have g := cnL_key q
      exact ⟨g.1, by omega⟩
theorem cnT_key {L : Lw} {k h : Int} (q : 0 ≤ cnT L k h) : L.fld (cnT L k h).toNat 0 = k ∧ cnT L k h < L.n := by
  have g := cnL_key (L := L) (k := k) (h := h) (n := L.n.toNat) q
  have g2 : cnT L k h < ((L.n.toNat : Nat) : Int) := g.2
  exact ⟨g.1, by omega⟩
theorem wthT_key {L : Lw} {k h z : Int} {nm nm' : Nat → Int} (w : okL L) (g : z = cnT L k h) (hz : 0 ≤ z) (e : ∀ i, nmK k i = true → nm i = nm' i) : wthT L nm z = wthT L nm' z := by
  subst g
  have q := cnT_key hz
  refine wthT_cg w ⟨hz, q.2⟩ (fun i j => e i ?_)
  have j2 := j
  rw [q.1] at j2
  exact j2
theorem alw_cg {L : Lw} {k h : Int} {nm nm' : Nat → Int} (w : okL L) (e : ∀ i, nmK k i = true → nm i = nm' i) (a : alw L k h nm) : alw L k h nm' := by
  by_cases c : cnT L k h < 0
  · exact Or.inl c
  · refine Or.inr ?_
    rw [← wthT_key w (z := cnT L k h) rfl (by omega) e]
    exact a.elim (fun q => absurd q c) (fun q => q)
theorem alw_tr {L L' : Lw} {k h h' z : Int} {nm nm' : Nat → Int} (g : (z = 1 ∧ alw L' k h' nm) ∨ (z = 0 ∧ ¬ alw L' k h' nm)) (eL : L' = L) (eh : h' = h) (w : okL L) (e : ∀ i, nmK k i = true → nm i = nm' i) : (z = 1 ∧ alw L k h nm') ∨ (z = 0 ∧ ¬ alw L k h nm') := by
  subst eL
  subst eh
  exact g.elim (fun q => Or.inl ⟨q.1, alw_cg w e q.2⟩) (fun q => Or.inr ⟨q.1, fun a => q.2 (alw_cg w (fun i j => (e i j).symm) a)⟩)
theorem cnZ_0 {L : Lw} {k h z : Int} (g : cnZ L k h z) (hz : z = -1000000005) : cnT L k h = -1 := g.elim (fun q => q.2) (fun q => absurd q.1 (by omega))
theorem cnZ_1 {L : Lw} {k h z : Int} (g : cnZ L k h z) (hz : z ≠ -1000000005) : (0 ≤ z ∧ z < L.n) ∧ z = cnT L k h := g.elim (fun q => absurd q.1 hz) (fun q => ⟨⟨q.1, q.2.1⟩, q.2.2.symm⟩)
theorem alw_m0 {L : Lw} {k h z : Int} {nm : Nat → Int} (g : z = cnT L k h) (hz : z < 0) : alw L k h nm := Or.inl (by rw [← g]; exact hz)
theorem alw_c0 {L : Lw} {k h z : Int} {nm : Nat → Int} (g : cnZ L k h z) (hz : z = -1000000005) : alw L k h nm := Or.inl (by rw [cnZ_0 g hz]; decide)
theorem alw_w {L L' : Lw} {k h z w : Int} {nm nm' : Nat → Int} (g : z = cnT L k h) (hz : 0 ≤ z) (eL : L' = L) (ok : okL L) (hw : w = wthT L' nm z) (e : ∀ i, nmK k i = true → nm i = nm' i) : w ≠ 0 ↔ alw L k h nm' := by
  subst eL
  rw [hw, wthT_key ok g hz e]
  unfold alw
  rw [← g]
  exact ⟨fun q => Or.inr q, fun q => q.elim (fun a => absurd a (by omega)) (fun a => a)⟩
/-- a name put -/
def pn (b : Nat → Int) (i : Nat) (v : Int) : Nat → Int := fun j => if j = i then v else b j
theorem pn_st {I K : fH} {a p q : Nat} {v : Int} (e : K = fupd I a q v) (h : p = q) : K a = pn (I a) p v := by
  funext j
  rw [e, h]
  show (if a = a ∧ j = q then v else I a j) = (if j = q then v else I a j)
  by_cases c : j = q
  · rw [if_pos ⟨rfl, c⟩, if_pos c]
  · rw [if_neg (fun w => c w.2), if_neg c]
/-- the names of a person; the reference's, from 97 on -/
def nmPs (r : Rw) (p : Int) (b : Nat → Int) : Nat → Int := pn (pn (pn (pn b 0 (gt r (870 + 6 * p))) 2 (gt r (871 + 6 * p))) 18 (gt r (873 + 6 * p))) 7 (sLv r)
def nmQ (r : Rw) (p : Int) (b : Nat → Int) : Nat → Int := pn (pn (pn b 97 (gt r (870 + 6 * p))) 99 (gt r (871 + 6 * p))) 115 (gt r (873 + 6 * p))
theorem nmPs_of {r : Rw} {p a c s l : Int} {b b1 b2 b3 b4 : Nat → Int} {k1 k2 k3 k4 : Nat} (e1 : b1 = pn b k1 a) (e2 : b2 = pn b1 k2 c) (e3 : b3 = pn b2 k3 s) (e4 : b4 = pn b3 k4 l) (h1 : k1 = 0) (h2 : k2 = 2) (h3 : k3 = 18) (h4 : k4 = 7) (ha : a = gt r (870 + 6 * p)) (hc : c = gt r (871 + 6 * p)) (hs : s = gt r (873 + 6 * p)) (hl : l = sLv r) : b4 = nmPs r p b := by
  unfold nmPs
  rw [e4, e3, e2, e1, h1, h2, h3, h4, ha, hc, hs, hl]
theorem nmQ_of {r : Rw} {p a c s : Int} {b b1 b2 b3 : Nat → Int} (e1 : b1 = pn b 97 a) (e2 : b2 = pn b1 99 c) (e3 : b3 = pn b2 115 s) (ha : a = gt r (870 + 6 * p)) (hc : c = gt r (871 + 6 * p)) (hs : s = gt r (873 + 6 * p)) : b3 = nmQ r p b := by
  unfold nmQ
  rw [e3, e2, e1, ha, hc, hs]
theorem nmK_1 {i : Nat} (h : nmK 1 i = true) : i = 7 ∨ i = 0 ∨ i = 2 ∨ i = 18 ∨ i = 13 := by
  unfold nmK at h
  simp only [Bool.or_eq_true, Bool.and_eq_true, beq_iff_eq] at h
  omega
theorem nmK_4 {k : Int} {i : Nat} (hk : k = 4 ∨ k = 0) (h : nmK k i = true) : i = 7 ∨ i = 0 ∨ i = 2 ∨ i = 18 := by
  unfold nmK at h
  simp only [Bool.or_eq_true, Bool.and_eq_true, beq_iff_eq] at h
  omega
theorem nmK_3 {i : Nat} (h : nmK 3 i = true) : i = 7 ∨ i = 15 ∨ i = 14 ∨ i = 20 := by
  unfold nmK at h
  simp only [Bool.or_eq_true, Bool.and_eq_true, beq_iff_eq] at h
  omega
theorem nmO_1 {r : Rw} {p n : Int} {b c b' : Nat → Int} {q : Nat} (e1 : c = nmPs r p b) (e2 : b' = pn c q n) (hq : q = 13) : ∀ i, nmK 1 i = true → b' i = nmO r p n i := by
  intro i h
  subst hq
  rw [e2, e1]
  rcases nmK_1 h with h | h | h | h | h <;> subst h <;> rfl
theorem nmO_4 {r : Rw} {p n k : Int} {b b' : Nat → Int} (e1 : b' = nmPs r p b) (hk : k = 4 ∨ k = 0) : ∀ i, nmK k i = true → b' i = nmO r p n i := by
  intro i h
  rw [e1]
  rcases nmK_4 hk h with h | h | h | h <;> subst h <;> rfl
theorem nmW_1 {r : Rw} {p n : Int} {b c : Nat → Int} {K : fH} {q : Nat} (er : mR K = r) (e1 : c = nmQ r p b) (e2 : K 748 = pn c q n) (hq : q = 110) : ∀ i, nmK 1 i = true → nmW K i = nmO r p n i := by
  intro i h
  subst hq
  unfold nmW
  rw [e2, e1, er]
  rcases nmK_1 h with h | h | h | h | h <;> subst h <;> rfl
theorem nmW_4 {r : Rw} {p n k : Int} {b : Nat → Int} {K : fH} (er : mR K = r) (e1 : K 748 = nmQ r p b) (hk : k = 4 ∨ k = 0) : ∀ i, nmK k i = true → nmW K i = nmO r p n i := by
  intro i h
  unfold nmW
  rw [e1, er]
  rcases nmK_4 hk h with h | h | h | h <;> subst h <;> rfl
/-- the names of a birth -/
noncomputable def sNds (r : Rw) (i : Nat) : Int := cI (sDd r (i : Int)) 0 (sNd r (i : Int))
def sGdr (r : Rw) (i : Nat) : Int := if gt r (530 + 14 * (i : Int)) = 2 ∧ gt r (538 + 14 * (i : Int)) = 0 then gt r (535 + 14 * (i : Int)) else 0
noncomputable def nmB (r : Rw) : Nat → Int := fun i => if i = 15 then sm (sLiv r) (gt r 8).toNat else if i = 14 then sm (sGdr r) (gt r 7).toNat else if i = 20 then sm (sNds r) (gt r 8).toNat else sLv r
theorem sNds_d {r : Rw} {w z : Int} {i : Nat} (hu : w = (i : Int)) (h : sDd r w) (hz : z = 0) : z = sNds r i := by
  subst hu
  unfold sNds
  rw [cI_pos h, hz]
theorem sNds_l {r : Rw} {w z : Int} {i : Nat} (hu : w = (i : Int)) (h : ¬ sDd r w) (hz : z = sNd r w) : z = sNds r i := by
  subst hu
  unfold sNds
  rw [cI_neg h, hz]
theorem sGdr_y {r : Rw} {w z : Int} {i : Nat} (hu : w = (i : Int)) (hk : gt r (530 + 14 * w) = 2) (hg : gt r (538 + 14 * w) = 0) (hz : z = gt r (535 + 14 * w)) : z = sGdr r i := by
  subst hu
  unfold sGdr
  rw [if_pos ⟨hk, hg⟩, hz]
theorem sGdr_n {r : Rw} {w z : Int} {i : Nat} (hu : w = (i : Int)) (h : gt r (530 + 14 * w) ≠ 2 ∨ gt r (538 + 14 * w) ≠ 0) (hz : z = 0) : z = sGdr r i := by
  subst hu
  unfold sGdr
  rw [if_neg (fun q => h.elim (fun a => a q.1) (fun a => a q.2)), hz]
theorem nmB_c {r : Rw} {p o u l : Int} {b b1 b2 b3 b4 : Nat → Int} {k1 k2 k3 k4 : Nat} (e1 : b1 = pn b k1 p) (e2 : b2 = pn b1 k2 o) (e3 : b3 = pn b2 k3 u) (e4 : b4 = pn b3 k4 l) (h1 : k1 = 15) (h2 : k2 = 14) (h3 : k3 = 20) (h4 : k4 = 7) (hp : p = sm (sLiv r) (gt r 8).toNat) (ho : o = sm (sGdr r) (gt r 7).toNat) (hu : u = sm (sNds r) (gt r 8).toNat) (hl : l = sLv r) : ∀ i, nmK 3 i = true → b4 i = nmB r i := by
  intro i h
  rw [e4, e3, e2, e1, h1, h2, h3, h4, hp, ho, hu, hl]
  rcases nmK_3 h with h | h | h | h <;> subst h <;> rfl
theorem nmB_m {r : Rw} {p o u : Int} {b b1 b2 : Nat → Int} {K : fH} (er : mR K = r) (e1 : b1 = pn b 112 p) (e2 : b2 = pn b1 111 o) (e3 : K 748 = pn b2 117 u) (hp : p = sm (sLiv r) (gt r 8).toNat) (ho : o = sm (sGdr r) (gt r 7).toNat) (hu : u = sm (sNds r) (gt r 8).toNat) : ∀ i, nmK 3 i = true → nmW K i = nmB r i := by
  intro i h
  unfold nmW
  rw [e3, e2, e1, er, hp, ho, hu]
  rcases nmK_3 h with h | h | h | h <;> subst h <;> rfl

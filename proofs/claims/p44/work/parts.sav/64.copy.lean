set_option linter.all false
/-! copies of rows -/
theorem rL_741_741_0_4899_1_0 : frL gJ bsJ 100 ((741, 741), (0, 4899), (1, 0), ((-2147483648), 2147483647)) := frL_hull (by decide) (by decide +kernel)
theorem x6_75 : f60c xTc xTys xm_75 = true := by decide +kernel
theorem x6_225 : f60c xTc xTys xm_225 = true := by decide +kernel
theorem x6_242 : f60c xTc xTys xm_242 = true := by decide +kernel
/-! copies of rows -/
/-- this row may be copied to that one -/
def frC (g : fG) (bs : Nat → Nat → Int × Int) (zn : Nat → Nat → Nat) (W : List Nat) (len o d : Nat) : Prop := g.1 o = some (100, len) ∧ g.1 d = some (100, len) ∧ len < 100000 ∧ (∀ j, j < len → g.2 o j = none) ∧ (∀ j, j < len → g.2 d j = none) ∧ ∀ j, j < len → ((bs d j).1 ≤ (bs o j).1 ∧ (bs o j).2 ≤ (bs d j).2) ∧ zn d j ∈ W
def frCb (g : fG) (bs : Nat → Nat → Int × Int) (zn : Nat → Nat → Nat) (W : List Nat) (len o d : Nat) : Bool := Bool.and (decide (g.1 o = some (100, len))) (Bool.and (decide (g.1 d = some (100, len))) (Bool.and (Nat.blt len 100000) ((List.range len).all (fun j => Bool.and (Bool.and (decide (g.2 o j = none)) (decide (g.2 d j = none))) (Bool.and (Bool.and (decide ((bs d j).1 ≤ (bs o j).1)) (decide ((bs o j).2 ≤ (bs d j).2))) (decide (zn d j ∈ W)))))))
theorem frC_of {g : fG} {bs : Nat → Nat → Int × Int} {zn : Nat → Nat → Nat} {W : List Nat} {len o d : Nat} (h : frCb g bs zn W len o d = true) : frC g bs zn W len o d := by
  obtain ⟨h1, h⟩ := fand h
  obtain ⟨h2, h⟩ := fand h
  obtain ⟨h3, h⟩ := fand h
  have h := List.all_eq_true.mp h
  have q : ∀ j, j < len → (g.2 o j = none ∧ g.2 d j = none) ∧ ((bs d j).1 ≤ (bs o j).1 ∧ (bs o j).2 ≤ (bs d j).2) ∧ zn d j ∈ W := by
    intro j hj
    obtain ⟨z1, z2⟩ := fand (h j (List.mem_range.mpr hj))
    obtain ⟨z3, z4⟩ := fand z1
    obtain ⟨z5, z6⟩ := fand z2
    obtain ⟨z7, z8⟩ := fand z5
    exact ⟨⟨of_decide_eq_true z3, of_decide_eq_true z4⟩, ⟨of_decide_eq_true z7, of_decide_eq_true z8⟩, of_decide_eq_true z6⟩
  exact ⟨of_decide_eq_true h1, of_decide_eq_true h2, xblt.mp h3, fun j hj => (q j hj).1.1, fun j hj => (q j hj).1.2, fun j hj => (q j hj).2⟩
section CT
variable {ρ : Nat → Int32} {base n : Nat} {F : Nat → Prop} {D : va_G} {dA : Nat → ClassId} {la : Launch}
theorem ct_copyRow {I : fH} {o d len : Nat} {W : List Nat} (h0 : fB bsJ I) (hc : frC gJ bsJ znJ W len o d) : fC ρ base n F xTc vwCl xTys D dA la gJ (fbz bsJ znJ (fKc W) I) xm_75 [.inr (.inr (some o)), .inr (.inr (some d))] I (fun I' r => r = none ∧ I' = fcpy I o 0 d 0 (len : Int)) := by
  obtain ⟨h1, h2, h3, h4, h5, h6⟩ := hc
  refine f_meth (rb := rbJ) (J := []) 1 400 xG xin_75 x6_75 okJ (fB_self h0) (fun q h => absurd h List.not_mem_nil) ?_
  refine Exists.intro 100 (Exists.intro len (And.intro h1 (And.intro ⟨by decide, by decide, by omega⟩ ?_)))
  refine Exists.intro 100 (Exists.intro len (And.intro h2 (And.intro ⟨by decide, by decide, by omega⟩ ?_)))
  refine And.intro (And.intro (by omega) (And.intro (by omega) rfl)) ?_
  intro z hz
  have hz : z = (len : Int) := by omega
  subst hz
  refine And.intro ⟨len, len, h1, h2, by omega, h4, h5, ?_⟩ (And.intro rfl ?_)
  · intro j hj1 hj2
    have e : (((0 : Nat) : Int) + ((j : Int) - ((0 : Nat) : Int))).toNat = j := by omega
    rw [e]
    have hj : j < len := by omega
    have q := h0 o j
    obtain ⟨q1, q2⟩ := h6 j hj
    have e2 : fbz bsJ znJ (fKc W) I d j = bsJ d j := by unfold fbz; rw [fKc_ok W _ q2]
    rw [e2]
    omega
  · intro I' e hB
    exact ⟨rfl, e⟩
theorem fcpy_at {I : fH} {o d len j : Nat} (h : j < len) : fcpy I o 0 d 0 (len : Int) d j = I o j := by
  unfold fcpy
  rw [if_pos ⟨rfl, by omega, by omega⟩]
  congr 1
  omega
theorem fcpy_ne {I : fH} {o d a j : Nat} {sp dp n : Int} (h : a ≠ d) : fcpy I o sp d dp n a j = I a j := if_neg (fun q => h q.1)
/-- rows to rows -/
def frCs (g : fG) (rb : Nat → Option Nat) (bs : Nat → Nat → Int × Int) (zn : Nat → Nat → Nat) (W : List Nat) (m len o d ro rd : Nat) : Prop := (g.1 o = some (102, m) ∧ g.1 d = some (102, m) ∧ rb o = some ro ∧ rb d = some rd ∧ m < 100000) ∧ ∀ k, k < m → frC g bs zn W len (ro + k) (rd + k) ∧ ∀ j, j < len → W.elem (zn (ro + k) j) = false
theorem frCs_of {g : fG} {rb : Nat → Option Nat} {bs : Nat → Nat → Int × Int} {zn : Nat → Nat → Nat} {W : List Nat} {m len o d ro rd : Nat} (h1 : (g.1 o = some (102, m) ∧ g.1 d = some (102, m) ∧ rb o = some ro ∧ rb d = some rd ∧ m < 100000)) (h2 : (List.range m).all (fun k => Bool.and (frCb g bs zn W len (ro + k) (rd + k)) ((List.range len).all (fun j => Bool.not (W.elem (zn (ro + k) j))))) = true) : frCs g rb bs zn W m len o d ro rd := by
  refine ⟨h1, fun k hk => ?_⟩
  obtain ⟨z1, z2⟩ := fand (List.all_eq_true.mp h2 k (List.mem_range.mpr hk))
  refine ⟨frC_of z1, fun j hj => ?_⟩
  have z3 := List.all_eq_true.mp z2 j (List.mem_range.mpr hj)
  cases c : W.elem (zn (ro + k) j) with
  | false => rfl
  | true => rw [c] at z3; cases z3
theorem ct_copyRows {I : fH} {o d m ro rd len : Nat} {W : List Nat} (h0 : fB bsJ I) (hc : frCs gJ rbJ bsJ znJ W m len o d ro rd) : fC ρ base n F xTc vwCl xTys D dA la gJ (fbz bsJ znJ (fKc W) I) xm_225 [.inr (.inr (some o)), .inr (.inr (some d))] I (fun I' r => r = none ∧ ∀ k, k < m → ∀ j, j < len → I' (rd + k) j = I (ro + k) j) := by
  obtain ⟨⟨h1, h2, h3, h4, h5⟩, h6⟩ := hc
  have hW : fzs W (fKc W) := fKc_ok W
  refine f_meth (rb := rbJ) (J := [(10, fun q lv st I1 => ∃ y : Int, lv = [(0, .inr (.inr (some o))), (1, .inr (.inr (some d))), (2, .inl (m : Int)), (3, .inl y)] ∧ st = [] ∧ (0 ≤ y ∧ y ≤ (m : Int) ∧ ∀ k : Nat, (k : Int) < y → ∀ j, j < len → I1 (rd + k) j = I (ro + k) j) ∧ q = (1 + ((m : Int) - y)).toNat)]) 100002 400 xG xin_225 x6_225 okJ (fB_self h0) ?_ ?_
  · refine List.forall_mem_cons.mpr ⟨?_, fun q h => absurd h List.not_mem_nil⟩
    rintro q _ _ I1 hB1 ⟨y, rfl, rfl, ⟨hb1, hb2, hb3⟩, hq⟩
    refine And.intro (by omega) (And.intro ?_ ?_)
    · intro c
      exact ⟨rfl, fun k hk => hb3 k (by omega)⟩
    · intro c
      have e1 : y.toNat < m := by omega
      obtain ⟨c1, c2⟩ := h6 y.toNat e1
      refine fopt_mk h3 (fopt_mk h1 (And.intro ⟨rfl, by omega⟩ (And.intro (by omega) ?_)))
      refine fopt_mk h4 (fopt_mk h2 (And.intro ⟨rfl, by omega⟩ (And.intro (by omega) ?_)))
      refine Exists.intro xm_75 (And.intro mi_75 (And.intro ⟨rfl, rfl, rfl, rfl⟩ (And.intro True.intro ?_)))
      refine fcall _ h0 hW hB1 (ct_copyRow (fBz h0 hB1) c1) ?_
      rintro I2 _ hB2 f2 ⟨rfl, e2⟩
      refine fcutJ (lv' := [(0, .inr (.inr (some o))), (1, .inr (.inr (some d))), (2, .inl (m : Int)), (3, .inl (y + 1))]) (And.intro rfl (And.intro rfl (And.intro rfl (And.intro rfl True.intro)))) ⟨_, rfl, rfl, ⟨by omega, by omega, ?_⟩, rfl⟩ (by omega)
      intro k hk j hj
      have hkm : k < m := by omega
      have hsrc : ∀ k', k' < m → ∀ j', j' < len → I1 (ro + k') j' = I (ro + k') j' := fun k' hk' j' hj' => fFr_of (W := W) hB1 _ _ ((h6 k' hk').2 j' hj')
      by_cases ek : k = y.toNat
      · subst ek
        rw [e2, fcpy_at hj]
        exact hsrc _ e1 j hj
      · rw [e2, fcpy_ne (by omega)]
        exact hb3 k (by omega) j hj
  · refine Exists.intro 102 (Exists.intro m (And.intro h1 (And.intro ⟨by decide, by decide, by omega⟩ ?_)))
    refine Exists.intro 102 (Exists.intro m (And.intro h2 (And.intro ⟨by decide, by decide, by omega⟩ ?_)))
    refine And.intro (And.intro (by omega) (And.intro (by omega) rfl)) ?_
    intro z hz
    have hz : z = (m : Int) := by omega
    subst hz
    refine fcutJ (lv' := [(0, .inr (.inr (some o))), (1, .inr (.inr (some d))), (2, .inl (m : Int)), (3, .inl 0)]) (And.intro rfl (And.intro rfl (And.intro rfl (And.intro rfl True.intro)))) ⟨_, rfl, rfl, ⟨by omega, by omega, fun k hk => absurd hk (by omega)⟩, rfl⟩ (by omega)
end CT
/-- a part of a row to a part of a row, all numbers alike in bounds -/
theorem fcopyU {g : fG} {bs : Nat → Nat → Int × Int} {zn : Nat → Nat → Nat} {K : Nat → Bool} {I0 I : fH} {W : List Nat} {o d l1 l2 a0 a1 b0 b1 i0 i1 j0 j1 : Nat} {sp dp n lo hi lo' hi' : Int} (g1 : g.1 o = some (100, l1) ∧ ∀ j, j < l1 → g.2 o j = none) (g2 : g.1 d = some (100, l2) ∧ ∀ j, j < l2 → g.2 d j = none) (hrL : frL g bs 100 ((a0, a1), (i0, i1), (1, 0), (lo, hi))) (hrS : frS g bs zn W 100 ((b0, b1), (j0, j1), (1, 0), (lo', hi'))) (hW : fzs W K) (h0 : fB bs I0) (hB : fB (fbz bs zn K I0) I) (hc : 0 ≤ sp ∧ 0 ≤ dp ∧ 0 ≤ n ∧ sp + n ≤ (l1 : Int) ∧ dp + n ≤ (l2 : Int)) (hin1 : (a0 ≤ o ∧ o ≤ a1) ∧ (0 < n → (i0 : Int) ≤ sp ∧ sp + n - 1 ≤ (i1 : Int))) (hin2 : (b0 ≤ d ∧ d ≤ b1) ∧ (0 < n → (j0 : Int) ≤ dp ∧ dp + n - 1 ≤ (j1 : Int))) (hl : lo' ≤ lo ∧ hi ≤ hi') : fcpc g (fbz bs zn K I0) I o sp d dp n := by
  refine ⟨l1, l2, g1.1, g2.1, hc, g1.2, g2.2, fun j hj1 hj2 => ?_⟩
  have hI := fBz h0 hB
  obtain ⟨-, q1, q2⟩ := hrL o (sp + ((j : Int) - dp)) (And.intro hin1.1 (And.intro (by have := hin1.2 (by omega); omega) (by omega)))
  obtain ⟨-, ⟨q3, q4⟩, q5⟩ := hrS d (j : Int) (And.intro hin2.1 (And.intro (by have := hin2.2 (by omega); omega) (by omega)))
  have e : ((j : Int)).toNat = j := by omega
  rw [e] at q3 q4 q5
  have e2 : fbz bs zn K I0 d j = bs d j := by unfold fbz; rw [hW _ q5]
  rw [e2]
  have z := hI o (sp + ((j : Int) - dp)).toNat
  simp only [] at q1 q2 q3 q4
  omega
theorem frC_trans {g : fG} {bs : Nat → Nat → Int × Int} {zn : Nat → Nat → Nat} {W W' : List Nat} {len o a d : Nat} (h1 : frC g bs zn W len o a) (h2 : frC g bs zn W' len a d) : frC g bs zn W' len o d := by
  obtain ⟨a1, a2, a3, a4, a5, a6⟩ := h1
  obtain ⟨b1, b2, b3, b4, b5, b6⟩ := h2
  refine ⟨a1, b2, a3, a4, b5, fun j hj => ⟨?_, (b6 j hj).2⟩⟩
  have q1 := (a6 j hj).1
  have q2 := (b6 j hj).1
  omega
theorem frCx {g : fG} {bs : Nat → Nat → Int × Int} {zn : Nat → Nat → Nat} {W : List Nat} {a0 a1 len : Nat} (h : (List.range (a1 + 1 - a0)).all (fun x => Bool.and (frCb g bs zn W len (a0 + x) a0) (frCb g bs zn W len a0 (a0 + x))) = true) {o d : Nat} (ho : a0 ≤ o ∧ o ≤ a1) (hd : a0 ≤ d ∧ d ≤ a1) : frC g bs zn W len o d := by
  have q1 := (fand (List.all_eq_true.mp h (o - a0) (List.mem_range.mpr (by omega)))).1
  have q2 := (fand (List.all_eq_true.mp h (d - a0) (List.mem_range.mpr (by omega)))).2
  rw [show a0 + (o - a0) = o by omega] at q1
  rw [show a0 + (d - a0) = d by omega] at q2
  exact frC_trans (frC_of q1) (frC_of q2)
theorem frS_at {g : fG} {bs : Nat → Nat → Int × Int} {zn : Nat → Nat → Nat} {W W' : List Nat} {k a0 a1 i0 i1 m r1 : Nat} {lo hi : Int} (h : frS g bs zn W k ((a0, a1), (i0, i1), (m, r1), (lo, hi))) (hs : W.all (fun z => W'.elem z) = true) {a : Nat} {i v : Int} (hin : (a0 ≤ a ∧ a ≤ a1) ∧ ((i0 : Int) ≤ i ∧ i ≤ (i1 : Int)) ∧ (i - (i0 : Int)) % (m : Int) ≤ (r1 : Int)) (hv : lo ≤ v ∧ v ≤ hi) : fsh g k a i ∧ zn a i.toNat ∈ W' ∧ (bs a i.toNat).1 ≤ v ∧ v ≤ (bs a i.toNat).2 := by
  obtain ⟨q0, ⟨q1, q2⟩, q3⟩ := h a i hin
  simp only [] at q1 q2
  exact ⟨q0, List.elem_iff.mp (List.all_eq_true.mp hs _ q3), by omega, by omega⟩
theorem frL_at {g : fG} {bs : Nat → Nat → Int × Int} {k a0 a1 i0 i1 m r1 : Nat} {lo hi : Int} (h : frL g bs k ((a0, a1), (i0, i1), (m, r1), (lo, hi))) {I : fH} (h0 : fB bs I) {a : Nat} {i : Int} (hin : (a0 ≤ a ∧ a ≤ a1) ∧ ((i0 : Int) ≤ i ∧ i ≤ (i1 : Int)) ∧ (i - (i0 : Int)) % (m : Int) ≤ (r1 : Int)) : fsh g k a i ∧ lo ≤ I a i.toNat ∧ I a i.toNat ≤ hi := by
  obtain ⟨q0, q1, q2⟩ := h a i hin
  have q := h0 a i.toNat
  simp only [] at q1 q2
  exact ⟨q0, by omega, by omega⟩
section CT
variable {ρ : Nat → Int32} {base n : Nat} {F : Nat → Prop} {D : va_G} {dA : Nat → ClassId} {la : Launch}
theorem ct_put {I : fH} {x1 x2 : Int} {W : List Nat} (h0 : fB bsJ I) (hi : 0 ≤ x1 ∧ x1 ≤ 4899) (hz : znJ 741 x1.toNat ∈ W) (hv : (bsJ 741 x1.toNat).1 ≤ x2 ∧ x2 ≤ (bsJ 741 x1.toNat).2) : fC ρ base n F xTc vwCl xTys D dA la gJ (fbz bsJ znJ (fKc W) I) xm_242 [.inr (.inr (some 740)), .inl x1, .inl x2] I (fun I' r => ∃ z, r = some (.inl z) ∧ z = I 741 x1.toNat ∧ I' = fupd I 741 x1.toNat x2) := by
  have hs : fsh gJ 100 741 x1 := (frL_at rL_741_741_0_4899_1_0 h0 (a := 741) (i := x1) (by omega)).1
  refine f_meth (rb := rbJ) (J := []) 1 400 xG xin_242 x6_242 okJ (fB_self h0) (fun q h => absurd h List.not_mem_nil) ?_
  refine And.intro ⟨rfl, by decide, by decide⟩ ?_
  refine And.intro hs ?_
  intro z hz1
  refine And.intro ⟨rfl, by decide, by decide⟩ ?_
  have e2 : fbz bsJ znJ (fKc W) I 741 x1.toNat = bsJ 741 x1.toNat := by unfold fbz; rw [fKc_ok W _ hz]
  refine And.intro hs (And.intro (by rw [e2]; exact hv) ?_)
  intro I' e hB
  refine And.intro True.intro ?_
  exact ⟨_, rfl, hz1, e⟩
end CT

set_option linter.all false
/-! frames of what holds; a minute put together -/
def cQl (d : Nat) (Z : List Nat) (i0 i1 m q : Nat) : Bool := (List.range (i1 + 1)).all (fun k => !rgn i0 i1 m q k || (covb k && Z.elem (znJ ((rwAJ k).1 + d) (rwAJ k).2) && (!(Nat.ble 48 (rwAJ k).1 && Nat.ble (rwAJ k).1 67) || Z.elem (znJ ((rwAJ k).1 + d) 5))))
theorem cQ_fr {d i0 i1 m q : Nat} {Z W : List Nat} {I K : fH} {i : Int} (h : cQl d Z i0 i1 m q = true) (hz : Z.all (fun z => zin W z) = true) (f : fFr znJ W I K) (hi' : ((i0 : Int) ≤ i ∧ i ≤ (i1 : Int)) ∧ (i - (i0 : Int)) % (m : Int) ≤ (q : Int)) : gt (cR d K) i = gt (cR d I) i := by
  obtain ⟨e1, e2⟩ := rgn_of hi'
  have e3 := bor_of (List.all_eq_true.mp h i.toNat (List.mem_range.mpr e2)) e1
  obtain ⟨e4, e5⟩ := Bool.and_eq_true_iff.mp e3
  obtain ⟨e6, e7⟩ := Bool.and_eq_true_iff.mp e4
  have p1 := f _ _ (zin_of hz e7)
  show cR d K i.toNat = cR d I i.toNat
  unfold cR
  rw [if_pos e6, if_pos e6]
  by_cases s1 : (rwAJ i.toNat).1 = 175
  · rw [if_pos s1, if_pos s1, ← s1, p1]
  · rw [if_neg s1, if_neg s1]
    by_cases s2 : 48 ≤ (rwAJ i.toNat).1 ∧ (rwAJ i.toNat).1 ≤ 67
    · have e8 := bor_of e5 (by rw [Nat.ble_eq.mpr s2.1, Nat.ble_eq.mpr s2.2]; rfl)
      rw [if_pos s2, if_pos s2, f _ _ (zin_of hz e8), p1]
    · rw [if_neg s2, if_neg s2, p1]
def mQl (Z : List Nat) (i0 i1 m q : Nat) : Bool := (List.range (i1 + 1)).all (fun k => !rgn i0 i1 m q k || (covb k && Z.elem (znJ 741 k)))
theorem mQ_fr {i0 i1 m q : Nat} {Z W : List Nat} {I K : fH} {i : Int} (h : mQl Z i0 i1 m q = true) (hz : Z.all (fun z => zin W z) = true) (f : fFr znJ W I K) (hi' : ((i0 : Int) ≤ i ∧ i ≤ (i1 : Int)) ∧ (i - (i0 : Int)) % (m : Int) ≤ (q : Int)) : gt (mR K) i = gt (mR I) i := by
  obtain ⟨e1, e2⟩ := rgn_of hi'
  have e3 := bor_of (List.all_eq_true.mp h i.toNat (List.mem_range.mpr e2)) e1
  obtain ⟨e4, e5⟩ := Bool.and_eq_true_iff.mp e3
  have p1 := f _ _ (zin_of hz e5)
  show mR K i.toNat = mR I i.toNat
  rw [mR_ld e4, mR_ld e4, p1]
def okAb (f : Nat → Nat → Nat → Nat → Bool) : Bool := f 530 852 14 0 && f 535 859 14 2 && f 538 861 14 1 && f 542 864 14 0
def okBb (f : Nat → Nat → Nat → Nat → Bool) : Bool := f 0 0 1 0 && f 13 13 1 0 && f 42 427 20 5 && f 3610 4329 1 0
theorem okA_of {r r' : Rw} (h : okA r) (e1 : ∀ i : Int, ((530 : Int) ≤ i ∧ i ≤ 852) ∧ (i - 530) % 14 ≤ 0 → gt r' i = gt r i) (e2 : ∀ i : Int, ((535 : Int) ≤ i ∧ i ≤ 859) ∧ (i - 535) % 14 ≤ 2 → gt r' i = gt r i) (e3 : ∀ i : Int, ((538 : Int) ≤ i ∧ i ≤ 861) ∧ (i - 538) % 14 ≤ 1 → gt r' i = gt r i) (e4 : ∀ i : Int, ((542 : Int) ≤ i ∧ i ≤ 864) ∧ (i - 542) % 14 ≤ 0 → gt r' i = gt r i) : okA r' :=
  okA_cg h (fun w h0 h1 => ⟨e3 _ (by omega), e1 _ (by omega), e3 _ (by omega), e2 _ (by omega), e4 _ (by omega), e2 _ (by omega), e2 _ (by omega)⟩)
theorem okA_fr {d : Nat} {Z W : List Nat} {I K : fH} (hk : okAb (cQl d Z) = true) (f : fFr znJ W I K) (hz : Z.all (fun z => zin W z) = true) (h : okA (cR d I)) : okA (cR d K) := by
  obtain ⟨q, q4⟩ := Bool.and_eq_true_iff.mp hk
  obtain ⟨q, q3⟩ := Bool.and_eq_true_iff.mp q
  obtain ⟨q1, q2⟩ := Bool.and_eq_true_iff.mp q
  exact okA_of h (fun i hi => cQ_fr q1 hz f hi) (fun i hi => cQ_fr q2 hz f hi) (fun i hi => cQ_fr q3 hz f hi) (fun i hi => cQ_fr q4 hz f hi)
theorem okA_frm {Z W : List Nat} {I K : fH} (hk : okAb (mQl Z) = true) (f : fFr znJ W I K) (hz : Z.all (fun z => zin W z) = true) (h : okA (mR I)) : okA (mR K) := by
  obtain ⟨q, q4⟩ := Bool.and_eq_true_iff.mp hk
  obtain ⟨q, q3⟩ := Bool.and_eq_true_iff.mp q
  obtain ⟨q1, q2⟩ := Bool.and_eq_true_iff.mp q
  exact okA_of h (fun i hi => mQ_fr q1 hz f hi) (fun i hi => mQ_fr q2 hz f hi) (fun i hi => mQ_fr q3 hz f hi) (fun i hi => mQ_fr q4 hz f hi)
theorem okB_of {r r' : Rw} (h : okB r) (hn : gt r 13 ≤ 90) (e0 : gt r' 0 = gt r 0) (e13 : gt r' 13 = gt r 13) (e1 : ∀ i : Int, ((42 : Int) ≤ i ∧ i ≤ 427) ∧ (i - 42) % 20 ≤ 5 → gt r' i = gt r i) (e2 : ∀ i : Int, ((3610 : Int) ≤ i ∧ i ≤ 4329) ∧ (i - 3610) % 1 ≤ 0 → gt r' i = gt r i) : okB r' := by
  unfold okB
  rw [e13]
  have b : ∀ a : Nat, inS 0 0 (gt r 13) a → (a : Int) < 90 := fun a ha => by
    unfold inS at ha
    omega
  refine ⟨okM_cg h.1 e0 (fun c hc => Or.inl (fun k k0 k1 => e1 _ (by omega))), fun a ha => ?_, fun a c ha hc => ?_⟩
  · have qa := h.2.1 a ha
    have ba := b a ha
    rw [e2 (3610 + 8 * (a : Int)) (by omega), e2 (3616 + 8 * (a : Int)) (by omega), e0, e1 _ (by omega)]
    exact qa
  · have ba := b a ha
    have bc := b c hc
    rw [e2 (3610 + 8 * (a : Int)) (by omega), e2 (3616 + 8 * (a : Int)) (by omega), e2 (3610 + 8 * (c : Int)) (by omega), e2 (3616 + 8 * (c : Int)) (by omega)]
    exact h.2.2 a c ha hc
theorem okB_fr {d : Nat} {Z W : List Nat} {I K : fH} (hk : okBb (cQl d Z) = true) (f : fFr znJ W I K) (hz : Z.all (fun z => zin W z) = true) (hn : gt (cR d I) 13 ≤ 90) (h : okB (cR d I)) : okB (cR d K) := by
  obtain ⟨q, q4⟩ := Bool.and_eq_true_iff.mp hk
  obtain ⟨q, q3⟩ := Bool.and_eq_true_iff.mp q
  obtain ⟨q1, q2⟩ := Bool.and_eq_true_iff.mp q
  exact okB_of h hn (cQ_fr q1 hz f (by omega)) (cQ_fr q2 hz f (by omega)) (fun i hi => cQ_fr q3 hz f hi) (fun i hi => cQ_fr q4 hz f hi)
theorem okB_frm {Z W : List Nat} {I K : fH} (hk : okBb (mQl Z) = true) (f : fFr znJ W I K) (hz : Z.all (fun z => zin W z) = true) (hn : gt (mR I) 13 ≤ 90) (h : okB (mR I)) : okB (mR K) := by
  obtain ⟨q, q4⟩ := Bool.and_eq_true_iff.mp hk
  obtain ⟨q, q3⟩ := Bool.and_eq_true_iff.mp q
  obtain ⟨q1, q2⟩ := Bool.and_eq_true_iff.mp q
  exact okB_of h hn (mQ_fr q1 hz f (by omega)) (mQ_fr q2 hz f (by omega)) (fun i hi => mQ_fr q3 hz f hi) (fun i hi => mQ_fr q4 hz f hi)
def cA0 : List Nat := [164, 170, 171, 172, 173, 174, 175]
theorem cA0_ok : okAb (cQl 0 cA0) = true := by decide +kernel
def cA256 : List Nat := [420, 426, 427, 428, 429, 430, 431]
theorem cA256_ok : okAb (cQl 256 cA256) = true := by decide +kernel
def cA512 : List Nat := [676, 682, 683, 684, 685, 686, 687]
theorem cA512_ok : okAb (cQl 512 cA512) = true := by decide +kernel
def mA : List Nat := [20300, 20305, 20306, 20307, 20308, 20309, 20312]
theorem mA_ok : okAb (mQl mA) = true := by decide +kernel
def cB0 : List Nat := [47, 72, 10109, 10212]
theorem cB0_ok : okBb (cQl 0 cB0) = true := by decide +kernel
def cB256 : List Nat := [303, 328, 10709, 10812]
theorem cB256_ok : okBb (cQl 256 cB256) = true := by decide +kernel
def cB512 : List Nat := [559, 584, 11309, 11412]
theorem cB512_ok : okBb (cQl 512 cB512) = true := by decide +kernel
def mB : List Nat := [20000, 20013, 20112, 20113, 20114, 20115, 20116, 20117, 20700, 20701, 20702, 20703, 20704, 20705, 20706, 20707]
theorem mB_ok : okBb (mQl mB) = true := by decide +kernel
section MIN
variable {r r4 : Rw} {p q v w x y z m : Int}
theorem okB_lo (h : okB r) (hn : gt r 13 ≤ 90) (hp : p < 42) (h0 : p ≠ 0) (h13 : p ≠ 13) : okB (rud r p v) :=
  okB_of h hn (gt_ne (by omega) (by omega)) (gt_ne (by omega) (by omega)) (fun i hi => gt_ne (by omega) (by omega)) (fun i hi => gt_ne (by omega) (by omega))
/-- all was sent before this minute, but by cells below k -/
def okS (r : Rw) (k : Int) : Prop := okB r ∧ (∀ c : Nat, c < 20 → k ≤ (c : Int) → gt r (47 + 20 * (c : Int)) < gt r 0) ∧ (∀ a : Nat, (a : Int) < gt r 13 → k ≤ gt r (3610 + 8 * (a : Int)) → gt r (3616 + 8 * (a : Int)) < gt r 0)
theorem okS_up (h : okB r) (hn : gt r 13 ≤ 90) (hp : p = 0) (hv : gt r 0 < v) : okS (rud r p v) 0 := by
  subst hp
  have e (k : Int) (h0 : 0 ≤ k) (hk : k ≠ 0) : gt (rud r 0 v) k = gt r k := gt_ne h0 hk
  have e0 : gt (rud r 0 v) 0 = v := gt_same (by omega) rfl
  have e13 := e 13 (by omega) (by omega)
  refine ⟨?_, fun c hc _ => ?_, fun a ha _ => ?_⟩
  · unfold okB
    rw [e13]
    refine ⟨fun c hc => ?_, fun a ha => ?_, fun a b ha hb => ?_⟩
    · refine ⟨?_, okN_cg (h.1 c hc).2 (fun k k0 k1 => e _ (by omega) (by omega))⟩
      rw [e _ (by omega) (by omega), e0]
      have q := (h.1 c hc).1
      omega
    · have qa := h.2.1 a ha
      rw [e _ (by omega) (by omega), e _ (by omega) (by omega), e0, e _ (by omega) (by omega)]
      exact ⟨qa.1, qa.2.1, by omega, qa.2.2.2⟩
    · rw [e _ (by omega) (by omega), e _ (by omega) (by omega), e _ (by omega) (by omega), e _ (by omega) (by omega)]
      exact h.2.2 a b ha hb
  · rw [e _ (by omega) (by omega), e0]
    have q := (h.1 c hc).1
    omega
  · rw [e13] at ha
    rw [e _ (by omega) (by omega), e0]
    have q := (h.2.1 a (Or.inr ⟨by omega, ha⟩)).2.2.1
    omega
theorem okS_mono {k k' : Int} (h : okS r k) (hk : k ≤ k') : okS r k' := ⟨h.1, fun c hc h1 => h.2.1 c hc (by omega), fun a ha h1 => h.2.2 a ha (by omega)⟩
theorem okS_se {i : Nat} (h : okS r (i : Int)) (hi : i < 20) (hm : 0 ≤ gt r 0) (hn : 0 ≤ gt r 13) : okS (sSe i r) ((i : Int) + 1) ∧ gt (sSe i r) 0 = gt r 0 ∧ 0 ≤ gt (sSe i r) 13 := by
  unfold sSe
  by_cases hw : sWat r (i : Int)
  · rw [cI_pos hw]
    unfold sSe1 sSx
    split
    · have e (k : Int) (h0 : 0 ≤ k) (hk : k < 42 + 20 * (i : Int) ∨ 48 + 20 * (i : Int) ≤ k) : gt (sKn r (i : Int) (fun k => gt r (31 + 20 * (i : Int) + (k : Int))) (gt r 0)) k = gt r k := gt_sKn h0 hk
      have e7 : gt (sKn r (i : Int) (fun k => gt r (31 + 20 * (i : Int) + (k : Int))) (gt r 0)) (47 + 20 * (i : Int)) = gt r 0 := gt_sKn7 (by omega) rfl
      have e0 := e 0 (by omega) (by omega)
      have e13 := e 13 (by omega) (by omega)
      refine ⟨⟨?_, fun c hc h1 => ?_, fun a ha h1 => ?_⟩, e0, by rw [e13]; exact hn⟩
      · unfold okB
        rw [e13]
        refine ⟨okM_cg h.1.1 e0 (fun c hc => ?_), fun a ha => ?_, fun a b ha hb => ?_⟩
        · by_cases ec : c = i
          · subst ec
            exact Or.inr ⟨e7, hm⟩
          · exact Or.inl (fun k k0 k1 => e _ (by omega) (by omega))
        · have qa := h.1.2.1 a ha
          rw [e (3610 + 8 * (a : Int)) (by omega) (by omega), e (3616 + 8 * (a : Int)) (by omega) (by omega), e0]
          refine ⟨qa.1, qa.2.1, qa.2.2.1, ?_⟩
          by_cases ec : gt r (3610 + 8 * (a : Int)) = (i : Int)
          · rw [ec, e7]
            have q := h.2.2 a (by unfold inS at ha; omega) (by omega)
            omega
          · rw [e _ (by omega) (by omega)]
            exact qa.2.2.2
        · rw [e _ (by omega) (by omega), e _ (by omega) (by omega), e _ (by omega) (by omega), e _ (by omega) (by omega)]
          exact h.1.2.2 a b ha hb
      · rw [e _ (by omega) (by omega), e0]
        exact h.2.1 c hc (by omega)
      · rw [e13] at ha
        rw [e _ (by omega) (by omega)] at h1
        rw [e _ (by omega) (by omega), e0]
        exact h.2.2 a ha (by omega)
    · split
      · rename_i c1 c2
        generalize hN : rud (sRow r (gt r 13) (i : Int) (fun k => gt r (31 + 20 * (i : Int) + (k : Int))) (gt r 0) (wr (gt r 0 + gt r 4))) 13 (gt r 13 + 1) = N
        have e (k : Int) (h0 : 0 ≤ k) (hk : k < 3610 + 8 * gt r 13 ∨ 3618 + 8 * gt r 13 ≤ k) (h13 : k ≠ 13) : gt N k = gt r k := by rw [← hN, gt_ne h0 h13, gt_sRow h0 hk]
        have e13 : gt N 13 = gt r 13 + 1 := by rw [← hN]; exact gt_same (by omega) rfl
        have es : gt N (3610 + 8 * gt r 13) = (i : Int) := by
          rw [← hN, gt_ne (by omega) (by omega)]
          unfold sRow
          rw [gt_ne (by omega) (by omega), gt_ne (by omega) (by omega), gt_cpy (by omega) (by omega), gt_same (by omega) rfl]
        have et : gt N (3616 + 8 * gt r 13) = gt r 0 := by
          rw [← hN, gt_ne (by omega) (by omega)]
          unfold sRow
          rw [gt_ne (by omega) (by omega), gt_same (by omega) rfl]
        have e0 := e 0 (by omega) (by omega) (by omega)
        have old : ∀ a : Nat, inS 0 0 (gt r 13 + 1) a → (a : Int) ≠ gt r 13 → inS 0 0 (gt r 13) a := fun a ha hne => by
          unfold inS at ha ⊢
          omega
        refine ⟨⟨?_, fun c hc h1 => ?_, fun a ha h1 => ?_⟩, e0, by omega⟩
        · unfold okB
          rw [e13]
          refine ⟨okM_cg h.1.1 e0 (fun c hc => Or.inl (fun k k0 k1 => e _ (by omega) (by omega) (by omega))), fun a ha => ?_, fun a b ha hb hne => ?_⟩
          · by_cases ea : (a : Int) = gt r 13
            · rw [ea, es, et, e0, e _ (by omega) (by omega) (by omega)]
              have q := h.2.1 i hi (by omega)
              exact ⟨⟨by omega, by omega⟩, hm, by omega, by omega⟩
            · have qa := h.1.2.1 a (old a ha ea)
              have ia := old a ha ea
              unfold inS at ia
              rw [e (3610 + 8 * (a : Int)) (by omega) (by omega) (by omega), e (3616 + 8 * (a : Int)) (by omega) (by omega) (by omega), e0, e _ (by omega) (by omega) (by omega)]
              exact qa
          · by_cases ea : (a : Int) = gt r 13
            · have eb : (b : Int) ≠ gt r 13 := fun z => hne (by omega)
              have ib := old b hb eb
              have ib' := ib
              unfold inS at ib'
              rw [ea, es, et, e (3610 + 8 * (b : Int)) (by omega) (by omega) (by omega), e (3616 + 8 * (b : Int)) (by omega) (by omega) (by omega)]
              intro z
              have q := h.2.2 b (by omega) (by omega)
              omega
            · have ia := old a ha ea
              have ia' := ia
              unfold inS at ia'
              rw [e (3610 + 8 * (a : Int)) (by omega) (by omega) (by omega), e (3616 + 8 * (a : Int)) (by omega) (by omega) (by omega)]
              by_cases eb : (b : Int) = gt r 13
              · rw [eb, es, et]
                intro z
                have q := h.2.2 a (by omega) (by omega)
                omega
              · have ib := old b hb eb
                have ib' := ib
                unfold inS at ib'
                rw [e (3610 + 8 * (b : Int)) (by omega) (by omega) (by omega), e (3616 + 8 * (b : Int)) (by omega) (by omega) (by omega)]
                exact h.1.2.2 a b ia ib hne
        · rw [e _ (by omega) (by omega) (by omega), e0]
          exact h.2.1 c hc (by omega)
        · rw [e13] at ha
          by_cases ea : (a : Int) = gt r 13
          · rw [ea, es] at h1
            omega
          · rw [e _ (by omega) (by omega) (by omega)] at h1
            rw [e _ (by omega) (by omega) (by omega), e0]
            exact h.2.2 a (by omega) (by omega)
      · exact ⟨okS_mono h (by omega), rfl, hn⟩
  · rw [cI_neg hw]
    exact ⟨okS_mono h (by omega), rfl, hn⟩
theorem okS_nf (h : okS r 0) (hm : 0 ≤ gt r 0) (hn : 0 ≤ gt r 13) : ∀ k : Nat, k ≤ 20 → okS (nf sSe r k) (k : Int) ∧ gt (nf sSe r k) 0 = gt r 0 ∧ 0 ≤ gt (nf sSe r k) 13
  | 0, _ => ⟨h, rfl, hn⟩
  | k + 1, hk => by
    obtain ⟨q1, q2, q3⟩ := okS_nf h hm hn k (by omega)
    obtain ⟨p1, p2, p3⟩ := okS_se q1 (by omega) (by rw [q2]; exact hm) q3
    exact ⟨p1, p2.trans q2, p3⟩
/-- all cells report: what is known was sent before -/
theorem okM_se {n : Nat} (h : okS r 0) (hm : 0 ≤ gt r 0) (hn : 0 ≤ gt r 13) (hk : n ≤ 20) : okM (nf sSe r n) := (okS_nf h hm hn n hk).1.1.1
noncomputable def sMiE (r4 : Rw) : Rw := sMi7 (rud (sMi6 (sMi5 (sRi r4))) 0 (gt (sMi6 (sMi5 (sRi r4))) 0 + 1))
theorem mi_x (hp : p = 2) (hv : v = wr (gt (sRi r4) 2 + 1)) (hq : q = 0) (hz : z = gt (sMi6 (rud (sRi r4) p v)) 0 + 1) : rud (sMi6 (rud (sRi r4) p v)) q z = rud (sMi6 (sMi5 (sRi r4))) 0 (gt (sMi6 (sMi5 (sRi r4))) 0 + 1) := by
  rw [hz, hq, hv, hp]
  rfl
theorem mi_y {X : Rw} (e : X = rud (sMi6 (sMi5 (sRi r4))) 0 (gt (sMi6 (sMi5 (sRi r4))) 0 + 1)) (hm : z = gt X 0) (h : z % 60 = 0) : nf sSe X (gt X 5).toNat = sMiE r4 := by
  unfold sMiE sMi7
  rw [← e, if_pos (by rw [← hm]; exact h)]
theorem mi_n {X : Rw} (e : X = rud (sMi6 (sMi5 (sRi r4))) 0 (gt (sMi6 (sMi5 (sRi r4))) 0 + 1)) (hm : z = gt X 0) (h : z % 60 ≠ 0) : X = sMiE r4 := by
  unfold sMiE sMi7
  rw [← e, if_neg (by rw [← hm]; exact h)]
theorem tb_pos (h1 : 0 ≤ gt r 1 ∧ gt r 1 ≤ 600) (ht : ∀ i : Int, 1142 ≤ i → i ≤ 1202 → 0 ≤ gt r i) : 0 ≤ sTb r 2 (sLv r) := ht _ (by unfold sLv; omega) (by unfold sLv; omega)
end MIN

set_option linter.all false
/-! a minute, method by method: what a path leaves is what 79.spec says -/
theorem wr_add {z a b : Int} (hz : fin32 z) (e : iI z = xio 0 (iI a) (iI b)) : z = wr (a + b) := by
  refine wr_of hz (e.trans ?_)
  show iI a + iI b = iI (a + b)
  exact (Int32.ofInt_add a b).symm
theorem wr_sub {z a b : Int} (hz : fin32 z) (e : iI z = xio 1 (iI a) (iI b)) : z = wr (a - b) := by
  refine wr_of hz (e.trans ?_)
  show iI a - iI b = iI (a - b)
  exact (Int32.ofInt_sub a b).symm
theorem rud_cg {r : Rw} {k k' v v' : Int} (hk : k = k') (hv : v = v') : rud r k v = rud r k' v' := by rw [hk, hv]
theorem rud_dup {r : Rw} {k v v' : Int} : rud (rud r k v) k v' = rud r k v' := rud_upd rfl
section RW1
variable {r : Rw} {c g n p q v w x y a b l z s t d k m u o e f : Int}
theorem gt_n (h0 : 0 ≤ q) (h : q ≠ p) (hx : x = gt (rud r p v) q) : x = gt r q := hx.trans (gt_ne h0 h)
theorem gt_e (h0 : 0 ≤ p) (h : q = p) (hx : x = gt (rud r p v) q) : x = v := hx.trans (gt_same h0 h)
theorem sCo_of (hc : 0 ≤ c) (hg : 0 ≤ g ∧ g ≤ 4) (hp : p = 31 + 20 * c + g) (hv : v = sTop (gt r p + n)) (hq : q = 37 + 20 * c + g) (hw : w = wr (gt r q + sOver (gt r p + n))) : rud (rud r p v) q w = sCo r c g n := by
  subst hp
  subst hq
  rw [hv, hw]
  rfl
/-- nothing is too much: what is out stays -/
theorem sCo_A (hf : fin32 (gt r (37 + 20 * c + g))) (hc : 0 ≤ c) (hg : 0 ≤ g ∧ g ≤ 4) (hp : p = 31 + 20 * c + g) (hv : v = gt r p + n) (hs : gt r p + n ≤ 999999) : rud r p v = sCo r c g n := by
  rw [← sCo_of (q := 37 + 20 * c + g) (w := gt r (37 + 20 * c + g)) (v := v) hc hg hp (by unfold sTop; rw [if_neg (by omega)]; exact hv) rfl (by unfold sOver; rw [if_neg (by omega), Int.add_zero, wr_id hf])]
  exact (rud_id (by omega) (gt_ne (by omega) (by omega)).symm).symm
theorem sCo_B (hc : 0 ≤ c) (hg : 0 ≤ g ∧ g ≤ 4) (hp : p = 31 + 20 * c + g) (hs : 999999 < gt r p + n) (hv : v = 999999) (hq : q = 37 + 20 * c + g) (hw : fin32 w) (he : iI w = xio 0 (iI x) (iI y)) (hx : x = gt (rud r p v) q) (hy : y = gt r p + n - 999999) : rud (rud r p v) q w = sCo r c g n := by
  refine sCo_of hc hg hp ?_ hq ?_
  · unfold sTop
    rw [if_pos hs]
    exact hv
  · have h1 := gt_n (by omega) (by omega) hx
    unfold sOver
    rw [if_pos hs, wr_add hw he, h1, hy]
theorem sCo_C (hc : 0 ≤ c) (hg : 0 ≤ g ∧ g ≤ 4) (hp : p = 31 + 20 * c + g) (hs : gt r p + n ≤ 999999) (hv : v = gt r p + n) (hq : q = 37 + 20 * c + g) (hw : fin32 w) (he : iI w = xio 0 (iI x) (iI y)) (hx : x = gt (rud r p v) q) (hy : y = 0) : rud (rud r p v) q w = sCo r c g n := by
  refine sCo_of hc hg hp ?_ hq ?_
  · unfold sTop
    rw [if_neg (by omega)]
    exact hv
  · have h1 := gt_n (by omega) (by omega) hx
    unfold sOver
    rw [if_neg (by omega), wr_add hw he, h1, hy]
/-- nothing comes -/
theorem sCo_0 (hf : fin32 (gt r (37 + 20 * c + g))) (hc : 0 ≤ c) (hg : 0 ≤ g ∧ g ≤ 4) (hs : gt r (31 + 20 * c + g) ≤ 999999) : sCo r c g 0 = r := by
  rw [← sCo_A (p := 31 + 20 * c + g) (v := gt r (31 + 20 * c + g)) hf hc hg rfl (by omega) (by omega)]
  exact rud_id (by omega) rfl
theorem gt_sCo (hc : 0 ≤ c) (hg : 0 ≤ g ∧ g ≤ 4) (hq : 0 ≤ q) (h1 : q ≠ 31 + 20 * c + g) (h2 : q ≠ 37 + 20 * c + g) : gt (sCo r c g n) q = gt r q := by
  unfold sCo
  rw [gt_ne hq h2, gt_ne hq h1]
/-! locks -/
theorem sFx_of {g : Nat} (ha : gt r (430 + 4 * l) = a) (hb : gt r (431 + 4 * l) = b) {x1 x2 x3 x4 q1 q2 q3 q4 q5 : Int} (h1 : x1 = gt r q1) (e1 : q1 = 31 + 20 * a + (g : Int)) (h2 : x2 = gt r q2) (e2 : q2 = 30 + 20 * b) (h3 : x3 = gt r q3) (e3 : q3 = 31 + 20 * b + (g : Int)) (h4 : x4 = gt r q4) (e4 : q4 = 30 + 20 * a) (h5 : w = gt r q5) (e5 : q5 = 432 + 4 * l) (hm : m = x1 * x2 - x3 * x4) (ho : o = x4 + x2) (hd : d = Int.tdiv m o) (hk : k = d * w) (hz : z = Int.tdiv k 10) : z = sFx r l (g : Int) := by
  unfold sFx
  rw [ha, hb, ← e1, ← e2, ← e3, ← e4, ← e5, ← h1, ← h2, ← h3, ← h4, ← h5, ← hm, ← ho, ← hd, ← hk, ← hz]
theorem sFg_pos {g : Nat} (ha : gt r (430 + 4 * l) = a) (hb : gt r (431 + 4 * l) = b) (hz : z = sFx r l (g : Int)) (h : 0 < z) (hp : p = 31 + 20 * a + (g : Int)) (hv : v = gt r p - z) (hg : u = (g : Int)) : sCo (rud r p v) b u z = sFg l g r := by
  unfold sFg sFg1
  rw [← hz, if_pos h, ha, hb, hv, hp, hg]
theorem sFg_neg {g : Nat} (ha : gt r (430 + 4 * l) = a) (hb : gt r (431 + 4 * l) = b) (hz : z = sFx r l (g : Int)) (h : ¬ 0 < z) (hp : p = 31 + 20 * b + (g : Int)) (hv : v = gt r p + z) (hg : u = (g : Int)) (ht : t = -z) : sCo (rud r p v) a u t = sFg l g r := by
  unfold sFg sFg1
  rw [← hz, if_neg h, ha, hb, hv, hp, hg, ht]
theorem sLkg_of {g : Nat} {x1 x2 q1 q2 : Int} (hc : 0 ≤ c) (hg : g < 5) (h1 : x1 = gt r q1) (e1 : q1 = 31 + 20 * c + (g : Int)) (h2 : x2 = gt r q2) (e2 : q2 = 36 + 20 * c) (hk : k = x1 * x2) (hn : n = k / 1000) (hp : p = 31 + 20 * c + (g : Int)) (hv : v = gt r p - n) (hq : q = 37 + 20 * c + (g : Int)) (hw : fin32 w) (he : iI w = xio 0 (iI x) (iI n)) (hx : x = gt (rud r p v) q) : rud (rud r p v) q w = sLkg c g r := by
  have h3 := gt_n (by omega) (by omega) hx
  unfold sLkg sLk1
  rw [← e1, ← e2, ← h1, ← h2, ← hk, ← hn, wr_add hw he, h3, hv, hp, hq, e1, show gt r (31 + 20 * c + (g : Int)) = x1 by rw [h1, e1]]
/-! parts of works -/
theorem sPt_of {k : Int} (h1 : x = gt r p) (e1 : p = 535 + 14 * w) (h2 : y = gt r q) (e2 : q = 534 + 14 * w) (hk : k = x * t) (ht : t = 100 - y) (hz : z = k / 100) : z = sPt r w := by
  unfold sPt
  rw [hz, hk, ht, h1, h2, e1, e2]
theorem mn_le (h1 : z ≤ x) (h2 : z ≤ y) (h3 : z = x ∨ z = y) : z = mn x y := by
  unfold mn
  split <;> omega
theorem sWe_of (hw : 0 ≤ w) {s0 x1 x2 q1 q2 : Int} (h1 : x1 = gt r q1) (e1 : q1 = 537 + 14 * w) (hs : s0 = x1 + m) (h2 : x2 = gt r q2) (e2 : q2 = 535 + 14 * w) (hn : n = mn (s0 / 100) x2) (hp : p = 535 + 14 * w) (hv : v = x2 - n) (hq : q = 537 + 14 * w) (hx : x = mn 99 (s0 - 100 * n)) : rud (rud r p v) q x = sWe r w (gt r (537 + 14 * w) + m) := by
  unfold sWe
  rw [← e1, ← e2, ← h1, ← h2, ← hs, ← hn, hv, hx, hp, hq, ← e1, ← e2]
/-- foul -/
theorem sFo_of (hw : 0 ≤ w) {x1 x2 x3 x4 x5 q1 q2 q3 v1 p1 p2 p3 v2 v3 : Int} (h1 : x1 = gt r q1) (e1 : q1 = 542 + 14 * w) (h2 : x2 = gt r q2) (e2 : q2 = 541 + 14 * w) (hv : v1 = x1 + x2) (hp1 : p1 = 542 + 14 * w) (h3 : x3 = gt (rud r p1 v1) q3) (e3 : q3 = 534 + 14 * w) (h4 : x4 = v1) (hp2 : p2 = 534 + 14 * w) (hv2 : v2 = mn 100 (x3 + x4 / 100)) (hp3 : p3 = 542 + 14 * w) (h5 : x5 = v1) (hv3 : v3 = x5 % 100) : rud (rud (rud r p1 v1) p2 v2) p3 v3 = sFo r w := by
  have g3 := gt_n (by omega) (by omega) h3
  unfold sFo
  rw [rud_comm (r := r) (k := p1) (k' := p2) (by omega), rud_upd (by omega), hv3, h5, hv2, h4, hv, g3, h1, h2, hp3, hp2, e1, e2, e3]
end RW1
/-- a fold over rows, one step more -/
theorem nf_row {f : Nat → Rw → Rw} {R R1 R2 : Rw} {m m' : Int} (h : R1 = nf f R m.toNat) (hm : 0 ≤ m) (hm' : m' = m + 1) (e : R2 = f m.toNat R1) : R2 = nf f R m'.toNat := e.trans (nf_step h hm hm')
theorem nf_id {f : Nat → Rw → Rw} {R : Rw} : ∀ {n : Nat}, (∀ i, i < n → f i R = R) → nf f R n = R
  | 0, _ => rfl
  | n + 1, h => by
    show f n (nf f R n) = R
    rw [nf_id (n := n) (fun i hi => h i (by omega)), h n (by omega)]
section RW2
variable {r : Rw} {c g n p q v w x y a b l z s t d k m u o e f : Int}
/-- two cells of no volume -/
theorem sFl_0 (ha : gt r (430 + 4 * l) = a) (hb : gt r (431 + 4 * l) = b) (a0 : 0 ≤ a) (b0 : 0 ≤ b) (hv : gt r (30 + 20 * a) + gt r (30 + 20 * b) = 0) (hf : ∀ k, fin32 (gt r k)) (hs : ∀ g : Nat, g < 5 → gt r (31 + 20 * a + (g : Int)) ≤ 999999) : sFl r l = r := by
  refine nf_id (fun g hg => ?_)
  have hz : sFx r l (g : Int) = 0 := by
    unfold sFx
    rw [ha, hb, hv, Int.tdiv_zero, Int.zero_mul, Int.zero_tdiv]
  rw [← sFg_neg (u := (g : Int)) (t := 0) ha hb hz.symm (by omega) rfl rfl rfl (by omega), Int.add_zero, rud_id (by omega) rfl]
  exact sCo_0 (hf _) a0 (by omega) (hs g hg)
/-- the reference wears layer by layer -/
def weJ (r : Rw) (w S : Int) (J : Rw) : Prop := ∃ k : Int, 0 ≤ k ∧ k ≤ gt r (535 + 14 * w) ∧ 100 * k ≤ S ∧ J = rud (rud r (535 + 14 * w) (gt r (535 + 14 * w) - k)) (537 + 14 * w) (S - 100 * k)
theorem weJ_0 {x1 p1 T : Int} (hw : 0 ≤ w) (ha : 0 ≤ gt r (535 + 14 * w)) (hx : x1 = gt r p1) (e1 : p1 = 537 + 14 * w) (ht : t = T) (hv : v = x1 + t / 10) (hS : 0 ≤ v) (hp : p = 537 + 14 * w) : weJ r w (gt r (537 + 14 * w) + T / 10) (rud r p v) := by
  have e : gt r (537 + 14 * w) + T / 10 = v := by rw [← e1, ← hx, ← ht, hv]
  rw [e]
  refine ⟨0, by omega, ha, by omega, ?_⟩
  rw [Int.sub_zero, rud_id (k := 535 + 14 * w) (by omega) rfl, hp, show v - 100 * 0 = v by omega]
theorem weJ_a {J : Rw} (hw : 0 ≤ w) (h : weJ r w s J) (hq : q = 537 + 14 * w) (hx : x = gt J q) : ∃ k : Int, (0 ≤ k ∧ k ≤ gt r (535 + 14 * w) ∧ 100 * k ≤ s) ∧ x = s - 100 * k ∧ gt J (535 + 14 * w) = gt r (535 + 14 * w) - k ∧ J = rud (rud r (535 + 14 * w) (gt r (535 + 14 * w) - k)) (537 + 14 * w) (s - 100 * k) := by
  obtain ⟨k, h1, h2, h3, rfl⟩ := h
  refine ⟨k, ⟨h1, h2, h3⟩, ?_, ?_, rfl⟩
  · exact hx.trans (gt_same (by omega) hq)
  · rw [gt_ne (by omega) (by omega), gt_same (by omega) rfl]
theorem weJ_go {J : Rw} (hw : 0 ≤ w) (h : weJ r w s J) (hq : q = 537 + 14 * w) (hx : x = gt J q) (h1 : 99 < x) (hp : p = 535 + 14 * w) (hy : y = gt J p) (h2 : 0 < y) (hq2 : u = 537 + 14 * w) (hv : v = x - 100) (hp2 : t = 535 + 14 * w) (hv2 : d = y - 1) : weJ r w s (rud (rud J u v) t d) := by
  obtain ⟨k, ⟨k1, k2, k3⟩, e1, e2, e3⟩ := weJ_a hw h hq hx
  subst hp
  rw [e2] at hy
  refine ⟨k + 1, by omega, by omega, by omega, ?_⟩
  rw [e3, hq2, hp2, rud_dup, rud_comm (k := 537 + 14 * w) (k' := 535 + 14 * w) (by omega), rud_dup, show d = gt r (535 + 14 * w) - (k + 1) by omega, show v = s - 100 * (k + 1) by omega]
theorem weJ_end {J : Rw} (hw : 0 ≤ w) (h : weJ r w s J) (hq : q = 537 + 14 * w) (hx : x = gt J q) (hp : p = 535 + 14 * w) (he : x ≤ 99 ∨ ∃ y, y = gt J p ∧ y ≤ 0) (hu : u = 537 + 14 * w) (hz : z = gt J u) (hv : v = mn 99 z) : rud J u v = sWe r w s := by
  obtain ⟨k, ⟨k1, k2, k3⟩, e1, e2, e3⟩ := weJ_a hw h hq hx
  have hk : k = mn (s / 100) (gt r (535 + 14 * w)) := by
    subst hp
    unfold mn
    rcases he with he | ⟨y, hy, he⟩
    · split <;> omega
    · rw [e2] at hy
      split <;> omega
  have ez : z = s - 100 * k := by
    rw [hz, hu, ← hq, ← hx, e1]
  rw [e3, hu, rud_dup, hv, ez]
  unfold sWe
  rw [← hk]
theorem gt_sWe (hw : 0 ≤ w) (hq : 0 ≤ q) (h1 : q ≠ 535 + 14 * w) (h2 : q ≠ 537 + 14 * w) : gt (sWe r w s) q = gt r q := by
  unfold sWe
  rw [gt_ne hq h2, gt_ne hq h1]
/-- the reference fouls step by step -/
def foJ (r : Rw) (w S y : Int) (J : Rw) : Prop := (0 ≤ y ∧ y ≤ S ∧ (S - y) % 100 = 0) ∧ J = rud (rud r (534 + 14 * w) (mn 100 (gt r (534 + 14 * w) + (S - y) / 100))) (542 + 14 * w) y
theorem foJ_0 {x1 x2 p1 p2 : Int} (hw : 0 ≤ w) (hf : gt r (534 + 14 * w) ≤ 100) (hx : x1 = gt r p1) (e1 : p1 = 542 + 14 * w) (hy : x2 = gt r p2) (e2 : p2 = 541 + 14 * w) (hs : 0 ≤ v) (hp : p = 542 + 14 * w) (hv : v = x1 + x2) : foJ r w (gt r (542 + 14 * w) + gt r (541 + 14 * w)) v (rud r p v) := by
  have e : gt r (542 + 14 * w) + gt r (541 + 14 * w) = v := by rw [← e1, ← e2, ← hx, ← hy, hv]
  rw [e]
  refine ⟨⟨hs, by omega, by omega⟩, ?_⟩
  rw [rud_id (k := 534 + 14 * w) (by omega) (by unfold mn; split <;> omega), hp]
theorem foJ_y {J : Rw} {y' : Int} (h : foJ r w s y J) (e : y' = y) : foJ r w s y' J := by rw [e]; exact h
theorem foJ_go {J : Rw} (hw : 0 ≤ w) (h : foJ r w s y J) (h1 : 99 < y) (hq : q = 542 + 14 * w) (hv : v = y - 100) (hp : p = 534 + 14 * w) (hx : x = gt (rud J q v) u) (hu : u = 534 + 14 * w) (hz : z = mn 100 (x + 1)) : foJ r w s v (rud (rud J q v) p z) := by
  obtain ⟨⟨h2, h3, h4⟩, e⟩ := h
  have ex : x = mn 100 (gt r (534 + 14 * w) + (s - y) / 100) := by
    rw [hx, gt_ne (by omega) (by omega), e, gt_ne (by omega) (by omega), gt_same (by omega) (by omega)]
  refine ⟨⟨by omega, by omega, by omega⟩, ?_⟩
  rw [e, hq, hp, rud_dup, rud_comm (k := 542 + 14 * w) (k' := 534 + 14 * w) (by omega), rud_dup, show z = mn 100 (gt r (534 + 14 * w) + (s - v) / 100) by
    rw [hz, ex]
    unfold mn
    (repeat' split) <;> omega]
theorem foJ_end {J : Rw} (h : foJ r w (gt r (542 + 14 * w) + gt r (541 + 14 * w)) y J) (h1 : y ≤ 99) : J = sFo r w := by
  obtain ⟨⟨h2, h3, h4⟩, e⟩ := h
  unfold sFo
  rw [e, show (gt r (542 + 14 * w) + gt r (541 + 14 * w) - y) / 100 = (gt r (542 + 14 * w) + gt r (541 + 14 * w)) / 100 by omega, show y = (gt r (542 + 14 * w) + gt r (541 + 14 * w)) % 100 by omega]
/-- what holds of all works between two minutes: levels, patches, what is hidden, layers -/
def okA (r : Rw) : Prop := ∀ w : Nat, w < 24 → -1 ≤ gt r (539 + 14 * (w : Int)) ∧ (gt r (530 + 14 * (w : Int)) = 5 → gt r (538 + 14 * (w : Int)) = 0 → 1 ≤ gt r (536 + 14 * (w : Int))) ∧ (0 ≤ gt r (542 + 14 * (w : Int)) ∧ gt r (542 + 14 * (w : Int)) ≤ 99) ∧ (gt r (530 + 14 * (w : Int)) = 1 → gt r (535 + 14 * (w : Int)) ≤ 9) ∧ 0 ≤ gt r (537 + 14 * (w : Int)) ∧ gt r (537 + 14 * (w : Int)) ≤ 99
theorem okA_at (h : okA r) (hw : 0 ≤ w ∧ w < 24) : -1 ≤ gt r (539 + 14 * w) ∧ (gt r (530 + 14 * w) = 5 → gt r (538 + 14 * w) = 0 → 1 ≤ gt r (536 + 14 * w)) ∧ (0 ≤ gt r (542 + 14 * w) ∧ gt r (542 + 14 * w) ≤ 99) ∧ (gt r (530 + 14 * w) = 1 → gt r (535 + 14 * w) ≤ 9) ∧ 0 ≤ gt r (537 + 14 * w) ∧ gt r (537 + 14 * w) ≤ 99 := by
  have q := h w.toNat (by omega)
  rw [Int.toNat_of_nonneg hw.1] at q
  exact q
theorem okA_sum (h : okA r) (hx : x = gt r p) (hp : p = 542 + 14 * w) (hw : 0 ≤ w ∧ w < 24) : 0 ≤ x ∧ x ≤ 99 := by
  have q := (okA_at h hw).2.2.1
  rw [← hp, ← hx] at q
  exact q
/-- rows that are alike where okA looks -/
theorem okA_cg {r r' : Rw} (h : okA r) (e : ∀ w : Int, 0 ≤ w → w < 24 → gt r' (539 + 14 * w) = gt r (539 + 14 * w) ∧ gt r' (530 + 14 * w) = gt r (530 + 14 * w) ∧ gt r' (538 + 14 * w) = gt r (538 + 14 * w) ∧ gt r' (536 + 14 * w) = gt r (536 + 14 * w) ∧ gt r' (542 + 14 * w) = gt r (542 + 14 * w) ∧ gt r' (535 + 14 * w) = gt r (535 + 14 * w) ∧ gt r' (537 + 14 * w) = gt r (537 + 14 * w)) : okA r' := fun w hw => by
  obtain ⟨e1, e2, e3, e4, e5, e6, e7⟩ := e (w : Int) (by omega) (by omega)
  rw [e1, e2, e3, e4, e5, e6, e7]
  exact h w hw
/-- one place changes -/
theorem okA_rud (h : okA r) (hp : ∀ w : Int, 0 ≤ w → w < 24 → p ≠ 539 + 14 * w ∧ p ≠ 530 + 14 * w ∧ p ≠ 538 + 14 * w ∧ p ≠ 536 + 14 * w ∧ p ≠ 542 + 14 * w ∧ p ≠ 535 + 14 * w ∧ p ≠ 537 + 14 * w) : okA (rud r p v) := okA_cg h (fun w h0 h1 => by
  obtain ⟨e1, e2, e3, e4, e5, e6, e7⟩ := hp w h0 h1
  exact ⟨gt_ne (by omega) (fun q => e1 q.symm), gt_ne (by omega) (fun q => e2 q.symm), gt_ne (by omega) (fun q => e3 q.symm), gt_ne (by omega) (fun q => e4 q.symm), gt_ne (by omega) (fun q => e5 q.symm), gt_ne (by omega) (fun q => e6 q.symm), gt_ne (by omega) (fun q => e7 q.symm)⟩)
theorem okA_fo1 {i : Nat} (h : okA r) : okA (sFo1 i r) := by
  unfold sFo1
  split
  · exact h
  · intro v hv
    have q := h v hv
    unfold sFo
    have n1 : ∀ (k : Int), 0 ≤ k → k ≠ 534 + 14 * (i : Int) → k ≠ 542 + 14 * (i : Int) → gt (rud (rud r (534 + 14 * (i : Int)) (mn 100 (gt r (534 + 14 * (i : Int)) + (gt r (542 + 14 * (i : Int)) + gt r (541 + 14 * (i : Int))) / 100))) (542 + 14 * (i : Int)) ((gt r (542 + 14 * (i : Int)) + gt r (541 + 14 * (i : Int))) % 100)) k = gt r k := fun k h0 h1 h2 => by rw [gt_ne h0 h2, gt_ne h0 h1]
    rw [n1 (539 + 14 * (v : Int)) (by omega) (by omega) (by omega), n1 (530 + 14 * (v : Int)) (by omega) (by omega) (by omega), n1 (538 + 14 * (v : Int)) (by omega) (by omega) (by omega), n1 (536 + 14 * (v : Int)) (by omega) (by omega) (by omega), n1 (535 + 14 * (v : Int)) (by omega) (by omega) (by omega), n1 (537 + 14 * (v : Int)) (by omega) (by omega) (by omega)]
    refine ⟨q.1, q.2.1, ?_, q.2.2.2⟩
    by_cases e : v = i
    · subst e
      rw [gt_same (by omega) rfl]
      omega
    · rw [n1 (542 + 14 * (v : Int)) (by omega) (by omega) (by omega)]
      exact q.2.2.1
theorem okA_nf {f : Nat → Rw → Rw} (h : okA r) (hf : ∀ i r, okA r → okA (f i r)) : ∀ n, okA (nf f r n)
  | 0 => h
  | n + 1 => hf n _ (okA_nf h hf n)
theorem okA_fo {n : Nat} (h : okA r) : okA (nf sFo1 r n) := okA_nf h (fun _ _ q => okA_fo1 q) n
end RW2

set_option linter.all false
/-! the order of what is shed -/
theorem sm_le {f g : Nat → Int} : ∀ {n : Nat}, (∀ i, i < n → f i ≤ g i) → sm f n ≤ sm g n
  | 0, _ => Int.le_refl _
  | n + 1, h => by
    have q := sm_le (n := n) (fun i l => h i (by omega))
    have e := h n (by omega)
    show sm f n + f n ≤ sm g n + g n
    omega
theorem sm_lt {f g : Nat → Int} {u : Nat} : ∀ {n : Nat}, (∀ i, i < n → f i ≤ g i) → u < n → f u < g u → sm f n < sm g n
  | 0, _, h, _ => absurd h (by omega)
  | n + 1, h, l, s => by
    show sm f n + f n < sm g n + g n
    by_cases c : u = n
    · subst c
      have q := sm_le (f := f) (g := g) (n := u) (fun i l => h i (by omega))
      omega
    · have q := sm_lt (f := f) (g := g) (u := u) (n := n) (fun i l => h i (by omega)) (by omega) s
      have e := h n (by omega)
      omega
theorem sm_ins {f f' : Nat → Int} {p : Nat} : ∀ {m : Nat}, p ≤ m → (∀ k, k < p → f' k = f k) → (∀ k, p ≤ k → k < m → f' (k + 1) = f k) → sm f' (m + 1) = sm f m + f' p
  | 0, h, _, _ => by
    have e : p = 0 := by omega
    subst e
    rfl
  | m + 1, h, h1, h2 => by
    show sm f' (m + 1) + f' (m + 1) = sm f m + f m + f' p
    by_cases c : p = m + 1
    · subst c
      rw [sm_cg (fun i l => h1 i l)]
      rfl
    · rw [sm_ins (m := m) (by omega) h1 (fun k a b => h2 k a (by omega)), h2 m (by omega) (by omega)]
      omega
theorem sm_until {k : Nat} : ∀ {m : Nat}, sm (fun l => if l < k then 1 else 0) m = if m ≤ k then (m : Int) else (k : Int)
  | 0 => by rw [if_pos (by omega)]; rfl
  | m + 1 => by
    show sm (fun l => if l < k then 1 else 0) m + (if m < k then 1 else 0) = _
    rw [sm_until (m := m)]
    by_cases c : m < k
    · rw [if_pos (by omega), if_pos c, if_pos (by omega)]
      omega
    · by_cases c2 : m = k
      · rw [if_pos (by omega), if_neg c, if_neg (by omega), c2]
        omega
      · rw [if_neg (by omega), if_neg c, if_neg (by omega)]
        omega
/-- u stands ahead of v -/
abbrev btR (R : Nat → Int) (u v : Nat) : Prop := R v < R u ∨ (R u = R v ∧ u < v)
/-- how many stand ahead of u; how many there are -/
def ps (R : Nat → Int) (n u : Nat) : Int := sm (fun i => if 0 < R i ∧ btR R i u then 1 else 0) n
def cp (R : Nat → Int) (n : Nat) : Int := sm (fun i => if 0 < R i then 1 else 0) n
theorem ind_le {p q : Prop} [Decidable p] [Decidable q] (h : p → q) : (if p then (1 : Int) else 0) ≤ if q then 1 else 0 := by
  by_cases c : p
  · rw [if_pos c, if_pos (h c)]
    exact Int.le_refl _
  · rw [if_neg c]
    split <;> decide
theorem ind_eq {p q : Prop} [Decidable p] [Decidable q] (h : p ↔ q) : (if p then (1 : Int) else 0) = if q then 1 else 0 := by
  by_cases c : p
  · rw [if_pos c, if_pos (h.mp c)]
  · rw [if_neg c, if_neg (fun w => c (h.mpr w))]
theorem ps_lt {R : Nat → Int} {n u v : Nat} (hu : u < n) (h0 : 0 < R u) (b : btR R u v) : ps R n u < ps R n v := by
  refine sm_lt (u := u) (fun i _ => ind_le (fun w => ⟨w.1, ?_⟩)) hu ?_
  · have w2 := w.2
    show R v < R i ∨ (R i = R v ∧ i < v)
    omega
  · show (if 0 < R u ∧ btR R u u then (1 : Int) else 0) < (if 0 < R u ∧ btR R u v then 1 else 0)
    rw [if_neg (fun w => by have w2 := w.2; omega), if_pos ⟨h0, b⟩]
    decide
theorem ps_inj {R : Nat → Int} {n u v : Nat} (hu : u < n) (h0 : 0 < R u) (hv : v < n) (h1 : 0 < R v) (e : ps R n u = ps R n v) : u = v := by
  by_cases c : u = v
  · exact c
  · exfalso
    by_cases b : btR R u v
    · have q := ps_lt hu h0 b
      omega
    · have q := ps_lt (v := u) hv h1 (by
        show R u < R v ∨ (R v = R u ∧ v < u)
        omega)
      omega
theorem ps_cp {R : Nat → Int} {n u : Nat} (hu : u < n) (h0 : 0 < R u) : ps R n u < cp R n := by
  refine sm_lt (u := u) (fun i _ => ind_le (fun w => w.1)) hu ?_
  show (if 0 < R u ∧ btR R u u then (1 : Int) else 0) < (if 0 < R u then 1 else 0)
  rw [if_neg (fun w => by have w2 := w.2; omega), if_pos h0]
  decide
/-- the k-th -/
noncomputable def od (R : Nat → Int) (n : Nat) (k : Int) : Int := @dite _ (∃ w : Nat, w < n ∧ 0 < R w ∧ ps R n w = k) (Classical.propDecidable _) (fun h => ((Classical.choose h : Nat) : Int)) (fun _ => cNONE)
theorem od_y {R : Nat → Int} {n w : Nat} {k z : Int} (hw : w < n) (h0 : 0 < R w) (hp : ps R n w = k) (hz : z = (w : Int)) : z = od R n k := by
  have h : ∃ w : Nat, w < n ∧ 0 < R w ∧ ps R n w = k := ⟨w, hw, h0, hp⟩
  have q := Classical.choose_spec h
  have e : Classical.choose h = w := ps_inj q.1 q.2.1 hw h0 (q.2.2.trans hp.symm)
  unfold od
  rw [dif_pos h, e, hz]
theorem od_n {R : Nat → Int} {n : Nat} {k z : Int} (h : cp R n ≤ k) (hz : z = -1000000005) : z = od R n k := by
  have q : od R n k = -1000000005 := dif_neg (fun w => by
    obtain ⟨u, h1, h2, h3⟩ := w
    have q := ps_cp h1 h2
    omega)
  rw [q]
  exact hz
theorem od_b {R : Nat → Int} {n : Nat} {k : Int} : (od R n k = -1000000005) ∨ (0 ≤ od R n k ∧ od R n k < (n : Int) ∧ 0 < R (od R n k).toNat) := by
  by_cases h : ∃ w : Nat, w < n ∧ 0 < R w ∧ ps R n w = k
  · obtain ⟨w, h1, h2, h3⟩ := h
    rw [← od_y h1 h2 h3 rfl]
    exact Or.inr ⟨by omega, by omega, by rw [Int.toNat_natCast]; exact h2⟩
  · exact Or.inl (dif_neg h)
/-- the class picks the first greatest again and again: j are picked -/
def srI (R : Nat → Int) (n : Nat) (c : Nat → Int) (j : Int) : Prop := (∀ i, i < n → c i = R i ∨ (0 < R i ∧ c i = 0)) ∧ (∀ u v, u < n → v < n → 0 < R u → c u = 0 → 0 < c v → btR R u v) ∧ sm (fun i => if 0 < R i ∧ c i = 0 then 1 else 0) n = j
theorem sr_0 {R c : Nat → Int} {n : Nat} {j : Int} (h : ∀ i, i < n → c i = R i) (hj : j = 0) : srI R n c j := by
  subst hj
  refine ⟨fun i l => Or.inl (h i l), fun u v hu _ h0 e _ => absurd h0 (by rw [← h u hu]; omega), sm_zero (fun i l => if_neg (fun w => ?_))⟩
  have e := h i l
  omega
theorem sr_pick {R c c' : Nat → Int} {n w : Nat} {j j' z v : Int} (s : srI R n c j) (hw : w < n) (h0 : 0 < c w) (g : ∀ i, i < n → c i ≤ c w ∧ (c i = c w → w ≤ i)) (hz : z = (w : Int)) (e : c' = pn c w v) (hv : v = 0) (hj : j' = j + 1) : z = od R n j ∧ srI R n c' j' := by
  subst hv
  subst hj
  obtain ⟨s1, s2, s3⟩ := s
  have rw_ : R w = c w := by
    rcases s1 w hw with q | q
    · exact q.symm
    · omega
  have k : ps R n w = j := by
    rw [← s3]
    refine sm_cg (fun i l => ind_eq ⟨fun q => ⟨q.1, ?_⟩, fun q => ⟨q.1, s2 i w l hw q.1 q.2 h0⟩⟩)
    rcases s1 i l with a | a
    · have b := g i l
      have q2 := q.2
      omega
    · exact a.2
  refine ⟨od_y hw (by omega) k hz, fun i l => ?_, fun u v hu hv h1 h2 h3 => ?_, ?_⟩
  · rw [e]
    show (if i = w then (0 : Int) else c i) = R i ∨ (0 < R i ∧ (if i = w then (0 : Int) else c i) = 0)
    by_cases q : i = w
    · subst q
      rw [if_pos rfl]
      exact Or.inr ⟨by omega, rfl⟩
    · rw [if_neg q]
      exact s1 i l
  · rw [e] at h2 h3
    have h2' : (if u = w then (0 : Int) else c u) = 0 := h2
    have h3' : 0 < (if v = w then (0 : Int) else c v) := h3
    by_cases qv : v = w
    · rw [if_pos qv] at h3'
      omega
    · rw [if_neg qv] at h3'
      by_cases qu : u = w
      · subst qu
        have b := g v hv
        rcases s1 v hv with a | a
        · show R v < R u ∨ (R u = R v ∧ u < v)
          omega
        · omega
      · rw [if_neg qu] at h2'
        exact s2 u v hu hv h1 h2' h3'
  · rw [← s3]
    refine sm_one (p := w) (fun i q => ?_) ?_ hw
    · rw [e]
      show (if 0 < R i ∧ (if i = w then (0 : Int) else c i) = 0 then (1 : Int) else 0) = _
      rw [if_neg q]
    · rw [e]
      show (if 0 < R w ∧ (if w = w then (0 : Int) else c w) = 0 then (1 : Int) else 0) = (if 0 < R w ∧ c w = 0 then 1 else 0) + 1
      rw [if_pos (rfl : w = w), if_pos ⟨by omega, rfl⟩, if_neg (fun q => by omega)]
      rfl
theorem sr_none {R c : Nat → Int} {n : Nat} {j : Int} (s : srI R n c j) (g : ∀ i, i < n → c i ≤ 0) : cp R n ≤ j := by
  obtain ⟨s1, s2, s3⟩ := s
  rw [← s3]
  refine sm_le (fun i l => ind_le (fun q => ⟨q, ?_⟩))
  have b := g i l
  rcases s1 i l with a | a
  · omega
  · exact a.2
/-- the reference's sorted list: m of n works, their rows s, what they are worth v -/
def enI (R : Nat → Int) (n m : Nat) (s v : Nat → Int) : Prop := (∀ F : Nat → Int, sm (fun i => if 0 < R i then F i else 0) n = sm (fun k => F (s k).toNat) m) ∧ (∀ k, k < m → (0 ≤ s k ∧ (s k).toNat < n ∧ 0 < R (s k).toNat) ∧ v k = R (s k).toNat) ∧ (∀ k l, k < l → l < m → btR R (s k).toNat (s l).toNat)
theorem en_0 {R s v : Nat → Int} : enI R 0 0 s v := ⟨fun _ => rfl, fun k q => absurd q (by omega), fun k l _ q => absurd q (by omega)⟩
theorem en_skip {R s v : Nat → Int} {n m : Nat} (h : enI R n m s v) (r : R n ≤ 0) : enI R (n + 1) m s v := by
  refine ⟨fun F => ?_, fun k q => ?_, h.2.2⟩
  · show sm (fun i => if 0 < R i then F i else 0) n + (if 0 < R n then F n else 0) = _
    rw [h.1 F, if_neg (by omega)]
    omega
  · have a := h.2.1 k q
    exact ⟨⟨a.1.1, by omega, a.1.2.2⟩, a.2⟩
/-- while the list is moved on for x, at p -/
def shW (R : Nat → Int) (n m p : Nat) (x : Int) (a b : Nat → Int) : Prop := ∃ s v : Nat → Int, enI R n m s v ∧ p ≤ m ∧ (∀ k, k < p → a k = s k ∧ b k = v k) ∧ (∀ k, p ≤ k → k < m → a (k + 1) = s k ∧ b (k + 1) = v k ∧ v k < x)
theorem shW_0 {R a b : Nat → Int} {n m p : Nat} {x : Int} (h : enI R n m a b) (hp : p = m) : shW R n m p x a b := by
  subst hp
  exact ⟨a, b, h, Nat.le_refl _, fun _ _ => ⟨rfl, rfl⟩, fun k q1 q2 => absurd q1 (by omega)⟩
theorem shW_S {R a b a1 b1 : Nat → Int} {n m p p' q : Nat} {x u w : Int} (h : shW R n m p x a b) (hp : p = p' + 1) (hw : w = b p') (hx : w < x) (hu : u = a p') (eb : b1 = pn b q w) (ea : a1 = pn a q u) (hq : q = p) : shW R n m p' x a1 b1 := by
  obtain ⟨s, v, h1, h2, h3, h4⟩ := h
  subst hp
  subst hq
  refine ⟨s, v, h1, by omega, fun k l => ?_, fun k l1 l2 => ?_⟩
  · rw [ea, eb]
    show (if k = p' + 1 then u else a k) = s k ∧ (if k = p' + 1 then w else b k) = v k
    rw [if_neg (by omega), if_neg (by omega)]
    exact h3 k (by omega)
  · rw [ea, eb]
    show (if k + 1 = p' + 1 then u else a (k + 1)) = s k ∧ (if k + 1 = p' + 1 then w else b (k + 1)) = v k ∧ v k < x
    by_cases c : k = p'
    · subst c
      have e := h3 k (by omega)
      rw [if_pos rfl, if_pos rfl]
      exact ⟨hu.trans e.1, hw.trans e.2, by rw [← e.2, ← hw]; exact hx⟩
    · rw [if_neg (by omega), if_neg (by omega)]
      exact h4 k (by omega) l2
theorem shW_E {R a b a1 b1 : Nat → Int} {n m p q1 q2 : Nat} {x y w : Int} (h : shW R n m p x a b) (hx : x = R n) (h0 : 0 < x) (st : p = 0 ∨ ∃ p', p = p' + 1 ∧ w = b p' ∧ x ≤ w) (eb : b1 = pn b q1 x) (ea : a1 = pn a q2 y) (hq1 : q1 = p) (hq2 : q2 = p) (hy : y = (n : Int)) : enI R (n + 1) (m + 1) a1 b1 := by
  obtain ⟨s, v, h1, h2, h3, h4⟩ := h
  subst hq1
  subst hq2
  have ge : ∀ k, k < q2 → x ≤ v k := fun k l => by
    rcases st with st | ⟨p', st1, st2, st3⟩
    · omega
    · have e := h3 p' (by omega)
      have v1 := (h1.2.1 p' (by omega)).2
      have v2 := (h1.2.1 k (by omega)).2
      by_cases c : k = p'
      · subst c
        omega
      · have b := h1.2.2 k p' (by omega) (by omega)
        omega
  have A : ∀ k, a1 k = if k = q2 then y else a k := fun k => by rw [ea]; rfl
  have B : ∀ k, b1 k = if k = q2 then x else b k := fun k => by rw [eb]; rfl
  have a0 : ∀ k, k < q2 → a1 k = s k ∧ b1 k = v k := fun k l => by
    rw [A, B, if_neg (by omega), if_neg (by omega)]
    exact h3 k l
  have a2 : a1 q2 = y ∧ b1 q2 = x := ⟨by rw [A, if_pos rfl], by rw [B, if_pos rfl]⟩
  have a3 : ∀ k, q2 ≤ k → k < m → a1 (k + 1) = s k ∧ b1 (k + 1) = v k ∧ v k < x := fun k l1 l2 => by
    rw [A, B, if_neg (by omega), if_neg (by omega)]
    exact h4 k l1 l2
  have yn : y.toNat = n := by omega
  refine ⟨fun F => ?_, fun k l => ?_, fun k l kl lm => ?_⟩
  · show sm (fun i => if 0 < R i then F i else 0) n + (if 0 < R n then F n else 0) = _
    rw [h1.1 F, if_pos (by omega), sm_ins (f := fun k => F (s k).toNat) (p := q2) h2 (fun k l => by rw [(a0 k l).1]) (fun k l1 l2 => by rw [(a3 k l1 l2).1]), a2.1, yn]
  · by_cases c : k < q2
    · have e := h1.2.1 k (by omega)
      rw [(a0 k c).1, (a0 k c).2]
      exact ⟨⟨e.1.1, by omega, e.1.2.2⟩, e.2⟩
    · by_cases c2 : k = q2
      · rw [c2, a2.1, a2.2, yn]
        exact ⟨⟨by omega, by omega, by omega⟩, hx⟩
      · obtain ⟨k', rfl⟩ : ∃ k', k = k' + 1 := ⟨k - 1, by omega⟩
        have e := h1.2.1 k' (by omega)
        have w := a3 k' (by omega) (by omega)
        rw [w.1, w.2.1]
        exact ⟨⟨e.1.1, by omega, e.1.2.2⟩, e.2⟩
  · by_cases c : l < q2
    · rw [(a0 k (by omega)).1, (a0 l c).1]
      exact h1.2.2 k l kl (by omega)
    · by_cases c2 : l = q2
      · have g := ge k (by omega)
        have e := h1.2.1 k (by omega)
        rw [(a0 k (by omega)).1, c2, a2.1, yn]
        show R n < R (s k).toNat ∨ (R (s k).toNat = R n ∧ (s k).toNat < n)
        omega
      · obtain ⟨l', rfl⟩ : ∃ l', l = l' + 1 := ⟨l - 1, by omega⟩
        have w := a3 l' (by omega) (by omega)
        have el := h1.2.1 l' (by omega)
        rw [w.1]
        by_cases d : k < q2
        · rw [(a0 k d).1]
          exact h1.2.2 k l' (by omega) (by omega)
        · by_cases d2 : k = q2
          · rw [d2, a2.1, yn]
            show R (s l').toNat < R n ∨ (R n = R (s l').toNat ∧ n < (s l').toNat)
            omega
          · obtain ⟨k', rfl⟩ : ∃ k', k = k' + 1 := ⟨k - 1, by omega⟩
            rw [(a3 k' (by omega) (by omega)).1]
            exact h1.2.2 k' l' (by omega) (by omega)
theorem en_cp {R s v : Nat → Int} {n m : Nat} (h : enI R n m s v) : cp R n = (m : Int) := by
  have e := h.1 (fun _ => 1)
  unfold cp
  rw [e]
  have q : ∀ {m : Nat}, sm (fun _ => (1 : Int)) m = (m : Int) := fun {m} => by
    have t := sm_until (k := m) (m := m)
    rw [if_pos (Nat.le_refl _)] at t
    rw [← t]
    exact sm_cg (fun i l => (if_pos l).symm)
  exact q
theorem en_od {R s v : Nat → Int} {n m k : Nat} {z : Int} (h : enI R n m s v) (hk : k < m) (hz : z = s k) : z = od R n (k : Int) := by
  have a := (h.2.1 k hk).1
  refine od_y (w := (s k).toNat) a.2.1 a.2.2 ?_ (by omega)
  have e := h.1 (fun i => if btR R i (s k).toNat then 1 else 0)
  have e2 : ps R n (s k).toNat = sm (fun i => if 0 < R i then (if btR R i (s k).toNat then 1 else 0) else 0) n := sm_cg (fun i _ => by
    show (if 0 < R i ∧ btR R i (s k).toNat then (1 : Int) else 0) = if 0 < R i then (if btR R i (s k).toNat then 1 else 0) else 0
    by_cases c : 0 < R i
    · rw [if_pos c]
      exact ind_eq ⟨fun w => w.2, fun w => ⟨c, w⟩⟩
    · rw [if_neg c, if_neg (fun w => c w.1)])
  rw [e2, e]
  have e3 : sm (fun l => if btR R (s l).toNat (s k).toNat then (1 : Int) else 0) m = sm (fun l => if l < k then 1 else 0) m := sm_cg (fun l q => ind_eq ⟨fun w => ?_, fun w => h.2.2 l k w hk⟩)
  · rw [e3, sm_until, if_neg (by omega)]
  · by_cases c : l < k
    · exact c
    · exfalso
      by_cases c2 : l = k
      · subst c2
        omega
      · have b := h.2.2 k l (by omega) q
        omega

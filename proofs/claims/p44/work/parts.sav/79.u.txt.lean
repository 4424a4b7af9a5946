set_option linter.all false
/-! a new text: its codes are well formed -/
/-- the codes of a list, the last first, by their places -/
def cf : List Int → Nat → Int
  | [], _ => 0
  | v :: c, i => if i = c.length then v else cf c i
theorem cf_rdl {r : Nat → Int} : ∀ {m i : Nat}, i < m → cf (rdl r m) i = r i
  | 0, _, h => absurd h (by omega)
  | m + 1, i, h => by
    have l : (rdl r m).length = m := by
      clear h
      induction m with
      | zero => rfl
      | succ m ih => exact congrArg (· + 1) ih
    show (if i = (rdl r m).length then r m else cf (rdl r m) i) = r i
    rw [l]
    by_cases c : i = m
    · rw [if_pos c, c]
    · rw [if_neg c]
      exact cf_rdl (by omega)
theorem rdl_len {r : Nat → Int} : ∀ {m : Nat}, (rdl r m).length = m
  | 0 => rfl
  | m + 1 => congrArg (· + 1) (rdl_len (m := m))
theorem rds_len {R : Nat → Int} {a : Int} : ∀ {m : Nat}, (rds R a m).length = m
  | 0 => rfl
  | m + 1 => congrArg (· + 1) (rds_len (m := m))
theorem cf_rds {R : Nat → Int} {a : Int} : ∀ {m i : Nat}, i < m → cf (rds R a m) i = rdc (R (a + 2 * (i : Int)).toNat) (R (a + 2 * (i : Int) + 1).toNat)
  | 0, _, h => absurd h (by omega)
  | m + 1, i, h => by
    show (if i = (rds R a m).length then rdc (R (a + 2 * (m : Int)).toNat) (R (a + 2 * (m : Int) + 1).toNat) else cf (rds R a m) i) = _
    rw [rds_len]
    by_cases c : i = m
    · rw [if_pos c, c]
    · rw [if_neg c]
      exact cf_rds (by omega)
theorem cf_out : ∀ {c : List Int} {i : Nat}, c.length ≤ i → cf c i = 0
  | [], _, _ => rfl
  | v :: c, i, h => by
    have h2 : c.length + 1 ≤ i := h
    show (if i = c.length then v else cf c i) = 0
    rw [if_neg (by omega)]
    exact cf_out (by omega)
/-- how high the pile is behind the codes; each code finds what it needs, is known -/
def hL : List Int → Int
  | [] => 0
  | v :: c => if v < 20000 then hL c + 1 else if v = 20033 then hL c else hL c - 1
def wL (key : Int) : List Int → Prop
  | [] => True
  | v :: c => (0 ≤ v ∧ (10000 ≤ v → v < 20000 → nmK key (v - 10000).toNat = true) ∧ (20000 ≤ v → sgK (v - 20000) = true)) ∧ (20000 ≤ v → 1 ≤ hL c ∧ (v ≠ 20033 → 2 ≤ hL c)) ∧ wL key c
theorem ht_cg {f g : Nat → Int} : ∀ {n : Nat}, (∀ i, i < n → f i = g i) → ht f n = ht g n
  | 0, _ => rfl
  | n + 1, h => by
    show (if f n < 20000 then ht f n + 1 else if f n = 20033 then ht f n else ht f n - 1) = (if g n < 20000 then ht g n + 1 else if g n = 20033 then ht g n else ht g n - 1)
    rw [h n (by omega), ht_cg (fun i l => h i (by omega))]
theorem cf_lo {v : Int} {c : List Int} {i : Nat} (h : i < c.length) : cf (v :: c) i = cf c i := if_neg (by omega)
theorem cf_hi {v : Int} {c : List Int} : cf (v :: c) c.length = v := if_pos rfl
theorem ht_cf : ∀ {c : List Int}, ht (cf c) c.length = hL c
  | [] => rfl
  | v :: c => by
    show (if cf (v :: c) c.length < 20000 then ht (cf (v :: c)) c.length + 1 else if cf (v :: c) c.length = 20033 then ht (cf (v :: c)) c.length else ht (cf (v :: c)) c.length - 1) = (if v < 20000 then hL c + 1 else if v = 20033 then hL c else hL c - 1)
    rw [cf_hi, ht_cg (fun i l => cf_lo l), ht_cf]
theorem wL_at {key : Int} : ∀ {c : List Int}, wL key c → ∀ i, i < c.length → (0 ≤ cf c i ∧ (10000 ≤ cf c i → cf c i < 20000 → nmK key (cf c i - 10000).toNat = true) ∧ (20000 ≤ cf c i → sgK (cf c i - 20000) = true)) ∧ (20000 ≤ cf c i → 1 ≤ ht (cf c) i) ∧ (20000 ≤ cf c i → cf c i ≠ 20033 → 2 ≤ ht (cf c) i)
  | [], _, i, h => absurd h (Nat.not_lt_zero i)
  | v :: c, w, i, h => by
    have h2 : i < c.length + 1 := h
    by_cases e : i = c.length
    · subst e
      rw [cf_hi, ht_cg (fun i l => cf_lo l), ht_cf]
      exact ⟨w.1, fun q => (w.2.1 q).1, fun q => (w.2.1 q).2⟩
    · have l : i < c.length := by omega
      rw [cf_lo l, ht_cg (g := cf c) (fun j lj => cf_lo (by omega))]
      exact wL_at w.2.2 i l
/-- signs that wait and join two -/
def bC : List Int → Int
  | [] => 0
  | s :: p => (if rdG s ≠ 0 then 1 else 0) + bC p
theorem bC_0 : ∀ {p : List Int}, 0 ≤ bC p
  | [] => Int.le_refl _
  | s :: p => by
    have h := bC_0 (p := p)
    show 0 ≤ (if rdG s ≠ 0 then 1 else 0) + bC p
    split <;> omega
theorem rdG_sg {s : Int} (h : rdG s ≠ 0) : (s = 124 ∨ s = 38 ∨ s = 60 ∨ s = 61 ∨ s = 62 ∨ s = 43 ∨ s = 45 ∨ s = 42 ∨ s = 47) := by
  unfold rdG at h
  (repeat' split at h) <;> omega
theorem rdH_sg {s : Int} (h : 1 ≤ rdH s) : (s = 33 ∧ rdG s = 0) ∨ (rdG s ≠ 0 ∧ s ≠ 33) := by
  unfold rdH at h
  by_cases c : s = 33
  · exact Or.inl ⟨c, by rw [c]; decide⟩
  · rw [if_neg c] at h
    exact Or.inr ⟨by omega, c⟩
theorem wl_T {key k : Int} : ∀ {p c : List Int}, (1 ≤ k ∨ rdC 40 p = 0) → rdA p → wL key c → hL c = bC p + 1 → wL key (rdT k p c).2 ∧ hL (rdT k p c).2 = bC (rdT k p c).1 + 1 ∧ rdA (rdT k p c).1
  | [], c, _, a, w, h => ⟨w, h, a⟩
  | s :: p, c, hk, a, w, h => by
    by_cases q : k ≤ rdH s
    · rw [rdT_pop q]
      have b := bC_0 (p := p)
      have hC : rdC 40 (s :: p) = (if s = 40 then 1 else 0) + rdC 40 p := rfl
      have c0 := rdC_0 40 p
      have s1 : 1 ≤ rdH s := by
        rcases hk with hk | hk
        · omega
        · rcases a.1 with e | e
          · rw [if_pos e] at hC
            omega
          · exact e
      have hp : 1 ≤ k ∨ rdC 40 p = 0 := by
        rcases hk with hk | hk
        · exact Or.inl hk
        · refine Or.inr ?_
          by_cases e : s = 40
          · rw [if_pos e] at hC
            omega
          · rw [if_neg e] at hC
            omega
      have hb : bC (s :: p) = (if rdG s ≠ 0 then 1 else 0) + bC p := rfl
      rcases rdH_sg s1 with ⟨e, g⟩ | ⟨g, n⟩
      · rw [if_neg (by omega)] at hb
        subst e
        refine wl_T hp a.2 ⟨⟨by decide, fun _ q => absurd q (by decide), fun _ => by decide⟩, fun _ => ⟨by omega, fun q => absurd rfl q⟩, w⟩ ?_
        show (if (20000 : Int) + 33 < 20000 then hL c + 1 else if (20000 : Int) + 33 = 20033 then hL c else hL c - 1) = bC p + 1
        rw [if_neg (by decide), if_pos (by decide)]
        omega
      · rw [if_pos g] at hb
        have sg := rdG_sg g
        refine wl_T hp a.2 ⟨⟨by omega, fun _ q => absurd q (by omega), fun _ => ?_⟩, fun _ => ⟨by omega, fun _ => by omega⟩, w⟩ ?_
        · rw [show (20000 : Int) + s - 20000 = s by omega]
          exact sgK_v (by omega)
        · show (if (20000 : Int) + s < 20000 then hL c + 1 else if (20000 : Int) + s = 20033 then hL c else hL c - 1) = bC p + 1
          rw [if_neg (by omega), if_neg (by omega)]
          omega
    · rw [rdT_stay q]
      exact ⟨w, h, a⟩
theorem rdT_0 : ∀ {p c : List Int}, (rdT 0 p c).1 = []
  | [], _ => rfl
  | s :: p, c => by
    have q : 0 ≤ rdH s := by
      unfold rdH rdG
      (repeat' split) <;> omega
    rw [rdT_pop q]
    exact rdT_0
/-- what the reader holds is in order -/
def wM (key : Int) (pd c : List Int) (due : Bool) : Prop := wL key c ∧ rdA pd ∧ hL c = bC pd + (if due = true then 0 else 1)
theorem nmK_of {key le : Int} (h : rdN key le) : nmK key (10000 + le - 97 - 10000).toNat = true := by
  have e : ∃ i : Nat, (10000 + le - 97 - 10000).toNat = i ∧ ((i : Int) = le - 97 ∨ le < 97) := ⟨_, rfl, by omega⟩
  obtain ⟨i, e1, e2⟩ := e
  rw [e1]
  unfold nmK
  simp only [Bool.or_eq_true, Bool.and_eq_true, beq_iff_eq]
  omega
theorem wM_E {tp : Nat → Int} {n key : Int} {pd c : List Int} {lv p : Int} {due : Bool} {q : List Int × List Int × Int × Bool} (hp : p < n) (h : wM key pd c due) (e : rdE tp n key pd c lv due p = some q) : wM key q.1 q.2.1 q.2.2.2 := by
  obtain ⟨h1, h2, h3⟩ := h
  unfold rdE at e
  by_cases d : due = true
  · rw [if_pos d] at e h3
    unfold rdEp at e
    by_cases l : rdL (tp p.toNat) = true
    · rw [if_pos l] at e
      by_cases a : rdW tp n p - p = 1 ∧ rdN key (tp p.toNat)
      · rw [if_pos a] at e
        cases e
        have ll := rdL_iff.mp l
        refine ⟨⟨⟨by omega, fun _ _ => nmK_of a.2, fun q => absurd q (by omega)⟩, fun q => absurd q (by omega), h1⟩, h2, ?_⟩
        show (if 10000 + tp p.toNat - 97 < 20000 then hL c + 1 else if 10000 + tp p.toNat - 97 = 20033 then hL c else hL c - 1) = bC pd + (if false = true then 0 else 1)
        rw [if_pos (by omega), if_neg (by decide)]
        omega
      · rw [if_neg a] at e
        cases e
    · rw [if_neg l] at e
      by_cases g : rdD (tp p.toNat) = true
      · rw [if_pos g] at e
        by_cases a : rdW tp n p - p ≤ 4
        · rw [if_pos a] at e
          cases e
          have v := rdV_4 hp l g a
          refine ⟨⟨⟨v.1, fun q => absurd q (by show ¬ 10000 ≤ rdV tp p (rdW tp n p - p).toNat; omega), fun q => absurd q (by show ¬ 20000 ≤ rdV tp p (rdW tp n p - p).toNat; omega)⟩, fun q => absurd q (by show ¬ 20000 ≤ rdV tp p (rdW tp n p - p).toNat; omega), h1⟩, h2, ?_⟩
          show (if rdV tp p (rdW tp n p - p).toNat < 20000 then hL c + 1 else if rdV tp p (rdW tp n p - p).toNat = 20033 then hL c else hL c - 1) = bC pd + (if false = true then 0 else 1)
          rw [if_pos (by omega), if_neg (by decide)]
          omega
        · rw [if_neg a] at e
          cases e
      · rw [if_neg g] at e
        by_cases a : tp p.toNat = 40 ∧ rdC 40 pd < 8
        · rw [if_pos a] at e
          cases e
          refine ⟨h1, ⟨Or.inl rfl, h2⟩, ?_⟩
          show hL c = (if rdG 40 ≠ 0 then 1 else 0) + bC pd + (if true = true then 0 else 1)
          rw [if_neg (by decide), if_pos rfl]
          omega
        · rw [if_neg a] at e
          by_cases a2 : tp p.toNat = 33 ∧ rdC 33 pd < 8
          · rw [if_pos a2] at e
            cases e
            refine ⟨h1, ⟨Or.inr (by decide), h2⟩, ?_⟩
            show hL c = (if rdG 33 ≠ 0 then 1 else 0) + bC pd + (if true = true then 0 else 1)
            rw [if_neg (by decide), if_pos rfl]
            omega
          · rw [if_neg a2] at e
            cases e
  · rw [if_neg d] at e h3
    unfold rdEg at e
    by_cases a : tp p.toNat = 41
    · rw [if_pos a] at e
      by_cases b : 0 < rdC 40 pd
      · rw [if_pos b] at e
        cases e
        obtain ⟨r, r1, r2, r3⟩ := rd_ket pd c h2 b
        obtain ⟨t1, t2, t3⟩ := wl_T (key := key) (k := 1) (p := pd) (c := c) (Or.inl (by decide)) h2 h1 h3
        rw [r1] at t2
        show wL key (rdT 1 pd c).2 ∧ rdA (rdT 1 pd c).1.tail ∧ hL (rdT 1 pd c).2 = bC (rdT 1 pd c).1.tail + (if false = true then 0 else 1)
        rw [r1]
        refine ⟨t1, r2, ?_⟩
        have z : bC (40 :: r) = (if rdG 40 ≠ 0 then 1 else 0) + bC r := rfl
        rw [if_neg (by decide)] at z
        rw [if_neg (by decide)]
        show hL (rdT 1 pd c).2 = bC r + 1
        omega
      · rw [if_neg b] at e
        cases e
    · rw [if_neg a] at e
      by_cases b : rdG (tp p.toNat) = 0
      · rw [if_pos b] at e
        cases e
      · rw [if_neg b] at e
        by_cases g : rdG (tp p.toNat) = 3 ∧ rdY (rdT 4 pd c).1 = true
        · rw [if_pos g] at e
          cases e
        · rw [if_neg g] at e
          cases e
          have k1 : 1 ≤ rdK (rdG (tp p.toNat)) := by
            unfold rdK
            have w : 0 ≤ rdG (tp p.toNat) := by
              unfold rdG
              (repeat' split) <;> omega
            split <;> omega
          obtain ⟨t1, t2, t3⟩ := wl_T (key := key) (k := rdK (rdG (tp p.toNat))) (p := pd) (c := c) (Or.inl k1) h2 h1 h3
          refine ⟨t1, ⟨Or.inr ?_, t3⟩, ?_⟩
          · have w : 0 ≤ rdG (tp p.toNat) := by
              unfold rdG
              (repeat' split) <;> omega
            unfold rdH
            split <;> omega
          · show hL (rdT (rdK (rdG (tp p.toNat))) pd c).2 = (if rdG (tp p.toNat) ≠ 0 then 1 else 0) + bC (rdT (rdK (rdG (tp p.toNat))) pd c).1 + (if true = true then 0 else 1)
            rw [if_pos b, if_pos rfl]
            omega
theorem wM_M {tp : Nat → Int} {n key ke : Int} : ∀ (k : Nat) {pd c : List Int} {lv p : Int} {due : Bool} {cd : List Int} {lv' : Int}, (n - p).toNat ≤ k → 0 ≤ p → 0 ≤ n → wM key pd c due → rdM tp n key ke pd c lv due p = (-1, cd, lv') → wL key cd ∧ hL cd = 1
  | k, pd, c, lv, p, due, cd, lv', hk, h0, hn, w, e => by
    by_cases hp : p < n
    · rw [rdM_in hp] at e
      by_cases g : p = ke ∧ rdD (tp p.toNat) = true
      · rw [if_pos g] at e
        have z : p = -1 := congrArg Prod.fst e
        omega
      · rw [if_neg g] at e
        cases q : rdE tp n key pd c lv due p with
        | none =>
          rw [q] at e
          have z : p = -1 := congrArg Prod.fst e
          omega
        | some x =>
          rw [q] at e
          have b := rdX_bd (tp := tp) hp
          match k with
          | 0 => omega
          | k + 1 => exact wM_M k (by omega) (by omega) hn (wM_E hp w q) e
    · rw [rdM_out hp] at e
      by_cases g : due = true ∨ 0 < rdC 40 pd
      · rw [if_pos g] at e
        have z : n = -1 := congrArg Prod.fst e
        omega
      · rw [if_neg g] at e
        have z : (rdT 0 pd c).2 = cd := congrArg (fun x : Int × List Int × Int => x.2.1) e
        have d : ¬ due = true := fun q => g (Or.inl q)
        have c0 := rdC_0 40 pd
        obtain ⟨w1, w2, w3⟩ := w
        rw [if_neg d] at w3
        obtain ⟨t1, t2, t3⟩ := wl_T (key := key) (k := 0) (p := pd) (c := c) (Or.inr (by omega)) w2 w1 w3
        rw [rdT_0] at t2
        rw [← z]
        exact ⟨t1, t2⟩
theorem cpX_wl {tp : Nat → Int} {n key lv : Int} {cd : List Int} (hn : 0 ≤ n) (h : cpX tp n (-1000000005) cd lv key) : (0 ≤ key ∧ key < 6) ∧ wL key cd ∧ hL cd = 1 := by
  obtain ⟨k, h1, h2⟩ := h
  have f0 := rdS_ge (c := rdB) (tp := tp) (n := n) (p := 0)
  rcases h2 with ⟨a, b⟩ | ⟨a, b, d⟩
  · omega
  · subst b
    have k6 : 0 ≤ key ∧ key < 6 := by
      rcases h1 with ⟨q, -⟩ | ⟨q1, q2, -⟩
      · exact absurd q a
      · exact ⟨q1, q2⟩
    rcases d with ⟨q, -⟩ | ⟨-, q⟩
    · omega
    · refine ⟨k6, ?_⟩
      have g := rdS_ge (c := rdB) (tp := tp) (n := n) (p := rdW tp n (rdS rdB tp n 0))
      have w : rdS rdB tp n 0 ≤ rdW tp n (rdS rdB tp n 0) := by
        by_cases c : rdS rdB tp n 0 < n
        · have b := rdW_bd (tp := tp) c
          omega
        · rw [rdW_n c]
          omega
      exact wM_M (pd := []) (c := []) (due := true) _ (Nat.le_refl _) (by omega) hn ⟨True.intro, True.intro, rfl⟩ q
theorem cpX_eq {tp : Nat → Int} {n key lv key' lv' : Int} {cd cd' : List Int} (h : cpX tp n (-1000000005) cd lv key) (h' : cpX tp n (-1000000005) cd' lv' key') : cd = cd' ∧ lv = lv' ∧ key = key' := by
  obtain ⟨k, h1, h2⟩ := h
  obtain ⟨k', h1', h2'⟩ := h'
  have f0 := rdS_ge (c := rdB) (tp := tp) (n := n) (p := 0)
  have ek : k = k' := rdk_one h1 h1'
  subst ek
  rcases h2 with ⟨a, b⟩ | ⟨a, b, d⟩
  · omega
  · rcases h2' with ⟨a', b'⟩ | ⟨a', b', d'⟩
    · omega
    · rcases d with ⟨q, -⟩ | ⟨-, q⟩
      · omega
      · rcases d' with ⟨q', -⟩ | ⟨-, q'⟩
        · omega
        · have e := q.symm.trans q'
          exact ⟨congrArg (fun x : Int × List Int × Int => x.2.1) e, congrArg (fun x : Int × List Int × Int => x.2.2) e, by rw [b, b']⟩

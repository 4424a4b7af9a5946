set_option linter.all false
/-! the reference's reader: words and signs -/
/-- the kind of the word or sign that begins there -/
def rdTk (tp : Nat → Int) (n p tg : Int) : Int := if p = n then 0 else if rdL (tp p.toNat) = true then (if tg = 1 then 4 else 1) else if rdD (tp p.toNat) = true then (if tg = 1 ∨ 4 < rdW tp n p - p then 4 else 2) else 3
/-- what next does -/
def nxP (tp : Nat → Int) (n b t p' b' t' nu le : Int) : Prop := p' = rdS rdB tp n b ∧ b' = rdW tp n p' ∧ (∃ tg : Int, (tg = 1 ↔ (0 < b ∧ (t = 1 ∨ t = 2) ∧ p' = b)) ∧ t' = rdTk tp n p' tg) ∧ (p' < n → rdL (tp p'.toNat) = true → le = if b' - p' = 1 then tp p'.toNat else 0) ∧ (t' = 2 → nu = rdV tp p' (b' - p').toNat) ∧ (t' = 3 → le = tp p'.toNat)
/-- a part is due there -/
def tkD (tp : Nat → Int) (n ke p b t nu le : Int) : Prop := ke ≤ p ∧ p ≤ n ∧ b = rdW tp n p ∧ (∃ tg : Int, (tg = 1 ↔ p = ke) ∧ t = rdTk tp n p tg) ∧ (p < n → rdL (tp p.toNat) = true → le = if b - p = 1 then tp p.toNat else 0) ∧ (t = 2 → nu = rdV tp p (b - p).toNat) ∧ (t = 3 → le = tp p.toNat) ∧ ¬ (ke < n ∧ rdL (tp ke.toNat) = true)
/-- behind a part -/
def tkN (tp : Nat → Int) (n p b t le : Int) : Prop := p ≤ n ∧ b = rdW tp n p ∧ (t = 0 ↔ p = n) ∧ (t = 3 → p < n ∧ le = tp p.toNat) ∧ (p < n → ¬ rdL (tp p.toNat) = true → ¬ rdD (tp p.toNat) = true → t = 3 ∧ le = tp p.toNat)
section TK
variable {tp : Nat → Int} {n key ke p b t nu le tg : Int} {pd c : List Int} {lv : Int} {p' b' t' nu' le' : Int}
theorem rdTk_n (h : p = n) : rdTk tp n p tg = 0 := if_pos h
theorem rdTk_L (h : p ≠ n) (hl : rdL (tp p.toNat) = true) : rdTk tp n p tg = if tg = 1 then 4 else 1 := (if_neg h).trans (if_pos hl)
theorem rdTk_D (h : p ≠ n) (hl : ¬ rdL (tp p.toNat) = true) (hd : rdD (tp p.toNat) = true) : rdTk tp n p tg = if tg = 1 ∨ 4 < rdW tp n p - p then 4 else 2 := (if_neg h).trans ((if_neg hl).trans (if_pos hd))
theorem rdTk_s (h : p ≠ n) (hl : ¬ rdL (tp p.toNat) = true) (hd : ¬ rdD (tp p.toNat) = true) : rdTk tp n p tg = 3 := (if_neg h).trans ((if_neg hl).trans (if_neg hd))
theorem rdTk_cases : (p = n ∧ rdTk tp n p tg = 0) ∨ (p ≠ n ∧ rdL (tp p.toNat) = true ∧ ((tg = 1 ∧ rdTk tp n p tg = 4) ∨ (tg ≠ 1 ∧ rdTk tp n p tg = 1))) ∨ (p ≠ n ∧ ¬ rdL (tp p.toNat) = true ∧ rdD (tp p.toNat) = true ∧ (((tg = 1 ∨ 4 < rdW tp n p - p) ∧ rdTk tp n p tg = 4) ∨ (¬ (tg = 1 ∨ 4 < rdW tp n p - p) ∧ rdTk tp n p tg = 2))) ∨ (p ≠ n ∧ ¬ rdL (tp p.toNat) = true ∧ ¬ rdD (tp p.toNat) = true ∧ rdTk tp n p tg = 3) := by
  by_cases h : p = n
  · exact Or.inl ⟨h, rdTk_n h⟩
  · by_cases hl : rdL (tp p.toNat) = true
    · refine Or.inr (Or.inl ⟨h, hl, ?_⟩)
      by_cases g : tg = 1
      · exact Or.inl ⟨g, (rdTk_L h hl).trans (if_pos g)⟩
      · exact Or.inr ⟨g, (rdTk_L h hl).trans (if_neg g)⟩
    · by_cases hd : rdD (tp p.toNat) = true
      · refine Or.inr (Or.inr (Or.inl ⟨h, hl, hd, ?_⟩))
        by_cases g : tg = 1 ∨ 4 < rdW tp n p - p
        · exact Or.inl ⟨g, (rdTk_D h hl hd).trans (if_pos g)⟩
        · exact Or.inr ⟨g, (rdTk_D h hl hd).trans (if_neg g)⟩
      · exact Or.inr (Or.inr (Or.inr ⟨h, hl, hd, rdTk_s h hl hd⟩))
abbrev nxG (b t p' y : Int) : Prop := (y = 1 ∧ 0 < b ∧ (t = 1 ∨ t = 2) ∧ p' = b) ∨ (y = 0 ∧ ¬ (0 < b ∧ (t = 1 ∨ t = 2) ∧ p' = b))
theorem nxG_iff {y : Int} (h : nxG b t p' y) : y = 1 ↔ (0 < b ∧ (t = 1 ∨ t = 2) ∧ p' = b) := by
  constructor
  · intro q
    omega
  · intro q
    omega
theorem nx_end {y : Int} (g : nxG b t p' y) (h1 : p' = rdS rdB tp n b) (hn : p' = n) (hb : b' = p') (ht : t' = 0) : nxP tp n b t p' b' t' nu' le' := ⟨h1, by rw [rdW_n (by omega)]; exact hb, ⟨y, nxG_iff g, by rw [rdTk_n hn]; exact ht⟩, fun q => absurd q (by omega), fun q => absurd q (by omega), fun q => absurd q (by omega)⟩
theorem nx_L {y : Int} (g : nxG b t p' y) (h1 : p' = rdS rdB tp n b) (hn : p' < n) (hl : rdL (tp p'.toNat) = true) (hb : b' = rdW tp n p') (ht : (y = 1 ∧ t' = 4) ∨ (y = 0 ∧ t' = 1)) (hle : (b' - p' = 1 ∧ le' = tp p'.toNat) ∨ (b' - p' ≠ 1 ∧ le' = 0)) : nxP tp n b t p' b' t' nu' le' := by
  refine ⟨h1, hb, ⟨y, nxG_iff g, ?_⟩, fun _ _ => ?_, fun q => absurd q (by omega), fun q => absurd q (by omega)⟩
  · rw [rdTk_L (by omega) hl]
    split <;> omega
  · split <;> omega
theorem nx_D {y : Int} (g : nxG b t p' y) (h1 : p' = rdS rdB tp n b) (hn : p' < n) (hl : ¬ rdL (tp p'.toNat) = true) (hd : rdD (tp p'.toNat) = true) (hb : b' = rdW tp n p') (ht : ((y = 1 ∨ 4 < b' - p') ∧ t' = 4) ∨ (¬ (y = 1 ∨ 4 < b' - p') ∧ t' = 2)) (hnu : b' - p' ≤ 4 → nu' = rdV tp p' (b' - p').toNat) : nxP tp n b t p' b' t' nu' le' := by
  refine ⟨h1, hb, ⟨y, nxG_iff g, ?_⟩, fun _ q => absurd q hl, fun q => hnu (by omega), fun q => absurd q (by omega)⟩
  rw [rdTk_D (by omega) hl hd, ← hb]
  split <;> omega
theorem nx_s {y : Int} (g : nxG b t p' y) (h1 : p' = rdS rdB tp n b) (hn : p' < n) (hl : ¬ rdL (tp p'.toNat) = true) (hd : ¬ rdD (tp p'.toNat) = true) (hb : b' = p' + 1) (ht : t' = 3) (hle : le' = tp p'.toNat) : nxP tp n b t p' b' t' nu' le' := ⟨h1, by rw [rdW_s hn hl hd]; exact hb, ⟨y, nxG_iff g, by rw [rdTk_s (by omega) hl hd]; exact ht⟩, fun _ q => absurd q hl, fun q => absurd q (by omega), fun _ => hle⟩
theorem nxG_ex : ∃ y : Int, nxG b t p' y := by
  by_cases h : 0 < b ∧ (t = 1 ∨ t = 2) ∧ p' = b
  · exact ⟨1, Or.inl ⟨rfl, h⟩⟩
  · exact ⟨0, Or.inr ⟨rfl, h⟩⟩
theorem nx_s0 (h1 : p' = rdS rdB tp n b) (hn : p' < n) (hl : ¬ rdL (tp p'.toNat) = true) (hd : ¬ rdD (tp p'.toNat) = true) (hb : b' = p' + 1) (ht : t' = 3) (hle : le' = tp p'.toNat) : nxP tp n b t p' b' t' nu' le' := (nxG_ex (b := b) (t := t) (p' := p')).elim (fun _ g => nx_s g h1 hn hl hd hb ht hle)
/-- so many digits make at most so much -/
def nuB (k x : Int) : Prop := 0 ≤ x ∧ x < 10 ^ k.toNat
theorem nuB_0 {k x : Int} (hk : k = 0) (hx : x = 0) : nuB k x := by
  subst hk
  subst hx
  exact ⟨by decide, by decide⟩
theorem nuB_3 {k x : Int} (h : nuB k x) (h0 : 0 ≤ k) (h3 : k ≤ 3) : 0 ≤ x ∧ x ≤ 999 := by
  obtain ⟨a, c⟩ := h
  have e : (10 : Int) ^ k.toNat ≤ 1000 := by
    rcases (show k.toNat = 0 ∨ k.toNat = 1 ∨ k.toNat = 2 ∨ k.toNat = 3 by omega) with e | e | e | e <;> rw [e] <;> decide
  omega
theorem nuB_step {k x d k' x' : Int} (h : nuB k x) (h0 : 0 ≤ k) (e : k' = k + 1) (hd : 0 ≤ d ∧ d ≤ 9) (ex : x' = 10 * x + d) : nuB k' x' := by
  obtain ⟨a, c⟩ := h
  refine ⟨by omega, ?_⟩
  rw [e, show (k + 1).toNat = k.toNat + 1 by omega, Int.pow_succ]
  omega
theorem tk_due (h : nxP tp n b t p' b' t' nu' le') (ht : t = 3) (hke : ke ≤ p) (hp : p < n) (hb : b = rdW tp n p) (hk : ¬ (ke < n ∧ rdL (tp ke.toNat) = true)) : tkD tp n ke p' b' t' nu' le' ∧ p' = rdX tp n p := by
  obtain ⟨h1, h2, ⟨tg, h3, h4⟩, h5, h6, h7⟩ := h
  subst hb
  have hx : p' = rdX tp n p := h1
  have q := rdX_bd (tp := tp) hp
  rw [← hx] at q
  exact ⟨⟨by omega, q.2, h2, ⟨tg, ⟨fun e => absurd (h3.mp e) (by omega), fun e => absurd e (by omega)⟩, h4⟩, h5, h6, h7, hk⟩, hx⟩
theorem tk_key (h : nxP tp n ke t p' b' t' nu' le') (ht : t = 1) (h0 : 0 < ke) (hn : ke ≤ n) (hk : ¬ (ke < n ∧ rdL (tp ke.toNat) = true)) : tkD tp n ke p' b' t' nu' le' ∧ p' = rdS rdB tp n ke := by
  obtain ⟨h1, h2, ⟨tg, h3, h4⟩, h5, h6, h7⟩ := h
  have q1 := rdS_ge (c := rdB) (tp := tp) (n := n) (p := ke)
  have q2 := rdS_le (c := rdB) (tp := tp) (n := n) (p := ke) hn
  rw [← h1] at q1 q2
  exact ⟨⟨q1, q2, h2, ⟨tg, ⟨fun e => (h3.mp e).2.2, fun e => h3.mpr ⟨h0, Or.inl ht, e⟩⟩, h4⟩, h5, h6, h7, hk⟩, h1⟩
theorem tk_non (h : nxP tp n b t p' b' t' nu' le') (hb : b ≤ n) : tkN tp n p' b' t' le' := by
  obtain ⟨h1, h2, ⟨tg, h3, h4⟩, h5, h6, h7⟩ := h
  have q2 := rdS_le (c := rdB) (tp := tp) (n := n) (p := b) hb
  rw [← h1] at q2
  have hc := rdTk_cases (tp := tp) (n := n) (p := p') (tg := tg)
  rw [← h4] at hc
  refine ⟨q2, h2, ?_, ?_, ?_⟩
  · rcases hc with ⟨a, e⟩ | ⟨a, -, e⟩ | ⟨a, -, -, e⟩ | ⟨a, -, -, e⟩
    · exact ⟨fun _ => a, fun _ => e⟩
    · exact ⟨fun q => by omega, fun q => absurd q a⟩
    · exact ⟨fun q => by omega, fun q => absurd q a⟩
    · exact ⟨fun q => by omega, fun q => absurd q a⟩
  · intro q
    refine ⟨?_, h7 q⟩
    have a : p' ≠ n := fun a => by
      have z := rdTk_n (tp := tp) (tg := tg) a
      omega
    omega
  · intro q hl hd
    have e : t' = 3 := h4.trans (rdTk_s (by omega) hl hd)
    exact ⟨e, h7 e⟩
/-! parts -/
theorem p0_num (T : tkD tp n ke p b t nu le) (ht : t = 2) : p < n ∧ ¬ (p = ke ∧ rdD (tp p.toNat) = true) ∧ rdE tp n key pd c lv true p = some (pd, nu :: c, lv + 1, false) ∧ b = rdW tp n p ∧ 0 ≤ nu ∧ nu ≤ 9999 := by
  obtain ⟨h1, h2, h3, ⟨tg, h4, h5⟩, h6, h7, h8, h9⟩ := T
  have hc := rdTk_cases (tp := tp) (n := n) (p := p) (tg := tg)
  rw [← h5, ht] at hc
  rcases hc with ⟨a, e⟩ | ⟨a, -, e⟩ | ⟨a, hl, hd, e⟩ | ⟨a, -, -, e⟩
  · omega
  · omega
  · have e2 : ¬ (tg = 1 ∨ 4 < rdW tp n p - p) := by omega
    have e3 := h7 ht
    rw [h3] at e3
    rw [e3]
    exact ⟨by omega, fun q => e2 (Or.inl (h4.mpr q.1)), rdE_num hl hd (by omega), h3, rdV_4 (by omega) hl hd (by omega)⟩
  · omega
theorem p0_name (T : tkD tp n ke p b t nu le) (ht : t = 1) (hl0 : le ≠ 0) (hn : rdN key le) : p < n ∧ ¬ (p = ke ∧ rdD (tp p.toNat) = true) ∧ rdE tp n key pd c lv true p = some (pd, (10000 + le - 97) :: c, lv + 1, false) ∧ b = rdW tp n p ∧ 97 ≤ le ∧ le ≤ 122 := by
  obtain ⟨h1, h2, h3, ⟨tg, h4, h5⟩, h6, h7, h8, h9⟩ := T
  have hc := rdTk_cases (tp := tp) (n := n) (p := p) (tg := tg)
  rw [← h5, ht] at hc
  rcases hc with ⟨a, e⟩ | ⟨a, hl, e⟩ | ⟨a, hl, hd, e⟩ | ⟨a, -, -, e⟩
  · omega
  · have e3 := h6 (by omega) hl
    rw [h3] at e3
    by_cases g : rdW tp n p - p = 1
    · rw [if_pos g] at e3
      rw [e3] at hn ⊢
      exact ⟨by omega, fun q => by have q1 := rdD_iff.mp q.2; have q2 := rdL_iff.mp hl; omega, rdE_name hl ⟨g, hn⟩, h3, rdL_iff.mp hl⟩
    · rw [if_neg g] at e3
      exact absurd e3 hl0
  · omega
  · omega
theorem p0_sgn (T : tkD tp n ke p b t nu le) (ht : t = 3) : p < n ∧ tp p.toNat = le ∧ b = rdW tp n p := by
  obtain ⟨h1, h2, h3, ⟨tg, h4, h5⟩, h6, h7, h8, h9⟩ := T
  have a : p ≠ n := fun a => by
    have z := rdTk_n (tp := tp) (tg := tg) a
    omega
  exact ⟨by omega, (h8 ht).symm, h3⟩
theorem p0_bad (T : tkD tp n ke p b t nu le) (h2 : t ≠ 2) (h1 : ¬ (t = 1 ∧ le ≠ 0 ∧ rdN key le)) (h3 : ¬ (t = 3 ∧ le = 33 ∧ rdC 33 pd < 8)) (h4 : ¬ (t = 3 ∧ le = 40 ∧ rdC 40 pd < 8)) : (rdM tp n key ke pd c lv true p).1 = p := by
  obtain ⟨a1, a2, a3, ⟨tg, a4, a5⟩, a6, a7, a8, a9⟩ := T
  have hc := rdTk_cases (tp := tp) (n := n) (p := p) (tg := tg)
  rw [← a5] at hc
  rcases hc with ⟨a, e⟩ | ⟨a, hl, e⟩ | ⟨a, hl, hd, e⟩ | ⟨a, hl, hd, e⟩
  · exact (congrArg Prod.fst (rdM_end (by omega) (Or.inl rfl))).trans a.symm
  · rcases e with ⟨g, e⟩ | ⟨g, e⟩
    · have q := a4.mp g
      rw [q] at hl a
      exact absurd ⟨by omega, hl⟩ a9
    · refine rdM_bad (by omega) (rdE_name0 hl (fun q => ?_))
      have e3 := a6 (by omega) hl
      rw [a3, if_pos q.1] at e3
      have q2 := rdL_iff.mp hl
      exact h1 ⟨e, by omega, by rw [e3]; exact q.2⟩
  · rcases e with ⟨g, e⟩ | ⟨g, e⟩
    · by_cases g1 : tg = 1
      · exact rdM_glue (by omega) ⟨a4.mp g1, hd⟩
      · exact rdM_bad (by omega) (rdE_num0 hl hd (by omega))
    · exact absurd e h2
  · have e3 := a8 e
    exact rdM_bad (by omega) (rdE_sgn hl hd (fun q => h4 ⟨e, by omega, q.2⟩) (fun q => h3 ⟨e, by omega, q.2⟩))
end TK
theorem rdG_L {s : Int} (h : rdG s ≠ 0) : ¬ rdL s = true := fun q => by
  have q := rdL_iff.mp q
  apply h
  unfold rdG
  (repeat' split) <;> omega
theorem rdG_of {s k : Int} (h : rdG s = k) (hk : k ≠ 0) : (k = 1 ∧ s = 124) ∨ (k = 2 ∧ s = 38) ∨ (k = 3 ∧ (s = 60 ∨ s = 61 ∨ s = 62)) ∨ (k = 4 ∧ (s = 43 ∨ s = 45)) ∨ (k = 5 ∧ (s = 42 ∨ s = 47)) := by
  unfold rdG at h
  revert h
  (repeat' split) <;> intro h <;> omega
theorem rdG_to {s k : Int} (h : (k = 1 ∧ s = 124) ∨ (k = 2 ∧ s = 38) ∨ (k = 3 ∧ (s = 60 ∨ s = 61 ∨ s = 62)) ∨ (k = 4 ∧ (s = 43 ∨ s = 45)) ∨ (k = 5 ∧ (s = 42 ∨ s = 47))) : rdG s = k := by
  unfold rdG
  (repeat' split) <;> omega
theorem rdO_7 : ∀ pd : List Int, rdO 7 pd
  | [] => True.intro
  | s :: _ => by
    show rdH s < 7
    unfold rdH
    have := rdG_bd s
    split <;> omega
/-! the reference's heap -/
abbrev sd (I : fH) : List Int := rds (I 741) (I 740 17) (I 740 16).toNat
abbrev tkDI (I : fH) (ke : Int) : Prop := tkD (I 747) (I 740 8) ke (I 740 9) (I 740 10) (I 740 11) (I 740 12) (I 740 13)
abbrev tkNI (I : fH) : Prop := tkN (I 747) (I 740 8) (I 740 9) (I 740 10) (I 740 11) (I 740 13)
abbrev nxH (I J : fH) : Prop := nxP (I 747) (I 740 8) (I 740 10) (I 740 11) (J 740 9) (J 740 10) (J 740 11) (J 740 12) (J 740 13)
/-! what omega would split, hidden -/
def dkI (I : fH) : Prop := I 740 11 = 0 ∨ I 740 9 < I 740 10
theorem dkI_3 {I : fH} (h : dkI I) (q : I 740 11 ≠ 0) : I 740 9 < I 740 10 := h.resolve_left q
theorem dkI_cg {I J : fH} (h : dkI I) (a : J 740 9 = I 740 9) (b : J 740 10 = I 740 10) (c : J 740 11 = I 740 11) : dkI J := by
  unfold dkI at h ⊢
  rw [a, b, c]
  exact h
def laP (x : Int) : Prop := (1215 ≤ x ∧ x ≤ 3415 ∧ (x - 1215) % 200 = 0) ∨ x = 4700
theorem laP_bd {x : Int} (h : laP x) : 1215 ≤ x ∧ x ≤ 4700 := by
  unfold laP at h
  omega
theorem laP_cg {x y : Int} (h : laP x) (e : y = x) : laP y := e ▸ h
def rd1 (I J : fH) (z : Int) : Prop := z = 1 → sOne J (I 740 17) (I 740 16) (J 740 16)
def rdU (I J : fH) (z : Int) : Prop := z = 1 → I 740 16 ≤ J 740 16 ∧ J 740 16 - I 740 16 ≤ J 740 9 - I 740 9 ∧ J 740 14 = I 740 14 ∧ J 740 15 = I 740 15 ∧ I 740 18 ≤ J 740 18 ∧ J 740 18 - I 740 18 ≤ J 740 9 - I 740 9
def sgP (I : fH) (x z : Int) : Prop := (z = 1 ∧ I 740 11 = 3 ∧ I 740 13 = x) ∨ (z = 0 ∧ ¬ (I 740 11 = 3 ∧ I 740 13 = x))
theorem sgP_1 {I : fH} {x z : Int} (h : sgP I x z) (hz : z = 1) : I 740 11 = 3 ∧ I 740 13 = x := by
  rcases h with h | h
  · exact h.2
  · exact absurd h.1 (by omega)
theorem sgP_0 {I : fH} {x z : Int} (h : sgP I x z) (hz : z = 0) (q : I 740 11 = 3) : I 740 13 ≠ x := by
  rcases h with h | h
  · exact absurd h.1 (by omega)
  · exact fun q2 => h.2 ⟨q, q2⟩
def pPre (ko : Int) (I : fH) (ke : Int) (pd : List Int) : Prop := I 740 14 = rdC 40 pd ∧ I 740 15 = rdC 33 pd ∧ rdO ko pd ∧ tkDI I ke
def pP (k ko key : Int) (I J : fH) (z : Int) : Prop := ∀ (ke : Int) (pd : List Int), pPre ko I ke pd → rdP k (I 747) (I 740 8) key ke pd (sd I) (I 740 18) (I 740 9) (sd J) (J 740 18) (J 740 9) z ∧ (z = 1 → tkNI J ∧ ke ≤ J 740 9)
def pJ (k kq key : Int) (I J : fH) : Prop := ∀ (ke : Int) (pd : List Int), pPre k I ke pd → rdJ k kq (I 747) (I 740 8) key ke pd (sd I) (I 740 18) (I 740 9) (sd J) (J 740 18) (J 740 9) ∧ tkNI J ∧ ke ≤ J 740 9
/-- the tape and what is counted of it -/
def hT (I J : fH) : Prop := J 747 = I 747 ∧ J 740 8 = I 740 8
theorem hT_mk {I J : fH} (h7 : ∀ j, J 747 j = I 747 j) (h8 : J 740 8 = I 740 8) : hT I J := ⟨funext h7, h8⟩
theorem hT_tr {I J K : fH} (h : hT I J) (h' : hT J K) : hT I K := ⟨h'.1.trans h.1, h'.2.trans h.2⟩
theorem sd_same {I J : fH} (h1 : ∀ j, J 741 j = I 741 j) (h6 : J 740 16 = I 740 16) (h7 : J 740 17 = I 740 17) : sd J = sd I := by
  show rds (J 741) (J 740 17) (J 740 16).toNat = _
  rw [show J 741 = I 741 from funext h1, h6, h7]
theorem sd_put {I J : fH} {x y : Int} (h : sPut I J (I 740 17) (I 740 16) x y) (h0 : 0 ≤ I 740 16) (ha : 0 ≤ I 740 17) (h6 : J 740 16 = I 740 16 + 1) (h7 : J 740 17 = I 740 17) : sd J = rdc x y :: sd I := by
  show rds (J 741) (J 740 17) (J 740 16).toNat = _
  rw [h6, h7, show (I 740 16 + 1).toNat = (I 740 16).toNat + 1 by omega]
  show rdc (J 741 (I 740 17 + 2 * (((I 740 16).toNat : Nat) : Int)).toNat) (J 741 (I 740 17 + 2 * (((I 740 16).toNat : Nat) : Int) + 1).toNat) :: rds (J 741) (I 740 17) (I 740 16).toNat = _
  rw [Int.toNat_of_nonneg h0, h.2.1, h.2.2, rds_congr ha (R' := I 741) (fun i hi => h.1 i (by omega) (by omega))]
section PJ
variable {k kq ko key z z1 f : Int} {I J N Q S : fH}
theorem pPre_le {k' : Int} {ke : Int} {pd : List Int} (hk : k ≤ k') (h : pPre k I ke pd) : pPre k' I ke pd := ⟨h.1, h.2.1, rdO_le hk h.2.2.1, h.2.2.2⟩
theorem pj_0 (hk : k ≤ kq) (ho : k ≤ ko) (h : pP kq ko key I J z) (hz : z = 1) : pJ k kq key I J := fun ke pd P => ⟨rdJ_0 hk (h ke pd (pPre_le ho P)).1 hz, (h ke pd (pPre_le ho P)).2 hz⟩
theorem pp_0 (ho : k ≤ ko) (h : pP kq ko key I J z) (hz : z = 0) (hz1 : z1 = 0) : pP k k key I J z1 := fun ke pd P => ⟨rdP_bad hz1 ((h ke pd (pPre_le ho P)).1.2 hz), fun q => absurd q (by omega)⟩
theorem pj_end (hk : kq = k + 1) (h0 : 1 ≤ k) (t : hT I J) (h : pJ k kq key I J) (hz : z = 1) (hn : ¬ (J 740 11 = 3 ∧ rdG (J 740 13) = k)) : pP k k key I J z := fun ke pd P => by
  obtain ⟨r, tn, hke⟩ := h ke pd P
  refine ⟨rdJ_end hz hk r (fun q e => ?_), fun _ => ⟨tn, hke⟩⟩
  have tn := tn
  unfold tkNI at tn
  rw [t.1, t.2] at tn
  have e0 : rdG (I 747 (J 740 9).toNat) ≠ 0 := by omega
  obtain ⟨e1, e2⟩ := tn.2.2.2.2 q (rdG_L e0) (rdG_D e0)
  exact hn ⟨e1, by rw [e2]; exact e⟩
/-- one more of that strength -/
theorem pj_next {ke : Int} {pd : List Int} (hk : 1 ≤ k) (hko : k < ko) (t : hT I J) (tn : tkNI J) (hke : ke ≤ J 740 9) (P : pPre k I ke pd) (ht : J 740 11 = 3) (hf : J 740 13 = f) (hg : rdG f = k) (nx : nxH J N) (n14 : N 740 14 = I 740 14) (n15 : N 740 15 = I 740 15) (tN : hT J N) : (J 740 9 < I 740 8 ∧ I 747 (J 740 9).toNat = f ∧ N 740 9 = rdX (I 747) (I 740 8) (J 740 9)) ∧ pPre ko N ke (f :: pd) := by
  obtain ⟨P1, P2, P3, P4⟩ := P
  unfold tkNI at tn
  unfold nxH at nx
  rw [t.1, t.2] at tn nx
  obtain ⟨t1, t2, t3, t4, t5⟩ := tn
  obtain ⟨u1, u2⟩ := t4 ht
  obtain ⟨w1, w2⟩ := tk_due (ke := ke) nx ht hke u1 t2 P4.2.2.2.2.2.2.2
  have e0 : rdG f ≠ 0 := by omega
  refine ⟨⟨u1, u2.symm.trans hf, w2⟩, ?_, ?_, ?_, ?_⟩
  · rw [n14, P1, rdC_op (rdG_ne e0 (by decide))]
  · rw [n15, P2, rdC_op (rdG_ne e0 (by decide))]
  · show rdH f < ko
    rw [rdH_G e0]
    omega
  · unfold tkDI
    rw [tN.1, tN.2, t.1, t.2]
    exact w1
theorem pj_op (hk : 1 ≤ k) (h3 : k ≠ 3) (hq : k ≤ kq) (hko : k < ko) (t : hT I J) (h : pJ k kq key I J) (ht : J 740 11 = 3) (hf : J 740 13 = f) (hg : rdG f = k) (nx : nxH J N) (n14 : N 740 14 = I 740 14) (n15 : N 740 15 = I 740 15) (tN : hT J N) (n1 : ∀ j, N 741 j = J 741 j) (n6 : N 740 16 = J 740 16) (n7 : N 740 17 = J 740 17) (n8 : N 740 18 = J 740 18) (q : pP kq ko key N Q z) (hz : z = 1) (st : sPut Q S (Q 740 17) (Q 740 16) 2 f) (q6 : 0 ≤ Q 740 16) (q7 : 0 ≤ Q 740 17) (s6 : S 740 16 = Q 740 16 + 1) (s7 : S 740 17 = Q 740 17) (s8 : S 740 18 = Q 740 18) (s9 : S 740 9 = Q 740 9) (s10 : S 740 10 = Q 740 10) (s11 : S 740 11 = Q 740 11) (s13 : S 740 13 = Q 740 13) (tS : hT Q S) : pJ k kq key I S := fun ke pd P => by
  obtain ⟨r, tn, hke⟩ := h ke pd P
  obtain ⟨⟨u1, u2, u3⟩, P'⟩ := pj_next hk hko t tn hke P ht hf hg nx n14 n15 tN
  obtain ⟨r2, r3⟩ := q ke (f :: pd) P'
  rw [tN.1, tN.2, t.1, t.2, sd_same n1 n6 n7, n8] at r2
  obtain ⟨v1, v2⟩ := r3 hz
  refine ⟨?_, ?_, by rw [s9]; exact v2⟩
  · rw [s8, s9]
    exact rdJ_op hk h3 hq P.2.2.1 r u1 u2 hg u3 r2 hz ((sd_put st q6 q7 s6 s7).trans (cons_eq (rdc_2 (Or.inr (by omega))) rfl))
  · unfold tkNI at v1 ⊢
    rw [tS.1, tS.2, s9, s10, s11, s13]
    exact v1
theorem pj_op0 (hk : 1 ≤ k) (h3 : k ≠ 3) (hko : k < ko) (t : hT I J) (h : pJ k kq key I J) (ht : J 740 11 = 3) (hf : J 740 13 = f) (hg : rdG f = k) (nx : nxH J N) (n14 : N 740 14 = I 740 14) (n15 : N 740 15 = I 740 15) (tN : hT J N) (n1 : ∀ j, N 741 j = J 741 j) (n6 : N 740 16 = J 740 16) (n7 : N 740 17 = J 740 17) (n8 : N 740 18 = J 740 18) (q : pP kq ko key N Q z) (hz : z = 0) (hz1 : z1 = 0) : pP k k key I Q z1 := fun ke pd P => by
  obtain ⟨r, tn, hke⟩ := h ke pd P
  obtain ⟨⟨u1, u2, u3⟩, P'⟩ := pj_next hk hko t tn hke P ht hf hg nx n14 n15 tN
  obtain ⟨r2, r3⟩ := q ke (f :: pd) P'
  rw [tN.1, tN.2, t.1, t.2, sd_same n1 n6 n7, n8] at r2
  exact ⟨rdJ_op0 hk h3 P.2.2.1 r u1 u2 hg u3 r2 hz hz1, fun q => absurd q (by omega)⟩
/-- one of < = > -/
theorem pt_cmp (t : hT I J) (h : pP 4 4 key I J z1) (hz1 : z1 = 1) (ht : J 740 11 = 3) (hf : J 740 13 = f) (hg : rdG f = 3) (nx : nxH J N) (n14 : N 740 14 = I 740 14) (n15 : N 740 15 = I 740 15) (tN : hT J N) (n1 : ∀ j, N 741 j = J 741 j) (n6 : N 740 16 = J 740 16) (n7 : N 740 17 = J 740 17) (n8 : N 740 18 = J 740 18) (q : pP 4 4 key N Q z) (hz : z = 1) (st : sPut Q S (Q 740 17) (Q 740 16) 2 f) (q6 : 0 ≤ Q 740 16) (q7 : 0 ≤ Q 740 17) (s6 : S 740 16 = Q 740 16 + 1) (s7 : S 740 17 = Q 740 17) (s8 : S 740 18 = Q 740 18) (s9 : S 740 9 = Q 740 9) (s10 : S 740 10 = Q 740 10) (s11 : S 740 11 = Q 740 11) (s13 : S 740 13 = Q 740 13) (tS : hT Q S) {z2 : Int} (hz2 : z2 = 1) : pP 3 3 key I S z2 := fun ke pd P => by
  obtain ⟨r, rt⟩ := h ke pd (pPre_le (by decide) P)
  obtain ⟨tn, hke⟩ := rt hz1
  obtain ⟨⟨u1, u2, u3⟩, P'⟩ := pj_next (k := 3) (ko := 4) (by decide) (by decide) t tn hke P ht hf hg nx n14 n15 tN
  obtain ⟨r2, r3⟩ := q ke (f :: pd) P'
  rw [tN.1, tN.2, t.1, t.2, sd_same n1 n6 n7, n8] at r2
  obtain ⟨v1, v2⟩ := r3 hz
  refine ⟨?_, fun _ => ⟨?_, by rw [s9]; exact v2⟩⟩
  · rw [s8, s9]
    exact rdP_cmp P.2.2.1 r hz1 u1 u2 hg u3 r2 hz ((sd_put st q6 q7 s6 s7).trans (cons_eq (rdc_2 (Or.inr (by omega))) rfl)) hz2
  · unfold tkNI at v1 ⊢
    rw [tS.1, tS.2, s9, s10, s11, s13]
    exact v1
theorem pt_cmp0 (t : hT I J) (h : pP 4 4 key I J z1) (hz1 : z1 = 1) (ht : J 740 11 = 3) (hf : J 740 13 = f) (hg : rdG f = 3) (nx : nxH J N) (n14 : N 740 14 = I 740 14) (n15 : N 740 15 = I 740 15) (tN : hT J N) (n1 : ∀ j, N 741 j = J 741 j) (n6 : N 740 16 = J 740 16) (n7 : N 740 17 = J 740 17) (n8 : N 740 18 = J 740 18) (q : pP 4 4 key N Q z) (hz : z = 0) {z2 : Int} (hz2 : z2 = 0) : pP 3 3 key I Q z2 := fun ke pd P => by
  obtain ⟨r, rt⟩ := h ke pd (pPre_le (by decide) P)
  obtain ⟨tn, hke⟩ := rt hz1
  obtain ⟨⟨u1, u2, u3⟩, P'⟩ := pj_next (k := 3) (ko := 4) (by decide) (by decide) t tn hke P ht hf hg nx n14 n15 tN
  obtain ⟨r2, r3⟩ := q ke (f :: pd) P'
  rw [tN.1, tN.2, t.1, t.2, sd_same n1 n6 n7, n8] at r2
  exact ⟨rdP_cmp0 P.2.2.1 r hz1 u1 u2 hg u3 r2 hz hz2, fun q => absurd q (by omega)⟩
/-! part0 -/
theorem p0_leaf {x y : Int} (c : (I 740 11 = 2 ∧ x = 0 ∧ y = I 740 12) ∨ (I 740 11 = 1 ∧ I 740 13 ≠ 0 ∧ rdN key (I 740 13) ∧ x = 1 ∧ y = I 740 13)) (st : sPut I S (I 740 17) (I 740 16) x y) (i6 : 0 ≤ I 740 16) (i7 : 0 ≤ I 740 17) (s6 : S 740 16 = I 740 16 + 1) (s7 : S 740 17 = I 740 17) {U : fH} (tU : hT I U) (u10 : U 740 10 = I 740 10) (nx : nxH U N) (n1 : ∀ j, N 741 j = S 741 j) (n6 : N 740 16 = S 740 16) (n7 : N 740 17 = S 740 17) (tN : hT U N) (n8 : N 740 18 = I 740 18 + 1) (hz : z = 1) : pP 6 7 key I N z := fun ke pd P => by
  unfold nxH at nx
  rw [tU.1, tU.2, u10] at nx
  have tN := hT_tr tU tN
  have T := P.2.2.2
  have e : I 740 9 < I 740 8 ∧ ¬ (I 740 9 = ke ∧ rdD (I 747 (I 740 9).toNat) = true) ∧ rdE (I 747) (I 740 8) key pd (sd I) (I 740 18) true (I 740 9) = some (pd, rdc x y :: sd I, I 740 18 + 1, false) ∧ I 740 10 = rdW (I 747) (I 740 8) (I 740 9) := by
    rcases c with ⟨c1, c2, c3⟩ | ⟨c1, c2, c3, c4, c5⟩
    · have q := p0_num (key := key) (pd := pd) (c := sd I) (lv := I 740 18) T c1
      rw [show rdc x y = I 740 12 by rw [c2, c3]; exact rdc_0 q.2.2.2.2]
      exact ⟨q.1, q.2.1, q.2.2.1, q.2.2.2.1⟩
    · have q := p0_name (key := key) (pd := pd) (c := sd I) (lv := I 740 18) T c1 c2 c3
      rw [show rdc x y = 10000 + I 740 13 - 97 by rw [c4, c5]; exact rdc_1 q.2.2.2.2]
      exact ⟨q.1, q.2.1, q.2.2.1, q.2.2.2.1⟩
  obtain ⟨e1, e2, e3, e4⟩ := e
  have hx : N 740 9 = rdX (I 747) (I 740 8) (I 740 9) := by rw [nx.1, e4]; rfl
  have hb := rdW_bd (tp := I 747) e1
  have hX := rdX_bd (tp := I 747) e1
  refine ⟨rdP_leaf hz e1 e2 e3 ((sd_same n1 n6 n7).trans (sd_put st i6 i7 s6 s7)) n8 hx, fun _ => ⟨?_, ?_⟩⟩
  · unfold tkNI
    rw [tN.1, tN.2]
    exact tk_non nx (by omega)
  · have := T.1
    omega
theorem p0_pre {ke : Int} {pd : List Int} {U : fH} (P : pPre 7 I ke pd) (ht : I 740 11 = 3) (hf : I 740 13 = f) (u10 : U 740 10 = I 740 10) (u11 : U 740 11 = I 740 11) (tU : hT I U) (nx : nxH U N) (tN : hT U N) : (I 740 9 < I 740 8 ∧ I 747 (I 740 9).toNat = f ∧ N 740 9 = rdX (I 747) (I 740 8) (I 740 9)) ∧ tkDI N ke := by
  have T := P.2.2.2
  obtain ⟨e1, e2, e3⟩ := p0_sgn T ht
  unfold nxH at nx
  rw [tU.1, tU.2, u10, u11] at nx
  obtain ⟨w1, w2⟩ := tk_due (ke := ke) nx ht T.1 e1 e3 T.2.2.2.2.2.2.2
  refine ⟨⟨e1, e2.trans hf, w2⟩, ?_⟩
  unfold tkDI
  rw [tN.1, tN.2, tU.1, tU.2]
  exact w1
theorem p0_not {U V : fH} (ht : I 740 11 = 3) (hf : I 740 13 = 33) (h8 : I 740 15 < 8) (u10 : U 740 10 = I 740 10) (u11 : U 740 11 = I 740 11) (tU : hT I U) (nx : nxH U N) (tN : hT U N) (n14 : N 740 14 = I 740 14) (n15 : N 740 15 = I 740 15 + 1) (n1 : ∀ j, N 741 j = I 741 j) (n6 : N 740 16 = I 740 16) (n7 : N 740 17 = I 740 17) (n8 : N 740 18 = I 740 18) (q : pP 6 7 key N Q z1) (hz1 : z1 = 1) (v1 : ∀ j, V 741 j = Q 741 j) (v6 : V 740 16 = Q 740 16) (v7 : V 740 17 = Q 740 17) (st : sPut V S (V 740 17) (V 740 16) 2 33) (q6 : 0 ≤ Q 740 16) (q7 : 0 ≤ Q 740 17) (s6 : S 740 16 = V 740 16 + 1) (s7 : S 740 17 = V 740 17) (s8 : S 740 18 = Q 740 18) (s9 : S 740 9 = Q 740 9) (s10 : S 740 10 = Q 740 10) (s11 : S 740 11 = Q 740 11) (s13 : S 740 13 = Q 740 13) (tS : hT Q S) (hz : z = 1) : pP 6 7 key I S z := fun ke pd P => by
  obtain ⟨⟨e1, e2, e3⟩, T'⟩ := p0_pre P ht hf u10 u11 tU nx tN
  have h33 := P.2.1
  obtain ⟨r2, r3⟩ := q ke (33 :: pd) ⟨by rw [n14, P.1, rdC_op (by decide)], by rw [n15, P.2.1, rdC_in]; omega, rdO_7 _, T'⟩
  rw [tN.1, tN.2, tU.1, tU.2, sd_same n1 n6 n7, n8, hz1] at r2
  obtain ⟨w1, w2⟩ := r3 hz1
  refine ⟨?_, fun _ => ⟨?_, by rw [s9]; exact w2⟩⟩
  · rw [s9]
    exact rdP_not hz e1 e2 (by omega) e3 r2 ((sd_put st (by omega) (by omega) s6 s7).trans (cons_eq (rdc_2 (Or.inl rfl)) (sd_same v1 v6 v7))) s8
  · unfold tkNI at w1 ⊢
    rw [tS.1, tS.2, s9, s10, s11, s13]
    exact w1
theorem p0_not0 {U : fH} (ht : I 740 11 = 3) (hf : I 740 13 = 33) (h8 : I 740 15 < 8) (u10 : U 740 10 = I 740 10) (u11 : U 740 11 = I 740 11) (tU : hT I U) (nx : nxH U N) (tN : hT U N) (n14 : N 740 14 = I 740 14) (n15 : N 740 15 = I 740 15 + 1) (n1 : ∀ j, N 741 j = I 741 j) (n6 : N 740 16 = I 740 16) (n7 : N 740 17 = I 740 17) (n8 : N 740 18 = I 740 18) (q : pP 6 7 key N Q z1) (hz1 : z1 = 0) (hz : z = 0) : pP 6 7 key I Q z := fun ke pd P => by
  obtain ⟨⟨e1, e2, e3⟩, T'⟩ := p0_pre P ht hf u10 u11 tU nx tN
  have h33 := P.2.1
  obtain ⟨r2, r3⟩ := q ke (33 :: pd) ⟨by rw [n14, P.1, rdC_op (by decide)], by rw [n15, P.2.1, rdC_in]; omega, rdO_7 _, T'⟩
  rw [tN.1, tN.2, tU.1, tU.2, sd_same n1 n6 n7, n8, hz1] at r2
  exact ⟨rdP_not0 hz e1 e2 (by omega) e3 r2, fun q => absurd q (by omega)⟩
theorem p0_bra {U V W : fH} (ht : I 740 11 = 3) (hf : I 740 13 = 40) (h8 : I 740 14 < 8) (u10 : U 740 10 = I 740 10) (u11 : U 740 11 = I 740 11) (tU : hT I U) (nx : nxH U N) (tN : hT U N) (n14 : N 740 14 = I 740 14 + 1) (n15 : N 740 15 = I 740 15) (n1 : ∀ j, N 741 j = I 741 j) (n6 : N 740 16 = I 740 16) (n7 : N 740 17 = I 740 17) (n8 : N 740 18 = I 740 18) (q : pP 1 1 key N Q z1) (hz1 : z1 = 1) (qt : Q 740 11 = 3) (qf : Q 740 13 = 41) (tQ : hT N Q) (v10 : V 740 10 = Q 740 10) (v11 : V 740 11 = Q 740 11) (tV : hT Q V) (nw : nxH V W) (tW : hT V W) (w1 : ∀ j, W 741 j = Q 741 j) (w6 : W 740 16 = Q 740 16) (w7 : W 740 17 = Q 740 17) (w8 : W 740 18 = Q 740 18) (hz : z = 1) : pP 6 7 key I W z := fun ke pd P => by
  obtain ⟨⟨e1, e2, e3⟩, T'⟩ := p0_pre P ht hf u10 u11 tU nx tN
  have h40 := P.1
  obtain ⟨r2, r3⟩ := q ke (40 :: pd) ⟨by rw [n14, P.1, rdC_in]; omega, by rw [n15, P.2.1, rdC_op (by decide)], show rdH 40 < 1 by decide, T'⟩
  rw [tN.1, tN.2, tU.1, tU.2, sd_same n1 n6 n7, n8, hz1] at r2
  obtain ⟨y1, y2⟩ := r3 hz1
  unfold tkNI at y1
  unfold nxH at nw
  rw [tV.1, tV.2, tQ.1, tQ.2, tN.1, tN.2, tU.1, tU.2, v10, v11] at nw
  rw [tQ.1, tQ.2, tN.1, tN.2, tU.1, tU.2] at y1
  obtain ⟨g1, g2, g3, g4, g5⟩ := y1
  obtain ⟨g6, g7⟩ := g4 qt
  have hb := rdW_bd (tp := I 747) g6
  have hX := rdX_bd (tp := I 747) g6
  have hx : W 740 9 = rdX (I 747) (I 740 8) (Q 740 9) := by rw [nw.1, g2]; rfl
  refine ⟨rdP_ket hz e1 e2 (by omega) e3 r2 g6 (g7.symm.trans qf) (sd_same w1 w6 w7) w8 hx, fun _ => ⟨?_, by omega⟩⟩
  unfold tkNI
  rw [tW.1, tW.2, tV.1, tV.2, tQ.1, tQ.2, tN.1, tN.2, tU.1, tU.2]
  exact tk_non nw (by omega)
theorem p0_bra0 {U : fH} (ht : I 740 11 = 3) (hf : I 740 13 = 40) (h8 : I 740 14 < 8) (u10 : U 740 10 = I 740 10) (u11 : U 740 11 = I 740 11) (tU : hT I U) (nx : nxH U N) (tN : hT U N) (n14 : N 740 14 = I 740 14 + 1) (n15 : N 740 15 = I 740 15) (n1 : ∀ j, N 741 j = I 741 j) (n6 : N 740 16 = I 740 16) (n7 : N 740 17 = I 740 17) (n8 : N 740 18 = I 740 18) (q : pP 1 1 key N Q z1) (c : z1 = 0 ∨ (z1 = 1 ∧ ¬ (Q 740 11 = 3 ∧ Q 740 13 = 41))) (tQ : hT N Q) (hz : z = 0) : pP 6 7 key I Q z := fun ke pd P => by
  obtain ⟨⟨e1, e2, e3⟩, T'⟩ := p0_pre P ht hf u10 u11 tU nx tN
  have h40 := P.1
  obtain ⟨r2, r3⟩ := q ke (40 :: pd) ⟨by rw [n14, P.1, rdC_in]; omega, by rw [n15, P.2.1, rdC_op (by decide)], show rdH 40 < 1 by decide, T'⟩
  rw [tN.1, tN.2, tU.1, tU.2, sd_same n1 n6 n7, n8] at r2
  refine ⟨?_, fun q => absurd q (by omega)⟩
  rcases c with c | ⟨c, c'⟩
  · rw [c] at r2
    exact rdP_bra0 hz e1 e2 (by omega) e3 r2
  · obtain ⟨y1, y2⟩ := r3 c
    unfold tkNI at y1
    rw [tQ.1, tQ.2, tN.1, tN.2, tU.1, tU.2] at y1
    rw [c] at r2
    refine rdP_bra1 hz e1 e2 (by omega) e3 r2 (fun q e => ?_)
    obtain ⟨g1, g2⟩ := y1.2.2.2.2 q (by rw [e]; decide) (by rw [e]; decide)
    exact c' ⟨g1, g2.trans e⟩
theorem p0_no (h2 : I 740 11 ≠ 2) (h1 : ¬ (I 740 11 = 1 ∧ I 740 13 ≠ 0 ∧ rdN key (I 740 13))) (h3 : ¬ (I 740 11 = 3 ∧ I 740 13 = 33 ∧ I 740 15 < 8)) (h4 : ¬ (I 740 11 = 3 ∧ I 740 13 = 40 ∧ I 740 14 < 8)) (hz : z = 0) : pP 6 7 key I I z := fun ke pd P => by
  have q1 := P.1
  have q2 := P.2.1
  exact ⟨rdP_bad hz (p0_bad P.2.2.2 h2 h1 (fun q => h3 ⟨q.1, q.2.1, by omega⟩) (fun q => h4 ⟨q.1, q.2.1, by omega⟩)), fun q => absurd q (by omega)⟩
end PJ
/-! the names of a key -/
def nmP (z k c : Int) : Prop := (z = 1 ∧ rdN k c) ∨ (z = 0 ∧ ¬ rdN k c)
theorem nm_1 {z k c : Int} (h : nmP z k c) (hz : ¬ z = 0) : rdN k c := by
  unfold nmP at h
  exact h.elim (fun w => w.2) (fun w => absurd w.1 hz)
theorem nm_0 {z k c : Int} (h : nmP z k c) (hz : z = 0) : ¬ rdN k c := by
  unfold nmP at h
  exact h.elim (fun w => absurd w.1 (by rw [hz]; decide)) (fun w => w.2)
/-! the key -/
def isW (tok p q : Int) (tp : Nat → Int) (a b c d e : Int) : Prop := tok = 1 ∧ ((e = 0 ∧ q - p = 4) ∨ (e ≠ 0 ∧ q - p = 5 ∧ tp (p + 4).toNat = e)) ∧ tp p.toNat = a ∧ tp (p + 1).toNat = b ∧ tp (p + 2).toNat = c ∧ tp (p + 3).toNat = d
def kyP (tok p q : Int) (tp : Nat → Int) (z : Int) : Prop := (z = -1 ∧ ∀ k, k < 6 → ¬ (tok = 1 ∧ rdw tp k p q)) ∨ (0 ≤ z ∧ z < 6 ∧ (tok = 1 ∧ rdw tp z.toNat p q) ∧ ∀ k, k < z.toNat → ¬ (tok = 1 ∧ rdw tp k p q))
section KY
variable {tok p q : Int} {tp : Nat → Int} {a b c d e z : Int} {i : Nat}
theorem kw_4 (hz : rdz i = [a, b, c, d]) (hp : 0 ≤ p) (h : (z = 1 ∧ isW tok p q tp a b c d 0) ∨ (z = 0 ∧ ¬ isW tok p q tp a b c d 0)) : (z = 1 ∧ (tok = 1 ∧ rdw tp i p q)) ∨ (z = 0 ∧ ¬ (tok = 1 ∧ rdw tp i p q)) := by
  have e : isW tok p q tp a b c d 0 ↔ (tok = 1 ∧ rdw tp i p q) := by
    rw [rdw_4 hz hp]
    unfold isW
    omega
  rw [e] at h
  exact h
theorem kw_5 (hz : rdz i = [a, b, c, d, e]) (hp : 0 ≤ p) (he : e ≠ 0) (h : (z = 1 ∧ isW tok p q tp a b c d e) ∨ (z = 0 ∧ ¬ isW tok p q tp a b c d e)) : (z = 1 ∧ (tok = 1 ∧ rdw tp i p q)) ∨ (z = 0 ∧ ¬ (tok = 1 ∧ rdw tp i p q)) := by
  have e : isW tok p q tp a b c d e ↔ (tok = 1 ∧ rdw tp i p q) := by
    rw [rdw_5 hz hp]
    unfold isW
    omega
  rw [e] at h
  exact h
theorem kw_y {R : Prop} (h : (z = 1 ∧ R) ∨ (z = 0 ∧ ¬ R)) (hz : z ≠ 0) : R := h.elim (fun w => w.2) (fun w => absurd w.1 hz)
theorem kw_n {R : Prop} (h : (z = 1 ∧ R) ∨ (z = 0 ∧ ¬ R)) (hz : z = 0) : ¬ R := h.elim (fun w => absurd w.1 (by omega)) (fun w => w.2)
theorem ky_is (i : Nat) (hi : i < 6) (hz : z = (i : Int)) (h : tok = 1 ∧ rdw tp i p q) (hn : ∀ k, k < i → ¬ (tok = 1 ∧ rdw tp k p q)) : kyP tok p q tp z := by
  subst hz
  exact Or.inr ⟨by omega, by omega, h, hn⟩
theorem ltz_0 {R : Nat → Prop} : ∀ k, k < 0 → R k := fun k h => absurd h (Nat.not_lt_zero _)
theorem ltz_s {R : Nat → Prop} {n : Nat} (h : ∀ k, k < n → R k) (hn : R n) : ∀ k, k < n + 1 → R k := fun k hk => if e : k = n then (by rw [e]; exact hn) else h k (by omega)
end KY
/-! the whole -/
theorem rdw_L {tp : Nat → Int} {p q : Int} {i : Nat} (hp : 0 ≤ p) (h : rdw tp i p q) : 4 ≤ q - p ∧ rdL (tp p.toNat) = true := by
  have hz : ∀ i : Nat, 4 ≤ (rdz i).length ∧ 97 ≤ (rdz i).getD 0 0 ∧ (rdz i).getD 0 0 ≤ 122 := fun i => by
    unfold rdz
    split <;> decide
  obtain ⟨z1, z2⟩ := hz i
  obtain ⟨h1, h2⟩ := h
  have h3 := h2 0 (by omega)
  rw [Nat.add_zero] at h3
  exact ⟨by omega, rdL_iff.mpr (by omega)⟩
theorem ky_rdk {tp : Nat → Int} {n b p' b' t' nu le z : Int} (h0 : 0 ≤ p') (hp : p' ≤ n) (h : nxP tp n b 3 p' b' t' nu le) (k : kyP t' p' b' tp z) : rdk tp p' b' (if z = -1 then -1000000005 else z) ∧ (0 ≤ z → t' = 1 ∧ rdL (tp p'.toNat) = true ∧ p' < n) := by
  obtain ⟨h1, h2, ⟨tg, h3, h4⟩, h5, h6, h7⟩ := h
  have ht : tg ≠ 1 := fun e => by have q := h3.mp e; omega
  have hw : ∀ i, rdw tp i p' b' → t' = 1 ∧ rdL (tp p'.toNat) = true ∧ p' < n := fun i r => by
    obtain ⟨a1, a2⟩ := rdw_L h0 r
    have hn : p' < n := by
      by_cases q : p' < n
      · exact q
      · rw [rdW_n q] at h2
        omega
    exact ⟨by rw [h4, rdTk_L (by omega) a2, if_neg ht], a2, hn⟩
  rcases k with ⟨k1, k2⟩ | ⟨k1, k2, k3, k4⟩
  · rw [if_pos k1]
    exact ⟨Or.inl ⟨rfl, fun i hi r => k2 i hi ⟨(hw i r).1, r⟩⟩, fun q => by omega⟩
  · rw [if_neg (by omega)]
    exact ⟨Or.inr ⟨k1, k2, k3.2, fun i hi r => k4 i hi ⟨(hw i r).1, r⟩⟩, fun _ => hw _ k3.2⟩
section PR
variable {I K A B E : fH} {kz ez : Int}
/-- behind the key -/
theorem pr_key (tK : hT I K) (k10 : K 740 10 = 0) (k11 : K 740 11 = 3) (n0 : 0 ≤ I 740 8) (nA : nxH K A) (tA : hT K A) (ky : kyP (A 740 11) (A 740 9) (A 740 10) (A 747) kz) : A 740 9 = rdS rdB (I 747) (I 740 8) 0 ∧ A 740 10 = rdW (I 747) (I 740 8) (A 740 9) ∧ A 740 9 ≤ I 740 8 ∧ rdk (I 747) (A 740 9) (A 740 10) (if kz = -1 then -1000000005 else kz) ∧ (0 ≤ kz → A 740 11 = 1 ∧ rdL (I 747 (A 740 9).toNat) = true ∧ A 740 9 < I 740 8) := by
  unfold nxH at nA
  rw [tK.1, tK.2, k10, k11] at nA
  rw [tA.1, tK.1] at ky
  have h1 : A 740 9 = rdS rdB (I 747) (I 740 8) 0 := nA.1
  have h2 := rdS_ge (c := rdB) (tp := I 747) (n := I 740 8) (p := 0)
  have h3 := rdS_le (c := rdB) (tp := I 747) (n := I 740 8) (p := 0) n0
  rw [← h1] at h2 h3
  obtain ⟨r1, r2⟩ := ky_rdk h2 h3 nA ky
  exact ⟨h1, nA.2.1, h3, r1, r2⟩
theorem pr_no {f : Int} (tK : hT I K) (k10 : K 740 10 = 0) (k11 : K 740 11 = 3) (n0 : 0 ≤ I 740 8) (nA : nxH K A) (tA : hT K A) (ky : kyP (A 740 11) (A 740 9) (A 740 10) (A 747) kz) (hz : kz = -1) (hf : f = A 740 9) : ∃ kk, cpX (I 747) (I 740 8) f [] 0 kk := by
  obtain ⟨h1, h2, -, h3, -⟩ := pr_key tK k10 k11 n0 nA tA ky
  rw [if_pos hz, h2, h1] at h3
  exact ⟨0, cpX_no h3 rfl (hf.trans h1)⟩
theorem pr_main (tK : hT I K) (k10 : K 740 10 = 0) (k11 : K 740 11 = 3) (n0 : 0 ≤ I 740 8) (nA : nxH K A) (tA : hT K A) (ky : kyP (A 740 11) (A 740 9) (A 740 10) (A 747) kz) (hz : 0 ≤ kz) (nB : nxH A B) (tB : hT A B) (b14 : B 740 14 = 0) (b15 : B 740 15 = 0) (b16 : B 740 16 = 0) (b18 : B 740 18 = 0) (q : pP 1 1 kz B E ez) (tE : hT B E) : rdk (I 747) (rdS rdB (I 747) (I 740 8) 0) (rdW (I 747) (I 740 8) (rdS rdB (I 747) (I 740 8) 0)) kz ∧ rdP 1 (I 747) (I 740 8) kz (rdW (I 747) (I 740 8) (rdS rdB (I 747) (I 740 8) 0)) [] [] 0 (rdS rdB (I 747) (I 740 8) (rdW (I 747) (I 740 8) (rdS rdB (I 747) (I 740 8) 0))) (sd E) (E 740 18) (E 740 9) ez ∧ (ez = 1 → (E 740 11 = 0 ↔ E 740 9 = I 740 8)) := by
  obtain ⟨h1, h2, h3, h4, h5⟩ := pr_key tK k10 k11 n0 nA tA ky
  obtain ⟨h6, h7, h8⟩ := h5 hz
  rw [if_neg (by omega)] at h4
  have hb := rdW_bd (tp := I 747) h8
  unfold nxH at nB
  rw [tA.1, tA.2, tK.1, tK.2] at nB
  have h9 := rdS_ge (c := rdB) (tp := I 747) (n := I 740 8) (p := 0)
  rw [← h1] at h9
  have hk : ¬ (A 740 10 < I 740 8 ∧ rdL (I 747 (A 740 10).toNat) = true) := by
    rw [h2, rdW_L h8 h7]
    exact rdS_end
  obtain ⟨w1, w2⟩ := tk_key (ke := A 740 10) nB h6 (by omega) (by omega) hk
  have P : pPre 1 B (A 740 10) [] := ⟨b14, b15, True.intro, by unfold tkDI; rw [tB.1, tB.2, tA.1, tA.2, tK.1, tK.2]; exact w1⟩
  obtain ⟨r1, r2⟩ := q _ _ P
  have e0 : sd B = [] := by
    show rds (B 741) (B 740 17) (B 740 16).toNat = []
    rw [b16]
    rfl
  rw [e0, b18, w2, tB.1, tB.2, tA.1, tA.2, tK.1, tK.2] at r1
  rw [← h1, ← h2]
  refine ⟨h4, r1, fun e => ?_⟩
  have tn := (r2 e).1
  unfold tkNI at tn
  rw [tE.2, tB.2, tA.2, tK.2] at tn
  exact tn.2.2.1
theorem pr_bad {f : Int} (tK : hT I K) (k10 : K 740 10 = 0) (k11 : K 740 11 = 3) (n0 : 0 ≤ I 740 8) (nA : nxH K A) (tA : hT K A) (ky : kyP (A 740 11) (A 740 9) (A 740 10) (A 747) kz) (hz : 0 ≤ kz) (nB : nxH A B) (tB : hT A B) (b14 : B 740 14 = 0) (b15 : B 740 15 = 0) (b16 : B 740 16 = 0) (b18 : B 740 18 = 0) (q : pP 1 1 kz B E ez) (tE : hT B E) (c : ez = 0 ∨ (ez = 1 ∧ E 740 11 ≠ 0)) (f0 : 0 ≤ f) (hf : f = E 740 9) : ∃ kk, cpX (I 747) (I 740 8) f [] 0 kk := by
  obtain ⟨h1, h2, h3⟩ := pr_main tK k10 k11 n0 nA tA ky hz nB tB b14 b15 b16 b18 q tE
  refine ⟨kz, kz, h1, Or.inr ⟨by omega, rfl, Or.inl ⟨f0, ?_⟩⟩⟩
  rcases c with c | ⟨c, c'⟩
  · exact hf.trans (h2.2 c).symm
  · exact hf.trans (rd_bad h2 c (fun e => c' ((h3 c).mpr e))).symm
theorem pr_ok (tK : hT I K) (k10 : K 740 10 = 0) (k11 : K 740 11 = 3) (n0 : 0 ≤ I 740 8) (nA : nxH K A) (tA : hT K A) (ky : kyP (A 740 11) (A 740 9) (A 740 10) (A 747) kz) (hz : 0 ≤ kz) (nB : nxH A B) (tB : hT A B) (b14 : B 740 14 = 0) (b15 : B 740 15 = 0) (b16 : B 740 16 = 0) (b18 : B 740 18 = 0) (q : pP 1 1 kz B E ez) (tE : hT B E) (c : ez = 1) (c' : E 740 11 = 0) {cd : List Int} {lv : Int} (e1 : cd = sd E) (e2 : lv = E 740 18) : cpX (I 747) (I 740 8) (-1000000005) cd lv kz := by
  subst e1
  subst e2
  obtain ⟨h1, h2, h3⟩ := pr_main tK k10 k11 n0 nA tA ky hz nB tB b14 b15 b16 b18 q tE
  have e := (h3 c).mp c'
  rw [e] at h2
  exact ⟨kz, h1, Or.inr ⟨by omega, rfl, Or.inr ⟨rfl, rd_end h2 c⟩⟩⟩
end PR
theorem txZ_bad {tp : Nat → Int} {n t z t' f : Int} (h : ∃ kk, cpX tp n f [] 0 kk) (h0 : f ≠ -1000000005) (hz : z = -100 - f) (ht : t' = t) : txZ tp n t z t' := by
  obtain ⟨kk, h⟩ := h
  exact txZ_mk h (Or.inl ⟨h0, hz, ht⟩)

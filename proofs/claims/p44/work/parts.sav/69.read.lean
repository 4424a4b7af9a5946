set_option linter.all false
/-! the reader of texts as a machine over the tape -/
def rdF (c : Int → Bool) (tp : Nat → Int) (n : Int) : Nat → Int → Int
  | 0, p => p
  | k + 1, p => if p < n ∧ c (tp p.toNat) = true then rdF c tp n k (p + 1) else p
/-- behind all bytes of a kind -/
def rdS (c : Int → Bool) (tp : Nat → Int) (n p : Int) : Int := rdF c tp n (n - p).toNat p
def rdB (x : Int) : Bool := decide (x = 32)
def rdL (x : Int) : Bool := decide (97 ≤ x ∧ x ≤ 122)
def rdD (x : Int) : Bool := decide (48 ≤ x ∧ x ≤ 57)
theorem rdB_iff {x : Int} : rdB x = true ↔ x = 32 := by unfold rdB; exact decide_eq_true_iff
theorem rdL_iff {x : Int} : rdL x = true ↔ 97 ≤ x ∧ x ≤ 122 := by unfold rdL; exact decide_eq_true_iff
theorem rdD_iff {x : Int} : rdD x = true ↔ 48 ≤ x ∧ x ≤ 57 := by unfold rdD; exact decide_eq_true_iff
theorem rdL_no {x : Int} (h : ¬ (97 ≤ x ∧ x ≤ 122)) : ¬ rdL x = true := fun q => h (rdL_iff.mp q)
theorem rdD_no {x : Int} (h : ¬ (48 ≤ x ∧ x ≤ 57)) : ¬ rdD x = true := fun q => h (rdD_iff.mp q)
section RD1
variable {c : Int → Bool} {tp : Nat → Int} {n p : Int}
theorem rdS_go (h : p < n) (hc : c (tp p.toNat) = true) : rdS c tp n p = rdS c tp n (p + 1) := by
  unfold rdS
  rw [show (n - p).toNat = (n - (p + 1)).toNat + 1 by omega]
  exact if_pos ⟨h, hc⟩
theorem rdS_no (h : ¬ (p < n ∧ c (tp p.toNat) = true)) : rdS c tp n p = p := by
  unfold rdS
  cases (n - p).toNat with
  | zero => rfl
  | succ k => exact if_neg h
theorem rdF_bd : ∀ (k : Nat) (p : Int), p ≤ rdF c tp n k p ∧ (p ≤ n → rdF c tp n k p ≤ n)
  | 0, p => ⟨Int.le_refl p, fun h => h⟩
  | k + 1, p => by
    by_cases hc : p < n ∧ c (tp p.toNat) = true
    · rw [show rdF c tp n (k + 1) p = rdF c tp n k (p + 1) from if_pos hc]
      have h1 := (rdF_bd k (p + 1)).1
      have h2 := (rdF_bd k (p + 1)).2 (by omega)
      exact ⟨by omega, fun _ => h2⟩
    · rw [show rdF c tp n (k + 1) p = p from if_neg hc]
      exact ⟨Int.le_refl p, fun h => h⟩
theorem rdS_ge : p ≤ rdS c tp n p := (rdF_bd _ _).1
theorem rdS_le (h : p ≤ n) : rdS c tp n p ≤ n := (rdF_bd _ _).2 h
theorem rdF_end : ∀ (k : Nat) (p : Int), (n - p).toNat ≤ k → ¬ (rdF c tp n k p < n ∧ c (tp (rdF c tp n k p).toNat) = true)
  | 0, p, h => fun q => by
    have q1 : p < n := q.1
    omega
  | k + 1, p, h => by
    by_cases hc : p < n ∧ c (tp p.toNat) = true
    · rw [show rdF c tp n (k + 1) p = rdF c tp n k (p + 1) from if_pos hc]
      exact rdF_end k (p + 1) (by omega)
    · rw [show rdF c tp n (k + 1) p = p from if_neg hc]
      exact hc
theorem rdS_end : ¬ (rdS c tp n p < n ∧ c (tp (rdS c tp n p).toNat) = true) := rdF_end _ _ (Nat.le_refl _)
end RD1
/-- behind the word, or the one sign, that begins there -/
def rdW (tp : Nat → Int) (n p : Int) : Int := if p < n then (if rdL (tp p.toNat) = true then rdS rdL tp n p else if rdD (tp p.toNat) = true then rdS rdD tp n p else p + 1) else p
/-- where the next word or sign begins -/
def rdX (tp : Nat → Int) (n p : Int) : Int := rdS rdB tp n (rdW tp n p)
section RD2
variable {tp : Nat → Int} {n p : Int}
theorem rdW_L (h : p < n) (hl : rdL (tp p.toNat) = true) : rdW tp n p = rdS rdL tp n p := (if_pos h).trans (if_pos hl)
theorem rdW_D (h : p < n) (hl : ¬ rdL (tp p.toNat) = true) (hd : rdD (tp p.toNat) = true) : rdW tp n p = rdS rdD tp n p := (if_pos h).trans ((if_neg hl).trans (if_pos hd))
theorem rdW_s (h : p < n) (hl : ¬ rdL (tp p.toNat) = true) (hd : ¬ rdD (tp p.toNat) = true) : rdW tp n p = p + 1 := (if_pos h).trans ((if_neg hl).trans (if_neg hd))
theorem rdW_n (h : ¬ p < n) : rdW tp n p = p := if_neg h
theorem rdW_bd (h : p < n) : p < rdW tp n p ∧ rdW tp n p ≤ n := by
  by_cases hl : rdL (tp p.toNat) = true
  · rw [rdW_L h hl, rdS_go h hl]
    have h1 := rdS_ge (c := rdL) (tp := tp) (n := n) (p := p + 1)
    have h2 := rdS_le (c := rdL) (tp := tp) (n := n) (p := p + 1) (by omega)
    exact ⟨by omega, h2⟩
  · by_cases hd : rdD (tp p.toNat) = true
    · rw [rdW_D h hl hd, rdS_go h hd]
      have h1 := rdS_ge (c := rdD) (tp := tp) (n := n) (p := p + 1)
      have h2 := rdS_le (c := rdD) (tp := tp) (n := n) (p := p + 1) (by omega)
      exact ⟨by omega, h2⟩
    · rw [rdW_s h hl hd]
      exact ⟨by omega, by omega⟩
theorem rdX_bd (h : p < n) : p < rdX tp n p ∧ rdX tp n p ≤ n := by
  have h1 := rdW_bd (tp := tp) h
  have h2 := rdS_ge (c := rdB) (tp := tp) (n := n) (p := rdW tp n p)
  have h3 := rdS_le (c := rdB) (tp := tp) (n := n) (p := rdW tp n p) h1.2
  unfold rdX
  exact ⟨by omega, h3⟩
end RD2
/-- the number of so many digits -/
def rdV (tp : Nat → Int) (p : Int) : Nat → Int
  | 0 => 0
  | k + 1 => 10 * rdV tp p k + tp (p + (k : Int)).toNat - 48
/-- how tightly a sign binds -/
def rdG (s : Int) : Int := if s = 124 then 1 else if s = 38 then 2 else if s = 60 ∨ s = 61 ∨ s = 62 then 3 else if s = 43 ∨ s = 45 then 4 else if s = 42 ∨ s = 47 then 5 else 0
def rdH (s : Int) : Int := if s = 33 then 6 else rdG s
theorem rdG_bd (s : Int) : 0 ≤ rdG s ∧ rdG s ≤ 5 := by
  unfold rdG
  (repeat' split) <;> omega
theorem rdG_D {s : Int} (h : rdG s ≠ 0) : ¬ rdD s = true := fun q => by
  have q := rdD_iff.mp q
  apply h
  unfold rdG
  (repeat' split) <;> omega
theorem rdG_41 : rdG 41 = 0 := by decide
theorem rdH_G {s : Int} (h : rdG s ≠ 0) : rdH s = rdG s := by
  unfold rdH
  refine if_neg (fun e => h ?_)
  rw [e]
  decide
/-- what waits and binds at least so tightly has its right side now -/
def rdT (k : Int) : List Int → List Int → List Int × List Int
  | [], c => ([], c)
  | s :: p, c => if k ≤ rdH s then rdT k p ((20000 + s) :: c) else (s :: p, c)
def rdO (k : Int) : List Int → Prop
  | [] => True
  | s :: _ => rdH s < k
def rdC (x : Int) : List Int → Int
  | [] => 0
  | s :: p => (if s = x then 1 else 0) + rdC x p
section RD3
variable {j k s : Int} {p c : List Int}
theorem rdT_pop (h : k ≤ rdH s) : rdT k (s :: p) c = rdT k p ((20000 + s) :: c) := if_pos h
theorem rdT_stay (h : ¬ k ≤ rdH s) : rdT k (s :: p) c = (s :: p, c) := if_neg h
theorem rdT_O : ∀ {p c : List Int}, rdO k p → rdT k p c = (p, c)
  | [], _, _ => rfl
  | s :: p, c, h => if_neg (fun q => by have h : rdH s < k := h; omega)
theorem rdO_le (hk : j ≤ k) : ∀ {p : List Int}, rdO j p → rdO k p
  | [], _ => True.intro
  | s :: _, h => by
    have h : rdH s < j := h
    show rdH s < k
    omega
theorem rdT_T (hk : j ≤ k) : ∀ (p c : List Int), rdT j (rdT k p c).1 (rdT k p c).2 = rdT j p c
  | [], c => rfl
  | s :: p, c => by
    by_cases h : k ≤ rdH s
    · exact (congrArg (fun q : List Int × List Int => rdT j q.1 q.2) (rdT_pop h)).trans ((rdT_T hk p _).trans (rdT_pop (Int.le_trans hk h)).symm)
    · exact congrArg (fun q : List Int × List Int => rdT j q.1 q.2) (rdT_stay h)
theorem rdT_c : ∀ (p c c' : List Int), (rdT k p c).1 = (rdT k p c').1
  | [], _, _ => rfl
  | s :: p, c, c' => by
    by_cases h : k ≤ rdH s
    · exact (congrArg Prod.fst (rdT_pop h)).trans ((rdT_c p _ _).trans (congrArg Prod.fst (rdT_pop h)).symm)
    · exact (congrArg Prod.fst (rdT_stay (c := c) h)).trans (congrArg Prod.fst (rdT_stay (c := c') h)).symm
theorem rdC_0 (x : Int) : ∀ p : List Int, 0 ≤ rdC x p
  | [] => Int.le_refl 0
  | s :: p => by
    have h := rdC_0 x p
    show 0 ≤ (if s = x then 1 else 0) + rdC x p
    split <;> omega
theorem rdT_40 (hk : 1 ≤ k) : ∀ (p c : List Int), rdC 40 (rdT k p c).1 = rdC 40 p
  | [], _ => rfl
  | s :: p, c => by
    by_cases h : k ≤ rdH s
    · refine (congrArg (fun q : List Int × List Int => rdC 40 q.1) (rdT_pop h)).trans ((rdT_40 hk p _).trans ?_)
      show rdC 40 p = (if s = 40 then 1 else 0) + rdC 40 p
      have h40 : s ≠ 40 := fun e => by
        rw [e] at h
        have z : rdH 40 = 0 := by decide
        omega
      rw [if_neg h40]
      omega
    · exact congrArg (fun q : List Int × List Int => rdC 40 q.1) (rdT_stay h)
end RD3
/-- the names of a key -/
abbrev rdN (key c : Int) : Prop := c = 104 ∨ ((c = 97 ∨ c = 99 ∨ c = 115) ∧ (key = 0 ∨ key = 1 ∨ key = 4)) ∨ (c = 110 ∧ (key = 1 ∨ key = 5)) ∨ ((c = 107 ∨ c = 109 ∨ c = 103 ∨ c = 108 ∨ c = 102) ∧ key = 2) ∨ (c = 112 ∧ (key = 2 ∨ key = 3)) ∨ ((c = 111 ∨ c = 117) ∧ key = 3) ∨ ((c = 121 ∨ c = 101) ∧ key = 5)
abbrev rdR : Type := Option (List Int × List Int × Int × Bool)
/-- a word or sign where a part is due: none, if no text goes on with it; else what waits, the codes, how many leaves, whether a part is due -/
def rdEp (tp : Nat → Int) (n key : Int) (pd c : List Int) (lv p : Int) : rdR :=
  if rdL (tp p.toNat) = true then (if rdW tp n p - p = 1 ∧ rdN key (tp p.toNat) then some (pd, (10000 + tp p.toNat - 97) :: c, lv + 1, false) else none)
  else if rdD (tp p.toNat) = true then (if rdW tp n p - p ≤ 4 then some (pd, rdV tp p (rdW tp n p - p).toNat :: c, lv + 1, false) else none)
  else if tp p.toNat = 40 ∧ rdC 40 pd < 8 then some (40 :: pd, c, lv, true)
  else if tp p.toNat = 33 ∧ rdC 33 pd < 8 then some (33 :: pd, c, lv, true)
  else none
def rdY : List Int → Bool
  | [] => false
  | s :: _ => decide (rdG s = 3)
def rdK (g : Int) : Int := if g = 3 then 4 else g
/-- and behind a part -/
def rdEg (f : Int) (pd c : List Int) (lv : Int) : rdR :=
  if f = 41 then (if 0 < rdC 40 pd then some ((rdT 1 pd c).1.tail, (rdT 1 pd c).2, lv, false) else none)
  else if rdG f = 0 then none
  else if rdG f = 3 ∧ rdY (rdT 4 pd c).1 = true then none
  else some (f :: (rdT (rdK (rdG f)) pd c).1, (rdT (rdK (rdG f)) pd c).2, lv, true)
def rdE (tp : Nat → Int) (n key : Int) (pd c : List Int) (lv : Int) (due : Bool) (p : Int) : rdR := if due = true then rdEp tp n key pd c lv p else rdEg (tp p.toNat) pd c lv
/-- from there to the end: the place of the fault, or -1; the codes; how many leaves -/
def rdM (tp : Nat → Int) (n key ke : Int) (pd c : List Int) (lv : Int) (due : Bool) (p : Int) : Int × List Int × Int :=
  if h : p < n then
    if p = ke ∧ rdD (tp p.toNat) = true then (p, c, lv)
    else Option.elim (rdE tp n key pd c lv due p) (p, c, lv) (fun q => rdM tp n key ke q.1 q.2.1 q.2.2.1 q.2.2.2 (rdX tp n p))
  else if due = true ∨ 0 < rdC 40 pd then (n, c, lv) else (-1, (rdT 0 pd c).2, lv)
termination_by (n - p).toNat
decreasing_by
  have q := rdX_bd (tp := tp) h
  omega
section RD4
variable {tp : Nat → Int} {n key ke : Int} {pd c : List Int} {lv : Int} {due : Bool} {p : Int}
theorem rdM_in (h : p < n) : rdM tp n key ke pd c lv due p = if p = ke ∧ rdD (tp p.toNat) = true then (p, c, lv) else Option.elim (rdE tp n key pd c lv due p) (p, c, lv) (fun q => rdM tp n key ke q.1 q.2.1 q.2.2.1 q.2.2.2 (rdX tp n p)) := by
  rw [rdM]
  exact dif_pos h
theorem rdM_out (h : ¬ p < n) : rdM tp n key ke pd c lv due p = if due = true ∨ 0 < rdC 40 pd then (n, c, lv) else (-1, (rdT 0 pd c).2, lv) := by
  rw [rdM]
  exact dif_neg h
theorem rdM_bad (h : p < n) (e : rdE tp n key pd c lv due p = none) : (rdM tp n key ke pd c lv due p).1 = p := by
  rw [rdM_in h]
  by_cases g : p = ke ∧ rdD (tp p.toNat) = true
  · exact congrArg Prod.fst (if_pos g)
  · exact congrArg Prod.fst ((if_neg g).trans (congrArg (fun o : rdR => Option.elim o (p, c, lv) (fun q => rdM tp n key ke q.1 q.2.1 q.2.2.1 q.2.2.2 (rdX tp n p))) e))
theorem rdM_glue (h : p < n) (g : p = ke ∧ rdD (tp p.toNat) = true) : (rdM tp n key ke pd c lv due p).1 = p := by
  rw [rdM_in h]
  exact congrArg Prod.fst (if_pos g)
theorem rdM_go (h : p < n) (g : ¬ (p = ke ∧ rdD (tp p.toNat) = true)) {q : List Int × List Int × Int × Bool} (e : rdE tp n key pd c lv due p = some q) : rdM tp n key ke pd c lv due p = rdM tp n key ke q.1 q.2.1 q.2.2.1 q.2.2.2 (rdX tp n p) := (rdM_in h).trans ((if_neg g).trans (congrArg (fun o : rdR => Option.elim o (p, c, lv) (fun q => rdM tp n key ke q.1 q.2.1 q.2.2.1 q.2.2.2 (rdX tp n p))) e))
theorem rdM_end (h : ¬ p < n) (hd : due = true ∨ 0 < rdC 40 pd) : rdM tp n key ke pd c lv due p = (n, c, lv) := (rdM_out h).trans (if_pos hd)
theorem rdM_ok (h : ¬ p < n) (hd : ¬ (due = true ∨ 0 < rdC 40 pd)) : rdM tp n key ke pd c lv due p = (-1, (rdT 0 pd c).2, lv) := (rdM_out h).trans (if_neg hd)
/-! each word and sign -/
theorem nft : ¬ (false = true) := fun h => by cases h
theorem rdE_num (hl : ¬ rdL (tp p.toNat) = true) (hd : rdD (tp p.toNat) = true) (h4 : rdW tp n p - p ≤ 4) : rdE tp n key pd c lv true p = some (pd, rdV tp p (rdW tp n p - p).toNat :: c, lv + 1, false) := (if_pos rfl).trans ((if_neg hl).trans ((if_pos hd).trans (if_pos h4)))
theorem rdE_num0 (hl : ¬ rdL (tp p.toNat) = true) (hd : rdD (tp p.toNat) = true) (h4 : ¬ rdW tp n p - p ≤ 4) : rdE tp n key pd c lv true p = none := (if_pos rfl).trans ((if_neg hl).trans ((if_pos hd).trans (if_neg h4)))
theorem rdE_name (hl : rdL (tp p.toNat) = true) (h1 : rdW tp n p - p = 1 ∧ rdN key (tp p.toNat)) : rdE tp n key pd c lv true p = some (pd, (10000 + tp p.toNat - 97) :: c, lv + 1, false) := (if_pos rfl).trans ((if_pos hl).trans (if_pos h1))
theorem rdE_name0 (hl : rdL (tp p.toNat) = true) (h1 : ¬ (rdW tp n p - p = 1 ∧ rdN key (tp p.toNat))) : rdE tp n key pd c lv true p = none := (if_pos rfl).trans ((if_pos hl).trans (if_neg h1))
theorem rdE_bra (h : tp p.toNat = 40) (h8 : rdC 40 pd < 8) : rdE tp n key pd c lv true p = some (40 :: pd, c, lv, true) := (if_pos rfl).trans ((if_neg (rdL_no (by omega))).trans ((if_neg (rdD_no (by omega))).trans (if_pos ⟨h, h8⟩)))
theorem rdE_not (h : tp p.toNat = 33) (h8 : rdC 33 pd < 8) : rdE tp n key pd c lv true p = some (33 :: pd, c, lv, true) := (if_pos rfl).trans ((if_neg (rdL_no (by omega))).trans ((if_neg (rdD_no (by omega))).trans ((if_neg (fun q => by have q1 := q.1; omega)).trans (if_pos ⟨h, h8⟩))))
theorem rdE_sgn (h : ¬ rdL (tp p.toNat) = true) (hd : ¬ rdD (tp p.toNat) = true) (h1 : ¬ (tp p.toNat = 40 ∧ rdC 40 pd < 8)) (h2 : ¬ (tp p.toNat = 33 ∧ rdC 33 pd < 8)) : rdE tp n key pd c lv true p = none := (if_pos rfl).trans ((if_neg h).trans ((if_neg hd).trans ((if_neg h1).trans (if_neg h2))))
theorem rdE_s0 (e1 : tp p.toNat ≠ 41) (e0 : rdG (tp p.toNat) = 0) : rdE tp n key pd c lv false p = none := (if_neg nft).trans ((if_neg e1).trans (if_pos e0))
theorem rdE_ket (h : tp p.toNat = 41) (h0 : 0 < rdC 40 pd) : rdE tp n key pd c lv false p = some ((rdT 1 pd c).1.tail, (rdT 1 pd c).2, lv, false) := (if_neg nft).trans ((if_pos h).trans (if_pos h0))
theorem rdE_ket0 (h : tp p.toNat = 41) (h0 : ¬ 0 < rdC 40 pd) : rdE tp n key pd c lv false p = none := (if_neg nft).trans ((if_pos h).trans (if_neg h0))
theorem rdG_n41 {s : Int} (h : rdG s ≠ 0) : s ≠ 41 := fun e => h (by rw [e]; decide)
theorem rdE_op (e0 : rdG (tp p.toNat) ≠ 0) (e3 : ¬ (rdG (tp p.toNat) = 3 ∧ rdY (rdT 4 pd c).1 = true)) : rdE tp n key pd c lv false p = some (tp p.toNat :: (rdT (rdK (rdG (tp p.toNat))) pd c).1, (rdT (rdK (rdG (tp p.toNat))) pd c).2, lv, true) := (if_neg nft).trans ((if_neg (rdG_n41 e0)).trans ((if_neg e0).trans (if_neg e3)))
theorem rdE_op0 (e0 : rdG (tp p.toNat) = 3) (e3 : rdY (rdT 4 pd c).1 = true) : rdE tp n key pd c lv false p = none := (if_neg nft).trans ((if_neg (rdG_n41 (by rw [e0]; decide))).trans ((if_neg (by rw [e0]; decide)).trans (if_pos ⟨e0, e3⟩)))
end RD4
/-! the methods of the other reader, by strength -/
/-- behind a part nothing goes on there that binds at least so tightly -/
def rdQ (k : Int) (tp : Nat → Int) (n key ke : Int) (pd : List Int) (p : Int) : Prop := p = n ∨ (p < n ∧ (tp p.toNat = 41 ∨ (1 ≤ rdG (tp p.toNat) ∧ rdG (tp p.toNat) < k) ∨ ∀ c lv, (rdM tp n key ke pd c lv false p).1 = p))
/-- read from p to p2 -/
def rdJ (k kq : Int) (tp : Nat → Int) (n key ke : Int) (pd c : List Int) (lv p : Int) (c2 : List Int) (lv2 p2 : Int) : Prop := ∃ pd' c', rdM tp n key ke pd c lv true p = rdM tp n key ke pd' c' lv2 false p2 ∧ rdT k pd' c' = rdT k pd c2 ∧ rdQ kq tp n key ke pd' p2
def rdP (k : Int) (tp : Nat → Int) (n key ke : Int) (pd c : List Int) (lv p : Int) (c2 : List Int) (lv2 p2 z : Int) : Prop := (z = 1 → rdJ k k tp n key ke pd c lv p c2 lv2 p2) ∧ (z = 0 → (rdM tp n key ke pd c lv true p).1 = p2)
section RD5
variable {tp : Nat → Int} {n key ke : Int} {pd c : List Int} {lv p : Int} {c1 c2 : List Int} {lv1 lv2 p1 p2 z : Int} {k : Int}
theorem rdQ_6 (h : p ≤ n) : rdQ 6 tp n key ke pd p := by
  by_cases e : p = n
  · exact Or.inl e
  · refine Or.inr ⟨by omega, ?_⟩
    by_cases e1 : tp p.toNat = 41
    · exact Or.inl e1
    · have g := rdG_bd (tp p.toNat)
      by_cases e0 : rdG (tp p.toNat) = 0
      · exact Or.inr (Or.inr (fun c lv => rdM_bad (by omega) (rdE_s0 e1 e0)))
      · exact Or.inr (Or.inl (by omega))
theorem rdP_leaf {v : Int} (hz : z = 1) (h : p < n) (g : ¬ (p = ke ∧ rdD (tp p.toNat) = true)) (e : rdE tp n key pd c lv true p = some (pd, v :: c, lv + 1, false)) (e2 : c2 = v :: c) (el : lv2 = lv + 1) (ep : p2 = rdX tp n p) : rdP 6 tp n key ke pd c lv p c2 lv2 p2 z := by
  subst e2
  subst el
  subst ep
  exact ⟨fun _ => ⟨pd, v :: c, rdM_go h g e, rfl, rdQ_6 (rdX_bd h).2⟩, fun q => absurd q (by omega)⟩
theorem rdP_bad (hz : z = 0) (e : (rdM tp n key ke pd c lv true p).1 = p2) : rdP k tp n key ke pd c lv p c2 lv2 p2 z := ⟨fun q => absurd q (by omega), fun _ => e⟩
theorem rdM_not (h : p < n) (f : tp p.toNat = 33) (h8 : rdC 33 pd < 8) : rdM tp n key ke pd c lv true p = rdM tp n key ke (33 :: pd) c lv true (rdX tp n p) := rdM_go h (fun q => rdD_no (by omega) q.2) (rdE_not f h8)
theorem rdM_bra (h : p < n) (f : tp p.toNat = 40) (h8 : rdC 40 pd < 8) : rdM tp n key ke pd c lv true p = rdM tp n key ke (40 :: pd) c lv true (rdX tp n p) := rdM_go h (fun q => rdD_no (by omega) q.2) (rdE_bra f h8)
theorem rdP_not (hz : z = 1) (h : p < n) (f : tp p.toNat = 33) (h8 : rdC 33 pd < 8) (ep : p1 = rdX tp n p) (q : rdP 6 tp n key ke (33 :: pd) c lv p1 c1 lv1 p2 1) (e2 : c2 = (20000 + 33) :: c1) (el : lv2 = lv1) : rdP 6 tp n key ke pd c lv p c2 lv2 p2 z := by
  subst ep
  subst e2
  subst el
  obtain ⟨pd', c', e1, e2, e3⟩ := q.1 rfl
  exact ⟨fun _ => ⟨pd', c', (rdM_not h f h8).trans e1, e2.trans (rdT_pop (by decide)), e3⟩, fun q => absurd q (by omega)⟩
theorem rdP_not0 (hz : z = 0) (h : p < n) (f : tp p.toNat = 33) (h8 : rdC 33 pd < 8) (ep : p1 = rdX tp n p) (q : rdP 6 tp n key ke (33 :: pd) c lv p1 c1 lv1 p2 0) : rdP 6 tp n key ke pd c lv p c2 lv2 p2 z := by
  subst ep
  exact rdP_bad hz ((congrArg Prod.fst (rdM_not h f h8)).trans (q.2 rfl))
theorem rdP_bra0 (hz : z = 0) (h : p < n) (f : tp p.toNat = 40) (h8 : rdC 40 pd < 8) (ep : p1 = rdX tp n p) (q : rdP 1 tp n key ke (40 :: pd) c lv p1 c1 lv1 p2 0) : rdP 6 tp n key ke pd c lv p c2 lv2 p2 z := by
  subst ep
  exact rdP_bad hz ((congrArg Prod.fst (rdM_bra h f h8)).trans (q.2 rfl))
theorem rdC_of {pd' c' : List Int} (e : rdT 1 pd' c' = rdT 1 pd c2) : rdC 40 pd' = rdC 40 pd := (rdT_40 (by decide) pd' c').symm.trans ((congrArg (fun q : List Int × List Int => rdC 40 q.1) e).trans (rdT_40 (by decide) pd c2))
/-- no ) where one is due -/
theorem rdP_bra1 (hz : z = 0) (h : p < n) (f : tp p.toNat = 40) (h8 : rdC 40 pd < 8) (ep : p1 = rdX tp n p) (q : rdP 1 tp n key ke (40 :: pd) c lv p1 c1 lv1 p2 1) (hn : p2 < n → tp p2.toNat ≠ 41) : rdP 6 tp n key ke pd c lv p c2 lv2 p2 z := by
  subst ep
  obtain ⟨pd', c', e1, e2, e3⟩ := q.1 rfl
  refine rdP_bad hz ((congrArg Prod.fst ((rdM_bra h f h8).trans e1)).trans ?_)
  have h0 := rdC_0 40 pd
  have hC : rdC 40 pd' = 1 + rdC 40 pd := (rdC_of e2).trans (by show (if (40 : Int) = 40 then 1 else 0) + rdC 40 pd = _; rw [if_pos rfl])
  rcases e3 with e3 | ⟨e3, e4 | e4 | e4⟩
  · exact (congrArg Prod.fst (rdM_end (by omega) (Or.inr (by omega)))).trans e3.symm
  · exact absurd e4 (hn e3)
  · exact absurd e4.2 (by omega)
  · exact e4 _ _
theorem rdP_ket (hz : z = 1) (h : p < n) (f : tp p.toNat = 40) (h8 : rdC 40 pd < 8) (ep : p1 = rdX tp n p) {p3 : Int} (q : rdP 1 tp n key ke (40 :: pd) c lv p1 c1 lv1 p3 1) (h3 : p3 < n) (f3 : tp p3.toNat = 41) (e2 : c2 = c1) (el : lv2 = lv1) (e3 : p2 = rdX tp n p3) : rdP 6 tp n key ke pd c lv p c2 lv2 p2 z := by
  subst ep
  subst e2
  subst el
  subst e3
  obtain ⟨pd', c', e1, e2, -⟩ := q.1 rfl
  have h0 := rdC_0 40 pd
  have hC : rdC 40 pd' = 1 + rdC 40 pd := (rdC_of e2).trans (by show (if (40 : Int) = 40 then 1 else 0) + rdC 40 pd = _; rw [if_pos rfl])
  have hT : rdT 1 pd' c' = (40 :: pd, c2) := e2.trans (rdT_O (k := 1) (p := 40 :: pd) (show rdH 40 < 1 by decide))
  have hM : rdM tp n key ke pd' c' lv2 false p3 = rdM tp n key ke (rdT 1 pd' c').1.tail (rdT 1 pd' c').2 lv2 false (rdX tp n p3) := rdM_go h3 (fun q => rdD_no (by omega) q.2) (rdE_ket f3 (by omega))
  rw [hT] at hM
  exact ⟨fun _ => ⟨pd, c2, (rdM_bra h f h8).trans (e1.trans hM), rfl, rdQ_6 (rdX_bd h3).2⟩, fun q => absurd q (by omega)⟩
theorem rdJ_0 {kq : Int} (hk : k ≤ kq) (q : rdP kq tp n key ke pd c lv p c2 lv2 p2 z) (hz : z = 1) : rdJ k kq tp n key ke pd c lv p c2 lv2 p2 := by
  obtain ⟨pd', c', e1, e2, e3⟩ := q.1 hz
  exact ⟨pd', c', e1, (rdT_T hk pd' c').symm.trans ((congrArg (fun q : List Int × List Int => rdT k q.1 q.2) e2).trans (rdT_T hk pd c2)), e3⟩
theorem rdP_lift {kq : Int} (q : rdP kq tp n key ke pd c lv p c2 lv2 p2 z) (hz : z = 0) : rdP k tp n key ke pd c lv p c1 lv1 p2 z := rdP_bad hz (q.2 hz)
theorem rdJ_end {kq : Int} (hz : z = 1) (hk : kq = k + 1) (q : rdJ k kq tp n key ke pd c lv p c2 lv2 p2) (hn : p2 < n → rdG (tp p2.toNat) ≠ k) : rdP k tp n key ke pd c lv p c2 lv2 p2 z := by
  obtain ⟨pd', c', e1, e2, e3⟩ := q
  refine ⟨fun _ => ⟨pd', c', e1, e2, ?_⟩, fun q => absurd q (by omega)⟩
  rcases e3 with e3 | ⟨e3, e4 | e4 | e4⟩
  · exact Or.inl e3
  · exact Or.inr ⟨e3, Or.inl e4⟩
  · have h := hn e3
    exact Or.inr ⟨e3, Or.inr (Or.inl (by omega))⟩
  · exact Or.inr ⟨e3, Or.inr (Or.inr e4)⟩
theorem rdY_O : ∀ {pd : List Int}, rdO 3 pd → ¬ rdY pd = true
  | [], _ => nft
  | s :: _, h => fun q => by
    have q : rdG s = 3 := of_decide_eq_true q
    have h : rdH s < 3 := h
    rw [rdH_G (by omega)] at h
    omega
/-- a sign of that strength, and what is read behind it -/
theorem rdM_op {pd' c' : List Int} {f : Int} (hk : 1 ≤ k) (ho : rdO k pd) (h : p2 < n) (ef : tp p2.toNat = f) (eg : rdG f = k) (e2 : rdT (rdK k) pd' c' = rdT (rdK k) pd c2) : rdM tp n key ke pd' c' lv2 false p2 = rdM tp n key ke (f :: pd) c2 lv2 true (rdX tp n p2) := by
  have hT : rdT (rdK k) pd' c' = (pd, c2) := e2.trans (rdT_O (rdO_le (by unfold rdK; split <;> omega) ho))
  have e0 : rdG (tp p2.toNat) ≠ 0 := by rw [ef, eg]; omega
  have hM := rdM_go (ke := ke) (key := key) (lv := lv2) h (fun q => rdG_D e0 q.2) (rdE_op (n := n) (pd := pd') (c := c') e0 (fun q => by
    have q1 : k = 3 := by rw [← eg, ← ef]; exact q.1
    have q2 := q.2
    have e4 : rdK k = 4 := if_pos q1
    rw [← e4, hT] at q2
    rw [q1] at ho
    exact rdY_O ho q2))
  rw [hM, ef, eg, hT]
theorem rdJ_op {f : Int} (hk : 1 ≤ k) (h3 : k ≠ 3) {kq : Int} (hq : k ≤ kq) (ho : rdO k pd) (q : rdJ k kq tp n key ke pd c lv p c1 lv1 p1) (h : p1 < n) (ef : tp p1.toNat = f) (eg : rdG f = k) {p3 : Int} (e3 : p3 = rdX tp n p1) {c3 : List Int} {z1 : Int} (r : rdP kq tp n key ke (f :: pd) c1 lv1 p3 c3 lv2 p2 z1) (hz : z1 = 1) (e2 : c2 = (20000 + f) :: c3) : rdJ k kq tp n key ke pd c lv p c2 lv2 p2 := by
  subst e3
  subst e2
  obtain ⟨pd', c', a1, a2, a3⟩ := q
  obtain ⟨pd2, c4, b1, b2, b3⟩ := r.1 hz
  have hK : rdK k = k := if_neg h3
  refine ⟨pd2, c4, a1.trans ((rdM_op hk ho h ef eg (by rw [hK]; exact a2)).trans b1), ?_, b3⟩
  refine (rdT_T hq pd2 c4).symm.trans ((congrArg (fun q : List Int × List Int => rdT k q.1 q.2) b2).trans ((rdT_T hq (f :: pd) c3).trans (rdT_pop ?_)))
  rw [rdH_G (by omega)]
  omega
theorem rdJ_op0 {f : Int} (hk : 1 ≤ k) (h3 : k ≠ 3) {kq : Int} (ho : rdO k pd) (q : rdJ k kq tp n key ke pd c lv p c1 lv1 p1) (h : p1 < n) (ef : tp p1.toNat = f) (eg : rdG f = k) {p3 : Int} (e3 : p3 = rdX tp n p1) {c3 : List Int} {lv3 z1 : Int} (r : rdP kq tp n key ke (f :: pd) c1 lv1 p3 c3 lv3 p2 z1) (hz1 : z1 = 0) (hz : z = 0) : rdP k tp n key ke pd c lv p c2 lv2 p2 z := by
  subst e3
  obtain ⟨pd', c', a1, a2, a3⟩ := q
  have hK : rdK k = k := if_neg h3
  exact rdP_bad hz ((congrArg Prod.fst (a1.trans (rdM_op hk ho h ef eg (by rw [hK]; exact a2)))).trans (r.2 hz1))
/-- one of < = > -/
theorem rdP_cmp {f : Int} (ho : rdO 3 pd) {z0 : Int} (q : rdP 4 tp n key ke pd c lv p c1 lv1 p1 z0) (hz0 : z0 = 1) (h : p1 < n) (ef : tp p1.toNat = f) (eg : rdG f = 3) {p3 : Int} (e3 : p3 = rdX tp n p1) {c3 : List Int} {z1 : Int} (r : rdP 4 tp n key ke (f :: pd) c1 lv1 p3 c3 lv2 p2 z1) (hz1 : z1 = 1) (e2 : c2 = (20000 + f) :: c3) (hz : z = 1) : rdP 3 tp n key ke pd c lv p c2 lv2 p2 z := by
  subst e3
  subst e2
  obtain ⟨pd', c', a1, a2, a3⟩ := q.1 hz0
  obtain ⟨pd2, c4, b1, b2, b3⟩ := r.1 hz1
  have hH : rdH f = 3 := by rw [rdH_G (by omega)]; exact eg
  refine ⟨fun _ => ⟨pd2, c4, a1.trans ((rdM_op (k := 3) (by decide) ho h ef eg a2).trans b1), ?_, ?_⟩, fun q => absurd q (by omega)⟩
  · refine (rdT_T (k := 4) (by decide) pd2 c4).symm.trans ((congrArg (fun q : List Int × List Int => rdT 3 q.1 q.2) b2).trans ((rdT_T (by decide) (f :: pd) c3).trans (rdT_pop ?_)))
    omega
  · rcases b3 with b3 | ⟨b3, b4 | b4 | b4⟩
    · exact Or.inl b3
    · exact Or.inr ⟨b3, Or.inl b4⟩
    · by_cases g : rdG (tp p2.toNat) = 3
      · refine Or.inr ⟨b3, Or.inr (Or.inr (fun c lv => rdM_bad b3 (rdE_op0 g ?_)))⟩
        rw [rdT_c pd2 c c4, b2, rdT_O (k := 4) (p := f :: pd) (show rdH f < 4 by omega)]
        exact decide_eq_true eg
      · exact Or.inr ⟨b3, Or.inr (Or.inl (by omega))⟩
    · exact Or.inr ⟨b3, Or.inr (Or.inr b4)⟩
theorem rdP_cmp0 {f : Int} (ho : rdO 3 pd) {z0 : Int} (q : rdP 4 tp n key ke pd c lv p c1 lv1 p1 z0) (hz0 : z0 = 1) (h : p1 < n) (ef : tp p1.toNat = f) (eg : rdG f = 3) {p3 : Int} (e3 : p3 = rdX tp n p1) {c3 : List Int} {lv3 z1 : Int} (r : rdP 4 tp n key ke (f :: pd) c1 lv1 p3 c3 lv3 p2 z1) (hz1 : z1 = 0) (hz : z = 0) : rdP 3 tp n key ke pd c lv p c2 lv2 p2 z := by
  subst e3
  obtain ⟨pd', c', a1, a2, a3⟩ := q.1 hz0
  exact rdP_bad hz ((congrArg Prod.fst (a1.trans (rdM_op (k := 3) (by decide) ho h ef eg a2))).trans (r.2 hz1))
/-- the whole -/
theorem rd_end (q : rdP 1 tp n key ke [] [] lv p c2 lv2 n z) (hz : z = 1) : rdM tp n key ke [] [] lv true p = (-1, c2, lv2) := by
  obtain ⟨pd', c', e1, e2, -⟩ := q.1 hz
  have hC : rdC 40 pd' = 0 := rdC_of e2
  have hT := (rdT_T (j := 0) (k := 1) (by decide) pd' c').symm.trans ((congrArg (fun q : List Int × List Int => rdT 0 q.1 q.2) e2).trans (rdT_T (j := 0) (k := 1) (by decide) [] c2))
  rw [e1, rdM_ok (by omega) (fun q => q.elim (fun q => nft q) (fun q => by omega)), hT]
  rfl
theorem rd_bad (q : rdP 1 tp n key ke [] [] lv p c2 lv2 p2 z) (hz : z = 1) (hn : p2 ≠ n) : (rdM tp n key ke [] [] lv true p).1 = p2 := by
  obtain ⟨pd', c', e1, e2, e3⟩ := q.1 hz
  have hC : rdC 40 pd' = 0 := rdC_of e2
  rw [e1]
  rcases e3 with e3 | ⟨e3, e4 | e4 | e4⟩
  · exact absurd e3 hn
  · exact rdM_bad e3 (rdE_ket0 e4 (by omega))
  · exact absurd e4.2 (by omega)
  · exact e4 _ _
end RD5
/-! rows of the heap as such lists: the last first -/
def rdl (row : Nat → Int) : Nat → List Int
  | 0 => []
  | m + 1 => row m :: rdl row m
theorem rdl_congr {r r' : Nat → Int} : ∀ {m : Nat}, (∀ i, i < m → r i = r' i) → rdl r m = rdl r' m
  | 0, _ => rfl
  | m + 1, h => by
    show r m :: rdl r m = r' m :: rdl r' m
    rw [h m (by omega), rdl_congr (m := m) (fun i hi => h i (by omega))]
/-- the code of a step -/
def rdc (w v : Int) : Int := if w = 0 ∧ 0 ≤ v ∧ v ≤ 9999 then v else if w = 1 ∧ 97 ≤ v ∧ v ≤ 122 then 10000 + v - 97 else if w = 2 ∧ (v = 33 ∨ rdG v ≠ 0) then 20000 + v else -1
theorem rdc_0 {v : Int} (h : 0 ≤ v ∧ v ≤ 9999) : rdc 0 v = v := if_pos ⟨rfl, h⟩
theorem rdc_1 {v : Int} (h : 97 ≤ v ∧ v ≤ 122) : rdc 1 v = 10000 + v - 97 := by
  unfold rdc
  rw [if_neg (by omega), if_pos ⟨rfl, h⟩]
theorem rdc_2 {v : Int} (h : v = 33 ∨ rdG v ≠ 0) : rdc 2 v = 20000 + v := by
  unfold rdc
  rw [if_neg (by omega), if_neg (by omega), if_pos ⟨rfl, h⟩]
/-- all bytes up to the end are of the kind -/
theorem rdF_all {c : Int → Bool} {tp : Nat → Int} {n : Int} : ∀ (k : Nat) (p i : Int), p ≤ i → i < rdF c tp n k p → c (tp i.toNat) = true
  | 0, p, i, h1, h2 => by
    have q : i < p := h2
    omega
  | k + 1, p, i, h1, h2 => by
    by_cases hc : p < n ∧ c (tp p.toNat) = true
    · rw [show rdF c tp n (k + 1) p = rdF c tp n k (p + 1) from if_pos hc] at h2
      by_cases e : i = p
      · rw [e]
        exact hc.2
      · exact rdF_all k (p + 1) i (by omega) h2
    · rw [show rdF c tp n (k + 1) p = p from if_neg hc] at h2
      omega
theorem rdV_b {tp : Nat → Int} {p : Int} : ∀ (k : Nat), (∀ i : Nat, i < k → 48 ≤ tp (p + (i : Int)).toNat ∧ tp (p + (i : Int)).toNat ≤ 57) → 0 ≤ rdV tp p k ∧ rdV tp p k < 10 ^ k
  | 0, _ => ⟨Int.le_refl _, by show (0 : Int) < 10 ^ 0; decide⟩
  | k + 1, h => by
    have a := rdV_b k (fun i l => h i (by omega))
    have b := h k (by omega)
    have e : rdV tp p (k + 1) = 10 * rdV tp p k + tp (p + (k : Int)).toNat - 48 := rfl
    have e2 : (10 : Int) ^ (k + 1) = 10 ^ k * 10 := Int.pow_succ 10 k
    rw [e, e2]
    generalize (10 : Int) ^ k = T at a
    omega
theorem rdV_4 {tp : Nat → Int} {n p : Int} (h : p < n) (hl : ¬ rdL (tp p.toNat) = true) (hd : rdD (tp p.toNat) = true) (h4 : rdW tp n p - p ≤ 4) : 0 ≤ rdV tp p (rdW tp n p - p).toNat ∧ rdV tp p (rdW tp n p - p).toNat ≤ 9999 := by
  have w := rdW_D h hl hd
  have b := rdW_bd (tp := tp) h
  have a := rdV_b (tp := tp) (p := p) (rdW tp n p - p).toNat (fun i l => rdD_iff.mp (rdF_all (c := rdD) (n := n) (n - p).toNat p (p + (i : Int)) (by omega) (by
    have e : rdF rdD tp n (n - p).toNat p = rdW tp n p := w.symm
    rw [e]
    omega)))
  refine ⟨a.1, ?_⟩
  have k : (rdW tp n p - p).toNat = 1 ∨ (rdW tp n p - p).toNat = 2 ∨ (rdW tp n p - p).toNat = 3 ∨ (rdW tp n p - p).toNat = 4 := by omega
  have a2 := a.2
  rcases k with k | k | k | k <;> rw [k] at a2 ⊢ <;> omega
def rds (R : Nat → Int) (a : Int) : Nat → List Int
  | 0 => []
  | m + 1 => rdc (R (a + 2 * (m : Int)).toNat) (R (a + 2 * (m : Int) + 1).toNat) :: rds R a m
theorem rds_congr {R R' : Nat → Int} {a : Int} (ha : 0 ≤ a) : ∀ {m : Nat}, (∀ i : Nat, (i : Int) < a + 2 * (m : Int) → R i = R' i) → rds R a m = rds R' a m
  | 0, _ => rfl
  | m + 1, h => by
    show rdc _ _ :: rds R a m = rdc _ _ :: rds R' a m
    rw [h _ (by omega), h _ (by omega), rds_congr ha (m := m) (fun i hi => h i (by omega))]
/-! keys -/
def rdz (i : Nat) : List Int := match i with
  | 0 => [115, 104, 97, 114, 101]
  | 1 => [111, 112, 101, 110]
  | 2 => [115, 104, 101, 100]
  | 3 => [98, 105, 114, 116, 104]
  | 4 => [118, 111, 116, 101]
  | _ => [112, 97, 115, 115]
def rdw (tp : Nat → Int) (i : Nat) (p q : Int) : Prop := q - p = ((rdz i).length : Int) ∧ ∀ j, j < (rdz i).length → tp (p.toNat + j) = (rdz i).getD j 0
/-- which key stands from p to q -/
def rdk (tp : Nat → Int) (p q z : Int) : Prop := (z = -1000000005 ∧ ∀ k, k < 6 → ¬ rdw tp k p q) ∨ (0 ≤ z ∧ z < 6 ∧ rdw tp z.toNat p q ∧ ∀ k, k < z.toNat → ¬ rdw tp k p q)
theorem rdk_one {tp : Nat → Int} {p q z z' : Int} (h : rdk tp p q z) (h' : rdk tp p q z') : z = z' := by
  rcases h with ⟨a1, a2⟩ | ⟨a1, a2, a3, a4⟩
  · rcases h' with ⟨b1, b2⟩ | ⟨b1, b2, b3, b4⟩
    · omega
    · exact absurd b3 (a2 _ (by omega))
  · rcases h' with ⟨b1, b2⟩ | ⟨b1, b2, b3, b4⟩
    · exact absurd a3 (b2 _ (by omega))
    · by_cases c1 : z < z'
      · exact absurd a3 (b4 _ (by omega))
      · by_cases c2 : z' < z
        · exact absurd b3 (a4 _ (by omega))
        · omega
theorem rdw_4 {tp : Nat → Int} {p q a b c d : Int} {i : Nat} (e : rdz i = [a, b, c, d]) (hp : 0 ≤ p) : rdw tp i p q ↔ (q - p = 4 ∧ tp p.toNat = a ∧ tp (p + 1).toNat = b ∧ tp (p + 2).toNat = c ∧ tp (p + 3).toNat = d) := by
  have e1 : (p + 1).toNat = p.toNat + 1 := by omega
  have e2 : (p + 2).toNat = p.toNat + 2 := by omega
  have e3 : (p + 3).toNat = p.toNat + 3 := by omega
  unfold rdw
  rw [e, e1, e2, e3]
  constructor
  · rintro ⟨h1, h2⟩
    exact ⟨h1, h2 0 (show (0 : Nat) < 4 by decide), h2 1 (show (1 : Nat) < 4 by decide), h2 2 (show (2 : Nat) < 4 by decide), h2 3 (show (3 : Nat) < 4 by decide)⟩
  · rintro ⟨h1, h2, h3, h4, h5⟩
    refine ⟨h1, fun j hj => ?_⟩
    have hj : j < 4 := hj
    have hc : j = 0 ∨ j = 1 ∨ j = 2 ∨ j = 3 := by omega
    rcases hc with rfl | rfl | rfl | rfl
    · exact h2
    · exact h3
    · exact h4
    · exact h5
theorem rdw_5 {tp : Nat → Int} {p q a b c d f : Int} {i : Nat} (e : rdz i = [a, b, c, d, f]) (hp : 0 ≤ p) : rdw tp i p q ↔ (q - p = 5 ∧ tp p.toNat = a ∧ tp (p + 1).toNat = b ∧ tp (p + 2).toNat = c ∧ tp (p + 3).toNat = d ∧ tp (p + 4).toNat = f) := by
  have e1 : (p + 1).toNat = p.toNat + 1 := by omega
  have e2 : (p + 2).toNat = p.toNat + 2 := by omega
  have e3 : (p + 3).toNat = p.toNat + 3 := by omega
  have e4 : (p + 4).toNat = p.toNat + 4 := by omega
  unfold rdw
  rw [e, e1, e2, e3, e4]
  constructor
  · rintro ⟨h1, h2⟩
    exact ⟨h1, h2 0 (show (0 : Nat) < 5 by decide), h2 1 (show (1 : Nat) < 5 by decide), h2 2 (show (2 : Nat) < 5 by decide), h2 3 (show (3 : Nat) < 5 by decide), h2 4 (show (4 : Nat) < 5 by decide)⟩
  · rintro ⟨h1, h2, h3, h4, h5, h6⟩
    refine ⟨h1, fun j hj => ?_⟩
    have hj : j < 5 := hj
    have hc : j = 0 ∨ j = 1 ∨ j = 2 ∨ j = 3 ∨ j = 4 := by omega
    rcases hc with rfl | rfl | rfl | rfl | rfl
    · exact h2
    · exact h3
    · exact h4
    · exact h5
    · exact h6
/-- signs that may wait -/
def rdA : List Int → Prop
  | [] => True
  | s :: p => (s = 40 ∨ 1 ≤ rdH s) ∧ rdA p
theorem rdA_T {k : Int} : ∀ (p c : List Int), rdA p → rdA (rdT k p c).1
  | [], _, h => h
  | s :: p, c, h => by
    by_cases q : k ≤ rdH s
    · rw [rdT_pop q]
      exact rdA_T p _ h.2
    · rw [rdT_stay q]
      exact h
theorem rd_ket : ∀ (p c : List Int), rdA p → 0 < rdC 40 p → ∃ r, (rdT 1 p c).1 = 40 :: r ∧ rdA r ∧ rdC 40 r = rdC 40 p - 1
  | [], _, _, h0 => absurd h0 (Int.lt_irrefl 0)
  | s :: p, c, h, h0 => by
    have hC : rdC 40 (s :: p) = (if s = 40 then 1 else 0) + rdC 40 p := rfl
    by_cases q : 1 ≤ rdH s
    · have n40 : s ≠ 40 := fun e => by
        rw [e] at q
        have z : rdH 40 = 0 := by decide
        omega
      rw [if_neg n40] at hC
      obtain ⟨r, e1, e2, e3⟩ := rd_ket p ((20000 + s) :: c) h.2 (by omega)
      refine ⟨r, ?_, e2, by omega⟩
      rw [rdT_pop q]
      exact e1
    · have e40 : s = 40 := h.1.elim (fun e => e) (fun e => absurd e q)
      rw [if_pos e40] at hC
      refine ⟨p, ?_, h.2, by omega⟩
      rw [rdT_stay q, e40]
theorem rdV_go {tp : Nat → Int} {p y k k' v z : Int} (h : y = rdV tp p k.toNat) (hk : 0 ≤ k) (hk' : k' = k + 1) (hv : v = tp (p + k).toNat) (hz : z = 10 * y + v - 48) : z = rdV tp p k'.toNat := by
  have e : k'.toNat = k.toNat + 1 := by omega
  rw [e]
  show z = 10 * rdV tp p k.toNat + tp (p + ((k.toNat : Nat) : Int)).toNat - 48
  rw [Int.toNat_of_nonneg hk, ← h, ← hv]
  exact hz

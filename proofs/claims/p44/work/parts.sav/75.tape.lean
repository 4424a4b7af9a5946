set_option linter.all false
/-! the class's tape: what waits, the codes -/
abbrev pdX (I : fH) : List Int := rdl (I 702) (I 699 7).toNat
abbrev cdX (I : fH) : List Int := rdl (I 701) (I 699 4).toNat
theorem rdl_put {I I1 I2 : fH} {a o f : Nat} {m v z : Int} (hm : m = I o f) (h0 : 0 ≤ m) (e1 : I1 = fupd I a m.toNat v) (e2 : I2 = fupd I1 o f z) (hz : z = m + 1) (hao : a ≠ o) : rdl (I2 a) (I2 o f).toNat = v :: rdl (I a) (I o f).toNat := by
  have h1 : I2 o f = m + 1 := (fup_self e2).trans hz
  have h2 : I2 a = I1 a := funext fun j => fup_other e2 a j (Or.inl hao)
  rw [h1, h2, ← hm, show (m + 1).toNat = m.toNat + 1 by omega]
  show I1 a m.toNat :: rdl (I1 a) m.toNat = _
  rw [fup_self e1, rdl_congr (r' := I a) (fun i hi => fup_other e1 a i (Or.inr (by omega)))]
theorem rdl_same {I I' : fH} {a o f : Nat} (h1 : ∀ j, I' a j = I a j) (h2 : I' o f = I o f) : rdl (I' a) (I' o f).toNat = rdl (I a) (I o f).toNat := by
  rw [show I' a = I a from funext h1, h2]
theorem rdl_pos {row : Nat → Int} {m s : Int} {r : List Int} (h : rdl row m.toNat = s :: r) : 1 ≤ m := by
  by_cases q : 1 ≤ m
  · exact q
  · rw [show m.toNat = 0 by omega] at h
    cases h
theorem rdl_hd {row : Nat → Int} {m : Int} (h : 1 ≤ m) : rdl row m.toNat = row (m - 1).toNat :: rdl row (m - 1).toNat := by
  rw [show m.toNat = (m - 1).toNat + 1 by omega]
  rfl
theorem rdl_tl {row : Nat → Int} {m s : Int} {r : List Int} (h : rdl row m.toNat = s :: r) : rdl row (m - 1).toNat = r := by
  rw [rdl_hd (rdl_pos h)] at h
  cases h
  rfl
theorem rdl_no {row : Nat → Int} {m : Int} (h : m ≤ 0) : rdl row m.toNat = [] := by
  rw [show m.toNat = 0 by omega]
  rfl
theorem pr1 {a b : List Int} {q : List Int × List Int} (h : (a, b) = q) : a = q.1 := by rw [← h]
/-! settling -/
theorem st_hd {J K : fH} {m s : Int} (hm : m = J 699 7) (h1 : 1 ≤ m) (hs : s = J 702 (m - 1).toNat) (k7 : K 699 7 = m - 1) (k2 : ∀ j, K 702 j = J 702 j) : pdX J = s :: pdX K := by
  show rdl (J 702) (J 699 7).toNat = s :: rdl (K 702) (K 699 7).toNat
  rw [show K 702 = J 702 from funext k2, k7, ← hm, rdl_hd h1, hs]
theorem st_go {J K I' : fH} {k m s s' i : Int} (hm : m = J 699 7) (h1 : 1 ≤ m) (hs : s = J 702 (m - 1).toNat) (hk : k ≤ rdH s) (k7 : K 699 7 = m - 1) (k2 : ∀ j, K 702 j = J 702 j) (k4 : K 699 4 = J 699 4) (k1 : ∀ j, K 701 j = J 701 j) (hs' : s' = K 702 i.toNat) (hi : i = m - 1) (g0 : cdX I' = (20000 + s') :: cdX K) (g1 : pdX I' = pdX K) : rdT k (pdX I') (cdX I') = rdT k (pdX J) (cdX J) := by
  have es : s' = s := by rw [hs', hi, k2, hs]
  have ec : cdX K = cdX J := rdl_same (I := J) (I' := K) (a := 701) k1 k4
  rw [g0, g1, es, st_hd hm h1 hs k7 k2, ec]
  exact (rdT_pop hk).symm
theorem st_nt {J K I' : fH} {m s : Int} (hJ : J 699 9 = rdC 33 (pdX J)) (hm : m = J 699 7) (h1 : 1 ≤ m) (hs : s = J 702 (m - 1).toNat) (k7 : K 699 7 = m - 1) (k2 : ∀ j, K 702 j = J 702 j) (hn : (s = 33 ∧ K 699 9 = J 699 9 - 1) ∨ (s ≠ 33 ∧ K 699 9 = J 699 9)) (h9 : I' 699 9 = K 699 9) (g1 : pdX I' = pdX K) : I' 699 9 = rdC 33 (pdX I') := by
  rw [st_hd hm h1 hs k7 k2] at hJ
  have hJ : J 699 9 = (if s = 33 then 1 else 0) + rdC 33 (pdX K) := hJ
  rw [g1, h9]
  rcases hn with ⟨e, e'⟩ | ⟨e, e'⟩
  · rw [if_pos e] at hJ
    omega
  · rw [if_neg e] at hJ
    omega
theorem st_end0 {J : fH} {k : Int} (h : J 699 7 ≤ 0) : (pdX J, cdX J) = rdT k (pdX J) (cdX J) := by
  have e : pdX J = [] := rdl_no h
  rw [e]
  rfl
theorem st_end1 {J : fH} {k m s t : Int} (hm : m = J 699 7) (h1 : 1 ≤ m) (hs : s = J 702 (m - 1).toNat) (ht : t = rdH s) (hk : t < k) : (pdX J, cdX J) = rdT k (pdX J) (cdX J) := by
  have e : pdX J = s :: rdl (J 702) (m - 1).toNat := by
    show rdl (J 702) (J 699 7).toNat = _
    rw [← hm, rdl_hd h1, hs]
  rw [e, rdT_stay (by omega)]
/-! behind a part -/
theorem eg_ket {f : Int} {pd c : List Int} {lv : Int} (h : f = 41) (h0 : 0 < rdC 40 pd) {pd' c' : List Int} {lv' d : Int} (e1 : pd' = (rdT 1 pd c).1.tail) (e2 : c' = (rdT 1 pd c).2) (e3 : lv' = lv) (e4 : d = 0) : rdEg f pd c lv = some (pd', c', lv', decide (d = 1)) := by
  subst e1; subst e2; subst e3; subst e4
  exact (if_pos h).trans (if_pos h0)
theorem eg_ket0 {f : Int} {pd c : List Int} {lv : Int} (h : f = 41) (h0 : ¬ 0 < rdC 40 pd) : rdEg f pd c lv = none := (if_pos h).trans (if_neg h0)
theorem eg_no {f : Int} {pd c : List Int} {lv : Int} (h : f ≠ 41) (h0 : rdG f = 0) : rdEg f pd c lv = none := (if_neg h).trans (if_pos h0)
theorem eg_cmp {f : Int} {pd c : List Int} {lv : Int} (h : f ≠ 41) (h0 : rdG f = 3) {g : Int} (hg : g = 4) {P C : List Int} (hP : (P, C) = rdT g pd c) (hy : rdY P = true) : rdEg f pd c lv = none := by
  subst hg
  refine (if_neg h).trans ((if_neg (by omega)).trans (if_pos ⟨h0, ?_⟩))
  rw [← hP]
  exact hy
theorem eg_op {f : Int} {pd c : List Int} {lv : Int} (h : f ≠ 41) (h0 : rdG f ≠ 0) {g : Int} (hg : g = rdK (rdG f)) {P C : List Int} (hP : (P, C) = rdT g pd c) (hy : rdG f = 3 → ¬ rdY P = true) {pd' c' : List Int} {lv' d : Int} (e1 : pd' = f :: P) (e2 : c' = C) (e3 : lv' = lv) (e4 : d = 1) : rdEg f pd c lv = some (pd', c', lv', decide (d = 1)) := by
  subst e1; subst e2; subst e3; subst e4; subst hg
  refine (if_neg h).trans ((if_neg h0).trans ((if_neg (fun q => ?_)).trans ?_))
  · have e4 : rdK (rdG f) = 4 := if_pos q.1
    rw [e4] at hP
    have q2 := q.2
    rw [← hP] at q2
    exact hy q.1 q2
  · rw [← hP]
    rfl
/-- signs that wait stay such -/
theorem rdA_op {f : Int} {P : List Int} (h0 : rdG f ≠ 0) (h : rdA P) : rdA (f :: P) := ⟨Or.inr (by rw [rdH_G h0]; have := rdG_bd f; omega), h⟩
theorem rdC_op {x f : Int} {P : List Int} (h : f ≠ x) : rdC x (f :: P) = rdC x P := by
  show (if f = x then 1 else 0) + rdC x P = _
  rw [if_neg h]
  omega
theorem rdC_in {x : Int} {P : List Int} : rdC x (x :: P) = 1 + rdC x P := by
  show (if x = x then 1 else 0) + rdC x P = _
  rw [if_pos rfl]
theorem rdG_ne {f x : Int} (h : rdG f ≠ 0) (hx : rdG x = 0) : f ≠ x := fun e => h (by rw [e]; exact hx)
theorem rdY_hd {J : fH} {m s : Int} (hm : m = J 699 7) (h1 : 1 ≤ m) (hs : s = J 702 (m - 1).toNat) : rdY (pdX J) = decide (rdG s = 3) := by
  show rdY (rdl (J 702) (J 699 7).toNat) = _
  rw [← hm, rdl_hd h1, hs]
  rfl
theorem rdY_no {J : fH} (h : J 699 7 ≤ 0) : ¬ rdY (pdX J) = true := by
  have e : pdX J = [] := rdl_no h
  rw [e]
  exact nft
theorem cons_eq {a b : Int} {l m : List Int} (h1 : a = b) (h2 : l = m) : a :: l = b :: m := by rw [h1, h2]
theorem sg_fin {S J : fH} {x : Int} (hx : rdG x ≠ 0) (e : pdX J = x :: pdX S) (h9 : S 699 9 = rdC 33 (pdX S)) (e9 : J 699 9 = S 699 9) (h8 : S 699 8 = rdC 40 (pdX S)) (e8 : J 699 8 = S 699 8) (hA : rdA (pdX S)) : J 699 9 = rdC 33 (pdX J) ∧ J 699 8 = rdC 40 (pdX J) ∧ rdA (pdX J) := by
  rw [e, rdC_op (rdG_ne hx (by decide)), rdC_op (rdG_ne hx (by decide))]
  exact ⟨e9.trans h9, e8.trans h8, rdA_op hx hA⟩
theorem kt_pd {S J : fH} {s : Int} {kr : List Int} (ks : pdX S = s :: kr) (h2 : ∀ j, J 702 j = S 702 j) (h7 : J 699 7 = S 699 7 - 1) : pdX J = kr := by
  show rdl (J 702) (J 699 7).toNat = kr
  rw [show J 702 = S 702 from funext h2, h7]
  exact rdl_tl ks
theorem kt_33 {S J : fH} {kr : List Int} (ks : pdX S = 40 :: kr) (e : pdX J = kr) (h9 : S 699 9 = rdC 33 (pdX S)) (e9 : J 699 9 = S 699 9) : J 699 9 = rdC 33 (pdX J) := by
  rw [e9, h9, ks, e]
  exact rdC_op (by decide)
theorem kt_40 {J : fH} {kr : List Int} {x v : Int} (e : pdX J = kr) (h : rdC 40 kr = x - 1) (hv : v = x - 1) : v = rdC 40 (pdX J) := by rw [e, h, hv]
theorem kt_A {J : fH} {kr : List Int} (e : pdX J = kr) (h : rdA kr) : rdA (pdX J) := by rw [e]; exact h
theorem pt_bra {I J : fH} {x : Int} (hx : x = 40) (e : pdX J = x :: pdX I) (h9 : I 699 9 = rdC 33 (pdX I)) (e9 : J 699 9 = I 699 9) (h8 : I 699 8 = rdC 40 (pdX I)) (e8 : J 699 8 = I 699 8 + 1) (hA : rdA (pdX I)) : J 699 9 = rdC 33 (pdX J) ∧ J 699 8 = rdC 40 (pdX J) ∧ rdA (pdX J) := by
  subst hx
  rw [e, rdC_op (by decide), rdC_in]
  exact ⟨e9.trans h9, by omega, Or.inl rfl, hA⟩
theorem pt_not {I J : fH} {x : Int} (hx : x = 33) (e : pdX J = x :: pdX I) (h9 : I 699 9 = rdC 33 (pdX I)) (e9 : J 699 9 = I 699 9 + 1) (h8 : I 699 8 = rdC 40 (pdX I)) (e8 : J 699 8 = I 699 8) (hA : rdA (pdX I)) : J 699 9 = rdC 33 (pdX J) ∧ J 699 8 = rdC 40 (pdX J) ∧ rdA (pdX J) := by
  subst hx
  rw [e, rdC_in, rdC_op (by decide)]
  exact ⟨by omega, e8.trans h8, Or.inr (by decide), hA⟩
theorem pt_leaf {I J : fH} (e : pdX J = pdX I) (h9 : I 699 9 = rdC 33 (pdX I)) (e9 : J 699 9 = I 699 9) (h8 : I 699 8 = rdC 40 (pdX I)) (e8 : J 699 8 = I 699 8) (hA : rdA (pdX I)) : J 699 9 = rdC 33 (pdX J) ∧ J 699 8 = rdC 40 (pdX J) ∧ rdA (pdX J) := by
  rw [e]
  exact ⟨e9.trans h9, e8.trans h8, hA⟩
/-! where a part is due -/
section EP
variable {tp : Nat → Int} {n key : Int} {pd c : List Int} {lv p : Int} {pd' c' : List Int} {lv' d f q : Int}
theorem ep_name (ef : f = tp p.toNat) (eq : q = rdW tp n p) (h : 97 ≤ f ∧ f ≤ 122) (h1 : q - p = 1) (hn : rdN key f) (e1 : pd' = pd) (e2 : c' = (10000 + f - 97) :: c) (e3 : lv' = lv + 1) (e4 : d = 0) : rdEp tp n key pd c lv p = some (pd', c', lv', decide (d = 1)) := by
  subst e1; subst e2; subst e3; subst e4; subst ef; subst eq
  exact (if_pos (rdL_iff.mpr h)).trans (if_pos ⟨h1, hn⟩)
theorem ep_name0 (ef : f = tp p.toNat) (eq : q = rdW tp n p) (h : 97 ≤ f ∧ f ≤ 122) (h1 : ¬ (q - p = 1 ∧ rdN key f)) : rdEp tp n key pd c lv p = none := by
  subst ef; subst eq
  exact (if_pos (rdL_iff.mpr h)).trans (if_neg h1)
theorem ep_num (ef : f = tp p.toNat) (eq : q = rdW tp n p) (h : 48 ≤ f ∧ f ≤ 57) (h1 : q - p ≤ 4) {v : Int} (hv : v = rdV tp p (q - p).toNat) (e1 : pd' = pd) (e2 : c' = v :: c) (e3 : lv' = lv + 1) (e4 : d = 0) : rdEp tp n key pd c lv p = some (pd', c', lv', decide (d = 1)) := by
  subst e1; subst e2; subst e3; subst e4; subst hv; subst ef; subst eq
  exact (if_neg (rdL_no (by omega))).trans ((if_pos (rdD_iff.mpr h)).trans (if_pos h1))
theorem ep_num0 (ef : f = tp p.toNat) (eq : q = rdW tp n p) (h : 48 ≤ f ∧ f ≤ 57) (h1 : ¬ q - p ≤ 4) : rdEp tp n key pd c lv p = none := by
  subst ef; subst eq
  exact (if_neg (rdL_no (by omega))).trans ((if_pos (rdD_iff.mpr h)).trans (if_neg h1))
theorem ep_bra (ef : f = tp p.toNat) (h : f = 40) (h8 : rdC 40 pd < 8) (e1 : pd' = f :: pd) (e2 : c' = c) (e3 : lv' = lv) (e4 : d = 1) : rdEp tp n key pd c lv p = some (pd', c', lv', decide (d = 1)) := by
  subst e1; subst e2; subst e3; subst e4; subst h
  exact (if_neg (rdL_no (by omega))).trans ((if_neg (rdD_no (by omega))).trans (if_pos ⟨ef.symm, h8⟩))
theorem ep_not (ef : f = tp p.toNat) (h : f = 33) (h8 : rdC 33 pd < 8) (e1 : pd' = f :: pd) (e2 : c' = c) (e3 : lv' = lv) (e4 : d = 1) : rdEp tp n key pd c lv p = some (pd', c', lv', decide (d = 1)) := by
  subst e1; subst e2; subst e3; subst e4; subst h
  exact (if_neg (rdL_no (by omega))).trans ((if_neg (rdD_no (by omega))).trans ((if_neg (fun q => by have q1 := q.1; omega)).trans (if_pos ⟨ef.symm, h8⟩)))
theorem ep_no (ef : f = tp p.toNat) (hl : ¬ (97 ≤ f ∧ f ≤ 122)) (hd : ¬ (48 ≤ f ∧ f ≤ 57)) (h1 : ¬ (f = 40 ∧ rdC 40 pd < 8)) (h2 : ¬ (f = 33 ∧ rdC 33 pd < 8)) : rdEp tp n key pd c lv p = none := by
  subst ef
  exact (if_neg (rdL_no hl)).trans ((if_neg (rdD_no hd)).trans ((if_neg h1).trans (if_neg h2)))
end EP
/-! the class's whole reading -/
/-- what compile answers: the place of the fault, or none, then the codes, leaves, key -/
def cpX (tp : Nat → Int) (n z : Int) (cd : List Int) (lv key : Int) : Prop := ∃ k : Int, rdk tp (rdS rdB tp n 0) (rdW tp n (rdS rdB tp n 0)) k ∧ ((k = -1000000005 ∧ z = rdS rdB tp n 0) ∨ (k ≠ -1000000005 ∧ key = k ∧ ((0 ≤ z ∧ z = (rdM tp n k (rdW tp n (rdS rdB tp n 0)) [] [] 0 true (rdS rdB tp n (rdW tp n (rdS rdB tp n 0)))).1) ∨ (z = -1000000005 ∧ rdM tp n k (rdW tp n (rdS rdB tp n 0)) [] [] 0 true (rdS rdB tp n (rdW tp n (rdS rdB tp n 0))) = (-1, cd, lv)))))
section CP
variable {tp : Nat → Int} {n key ke p : Int} {pd c : List Int} {lv d : Int} {pd' c' : List Int} {lv' d' : Int} {r : Int × List Int × Int}
theorem cp_due (h : d = 1) : rdE tp n key pd c lv (decide (d = 1)) p = rdEp tp n key pd c lv p := if_pos (decide_eq_true h)
theorem cp_sgn (h : d = 0) : rdE tp n key pd c lv (decide (d = 1)) p = rdEg (tp p.toNat) pd c lv := if_neg (fun q => by have q := of_decide_eq_true q; omega)
theorem cp_bad (h : p < n) (e : rdE tp n key pd c lv (decide (d = 1)) p = none) (q : rdM tp n key ke pd c lv (decide (d = 1)) p = r) : r.1 = p := by
  rw [← q]
  exact rdM_bad h e
theorem cp_end (h : ¬ p < n) (hd : d = 1 ∨ 0 < rdC 40 pd) : (rdM tp n key ke pd c lv (decide (d = 1)) p).1 = n := congrArg Prod.fst (rdM_end h (hd.elim (fun q => Or.inl (decide_eq_true q)) Or.inr))
theorem cp_ok (h : ¬ p < n) (hd : d = 0) (h0 : ¬ 0 < rdC 40 pd) : rdM tp n key ke pd c lv (decide (d = 1)) p = (-1, (rdT 0 pd c).2, lv) := rdM_ok h (fun q => q.elim (fun q => by have q := of_decide_eq_true q; omega) h0)
end CP
/-- one round of compile -/
abbrev cpM (J : fH) (y2 : Int) : Int × List Int × Int := rdM (J 700) (J 699 1) (J 699 2) y2 [] [] 0 true (rdS rdB (J 700) (J 699 1) y2)
abbrev cpR (J : fH) (y2 y1 : Int) : Int × List Int × Int := rdM (J 700) (J 699 1) (J 699 2) y2 (pdX J) (cdX J) (J 699 5) (decide (J 699 10 = 1)) y1
theorem cp_step {J K : fH} {y1 y2 w y : Int} (hx : cpR J y2 y1 = cpM J y2) (e7 : ∀ j, K 700 j = J 700 j) (e1 : K 699 1 = J 699 1) (e2 : K 699 2 = J 699 2) (h : y1 < J 699 1) (g : ¬ (y1 = y2 ∧ rdD (J 700 y1.toNat) = true)) (e : rdE (J 700) (J 699 1) (J 699 2) (pdX J) (cdX J) (J 699 5) (decide (J 699 10 = 1)) y1 = some (pdX K, cdX K, K 699 5, decide (K 699 10 = 1))) (hw : w = rdW (J 700) (J 699 1) y1) (hy : y = rdS rdB (K 700) (K 699 1) w) : cpR K y2 y = cpM K y2 := by
  have e7 : K 700 = J 700 := funext e7
  unfold cpR cpM
  rw [hy, hw, e7, e1, e2]
  exact (rdM_go (ke := y2) h g e).symm.trans hx
theorem cp_init {K : fH} {y1 y2 : Int} (h7 : K 699 7 = 0) (h4 : K 699 4 = 0) (h5 : K 699 5 = 0) (h10 : K 699 10 = 1) (hy : y1 = rdS rdB (K 700) (K 699 1) y2) : cpR K y2 y1 = cpM K y2 := by
  have e1 : pdX K = [] := rdl_no (by omega)
  have e2 : cdX K = [] := rdl_no (by omega)
  unfold cpR cpM
  rw [e1, e2, h5, decide_eq_true h10, hy]
theorem cp_fin {J S : fH} {k lv lv' : Int} (g : (pdX S, cdX S) = rdT k (pdX J) (cdX J)) (e : lv' = lv) : ((-1 : Int), (rdT k (pdX J) (cdX J)).2, lv) = (-1, cdX S, lv') := by
  rw [← g, e]
theorem cpX_no {tp : Nat → Int} {n z k : Int} {cd : List Int} {lv key : Int} (h : rdk tp (rdS rdB tp n 0) (rdW tp n (rdS rdB tp n 0)) k) (hk : k = -1000000005) (hz : z = rdS rdB tp n 0) : cpX tp n z cd lv key := ⟨k, h, Or.inl ⟨hk, hz⟩⟩
theorem cpX_bad {I J : fH} {y1 y2 z : Int} {cd : List Int} {lv key : Int} (e7 : J 700 = I 700) (e1 : J 699 1 = I 699 1) (h4 : y2 = rdW (I 700) (I 699 1) (rdS rdB (I 700) (I 699 1) 0)) (h5 : rdk (I 700) (rdS rdB (I 700) (I 699 1) 0) y2 (J 699 2)) (hk : J 699 2 ≠ -1000000005) (ek : key = J 699 2) (hx : cpR J y2 y1 = cpM J y2) (h0 : 0 ≤ z) (hz : (cpR J y2 y1).1 = z) : cpX (I 700) (I 699 1) z cd lv key := by
  rw [hx] at hz
  unfold cpM at hz
  rw [e7, e1] at hz
  refine ⟨J 699 2, by rw [← h4]; exact h5, Or.inr ⟨hk, ek, Or.inl ⟨h0, ?_⟩⟩⟩
  rw [← h4]
  exact hz.symm
theorem cpX_ok {I J : fH} {y1 y2 z : Int} {cd : List Int} {lv key : Int} (e7 : J 700 = I 700) (e1 : J 699 1 = I 699 1) (h4 : y2 = rdW (I 700) (I 699 1) (rdS rdB (I 700) (I 699 1) 0)) (h5 : rdk (I 700) (rdS rdB (I 700) (I 699 1) 0) y2 (J 699 2)) (hk : J 699 2 ≠ -1000000005) (ek : key = J 699 2) (hx : cpR J y2 y1 = cpM J y2) (hz : z = -1000000005) (hr : cpR J y2 y1 = (-1, cd, lv)) : cpX (I 700) (I 699 1) z cd lv key := by
  rw [hx] at hr
  unfold cpM at hr
  rw [e7, e1] at hr
  refine ⟨J 699 2, by rw [← h4]; exact h5, Or.inr ⟨hk, ek, Or.inr ⟨hz, ?_⟩⟩⟩
  rw [← h4]
  exact hr
/-- what text answers: t texts before, t' behind it -/
def txZ (tp : Nat → Int) (n t z t' : Int) : Prop := ∃ (f : Int) (cd : List Int) (lv key : Int), cpX tp n f cd lv key ∧ ((f ≠ -1000000005 ∧ z = -100 - f ∧ t' = t) ∨ (f = -1000000005 ∧ t < 12 ∧ z = t ∧ t' = t + 1) ∨ (f = -1000000005 ∧ 12 ≤ t ∧ z = -1000000003 ∧ t' = t))
theorem txZ_mk {tp : Nat → Int} {n t z t' f : Int} {cd : List Int} {lv key : Int} (h : cpX tp n f cd lv key) (hz : (f ≠ -1000000005 ∧ z = -100 - f ∧ t' = t) ∨ (f = -1000000005 ∧ t < 12 ∧ z = t ∧ t' = t + 1) ∨ (f = -1000000005 ∧ 12 ≤ t ∧ z = -1000000003 ∧ t' = t)) : txZ tp n t z t' := ⟨f, cd, lv, key, h, hz⟩
theorem cpX_one {tp : Nat → Int} {n z z' : Int} {cd cd' : List Int} {lv key lv' key' : Int} (h : cpX tp n z cd lv key) (h' : cpX tp n z' cd' lv' key') : z = z' := by
  obtain ⟨k, a1, a2⟩ := h
  obtain ⟨k', b1, b2⟩ := h'
  have e := rdk_one a1 b1
  subst e
  rcases a2 with ⟨a2, a3⟩ | ⟨a2, a3, a4⟩
  · rcases b2 with ⟨b2, b3⟩ | ⟨b2, b3, b4⟩
    · exact a3.trans b3.symm
    · exact absurd a2 b2
  · rcases b2 with ⟨b2, b3⟩ | ⟨b2, b3, b4⟩
    · exact absurd b2 a2
    · rcases a4 with ⟨a4, a5⟩ | ⟨a4, a5⟩
      · rcases b4 with ⟨b4, b5⟩ | ⟨b4, b5⟩
        · exact a5.trans b5.symm
        · rw [b5] at a5
          have a5 : z = -1 := a5
          omega
      · rcases b4 with ⟨b4, b5⟩ | ⟨b4, b5⟩
        · rw [a5] at b5
          have b5 : z' = -1 := b5
          omega
        · omega
theorem txZ_one {tp : Nat → Int} {n t z z' t1 t2 : Int} (h : txZ tp n t z t1) (h' : txZ tp n t z' t2) : z = z' ∧ t1 = t2 := by
  obtain ⟨f, cd, lv, key, a1, a2⟩ := h
  obtain ⟨f', cd', lv', key', b1, b2⟩ := h'
  have e := cpX_one a1 b1
  omega

set_option linter.all false
/-! what a minute does to the row -/
def mn (a b : Int) : Int := if a ≤ b then a else b
/-- what stays, what is too much -/
def sTop (s : Int) : Int := if 999999 < s then 999999 else s
def sOver (s : Int) : Int := if 999999 < s then s - 999999 else 0
def sCo (r : Rw) (c g n : Int) : Rw := rud (rud r (31 + 20 * c + g) (sTop (gt r (31 + 20 * c + g) + n))) (37 + 20 * c + g) (wr (gt r (37 + 20 * c + g) + sOver (gt r (31 + 20 * c + g) + n)))
def sPt (r : Rw) (w : Int) : Int := gt r (535 + 14 * w) * (100 - gt r (534 + 14 * w)) / 100
/-- by day: phase, round -/
def dyP (p q : Int) : Prop := (xdv 1 (iI p) (iI q)).toInt < q / 2
noncomputable def sGa (r : Rw) (w : Int) : Rw := cI (dyP (gt r 2) (gt r 3)) (sCo (rud r (33 + 20 * gt r (531 + 14 * w)) (gt r (33 + 20 * gt r (531 + 14 * w)) - mn (sPt r w) (gt r (33 + 20 * gt r (531 + 14 * w))))) (gt r (531 + 14 * w)) 0 (mn (sPt r w) (gt r (33 + 20 * gt r (531 + 14 * w))))) r
def sSti1 (r : Rw) (w n : Int) : Rw := sCo (sCo (rud (rud r 22 (gt r 22 - 1)) (34 + 20 * gt r (531 + 14 * w)) (gt r (34 + 20 * gt r (531 + 14 * w)) - n)) (gt r (531 + 14 * w)) 2 (n / 2)) (gt r (531 + 14 * w)) 1 (n - n / 2)
def sSti (r : Rw) (w : Int) : Rw := if gt r 22 < 1 then r else sSti1 r w (mn (sPt r w) (gt r (34 + 20 * gt r (531 + 14 * w))))
def sRo (r : Rw) (w : Int) : Rw := if gt r (535 + 14 * w) ≤ gt r 22 then rud (rud r 22 (gt r 22 - gt r (535 + 14 * w))) 2 (wr (gt r 2 + 1)) else r
def sPa (r : Rw) (w : Int) : Rw := rud (rud r (536 + 14 * w) (gt r (536 + 14 * w) - 1)) (538 + 14 * w) (if gt r (536 + 14 * w) ≤ 1 then 1 else 0)
/-- a patch is on it -/
def sCv (r : Rw) (s : Int) : Prop := ∃ w : Nat, (w : Int) < gt r 7 ∧ gt r (530 + 14 * (w : Int)) = 5 ∧ gt r (535 + 14 * (w : Int)) = s ∧ gt r (533 + 14 * (w : Int)) = 1 ∧ gt r (538 + 14 * (w : Int)) = 0
def sLv (r : Rw) : Int := gt r 1 / 10
def sTb (r : Rw) (k l : Int) : Int := gt r (1020 + 61 * k + l)
/-- gas goes out by the skin's cell -/
def sLs (r : Rw) (w n : Int) : Rw := rud (rud r (536 + 14 * w) (gt r (536 + 14 * w) - n)) (38 + 20 * gt r (531 + 14 * w)) (wr (gt r (38 + 20 * gt r (531 + 14 * w)) + n))
/-- so much more worn: layers, then what is worn -/
def sWe (r : Rw) (w s : Int) : Rw := rud (rud r (535 + 14 * w) (gt r (535 + 14 * w) - mn (s / 100) (gt r (535 + 14 * w)))) (537 + 14 * w) (mn 99 (s - 100 * mn (s / 100) (gt r (535 + 14 * w))))
def sSk2 (r : Rw) (w : Int) : Rw := if gt r (535 + 14 * w) = 0 then sLs r w (mn (gt r (536 + 14 * w)) (1 + gt r (536 + 14 * w) / 50)) else r
noncomputable def sSki (r : Rw) (w : Int) : Rw := cI (sCv r w) r (sSk2 (sWe r w (gt r (537 + 14 * w) + sTb r 2 (sLv r) / 10)) w)
def sPr1 (r : Rw) (w l h : Int) : Rw := rud (rud (rud r (539 + 14 * w) l) (540 + 14 * w) h) (538 + 14 * w) (if gt r (535 + 14 * w) < h then 1 else 0)
def sPr (r : Rw) (w : Int) : Rw := if gt r (539 + 14 * w) < 0 then r else sPr1 r w (if 0 < gt r (539 + 14 * w) then gt r (539 + 14 * w) - 1 else 0) (wr (gt r (540 + 14 * w) + sTb r 1 (if 0 < gt r (539 + 14 * w) then gt r (539 + 14 * w) - 1 else 0)))
noncomputable def sWk (r : Rw) (w : Int) : Rw := if gt r (530 + 14 * w) = 1 then sSki r w else if gt r (530 + 14 * w) = 2 then sGa r w else if gt r (530 + 14 * w) = 3 then sSti r w else if gt r (530 + 14 * w) = 4 then sRo r w else if gt r (530 + 14 * w) = 5 then sPa r w else if gt r (530 + 14 * w) = 6 then sPr r w else r
noncomputable def sWk1 (w : Nat) (r : Rw) : Rw := if gt r (533 + 14 * (w : Int)) = 1 ∧ gt r (538 + 14 * (w : Int)) ≠ 1 then sWk r (w : Int) else r
/-- locks -/
def sFx (r : Rw) (l g : Int) : Int := (((gt r (31 + 20 * gt r (430 + 4 * l) + g) * gt r (30 + 20 * gt r (431 + 4 * l)) - gt r (31 + 20 * gt r (431 + 4 * l) + g) * gt r (30 + 20 * gt r (430 + 4 * l))).tdiv (gt r (30 + 20 * gt r (430 + 4 * l)) + gt r (30 + 20 * gt r (431 + 4 * l)))) * gt r (432 + 4 * l)).tdiv 10
def sFg1 (r : Rw) (l g n : Int) : Rw := if 0 < n then sCo (rud r (31 + 20 * gt r (430 + 4 * l) + g) (gt r (31 + 20 * gt r (430 + 4 * l) + g) - n)) (gt r (431 + 4 * l)) g n else sCo (rud r (31 + 20 * gt r (431 + 4 * l) + g) (gt r (31 + 20 * gt r (431 + 4 * l) + g) + n)) (gt r (430 + 4 * l)) g (-n)
def sFg (l : Int) (g : Nat) (r : Rw) : Rw := sFg1 r l (g : Int) (sFx r l (g : Int))
def sFl (r : Rw) (l : Int) : Rw := nf (sFg l) r 5
def sFl1 (l : Nat) (r : Rw) : Rw := if gt r (433 + 4 * (l : Int)) = 1 then sFl r (l : Int) else r
/-- holes -/
def sLk1 (r : Rw) (c g n : Int) : Rw := rud (rud r (31 + 20 * c + g) (gt r (31 + 20 * c + g) - n)) (37 + 20 * c + g) (wr (gt r (37 + 20 * c + g) + n))
def sLkg (c : Int) (g : Nat) (r : Rw) : Rw := sLk1 r c (g : Int) (gt r (31 + 20 * c + (g : Int)) * gt r (36 + 20 * c) / 1000)
def sLk (c : Nat) (r : Rw) : Rw := nf (sLkg (c : Int)) r 5
/-- people -/
def sNd (r : Rw) (p : Int) : Int := if gt r (870 + 6 * p) < 12 then 1 else 2
def sDd (r : Rw) (p : Int) : Prop := gt r (873 + 6 * p) = 100
def sBr1 (r : Rw) (c n : Int) : Rw := sCo (sCo (rud r (31 + 20 * c) (gt r (31 + 20 * c) - n)) c 1 (n / 2)) c 2 (n - n / 2)
def sBr2 (r : Rw) (p m : Int) : Rw := rud r (873 + 6 * p) (mn 100 (if gt r (873 + 6 * p) + (if m = 0 then -1 else m) < 0 then 0 else gt r (873 + 6 * p) + (if m = 0 then -1 else m)))
def sBrm (r : Rw) (c n d : Int) : Int := (if n < d then 5 else 0) + (if gt r (30 + 20 * c) < gt r (34 + 20 * c) then 3 else 0)
def sBr (r : Rw) (p : Int) : Rw := sBr2 (sBr1 r (gt r (872 + 6 * p)) (mn (sNd r p) (gt r (31 + 20 * gt r (872 + 6 * p))))) p (sBrm (sBr1 r (gt r (872 + 6 * p)) (mn (sNd r p) (gt r (31 + 20 * gt r (872 + 6 * p))))) (gt r (872 + 6 * p)) (mn (sNd r p) (gt r (31 + 20 * gt r (872 + 6 * p)))) (sNd r p))
noncomputable def sBr0 (p : Nat) (r : Rw) : Rw := cI (sDd r (p : Int)) r (sBr r (p : Int))
/-- sums -/
def sm (f : Nat → Int) (n : Nat) : Int := nf (fun k s => s + f k) 0 n
def sLi (r : Rw) (w : Nat) : Int := if gt r (530 + 14 * (w : Int)) = 1 ∧ gt r (538 + 14 * (w : Int)) ≠ 1 then gt r (536 + 14 * (w : Int)) * sTb r 0 (sLv r) / 100 else 0
def sLift (r : Rw) : Int := sm (sLi r) (gt r 7).toNat
def sWg (r : Rw) (w : Nat) : Int := if gt r (538 + 14 * (w : Int)) ≠ 1 ∧ gt r (539 + 14 * (w : Int)) < 0 then gt r (532 + 14 * (w : Int)) else 0
noncomputable def sLiv (r : Rw) (p : Nat) : Int := cI (sDd r (p : Int)) 0 1
def sGs (r : Rw) (c : Nat) : Int := sm (fun g => gt r (31 + 20 * (c : Int) + (g : Int))) 4
noncomputable def sWeight (r : Rw) : Int := sm (sWg r) (gt r 7).toNat + 60 * sm (sLiv r) (gt r 8).toNat + (sm (fun k => gt r (17 + (k : Int))) 5 + sm (sGs r) (gt r 5).toNat) / 100
noncomputable def sRiB (r : Rw) : Int := (sLift r - sWeight r).tdiv 10
noncomputable def sRi (r : Rw) : Rw := rud r 1 (if gt r 1 + (if sRiB r > 9 then 9 else if sRiB r < -9 then -9 else sRiB r) < 0 then 0 else mn 600 (gt r 1 + (if sRiB r > 9 then 9 else if sRiB r < -9 then -9 else sRiB r)))
def sFo (r : Rw) (w : Int) : Rw := rud (rud r (534 + 14 * w) (mn 100 (gt r (534 + 14 * w) + (gt r (542 + 14 * w) + gt r (541 + 14 * w)) / 100))) (542 + 14 * w) ((gt r (542 + 14 * w) + gt r (541 + 14 * w)) % 100)
def sFo1 (w : Nat) (r : Rw) : Rw := if gt r (538 + 14 * (w : Int)) = 1 then r else sFo r (w : Int)
/-- reports -/
def sKn (r : Rw) (c : Int) (f : Nat → Int) (t : Int) : Rw := rud (cpy r (42 + 20 * c) f 5) (47 + 20 * c) t
def sKn1 (r : Rw) (c : Int) (f : Nat → Int) (t : Int) : Rw := if t < gt r (47 + 20 * c) then r else sKn r c f t
def sRow (r : Rw) (i : Int) (s : Int) (f : Nat → Int) (t u : Int) : Rw := rud (rud (cpy (rud r (3610 + 8 * i) s) (3611 + 8 * i) f 5) (3616 + 8 * i) t) (3617 + 8 * i) u
/-- one report: how many stay, the row -/
def sCm (i : Nat) (q : Int × Rw) : Int × Rw := if gt q.2 (3617 + 8 * (i : Int)) ≤ gt q.2 0 then (q.1, sKn1 q.2 (gt q.2 (3610 + 8 * (i : Int))) (fun k => gt q.2 (3611 + 8 * (i : Int) + (k : Int))) (gt q.2 (3616 + 8 * (i : Int)))) else (q.1 + 1, cpy q.2 (3610 + 8 * q.1) (fun k => gt q.2 (3610 + 8 * (i : Int) + (k : Int))) 8)
def sCome (r : Rw) : Rw := rud (nf sCm (0, r) (gt r 13).toNat).2 13 (nf sCm (0, r) (gt r 13).toNat).1
def sWat (r : Rw) (c : Int) : Prop := ∃ p : Nat, (p : Int) < gt r 8 ∧ gt r (871 + 6 * (p : Int)) = 3 ∧ gt r (872 + 6 * (p : Int)) = c ∧ ¬ sDd r (p : Int)
/-- a cell reports: cell, minute, how late -/
def sSx (r : Rw) (c m l : Int) : Rw := if l = 0 then sKn r c (fun k => gt r (31 + 20 * c + (k : Int))) m else if gt r 13 < 90 then rud (sRow r (gt r 13) c (fun k => gt r (31 + 20 * c + (k : Int))) m (wr (m + l))) 13 (gt r 13 + 1) else r
def sSe1 (r : Rw) (c : Int) : Rw := sSx r c (gt r 0) (gt r 4)
noncomputable def sSe (c : Nat) (r : Rw) : Rw := cI (sWat r (c : Int)) (sSe1 r (c : Int)) r
/-- a minute -/
noncomputable def sMi1 (r : Rw) : Rw := nf sWk1 r (gt r 7).toNat
def sMi2 (r : Rw) : Rw := nf sFl1 r (gt r 6).toNat
def sMi3 (r : Rw) : Rw := nf sLk r (gt r 5).toNat
noncomputable def sMi4 (r : Rw) : Rw := nf sBr0 r (gt r 8).toNat
def sMi5 (r : Rw) : Rw := rud r 2 (wr (gt r 2 + 1))
def sMi6 (r : Rw) : Rw := nf sFo1 r (gt r 7).toNat
noncomputable def sMi7 (r : Rw) : Rw := if gt r 0 % 60 = 0 then nf sSe r (gt r 5).toNat else r
noncomputable def sMin (r : Rw) : Rw := sMi7 (rud (sMi6 (sMi5 (sRi (sMi4 (sMi3 (sMi2 (sMi1 (sCome r)))))))) 0 (gt (sMi6 (sMi5 (sRi (sMi4 (sMi3 (sMi2 (sMi1 (sCome r)))))))) 0 + 1))

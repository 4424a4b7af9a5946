set_option linter.all false
/-! WHAT IS TO BE SHOWN OF A CODE, as a proposition that unfolds instruction by instruction -/
/-- a region: cells a0 .. a1, places i0 .. i1 whose distance from i0 modulo m is at most r1; the numbers there are lo .. hi -/
abbrev fR : Type := (Nat × Nat) × ((Nat × Nat) × ((Nat × Nat) × (Int × Int)))
def fin (r : fR) (a : Nat) (i : Int) : Prop := match r with
  | ((a0, a1), ((i0, i1), ((m, r1), _))) => (a0 ≤ a ∧ a ≤ a1) ∧ ((i0 : Int) ≤ i ∧ i ≤ (i1 : Int)) ∧ (i - (i0 : Int)) % (m : Int) ≤ (r1 : Int)
def fB (bd : Nat → Nat → Int × Int) (I : fH) : Prop := ∀ a j, (bd a j).1 ≤ I a j ∧ I a j ≤ (bd a j).2
/-- a place of an array of this kind -/
def fsh (g : fG) (k : Nat) (o : Nat) (i : Int) : Prop := 0 ≤ i ∧ (∃ len, g.1 o = some (k, len) ∧ i.toNat < len) ∧ g.2 o i.toNat = none
def flget : fL → Nat → (fV → Prop) → Prop
  | [], _, _ => False
  | q :: r, i, k => match Nat.beq q.1 i with
    | true => k q.2
    | false => flget r i k
def fldrop (i b : Nat) (q : Nat × fV) : Bool := Bool.or (Nat.beq q.1 i) (Bool.or (Bool.and (Nat.beq (Nat.succ q.1) i) (Nat.beq (fis q.2) 2)) (Bool.and (Nat.beq b 2) (Nat.beq q.1 (Nat.succ i))))
def flfil (i b : Nat) : fL → (fL → Prop) → Prop
  | [], k => k []
  | q :: r, k => match fldrop i b q with
    | true => flfil i b r k
    | false => flfil i b r (fun l => k (q :: l))
def fjmp : List xI → Nat → (List xI → Prop) → Prop
  | [], _, _ => False
  | i :: c, t, k => match Nat.beq i.1 t with
    | true => k (i :: c)
    | false => fjmp c t k
def fcst (a : Nat) (k : Int → Prop) : Prop := match Nat.blt a 2147483648 with
  | true => k (a : Int)
  | false => k ((a : Int) - 4294967296)
def fcstL (a : Nat) (k : Int → Prop) : Prop := match Nat.blt a 9223372036854775808 with
  | true => k (a : Int)
  | false => k ((a : Int) - 18446744073709551616)
def fcmp : Nat → Int → Int → Prop
  | 0, x, y => x = y
  | 1, x, y => ¬ x = y
  | 2, x, y => x < y
  | 3, x, y => y ≤ x
  | 4, x, y => y < x
  | _, x, y => x ≤ y
/-- a fork -/
def fbr (c : Nat) (x y : Int) (T N : Prop) : Prop := match c with
  | 0 => (x = y → T) ∧ (¬ x = y → N)
  | 1 => (¬ x = y → T) ∧ (x = y → N)
  | 2 => (x < y → T) ∧ (y ≤ x → N)
  | 3 => (y ≤ x → T) ∧ (x < y → N)
  | 4 => (y < x → T) ∧ (x ≤ y → N)
  | _ => (x ≤ y → T) ∧ (y < x → N)
def fcut {α : Type} : List (Nat × α) → Nat → Option α
  | [], _ => none
  | q :: r, i => match Nat.beq q.1 i with
    | true => some q.2
    | false => fcut r i
/-- ints: exact, or (w = 1) what is left of them in 32 bits -/
def fibin (a w : Nat) (x y : Int) (k : Int → Prop) : Prop := match a, w with
  | 0, 0 => k (x + y)
  | 1, 0 => k (x - y)
  | 2, 0 => k (x * y)
  | 3, _ => ∀ z, fin32 z → iI z = iI x &&& iI y → (0 ≤ y ∧ y < 2147483648 → 0 ≤ z ∧ z ≤ y) → k z
  | 0, _ => ∀ z, fin32 z → iI z = iI x + iI y → (fin32 (x + y) → z = x + y) → k z
  | 1, _ => ∀ z, fin32 z → iI z = iI x - iI y → (fin32 (x - y) → z = x - y) → k z
  | 2, _ => ∀ z, fin32 z → iI z = iI x * iI y → (fin32 (x * y) → z = x * y) → k z
  | a, _ => ∀ z, fin32 z → iI z = xio a (iI x) (iI y) → k z
def flbin (a w : Nat) (x y : Int) (k : Int → Prop) : Prop := match a, w with
  | 0, 0 => k (x + y)
  | 1, 0 => k (x - y)
  | 2, 0 => k (x * y)
  | 3, _ => ∀ z, fin64 z → iL z = xlo 3 (iL x) (iL y) → (0 ≤ y ∧ y < 9223372036854775808 → 0 ≤ z ∧ z ≤ y) → k z
  | 0, _ => ∀ z, fin64 z → iL z = xlo 0 (iL x) (iL y) → (fin64 (x + y) → z = x + y) → k z
  | 1, _ => ∀ z, fin64 z → iL z = xlo 1 (iL x) (iL y) → (fin64 (x - y) → z = x - y) → k z
  | 2, _ => ∀ z, fin64 z → iL z = xlo 2 (iL x) (iL y) → (fin64 (x * y) → z = x * y) → k z
  | a, _ => ∀ z, fin64 z → iL z = xlo a (iL x) (iL y) → k z
def ftab (jump : Nat → Prop) (z : Int) : Int → List Nat → Prop
  | _, [] => True
  | lo, t :: l => (z = lo → jump t) ∧ ftab jump z (lo + 1) l
def fpop : Nat → List fV → List fV → (List fV → List fV → Prop) → Prop
  | 0, st, acc, k => k acc st
  | n + 1, v :: st, acc, k => fpop n st (v :: acc) k
  | _ + 1, [], _, _ => False
def fnth {α : Type} : List α → Nat → (α → Prop) → Prop
  | [], _, _ => False
  | x :: _, 0, k => k x
  | _ :: l, n + 1, k => fnth l n k
def fopt {α : Type} (o : Option α) (k : α → Prop) : Prop := match o with
  | some x => k x
  | none => False
def fyes (b : Bool) (p : Prop) : Prop := match b with
  | true => p
  | false => False
def fcats (st : List fV) : Nat := match st with
  | [] => 0
  | v :: st => (match fis v with | 2 => 2 | _ => 1) + fcats st
def fbd2 (p : Int × Int) (k : Int → Int → Prop) : Prop := match p with
  | (lo, hi) => k lo hi
def frcv (g : fG) (vs : List fV) (t : Nat) : Prop := match t with
  | 0 => True
  | ci + 1 => match vs with
    | .inr (.inr (some o)) :: _ => fopt (g.1 o) (fun q => q.1 = ci)
    | _ => False
def fald (a : Nat) (x y z : Prop) : Prop := match a with
  | 102 => x
  | 101 => y
  | _ => z
def fdr (a : Nat) (x y : Int) : Int := match a with
  | 0 => x / y
  | _ => x % y
def fargs : Nat → List fV → fL
  | _, [] => []
  | i, v :: vs => (i, v) :: fargs (match Nat.beq (fis v) 2 with | true => i + 2 | false => i + 1) vs
def fiw (l : List Nat) (x : Int) (k : Int → Prop) : Prop := match l with
  | [] => k x
  | _ => ∀ y, fin32 y → (fin32 x → y = x) → k y
/-- keys and targets, two by two -/
def flook (jump : Nat → Prop) (z : Int) (d : Nat) : List Nat → Prop
  | k :: t :: r => (z = (k : Int) - 2147483648 → jump t) ∧ (¬ z = (k : Int) - 2147483648 → flook jump z d r)
  | _ => jump d
def fcpy (I : fH) (o : Nat) (sp : Int) (d : Nat) (dp n : Int) : fH := fun a j => if a = d ∧ dp ≤ (j : Int) ∧ (j : Int) < dp + n then I o (sp + ((j : Int) - dp)).toNat else I a j
def fcpc (g : fG) (bd : Nat → Nat → Int × Int) (I : fH) (o : Nat) (sp : Int) (d : Nat) (dp n : Int) : Prop := ∃ lo ld : Nat, g.1 o = some (100, lo) ∧ g.1 d = some (100, ld) ∧ (0 ≤ sp ∧ 0 ≤ dp ∧ 0 ≤ n ∧ sp + n ≤ (lo : Int) ∧ dp + n ≤ (ld : Int)) ∧ (∀ j, j < lo → g.2 o j = none) ∧ (∀ j, j < ld → g.2 d j = none) ∧ ∀ j : Nat, dp ≤ (j : Int) → (j : Int) < dp + n → (bd d j).1 ≤ I o (sp + ((j : Int) - dp)).toNat ∧ I o (sp + ((j : Int) - dp)).toNat ≤ (bd d j).2
def fstep (g : fG) (bd : Nat → Nat → Int × Int) (rb : Nat → Option Nat) (C : xM → List fV → fH → (fH → Option fV → Prop) → Prop) (Ms : List xM) (go : List xI → fL → List fV → fH → Prop) (me : xM) (pc op a b : Nat) (l : List Nat) (cs : List xI) (lv : fL) (st : List fV) (I : fH) (P : fH → Option fV → Prop) : Prop := match op with
  | 0 => fcst a (fun z => go cs lv (.inl z :: st) I)
  | 1 => fcstL a (fun z => go cs lv (.inr (.inl z) :: st) I)
  | 2 => go cs lv (.inr (.inr none) :: st) I
  | 3 => flget lv a (fun v => fyes (Nat.beq (fis v) b) (go cs lv (v :: st) I))
  | 4 => match st with
    | v :: st => fyes (Nat.beq (fis v) b) (flfil a b lv (fun l => go cs ((a, v) :: l) st I))
    | [] => False
  | 5 => flget lv a (fun v => match v with
    | .inl z => fcst b (fun c => flfil a 0 lv (fun lw => fiw l (z + c) (fun y => go cs ((a, .inl y) :: lw) st I)))
    | _ => False)
  | 6 => match st with
    | .inl y :: .inl x :: st => fibin a b x y (fun z => go cs lv (.inl z :: st) I)
    | _ => False
  | 7 => match st with
    | .inl y :: .inl x :: st => (fin32 x ∧ fin32 y ∧ ¬ y = 0 ∧ Nat.blt a 2 = true) ∧ ∀ z, fin32 z → iI z = xdv a (iI x) (iI y) → (0 ≤ x → 0 < y → z = fdr a x y) → go cs lv (.inl z :: st) I
    | _ => False
  | 8 => match st with
    | .inl x :: st => ∀ z, fin32 z → iI z = xiu a (iI x) → (a = 0 → fin32 (-x) → z = -x) → go cs lv (.inl z :: st) I
    | _ => False
  | 9 => match st with
    | .inl x :: st => fin32 x ∧ go cs lv (.inr (.inl x) :: st) I
    | _ => False
  | 10 => match st with
    | .inr (.inl x) :: st => ∀ z, fin32 z → iI z = iI x → (fin32 x → z = x) → go cs lv (.inl z :: st) I
    | _ => False
  | 11 => match st with
    | .inr (.inl y) :: .inr (.inl x) :: st => flbin a b x y (fun z => go cs lv (.inr (.inl z) :: st) I)
    | _ => False
  | 12 => match st with
    | .inr (.inl y) :: .inr (.inl x) :: st => (fin64 y ∧ ¬ y = 0) ∧ ∀ z, fin64 z → iL z = xldv a (iL x) (iL y) → go cs lv (.inr (.inl z) :: st) I
    | _ => False
  | 13 => match st with
    | .inl y :: .inr (.inl x) :: st => ∀ z, fin64 z → iL z = xls a (iL x) (iI y) → go cs lv (.inr (.inl z) :: st) I
    | _ => False
  | 14 => match st with
    | .inr (.inl y) :: .inr (.inl x) :: st => (fin64 x ∧ fin64 y) ∧ ∀ z, ((x < y ∧ z = -1) ∨ (x = y ∧ z = 0) ∨ (y < x ∧ z = 1)) → go cs lv (.inl z :: st) I
    | _ => False
  | 15 => match st with
    | v :: st => fyes (Nat.blt (fis v) 2) (go cs lv (v :: v :: st) I)
    | _ => False
  | 16 => match st with
    | v :: st => fyes (Nat.blt (fis v) 2) (go cs lv st I)
    | _ => False
  | 19 => match st with
    | v :: w :: st => fyes (Bool.and (Nat.blt (fis v) 2) (Nat.blt (fis w) 2)) (go cs lv (v :: w :: v :: w :: st) I)
    | _ => False
  | 20 => match st with
    | .inl x :: st => fin32 x ∧ fbr a x 0 (fjmp (xcd me) b (fun cs => go cs lv st I)) (go cs lv st I)
    | _ => False
  | 21 => match st with
    | .inl y :: .inl x :: st => (fin32 x ∧ fin32 y) ∧ fbr a x y (fjmp (xcd me) b (fun cs => go cs lv st I)) (go cs lv st I)
    | _ => False
  | 22 => fjmp (xcd me) b (fun cs => go cs lv st I)
  | 24 => match st with
    | .inl z :: st => fin32 z ∧ ftab (fun t => fjmp (xcd me) t (fun cs => go cs lv st I)) z ((a : Int) - 2147483648) l ∧ (z < (a : Int) - 2147483648 ∨ (a : Int) - 2147483648 + (l.length : Int) ≤ z → fjmp (xcd me) b (fun cs => go cs lv st I))
    | _ => False
  | 25 => match st with
    | .inr (.inr (some o)) :: st => fopt (g.1 o) (fun q => (q.1 = a ∧ b < q.2 ∧ q.1 < 100) ∧ match g.2 o b with
      | some r => go cs lv (.inr (.inr (some r)) :: st) I
      | none => ∀ z, z = I o b → go cs lv (.inl z :: st) I)
    | _ => False
  | 26 => match st with
    | .inl v :: .inr (.inr (some o)) :: st => fopt (g.1 o) (fun q => (q.1 = a ∧ b < q.2 ∧ q.1 < 100) ∧ g.2 o b = none ∧ (xnthD l 9 0 = 0 ∨ (xnthD l 9 0 = 3 ∧ 0 ≤ v ∧ v ≤ 1)) ∧ ((bd o b).1 ≤ v ∧ v ≤ (bd o b).2) ∧ ∀ I', I' = fupd I o b v → fB bd I' → go cs lv st I')
    | _ => False
  | 30 => match st with
    | .inr (.inr (some o)) :: st => ∃ k len, g.1 o = some (k, len) ∧ (100 ≤ k ∧ k < b ∧ len < 2147483648) ∧ go cs lv (.inl (len : Int) :: st) I
    | _ => False
  | 31 => match st with
    | .inl i :: .inr (.inr (some o)) :: st => fald a
      (fopt (rb o) (fun r0 => fopt (g.1 o) (fun q => (q.1 = 102 ∧ q.2 ≤ 2147483648) ∧ (0 ≤ i ∧ i < (q.2 : Int)) ∧ go cs lv (.inr (.inr (some (r0 + i.toNat))) :: st) I)))
      (fsh g 101 o i ∧ ∀ z, z = I o i.toNat → go cs lv (.inr (.inl z) :: st) I)
      (fyes (Nat.beq a 100) (fsh g 100 o i ∧ ∀ z, z = I o i.toNat → go cs lv (.inl z :: st) I))
    | _ => False
  | 32 => match st with
    | .inl v :: .inl i :: .inr (.inr (some o)) :: st => fyes (Nat.beq a 100) (fyes (Nat.beq b 0) (fsh g 100 o i ∧ ((bd o i.toNat).1 ≤ v ∧ v ≤ (bd o i.toNat).2) ∧ ∀ I', I' = fupd I o i.toNat v → fB bd I' → go cs lv st I'))
    | .inr (.inl v) :: .inl i :: .inr (.inr (some o)) :: st => fyes (Nat.beq a 101) (fyes (Nat.beq b 2) (fsh g 101 o i ∧ ((bd o i.toNat).1 ≤ v ∧ v ≤ (bd o i.toNat).2) ∧ ∀ I', I' = fupd I o i.toNat v → fB bd I' → go cs lv st I'))
    | _ => False
  | 33 => ∃ mc, Ms[b]? = some mc ∧ (fpop a st [] (fun vs st => (Nat.ble (fcats st) 8 = true ∧ Nat.ble (fcats vs) mc.2.2.1 = true ∧ (xR mc).cells = 0 ∧ (xR mc).slots = 0) ∧ frcv g vs (xnthD l 0 0) ∧ C mc vs I (fun I' r => match r with
    | none => go cs lv st I'
    | some v => go cs lv (v :: st) I')))
  | 35 => match st with
    | v :: [] => (match v, a with
      | .inl _, 0 => True
      | .inl z, 3 => 0 ≤ z ∧ z ≤ 1
      | .inr (.inl _), 2 => True
      | _, _ => False) ∧ P I (some v)
    | _ => False
  | 36 => match st with
    | [] => P I none
    | _ => False
  | 37 => match st with
    | .inl y :: .inl x :: st => (fin32 x ∧ fin32 y ∧ Nat.ble (Nat.add (fcats st) 13) me.2.2.2.2.2.locals = true) ∧ (match a with
      | 0 => ∀ z, ((z = x ∧ x ≤ y) ∨ (z = y ∧ y ≤ x)) → go cs lv (.inl z :: st) I
      | _ => ∀ z, ((z = x ∧ y ≤ x) ∨ (z = y ∧ x ≤ y)) → go cs lv (.inl z :: st) I)
    | _ => False
  | 60 => match a with
    | 39 => match st with
      | .inl z :: st => fin32 z ∧ flook (fun t => fjmp (xcd me) t (fun cs => go cs lv st I)) z b l
      | _ => False
    | 38 => match st with
      | .inl n :: .inl dp :: .inr (.inr (some d)) :: .inl sp :: .inr (.inr (some o)) :: st => fcpc g bd I o sp d dp n ∧ Nat.ble (Nat.add (fcats st) 64) me.2.2.2.2.2.locals = true ∧ ∀ I', I' = fcpy I o sp d dp n → fB bd I' → go cs lv st I'
      | _ => False
    | _ => False
  | _ => False
def fsub : fL → fL → Prop
  | [], _ => True
  | q :: r, lv => flget lv q.1 (fun w => w = q.2) ∧ fsub r lv
/-- on to the next instruction, or to what is claimed at a cut (with a lesser number) -/
def fgo (J : List (Nat × (Nat → fL → List fV → fH → Prop))) (N : Nat) (go : List xI → fL → List fV → fH → Prop) (cs : List xI) (lv : fL) (st : List fV) (I : fH) : Prop := match cs with
  | [] => False
  | i :: cs => match fcut J i.1 with
    | some j => ∃ m, m < N ∧ ∃ lv', fsub lv' lv ∧ j m lv' st I
    | none => go (i :: cs) lv st I
def fwp (g : fG) (bd : Nat → Nat → Int × Int) (rb : Nat → Option Nat) (C : xM → List fV → fH → (fH → Option fV → Prop) → Prop) (Ms : List xM) (J : List (Nat × (Nat → fL → List fV → fH → Prop))) (N : Nat) (me : xM) (P : fH → Option fV → Prop) : Nat → List xI → fL → List fV → fH → Prop
  | 0, _, _, _, _ => False
  | _ + 1, [], _, _, _ => False
  | f + 1, (pc, op, a, b, l) :: cs, lv, st, I => fstep g bd rb C Ms (fgo J N (fwp g bd rb C Ms J N me P f)) me pc op a b l cs lv st I P

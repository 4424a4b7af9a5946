set_option linter.all false
/-! a quick reader of code (written by gen29.py) -/
abbrev qH : Type := Instr ⊕ ((Nat → Instr) ⊕ ((Nat → Nat → Instr) ⊕ Unit))
def qat (code : ByteArray) (p n : Nat) : Prop := ∃ b : UInt8, code.data.toList[p]? = some b ∧ b.toNat = n
theorem q_u1 {code : ByteArray} {p n : Nat} (h : qat code p n) : (Reader.u1 : Decoder Nat) code p = .ok (n, p + 1) := by
  obtain ⟨b, h1, rfl⟩ := h
  have hp : p < code.size := (List.getElem?_eq_some_iff.mp h1).1
  have hb : code[p] = b := by
    have := (List.getElem?_eq_some_iff.mp h1).2
    rw [← this]
    rfl
  show (if h : p < code.size then _ else _ : Decoder Nat) code p = _
  rw [dif_pos hp]
  show Except.ok (code[p].toNat, p + 1) = _
  rw [hb]
theorem q_bind {α : Type} {x : Decoder Nat} {f : Nat → Decoder α} {code : ByteArray} {p q n : Nat} (h : x code p = .ok (n, q)) : (x >>= f) code p = f n code q := by
  show Except.bind (x code p) _ = _
  rw [h]
  rfl
theorem q_bindI {α : Type} {x : Decoder Int} {f : Int → Decoder α} {code : ByteArray} {p q : Nat} {n : Int} (h : x code p = .ok (n, q)) : (x >>= f) code p = f n code q := by
  show Except.bind (x code p) _ = _
  rw [h]
  rfl
theorem q_u2 {code : ByteArray} {p a b : Nat} (h1 : qat code p a) (h2 : qat code (p + 1) b) : (Reader.u2 : Decoder Nat) code p = .ok (a * 256 + b, p + 2) :=
  (q_bind (f := fun hi => (Reader.u1 : Decoder Nat) >>= fun lo => pure (hi * 256 + lo)) (q_u1 h1)).trans ((q_bind (f := fun lo => (pure (a * 256 + lo) : Decoder Nat)) (q_u1 h2)).trans rfl)
theorem q_map {x : Decoder Nat} {f : Nat → Int} {code : ByteArray} {p q n : Nat} (h : x code p = .ok (n, q)) : (f <$> x : Decoder Int) code p = .ok (f n, q) := by
  show Except.bind (x code p) _ = _
  rw [h]
  rfl
theorem q_s1 {code : ByteArray} {p a : Nat} (h1 : qat code p a) : (Reader.s1 : Decoder Int) code p = .ok (Reader.signed 8 a, p + 1) := q_map (q_u1 h1)
theorem q_s2 {code : ByteArray} {p a b : Nat} (h1 : qat code p a) (h2 : qat code (p + 1) b) : (Reader.s2 : Decoder Int) code p = .ok (Reader.signed 16 (a * 256 + b), p + 2) := q_map (q_u2 h1 h2)
theorem q_fin {code : ByteArray} {p n : Nat} {i : Instr} (h : Decoder.instr p code p = .ok (i, p + n)) : decode code p = .ok (i, n) := by
  show Except.bind (Decoder.instr p code p) _ = _
  rw [h]
  show Except.ok (i, p + n - p) = _
  rw [Nat.add_sub_cancel_left]
def qOk (n : Nat) : qH → Prop
  | .inl i => ∀ (code : ByteArray) (p : Nat), qat code p n → decode code p = .ok (i, 1)
  | .inr (.inl f) => ∀ (code : ByteArray) (p a : Nat), qat code p n → qat code (p + 1) a → decode code p = .ok (f a, 2)
  | .inr (.inr (.inl f)) => ∀ (code : ByteArray) (p a b : Nat), qat code p n → qat code (p + 1) a → qat code (p + 2) b → decode code p = .ok (f a b, 3)
  | .inr (.inr (.inr _)) => ∀ (code : ByteArray) (p a b : Nat), qat code p n → qat code (p + 1) a → qat code (p + 2) b → decode code p = .ok (.iinc a (Reader.signed 8 b), 3)
theorem qd_25 : qOk 25 (.inr (.inl (fun a => .aload a))) := by
  intro code p a h h1
  refine q_fin ?_
  refine Eq.trans (b := (Reader.u1 >>= fun x => pure (.aload x) : Decoder Instr) code (p + 1)) ?_ ?_
  · unfold Decoder.instr
    exact q_bind (q_u1 h)
  · exact (q_bind (q_u1 h1)).trans rfl
theorem qd_42 : qOk 42 (.inl (.aload_n 0)) := by
  intro code p h
  refine q_fin ?_
  refine Eq.trans (b := (pure (.aload_n 0) : Decoder Instr) code (p + 1)) ?_ ?_
  · unfold Decoder.instr
    exact q_bind (q_u1 h)
  · rfl
theorem qd_43 : qOk 43 (.inl (.aload_n 1)) := by
  intro code p h
  refine q_fin ?_
  refine Eq.trans (b := (pure (.aload_n 1) : Decoder Instr) code (p + 1)) ?_ ?_
  · unfold Decoder.instr
    exact q_bind (q_u1 h)
  · rfl
theorem qd_44 : qOk 44 (.inl (.aload_n 2)) := by
  intro code p h
  refine q_fin ?_
  refine Eq.trans (b := (pure (.aload_n 2) : Decoder Instr) code (p + 1)) ?_ ?_
  · unfold Decoder.instr
    exact q_bind (q_u1 h)
  · rfl
theorem qd_45 : qOk 45 (.inl (.aload_n 3)) := by
  intro code p h
  refine q_fin ?_
  refine Eq.trans (b := (pure (.aload_n 3) : Decoder Instr) code (p + 1)) ?_ ?_
  · unfold Decoder.instr
    exact q_bind (q_u1 h)
  · rfl
theorem qd_21 : qOk 21 (.inr (.inl (fun a => .iload a))) := by
  intro code p a h h1
  refine q_fin ?_
  refine Eq.trans (b := (Reader.u1 >>= fun x => pure (.iload x) : Decoder Instr) code (p + 1)) ?_ ?_
  · unfold Decoder.instr
    exact q_bind (q_u1 h)
  · exact (q_bind (q_u1 h1)).trans rfl
theorem qd_26 : qOk 26 (.inl (.iload_n 0)) := by
  intro code p h
  refine q_fin ?_
  refine Eq.trans (b := (pure (.iload_n 0) : Decoder Instr) code (p + 1)) ?_ ?_
  · unfold Decoder.instr
    exact q_bind (q_u1 h)
  · rfl
theorem qd_27 : qOk 27 (.inl (.iload_n 1)) := by
  intro code p h
  refine q_fin ?_
  refine Eq.trans (b := (pure (.iload_n 1) : Decoder Instr) code (p + 1)) ?_ ?_
  · unfold Decoder.instr
    exact q_bind (q_u1 h)
  · rfl
theorem qd_28 : qOk 28 (.inl (.iload_n 2)) := by
  intro code p h
  refine q_fin ?_
  refine Eq.trans (b := (pure (.iload_n 2) : Decoder Instr) code (p + 1)) ?_ ?_
  · unfold Decoder.instr
    exact q_bind (q_u1 h)
  · rfl
theorem qd_29 : qOk 29 (.inl (.iload_n 3)) := by
  intro code p h
  refine q_fin ?_
  refine Eq.trans (b := (pure (.iload_n 3) : Decoder Instr) code (p + 1)) ?_ ?_
  · unfold Decoder.instr
    exact q_bind (q_u1 h)
  · rfl
theorem qd_180 : qOk 180 (.inr (.inr (.inl (fun a b => .getfield (a * 256 + b))))) := by
  intro code p a b h h1 h2
  refine q_fin ?_
  refine Eq.trans (b := (Reader.u2 >>= fun x => pure (.getfield x) : Decoder Instr) code (p + 1)) ?_ ?_
  · unfold Decoder.instr
    exact q_bind (q_u1 h)
  · exact (q_bind (q_u2 h1 h2)).trans rfl
theorem qd_3 : qOk 3 (.inl (.iconst 0)) := by
  intro code p h
  refine q_fin ?_
  refine Eq.trans (b := (pure (.iconst 0) : Decoder Instr) code (p + 1)) ?_ ?_
  · unfold Decoder.instr
    exact q_bind (q_u1 h)
  · rfl
theorem qd_4 : qOk 4 (.inl (.iconst 1)) := by
  intro code p h
  refine q_fin ?_
  refine Eq.trans (b := (pure (.iconst 1) : Decoder Instr) code (p + 1)) ?_ ?_
  · unfold Decoder.instr
    exact q_bind (q_u1 h)
  · rfl
theorem qd_5 : qOk 5 (.inl (.iconst 2)) := by
  intro code p h
  refine q_fin ?_
  refine Eq.trans (b := (pure (.iconst 2) : Decoder Instr) code (p + 1)) ?_ ?_
  · unfold Decoder.instr
    exact q_bind (q_u1 h)
  · rfl
theorem qd_6 : qOk 6 (.inl (.iconst 3)) := by
  intro code p h
  refine q_fin ?_
  refine Eq.trans (b := (pure (.iconst 3) : Decoder Instr) code (p + 1)) ?_ ?_
  · unfold Decoder.instr
    exact q_bind (q_u1 h)
  · rfl
theorem qd_7 : qOk 7 (.inl (.iconst 4)) := by
  intro code p h
  refine q_fin ?_
  refine Eq.trans (b := (pure (.iconst 4) : Decoder Instr) code (p + 1)) ?_ ?_
  · unfold Decoder.instr
    exact q_bind (q_u1 h)
  · rfl
theorem qd_8 : qOk 8 (.inl (.iconst 5)) := by
  intro code p h
  refine q_fin ?_
  refine Eq.trans (b := (pure (.iconst 5) : Decoder Instr) code (p + 1)) ?_ ?_
  · unfold Decoder.instr
    exact q_bind (q_u1 h)
  · rfl
theorem qd_2 : qOk 2 (.inl (.iconst (-1))) := by
  intro code p h
  refine q_fin ?_
  refine Eq.trans (b := (pure (.iconst (-1)) : Decoder Instr) code (p + 1)) ?_ ?_
  · unfold Decoder.instr
    exact q_bind (q_u1 h)
  · rfl
theorem qd_46 : qOk 46 (.inl (.iaload)) := by
  intro code p h
  refine q_fin ?_
  refine Eq.trans (b := (pure (.iaload) : Decoder Instr) code (p + 1)) ?_ ?_
  · unfold Decoder.instr
    exact q_bind (q_u1 h)
  · rfl
theorem qd_182 : qOk 182 (.inr (.inr (.inl (fun a b => .invokevirtual (a * 256 + b))))) := by
  intro code p a b h h1 h2
  refine q_fin ?_
  refine Eq.trans (b := (Reader.u2 >>= fun x => pure (.invokevirtual x) : Decoder Instr) code (p + 1)) ?_ ?_
  · unfold Decoder.instr
    exact q_bind (q_u1 h)
  · exact (q_bind (q_u2 h1 h2)).trans rfl
theorem qd_16 : qOk 16 (.inr (.inl (fun a => .bipush (Reader.signed 8 a)))) := by
  intro code p a h h1
  refine q_fin ?_
  refine Eq.trans (b := (Reader.s1 >>= fun x => pure (.bipush x) : Decoder Instr) code (p + 1)) ?_ ?_
  · unfold Decoder.instr
    exact q_bind (q_u1 h)
  · exact (q_bindI (q_s1 h1)).trans rfl
theorem qd_183 : qOk 183 (.inr (.inr (.inl (fun a b => .invokespecial (a * 256 + b))))) := by
  intro code p a b h h1 h2
  refine q_fin ?_
  refine Eq.trans (b := (Reader.u2 >>= fun x => pure (.invokespecial x) : Decoder Instr) code (p + 1)) ?_ ?_
  · unfold Decoder.instr
    exact q_bind (q_u1 h)
  · exact (q_bind (q_u2 h1 h2)).trans rfl
theorem qd_184 : qOk 184 (.inr (.inr (.inl (fun a b => .invokestatic (a * 256 + b))))) := by
  intro code p a b h h1 h2
  refine q_fin ?_
  refine Eq.trans (b := (Reader.u2 >>= fun x => pure (.invokestatic x) : Decoder Instr) code (p + 1)) ?_ ?_
  · unfold Decoder.instr
    exact q_bind (q_u1 h)
  · exact (q_bind (q_u2 h1 h2)).trans rfl
theorem qd_96 : qOk 96 (.inl (.iadd)) := by
  intro code p h
  refine q_fin ?_
  refine Eq.trans (b := (pure (.iadd) : Decoder Instr) code (p + 1)) ?_ ?_
  · unfold Decoder.instr
    exact q_bind (q_u1 h)
  · rfl
theorem qd_54 : qOk 54 (.inr (.inl (fun a => .istore a))) := by
  intro code p a h h1
  refine q_fin ?_
  refine Eq.trans (b := (Reader.u1 >>= fun x => pure (.istore x) : Decoder Instr) code (p + 1)) ?_ ?_
  · unfold Decoder.instr
    exact q_bind (q_u1 h)
  · exact (q_bind (q_u1 h1)).trans rfl
theorem qd_59 : qOk 59 (.inl (.istore_n 0)) := by
  intro code p h
  refine q_fin ?_
  refine Eq.trans (b := (pure (.istore_n 0) : Decoder Instr) code (p + 1)) ?_ ?_
  · unfold Decoder.instr
    exact q_bind (q_u1 h)
  · rfl
theorem qd_60 : qOk 60 (.inl (.istore_n 1)) := by
  intro code p h
  refine q_fin ?_
  refine Eq.trans (b := (pure (.istore_n 1) : Decoder Instr) code (p + 1)) ?_ ?_
  · unfold Decoder.instr
    exact q_bind (q_u1 h)
  · rfl
theorem qd_61 : qOk 61 (.inl (.istore_n 2)) := by
  intro code p h
  refine q_fin ?_
  refine Eq.trans (b := (pure (.istore_n 2) : Decoder Instr) code (p + 1)) ?_ ?_
  · unfold Decoder.instr
    exact q_bind (q_u1 h)
  · rfl
theorem qd_62 : qOk 62 (.inl (.istore_n 3)) := by
  intro code p h
  refine q_fin ?_
  refine Eq.trans (b := (pure (.istore_n 3) : Decoder Instr) code (p + 1)) ?_ ?_
  · unfold Decoder.instr
    exact q_bind (q_u1 h)
  · rfl
theorem qd_58 : qOk 58 (.inr (.inl (fun a => .astore a))) := by
  intro code p a h h1
  refine q_fin ?_
  refine Eq.trans (b := (Reader.u1 >>= fun x => pure (.astore x) : Decoder Instr) code (p + 1)) ?_ ?_
  · unfold Decoder.instr
    exact q_bind (q_u1 h)
  · exact (q_bind (q_u1 h1)).trans rfl
theorem qd_75 : qOk 75 (.inl (.astore_n 0)) := by
  intro code p h
  refine q_fin ?_
  refine Eq.trans (b := (pure (.astore_n 0) : Decoder Instr) code (p + 1)) ?_ ?_
  · unfold Decoder.instr
    exact q_bind (q_u1 h)
  · rfl
theorem qd_76 : qOk 76 (.inl (.astore_n 1)) := by
  intro code p h
  refine q_fin ?_
  refine Eq.trans (b := (pure (.astore_n 1) : Decoder Instr) code (p + 1)) ?_ ?_
  · unfold Decoder.instr
    exact q_bind (q_u1 h)
  · rfl
theorem qd_77 : qOk 77 (.inl (.astore_n 2)) := by
  intro code p h
  refine q_fin ?_
  refine Eq.trans (b := (pure (.astore_n 2) : Decoder Instr) code (p + 1)) ?_ ?_
  · unfold Decoder.instr
    exact q_bind (q_u1 h)
  · rfl
theorem qd_78 : qOk 78 (.inl (.astore_n 3)) := by
  intro code p h
  refine q_fin ?_
  refine Eq.trans (b := (pure (.astore_n 3) : Decoder Instr) code (p + 1)) ?_ ?_
  · unfold Decoder.instr
    exact q_bind (q_u1 h)
  · rfl
theorem qd_79 : qOk 79 (.inl (.iastore)) := by
  intro code p h
  refine q_fin ?_
  refine Eq.trans (b := (pure (.iastore) : Decoder Instr) code (p + 1)) ?_ ?_
  · unfold Decoder.instr
    exact q_bind (q_u1 h)
  · rfl
theorem qd_17 : qOk 17 (.inr (.inr (.inl (fun a b => .sipush (Reader.signed 16 (a * 256 + b)))))) := by
  intro code p a b h h1 h2
  refine q_fin ?_
  refine Eq.trans (b := (Reader.s2 >>= fun x => pure (.sipush x) : Decoder Instr) code (p + 1)) ?_ ?_
  · unfold Decoder.instr
    exact q_bind (q_u1 h)
  · exact (q_bindI (q_s2 h1 h2)).trans rfl
theorem qd_18 : qOk 18 (.inr (.inl (fun a => .ldc a))) := by
  intro code p a h h1
  refine q_fin ?_
  refine Eq.trans (b := (Reader.u1 >>= fun x => pure (.ldc x) : Decoder Instr) code (p + 1)) ?_ ?_
  · unfold Decoder.instr
    exact q_bind (q_u1 h)
  · exact (q_bind (q_u1 h1)).trans rfl
theorem qd_19 : qOk 19 (.inr (.inr (.inl (fun a b => .ldc_w (a * 256 + b))))) := by
  intro code p a b h h1 h2
  refine q_fin ?_
  refine Eq.trans (b := (Reader.u2 >>= fun x => pure (.ldc_w x) : Decoder Instr) code (p + 1)) ?_ ?_
  · unfold Decoder.instr
    exact q_bind (q_u1 h)
  · exact (q_bind (q_u2 h1 h2)).trans rfl
theorem qd_20 : qOk 20 (.inr (.inr (.inl (fun a b => .ldc2_w (a * 256 + b))))) := by
  intro code p a b h h1 h2
  refine q_fin ?_
  refine Eq.trans (b := (Reader.u2 >>= fun x => pure (.ldc2_w x) : Decoder Instr) code (p + 1)) ?_ ?_
  · unfold Decoder.instr
    exact q_bind (q_u1 h)
  · exact (q_bind (q_u2 h1 h2)).trans rfl
theorem qd_100 : qOk 100 (.inl (.isub)) := by
  intro code p h
  refine q_fin ?_
  refine Eq.trans (b := (pure (.isub) : Decoder Instr) code (p + 1)) ?_ ?_
  · unfold Decoder.instr
    exact q_bind (q_u1 h)
  · rfl
theorem qd_104 : qOk 104 (.inl (.imul)) := by
  intro code p h
  refine q_fin ?_
  refine Eq.trans (b := (pure (.imul) : Decoder Instr) code (p + 1)) ?_ ?_
  · unfold Decoder.instr
    exact q_bind (q_u1 h)
  · rfl
theorem qd_132 : qOk 132 (.inr (.inr (.inr ()))) := by
  intro code p a b h h1 h2
  refine q_fin ?_
  refine Eq.trans (b := (Reader.u1 >>= fun x => Reader.s1 >>= fun y => pure (.iinc x y) : Decoder Instr) code (p + 1)) ?_ ?_
  · unfold Decoder.instr
    exact q_bind (q_u1 h)
  · exact (q_bind (q_u1 h1)).trans ((q_bindI (q_s1 h2)).trans rfl)
theorem qd_153 : qOk 153 (.inr (.inr (.inl (fun a b => .ifCond .eq (Reader.signed 16 (a * 256 + b)))))) := by
  intro code p a b h h1 h2
  refine q_fin ?_
  refine Eq.trans (b := (Reader.s2 >>= fun x => pure (.ifCond .eq x) : Decoder Instr) code (p + 1)) ?_ ?_
  · unfold Decoder.instr
    exact q_bind (q_u1 h)
  · exact (q_bindI (q_s2 h1 h2)).trans rfl
theorem qd_154 : qOk 154 (.inr (.inr (.inl (fun a b => .ifCond .ne (Reader.signed 16 (a * 256 + b)))))) := by
  intro code p a b h h1 h2
  refine q_fin ?_
  refine Eq.trans (b := (Reader.s2 >>= fun x => pure (.ifCond .ne x) : Decoder Instr) code (p + 1)) ?_ ?_
  · unfold Decoder.instr
    exact q_bind (q_u1 h)
  · exact (q_bindI (q_s2 h1 h2)).trans rfl
theorem qd_155 : qOk 155 (.inr (.inr (.inl (fun a b => .ifCond .lt (Reader.signed 16 (a * 256 + b)))))) := by
  intro code p a b h h1 h2
  refine q_fin ?_
  refine Eq.trans (b := (Reader.s2 >>= fun x => pure (.ifCond .lt x) : Decoder Instr) code (p + 1)) ?_ ?_
  · unfold Decoder.instr
    exact q_bind (q_u1 h)
  · exact (q_bindI (q_s2 h1 h2)).trans rfl
theorem qd_156 : qOk 156 (.inr (.inr (.inl (fun a b => .ifCond .ge (Reader.signed 16 (a * 256 + b)))))) := by
  intro code p a b h h1 h2
  refine q_fin ?_
  refine Eq.trans (b := (Reader.s2 >>= fun x => pure (.ifCond .ge x) : Decoder Instr) code (p + 1)) ?_ ?_
  · unfold Decoder.instr
    exact q_bind (q_u1 h)
  · exact (q_bindI (q_s2 h1 h2)).trans rfl
theorem qd_157 : qOk 157 (.inr (.inr (.inl (fun a b => .ifCond .gt (Reader.signed 16 (a * 256 + b)))))) := by
  intro code p a b h h1 h2
  refine q_fin ?_
  refine Eq.trans (b := (Reader.s2 >>= fun x => pure (.ifCond .gt x) : Decoder Instr) code (p + 1)) ?_ ?_
  · unfold Decoder.instr
    exact q_bind (q_u1 h)
  · exact (q_bindI (q_s2 h1 h2)).trans rfl
theorem qd_158 : qOk 158 (.inr (.inr (.inl (fun a b => .ifCond .le (Reader.signed 16 (a * 256 + b)))))) := by
  intro code p a b h h1 h2
  refine q_fin ?_
  refine Eq.trans (b := (Reader.s2 >>= fun x => pure (.ifCond .le x) : Decoder Instr) code (p + 1)) ?_ ?_
  · unfold Decoder.instr
    exact q_bind (q_u1 h)
  · exact (q_bindI (q_s2 h1 h2)).trans rfl
theorem qd_159 : qOk 159 (.inr (.inr (.inl (fun a b => .if_icmp .eq (Reader.signed 16 (a * 256 + b)))))) := by
  intro code p a b h h1 h2
  refine q_fin ?_
  refine Eq.trans (b := (Reader.s2 >>= fun x => pure (.if_icmp .eq x) : Decoder Instr) code (p + 1)) ?_ ?_
  · unfold Decoder.instr
    exact q_bind (q_u1 h)
  · exact (q_bindI (q_s2 h1 h2)).trans rfl
theorem qd_160 : qOk 160 (.inr (.inr (.inl (fun a b => .if_icmp .ne (Reader.signed 16 (a * 256 + b)))))) := by
  intro code p a b h h1 h2
  refine q_fin ?_
  refine Eq.trans (b := (Reader.s2 >>= fun x => pure (.if_icmp .ne x) : Decoder Instr) code (p + 1)) ?_ ?_
  · unfold Decoder.instr
    exact q_bind (q_u1 h)
  · exact (q_bindI (q_s2 h1 h2)).trans rfl
theorem qd_161 : qOk 161 (.inr (.inr (.inl (fun a b => .if_icmp .lt (Reader.signed 16 (a * 256 + b)))))) := by
  intro code p a b h h1 h2
  refine q_fin ?_
  refine Eq.trans (b := (Reader.s2 >>= fun x => pure (.if_icmp .lt x) : Decoder Instr) code (p + 1)) ?_ ?_
  · unfold Decoder.instr
    exact q_bind (q_u1 h)
  · exact (q_bindI (q_s2 h1 h2)).trans rfl
theorem qd_162 : qOk 162 (.inr (.inr (.inl (fun a b => .if_icmp .ge (Reader.signed 16 (a * 256 + b)))))) := by
  intro code p a b h h1 h2
  refine q_fin ?_
  refine Eq.trans (b := (Reader.s2 >>= fun x => pure (.if_icmp .ge x) : Decoder Instr) code (p + 1)) ?_ ?_
  · unfold Decoder.instr
    exact q_bind (q_u1 h)
  · exact (q_bindI (q_s2 h1 h2)).trans rfl
theorem qd_163 : qOk 163 (.inr (.inr (.inl (fun a b => .if_icmp .gt (Reader.signed 16 (a * 256 + b)))))) := by
  intro code p a b h h1 h2
  refine q_fin ?_
  refine Eq.trans (b := (Reader.s2 >>= fun x => pure (.if_icmp .gt x) : Decoder Instr) code (p + 1)) ?_ ?_
  · unfold Decoder.instr
    exact q_bind (q_u1 h)
  · exact (q_bindI (q_s2 h1 h2)).trans rfl
theorem qd_164 : qOk 164 (.inr (.inr (.inl (fun a b => .if_icmp .le (Reader.signed 16 (a * 256 + b)))))) := by
  intro code p a b h h1 h2
  refine q_fin ?_
  refine Eq.trans (b := (Reader.s2 >>= fun x => pure (.if_icmp .le x) : Decoder Instr) code (p + 1)) ?_ ?_
  · unfold Decoder.instr
    exact q_bind (q_u1 h)
  · exact (q_bindI (q_s2 h1 h2)).trans rfl
theorem qd_167 : qOk 167 (.inr (.inr (.inl (fun a b => .goto (Reader.signed 16 (a * 256 + b)))))) := by
  intro code p a b h h1 h2
  refine q_fin ?_
  refine Eq.trans (b := (Reader.s2 >>= fun x => pure (.goto x) : Decoder Instr) code (p + 1)) ?_ ?_
  · unfold Decoder.instr
    exact q_bind (q_u1 h)
  · exact (q_bindI (q_s2 h1 h2)).trans rfl
theorem qd_172 : qOk 172 (.inl (.ireturn)) := by
  intro code p h
  refine q_fin ?_
  refine Eq.trans (b := (pure (.ireturn) : Decoder Instr) code (p + 1)) ?_ ?_
  · unfold Decoder.instr
    exact q_bind (q_u1 h)
  · rfl
theorem qd_177 : qOk 177 (.inl (.return_)) := by
  intro code p h
  refine q_fin ?_
  refine Eq.trans (b := (pure (.return_) : Decoder Instr) code (p + 1)) ?_ ?_
  · unfold Decoder.instr
    exact q_bind (q_u1 h)
  · rfl
theorem qd_181 : qOk 181 (.inr (.inr (.inl (fun a b => .putfield (a * 256 + b))))) := by
  intro code p a b h h1 h2
  refine q_fin ?_
  refine Eq.trans (b := (Reader.u2 >>= fun x => pure (.putfield x) : Decoder Instr) code (p + 1)) ?_ ?_
  · unfold Decoder.instr
    exact q_bind (q_u1 h)
  · exact (q_bind (q_u2 h1 h2)).trans rfl
theorem qd_9 : qOk 9 (.inl (.lconst 0)) := by
  intro code p h
  refine q_fin ?_
  refine Eq.trans (b := (pure (.lconst 0) : Decoder Instr) code (p + 1)) ?_ ?_
  · unfold Decoder.instr
    exact q_bind (q_u1 h)
  · rfl
theorem qd_10 : qOk 10 (.inl (.lconst 1)) := by
  intro code p h
  refine q_fin ?_
  refine Eq.trans (b := (pure (.lconst 1) : Decoder Instr) code (p + 1)) ?_ ?_
  · unfold Decoder.instr
    exact q_bind (q_u1 h)
  · rfl
theorem qd_1 : qOk 1 (.inl (.aconst_null)) := by
  intro code p h
  refine q_fin ?_
  refine Eq.trans (b := (pure (.aconst_null) : Decoder Instr) code (p + 1)) ?_ ?_
  · unfold Decoder.instr
    exact q_bind (q_u1 h)
  · rfl
theorem qd_22 : qOk 22 (.inr (.inl (fun a => .lload a))) := by
  intro code p a h h1
  refine q_fin ?_
  refine Eq.trans (b := (Reader.u1 >>= fun x => pure (.lload x) : Decoder Instr) code (p + 1)) ?_ ?_
  · unfold Decoder.instr
    exact q_bind (q_u1 h)
  · exact (q_bind (q_u1 h1)).trans rfl
theorem qd_30 : qOk 30 (.inl (.lload_n 0)) := by
  intro code p h
  refine q_fin ?_
  refine Eq.trans (b := (pure (.lload_n 0) : Decoder Instr) code (p + 1)) ?_ ?_
  · unfold Decoder.instr
    exact q_bind (q_u1 h)
  · rfl
theorem qd_31 : qOk 31 (.inl (.lload_n 1)) := by
  intro code p h
  refine q_fin ?_
  refine Eq.trans (b := (pure (.lload_n 1) : Decoder Instr) code (p + 1)) ?_ ?_
  · unfold Decoder.instr
    exact q_bind (q_u1 h)
  · rfl
theorem qd_32 : qOk 32 (.inl (.lload_n 2)) := by
  intro code p h
  refine q_fin ?_
  refine Eq.trans (b := (pure (.lload_n 2) : Decoder Instr) code (p + 1)) ?_ ?_
  · unfold Decoder.instr
    exact q_bind (q_u1 h)
  · rfl
theorem qd_33 : qOk 33 (.inl (.lload_n 3)) := by
  intro code p h
  refine q_fin ?_
  refine Eq.trans (b := (pure (.lload_n 3) : Decoder Instr) code (p + 1)) ?_ ?_
  · unfold Decoder.instr
    exact q_bind (q_u1 h)
  · rfl
theorem qd_47 : qOk 47 (.inl (.laload)) := by
  intro code p h
  refine q_fin ?_
  refine Eq.trans (b := (pure (.laload) : Decoder Instr) code (p + 1)) ?_ ?_
  · unfold Decoder.instr
    exact q_bind (q_u1 h)
  · rfl
theorem qd_50 : qOk 50 (.inl (.aaload)) := by
  intro code p h
  refine q_fin ?_
  refine Eq.trans (b := (pure (.aaload) : Decoder Instr) code (p + 1)) ?_ ?_
  · unfold Decoder.instr
    exact q_bind (q_u1 h)
  · rfl
theorem qd_55 : qOk 55 (.inr (.inl (fun a => .lstore a))) := by
  intro code p a h h1
  refine q_fin ?_
  refine Eq.trans (b := (Reader.u1 >>= fun x => pure (.lstore x) : Decoder Instr) code (p + 1)) ?_ ?_
  · unfold Decoder.instr
    exact q_bind (q_u1 h)
  · exact (q_bind (q_u1 h1)).trans rfl
theorem qd_63 : qOk 63 (.inl (.lstore_n 0)) := by
  intro code p h
  refine q_fin ?_
  refine Eq.trans (b := (pure (.lstore_n 0) : Decoder Instr) code (p + 1)) ?_ ?_
  · unfold Decoder.instr
    exact q_bind (q_u1 h)
  · rfl
theorem qd_64 : qOk 64 (.inl (.lstore_n 1)) := by
  intro code p h
  refine q_fin ?_
  refine Eq.trans (b := (pure (.lstore_n 1) : Decoder Instr) code (p + 1)) ?_ ?_
  · unfold Decoder.instr
    exact q_bind (q_u1 h)
  · rfl
theorem qd_65 : qOk 65 (.inl (.lstore_n 2)) := by
  intro code p h
  refine q_fin ?_
  refine Eq.trans (b := (pure (.lstore_n 2) : Decoder Instr) code (p + 1)) ?_ ?_
  · unfold Decoder.instr
    exact q_bind (q_u1 h)
  · rfl
theorem qd_66 : qOk 66 (.inl (.lstore_n 3)) := by
  intro code p h
  refine q_fin ?_
  refine Eq.trans (b := (pure (.lstore_n 3) : Decoder Instr) code (p + 1)) ?_ ?_
  · unfold Decoder.instr
    exact q_bind (q_u1 h)
  · rfl
theorem qd_80 : qOk 80 (.inl (.lastore)) := by
  intro code p h
  refine q_fin ?_
  refine Eq.trans (b := (pure (.lastore) : Decoder Instr) code (p + 1)) ?_ ?_
  · unfold Decoder.instr
    exact q_bind (q_u1 h)
  · rfl
theorem qd_87 : qOk 87 (.inl (.pop)) := by
  intro code p h
  refine q_fin ?_
  refine Eq.trans (b := (pure (.pop) : Decoder Instr) code (p + 1)) ?_ ?_
  · unfold Decoder.instr
    exact q_bind (q_u1 h)
  · rfl
theorem qd_89 : qOk 89 (.inl (.dup)) := by
  intro code p h
  refine q_fin ?_
  refine Eq.trans (b := (pure (.dup) : Decoder Instr) code (p + 1)) ?_ ?_
  · unfold Decoder.instr
    exact q_bind (q_u1 h)
  · rfl
theorem qd_90 : qOk 90 (.inl (.dup_x1)) := by
  intro code p h
  refine q_fin ?_
  refine Eq.trans (b := (pure (.dup_x1) : Decoder Instr) code (p + 1)) ?_ ?_
  · unfold Decoder.instr
    exact q_bind (q_u1 h)
  · rfl
theorem qd_91 : qOk 91 (.inl (.dup_x2)) := by
  intro code p h
  refine q_fin ?_
  refine Eq.trans (b := (pure (.dup_x2) : Decoder Instr) code (p + 1)) ?_ ?_
  · unfold Decoder.instr
    exact q_bind (q_u1 h)
  · rfl
theorem qd_92 : qOk 92 (.inl (.dup2)) := by
  intro code p h
  refine q_fin ?_
  refine Eq.trans (b := (pure (.dup2) : Decoder Instr) code (p + 1)) ?_ ?_
  · unfold Decoder.instr
    exact q_bind (q_u1 h)
  · rfl
theorem qd_97 : qOk 97 (.inl (.ladd)) := by
  intro code p h
  refine q_fin ?_
  refine Eq.trans (b := (pure (.ladd) : Decoder Instr) code (p + 1)) ?_ ?_
  · unfold Decoder.instr
    exact q_bind (q_u1 h)
  · rfl
theorem qd_101 : qOk 101 (.inl (.lsub)) := by
  intro code p h
  refine q_fin ?_
  refine Eq.trans (b := (pure (.lsub) : Decoder Instr) code (p + 1)) ?_ ?_
  · unfold Decoder.instr
    exact q_bind (q_u1 h)
  · rfl
theorem qd_105 : qOk 105 (.inl (.lmul)) := by
  intro code p h
  refine q_fin ?_
  refine Eq.trans (b := (pure (.lmul) : Decoder Instr) code (p + 1)) ?_ ?_
  · unfold Decoder.instr
    exact q_bind (q_u1 h)
  · rfl
theorem qd_108 : qOk 108 (.inl (.idiv)) := by
  intro code p h
  refine q_fin ?_
  refine Eq.trans (b := (pure (.idiv) : Decoder Instr) code (p + 1)) ?_ ?_
  · unfold Decoder.instr
    exact q_bind (q_u1 h)
  · rfl
theorem qd_109 : qOk 109 (.inl (.ldiv)) := by
  intro code p h
  refine q_fin ?_
  refine Eq.trans (b := (pure (.ldiv) : Decoder Instr) code (p + 1)) ?_ ?_
  · unfold Decoder.instr
    exact q_bind (q_u1 h)
  · rfl
theorem qd_112 : qOk 112 (.inl (.irem)) := by
  intro code p h
  refine q_fin ?_
  refine Eq.trans (b := (pure (.irem) : Decoder Instr) code (p + 1)) ?_ ?_
  · unfold Decoder.instr
    exact q_bind (q_u1 h)
  · rfl
theorem qd_113 : qOk 113 (.inl (.lrem)) := by
  intro code p h
  refine q_fin ?_
  refine Eq.trans (b := (pure (.lrem) : Decoder Instr) code (p + 1)) ?_ ?_
  · unfold Decoder.instr
    exact q_bind (q_u1 h)
  · rfl
theorem qd_116 : qOk 116 (.inl (.ineg)) := by
  intro code p h
  refine q_fin ?_
  refine Eq.trans (b := (pure (.ineg) : Decoder Instr) code (p + 1)) ?_ ?_
  · unfold Decoder.instr
    exact q_bind (q_u1 h)
  · rfl
theorem qd_120 : qOk 120 (.inl (.ishl)) := by
  intro code p h
  refine q_fin ?_
  refine Eq.trans (b := (pure (.ishl) : Decoder Instr) code (p + 1)) ?_ ?_
  · unfold Decoder.instr
    exact q_bind (q_u1 h)
  · rfl
theorem qd_121 : qOk 121 (.inl (.lshl)) := by
  intro code p h
  refine q_fin ?_
  refine Eq.trans (b := (pure (.lshl) : Decoder Instr) code (p + 1)) ?_ ?_
  · unfold Decoder.instr
    exact q_bind (q_u1 h)
  · rfl
theorem qd_122 : qOk 122 (.inl (.ishr)) := by
  intro code p h
  refine q_fin ?_
  refine Eq.trans (b := (pure (.ishr) : Decoder Instr) code (p + 1)) ?_ ?_
  · unfold Decoder.instr
    exact q_bind (q_u1 h)
  · rfl
theorem qd_123 : qOk 123 (.inl (.lshr)) := by
  intro code p h
  refine q_fin ?_
  refine Eq.trans (b := (pure (.lshr) : Decoder Instr) code (p + 1)) ?_ ?_
  · unfold Decoder.instr
    exact q_bind (q_u1 h)
  · rfl
theorem qd_124 : qOk 124 (.inl (.iushr)) := by
  intro code p h
  refine q_fin ?_
  refine Eq.trans (b := (pure (.iushr) : Decoder Instr) code (p + 1)) ?_ ?_
  · unfold Decoder.instr
    exact q_bind (q_u1 h)
  · rfl
theorem qd_125 : qOk 125 (.inl (.lushr)) := by
  intro code p h
  refine q_fin ?_
  refine Eq.trans (b := (pure (.lushr) : Decoder Instr) code (p + 1)) ?_ ?_
  · unfold Decoder.instr
    exact q_bind (q_u1 h)
  · rfl
theorem qd_126 : qOk 126 (.inl (.iand)) := by
  intro code p h
  refine q_fin ?_
  refine Eq.trans (b := (pure (.iand) : Decoder Instr) code (p + 1)) ?_ ?_
  · unfold Decoder.instr
    exact q_bind (q_u1 h)
  · rfl
theorem qd_127 : qOk 127 (.inl (.land)) := by
  intro code p h
  refine q_fin ?_
  refine Eq.trans (b := (pure (.land) : Decoder Instr) code (p + 1)) ?_ ?_
  · unfold Decoder.instr
    exact q_bind (q_u1 h)
  · rfl
theorem qd_128 : qOk 128 (.inl (.ior)) := by
  intro code p h
  refine q_fin ?_
  refine Eq.trans (b := (pure (.ior) : Decoder Instr) code (p + 1)) ?_ ?_
  · unfold Decoder.instr
    exact q_bind (q_u1 h)
  · rfl
theorem qd_129 : qOk 129 (.inl (.lor)) := by
  intro code p h
  refine q_fin ?_
  refine Eq.trans (b := (pure (.lor) : Decoder Instr) code (p + 1)) ?_ ?_
  · unfold Decoder.instr
    exact q_bind (q_u1 h)
  · rfl
theorem qd_130 : qOk 130 (.inl (.ixor)) := by
  intro code p h
  refine q_fin ?_
  refine Eq.trans (b := (pure (.ixor) : Decoder Instr) code (p + 1)) ?_ ?_
  · unfold Decoder.instr
    exact q_bind (q_u1 h)
  · rfl
theorem qd_131 : qOk 131 (.inl (.lxor)) := by
  intro code p h
  refine q_fin ?_
  refine Eq.trans (b := (pure (.lxor) : Decoder Instr) code (p + 1)) ?_ ?_
  · unfold Decoder.instr
    exact q_bind (q_u1 h)
  · rfl
theorem qd_133 : qOk 133 (.inl (.i2l)) := by
  intro code p h
  refine q_fin ?_
  refine Eq.trans (b := (pure (.i2l) : Decoder Instr) code (p + 1)) ?_ ?_
  · unfold Decoder.instr
    exact q_bind (q_u1 h)
  · rfl
theorem qd_136 : qOk 136 (.inl (.l2i)) := by
  intro code p h
  refine q_fin ?_
  refine Eq.trans (b := (pure (.l2i) : Decoder Instr) code (p + 1)) ?_ ?_
  · unfold Decoder.instr
    exact q_bind (q_u1 h)
  · rfl
theorem qd_145 : qOk 145 (.inl (.i2b)) := by
  intro code p h
  refine q_fin ?_
  refine Eq.trans (b := (pure (.i2b) : Decoder Instr) code (p + 1)) ?_ ?_
  · unfold Decoder.instr
    exact q_bind (q_u1 h)
  · rfl
theorem qd_146 : qOk 146 (.inl (.i2c)) := by
  intro code p h
  refine q_fin ?_
  refine Eq.trans (b := (pure (.i2c) : Decoder Instr) code (p + 1)) ?_ ?_
  · unfold Decoder.instr
    exact q_bind (q_u1 h)
  · rfl
theorem qd_147 : qOk 147 (.inl (.i2s)) := by
  intro code p h
  refine q_fin ?_
  refine Eq.trans (b := (pure (.i2s) : Decoder Instr) code (p + 1)) ?_ ?_
  · unfold Decoder.instr
    exact q_bind (q_u1 h)
  · rfl
theorem qd_148 : qOk 148 (.inl (.lcmp)) := by
  intro code p h
  refine q_fin ?_
  refine Eq.trans (b := (pure (.lcmp) : Decoder Instr) code (p + 1)) ?_ ?_
  · unfold Decoder.instr
    exact q_bind (q_u1 h)
  · rfl
theorem qd_173 : qOk 173 (.inl (.lreturn)) := by
  intro code p h
  refine q_fin ?_
  refine Eq.trans (b := (pure (.lreturn) : Decoder Instr) code (p + 1)) ?_ ?_
  · unfold Decoder.instr
    exact q_bind (q_u1 h)
  · rfl
theorem qd_187 : qOk 187 (.inr (.inr (.inl (fun a b => .new (a * 256 + b))))) := by
  intro code p a b h h1 h2
  refine q_fin ?_
  refine Eq.trans (b := (Reader.u2 >>= fun x => pure (.new x) : Decoder Instr) code (p + 1)) ?_ ?_
  · unfold Decoder.instr
    exact q_bind (q_u1 h)
  · exact (q_bind (q_u2 h1 h2)).trans rfl
theorem qd_189 : qOk 189 (.inr (.inr (.inl (fun a b => .anewarray (a * 256 + b))))) := by
  intro code p a b h h1 h2
  refine q_fin ?_
  refine Eq.trans (b := (Reader.u2 >>= fun x => pure (.anewarray x) : Decoder Instr) code (p + 1)) ?_ ?_
  · unfold Decoder.instr
    exact q_bind (q_u1 h)
  · exact (q_bind (q_u2 h1 h2)).trans rfl
theorem qd_190 : qOk 190 (.inl (.arraylength)) := by
  intro code p h
  refine q_fin ?_
  refine Eq.trans (b := (pure (.arraylength) : Decoder Instr) code (p + 1)) ?_ ?_
  · unfold Decoder.instr
    exact q_bind (q_u1 h)
  · rfl
theorem qd_198 : qOk 198 (.inr (.inr (.inl (fun a b => .ifnull (Reader.signed 16 (a * 256 + b)))))) := by
  intro code p a b h h1 h2
  refine q_fin ?_
  refine Eq.trans (b := (Reader.s2 >>= fun x => pure (.ifnull x) : Decoder Instr) code (p + 1)) ?_ ?_
  · unfold Decoder.instr
    exact q_bind (q_u1 h)
  · exact (q_bindI (q_s2 h1 h2)).trans rfl
theorem qd_199 : qOk 199 (.inr (.inr (.inl (fun a b => .ifnonnull (Reader.signed 16 (a * 256 + b)))))) := by
  intro code p a b h h1 h2
  refine q_fin ?_
  refine Eq.trans (b := (Reader.s2 >>= fun x => pure (.ifnonnull x) : Decoder Instr) code (p + 1)) ?_ ?_
  · unfold Decoder.instr
    exact q_bind (q_u1 h)
  · exact (q_bindI (q_s2 h1 h2)).trans rfl
def qtab : List (Nat × qH) := [(25, .inr (.inl (fun a => .aload a))), (42, .inl (.aload_n 0)), (43, .inl (.aload_n 1)), (44, .inl (.aload_n 2)), (45, .inl (.aload_n 3)), (21, .inr (.inl (fun a => .iload a))), (26, .inl (.iload_n 0)), (27, .inl (.iload_n 1)), (28, .inl (.iload_n 2)), (29, .inl (.iload_n 3)), (180, .inr (.inr (.inl (fun a b => .getfield (a * 256 + b))))), (3, .inl (.iconst 0)), (4, .inl (.iconst 1)), (5, .inl (.iconst 2)), (6, .inl (.iconst 3)), (7, .inl (.iconst 4)), (8, .inl (.iconst 5)), (2, .inl (.iconst (-1))), (46, .inl (.iaload)), (182, .inr (.inr (.inl (fun a b => .invokevirtual (a * 256 + b))))), (16, .inr (.inl (fun a => .bipush (Reader.signed 8 a)))), (183, .inr (.inr (.inl (fun a b => .invokespecial (a * 256 + b))))), (184, .inr (.inr (.inl (fun a b => .invokestatic (a * 256 + b))))), (96, .inl (.iadd)), (54, .inr (.inl (fun a => .istore a))), (59, .inl (.istore_n 0)), (60, .inl (.istore_n 1)), (61, .inl (.istore_n 2)), (62, .inl (.istore_n 3)), (58, .inr (.inl (fun a => .astore a))), (75, .inl (.astore_n 0)), (76, .inl (.astore_n 1)), (77, .inl (.astore_n 2)), (78, .inl (.astore_n 3)), (79, .inl (.iastore)), (17, .inr (.inr (.inl (fun a b => .sipush (Reader.signed 16 (a * 256 + b)))))), (18, .inr (.inl (fun a => .ldc a))), (19, .inr (.inr (.inl (fun a b => .ldc_w (a * 256 + b))))), (20, .inr (.inr (.inl (fun a b => .ldc2_w (a * 256 + b))))), (100, .inl (.isub)), (104, .inl (.imul)), (132, .inr (.inr (.inr ()))), (153, .inr (.inr (.inl (fun a b => .ifCond .eq (Reader.signed 16 (a * 256 + b)))))), (154, .inr (.inr (.inl (fun a b => .ifCond .ne (Reader.signed 16 (a * 256 + b)))))), (155, .inr (.inr (.inl (fun a b => .ifCond .lt (Reader.signed 16 (a * 256 + b)))))), (156, .inr (.inr (.inl (fun a b => .ifCond .ge (Reader.signed 16 (a * 256 + b)))))), (157, .inr (.inr (.inl (fun a b => .ifCond .gt (Reader.signed 16 (a * 256 + b)))))), (158, .inr (.inr (.inl (fun a b => .ifCond .le (Reader.signed 16 (a * 256 + b)))))), (159, .inr (.inr (.inl (fun a b => .if_icmp .eq (Reader.signed 16 (a * 256 + b)))))), (160, .inr (.inr (.inl (fun a b => .if_icmp .ne (Reader.signed 16 (a * 256 + b)))))), (161, .inr (.inr (.inl (fun a b => .if_icmp .lt (Reader.signed 16 (a * 256 + b)))))), (162, .inr (.inr (.inl (fun a b => .if_icmp .ge (Reader.signed 16 (a * 256 + b)))))), (163, .inr (.inr (.inl (fun a b => .if_icmp .gt (Reader.signed 16 (a * 256 + b)))))), (164, .inr (.inr (.inl (fun a b => .if_icmp .le (Reader.signed 16 (a * 256 + b)))))), (167, .inr (.inr (.inl (fun a b => .goto (Reader.signed 16 (a * 256 + b)))))), (172, .inl (.ireturn)), (177, .inl (.return_)), (181, .inr (.inr (.inl (fun a b => .putfield (a * 256 + b))))), (9, .inl (.lconst 0)), (10, .inl (.lconst 1)), (1, .inl (.aconst_null)), (22, .inr (.inl (fun a => .lload a))), (30, .inl (.lload_n 0)), (31, .inl (.lload_n 1)), (32, .inl (.lload_n 2)), (33, .inl (.lload_n 3)), (47, .inl (.laload)), (50, .inl (.aaload)), (55, .inr (.inl (fun a => .lstore a))), (63, .inl (.lstore_n 0)), (64, .inl (.lstore_n 1)), (65, .inl (.lstore_n 2)), (66, .inl (.lstore_n 3)), (80, .inl (.lastore)), (87, .inl (.pop)), (89, .inl (.dup)), (90, .inl (.dup_x1)), (91, .inl (.dup_x2)), (92, .inl (.dup2)), (97, .inl (.ladd)), (101, .inl (.lsub)), (105, .inl (.lmul)), (108, .inl (.idiv)), (109, .inl (.ldiv)), (112, .inl (.irem)), (113, .inl (.lrem)), (116, .inl (.ineg)), (120, .inl (.ishl)), (121, .inl (.lshl)), (122, .inl (.ishr)), (123, .inl (.lshr)), (124, .inl (.iushr)), (125, .inl (.lushr)), (126, .inl (.iand)), (127, .inl (.land)), (128, .inl (.ior)), (129, .inl (.lor)), (130, .inl (.ixor)), (131, .inl (.lxor)), (133, .inl (.i2l)), (136, .inl (.l2i)), (145, .inl (.i2b)), (146, .inl (.i2c)), (147, .inl (.i2s)), (148, .inl (.lcmp)), (173, .inl (.lreturn)), (187, .inr (.inr (.inl (fun a b => .new (a * 256 + b))))), (189, .inr (.inr (.inl (fun a b => .anewarray (a * 256 + b))))), (190, .inl (.arraylength)), (198, .inr (.inr (.inl (fun a b => .ifnull (Reader.signed 16 (a * 256 + b)))))), (199, .inr (.inr (.inl (fun a b => .ifnonnull (Reader.signed 16 (a * 256 + b))))))]
theorem qtab_ok : ∀ e ∈ qtab, qOk e.1 e.2 := by
  unfold qtab
  refine List.forall_mem_cons.mpr ⟨qd_25, List.forall_mem_cons.mpr ⟨qd_42, List.forall_mem_cons.mpr ⟨qd_43, List.forall_mem_cons.mpr ⟨qd_44, List.forall_mem_cons.mpr ⟨qd_45, List.forall_mem_cons.mpr ⟨qd_21, List.forall_mem_cons.mpr ⟨qd_26, List.forall_mem_cons.mpr ⟨qd_27, List.forall_mem_cons.mpr ⟨qd_28, List.forall_mem_cons.mpr ⟨qd_29, List.forall_mem_cons.mpr ⟨qd_180, List.forall_mem_cons.mpr ⟨qd_3, List.forall_mem_cons.mpr ⟨qd_4, List.forall_mem_cons.mpr ⟨qd_5, List.forall_mem_cons.mpr ⟨qd_6, List.forall_mem_cons.mpr ⟨qd_7, List.forall_mem_cons.mpr ⟨qd_8, List.forall_mem_cons.mpr ⟨qd_2, List.forall_mem_cons.mpr ⟨qd_46, List.forall_mem_cons.mpr ⟨qd_182, List.forall_mem_cons.mpr ⟨qd_16, List.forall_mem_cons.mpr ⟨qd_183, List.forall_mem_cons.mpr ⟨qd_184, List.forall_mem_cons.mpr ⟨qd_96, List.forall_mem_cons.mpr ⟨qd_54, List.forall_mem_cons.mpr ⟨qd_59, List.forall_mem_cons.mpr ⟨qd_60, List.forall_mem_cons.mpr ⟨qd_61, List.forall_mem_cons.mpr ⟨qd_62, List.forall_mem_cons.mpr ⟨qd_58, List.forall_mem_cons.mpr ⟨qd_75, List.forall_mem_cons.mpr ⟨qd_76, List.forall_mem_cons.mpr ⟨qd_77, List.forall_mem_cons.mpr ⟨qd_78, List.forall_mem_cons.mpr ⟨qd_79, List.forall_mem_cons.mpr ⟨qd_17, List.forall_mem_cons.mpr ⟨qd_18, List.forall_mem_cons.mpr ⟨qd_19, List.forall_mem_cons.mpr ⟨qd_20, List.forall_mem_cons.mpr ⟨qd_100, List.forall_mem_cons.mpr ⟨qd_104, List.forall_mem_cons.mpr ⟨qd_132, List.forall_mem_cons.mpr ⟨qd_153, List.forall_mem_cons.mpr ⟨qd_154, List.forall_mem_cons.mpr ⟨qd_155, List.forall_mem_cons.mpr ⟨qd_156, List.forall_mem_cons.mpr ⟨qd_157, List.forall_mem_cons.mpr ⟨qd_158, List.forall_mem_cons.mpr ⟨qd_159, List.forall_mem_cons.mpr ⟨qd_160, List.forall_mem_cons.mpr ⟨qd_161, List.forall_mem_cons.mpr ⟨qd_162, List.forall_mem_cons.mpr ⟨qd_163, List.forall_mem_cons.mpr ⟨qd_164, List.forall_mem_cons.mpr ⟨qd_167, List.forall_mem_cons.mpr ⟨qd_172, List.forall_mem_cons.mpr ⟨qd_177, List.forall_mem_cons.mpr ⟨qd_181, List.forall_mem_cons.mpr ⟨qd_9, List.forall_mem_cons.mpr ⟨qd_10, List.forall_mem_cons.mpr ⟨qd_1, List.forall_mem_cons.mpr ⟨qd_22, List.forall_mem_cons.mpr ⟨qd_30, List.forall_mem_cons.mpr ⟨qd_31, List.forall_mem_cons.mpr ⟨qd_32, List.forall_mem_cons.mpr ⟨qd_33, List.forall_mem_cons.mpr ⟨qd_47, List.forall_mem_cons.mpr ⟨qd_50, List.forall_mem_cons.mpr ⟨qd_55, List.forall_mem_cons.mpr ⟨qd_63, List.forall_mem_cons.mpr ⟨qd_64, List.forall_mem_cons.mpr ⟨qd_65, List.forall_mem_cons.mpr ⟨qd_66, List.forall_mem_cons.mpr ⟨qd_80, List.forall_mem_cons.mpr ⟨qd_87, List.forall_mem_cons.mpr ⟨qd_89, List.forall_mem_cons.mpr ⟨qd_90, List.forall_mem_cons.mpr ⟨qd_91, List.forall_mem_cons.mpr ⟨qd_92, List.forall_mem_cons.mpr ⟨qd_97, List.forall_mem_cons.mpr ⟨qd_101, List.forall_mem_cons.mpr ⟨qd_105, List.forall_mem_cons.mpr ⟨qd_108, List.forall_mem_cons.mpr ⟨qd_109, List.forall_mem_cons.mpr ⟨qd_112, List.forall_mem_cons.mpr ⟨qd_113, List.forall_mem_cons.mpr ⟨qd_116, List.forall_mem_cons.mpr ⟨qd_120, List.forall_mem_cons.mpr ⟨qd_121, List.forall_mem_cons.mpr ⟨qd_122, List.forall_mem_cons.mpr ⟨qd_123, List.forall_mem_cons.mpr ⟨qd_124, List.forall_mem_cons.mpr ⟨qd_125, List.forall_mem_cons.mpr ⟨qd_126, List.forall_mem_cons.mpr ⟨qd_127, List.forall_mem_cons.mpr ⟨qd_128, List.forall_mem_cons.mpr ⟨qd_129, List.forall_mem_cons.mpr ⟨qd_130, List.forall_mem_cons.mpr ⟨qd_131, List.forall_mem_cons.mpr ⟨qd_133, List.forall_mem_cons.mpr ⟨qd_136, List.forall_mem_cons.mpr ⟨qd_145, List.forall_mem_cons.mpr ⟨qd_146, List.forall_mem_cons.mpr ⟨qd_147, List.forall_mem_cons.mpr ⟨qd_148, List.forall_mem_cons.mpr ⟨qd_173, List.forall_mem_cons.mpr ⟨qd_187, List.forall_mem_cons.mpr ⟨qd_189, List.forall_mem_cons.mpr ⟨qd_190, List.forall_mem_cons.mpr ⟨qd_198, List.forall_mem_cons.mpr ⟨qd_199, fun q h => absurd h List.not_mem_nil⟩⟩⟩⟩⟩⟩⟩⟩⟩⟩⟩⟩⟩⟩⟩⟩⟩⟩⟩⟩⟩⟩⟩⟩⟩⟩⟩⟩⟩⟩⟩⟩⟩⟩⟩⟩⟩⟩⟩⟩⟩⟩⟩⟩⟩⟩⟩⟩⟩⟩⟩⟩⟩⟩⟩⟩⟩⟩⟩⟩⟩⟩⟩⟩⟩⟩⟩⟩⟩⟩⟩⟩⟩⟩⟩⟩⟩⟩⟩⟩⟩⟩⟩⟩⟩⟩⟩⟩⟩⟩⟩⟩⟩⟩⟩⟩⟩⟩⟩⟩⟩⟩⟩⟩⟩⟩⟩⟩⟩⟩⟩
noncomputable def qget (n : Nat) (l : List (Nat × qH)) : Option qH := List.rec (motive := fun _ => Option qH) none (fun e _ ih => cond (Nat.beq e.1 n) (some e.2) ih) l
theorem qget_mem {n : Nat} {h : qH} : ∀ {l : List (Nat × qH)}, qget n l = some h → (n, h) ∈ l := by
  intro l
  induction l with
  | nil => intro e; cases e
  | cons x l ih =>
    intro e
    have e : cond (Nat.beq x.1 n) (some x.2) (qget n l) = some h := e
    cases hb : Nat.beq x.1 n with
    | false => rw [hb] at e; exact List.mem_cons_of_mem _ (ih e)
    | true =>
      rw [hb] at e
      have e1 := Nat.eq_of_beq_eq_true hb
      cases e
      rw [← e1]
      exact List.mem_cons_self
noncomputable def qdec1 (o : Option qH) (r : List UInt8) : Option (Instr × Nat) := match o with
  | none => none
  | some (.inl i) => some (i, 1)
  | some (.inr (.inl f)) => match r with
    | a :: _ => some (f a.toNat, 2)
    | [] => none
  | some (.inr (.inr (.inl f))) => match r with
    | a :: b :: _ => some (f a.toNat b.toNat, 3)
    | _ => none
  | some (.inr (.inr (.inr _))) => match r with
    | a :: b :: _ => some (.iinc a.toNat (Reader.signed 8 b.toNat), 3)
    | _ => none
noncomputable def qdec : List UInt8 → Option (Instr × Nat)
  | [] => none
  | b :: r => qdec1 (qget b.toNat qtab) r
theorem qat_of {code : ByteArray} {p k : Nat} {b : UInt8} {l r : List UInt8} (e : code.data.toList.drop p = l) (h : l[k]? = some b) : qat code (p + k) b.toNat := by
  refine ⟨b, ?_, rfl⟩
  rw [← e, List.getElem?_drop] at h
  exact h
theorem qdec_ok {code : ByteArray} {p : Nat} {l : List UInt8} {x : Instr × Nat} (e : code.data.toList.drop p = l) (h : qdec l = some x) : decode code p = .ok x := by
  cases l with
  | nil => cases h
  | cons b r =>
    have h0 : qat code p b.toNat := qat_of (k := 0) (r := r) e rfl
    have h : qdec1 (qget b.toNat qtab) r = some x := h
    cases hg : qget b.toNat qtab with
    | none => rw [hg] at h; cases h
    | some f =>
      have hm := qtab_ok _ (qget_mem hg)
      rw [hg] at h
      match f, hm, h with
      | .inl i, hm, h => cases h; exact hm code p h0
      | .inr (.inl f), hm, h =>
        cases r with
        | nil => cases h
        | cons a r =>
          cases h
          exact hm code p a.toNat h0 (qat_of (k := 1) (r := r) e rfl)
      | .inr (.inr (.inl f)), hm, h =>
        cases r with
        | nil => cases h
        | cons a r =>
          cases r with
          | nil => cases h
          | cons c r =>
            cases h
            exact hm code p a.toNat c.toNat h0 (qat_of (k := 1) (r := r) e rfl) (qat_of (k := 2) (r := r) e rfl)
      | .inr (.inr (.inr _)), hm, h =>
        cases r with
        | nil => cases h
        | cons a r =>
          cases r with
          | nil => cases h
          | cons c r =>
            cases h
            exact hm code p a.toNat c.toNat h0 (qat_of (k := 1) (r := r) e rfl) (qat_of (k := 2) (r := r) e rfl)
/-- by the quick reader, else by decode -/
noncomputable def qrd (code : ByteArray) (p : Nat) (l : List UInt8) : Option (Instr × Nat) := match qdec l with
  | some x => some x
  | none => match decode code p with
    | .ok x => some x
    | .error _ => none
theorem qrd_ok {code : ByteArray} {p : Nat} {l : List UInt8} {x : Instr × Nat} (e : code.data.toList.drop p = l) (h : qrd code p l = some x) : decode code p = .ok x := by
  unfold qrd at h
  cases hq : qdec l with
  | some y => rw [hq] at h; cases h; exact qdec_ok e hq
  | none =>
    rw [hq] at h
    cases hd : decode code p with
    | ok y => rw [hd] at h; cases h; rfl
    | error y => rw [hd] at h; cases h
noncomputable def xqc (Tc : List (List Jvm.Cond)) (Ms : List xM) (cl : List vw_C) (tys : List FieldType) (me : xM) : List xI → Nat → List UInt8 → Bool
  | [], _, _ => true
  | i :: cs, p, l => Nat.beq i.1 p && (match qrd me.2.1 p l with
    | some (ins, len) => (Nat.beq i.2.1 60 || xokI Tc Ms cl tys me p ins len i.2.1 i.2.2.1 i.2.2.2.1 i.2.2.2.2) && xqc Tc Ms cl tys me cs (p + len) (l.drop len)
    | none => false)
theorem xqc_of {Tc : List (List Jvm.Cond)} {Ms : List xM} {cl : List vw_C} {tys : List FieldType} {me : xM} : ∀ {c : List xI} {p : Nat} {l : List UInt8}, me.2.1.data.toList.drop p = l → xqc Tc Ms cl tys me c p l = true → xokc Tc Ms cl tys me c = true := by
  intro c
  induction c with
  | nil => intro p l e h; rfl
  | cons i c ih =>
    intro p l e h
    unfold xqc at h
    obtain ⟨h1, h2⟩ := Bool.and_eq_true_iff.mp h
    have h1 := Nat.eq_of_beq_eq_true h1
    subst h1
    cases hq : qrd me.2.1 i.1 l with
    | none => rw [hq] at h2; cases h2
    | some y =>
      obtain ⟨ins, len⟩ := y
      rw [hq] at h2
      obtain ⟨h3, h4⟩ := Bool.and_eq_true_iff.mp h2
      refine Bool.and_eq_true_iff.mpr ⟨?_, ih (by rw [← e, List.drop_drop]) h4⟩
      unfold xoke
      rw [qrd_ok e hq]
      refine Bool.and_eq_true_iff.mpr ⟨h3, ?_⟩
      cases c with
      | nil => rfl
      | cons j c =>
        unfold xqc at h4
        exact (Bool.and_eq_true_iff.mp h4).1
theorem xqc_ok {Tc : List (List Jvm.Cond)} {Ms : List xM} {cl : List vw_C} {tys : List FieldType} {me : xM} (h : xqc Tc Ms cl tys me (xcd me) 0 me.2.1.data.toList = true) : xokc Tc Ms cl tys me (xcd me) = true := xqc_of rfl h
/-- rows of decoded code -/
def qP (code : ByteArray) : Nat → List (Instr × Nat) → Prop
  | _, [] => True
  | p, [x] => decode code p = .ok x
  | p, x :: l => decode code p = .ok x ∧ qP code (p + x.2) l
noncomputable def qc (code : ByteArray) : Nat → List (Instr × Nat) → List UInt8 → Bool
  | _, [], _ => true
  | p, x :: r, l => (match qrd code p l with
    | some y => decide (y = x)
    | none => false) && qc code (p + x.2) r (l.drop x.2)
theorem qP_of {code : ByteArray} : ∀ {r : List (Instr × Nat)} {p : Nat} {l : List UInt8}, code.data.toList.drop p = l → qc code p r l = true → qP code p r := by
  intro r
  induction r with
  | nil => intro p l e h; trivial
  | cons x r ih =>
    intro p l e h
    obtain ⟨h1, h2⟩ := Bool.and_eq_true_iff.mp (show ((match qrd code p l with | some y => decide (y = x) | none => false) && qc code (p + x.2) r (l.drop x.2)) = true from h)
    have h3 : decode code p = .ok x := by
      cases hq : qrd code p l with
      | none => rw [hq] at h1; cases h1
      | some y => rw [hq] at h1; rw [← of_decide_eq_true h1]; exact qrd_ok e hq
    have h4 := ih (p := p + x.2) (l := l.drop x.2) (by rw [← e, List.drop_drop]) h2
    cases r with
    | nil => exact h3
    | cons y r => exact ⟨h3, h4⟩
theorem qP_ok {code : ByteArray} {r : List (Instr × Nat)} {p : Nat} (h : qc code p r (code.data.toList.drop p) = true) : qP code p r := qP_of rfl h
